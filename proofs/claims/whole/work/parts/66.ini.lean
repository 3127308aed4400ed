/-! printed by wip/whole/gen/g66.py: the constructors -/
theorem iw_0 : Cond.methodLink RX4 3 objectInit ∈ am_gt := am_gin (am_t1 (List.mem_of_getElem? (i := 29) (by decide +kernel))) rfl
theorem iw_1 : Cond.methodLink RX3 3 objectInit ∈ am_gt := am_gin (am_t1 (List.mem_of_getElem? (i := 94) (by decide +kernel))) rfl
theorem iw_2 : Cond.methodLink RX5 3 objectInit ∈ am_gt := am_gin (am_t1 (List.mem_of_getElem? (i := 80) (by decide +kernel))) rfl
theorem iw_3 : Cond.methodLink RX0 3 objectInit ∈ am_gt := am_gin (am_t1 (List.mem_of_getElem? (i := 151) (by decide +kernel))) rfl
theorem iw_4 : Cond.classLink RX0 9 yX4_init.cls ∈ am_gt := am_gin (am_t1 (List.mem_of_getElem? (i := 152) (by decide +kernel))) rfl
theorem iw_5 : Cond.instantiable yX4_init.cls 8 ∈ am_gt := am_gin (am_t1 (List.mem_of_getElem? (i := 25) (by decide +kernel))) rfl
theorem iw_6 : Cond.initialized yX4_init.cls ∈ am_gt := am_gin (am_t1 (List.mem_of_getElem? (i := 2) (by decide +kernel))) rfl
theorem iw_7 : Cond.instanceMethod yX4_init ∈ am_gt := am_gin (am_t1 (List.mem_of_getElem? (i := 27) (by decide +kernel))) rfl
theorem iw_8 : Cond.code yX4_init cX4_init 1 none ∈ am_gt := am_gin (am_t1 (List.mem_of_getElem? (i := 28) (by decide +kernel))) rfl
theorem iw_9 : Cond.classLink RX0 18 yX3_init.cls ∈ am_gt := am_gin (am_t1 (List.mem_of_getElem? (i := 154) (by decide +kernel))) rfl
theorem iw_10 : Cond.instantiable yX3_init.cls 14 ∈ am_gt := am_gin (am_t1 (List.mem_of_getElem? (i := 90) (by decide +kernel))) rfl
theorem iw_11 : Cond.initialized yX3_init.cls ∈ am_gt := am_gin (am_t1 (List.mem_of_getElem? (i := 4) (by decide +kernel))) rfl
theorem iw_12 : Cond.instanceMethod yX3_init ∈ am_gt := am_gin (am_t1 (List.mem_of_getElem? (i := 92) (by decide +kernel))) rfl
theorem iw_13 : Cond.code yX3_init cX3_init 1 none ∈ am_gt := am_gin (am_t1 (List.mem_of_getElem? (i := 93) (by decide +kernel))) rfl
theorem iw_14 : Cond.methodLink RX1 3 objectInit ∈ am_gt := am_gin (am_t1 (List.mem_of_getElem? (i := 168) (by decide +kernel))) rfl
theorem iw_15 : Cond.classLink RX1 9 yX4_init.cls ∈ am_gt := am_gin (am_t1 (List.mem_of_getElem? (i := 169) (by decide +kernel))) rfl
theorem iw_16 : Cond.classLink RX1 18 yX3_init.cls ∈ am_gt := am_gin (am_t1 (List.mem_of_getElem? (i := 171) (by decide +kernel))) rfl
theorem iw_17 : Cond.methodLink RX6 1 objectInit ∈ am_gt := am_gin (am_t1 (List.mem_of_getElem? (i := 21) (by decide +kernel))) rfl
theorem iw_18 : Cond.classLink RX6 7 yX4_init.cls ∈ am_gt := am_gin (am_t1 (List.mem_of_getElem? (i := 24) (by decide +kernel))) rfl
theorem iw_19 : Cond.classLink RX6 23 yX5_init.cls ∈ am_gt := am_gin (am_t1 (List.mem_of_getElem? (i := 75) (by decide +kernel))) rfl
theorem iw_20 : Cond.instantiable yX5_init.cls 2 ∈ am_gt := am_gin (am_t1 (List.mem_of_getElem? (i := 76) (by decide +kernel))) rfl
theorem iw_21 : Cond.initialized yX5_init.cls ∈ am_gt := am_gin (am_t1 (List.mem_of_getElem? (i := 3) (by decide +kernel))) rfl
theorem iw_22 : Cond.instanceMethod yX5_init ∈ am_gt := am_gin (am_t1 (List.mem_of_getElem? (i := 78) (by decide +kernel))) rfl
theorem iw_23 : Cond.code yX5_init cX5_init 1 none ∈ am_gt := am_gin (am_t1 (List.mem_of_getElem? (i := 79) (by decide +kernel))) rfl
theorem iw_24 : Cond.classLink RX6 44 yX3_init.cls ∈ am_gt := am_gin (am_t1 (List.mem_of_getElem? (i := 89) (by decide +kernel))) rfl
theorem iw_25 : Cond.classLink RX6 51 yX0_init.cls ∈ am_gt := am_gin (am_t1 (List.mem_of_getElem? (i := 146) (by decide +kernel))) rfl
theorem iw_26 : Cond.instantiable yX0_init.cls 2 ∈ am_gt := am_gin (am_t1 (List.mem_of_getElem? (i := 147) (by decide +kernel))) rfl
theorem iw_27 : Cond.initialized yX0_init.cls ∈ am_gt := am_gin (am_t1 (List.mem_of_getElem? (i := 5) (by decide +kernel))) rfl
theorem iw_28 : Cond.instanceMethod yX0_init ∈ am_gt := am_gin (am_t1 (List.mem_of_getElem? (i := 149) (by decide +kernel))) rfl
theorem iw_29 : Cond.code yX0_init cX0_init 1 none ∈ am_gt := am_gin (am_t1 (List.mem_of_getElem? (i := 150) (by decide +kernel))) rfl
theorem iw_30 : Cond.classLink RX6 58 yX1_init.cls ∈ am_gt := am_gin (am_t1 (List.mem_of_getElem? (i := 163) (by decide +kernel))) rfl
theorem iw_31 : Cond.instantiable yX1_init.cls 5 ∈ am_gt := am_gin (am_t1 (List.mem_of_getElem? (i := 164) (by decide +kernel))) rfl
theorem iw_32 : Cond.initialized yX1_init.cls ∈ am_gt := am_gin (am_t1 (List.mem_of_getElem? (i := 6) (by decide +kernel))) rfl
theorem iw_33 : Cond.instanceMethod yX1_init ∈ am_gt := am_gin (am_t1 (List.mem_of_getElem? (i := 166) (by decide +kernel))) rfl
theorem iw_34 : Cond.code yX1_init cX1_init 1 none ∈ am_gt := am_gin (am_t1 (List.mem_of_getElem? (i := 167) (by decide +kernel))) rfl
theorem iw_35 : Cond.methodLink RX7 1 objectInit ∈ am_gt := am_gin (am_t4 (List.mem_of_getElem? (i := 10) (by decide +kernel))) rfl
theorem il_0 : Cond.classLink RL 7 yX6_init.cls ∈ am_gt := am_gin (am_t1 (List.mem_of_getElem? (i := 16) (by decide +kernel))) rfl
theorem il_1 : Cond.instantiable yX6_init.cls 11 ∈ am_gt := am_gin (am_t1 (List.mem_of_getElem? (i := 17) (by decide +kernel))) rfl
theorem il_2 : Cond.initialized yX6_init.cls ∈ am_gt := am_gin (am_t1 (List.mem_of_getElem? (i := 1) (by decide +kernel))) rfl
theorem il_3 : Cond.methodLink RL 9 yX6_init ∈ am_gt := am_gin (am_t1 (List.mem_of_getElem? (i := 18) (by decide +kernel))) rfl
theorem il_4 : Cond.instanceMethod yX6_init ∈ am_gt := am_gin (am_t1 (List.mem_of_getElem? (i := 19) (by decide +kernel))) rfl
theorem il_5 : Cond.code yX6_init cX6_init 1 none ∈ am_gt := am_gin (am_t1 (List.mem_of_getElem? (i := 20) (by decide +kernel))) rfl
theorem il_6 : Cond.classLink RL 10 yX7_init.cls ∈ am_gt := am_gin (am_t4 (List.mem_of_getElem? (i := 5) (by decide +kernel))) rfl
theorem il_7 : Cond.instantiable yX7_init.cls 27 ∈ am_gt := am_gin (am_t4 (List.mem_of_getElem? (i := 6) (by decide +kernel))) rfl
theorem il_8 : Cond.initialized yX7_init.cls ∈ am_gt := am_gin (am_t1 (List.mem_of_getElem? (i := 7) (by decide +kernel))) rfl
theorem il_9 : Cond.methodLink RL 12 yX7_init ∈ am_gt := am_gin (am_t4 (List.mem_of_getElem? (i := 7) (by decide +kernel))) rfl
theorem il_10 : Cond.instanceMethod yX7_init ∈ am_gt := am_gin (am_t4 (List.mem_of_getElem? (i := 8) (by decide +kernel))) rfl
theorem il_11 : Cond.code yX7_init cX7_init 1 none ∈ am_gt := am_gin (am_t4 (List.mem_of_getElem? (i := 9) (by decide +kernel))) rfl
theorem iv_X0 : Cond.instantiable RX0 2 ∈ am_gt := am_gin (am_t1 (List.mem_of_getElem? (i := 147) (by decide +kernel))) rfl
theorem iv_X1 : Cond.instantiable RX1 5 ∈ am_gt := am_gin (am_t1 (List.mem_of_getElem? (i := 164) (by decide +kernel))) rfl
theorem iv_X3 : Cond.instantiable RX3 14 ∈ am_gt := am_gin (am_t1 (List.mem_of_getElem? (i := 90) (by decide +kernel))) rfl
theorem iv_X4 : Cond.instantiable RX4 8 ∈ am_gt := am_gin (am_t1 (List.mem_of_getElem? (i := 25) (by decide +kernel))) rfl
theorem iv_X5 : Cond.instantiable RX5 2 ∈ am_gt := am_gin (am_t1 (List.mem_of_getElem? (i := 76) (by decide +kernel))) rfl
theorem iv_X6 : Cond.instantiable RX6 11 ∈ am_gt := am_gin (am_t1 (List.mem_of_getElem? (i := 17) (by decide +kernel))) rfl
theorem iv_X7 : Cond.instantiable RX7 27 ∈ am_gt := am_gin (am_t4 (List.mem_of_getElem? (i := 6) (by decide +kernel))) rfl
theorem fd_X4 : ∀ j, j < 8 → defaultValue (tyX4 j) = vp_V [.int 0, .int 0, .int 0, .null, .null, .null, .null, .null] j := (fun j hj => match j, hj with
    | 0, _ => rfl
    | 1, _ => rfl
    | 2, _ => rfl
    | 3, _ => rfl
    | 4, _ => rfl
    | 5, _ => rfl
    | 6, _ => rfl
    | 7, _ => rfl
    | k + 8, h => absurd h (by omega))
theorem fd_X3 : ∀ j, j < 14 → defaultValue (tyX3 j) = vp_V [.null, .null, .null, .int 0, .int 0, .null, .null, .int 0, .int 0, .int 0, .int 0, .int 0, .int 0, .int 0] j := (fun j hj => match j, hj with
    | 0, _ => rfl
    | 1, _ => rfl
    | 2, _ => rfl
    | 3, _ => rfl
    | 4, _ => rfl
    | 5, _ => rfl
    | 6, _ => rfl
    | 7, _ => rfl
    | 8, _ => rfl
    | 9, _ => rfl
    | 10, _ => rfl
    | 11, _ => rfl
    | 12, _ => rfl
    | 13, _ => rfl
    | k + 14, h => absurd h (by omega))
theorem fd_X5 : ∀ j, j < 2 → defaultValue (tyX5 j) = vp_V [.int 0, .null] j := (fun j hj => match j, hj with
    | 0, _ => rfl
    | 1, _ => rfl
    | k + 2, h => absurd h (by omega))
theorem fd_X0 : ∀ j, j < 2 → defaultValue (tyX0 j) = vp_V [.null, .null] j := (fun j hj => match j, hj with
    | 0, _ => rfl
    | 1, _ => rfl
    | k + 2, h => absurd h (by omega))
theorem fd_X1 : ∀ j, j < 5 → defaultValue (tyX1 j) = vp_V [.null, .null, .null, .null, .int 0] j := (fun j hj => match j, hj with
    | 0, _ => rfl
    | 1, _ => rfl
    | 2, _ => rfl
    | 3, _ => rfl
    | 4, _ => rfl
    | k + 5, h => absurd h (by omega))
theorem fd_X6 : ∀ j, j < 11 → defaultValue (tyX6 j) = vp_V [.null, .null, .int 0, .null, .null, .int 0, .null, .null, .null, .null, .null] j := (fun j hj => match j, hj with
    | 0, _ => rfl
    | 1, _ => rfl
    | 2, _ => rfl
    | 3, _ => rfl
    | 4, _ => rfl
    | 5, _ => rfl
    | 6, _ => rfl
    | 7, _ => rfl
    | 8, _ => rfl
    | 9, _ => rfl
    | 10, _ => rfl
    | k + 11, h => absurd h (by omega))
theorem fd_X7 : ∀ j, j < 27 → defaultValue (tyX7 j) = vp_V [.int 0, .null, .null, .null, .null, .null, .int 0, .int 0, .int 0, .null, .int 0, .null, .int 0, .null, .null, .int 0, .null, .null, .null, .int 0, .null, .null, .null, .int 0, .int 0, .int 0, .int 0] j := (fun j hj => match j, hj with
    | 0, _ => rfl
    | 1, _ => rfl
    | 2, _ => rfl
    | 3, _ => rfl
    | 4, _ => rfl
    | 5, _ => rfl
    | 6, _ => rfl
    | 7, _ => rfl
    | 8, _ => rfl
    | 9, _ => rfl
    | 10, _ => rfl
    | 11, _ => rfl
    | 12, _ => rfl
    | 13, _ => rfl
    | 14, _ => rfl
    | 15, _ => rfl
    | 16, _ => rfl
    | 17, _ => rfl
    | 18, _ => rfl
    | 19, _ => rfl
    | 20, _ => rfl
    | 21, _ => rfl
    | 22, _ => rfl
    | 23, _ => rfl
    | 24, _ => rfl
    | 25, _ => rfl
    | 26, _ => rfl
    | k + 27, h => absurd h (by omega))
abbrev sh_iX4 : am_S := [.inr (3, [.inl 0, .inl 1, .inl 2, .inr 1, .inr 2, .inr 3, .inr 4, .inr 5]), .inl 9, .inl 9, .inl 9, .inl 9, .inl 9]
abbrev D_iX4 : am_D := [.inl [0, 0, 1], .inr (fun _ => 0), .inr (fun _ => 0), .inr (fun _ => 0), .inr (fun _ => 0), .inr (fun _ => 0)]
set_option maxRecDepth 100000 in
set_option maxHeartbeats 4000000 in
theorem IB_X4 (X : iz_X) (lc : Array Slot) (h0 : Nat) (O : iz_ok X RX4 cX4_init 1 1 12 5 45) (hin : iz_in X) (hsz : lc.size = 1) (hl : lc[0]? = some (.val (.ref h0))) (hret : ∀ ad : Nat → Nat, ad 0 = h0 → iz_aw X lc (am_w (iz_cA X) ad 0 sh_iX4 D_iX4) 5 45 59 []) : iz_aw X lc [(h0, .inr (3, [.int 0, .int 0, .int 0, .null, .null, .null, .null, .null]))] 0 0 0 [] := by
  refine iz_aload O dX4_init_0 rfl hl (q := 1) rfl ?_
  refine iz_obj O (by decide) (by decide) iw_0 dX4_init_1 hsz (q := 4) rfl ?_
  refine iz_aload O dX4_init_4 rfl hl (q := 5) rfl ?_
  refine iz_iconst O dX4_init_5 (v := 0) (by decide) (q := 6) rfl ?_
  refine iz_put O hin dX4_init_6 fe_X4_9 rfl (Or.inl rfl) (tyX4_ok 0 (by decide)) rfl rfl (Nat.le_of_ble_eq_true rfl) (fs' := [.int 0, .int 0, .int 0, .null, .null, .null, .null, .null]) rfl (q := 9) rfl ?_
  refine iz_aload O dX4_init_9 rfl hl (q := 10) rfl ?_
  refine iz_iconst O dX4_init_10 (v := 0) (by decide) (q := 11) rfl ?_
  refine iz_put O hin dX4_init_11 fe_X4_15 rfl (Or.inl rfl) (tyX4_ok 1 (by decide)) rfl rfl (Nat.le_of_ble_eq_true rfl) (fs' := [.int 0, .int 0, .int 0, .null, .null, .null, .null, .null]) rfl (q := 14) rfl ?_
  refine iz_aload O dX4_init_14 rfl hl (q := 15) rfl ?_
  refine iz_iconst O dX4_init_15 (v := 1) (by decide) (q := 16) rfl ?_
  refine iz_put O hin dX4_init_16 fe_X4_18 rfl (Or.inl rfl) (tyX4_ok 2 (by decide)) rfl rfl (Nat.le_of_ble_eq_true rfl) (fs' := [.int 0, .int 0, .int 1, .null, .null, .null, .null, .null]) rfl (q := 19) rfl ?_
  refine iz_aload O dX4_init_19 rfl hl (q := 20) rfl ?_
  refine iz_bipush O dX4_init_20 (v := 9) (by decide) (q := 22) rfl ?_
  refine iz_newa O dX4_init_22 (N := 9) (ce' := 1) (sl' := 9) (by decide) (by decide) (by decide) rfl rfl (by decide) (Nat.le_of_ble_eq_true rfl) (q := 24) rfl (fun z22 => ?_)
  refine iz_put O hin dX4_init_24 fe_X4_21 rfl (Or.inr ⟨rfl, rfl⟩) (tyX4_ok 3 (by decide)) rfl rfl (Nat.le_of_ble_eq_true rfl) (fs' := [.int 0, .int 0, .int 1, .ref z22, .null, .null, .null, .null]) rfl (q := 27) rfl ?_
  refine iz_aload O dX4_init_27 rfl hl (q := 28) rfl ?_
  refine iz_bipush O dX4_init_28 (v := 9) (by decide) (q := 30) rfl ?_
  refine iz_newa O dX4_init_30 (N := 9) (ce' := 2) (sl' := 18) (by decide) (by decide) (by decide) rfl rfl (by decide) (Nat.le_of_ble_eq_true rfl) (q := 32) rfl (fun z30 => ?_)
  refine iz_put O hin dX4_init_32 fe_X4_25 rfl (Or.inr ⟨rfl, rfl⟩) (tyX4_ok 4 (by decide)) rfl rfl (Nat.le_of_ble_eq_true rfl) (fs' := [.int 0, .int 0, .int 1, .ref z22, .ref z30, .null, .null, .null]) rfl (q := 35) rfl ?_
  refine iz_aload O dX4_init_35 rfl hl (q := 36) rfl ?_
  refine iz_bipush O dX4_init_36 (v := 9) (by decide) (q := 38) rfl ?_
  refine iz_newa O dX4_init_38 (N := 9) (ce' := 3) (sl' := 27) (by decide) (by decide) (by decide) rfl rfl (by decide) (Nat.le_of_ble_eq_true rfl) (q := 40) rfl (fun z38 => ?_)
  refine iz_put O hin dX4_init_40 fe_X4_28 rfl (Or.inr ⟨rfl, rfl⟩) (tyX4_ok 5 (by decide)) rfl rfl (Nat.le_of_ble_eq_true rfl) (fs' := [.int 0, .int 0, .int 1, .ref z22, .ref z30, .ref z38, .null, .null]) rfl (q := 43) rfl ?_
  refine iz_aload O dX4_init_43 rfl hl (q := 44) rfl ?_
  refine iz_bipush O dX4_init_44 (v := 9) (by decide) (q := 46) rfl ?_
  refine iz_newa O dX4_init_46 (N := 9) (ce' := 4) (sl' := 36) (by decide) (by decide) (by decide) rfl rfl (by decide) (Nat.le_of_ble_eq_true rfl) (q := 48) rfl (fun z46 => ?_)
  refine iz_put O hin dX4_init_48 fe_X4_31 rfl (Or.inr ⟨rfl, rfl⟩) (tyX4_ok 6 (by decide)) rfl rfl (Nat.le_of_ble_eq_true rfl) (fs' := [.int 0, .int 0, .int 1, .ref z22, .ref z30, .ref z38, .ref z46, .null]) rfl (q := 51) rfl ?_
  refine iz_aload O dX4_init_51 rfl hl (q := 52) rfl ?_
  refine iz_bipush O dX4_init_52 (v := 9) (by decide) (q := 54) rfl ?_
  refine iz_newa O dX4_init_54 (N := 9) (ce' := 5) (sl' := 45) (by decide) (by decide) (by decide) rfl rfl (by decide) (Nat.le_of_ble_eq_true rfl) (q := 56) rfl (fun z54 => ?_)
  refine iz_put O hin dX4_init_56 fe_X4_34 rfl (Or.inr ⟨rfl, rfl⟩) (tyX4_ok 7 (by decide)) rfl rfl (Nat.le_of_ble_eq_true rfl) (fs' := [.int 0, .int 0, .int 1, .ref z22, .ref z30, .ref z38, .ref z46, .ref z54]) rfl (q := 59) rfl ?_
  exact iz_ws (ws' := am_w (iz_cA X) (fun i => if i < 1 then h0 else if i < 2 then z22 else if i < 3 then z30 else if i < 4 then z38 else if i < 5 then z46 else if i < 6 then z54 else 0) 0 sh_iX4 D_iX4) rfl (hret (fun i => if i < 1 then h0 else if i < 2 then z22 else if i < 3 then z30 else if i < 4 then z38 else if i < 5 then z46 else if i < 6 then z54 else 0) rfl)
theorem IC_X4 : iz_ctr yX4_init cX4_init 1 12 5 45 3 [.int 0, .int 0, .int 0, .null, .null, .null, .null, .null] sh_iX4 D_iX4 := iz_mk (by decide) rfl dX4_init_59 IB_X4
abbrev sh_iX3 : am_S := [.inr (2, [.inr 1, .inr 2, .inr 3, .inl 0, .inl 1, .inr 4, .inr 5, .inl 2, .inl 3, .inl 4, .inl 5, .inl 6, .inl 7, .inl 8]), .inl 9, .inl 9, .inl 9, .inl 9, .inl 9]
abbrev D_iX3 : am_D := [.inl [0, 0, 0, 0, 0, 0, 0, -1, 0], .inr (fun _ => 0), .inr (fun _ => 0), .inr (fun _ => 0), .inr (fun _ => 0), .inr (fun _ => 0)]
set_option maxRecDepth 100000 in
set_option maxHeartbeats 4000000 in
theorem IB_X3 (X : iz_X) (lc : Array Slot) (h0 : Nat) (O : iz_ok X RX3 cX3_init 1 1 12 5 45) (hin : iz_in X) (hsz : lc.size = 1) (hl : lc[0]? = some (.val (.ref h0))) (hret : ∀ ad : Nat → Nat, ad 0 = h0 → iz_aw X lc (am_w (iz_cA X) ad 0 sh_iX3 D_iX3) 5 45 89 []) : iz_aw X lc [(h0, .inr (2, [.null, .null, .null, .int 0, .int 0, .null, .null, .int 0, .int 0, .int 0, .int 0, .int 0, .int 0, .int 0]))] 0 0 0 [] := by
  refine iz_aload O dX3_init_0 rfl hl (q := 1) rfl ?_
  refine iz_obj O (by decide) (by decide) iw_1 dX3_init_1 hsz (q := 4) rfl ?_
  refine iz_aload O dX3_init_4 rfl hl (q := 5) rfl ?_
  refine iz_bipush O dX3_init_5 (v := 9) (by decide) (q := 7) rfl ?_
  refine iz_newa O dX3_init_7 (N := 9) (ce' := 1) (sl' := 9) (by decide) (by decide) (by decide) rfl rfl (by decide) (Nat.le_of_ble_eq_true rfl) (q := 9) rfl (fun z7 => ?_)
  refine iz_put O hin dX3_init_9 fe_X3_9 rfl (Or.inr ⟨rfl, rfl⟩) (tyX3_ok 0 (by decide)) rfl rfl (Nat.le_of_ble_eq_true rfl) (fs' := [.ref z7, .null, .null, .int 0, .int 0, .null, .null, .int 0, .int 0, .int 0, .int 0, .int 0, .int 0, .int 0]) rfl (q := 12) rfl ?_
  refine iz_aload O dX3_init_12 rfl hl (q := 13) rfl ?_
  refine iz_bipush O dX3_init_13 (v := 9) (by decide) (q := 15) rfl ?_
  refine iz_newa O dX3_init_15 (N := 9) (ce' := 2) (sl' := 18) (by decide) (by decide) (by decide) rfl rfl (by decide) (Nat.le_of_ble_eq_true rfl) (q := 17) rfl (fun z15 => ?_)
  refine iz_put O hin dX3_init_17 fe_X3_15 rfl (Or.inr ⟨rfl, rfl⟩) (tyX3_ok 1 (by decide)) rfl rfl (Nat.le_of_ble_eq_true rfl) (fs' := [.ref z7, .ref z15, .null, .int 0, .int 0, .null, .null, .int 0, .int 0, .int 0, .int 0, .int 0, .int 0, .int 0]) rfl (q := 20) rfl ?_
  refine iz_aload O dX3_init_20 rfl hl (q := 21) rfl ?_
  refine iz_bipush O dX3_init_21 (v := 9) (by decide) (q := 23) rfl ?_
  refine iz_newa O dX3_init_23 (N := 9) (ce' := 3) (sl' := 27) (by decide) (by decide) (by decide) rfl rfl (by decide) (Nat.le_of_ble_eq_true rfl) (q := 25) rfl (fun z23 => ?_)
  refine iz_put O hin dX3_init_25 fe_X3_18 rfl (Or.inr ⟨rfl, rfl⟩) (tyX3_ok 2 (by decide)) rfl rfl (Nat.le_of_ble_eq_true rfl) (fs' := [.ref z7, .ref z15, .ref z23, .int 0, .int 0, .null, .null, .int 0, .int 0, .int 0, .int 0, .int 0, .int 0, .int 0]) rfl (q := 28) rfl ?_
  refine iz_aload O dX3_init_28 rfl hl (q := 29) rfl ?_
  refine iz_iconst O dX3_init_29 (v := 0) (by decide) (q := 30) rfl ?_
  refine iz_put O hin dX3_init_30 fe_X3_21 rfl (Or.inl rfl) (tyX3_ok 3 (by decide)) rfl rfl (Nat.le_of_ble_eq_true rfl) (fs' := [.ref z7, .ref z15, .ref z23, .int 0, .int 0, .null, .null, .int 0, .int 0, .int 0, .int 0, .int 0, .int 0, .int 0]) rfl (q := 33) rfl ?_
  refine iz_aload O dX3_init_33 rfl hl (q := 34) rfl ?_
  refine iz_iconst O dX3_init_34 (v := 0) (by decide) (q := 35) rfl ?_
  refine iz_put O hin dX3_init_35 fe_X3_25 rfl (Or.inl rfl) (tyX3_ok 4 (by decide)) rfl rfl (Nat.le_of_ble_eq_true rfl) (fs' := [.ref z7, .ref z15, .ref z23, .int 0, .int 0, .null, .null, .int 0, .int 0, .int 0, .int 0, .int 0, .int 0, .int 0]) rfl (q := 38) rfl ?_
  refine iz_aload O dX3_init_38 rfl hl (q := 39) rfl ?_
  refine iz_bipush O dX3_init_39 (v := 9) (by decide) (q := 41) rfl ?_
  refine iz_newa O dX3_init_41 (N := 9) (ce' := 4) (sl' := 36) (by decide) (by decide) (by decide) rfl rfl (by decide) (Nat.le_of_ble_eq_true rfl) (q := 43) rfl (fun z41 => ?_)
  refine iz_put O hin dX3_init_43 fe_X3_28 rfl (Or.inr ⟨rfl, rfl⟩) (tyX3_ok 5 (by decide)) rfl rfl (Nat.le_of_ble_eq_true rfl) (fs' := [.ref z7, .ref z15, .ref z23, .int 0, .int 0, .ref z41, .null, .int 0, .int 0, .int 0, .int 0, .int 0, .int 0, .int 0]) rfl (q := 46) rfl ?_
  refine iz_aload O dX3_init_46 rfl hl (q := 47) rfl ?_
  refine iz_bipush O dX3_init_47 (v := 9) (by decide) (q := 49) rfl ?_
  refine iz_newa O dX3_init_49 (N := 9) (ce' := 5) (sl' := 45) (by decide) (by decide) (by decide) rfl rfl (by decide) (Nat.le_of_ble_eq_true rfl) (q := 51) rfl (fun z49 => ?_)
  refine iz_put O hin dX3_init_51 fe_X3_31 rfl (Or.inr ⟨rfl, rfl⟩) (tyX3_ok 6 (by decide)) rfl rfl (Nat.le_of_ble_eq_true rfl) (fs' := [.ref z7, .ref z15, .ref z23, .int 0, .int 0, .ref z41, .ref z49, .int 0, .int 0, .int 0, .int 0, .int 0, .int 0, .int 0]) rfl (q := 54) rfl ?_
  refine iz_aload O dX3_init_54 rfl hl (q := 55) rfl ?_
  refine iz_iconst O dX3_init_55 (v := 0) (by decide) (q := 56) rfl ?_
  refine iz_put O hin dX3_init_56 fe_X3_34 rfl (Or.inl rfl) (tyX3_ok 7 (by decide)) rfl rfl (Nat.le_of_ble_eq_true rfl) (fs' := [.ref z7, .ref z15, .ref z23, .int 0, .int 0, .ref z41, .ref z49, .int 0, .int 0, .int 0, .int 0, .int 0, .int 0, .int 0]) rfl (q := 59) rfl ?_
  refine iz_aload O dX3_init_59 rfl hl (q := 60) rfl ?_
  refine iz_iconst O dX3_init_60 (v := 0) (by decide) (q := 61) rfl ?_
  refine iz_put O hin dX3_init_61 fe_X3_37 rfl (Or.inl rfl) (tyX3_ok 8 (by decide)) rfl rfl (Nat.le_of_ble_eq_true rfl) (fs' := [.ref z7, .ref z15, .ref z23, .int 0, .int 0, .ref z41, .ref z49, .int 0, .int 0, .int 0, .int 0, .int 0, .int 0, .int 0]) rfl (q := 64) rfl ?_
  refine iz_aload O dX3_init_64 rfl hl (q := 65) rfl ?_
  refine iz_iconst O dX3_init_65 (v := 0) (by decide) (q := 66) rfl ?_
  refine iz_put O hin dX3_init_66 fe_X3_40 rfl (Or.inl rfl) (tyX3_ok 9 (by decide)) rfl rfl (Nat.le_of_ble_eq_true rfl) (fs' := [.ref z7, .ref z15, .ref z23, .int 0, .int 0, .ref z41, .ref z49, .int 0, .int 0, .int 0, .int 0, .int 0, .int 0, .int 0]) rfl (q := 69) rfl ?_
  refine iz_aload O dX3_init_69 rfl hl (q := 70) rfl ?_
  refine iz_iconst O dX3_init_70 (v := 0) (by decide) (q := 71) rfl ?_
  refine iz_put O hin dX3_init_71 fe_X3_43 rfl (Or.inl rfl) (tyX3_ok 10 (by decide)) rfl rfl (Nat.le_of_ble_eq_true rfl) (fs' := [.ref z7, .ref z15, .ref z23, .int 0, .int 0, .ref z41, .ref z49, .int 0, .int 0, .int 0, .int 0, .int 0, .int 0, .int 0]) rfl (q := 74) rfl ?_
  refine iz_aload O dX3_init_74 rfl hl (q := 75) rfl ?_
  refine iz_iconst O dX3_init_75 (v := 0) (by decide) (q := 76) rfl ?_
  refine iz_put O hin dX3_init_76 fe_X3_46 rfl (Or.inl rfl) (tyX3_ok 11 (by decide)) rfl rfl (Nat.le_of_ble_eq_true rfl) (fs' := [.ref z7, .ref z15, .ref z23, .int 0, .int 0, .ref z41, .ref z49, .int 0, .int 0, .int 0, .int 0, .int 0, .int 0, .int 0]) rfl (q := 79) rfl ?_
  refine iz_aload O dX3_init_79 rfl hl (q := 80) rfl ?_
  refine iz_iconst O dX3_init_80 (v := (-1)) (by decide) (q := 81) rfl ?_
  refine iz_put O hin dX3_init_81 fe_X3_49 rfl (Or.inl rfl) (tyX3_ok 12 (by decide)) rfl rfl (Nat.le_of_ble_eq_true rfl) (fs' := [.ref z7, .ref z15, .ref z23, .int 0, .int 0, .ref z41, .ref z49, .int 0, .int 0, .int 0, .int 0, .int 0, .int (-1), .int 0]) rfl (q := 84) rfl ?_
  refine iz_aload O dX3_init_84 rfl hl (q := 85) rfl ?_
  refine iz_iconst O dX3_init_85 (v := 0) (by decide) (q := 86) rfl ?_
  refine iz_put O hin dX3_init_86 fe_X3_52 rfl (Or.inl rfl) (tyX3_ok 13 (by decide)) rfl rfl (Nat.le_of_ble_eq_true rfl) (fs' := [.ref z7, .ref z15, .ref z23, .int 0, .int 0, .ref z41, .ref z49, .int 0, .int 0, .int 0, .int 0, .int 0, .int (-1), .int 0]) rfl (q := 89) rfl ?_
  exact iz_ws (ws' := am_w (iz_cA X) (fun i => if i < 1 then h0 else if i < 2 then z7 else if i < 3 then z15 else if i < 4 then z23 else if i < 5 then z41 else if i < 6 then z49 else 0) 0 sh_iX3 D_iX3) rfl (hret (fun i => if i < 1 then h0 else if i < 2 then z7 else if i < 3 then z15 else if i < 4 then z23 else if i < 5 then z41 else if i < 6 then z49 else 0) rfl)
theorem IC_X3 : iz_ctr yX3_init cX3_init 1 12 5 45 2 [.null, .null, .null, .int 0, .int 0, .null, .null, .int 0, .int 0, .int 0, .int 0, .int 0, .int 0, .int 0] sh_iX3 D_iX3 := iz_mk (by decide) rfl dX3_init_89 IB_X3
abbrev sh_iX5 : am_S := [.inr (4, [.inl 0, .inr 1]), .inl 96]
abbrev D_iX5 : am_D := [.inl [0], .inr (fun _ => 0)]
set_option maxRecDepth 100000 in
set_option maxHeartbeats 4000000 in
theorem IB_X5 (X : iz_X) (lc : Array Slot) (h0 : Nat) (O : iz_ok X RX5 cX5_init 1 1 12 1 96) (hin : iz_in X) (hsz : lc.size = 1) (hl : lc[0]? = some (.val (.ref h0))) (hret : ∀ ad : Nat → Nat, ad 0 = h0 → iz_aw X lc (am_w (iz_cA X) ad 0 sh_iX5 D_iX5) 1 96 17 []) : iz_aw X lc [(h0, .inr (4, [.int 0, .null]))] 0 0 0 [] := by
  refine iz_aload O dX5_init_0 rfl hl (q := 1) rfl ?_
  refine iz_obj O (by decide) (by decide) iw_2 dX5_init_1 hsz (q := 4) rfl ?_
  refine iz_aload O dX5_init_4 rfl hl (q := 5) rfl ?_
  refine iz_iconst O dX5_init_5 (v := 0) (by decide) (q := 6) rfl ?_
  refine iz_put O hin dX5_init_6 fe_X5_9 rfl (Or.inl rfl) (tyX5_ok 0 (by decide)) rfl rfl (Nat.le_of_ble_eq_true rfl) (fs' := [.int 0, .null]) rfl (q := 9) rfl ?_
  refine iz_aload O dX5_init_9 rfl hl (q := 10) rfl ?_
  refine iz_bipush O dX5_init_10 (v := 96) (by decide) (q := 12) rfl ?_
  refine iz_newa O dX5_init_12 (N := 96) (ce' := 1) (sl' := 96) (by decide) (by decide) (by decide) rfl rfl (by decide) (Nat.le_of_ble_eq_true rfl) (q := 14) rfl (fun z12 => ?_)
  refine iz_put O hin dX5_init_14 fe_X5_15 rfl (Or.inr ⟨rfl, rfl⟩) (tyX5_ok 1 (by decide)) rfl rfl (Nat.le_of_ble_eq_true rfl) (fs' := [.int 0, .ref z12]) rfl (q := 17) rfl ?_
  exact iz_ws (ws' := am_w (iz_cA X) (fun i => if i < 1 then h0 else if i < 2 then z12 else 0) 0 sh_iX5 D_iX5) rfl (hret (fun i => if i < 1 then h0 else if i < 2 then z12 else 0) rfl)
theorem IC_X5 : iz_ctr yX5_init cX5_init 1 12 1 96 4 [.int 0, .null] sh_iX5 D_iX5 := iz_mk (by decide) rfl dX5_init_17 IB_X5
abbrev sh_iX0 : am_S := [.inr (0, [.inr 1, .inr 7]), .inr (3, [.inl 0, .inl 1, .inl 2, .inr 2, .inr 3, .inr 4, .inr 5, .inr 6]), .inl 9, .inl 9, .inl 9, .inl 9, .inl 9, .inr (2, [.inr 8, .inr 9, .inr 10, .inl 0, .inl 1, .inr 11, .inr 12, .inl 2, .inl 3, .inl 4, .inl 5, .inl 6, .inl 7, .inl 8]), .inl 9, .inl 9, .inl 9, .inl 9, .inl 9]
abbrev D_iX0 : am_D := [.inl [], .inl [0, 0, 1], .inr (fun _ => 0), .inr (fun _ => 0), .inr (fun _ => 0), .inr (fun _ => 0), .inr (fun _ => 0), .inl [0, 0, 0, 0, 0, 0, 0, -1, 0], .inr (fun _ => 0), .inr (fun _ => 0), .inr (fun _ => 0), .inr (fun _ => 0), .inr (fun _ => 0)]
set_option maxRecDepth 100000 in
set_option maxHeartbeats 4000000 in
theorem IB_X0 (X : iz_X) (lc : Array Slot) (h0 : Nat) (O : iz_ok X RX0 cX0_init 1 2 32 12 112) (hin : iz_in X) (hsz : lc.size = 1) (hl : lc[0]? = some (.val (.ref h0))) (hret : ∀ ad : Nat → Nat, ad 0 = h0 → iz_aw X lc (am_w (iz_cA X) ad 0 sh_iX0 D_iX0) 12 112 26 []) : iz_aw X lc [(h0, .inr (0, [.null, .null]))] 0 0 0 [] := by
  refine iz_aload O dX0_init_0 rfl hl (q := 1) rfl ?_
  refine iz_obj O (by decide) (by decide) iw_3 dX0_init_1 hsz (q := 4) rfl ?_
  refine iz_aload O dX0_init_4 rfl hl (q := 5) rfl ?_
  refine iz_make O IC_X4 (ci := 3) (F := TX4) (N := 8) rfl am_inw_X4 iw_4 iw_5 iw_6 (Or.inr (by decide +kernel)) iw_7 iw_8 rfl (by decide +kernel) tyX4_ok fd_X4 dX0_init_5 dX0_init_8 dX0_init_9 (by decide) (ce' := 6) (sl' := 53) rfl rfl (Nat.le_of_ble_eq_true rfl) (Nat.le_of_ble_eq_true rfl) hsz (Nat.le_of_ble_eq_true rfl) (q := 12) rfl (fun a5 => ?_)
  refine iz_put O hin dX0_init_12 fe_X0_12 rfl (Or.inr ⟨rfl, rfl⟩) (tyX0_ok 0 (by decide)) rfl rfl (Nat.le_of_ble_eq_true rfl) (fs' := [.ref (a5 0), .null]) rfl (q := 15) rfl ?_
  refine iz_aload O dX0_init_15 rfl hl (q := 16) rfl ?_
  refine iz_make O IC_X3 (ci := 2) (F := TX3) (N := 14) rfl am_inw_X3 iw_9 iw_10 iw_11 (Or.inr (by decide +kernel)) iw_12 iw_13 rfl (by decide +kernel) tyX3_ok fd_X3 dX0_init_16 dX0_init_19 dX0_init_20 (by decide) (ce' := 12) (sl' := 112) rfl rfl (Nat.le_of_ble_eq_true rfl) (Nat.le_of_ble_eq_true rfl) hsz (Nat.le_of_ble_eq_true rfl) (q := 23) rfl (fun a16 => ?_)
  refine iz_put O hin dX0_init_23 fe_X0_21 rfl (Or.inr ⟨rfl, rfl⟩) (tyX0_ok 1 (by decide)) rfl rfl (Nat.le_of_ble_eq_true rfl) (fs' := [.ref (a5 0), .ref (a16 0)]) rfl (q := 26) rfl ?_
  exact iz_ws (ws' := am_w (iz_cA X) (fun i => if i < 1 then h0 else if i < 7 then a5 (i - 1) else if i < 13 then a16 (i - 7) else 0) 0 sh_iX0 D_iX0) rfl (hret (fun i => if i < 1 then h0 else if i < 7 then a5 (i - 1) else if i < 13 then a16 (i - 7) else 0) rfl)
theorem IC_X0 : iz_ctr yX0_init cX0_init 2 32 12 112 0 [.null, .null] sh_iX0 D_iX0 := iz_mk (by decide) rfl dX0_init_26 IB_X0
abbrev sh_iX1 : am_S := [.inr (1, [.inr 1, .inr 7, .inr 13, .inr 14, .inl 0]), .inr (3, [.inl 0, .inl 1, .inl 2, .inr 2, .inr 3, .inr 4, .inr 5, .inr 6]), .inl 9, .inl 9, .inl 9, .inl 9, .inl 9, .inr (2, [.inr 8, .inr 9, .inr 10, .inl 0, .inl 1, .inr 11, .inr 12, .inl 2, .inl 3, .inl 4, .inl 5, .inl 6, .inl 7, .inl 8]), .inl 9, .inl 9, .inl 9, .inl 9, .inl 9, .inl 4, .inl 4]
abbrev D_iX1 : am_D := [.inl [0], .inl [0, 0, 1], .inr (fun _ => 0), .inr (fun _ => 0), .inr (fun _ => 0), .inr (fun _ => 0), .inr (fun _ => 0), .inl [0, 0, 0, 0, 0, 0, 0, -1, 0], .inr (fun _ => 0), .inr (fun _ => 0), .inr (fun _ => 0), .inr (fun _ => 0), .inr (fun _ => 0), .inr (fun _ => 0), .inr (fun _ => 0)]
set_option maxRecDepth 100000 in
set_option maxHeartbeats 4000000 in
theorem IB_X1 (X : iz_X) (lc : Array Slot) (h0 : Nat) (O : iz_ok X RX1 cX1_init 1 2 32 14 120) (hin : iz_in X) (hsz : lc.size = 1) (hl : lc[0]? = some (.val (.ref h0))) (hret : ∀ ad : Nat → Nat, ad 0 = h0 → iz_aw X lc (am_w (iz_cA X) ad 0 sh_iX1 D_iX1) 14 120 45 []) : iz_aw X lc [(h0, .inr (1, [.null, .null, .null, .null, .int 0]))] 0 0 0 [] := by
  refine iz_aload O dX1_init_0 rfl hl (q := 1) rfl ?_
  refine iz_obj O (by decide) (by decide) iw_14 dX1_init_1 hsz (q := 4) rfl ?_
  refine iz_aload O dX1_init_4 rfl hl (q := 5) rfl ?_
  refine iz_make O IC_X4 (ci := 3) (F := TX4) (N := 8) rfl am_inw_X4 iw_15 iw_5 iw_6 (Or.inr (by decide +kernel)) iw_7 iw_8 rfl (by decide +kernel) tyX4_ok fd_X4 dX1_init_5 dX1_init_8 dX1_init_9 (by decide) (ce' := 6) (sl' := 53) rfl rfl (Nat.le_of_ble_eq_true rfl) (Nat.le_of_ble_eq_true rfl) hsz (Nat.le_of_ble_eq_true rfl) (q := 12) rfl (fun a5 => ?_)
  refine iz_put O hin dX1_init_12 fe_X1_12 rfl (Or.inr ⟨rfl, rfl⟩) (tyX1_ok 0 (by decide)) rfl rfl (Nat.le_of_ble_eq_true rfl) (fs' := [.ref (a5 0), .null, .null, .null, .int 0]) rfl (q := 15) rfl ?_
  refine iz_aload O dX1_init_15 rfl hl (q := 16) rfl ?_
  refine iz_make O IC_X3 (ci := 2) (F := TX3) (N := 14) rfl am_inw_X3 iw_16 iw_10 iw_11 (Or.inr (by decide +kernel)) iw_12 iw_13 rfl (by decide +kernel) tyX3_ok fd_X3 dX1_init_16 dX1_init_19 dX1_init_20 (by decide) (ce' := 12) (sl' := 112) rfl rfl (Nat.le_of_ble_eq_true rfl) (Nat.le_of_ble_eq_true rfl) hsz (Nat.le_of_ble_eq_true rfl) (q := 23) rfl (fun a16 => ?_)
  refine iz_put O hin dX1_init_23 fe_X1_21 rfl (Or.inr ⟨rfl, rfl⟩) (tyX1_ok 1 (by decide)) rfl rfl (Nat.le_of_ble_eq_true rfl) (fs' := [.ref (a5 0), .ref (a16 0), .null, .null, .int 0]) rfl (q := 26) rfl ?_
  refine iz_aload O dX1_init_26 rfl hl (q := 27) rfl ?_
  refine iz_iconst O dX1_init_27 (v := 4) (by decide) (q := 28) rfl ?_
  refine iz_newa O dX1_init_28 (N := 4) (ce' := 13) (sl' := 116) (by decide) (by decide) (by decide) rfl rfl (by decide) (Nat.le_of_ble_eq_true rfl) (q := 30) rfl (fun z28 => ?_)
  refine iz_put O hin dX1_init_30 fe_X1_25 rfl (Or.inr ⟨rfl, rfl⟩) (tyX1_ok 2 (by decide)) rfl rfl (Nat.le_of_ble_eq_true rfl) (fs' := [.ref (a5 0), .ref (a16 0), .ref z28, .null, .int 0]) rfl (q := 33) rfl ?_
  refine iz_aload O dX1_init_33 rfl hl (q := 34) rfl ?_
  refine iz_iconst O dX1_init_34 (v := 4) (by decide) (q := 35) rfl ?_
  refine iz_newa O dX1_init_35 (N := 4) (ce' := 14) (sl' := 120) (by decide) (by decide) (by decide) rfl rfl (by decide) (Nat.le_of_ble_eq_true rfl) (q := 37) rfl (fun z35 => ?_)
  refine iz_put O hin dX1_init_37 fe_X1_29 rfl (Or.inr ⟨rfl, rfl⟩) (tyX1_ok 3 (by decide)) rfl rfl (Nat.le_of_ble_eq_true rfl) (fs' := [.ref (a5 0), .ref (a16 0), .ref z28, .ref z35, .int 0]) rfl (q := 40) rfl ?_
  refine iz_aload O dX1_init_40 rfl hl (q := 41) rfl ?_
  refine iz_iconst O dX1_init_41 (v := 0) (by decide) (q := 42) rfl ?_
  refine iz_put O hin dX1_init_42 fe_X1_32 rfl (Or.inl rfl) (tyX1_ok 4 (by decide)) rfl rfl (Nat.le_of_ble_eq_true rfl) (fs' := [.ref (a5 0), .ref (a16 0), .ref z28, .ref z35, .int 0]) rfl (q := 45) rfl ?_
  exact iz_ws (ws' := am_w (iz_cA X) (fun i => if i < 1 then h0 else if i < 7 then a5 (i - 1) else if i < 13 then a16 (i - 7) else if i < 14 then z28 else if i < 15 then z35 else 0) 0 sh_iX1 D_iX1) rfl (hret (fun i => if i < 1 then h0 else if i < 7 then a5 (i - 1) else if i < 13 then a16 (i - 7) else if i < 14 then z28 else if i < 15 then z35 else 0) rfl)
theorem IC_X1 : iz_ctr yX1_init cX1_init 2 32 14 120 1 [.null, .null, .null, .null, .int 0] sh_iX1 D_iX1 := iz_mk (by decide) rfl dX1_init_45 IB_X1
abbrev sh_iX6 : am_S := [.inr (5, [.inr 1, .inr 7, .inl 0, .inr 13, .inr 15, .inl 1, .inr 16, .inr 17, .inr 23, .inr 29, .inr 42]), .inr (3, [.inl 0, .inl 1, .inl 2, .inr 2, .inr 3, .inr 4, .inr 5, .inr 6]), .inl 9, .inl 9, .inl 9, .inl 9, .inl 9, .inr (3, [.inl 0, .inl 1, .inl 2, .inr 8, .inr 9, .inr 10, .inr 11, .inr 12]), .inl 9, .inl 9, .inl 9, .inl 9, .inl 9, .inr (4, [.inl 0, .inr 14]), .inl 96, .inl 12, .inl 7, .inr (3, [.inl 0, .inl 1, .inl 2, .inr 18, .inr 19, .inr 20, .inr 21, .inr 22]), .inl 9, .inl 9, .inl 9, .inl 9, .inl 9, .inr (2, [.inr 24, .inr 25, .inr 26, .inl 0, .inl 1, .inr 27, .inr 28, .inl 2, .inl 3, .inl 4, .inl 5, .inl 6, .inl 7, .inl 8]), .inl 9, .inl 9, .inl 9, .inl 9, .inl 9, .inr (0, [.inr 30, .inr 36]), .inr (3, [.inl 0, .inl 1, .inl 2, .inr 31, .inr 32, .inr 33, .inr 34, .inr 35]), .inl 9, .inl 9, .inl 9, .inl 9, .inl 9, .inr (2, [.inr 37, .inr 38, .inr 39, .inl 0, .inl 1, .inr 40, .inr 41, .inl 2, .inl 3, .inl 4, .inl 5, .inl 6, .inl 7, .inl 8]), .inl 9, .inl 9, .inl 9, .inl 9, .inl 9, .inr (1, [.inr 43, .inr 49, .inr 55, .inr 56, .inl 0]), .inr (3, [.inl 0, .inl 1, .inl 2, .inr 44, .inr 45, .inr 46, .inr 47, .inr 48]), .inl 9, .inl 9, .inl 9, .inl 9, .inl 9, .inr (2, [.inr 50, .inr 51, .inr 52, .inl 0, .inl 1, .inr 53, .inr 54, .inl 2, .inl 3, .inl 4, .inl 5, .inl 6, .inl 7, .inl 8]), .inl 9, .inl 9, .inl 9, .inl 9, .inl 9, .inl 4, .inl 4]
abbrev D_iX6 : am_D := [.inl [0, 0], .inl [0, 0, 1], .inr (fun _ => 0), .inr (fun _ => 0), .inr (fun _ => 0), .inr (fun _ => 0), .inr (fun _ => 0), .inl [0, 0, 1], .inr (fun _ => 0), .inr (fun _ => 0), .inr (fun _ => 0), .inr (fun _ => 0), .inr (fun _ => 0), .inl [0], .inr (fun _ => 0), .inr (fun _ => 0), .inr (fun _ => 0), .inl [0, 0, 1], .inr (fun _ => 0), .inr (fun _ => 0), .inr (fun _ => 0), .inr (fun _ => 0), .inr (fun _ => 0), .inl [0, 0, 0, 0, 0, 0, 0, -1, 0], .inr (fun _ => 0), .inr (fun _ => 0), .inr (fun _ => 0), .inr (fun _ => 0), .inr (fun _ => 0), .inl [], .inl [0, 0, 1], .inr (fun _ => 0), .inr (fun _ => 0), .inr (fun _ => 0), .inr (fun _ => 0), .inr (fun _ => 0), .inl [0, 0, 0, 0, 0, 0, 0, -1, 0], .inr (fun _ => 0), .inr (fun _ => 0), .inr (fun _ => 0), .inr (fun _ => 0), .inr (fun _ => 0), .inl [0], .inl [0, 0, 1], .inr (fun _ => 0), .inr (fun _ => 0), .inr (fun _ => 0), .inr (fun _ => 0), .inr (fun _ => 0), .inl [0, 0, 0, 0, 0, 0, 0, -1, 0], .inr (fun _ => 0), .inr (fun _ => 0), .inr (fun _ => 0), .inr (fun _ => 0), .inr (fun _ => 0), .inr (fun _ => 0), .inr (fun _ => 0)]
set_option maxRecDepth 100000 in
set_option maxHeartbeats 4000000 in
theorem IB_X6 (X : iz_X) (lc : Array Slot) (h0 : Nat) (O : iz_ok X RX6 cX6_init 1 3 52 56 574) (hin : iz_in X) (hsz : lc.size = 1) (hl : lc[0]? = some (.val (.ref h0))) (hret : ∀ ad : Nat → Nat, ad 0 = h0 → iz_aw X lc (am_w (iz_cA X) ad 0 sh_iX6 D_iX6) 56 574 107 []) : iz_aw X lc [(h0, .inr (5, [.null, .null, .int 0, .null, .null, .int 0, .null, .null, .null, .null, .null]))] 0 0 0 [] := by
  refine iz_aload O dX6_init_0 rfl hl (q := 1) rfl ?_
  refine iz_obj O (by decide) (by decide) iw_17 dX6_init_1 hsz (q := 4) rfl ?_
  refine iz_aload O dX6_init_4 rfl hl (q := 5) rfl ?_
  refine iz_make O IC_X4 (ci := 3) (F := TX4) (N := 8) rfl am_inw_X4 iw_18 iw_5 iw_6 (Or.inr (by decide +kernel)) iw_7 iw_8 rfl (by decide +kernel) tyX4_ok fd_X4 dX6_init_5 dX6_init_8 dX6_init_9 (by decide) (ce' := 6) (sl' := 53) rfl rfl (Nat.le_of_ble_eq_true rfl) (Nat.le_of_ble_eq_true rfl) hsz (Nat.le_of_ble_eq_true rfl) (q := 12) rfl (fun a5 => ?_)
  refine iz_put O hin dX6_init_12 fe_X6_10 rfl (Or.inr ⟨rfl, rfl⟩) (tyX6_ok 0 (by decide)) rfl rfl (Nat.le_of_ble_eq_true rfl) (fs' := [.ref (a5 0), .null, .int 0, .null, .null, .int 0, .null, .null, .null, .null, .null]) rfl (q := 15) rfl ?_
  refine iz_aload O dX6_init_15 rfl hl (q := 16) rfl ?_
  refine iz_make O IC_X4 (ci := 3) (F := TX4) (N := 8) rfl am_inw_X4 iw_18 iw_5 iw_6 (Or.inr (by decide +kernel)) iw_7 iw_8 rfl (by decide +kernel) tyX4_ok fd_X4 dX6_init_16 dX6_init_19 dX6_init_20 (by decide) (ce' := 12) (sl' := 106) rfl rfl (Nat.le_of_ble_eq_true rfl) (Nat.le_of_ble_eq_true rfl) hsz (Nat.le_of_ble_eq_true rfl) (q := 23) rfl (fun a16 => ?_)
  refine iz_put O hin dX6_init_23 fe_X6_16 rfl (Or.inr ⟨rfl, rfl⟩) (tyX6_ok 1 (by decide)) rfl rfl (Nat.le_of_ble_eq_true rfl) (fs' := [.ref (a5 0), .ref (a16 0), .int 0, .null, .null, .int 0, .null, .null, .null, .null, .null]) rfl (q := 26) rfl ?_
  refine iz_aload O dX6_init_26 rfl hl (q := 27) rfl ?_
  refine iz_iconst O dX6_init_27 (v := 0) (by decide) (q := 28) rfl ?_
  refine iz_put O hin dX6_init_28 fe_X6_19 rfl (Or.inl rfl) (tyX6_ok 2 (by decide)) rfl rfl (Nat.le_of_ble_eq_true rfl) (fs' := [.ref (a5 0), .ref (a16 0), .int 0, .null, .null, .int 0, .null, .null, .null, .null, .null]) rfl (q := 31) rfl ?_
  refine iz_aload O dX6_init_31 rfl hl (q := 32) rfl ?_
  refine iz_make O IC_X5 (ci := 4) (F := TX5) (N := 2) rfl am_inw_X5 iw_19 iw_20 iw_21 (Or.inr (by decide +kernel)) iw_22 iw_23 rfl (by decide +kernel) tyX5_ok fd_X5 dX6_init_32 dX6_init_35 dX6_init_36 (by decide) (ce' := 14) (sl' := 204) rfl rfl (Nat.le_of_ble_eq_true rfl) (Nat.le_of_ble_eq_true rfl) hsz (Nat.le_of_ble_eq_true rfl) (q := 39) rfl (fun a32 => ?_)
  refine iz_put O hin dX6_init_39 fe_X6_26 rfl (Or.inr ⟨rfl, rfl⟩) (tyX6_ok 3 (by decide)) rfl rfl (Nat.le_of_ble_eq_true rfl) (fs' := [.ref (a5 0), .ref (a16 0), .int 0, .ref (a32 0), .null, .int 0, .null, .null, .null, .null, .null]) rfl (q := 42) rfl ?_
  refine iz_aload O dX6_init_42 rfl hl (q := 43) rfl ?_
  refine iz_bipush O dX6_init_43 (v := 12) (by decide) (q := 45) rfl ?_
  refine iz_newa O dX6_init_45 (N := 12) (ce' := 15) (sl' := 216) (by decide) (by decide) (by decide) rfl rfl (by decide) (Nat.le_of_ble_eq_true rfl) (q := 47) rfl (fun z45 => ?_)
  refine iz_put O hin dX6_init_47 fe_X6_30 rfl (Or.inr ⟨rfl, rfl⟩) (tyX6_ok 4 (by decide)) rfl rfl (Nat.le_of_ble_eq_true rfl) (fs' := [.ref (a5 0), .ref (a16 0), .int 0, .ref (a32 0), .ref z45, .int 0, .null, .null, .null, .null, .null]) rfl (q := 50) rfl ?_
  refine iz_aload O dX6_init_50 rfl hl (q := 51) rfl ?_
  refine iz_iconst O dX6_init_51 (v := 0) (by decide) (q := 52) rfl ?_
  refine iz_put O hin dX6_init_52 fe_X6_34 rfl (Or.inl rfl) (tyX6_ok 5 (by decide)) rfl rfl (Nat.le_of_ble_eq_true rfl) (fs' := [.ref (a5 0), .ref (a16 0), .int 0, .ref (a32 0), .ref z45, .int 0, .null, .null, .null, .null, .null]) rfl (q := 55) rfl ?_
  refine iz_aload O dX6_init_55 rfl hl (q := 56) rfl ?_
  refine iz_bipush O dX6_init_56 (v := 7) (by decide) (q := 58) rfl ?_
  refine iz_newa O dX6_init_58 (N := 7) (ce' := 16) (sl' := 223) (by decide) (by decide) (by decide) rfl rfl (by decide) (Nat.le_of_ble_eq_true rfl) (q := 60) rfl (fun z58 => ?_)
  refine iz_put O hin dX6_init_60 fe_X6_38 rfl (Or.inr ⟨rfl, rfl⟩) (tyX6_ok 6 (by decide)) rfl rfl (Nat.le_of_ble_eq_true rfl) (fs' := [.ref (a5 0), .ref (a16 0), .int 0, .ref (a32 0), .ref z45, .int 0, .ref z58, .null, .null, .null, .null]) rfl (q := 63) rfl ?_
  refine iz_aload O dX6_init_63 rfl hl (q := 64) rfl ?_
  refine iz_make O IC_X4 (ci := 3) (F := TX4) (N := 8) rfl am_inw_X4 iw_18 iw_5 iw_6 (Or.inr (by decide +kernel)) iw_7 iw_8 rfl (by decide +kernel) tyX4_ok fd_X4 dX6_init_64 dX6_init_67 dX6_init_68 (by decide) (ce' := 22) (sl' := 276) rfl rfl (Nat.le_of_ble_eq_true rfl) (Nat.le_of_ble_eq_true rfl) hsz (Nat.le_of_ble_eq_true rfl) (q := 71) rfl (fun a64 => ?_)
  refine iz_put O hin dX6_init_71 fe_X6_41 rfl (Or.inr ⟨rfl, rfl⟩) (tyX6_ok 7 (by decide)) rfl rfl (Nat.le_of_ble_eq_true rfl) (fs' := [.ref (a5 0), .ref (a16 0), .int 0, .ref (a32 0), .ref z45, .int 0, .ref z58, .ref (a64 0), .null, .null, .null]) rfl (q := 74) rfl ?_
  refine iz_aload O dX6_init_74 rfl hl (q := 75) rfl ?_
  refine iz_make O IC_X3 (ci := 2) (F := TX3) (N := 14) rfl am_inw_X3 iw_24 iw_10 iw_11 (Or.inr (by decide +kernel)) iw_12 iw_13 rfl (by decide +kernel) tyX3_ok fd_X3 dX6_init_75 dX6_init_78 dX6_init_79 (by decide) (ce' := 28) (sl' := 335) rfl rfl (Nat.le_of_ble_eq_true rfl) (Nat.le_of_ble_eq_true rfl) hsz (Nat.le_of_ble_eq_true rfl) (q := 82) rfl (fun a75 => ?_)
  refine iz_put O hin dX6_init_82 fe_X6_47 rfl (Or.inr ⟨rfl, rfl⟩) (tyX6_ok 8 (by decide)) rfl rfl (Nat.le_of_ble_eq_true rfl) (fs' := [.ref (a5 0), .ref (a16 0), .int 0, .ref (a32 0), .ref z45, .int 0, .ref z58, .ref (a64 0), .ref (a75 0), .null, .null]) rfl (q := 85) rfl ?_
  refine iz_aload O dX6_init_85 rfl hl (q := 86) rfl ?_
  refine iz_make O IC_X0 (ci := 0) (F := TX0) (N := 2) rfl am_inw_X0 iw_25 iw_26 iw_27 (Or.inr (by decide +kernel)) iw_28 iw_29 rfl (by decide +kernel) tyX0_ok fd_X0 dX6_init_86 dX6_init_89 dX6_init_90 (by decide) (ce' := 41) (sl' := 449) rfl rfl (Nat.le_of_ble_eq_true rfl) (Nat.le_of_ble_eq_true rfl) hsz (Nat.le_of_ble_eq_true rfl) (q := 93) rfl (fun a86 => ?_)
  refine iz_put O hin dX6_init_93 fe_X6_54 rfl (Or.inr ⟨rfl, rfl⟩) (tyX6_ok 9 (by decide)) rfl rfl (Nat.le_of_ble_eq_true rfl) (fs' := [.ref (a5 0), .ref (a16 0), .int 0, .ref (a32 0), .ref z45, .int 0, .ref z58, .ref (a64 0), .ref (a75 0), .ref (a86 0), .null]) rfl (q := 96) rfl ?_
  refine iz_aload O dX6_init_96 rfl hl (q := 97) rfl ?_
  refine iz_make O IC_X1 (ci := 1) (F := TX1) (N := 5) rfl am_inw_X1 iw_30 iw_31 iw_32 (Or.inr (by decide +kernel)) iw_33 iw_34 rfl (by decide +kernel) tyX1_ok fd_X1 dX6_init_97 dX6_init_100 dX6_init_101 (by decide) (ce' := 56) (sl' := 574) rfl rfl (Nat.le_of_ble_eq_true rfl) (Nat.le_of_ble_eq_true rfl) hsz (Nat.le_of_ble_eq_true rfl) (q := 104) rfl (fun a97 => ?_)
  refine iz_put O hin dX6_init_104 fe_X6_61 rfl (Or.inr ⟨rfl, rfl⟩) (tyX6_ok 10 (by decide)) rfl rfl (Nat.le_of_ble_eq_true rfl) (fs' := [.ref (a5 0), .ref (a16 0), .int 0, .ref (a32 0), .ref z45, .int 0, .ref z58, .ref (a64 0), .ref (a75 0), .ref (a86 0), .ref (a97 0)]) rfl (q := 107) rfl ?_
  exact iz_ws (ws' := am_w (iz_cA X) (fun i => if i < 1 then h0 else if i < 7 then a5 (i - 1) else if i < 13 then a16 (i - 7) else if i < 15 then a32 (i - 13) else if i < 16 then z45 else if i < 17 then z58 else if i < 23 then a64 (i - 17) else if i < 29 then a75 (i - 23) else if i < 42 then a86 (i - 29) else if i < 57 then a97 (i - 42) else 0) 0 sh_iX6 D_iX6) rfl (hret (fun i => if i < 1 then h0 else if i < 7 then a5 (i - 1) else if i < 13 then a16 (i - 7) else if i < 15 then a32 (i - 13) else if i < 16 then z45 else if i < 17 then z58 else if i < 23 then a64 (i - 17) else if i < 29 then a75 (i - 23) else if i < 42 then a86 (i - 29) else if i < 57 then a97 (i - 42) else 0) rfl)
theorem IC_X6 : iz_ctr yX6_init cX6_init 3 52 56 574 5 [.null, .null, .int 0, .null, .null, .int 0, .null, .null, .null, .null, .null] sh_iX6 D_iX6 := iz_mk (by decide) rfl dX6_init_107 IB_X6
abbrev sh_iX7 : am_S := [.inr (6, [.inl 0, .inr 1, .inr 2, .inr 3, .inr 4, .inr 5, .inl 1, .inl 2, .inl 3, .inr 6, .inl 4, .inr 7, .inl 5, .inr 8, .inr 9, .inl 6, .inr 10, .inr 11, .inr 12, .inl 7, .inr 13, .inr 14, .inr 15, .inl 8, .inl 9, .inl 10, .inl 11]), .inl 9, .inl 9, .inl 9, .inl 9, .inl 9, .inl 96, .inl 8, .inl 12, .inl 7, .inl 48, .inl 48, .inl 48, .inl 9, .inl 9, .inl 9]
abbrev D_iX7 : am_D := [.inl [0, 0, 1, 0, 0, 0, 0, 0, 0, 0, 0, 0], .inr (fun _ => 0), .inr (fun _ => 0), .inr (fun _ => 0), .inr (fun _ => 0), .inr (fun _ => 0), .inr (fun _ => 0), .inr (fun _ => 0), .inr (fun _ => 0), .inr (fun _ => 0), .inr (fun _ => 0), .inr (fun _ => 0), .inr (fun _ => 0), .inr (fun _ => 0), .inr (fun _ => 0), .inr (fun _ => 0)]
set_option maxRecDepth 100000 in
set_option maxHeartbeats 4000000 in
theorem IB_X7 (X : iz_X) (lc : Array Slot) (h0 : Nat) (O : iz_ok X RX7 cX7_init 1 1 12 15 339) (hin : iz_in X) (hsz : lc.size = 1) (hl : lc[0]? = some (.val (.ref h0))) (hret : ∀ ad : Nat → Nat, ad 0 = h0 → iz_aw X lc (am_w (iz_cA X) ad 0 sh_iX7 D_iX7) 15 339 129 []) : iz_aw X lc [(h0, .inr (6, [.int 0, .null, .null, .null, .null, .null, .int 0, .int 0, .int 0, .null, .int 0, .null, .int 0, .null, .null, .int 0, .null, .null, .null, .int 0, .null, .null, .null, .int 0, .int 0, .int 0, .int 0]))] 0 0 0 [] := by
  refine iz_aload O dX7_init_0 rfl hl (q := 1) rfl ?_
  refine iz_obj O (by decide) (by decide) iw_35 dX7_init_1 hsz (q := 4) rfl ?_
  refine iz_aload O dX7_init_4 rfl hl (q := 5) rfl ?_
  refine iz_bipush O dX7_init_5 (v := 9) (by decide) (q := 7) rfl ?_
  refine iz_newa O dX7_init_7 (N := 9) (ce' := 1) (sl' := 9) (by decide) (by decide) (by decide) rfl rfl (by decide) (Nat.le_of_ble_eq_true rfl) (q := 9) rfl (fun z7 => ?_)
  refine iz_put O hin dX7_init_9 fe_X7_7 rfl (Or.inr ⟨rfl, rfl⟩) (tyX7_ok 1 (by decide)) rfl rfl (Nat.le_of_ble_eq_true rfl) (fs' := [.int 0, .ref z7, .null, .null, .null, .null, .int 0, .int 0, .int 0, .null, .int 0, .null, .int 0, .null, .null, .int 0, .null, .null, .null, .int 0, .null, .null, .null, .int 0, .int 0, .int 0, .int 0]) rfl (q := 12) rfl ?_
  refine iz_aload O dX7_init_12 rfl hl (q := 13) rfl ?_
  refine iz_bipush O dX7_init_13 (v := 9) (by decide) (q := 15) rfl ?_
  refine iz_newa O dX7_init_15 (N := 9) (ce' := 2) (sl' := 18) (by decide) (by decide) (by decide) rfl rfl (by decide) (Nat.le_of_ble_eq_true rfl) (q := 17) rfl (fun z15 => ?_)
  refine iz_put O hin dX7_init_17 fe_X7_13 rfl (Or.inr ⟨rfl, rfl⟩) (tyX7_ok 2 (by decide)) rfl rfl (Nat.le_of_ble_eq_true rfl) (fs' := [.int 0, .ref z7, .ref z15, .null, .null, .null, .int 0, .int 0, .int 0, .null, .int 0, .null, .int 0, .null, .null, .int 0, .null, .null, .null, .int 0, .null, .null, .null, .int 0, .int 0, .int 0, .int 0]) rfl (q := 20) rfl ?_
  refine iz_aload O dX7_init_20 rfl hl (q := 21) rfl ?_
  refine iz_bipush O dX7_init_21 (v := 9) (by decide) (q := 23) rfl ?_
  refine iz_newa O dX7_init_23 (N := 9) (ce' := 3) (sl' := 27) (by decide) (by decide) (by decide) rfl rfl (by decide) (Nat.le_of_ble_eq_true rfl) (q := 25) rfl (fun z23 => ?_)
  refine iz_put O hin dX7_init_25 fe_X7_16 rfl (Or.inr ⟨rfl, rfl⟩) (tyX7_ok 3 (by decide)) rfl rfl (Nat.le_of_ble_eq_true rfl) (fs' := [.int 0, .ref z7, .ref z15, .ref z23, .null, .null, .int 0, .int 0, .int 0, .null, .int 0, .null, .int 0, .null, .null, .int 0, .null, .null, .null, .int 0, .null, .null, .null, .int 0, .int 0, .int 0, .int 0]) rfl (q := 28) rfl ?_
  refine iz_aload O dX7_init_28 rfl hl (q := 29) rfl ?_
  refine iz_bipush O dX7_init_29 (v := 9) (by decide) (q := 31) rfl ?_
  refine iz_newa O dX7_init_31 (N := 9) (ce' := 4) (sl' := 36) (by decide) (by decide) (by decide) rfl rfl (by decide) (Nat.le_of_ble_eq_true rfl) (q := 33) rfl (fun z31 => ?_)
  refine iz_put O hin dX7_init_33 fe_X7_19 rfl (Or.inr ⟨rfl, rfl⟩) (tyX7_ok 4 (by decide)) rfl rfl (Nat.le_of_ble_eq_true rfl) (fs' := [.int 0, .ref z7, .ref z15, .ref z23, .ref z31, .null, .int 0, .int 0, .int 0, .null, .int 0, .null, .int 0, .null, .null, .int 0, .null, .null, .null, .int 0, .null, .null, .null, .int 0, .int 0, .int 0, .int 0]) rfl (q := 36) rfl ?_
  refine iz_aload O dX7_init_36 rfl hl (q := 37) rfl ?_
  refine iz_bipush O dX7_init_37 (v := 9) (by decide) (q := 39) rfl ?_
  refine iz_newa O dX7_init_39 (N := 9) (ce' := 5) (sl' := 45) (by decide) (by decide) (by decide) rfl rfl (by decide) (Nat.le_of_ble_eq_true rfl) (q := 41) rfl (fun z39 => ?_)
  refine iz_put O hin dX7_init_41 fe_X7_22 rfl (Or.inr ⟨rfl, rfl⟩) (tyX7_ok 5 (by decide)) rfl rfl (Nat.le_of_ble_eq_true rfl) (fs' := [.int 0, .ref z7, .ref z15, .ref z23, .ref z31, .ref z39, .int 0, .int 0, .int 0, .null, .int 0, .null, .int 0, .null, .null, .int 0, .null, .null, .null, .int 0, .null, .null, .null, .int 0, .int 0, .int 0, .int 0]) rfl (q := 44) rfl ?_
  refine iz_aload O dX7_init_44 rfl hl (q := 45) rfl ?_
  refine iz_bipush O dX7_init_45 (v := 96) (by decide) (q := 47) rfl ?_
  refine iz_newa O dX7_init_47 (N := 96) (ce' := 6) (sl' := 141) (by decide) (by decide) (by decide) rfl rfl (by decide) (Nat.le_of_ble_eq_true rfl) (q := 49) rfl (fun z47 => ?_)
  refine iz_put O hin dX7_init_49 fe_X7_25 rfl (Or.inr ⟨rfl, rfl⟩) (tyX7_ok 9 (by decide)) rfl rfl (Nat.le_of_ble_eq_true rfl) (fs' := [.int 0, .ref z7, .ref z15, .ref z23, .ref z31, .ref z39, .int 0, .int 0, .int 0, .ref z47, .int 0, .null, .int 0, .null, .null, .int 0, .null, .null, .null, .int 0, .null, .null, .null, .int 0, .int 0, .int 0, .int 0]) rfl (q := 52) rfl ?_
  refine iz_aload O dX7_init_52 rfl hl (q := 53) rfl ?_
  refine iz_bipush O dX7_init_53 (v := 8) (by decide) (q := 55) rfl ?_
  refine iz_newa O dX7_init_55 (N := 8) (ce' := 7) (sl' := 149) (by decide) (by decide) (by decide) rfl rfl (by decide) (Nat.le_of_ble_eq_true rfl) (q := 57) rfl (fun z55 => ?_)
  refine iz_put O hin dX7_init_57 fe_X7_28 rfl (Or.inr ⟨rfl, rfl⟩) (tyX7_ok 11 (by decide)) rfl rfl (Nat.le_of_ble_eq_true rfl) (fs' := [.int 0, .ref z7, .ref z15, .ref z23, .ref z31, .ref z39, .int 0, .int 0, .int 0, .ref z47, .int 0, .ref z55, .int 0, .null, .null, .int 0, .null, .null, .null, .int 0, .null, .null, .null, .int 0, .int 0, .int 0, .int 0]) rfl (q := 60) rfl ?_
  refine iz_aload O dX7_init_60 rfl hl (q := 61) rfl ?_
  refine iz_bipush O dX7_init_61 (v := 12) (by decide) (q := 63) rfl ?_
  refine iz_newa O dX7_init_63 (N := 12) (ce' := 8) (sl' := 161) (by decide) (by decide) (by decide) rfl rfl (by decide) (Nat.le_of_ble_eq_true rfl) (q := 65) rfl (fun z63 => ?_)
  refine iz_put O hin dX7_init_65 fe_X7_31 rfl (Or.inr ⟨rfl, rfl⟩) (tyX7_ok 13 (by decide)) rfl rfl (Nat.le_of_ble_eq_true rfl) (fs' := [.int 0, .ref z7, .ref z15, .ref z23, .ref z31, .ref z39, .int 0, .int 0, .int 0, .ref z47, .int 0, .ref z55, .int 0, .ref z63, .null, .int 0, .null, .null, .null, .int 0, .null, .null, .null, .int 0, .int 0, .int 0, .int 0]) rfl (q := 68) rfl ?_
  refine iz_aload O dX7_init_68 rfl hl (q := 69) rfl ?_
  refine iz_bipush O dX7_init_69 (v := 7) (by decide) (q := 71) rfl ?_
  refine iz_newa O dX7_init_71 (N := 7) (ce' := 9) (sl' := 168) (by decide) (by decide) (by decide) rfl rfl (by decide) (Nat.le_of_ble_eq_true rfl) (q := 73) rfl (fun z71 => ?_)
  refine iz_put O hin dX7_init_73 fe_X7_34 rfl (Or.inr ⟨rfl, rfl⟩) (tyX7_ok 14 (by decide)) rfl rfl (Nat.le_of_ble_eq_true rfl) (fs' := [.int 0, .ref z7, .ref z15, .ref z23, .ref z31, .ref z39, .int 0, .int 0, .int 0, .ref z47, .int 0, .ref z55, .int 0, .ref z63, .ref z71, .int 0, .null, .null, .null, .int 0, .null, .null, .null, .int 0, .int 0, .int 0, .int 0]) rfl (q := 76) rfl ?_
  refine iz_aload O dX7_init_76 rfl hl (q := 77) rfl ?_
  refine iz_bipush O dX7_init_77 (v := 48) (by decide) (q := 79) rfl ?_
  refine iz_newa O dX7_init_79 (N := 48) (ce' := 10) (sl' := 216) (by decide) (by decide) (by decide) rfl rfl (by decide) (Nat.le_of_ble_eq_true rfl) (q := 81) rfl (fun z79 => ?_)
  refine iz_put O hin dX7_init_81 fe_X7_37 rfl (Or.inr ⟨rfl, rfl⟩) (tyX7_ok 16 (by decide)) rfl rfl (Nat.le_of_ble_eq_true rfl) (fs' := [.int 0, .ref z7, .ref z15, .ref z23, .ref z31, .ref z39, .int 0, .int 0, .int 0, .ref z47, .int 0, .ref z55, .int 0, .ref z63, .ref z71, .int 0, .ref z79, .null, .null, .int 0, .null, .null, .null, .int 0, .int 0, .int 0, .int 0]) rfl (q := 84) rfl ?_
  refine iz_aload O dX7_init_84 rfl hl (q := 85) rfl ?_
  refine iz_bipush O dX7_init_85 (v := 48) (by decide) (q := 87) rfl ?_
  refine iz_newa O dX7_init_87 (N := 48) (ce' := 11) (sl' := 264) (by decide) (by decide) (by decide) rfl rfl (by decide) (Nat.le_of_ble_eq_true rfl) (q := 89) rfl (fun z87 => ?_)
  refine iz_put O hin dX7_init_89 fe_X7_40 rfl (Or.inr ⟨rfl, rfl⟩) (tyX7_ok 17 (by decide)) rfl rfl (Nat.le_of_ble_eq_true rfl) (fs' := [.int 0, .ref z7, .ref z15, .ref z23, .ref z31, .ref z39, .int 0, .int 0, .int 0, .ref z47, .int 0, .ref z55, .int 0, .ref z63, .ref z71, .int 0, .ref z79, .ref z87, .null, .int 0, .null, .null, .null, .int 0, .int 0, .int 0, .int 0]) rfl (q := 92) rfl ?_
  refine iz_aload O dX7_init_92 rfl hl (q := 93) rfl ?_
  refine iz_bipush O dX7_init_93 (v := 48) (by decide) (q := 95) rfl ?_
  refine iz_newa O dX7_init_95 (N := 48) (ce' := 12) (sl' := 312) (by decide) (by decide) (by decide) rfl rfl (by decide) (Nat.le_of_ble_eq_true rfl) (q := 97) rfl (fun z95 => ?_)
  refine iz_put O hin dX7_init_97 fe_X7_43 rfl (Or.inr ⟨rfl, rfl⟩) (tyX7_ok 18 (by decide)) rfl rfl (Nat.le_of_ble_eq_true rfl) (fs' := [.int 0, .ref z7, .ref z15, .ref z23, .ref z31, .ref z39, .int 0, .int 0, .int 0, .ref z47, .int 0, .ref z55, .int 0, .ref z63, .ref z71, .int 0, .ref z79, .ref z87, .ref z95, .int 0, .null, .null, .null, .int 0, .int 0, .int 0, .int 0]) rfl (q := 100) rfl ?_
  refine iz_aload O dX7_init_100 rfl hl (q := 101) rfl ?_
  refine iz_bipush O dX7_init_101 (v := 9) (by decide) (q := 103) rfl ?_
  refine iz_newa O dX7_init_103 (N := 9) (ce' := 13) (sl' := 321) (by decide) (by decide) (by decide) rfl rfl (by decide) (Nat.le_of_ble_eq_true rfl) (q := 105) rfl (fun z103 => ?_)
  refine iz_put O hin dX7_init_105 fe_X7_46 rfl (Or.inr ⟨rfl, rfl⟩) (tyX7_ok 20 (by decide)) rfl rfl (Nat.le_of_ble_eq_true rfl) (fs' := [.int 0, .ref z7, .ref z15, .ref z23, .ref z31, .ref z39, .int 0, .int 0, .int 0, .ref z47, .int 0, .ref z55, .int 0, .ref z63, .ref z71, .int 0, .ref z79, .ref z87, .ref z95, .int 0, .ref z103, .null, .null, .int 0, .int 0, .int 0, .int 0]) rfl (q := 108) rfl ?_
  refine iz_aload O dX7_init_108 rfl hl (q := 109) rfl ?_
  refine iz_bipush O dX7_init_109 (v := 9) (by decide) (q := 111) rfl ?_
  refine iz_newa O dX7_init_111 (N := 9) (ce' := 14) (sl' := 330) (by decide) (by decide) (by decide) rfl rfl (by decide) (Nat.le_of_ble_eq_true rfl) (q := 113) rfl (fun z111 => ?_)
  refine iz_put O hin dX7_init_113 fe_X7_49 rfl (Or.inr ⟨rfl, rfl⟩) (tyX7_ok 21 (by decide)) rfl rfl (Nat.le_of_ble_eq_true rfl) (fs' := [.int 0, .ref z7, .ref z15, .ref z23, .ref z31, .ref z39, .int 0, .int 0, .int 0, .ref z47, .int 0, .ref z55, .int 0, .ref z63, .ref z71, .int 0, .ref z79, .ref z87, .ref z95, .int 0, .ref z103, .ref z111, .null, .int 0, .int 0, .int 0, .int 0]) rfl (q := 116) rfl ?_
  refine iz_aload O dX7_init_116 rfl hl (q := 117) rfl ?_
  refine iz_bipush O dX7_init_117 (v := 9) (by decide) (q := 119) rfl ?_
  refine iz_newa O dX7_init_119 (N := 9) (ce' := 15) (sl' := 339) (by decide) (by decide) (by decide) rfl rfl (by decide) (Nat.le_of_ble_eq_true rfl) (q := 121) rfl (fun z119 => ?_)
  refine iz_put O hin dX7_init_121 fe_X7_52 rfl (Or.inr ⟨rfl, rfl⟩) (tyX7_ok 22 (by decide)) rfl rfl (Nat.le_of_ble_eq_true rfl) (fs' := [.int 0, .ref z7, .ref z15, .ref z23, .ref z31, .ref z39, .int 0, .int 0, .int 0, .ref z47, .int 0, .ref z55, .int 0, .ref z63, .ref z71, .int 0, .ref z79, .ref z87, .ref z95, .int 0, .ref z103, .ref z111, .ref z119, .int 0, .int 0, .int 0, .int 0]) rfl (q := 124) rfl ?_
  refine iz_aload O dX7_init_124 rfl hl (q := 125) rfl ?_
  refine iz_iconst O dX7_init_125 (v := 1) (by decide) (q := 126) rfl ?_
  refine iz_put O hin dX7_init_126 fe_X7_55 rfl (Or.inl rfl) (tyX7_ok 7 (by decide)) rfl rfl (Nat.le_of_ble_eq_true rfl) (fs' := [.int 0, .ref z7, .ref z15, .ref z23, .ref z31, .ref z39, .int 0, .int 1, .int 0, .ref z47, .int 0, .ref z55, .int 0, .ref z63, .ref z71, .int 0, .ref z79, .ref z87, .ref z95, .int 0, .ref z103, .ref z111, .ref z119, .int 0, .int 0, .int 0, .int 0]) rfl (q := 129) rfl ?_
  exact iz_ws (ws' := am_w (iz_cA X) (fun i => if i < 1 then h0 else if i < 2 then z7 else if i < 3 then z15 else if i < 4 then z23 else if i < 5 then z31 else if i < 6 then z39 else if i < 7 then z47 else if i < 8 then z55 else if i < 9 then z63 else if i < 10 then z71 else if i < 11 then z79 else if i < 12 then z87 else if i < 13 then z95 else if i < 14 then z103 else if i < 15 then z111 else if i < 16 then z119 else 0) 0 sh_iX7 D_iX7) rfl (hret (fun i => if i < 1 then h0 else if i < 2 then z7 else if i < 3 then z15 else if i < 4 then z23 else if i < 5 then z31 else if i < 6 then z39 else if i < 7 then z47 else if i < 8 then z55 else if i < 9 then z63 else if i < 10 then z71 else if i < 11 then z79 else if i < 12 then z87 else if i < 13 then z95 else if i < 14 then z103 else if i < 15 then z111 else if i < 16 then z119 else 0) rfl)
theorem IC_X7 : iz_ctr yX7_init cX7_init 1 12 15 339 6 [.int 0, .null, .null, .null, .null, .null, .int 0, .int 0, .int 0, .null, .int 0, .null, .int 0, .null, .null, .int 0, .null, .null, .null, .int 0, .null, .null, .null, .int 0, .int 0, .int 0, .int 0] sh_iX7 D_iX7 := iz_mk (by decide) rfl dX7_init_129 IB_X7
