abbrev rmX5_keptWithin : Room := { frames := 1, cells := 0, slots := 0, locals := 64 }
set_option maxRecDepth 100000 in
set_option maxHeartbeats 4000000 in
theorem x_kept (l : Launch) (D : va_G) (cI cZ cL : ClassId) (x : Int64)  : Cg l D cI cZ cL yX5_keptWithin wsX5_keptWithin rmX5_keptWithin [.long x] (([] : va_W)) (fun r0 w0 => r0 = some (.int (kept x)) ∧ w0 = ([] : va_W)) := by
  refine Cg.ofJ (own := RX5) (cc := cX5_keptWithin) (maxL := 2) (ret := (some .int)) (by decide) rfl rfl (Nat.le_of_ble_eq_true rfl) ?_
  intro p e s m args below meth c A CX hr hlocks hname
  have hcn157 : Cond.constantLong RX5 157 (-1000000) ∈ wsX5_keptWithin := by decide +kernel
  have hcn159 : Cond.constantLong RX5 159 (1000000) ∈ wsX5_keptWithin := by decide +kernel
  have hml161 : Cond.methodLink RX5 161 Lib.MathLoose.min_long.x ∈ wsX5_keptWithin := by decide +kernel
  have hst161 : Cond.static Lib.MathLoose.min_long.x ∈ wsX5_keptWithin := by decide +kernel
  have hmath : Cond.initialized "java/lang/Math" ∈ wsX5_keptWithin := by decide +kernel
  have hcd161 : Cond.code Lib.MathLoose.min_long.x Lib.MathLoose.min_long.code 4 (some .long) ∈ wsX5_keptWithin := by decide +kernel
  have hml164 : Cond.methodLink RX5 164 Lib.MathLoose.max_long.x ∈ wsX5_keptWithin := by decide +kernel
  have hst164 : Cond.static Lib.MathLoose.max_long.x ∈ wsX5_keptWithin := by decide +kernel
  have hcd164 : Cond.code Lib.MathLoose.max_long.x Lib.MathLoose.max_long.code 4 (some .long) ∈ wsX5_keptWithin := by decide +kernel
  show J p l e rmX5_keptWithin s m args below meth c D A 2 0 0 (MQ below (jQc D (fun r0 w0 => r0 = some (.int (kept x)) ∧ w0 = ([] : va_W)) A) args s rmX5_keptWithin.cells rmX5_keptWithin.slots A) (([] : va_W)) 0 [(0, .long x)] []
  refine j_ldc2 CX dX5_keptWithin_0 hcn157 ?_
  refine j_ldc2 CX dX5_keptWithin_3 hcn159 ?_
  refine j_lload_n CX 0 dX5_keptWithin_6 rfl rfl ?_
  refine j_mminl CX dX5_keptWithin_7 hml161 hst161 hmath hcd161 (Nat.le_of_ble_eq_true rfl) (Nat.le_of_ble_eq_true rfl) (Nat.le_of_ble_eq_true rfl) (Nat.le_of_ble_eq_true rfl) ?_
  refine j_mmaxl CX dX5_keptWithin_10 hml164 hst164 hmath hcd164 (Nat.le_of_ble_eq_true rfl) (Nat.le_of_ble_eq_true rfl) (Nat.le_of_ble_eq_true rfl) (Nat.le_of_ble_eq_true rfl) ?_
  refine j_l2i CX dX5_keptWithin_13 ?_
  exact j_iret CX hr hlocks dX5_keptWithin_14 (⟨rfl, rfl⟩)

abbrev rmX4_changed : Room := { frames := 2, cells := 0, slots := 0, locals := 85 }
set_option maxRecDepth 100000 in
set_option maxHeartbeats 4000000 in
theorem z_changed_v (l : Launch) (D : va_G) (cI cZ cL : ClassId) (a : Nat → Nat) (n : Nat) (va re tr sh co : Nat → Int32) (cc : Int32) (z : Nat) (hn : n ≤ 24) (hz : z < n) : Cg l D cI cZ cL yX4_changed wsX4_changed rmX4_changed [.ref (a 0), .ref (a 1), .int (nI z)] (zW a cI n va re tr sh co cc) (fun r0 w0 => r0 = some (.int (chg sh n va z)) ∧ w0 = zW a cI n va re tr sh co cc) := by
  refine Cg.ofJ (own := RX4) (cc := cX4_changed) (maxL := 7) (ret := (some .int)) (by decide) rfl rfl (Nat.le_of_ble_eq_true rfl) ?_
  intro p e s m args below meth c A CX hr hlocks hname
  have hin4 : ∀ x ∈ u_ws RX4 TX4 7, x ∈ wsX4_changed := by decide +kernel
  have hfl9 : Cond.fieldLink RX4 9 (TX4 0).1 (TX4 0).2.1 (TX4 0).2.2.1 ∈ wsX4_changed := by decide +kernel
  have hcn68 : Cond.constantLong RX4 68 (1000) ∈ wsX4_changed := by decide +kernel
  have hini5 : Cond.initialized RX5 ∈ wsX4_changed := by decide +kernel
  have hst_X5_keptWithin : Cond.static yX5_keptWithin ∈ wsX4_changed := by decide +kernel
  have L10 : ∀ (d10 : Nat) (k9 : Nat), n - k9 = d10 → k9 ≤ n → J p l e rmX4_changed s m args below meth c D A 7 0 0 (MQ below (jQc D (fun r0 w0 => r0 = some (.int (chg sh n va z)) ∧ w0 = zW a cI n va re tr sh co cc) A) args s rmX4_changed.cells rmX4_changed.slots A) (zW a cI n va re tr sh co cc) 10 [(6, .int (nI k9)), (4, .long (flowF sh n va z k9)), (3, .int (va z)), (0, .ref (a 0)), (1, .ref (a 1)), (2, .int (nI z))] [] := by
    intro d10
    induction d10 using Nat.strongRecOn with
    | _ d10 ih10 =>
      intro k9 hd hk
      refine j_iload CX 0 dX4_changed_10 rfl ?_
      refine j_aload_n CX 3 dX4_changed_12 rfl rfl ?_
      refine j_get CX 0 0 dX4_changed_13 rfl rfl hin4 (by decide) hfl9 rfl ?_
      refine j_icmpN_ge CX (by first | assumption | omega) (by first | assumption | omega | exact b2n_lt _ | exact t2n_lt _) 46 dX4_changed_16 (by decide) (fun h16 => ?_) (fun h16 => ?_)
      · refine j_iload_n CX 2 dX4_changed_46 rfl rfl ?_
        refine j_i2l CX dX4_changed_47 ?_
        refine j_lload CX 1 dX4_changed_48 rfl ?_
        refine j_ldc2 CX dX4_changed_50 hcn68 ?_
        refine j_ldiv CX dX4_changed_53 (by decide) ?_
        refine j_ladd CX dX4_changed_54 ?_
        refine j_callN CX (n := 1) (b := 0) (host := RX5) (pre := []) (post := zW a cI n va re tr sh co cc) (rest := []) (x_kept l D cI cZ cL (((va z).toInt64) + ((flowF sh n va z k9) / 1000))) gX4_changed_X5_keptWithin_n70 rfl CX.2.1.2 hini5 hst_X5_keptWithin (by decide +kernel) ⟨Nat.le_of_ble_eq_true rfl, Nat.le_of_ble_eq_true rfl⟩ rfl rfl rfl (Nat.le_of_ble_eq_true rfl) dX4_changed_55 ⟨Nat.le_refl _, Nat.le_refl _⟩ (fun r9 w9 h9 => ?_)
        obtain ⟨rfl, rfl⟩ := h9
        refine j_w (w' := zW a cI n va re tr sh co cc) rfl ?_
        refine j_st (st9 := [.int (kept (((va z).toInt64) + ((flowF sh n va z k9) / 1000)))]) rfl ?_
        exact j_iret CX hr hlocks dX4_changed_58 (⟨by unfold chg; rw [show n = k9 by omega], rfl⟩)
      · refine j_lload CX 1 dX4_changed_19 rfl ?_
        refine j_aload_n CX 3 dX4_changed_21 rfl rfl ?_
        refine j_iload_n CX 5 dX4_changed_22 rfl rfl ?_
        refine j_iload CX 0 dX4_changed_23 rfl ?_
        refine j_callV CX (n := 2) (pre := []) (post := []) (rest := [.long (flowF sh n va z k9)]) (qc := (RX4, TX4, 7)) (z_share l D cI cZ cL a n va re tr sh co cc z k9 hn hz (by omega)) gX4_changed_X4_shareBetween rfl (by decide +kernel) ⟨Nat.le_of_ble_eq_true rfl, Nat.le_of_ble_eq_true rfl⟩ rfl rfl rfl rfl rfl (Nat.le_of_ble_eq_true rfl) dX4_changed_25 ⟨Nat.le_refl _, Nat.le_refl _⟩ (fun r9 w9 h9 => ?_)
        obtain ⟨rfl, rfl⟩ := h9
        refine j_w (w' := zW a cI n va re tr sh co cc) rfl ?_
        refine j_st (st9 := [.int (sh (z * n + k9)), .long (flowF sh n va z k9)]) rfl ?_
        refine j_i2l CX dX4_changed_28 ?_
        refine j_aload_n CX 4 dX4_changed_29 rfl rfl ?_
        refine j_iload CX 0 dX4_changed_30 rfl ?_
        refine j_iald CX 1 k9 dX4_changed_32 rfl (rfl) (by first | assumption | omega) (by first | assumption | omega | (have := nn24 (by assumption); omega)) ?_
        refine j_iload_n CX 2 dX4_changed_33 rfl rfl ?_
        refine j_isub CX dX4_changed_34 ?_
        refine j_i2l CX dX4_changed_35 ?_
        refine j_lmul CX dX4_changed_36 ?_
        refine j_ladd CX dX4_changed_37 ?_
        refine j_topl (show ((flowF sh n va z k9) + (((sh (z * n + k9)).toInt64) * (((va k9) - (va z)).toInt64))) = flowF sh n va z (k9 + 1) from rfl) ?_
        refine j_lstore CX (lv' := [(4, .long (flowF sh n va z (k9 + 1))), (6, .int (nI k9)), (3, .int (va z)), (0, .ref (a 0)), (1, .ref (a 1)), (2, .int (nI z))]) dX4_changed_38 (by decide) rfl ?_
        refine j_iinc CX (v := nI (k9 + 1)) (lv' := [(6, .int (nI (k9 + 1))), (4, .long (flowF sh n va z (k9 + 1))), (3, .int (va z)), (0, .ref (a 0)), (1, .ref (a 1)), (2, .int (nI z))]) 1 dX4_changed_40 rfl (nI_1 _) (by decide) rfl ?_
        refine j_goto CX 10 dX4_changed_43 (by decide) ?_
        exact ih10 _ (by omega) (k9 + 1) rfl (by omega)
  show J p l e rmX4_changed s m args below meth c D A 7 0 0 (MQ below (jQc D (fun r0 w0 => r0 = some (.int (chg sh n va z)) ∧ w0 = zW a cI n va re tr sh co cc) A) args s rmX4_changed.cells rmX4_changed.slots A) (zW a cI n va re tr sh co cc) 0 [(0, .ref (a 0)), (1, .ref (a 1)), (2, .int (nI z))] []
  refine j_aload_n CX 1 dX4_changed_0 rfl rfl ?_
  refine j_iload_n CX 2 dX4_changed_1 rfl rfl ?_
  refine j_iald CX 1 z dX4_changed_2 rfl (rfl) (by first | assumption | omega) (by first | assumption | omega | (have := nn24 (by assumption); omega)) ?_
  refine j_istore_n CX (lv' := [(3, .int (va z)), (0, .ref (a 0)), (1, .ref (a 1)), (2, .int (nI z))]) dX4_changed_3 rfl (by decide) rfl ?_
  refine j_lconst CX dX4_changed_4 (show _ = (0 : Int64) by decide) ?_
  refine j_lstore CX (lv' := [(4, .long 0), (3, .int (va z)), (0, .ref (a 0)), (1, .ref (a 1)), (2, .int (nI z))]) dX4_changed_5 (by decide) rfl ?_
  refine j_iconst CX dX4_changed_7 (show _ = (nI 0 : Int32) by decide) ?_
  refine j_istore CX (lv' := [(6, .int (nI 0)), (4, .long 0), (3, .int (va z)), (0, .ref (a 0)), (1, .ref (a 1)), (2, .int (nI z))]) dX4_changed_8 (by decide) rfl ?_
  exact L10 _ 0 rfl (Nat.zero_le _)

set_option maxRecDepth 100000 in
set_option maxHeartbeats 4000000 in
theorem z_changed_t (l : Launch) (D : va_G) (cI cZ cL : ClassId) (a : Nat → Nat) (n : Nat) (va re tr sh co : Nat → Int32) (cc : Int32) (z : Nat) (hn : n ≤ 24) (hz : z < n) : Cg l D cI cZ cL yX4_changed wsX4_changed rmX4_changed [.ref (a 0), .ref (a 3), .int (nI z)] (zW a cI n va re tr sh co cc) (fun r0 w0 => r0 = some (.int (chg sh n tr z)) ∧ w0 = zW a cI n va re tr sh co cc) := by
  refine Cg.ofJ (own := RX4) (cc := cX4_changed) (maxL := 7) (ret := (some .int)) (by decide) rfl rfl (Nat.le_of_ble_eq_true rfl) ?_
  intro p e s m args below meth c A CX hr hlocks hname
  have hin4 : ∀ x ∈ u_ws RX4 TX4 7, x ∈ wsX4_changed := by decide +kernel
  have hfl9 : Cond.fieldLink RX4 9 (TX4 0).1 (TX4 0).2.1 (TX4 0).2.2.1 ∈ wsX4_changed := by decide +kernel
  have hcn68 : Cond.constantLong RX4 68 (1000) ∈ wsX4_changed := by decide +kernel
  have hini5 : Cond.initialized RX5 ∈ wsX4_changed := by decide +kernel
  have hst_X5_keptWithin : Cond.static yX5_keptWithin ∈ wsX4_changed := by decide +kernel
  have L10 : ∀ (d10 : Nat) (k9 : Nat), n - k9 = d10 → k9 ≤ n → J p l e rmX4_changed s m args below meth c D A 7 0 0 (MQ below (jQc D (fun r0 w0 => r0 = some (.int (chg sh n tr z)) ∧ w0 = zW a cI n va re tr sh co cc) A) args s rmX4_changed.cells rmX4_changed.slots A) (zW a cI n va re tr sh co cc) 10 [(6, .int (nI k9)), (4, .long (flowF sh n tr z k9)), (3, .int (tr z)), (0, .ref (a 0)), (1, .ref (a 3)), (2, .int (nI z))] [] := by
    intro d10
    induction d10 using Nat.strongRecOn with
    | _ d10 ih10 =>
      intro k9 hd hk
      refine j_iload CX 0 dX4_changed_10 rfl ?_
      refine j_aload_n CX 3 dX4_changed_12 rfl rfl ?_
      refine j_get CX 0 0 dX4_changed_13 rfl rfl hin4 (by decide) hfl9 rfl ?_
      refine j_icmpN_ge CX (by first | assumption | omega) (by first | assumption | omega | exact b2n_lt _ | exact t2n_lt _) 46 dX4_changed_16 (by decide) (fun h16 => ?_) (fun h16 => ?_)
      · refine j_iload_n CX 2 dX4_changed_46 rfl rfl ?_
        refine j_i2l CX dX4_changed_47 ?_
        refine j_lload CX 1 dX4_changed_48 rfl ?_
        refine j_ldc2 CX dX4_changed_50 hcn68 ?_
        refine j_ldiv CX dX4_changed_53 (by decide) ?_
        refine j_ladd CX dX4_changed_54 ?_
        refine j_callN CX (n := 1) (b := 0) (host := RX5) (pre := []) (post := zW a cI n va re tr sh co cc) (rest := []) (x_kept l D cI cZ cL (((tr z).toInt64) + ((flowF sh n tr z k9) / 1000))) gX4_changed_X5_keptWithin_n70 rfl CX.2.1.2 hini5 hst_X5_keptWithin (by decide +kernel) ⟨Nat.le_of_ble_eq_true rfl, Nat.le_of_ble_eq_true rfl⟩ rfl rfl rfl (Nat.le_of_ble_eq_true rfl) dX4_changed_55 ⟨Nat.le_refl _, Nat.le_refl _⟩ (fun r9 w9 h9 => ?_)
        obtain ⟨rfl, rfl⟩ := h9
        refine j_w (w' := zW a cI n va re tr sh co cc) rfl ?_
        refine j_st (st9 := [.int (kept (((tr z).toInt64) + ((flowF sh n tr z k9) / 1000)))]) rfl ?_
        exact j_iret CX hr hlocks dX4_changed_58 (⟨by unfold chg; rw [show n = k9 by omega], rfl⟩)
      · refine j_lload CX 1 dX4_changed_19 rfl ?_
        refine j_aload_n CX 3 dX4_changed_21 rfl rfl ?_
        refine j_iload_n CX 5 dX4_changed_22 rfl rfl ?_
        refine j_iload CX 0 dX4_changed_23 rfl ?_
        refine j_callV CX (n := 2) (pre := []) (post := []) (rest := [.long (flowF sh n tr z k9)]) (qc := (RX4, TX4, 7)) (z_share l D cI cZ cL a n va re tr sh co cc z k9 hn hz (by omega)) gX4_changed_X4_shareBetween rfl (by decide +kernel) ⟨Nat.le_of_ble_eq_true rfl, Nat.le_of_ble_eq_true rfl⟩ rfl rfl rfl rfl rfl (Nat.le_of_ble_eq_true rfl) dX4_changed_25 ⟨Nat.le_refl _, Nat.le_refl _⟩ (fun r9 w9 h9 => ?_)
        obtain ⟨rfl, rfl⟩ := h9
        refine j_w (w' := zW a cI n va re tr sh co cc) rfl ?_
        refine j_st (st9 := [.int (sh (z * n + k9)), .long (flowF sh n tr z k9)]) rfl ?_
        refine j_i2l CX dX4_changed_28 ?_
        refine j_aload_n CX 4 dX4_changed_29 rfl rfl ?_
        refine j_iload CX 0 dX4_changed_30 rfl ?_
        refine j_iald CX 3 k9 dX4_changed_32 rfl (rfl) (by first | assumption | omega) (by first | assumption | omega | (have := nn24 (by assumption); omega)) ?_
        refine j_iload_n CX 2 dX4_changed_33 rfl rfl ?_
        refine j_isub CX dX4_changed_34 ?_
        refine j_i2l CX dX4_changed_35 ?_
        refine j_lmul CX dX4_changed_36 ?_
        refine j_ladd CX dX4_changed_37 ?_
        refine j_topl (show ((flowF sh n tr z k9) + (((sh (z * n + k9)).toInt64) * (((tr k9) - (tr z)).toInt64))) = flowF sh n tr z (k9 + 1) from rfl) ?_
        refine j_lstore CX (lv' := [(4, .long (flowF sh n tr z (k9 + 1))), (6, .int (nI k9)), (3, .int (tr z)), (0, .ref (a 0)), (1, .ref (a 3)), (2, .int (nI z))]) dX4_changed_38 (by decide) rfl ?_
        refine j_iinc CX (v := nI (k9 + 1)) (lv' := [(6, .int (nI (k9 + 1))), (4, .long (flowF sh n tr z (k9 + 1))), (3, .int (tr z)), (0, .ref (a 0)), (1, .ref (a 3)), (2, .int (nI z))]) 1 dX4_changed_40 rfl (nI_1 _) (by decide) rfl ?_
        refine j_goto CX 10 dX4_changed_43 (by decide) ?_
        exact ih10 _ (by omega) (k9 + 1) rfl (by omega)
  show J p l e rmX4_changed s m args below meth c D A 7 0 0 (MQ below (jQc D (fun r0 w0 => r0 = some (.int (chg sh n tr z)) ∧ w0 = zW a cI n va re tr sh co cc) A) args s rmX4_changed.cells rmX4_changed.slots A) (zW a cI n va re tr sh co cc) 0 [(0, .ref (a 0)), (1, .ref (a 3)), (2, .int (nI z))] []
  refine j_aload_n CX 1 dX4_changed_0 rfl rfl ?_
  refine j_iload_n CX 2 dX4_changed_1 rfl rfl ?_
  refine j_iald CX 3 z dX4_changed_2 rfl (rfl) (by first | assumption | omega) (by first | assumption | omega | (have := nn24 (by assumption); omega)) ?_
  refine j_istore_n CX (lv' := [(3, .int (tr z)), (0, .ref (a 0)), (1, .ref (a 3)), (2, .int (nI z))]) dX4_changed_3 rfl (by decide) rfl ?_
  refine j_lconst CX dX4_changed_4 (show _ = (0 : Int64) by decide) ?_
  refine j_lstore CX (lv' := [(4, .long 0), (3, .int (tr z)), (0, .ref (a 0)), (1, .ref (a 3)), (2, .int (nI z))]) dX4_changed_5 (by decide) rfl ?_
  refine j_iconst CX dX4_changed_7 (show _ = (nI 0 : Int32) by decide) ?_
  refine j_istore CX (lv' := [(6, .int (nI 0)), (4, .long 0), (3, .int (tr z)), (0, .ref (a 0)), (1, .ref (a 3)), (2, .int (nI z))]) dX4_changed_8 (by decide) rfl ?_
  exact L10 _ 0 rfl (Nat.zero_le _)

abbrev rmX4_change : Room := { frames := 3, cells := 0, slots := 0, locals := 111 }
set_option maxRecDepth 100000 in
set_option maxHeartbeats 4000000 in
theorem z_change (l : Launch) (D : va_G) (cI cZ cL : ClassId) (a : Nat → Nat) (n : Nat) (va re tr sh co : Nat → Int32) (cc : Int32) (z : Nat) (hn : n ≤ 24) (hz : z < n) : Cg l D cI cZ cL yX4_change wsX4_change rmX4_change [.ref (a 0), .int (nI z)] (zW a cI n va re tr sh co cc) (fun r0 w0 => r0 = none ∧ w0 = zW a cI n (upd va z (chg sh n va z)) re tr sh co cc) := by
  refine Cg.ofJ (own := RX4) (cc := cX4_change) (maxL := 2) (ret := none) (by decide) rfl rfl (Nat.le_of_ble_eq_true rfl) ?_
  intro p e s m args below meth c A CX hr hlocks hname
  have hin4 : ∀ x ∈ u_ws RX4 TX4 7, x ∈ wsX4_change := by decide +kernel
  have hfl15 : Cond.fieldLink RX4 15 (TX4 1).1 (TX4 1).2.1 (TX4 1).2.2.1 ∈ wsX4_change := by decide +kernel
  show J p l e rmX4_change s m args below meth c D A 2 0 0 (MQ below (jQc D (fun r0 w0 => r0 = none ∧ w0 = zW a cI n (upd va z (chg sh n va z)) re tr sh co cc) A) args s rmX4_change.cells rmX4_change.slots A) (zW a cI n va re tr sh co cc) 0 [(0, .ref (a 0)), (1, .int (nI z))] []
  refine j_aload_n CX 0 dX4_change_0 rfl rfl ?_
  refine j_get CX 0 1 dX4_change_1 rfl rfl hin4 (by decide) hfl15 rfl ?_
  refine j_iload_n CX 1 dX4_change_4 rfl rfl ?_
  refine j_aload_n CX 0 dX4_change_5 rfl rfl ?_
  refine j_aload_n CX 0 dX4_change_6 rfl rfl ?_
  refine j_get CX 0 1 dX4_change_7 rfl rfl hin4 (by decide) hfl15 rfl ?_
  refine j_iload_n CX 1 dX4_change_10 rfl rfl ?_
  refine j_callV CX (n := 2) (pre := []) (post := []) (rest := [.int (nI z), .ref (a 1)]) (qc := (RX4, TX4, 7)) (z_changed_v l D cI cZ cL a n va re tr sh co cc z hn hz) gX4_change_X4_changed rfl (by decide +kernel) ⟨Nat.le_of_ble_eq_true rfl, Nat.le_of_ble_eq_true rfl⟩ rfl rfl rfl rfl rfl (Nat.le_of_ble_eq_true rfl) dX4_change_11 ⟨Nat.le_refl _, Nat.le_refl _⟩ (fun r9 w9 h9 => ?_)
  obtain ⟨rfl, rfl⟩ := h9
  refine j_w (w' := zW a cI n va re tr sh co cc) rfl ?_
  refine j_st (st9 := [.int (chg sh n va z), .int (nI z), .ref (a 1)]) rfl ?_
  refine j_iast CX (w' := zW a cI n (upd va z (chg sh n va z)) re tr sh co cc) 1 z dX4_change_14 rfl (rfl) (by first | assumption | omega) (by first | assumption | omega | (have := nn24 (by assumption); omega)) rfl ?_
  exact j_vret CX hr hlocks dX4_change_15 (⟨rfl, rfl⟩)

abbrev rmX4_tryStage : Room := { frames := 3, cells := 0, slots := 0, locals := 111 }
set_option maxRecDepth 100000 in
set_option maxHeartbeats 4000000 in
theorem z_try (l : Launch) (D : va_G) (cI cZ cL : ClassId) (a : Nat → Nat) (n : Nat) (va re tr sh : Nat → Int32) (C : Nat → Nat) (cc : Int32) (cq : Nat) (hn : n ≤ 24) (hc : cq < 2 ^ 31) (hC : ∀ k, k < n → C k < 2 ^ 31) : Cg l D cI cZ cL yX4_tryStage wsX4_tryStage rmX4_tryStage [.ref (a 0), .int (nI cq)] (zW a cI n va re tr sh (nf C) cc) (fun r0 w0 => r0 = none ∧ w0 = zW a cI n va re (ftS sh n C cq tr n) sh (nf C) cc) := by
  refine Cg.ofJ (own := RX4) (cc := cX4_tryStage) (maxL := 3) (ret := none) (by decide) rfl rfl (Nat.le_of_ble_eq_true rfl) ?_
  intro p e s m args below meth c A CX hr hlocks hname
  have hin4 : ∀ x ∈ u_ws RX4 TX4 7, x ∈ wsX4_tryStage := by decide +kernel
  have hfl9 : Cond.fieldLink RX4 9 (TX4 0).1 (TX4 0).2.1 (TX4 0).2.2.1 ∈ wsX4_tryStage := by decide +kernel
  have hfl28 : Cond.fieldLink RX4 28 (TX4 5).1 (TX4 5).2.1 (TX4 5).2.2.1 ∈ wsX4_tryStage := by decide +kernel
  have hfl22 : Cond.fieldLink RX4 22 (TX4 3).1 (TX4 3).2.1 (TX4 3).2.2.1 ∈ wsX4_tryStage := by decide +kernel
  have L2 : ∀ (d2 : Nat) (k9 : Nat), n - k9 = d2 → k9 ≤ n → J p l e rmX4_tryStage s m args below meth c D A 3 0 0 (MQ below (jQc D (fun r0 w0 => r0 = none ∧ w0 = zW a cI n va re (ftS sh n C cq tr n) sh (nf C) cc) A) args s rmX4_tryStage.cells rmX4_tryStage.slots A) (zW a cI n va re (ftS sh n C cq tr k9) sh (nf C) cc) 2 [(2, .int (nI k9)), (0, .ref (a 0)), (1, .int (nI cq))] [] := by
    intro d2
    induction d2 using Nat.strongRecOn with
    | _ d2 ih2 =>
      intro k9 hd hk
      refine j_iload_n CX 0 dX4_tryStage_2 rfl rfl ?_
      refine j_aload_n CX 1 dX4_tryStage_3 rfl rfl ?_
      refine j_get CX 0 0 dX4_tryStage_4 rfl rfl hin4 (by decide) hfl9 rfl ?_
      refine j_icmpN_ge CX (by first | assumption | omega) (by first | assumption | omega | exact b2n_lt _ | exact t2n_lt _) 41 dX4_tryStage_7 (by decide) (fun h7 => ?_) (fun h7 => ?_)
      · exact j_vret CX hr hlocks dX4_tryStage_41 (⟨rfl, by rw [show k9 = n by omega]⟩)
      · have hCk := hC k9 (by omega)
        refine j_aload_n CX 1 dX4_tryStage_10 rfl rfl ?_
        refine j_get CX 0 5 dX4_tryStage_11 rfl rfl hin4 (by decide) hfl28 rfl ?_
        refine j_iload_n CX 0 dX4_tryStage_14 rfl rfl ?_
        refine j_iald CX 5 k9 dX4_tryStage_15 rfl (rfl) (by first | assumption | omega) (by first | assumption | omega | (have := nn24 (by assumption); omega)) ?_
        refine j_iload_n CX 2 dX4_tryStage_16 rfl rfl ?_
        refine j_icmpN_ne CX (by first | assumption | omega) (by first | assumption | omega | exact b2n_lt _ | exact t2n_lt _) 35 dX4_tryStage_17 (by decide) (fun h17 => ?_) (fun h17 => ?_)
        · refine j_w (w' := zW a cI n va re (ftS sh n C cq tr (k9 + 1)) sh (nf C) cc) (by rw [ftS_n h17]) ?_
          refine j_iinc CX (v := nI (k9 + 1)) (lv' := [(2, .int (nI (k9 + 1))), (0, .ref (a 0)), (1, .int (nI cq))]) 0 dX4_tryStage_35 rfl (nI_1 _) (by decide) rfl ?_
          refine j_goto CX 2 dX4_tryStage_38 (by decide) ?_
          exact ih2 _ (by omega) (k9 + 1) rfl (by omega)
        · refine j_aload_n CX 1 dX4_tryStage_20 rfl rfl ?_
          refine j_get CX 0 3 dX4_tryStage_21 rfl rfl hin4 (by decide) hfl22 rfl ?_
          refine j_iload_n CX 0 dX4_tryStage_24 rfl rfl ?_
          refine j_aload_n CX 1 dX4_tryStage_25 rfl rfl ?_
          refine j_aload_n CX 1 dX4_tryStage_26 rfl rfl ?_
          refine j_get CX 0 3 dX4_tryStage_27 rfl rfl hin4 (by decide) hfl22 rfl ?_
          refine j_iload_n CX 0 dX4_tryStage_30 rfl rfl ?_
          refine j_callV CX (n := 2) (pre := []) (post := []) (rest := [.int (nI k9), .ref (a 3)]) (qc := (RX4, TX4, 7)) (z_changed_t l D cI cZ cL a n va re (ftS sh n C cq tr k9) sh (nf C) cc k9 hn (by omega)) gX4_tryStage_X4_changed rfl (by decide +kernel) ⟨Nat.le_of_ble_eq_true rfl, Nat.le_of_ble_eq_true rfl⟩ rfl rfl rfl rfl rfl (Nat.le_of_ble_eq_true rfl) dX4_tryStage_31 ⟨Nat.le_refl _, Nat.le_refl _⟩ (fun r9 w9 h9 => ?_)
          obtain ⟨rfl, rfl⟩ := h9
          refine j_w (w' := zW a cI n va re (ftS sh n C cq tr k9) sh (nf C) cc) rfl ?_
          refine j_st (st9 := [.int (chg sh n (ftS sh n C cq tr k9) k9), .int (nI k9), .ref (a 3)]) rfl ?_
          refine j_iast CX (w' := zW a cI n va re (upd (ftS sh n C cq tr k9) k9 (chg sh n (ftS sh n C cq tr k9) k9)) sh (nf C) cc) 3 k9 dX4_tryStage_34 rfl (rfl) (by first | assumption | omega) (by first | assumption | omega | (have := nn24 (by assumption); omega)) rfl ?_
          refine j_w (show zW a cI n va re (upd (ftS sh n C cq tr k9) k9 (chg sh n (ftS sh n C cq tr k9) k9)) sh (nf C) cc = zW a cI n va re (ftS sh n C cq tr (k9 + 1)) sh (nf C) cc by rw [ftS_y h17]) ?_
          refine j_iinc CX (v := nI (k9 + 1)) (lv' := [(2, .int (nI (k9 + 1))), (0, .ref (a 0)), (1, .int (nI cq))]) 0 dX4_tryStage_35 rfl (nI_1 _) (by decide) rfl ?_
          refine j_goto CX 2 dX4_tryStage_38 (by decide) ?_
          exact ih2 _ (by omega) (k9 + 1) rfl (by omega)
  show J p l e rmX4_tryStage s m args below meth c D A 3 0 0 (MQ below (jQc D (fun r0 w0 => r0 = none ∧ w0 = zW a cI n va re (ftS sh n C cq tr n) sh (nf C) cc) A) args s rmX4_tryStage.cells rmX4_tryStage.slots A) (zW a cI n va re tr sh (nf C) cc) 0 [(0, .ref (a 0)), (1, .int (nI cq))] []
  refine j_iconst CX dX4_tryStage_0 (show _ = (nI 0 : Int32) by decide) ?_
  refine j_istore_n CX (lv' := [(2, .int (nI 0)), (0, .ref (a 0)), (1, .int (nI cq))]) dX4_tryStage_1 rfl (by decide) rfl ?_
  exact L2 _ 0 rfl (Nat.zero_le _)

abbrev rmX4_valueAfter : Room := { frames := 4, cells := 0, slots := 0, locals := 133 }
set_option maxRecDepth 100000 in
set_option maxHeartbeats 4000000 in
theorem z_after (l : Launch) (D : va_G) (cI cZ cL : ClassId) (a : Nat → Nat) (n : Nat) (va re tr sh : Nat → Int32) (C : Nat → Nat) (K : Nat) (z h : Nat) (hn : n ≤ 24) (hz : z < n) (hh : h ≤ 50) (hK : K ≤ 24) (hC : ∀ k, k < n → C k < 2 ^ 31) : Cg l D cI cZ cL yX4_valueAfter wsX4_valueAfter rmX4_valueAfter [.ref (a 0), .int (nI z), .int (nI h)] (zW a cI n va re tr sh (nf C) (nI K)) (fun r0 w0 => r0 = some (.int ((hrsF sh n C K (va_cpy va tr 0 0 n) h) z)) ∧ w0 = zW a cI n va re (hrsF sh n C K (va_cpy va tr 0 0 n) h) sh (nf C) (nI K)) := by
  refine Cg.ofJ (own := RX4) (cc := cX4_valueAfter) (maxL := 5) (ret := (some .int)) (by decide) rfl rfl (Nat.le_of_ble_eq_true rfl) ?_
  intro p e s m args below meth c A CX hr hlocks hname
  have hin4 : ∀ x ∈ u_ws RX4 TX4 7, x ∈ wsX4_valueAfter := by decide +kernel
  have hfl31 : Cond.fieldLink RX4 31 (TX4 6).1 (TX4 6).2.1 (TX4 6).2.2.1 ∈ wsX4_valueAfter := by decide +kernel
  have hfl22 : Cond.fieldLink RX4 22 (TX4 3).1 (TX4 3).2.1 (TX4 3).2.2.1 ∈ wsX4_valueAfter := by decide +kernel
  have hfl15 : Cond.fieldLink RX4 15 (TX4 1).1 (TX4 1).2.1 (TX4 1).2.2.1 ∈ wsX4_valueAfter := by decide +kernel
  have hfl9 : Cond.fieldLink RX4 9 (TX4 0).1 (TX4 0).2.1 (TX4 0).2.2.1 ∈ wsX4_valueAfter := by decide +kernel
  have hml37 : Cond.methodLink RX4 37 arraycopyName ∈ wsX4_valueAfter := by decide +kernel
  have hacn : Cond.native arraycopyName ∈ wsX4_valueAfter := by decide +kernel
  have hacs : Cond.static arraycopyName ∈ wsX4_valueAfter := by decide +kernel
  have hsys : Cond.initialized "java/lang/System" ∈ wsX4_valueAfter := by decide +kernel
  have L19 : ∀ (d19 : Nat) (h9 : Nat), h - h9 = d19 → h9 ≤ h → J p l e rmX4_valueAfter s m args below meth c D A 5 0 0 (MQ below (jQc D (fun r0 w0 => r0 = some (.int ((hrsF sh n C K (va_cpy va tr 0 0 n) h) z)) ∧ w0 = zW a cI n va re (hrsF sh n C K (va_cpy va tr 0 0 n) h) sh (nf C) (nI K)) A) args s rmX4_valueAfter.cells rmX4_valueAfter.slots A) (zW a cI n va re (hrsF sh n C K (va_cpy va tr 0 0 n) h9) sh (nf C) (nI K)) 19 [(3, .int (nI h9)), (0, .ref (a 0)), (1, .int (nI z)), (2, .int (nI h))] [] := by
    intro d19
    induction d19 using Nat.strongRecOn with
    | _ d19 ih19 =>
      intro h9 hd hk
      have L27 : ∀ (d27 : Nat) (c9 : Nat), K - c9 = d27 → h9 < h → c9 ≤ K → J p l e rmX4_valueAfter s m args below meth c D A 5 0 0 (MQ below (jQc D (fun r0 w0 => r0 = some (.int ((hrsF sh n C K (va_cpy va tr 0 0 n) h) z)) ∧ w0 = zW a cI n va re (hrsF sh n C K (va_cpy va tr 0 0 n) h) sh (nf C) (nI K)) A) args s rmX4_valueAfter.cells rmX4_valueAfter.slots A) (zW a cI n va re (hrF sh n C (hrsF sh n C K (va_cpy va tr 0 0 n) h9) c9) sh (nf C) (nI K)) 27 [(4, .int (nI c9)), (3, .int (nI h9)), (0, .ref (a 0)), (1, .int (nI z)), (2, .int (nI h))] [] := by
        intro d27
        induction d27 using Nat.strongRecOn with
        | _ d27 ih27 =>
          intro c9 hd2 hh9 hc
          refine j_iload CX 0 dX4_valueAfter_27 rfl ?_
          refine j_aload_n CX 2 dX4_valueAfter_29 rfl rfl ?_
          refine j_get CX 0 6 dX4_valueAfter_30 rfl rfl hin4 (by decide) hfl31 rfl ?_
          refine j_icmpN_ge CX (by first | assumption | omega) (by first | assumption | omega | exact b2n_lt _ | exact t2n_lt _) 48 dX4_valueAfter_33 (by decide) (fun h33 => ?_) (fun h33 => ?_)
          · refine j_iinc CX (v := nI (h9 + 1)) (lv' := [(3, .int (nI (h9 + 1))), (4, .int (nI c9)), (0, .ref (a 0)), (1, .int (nI z)), (2, .int (nI h))]) 1 dX4_valueAfter_48 rfl (nI_1 _) (by decide) rfl ?_
            refine j_goto CX 19 dX4_valueAfter_51 (by decide) ?_
            refine j_lv (lv' := [(3, .int (nI (h9 + 1))), (0, .ref (a 0)), (1, .int (nI z)), (2, .int (nI h))]) [0, 2, 3, 4] rfl ?_
            rw [show c9 = K by omega]
            exact ih19 _ (by omega) (h9 + 1) rfl (by omega)
          · refine j_aload_n CX 2 dX4_valueAfter_36 rfl rfl ?_
            refine j_iload CX 0 dX4_valueAfter_37 rfl ?_
            refine j_callV CX (n := 1) (pre := []) (post := []) (rest := []) (qc := (RX4, TX4, 7)) (z_try l D cI cZ cL a n va re (hrF sh n C (hrsF sh n C K (va_cpy va tr 0 0 n) h9) c9) sh C (nI K) c9 hn (by omega) hC) gX4_valueAfter_X4_tryStage rfl (by decide +kernel) ⟨Nat.le_of_ble_eq_true rfl, Nat.le_of_ble_eq_true rfl⟩ rfl rfl rfl rfl rfl (Nat.le_of_ble_eq_true rfl) dX4_valueAfter_39 ⟨Nat.le_refl _, Nat.le_refl _⟩ (fun r9 w9 h9 => ?_)
            obtain ⟨rfl, rfl⟩ := h9
            refine j_w (w' := zW a cI n va re (hrF sh n C (hrsF sh n C K (va_cpy va tr 0 0 n) h9) (c9 + 1)) sh (nf C) (nI K)) rfl ?_
            refine j_st (st9 := []) rfl ?_
            refine j_iinc CX (v := nI (c9 + 1)) (lv' := [(4, .int (nI (c9 + 1))), (3, .int (nI h9)), (0, .ref (a 0)), (1, .int (nI z)), (2, .int (nI h))]) 0 dX4_valueAfter_42 rfl (nI_1 _) (by decide) rfl ?_
            refine j_goto CX 27 dX4_valueAfter_45 (by decide) ?_
            exact ih27 _ (by omega) (c9 + 1) rfl hh9 (by omega)
      refine j_iload_n CX 0 dX4_valueAfter_19 rfl rfl ?_
      refine j_iload_n CX 3 dX4_valueAfter_20 rfl rfl ?_
      refine j_icmpN_ge CX (by first | assumption | omega) (by first | assumption | omega | exact b2n_lt _ | exact t2n_lt _) 54 dX4_valueAfter_21 (by decide) (fun h21 => ?_) (fun h21 => ?_)
      · refine j_aload_n CX 1 dX4_valueAfter_54 rfl rfl ?_
        refine j_get CX 0 3 dX4_valueAfter_55 rfl rfl hin4 (by decide) hfl22 rfl ?_
        refine j_iload_n CX 2 dX4_valueAfter_58 rfl rfl ?_
        refine j_iald CX 3 z dX4_valueAfter_59 rfl (rfl) (by first | assumption | omega) (by first | assumption | omega | (have := nn24 (by assumption); omega)) ?_
        exact j_iret CX hr hlocks dX4_valueAfter_60 (⟨by rw [show h = h9 by omega], by rw [show h = h9 by omega]⟩)
      · refine j_iconst CX dX4_valueAfter_24 (show _ = (nI 0 : Int32) by decide) ?_
        refine j_istore CX (lv' := [(4, .int (nI 0)), (3, .int (nI h9)), (0, .ref (a 0)), (1, .int (nI z)), (2, .int (nI h))]) dX4_valueAfter_25 (by decide) rfl ?_
        exact L27 _ 0 rfl (by omega) (Nat.zero_le _)
  show J p l e rmX4_valueAfter s m args below meth c D A 5 0 0 (MQ below (jQc D (fun r0 w0 => r0 = some (.int ((hrsF sh n C K (va_cpy va tr 0 0 n) h) z)) ∧ w0 = zW a cI n va re (hrsF sh n C K (va_cpy va tr 0 0 n) h) sh (nf C) (nI K)) A) args s rmX4_valueAfter.cells rmX4_valueAfter.slots A) (zW a cI n va re tr sh (nf C) (nI K)) 0 [(0, .ref (a 0)), (1, .int (nI z)), (2, .int (nI h))] []
  refine j_aload_n CX 0 dX4_valueAfter_0 rfl rfl ?_
  refine j_get CX 0 1 dX4_valueAfter_1 rfl rfl hin4 (by decide) hfl15 rfl ?_
  refine j_iconst CX dX4_valueAfter_4 (show _ = (nI 0 : Int32) by decide) ?_
  refine j_aload_n CX 0 dX4_valueAfter_5 rfl rfl ?_
  refine j_get CX 0 3 dX4_valueAfter_6 rfl rfl hin4 (by decide) hfl22 rfl ?_
  refine j_iconst CX dX4_valueAfter_9 (show _ = (nI 0 : Int32) by decide) ?_
  refine j_aload_n CX 0 dX4_valueAfter_10 rfl rfl ?_
  refine j_get CX 0 0 dX4_valueAfter_11 rfl rfl hin4 (by decide) hfl9 rfl ?_
  refine j_copyi CX (w' := zW a cI n va re (va_cpy va tr 0 0 n) sh (nf C) (nI K)) 1 3 0 0 n dX4_valueAfter_14 hml37 hacn hacs hsys rfl rfl rfl rfl rfl (by omega) (by omega) (by omega) (by omega) (Nat.le_of_ble_eq_true rfl) (Nat.le_of_ble_eq_true rfl) rfl ?_
  refine j_iconst CX dX4_valueAfter_17 (show _ = (nI 0 : Int32) by decide) ?_
  refine j_istore_n CX (lv' := [(3, .int (nI 0)), (0, .ref (a 0)), (1, .int (nI z)), (2, .int (nI h))]) dX4_valueAfter_18 rfl (by decide) rfl ?_
  exact L19 _ 0 rfl (Nat.zero_le _)

abbrev rmTS0 : Room := { frames := 2, cells := 0, slots := 0, locals := 200 }
set_option maxRecDepth 100000 in
set_option maxHeartbeats 4000000 in
theorem z_ts0 (l : Launch) (D : va_G) (cI cZ cL : ClassId) (a : Nat → Nat) (n : Nat) (va re tr sh co : Nat → Int32) (cc : Int32) (f c0 : Nat) (hn : n ≤ 24) (h1 : 1 ≤ c0) (hc : c0 ≤ 1) (hf : f + c0 ≤ n) : Cg l D cI cZ cL yX4_treeSum wsX4_treeSum rmTS0 [.ref (a 1), .int (nI f), .int (nI c0), .int (nI 5)] (zW a cI n va re tr sh co cc) (fun r0 w0 => r0 = some (.int (tsF va 0 f c0)) ∧ w0 = zW a cI n va re tr sh co cc) := by
  refine Cg.ofJ (own := RX4) (cc := cX4_treeSum) (maxL := 7) (ret := (some .int)) (by decide) rfl rfl (Nat.le_of_ble_eq_true rfl) ?_
  intro p e s m args below meth c A CX hr hlocks hname
  show J p l e rmTS0 s m args below meth c D A 7 0 0 (MQ below (jQc D (fun r0 w0 => r0 = some (.int (tsF va 0 f c0)) ∧ w0 = zW a cI n va re tr sh co cc) A) args s rmTS0.cells rmTS0.slots A) (zW a cI n va re tr sh co cc) 0 [(0, .ref (a 1)), (1, .int (nI f)), (2, .int (nI c0)), (3, .int (nI 5))] []
  refine j_iload_n CX 2 dX4_treeSum_0 rfl rfl ?_
  refine j_iconst CX dX4_treeSum_1 (show _ = (nI 1 : Int32) by decide) ?_
  refine j_icmpN_le CX (by first | assumption | omega) (by first | assumption | omega | exact b2n_lt _ | exact t2n_lt _) 11 dX4_treeSum_2 (by decide) (fun h2 => ?_) (fun h2 => ?_)
  · refine j_aload_n CX 0 dX4_treeSum_11 rfl rfl ?_
    refine j_iload_n CX 1 dX4_treeSum_12 rfl rfl ?_
    refine j_iald CX 1 f dX4_treeSum_13 rfl (rfl) (by first | assumption | omega) (by first | assumption | omega | (have := nn24 (by assumption); omega)) ?_
    exact j_iret CX hr hlocks dX4_treeSum_14 (⟨by first | rfl | (show _ = some (Value.int (if _ then _ else _)); rw [if_pos (by omega)]), rfl⟩)
  · exact absurd h2 (by omega)

abbrev rmTS1 : Room := { frames := 3, cells := 0, slots := 0, locals := 240 }
set_option maxRecDepth 100000 in
set_option maxHeartbeats 4000000 in
theorem z_ts1 (l : Launch) (D : va_G) (cI cZ cL : ClassId) (a : Nat → Nat) (n : Nat) (va re tr sh co : Nat → Int32) (cc : Int32) (f c0 : Nat) (hn : n ≤ 24) (h1 : 1 ≤ c0) (hc : c0 ≤ 2) (hf : f + c0 ≤ n) : Cg l D cI cZ cL yX4_treeSum wsX4_treeSum rmTS1 [.ref (a 1), .int (nI f), .int (nI c0), .int (nI 4)] (zW a cI n va re tr sh co cc) (fun r0 w0 => r0 = some (.int (tsF va 1 f c0)) ∧ w0 = zW a cI n va re tr sh co cc) := by
  refine Cg.ofJ (own := RX4) (cc := cX4_treeSum) (maxL := 7) (ret := (some .int)) (by decide) rfl rfl (Nat.le_of_ble_eq_true rfl) ?_
  intro p e s m args below meth c A CX hr hlocks hname
  have hini5 : Cond.initialized RX5 ∈ wsX4_treeSum := by decide +kernel
  have hst_X5_keptWithin : Cond.static yX5_keptWithin ∈ wsX4_treeSum := by decide +kernel
  show J p l e rmTS1 s m args below meth c D A 7 0 0 (MQ below (jQc D (fun r0 w0 => r0 = some (.int (tsF va 1 f c0)) ∧ w0 = zW a cI n va re tr sh co cc) A) args s rmTS1.cells rmTS1.slots A) (zW a cI n va re tr sh co cc) 0 [(0, .ref (a 1)), (1, .int (nI f)), (2, .int (nI c0)), (3, .int (nI 4))] []
  refine j_iload_n CX 2 dX4_treeSum_0 rfl rfl ?_
  refine j_iconst CX dX4_treeSum_1 (show _ = (nI 1 : Int32) by decide) ?_
  refine j_icmpN_le CX (by first | assumption | omega) (by first | assumption | omega | exact b2n_lt _ | exact t2n_lt _) 11 dX4_treeSum_2 (by decide) (fun h2 => ?_) (fun h2 => ?_)
  · refine j_aload_n CX 0 dX4_treeSum_11 rfl rfl ?_
    refine j_iload_n CX 1 dX4_treeSum_12 rfl rfl ?_
    refine j_iald CX 1 f dX4_treeSum_13 rfl (rfl) (by first | assumption | omega) (by first | assumption | omega | (have := nn24 (by assumption); omega)) ?_
    exact j_iret CX hr hlocks dX4_treeSum_14 (⟨by first | rfl | (show _ = some (Value.int (if _ then _ else _)); rw [if_pos (by omega)]), rfl⟩)
  · refine j_iload_n CX 3 dX4_treeSum_5 rfl rfl ?_
    refine j_bipush CX dX4_treeSum_6 (show _ = (nI 8 : Int32) by decide) ?_
    refine j_icmpN_le CX (by first | assumption | omega) (by first | assumption | omega | exact b2n_lt _ | exact t2n_lt _) 15 dX4_treeSum_8 (by decide) (fun h8 => ?_) (fun h8 => absurd h8 (by decide))
    refine j_iload_n CX 2 dX4_treeSum_15 rfl rfl ?_
    refine j_iconst CX dX4_treeSum_16 (show _ = (nI 1 : Int32) by decide) ?_
    refine j_iadd CX dX4_treeSum_17 ?_
    refine j_top (show (nI c0) + (nI 1) = nI (c0 + 1) from nI_add _ _) ?_
    refine j_iconst CX dX4_treeSum_18 (show _ = (nI 2 : Int32) by decide) ?_
    refine j_idiv CX dX4_treeSum_19 (by decide) ?_
    refine j_top (show ((nI (c0 + 1)) / (nI 2)) = nI ((c0 + 1) / 2) from pk_div (by omega) (by decide) (by decide)) ?_
    refine j_istore CX (lv' := [(4, .int (nI ((c0 + 1) / 2))), (0, .ref (a 1)), (1, .int (nI f)), (2, .int (nI c0)), (3, .int (nI 4))]) dX4_treeSum_20 (by decide) rfl ?_
    refine j_aload_n CX 1 dX4_treeSum_22 rfl rfl ?_
    refine j_iload_n CX 2 dX4_treeSum_23 rfl rfl ?_
    refine j_iload CX 0 dX4_treeSum_24 rfl ?_
    refine j_iload_n CX 4 dX4_treeSum_26 rfl rfl ?_
    refine j_iconst CX dX4_treeSum_27 (show _ = (nI 1 : Int32) by decide) ?_
    refine j_iadd CX dX4_treeSum_28 ?_
    refine j_top (show (nI 4) + (nI 1) = nI (4 + 1) from nI_add _ _) ?_
    refine j_callS CX (n := 4) (b := 0) (pre := []) (post := []) (rest := []) (z_ts0 l D cI cZ cL a n va re tr sh co cc f ((c0 + 1) / 2) hn (by omega) (by omega) (by omega)) gX4_treeSum_X4_treeSum rfl (by decide +kernel) ⟨Nat.le_of_ble_eq_true rfl, Nat.le_of_ble_eq_true rfl⟩ rfl rfl rfl (Nat.le_of_ble_eq_true rfl) dX4_treeSum_29 ⟨Nat.le_refl _, Nat.le_refl _⟩ (fun r9 w9 h9 => ?_)
    obtain ⟨rfl, rfl⟩ := h9
    refine j_w (w' := zW a cI n va re tr sh co cc) rfl ?_
    refine j_st (st9 := [.int (tsF va 0 f ((c0 + 1) / 2))]) rfl ?_
    refine j_istore CX (lv' := [(5, .int (tsF va 0 f ((c0 + 1) / 2))), (4, .int (nI ((c0 + 1) / 2))), (0, .ref (a 1)), (1, .int (nI f)), (2, .int (nI c0)), (3, .int (nI 4))]) dX4_treeSum_32 (by decide) rfl ?_
    refine j_aload_n CX 2 dX4_treeSum_34 rfl rfl ?_
    refine j_iload_n CX 3 dX4_treeSum_35 rfl rfl ?_
    refine j_iload CX 1 dX4_treeSum_36 rfl ?_
    refine j_iadd CX dX4_treeSum_38 ?_
    refine j_top (show (nI f) + (nI ((c0 + 1) / 2)) = nI (f + ((c0 + 1) / 2)) from nI_add _ _) ?_
    refine j_iload_n CX 4 dX4_treeSum_39 rfl rfl ?_
    refine j_iload CX 1 dX4_treeSum_40 rfl ?_
    refine j_isub CX dX4_treeSum_42 ?_
    refine j_top (show ((nI c0) - (nI ((c0 + 1) / 2))) = nI (c0 - (c0 + 1) / 2) from pk_sub (by omega)) ?_
    refine j_iload_n CX 5 dX4_treeSum_43 rfl rfl ?_
    refine j_iconst CX dX4_treeSum_44 (show _ = (nI 1 : Int32) by decide) ?_
    refine j_iadd CX dX4_treeSum_45 ?_
    refine j_top (show (nI 4) + (nI 1) = nI (4 + 1) from nI_add _ _) ?_
    refine j_callS CX (n := 4) (b := 0) (pre := []) (post := []) (rest := []) (z_ts0 l D cI cZ cL a n va re tr sh co cc (f + ((c0 + 1) / 2)) (c0 - (c0 + 1) / 2) hn (by omega) (by omega) (by omega)) gX4_treeSum_X4_treeSum rfl (by decide +kernel) ⟨Nat.le_of_ble_eq_true rfl, Nat.le_of_ble_eq_true rfl⟩ rfl rfl rfl (Nat.le_of_ble_eq_true rfl) dX4_treeSum_46 ⟨Nat.le_refl _, Nat.le_refl _⟩ (fun r9 w9 h9 => ?_)
    obtain ⟨rfl, rfl⟩ := h9
    refine j_w (w' := zW a cI n va re tr sh co cc) rfl ?_
    refine j_st (st9 := [.int (tsF va 0 (f + ((c0 + 1) / 2)) (c0 - (c0 + 1) / 2))]) rfl ?_
    refine j_istore CX (lv' := [(6, .int (tsF va 0 (f + ((c0 + 1) / 2)) (c0 - (c0 + 1) / 2))), (5, .int (tsF va 0 f ((c0 + 1) / 2))), (4, .int (nI ((c0 + 1) / 2))), (0, .ref (a 1)), (1, .int (nI f)), (2, .int (nI c0)), (3, .int (nI 4))]) dX4_treeSum_49 (by decide) rfl ?_
    refine j_iload CX 1 dX4_treeSum_51 rfl ?_
    refine j_iload CX 0 dX4_treeSum_53 rfl ?_
    refine j_iadd CX dX4_treeSum_55 ?_
    refine j_i2l CX dX4_treeSum_56 ?_
    refine j_callN CX (n := 1) (b := 0) (host := RX5) (pre := []) (post := zW a cI n va re tr sh co cc) (rest := []) (x_kept l D cI cZ cL (((tsF va 0 f ((c0 + 1) / 2)) + (tsF va 0 (f + ((c0 + 1) / 2)) (c0 - (c0 + 1) / 2))).toInt64)) gX4_treeSum_X5_keptWithin_n70 rfl CX.2.1.2 hini5 hst_X5_keptWithin (by decide +kernel) ⟨Nat.le_of_ble_eq_true rfl, Nat.le_of_ble_eq_true rfl⟩ rfl rfl rfl (Nat.le_of_ble_eq_true rfl) dX4_treeSum_57 ⟨Nat.le_refl _, Nat.le_refl _⟩ (fun r9 w9 h9 => ?_)
    obtain ⟨rfl, rfl⟩ := h9
    refine j_w (w' := zW a cI n va re tr sh co cc) rfl ?_
    refine j_st (st9 := [.int (kept (((tsF va 0 f ((c0 + 1) / 2)) + (tsF va 0 (f + ((c0 + 1) / 2)) (c0 - (c0 + 1) / 2))).toInt64))]) rfl ?_
    exact j_iret CX hr hlocks dX4_treeSum_60 (⟨by show _ = some (Value.int (if _ then _ else _)); rw [if_neg (by omega)], rfl⟩)

abbrev rmTS2 : Room := { frames := 4, cells := 0, slots := 0, locals := 280 }
set_option maxRecDepth 100000 in
set_option maxHeartbeats 4000000 in
theorem z_ts2 (l : Launch) (D : va_G) (cI cZ cL : ClassId) (a : Nat → Nat) (n : Nat) (va re tr sh co : Nat → Int32) (cc : Int32) (f c0 : Nat) (hn : n ≤ 24) (h1 : 1 ≤ c0) (hc : c0 ≤ 4) (hf : f + c0 ≤ n) : Cg l D cI cZ cL yX4_treeSum wsX4_treeSum rmTS2 [.ref (a 1), .int (nI f), .int (nI c0), .int (nI 3)] (zW a cI n va re tr sh co cc) (fun r0 w0 => r0 = some (.int (tsF va 2 f c0)) ∧ w0 = zW a cI n va re tr sh co cc) := by
  refine Cg.ofJ (own := RX4) (cc := cX4_treeSum) (maxL := 7) (ret := (some .int)) (by decide) rfl rfl (Nat.le_of_ble_eq_true rfl) ?_
  intro p e s m args below meth c A CX hr hlocks hname
  have hini5 : Cond.initialized RX5 ∈ wsX4_treeSum := by decide +kernel
  have hst_X5_keptWithin : Cond.static yX5_keptWithin ∈ wsX4_treeSum := by decide +kernel
  show J p l e rmTS2 s m args below meth c D A 7 0 0 (MQ below (jQc D (fun r0 w0 => r0 = some (.int (tsF va 2 f c0)) ∧ w0 = zW a cI n va re tr sh co cc) A) args s rmTS2.cells rmTS2.slots A) (zW a cI n va re tr sh co cc) 0 [(0, .ref (a 1)), (1, .int (nI f)), (2, .int (nI c0)), (3, .int (nI 3))] []
  refine j_iload_n CX 2 dX4_treeSum_0 rfl rfl ?_
  refine j_iconst CX dX4_treeSum_1 (show _ = (nI 1 : Int32) by decide) ?_
  refine j_icmpN_le CX (by first | assumption | omega) (by first | assumption | omega | exact b2n_lt _ | exact t2n_lt _) 11 dX4_treeSum_2 (by decide) (fun h2 => ?_) (fun h2 => ?_)
  · refine j_aload_n CX 0 dX4_treeSum_11 rfl rfl ?_
    refine j_iload_n CX 1 dX4_treeSum_12 rfl rfl ?_
    refine j_iald CX 1 f dX4_treeSum_13 rfl (rfl) (by first | assumption | omega) (by first | assumption | omega | (have := nn24 (by assumption); omega)) ?_
    exact j_iret CX hr hlocks dX4_treeSum_14 (⟨by first | rfl | (show _ = some (Value.int (if _ then _ else _)); rw [if_pos (by omega)]), rfl⟩)
  · refine j_iload_n CX 3 dX4_treeSum_5 rfl rfl ?_
    refine j_bipush CX dX4_treeSum_6 (show _ = (nI 8 : Int32) by decide) ?_
    refine j_icmpN_le CX (by first | assumption | omega) (by first | assumption | omega | exact b2n_lt _ | exact t2n_lt _) 15 dX4_treeSum_8 (by decide) (fun h8 => ?_) (fun h8 => absurd h8 (by decide))
    refine j_iload_n CX 2 dX4_treeSum_15 rfl rfl ?_
    refine j_iconst CX dX4_treeSum_16 (show _ = (nI 1 : Int32) by decide) ?_
    refine j_iadd CX dX4_treeSum_17 ?_
    refine j_top (show (nI c0) + (nI 1) = nI (c0 + 1) from nI_add _ _) ?_
    refine j_iconst CX dX4_treeSum_18 (show _ = (nI 2 : Int32) by decide) ?_
    refine j_idiv CX dX4_treeSum_19 (by decide) ?_
    refine j_top (show ((nI (c0 + 1)) / (nI 2)) = nI ((c0 + 1) / 2) from pk_div (by omega) (by decide) (by decide)) ?_
    refine j_istore CX (lv' := [(4, .int (nI ((c0 + 1) / 2))), (0, .ref (a 1)), (1, .int (nI f)), (2, .int (nI c0)), (3, .int (nI 3))]) dX4_treeSum_20 (by decide) rfl ?_
    refine j_aload_n CX 1 dX4_treeSum_22 rfl rfl ?_
    refine j_iload_n CX 2 dX4_treeSum_23 rfl rfl ?_
    refine j_iload CX 0 dX4_treeSum_24 rfl ?_
    refine j_iload_n CX 4 dX4_treeSum_26 rfl rfl ?_
    refine j_iconst CX dX4_treeSum_27 (show _ = (nI 1 : Int32) by decide) ?_
    refine j_iadd CX dX4_treeSum_28 ?_
    refine j_top (show (nI 3) + (nI 1) = nI (3 + 1) from nI_add _ _) ?_
    refine j_callS CX (n := 4) (b := 0) (pre := []) (post := []) (rest := []) (z_ts1 l D cI cZ cL a n va re tr sh co cc f ((c0 + 1) / 2) hn (by omega) (by omega) (by omega)) gX4_treeSum_X4_treeSum rfl (by decide +kernel) ⟨Nat.le_of_ble_eq_true rfl, Nat.le_of_ble_eq_true rfl⟩ rfl rfl rfl (Nat.le_of_ble_eq_true rfl) dX4_treeSum_29 ⟨Nat.le_refl _, Nat.le_refl _⟩ (fun r9 w9 h9 => ?_)
    obtain ⟨rfl, rfl⟩ := h9
    refine j_w (w' := zW a cI n va re tr sh co cc) rfl ?_
    refine j_st (st9 := [.int (tsF va 1 f ((c0 + 1) / 2))]) rfl ?_
    refine j_istore CX (lv' := [(5, .int (tsF va 1 f ((c0 + 1) / 2))), (4, .int (nI ((c0 + 1) / 2))), (0, .ref (a 1)), (1, .int (nI f)), (2, .int (nI c0)), (3, .int (nI 3))]) dX4_treeSum_32 (by decide) rfl ?_
    refine j_aload_n CX 2 dX4_treeSum_34 rfl rfl ?_
    refine j_iload_n CX 3 dX4_treeSum_35 rfl rfl ?_
    refine j_iload CX 1 dX4_treeSum_36 rfl ?_
    refine j_iadd CX dX4_treeSum_38 ?_
    refine j_top (show (nI f) + (nI ((c0 + 1) / 2)) = nI (f + ((c0 + 1) / 2)) from nI_add _ _) ?_
    refine j_iload_n CX 4 dX4_treeSum_39 rfl rfl ?_
    refine j_iload CX 1 dX4_treeSum_40 rfl ?_
    refine j_isub CX dX4_treeSum_42 ?_
    refine j_top (show ((nI c0) - (nI ((c0 + 1) / 2))) = nI (c0 - (c0 + 1) / 2) from pk_sub (by omega)) ?_
    refine j_iload_n CX 5 dX4_treeSum_43 rfl rfl ?_
    refine j_iconst CX dX4_treeSum_44 (show _ = (nI 1 : Int32) by decide) ?_
    refine j_iadd CX dX4_treeSum_45 ?_
    refine j_top (show (nI 3) + (nI 1) = nI (3 + 1) from nI_add _ _) ?_
    refine j_callS CX (n := 4) (b := 0) (pre := []) (post := []) (rest := []) (z_ts1 l D cI cZ cL a n va re tr sh co cc (f + ((c0 + 1) / 2)) (c0 - (c0 + 1) / 2) hn (by omega) (by omega) (by omega)) gX4_treeSum_X4_treeSum rfl (by decide +kernel) ⟨Nat.le_of_ble_eq_true rfl, Nat.le_of_ble_eq_true rfl⟩ rfl rfl rfl (Nat.le_of_ble_eq_true rfl) dX4_treeSum_46 ⟨Nat.le_refl _, Nat.le_refl _⟩ (fun r9 w9 h9 => ?_)
    obtain ⟨rfl, rfl⟩ := h9
    refine j_w (w' := zW a cI n va re tr sh co cc) rfl ?_
    refine j_st (st9 := [.int (tsF va 1 (f + ((c0 + 1) / 2)) (c0 - (c0 + 1) / 2))]) rfl ?_
    refine j_istore CX (lv' := [(6, .int (tsF va 1 (f + ((c0 + 1) / 2)) (c0 - (c0 + 1) / 2))), (5, .int (tsF va 1 f ((c0 + 1) / 2))), (4, .int (nI ((c0 + 1) / 2))), (0, .ref (a 1)), (1, .int (nI f)), (2, .int (nI c0)), (3, .int (nI 3))]) dX4_treeSum_49 (by decide) rfl ?_
    refine j_iload CX 1 dX4_treeSum_51 rfl ?_
    refine j_iload CX 0 dX4_treeSum_53 rfl ?_
    refine j_iadd CX dX4_treeSum_55 ?_
    refine j_i2l CX dX4_treeSum_56 ?_
    refine j_callN CX (n := 1) (b := 0) (host := RX5) (pre := []) (post := zW a cI n va re tr sh co cc) (rest := []) (x_kept l D cI cZ cL (((tsF va 1 f ((c0 + 1) / 2)) + (tsF va 1 (f + ((c0 + 1) / 2)) (c0 - (c0 + 1) / 2))).toInt64)) gX4_treeSum_X5_keptWithin_n70 rfl CX.2.1.2 hini5 hst_X5_keptWithin (by decide +kernel) ⟨Nat.le_of_ble_eq_true rfl, Nat.le_of_ble_eq_true rfl⟩ rfl rfl rfl (Nat.le_of_ble_eq_true rfl) dX4_treeSum_57 ⟨Nat.le_refl _, Nat.le_refl _⟩ (fun r9 w9 h9 => ?_)
    obtain ⟨rfl, rfl⟩ := h9
    refine j_w (w' := zW a cI n va re tr sh co cc) rfl ?_
    refine j_st (st9 := [.int (kept (((tsF va 1 f ((c0 + 1) / 2)) + (tsF va 1 (f + ((c0 + 1) / 2)) (c0 - (c0 + 1) / 2))).toInt64))]) rfl ?_
    exact j_iret CX hr hlocks dX4_treeSum_60 (⟨by show _ = some (Value.int (if _ then _ else _)); rw [if_neg (by omega)], rfl⟩)

abbrev rmTS3 : Room := { frames := 5, cells := 0, slots := 0, locals := 320 }
set_option maxRecDepth 100000 in
set_option maxHeartbeats 4000000 in
theorem z_ts3 (l : Launch) (D : va_G) (cI cZ cL : ClassId) (a : Nat → Nat) (n : Nat) (va re tr sh co : Nat → Int32) (cc : Int32) (f c0 : Nat) (hn : n ≤ 24) (h1 : 1 ≤ c0) (hc : c0 ≤ 8) (hf : f + c0 ≤ n) : Cg l D cI cZ cL yX4_treeSum wsX4_treeSum rmTS3 [.ref (a 1), .int (nI f), .int (nI c0), .int (nI 2)] (zW a cI n va re tr sh co cc) (fun r0 w0 => r0 = some (.int (tsF va 3 f c0)) ∧ w0 = zW a cI n va re tr sh co cc) := by
  refine Cg.ofJ (own := RX4) (cc := cX4_treeSum) (maxL := 7) (ret := (some .int)) (by decide) rfl rfl (Nat.le_of_ble_eq_true rfl) ?_
  intro p e s m args below meth c A CX hr hlocks hname
  have hini5 : Cond.initialized RX5 ∈ wsX4_treeSum := by decide +kernel
  have hst_X5_keptWithin : Cond.static yX5_keptWithin ∈ wsX4_treeSum := by decide +kernel
  show J p l e rmTS3 s m args below meth c D A 7 0 0 (MQ below (jQc D (fun r0 w0 => r0 = some (.int (tsF va 3 f c0)) ∧ w0 = zW a cI n va re tr sh co cc) A) args s rmTS3.cells rmTS3.slots A) (zW a cI n va re tr sh co cc) 0 [(0, .ref (a 1)), (1, .int (nI f)), (2, .int (nI c0)), (3, .int (nI 2))] []
  refine j_iload_n CX 2 dX4_treeSum_0 rfl rfl ?_
  refine j_iconst CX dX4_treeSum_1 (show _ = (nI 1 : Int32) by decide) ?_
  refine j_icmpN_le CX (by first | assumption | omega) (by first | assumption | omega | exact b2n_lt _ | exact t2n_lt _) 11 dX4_treeSum_2 (by decide) (fun h2 => ?_) (fun h2 => ?_)
  · refine j_aload_n CX 0 dX4_treeSum_11 rfl rfl ?_
    refine j_iload_n CX 1 dX4_treeSum_12 rfl rfl ?_
    refine j_iald CX 1 f dX4_treeSum_13 rfl (rfl) (by first | assumption | omega) (by first | assumption | omega | (have := nn24 (by assumption); omega)) ?_
    exact j_iret CX hr hlocks dX4_treeSum_14 (⟨by first | rfl | (show _ = some (Value.int (if _ then _ else _)); rw [if_pos (by omega)]), rfl⟩)
  · refine j_iload_n CX 3 dX4_treeSum_5 rfl rfl ?_
    refine j_bipush CX dX4_treeSum_6 (show _ = (nI 8 : Int32) by decide) ?_
    refine j_icmpN_le CX (by first | assumption | omega) (by first | assumption | omega | exact b2n_lt _ | exact t2n_lt _) 15 dX4_treeSum_8 (by decide) (fun h8 => ?_) (fun h8 => absurd h8 (by decide))
    refine j_iload_n CX 2 dX4_treeSum_15 rfl rfl ?_
    refine j_iconst CX dX4_treeSum_16 (show _ = (nI 1 : Int32) by decide) ?_
    refine j_iadd CX dX4_treeSum_17 ?_
    refine j_top (show (nI c0) + (nI 1) = nI (c0 + 1) from nI_add _ _) ?_
    refine j_iconst CX dX4_treeSum_18 (show _ = (nI 2 : Int32) by decide) ?_
    refine j_idiv CX dX4_treeSum_19 (by decide) ?_
    refine j_top (show ((nI (c0 + 1)) / (nI 2)) = nI ((c0 + 1) / 2) from pk_div (by omega) (by decide) (by decide)) ?_
    refine j_istore CX (lv' := [(4, .int (nI ((c0 + 1) / 2))), (0, .ref (a 1)), (1, .int (nI f)), (2, .int (nI c0)), (3, .int (nI 2))]) dX4_treeSum_20 (by decide) rfl ?_
    refine j_aload_n CX 1 dX4_treeSum_22 rfl rfl ?_
    refine j_iload_n CX 2 dX4_treeSum_23 rfl rfl ?_
    refine j_iload CX 0 dX4_treeSum_24 rfl ?_
    refine j_iload_n CX 4 dX4_treeSum_26 rfl rfl ?_
    refine j_iconst CX dX4_treeSum_27 (show _ = (nI 1 : Int32) by decide) ?_
    refine j_iadd CX dX4_treeSum_28 ?_
    refine j_top (show (nI 2) + (nI 1) = nI (2 + 1) from nI_add _ _) ?_
    refine j_callS CX (n := 4) (b := 0) (pre := []) (post := []) (rest := []) (z_ts2 l D cI cZ cL a n va re tr sh co cc f ((c0 + 1) / 2) hn (by omega) (by omega) (by omega)) gX4_treeSum_X4_treeSum rfl (by decide +kernel) ⟨Nat.le_of_ble_eq_true rfl, Nat.le_of_ble_eq_true rfl⟩ rfl rfl rfl (Nat.le_of_ble_eq_true rfl) dX4_treeSum_29 ⟨Nat.le_refl _, Nat.le_refl _⟩ (fun r9 w9 h9 => ?_)
    obtain ⟨rfl, rfl⟩ := h9
    refine j_w (w' := zW a cI n va re tr sh co cc) rfl ?_
    refine j_st (st9 := [.int (tsF va 2 f ((c0 + 1) / 2))]) rfl ?_
    refine j_istore CX (lv' := [(5, .int (tsF va 2 f ((c0 + 1) / 2))), (4, .int (nI ((c0 + 1) / 2))), (0, .ref (a 1)), (1, .int (nI f)), (2, .int (nI c0)), (3, .int (nI 2))]) dX4_treeSum_32 (by decide) rfl ?_
    refine j_aload_n CX 2 dX4_treeSum_34 rfl rfl ?_
    refine j_iload_n CX 3 dX4_treeSum_35 rfl rfl ?_
    refine j_iload CX 1 dX4_treeSum_36 rfl ?_
    refine j_iadd CX dX4_treeSum_38 ?_
    refine j_top (show (nI f) + (nI ((c0 + 1) / 2)) = nI (f + ((c0 + 1) / 2)) from nI_add _ _) ?_
    refine j_iload_n CX 4 dX4_treeSum_39 rfl rfl ?_
    refine j_iload CX 1 dX4_treeSum_40 rfl ?_
    refine j_isub CX dX4_treeSum_42 ?_
    refine j_top (show ((nI c0) - (nI ((c0 + 1) / 2))) = nI (c0 - (c0 + 1) / 2) from pk_sub (by omega)) ?_
    refine j_iload_n CX 5 dX4_treeSum_43 rfl rfl ?_
    refine j_iconst CX dX4_treeSum_44 (show _ = (nI 1 : Int32) by decide) ?_
    refine j_iadd CX dX4_treeSum_45 ?_
    refine j_top (show (nI 2) + (nI 1) = nI (2 + 1) from nI_add _ _) ?_
    refine j_callS CX (n := 4) (b := 0) (pre := []) (post := []) (rest := []) (z_ts2 l D cI cZ cL a n va re tr sh co cc (f + ((c0 + 1) / 2)) (c0 - (c0 + 1) / 2) hn (by omega) (by omega) (by omega)) gX4_treeSum_X4_treeSum rfl (by decide +kernel) ⟨Nat.le_of_ble_eq_true rfl, Nat.le_of_ble_eq_true rfl⟩ rfl rfl rfl (Nat.le_of_ble_eq_true rfl) dX4_treeSum_46 ⟨Nat.le_refl _, Nat.le_refl _⟩ (fun r9 w9 h9 => ?_)
    obtain ⟨rfl, rfl⟩ := h9
    refine j_w (w' := zW a cI n va re tr sh co cc) rfl ?_
    refine j_st (st9 := [.int (tsF va 2 (f + ((c0 + 1) / 2)) (c0 - (c0 + 1) / 2))]) rfl ?_
    refine j_istore CX (lv' := [(6, .int (tsF va 2 (f + ((c0 + 1) / 2)) (c0 - (c0 + 1) / 2))), (5, .int (tsF va 2 f ((c0 + 1) / 2))), (4, .int (nI ((c0 + 1) / 2))), (0, .ref (a 1)), (1, .int (nI f)), (2, .int (nI c0)), (3, .int (nI 2))]) dX4_treeSum_49 (by decide) rfl ?_
    refine j_iload CX 1 dX4_treeSum_51 rfl ?_
    refine j_iload CX 0 dX4_treeSum_53 rfl ?_
    refine j_iadd CX dX4_treeSum_55 ?_
    refine j_i2l CX dX4_treeSum_56 ?_
    refine j_callN CX (n := 1) (b := 0) (host := RX5) (pre := []) (post := zW a cI n va re tr sh co cc) (rest := []) (x_kept l D cI cZ cL (((tsF va 2 f ((c0 + 1) / 2)) + (tsF va 2 (f + ((c0 + 1) / 2)) (c0 - (c0 + 1) / 2))).toInt64)) gX4_treeSum_X5_keptWithin_n70 rfl CX.2.1.2 hini5 hst_X5_keptWithin (by decide +kernel) ⟨Nat.le_of_ble_eq_true rfl, Nat.le_of_ble_eq_true rfl⟩ rfl rfl rfl (Nat.le_of_ble_eq_true rfl) dX4_treeSum_57 ⟨Nat.le_refl _, Nat.le_refl _⟩ (fun r9 w9 h9 => ?_)
    obtain ⟨rfl, rfl⟩ := h9
    refine j_w (w' := zW a cI n va re tr sh co cc) rfl ?_
    refine j_st (st9 := [.int (kept (((tsF va 2 f ((c0 + 1) / 2)) + (tsF va 2 (f + ((c0 + 1) / 2)) (c0 - (c0 + 1) / 2))).toInt64))]) rfl ?_
    exact j_iret CX hr hlocks dX4_treeSum_60 (⟨by show _ = some (Value.int (if _ then _ else _)); rw [if_neg (by omega)], rfl⟩)

abbrev rmTS4 : Room := { frames := 6, cells := 0, slots := 0, locals := 360 }
set_option maxRecDepth 100000 in
set_option maxHeartbeats 4000000 in
theorem z_ts4 (l : Launch) (D : va_G) (cI cZ cL : ClassId) (a : Nat → Nat) (n : Nat) (va re tr sh co : Nat → Int32) (cc : Int32) (f c0 : Nat) (hn : n ≤ 24) (h1 : 1 ≤ c0) (hc : c0 ≤ 16) (hf : f + c0 ≤ n) : Cg l D cI cZ cL yX4_treeSum wsX4_treeSum rmTS4 [.ref (a 1), .int (nI f), .int (nI c0), .int (nI 1)] (zW a cI n va re tr sh co cc) (fun r0 w0 => r0 = some (.int (tsF va 4 f c0)) ∧ w0 = zW a cI n va re tr sh co cc) := by
  refine Cg.ofJ (own := RX4) (cc := cX4_treeSum) (maxL := 7) (ret := (some .int)) (by decide) rfl rfl (Nat.le_of_ble_eq_true rfl) ?_
  intro p e s m args below meth c A CX hr hlocks hname
  have hini5 : Cond.initialized RX5 ∈ wsX4_treeSum := by decide +kernel
  have hst_X5_keptWithin : Cond.static yX5_keptWithin ∈ wsX4_treeSum := by decide +kernel
  show J p l e rmTS4 s m args below meth c D A 7 0 0 (MQ below (jQc D (fun r0 w0 => r0 = some (.int (tsF va 4 f c0)) ∧ w0 = zW a cI n va re tr sh co cc) A) args s rmTS4.cells rmTS4.slots A) (zW a cI n va re tr sh co cc) 0 [(0, .ref (a 1)), (1, .int (nI f)), (2, .int (nI c0)), (3, .int (nI 1))] []
  refine j_iload_n CX 2 dX4_treeSum_0 rfl rfl ?_
  refine j_iconst CX dX4_treeSum_1 (show _ = (nI 1 : Int32) by decide) ?_
  refine j_icmpN_le CX (by first | assumption | omega) (by first | assumption | omega | exact b2n_lt _ | exact t2n_lt _) 11 dX4_treeSum_2 (by decide) (fun h2 => ?_) (fun h2 => ?_)
  · refine j_aload_n CX 0 dX4_treeSum_11 rfl rfl ?_
    refine j_iload_n CX 1 dX4_treeSum_12 rfl rfl ?_
    refine j_iald CX 1 f dX4_treeSum_13 rfl (rfl) (by first | assumption | omega) (by first | assumption | omega | (have := nn24 (by assumption); omega)) ?_
    exact j_iret CX hr hlocks dX4_treeSum_14 (⟨by first | rfl | (show _ = some (Value.int (if _ then _ else _)); rw [if_pos (by omega)]), rfl⟩)
  · refine j_iload_n CX 3 dX4_treeSum_5 rfl rfl ?_
    refine j_bipush CX dX4_treeSum_6 (show _ = (nI 8 : Int32) by decide) ?_
    refine j_icmpN_le CX (by first | assumption | omega) (by first | assumption | omega | exact b2n_lt _ | exact t2n_lt _) 15 dX4_treeSum_8 (by decide) (fun h8 => ?_) (fun h8 => absurd h8 (by decide))
    refine j_iload_n CX 2 dX4_treeSum_15 rfl rfl ?_
    refine j_iconst CX dX4_treeSum_16 (show _ = (nI 1 : Int32) by decide) ?_
    refine j_iadd CX dX4_treeSum_17 ?_
    refine j_top (show (nI c0) + (nI 1) = nI (c0 + 1) from nI_add _ _) ?_
    refine j_iconst CX dX4_treeSum_18 (show _ = (nI 2 : Int32) by decide) ?_
    refine j_idiv CX dX4_treeSum_19 (by decide) ?_
    refine j_top (show ((nI (c0 + 1)) / (nI 2)) = nI ((c0 + 1) / 2) from pk_div (by omega) (by decide) (by decide)) ?_
    refine j_istore CX (lv' := [(4, .int (nI ((c0 + 1) / 2))), (0, .ref (a 1)), (1, .int (nI f)), (2, .int (nI c0)), (3, .int (nI 1))]) dX4_treeSum_20 (by decide) rfl ?_
    refine j_aload_n CX 1 dX4_treeSum_22 rfl rfl ?_
    refine j_iload_n CX 2 dX4_treeSum_23 rfl rfl ?_
    refine j_iload CX 0 dX4_treeSum_24 rfl ?_
    refine j_iload_n CX 4 dX4_treeSum_26 rfl rfl ?_
    refine j_iconst CX dX4_treeSum_27 (show _ = (nI 1 : Int32) by decide) ?_
    refine j_iadd CX dX4_treeSum_28 ?_
    refine j_top (show (nI 1) + (nI 1) = nI (1 + 1) from nI_add _ _) ?_
    refine j_callS CX (n := 4) (b := 0) (pre := []) (post := []) (rest := []) (z_ts3 l D cI cZ cL a n va re tr sh co cc f ((c0 + 1) / 2) hn (by omega) (by omega) (by omega)) gX4_treeSum_X4_treeSum rfl (by decide +kernel) ⟨Nat.le_of_ble_eq_true rfl, Nat.le_of_ble_eq_true rfl⟩ rfl rfl rfl (Nat.le_of_ble_eq_true rfl) dX4_treeSum_29 ⟨Nat.le_refl _, Nat.le_refl _⟩ (fun r9 w9 h9 => ?_)
    obtain ⟨rfl, rfl⟩ := h9
    refine j_w (w' := zW a cI n va re tr sh co cc) rfl ?_
    refine j_st (st9 := [.int (tsF va 3 f ((c0 + 1) / 2))]) rfl ?_
    refine j_istore CX (lv' := [(5, .int (tsF va 3 f ((c0 + 1) / 2))), (4, .int (nI ((c0 + 1) / 2))), (0, .ref (a 1)), (1, .int (nI f)), (2, .int (nI c0)), (3, .int (nI 1))]) dX4_treeSum_32 (by decide) rfl ?_
    refine j_aload_n CX 2 dX4_treeSum_34 rfl rfl ?_
    refine j_iload_n CX 3 dX4_treeSum_35 rfl rfl ?_
    refine j_iload CX 1 dX4_treeSum_36 rfl ?_
    refine j_iadd CX dX4_treeSum_38 ?_
    refine j_top (show (nI f) + (nI ((c0 + 1) / 2)) = nI (f + ((c0 + 1) / 2)) from nI_add _ _) ?_
    refine j_iload_n CX 4 dX4_treeSum_39 rfl rfl ?_
    refine j_iload CX 1 dX4_treeSum_40 rfl ?_
    refine j_isub CX dX4_treeSum_42 ?_
    refine j_top (show ((nI c0) - (nI ((c0 + 1) / 2))) = nI (c0 - (c0 + 1) / 2) from pk_sub (by omega)) ?_
    refine j_iload_n CX 5 dX4_treeSum_43 rfl rfl ?_
    refine j_iconst CX dX4_treeSum_44 (show _ = (nI 1 : Int32) by decide) ?_
    refine j_iadd CX dX4_treeSum_45 ?_
    refine j_top (show (nI 1) + (nI 1) = nI (1 + 1) from nI_add _ _) ?_
    refine j_callS CX (n := 4) (b := 0) (pre := []) (post := []) (rest := []) (z_ts3 l D cI cZ cL a n va re tr sh co cc (f + ((c0 + 1) / 2)) (c0 - (c0 + 1) / 2) hn (by omega) (by omega) (by omega)) gX4_treeSum_X4_treeSum rfl (by decide +kernel) ⟨Nat.le_of_ble_eq_true rfl, Nat.le_of_ble_eq_true rfl⟩ rfl rfl rfl (Nat.le_of_ble_eq_true rfl) dX4_treeSum_46 ⟨Nat.le_refl _, Nat.le_refl _⟩ (fun r9 w9 h9 => ?_)
    obtain ⟨rfl, rfl⟩ := h9
    refine j_w (w' := zW a cI n va re tr sh co cc) rfl ?_
    refine j_st (st9 := [.int (tsF va 3 (f + ((c0 + 1) / 2)) (c0 - (c0 + 1) / 2))]) rfl ?_
    refine j_istore CX (lv' := [(6, .int (tsF va 3 (f + ((c0 + 1) / 2)) (c0 - (c0 + 1) / 2))), (5, .int (tsF va 3 f ((c0 + 1) / 2))), (4, .int (nI ((c0 + 1) / 2))), (0, .ref (a 1)), (1, .int (nI f)), (2, .int (nI c0)), (3, .int (nI 1))]) dX4_treeSum_49 (by decide) rfl ?_
    refine j_iload CX 1 dX4_treeSum_51 rfl ?_
    refine j_iload CX 0 dX4_treeSum_53 rfl ?_
    refine j_iadd CX dX4_treeSum_55 ?_
    refine j_i2l CX dX4_treeSum_56 ?_
    refine j_callN CX (n := 1) (b := 0) (host := RX5) (pre := []) (post := zW a cI n va re tr sh co cc) (rest := []) (x_kept l D cI cZ cL (((tsF va 3 f ((c0 + 1) / 2)) + (tsF va 3 (f + ((c0 + 1) / 2)) (c0 - (c0 + 1) / 2))).toInt64)) gX4_treeSum_X5_keptWithin_n70 rfl CX.2.1.2 hini5 hst_X5_keptWithin (by decide +kernel) ⟨Nat.le_of_ble_eq_true rfl, Nat.le_of_ble_eq_true rfl⟩ rfl rfl rfl (Nat.le_of_ble_eq_true rfl) dX4_treeSum_57 ⟨Nat.le_refl _, Nat.le_refl _⟩ (fun r9 w9 h9 => ?_)
    obtain ⟨rfl, rfl⟩ := h9
    refine j_w (w' := zW a cI n va re tr sh co cc) rfl ?_
    refine j_st (st9 := [.int (kept (((tsF va 3 f ((c0 + 1) / 2)) + (tsF va 3 (f + ((c0 + 1) / 2)) (c0 - (c0 + 1) / 2))).toInt64))]) rfl ?_
    exact j_iret CX hr hlocks dX4_treeSum_60 (⟨by show _ = some (Value.int (if _ then _ else _)); rw [if_neg (by omega)], rfl⟩)

abbrev rmTS5 : Room := { frames := 7, cells := 0, slots := 0, locals := 400 }
set_option maxRecDepth 100000 in
set_option maxHeartbeats 4000000 in
theorem z_ts5 (l : Launch) (D : va_G) (cI cZ cL : ClassId) (a : Nat → Nat) (n : Nat) (va re tr sh co : Nat → Int32) (cc : Int32) (f c0 : Nat) (hn : n ≤ 24) (h1 : 1 ≤ c0) (hc : c0 ≤ 32) (hf : f + c0 ≤ n) : Cg l D cI cZ cL yX4_treeSum wsX4_treeSum rmTS5 [.ref (a 1), .int (nI f), .int (nI c0), .int (nI 0)] (zW a cI n va re tr sh co cc) (fun r0 w0 => r0 = some (.int (tsF va 5 f c0)) ∧ w0 = zW a cI n va re tr sh co cc) := by
  refine Cg.ofJ (own := RX4) (cc := cX4_treeSum) (maxL := 7) (ret := (some .int)) (by decide) rfl rfl (Nat.le_of_ble_eq_true rfl) ?_
  intro p e s m args below meth c A CX hr hlocks hname
  have hini5 : Cond.initialized RX5 ∈ wsX4_treeSum := by decide +kernel
  have hst_X5_keptWithin : Cond.static yX5_keptWithin ∈ wsX4_treeSum := by decide +kernel
  show J p l e rmTS5 s m args below meth c D A 7 0 0 (MQ below (jQc D (fun r0 w0 => r0 = some (.int (tsF va 5 f c0)) ∧ w0 = zW a cI n va re tr sh co cc) A) args s rmTS5.cells rmTS5.slots A) (zW a cI n va re tr sh co cc) 0 [(0, .ref (a 1)), (1, .int (nI f)), (2, .int (nI c0)), (3, .int (nI 0))] []
  refine j_iload_n CX 2 dX4_treeSum_0 rfl rfl ?_
  refine j_iconst CX dX4_treeSum_1 (show _ = (nI 1 : Int32) by decide) ?_
  refine j_icmpN_le CX (by first | assumption | omega) (by first | assumption | omega | exact b2n_lt _ | exact t2n_lt _) 11 dX4_treeSum_2 (by decide) (fun h2 => ?_) (fun h2 => ?_)
  · refine j_aload_n CX 0 dX4_treeSum_11 rfl rfl ?_
    refine j_iload_n CX 1 dX4_treeSum_12 rfl rfl ?_
    refine j_iald CX 1 f dX4_treeSum_13 rfl (rfl) (by first | assumption | omega) (by first | assumption | omega | (have := nn24 (by assumption); omega)) ?_
    exact j_iret CX hr hlocks dX4_treeSum_14 (⟨by first | rfl | (show _ = some (Value.int (if _ then _ else _)); rw [if_pos (by omega)]), rfl⟩)
  · refine j_iload_n CX 3 dX4_treeSum_5 rfl rfl ?_
    refine j_bipush CX dX4_treeSum_6 (show _ = (nI 8 : Int32) by decide) ?_
    refine j_icmpN_le CX (by first | assumption | omega) (by first | assumption | omega | exact b2n_lt _ | exact t2n_lt _) 15 dX4_treeSum_8 (by decide) (fun h8 => ?_) (fun h8 => absurd h8 (by decide))
    refine j_iload_n CX 2 dX4_treeSum_15 rfl rfl ?_
    refine j_iconst CX dX4_treeSum_16 (show _ = (nI 1 : Int32) by decide) ?_
    refine j_iadd CX dX4_treeSum_17 ?_
    refine j_top (show (nI c0) + (nI 1) = nI (c0 + 1) from nI_add _ _) ?_
    refine j_iconst CX dX4_treeSum_18 (show _ = (nI 2 : Int32) by decide) ?_
    refine j_idiv CX dX4_treeSum_19 (by decide) ?_
    refine j_top (show ((nI (c0 + 1)) / (nI 2)) = nI ((c0 + 1) / 2) from pk_div (by omega) (by decide) (by decide)) ?_
    refine j_istore CX (lv' := [(4, .int (nI ((c0 + 1) / 2))), (0, .ref (a 1)), (1, .int (nI f)), (2, .int (nI c0)), (3, .int (nI 0))]) dX4_treeSum_20 (by decide) rfl ?_
    refine j_aload_n CX 1 dX4_treeSum_22 rfl rfl ?_
    refine j_iload_n CX 2 dX4_treeSum_23 rfl rfl ?_
    refine j_iload CX 0 dX4_treeSum_24 rfl ?_
    refine j_iload_n CX 4 dX4_treeSum_26 rfl rfl ?_
    refine j_iconst CX dX4_treeSum_27 (show _ = (nI 1 : Int32) by decide) ?_
    refine j_iadd CX dX4_treeSum_28 ?_
    refine j_top (show (nI 0) + (nI 1) = nI (0 + 1) from nI_add _ _) ?_
    refine j_callS CX (n := 4) (b := 0) (pre := []) (post := []) (rest := []) (z_ts4 l D cI cZ cL a n va re tr sh co cc f ((c0 + 1) / 2) hn (by omega) (by omega) (by omega)) gX4_treeSum_X4_treeSum rfl (by decide +kernel) ⟨Nat.le_of_ble_eq_true rfl, Nat.le_of_ble_eq_true rfl⟩ rfl rfl rfl (Nat.le_of_ble_eq_true rfl) dX4_treeSum_29 ⟨Nat.le_refl _, Nat.le_refl _⟩ (fun r9 w9 h9 => ?_)
    obtain ⟨rfl, rfl⟩ := h9
    refine j_w (w' := zW a cI n va re tr sh co cc) rfl ?_
    refine j_st (st9 := [.int (tsF va 4 f ((c0 + 1) / 2))]) rfl ?_
    refine j_istore CX (lv' := [(5, .int (tsF va 4 f ((c0 + 1) / 2))), (4, .int (nI ((c0 + 1) / 2))), (0, .ref (a 1)), (1, .int (nI f)), (2, .int (nI c0)), (3, .int (nI 0))]) dX4_treeSum_32 (by decide) rfl ?_
    refine j_aload_n CX 2 dX4_treeSum_34 rfl rfl ?_
    refine j_iload_n CX 3 dX4_treeSum_35 rfl rfl ?_
    refine j_iload CX 1 dX4_treeSum_36 rfl ?_
    refine j_iadd CX dX4_treeSum_38 ?_
    refine j_top (show (nI f) + (nI ((c0 + 1) / 2)) = nI (f + ((c0 + 1) / 2)) from nI_add _ _) ?_
    refine j_iload_n CX 4 dX4_treeSum_39 rfl rfl ?_
    refine j_iload CX 1 dX4_treeSum_40 rfl ?_
    refine j_isub CX dX4_treeSum_42 ?_
    refine j_top (show ((nI c0) - (nI ((c0 + 1) / 2))) = nI (c0 - (c0 + 1) / 2) from pk_sub (by omega)) ?_
    refine j_iload_n CX 5 dX4_treeSum_43 rfl rfl ?_
    refine j_iconst CX dX4_treeSum_44 (show _ = (nI 1 : Int32) by decide) ?_
    refine j_iadd CX dX4_treeSum_45 ?_
    refine j_top (show (nI 0) + (nI 1) = nI (0 + 1) from nI_add _ _) ?_
    refine j_callS CX (n := 4) (b := 0) (pre := []) (post := []) (rest := []) (z_ts4 l D cI cZ cL a n va re tr sh co cc (f + ((c0 + 1) / 2)) (c0 - (c0 + 1) / 2) hn (by omega) (by omega) (by omega)) gX4_treeSum_X4_treeSum rfl (by decide +kernel) ⟨Nat.le_of_ble_eq_true rfl, Nat.le_of_ble_eq_true rfl⟩ rfl rfl rfl (Nat.le_of_ble_eq_true rfl) dX4_treeSum_46 ⟨Nat.le_refl _, Nat.le_refl _⟩ (fun r9 w9 h9 => ?_)
    obtain ⟨rfl, rfl⟩ := h9
    refine j_w (w' := zW a cI n va re tr sh co cc) rfl ?_
    refine j_st (st9 := [.int (tsF va 4 (f + ((c0 + 1) / 2)) (c0 - (c0 + 1) / 2))]) rfl ?_
    refine j_istore CX (lv' := [(6, .int (tsF va 4 (f + ((c0 + 1) / 2)) (c0 - (c0 + 1) / 2))), (5, .int (tsF va 4 f ((c0 + 1) / 2))), (4, .int (nI ((c0 + 1) / 2))), (0, .ref (a 1)), (1, .int (nI f)), (2, .int (nI c0)), (3, .int (nI 0))]) dX4_treeSum_49 (by decide) rfl ?_
    refine j_iload CX 1 dX4_treeSum_51 rfl ?_
    refine j_iload CX 0 dX4_treeSum_53 rfl ?_
    refine j_iadd CX dX4_treeSum_55 ?_
    refine j_i2l CX dX4_treeSum_56 ?_
    refine j_callN CX (n := 1) (b := 0) (host := RX5) (pre := []) (post := zW a cI n va re tr sh co cc) (rest := []) (x_kept l D cI cZ cL (((tsF va 4 f ((c0 + 1) / 2)) + (tsF va 4 (f + ((c0 + 1) / 2)) (c0 - (c0 + 1) / 2))).toInt64)) gX4_treeSum_X5_keptWithin_n70 rfl CX.2.1.2 hini5 hst_X5_keptWithin (by decide +kernel) ⟨Nat.le_of_ble_eq_true rfl, Nat.le_of_ble_eq_true rfl⟩ rfl rfl rfl (Nat.le_of_ble_eq_true rfl) dX4_treeSum_57 ⟨Nat.le_refl _, Nat.le_refl _⟩ (fun r9 w9 h9 => ?_)
    obtain ⟨rfl, rfl⟩ := h9
    refine j_w (w' := zW a cI n va re tr sh co cc) rfl ?_
    refine j_st (st9 := [.int (kept (((tsF va 4 f ((c0 + 1) / 2)) + (tsF va 4 (f + ((c0 + 1) / 2)) (c0 - (c0 + 1) / 2))).toInt64))]) rfl ?_
    exact j_iret CX hr hlocks dX4_treeSum_60 (⟨by show _ = some (Value.int (if _ then _ else _)); rw [if_neg (by omega)], rfl⟩)

abbrev rmX4_total : Room := { frames := 8, cells := 0, slots := 0, locals := 426 }
set_option maxRecDepth 100000 in
set_option maxHeartbeats 4000000 in
theorem z_total (l : Launch) (D : va_G) (cI cZ cL : ClassId) (a : Nat → Nat) (n : Nat) (va re tr sh co : Nat → Int32) (cc : Int32) (hn : n ≤ 24) (h1 : 1 ≤ n) : Cg l D cI cZ cL yX4_total wsX4_total rmX4_total [.ref (a 0)] (zW a cI n va re tr sh co cc) (fun r0 w0 => r0 = some (.int (tsF va 5 0 n)) ∧ w0 = zW a cI n va re tr sh co cc) := by
  refine Cg.ofJ (own := RX4) (cc := cX4_total) (maxL := 1) (ret := (some .int)) (by decide) rfl rfl (Nat.le_of_ble_eq_true rfl) ?_
  intro p e s m args below meth c A CX hr hlocks hname
  have hin4 : ∀ x ∈ u_ws RX4 TX4 7, x ∈ wsX4_total := by decide +kernel
  have hfl15 : Cond.fieldLink RX4 15 (TX4 1).1 (TX4 1).2.1 (TX4 1).2.2.1 ∈ wsX4_total := by decide +kernel
  have hfl9 : Cond.fieldLink RX4 9 (TX4 0).1 (TX4 0).2.1 (TX4 0).2.2.1 ∈ wsX4_total := by decide +kernel
  show J p l e rmX4_total s m args below meth c D A 1 0 0 (MQ below (jQc D (fun r0 w0 => r0 = some (.int (tsF va 5 0 n)) ∧ w0 = zW a cI n va re tr sh co cc) A) args s rmX4_total.cells rmX4_total.slots A) (zW a cI n va re tr sh co cc) 0 [(0, .ref (a 0))] []
  refine j_aload_n CX 0 dX4_total_0 rfl rfl ?_
  refine j_get CX 0 1 dX4_total_1 rfl rfl hin4 (by decide) hfl15 rfl ?_
  refine j_iconst CX dX4_total_4 (show _ = (nI 0 : Int32) by decide) ?_
  refine j_aload_n CX 0 dX4_total_5 rfl rfl ?_
  refine j_get CX 0 0 dX4_total_6 rfl rfl hin4 (by decide) hfl9 rfl ?_
  refine j_iconst CX dX4_total_9 (show _ = (nI 0 : Int32) by decide) ?_
  refine j_callS CX (n := 4) (b := 0) (pre := []) (post := []) (rest := []) (z_ts5 l D cI cZ cL a n va re tr sh co cc 0 n hn h1 (by omega) (by omega)) gX4_total_X4_treeSum rfl (by decide +kernel) ⟨Nat.le_of_ble_eq_true rfl, Nat.le_of_ble_eq_true rfl⟩ rfl rfl rfl (Nat.le_of_ble_eq_true rfl) dX4_total_10 ⟨Nat.le_refl _, Nat.le_refl _⟩ (fun r9 w9 h9 => ?_)
  obtain ⟨rfl, rfl⟩ := h9
  refine j_w (w' := zW a cI n va re tr sh co cc) rfl ?_
  refine j_st (st9 := [.int (tsF va 5 0 n)]) rfl ?_
  exact j_iret CX hr hlocks dX4_total_13 (⟨rfl, rfl⟩)
