abbrev rmX4_size : Room := { frames := 0, cells := 0, slots := 0, locals := 0 }
set_option maxRecDepth 100000 in
set_option maxHeartbeats 4000000 in
theorem z_size (l : Launch) (D : va_G) (cI cZ cL : ClassId) (a : Nat → Nat) (n : Nat) (va re tr sh co : Nat → Int32) (cc : Int32)  : Cg l D cI cZ cL yX4_size wsX4_size rmX4_size [.ref (a 0)] (zW a cI n va re tr sh co cc) (fun r0 w0 => r0 = some (.int (nI n)) ∧ w0 = zW a cI n va re tr sh co cc) := by
  refine Cg.ofJ (own := RX4) (cc := cX4_size) (maxL := 1) (ret := (some .int)) (by decide) rfl rfl (Nat.le_of_ble_eq_true rfl) ?_
  intro p e s m args below meth c A CX hr hlocks hname
  have hin4 : ∀ x ∈ u_ws RX4 TX4 7, x ∈ wsX4_size := by decide +kernel
  have hfl9 : Cond.fieldLink RX4 9 (TX4 0).1 (TX4 0).2.1 (TX4 0).2.2.1 ∈ wsX4_size := by decide +kernel
  show J p l e rmX4_size s m args below meth c D A 1 0 0 (MQ below (jQc D (fun r0 w0 => r0 = some (.int (nI n)) ∧ w0 = zW a cI n va re tr sh co cc) A) args s rmX4_size.cells rmX4_size.slots A) (zW a cI n va re tr sh co cc) 0 [(0, .ref (a 0))] []
  refine j_aload_n CX 0 dX4_size_0 rfl rfl ?_
  refine j_get CX 0 0 dX4_size_1 rfl rfl hin4 (by decide) hfl9 rfl ?_
  exact j_iret CX hr hlocks dX4_size_4 (⟨rfl, rfl⟩)

abbrev rmX4_valueOf : Room := { frames := 0, cells := 0, slots := 0, locals := 0 }
set_option maxRecDepth 100000 in
set_option maxHeartbeats 4000000 in
theorem z_valueOf (l : Launch) (D : va_G) (cI cZ cL : ClassId) (a : Nat → Nat) (n : Nat) (va re tr sh co : Nat → Int32) (cc : Int32) (z : Nat) (hn : n ≤ 24) (hz : z < n) : Cg l D cI cZ cL yX4_valueOf wsX4_valueOf rmX4_valueOf [.ref (a 0), .int (nI z)] (zW a cI n va re tr sh co cc) (fun r0 w0 => r0 = some (.int (va z)) ∧ w0 = zW a cI n va re tr sh co cc) := by
  refine Cg.ofJ (own := RX4) (cc := cX4_valueOf) (maxL := 2) (ret := (some .int)) (by decide) rfl rfl (Nat.le_of_ble_eq_true rfl) ?_
  intro p e s m args below meth c A CX hr hlocks hname
  have hin4 : ∀ x ∈ u_ws RX4 TX4 7, x ∈ wsX4_valueOf := by decide +kernel
  have hfl15 : Cond.fieldLink RX4 15 (TX4 1).1 (TX4 1).2.1 (TX4 1).2.2.1 ∈ wsX4_valueOf := by decide +kernel
  show J p l e rmX4_valueOf s m args below meth c D A 2 0 0 (MQ below (jQc D (fun r0 w0 => r0 = some (.int (va z)) ∧ w0 = zW a cI n va re tr sh co cc) A) args s rmX4_valueOf.cells rmX4_valueOf.slots A) (zW a cI n va re tr sh co cc) 0 [(0, .ref (a 0)), (1, .int (nI z))] []
  refine j_aload_n CX 0 dX4_valueOf_0 rfl rfl ?_
  refine j_get CX 0 1 dX4_valueOf_1 rfl rfl hin4 (by decide) hfl15 rfl ?_
  refine j_iload_n CX 1 dX4_valueOf_4 rfl rfl ?_
  refine j_iald CX 1 z dX4_valueOf_5 rfl (rfl) (by first | assumption | omega) (by first | assumption | omega | (have := nn24 (by assumption); omega)) ?_
  exact j_iret CX hr hlocks dX4_valueOf_6 (⟨rfl, rfl⟩)

abbrev rmX4_put : Room := { frames := 0, cells := 0, slots := 0, locals := 0 }
set_option maxRecDepth 100000 in
set_option maxHeartbeats 4000000 in
theorem z_put (l : Launch) (D : va_G) (cI cZ cL : ClassId) (a : Nat → Nat) (n : Nat) (va re tr sh co : Nat → Int32) (cc : Int32) (z : Nat) (v : Int32) (hn : n ≤ 24) (hz : z < n) : Cg l D cI cZ cL yX4_put wsX4_put rmX4_put [.ref (a 0), .int (nI z), .int v] (zW a cI n va re tr sh co cc) (fun r0 w0 => r0 = none ∧ w0 = zW a cI n (upd va z v) re tr sh co cc) := by
  refine Cg.ofJ (own := RX4) (cc := cX4_put) (maxL := 3) (ret := none) (by decide) rfl rfl (Nat.le_of_ble_eq_true rfl) ?_
  intro p e s m args below meth c A CX hr hlocks hname
  have hin4 : ∀ x ∈ u_ws RX4 TX4 7, x ∈ wsX4_put := by decide +kernel
  have hfl15 : Cond.fieldLink RX4 15 (TX4 1).1 (TX4 1).2.1 (TX4 1).2.2.1 ∈ wsX4_put := by decide +kernel
  show J p l e rmX4_put s m args below meth c D A 3 0 0 (MQ below (jQc D (fun r0 w0 => r0 = none ∧ w0 = zW a cI n (upd va z v) re tr sh co cc) A) args s rmX4_put.cells rmX4_put.slots A) (zW a cI n va re tr sh co cc) 0 [(0, .ref (a 0)), (1, .int (nI z)), (2, .int v)] []
  refine j_aload_n CX 0 dX4_put_0 rfl rfl ?_
  refine j_get CX 0 1 dX4_put_1 rfl rfl hin4 (by decide) hfl15 rfl ?_
  refine j_iload_n CX 1 dX4_put_4 rfl rfl ?_
  refine j_iload_n CX 2 dX4_put_5 rfl rfl ?_
  refine j_iast CX (w' := zW a cI n (upd va z v) re tr sh co cc) 1 z dX4_put_6 rfl (rfl) (by first | assumption | omega) (by first | assumption | omega | (have := nn24 (by assumption); omega)) rfl ?_
  exact j_vret CX hr hlocks dX4_put_7 (⟨rfl, rfl⟩)

abbrev rmX4_shareBetween : Room := { frames := 0, cells := 0, slots := 0, locals := 0 }
set_option maxRecDepth 100000 in
set_option maxHeartbeats 4000000 in
theorem z_share (l : Launch) (D : va_G) (cI cZ cL : ClassId) (a : Nat → Nat) (n : Nat) (va re tr sh co : Nat → Int32) (cc : Int32) (z o : Nat) (hn : n ≤ 24) (hz : z < n) (ho : o < n) : Cg l D cI cZ cL yX4_shareBetween wsX4_shareBetween rmX4_shareBetween [.ref (a 0), .int (nI z), .int (nI o)] (zW a cI n va re tr sh co cc) (fun r0 w0 => r0 = some (.int (sh (z * n + o))) ∧ w0 = zW a cI n va re tr sh co cc) := by
  refine Cg.ofJ (own := RX4) (cc := cX4_shareBetween) (maxL := 3) (ret := (some .int)) (by decide) rfl rfl (Nat.le_of_ble_eq_true rfl) ?_
  intro p e s m args below meth c A CX hr hlocks hname
  have hin4 : ∀ x ∈ u_ws RX4 TX4 7, x ∈ wsX4_shareBetween := by decide +kernel
  have hfl25 : Cond.fieldLink RX4 25 (TX4 4).1 (TX4 4).2.1 (TX4 4).2.2.1 ∈ wsX4_shareBetween := by decide +kernel
  have hfl9 : Cond.fieldLink RX4 9 (TX4 0).1 (TX4 0).2.1 (TX4 0).2.2.1 ∈ wsX4_shareBetween := by decide +kernel
  show J p l e rmX4_shareBetween s m args below meth c D A 3 0 0 (MQ below (jQc D (fun r0 w0 => r0 = some (.int (sh (z * n + o))) ∧ w0 = zW a cI n va re tr sh co cc) A) args s rmX4_shareBetween.cells rmX4_shareBetween.slots A) (zW a cI n va re tr sh co cc) 0 [(0, .ref (a 0)), (1, .int (nI z)), (2, .int (nI o))] []
  refine j_aload_n CX 0 dX4_shareBetween_0 rfl rfl ?_
  refine j_get CX 0 4 dX4_shareBetween_1 rfl rfl hin4 (by decide) hfl25 rfl ?_
  refine j_iload_n CX 1 dX4_shareBetween_4 rfl rfl ?_
  refine j_aload_n CX 0 dX4_shareBetween_5 rfl rfl ?_
  refine j_get CX 0 0 dX4_shareBetween_6 rfl rfl hin4 (by decide) hfl9 rfl ?_
  refine j_imul CX dX4_shareBetween_9 ?_
  refine j_top (show (nI z) * (nI n) = nI (z * n) from pk_mul _ _) ?_
  refine j_iload_n CX 2 dX4_shareBetween_10 rfl rfl ?_
  refine j_iadd CX dX4_shareBetween_11 ?_
  refine j_top (show (nI (z * n)) + (nI o) = nI (z * n + o) from nI_add _ _) ?_
  refine j_iald CX 4 (z * n + o) dX4_shareBetween_12 rfl (rfl) (ixlt hz ho) (by first | assumption | omega | (have := nn24 (by assumption); omega)) ?_
  exact j_iret CX hr hlocks dX4_shareBetween_13 (⟨rfl, rfl⟩)

abbrev rmX4_colourCount : Room := { frames := 0, cells := 0, slots := 0, locals := 0 }
set_option maxRecDepth 100000 in
set_option maxHeartbeats 4000000 in
theorem z_cc (l : Launch) (D : va_G) (cI cZ cL : ClassId) (a : Nat → Nat) (n : Nat) (va re tr sh co : Nat → Int32) (cc : Int32)  : Cg l D cI cZ cL yX4_colourCount wsX4_colourCount rmX4_colourCount [.ref (a 0)] (zW a cI n va re tr sh co cc) (fun r0 w0 => r0 = some (.int cc) ∧ w0 = zW a cI n va re tr sh co cc) := by
  refine Cg.ofJ (own := RX4) (cc := cX4_colourCount) (maxL := 1) (ret := (some .int)) (by decide) rfl rfl (Nat.le_of_ble_eq_true rfl) ?_
  intro p e s m args below meth c A CX hr hlocks hname
  have hin4 : ∀ x ∈ u_ws RX4 TX4 7, x ∈ wsX4_colourCount := by decide +kernel
  have hfl31 : Cond.fieldLink RX4 31 (TX4 6).1 (TX4 6).2.1 (TX4 6).2.2.1 ∈ wsX4_colourCount := by decide +kernel
  show J p l e rmX4_colourCount s m args below meth c D A 1 0 0 (MQ below (jQc D (fun r0 w0 => r0 = some (.int cc) ∧ w0 = zW a cI n va re tr sh co cc) A) args s rmX4_colourCount.cells rmX4_colourCount.slots A) (zW a cI n va re tr sh co cc) 0 [(0, .ref (a 0))] []
  refine j_aload_n CX 0 dX4_colourCount_0 rfl rfl ?_
  refine j_get CX 0 6 dX4_colourCount_1 rfl rfl hin4 (by decide) hfl31 rfl ?_
  exact j_iret CX hr hlocks dX4_colourCount_4 (⟨rfl, rfl⟩)

abbrev rmX4_colourOf : Room := { frames := 0, cells := 0, slots := 0, locals := 0 }
set_option maxRecDepth 100000 in
set_option maxHeartbeats 4000000 in
theorem z_colourOf (l : Launch) (D : va_G) (cI cZ cL : ClassId) (a : Nat → Nat) (n : Nat) (va re tr sh co : Nat → Int32) (cc : Int32) (z : Nat) (hn : n ≤ 24) (hz : z < n) : Cg l D cI cZ cL yX4_colourOf wsX4_colourOf rmX4_colourOf [.ref (a 0), .int (nI z)] (zW a cI n va re tr sh co cc) (fun r0 w0 => r0 = some (.int (co z)) ∧ w0 = zW a cI n va re tr sh co cc) := by
  refine Cg.ofJ (own := RX4) (cc := cX4_colourOf) (maxL := 2) (ret := (some .int)) (by decide) rfl rfl (Nat.le_of_ble_eq_true rfl) ?_
  intro p e s m args below meth c A CX hr hlocks hname
  have hin4 : ∀ x ∈ u_ws RX4 TX4 7, x ∈ wsX4_colourOf := by decide +kernel
  have hfl28 : Cond.fieldLink RX4 28 (TX4 5).1 (TX4 5).2.1 (TX4 5).2.2.1 ∈ wsX4_colourOf := by decide +kernel
  show J p l e rmX4_colourOf s m args below meth c D A 2 0 0 (MQ below (jQc D (fun r0 w0 => r0 = some (.int (co z)) ∧ w0 = zW a cI n va re tr sh co cc) A) args s rmX4_colourOf.cells rmX4_colourOf.slots A) (zW a cI n va re tr sh co cc) 0 [(0, .ref (a 0)), (1, .int (nI z))] []
  refine j_aload_n CX 0 dX4_colourOf_0 rfl rfl ?_
  refine j_get CX 0 5 dX4_colourOf_1 rfl rfl hin4 (by decide) hfl28 rfl ?_
  refine j_iload_n CX 1 dX4_colourOf_4 rfl rfl ?_
  refine j_iald CX 5 z dX4_colourOf_5 rfl (rfl) (by first | assumption | omega) (by first | assumption | omega | (have := nn24 (by assumption); omega)) ?_
  exact j_iret CX hr hlocks dX4_colourOf_6 (⟨rfl, rfl⟩)

abbrev rmX4_remember : Room := { frames := 1, cells := 0, slots := 0, locals := 64 }
set_option maxRecDepth 100000 in
set_option maxHeartbeats 4000000 in
theorem z_remember (l : Launch) (D : va_G) (cI cZ cL : ClassId) (a : Nat → Nat) (n : Nat) (va re tr sh co : Nat → Int32) (cc : Int32) (hn : n ≤ 24) : Cg l D cI cZ cL yX4_remember wsX4_remember rmX4_remember [.ref (a 0)] (zW a cI n va re tr sh co cc) (fun r0 w0 => r0 = none ∧ w0 = zW a cI n va (va_cpy va re 0 0 n) tr sh co cc) := by
  refine Cg.ofJ (own := RX4) (cc := cX4_remember) (maxL := 1) (ret := none) (by decide) rfl rfl (Nat.le_of_ble_eq_true rfl) ?_
  intro p e s m args below meth c A CX hr hlocks hname
  have hin4 : ∀ x ∈ u_ws RX4 TX4 7, x ∈ wsX4_remember := by decide +kernel
  have hfl15 : Cond.fieldLink RX4 15 (TX4 1).1 (TX4 1).2.1 (TX4 1).2.2.1 ∈ wsX4_remember := by decide +kernel
  have hfl19 : Cond.fieldLink RX4 19 (TX4 2).1 (TX4 2).2.1 (TX4 2).2.2.1 ∈ wsX4_remember := by decide +kernel
  have hfl9 : Cond.fieldLink RX4 9 (TX4 0).1 (TX4 0).2.1 (TX4 0).2.2.1 ∈ wsX4_remember := by decide +kernel
  have hml37 : Cond.methodLink RX4 37 arraycopyName ∈ wsX4_remember := by decide +kernel
  have hacn : Cond.native arraycopyName ∈ wsX4_remember := by decide +kernel
  have hacs : Cond.static arraycopyName ∈ wsX4_remember := by decide +kernel
  have hsys : Cond.initialized "java/lang/System" ∈ wsX4_remember := by decide +kernel
  show J p l e rmX4_remember s m args below meth c D A 1 0 0 (MQ below (jQc D (fun r0 w0 => r0 = none ∧ w0 = zW a cI n va (va_cpy va re 0 0 n) tr sh co cc) A) args s rmX4_remember.cells rmX4_remember.slots A) (zW a cI n va re tr sh co cc) 0 [(0, .ref (a 0))] []
  refine j_aload_n CX 0 dX4_remember_0 rfl rfl ?_
  refine j_get CX 0 1 dX4_remember_1 rfl rfl hin4 (by decide) hfl15 rfl ?_
  refine j_iconst CX dX4_remember_4 (show _ = (nI 0 : Int32) by decide) ?_
  refine j_aload_n CX 0 dX4_remember_5 rfl rfl ?_
  refine j_get CX 0 2 dX4_remember_6 rfl rfl hin4 (by decide) hfl19 rfl ?_
  refine j_iconst CX dX4_remember_9 (show _ = (nI 0 : Int32) by decide) ?_
  refine j_aload_n CX 0 dX4_remember_10 rfl rfl ?_
  refine j_get CX 0 0 dX4_remember_11 rfl rfl hin4 (by decide) hfl9 rfl ?_
  refine j_copyi CX (w' := zW a cI n va (va_cpy va re 0 0 n) tr sh co cc) 1 2 0 0 n dX4_remember_14 hml37 hacn hacs hsys rfl rfl rfl rfl rfl (by omega) (by omega) (by omega) (by omega) (Nat.le_of_ble_eq_true rfl) (Nat.le_of_ble_eq_true rfl) rfl ?_
  exact j_vret CX hr hlocks dX4_remember_17 (⟨rfl, rfl⟩)

abbrev rmX4_recall : Room := { frames := 1, cells := 0, slots := 0, locals := 64 }
set_option maxRecDepth 100000 in
set_option maxHeartbeats 4000000 in
theorem z_recall (l : Launch) (D : va_G) (cI cZ cL : ClassId) (a : Nat → Nat) (n : Nat) (va re tr sh co : Nat → Int32) (cc : Int32) (hn : n ≤ 24) : Cg l D cI cZ cL yX4_recall wsX4_recall rmX4_recall [.ref (a 0)] (zW a cI n va re tr sh co cc) (fun r0 w0 => r0 = none ∧ w0 = zW a cI n (va_cpy re va 0 0 n) re tr sh co cc) := by
  refine Cg.ofJ (own := RX4) (cc := cX4_recall) (maxL := 1) (ret := none) (by decide) rfl rfl (Nat.le_of_ble_eq_true rfl) ?_
  intro p e s m args below meth c A CX hr hlocks hname
  have hin4 : ∀ x ∈ u_ws RX4 TX4 7, x ∈ wsX4_recall := by decide +kernel
  have hfl19 : Cond.fieldLink RX4 19 (TX4 2).1 (TX4 2).2.1 (TX4 2).2.2.1 ∈ wsX4_recall := by decide +kernel
  have hfl15 : Cond.fieldLink RX4 15 (TX4 1).1 (TX4 1).2.1 (TX4 1).2.2.1 ∈ wsX4_recall := by decide +kernel
  have hfl9 : Cond.fieldLink RX4 9 (TX4 0).1 (TX4 0).2.1 (TX4 0).2.2.1 ∈ wsX4_recall := by decide +kernel
  have hml37 : Cond.methodLink RX4 37 arraycopyName ∈ wsX4_recall := by decide +kernel
  have hacn : Cond.native arraycopyName ∈ wsX4_recall := by decide +kernel
  have hacs : Cond.static arraycopyName ∈ wsX4_recall := by decide +kernel
  have hsys : Cond.initialized "java/lang/System" ∈ wsX4_recall := by decide +kernel
  show J p l e rmX4_recall s m args below meth c D A 1 0 0 (MQ below (jQc D (fun r0 w0 => r0 = none ∧ w0 = zW a cI n (va_cpy re va 0 0 n) re tr sh co cc) A) args s rmX4_recall.cells rmX4_recall.slots A) (zW a cI n va re tr sh co cc) 0 [(0, .ref (a 0))] []
  refine j_aload_n CX 0 dX4_recall_0 rfl rfl ?_
  refine j_get CX 0 2 dX4_recall_1 rfl rfl hin4 (by decide) hfl19 rfl ?_
  refine j_iconst CX dX4_recall_4 (show _ = (nI 0 : Int32) by decide) ?_
  refine j_aload_n CX 0 dX4_recall_5 rfl rfl ?_
  refine j_get CX 0 1 dX4_recall_6 rfl rfl hin4 (by decide) hfl15 rfl ?_
  refine j_iconst CX dX4_recall_9 (show _ = (nI 0 : Int32) by decide) ?_
  refine j_aload_n CX 0 dX4_recall_10 rfl rfl ?_
  refine j_get CX 0 0 dX4_recall_11 rfl rfl hin4 (by decide) hfl9 rfl ?_
  refine j_copyi CX (w' := zW a cI n (va_cpy re va 0 0 n) re tr sh co cc) 2 1 0 0 n dX4_recall_14 hml37 hacn hacs hsys rfl rfl rfl rfl rfl (by omega) (by omega) (by omega) (by omega) (Nat.le_of_ble_eq_true rfl) (Nat.le_of_ble_eq_true rfl) rfl ?_
  exact j_vret CX hr hlocks dX4_recall_17 (⟨rfl, rfl⟩)
