abbrev rmX0_size : Room := { frames := 0, cells := 0, slots := 0, locals := 0 }
set_option maxRecDepth 100000 in
set_option maxHeartbeats 4000000 in
theorem b_size (l : Launch) (D : va_G) (cI cZ cL : ClassId) (a : Nat → Nat) (bl : Nat → Int32) (k : Nat)  : Cg l D cI cZ cL yX0_size wsX0_size rmX0_size [.ref (a 0)] (bW a cI bl (nI k)) (fun r0 w0 => r0 = some (.int (nI k)) ∧ w0 = bW a cI bl (nI k)) := by
  refine Cg.ofJ (own := RX0) (cc := cX0_size) (maxL := 1) (ret := (some .int)) (by decide) rfl rfl (Nat.le_of_ble_eq_true rfl) ?_
  intro p e s m args below meth c A CX hr hlocks hname
  have hin0 : ∀ x ∈ u_ws RX0 TX0 2, x ∈ wsX0_size := by decide +kernel
  have hfl15 : Cond.fieldLink RX0 15 (TX0 1).1 (TX0 1).2.1 (TX0 1).2.2.1 ∈ wsX0_size := by decide +kernel
  show J p l e rmX0_size s m args below meth c D A 1 0 0 (MQ below (jQc D (fun r0 w0 => r0 = some (.int (nI k)) ∧ w0 = bW a cI bl (nI k)) A) args s rmX0_size.cells rmX0_size.slots A) (bW a cI bl (nI k)) 0 [(0, .ref (a 0))] []
  refine j_aload_n CX 0 dX0_size_0 rfl rfl ?_
  refine j_get CX 0 1 dX0_size_1 rfl rfl hin0 (by decide) hfl15 rfl ?_
  exact j_iret CX hr hlocks dX0_size_4 (⟨rfl, rfl⟩)

abbrev rmX0_clear : Room := { frames := 0, cells := 0, slots := 0, locals := 0 }
set_option maxRecDepth 100000 in
set_option maxHeartbeats 4000000 in
theorem b_clear (l : Launch) (D : va_G) (cI cZ cL : ClassId) (a : Nat → Nat) (bl : Nat → Int32) (k : Nat)  : Cg l D cI cZ cL yX0_clear wsX0_clear rmX0_clear [.ref (a 0)] (bW a cI bl (nI k)) (fun r0 w0 => r0 = none ∧ w0 = bW a cI bl (nI 0)) := by
  refine Cg.ofJ (own := RX0) (cc := cX0_clear) (maxL := 1) (ret := none) (by decide) rfl rfl (Nat.le_of_ble_eq_true rfl) ?_
  intro p e s m args below meth c A CX hr hlocks hname
  have hin0 : ∀ x ∈ u_ws RX0 TX0 2, x ∈ wsX0_clear := by decide +kernel
  have hfl15 : Cond.fieldLink RX0 15 (TX0 1).1 (TX0 1).2.1 (TX0 1).2.2.1 ∈ wsX0_clear := by decide +kernel
  show J p l e rmX0_clear s m args below meth c D A 1 0 0 (MQ below (jQc D (fun r0 w0 => r0 = none ∧ w0 = bW a cI bl (nI 0)) A) args s rmX0_clear.cells rmX0_clear.slots A) (bW a cI bl (nI k)) 0 [(0, .ref (a 0))] []
  refine j_aload_n CX 0 dX0_clear_0 rfl rfl ?_
  refine j_iconst CX dX0_clear_1 (show _ = (nI 0 : Int32) by decide) ?_
  refine j_put CX (w' := bW a cI bl (nI 0)) 0 1 dX0_clear_2 rfl rfl hin0 tyX0 tyX0_ok nmX0 (by decide) hfl15 rfl rfl rfl rfl (Nat.le_of_ble_eq_true rfl) rfl ?_
  exact j_vret CX hr hlocks dX0_clear_5 (⟨rfl, rfl⟩)

abbrev rmX0_add : Room := { frames := 0, cells := 0, slots := 0, locals := 0 }
set_option maxRecDepth 100000 in
set_option maxHeartbeats 4000000 in
theorem b_add (l : Launch) (D : va_G) (cI cZ cL : ClassId) (a : Nat → Nat) (bl : Nat → Int32) (k : Nat) (w z h f : Nat) (hk : k < 2 ^ 31) (hf : f ≤ 1) : Cg l D cI cZ cL yX0_add wsX0_add rmX0_add [.ref (a 0), .int (nI w), .int (nI z), .int (nI h), .int (nI f)] (bW a cI bl (nI k)) (fun r0 w0 => r0 = none ∧ w0 = bW a cI (if k < 2000 then upd bl k (packF w z h f) else bl) (nI (if k < 2000 then k + 1 else k))) := by
  refine Cg.ofJ (own := RX0) (cc := cX0_add) (maxL := 5) (ret := none) (by decide) rfl rfl (Nat.le_of_ble_eq_true rfl) ?_
  intro p e s m args below meth c A CX hr hlocks hname
  have hin0 : ∀ x ∈ u_ws RX0 TX0 2, x ∈ wsX0_add := by decide +kernel
  have hfl15 : Cond.fieldLink RX0 15 (TX0 1).1 (TX0 1).2.1 (TX0 1).2.2.1 ∈ wsX0_add := by decide +kernel
  have hfl9 : Cond.fieldLink RX0 9 (TX0 0).1 (TX0 0).2.1 (TX0 0).2.2.1 ∈ wsX0_add := by decide +kernel
  show J p l e rmX0_add s m args below meth c D A 5 0 0 (MQ below (jQc D (fun r0 w0 => r0 = none ∧ w0 = bW a cI (if k < 2000 then upd bl k (packF w z h f) else bl) (nI (if k < 2000 then k + 1 else k))) A) args s rmX0_add.cells rmX0_add.slots A) (bW a cI bl (nI k)) 0 [(0, .ref (a 0)), (1, .int (nI w)), (2, .int (nI z)), (3, .int (nI h)), (4, .int (nI f))] []
  refine j_aload_n CX 0 dX0_add_0 rfl rfl ?_
  refine j_get CX 0 1 dX0_add_1 rfl rfl hin0 (by decide) hfl15 rfl ?_
  refine j_sipush CX dX0_add_4 (show _ = (nI 2000 : Int32) by decide) ?_
  refine j_icmpN_ge CX (by first | assumption | omega) (by first | assumption | omega | exact b2n_lt _ | exact t2n_lt _) 53 dX0_add_7 (by decide) (fun h7 => ?_) (fun h7 => ?_)
  · exact j_vret CX hr hlocks dX0_add_53 (⟨rfl, by rw [if_neg (Nat.not_lt.mpr h7), if_neg (Nat.not_lt.mpr h7)]⟩)
  · refine j_aload_n CX 0 dX0_add_10 rfl rfl ?_
    refine j_get CX 0 0 dX0_add_11 rfl rfl hin0 (by decide) hfl9 rfl ?_
    refine j_aload_n CX 0 dX0_add_14 rfl rfl ?_
    refine j_get CX 0 1 dX0_add_15 rfl rfl hin0 (by decide) hfl15 rfl ?_
    refine j_iload_n CX 1 dX0_add_18 rfl rfl ?_
    refine j_iload_n CX 2 dX0_add_19 rfl rfl ?_
    refine j_iconst CX dX0_add_20 (show _ = (nI 4 : Int32) by decide) ?_
    refine j_ishl CX dX0_add_21 ?_
    refine j_ior CX dX0_add_22 ?_
    refine j_iload_n CX 3 dX0_add_23 rfl rfl ?_
    refine j_bipush CX dX0_add_24 (show _ = (nI 9 : Int32) by decide) ?_
    refine j_ishl CX dX0_add_26 ?_
    refine j_ior CX dX0_add_27 ?_
    refine j_iload CX 4 dX0_add_28 rfl ?_
    refine j_ifN_eq CX (by first | assumption | omega | exact b2n_lt _ | exact t2n_lt _) 37 dX0_add_30 (by decide) (fun h30 => ?_) (fun h30 => ?_)
    · refine j_iconst CX dX0_add_37 (show _ = (nI 0 : Int32) by decide) ?_
      refine j_top (show (nI 0 : Int32) = nI f by rw [show f = 0 by omega]) ?_
      refine j_bipush CX dX0_add_38 (show _ = (nI 19 : Int32) by decide) ?_
      refine j_ishl CX dX0_add_40 ?_
      refine j_ior CX dX0_add_41 ?_
      refine j_iast CX (w' := bW a cI (upd bl k ((((nI w) ||| ((nI z) <<< ((nI 4) &&& 31))) ||| ((nI h) <<< ((nI 9) &&& 31))) ||| ((nI f) <<< ((nI 19) &&& 31)))) (nI k)) 1 k dX0_add_42 rfl (rfl) (by first | assumption | omega) (by decide) rfl ?_
      refine j_aload_n CX 0 dX0_add_43 rfl rfl ?_
      refine j_dup CX dX0_add_44 rfl ?_
      refine j_get CX 0 1 dX0_add_45 rfl rfl hin0 (by decide) hfl15 rfl ?_
      refine j_iconst CX dX0_add_48 (show _ = (nI 1 : Int32) by decide) ?_
      refine j_iadd CX dX0_add_49 ?_
      refine j_top (show (nI k) + (nI 1) = nI (k + 1) from nI_add _ _) ?_
      refine j_put CX (w' := bW a cI (upd bl k ((((nI w) ||| ((nI z) <<< ((nI 4) &&& 31))) ||| ((nI h) <<< ((nI 9) &&& 31))) ||| ((nI f) <<< ((nI 19) &&& 31)))) (nI (k + 1))) 0 1 dX0_add_50 rfl rfl hin0 tyX0 tyX0_ok nmX0 (by decide) hfl15 rfl rfl rfl rfl (Nat.le_of_ble_eq_true rfl) rfl ?_
      exact j_vret CX hr hlocks dX0_add_53 (⟨rfl, by rw [if_pos h7, if_pos h7]; rfl⟩)
    · refine j_iconst CX dX0_add_33 (show _ = (nI 1 : Int32) by decide) ?_
      refine j_goto CX 38 dX0_add_34 (by decide) ?_
      refine j_top (show (nI 1 : Int32) = nI f by rw [show f = 1 by omega]) ?_
      refine j_bipush CX dX0_add_38 (show _ = (nI 19 : Int32) by decide) ?_
      refine j_ishl CX dX0_add_40 ?_
      refine j_ior CX dX0_add_41 ?_
      refine j_iast CX (w' := bW a cI (upd bl k ((((nI w) ||| ((nI z) <<< ((nI 4) &&& 31))) ||| ((nI h) <<< ((nI 9) &&& 31))) ||| ((nI f) <<< ((nI 19) &&& 31)))) (nI k)) 1 k dX0_add_42 rfl (rfl) (by first | assumption | omega) (by decide) rfl ?_
      refine j_aload_n CX 0 dX0_add_43 rfl rfl ?_
      refine j_dup CX dX0_add_44 rfl ?_
      refine j_get CX 0 1 dX0_add_45 rfl rfl hin0 (by decide) hfl15 rfl ?_
      refine j_iconst CX dX0_add_48 (show _ = (nI 1 : Int32) by decide) ?_
      refine j_iadd CX dX0_add_49 ?_
      refine j_top (show (nI k) + (nI 1) = nI (k + 1) from nI_add _ _) ?_
      refine j_put CX (w' := bW a cI (upd bl k ((((nI w) ||| ((nI z) <<< ((nI 4) &&& 31))) ||| ((nI h) <<< ((nI 9) &&& 31))) ||| ((nI f) <<< ((nI 19) &&& 31)))) (nI (k + 1))) 0 1 dX0_add_50 rfl rfl hin0 tyX0 tyX0_ok nmX0 (by decide) hfl15 rfl rfl rfl rfl (Nat.le_of_ble_eq_true rfl) rfl ?_
      exact j_vret CX hr hlocks dX0_add_53 (⟨rfl, by rw [if_pos h7, if_pos h7]; rfl⟩)

abbrev rmX0_read : Room := { frames := 0, cells := 0, slots := 0, locals := 0 }
set_option maxRecDepth 100000 in
set_option maxHeartbeats 4000000 in
theorem b_read0 (l : Launch) (D : va_G) (cI cZ cL : ClassId) (a : Nat → Nat) (bl : Nat → Int32) (k : Nat) (j : Nat) (hj : j < 2000) : Cg l D cI cZ cL yX0_read wsX0_read rmX0_read [.ref (a 0), .int (nI j), .int (nI 0)] (bW a cI bl (nI k)) (fun r0 w0 => r0 = some (.int (bl j &&& nI 15)) ∧ w0 = bW a cI bl (nI k)) := by
  refine Cg.ofJ (own := RX0) (cc := cX0_read) (maxL := 4) (ret := (some .int)) (by decide) rfl rfl (Nat.le_of_ble_eq_true rfl) ?_
  intro p e s m args below meth c A CX hr hlocks hname
  have hin0 : ∀ x ∈ u_ws RX0 TX0 2, x ∈ wsX0_read := by decide +kernel
  have hfl9 : Cond.fieldLink RX0 9 (TX0 0).1 (TX0 0).2.1 (TX0 0).2.2.1 ∈ wsX0_read := by decide +kernel
  show J p l e rmX0_read s m args below meth c D A 4 0 0 (MQ below (jQc D (fun r0 w0 => r0 = some (.int (bl j &&& nI 15)) ∧ w0 = bW a cI bl (nI k)) A) args s rmX0_read.cells rmX0_read.slots A) (bW a cI bl (nI k)) 0 [(0, .ref (a 0)), (1, .int (nI j)), (2, .int (nI 0))] []
  refine j_aload_n CX 0 dX0_read_0 rfl rfl ?_
  refine j_get CX 0 0 dX0_read_1 rfl rfl hin0 (by decide) hfl9 rfl ?_
  refine j_iload_n CX 1 dX0_read_4 rfl rfl ?_
  refine j_iald CX 1 j dX0_read_5 rfl (rfl) (by first | assumption | omega) (by decide) ?_
  refine j_istore_n CX (lv' := [(3, .int (bl j)), (0, .ref (a 0)), (1, .int (nI j)), (2, .int (nI 0))]) dX0_read_6 rfl (by decide) rfl ?_
  refine j_iload_n CX 3 dX0_read_7 rfl rfl ?_
  refine j_tableIn CX 36 dX0_read_8 (by decide) (by decide) (off := 28) (by decide) (by decide) ?_
  refine j_iload_n CX 0 dX0_read_36 rfl rfl ?_
  refine j_bipush CX dX0_read_37 (show _ = (nI 15 : Int32) by decide) ?_
  refine j_iand CX dX0_read_39 ?_
  exact j_iret CX hr hlocks dX0_read_40 (⟨rfl, rfl⟩)

set_option maxRecDepth 100000 in
set_option maxHeartbeats 4000000 in
theorem b_read1 (l : Launch) (D : va_G) (cI cZ cL : ClassId) (a : Nat → Nat) (bl : Nat → Int32) (k : Nat) (j : Nat) (hj : j < 2000) : Cg l D cI cZ cL yX0_read wsX0_read rmX0_read [.ref (a 0), .int (nI j), .int (nI 1)] (bW a cI bl (nI k)) (fun r0 w0 => r0 = some (.int ((bl j >>> (nI 4 &&& 31)) &&& nI 31)) ∧ w0 = bW a cI bl (nI k)) := by
  refine Cg.ofJ (own := RX0) (cc := cX0_read) (maxL := 4) (ret := (some .int)) (by decide) rfl rfl (Nat.le_of_ble_eq_true rfl) ?_
  intro p e s m args below meth c A CX hr hlocks hname
  have hin0 : ∀ x ∈ u_ws RX0 TX0 2, x ∈ wsX0_read := by decide +kernel
  have hfl9 : Cond.fieldLink RX0 9 (TX0 0).1 (TX0 0).2.1 (TX0 0).2.2.1 ∈ wsX0_read := by decide +kernel
  show J p l e rmX0_read s m args below meth c D A 4 0 0 (MQ below (jQc D (fun r0 w0 => r0 = some (.int ((bl j >>> (nI 4 &&& 31)) &&& nI 31)) ∧ w0 = bW a cI bl (nI k)) A) args s rmX0_read.cells rmX0_read.slots A) (bW a cI bl (nI k)) 0 [(0, .ref (a 0)), (1, .int (nI j)), (2, .int (nI 1))] []
  refine j_aload_n CX 0 dX0_read_0 rfl rfl ?_
  refine j_get CX 0 0 dX0_read_1 rfl rfl hin0 (by decide) hfl9 rfl ?_
  refine j_iload_n CX 1 dX0_read_4 rfl rfl ?_
  refine j_iald CX 1 j dX0_read_5 rfl (rfl) (by first | assumption | omega) (by decide) ?_
  refine j_istore_n CX (lv' := [(3, .int (bl j)), (0, .ref (a 0)), (1, .int (nI j)), (2, .int (nI 1))]) dX0_read_6 rfl (by decide) rfl ?_
  refine j_iload_n CX 3 dX0_read_7 rfl rfl ?_
  refine j_tableIn CX 41 dX0_read_8 (by decide) (by decide) (off := 33) (by decide) (by decide) ?_
  refine j_iload_n CX 0 dX0_read_41 rfl rfl ?_
  refine j_iconst CX dX0_read_42 (show _ = (nI 4 : Int32) by decide) ?_
  refine j_ishr CX dX0_read_43 ?_
  refine j_bipush CX dX0_read_44 (show _ = (nI 31 : Int32) by decide) ?_
  refine j_iand CX dX0_read_46 ?_
  exact j_iret CX hr hlocks dX0_read_47 (⟨rfl, rfl⟩)

set_option maxRecDepth 100000 in
set_option maxHeartbeats 4000000 in
theorem b_read2 (l : Launch) (D : va_G) (cI cZ cL : ClassId) (a : Nat → Nat) (bl : Nat → Int32) (k : Nat) (j : Nat) (hj : j < 2000) : Cg l D cI cZ cL yX0_read wsX0_read rmX0_read [.ref (a 0), .int (nI j), .int (nI 2)] (bW a cI bl (nI k)) (fun r0 w0 => r0 = some (.int ((bl j >>> (nI 9 &&& 31)) &&& nI 1023)) ∧ w0 = bW a cI bl (nI k)) := by
  refine Cg.ofJ (own := RX0) (cc := cX0_read) (maxL := 4) (ret := (some .int)) (by decide) rfl rfl (Nat.le_of_ble_eq_true rfl) ?_
  intro p e s m args below meth c A CX hr hlocks hname
  have hin0 : ∀ x ∈ u_ws RX0 TX0 2, x ∈ wsX0_read := by decide +kernel
  have hfl9 : Cond.fieldLink RX0 9 (TX0 0).1 (TX0 0).2.1 (TX0 0).2.2.1 ∈ wsX0_read := by decide +kernel
  show J p l e rmX0_read s m args below meth c D A 4 0 0 (MQ below (jQc D (fun r0 w0 => r0 = some (.int ((bl j >>> (nI 9 &&& 31)) &&& nI 1023)) ∧ w0 = bW a cI bl (nI k)) A) args s rmX0_read.cells rmX0_read.slots A) (bW a cI bl (nI k)) 0 [(0, .ref (a 0)), (1, .int (nI j)), (2, .int (nI 2))] []
  refine j_aload_n CX 0 dX0_read_0 rfl rfl ?_
  refine j_get CX 0 0 dX0_read_1 rfl rfl hin0 (by decide) hfl9 rfl ?_
  refine j_iload_n CX 1 dX0_read_4 rfl rfl ?_
  refine j_iald CX 1 j dX0_read_5 rfl (rfl) (by first | assumption | omega) (by decide) ?_
  refine j_istore_n CX (lv' := [(3, .int (bl j)), (0, .ref (a 0)), (1, .int (nI j)), (2, .int (nI 2))]) dX0_read_6 rfl (by decide) rfl ?_
  refine j_iload_n CX 3 dX0_read_7 rfl rfl ?_
  refine j_tableIn CX 48 dX0_read_8 (by decide) (by decide) (off := 40) (by decide) (by decide) ?_
  refine j_iload_n CX 0 dX0_read_48 rfl rfl ?_
  refine j_bipush CX dX0_read_49 (show _ = (nI 9 : Int32) by decide) ?_
  refine j_ishr CX dX0_read_51 ?_
  refine j_sipush CX dX0_read_52 (show _ = (nI 1023 : Int32) by decide) ?_
  refine j_iand CX dX0_read_55 ?_
  exact j_iret CX hr hlocks dX0_read_56 (⟨rfl, rfl⟩)

set_option maxRecDepth 100000 in
set_option maxHeartbeats 4000000 in
theorem b_read3 (l : Launch) (D : va_G) (cI cZ cL : ClassId) (a : Nat → Nat) (bl : Nat → Int32) (k : Nat) (j : Nat) (hj : j < 2000) : Cg l D cI cZ cL yX0_read wsX0_read rmX0_read [.ref (a 0), .int (nI j), .int (nI 3)] (bW a cI bl (nI k)) (fun r0 w0 => r0 = some (.int ((bl j >>> (nI 19 &&& 31)) &&& nI 1)) ∧ w0 = bW a cI bl (nI k)) := by
  refine Cg.ofJ (own := RX0) (cc := cX0_read) (maxL := 4) (ret := (some .int)) (by decide) rfl rfl (Nat.le_of_ble_eq_true rfl) ?_
  intro p e s m args below meth c A CX hr hlocks hname
  have hin0 : ∀ x ∈ u_ws RX0 TX0 2, x ∈ wsX0_read := by decide +kernel
  have hfl9 : Cond.fieldLink RX0 9 (TX0 0).1 (TX0 0).2.1 (TX0 0).2.2.1 ∈ wsX0_read := by decide +kernel
  show J p l e rmX0_read s m args below meth c D A 4 0 0 (MQ below (jQc D (fun r0 w0 => r0 = some (.int ((bl j >>> (nI 19 &&& 31)) &&& nI 1)) ∧ w0 = bW a cI bl (nI k)) A) args s rmX0_read.cells rmX0_read.slots A) (bW a cI bl (nI k)) 0 [(0, .ref (a 0)), (1, .int (nI j)), (2, .int (nI 3))] []
  refine j_aload_n CX 0 dX0_read_0 rfl rfl ?_
  refine j_get CX 0 0 dX0_read_1 rfl rfl hin0 (by decide) hfl9 rfl ?_
  refine j_iload_n CX 1 dX0_read_4 rfl rfl ?_
  refine j_iald CX 1 j dX0_read_5 rfl (rfl) (by first | assumption | omega) (by decide) ?_
  refine j_istore_n CX (lv' := [(3, .int (bl j)), (0, .ref (a 0)), (1, .int (nI j)), (2, .int (nI 3))]) dX0_read_6 rfl (by decide) rfl ?_
  refine j_iload_n CX 3 dX0_read_7 rfl rfl ?_
  refine j_tableOut CX 57 dX0_read_8 (by decide) (by decide) ?_
  refine j_iload_n CX 0 dX0_read_57 rfl rfl ?_
  refine j_bipush CX dX0_read_58 (show _ = (nI 19 : Int32) by decide) ?_
  refine j_ishr CX dX0_read_60 ?_
  refine j_iconst CX dX0_read_61 (show _ = (nI 1 : Int32) by decide) ?_
  refine j_iand CX dX0_read_62 ?_
  exact j_iret CX hr hlocks dX0_read_63 (⟨rfl, rfl⟩)
