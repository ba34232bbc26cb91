
def miF : Nat → Nat → Int32
  | 0 => fun _ => 0
  | k + 1 => upd (miF k) k (-1)
abbrev rmX0_init : Room := { frames := 1, cells := 1, slots := 2000, locals := 64 }
set_option maxRecDepth 100000 in
set_option maxHeartbeats 4000000 in
theorem b_init (l : Launch) (D : va_G) (cI cZ cL : ClassId) (h0 : Nat)   : Cg l D cI cZ cL yX0_init wsX0_init rmX0_init [.ref h0] ([(h0, .inr (0, [.null, .int 0]))]) (fun r0 w0 => r0 = none ∧ ∃ a : Nat → Nat, a 0 = h0 ∧ w0 = bW a cI (fun _ => 0) (nI 0)) := by
  refine Cg.ofJ (own := RX0) (cc := cX0_init) (maxL := 1) (ret := none) (by decide) rfl rfl (Nat.le_of_ble_eq_true rfl) ?_
  intro p e s m args below meth c A CX hr hlocks hname
  have hml3 : Cond.methodLink RX0 3 objectInit ∈ wsX0_init := by decide +kernel
  have hoi : Cond.instanceMethod objectInit ∈ wsX0_init := by decide +kernel
  have hoc : Cond.code objectInit ⟨#[0xb1]⟩ 1 none ∈ wsX0_init := by decide +kernel
  have hac_int : Cond.arrayClass .int ∈ wsX0_init := by decide +kernel
  have hin0 : ∀ x ∈ u_ws RX0 TX0 2, x ∈ wsX0_init := by decide +kernel
  have hfl9 : Cond.fieldLink RX0 9 (TX0 0).1 (TX0 0).2.1 (TX0 0).2.2.1 ∈ wsX0_init := by decide +kernel
  have hfl15 : Cond.fieldLink RX0 15 (TX0 1).1 (TX0 1).2.1 (TX0 1).2.2.1 ∈ wsX0_init := by decide +kernel
  show J p l e rmX0_init s m args below meth c D A 1 0 0 (MQ below (jQc D (fun r0 w0 => r0 = none ∧ ∃ a : Nat → Nat, a 0 = h0 ∧ w0 = bW a cI (fun _ => 0) (nI 0)) A) args s rmX0_init.cells rmX0_init.slots A) ([(h0, .inr (0, [.null, .int 0]))]) 0 [(0, .ref h0)] []
  refine j_aload_n CX 0 dX0_init_0 rfl rfl ?_
  refine j_objInit CX dX0_init_1 hml3 hoi hoc (Nat.le_of_ble_eq_true rfl) (Nat.le_of_ble_eq_true rfl) ?_
  refine j_aload_n CX 0 dX0_init_4 rfl rfl ?_
  refine j_sipush CX dX0_init_5 (show _ = (nI 2000 : Int32) by decide) ?_
  refine j_newI CX 2000 dX0_init_8 (rfl) (by first | decide | omega) hac_int (Nat.le_of_ble_eq_true rfl) (Nat.le_of_ble_eq_true rfl) (fun q8 => ?_)
  refine j_w (w' := [(h0, .inr (0, [.null, .int 0])), (q8, .inl (cI, 2000, .inl (fun _ => 0)))]) rfl ?_
  refine j_putF CX (w' := [(h0, .inr (0, [.ref q8, .int 0])), (q8, .inl (cI, 2000, .inl (fun _ => 0)))]) 0 0 hname dX0_init_10 rfl rfl hin0 tyX0 tyX0_ok nmX0 (by decide) hfl9 rfl rfl rfl rfl rfl (Nat.le_of_ble_eq_true rfl) rfl ?_
  refine j_aload_n CX 0 dX0_init_13 rfl rfl ?_
  refine j_iconst CX dX0_init_14 (show _ = (nI 0 : Int32) by decide) ?_
  refine j_put CX (w' := [(h0, .inr (0, [.ref q8, .int (nI 0)])), (q8, .inl (cI, 2000, .inl (fun _ => 0)))]) 0 1 dX0_init_15 rfl rfl hin0 tyX0 tyX0_ok nmX0 (by decide) hfl15 rfl rfl rfl rfl (Nat.le_of_ble_eq_true rfl) rfl ?_
  exact j_vret CX hr hlocks dX0_init_18 (⟨rfl, (fun k => match k with | 0 => h0 | _ => q8), rfl, rfl⟩)

abbrev rmX2_init : Room := { frames := 1, cells := 1, slots := 200, locals := 64 }
set_option maxRecDepth 100000 in
set_option maxHeartbeats 4000000 in
theorem f_init (l : Launch) (D : va_G) (cI cZ cL : ClassId) (h0 : Nat)   : Cg l D cI cZ cL yX2_init wsX2_init rmX2_init [.ref h0] ([(h0, .inr (2, [.null, .int 0]))]) (fun r0 w0 => r0 = none ∧ ∃ a : Nat → Nat, a 0 = h0 ∧ w0 = fW a cI (nf (fun _ => 0)) (nI 0)) := by
  refine Cg.ofJ (own := RX2) (cc := cX2_init) (maxL := 1) (ret := none) (by decide) rfl rfl (Nat.le_of_ble_eq_true rfl) ?_
  intro p e s m args below meth c A CX hr hlocks hname
  have hml3 : Cond.methodLink RX2 3 objectInit ∈ wsX2_init := by decide +kernel
  have hoi : Cond.instanceMethod objectInit ∈ wsX2_init := by decide +kernel
  have hoc : Cond.code objectInit ⟨#[0xb1]⟩ 1 none ∈ wsX2_init := by decide +kernel
  have hac_int : Cond.arrayClass .int ∈ wsX2_init := by decide +kernel
  have hin2 : ∀ x ∈ u_ws RX2 TX2 2, x ∈ wsX2_init := by decide +kernel
  have hfl9 : Cond.fieldLink RX2 9 (TX2 0).1 (TX2 0).2.1 (TX2 0).2.2.1 ∈ wsX2_init := by decide +kernel
  have hfl15 : Cond.fieldLink RX2 15 (TX2 1).1 (TX2 1).2.1 (TX2 1).2.2.1 ∈ wsX2_init := by decide +kernel
  show J p l e rmX2_init s m args below meth c D A 1 0 0 (MQ below (jQc D (fun r0 w0 => r0 = none ∧ ∃ a : Nat → Nat, a 0 = h0 ∧ w0 = fW a cI (nf (fun _ => 0)) (nI 0)) A) args s rmX2_init.cells rmX2_init.slots A) ([(h0, .inr (2, [.null, .int 0]))]) 0 [(0, .ref h0)] []
  refine j_aload_n CX 0 dX2_init_0 rfl rfl ?_
  refine j_objInit CX dX2_init_1 hml3 hoi hoc (Nat.le_of_ble_eq_true rfl) (Nat.le_of_ble_eq_true rfl) ?_
  refine j_aload_n CX 0 dX2_init_4 rfl rfl ?_
  refine j_sipush CX dX2_init_5 (show _ = (nI 200 : Int32) by decide) ?_
  refine j_newI CX 200 dX2_init_8 (rfl) (by first | decide | omega) hac_int (Nat.le_of_ble_eq_true rfl) (Nat.le_of_ble_eq_true rfl) (fun q8 => ?_)
  refine j_w (w' := [(h0, .inr (2, [.null, .int 0])), (q8, .inl (cI, 200, .inl (fun _ => 0)))]) rfl ?_
  refine j_putF CX (w' := [(h0, .inr (2, [.ref q8, .int 0])), (q8, .inl (cI, 200, .inl (fun _ => 0)))]) 0 0 hname dX2_init_10 rfl rfl hin2 tyX2 tyX2_ok nmX2 (by decide) hfl9 rfl rfl rfl rfl rfl (Nat.le_of_ble_eq_true rfl) rfl ?_
  refine j_aload_n CX 0 dX2_init_13 rfl rfl ?_
  refine j_iconst CX dX2_init_14 (show _ = (nI 0 : Int32) by decide) ?_
  refine j_put CX (w' := [(h0, .inr (2, [.ref q8, .int (nI 0)])), (q8, .inl (cI, 200, .inl (fun _ => 0)))]) 0 1 dX2_init_15 rfl rfl hin2 tyX2 tyX2_ok nmX2 (by decide) hfl15 rfl rfl rfl rfl (Nat.le_of_ble_eq_true rfl) rfl ?_
  exact j_vret CX hr hlocks dX2_init_18 (⟨rfl, (fun k => match k with | 0 => h0 | _ => q8), rfl, rfl⟩)

abbrev rmX3_init : Room := { frames := 1, cells := 3, slots := 300, locals := 64 }
set_option maxRecDepth 100000 in
set_option maxHeartbeats 4000000 in
theorem jb_init (l : Launch) (D : va_G) (cI cZ cL : ClassId) (h0 : Nat)   : Cg l D cI cZ cL yX3_init wsX3_init rmX3_init [.ref h0] ([(h0, .inr (3, [.null, .null, .null, .int 0, .int 0]))]) (fun r0 w0 => r0 = none ∧ ∃ a : Nat → Nat, a 0 = h0 ∧ w0 = jW a cI (nf (fun _ => 0)) (fun _ => 0) (fun _ => 0) (nI 0) (nI 0)) := by
  refine Cg.ofJ (own := RX3) (cc := cX3_init) (maxL := 1) (ret := none) (by decide) rfl rfl (Nat.le_of_ble_eq_true rfl) ?_
  intro p e s m args below meth c A CX hr hlocks hname
  have hml3 : Cond.methodLink RX3 3 objectInit ∈ wsX3_init := by decide +kernel
  have hoi : Cond.instanceMethod objectInit ∈ wsX3_init := by decide +kernel
  have hoc : Cond.code objectInit ⟨#[0xb1]⟩ 1 none ∈ wsX3_init := by decide +kernel
  have hac_int : Cond.arrayClass .int ∈ wsX3_init := by decide +kernel
  have hin3 : ∀ x ∈ u_ws RX3 TX3 5, x ∈ wsX3_init := by decide +kernel
  have hfl9 : Cond.fieldLink RX3 9 (TX3 0).1 (TX3 0).2.1 (TX3 0).2.2.1 ∈ wsX3_init := by decide +kernel
  have hfl15 : Cond.fieldLink RX3 15 (TX3 1).1 (TX3 1).2.1 (TX3 1).2.2.1 ∈ wsX3_init := by decide +kernel
  have hfl18 : Cond.fieldLink RX3 18 (TX3 2).1 (TX3 2).2.1 (TX3 2).2.2.1 ∈ wsX3_init := by decide +kernel
  have hfl21 : Cond.fieldLink RX3 21 (TX3 3).1 (TX3 3).2.1 (TX3 3).2.2.1 ∈ wsX3_init := by decide +kernel
  have hfl25 : Cond.fieldLink RX3 25 (TX3 4).1 (TX3 4).2.1 (TX3 4).2.2.1 ∈ wsX3_init := by decide +kernel
  show J p l e rmX3_init s m args below meth c D A 1 0 0 (MQ below (jQc D (fun r0 w0 => r0 = none ∧ ∃ a : Nat → Nat, a 0 = h0 ∧ w0 = jW a cI (nf (fun _ => 0)) (fun _ => 0) (fun _ => 0) (nI 0) (nI 0)) A) args s rmX3_init.cells rmX3_init.slots A) ([(h0, .inr (3, [.null, .null, .null, .int 0, .int 0]))]) 0 [(0, .ref h0)] []
  refine j_aload_n CX 0 dX3_init_0 rfl rfl ?_
  refine j_objInit CX dX3_init_1 hml3 hoi hoc (Nat.le_of_ble_eq_true rfl) (Nat.le_of_ble_eq_true rfl) ?_
  refine j_aload_n CX 0 dX3_init_4 rfl rfl ?_
  refine j_bipush CX dX3_init_5 (show _ = (nI 100 : Int32) by decide) ?_
  refine j_newI CX 100 dX3_init_7 (rfl) (by first | decide | omega) hac_int (Nat.le_of_ble_eq_true rfl) (Nat.le_of_ble_eq_true rfl) (fun q7 => ?_)
  refine j_w (w' := [(h0, .inr (3, [.null, .null, .null, .int 0, .int 0])), (q7, .inl (cI, 100, .inl (fun _ => 0)))]) rfl ?_
  refine j_putF CX (w' := [(h0, .inr (3, [.ref q7, .null, .null, .int 0, .int 0])), (q7, .inl (cI, 100, .inl (fun _ => 0)))]) 0 0 hname dX3_init_9 rfl rfl hin3 tyX3 tyX3_ok nmX3 (by decide) hfl9 rfl rfl rfl rfl rfl (Nat.le_of_ble_eq_true rfl) rfl ?_
  refine j_aload_n CX 0 dX3_init_12 rfl rfl ?_
  refine j_bipush CX dX3_init_13 (show _ = (nI 100 : Int32) by decide) ?_
  refine j_newI CX 100 dX3_init_15 (rfl) (by first | decide | omega) hac_int (Nat.le_of_ble_eq_true rfl) (Nat.le_of_ble_eq_true rfl) (fun q15 => ?_)
  refine j_w (w' := [(h0, .inr (3, [.ref q7, .null, .null, .int 0, .int 0])), (q7, .inl (cI, 100, .inl (fun _ => 0))), (q15, .inl (cI, 100, .inl (fun _ => 0)))]) rfl ?_
  refine j_putF CX (w' := [(h0, .inr (3, [.ref q7, .ref q15, .null, .int 0, .int 0])), (q7, .inl (cI, 100, .inl (fun _ => 0))), (q15, .inl (cI, 100, .inl (fun _ => 0)))]) 0 1 hname dX3_init_17 rfl rfl hin3 tyX3 tyX3_ok nmX3 (by decide) hfl15 rfl rfl rfl rfl rfl (Nat.le_of_ble_eq_true rfl) rfl ?_
  refine j_aload_n CX 0 dX3_init_20 rfl rfl ?_
  refine j_bipush CX dX3_init_21 (show _ = (nI 100 : Int32) by decide) ?_
  refine j_newI CX 100 dX3_init_23 (rfl) (by first | decide | omega) hac_int (Nat.le_of_ble_eq_true rfl) (Nat.le_of_ble_eq_true rfl) (fun q23 => ?_)
  refine j_w (w' := [(h0, .inr (3, [.ref q7, .ref q15, .null, .int 0, .int 0])), (q7, .inl (cI, 100, .inl (fun _ => 0))), (q15, .inl (cI, 100, .inl (fun _ => 0))), (q23, .inl (cI, 100, .inl (fun _ => 0)))]) rfl ?_
  refine j_putF CX (w' := [(h0, .inr (3, [.ref q7, .ref q15, .ref q23, .int 0, .int 0])), (q7, .inl (cI, 100, .inl (fun _ => 0))), (q15, .inl (cI, 100, .inl (fun _ => 0))), (q23, .inl (cI, 100, .inl (fun _ => 0)))]) 0 2 hname dX3_init_25 rfl rfl hin3 tyX3 tyX3_ok nmX3 (by decide) hfl18 rfl rfl rfl rfl rfl (Nat.le_of_ble_eq_true rfl) rfl ?_
  refine j_aload_n CX 0 dX3_init_28 rfl rfl ?_
  refine j_iconst CX dX3_init_29 (show _ = (nI 0 : Int32) by decide) ?_
  refine j_put CX (w' := [(h0, .inr (3, [.ref q7, .ref q15, .ref q23, .int (nI 0), .int 0])), (q7, .inl (cI, 100, .inl (fun _ => 0))), (q15, .inl (cI, 100, .inl (fun _ => 0))), (q23, .inl (cI, 100, .inl (fun _ => 0)))]) 0 3 dX3_init_30 rfl rfl hin3 tyX3 tyX3_ok nmX3 (by decide) hfl21 rfl rfl rfl rfl (Nat.le_of_ble_eq_true rfl) rfl ?_
  refine j_aload_n CX 0 dX3_init_33 rfl rfl ?_
  refine j_iconst CX dX3_init_34 (show _ = (nI 0 : Int32) by decide) ?_
  refine j_put CX (w' := [(h0, .inr (3, [.ref q7, .ref q15, .ref q23, .int (nI 0), .int (nI 0)])), (q7, .inl (cI, 100, .inl (fun _ => 0))), (q15, .inl (cI, 100, .inl (fun _ => 0))), (q23, .inl (cI, 100, .inl (fun _ => 0)))]) 0 4 dX3_init_35 rfl rfl hin3 tyX3 tyX3_ok nmX3 (by decide) hfl25 rfl rfl rfl rfl (Nat.le_of_ble_eq_true rfl) rfl ?_
  exact j_vret CX hr hlocks dX3_init_38 (⟨rfl, (fun k => match k with | 0 => h0 | 1 => q7 | 2 => q15 | _ => q23), rfl, rfl⟩)

abbrev rmX1_init : Room := { frames := 1, cells := 1, slots := 16, locals := 64 }
set_option maxRecDepth 100000 in
set_option maxHeartbeats 4000000 in
theorem c_init (l : Launch) (D : va_G) (cI cZ cL : ClassId) (h0 : Nat)   : Cg l D cI cZ cL yX1_init wsX1_init rmX1_init [.ref h0] ([(h0, .inr (1, [.null, .int 0, .int 0]))]) (fun r0 w0 => r0 = none ∧ ∃ a : Nat → Nat, a 0 = h0 ∧ w0 = cW a cI (miF 16) (nI 0) (nI 0)) := by
  refine Cg.ofJ (own := RX1) (cc := cX1_init) (maxL := 2) (ret := none) (by decide) rfl rfl (Nat.le_of_ble_eq_true rfl) ?_
  intro p e s m args below meth c A CX hr hlocks hname
  have hin1 : ∀ x ∈ u_ws RX1 TX1 3, x ∈ wsX1_init := by decide +kernel
  have hfl15 : Cond.fieldLink RX1 15 (TX1 1).1 (TX1 1).2.1 (TX1 1).2.2.1 ∈ wsX1_init := by decide +kernel
  have hfl19 : Cond.fieldLink RX1 19 (TX1 2).1 (TX1 2).2.1 (TX1 2).2.2.1 ∈ wsX1_init := by decide +kernel
  have hfl9 : Cond.fieldLink RX1 9 (TX1 0).1 (TX1 0).2.1 (TX1 0).2.2.1 ∈ wsX1_init := by decide +kernel
  have hml3 : Cond.methodLink RX1 3 objectInit ∈ wsX1_init := by decide +kernel
  have hoi : Cond.instanceMethod objectInit ∈ wsX1_init := by decide +kernel
  have hoc : Cond.code objectInit ⟨#[0xb1]⟩ 1 none ∈ wsX1_init := by decide +kernel
  have hac_int : Cond.arrayClass .int ∈ wsX1_init := by decide +kernel
  have L14 : ∀ (d14 : Nat) (q7 i9 : Nat), 16 - i9 = d14 → i9 ≤ 16 → J p l e rmX1_init s m args below meth c D A 2 1 16 (MQ below (jQc D (fun r0 w0 => r0 = none ∧ ∃ a : Nat → Nat, a 0 = h0 ∧ w0 = cW a cI (miF 16) (nI 0) (nI 0)) A) args s rmX1_init.cells rmX1_init.slots A) ([(h0, .inr (1, [.ref q7, .int 0, .int 0])), (q7, .inl (cI, 16, .inl (miF i9)))]) 14 [(1, .int (nI i9)), (0, .ref h0)] [] := by
    intro d14
    induction d14 using Nat.strongRecOn with
    | _ d14 ih14 =>
      intro q7 i9 hd hi
      refine j_iload_n CX 0 dX1_init_14 rfl rfl ?_
      refine j_bipush CX dX1_init_15 (show _ = (nI 16 : Int32) by decide) ?_
      refine j_icmpN_ge CX (by first | assumption | omega) (by first | assumption | omega | exact b2n_lt _ | exact t2n_lt _) 33 dX1_init_17 (by decide) (fun h17 => ?_) (fun h17 => ?_)
      · refine j_aload_n CX 1 dX1_init_33 rfl rfl ?_
        refine j_iconst CX dX1_init_34 (show _ = (nI 0 : Int32) by decide) ?_
        refine j_put CX (w' := [(h0, .inr (1, [.ref q7, .int (nI 0), .int 0])), (q7, .inl (cI, 16, .inl (miF i9)))]) 0 1 dX1_init_35 rfl rfl hin1 tyX1 tyX1_ok nmX1 (by decide) hfl15 rfl rfl rfl rfl (Nat.le_of_ble_eq_true rfl) rfl ?_
        refine j_aload_n CX 1 dX1_init_38 rfl rfl ?_
        refine j_iconst CX dX1_init_39 (show _ = (nI 0 : Int32) by decide) ?_
        refine j_put CX (w' := [(h0, .inr (1, [.ref q7, .int (nI 0), .int (nI 0)])), (q7, .inl (cI, 16, .inl (miF i9)))]) 0 2 dX1_init_40 rfl rfl hin1 tyX1 tyX1_ok nmX1 (by decide) hfl19 rfl rfl rfl rfl (Nat.le_of_ble_eq_true rfl) rfl ?_
        exact j_vret CX hr hlocks dX1_init_43 (⟨rfl, (fun k => match k with | 0 => h0 | _ => q7), rfl, by rw [show i9 = 16 by omega]; rfl⟩)
      · refine j_aload_n CX 1 dX1_init_20 rfl rfl ?_
        refine j_get CX 0 0 dX1_init_21 rfl rfl hin1 (by decide) hfl9 rfl ?_
        refine j_iload_n CX 0 dX1_init_24 rfl rfl ?_
        refine j_iconst CX dX1_init_25 (show _ = ((-1) : Int32) by decide) ?_
        refine j_iast CX (w' := [(h0, .inr (1, [.ref q7, .int 0, .int 0])), (q7, .inl (cI, 16, .inl (upd (miF i9) i9 (-1))))]) 1 i9 dX1_init_26 rfl (rfl) (by first | assumption | omega) (by decide) rfl ?_
        refine j_iinc CX (v := nI (i9 + 1)) (lv' := [(1, .int (nI (i9 + 1))), (0, .ref h0)]) 0 dX1_init_27 rfl (nI_1 _) (by decide) rfl ?_
        refine j_goto CX 14 dX1_init_30 (by decide) ?_
        exact ih14 _ (by omega) q7 (i9 + 1) rfl (by omega)
  show J p l e rmX1_init s m args below meth c D A 2 0 0 (MQ below (jQc D (fun r0 w0 => r0 = none ∧ ∃ a : Nat → Nat, a 0 = h0 ∧ w0 = cW a cI (miF 16) (nI 0) (nI 0)) A) args s rmX1_init.cells rmX1_init.slots A) ([(h0, .inr (1, [.null, .int 0, .int 0]))]) 0 [(0, .ref h0)] []
  refine j_aload_n CX 0 dX1_init_0 rfl rfl ?_
  refine j_objInit CX dX1_init_1 hml3 hoi hoc (Nat.le_of_ble_eq_true rfl) (Nat.le_of_ble_eq_true rfl) ?_
  refine j_aload_n CX 0 dX1_init_4 rfl rfl ?_
  refine j_bipush CX dX1_init_5 (show _ = (nI 16 : Int32) by decide) ?_
  refine j_newI CX 16 dX1_init_7 (rfl) (by first | decide | omega) hac_int (Nat.le_of_ble_eq_true rfl) (Nat.le_of_ble_eq_true rfl) (fun q7 => ?_)
  refine j_w (w' := [(h0, .inr (1, [.null, .int 0, .int 0])), (q7, .inl (cI, 16, .inl (fun _ => 0)))]) rfl ?_
  refine j_putF CX (w' := [(h0, .inr (1, [.ref q7, .int 0, .int 0])), (q7, .inl (cI, 16, .inl (fun _ => 0)))]) 0 0 hname dX1_init_9 rfl rfl hin1 tyX1 tyX1_ok nmX1 (by decide) hfl9 rfl rfl rfl rfl rfl (Nat.le_of_ble_eq_true rfl) rfl ?_
  refine j_iconst CX dX1_init_12 (show _ = (nI 0 : Int32) by decide) ?_
  refine j_istore_n CX (lv' := [(1, .int (nI 0)), (0, .ref h0)]) dX1_init_13 rfl (by decide) rfl ?_
  exact L14 _ q7 0 rfl (Nat.zero_le _)
