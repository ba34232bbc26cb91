abbrev rmX1_size : Room := { frames := 0, cells := 0, slots := 0, locals := 0 }
set_option maxRecDepth 100000 in
set_option maxHeartbeats 4000000 in
theorem c_size (l : Launch) (D : va_G) (cI cZ cL : ClassId) (a : Nat → Nat) (P : Nat → Nat) (dn : Nat → Int32) (k : Nat) (ch : Int32)  : Cg l D cI cZ cL yX1_size wsX1_size rmX1_size [.ref (a 0)] (cW a cI (nf P) dn (nI k) ch) (fun r0 w0 => r0 = some (.int (nI k)) ∧ w0 = cW a cI (nf P) dn (nI k) ch) := by
  refine Cg.ofJ (own := RX1) (cc := cX1_size) (maxL := 1) (ret := (some .int)) (by decide) rfl rfl (Nat.le_of_ble_eq_true rfl) ?_
  intro p e s m args below meth c A CX hr hlocks hname
  have hin1 : ∀ x ∈ u_ws RX1 TX1 4, x ∈ wsX1_size := by decide +kernel
  have hfl18 : Cond.fieldLink RX1 18 (TX1 2).1 (TX1 2).2.1 (TX1 2).2.2.1 ∈ wsX1_size := by decide +kernel
  show J p l e rmX1_size s m args below meth c D A 1 0 0 (MQ below (jQc D (fun r0 w0 => r0 = some (.int (nI k)) ∧ w0 = cW a cI (nf P) dn (nI k) ch) A) args s rmX1_size.cells rmX1_size.slots A) (cW a cI (nf P) dn (nI k) ch) 0 [(0, .ref (a 0))] []
  refine j_aload_n CX 0 dX1_size_0 rfl rfl ?_
  refine j_get CX 0 2 dX1_size_1 rfl rfl hin1 (by decide) hfl18 rfl ?_
  exact j_iret CX hr hlocks dX1_size_4 (⟨rfl, rfl⟩)

abbrev rmX1_doneBy : Room := { frames := 0, cells := 0, slots := 0, locals := 0 }
set_option maxRecDepth 100000 in
set_option maxHeartbeats 4000000 in
theorem c_doneBy (l : Launch) (D : va_G) (cI cZ cL : ClassId) (a : Nat → Nat) (P : Nat → Nat) (dn : Nat → Int32) (k : Nat) (ch : Int32) (w : Nat) (hw : w < 16) : Cg l D cI cZ cL yX1_doneBy wsX1_doneBy rmX1_doneBy [.ref (a 0), .int (nI w)] (cW a cI (nf P) dn (nI k) ch) (fun r0 w0 => r0 = some (.int (dn w)) ∧ w0 = cW a cI (nf P) dn (nI k) ch) := by
  refine Cg.ofJ (own := RX1) (cc := cX1_doneBy) (maxL := 2) (ret := (some .int)) (by decide) rfl rfl (Nat.le_of_ble_eq_true rfl) ?_
  intro p e s m args below meth c A CX hr hlocks hname
  have hin1 : ∀ x ∈ u_ws RX1 TX1 4, x ∈ wsX1_doneBy := by decide +kernel
  have hfl15 : Cond.fieldLink RX1 15 (TX1 1).1 (TX1 1).2.1 (TX1 1).2.2.1 ∈ wsX1_doneBy := by decide +kernel
  show J p l e rmX1_doneBy s m args below meth c D A 2 0 0 (MQ below (jQc D (fun r0 w0 => r0 = some (.int (dn w)) ∧ w0 = cW a cI (nf P) dn (nI k) ch) A) args s rmX1_doneBy.cells rmX1_doneBy.slots A) (cW a cI (nf P) dn (nI k) ch) 0 [(0, .ref (a 0)), (1, .int (nI w))] []
  refine j_aload_n CX 0 dX1_doneBy_0 rfl rfl ?_
  refine j_get CX 0 1 dX1_doneBy_1 rfl rfl hin1 (by decide) hfl15 rfl ?_
  refine j_iload_n CX 1 dX1_doneBy_4 rfl rfl ?_
  refine j_iald CX 2 w dX1_doneBy_5 rfl (rfl) (by first | assumption | omega) (by decide) ?_
  exact j_iret CX hr hlocks dX1_doneBy_6 (⟨rfl, rfl⟩)

abbrev rmX1_workerIn : Room := { frames := 0, cells := 0, slots := 0, locals := 0 }
set_option maxRecDepth 100000 in
set_option maxHeartbeats 4000000 in
theorem c_workerIn (l : Launch) (D : va_G) (cI cZ cL : ClassId) (a : Nat → Nat) (P : Nat → Nat) (dn : Nat → Int32) (k : Nat) (ch : Int32) (w : Nat) (hw : w < 16) : Cg l D cI cZ cL yX1_workerIn wsX1_workerIn rmX1_workerIn [.ref (a 0), .int (nI w)] (cW a cI (nf P) dn (nI k) ch) (fun r0 w0 => r0 = some (.int (nI (P w))) ∧ w0 = cW a cI (nf P) dn (nI k) ch) := by
  refine Cg.ofJ (own := RX1) (cc := cX1_workerIn) (maxL := 2) (ret := (some .int)) (by decide) rfl rfl (Nat.le_of_ble_eq_true rfl) ?_
  intro p e s m args below meth c A CX hr hlocks hname
  have hin1 : ∀ x ∈ u_ws RX1 TX1 4, x ∈ wsX1_workerIn := by decide +kernel
  have hfl9 : Cond.fieldLink RX1 9 (TX1 0).1 (TX1 0).2.1 (TX1 0).2.2.1 ∈ wsX1_workerIn := by decide +kernel
  show J p l e rmX1_workerIn s m args below meth c D A 2 0 0 (MQ below (jQc D (fun r0 w0 => r0 = some (.int (nI (P w))) ∧ w0 = cW a cI (nf P) dn (nI k) ch) A) args s rmX1_workerIn.cells rmX1_workerIn.slots A) (cW a cI (nf P) dn (nI k) ch) 0 [(0, .ref (a 0)), (1, .int (nI w))] []
  refine j_aload_n CX 0 dX1_workerIn_0 rfl rfl ?_
  refine j_get CX 0 0 dX1_workerIn_1 rfl rfl hin1 (by decide) hfl9 rfl ?_
  refine j_iload_n CX 1 dX1_workerIn_4 rfl rfl ?_
  refine j_iald CX 1 w dX1_workerIn_5 rfl (rfl) (by first | assumption | omega) (by decide) ?_
  exact j_iret CX hr hlocks dX1_workerIn_6 (⟨rfl, rfl⟩)

abbrev rmX1_credit : Room := { frames := 0, cells := 0, slots := 0, locals := 0 }
set_option maxRecDepth 100000 in
set_option maxHeartbeats 4000000 in
theorem c_credit (l : Launch) (D : va_G) (cI cZ cL : ClassId) (a : Nat → Nat) (P : Nat → Nat) (dn : Nat → Int32) (k : Nat) (ch : Int32) (w : Nat) (hw : w < 16) : Cg l D cI cZ cL yX1_credit wsX1_credit rmX1_credit [.ref (a 0), .int (nI w)] (cW a cI (nf P) dn (nI k) ch) (fun r0 w0 => r0 = none ∧ w0 = cW a cI (nf P) (upd dn w (dn w + nI 1)) (nI k) ch) := by
  refine Cg.ofJ (own := RX1) (cc := cX1_credit) (maxL := 2) (ret := none) (by decide) rfl rfl (Nat.le_of_ble_eq_true rfl) ?_
  intro p e s m args below meth c A CX hr hlocks hname
  have hin1 : ∀ x ∈ u_ws RX1 TX1 4, x ∈ wsX1_credit := by decide +kernel
  have hfl15 : Cond.fieldLink RX1 15 (TX1 1).1 (TX1 1).2.1 (TX1 1).2.2.1 ∈ wsX1_credit := by decide +kernel
  show J p l e rmX1_credit s m args below meth c D A 2 0 0 (MQ below (jQc D (fun r0 w0 => r0 = none ∧ w0 = cW a cI (nf P) (upd dn w (dn w + nI 1)) (nI k) ch) A) args s rmX1_credit.cells rmX1_credit.slots A) (cW a cI (nf P) dn (nI k) ch) 0 [(0, .ref (a 0)), (1, .int (nI w))] []
  refine j_aload_n CX 0 dX1_credit_0 rfl rfl ?_
  refine j_get CX 0 1 dX1_credit_1 rfl rfl hin1 (by decide) hfl15 rfl ?_
  refine j_iload_n CX 1 dX1_credit_4 rfl rfl ?_
  refine j_dup2 CX dX1_credit_5 rfl rfl ?_
  refine j_iald CX 2 w dX1_credit_6 rfl (rfl) (by first | assumption | omega) (by decide) ?_
  refine j_iconst CX dX1_credit_7 (show _ = (nI 1 : Int32) by decide) ?_
  refine j_iadd CX dX1_credit_8 ?_
  refine j_iast CX (w' := cW a cI (nf P) (upd dn w ((dn w) + (nI 1))) (nI k) ch) 2 w dX1_credit_9 rfl (rfl) (by first | assumption | omega) (by decide) rfl ?_
  exact j_vret CX hr hlocks dX1_credit_10 (⟨rfl, rfl⟩)

abbrev rmX1_draw : Room := { frames := 0, cells := 0, slots := 0, locals := 0 }
set_option maxRecDepth 100000 in
set_option maxHeartbeats 4000000 in
theorem c_draw (l : Launch) (D : va_G) (cI cZ cL : ClassId) (a : Nat → Nat) (P : Nat → Nat) (dn : Nat → Int32) (k : Nat) (ch : Int32) (h0 : 0 < k) (hk : k ≤ 16) : Cg l D cI cZ cL yX1_draw wsX1_draw rmX1_draw [.ref (a 0)] (cW a cI (nf P) dn (nI k) ch) (fun r0 w0 => r0 = some (.int (nI (dv (nxH ch) % k))) ∧ w0 = cW a cI (nf P) dn (nI k) (nxH ch)) := by
  refine Cg.ofJ (own := RX1) (cc := cX1_draw) (maxL := 1) (ret := (some .int)) (by decide) rfl rfl (Nat.le_of_ble_eq_true rfl) ?_
  intro p e s m args below meth c A CX hr hlocks hname
  have hin1 : ∀ x ∈ u_ws RX1 TX1 4, x ∈ wsX1_draw := by decide +kernel
  have hfl22 : Cond.fieldLink RX1 22 (TX1 3).1 (TX1 3).2.1 (TX1 3).2.2.1 ∈ wsX1_draw := by decide +kernel
  have hcn25 : Cond.constant RX1 25 (1103515245) ∈ wsX1_draw := by decide +kernel
  have hfl18 : Cond.fieldLink RX1 18 (TX1 2).1 (TX1 2).2.1 (TX1 2).2.2.1 ∈ wsX1_draw := by decide +kernel
  show J p l e rmX1_draw s m args below meth c D A 1 0 0 (MQ below (jQc D (fun r0 w0 => r0 = some (.int (nI (dv (nxH ch) % k))) ∧ w0 = cW a cI (nf P) dn (nI k) (nxH ch)) A) args s rmX1_draw.cells rmX1_draw.slots A) (cW a cI (nf P) dn (nI k) ch) 0 [(0, .ref (a 0))] []
  refine j_aload_n CX 0 dX1_draw_0 rfl rfl ?_
  refine j_aload_n CX 0 dX1_draw_1 rfl rfl ?_
  refine j_get CX 0 3 dX1_draw_2 rfl rfl hin1 (by decide) hfl22 rfl ?_
  refine j_ldc CX dX1_draw_5 hcn25 ?_
  refine j_imul CX dX1_draw_7 ?_
  refine j_sipush CX dX1_draw_8 (show _ = (nI 12345 : Int32) by decide) ?_
  refine j_iadd CX dX1_draw_11 ?_
  refine j_top (show ((ch * 1103515245) + (nI 12345)) = nxH ch from (nxH_eq _).symm) ?_
  refine j_put CX (w' := cW a cI (nf P) dn (nI k) (nxH ch)) 0 3 dX1_draw_12 rfl rfl hin1 tyX1 tyX1_ok nmX1 (by decide) hfl22 rfl rfl rfl rfl (Nat.le_of_ble_eq_true rfl) rfl ?_
  refine j_aload_n CX 0 dX1_draw_15 rfl rfl ?_
  refine j_get CX 0 2 dX1_draw_16 rfl rfl hin1 (by decide) hfl18 rfl ?_
  refine j_ifN_le CX (by first | assumption | omega | exact b2n_lt _ | exact t2n_lt _) 37 dX1_draw_19 (by decide) (fun h19 => ?_) (fun h19 => ?_)
  · exact absurd h19 (by omega)
  · refine j_aload_n CX 0 dX1_draw_22 rfl rfl ?_
    refine j_get CX 0 3 dX1_draw_23 rfl rfl hin1 (by decide) hfl22 rfl ?_
    refine j_bipush CX dX1_draw_26 (show _ = (nI 16 : Int32) by decide) ?_
    refine j_iushr CX dX1_draw_28 ?_
    refine j_top (show (((nxH ch).toUInt32 >>> ((nI 16).toUInt32 &&& Int32.toUInt32 31)).toInt32) = nI (dv (nxH ch)) from ush16 _) ?_
    refine j_aload_n CX 0 dX1_draw_29 rfl rfl ?_
    refine j_get CX 0 2 dX1_draw_30 rfl rfl hin1 (by decide) hfl18 rfl ?_
    refine j_irem CX dX1_draw_33 (nI_ne0 h0 (by omega)) ?_
    refine j_top (show ((nI (dv (nxH ch))) - (nI (dv (nxH ch))) / (nI k) * (nI k)) = nI (dv (nxH ch) % k) from pk_rem (by have := dv_lt (nxH ch); omega) h0 (by omega)) ?_
    refine j_goto CX 38 dX1_draw_34 (by decide) ?_
    exact j_iret CX hr hlocks dX1_draw_38 (⟨rfl, rfl⟩)

abbrev rmX1_gather : Room := { frames := 0, cells := 0, slots := 0, locals := 0 }
set_option maxRecDepth 100000 in
set_option maxHeartbeats 4000000 in
theorem c_gather (l : Launch) (D : va_G) (cI cZ cL : ClassId) (a : Nat → Nat) (P : Nat → Nat) (dn : Nat → Int32) (k : Nat) (ch : Int32) (W : Nat) (sd : Int32) (hW : W ≤ 16) : Cg l D cI cZ cL yX1_gather wsX1_gather rmX1_gather [.ref (a 0), .int (nI W), .int sd] (cW a cI (nf P) dn (nI k) ch) (fun r0 w0 => r0 = none ∧ w0 = cW a cI (nf (gaP P 16)) (gaD dn W 16) (nI W) sd) := by
  refine Cg.ofJ (own := RX1) (cc := cX1_gather) (maxL := 4) (ret := none) (by decide) rfl rfl (Nat.le_of_ble_eq_true rfl) ?_
  intro p e s m args below meth c A CX hr hlocks hname
  have hin1 : ∀ x ∈ u_ws RX1 TX1 4, x ∈ wsX1_gather := by decide +kernel
  have hfl18 : Cond.fieldLink RX1 18 (TX1 2).1 (TX1 2).2.1 (TX1 2).2.2.1 ∈ wsX1_gather := by decide +kernel
  have hfl22 : Cond.fieldLink RX1 22 (TX1 3).1 (TX1 3).2.1 (TX1 3).2.2.1 ∈ wsX1_gather := by decide +kernel
  have hfl9 : Cond.fieldLink RX1 9 (TX1 0).1 (TX1 0).2.1 (TX1 0).2.2.1 ∈ wsX1_gather := by decide +kernel
  have hfl15 : Cond.fieldLink RX1 15 (TX1 1).1 (TX1 1).2.1 (TX1 1).2.2.1 ∈ wsX1_gather := by decide +kernel
  have L2 : ∀ (d2 : Nat) (i9 : Nat), 16 - i9 = d2 → i9 ≤ 16 → J p l e rmX1_gather s m args below meth c D A 4 0 0 (MQ below (jQc D (fun r0 w0 => r0 = none ∧ w0 = cW a cI (nf (gaP P 16)) (gaD dn W 16) (nI W) sd) A) args s rmX1_gather.cells rmX1_gather.slots A) (cW a cI (nf (gaP P i9)) (gaD dn W i9) (nI k) ch) 2 [(3, .int (nI i9)), (0, .ref (a 0)), (1, .int (nI W)), (2, .int sd)] [] := by
    intro d2
    induction d2 using Nat.strongRecOn with
    | _ d2 ih2 =>
      intro i9 hd hi
      refine j_iload_n CX 0 dX1_gather_2 rfl rfl ?_
      refine j_bipush CX dX1_gather_3 (show _ = (nI 16 : Int32) by decide) ?_
      refine j_icmpN_ge CX (by first | assumption | omega) (by first | assumption | omega | exact b2n_lt _ | exact t2n_lt _) 37 dX1_gather_5 (by decide) (fun h5 => ?_) (fun h5 => ?_)
      · refine j_aload_n CX 1 dX1_gather_37 rfl rfl ?_
        refine j_iload_n CX 2 dX1_gather_38 rfl rfl ?_
        refine j_put CX (w' := cW a cI (nf (gaP P i9)) (gaD dn W i9) (nI W) ch) 0 2 dX1_gather_39 rfl rfl hin1 tyX1 tyX1_ok nmX1 (by decide) hfl18 rfl rfl rfl rfl (Nat.le_of_ble_eq_true rfl) rfl ?_
        refine j_aload_n CX 1 dX1_gather_42 rfl rfl ?_
        refine j_iload_n CX 3 dX1_gather_43 rfl rfl ?_
        refine j_put CX (w' := cW a cI (nf (gaP P i9)) (gaD dn W i9) (nI W) sd) 0 3 dX1_gather_44 rfl rfl hin1 tyX1 tyX1_ok nmX1 (by decide) hfl22 rfl rfl rfl rfl (Nat.le_of_ble_eq_true rfl) rfl ?_
        exact j_vret CX hr hlocks dX1_gather_47 (⟨rfl, by rw [show i9 = 16 by omega]⟩)
      · refine j_aload_n CX 1 dX1_gather_8 rfl rfl ?_
        refine j_get CX 0 0 dX1_gather_9 rfl rfl hin1 (by decide) hfl9 rfl ?_
        refine j_iload_n CX 0 dX1_gather_12 rfl rfl ?_
        refine j_iload_n CX 0 dX1_gather_13 rfl rfl ?_
        refine j_iast CX (w' := cW a cI (upd (nf (gaP P i9)) i9 (nI i9)) (gaD dn W i9) (nI k) ch) 1 i9 dX1_gather_14 rfl (rfl) (by first | assumption | omega) (by decide) rfl ?_
        refine j_w (show cW a cI (upd (nf (gaP P i9)) i9 (nI i9)) (gaD dn W i9) (nI k) ch = cW a cI (nf (updN (gaP P i9) i9 i9)) (gaD dn W i9) (nI k) ch by rw [nf_upd]) ?_
        refine j_aload_n CX 1 dX1_gather_15 rfl rfl ?_
        refine j_get CX 0 1 dX1_gather_16 rfl rfl hin1 (by decide) hfl15 rfl ?_
        refine j_iload_n CX 0 dX1_gather_19 rfl rfl ?_
        refine j_iload_n CX 0 dX1_gather_20 rfl rfl ?_
        refine j_iload_n CX 2 dX1_gather_21 rfl rfl ?_
        refine j_icmpN_ge CX (by first | assumption | omega) (by first | assumption | omega | exact b2n_lt _ | exact t2n_lt _) 29 dX1_gather_22 (by decide) (fun h22 => ?_) (fun h22 => ?_)
        · refine j_iconst CX dX1_gather_29 (show _ = ((-1) : Int32) by decide) ?_
          refine j_top (show _ = (if i9 < W then nI 0 else (-1 : Int32)) by first | (rw [if_pos h22]) | (rw [if_neg (Nat.not_lt.mpr h22)])) ?_
          refine j_iast CX (w' := cW a cI (nf (updN (gaP P i9) i9 i9)) (upd (gaD dn W i9) i9 (if i9 < W then nI 0 else -1)) (nI k) ch) 2 i9 dX1_gather_30 rfl (rfl) (by first | assumption | omega) (by decide) rfl ?_
          refine j_iinc CX (v := nI (i9 + 1)) (lv' := [(3, .int (nI (i9 + 1))), (0, .ref (a 0)), (1, .int (nI W)), (2, .int sd)]) 0 dX1_gather_31 rfl (nI_1 _) (by decide) rfl ?_
          refine j_goto CX 2 dX1_gather_34 (by decide) ?_
          exact ih2 _ (by omega) (i9 + 1) rfl (by omega)
        · refine j_iconst CX dX1_gather_25 (show _ = (nI 0 : Int32) by decide) ?_
          refine j_goto CX 30 dX1_gather_26 (by decide) ?_
          refine j_top (show _ = (if i9 < W then nI 0 else (-1 : Int32)) by first | (rw [if_pos h22]) | (rw [if_neg (Nat.not_lt.mpr h22)])) ?_
          refine j_iast CX (w' := cW a cI (nf (updN (gaP P i9) i9 i9)) (upd (gaD dn W i9) i9 (if i9 < W then nI 0 else -1)) (nI k) ch) 2 i9 dX1_gather_30 rfl (rfl) (by first | assumption | omega) (by decide) rfl ?_
          refine j_iinc CX (v := nI (i9 + 1)) (lv' := [(3, .int (nI (i9 + 1))), (0, .ref (a 0)), (1, .int (nI W)), (2, .int sd)]) 0 dX1_gather_31 rfl (nI_1 _) (by decide) rfl ?_
          refine j_goto CX 2 dX1_gather_34 (by decide) ?_
          exact ih2 _ (by omega) (i9 + 1) rfl (by omega)
  show J p l e rmX1_gather s m args below meth c D A 4 0 0 (MQ below (jQc D (fun r0 w0 => r0 = none ∧ w0 = cW a cI (nf (gaP P 16)) (gaD dn W 16) (nI W) sd) A) args s rmX1_gather.cells rmX1_gather.slots A) (cW a cI (nf P) dn (nI k) ch) 0 [(0, .ref (a 0)), (1, .int (nI W)), (2, .int sd)] []
  refine j_iconst CX dX1_gather_0 (show _ = (nI 0 : Int32) by decide) ?_
  refine j_istore_n CX (lv' := [(3, .int (nI 0)), (0, .ref (a 0)), (1, .int (nI W)), (2, .int sd)]) dX1_gather_1 rfl (by decide) rfl ?_
  exact L2 _ 0 rfl (Nat.zero_le _)

abbrev rmX1_lose : Room := { frames := 1, cells := 0, slots := 0, locals := 64 }
set_option maxRecDepth 100000 in
set_option maxHeartbeats 4000000 in
theorem c_lose (l : Launch) (D : va_G) (cI cZ cL : ClassId) (a : Nat → Nat) (P : Nat → Nat) (dn : Nat → Int32) (k : Nat) (ch : Int32) (w : Nat) (hw : w < k) (hk : k ≤ 16) (hP : P w < 16) : Cg l D cI cZ cL yX1_lose wsX1_lose rmX1_lose [.ref (a 0), .int (nI w)] (cW a cI (nf P) dn (nI k) ch) (fun r0 w0 => r0 = none ∧ w0 = cW a cI (nf (cpyN P P (w + 1) w (k - w - 1))) (upd dn (P w) (-1)) (nI (k - 1)) ch) := by
  refine Cg.ofJ (own := RX1) (cc := cX1_lose) (maxL := 2) (ret := none) (by decide) rfl rfl (Nat.le_of_ble_eq_true rfl) ?_
  intro p e s m args below meth c A CX hr hlocks hname
  have hin1 : ∀ x ∈ u_ws RX1 TX1 4, x ∈ wsX1_lose := by decide +kernel
  have hfl18 : Cond.fieldLink RX1 18 (TX1 2).1 (TX1 2).2.1 (TX1 2).2.2.1 ∈ wsX1_lose := by decide +kernel
  have hfl15 : Cond.fieldLink RX1 15 (TX1 1).1 (TX1 1).2.1 (TX1 1).2.2.1 ∈ wsX1_lose := by decide +kernel
  have hfl9 : Cond.fieldLink RX1 9 (TX1 0).1 (TX1 0).2.1 (TX1 0).2.2.1 ∈ wsX1_lose := by decide +kernel
  have hml26 : Cond.methodLink RX1 26 arraycopyName ∈ wsX1_lose := by decide +kernel
  have hacn : Cond.native arraycopyName ∈ wsX1_lose := by decide +kernel
  have hacs : Cond.static arraycopyName ∈ wsX1_lose := by decide +kernel
  have hsys : Cond.initialized "java/lang/System" ∈ wsX1_lose := by decide +kernel
  show J p l e rmX1_lose s m args below meth c D A 2 0 0 (MQ below (jQc D (fun r0 w0 => r0 = none ∧ w0 = cW a cI (nf (cpyN P P (w + 1) w (k - w - 1))) (upd dn (P w) (-1)) (nI (k - 1)) ch) A) args s rmX1_lose.cells rmX1_lose.slots A) (cW a cI (nf P) dn (nI k) ch) 0 [(0, .ref (a 0)), (1, .int (nI w))] []
  refine j_iload_n CX 1 dX1_lose_0 rfl rfl ?_
  refine j_aload_n CX 0 dX1_lose_1 rfl rfl ?_
  refine j_get CX 0 2 dX1_lose_2 rfl rfl hin1 (by decide) hfl18 rfl ?_
  refine j_icmpN_ge CX (by first | assumption | omega) (by first | assumption | omega | exact b2n_lt _ | exact t2n_lt _) 53 dX1_lose_5 (by decide) (fun h5 => ?_) (fun h5 => ?_)
  · exact absurd h5 (by omega)
  · refine j_aload_n CX 0 dX1_lose_8 rfl rfl ?_
    refine j_get CX 0 1 dX1_lose_9 rfl rfl hin1 (by decide) hfl15 rfl ?_
    refine j_aload_n CX 0 dX1_lose_12 rfl rfl ?_
    refine j_get CX 0 0 dX1_lose_13 rfl rfl hin1 (by decide) hfl9 rfl ?_
    refine j_iload_n CX 1 dX1_lose_16 rfl rfl ?_
    refine j_iald CX 1 w dX1_lose_17 rfl (rfl) (by first | assumption | omega) (by decide) ?_
    refine j_iconst CX dX1_lose_18 (show _ = ((-1) : Int32) by decide) ?_
    refine j_iast CX (w' := cW a cI (nf P) (upd dn (P w) (-1)) (nI k) ch) 2 (P w) dX1_lose_19 rfl (rfl) (by first | assumption | omega) (by decide) rfl ?_
    refine j_aload_n CX 0 dX1_lose_20 rfl rfl ?_
    refine j_get CX 0 0 dX1_lose_21 rfl rfl hin1 (by decide) hfl9 rfl ?_
    refine j_iload_n CX 1 dX1_lose_24 rfl rfl ?_
    refine j_iconst CX dX1_lose_25 (show _ = (nI 1 : Int32) by decide) ?_
    refine j_iadd CX dX1_lose_26 ?_
    refine j_top (show (nI w) + (nI 1) = nI (w + 1) from nI_add _ _) ?_
    refine j_aload_n CX 0 dX1_lose_27 rfl rfl ?_
    refine j_get CX 0 0 dX1_lose_28 rfl rfl hin1 (by decide) hfl9 rfl ?_
    refine j_iload_n CX 1 dX1_lose_31 rfl rfl ?_
    refine j_aload_n CX 0 dX1_lose_32 rfl rfl ?_
    refine j_get CX 0 2 dX1_lose_33 rfl rfl hin1 (by decide) hfl18 rfl ?_
    refine j_iload_n CX 1 dX1_lose_36 rfl rfl ?_
    refine j_isub CX dX1_lose_37 ?_
    refine j_top (show ((nI k) - (nI w)) = nI (k - w) from pk_sub (by omega)) ?_
    refine j_iconst CX dX1_lose_38 (show _ = (nI 1 : Int32) by decide) ?_
    refine j_isub CX dX1_lose_39 ?_
    refine j_top (show ((nI (k - w)) - (nI 1)) = nI (k - w - 1) from pk_sub (by omega)) ?_
    refine j_copyi CX (w' := cW a cI (va_cpy (nf P) (nf P) (w + 1) w (k - w - 1)) (upd dn (P w) (-1)) (nI k) ch) 1 1 (w + 1) w (k - w - 1) dX1_lose_40 hml26 hacn hacs hsys rfl rfl rfl rfl rfl (by omega) (by omega) (by decide) (by decide) (Nat.le_of_ble_eq_true rfl) (Nat.le_of_ble_eq_true rfl) rfl ?_
    refine j_aload_n CX 0 dX1_lose_43 rfl rfl ?_
    refine j_dup CX dX1_lose_44 rfl ?_
    refine j_get CX 0 2 dX1_lose_45 rfl rfl hin1 (by decide) hfl18 rfl ?_
    refine j_iconst CX dX1_lose_48 (show _ = (nI 1 : Int32) by decide) ?_
    refine j_isub CX dX1_lose_49 ?_
    refine j_top (show ((nI k) - (nI 1)) = nI (k - 1) from pk_sub (by omega)) ?_
    refine j_put CX (w' := cW a cI (va_cpy (nf P) (nf P) (w + 1) w (k - w - 1)) (upd dn (P w) (-1)) (nI (k - 1)) ch) 0 2 dX1_lose_50 rfl rfl hin1 tyX1 tyX1_ok nmX1 (by decide) hfl18 rfl rfl rfl rfl (Nat.le_of_ble_eq_true rfl) rfl ?_
    exact j_vret CX hr hlocks dX1_lose_53 (⟨rfl, by rw [nf_cpy]⟩)
