abbrev rmX1_doneBy : Room := { frames := 0, cells := 0, slots := 0, locals := 0 }
set_option maxRecDepth 100000 in
set_option maxHeartbeats 4000000 in
theorem c_doneBy (l : Launch) (D : va_G) (cI cZ cL : ClassId) (a : Nat → Nat) (dn : Nat → Int32) (k : Nat) (ch : Int32) (w : Nat) (hw : w < 16) : Cg l D cI cZ cL yX1_doneBy wsX1_doneBy rmX1_doneBy [.ref (a 0), .int (nI w)] (cW a cI dn (nI k) ch) (fun r0 w0 => r0 = some (.int (dn w)) ∧ w0 = cW a cI dn (nI k) ch) := by
  refine Cg.ofJ (own := RX1) (cc := cX1_doneBy) (maxL := 2) (ret := (some .int)) (by decide) rfl rfl (Nat.le_of_ble_eq_true rfl) ?_
  intro p e s m args below meth c A CX hr hlocks hname
  have hin1 : ∀ x ∈ u_ws RX1 TX1 3, x ∈ wsX1_doneBy := by decide +kernel
  have hfl9 : Cond.fieldLink RX1 9 (TX1 0).1 (TX1 0).2.1 (TX1 0).2.2.1 ∈ wsX1_doneBy := by decide +kernel
  show J p l e rmX1_doneBy s m args below meth c D A 2 0 0 (MQ below (jQc D (fun r0 w0 => r0 = some (.int (dn w)) ∧ w0 = cW a cI dn (nI k) ch) A) args s rmX1_doneBy.cells rmX1_doneBy.slots A) (cW a cI dn (nI k) ch) 0 [(0, .ref (a 0)), (1, .int (nI w))] []
  refine j_aload_n CX 0 dX1_doneBy_0 rfl rfl ?_
  refine j_get CX 0 0 dX1_doneBy_1 rfl rfl hin1 (by decide) hfl9 rfl ?_
  refine j_iload_n CX 1 dX1_doneBy_4 rfl rfl ?_
  refine j_iald CX 1 w dX1_doneBy_5 rfl (rfl) (by first | assumption | omega) (by decide) ?_
  exact j_iret CX hr hlocks dX1_doneBy_6 (⟨rfl, rfl⟩)

abbrev rmX1_credit : Room := { frames := 0, cells := 0, slots := 0, locals := 0 }
set_option maxRecDepth 100000 in
set_option maxHeartbeats 4000000 in
theorem c_credit (l : Launch) (D : va_G) (cI cZ cL : ClassId) (a : Nat → Nat) (dn : Nat → Int32) (k : Nat) (ch : Int32) (w : Nat) (hw : w < 16) : Cg l D cI cZ cL yX1_credit wsX1_credit rmX1_credit [.ref (a 0), .int (nI w)] (cW a cI dn (nI k) ch) (fun r0 w0 => r0 = none ∧ w0 = cW a cI (upd dn w (dn w + nI 1)) (nI k) ch) := by
  refine Cg.ofJ (own := RX1) (cc := cX1_credit) (maxL := 2) (ret := none) (by decide) rfl rfl (Nat.le_of_ble_eq_true rfl) ?_
  intro p e s m args below meth c A CX hr hlocks hname
  have hin1 : ∀ x ∈ u_ws RX1 TX1 3, x ∈ wsX1_credit := by decide +kernel
  have hfl9 : Cond.fieldLink RX1 9 (TX1 0).1 (TX1 0).2.1 (TX1 0).2.2.1 ∈ wsX1_credit := by decide +kernel
  show J p l e rmX1_credit s m args below meth c D A 2 0 0 (MQ below (jQc D (fun r0 w0 => r0 = none ∧ w0 = cW a cI (upd dn w (dn w + nI 1)) (nI k) ch) A) args s rmX1_credit.cells rmX1_credit.slots A) (cW a cI dn (nI k) ch) 0 [(0, .ref (a 0)), (1, .int (nI w))] []
  refine j_aload_n CX 0 dX1_credit_0 rfl rfl ?_
  refine j_get CX 0 0 dX1_credit_1 rfl rfl hin1 (by decide) hfl9 rfl ?_
  refine j_iload_n CX 1 dX1_credit_4 rfl rfl ?_
  refine j_dup2 CX dX1_credit_5 rfl rfl ?_
  refine j_iald CX 1 w dX1_credit_6 rfl (rfl) (by first | assumption | omega) (by decide) ?_
  refine j_iconst CX dX1_credit_7 (show _ = (nI 1 : Int32) by decide) ?_
  refine j_iadd CX dX1_credit_8 ?_
  refine j_iast CX (w' := cW a cI (upd dn w ((dn w) + (nI 1))) (nI k) ch) 1 w dX1_credit_9 rfl (rfl) (by first | assumption | omega) (by decide) rfl ?_
  exact j_vret CX hr hlocks dX1_credit_10 (⟨rfl, rfl⟩)

abbrev rmX1_draw : Room := { frames := 0, cells := 0, slots := 0, locals := 0 }
set_option maxRecDepth 100000 in
set_option maxHeartbeats 4000000 in
theorem c_draw0 (l : Launch) (D : va_G) (cI cZ cL : ClassId) (a : Nat → Nat) (dn : Nat → Int32) (k : Nat) (ch : Int32) (h0 : k ≤ 0) : Cg l D cI cZ cL yX1_draw wsX1_draw rmX1_draw [.ref (a 0)] (cW a cI dn (nI k) ch) (fun r0 w0 => r0 = some (.int (-1)) ∧ w0 = cW a cI dn (nI k) ch) := by
  refine Cg.ofJ (own := RX1) (cc := cX1_draw) (maxL := 3) (ret := (some .int)) (by decide) rfl rfl (Nat.le_of_ble_eq_true rfl) ?_
  intro p e s m args below meth c A CX hr hlocks hname
  have hin1 : ∀ x ∈ u_ws RX1 TX1 3, x ∈ wsX1_draw := by decide +kernel
  have hfl15 : Cond.fieldLink RX1 15 (TX1 1).1 (TX1 1).2.1 (TX1 1).2.2.1 ∈ wsX1_draw := by decide +kernel
  show J p l e rmX1_draw s m args below meth c D A 3 0 0 (MQ below (jQc D (fun r0 w0 => r0 = some (.int (-1)) ∧ w0 = cW a cI dn (nI k) ch) A) args s rmX1_draw.cells rmX1_draw.slots A) (cW a cI dn (nI k) ch) 0 [(0, .ref (a 0))] []
  refine j_aload_n CX 0 dX1_draw_0 rfl rfl ?_
  refine j_get CX 0 1 dX1_draw_1 rfl rfl hin1 (by decide) hfl15 rfl ?_
  refine j_ifN_gt CX (by first | assumption | omega | exact b2n_lt _ | exact t2n_lt _) 9 dX1_draw_4 (by decide) (fun h4 => ?_) (fun h4 => ?_)
  · exact absurd h4 (by omega)
  · refine j_iconst CX dX1_draw_7 (show _ = ((-1) : Int32) by decide) ?_
    exact j_iret CX hr hlocks dX1_draw_8 (⟨rfl, rfl⟩)

set_option maxRecDepth 100000 in
set_option maxHeartbeats 4000000 in
theorem c_draw (l : Launch) (D : va_G) (cI cZ cL : ClassId) (a : Nat → Nat) (dn : Nat → Int32) (k : Nat) (ch : Int32) (h0 : 0 < k) (hk : k ≤ 16) : Cg l D cI cZ cL yX1_draw wsX1_draw rmX1_draw [.ref (a 0)] (cW a cI dn (nI k) ch) (fun r0 w0 => r0 = some (.int (wI (dwF dn k ch))) ∧ w0 = cW a cI dn (nI k) (nxH ch)) := by
  refine Cg.ofJ (own := RX1) (cc := cX1_draw) (maxL := 3) (ret := (some .int)) (by decide) rfl rfl (Nat.le_of_ble_eq_true rfl) ?_
  intro p e s m args below meth c A CX hr hlocks hname
  have hin1 : ∀ x ∈ u_ws RX1 TX1 3, x ∈ wsX1_draw := by decide +kernel
  have hfl9 : Cond.fieldLink RX1 9 (TX1 0).1 (TX1 0).2.1 (TX1 0).2.2.1 ∈ wsX1_draw := by decide +kernel
  have hfl15 : Cond.fieldLink RX1 15 (TX1 1).1 (TX1 1).2.1 (TX1 1).2.2.1 ∈ wsX1_draw := by decide +kernel
  have hfl19 : Cond.fieldLink RX1 19 (TX1 2).1 (TX1 2).2.1 (TX1 2).2.2.1 ∈ wsX1_draw := by decide +kernel
  have hcn22 : Cond.constant RX1 22 (1103515245) ∈ wsX1_draw := by decide +kernel
  have L39 : ∀ (d39 : Nat) (v9 b9 : Nat), 16 - v9 = d39 → v9 ≤ 16 → b9 < 2 ^ 31 → drN dn (16 - v9) v9 b9 = dwF dn k ch → J p l e rmX1_draw s m args below meth c D A 3 0 0 (MQ below (jQc D (fun r0 w0 => r0 = some (.int (wI (dwF dn k ch))) ∧ w0 = cW a cI dn (nI k) (nxH ch)) A) args s rmX1_draw.cells rmX1_draw.slots A) (cW a cI dn (nI k) (nxH ch)) 39 [(2, .int (nI v9)), (1, .int (nI b9)), (0, .ref (a 0))] [] := by
    intro d39
    induction d39 using Nat.strongRecOn with
    | _ d39 ih39 =>
      intro v9 b9 hd hv hb he
      refine j_iload_n CX 0 dX1_draw_39 rfl rfl ?_
      refine j_bipush CX dX1_draw_40 (show _ = (nI 16 : Int32) by decide) ?_
      refine j_icmpN_ge CX (by first | assumption | omega) (by first | assumption | omega | exact b2n_lt _ | exact t2n_lt _) 70 dX1_draw_42 (by decide) (fun h42 => ?_) (fun h42 => ?_)
      · refine j_iconst CX dX1_draw_70 (show _ = ((-1) : Int32) by decide) ?_
        exact j_iret CX hr hlocks dX1_draw_71 (⟨by rw [← he, show 16 - v9 = 0 by omega]; show _ = some (Value.int (wI v9)); rw [wI, if_neg (by omega)], rfl⟩)
      · obtain ⟨d8, hd8⟩ : ∃ d8, 16 - v9 = d8 + 1 := ⟨16 - v9 - 1, by omega⟩
        refine j_aload_n CX 2 dX1_draw_45 rfl rfl ?_
        refine j_get CX 0 0 dX1_draw_46 rfl rfl hin1 (by decide) hfl9 rfl ?_
        refine j_iload_n CX 0 dX1_draw_49 rfl rfl ?_
        refine j_iald CX 1 v9 dX1_draw_50 rfl (rfl) (by first | assumption | omega) (by decide) ?_
        refine j_iconst CX dX1_draw_51 (show _ = ((-1) : Int32) by decide) ?_
        refine j_icmp_eq CX 64 dX1_draw_52 (by decide) (fun h52 => ?_) (fun h52 => ?_)
        · refine j_iinc CX (v := nI (v9 + 1)) (lv' := [(2, .int (nI (v9 + 1))), (1, .int (nI b9)), (0, .ref (a 0))]) 0 dX1_draw_64 rfl (nI_1 _) (by decide) rfl ?_
          refine j_goto CX 39 dX1_draw_67 (by decide) ?_
          exact ih39 _ (by omega) (v9 + 1) b9 rfl (by omega) hb (by rw [← he, hd8, drN_g h52, show 16 - (v9 + 1) = d8 by omega])
        · refine j_iload_n CX 1 dX1_draw_55 rfl rfl ?_
          refine j_ifN_ne CX (by first | assumption | omega | exact b2n_lt _ | exact t2n_lt _) 61 dX1_draw_56 (by decide) (fun h56 => ?_) (fun h56 => ?_)
          · refine j_iinc CX (v := nI (b9 - 1)) (lv' := [(1, .int (nI (b9 - 1))), (2, .int (nI v9)), (0, .ref (a 0))]) 1 dX1_draw_61 rfl (by rw [sub_m1]; exact pk_sub (by omega)) (by decide) rfl ?_
            refine j_iinc CX (v := nI (v9 + 1)) (lv' := [(2, .int (nI (v9 + 1))), (1, .int (nI (b9 - 1))), (0, .ref (a 0))]) 1 dX1_draw_64 rfl (nI_1 _) (by decide) rfl ?_
            refine j_goto CX 39 dX1_draw_67 (by decide) ?_
            exact ih39 _ (by omega) (v9 + 1) (b9 - 1) rfl (by omega) (by omega) (by rw [← he, hd8, drN_n h52 h56, show 16 - (v9 + 1) = d8 by omega])
          · refine j_iload_n CX 0 dX1_draw_59 rfl rfl ?_
            exact j_iret CX hr hlocks dX1_draw_60 (⟨by rw [← he, hd8, drN_h h52 h56, wI, if_pos h42], rfl⟩)
  show J p l e rmX1_draw s m args below meth c D A 3 0 0 (MQ below (jQc D (fun r0 w0 => r0 = some (.int (wI (dwF dn k ch))) ∧ w0 = cW a cI dn (nI k) (nxH ch)) A) args s rmX1_draw.cells rmX1_draw.slots A) (cW a cI dn (nI k) ch) 0 [(0, .ref (a 0))] []
  refine j_aload_n CX 0 dX1_draw_0 rfl rfl ?_
  refine j_get CX 0 1 dX1_draw_1 rfl rfl hin1 (by decide) hfl15 rfl ?_
  refine j_ifN_gt CX (by first | assumption | omega | exact b2n_lt _ | exact t2n_lt _) 9 dX1_draw_4 (by decide) (fun h4 => ?_) (fun h4 => ?_)
  · refine j_aload_n CX 0 dX1_draw_9 rfl rfl ?_
    refine j_aload_n CX 0 dX1_draw_10 rfl rfl ?_
    refine j_get CX 0 2 dX1_draw_11 rfl rfl hin1 (by decide) hfl19 rfl ?_
    refine j_ldc CX dX1_draw_14 hcn22 ?_
    refine j_imul CX dX1_draw_16 ?_
    refine j_sipush CX dX1_draw_17 (show _ = (nI 12345 : Int32) by decide) ?_
    refine j_iadd CX dX1_draw_20 ?_
    refine j_top (show ((ch * 1103515245) + (nI 12345)) = nxH ch from (nxH_eq _).symm) ?_
    refine j_put CX (w' := cW a cI dn (nI k) (nxH ch)) 0 2 dX1_draw_21 rfl rfl hin1 tyX1 tyX1_ok nmX1 (by decide) hfl19 rfl rfl rfl rfl (Nat.le_of_ble_eq_true rfl) rfl ?_
    refine j_aload_n CX 0 dX1_draw_24 rfl rfl ?_
    refine j_get CX 0 2 dX1_draw_25 rfl rfl hin1 (by decide) hfl19 rfl ?_
    refine j_bipush CX dX1_draw_28 (show _ = (nI 16 : Int32) by decide) ?_
    refine j_iushr CX dX1_draw_30 ?_
    refine j_top (show (((nxH ch).toUInt32 >>> ((nI 16).toUInt32 &&& Int32.toUInt32 31)).toInt32) = nI (dv (nxH ch)) from ush16 _) ?_
    refine j_aload_n CX 0 dX1_draw_31 rfl rfl ?_
    refine j_get CX 0 1 dX1_draw_32 rfl rfl hin1 (by decide) hfl15 rfl ?_
    refine j_irem CX dX1_draw_35 (nI_ne0 h0 (by omega)) ?_
    refine j_top (show ((nI (dv (nxH ch))) - (nI (dv (nxH ch))) / (nI k) * (nI k)) = nI (dv (nxH ch) % k) from pk_rem (by have := dv_lt (nxH ch); omega) h0 (by omega)) ?_
    refine j_istore_n CX (lv' := [(1, .int (nI (dv (nxH ch) % k))), (0, .ref (a 0))]) dX1_draw_36 rfl (by decide) rfl ?_
    refine j_iconst CX dX1_draw_37 (show _ = (nI 0 : Int32) by decide) ?_
    refine j_istore_n CX (lv' := [(2, .int (nI 0)), (1, .int (nI (dv (nxH ch) % k))), (0, .ref (a 0))]) dX1_draw_38 rfl (by decide) rfl ?_
    exact L39 _ 0 (dv (nxH ch) % k) rfl (by omega) (by have := Nat.mod_lt (dv (nxH ch)) h0; omega) rfl
  · exact absurd h4 (by omega)

theorem c_drawS (l : Launch) (D : va_G) (cI cZ cL : ClassId) (a : Nat → Nat) (dn : Nat → Int32) (k : Nat) (ch : Int32) (h0 : 0 < k) (hk : k ≤ 16) (hw : dwF dn k ch < 16) : Cg l D cI cZ cL yX1_draw wsX1_draw rmX1_draw [.ref (a 0)] (cW a cI dn (nI k) ch) (fun r0 w0 => r0 = some (.int (nI (dwF dn k ch))) ∧ w0 = cW a cI dn (nI k) (nxH ch)) := by
  have h := c_draw l D cI cZ cL a dn k ch h0 hk
  rw [wI, if_pos hw] at h
  exact h
theorem c_drawX (l : Launch) (D : va_G) (cI cZ cL : ClassId) (a : Nat → Nat) (dn : Nat → Int32) (k : Nat) (ch : Int32) (h0 : 0 < k) (hk : k ≤ 16) (hw : ¬ dwF dn k ch < 16) : Cg l D cI cZ cL yX1_draw wsX1_draw rmX1_draw [.ref (a 0)] (cW a cI dn (nI k) ch) (fun r0 w0 => r0 = some (.int (-1)) ∧ w0 = cW a cI dn (nI k) (nxH ch)) := by
  have h := c_draw l D cI cZ cL a dn k ch h0 hk
  rw [wI, if_neg hw] at h
  exact h
abbrev rmX1_gather : Room := { frames := 0, cells := 0, slots := 0, locals := 0 }
set_option maxRecDepth 100000 in
set_option maxHeartbeats 4000000 in
theorem c_gather (l : Launch) (D : va_G) (cI cZ cL : ClassId) (a : Nat → Nat) (dn : Nat → Int32) (k : Nat) (ch : Int32) (W : Nat) (sd : Int32) (hW : W ≤ 16) : Cg l D cI cZ cL yX1_gather wsX1_gather rmX1_gather [.ref (a 0), .int (nI W), .int sd] (cW a cI dn (nI k) ch) (fun r0 w0 => r0 = none ∧ w0 = cW a cI (gaD dn W 16) (nI W) sd) := by
  refine Cg.ofJ (own := RX1) (cc := cX1_gather) (maxL := 4) (ret := none) (by decide) rfl rfl (Nat.le_of_ble_eq_true rfl) ?_
  intro p e s m args below meth c A CX hr hlocks hname
  have hin1 : ∀ x ∈ u_ws RX1 TX1 3, x ∈ wsX1_gather := by decide +kernel
  have hfl15 : Cond.fieldLink RX1 15 (TX1 1).1 (TX1 1).2.1 (TX1 1).2.2.1 ∈ wsX1_gather := by decide +kernel
  have hfl19 : Cond.fieldLink RX1 19 (TX1 2).1 (TX1 2).2.1 (TX1 2).2.2.1 ∈ wsX1_gather := by decide +kernel
  have hfl9 : Cond.fieldLink RX1 9 (TX1 0).1 (TX1 0).2.1 (TX1 0).2.2.1 ∈ wsX1_gather := by decide +kernel
  have L2 : ∀ (d2 : Nat) (i9 : Nat), 16 - i9 = d2 → i9 ≤ 16 → J p l e rmX1_gather s m args below meth c D A 4 0 0 (MQ below (jQc D (fun r0 w0 => r0 = none ∧ w0 = cW a cI (gaD dn W 16) (nI W) sd) A) args s rmX1_gather.cells rmX1_gather.slots A) (cW a cI (gaD dn W i9) (nI k) ch) 2 [(3, .int (nI i9)), (0, .ref (a 0)), (1, .int (nI W)), (2, .int sd)] [] := by
    intro d2
    induction d2 using Nat.strongRecOn with
    | _ d2 ih2 =>
      intro i9 hd hi
      refine j_iload_n CX 0 dX1_gather_2 rfl rfl ?_
      refine j_bipush CX dX1_gather_3 (show _ = (nI 16 : Int32) by decide) ?_
      refine j_icmpN_ge CX (by first | assumption | omega) (by first | assumption | omega | exact b2n_lt _ | exact t2n_lt _) 30 dX1_gather_5 (by decide) (fun h5 => ?_) (fun h5 => ?_)
      · refine j_aload_n CX 1 dX1_gather_30 rfl rfl ?_
        refine j_iload_n CX 2 dX1_gather_31 rfl rfl ?_
        refine j_put CX (w' := cW a cI (gaD dn W i9) (nI W) ch) 0 1 dX1_gather_32 rfl rfl hin1 tyX1 tyX1_ok nmX1 (by decide) hfl15 rfl rfl rfl rfl (Nat.le_of_ble_eq_true rfl) rfl ?_
        refine j_aload_n CX 1 dX1_gather_35 rfl rfl ?_
        refine j_iload_n CX 3 dX1_gather_36 rfl rfl ?_
        refine j_put CX (w' := cW a cI (gaD dn W i9) (nI W) sd) 0 2 dX1_gather_37 rfl rfl hin1 tyX1 tyX1_ok nmX1 (by decide) hfl19 rfl rfl rfl rfl (Nat.le_of_ble_eq_true rfl) rfl ?_
        exact j_vret CX hr hlocks dX1_gather_40 (⟨rfl, by rw [show i9 = 16 by omega]⟩)
      · refine j_aload_n CX 1 dX1_gather_8 rfl rfl ?_
        refine j_get CX 0 0 dX1_gather_9 rfl rfl hin1 (by decide) hfl9 rfl ?_
        refine j_iload_n CX 0 dX1_gather_12 rfl rfl ?_
        refine j_iload_n CX 0 dX1_gather_13 rfl rfl ?_
        refine j_iload_n CX 2 dX1_gather_14 rfl rfl ?_
        refine j_icmpN_ge CX (by first | assumption | omega) (by first | assumption | omega | exact b2n_lt _ | exact t2n_lt _) 22 dX1_gather_15 (by decide) (fun h15 => ?_) (fun h15 => ?_)
        · refine j_iconst CX dX1_gather_22 (show _ = ((-1) : Int32) by decide) ?_
          refine j_top (show _ = (if i9 < W then nI 0 else (-1 : Int32)) by first | (rw [if_pos h15]) | (rw [if_neg (Nat.not_lt.mpr h15)])) ?_
          refine j_iast CX (w' := cW a cI (upd (gaD dn W i9) i9 (if i9 < W then nI 0 else -1)) (nI k) ch) 1 i9 dX1_gather_23 rfl (rfl) (by first | assumption | omega) (by decide) rfl ?_
          refine j_iinc CX (v := nI (i9 + 1)) (lv' := [(3, .int (nI (i9 + 1))), (0, .ref (a 0)), (1, .int (nI W)), (2, .int sd)]) 0 dX1_gather_24 rfl (nI_1 _) (by decide) rfl ?_
          refine j_goto CX 2 dX1_gather_27 (by decide) ?_
          exact ih2 _ (by omega) (i9 + 1) rfl (by omega)
        · refine j_iconst CX dX1_gather_18 (show _ = (nI 0 : Int32) by decide) ?_
          refine j_goto CX 23 dX1_gather_19 (by decide) ?_
          refine j_top (show _ = (if i9 < W then nI 0 else (-1 : Int32)) by first | (rw [if_pos h15]) | (rw [if_neg (Nat.not_lt.mpr h15)])) ?_
          refine j_iast CX (w' := cW a cI (upd (gaD dn W i9) i9 (if i9 < W then nI 0 else -1)) (nI k) ch) 1 i9 dX1_gather_23 rfl (rfl) (by first | assumption | omega) (by decide) rfl ?_
          refine j_iinc CX (v := nI (i9 + 1)) (lv' := [(3, .int (nI (i9 + 1))), (0, .ref (a 0)), (1, .int (nI W)), (2, .int sd)]) 0 dX1_gather_24 rfl (nI_1 _) (by decide) rfl ?_
          refine j_goto CX 2 dX1_gather_27 (by decide) ?_
          exact ih2 _ (by omega) (i9 + 1) rfl (by omega)
  show J p l e rmX1_gather s m args below meth c D A 4 0 0 (MQ below (jQc D (fun r0 w0 => r0 = none ∧ w0 = cW a cI (gaD dn W 16) (nI W) sd) A) args s rmX1_gather.cells rmX1_gather.slots A) (cW a cI dn (nI k) ch) 0 [(0, .ref (a 0)), (1, .int (nI W)), (2, .int sd)] []
  refine j_iconst CX dX1_gather_0 (show _ = (nI 0 : Int32) by decide) ?_
  refine j_istore_n CX (lv' := [(3, .int (nI 0)), (0, .ref (a 0)), (1, .int (nI W)), (2, .int sd)]) dX1_gather_1 rfl (by decide) rfl ?_
  exact L2 _ 0 rfl (Nat.zero_le _)

abbrev rmX1_lose : Room := { frames := 0, cells := 0, slots := 0, locals := 0 }
set_option maxRecDepth 100000 in
set_option maxHeartbeats 4000000 in
theorem c_lose (l : Launch) (D : va_G) (cI cZ cL : ClassId) (a : Nat → Nat) (dn : Nat → Int32) (k : Nat) (ch : Int32) (w : Nat) (hw : w < 16) (h0 : 0 < k) : Cg l D cI cZ cL yX1_lose wsX1_lose rmX1_lose [.ref (a 0), .int (nI w)] (cW a cI dn (nI k) ch) (fun r0 w0 => r0 = none ∧ w0 = cW a cI (upd dn w (-1)) (nI (k - 1)) ch) := by
  refine Cg.ofJ (own := RX1) (cc := cX1_lose) (maxL := 2) (ret := none) (by decide) rfl rfl (Nat.le_of_ble_eq_true rfl) ?_
  intro p e s m args below meth c A CX hr hlocks hname
  have hin1 : ∀ x ∈ u_ws RX1 TX1 3, x ∈ wsX1_lose := by decide +kernel
  have hfl9 : Cond.fieldLink RX1 9 (TX1 0).1 (TX1 0).2.1 (TX1 0).2.2.1 ∈ wsX1_lose := by decide +kernel
  have hfl15 : Cond.fieldLink RX1 15 (TX1 1).1 (TX1 1).2.1 (TX1 1).2.2.1 ∈ wsX1_lose := by decide +kernel
  show J p l e rmX1_lose s m args below meth c D A 2 0 0 (MQ below (jQc D (fun r0 w0 => r0 = none ∧ w0 = cW a cI (upd dn w (-1)) (nI (k - 1)) ch) A) args s rmX1_lose.cells rmX1_lose.slots A) (cW a cI dn (nI k) ch) 0 [(0, .ref (a 0)), (1, .int (nI w))] []
  refine j_aload_n CX 0 dX1_lose_0 rfl rfl ?_
  refine j_get CX 0 0 dX1_lose_1 rfl rfl hin1 (by decide) hfl9 rfl ?_
  refine j_iload_n CX 1 dX1_lose_4 rfl rfl ?_
  refine j_iconst CX dX1_lose_5 (show _ = ((-1) : Int32) by decide) ?_
  refine j_iast CX (w' := cW a cI (upd dn w (-1)) (nI k) ch) 1 w dX1_lose_6 rfl (rfl) (by first | assumption | omega) (by decide) rfl ?_
  refine j_aload_n CX 0 dX1_lose_7 rfl rfl ?_
  refine j_dup CX dX1_lose_8 rfl ?_
  refine j_get CX 0 1 dX1_lose_9 rfl rfl hin1 (by decide) hfl15 rfl ?_
  refine j_iconst CX dX1_lose_12 (show _ = (nI 1 : Int32) by decide) ?_
  refine j_isub CX dX1_lose_13 ?_
  refine j_top (show ((nI k) - (nI 1)) = nI (k - 1) from pk_sub (by omega)) ?_
  refine j_put CX (w' := cW a cI (upd dn w (-1)) (nI (k - 1)) ch) 0 1 dX1_lose_14 rfl rfl hin1 tyX1 tyX1_ok nmX1 (by decide) hfl15 rfl rfl rfl rfl (Nat.le_of_ble_eq_true rfl) rfl ?_
  exact j_vret CX hr hlocks dX1_lose_17 (⟨rfl, rfl⟩)
