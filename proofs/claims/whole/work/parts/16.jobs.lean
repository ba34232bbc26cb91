abbrev rmX3_isFull : Room := { frames := 0, cells := 0, slots := 0, locals := 0 }
set_option maxRecDepth 100000 in
set_option maxHeartbeats 4000000 in
theorem j_isFull (l : Launch) (D : va_G) (cI cZ cL : ClassId) (a : Nat → Nat) (U : Nat → Nat) (jr ja : Nat → Int32) (k q : Nat) (hk : k ≤ 100) : Cg l D cI cZ cL yX3_isFull wsX3_isFull rmX3_isFull [.ref (a 0)] (jW a cI (nf U) jr ja (nI k) (nI q)) (fun r0 w0 => r0 = some (.int (nI (b2n (100 ≤ k)))) ∧ w0 = jW a cI (nf U) jr ja (nI k) (nI q)) := by
  refine Cg.ofJ (own := RX3) (cc := cX3_isFull) (maxL := 1) (ret := (some .boolean)) (by decide) rfl rfl (Nat.le_of_ble_eq_true rfl) ?_
  intro p e s m args below meth c A CX hr hlocks hname
  have hin3 : ∀ x ∈ u_ws RX3 TX3 5, x ∈ wsX3_isFull := by decide +kernel
  have hfl21 : Cond.fieldLink RX3 21 (TX3 3).1 (TX3 3).2.1 (TX3 3).2.2.1 ∈ wsX3_isFull := by decide +kernel
  show J p l e rmX3_isFull s m args below meth c D A 1 0 0 (MQ below (jQc D (fun r0 w0 => r0 = some (.int (nI (b2n (100 ≤ k)))) ∧ w0 = jW a cI (nf U) jr ja (nI k) (nI q)) A) args s rmX3_isFull.cells rmX3_isFull.slots A) (jW a cI (nf U) jr ja (nI k) (nI q)) 0 [(0, .ref (a 0))] []
  refine j_aload_n CX 0 dX3_isFull_0 rfl rfl ?_
  refine j_get CX 0 3 dX3_isFull_1 rfl rfl hin3 (by decide) hfl21 rfl ?_
  refine j_bipush CX dX3_isFull_4 (show _ = (nI 100 : Int32) by decide) ?_
  refine j_icmpN_lt CX (by first | assumption | omega) (by first | assumption | omega | exact b2n_lt _ | exact t2n_lt _) 13 dX3_isFull_6 (by decide) (fun h6 => ?_) (fun h6 => ?_)
  · refine j_iconst CX dX3_isFull_13 (show _ = (nI 0 : Int32) by decide) ?_
    exact j_zret CX hr hlocks dX3_isFull_14 (rfl) (⟨by rw [b2n_f (by omega)], rfl⟩)
  · refine j_iconst CX dX3_isFull_9 (show _ = (nI 1 : Int32) by decide) ?_
    refine j_goto CX 14 dX3_isFull_10 (by decide) ?_
    exact j_zret CX hr hlocks dX3_isFull_14 (rfl) (⟨by rw [b2n_t (by omega)], rfl⟩)

abbrev rmX3_cameInAll : Room := { frames := 0, cells := 0, slots := 0, locals := 0 }
set_option maxRecDepth 100000 in
set_option maxHeartbeats 4000000 in
theorem j_came (l : Launch) (D : va_G) (cI cZ cL : ClassId) (a : Nat → Nat) (U : Nat → Nat) (jr ja : Nat → Int32) (k q : Nat)  : Cg l D cI cZ cL yX3_cameInAll wsX3_cameInAll rmX3_cameInAll [.ref (a 0)] (jW a cI (nf U) jr ja (nI k) (nI q)) (fun r0 w0 => r0 = some (.int (nI q)) ∧ w0 = jW a cI (nf U) jr ja (nI k) (nI q)) := by
  refine Cg.ofJ (own := RX3) (cc := cX3_cameInAll) (maxL := 1) (ret := (some .int)) (by decide) rfl rfl (Nat.le_of_ble_eq_true rfl) ?_
  intro p e s m args below meth c A CX hr hlocks hname
  have hin3 : ∀ x ∈ u_ws RX3 TX3 5, x ∈ wsX3_cameInAll := by decide +kernel
  have hfl25 : Cond.fieldLink RX3 25 (TX3 4).1 (TX3 4).2.1 (TX3 4).2.2.1 ∈ wsX3_cameInAll := by decide +kernel
  show J p l e rmX3_cameInAll s m args below meth c D A 1 0 0 (MQ below (jQc D (fun r0 w0 => r0 = some (.int (nI q)) ∧ w0 = jW a cI (nf U) jr ja (nI k) (nI q)) A) args s rmX3_cameInAll.cells rmX3_cameInAll.slots A) (jW a cI (nf U) jr ja (nI k) (nI q)) 0 [(0, .ref (a 0))] []
  refine j_aload_n CX 0 dX3_cameInAll_0 rfl rfl ?_
  refine j_get CX 0 4 dX3_cameInAll_1 rfl rfl hin3 (by decide) hfl25 rfl ?_
  exact j_iret CX hr hlocks dX3_cameInAll_4 (⟨rfl, rfl⟩)

abbrev rmX3_add : Room := { frames := 1, cells := 0, slots := 0, locals := 20 }
set_option maxRecDepth 100000 in
set_option maxHeartbeats 4000000 in
theorem j_add (l : Launch) (D : va_G) (cI cZ cL : ClassId) (a : Nat → Nat) (U : Nat → Nat) (jr ja : Nat → Int32) (k q : Nat) (rk : Int32) (hk : k < 100) : Cg l D cI cZ cL yX3_add wsX3_add rmX3_add [.ref (a 0), .int rk] (jW a cI (nf U) jr ja (nI k) (nI q)) (fun r0 w0 => r0 = some (.int (nI q)) ∧ w0 = jW a cI (nf (updN U k q)) (upd jr k rk) (upd ja k (nI 0)) (nI (k + 1)) (nI (q + 1))) := by
  refine Cg.ofJ (own := RX3) (cc := cX3_add) (maxL := 3) (ret := (some .int)) (by decide) rfl rfl (Nat.le_of_ble_eq_true rfl) ?_
  intro p e s m args below meth c A CX hr hlocks hname
  have hin3 : ∀ x ∈ u_ws RX3 TX3 5, x ∈ wsX3_add := by decide +kernel
  have hfl25 : Cond.fieldLink RX3 25 (TX3 4).1 (TX3 4).2.1 (TX3 4).2.2.1 ∈ wsX3_add := by decide +kernel
  have hfl9 : Cond.fieldLink RX3 9 (TX3 0).1 (TX3 0).2.1 (TX3 0).2.2.1 ∈ wsX3_add := by decide +kernel
  have hfl21 : Cond.fieldLink RX3 21 (TX3 3).1 (TX3 3).2.1 (TX3 3).2.2.1 ∈ wsX3_add := by decide +kernel
  have hfl15 : Cond.fieldLink RX3 15 (TX3 1).1 (TX3 1).2.1 (TX3 1).2.2.1 ∈ wsX3_add := by decide +kernel
  have hfl18 : Cond.fieldLink RX3 18 (TX3 2).1 (TX3 2).2.1 (TX3 2).2.2.1 ∈ wsX3_add := by decide +kernel
  show J p l e rmX3_add s m args below meth c D A 3 0 0 (MQ below (jQc D (fun r0 w0 => r0 = some (.int (nI q)) ∧ w0 = jW a cI (nf (updN U k q)) (upd jr k rk) (upd ja k (nI 0)) (nI (k + 1)) (nI (q + 1))) A) args s rmX3_add.cells rmX3_add.slots A) (jW a cI (nf U) jr ja (nI k) (nI q)) 0 [(0, .ref (a 0)), (1, .int rk)] []
  refine j_aload_n CX 0 dX3_add_0 rfl rfl ?_
  refine j_callV CX (n := 0) (pre := []) (post := []) (rest := []) (qc := (RX3, TX3, 5)) (j_isFull l D cI cZ cL a U jr ja k q (by omega)) gX3_add_X3_isFull rfl (by decide +kernel) ⟨Nat.le_of_ble_eq_true rfl, Nat.le_of_ble_eq_true rfl⟩ rfl rfl rfl rfl rfl (Nat.le_of_ble_eq_true rfl) dX3_add_1 ⟨Nat.le_refl _, Nat.le_refl _⟩ (fun r9 w9 h9 => ?_)
  obtain ⟨rfl, rfl⟩ := h9
  refine j_w (w' := jW a cI (nf U) jr ja (nI k) (nI q)) rfl ?_
  refine j_st (st9 := [.int (nI (b2n (100 ≤ k)))]) rfl ?_
  refine j_ifN_eq CX (by first | assumption | omega | exact b2n_lt _ | exact t2n_lt _) 9 dX3_add_4 (by decide) (fun h4 => ?_) (fun h4 => ?_)
  · refine j_aload_n CX 0 dX3_add_9 rfl rfl ?_
    refine j_get CX 0 4 dX3_add_10 rfl rfl hin3 (by decide) hfl25 rfl ?_
    refine j_istore_n CX (lv' := [(2, .int (nI q)), (0, .ref (a 0)), (1, .int rk)]) dX3_add_13 rfl (by decide) rfl ?_
    refine j_aload_n CX 1 dX3_add_14 rfl rfl ?_
    refine j_get CX 0 0 dX3_add_15 rfl rfl hin3 (by decide) hfl9 rfl ?_
    refine j_aload_n CX 1 dX3_add_18 rfl rfl ?_
    refine j_get CX 0 3 dX3_add_19 rfl rfl hin3 (by decide) hfl21 rfl ?_
    refine j_iload_n CX 0 dX3_add_22 rfl rfl ?_
    refine j_iast CX (w' := jW a cI (upd (nf U) k (nI q)) jr ja (nI k) (nI q)) 1 k dX3_add_23 rfl (rfl) (by first | assumption | omega) (by decide) rfl ?_
    refine j_w (show jW a cI (upd (nf U) k (nI q)) jr ja (nI k) (nI q) = jW a cI (nf (updN U k q)) jr ja (nI k) (nI q) by rw [nf_upd]) ?_
    refine j_aload_n CX 1 dX3_add_24 rfl rfl ?_
    refine j_get CX 0 1 dX3_add_25 rfl rfl hin3 (by decide) hfl15 rfl ?_
    refine j_aload_n CX 1 dX3_add_28 rfl rfl ?_
    refine j_get CX 0 3 dX3_add_29 rfl rfl hin3 (by decide) hfl21 rfl ?_
    refine j_iload_n CX 2 dX3_add_32 rfl rfl ?_
    refine j_iast CX (w' := jW a cI (nf (updN U k q)) (upd jr k rk) ja (nI k) (nI q)) 2 k dX3_add_33 rfl (rfl) (by first | assumption | omega) (by decide) rfl ?_
    refine j_aload_n CX 1 dX3_add_34 rfl rfl ?_
    refine j_get CX 0 2 dX3_add_35 rfl rfl hin3 (by decide) hfl18 rfl ?_
    refine j_aload_n CX 1 dX3_add_38 rfl rfl ?_
    refine j_get CX 0 3 dX3_add_39 rfl rfl hin3 (by decide) hfl21 rfl ?_
    refine j_iconst CX dX3_add_42 (show _ = (nI 0 : Int32) by decide) ?_
    refine j_iast CX (w' := jW a cI (nf (updN U k q)) (upd jr k rk) (upd ja k (nI 0)) (nI k) (nI q)) 3 k dX3_add_43 rfl (rfl) (by first | assumption | omega) (by decide) rfl ?_
    refine j_aload_n CX 1 dX3_add_44 rfl rfl ?_
    refine j_dup CX dX3_add_45 rfl ?_
    refine j_get CX 0 3 dX3_add_46 rfl rfl hin3 (by decide) hfl21 rfl ?_
    refine j_iconst CX dX3_add_49 (show _ = (nI 1 : Int32) by decide) ?_
    refine j_iadd CX dX3_add_50 ?_
    refine j_top (show (nI k) + (nI 1) = nI (k + 1) from nI_add _ _) ?_
    refine j_put CX (w' := jW a cI (nf (updN U k q)) (upd jr k rk) (upd ja k (nI 0)) (nI (k + 1)) (nI q)) 0 3 dX3_add_51 rfl rfl hin3 tyX3 tyX3_ok nmX3 (by decide) hfl21 rfl rfl rfl rfl (Nat.le_of_ble_eq_true rfl) rfl ?_
    refine j_aload_n CX 1 dX3_add_54 rfl rfl ?_
    refine j_dup CX dX3_add_55 rfl ?_
    refine j_get CX 0 4 dX3_add_56 rfl rfl hin3 (by decide) hfl25 rfl ?_
    refine j_iconst CX dX3_add_59 (show _ = (nI 1 : Int32) by decide) ?_
    refine j_iadd CX dX3_add_60 ?_
    refine j_top (show (nI q) + (nI 1) = nI (q + 1) from nI_add _ _) ?_
    refine j_put CX (w' := jW a cI (nf (updN U k q)) (upd jr k rk) (upd ja k (nI 0)) (nI (k + 1)) (nI (q + 1))) 0 4 dX3_add_61 rfl rfl hin3 tyX3 tyX3_ok nmX3 (by decide) hfl25 rfl rfl rfl rfl (Nat.le_of_ble_eq_true rfl) rfl ?_
    refine j_iload_n CX 0 dX3_add_64 rfl rfl ?_
    exact j_iret CX hr hlocks dX3_add_65 (⟨rfl, rfl⟩)
  · exact absurd h4 (by rw [b2n_f (by omega)]; decide)

abbrev rmX3_foremost : Room := { frames := 0, cells := 0, slots := 0, locals := 0 }
set_option maxRecDepth 100000 in
set_option maxHeartbeats 4000000 in
theorem j_foremost (l : Launch) (D : va_G) (cI cZ cL : ClassId) (a : Nat → Nat) (U : Nat → Nat) (jr ja : Nat → Int32) (k q : Nat) (hk : k ≤ 100) (h0 : 0 < k) : Cg l D cI cZ cL yX3_foremost wsX3_foremost rmX3_foremost [.ref (a 0)] (jW a cI (nf U) jr ja (nI k) (nI q)) (fun r0 w0 => r0 = some (.int (nI (fmF jr ja (k - 1)))) ∧ w0 = jW a cI (nf U) jr ja (nI k) (nI q)) := by
  refine Cg.ofJ (own := RX3) (cc := cX3_foremost) (maxL := 3) (ret := (some .int)) (by decide) rfl rfl (Nat.le_of_ble_eq_true rfl) ?_
  intro p e s m args below meth c A CX hr hlocks hname
  have hin3 : ∀ x ∈ u_ws RX3 TX3 5, x ∈ wsX3_foremost := by decide +kernel
  have hfl21 : Cond.fieldLink RX3 21 (TX3 3).1 (TX3 3).2.1 (TX3 3).2.2.1 ∈ wsX3_foremost := by decide +kernel
  have hfl15 : Cond.fieldLink RX3 15 (TX3 1).1 (TX3 1).2.1 (TX3 1).2.2.1 ∈ wsX3_foremost := by decide +kernel
  have hfl18 : Cond.fieldLink RX3 18 (TX3 2).1 (TX3 2).2.1 (TX3 2).2.2.1 ∈ wsX3_foremost := by decide +kernel
  have L4 : ∀ (d4 : Nat) (p9 : Nat), k - p9 = d4 → p9 + 1 ≤ k → J p l e rmX3_foremost s m args below meth c D A 3 0 0 (MQ below (jQc D (fun r0 w0 => r0 = some (.int (nI (fmF jr ja (k - 1)))) ∧ w0 = jW a cI (nf U) jr ja (nI k) (nI q)) A) args s rmX3_foremost.cells rmX3_foremost.slots A) (jW a cI (nf U) jr ja (nI k) (nI q)) 4 [(2, .int (nI (p9 + 1))), (1, .int (nI (fmF jr ja p9))), (0, .ref (a 0))] [] := by
    intro d4
    induction d4 using Nat.strongRecOn with
    | _ d4 ih4 =>
      intro p9 hd hp
      have hfm := fmF_le jr ja p9
      refine j_iload_n CX 0 dX3_foremost_4 rfl rfl ?_
      refine j_aload_n CX 2 dX3_foremost_5 rfl rfl ?_
      refine j_get CX 0 3 dX3_foremost_6 rfl rfl hin3 (by decide) hfl21 rfl ?_
      refine j_icmpN_ge CX (by first | assumption | omega) (by first | assumption | omega | exact b2n_lt _ | exact t2n_lt _) 49 dX3_foremost_9 (by decide) (fun h9 => ?_) (fun h9 => ?_)
      · refine j_iload_n CX 1 dX3_foremost_49 rfl rfl ?_
        exact j_iret CX hr hlocks dX3_foremost_50 (⟨by rw [show k - 1 = p9 by omega], rfl⟩)
      · refine j_aload_n CX 2 dX3_foremost_12 rfl rfl ?_
        refine j_get CX 0 1 dX3_foremost_13 rfl rfl hin3 (by decide) hfl15 rfl ?_
        refine j_iload_n CX 0 dX3_foremost_16 rfl rfl ?_
        refine j_iald CX 2 (p9 + 1) dX3_foremost_17 rfl (rfl) (by first | assumption | omega) (by decide) ?_
        refine j_aload_n CX 2 dX3_foremost_18 rfl rfl ?_
        refine j_get CX 0 2 dX3_foremost_19 rfl rfl hin3 (by decide) hfl18 rfl ?_
        refine j_iload_n CX 0 dX3_foremost_22 rfl rfl ?_
        refine j_iald CX 3 (p9 + 1) dX3_foremost_23 rfl (rfl) (by first | assumption | omega) (by decide) ?_
        refine j_iadd CX dX3_foremost_24 ?_
        refine j_aload_n CX 2 dX3_foremost_25 rfl rfl ?_
        refine j_get CX 0 1 dX3_foremost_26 rfl rfl hin3 (by decide) hfl15 rfl ?_
        refine j_iload_n CX 1 dX3_foremost_29 rfl rfl ?_
        refine j_iald CX 2 (fmF jr ja p9) dX3_foremost_30 rfl (rfl) (by first | assumption | omega) (by decide) ?_
        refine j_aload_n CX 2 dX3_foremost_31 rfl rfl ?_
        refine j_get CX 0 2 dX3_foremost_32 rfl rfl hin3 (by decide) hfl18 rfl ?_
        refine j_iload_n CX 1 dX3_foremost_35 rfl rfl ?_
        refine j_iald CX 3 (fmF jr ja p9) dX3_foremost_36 rfl (rfl) (by first | assumption | omega) (by decide) ?_
        refine j_iadd CX dX3_foremost_37 ?_
        refine j_icmp_le CX 43 dX3_foremost_38 (by decide) (fun h38 => ?_) (fun h38 => ?_)
        · refine j_lve (lv' := [(2, .int (nI (p9 + 1))), (1, .int (nI (fmF jr ja (p9 + 1)))), (0, .ref (a 0))]) (by rw [show fmF jr ja (p9 + 1) = fmF jr ja p9 by show (if _ then _ else _) = _; rw [if_pos h38]]) ?_
          refine j_iinc CX (v := nI (p9 + 1 + 1)) (lv' := [(2, .int (nI (p9 + 1 + 1))), (1, .int (nI (fmF jr ja (p9 + 1)))), (0, .ref (a 0))]) 0 dX3_foremost_43 rfl (nI_1 _) (by decide) rfl ?_
          refine j_goto CX 4 dX3_foremost_46 (by decide) ?_
          exact ih4 _ (by omega) (p9 + 1) rfl (by omega)
        · refine j_iload_n CX 0 dX3_foremost_41 rfl rfl ?_
          refine j_istore_n CX (lv' := [(1, .int (nI (p9 + 1))), (2, .int (nI (p9 + 1))), (0, .ref (a 0))]) dX3_foremost_42 rfl (by decide) rfl ?_
          refine j_lve (lv' := [(1, .int (nI (fmF jr ja (p9 + 1)))), (2, .int (nI (p9 + 1))), (0, .ref (a 0))]) (by rw [show fmF jr ja (p9 + 1) = p9 + 1 by show (if _ then _ else _) = _; rw [if_neg h38]]) ?_
          refine j_iinc CX (v := nI (p9 + 1 + 1)) (lv' := [(2, .int (nI (p9 + 1 + 1))), (1, .int (nI (fmF jr ja (p9 + 1)))), (0, .ref (a 0))]) 1 dX3_foremost_43 rfl (nI_1 _) (by decide) rfl ?_
          refine j_goto CX 4 dX3_foremost_46 (by decide) ?_
          exact ih4 _ (by omega) (p9 + 1) rfl (by omega)
  show J p l e rmX3_foremost s m args below meth c D A 3 0 0 (MQ below (jQc D (fun r0 w0 => r0 = some (.int (nI (fmF jr ja (k - 1)))) ∧ w0 = jW a cI (nf U) jr ja (nI k) (nI q)) A) args s rmX3_foremost.cells rmX3_foremost.slots A) (jW a cI (nf U) jr ja (nI k) (nI q)) 0 [(0, .ref (a 0))] []
  refine j_iconst CX dX3_foremost_0 (show _ = (nI 0 : Int32) by decide) ?_
  refine j_istore_n CX (lv' := [(1, .int (nI 0)), (0, .ref (a 0))]) dX3_foremost_1 rfl (by decide) rfl ?_
  refine j_iconst CX dX3_foremost_2 (show _ = (nI 1 : Int32) by decide) ?_
  refine j_istore_n CX (lv' := [(2, .int (nI 1)), (1, .int (nI 0)), (0, .ref (a 0))]) dX3_foremost_3 rfl (by decide) rfl ?_
  exact L4 _ 0 rfl h0

abbrev rmX3_drop : Room := { frames := 1, cells := 0, slots := 0, locals := 64 }
set_option maxRecDepth 100000 in
set_option maxHeartbeats 4000000 in
theorem j_drop (l : Launch) (D : va_G) (cI cZ cL : ClassId) (a : Nat → Nat) (U : Nat → Nat) (jr ja : Nat → Int32) (k q : Nat) (pl : Nat) (hk : k ≤ 100) (hp : pl < k) : Cg l D cI cZ cL yX3_drop wsX3_drop rmX3_drop [.ref (a 0), .int (nI pl)] (jW a cI (nf U) jr ja (nI k) (nI q)) (fun r0 w0 => r0 = none ∧ w0 = jW a cI (nf (cpyN U U (pl + 1) pl (k - pl - 1))) (va_cpy jr jr (pl + 1) pl (k - pl - 1)) (va_cpy ja ja (pl + 1) pl (k - pl - 1)) (nI (k - 1)) (nI q)) := by
  refine Cg.ofJ (own := RX3) (cc := cX3_drop) (maxL := 3) (ret := none) (by decide) rfl rfl (Nat.le_of_ble_eq_true rfl) ?_
  intro p e s m args below meth c A CX hr hlocks hname
  have hin3 : ∀ x ∈ u_ws RX3 TX3 5, x ∈ wsX3_drop := by decide +kernel
  have hfl21 : Cond.fieldLink RX3 21 (TX3 3).1 (TX3 3).2.1 (TX3 3).2.2.1 ∈ wsX3_drop := by decide +kernel
  have hfl9 : Cond.fieldLink RX3 9 (TX3 0).1 (TX3 0).2.1 (TX3 0).2.2.1 ∈ wsX3_drop := by decide +kernel
  have hml40 : Cond.methodLink RX3 40 arraycopyName ∈ wsX3_drop := by decide +kernel
  have hacn : Cond.native arraycopyName ∈ wsX3_drop := by decide +kernel
  have hacs : Cond.static arraycopyName ∈ wsX3_drop := by decide +kernel
  have hsys : Cond.initialized "java/lang/System" ∈ wsX3_drop := by decide +kernel
  have hfl15 : Cond.fieldLink RX3 15 (TX3 1).1 (TX3 1).2.1 (TX3 1).2.2.1 ∈ wsX3_drop := by decide +kernel
  have hfl18 : Cond.fieldLink RX3 18 (TX3 2).1 (TX3 2).2.1 (TX3 2).2.2.1 ∈ wsX3_drop := by decide +kernel
  show J p l e rmX3_drop s m args below meth c D A 3 0 0 (MQ below (jQc D (fun r0 w0 => r0 = none ∧ w0 = jW a cI (nf (cpyN U U (pl + 1) pl (k - pl - 1))) (va_cpy jr jr (pl + 1) pl (k - pl - 1)) (va_cpy ja ja (pl + 1) pl (k - pl - 1)) (nI (k - 1)) (nI q)) A) args s rmX3_drop.cells rmX3_drop.slots A) (jW a cI (nf U) jr ja (nI k) (nI q)) 0 [(0, .ref (a 0)), (1, .int (nI pl))] []
  refine j_aload_n CX 0 dX3_drop_0 rfl rfl ?_
  refine j_get CX 0 3 dX3_drop_1 rfl rfl hin3 (by decide) hfl21 rfl ?_
  refine j_iload_n CX 1 dX3_drop_4 rfl rfl ?_
  refine j_isub CX dX3_drop_5 ?_
  refine j_top (show ((nI k) - (nI pl)) = nI (k - pl) from pk_sub (by omega)) ?_
  refine j_iconst CX dX3_drop_6 (show _ = (nI 1 : Int32) by decide) ?_
  refine j_isub CX dX3_drop_7 ?_
  refine j_top (show ((nI (k - pl)) - (nI 1)) = nI (k - pl - 1) from pk_sub (by omega)) ?_
  refine j_istore_n CX (lv' := [(2, .int (nI (k - pl - 1))), (0, .ref (a 0)), (1, .int (nI pl))]) dX3_drop_8 rfl (by decide) rfl ?_
  refine j_aload_n CX 1 dX3_drop_9 rfl rfl ?_
  refine j_get CX 0 0 dX3_drop_10 rfl rfl hin3 (by decide) hfl9 rfl ?_
  refine j_iload_n CX 2 dX3_drop_13 rfl rfl ?_
  refine j_iconst CX dX3_drop_14 (show _ = (nI 1 : Int32) by decide) ?_
  refine j_iadd CX dX3_drop_15 ?_
  refine j_top (show (nI pl) + (nI 1) = nI (pl + 1) from nI_add _ _) ?_
  refine j_aload_n CX 1 dX3_drop_16 rfl rfl ?_
  refine j_get CX 0 0 dX3_drop_17 rfl rfl hin3 (by decide) hfl9 rfl ?_
  refine j_iload_n CX 2 dX3_drop_20 rfl rfl ?_
  refine j_iload_n CX 0 dX3_drop_21 rfl rfl ?_
  refine j_copyi CX (w' := jW a cI (va_cpy (nf U) (nf U) (pl + 1) pl (k - pl - 1)) jr ja (nI k) (nI q)) 1 1 (pl + 1) pl (k - pl - 1) dX3_drop_22 hml40 hacn hacs hsys rfl rfl rfl rfl rfl (by omega) (by omega) (by decide) (by decide) (Nat.le_of_ble_eq_true rfl) (Nat.le_of_ble_eq_true rfl) rfl ?_
  refine j_aload_n CX 1 dX3_drop_25 rfl rfl ?_
  refine j_get CX 0 1 dX3_drop_26 rfl rfl hin3 (by decide) hfl15 rfl ?_
  refine j_iload_n CX 2 dX3_drop_29 rfl rfl ?_
  refine j_iconst CX dX3_drop_30 (show _ = (nI 1 : Int32) by decide) ?_
  refine j_iadd CX dX3_drop_31 ?_
  refine j_top (show (nI pl) + (nI 1) = nI (pl + 1) from nI_add _ _) ?_
  refine j_aload_n CX 1 dX3_drop_32 rfl rfl ?_
  refine j_get CX 0 1 dX3_drop_33 rfl rfl hin3 (by decide) hfl15 rfl ?_
  refine j_iload_n CX 2 dX3_drop_36 rfl rfl ?_
  refine j_iload_n CX 0 dX3_drop_37 rfl rfl ?_
  refine j_copyi CX (w' := jW a cI (va_cpy (nf U) (nf U) (pl + 1) pl (k - pl - 1)) (va_cpy jr jr (pl + 1) pl (k - pl - 1)) ja (nI k) (nI q)) 2 2 (pl + 1) pl (k - pl - 1) dX3_drop_38 hml40 hacn hacs hsys rfl rfl rfl rfl rfl (by omega) (by omega) (by decide) (by decide) (Nat.le_of_ble_eq_true rfl) (Nat.le_of_ble_eq_true rfl) rfl ?_
  refine j_aload_n CX 1 dX3_drop_41 rfl rfl ?_
  refine j_get CX 0 2 dX3_drop_42 rfl rfl hin3 (by decide) hfl18 rfl ?_
  refine j_iload_n CX 2 dX3_drop_45 rfl rfl ?_
  refine j_iconst CX dX3_drop_46 (show _ = (nI 1 : Int32) by decide) ?_
  refine j_iadd CX dX3_drop_47 ?_
  refine j_top (show (nI pl) + (nI 1) = nI (pl + 1) from nI_add _ _) ?_
  refine j_aload_n CX 1 dX3_drop_48 rfl rfl ?_
  refine j_get CX 0 2 dX3_drop_49 rfl rfl hin3 (by decide) hfl18 rfl ?_
  refine j_iload_n CX 2 dX3_drop_52 rfl rfl ?_
  refine j_iload_n CX 0 dX3_drop_53 rfl rfl ?_
  refine j_copyi CX (w' := jW a cI (va_cpy (nf U) (nf U) (pl + 1) pl (k - pl - 1)) (va_cpy jr jr (pl + 1) pl (k - pl - 1)) (va_cpy ja ja (pl + 1) pl (k - pl - 1)) (nI k) (nI q)) 3 3 (pl + 1) pl (k - pl - 1) dX3_drop_54 hml40 hacn hacs hsys rfl rfl rfl rfl rfl (by omega) (by omega) (by decide) (by decide) (Nat.le_of_ble_eq_true rfl) (Nat.le_of_ble_eq_true rfl) rfl ?_
  refine j_aload_n CX 1 dX3_drop_57 rfl rfl ?_
  refine j_dup CX dX3_drop_58 rfl ?_
  refine j_get CX 0 3 dX3_drop_59 rfl rfl hin3 (by decide) hfl21 rfl ?_
  refine j_iconst CX dX3_drop_62 (show _ = (nI 1 : Int32) by decide) ?_
  refine j_isub CX dX3_drop_63 ?_
  refine j_top (show ((nI k) - (nI 1)) = nI (k - 1) from pk_sub (by omega)) ?_
  refine j_put CX (w' := jW a cI (va_cpy (nf U) (nf U) (pl + 1) pl (k - pl - 1)) (va_cpy jr jr (pl + 1) pl (k - pl - 1)) (va_cpy ja ja (pl + 1) pl (k - pl - 1)) (nI (k - 1)) (nI q)) 0 3 dX3_drop_64 rfl rfl hin3 tyX3 tyX3_ok nmX3 (by decide) hfl21 rfl rfl rfl rfl (Nat.le_of_ble_eq_true rfl) rfl ?_
  exact j_vret CX hr hlocks dX3_drop_67 (⟨rfl, by rw [nf_cpy]⟩)

abbrev rmX3_takeFirst : Room := { frames := 2, cells := 0, slots := 0, locals := 86 }
set_option maxRecDepth 100000 in
set_option maxHeartbeats 4000000 in
theorem j_take0 (l : Launch) (D : va_G) (cI cZ cL : ClassId) (a : Nat → Nat) (U : Nat → Nat) (jr ja : Nat → Int32) (q : Nat)  : Cg l D cI cZ cL yX3_takeFirst wsX3_takeFirst rmX3_takeFirst [.ref (a 0)] (jW a cI (nf U) jr ja (nI 0) (nI q)) (fun r0 w0 => r0 = some (.int (-1)) ∧ w0 = jW a cI (nf U) jr ja (nI 0) (nI q)) := by
  refine Cg.ofJ (own := RX3) (cc := cX3_takeFirst) (maxL := 4) (ret := (some .int)) (by decide) rfl rfl (Nat.le_of_ble_eq_true rfl) ?_
  intro p e s m args below meth c A CX hr hlocks hname
  have hin3 : ∀ x ∈ u_ws RX3 TX3 5, x ∈ wsX3_takeFirst := by decide +kernel
  have hfl21 : Cond.fieldLink RX3 21 (TX3 3).1 (TX3 3).2.1 (TX3 3).2.2.1 ∈ wsX3_takeFirst := by decide +kernel
  show J p l e rmX3_takeFirst s m args below meth c D A 4 0 0 (MQ below (jQc D (fun r0 w0 => r0 = some (.int (-1)) ∧ w0 = jW a cI (nf U) jr ja (nI 0) (nI q)) A) args s rmX3_takeFirst.cells rmX3_takeFirst.slots A) (jW a cI (nf U) jr ja (nI 0) (nI q)) 0 [(0, .ref (a 0))] []
  refine j_aload_n CX 0 dX3_takeFirst_0 rfl rfl ?_
  refine j_get CX 0 3 dX3_takeFirst_1 rfl rfl hin3 (by decide) hfl21 rfl ?_
  refine j_ifN_ne CX (by first | assumption | omega | exact b2n_lt _ | exact t2n_lt _) 9 dX3_takeFirst_4 (by decide) (fun h4 => absurd h4 (by decide)) (fun h4 => ?_)
  refine j_iconst CX dX3_takeFirst_7 (show _ = ((-1) : Int32) by decide) ?_
  exact j_iret CX hr hlocks dX3_takeFirst_8 (⟨rfl, rfl⟩)

set_option maxRecDepth 100000 in
set_option maxHeartbeats 4000000 in
theorem j_take (l : Launch) (D : va_G) (cI cZ cL : ClassId) (a : Nat → Nat) (U : Nat → Nat) (jr ja : Nat → Int32) (k q : Nat) (hk : k ≤ 100) (h0 : 0 < k) : Cg l D cI cZ cL yX3_takeFirst wsX3_takeFirst rmX3_takeFirst [.ref (a 0)] (jW a cI (nf U) jr ja (nI k) (nI q)) (fun r0 w0 => r0 = some (.int (nI (U (fmF jr ja (k - 1))))) ∧ w0 = jW a cI (nf (cpyN U U (fmF jr ja (k - 1) + 1) (fmF jr ja (k - 1)) (k - fmF jr ja (k - 1) - 1))) (va_cpy jr jr (fmF jr ja (k - 1) + 1) (fmF jr ja (k - 1)) (k - fmF jr ja (k - 1) - 1)) (agF (va_cpy ja ja (fmF jr ja (k - 1) + 1) (fmF jr ja (k - 1)) (k - fmF jr ja (k - 1) - 1)) (k - 1)) (nI (k - 1)) (nI q)) := by
  refine Cg.ofJ (own := RX3) (cc := cX3_takeFirst) (maxL := 4) (ret := (some .int)) (by decide) rfl rfl (Nat.le_of_ble_eq_true rfl) ?_
  intro p e s m args below meth c A CX hr hlocks hname
  have hin3 : ∀ x ∈ u_ws RX3 TX3 5, x ∈ wsX3_takeFirst := by decide +kernel
  have hfl21 : Cond.fieldLink RX3 21 (TX3 3).1 (TX3 3).2.1 (TX3 3).2.2.1 ∈ wsX3_takeFirst := by decide +kernel
  have hfl18 : Cond.fieldLink RX3 18 (TX3 2).1 (TX3 2).2.1 (TX3 2).2.2.1 ∈ wsX3_takeFirst := by decide +kernel
  have hfl9 : Cond.fieldLink RX3 9 (TX3 0).1 (TX3 0).2.1 (TX3 0).2.2.1 ∈ wsX3_takeFirst := by decide +kernel
  have hfm := fmF_le jr ja (k - 1)
  have L28 : ∀ (d28 : Nat) (t9 : Nat), k - 1 - t9 = d28 → t9 ≤ k - 1 → J p l e rmX3_takeFirst s m args below meth c D A 4 0 0 (MQ below (jQc D (fun r0 w0 => r0 = some (.int (nI (U (fmF jr ja (k - 1))))) ∧ w0 = jW a cI (nf (cpyN U U (fmF jr ja (k - 1) + 1) (fmF jr ja (k - 1)) (k - fmF jr ja (k - 1) - 1))) (va_cpy jr jr (fmF jr ja (k - 1) + 1) (fmF jr ja (k - 1)) (k - fmF jr ja (k - 1) - 1)) (agF (va_cpy ja ja (fmF jr ja (k - 1) + 1) (fmF jr ja (k - 1)) (k - fmF jr ja (k - 1) - 1)) (k - 1)) (nI (k - 1)) (nI q)) A) args s rmX3_takeFirst.cells rmX3_takeFirst.slots A) (jW a cI (nf (cpyN U U (fmF jr ja (k - 1) + 1) (fmF jr ja (k - 1)) (k - fmF jr ja (k - 1) - 1))) (va_cpy jr jr (fmF jr ja (k - 1) + 1) (fmF jr ja (k - 1)) (k - fmF jr ja (k - 1) - 1)) (agF (va_cpy ja ja (fmF jr ja (k - 1) + 1) (fmF jr ja (k - 1)) (k - fmF jr ja (k - 1) - 1)) t9) (nI (k - 1)) (nI q)) 28 [(3, .int (nI t9)), (2, .int (nI (U (fmF jr ja (k - 1))))), (1, .int (nI (fmF jr ja (k - 1)))), (0, .ref (a 0))] [] := by
    intro d28
    induction d28 using Nat.strongRecOn with
    | _ d28 ih28 =>
      intro t9 hd ht
      refine j_iload_n CX 0 dX3_takeFirst_28 rfl rfl ?_
      refine j_aload_n CX 3 dX3_takeFirst_29 rfl rfl ?_
      refine j_get CX 0 3 dX3_takeFirst_30 rfl rfl hin3 (by decide) hfl21 rfl ?_
      refine j_icmpN_ge CX (by first | assumption | omega) (by first | assumption | omega | exact b2n_lt _ | exact t2n_lt _) 52 dX3_takeFirst_33 (by decide) (fun h33 => ?_) (fun h33 => ?_)
      · refine j_iload_n CX 1 dX3_takeFirst_52 rfl rfl ?_
        exact j_iret CX hr hlocks dX3_takeFirst_53 (⟨rfl, by rw [show k - 1 = t9 by omega]⟩)
      · refine j_aload_n CX 3 dX3_takeFirst_36 rfl rfl ?_
        refine j_get CX 0 2 dX3_takeFirst_37 rfl rfl hin3 (by decide) hfl18 rfl ?_
        refine j_iload_n CX 0 dX3_takeFirst_40 rfl rfl ?_
        refine j_dup2 CX dX3_takeFirst_41 rfl rfl ?_
        refine j_iald CX 3 t9 dX3_takeFirst_42 rfl (rfl) (by first | assumption | omega) (by decide) ?_
        refine j_iconst CX dX3_takeFirst_43 (show _ = (nI 1 : Int32) by decide) ?_
        refine j_iadd CX dX3_takeFirst_44 ?_
        refine j_iast CX (w' := jW a cI (nf (cpyN U U (fmF jr ja (k - 1) + 1) (fmF jr ja (k - 1)) (k - fmF jr ja (k - 1) - 1))) (va_cpy jr jr (fmF jr ja (k - 1) + 1) (fmF jr ja (k - 1)) (k - fmF jr ja (k - 1) - 1)) (upd (agF (va_cpy ja ja (fmF jr ja (k - 1) + 1) (fmF jr ja (k - 1)) (k - fmF jr ja (k - 1) - 1)) t9) t9 (((agF (va_cpy ja ja (fmF jr ja (k - 1) + 1) (fmF jr ja (k - 1)) (k - fmF jr ja (k - 1) - 1)) t9) t9) + (nI 1))) (nI (k - 1)) (nI q)) 3 t9 dX3_takeFirst_45 rfl (rfl) (by first | assumption | omega) (by decide) rfl ?_
        refine j_iinc CX (v := nI (t9 + 1)) (lv' := [(3, .int (nI (t9 + 1))), (2, .int (nI (U (fmF jr ja (k - 1))))), (1, .int (nI (fmF jr ja (k - 1)))), (0, .ref (a 0))]) 0 dX3_takeFirst_46 rfl (nI_1 _) (by decide) rfl ?_
        refine j_goto CX 28 dX3_takeFirst_49 (by decide) ?_
        exact ih28 _ (by omega) (t9 + 1) rfl (by omega)
  show J p l e rmX3_takeFirst s m args below meth c D A 4 0 0 (MQ below (jQc D (fun r0 w0 => r0 = some (.int (nI (U (fmF jr ja (k - 1))))) ∧ w0 = jW a cI (nf (cpyN U U (fmF jr ja (k - 1) + 1) (fmF jr ja (k - 1)) (k - fmF jr ja (k - 1) - 1))) (va_cpy jr jr (fmF jr ja (k - 1) + 1) (fmF jr ja (k - 1)) (k - fmF jr ja (k - 1) - 1)) (agF (va_cpy ja ja (fmF jr ja (k - 1) + 1) (fmF jr ja (k - 1)) (k - fmF jr ja (k - 1) - 1)) (k - 1)) (nI (k - 1)) (nI q)) A) args s rmX3_takeFirst.cells rmX3_takeFirst.slots A) (jW a cI (nf U) jr ja (nI k) (nI q)) 0 [(0, .ref (a 0))] []
  refine j_aload_n CX 0 dX3_takeFirst_0 rfl rfl ?_
  refine j_get CX 0 3 dX3_takeFirst_1 rfl rfl hin3 (by decide) hfl21 rfl ?_
  refine j_ifN_ne CX (by first | assumption | omega | exact b2n_lt _ | exact t2n_lt _) 9 dX3_takeFirst_4 (by decide) (fun h4 => ?_) (fun h4 => ?_)
  · refine j_aload_n CX 0 dX3_takeFirst_9 rfl rfl ?_
    refine j_callV CX (n := 0) (pre := []) (post := []) (rest := []) (qc := (RX3, TX3, 5)) (j_foremost l D cI cZ cL a U jr ja k q hk h0) gX3_takeFirst_X3_foremost rfl (by decide +kernel) ⟨Nat.le_of_ble_eq_true rfl, Nat.le_of_ble_eq_true rfl⟩ rfl rfl rfl rfl rfl (Nat.le_of_ble_eq_true rfl) dX3_takeFirst_10 ⟨Nat.le_refl _, Nat.le_refl _⟩ (fun r9 w9 h9 => ?_)
    obtain ⟨rfl, rfl⟩ := h9
    refine j_w (w' := jW a cI (nf U) jr ja (nI k) (nI q)) rfl ?_
    refine j_st (st9 := [.int (nI (fmF jr ja (k - 1)))]) rfl ?_
    refine j_istore_n CX (lv' := [(1, .int (nI (fmF jr ja (k - 1)))), (0, .ref (a 0))]) dX3_takeFirst_13 rfl (by decide) rfl ?_
    refine j_aload_n CX 1 dX3_takeFirst_14 rfl rfl ?_
    refine j_get CX 0 0 dX3_takeFirst_15 rfl rfl hin3 (by decide) hfl9 rfl ?_
    refine j_iload_n CX 0 dX3_takeFirst_18 rfl rfl ?_
    refine j_iald CX 1 (fmF jr ja (k - 1)) dX3_takeFirst_19 rfl (rfl) (by first | assumption | omega) (by decide) ?_
    refine j_istore_n CX (lv' := [(2, .int (nI (U (fmF jr ja (k - 1))))), (1, .int (nI (fmF jr ja (k - 1)))), (0, .ref (a 0))]) dX3_takeFirst_20 rfl (by decide) rfl ?_
    refine j_aload_n CX 2 dX3_takeFirst_21 rfl rfl ?_
    refine j_iload_n CX 1 dX3_takeFirst_22 rfl rfl ?_
    refine j_callV CX (n := 1) (pre := []) (post := []) (rest := []) (qc := (RX3, TX3, 5)) (j_drop l D cI cZ cL a U jr ja k q (fmF jr ja (k - 1)) hk (by omega)) gX3_takeFirst_X3_drop rfl (by decide +kernel) ⟨Nat.le_of_ble_eq_true rfl, Nat.le_of_ble_eq_true rfl⟩ rfl rfl rfl rfl rfl (Nat.le_of_ble_eq_true rfl) dX3_takeFirst_23 ⟨Nat.le_refl _, Nat.le_refl _⟩ (fun r9 w9 h9 => ?_)
    obtain ⟨rfl, rfl⟩ := h9
    refine j_w (w' := jW a cI (nf (cpyN U U (fmF jr ja (k - 1) + 1) (fmF jr ja (k - 1)) (k - fmF jr ja (k - 1) - 1))) (va_cpy jr jr (fmF jr ja (k - 1) + 1) (fmF jr ja (k - 1)) (k - fmF jr ja (k - 1) - 1)) (agF (va_cpy ja ja (fmF jr ja (k - 1) + 1) (fmF jr ja (k - 1)) (k - fmF jr ja (k - 1) - 1)) 0) (nI (k - 1)) (nI q)) rfl ?_
    refine j_st (st9 := []) rfl ?_
    refine j_iconst CX dX3_takeFirst_26 (show _ = (nI 0 : Int32) by decide) ?_
    refine j_istore_n CX (lv' := [(3, .int (nI 0)), (2, .int (nI (U (fmF jr ja (k - 1))))), (1, .int (nI (fmF jr ja (k - 1)))), (0, .ref (a 0))]) dX3_takeFirst_27 rfl (by decide) rfl ?_
    exact L28 _ 0 rfl (Nat.zero_le _)
  · exact absurd h4 (by omega)

abbrev rmX3_ageOf : Room := { frames := 0, cells := 0, slots := 0, locals := 0 }
set_option maxRecDepth 100000 in
set_option maxHeartbeats 4000000 in
theorem j_ageOf (l : Launch) (D : va_G) (cI cZ cL : ClassId) (a : Nat → Nat) (U : Nat → Nat) (jr ja : Nat → Int32) (k q : Nat) (j : Nat) (hk : k ≤ 100) (hj : j < 2 ^ 31) (hU : ∀ p, p < k → U p < 2 ^ 31) : Cg l D cI cZ cL yX3_ageOf wsX3_ageOf rmX3_ageOf [.ref (a 0), .int (nI j)] (jW a cI (nf U) jr ja (nI k) (nI q)) (fun r0 w0 => r0 = some (.int (aoF U ja j k 0)) ∧ w0 = jW a cI (nf U) jr ja (nI k) (nI q)) := by
  refine Cg.ofJ (own := RX3) (cc := cX3_ageOf) (maxL := 3) (ret := (some .int)) (by decide) rfl rfl (Nat.le_of_ble_eq_true rfl) ?_
  intro p e s m args below meth c A CX hr hlocks hname
  have hin3 : ∀ x ∈ u_ws RX3 TX3 5, x ∈ wsX3_ageOf := by decide +kernel
  have hfl21 : Cond.fieldLink RX3 21 (TX3 3).1 (TX3 3).2.1 (TX3 3).2.2.1 ∈ wsX3_ageOf := by decide +kernel
  have hfl9 : Cond.fieldLink RX3 9 (TX3 0).1 (TX3 0).2.1 (TX3 0).2.2.1 ∈ wsX3_ageOf := by decide +kernel
  have hfl18 : Cond.fieldLink RX3 18 (TX3 2).1 (TX3 2).2.1 (TX3 2).2.2.1 ∈ wsX3_ageOf := by decide +kernel
  have L2 : ∀ (d2 : Nat) (p9 : Nat), k - p9 = d2 → p9 ≤ k → aoF U ja j (k - p9) p9 = aoF U ja j k 0 → J p l e rmX3_ageOf s m args below meth c D A 3 0 0 (MQ below (jQc D (fun r0 w0 => r0 = some (.int (aoF U ja j k 0)) ∧ w0 = jW a cI (nf U) jr ja (nI k) (nI q)) A) args s rmX3_ageOf.cells rmX3_ageOf.slots A) (jW a cI (nf U) jr ja (nI k) (nI q)) 2 [(2, .int (nI p9)), (0, .ref (a 0)), (1, .int (nI j))] [] := by
    intro d2
    induction d2 using Nat.strongRecOn with
    | _ d2 ih2 =>
      intro p9 hd hp he
      refine j_iload_n CX 0 dX3_ageOf_2 rfl rfl ?_
      refine j_aload_n CX 1 dX3_ageOf_3 rfl rfl ?_
      refine j_get CX 0 3 dX3_ageOf_4 rfl rfl hin3 (by decide) hfl21 rfl ?_
      refine j_icmpN_ge CX (by first | assumption | omega) (by first | assumption | omega | exact b2n_lt _ | exact t2n_lt _) 33 dX3_ageOf_7 (by decide) (fun h7 => ?_) (fun h7 => ?_)
      · refine j_iconst CX dX3_ageOf_33 (show _ = ((-1) : Int32) by decide) ?_
        exact j_iret CX hr hlocks dX3_ageOf_34 (⟨by rw [← he, show k - p9 = 0 by omega]; rfl, rfl⟩)
      · have hUp := hU p9 (by omega)
        obtain ⟨d8, hd8⟩ : ∃ d8, k - p9 = d8 + 1 := ⟨k - p9 - 1, by omega⟩
        refine j_aload_n CX 1 dX3_ageOf_10 rfl rfl ?_
        refine j_get CX 0 0 dX3_ageOf_11 rfl rfl hin3 (by decide) hfl9 rfl ?_
        refine j_iload_n CX 0 dX3_ageOf_14 rfl rfl ?_
        refine j_iald CX 1 p9 dX3_ageOf_15 rfl (rfl) (by first | assumption | omega) (by decide) ?_
        refine j_iload_n CX 2 dX3_ageOf_16 rfl rfl ?_
        refine j_icmpN_ne CX (by first | assumption | omega) (by first | assumption | omega | exact b2n_lt _ | exact t2n_lt _) 27 dX3_ageOf_17 (by decide) (fun h17 => ?_) (fun h17 => ?_)
        · refine j_iinc CX (v := nI (p9 + 1)) (lv' := [(2, .int (nI (p9 + 1))), (0, .ref (a 0)), (1, .int (nI j))]) 0 dX3_ageOf_27 rfl (nI_1 _) (by decide) rfl ?_
          refine j_goto CX 2 dX3_ageOf_30 (by decide) ?_
          exact ih2 _ (by omega) (p9 + 1) rfl (by omega) (by rw [← he, hd8, aoF_ne h17, show k - (p9 + 1) = d8 by omega])
        · refine j_aload_n CX 1 dX3_ageOf_20 rfl rfl ?_
          refine j_get CX 0 2 dX3_ageOf_21 rfl rfl hin3 (by decide) hfl18 rfl ?_
          refine j_iload_n CX 0 dX3_ageOf_24 rfl rfl ?_
          refine j_iald CX 3 p9 dX3_ageOf_25 rfl (rfl) (by first | assumption | omega) (by decide) ?_
          exact j_iret CX hr hlocks dX3_ageOf_26 (⟨by rw [← he, hd8, aoF_eq h17], rfl⟩)
  show J p l e rmX3_ageOf s m args below meth c D A 3 0 0 (MQ below (jQc D (fun r0 w0 => r0 = some (.int (aoF U ja j k 0)) ∧ w0 = jW a cI (nf U) jr ja (nI k) (nI q)) A) args s rmX3_ageOf.cells rmX3_ageOf.slots A) (jW a cI (nf U) jr ja (nI k) (nI q)) 0 [(0, .ref (a 0)), (1, .int (nI j))] []
  refine j_iconst CX dX3_ageOf_0 (show _ = (nI 0 : Int32) by decide) ?_
  refine j_istore_n CX (lv' := [(2, .int (nI 0)), (0, .ref (a 0)), (1, .int (nI j))]) dX3_ageOf_1 rfl (by decide) rfl ?_
  exact L2 _ 0 rfl (Nat.zero_le _) rfl
