abbrev rmX4_leastFreeColour : Room := { frames := 1, cells := 0, slots := 0, locals := 22 }
set_option maxRecDepth 100000 in
set_option maxHeartbeats 4000000 in
theorem z_lfc (l : Launch) (D : va_G) (cI cZ cL : ClassId) (a : Nat → Nat) (n : Nat) (va re tr sh : Nat → Int32) (cc : Int32) (C : Nat → Nat) (z : Nat) (hn : n ≤ 24) (hz : z < n) : Cg l D cI cZ cL yX4_leastFreeColour wsX4_leastFreeColour rmX4_leastFreeColour [.ref (a 0), .int (nI z)] (zW a cI n va re tr sh (nf C) cc) (fun r0 w0 => r0 = some (.int (nI (lfcN sh n C z))) ∧ w0 = zW a cI n va re tr sh (nf C) cc) := by
  refine Cg.ofJ (own := RX4) (cc := cX4_leastFreeColour) (maxL := 4) (ret := (some .int)) (by decide) rfl rfl (Nat.le_of_ble_eq_true rfl) ?_
  intro p e s m args below meth c A CX hr hlocks hname
  have hin4 : ∀ x ∈ u_ws RX4 TX4 7, x ∈ wsX4_leastFreeColour := by decide +kernel
  have hfl28 : Cond.fieldLink RX4 28 (TX4 5).1 (TX4 5).2.1 (TX4 5).2.2.1 ∈ wsX4_leastFreeColour := by decide +kernel
  have L37 : ∀ (d37 : Nat) (c9 : Nat) (u9 : Int32), z - c9 = d37 → c9 ≤ z → fcF u9 (z - c9) c9 = lfcN sh n C z → J p l e rmX4_leastFreeColour s m args below meth c D A 4 0 0 (MQ below (jQc D (fun r0 w0 => r0 = some (.int (nI (lfcN sh n C z))) ∧ w0 = zW a cI n va re tr sh (nf C) cc) A) args s rmX4_leastFreeColour.cells rmX4_leastFreeColour.slots A) (zW a cI n va re tr sh (nf C) cc) 37 [(3, .int (nI c9)), (2, .int u9), (0, .ref (a 0)), (1, .int (nI z))] [] := by
    intro d37
    induction d37 using Nat.strongRecOn with
    | _ d37 ih37 =>
      intro c9 u9 hd hc he
      refine j_iload_n CX 0 dX4_leastFreeColour_37 rfl rfl ?_
      refine j_iload_n CX 3 dX4_leastFreeColour_38 rfl rfl ?_
      refine j_icmpN_ge CX (by first | assumption | omega) (by first | assumption | omega | exact b2n_lt _ | exact t2n_lt _) 58 dX4_leastFreeColour_39 (by decide) (fun h39 => ?_) (fun h39 => ?_)
      · refine j_iload_n CX 3 dX4_leastFreeColour_58 rfl rfl ?_
        exact j_iret CX hr hlocks dX4_leastFreeColour_59 (⟨by rw [show z - c9 = 0 by omega] at he; rw [← he, show z = c9 by omega]; rfl, rfl⟩)
      · refine j_iload_n CX 1 dX4_leastFreeColour_42 rfl rfl ?_
        refine j_iload_n CX 0 dX4_leastFreeColour_43 rfl rfl ?_
        refine j_ishr CX dX4_leastFreeColour_44 ?_
        refine j_iconst CX dX4_leastFreeColour_45 (show _ = (nI 1 : Int32) by decide) ?_
        refine j_iand CX dX4_leastFreeColour_46 ?_
        refine j_if_ne CX 52 dX4_leastFreeColour_47 (by decide) (fun h47 => ?_) (fun h47 => ?_)
        · refine j_iinc CX (v := nI (c9 + 1)) (lv' := [(3, .int (nI (c9 + 1))), (2, .int u9), (0, .ref (a 0)), (1, .int (nI z))]) 0 dX4_leastFreeColour_52 rfl (nI_1 _) (by decide) rfl ?_
          refine j_goto CX 37 dX4_leastFreeColour_55 (by decide) ?_
          exact ih37 _ (by omega) (c9 + 1) u9 rfl (by omega) (by rw [← fcF_next (by omega) h47]; exact he)
        · refine j_iload_n CX 0 dX4_leastFreeColour_50 rfl rfl ?_
          exact j_iret CX hr hlocks dX4_leastFreeColour_51 (⟨by rw [fcF_here (by omega) h47] at he; rw [← he], rfl⟩)
  have L4 : ∀ (d4 : Nat) (k9 : Nat), z - k9 = d4 → k9 ≤ z → J p l e rmX4_leastFreeColour s m args below meth c D A 4 0 0 (MQ below (jQc D (fun r0 w0 => r0 = some (.int (nI (lfcN sh n C z))) ∧ w0 = zW a cI n va re tr sh (nf C) cc) A) args s rmX4_leastFreeColour.cells rmX4_leastFreeColour.slots A) (zW a cI n va re tr sh (nf C) cc) 4 [(3, .int (nI k9)), (2, .int (usedF sh n C z k9)), (0, .ref (a 0)), (1, .int (nI z))] [] := by
    intro d4
    induction d4 using Nat.strongRecOn with
    | _ d4 ih4 =>
      intro k9 hd hk
      refine j_iload_n CX 0 dX4_leastFreeColour_4 rfl rfl ?_
      refine j_iload_n CX 3 dX4_leastFreeColour_5 rfl rfl ?_
      refine j_icmpN_ge CX (by first | assumption | omega) (by first | assumption | omega | exact b2n_lt _ | exact t2n_lt _) 35 dX4_leastFreeColour_6 (by decide) (fun h6 => ?_) (fun h6 => ?_)
      · refine j_iconst CX dX4_leastFreeColour_35 (show _ = (nI 0 : Int32) by decide) ?_
        refine j_istore_n CX (lv' := [(3, .int (nI 0)), (2, .int (usedF sh n C z k9)), (0, .ref (a 0)), (1, .int (nI z))]) dX4_leastFreeColour_36 rfl (by decide) rfl ?_
        exact L37 _ 0 _ rfl (Nat.zero_le _) (by unfold lfcN; rw [show k9 = z by omega]; rfl)
      · refine j_aload_n CX 2 dX4_leastFreeColour_9 rfl rfl ?_
        refine j_iload_n CX 3 dX4_leastFreeColour_10 rfl rfl ?_
        refine j_iload_n CX 0 dX4_leastFreeColour_11 rfl rfl ?_
        refine j_callV CX (n := 2) (pre := []) (post := []) (rest := []) (qc := (RX4, TX4, 7)) (z_share l D cI cZ cL a n va re tr sh (nf C) cc z k9 hn hz (by omega)) gX4_leastFreeColour_X4_shareBetween rfl (by decide +kernel) ⟨Nat.le_of_ble_eq_true rfl, Nat.le_of_ble_eq_true rfl⟩ rfl rfl rfl rfl rfl (Nat.le_of_ble_eq_true rfl) dX4_leastFreeColour_12 ⟨Nat.le_refl _, Nat.le_refl _⟩ (fun r9 w9 h9 => ?_)
        obtain ⟨rfl, rfl⟩ := h9
        refine j_w (w' := zW a cI n va re tr sh (nf C) cc) rfl ?_
        refine j_st (st9 := [.int (sh (z * n + k9))]) rfl ?_
        refine j_if_le CX 29 dX4_leastFreeColour_15 (by decide) (fun h15 => ?_) (fun h15 => ?_)
        · refine j_lve (lv' := [(3, .int (nI k9)), (2, .int (usedF sh n C z (k9 + 1))), (0, .ref (a 0)), (1, .int (nI z))]) (by rw [show usedF sh n C z (k9 + 1) = usedF sh n C z k9 by show (if _ then _ else _) = _; rw [if_pos h15]]) ?_
          refine j_iinc CX (v := nI (k9 + 1)) (lv' := [(3, .int (nI (k9 + 1))), (2, .int (usedF sh n C z (k9 + 1))), (0, .ref (a 0)), (1, .int (nI z))]) 0 dX4_leastFreeColour_29 rfl (nI_1 _) (by decide) rfl ?_
          refine j_goto CX 4 dX4_leastFreeColour_32 (by decide) ?_
          exact ih4 _ (by omega) (k9 + 1) rfl (by omega)
        · refine j_iload_n CX 1 dX4_leastFreeColour_18 rfl rfl ?_
          refine j_iconst CX dX4_leastFreeColour_19 (show _ = (nI 1 : Int32) by decide) ?_
          refine j_aload_n CX 2 dX4_leastFreeColour_20 rfl rfl ?_
          refine j_get CX 0 5 dX4_leastFreeColour_21 rfl rfl hin4 (by decide) hfl28 rfl ?_
          refine j_iload_n CX 0 dX4_leastFreeColour_24 rfl rfl ?_
          refine j_iald CX 5 k9 dX4_leastFreeColour_25 rfl (rfl) (by first | assumption | omega) (by first | assumption | omega | (have := nn24 (by assumption); omega)) ?_
          refine j_ishl CX dX4_leastFreeColour_26 ?_
          refine j_ior CX dX4_leastFreeColour_27 ?_
          refine j_top (show ((usedF sh n C z k9) ||| ((nI 1) <<< ((nI (C k9)) &&& 31))) = usedF sh n C z (k9 + 1) from by show _ = (if _ then _ else _); rw [if_neg h15]) ?_
          refine j_istore_n CX (lv' := [(2, .int (usedF sh n C z (k9 + 1))), (3, .int (nI k9)), (0, .ref (a 0)), (1, .int (nI z))]) dX4_leastFreeColour_28 rfl (by decide) rfl ?_
          refine j_iinc CX (v := nI (k9 + 1)) (lv' := [(3, .int (nI (k9 + 1))), (2, .int (usedF sh n C z (k9 + 1))), (0, .ref (a 0)), (1, .int (nI z))]) 1 dX4_leastFreeColour_29 rfl (nI_1 _) (by decide) rfl ?_
          refine j_goto CX 4 dX4_leastFreeColour_32 (by decide) ?_
          exact ih4 _ (by omega) (k9 + 1) rfl (by omega)
  show J p l e rmX4_leastFreeColour s m args below meth c D A 4 0 0 (MQ below (jQc D (fun r0 w0 => r0 = some (.int (nI (lfcN sh n C z))) ∧ w0 = zW a cI n va re tr sh (nf C) cc) A) args s rmX4_leastFreeColour.cells rmX4_leastFreeColour.slots A) (zW a cI n va re tr sh (nf C) cc) 0 [(0, .ref (a 0)), (1, .int (nI z))] []
  refine j_iconst CX dX4_leastFreeColour_0 (show _ = (nI 0 : Int32) by decide) ?_
  refine j_istore_n CX (lv' := [(2, .int (nI 0)), (0, .ref (a 0)), (1, .int (nI z))]) dX4_leastFreeColour_1 rfl (by decide) rfl ?_
  refine j_iconst CX dX4_leastFreeColour_2 (show _ = (nI 0 : Int32) by decide) ?_
  refine j_istore_n CX (lv' := [(3, .int (nI 0)), (2, .int (nI 0)), (0, .ref (a 0)), (1, .int (nI z))]) dX4_leastFreeColour_3 rfl (by decide) rfl ?_
  exact L4 _ 0 rfl (Nat.zero_le _)

abbrev rmX4_paint : Room := { frames := 2, cells := 0, slots := 0, locals := 64 }
set_option maxRecDepth 100000 in
set_option maxHeartbeats 4000000 in
theorem z_paint (l : Launch) (D : va_G) (cI cZ cL : ClassId) (a : Nat → Nat) (n : Nat) (va re tr sh : Nat → Int32) (cc : Int32) (C : Nat → Nat) (hn : n ≤ 24) : Cg l D cI cZ cL yX4_paint wsX4_paint rmX4_paint [.ref (a 0)] (zW a cI n va re tr sh (nf C) cc) (fun r0 w0 => r0 = none ∧ w0 = zW a cI n va re tr sh (nf (pnC sh n C n)) (nI (pnK sh n C n))) := by
  refine Cg.ofJ (own := RX4) (cc := cX4_paint) (maxL := 2) (ret := none) (by decide) rfl rfl (Nat.le_of_ble_eq_true rfl) ?_
  intro p e s m args below meth c A CX hr hlocks hname
  have hin4 : ∀ x ∈ u_ws RX4 TX4 7, x ∈ wsX4_paint := by decide +kernel
  have hfl9 : Cond.fieldLink RX4 9 (TX4 0).1 (TX4 0).2.1 (TX4 0).2.2.1 ∈ wsX4_paint := by decide +kernel
  have hfl28 : Cond.fieldLink RX4 28 (TX4 5).1 (TX4 5).2.1 (TX4 5).2.2.1 ∈ wsX4_paint := by decide +kernel
  have hfl31 : Cond.fieldLink RX4 31 (TX4 6).1 (TX4 6).2.1 (TX4 6).2.2.1 ∈ wsX4_paint := by decide +kernel
  have hml59 : Cond.methodLink RX4 59 Lib.Math.max.name ∈ wsX4_paint := by decide +kernel
  have hst59 : Cond.static Lib.Math.max.name ∈ wsX4_paint := by decide +kernel
  have hmath : Cond.initialized "java/lang/Math" ∈ wsX4_paint := by decide +kernel
  have hcd59 : Cond.code Lib.Math.max.name Lib.Math.max.code 2 (some .int) ∈ wsX4_paint := by decide +kernel
  have L7 : ∀ (d7 : Nat) (k9 : Nat), n - k9 = d7 → k9 ≤ n → J p l e rmX4_paint s m args below meth c D A 2 0 0 (MQ below (jQc D (fun r0 w0 => r0 = none ∧ w0 = zW a cI n va re tr sh (nf (pnC sh n C n)) (nI (pnK sh n C n))) A) args s rmX4_paint.cells rmX4_paint.slots A) (zW a cI n va re tr sh (nf (pnC sh n C k9)) (nI (pnK sh n C k9))) 7 [(1, .int (nI k9)), (0, .ref (a 0))] [] := by
    intro d7
    induction d7 using Nat.strongRecOn with
    | _ d7 ih7 =>
      intro k9 hd hk
      have hpk := pnK_le sh n C k9
      have hlf := lfcN_le sh n (pnC sh n C k9) k9
      refine j_iload_n CX 0 dX4_paint_7 rfl rfl ?_
      refine j_aload_n CX 1 dX4_paint_8 rfl rfl ?_
      refine j_get CX 0 0 dX4_paint_9 rfl rfl hin4 (by decide) hfl9 rfl ?_
      refine j_icmpN_ge CX (by first | assumption | omega) (by first | assumption | omega | exact b2n_lt _ | exact t2n_lt _) 51 dX4_paint_12 (by decide) (fun h12 => ?_) (fun h12 => ?_)
      · exact j_vret CX hr hlocks dX4_paint_51 (⟨rfl, by rw [show k9 = n by omega]⟩)
      · refine j_aload_n CX 1 dX4_paint_15 rfl rfl ?_
        refine j_get CX 0 5 dX4_paint_16 rfl rfl hin4 (by decide) hfl28 rfl ?_
        refine j_iload_n CX 0 dX4_paint_19 rfl rfl ?_
        refine j_aload_n CX 1 dX4_paint_20 rfl rfl ?_
        refine j_iload_n CX 0 dX4_paint_21 rfl rfl ?_
        refine j_callV CX (n := 1) (pre := []) (post := []) (rest := [.int (nI k9), .ref (a 5)]) (qc := (RX4, TX4, 7)) (z_lfc l D cI cZ cL a n va re tr sh (nI (pnK sh n C k9)) (pnC sh n C k9) k9 hn (by omega)) gX4_paint_X4_leastFreeColour rfl (by decide +kernel) ⟨Nat.le_of_ble_eq_true rfl, Nat.le_of_ble_eq_true rfl⟩ rfl rfl rfl rfl rfl (Nat.le_of_ble_eq_true rfl) dX4_paint_22 ⟨Nat.le_refl _, Nat.le_refl _⟩ (fun r9 w9 h9 => ?_)
        obtain ⟨rfl, rfl⟩ := h9
        refine j_w (w' := zW a cI n va re tr sh (nf (pnC sh n C k9)) (nI (pnK sh n C k9))) rfl ?_
        refine j_st (st9 := [.int (nI (lfcN sh n (pnC sh n C k9) k9)), .int (nI k9), .ref (a 5)]) rfl ?_
        refine j_iast CX (w' := zW a cI n va re tr sh (upd (nf (pnC sh n C k9)) k9 (nI (lfcN sh n (pnC sh n C k9) k9))) (nI (pnK sh n C k9))) 5 k9 dX4_paint_25 rfl (rfl) (by first | assumption | omega) (by first | assumption | omega | (have := nn24 (by assumption); omega)) rfl ?_
        refine j_w (show zW a cI n va re tr sh (upd (nf (pnC sh n C k9)) k9 (nI (lfcN sh n (pnC sh n C k9) k9))) (nI (pnK sh n C k9)) = zW a cI n va re tr sh (nf (updN (pnC sh n C k9) k9 (lfcN sh n (pnC sh n C k9) k9))) (nI (pnK sh n C k9)) by rw [nf_upd]) ?_
        refine j_aload_n CX 1 dX4_paint_26 rfl rfl ?_
        refine j_aload_n CX 1 dX4_paint_27 rfl rfl ?_
        refine j_get CX 0 6 dX4_paint_28 rfl rfl hin4 (by decide) hfl31 rfl ?_
        refine j_aload_n CX 1 dX4_paint_31 rfl rfl ?_
        refine j_get CX 0 5 dX4_paint_32 rfl rfl hin4 (by decide) hfl28 rfl ?_
        refine j_iload_n CX 0 dX4_paint_35 rfl rfl ?_
        refine j_iald CX 5 k9 dX4_paint_36 rfl (rfl) (by first | assumption | omega) (by first | assumption | omega | (have := nn24 (by assumption); omega)) ?_
        refine j_top (show (nI ((updN (pnC sh n C k9) k9 (lfcN sh n (pnC sh n C k9) k9)) k9)) = nI (lfcN sh n (pnC sh n C k9) k9) from by rw [updN_s]) ?_
        refine j_iconst CX dX4_paint_37 (show _ = (nI 1 : Int32) by decide) ?_
        refine j_iadd CX dX4_paint_38 ?_
        refine j_top (show (nI (lfcN sh n (pnC sh n C k9) k9)) + (nI 1) = nI (lfcN sh n (pnC sh n C k9) k9 + 1) from nI_add _ _) ?_
        refine j_mmax CX dX4_paint_39 hml59 hst59 hmath hcd59 (Nat.le_of_ble_eq_true rfl) (Nat.le_of_ble_eq_true rfl) (Nat.le_of_ble_eq_true rfl) (Nat.le_of_ble_eq_true rfl) ?_
        refine j_top (show (if (nI (pnK sh n C k9)) < (nI (lfcN sh n (pnC sh n C k9) k9 + 1)) then (nI (lfcN sh n (pnC sh n C k9) k9 + 1)) else (nI (pnK sh n C k9))) = nI (mx (pnK sh n C k9) (lfcN sh n (pnC sh n C k9) k9 + 1)) from mx_nI (by omega) (by omega)) ?_
        refine j_put CX (w' := zW a cI n va re tr sh (nf (updN (pnC sh n C k9) k9 (lfcN sh n (pnC sh n C k9) k9))) (nI (mx (pnK sh n C k9) (lfcN sh n (pnC sh n C k9) k9 + 1)))) 0 6 dX4_paint_42 rfl rfl hin4 tyX4 tyX4_ok nmX4 (by decide) hfl31 rfl rfl rfl rfl (Nat.le_of_ble_eq_true rfl) rfl ?_
        refine j_iinc CX (v := nI (k9 + 1)) (lv' := [(1, .int (nI (k9 + 1))), (0, .ref (a 0))]) 0 dX4_paint_45 rfl (nI_1 _) (by decide) rfl ?_
        refine j_goto CX 7 dX4_paint_48 (by decide) ?_
        exact ih7 _ (by omega) (k9 + 1) rfl (by omega)
  show J p l e rmX4_paint s m args below meth c D A 2 0 0 (MQ below (jQc D (fun r0 w0 => r0 = none ∧ w0 = zW a cI n va re tr sh (nf (pnC sh n C n)) (nI (pnK sh n C n))) A) args s rmX4_paint.cells rmX4_paint.slots A) (zW a cI n va re tr sh (nf C) cc) 0 [(0, .ref (a 0))] []
  refine j_aload_n CX 0 dX4_paint_0 rfl rfl ?_
  refine j_iconst CX dX4_paint_1 (show _ = (nI 0 : Int32) by decide) ?_
  refine j_put CX (w' := zW a cI n va re tr sh (nf C) (nI 0)) 0 6 dX4_paint_2 rfl rfl hin4 tyX4 tyX4_ok nmX4 (by decide) hfl31 rfl rfl rfl rfl (Nat.le_of_ble_eq_true rfl) rfl ?_
  refine j_iconst CX dX4_paint_5 (show _ = (nI 0 : Int32) by decide) ?_
  refine j_istore_n CX (lv' := [(1, .int (nI 0)), (0, .ref (a 0))]) dX4_paint_6 rfl (by decide) rfl ?_
  exact L7 _ 0 rfl (Nat.zero_le _)

abbrev rmX4_build : Room := { frames := 3, cells := 0, slots := 0, locals := 85 }
set_option maxRecDepth 100000 in
set_option maxHeartbeats 4000000 in
theorem z_build (l : Launch) (D : va_G) (cI cZ cL : ClassId) (a : Nat → Nat) (n : Nat) (va re tr sh : Nat → Int32) (C : Nat → Nat) (K : Nat) (z o : Nat) (v : Int32) (hn : n ≤ 24) (hz : z < n) (ho : o < n) : Cg l D cI cZ cL yX4_build wsX4_build rmX4_build [.ref (a 0), .int (nI z), .int (nI o), .int v] (zW a cI n va re tr sh (nf C) (nI K)) (fun r0 w0 => r0 = none ∧ w0 = zW a cI n va re tr (upd (upd sh (z * n + o) v) (o * n + z) v) (nf (pnC (upd (upd sh (z * n + o) v) (o * n + z) v) n C n)) (nI (pnK (upd (upd sh (z * n + o) v) (o * n + z) v) n C n))) := by
  refine Cg.ofJ (own := RX4) (cc := cX4_build) (maxL := 4) (ret := none) (by decide) rfl rfl (Nat.le_of_ble_eq_true rfl) ?_
  intro p e s m args below meth c A CX hr hlocks hname
  have hin4 : ∀ x ∈ u_ws RX4 TX4 7, x ∈ wsX4_build := by decide +kernel
  have hfl25 : Cond.fieldLink RX4 25 (TX4 4).1 (TX4 4).2.1 (TX4 4).2.2.1 ∈ wsX4_build := by decide +kernel
  have hfl9 : Cond.fieldLink RX4 9 (TX4 0).1 (TX4 0).2.1 (TX4 0).2.2.1 ∈ wsX4_build := by decide +kernel
  show J p l e rmX4_build s m args below meth c D A 4 0 0 (MQ below (jQc D (fun r0 w0 => r0 = none ∧ w0 = zW a cI n va re tr (upd (upd sh (z * n + o) v) (o * n + z) v) (nf (pnC (upd (upd sh (z * n + o) v) (o * n + z) v) n C n)) (nI (pnK (upd (upd sh (z * n + o) v) (o * n + z) v) n C n))) A) args s rmX4_build.cells rmX4_build.slots A) (zW a cI n va re tr sh (nf C) (nI K)) 0 [(0, .ref (a 0)), (1, .int (nI z)), (2, .int (nI o)), (3, .int v)] []
  refine j_aload_n CX 0 dX4_build_0 rfl rfl ?_
  refine j_get CX 0 4 dX4_build_1 rfl rfl hin4 (by decide) hfl25 rfl ?_
  refine j_iload_n CX 1 dX4_build_4 rfl rfl ?_
  refine j_aload_n CX 0 dX4_build_5 rfl rfl ?_
  refine j_get CX 0 0 dX4_build_6 rfl rfl hin4 (by decide) hfl9 rfl ?_
  refine j_imul CX dX4_build_9 ?_
  refine j_top (show (nI z) * (nI n) = nI (z * n) from pk_mul _ _) ?_
  refine j_iload_n CX 2 dX4_build_10 rfl rfl ?_
  refine j_iadd CX dX4_build_11 ?_
  refine j_top (show (nI (z * n)) + (nI o) = nI (z * n + o) from nI_add _ _) ?_
  refine j_iload_n CX 3 dX4_build_12 rfl rfl ?_
  refine j_iast CX (w' := zW a cI n va re tr (upd sh (z * n + o) v) (nf C) (nI K)) 4 (z * n + o) dX4_build_13 rfl (rfl) (ixlt hz ho) (by first | assumption | omega | (have := nn24 (by assumption); omega)) rfl ?_
  refine j_aload_n CX 0 dX4_build_14 rfl rfl ?_
  refine j_get CX 0 4 dX4_build_15 rfl rfl hin4 (by decide) hfl25 rfl ?_
  refine j_iload_n CX 2 dX4_build_18 rfl rfl ?_
  refine j_aload_n CX 0 dX4_build_19 rfl rfl ?_
  refine j_get CX 0 0 dX4_build_20 rfl rfl hin4 (by decide) hfl9 rfl ?_
  refine j_imul CX dX4_build_23 ?_
  refine j_top (show (nI o) * (nI n) = nI (o * n) from pk_mul _ _) ?_
  refine j_iload_n CX 1 dX4_build_24 rfl rfl ?_
  refine j_iadd CX dX4_build_25 ?_
  refine j_top (show (nI (o * n)) + (nI z) = nI (o * n + z) from nI_add _ _) ?_
  refine j_iload_n CX 3 dX4_build_26 rfl rfl ?_
  refine j_iast CX (w' := zW a cI n va re tr (upd (upd sh (z * n + o) v) (o * n + z) v) (nf C) (nI K)) 4 (o * n + z) dX4_build_27 rfl (rfl) (ixlt ho hz) (by first | assumption | omega | (have := nn24 (by assumption); omega)) rfl ?_
  refine j_aload_n CX 0 dX4_build_28 rfl rfl ?_
  refine j_callV CX (n := 0) (pre := []) (post := []) (rest := []) (qc := (RX4, TX4, 7)) (z_paint l D cI cZ cL a n va re tr (upd (upd sh (z * n + o) v) (o * n + z) v) (nI K) C hn) gX4_build_X4_paint rfl (by decide +kernel) ⟨Nat.le_of_ble_eq_true rfl, Nat.le_of_ble_eq_true rfl⟩ rfl rfl rfl rfl rfl (Nat.le_of_ble_eq_true rfl) dX4_build_29 ⟨Nat.le_refl _, Nat.le_refl _⟩ (fun r9 w9 h9 => ?_)
  obtain ⟨rfl, rfl⟩ := h9
  refine j_w (w' := zW a cI n va re tr (upd (upd sh (z * n + o) v) (o * n + z) v) (nf (pnC (upd (upd sh (z * n + o) v) (o * n + z) v) n C n)) (nI (pnK (upd (upd sh (z * n + o) v) (o * n + z) v) n C n))) rfl ?_
  refine j_st (st9 := []) rfl ?_
  exact j_vret CX hr hlocks dX4_build_32 (⟨rfl, rfl⟩)
