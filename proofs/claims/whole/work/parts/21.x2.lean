abbrev rmX5_fails : Room := { frames := 8, cells := 0, slots := 0, locals := 243 }
set_option maxRecDepth 100000 in
set_option maxHeartbeats 4000000 in
theorem x_fails1t (l : Launch) (D : va_G) (cI cZ cL : ClassId) (x : Nat) (az af ac ab aj : Nat → Nat) (sp : Int32) (n : Nat) (va re tr sh : Nat → Int32) (C : Nat → Nat) (K : Nat) (F : Nat → Nat) (fk : Nat) (dn : Nat → Int32) (ck : Nat) (ch : Int32) (bl : Nat → Int32) (bk : Nat) (U : Nat → Nat) (jr ja : Nat → Int32) (jk jq : Nat) (w z h : Nat) (hn : n ≤ 24) (hw : w < 16) (hz : z < n) (hh : h < 1000) (hfk : fk ≤ 200) (hF : ∀ j, j < fk → F j < 2 ^ 31) (hin : bsF F (kyF w z h) 200 0 fk < fk ∧ F (bsF F (kyF w z h) 200 0 fk) = kyF w z h) : Cg l D cI cZ cL yX5_fails wsX5_fails rmX5_fails [.ref x, .int (nI w), .int (nI z), .int (nI h), .int (nI 1)] (xW x az af ac ab aj sp ++ (zW az cI n va re tr sh (nf C) (nI K) ++ (fW af cI (nf F) (nI fk) ++ (cW ac cI dn (nI ck) ch ++ (bW ab cI bl (nI bk) ++ (jW aj cI (nf U) jr ja (nI jk) (nI jq))))))) (fun r0 w0 => r0 = some (.int (nI 1)) ∧ w0 = xW x az af ac ab aj sp ++ (zW az cI n va re tr sh (nf C) (nI K) ++ (fW af cI (nf F) (nI fk) ++ (cW ac cI dn (nI ck) ch ++ (bW ab cI bl (nI bk) ++ (jW aj cI (nf U) jr ja (nI jk) (nI jq))))))) := by
  refine Cg.ofJ (own := RX5) (cc := cX5_fails) (maxL := 6) (ret := (some .boolean)) (by decide) rfl rfl (Nat.le_of_ble_eq_true rfl) ?_
  intro p e s m args below meth c A CX hr hlocks hname
  have hin5 : ∀ x ∈ u_ws RX5 TX5 6, x ∈ wsX5_fails := by decide +kernel
  have hfl30 : Cond.fieldLink RX5 30 (TX5 1).1 (TX5 1).2.1 (TX5 1).2.2.1 ∈ wsX5_fails := by decide +kernel
  show J p l e rmX5_fails s m args below meth c D A 6 0 0 (MQ below (jQc D (fun r0 w0 => r0 = some (.int (nI 1)) ∧ w0 = xW x az af ac ab aj sp ++ (zW az cI n va re tr sh (nf C) (nI K) ++ (fW af cI (nf F) (nI fk) ++ (cW ac cI dn (nI ck) ch ++ (bW ab cI bl (nI bk) ++ (jW aj cI (nf U) jr ja (nI jk) (nI jq))))))) A) args s rmX5_fails.cells rmX5_fails.slots A) (xW x az af ac ab aj sp ++ (zW az cI n va re tr sh (nf C) (nI K) ++ (fW af cI (nf F) (nI fk) ++ (cW ac cI dn (nI ck) ch ++ (bW ab cI bl (nI bk) ++ (jW aj cI (nf U) jr ja (nI jk) (nI jq))))))) 0 [(0, .ref x), (1, .int (nI w)), (2, .int (nI z)), (3, .int (nI h)), (4, .int (nI 1))] []
  refine j_iload_n CX 1 dX5_fails_0 rfl rfl ?_
  refine j_iconst CX dX5_fails_1 (show _ = (nI 0 : Int32) by decide) ?_
  refine j_bipush CX dX5_fails_2 (show _ = (nI 15 : Int32) by decide) ?_
  refine j_callS CX (n := 3) (b := 0) (pre := []) (post := xW x az af ac ab aj sp ++ (zW az cI n va re tr sh (nf C) (nI K) ++ (fW af cI (nf F) (nI fk) ++ (cW ac cI dn (nI ck) ch ++ (bW ab cI bl (nI bk) ++ (jW aj cI (nf U) jr ja (nI jk) (nI jq))))))) (rest := []) (x_cw l D cI cZ cL (nI w) (nI 0) (nI 15) (nI_nlt (by omega) (by omega)) (nI_nlt (by omega) (by omega))) gX5_fails_X5_checkWithin rfl (by decide +kernel) ⟨Nat.le_of_ble_eq_true rfl, Nat.le_of_ble_eq_true rfl⟩ rfl rfl rfl (Nat.le_of_ble_eq_true rfl) dX5_fails_4 ⟨Nat.le_refl _, Nat.le_refl _⟩ (fun r9 w9 h9 => ?_)
  obtain ⟨rfl, rfl⟩ := h9
  refine j_w (w' := xW x az af ac ab aj sp ++ (zW az cI n va re tr sh (nf C) (nI K) ++ (fW af cI (nf F) (nI fk) ++ (cW ac cI dn (nI ck) ch ++ (bW ab cI bl (nI bk) ++ (jW aj cI (nf U) jr ja (nI jk) (nI jq))))))) rfl ?_
  refine j_st (st9 := []) rfl ?_
  refine j_aload_n CX 0 dX5_fails_7 rfl rfl ?_
  refine j_iload_n CX 2 dX5_fails_8 rfl rfl ?_
  refine j_callV CX (n := 1) (pre := []) (post := []) (rest := []) (qc := (RX5, TX5, 6)) (x_cz l D cI cZ cL x az af ac ab aj sp n va re tr sh C K F fk dn ck ch bl bk U jr ja jk jq z hn (by omega)) gX5_fails_X5_checkZone rfl (by decide +kernel) ⟨Nat.le_of_ble_eq_true rfl, Nat.le_of_ble_eq_true rfl⟩ rfl rfl rfl rfl rfl (Nat.le_of_ble_eq_true rfl) dX5_fails_9 ⟨Nat.le_refl _, Nat.le_refl _⟩ (fun r9 w9 h9 => ?_)
  obtain ⟨rfl, rfl⟩ := h9
  refine j_w (w' := xW x az af ac ab aj sp ++ (zW az cI n va re tr sh (nf C) (nI K) ++ (fW af cI (nf F) (nI fk) ++ (cW ac cI dn (nI ck) ch ++ (bW ab cI bl (nI bk) ++ (jW aj cI (nf U) jr ja (nI jk) (nI jq))))))) rfl ?_
  refine j_st (st9 := []) rfl ?_
  refine j_iload_n CX 3 dX5_fails_12 rfl rfl ?_
  refine j_iconst CX dX5_fails_13 (show _ = (nI 0 : Int32) by decide) ?_
  refine j_sipush CX dX5_fails_14 (show _ = (nI 999 : Int32) by decide) ?_
  refine j_callS CX (n := 3) (b := 0) (pre := []) (post := xW x az af ac ab aj sp ++ (zW az cI n va re tr sh (nf C) (nI K) ++ (fW af cI (nf F) (nI fk) ++ (cW ac cI dn (nI ck) ch ++ (bW ab cI bl (nI bk) ++ (jW aj cI (nf U) jr ja (nI jk) (nI jq))))))) (rest := []) (x_cw l D cI cZ cL (nI h) (nI 0) (nI 999) (nI_nlt (by omega) (by omega)) (nI_nlt (by omega) (by omega))) gX5_fails_X5_checkWithin rfl (by decide +kernel) ⟨Nat.le_of_ble_eq_true rfl, Nat.le_of_ble_eq_true rfl⟩ rfl rfl rfl (Nat.le_of_ble_eq_true rfl) dX5_fails_17 ⟨Nat.le_refl _, Nat.le_refl _⟩ (fun r9 w9 h9 => ?_)
  obtain ⟨rfl, rfl⟩ := h9
  refine j_w (w' := xW x az af ac ab aj sp ++ (zW az cI n va re tr sh (nf C) (nI K) ++ (fW af cI (nf F) (nI fk) ++ (cW ac cI dn (nI ck) ch ++ (bW ab cI bl (nI bk) ++ (jW aj cI (nf U) jr ja (nI jk) (nI jq))))))) rfl ?_
  refine j_st (st9 := []) rfl ?_
  refine j_aload_n CX 0 dX5_fails_20 rfl rfl ?_
  refine j_get CX 0 1 dX5_fails_21 rfl rfl hin5 (by decide) hfl30 rfl ?_
  refine j_iload_n CX 1 dX5_fails_24 rfl rfl ?_
  refine j_iload_n CX 2 dX5_fails_25 rfl rfl ?_
  refine j_iload_n CX 3 dX5_fails_26 rfl rfl ?_
  refine j_callV CX (n := 3) (pre := xW x az af ac ab aj sp ++ (zW az cI n va re tr sh (nf C) (nI K))) (post := cW ac cI dn (nI ck) ch ++ (bW ab cI bl (nI bk) ++ (jW aj cI (nf U) jr ja (nI jk) (nI jq)))) (rest := []) (qc := (RX2, TX2, 2)) (f_has l D cI cZ cL af F fk w z h hfk hF hw (by omega) hh) gX5_fails_X2_has rfl (by decide +kernel) ⟨Nat.le_of_ble_eq_true rfl, Nat.le_of_ble_eq_true rfl⟩ rfl rfl rfl rfl rfl (Nat.le_of_ble_eq_true rfl) dX5_fails_27 ⟨Nat.le_refl _, Nat.le_refl _⟩ (fun r9 w9 h9 => ?_)
  obtain ⟨rfl, rfl⟩ := h9
  refine j_w (w' := xW x az af ac ab aj sp ++ (zW az cI n va re tr sh (nf C) (nI K) ++ (fW af cI (nf F) (nI fk) ++ (cW ac cI dn (nI ck) ch ++ (bW ab cI bl (nI bk) ++ (jW aj cI (nf U) jr ja (nI jk) (nI jq))))))) rfl ?_
  refine j_st (st9 := [.int (nI (b2n (bsF F (kyF w z h) 200 0 fk < fk ∧ F (bsF F (kyF w z h) 200 0 fk) = kyF w z h)))]) rfl ?_
  refine j_top (show (nI (b2n (bsF F (kyF w z h) 200 0 fk < fk ∧ F (bsF F (kyF w z h) 200 0 fk) = kyF w z h))) = nI 1 from by rw [b2n_t hin]) ?_
  refine j_istore CX (lv' := [(5, .int (nI 1)), (0, .ref x), (1, .int (nI w)), (2, .int (nI z)), (3, .int (nI h)), (4, .int (nI 1))]) dX5_fails_30 (by decide) rfl ?_
  refine j_iload CX 5 dX5_fails_32 rfl ?_
  refine j_ifN_eq CX (by first | assumption | omega | exact b2n_lt _ | exact t2n_lt _) 72 dX5_fails_34 (by decide) (fun h34 => absurd h34 (by decide)) (fun h34 => ?_)
  refine j_iload CX 0 dX5_fails_37 rfl ?_
  refine j_ifN_ne CX (by first | assumption | omega | exact b2n_lt _ | exact t2n_lt _) 72 dX5_fails_39 (by decide) (fun h39 => ?_) (fun h39 => absurd h39 (by decide))
  refine j_iload CX 5 dX5_fails_72 rfl ?_
  refine j_ifN_ne CX (by first | assumption | omega | exact b2n_lt _ | exact t2n_lt _) 92 dX5_fails_74 (by decide) (fun h74 => ?_) (fun h74 => absurd h74 (by decide))
  refine j_iload CX 0 dX5_fails_92 rfl ?_
  exact j_zret CX hr hlocks dX5_fails_94 (rfl) (⟨rfl, rfl⟩)

set_option maxRecDepth 100000 in
set_option maxHeartbeats 4000000 in
theorem x_fails1f (l : Launch) (D : va_G) (cI cZ cL : ClassId) (x : Nat) (az af ac ab aj : Nat → Nat) (sp : Int32) (n : Nat) (va re tr sh : Nat → Int32) (C : Nat → Nat) (K : Nat) (F : Nat → Nat) (fk : Nat) (dn : Nat → Int32) (ck : Nat) (ch : Int32) (bl : Nat → Int32) (bk : Nat) (U : Nat → Nat) (jr ja : Nat → Int32) (jk jq : Nat) (w z h : Nat) (hn : n ≤ 24) (hw : w < 16) (hz : z < n) (hh : h < 1000) (hfk : fk ≤ 200) (hF : ∀ j, j < fk → F j < 2 ^ 31) (hin : ¬ (bsF F (kyF w z h) 200 0 fk < fk ∧ F (bsF F (kyF w z h) 200 0 fk) = kyF w z h)) (hf2 : fk < 200) : Cg l D cI cZ cL yX5_fails wsX5_fails rmX5_fails [.ref x, .int (nI w), .int (nI z), .int (nI h), .int (nI 1)] (xW x az af ac ab aj sp ++ (zW az cI n va re tr sh (nf C) (nI K) ++ (fW af cI (nf F) (nI fk) ++ (cW ac cI dn (nI ck) ch ++ (bW ab cI bl (nI bk) ++ (jW aj cI (nf U) jr ja (nI jk) (nI jq))))))) (fun r0 w0 => r0 = some (.int (nI 0)) ∧ w0 = xW x az af ac ab aj sp ++ (zW az cI n va re tr sh (nf C) (nI K) ++ (fW af cI (nf (updN (cpyN F F (bsF F (kyF w z h) 200 0 fk) (bsF F (kyF w z h) 200 0 fk + 1) (fk - (bsF F (kyF w z h) 200 0 fk))) (bsF F (kyF w z h) 200 0 fk) (kyF w z h))) (nI (fk + 1)) ++ (cW ac cI dn (nI ck) ch ++ (bW ab cI bl (nI bk) ++ (jW aj cI (nf U) jr ja (nI jk) (nI jq))))))) := by
  refine Cg.ofJ (own := RX5) (cc := cX5_fails) (maxL := 6) (ret := (some .boolean)) (by decide) rfl rfl (Nat.le_of_ble_eq_true rfl) ?_
  intro p e s m args below meth c A CX hr hlocks hname
  have hin5 : ∀ x ∈ u_ws RX5 TX5 6, x ∈ wsX5_fails := by decide +kernel
  have hfl30 : Cond.fieldLink RX5 30 (TX5 1).1 (TX5 1).2.1 (TX5 1).2.2.1 ∈ wsX5_fails := by decide +kernel
  show J p l e rmX5_fails s m args below meth c D A 6 0 0 (MQ below (jQc D (fun r0 w0 => r0 = some (.int (nI 0)) ∧ w0 = xW x az af ac ab aj sp ++ (zW az cI n va re tr sh (nf C) (nI K) ++ (fW af cI (nf (updN (cpyN F F (bsF F (kyF w z h) 200 0 fk) (bsF F (kyF w z h) 200 0 fk + 1) (fk - (bsF F (kyF w z h) 200 0 fk))) (bsF F (kyF w z h) 200 0 fk) (kyF w z h))) (nI (fk + 1)) ++ (cW ac cI dn (nI ck) ch ++ (bW ab cI bl (nI bk) ++ (jW aj cI (nf U) jr ja (nI jk) (nI jq))))))) A) args s rmX5_fails.cells rmX5_fails.slots A) (xW x az af ac ab aj sp ++ (zW az cI n va re tr sh (nf C) (nI K) ++ (fW af cI (nf F) (nI fk) ++ (cW ac cI dn (nI ck) ch ++ (bW ab cI bl (nI bk) ++ (jW aj cI (nf U) jr ja (nI jk) (nI jq))))))) 0 [(0, .ref x), (1, .int (nI w)), (2, .int (nI z)), (3, .int (nI h)), (4, .int (nI 1))] []
  refine j_iload_n CX 1 dX5_fails_0 rfl rfl ?_
  refine j_iconst CX dX5_fails_1 (show _ = (nI 0 : Int32) by decide) ?_
  refine j_bipush CX dX5_fails_2 (show _ = (nI 15 : Int32) by decide) ?_
  refine j_callS CX (n := 3) (b := 0) (pre := []) (post := xW x az af ac ab aj sp ++ (zW az cI n va re tr sh (nf C) (nI K) ++ (fW af cI (nf F) (nI fk) ++ (cW ac cI dn (nI ck) ch ++ (bW ab cI bl (nI bk) ++ (jW aj cI (nf U) jr ja (nI jk) (nI jq))))))) (rest := []) (x_cw l D cI cZ cL (nI w) (nI 0) (nI 15) (nI_nlt (by omega) (by omega)) (nI_nlt (by omega) (by omega))) gX5_fails_X5_checkWithin rfl (by decide +kernel) ⟨Nat.le_of_ble_eq_true rfl, Nat.le_of_ble_eq_true rfl⟩ rfl rfl rfl (Nat.le_of_ble_eq_true rfl) dX5_fails_4 ⟨Nat.le_refl _, Nat.le_refl _⟩ (fun r9 w9 h9 => ?_)
  obtain ⟨rfl, rfl⟩ := h9
  refine j_w (w' := xW x az af ac ab aj sp ++ (zW az cI n va re tr sh (nf C) (nI K) ++ (fW af cI (nf F) (nI fk) ++ (cW ac cI dn (nI ck) ch ++ (bW ab cI bl (nI bk) ++ (jW aj cI (nf U) jr ja (nI jk) (nI jq))))))) rfl ?_
  refine j_st (st9 := []) rfl ?_
  refine j_aload_n CX 0 dX5_fails_7 rfl rfl ?_
  refine j_iload_n CX 2 dX5_fails_8 rfl rfl ?_
  refine j_callV CX (n := 1) (pre := []) (post := []) (rest := []) (qc := (RX5, TX5, 6)) (x_cz l D cI cZ cL x az af ac ab aj sp n va re tr sh C K F fk dn ck ch bl bk U jr ja jk jq z hn (by omega)) gX5_fails_X5_checkZone rfl (by decide +kernel) ⟨Nat.le_of_ble_eq_true rfl, Nat.le_of_ble_eq_true rfl⟩ rfl rfl rfl rfl rfl (Nat.le_of_ble_eq_true rfl) dX5_fails_9 ⟨Nat.le_refl _, Nat.le_refl _⟩ (fun r9 w9 h9 => ?_)
  obtain ⟨rfl, rfl⟩ := h9
  refine j_w (w' := xW x az af ac ab aj sp ++ (zW az cI n va re tr sh (nf C) (nI K) ++ (fW af cI (nf F) (nI fk) ++ (cW ac cI dn (nI ck) ch ++ (bW ab cI bl (nI bk) ++ (jW aj cI (nf U) jr ja (nI jk) (nI jq))))))) rfl ?_
  refine j_st (st9 := []) rfl ?_
  refine j_iload_n CX 3 dX5_fails_12 rfl rfl ?_
  refine j_iconst CX dX5_fails_13 (show _ = (nI 0 : Int32) by decide) ?_
  refine j_sipush CX dX5_fails_14 (show _ = (nI 999 : Int32) by decide) ?_
  refine j_callS CX (n := 3) (b := 0) (pre := []) (post := xW x az af ac ab aj sp ++ (zW az cI n va re tr sh (nf C) (nI K) ++ (fW af cI (nf F) (nI fk) ++ (cW ac cI dn (nI ck) ch ++ (bW ab cI bl (nI bk) ++ (jW aj cI (nf U) jr ja (nI jk) (nI jq))))))) (rest := []) (x_cw l D cI cZ cL (nI h) (nI 0) (nI 999) (nI_nlt (by omega) (by omega)) (nI_nlt (by omega) (by omega))) gX5_fails_X5_checkWithin rfl (by decide +kernel) ⟨Nat.le_of_ble_eq_true rfl, Nat.le_of_ble_eq_true rfl⟩ rfl rfl rfl (Nat.le_of_ble_eq_true rfl) dX5_fails_17 ⟨Nat.le_refl _, Nat.le_refl _⟩ (fun r9 w9 h9 => ?_)
  obtain ⟨rfl, rfl⟩ := h9
  refine j_w (w' := xW x az af ac ab aj sp ++ (zW az cI n va re tr sh (nf C) (nI K) ++ (fW af cI (nf F) (nI fk) ++ (cW ac cI dn (nI ck) ch ++ (bW ab cI bl (nI bk) ++ (jW aj cI (nf U) jr ja (nI jk) (nI jq))))))) rfl ?_
  refine j_st (st9 := []) rfl ?_
  refine j_aload_n CX 0 dX5_fails_20 rfl rfl ?_
  refine j_get CX 0 1 dX5_fails_21 rfl rfl hin5 (by decide) hfl30 rfl ?_
  refine j_iload_n CX 1 dX5_fails_24 rfl rfl ?_
  refine j_iload_n CX 2 dX5_fails_25 rfl rfl ?_
  refine j_iload_n CX 3 dX5_fails_26 rfl rfl ?_
  refine j_callV CX (n := 3) (pre := xW x az af ac ab aj sp ++ (zW az cI n va re tr sh (nf C) (nI K))) (post := cW ac cI dn (nI ck) ch ++ (bW ab cI bl (nI bk) ++ (jW aj cI (nf U) jr ja (nI jk) (nI jq)))) (rest := []) (qc := (RX2, TX2, 2)) (f_has l D cI cZ cL af F fk w z h hfk hF hw (by omega) hh) gX5_fails_X2_has rfl (by decide +kernel) ⟨Nat.le_of_ble_eq_true rfl, Nat.le_of_ble_eq_true rfl⟩ rfl rfl rfl rfl rfl (Nat.le_of_ble_eq_true rfl) dX5_fails_27 ⟨Nat.le_refl _, Nat.le_refl _⟩ (fun r9 w9 h9 => ?_)
  obtain ⟨rfl, rfl⟩ := h9
  refine j_w (w' := xW x az af ac ab aj sp ++ (zW az cI n va re tr sh (nf C) (nI K) ++ (fW af cI (nf F) (nI fk) ++ (cW ac cI dn (nI ck) ch ++ (bW ab cI bl (nI bk) ++ (jW aj cI (nf U) jr ja (nI jk) (nI jq))))))) rfl ?_
  refine j_st (st9 := [.int (nI (b2n (bsF F (kyF w z h) 200 0 fk < fk ∧ F (bsF F (kyF w z h) 200 0 fk) = kyF w z h)))]) rfl ?_
  refine j_top (show (nI (b2n (bsF F (kyF w z h) 200 0 fk < fk ∧ F (bsF F (kyF w z h) 200 0 fk) = kyF w z h))) = nI 0 from by rw [b2n_f hin]) ?_
  refine j_istore CX (lv' := [(5, .int (nI 0)), (0, .ref x), (1, .int (nI w)), (2, .int (nI z)), (3, .int (nI h)), (4, .int (nI 1))]) dX5_fails_30 (by decide) rfl ?_
  refine j_iload CX 5 dX5_fails_32 rfl ?_
  refine j_ifN_eq CX (by first | assumption | omega | exact b2n_lt _ | exact t2n_lt _) 72 dX5_fails_34 (by decide) (fun h34 => absurd h34 (by decide)) (fun h34 => ?_)
  refine j_iload CX 0 dX5_fails_37 rfl ?_
  refine j_ifN_ne CX (by first | assumption | omega | exact b2n_lt _ | exact t2n_lt _) 72 dX5_fails_39 (by decide) (fun h39 => absurd h39 (by decide)) (fun h39 => ?_)
  refine j_aload_n CX 1 dX5_fails_42 rfl rfl ?_
  refine j_get CX 0 1 dX5_fails_43 rfl rfl hin5 (by decide) hfl30 rfl ?_
  refine j_callV CX (n := 0) (pre := xW x az af ac ab aj sp ++ (zW az cI n va re tr sh (nf C) (nI K))) (post := cW ac cI dn (nI ck) ch ++ (bW ab cI bl (nI bk) ++ (jW aj cI (nf U) jr ja (nI jk) (nI jq)))) (rest := []) (qc := (RX2, TX2, 2)) (f_isFull l D cI cZ cL af F fk hfk) gX5_fails_X2_isFull rfl (by decide +kernel) ⟨Nat.le_of_ble_eq_true rfl, Nat.le_of_ble_eq_true rfl⟩ rfl rfl rfl rfl rfl (Nat.le_of_ble_eq_true rfl) dX5_fails_46 ⟨Nat.le_refl _, Nat.le_refl _⟩ (fun r9 w9 h9 => ?_)
  obtain ⟨rfl, rfl⟩ := h9
  refine j_w (w' := xW x az af ac ab aj sp ++ (zW az cI n va re tr sh (nf C) (nI K) ++ (fW af cI (nf F) (nI fk) ++ (cW ac cI dn (nI ck) ch ++ (bW ab cI bl (nI bk) ++ (jW aj cI (nf U) jr ja (nI jk) (nI jq))))))) rfl ?_
  refine j_st (st9 := [.int (nI (b2n (200 ≤ fk)))]) rfl ?_
  refine j_ifN_eq CX (by first | assumption | omega | exact b2n_lt _ | exact t2n_lt _) 62 dX5_fails_49 (by decide) (fun h49 => ?_) (fun h49 => ?_)
  · refine j_aload_n CX 1 dX5_fails_62 rfl rfl ?_
    refine j_get CX 0 1 dX5_fails_63 rfl rfl hin5 (by decide) hfl30 rfl ?_
    refine j_iload_n CX 2 dX5_fails_66 rfl rfl ?_
    refine j_iload_n CX 3 dX5_fails_67 rfl rfl ?_
    refine j_iload_n CX 4 dX5_fails_68 rfl rfl ?_
    refine j_callV CX (n := 3) (pre := xW x az af ac ab aj sp ++ (zW az cI n va re tr sh (nf C) (nI K))) (post := cW ac cI dn (nI ck) ch ++ (bW ab cI bl (nI bk) ++ (jW aj cI (nf U) jr ja (nI jk) (nI jq)))) (rest := []) (qc := (RX2, TX2, 2)) (f_add l D cI cZ cL af F fk w z h hfk hF hw (by omega) hh hf2) gX5_fails_X2_add rfl (by decide +kernel) ⟨Nat.le_of_ble_eq_true rfl, Nat.le_of_ble_eq_true rfl⟩ rfl rfl rfl rfl rfl (Nat.le_of_ble_eq_true rfl) dX5_fails_69 ⟨Nat.le_refl _, Nat.le_refl _⟩ (fun r9 w9 h9 => ?_)
    obtain ⟨rfl, rfl⟩ := h9
    refine j_w (w' := xW x az af ac ab aj sp ++ (zW az cI n va re tr sh (nf C) (nI K) ++ (fW af cI (nf (updN (cpyN F F (bsF F (kyF w z h) 200 0 fk) (bsF F (kyF w z h) 200 0 fk + 1) (fk - (bsF F (kyF w z h) 200 0 fk))) (bsF F (kyF w z h) 200 0 fk) (kyF w z h))) (nI (fk + 1)) ++ (cW ac cI dn (nI ck) ch ++ (bW ab cI bl (nI bk) ++ (jW aj cI (nf U) jr ja (nI jk) (nI jq))))))) rfl ?_
    refine j_st (st9 := []) rfl ?_
    refine j_iload CX 5 dX5_fails_72 rfl ?_
    refine j_ifN_ne CX (by first | assumption | omega | exact b2n_lt _ | exact t2n_lt _) 92 dX5_fails_74 (by decide) (fun h74 => ?_) (fun h74 => absurd h74 (by decide))
    refine j_iload CX 0 dX5_fails_92 rfl ?_
    exact j_zret CX hr hlocks dX5_fails_94 (rfl) (⟨rfl, rfl⟩)
  · exact absurd h49 (by rw [b2n_f (by omega)]; decide)

set_option maxRecDepth 100000 in
set_option maxHeartbeats 4000000 in
theorem x_fails0t (l : Launch) (D : va_G) (cI cZ cL : ClassId) (x : Nat) (az af ac ab aj : Nat → Nat) (sp : Int32) (n : Nat) (va re tr sh : Nat → Int32) (C : Nat → Nat) (K : Nat) (F : Nat → Nat) (fk : Nat) (dn : Nat → Int32) (ck : Nat) (ch : Int32) (bl : Nat → Int32) (bk : Nat) (U : Nat → Nat) (jr ja : Nat → Int32) (jk jq : Nat) (w z h : Nat) (hn : n ≤ 24) (hw : w < 16) (hz : z < n) (hh : h < 1000) (hfk : fk ≤ 200) (hF : ∀ j, j < fk → F j < 2 ^ 31) (hin : bsF F (kyF w z h) 200 0 fk < fk ∧ F (bsF F (kyF w z h) 200 0 fk) = kyF w z h) : Cg l D cI cZ cL yX5_fails wsX5_fails rmX5_fails [.ref x, .int (nI w), .int (nI z), .int (nI h), .int (nI 0)] (xW x az af ac ab aj sp ++ (zW az cI n va re tr sh (nf C) (nI K) ++ (fW af cI (nf F) (nI fk) ++ (cW ac cI dn (nI ck) ch ++ (bW ab cI bl (nI bk) ++ (jW aj cI (nf U) jr ja (nI jk) (nI jq))))))) (fun r0 w0 => r0 = some (.int (nI 1)) ∧ w0 = xW x az af ac ab aj sp ++ (zW az cI n va re tr sh (nf C) (nI K) ++ (fW af cI (nf (cpyN F F (bsF F (kyF w z h) 200 0 fk + 1) (bsF F (kyF w z h) 200 0 fk) (fk - (bsF F (kyF w z h) 200 0 fk) - 1))) (nI (fk - 1)) ++ (cW ac cI dn (nI ck) ch ++ (bW ab cI bl (nI bk) ++ (jW aj cI (nf U) jr ja (nI jk) (nI jq))))))) := by
  refine Cg.ofJ (own := RX5) (cc := cX5_fails) (maxL := 6) (ret := (some .boolean)) (by decide) rfl rfl (Nat.le_of_ble_eq_true rfl) ?_
  intro p e s m args below meth c A CX hr hlocks hname
  have hin5 : ∀ x ∈ u_ws RX5 TX5 6, x ∈ wsX5_fails := by decide +kernel
  have hfl30 : Cond.fieldLink RX5 30 (TX5 1).1 (TX5 1).2.1 (TX5 1).2.2.1 ∈ wsX5_fails := by decide +kernel
  show J p l e rmX5_fails s m args below meth c D A 6 0 0 (MQ below (jQc D (fun r0 w0 => r0 = some (.int (nI 1)) ∧ w0 = xW x az af ac ab aj sp ++ (zW az cI n va re tr sh (nf C) (nI K) ++ (fW af cI (nf (cpyN F F (bsF F (kyF w z h) 200 0 fk + 1) (bsF F (kyF w z h) 200 0 fk) (fk - (bsF F (kyF w z h) 200 0 fk) - 1))) (nI (fk - 1)) ++ (cW ac cI dn (nI ck) ch ++ (bW ab cI bl (nI bk) ++ (jW aj cI (nf U) jr ja (nI jk) (nI jq))))))) A) args s rmX5_fails.cells rmX5_fails.slots A) (xW x az af ac ab aj sp ++ (zW az cI n va re tr sh (nf C) (nI K) ++ (fW af cI (nf F) (nI fk) ++ (cW ac cI dn (nI ck) ch ++ (bW ab cI bl (nI bk) ++ (jW aj cI (nf U) jr ja (nI jk) (nI jq))))))) 0 [(0, .ref x), (1, .int (nI w)), (2, .int (nI z)), (3, .int (nI h)), (4, .int (nI 0))] []
  refine j_iload_n CX 1 dX5_fails_0 rfl rfl ?_
  refine j_iconst CX dX5_fails_1 (show _ = (nI 0 : Int32) by decide) ?_
  refine j_bipush CX dX5_fails_2 (show _ = (nI 15 : Int32) by decide) ?_
  refine j_callS CX (n := 3) (b := 0) (pre := []) (post := xW x az af ac ab aj sp ++ (zW az cI n va re tr sh (nf C) (nI K) ++ (fW af cI (nf F) (nI fk) ++ (cW ac cI dn (nI ck) ch ++ (bW ab cI bl (nI bk) ++ (jW aj cI (nf U) jr ja (nI jk) (nI jq))))))) (rest := []) (x_cw l D cI cZ cL (nI w) (nI 0) (nI 15) (nI_nlt (by omega) (by omega)) (nI_nlt (by omega) (by omega))) gX5_fails_X5_checkWithin rfl (by decide +kernel) ⟨Nat.le_of_ble_eq_true rfl, Nat.le_of_ble_eq_true rfl⟩ rfl rfl rfl (Nat.le_of_ble_eq_true rfl) dX5_fails_4 ⟨Nat.le_refl _, Nat.le_refl _⟩ (fun r9 w9 h9 => ?_)
  obtain ⟨rfl, rfl⟩ := h9
  refine j_w (w' := xW x az af ac ab aj sp ++ (zW az cI n va re tr sh (nf C) (nI K) ++ (fW af cI (nf F) (nI fk) ++ (cW ac cI dn (nI ck) ch ++ (bW ab cI bl (nI bk) ++ (jW aj cI (nf U) jr ja (nI jk) (nI jq))))))) rfl ?_
  refine j_st (st9 := []) rfl ?_
  refine j_aload_n CX 0 dX5_fails_7 rfl rfl ?_
  refine j_iload_n CX 2 dX5_fails_8 rfl rfl ?_
  refine j_callV CX (n := 1) (pre := []) (post := []) (rest := []) (qc := (RX5, TX5, 6)) (x_cz l D cI cZ cL x az af ac ab aj sp n va re tr sh C K F fk dn ck ch bl bk U jr ja jk jq z hn (by omega)) gX5_fails_X5_checkZone rfl (by decide +kernel) ⟨Nat.le_of_ble_eq_true rfl, Nat.le_of_ble_eq_true rfl⟩ rfl rfl rfl rfl rfl (Nat.le_of_ble_eq_true rfl) dX5_fails_9 ⟨Nat.le_refl _, Nat.le_refl _⟩ (fun r9 w9 h9 => ?_)
  obtain ⟨rfl, rfl⟩ := h9
  refine j_w (w' := xW x az af ac ab aj sp ++ (zW az cI n va re tr sh (nf C) (nI K) ++ (fW af cI (nf F) (nI fk) ++ (cW ac cI dn (nI ck) ch ++ (bW ab cI bl (nI bk) ++ (jW aj cI (nf U) jr ja (nI jk) (nI jq))))))) rfl ?_
  refine j_st (st9 := []) rfl ?_
  refine j_iload_n CX 3 dX5_fails_12 rfl rfl ?_
  refine j_iconst CX dX5_fails_13 (show _ = (nI 0 : Int32) by decide) ?_
  refine j_sipush CX dX5_fails_14 (show _ = (nI 999 : Int32) by decide) ?_
  refine j_callS CX (n := 3) (b := 0) (pre := []) (post := xW x az af ac ab aj sp ++ (zW az cI n va re tr sh (nf C) (nI K) ++ (fW af cI (nf F) (nI fk) ++ (cW ac cI dn (nI ck) ch ++ (bW ab cI bl (nI bk) ++ (jW aj cI (nf U) jr ja (nI jk) (nI jq))))))) (rest := []) (x_cw l D cI cZ cL (nI h) (nI 0) (nI 999) (nI_nlt (by omega) (by omega)) (nI_nlt (by omega) (by omega))) gX5_fails_X5_checkWithin rfl (by decide +kernel) ⟨Nat.le_of_ble_eq_true rfl, Nat.le_of_ble_eq_true rfl⟩ rfl rfl rfl (Nat.le_of_ble_eq_true rfl) dX5_fails_17 ⟨Nat.le_refl _, Nat.le_refl _⟩ (fun r9 w9 h9 => ?_)
  obtain ⟨rfl, rfl⟩ := h9
  refine j_w (w' := xW x az af ac ab aj sp ++ (zW az cI n va re tr sh (nf C) (nI K) ++ (fW af cI (nf F) (nI fk) ++ (cW ac cI dn (nI ck) ch ++ (bW ab cI bl (nI bk) ++ (jW aj cI (nf U) jr ja (nI jk) (nI jq))))))) rfl ?_
  refine j_st (st9 := []) rfl ?_
  refine j_aload_n CX 0 dX5_fails_20 rfl rfl ?_
  refine j_get CX 0 1 dX5_fails_21 rfl rfl hin5 (by decide) hfl30 rfl ?_
  refine j_iload_n CX 1 dX5_fails_24 rfl rfl ?_
  refine j_iload_n CX 2 dX5_fails_25 rfl rfl ?_
  refine j_iload_n CX 3 dX5_fails_26 rfl rfl ?_
  refine j_callV CX (n := 3) (pre := xW x az af ac ab aj sp ++ (zW az cI n va re tr sh (nf C) (nI K))) (post := cW ac cI dn (nI ck) ch ++ (bW ab cI bl (nI bk) ++ (jW aj cI (nf U) jr ja (nI jk) (nI jq)))) (rest := []) (qc := (RX2, TX2, 2)) (f_has l D cI cZ cL af F fk w z h hfk hF hw (by omega) hh) gX5_fails_X2_has rfl (by decide +kernel) ⟨Nat.le_of_ble_eq_true rfl, Nat.le_of_ble_eq_true rfl⟩ rfl rfl rfl rfl rfl (Nat.le_of_ble_eq_true rfl) dX5_fails_27 ⟨Nat.le_refl _, Nat.le_refl _⟩ (fun r9 w9 h9 => ?_)
  obtain ⟨rfl, rfl⟩ := h9
  refine j_w (w' := xW x az af ac ab aj sp ++ (zW az cI n va re tr sh (nf C) (nI K) ++ (fW af cI (nf F) (nI fk) ++ (cW ac cI dn (nI ck) ch ++ (bW ab cI bl (nI bk) ++ (jW aj cI (nf U) jr ja (nI jk) (nI jq))))))) rfl ?_
  refine j_st (st9 := [.int (nI (b2n (bsF F (kyF w z h) 200 0 fk < fk ∧ F (bsF F (kyF w z h) 200 0 fk) = kyF w z h)))]) rfl ?_
  refine j_top (show (nI (b2n (bsF F (kyF w z h) 200 0 fk < fk ∧ F (bsF F (kyF w z h) 200 0 fk) = kyF w z h))) = nI 1 from by rw [b2n_t hin]) ?_
  refine j_istore CX (lv' := [(5, .int (nI 1)), (0, .ref x), (1, .int (nI w)), (2, .int (nI z)), (3, .int (nI h)), (4, .int (nI 0))]) dX5_fails_30 (by decide) rfl ?_
  refine j_iload CX 5 dX5_fails_32 rfl ?_
  refine j_ifN_eq CX (by first | assumption | omega | exact b2n_lt _ | exact t2n_lt _) 72 dX5_fails_34 (by decide) (fun h34 => ?_) (fun h34 => absurd h34 (by decide))
  refine j_iload CX 5 dX5_fails_72 rfl ?_
  refine j_ifN_ne CX (by first | assumption | omega | exact b2n_lt _ | exact t2n_lt _) 92 dX5_fails_74 (by decide) (fun h74 => absurd h74 (by decide)) (fun h74 => ?_)
  refine j_iload CX 0 dX5_fails_77 rfl ?_
  refine j_ifN_eq CX (by first | assumption | omega | exact b2n_lt _ | exact t2n_lt _) 92 dX5_fails_79 (by decide) (fun h79 => absurd h79 (by decide)) (fun h79 => ?_)
  refine j_aload_n CX 1 dX5_fails_82 rfl rfl ?_
  refine j_get CX 0 1 dX5_fails_83 rfl rfl hin5 (by decide) hfl30 rfl ?_
  refine j_iload_n CX 2 dX5_fails_86 rfl rfl ?_
  refine j_iload_n CX 3 dX5_fails_87 rfl rfl ?_
  refine j_iload_n CX 4 dX5_fails_88 rfl rfl ?_
  refine j_callV CX (n := 3) (pre := xW x az af ac ab aj sp ++ (zW az cI n va re tr sh (nf C) (nI K))) (post := cW ac cI dn (nI ck) ch ++ (bW ab cI bl (nI bk) ++ (jW aj cI (nf U) jr ja (nI jk) (nI jq)))) (rest := []) (qc := (RX2, TX2, 2)) (f_remove l D cI cZ cL af F fk w z h hfk hF hw (by omega) hh hin) gX5_fails_X2_remove rfl (by decide +kernel) ⟨Nat.le_of_ble_eq_true rfl, Nat.le_of_ble_eq_true rfl⟩ rfl rfl rfl rfl rfl (Nat.le_of_ble_eq_true rfl) dX5_fails_89 ⟨Nat.le_refl _, Nat.le_refl _⟩ (fun r9 w9 h9 => ?_)
  obtain ⟨rfl, rfl⟩ := h9
  refine j_w (w' := xW x az af ac ab aj sp ++ (zW az cI n va re tr sh (nf C) (nI K) ++ (fW af cI (nf (cpyN F F (bsF F (kyF w z h) 200 0 fk + 1) (bsF F (kyF w z h) 200 0 fk) (fk - (bsF F (kyF w z h) 200 0 fk) - 1))) (nI (fk - 1)) ++ (cW ac cI dn (nI ck) ch ++ (bW ab cI bl (nI bk) ++ (jW aj cI (nf U) jr ja (nI jk) (nI jq))))))) rfl ?_
  refine j_st (st9 := []) rfl ?_
  refine j_iload CX 0 dX5_fails_92 rfl ?_
  exact j_zret CX hr hlocks dX5_fails_94 (rfl) (⟨rfl, rfl⟩)

set_option maxRecDepth 100000 in
set_option maxHeartbeats 4000000 in
theorem x_fails0f (l : Launch) (D : va_G) (cI cZ cL : ClassId) (x : Nat) (az af ac ab aj : Nat → Nat) (sp : Int32) (n : Nat) (va re tr sh : Nat → Int32) (C : Nat → Nat) (K : Nat) (F : Nat → Nat) (fk : Nat) (dn : Nat → Int32) (ck : Nat) (ch : Int32) (bl : Nat → Int32) (bk : Nat) (U : Nat → Nat) (jr ja : Nat → Int32) (jk jq : Nat) (w z h : Nat) (hn : n ≤ 24) (hw : w < 16) (hz : z < n) (hh : h < 1000) (hfk : fk ≤ 200) (hF : ∀ j, j < fk → F j < 2 ^ 31) (hin : ¬ (bsF F (kyF w z h) 200 0 fk < fk ∧ F (bsF F (kyF w z h) 200 0 fk) = kyF w z h)) : Cg l D cI cZ cL yX5_fails wsX5_fails rmX5_fails [.ref x, .int (nI w), .int (nI z), .int (nI h), .int (nI 0)] (xW x az af ac ab aj sp ++ (zW az cI n va re tr sh (nf C) (nI K) ++ (fW af cI (nf F) (nI fk) ++ (cW ac cI dn (nI ck) ch ++ (bW ab cI bl (nI bk) ++ (jW aj cI (nf U) jr ja (nI jk) (nI jq))))))) (fun r0 w0 => r0 = some (.int (nI 0)) ∧ w0 = xW x az af ac ab aj sp ++ (zW az cI n va re tr sh (nf C) (nI K) ++ (fW af cI (nf F) (nI fk) ++ (cW ac cI dn (nI ck) ch ++ (bW ab cI bl (nI bk) ++ (jW aj cI (nf U) jr ja (nI jk) (nI jq))))))) := by
  refine Cg.ofJ (own := RX5) (cc := cX5_fails) (maxL := 6) (ret := (some .boolean)) (by decide) rfl rfl (Nat.le_of_ble_eq_true rfl) ?_
  intro p e s m args below meth c A CX hr hlocks hname
  have hin5 : ∀ x ∈ u_ws RX5 TX5 6, x ∈ wsX5_fails := by decide +kernel
  have hfl30 : Cond.fieldLink RX5 30 (TX5 1).1 (TX5 1).2.1 (TX5 1).2.2.1 ∈ wsX5_fails := by decide +kernel
  show J p l e rmX5_fails s m args below meth c D A 6 0 0 (MQ below (jQc D (fun r0 w0 => r0 = some (.int (nI 0)) ∧ w0 = xW x az af ac ab aj sp ++ (zW az cI n va re tr sh (nf C) (nI K) ++ (fW af cI (nf F) (nI fk) ++ (cW ac cI dn (nI ck) ch ++ (bW ab cI bl (nI bk) ++ (jW aj cI (nf U) jr ja (nI jk) (nI jq))))))) A) args s rmX5_fails.cells rmX5_fails.slots A) (xW x az af ac ab aj sp ++ (zW az cI n va re tr sh (nf C) (nI K) ++ (fW af cI (nf F) (nI fk) ++ (cW ac cI dn (nI ck) ch ++ (bW ab cI bl (nI bk) ++ (jW aj cI (nf U) jr ja (nI jk) (nI jq))))))) 0 [(0, .ref x), (1, .int (nI w)), (2, .int (nI z)), (3, .int (nI h)), (4, .int (nI 0))] []
  refine j_iload_n CX 1 dX5_fails_0 rfl rfl ?_
  refine j_iconst CX dX5_fails_1 (show _ = (nI 0 : Int32) by decide) ?_
  refine j_bipush CX dX5_fails_2 (show _ = (nI 15 : Int32) by decide) ?_
  refine j_callS CX (n := 3) (b := 0) (pre := []) (post := xW x az af ac ab aj sp ++ (zW az cI n va re tr sh (nf C) (nI K) ++ (fW af cI (nf F) (nI fk) ++ (cW ac cI dn (nI ck) ch ++ (bW ab cI bl (nI bk) ++ (jW aj cI (nf U) jr ja (nI jk) (nI jq))))))) (rest := []) (x_cw l D cI cZ cL (nI w) (nI 0) (nI 15) (nI_nlt (by omega) (by omega)) (nI_nlt (by omega) (by omega))) gX5_fails_X5_checkWithin rfl (by decide +kernel) ⟨Nat.le_of_ble_eq_true rfl, Nat.le_of_ble_eq_true rfl⟩ rfl rfl rfl (Nat.le_of_ble_eq_true rfl) dX5_fails_4 ⟨Nat.le_refl _, Nat.le_refl _⟩ (fun r9 w9 h9 => ?_)
  obtain ⟨rfl, rfl⟩ := h9
  refine j_w (w' := xW x az af ac ab aj sp ++ (zW az cI n va re tr sh (nf C) (nI K) ++ (fW af cI (nf F) (nI fk) ++ (cW ac cI dn (nI ck) ch ++ (bW ab cI bl (nI bk) ++ (jW aj cI (nf U) jr ja (nI jk) (nI jq))))))) rfl ?_
  refine j_st (st9 := []) rfl ?_
  refine j_aload_n CX 0 dX5_fails_7 rfl rfl ?_
  refine j_iload_n CX 2 dX5_fails_8 rfl rfl ?_
  refine j_callV CX (n := 1) (pre := []) (post := []) (rest := []) (qc := (RX5, TX5, 6)) (x_cz l D cI cZ cL x az af ac ab aj sp n va re tr sh C K F fk dn ck ch bl bk U jr ja jk jq z hn (by omega)) gX5_fails_X5_checkZone rfl (by decide +kernel) ⟨Nat.le_of_ble_eq_true rfl, Nat.le_of_ble_eq_true rfl⟩ rfl rfl rfl rfl rfl (Nat.le_of_ble_eq_true rfl) dX5_fails_9 ⟨Nat.le_refl _, Nat.le_refl _⟩ (fun r9 w9 h9 => ?_)
  obtain ⟨rfl, rfl⟩ := h9
  refine j_w (w' := xW x az af ac ab aj sp ++ (zW az cI n va re tr sh (nf C) (nI K) ++ (fW af cI (nf F) (nI fk) ++ (cW ac cI dn (nI ck) ch ++ (bW ab cI bl (nI bk) ++ (jW aj cI (nf U) jr ja (nI jk) (nI jq))))))) rfl ?_
  refine j_st (st9 := []) rfl ?_
  refine j_iload_n CX 3 dX5_fails_12 rfl rfl ?_
  refine j_iconst CX dX5_fails_13 (show _ = (nI 0 : Int32) by decide) ?_
  refine j_sipush CX dX5_fails_14 (show _ = (nI 999 : Int32) by decide) ?_
  refine j_callS CX (n := 3) (b := 0) (pre := []) (post := xW x az af ac ab aj sp ++ (zW az cI n va re tr sh (nf C) (nI K) ++ (fW af cI (nf F) (nI fk) ++ (cW ac cI dn (nI ck) ch ++ (bW ab cI bl (nI bk) ++ (jW aj cI (nf U) jr ja (nI jk) (nI jq))))))) (rest := []) (x_cw l D cI cZ cL (nI h) (nI 0) (nI 999) (nI_nlt (by omega) (by omega)) (nI_nlt (by omega) (by omega))) gX5_fails_X5_checkWithin rfl (by decide +kernel) ⟨Nat.le_of_ble_eq_true rfl, Nat.le_of_ble_eq_true rfl⟩ rfl rfl rfl (Nat.le_of_ble_eq_true rfl) dX5_fails_17 ⟨Nat.le_refl _, Nat.le_refl _⟩ (fun r9 w9 h9 => ?_)
  obtain ⟨rfl, rfl⟩ := h9
  refine j_w (w' := xW x az af ac ab aj sp ++ (zW az cI n va re tr sh (nf C) (nI K) ++ (fW af cI (nf F) (nI fk) ++ (cW ac cI dn (nI ck) ch ++ (bW ab cI bl (nI bk) ++ (jW aj cI (nf U) jr ja (nI jk) (nI jq))))))) rfl ?_
  refine j_st (st9 := []) rfl ?_
  refine j_aload_n CX 0 dX5_fails_20 rfl rfl ?_
  refine j_get CX 0 1 dX5_fails_21 rfl rfl hin5 (by decide) hfl30 rfl ?_
  refine j_iload_n CX 1 dX5_fails_24 rfl rfl ?_
  refine j_iload_n CX 2 dX5_fails_25 rfl rfl ?_
  refine j_iload_n CX 3 dX5_fails_26 rfl rfl ?_
  refine j_callV CX (n := 3) (pre := xW x az af ac ab aj sp ++ (zW az cI n va re tr sh (nf C) (nI K))) (post := cW ac cI dn (nI ck) ch ++ (bW ab cI bl (nI bk) ++ (jW aj cI (nf U) jr ja (nI jk) (nI jq)))) (rest := []) (qc := (RX2, TX2, 2)) (f_has l D cI cZ cL af F fk w z h hfk hF hw (by omega) hh) gX5_fails_X2_has rfl (by decide +kernel) ⟨Nat.le_of_ble_eq_true rfl, Nat.le_of_ble_eq_true rfl⟩ rfl rfl rfl rfl rfl (Nat.le_of_ble_eq_true rfl) dX5_fails_27 ⟨Nat.le_refl _, Nat.le_refl _⟩ (fun r9 w9 h9 => ?_)
  obtain ⟨rfl, rfl⟩ := h9
  refine j_w (w' := xW x az af ac ab aj sp ++ (zW az cI n va re tr sh (nf C) (nI K) ++ (fW af cI (nf F) (nI fk) ++ (cW ac cI dn (nI ck) ch ++ (bW ab cI bl (nI bk) ++ (jW aj cI (nf U) jr ja (nI jk) (nI jq))))))) rfl ?_
  refine j_st (st9 := [.int (nI (b2n (bsF F (kyF w z h) 200 0 fk < fk ∧ F (bsF F (kyF w z h) 200 0 fk) = kyF w z h)))]) rfl ?_
  refine j_top (show (nI (b2n (bsF F (kyF w z h) 200 0 fk < fk ∧ F (bsF F (kyF w z h) 200 0 fk) = kyF w z h))) = nI 0 from by rw [b2n_f hin]) ?_
  refine j_istore CX (lv' := [(5, .int (nI 0)), (0, .ref x), (1, .int (nI w)), (2, .int (nI z)), (3, .int (nI h)), (4, .int (nI 0))]) dX5_fails_30 (by decide) rfl ?_
  refine j_iload CX 5 dX5_fails_32 rfl ?_
  refine j_ifN_eq CX (by first | assumption | omega | exact b2n_lt _ | exact t2n_lt _) 72 dX5_fails_34 (by decide) (fun h34 => ?_) (fun h34 => absurd h34 (by decide))
  refine j_iload CX 5 dX5_fails_72 rfl ?_
  refine j_ifN_ne CX (by first | assumption | omega | exact b2n_lt _ | exact t2n_lt _) 92 dX5_fails_74 (by decide) (fun h74 => absurd h74 (by decide)) (fun h74 => ?_)
  refine j_iload CX 0 dX5_fails_77 rfl ?_
  refine j_ifN_eq CX (by first | assumption | omega | exact b2n_lt _ | exact t2n_lt _) 92 dX5_fails_79 (by decide) (fun h79 => ?_) (fun h79 => absurd h79 (by decide))
  refine j_iload CX 0 dX5_fails_92 rfl ?_
  exact j_zret CX hr hlocks dX5_fails_94 (rfl) (⟨rfl, rfl⟩)

abbrev rmX5_zoneIsDone : Room := { frames := 4, cells := 0, slots := 0, locals := 132 }
set_option maxRecDepth 100000 in
set_option maxHeartbeats 4000000 in
theorem x_zd (l : Launch) (D : va_G) (cI cZ cL : ClassId) (x : Nat) (az af ac ab aj : Nat → Nat) (sp : Int32) (n : Nat) (va re tr sh : Nat → Int32) (C : Nat → Nat) (K : Nat) (F : Nat → Nat) (fk : Nat) (dn : Nat → Int32) (ck : Nat) (ch : Int32) (bl : Nat → Int32) (bk : Nat) (U : Nat → Nat) (jr ja : Nat → Int32) (jk jq : Nat) (z h : Nat) (hn : n ≤ 24) (hz : z < n) (hh : h < 1000) (hfk : fk ≤ 200) (hF : ∀ j, j < fk → F j < 2 ^ 31) (hs : rsOk (va, dn, ck, ch, bl, bk)) : Cg l D cI cZ cL yX5_zoneIsDone wsX5_zoneIsDone rmX5_zoneIsDone [.ref x, .int (nI z), .int (nI h)] (xW x az af ac ab aj sp ++ (zW az cI n va re tr sh (nf C) (nI K) ++ (fW af cI (nf F) (nI fk) ++ (cW ac cI dn (nI ck) ch ++ (bW ab cI bl (nI bk) ++ (jW aj cI (nf U) jr ja (nI jk) (nI jq))))))) (fun r0 w0 => r0 = some (.int (nI (t2n (zdF sh n F fk z h 16 (va, dn, ck, ch, bl, bk)).1))) ∧ w0 = xW x az af ac ab aj sp ++ (zW az cI n (((zdF sh n F fk z h 16 (va, dn, ck, ch, bl, bk)).2).1) re tr sh (nf C) (nI K) ++ (fW af cI (nf F) (nI fk) ++ (cW ac cI (((zdF sh n F fk z h 16 (va, dn, ck, ch, bl, bk)).2).2.1) (nI ((zdF sh n F fk z h 16 (va, dn, ck, ch, bl, bk)).2).2.2.1) (((zdF sh n F fk z h 16 (va, dn, ck, ch, bl, bk)).2).2.2.2.1) ++ (bW ab cI (((zdF sh n F fk z h 16 (va, dn, ck, ch, bl, bk)).2).2.2.2.2.1) (nI ((zdF sh n F fk z h 16 (va, dn, ck, ch, bl, bk)).2).2.2.2.2.2) ++ (jW aj cI (nf U) jr ja (nI jk) (nI jq))))))) := by
  refine Cg.ofJ (own := RX5) (cc := cX5_zoneIsDone) (maxL := 6) (ret := (some .boolean)) (by decide) rfl rfl (Nat.le_of_ble_eq_true rfl) ?_
  intro p e s m args below meth c A CX hr hlocks hname
  have hin5 : ∀ x ∈ u_ws RX5 TX5 6, x ∈ wsX5_zoneIsDone := by decide +kernel
  have hfl37 : Cond.fieldLink RX5 37 (TX5 2).1 (TX5 2).2.1 (TX5 2).2.2.1 ∈ wsX5_zoneIsDone := by decide +kernel
  have hfl30 : Cond.fieldLink RX5 30 (TX5 1).1 (TX5 1).2.1 (TX5 1).2.2.1 ∈ wsX5_zoneIsDone := by decide +kernel
  have hfl44 : Cond.fieldLink RX5 44 (TX5 3).1 (TX5 3).2.1 (TX5 3).2.2.1 ∈ wsX5_zoneIsDone := by decide +kernel
  have hfl23 : Cond.fieldLink RX5 23 (TX5 0).1 (TX5 0).2.1 (TX5 0).2.2.1 ∈ wsX5_zoneIsDone := by decide +kernel
  have L2 : ∀ (d2 : Nat) (t9 : Nat) (va9 dn9 : Nat → Int32) (ck9 : Nat) (ch9 : Int32) (bl9 : Nat → Int32) (bk9 : Nat), 16 - t9 = d2 → t9 ≤ 16 → rsOk (va9, dn9, ck9, ch9, bl9, bk9) → zdF sh n F fk z h (16 - t9) (va9, dn9, ck9, ch9, bl9, bk9) = zdF sh n F fk z h 16 (va, dn, ck, ch, bl, bk) → J p l e rmX5_zoneIsDone s m args below meth c D A 6 0 0 (MQ below (jQc D (fun r0 w0 => r0 = some (.int (nI (t2n (zdF sh n F fk z h 16 (va, dn, ck, ch, bl, bk)).1))) ∧ w0 = xW x az af ac ab aj sp ++ (zW az cI n (((zdF sh n F fk z h 16 (va, dn, ck, ch, bl, bk)).2).1) re tr sh (nf C) (nI K) ++ (fW af cI (nf F) (nI fk) ++ (cW ac cI (((zdF sh n F fk z h 16 (va, dn, ck, ch, bl, bk)).2).2.1) (nI ((zdF sh n F fk z h 16 (va, dn, ck, ch, bl, bk)).2).2.2.1) (((zdF sh n F fk z h 16 (va, dn, ck, ch, bl, bk)).2).2.2.2.1) ++ (bW ab cI (((zdF sh n F fk z h 16 (va, dn, ck, ch, bl, bk)).2).2.2.2.2.1) (nI ((zdF sh n F fk z h 16 (va, dn, ck, ch, bl, bk)).2).2.2.2.2.2) ++ (jW aj cI (nf U) jr ja (nI jk) (nI jq))))))) A) args s rmX5_zoneIsDone.cells rmX5_zoneIsDone.slots A) (xW x az af ac ab aj sp ++ (zW az cI n va9 re tr sh (nf C) (nI K) ++ (fW af cI (nf F) (nI fk) ++ (cW ac cI dn9 (nI ck9) ch9 ++ (bW ab cI bl9 (nI bk9) ++ (jW aj cI (nf U) jr ja (nI jk) (nI jq))))))) 2 [(3, .int (nI t9)), (0, .ref x), (1, .int (nI z)), (2, .int (nI h))] [] := by
    intro d2
    induction d2 using Nat.strongRecOn with
    | _ d2 ih2 =>
      intro t9 va9 dn9 ck9 ch9 bl9 bk9 hd ht hs9 he
      have hk9 : ck9 ≤ 16 := hs9.1
      have hb9 : bk9 ≤ 2000 := hs9.2
      refine j_iload_n CX 0 dX5_zoneIsDone_2 rfl rfl ?_
      refine j_bipush CX dX5_zoneIsDone_3 (show _ = (nI 16 : Int32) by decide) ?_
      refine j_icmpN_ge CX (by first | assumption | omega) (by first | assumption | omega | exact b2n_lt _ | exact t2n_lt _) 90 dX5_zoneIsDone_5 (by decide) (fun h5 => ?_) (fun h5 => ?_)
      · rw [show 16 - t9 = 0 by omega] at he
        refine j_iconst CX dX5_zoneIsDone_90 (show _ = (nI 0 : Int32) by decide) ?_
        exact j_zret CX hr hlocks dX5_zoneIsDone_91 (rfl) (⟨by rw [← he]; rfl, by first | (rw [← he]; done) | (rw [← he]; rfl)⟩)
      · obtain ⟨d8, hd8⟩ : ∃ d8, 16 - t9 = d8 + 1 := ⟨16 - t9 - 1, by omega⟩
        by_cases hs8 : ck9 ≤ 0
        · rw [zdF_0 hs8] at he
          refine j_aload_n CX 1 dX5_zoneIsDone_8 rfl rfl ?_
          refine j_get CX 0 2 dX5_zoneIsDone_9 rfl rfl hin5 (by decide) hfl37 rfl ?_
          refine j_callV CX (n := 0) (pre := xW x az af ac ab aj sp ++ (zW az cI n va9 re tr sh (nf C) (nI K) ++ (fW af cI (nf F) (nI fk)))) (post := bW ab cI bl9 (nI bk9) ++ (jW aj cI (nf U) jr ja (nI jk) (nI jq))) (rest := []) (qc := (RX1, TX1, 3)) (c_draw0 l D cI cZ cL ac dn9 ck9 ch9 hs8) gX5_zoneIsDone_X1_draw rfl (by decide +kernel) ⟨Nat.le_of_ble_eq_true rfl, Nat.le_of_ble_eq_true rfl⟩ rfl rfl rfl rfl rfl (Nat.le_of_ble_eq_true rfl) dX5_zoneIsDone_12 ⟨Nat.le_refl _, Nat.le_refl _⟩ (fun r9 w9 h9 => ?_)
          obtain ⟨rfl, rfl⟩ := h9
          refine j_w (w' := xW x az af ac ab aj sp ++ (zW az cI n va9 re tr sh (nf C) (nI K) ++ (fW af cI (nf F) (nI fk) ++ (cW ac cI dn9 (nI ck9) ch9 ++ (bW ab cI bl9 (nI bk9) ++ (jW aj cI (nf U) jr ja (nI jk) (nI jq))))))) rfl ?_
          refine j_st (st9 := [.int (-1)]) rfl ?_
          refine j_istore CX (lv' := [(4, .int (-1)), (3, .int (nI t9)), (0, .ref x), (1, .int (nI z)), (2, .int (nI h))]) dX5_zoneIsDone_15 (by decide) rfl ?_
          refine j_iload CX 0 dX5_zoneIsDone_17 rfl ?_
          refine j_iconst CX dX5_zoneIsDone_19 (show _ = ((-1) : Int32) by decide) ?_
          refine j_icmp_ne CX 25 dX5_zoneIsDone_20 (by decide) (fun h20 => absurd h20 (by decide)) (fun h20 => ?_)
          refine j_iconst CX dX5_zoneIsDone_23 (show _ = (nI 0 : Int32) by decide) ?_
          exact j_zret CX hr hlocks dX5_zoneIsDone_24 (rfl) (⟨by rw [← he]; rfl, by first | (rw [← he]; done) | (rw [← he]; rfl)⟩)
        · refine j_aload_n CX 1 dX5_zoneIsDone_8 rfl rfl ?_
          refine j_get CX 0 2 dX5_zoneIsDone_9 rfl rfl hin5 (by decide) hfl37 rfl ?_
          by_cases hs12 : dwF dn9 ck9 ch9 < 16
          · refine j_callV CX (n := 0) (pre := xW x az af ac ab aj sp ++ (zW az cI n va9 re tr sh (nf C) (nI K) ++ (fW af cI (nf F) (nI fk)))) (post := bW ab cI bl9 (nI bk9) ++ (jW aj cI (nf U) jr ja (nI jk) (nI jq))) (rest := []) (qc := (RX1, TX1, 3)) (c_drawS l D cI cZ cL ac dn9 ck9 ch9 (by omega) hk9 hs12) gX5_zoneIsDone_X1_draw rfl (by decide +kernel) ⟨Nat.le_of_ble_eq_true rfl, Nat.le_of_ble_eq_true rfl⟩ rfl rfl rfl rfl rfl (Nat.le_of_ble_eq_true rfl) dX5_zoneIsDone_12 ⟨Nat.le_refl _, Nat.le_refl _⟩ (fun r9 w9 h9 => ?_)
            obtain ⟨rfl, rfl⟩ := h9
            refine j_w (w' := xW x az af ac ab aj sp ++ (zW az cI n va9 re tr sh (nf C) (nI K) ++ (fW af cI (nf F) (nI fk) ++ (cW ac cI dn9 (nI ck9) (nxH ch9) ++ (bW ab cI bl9 (nI bk9) ++ (jW aj cI (nf U) jr ja (nI jk) (nI jq))))))) rfl ?_
            refine j_st (st9 := [.int (nI (dwF dn9 ck9 ch9))]) rfl ?_
            refine j_istore CX (lv' := [(4, .int (nI (dwF dn9 ck9 ch9))), (3, .int (nI t9)), (0, .ref x), (1, .int (nI z)), (2, .int (nI h))]) dX5_zoneIsDone_15 (by decide) rfl ?_
            refine j_iload CX 0 dX5_zoneIsDone_17 rfl ?_
            refine j_iconst CX dX5_zoneIsDone_19 (show _ = ((-1) : Int32) by decide) ?_
            refine j_icmp_ne CX 25 dX5_zoneIsDone_20 (by decide) (fun h20 => ?_) (fun h20 => absurd h20 (nI_nm1 (by first | assumption | omega)))
            refine j_aload_n CX 2 dX5_zoneIsDone_25 rfl rfl ?_
            refine j_get CX 0 1 dX5_zoneIsDone_26 rfl rfl hin5 (by decide) hfl30 rfl ?_
            refine j_iload CX 0 dX5_zoneIsDone_29 rfl ?_
            refine j_iload_n CX 3 dX5_zoneIsDone_31 rfl rfl ?_
            refine j_iload_n CX 4 dX5_zoneIsDone_32 rfl rfl ?_
            refine j_callV CX (n := 3) (pre := xW x az af ac ab aj sp ++ (zW az cI n va9 re tr sh (nf C) (nI K))) (post := cW ac cI dn9 (nI ck9) (nxH ch9) ++ (bW ab cI bl9 (nI bk9) ++ (jW aj cI (nf U) jr ja (nI jk) (nI jq)))) (rest := []) (qc := (RX2, TX2, 2)) (f_has l D cI cZ cL af F fk (dwF dn9 ck9 ch9) z h hfk hF hs12 (by omega) hh) gX5_zoneIsDone_X2_has rfl (by decide +kernel) ⟨Nat.le_of_ble_eq_true rfl, Nat.le_of_ble_eq_true rfl⟩ rfl rfl rfl rfl rfl (Nat.le_of_ble_eq_true rfl) dX5_zoneIsDone_33 ⟨Nat.le_refl _, Nat.le_refl _⟩ (fun r9 w9 h9 => ?_)
            obtain ⟨rfl, rfl⟩ := h9
            refine j_w (w' := xW x az af ac ab aj sp ++ (zW az cI n va9 re tr sh (nf C) (nI K) ++ (fW af cI (nf F) (nI fk) ++ (cW ac cI dn9 (nI ck9) (nxH ch9) ++ (bW ab cI bl9 (nI bk9) ++ (jW aj cI (nf U) jr ja (nI jk) (nI jq))))))) rfl ?_
            refine j_st (st9 := [.int (nI (flF F fk (dwF dn9 ck9 ch9) z h))]) rfl ?_
            refine j_istore CX (lv' := [(5, .int (nI (flF F fk (dwF dn9 ck9 ch9) z h))), (4, .int (nI (dwF dn9 ck9 ch9))), (3, .int (nI t9)), (0, .ref x), (1, .int (nI z)), (2, .int (nI h))]) dX5_zoneIsDone_36 (by decide) rfl ?_
            refine j_aload_n CX 3 dX5_zoneIsDone_38 rfl rfl ?_
            refine j_get CX 0 3 dX5_zoneIsDone_39 rfl rfl hin5 (by decide) hfl44 rfl ?_
            refine j_iload CX 1 dX5_zoneIsDone_42 rfl ?_
            refine j_iload_n CX 4 dX5_zoneIsDone_44 rfl rfl ?_
            refine j_iload_n CX 5 dX5_zoneIsDone_45 rfl rfl ?_
            refine j_iload CX 0 dX5_zoneIsDone_46 rfl ?_
            refine j_callV CX (n := 4) (pre := xW x az af ac ab aj sp ++ (zW az cI n va9 re tr sh (nf C) (nI K) ++ (fW af cI (nf F) (nI fk) ++ (cW ac cI dn9 (nI ck9) (nxH ch9))))) (post := jW aj cI (nf U) jr ja (nI jk) (nI jq)) (rest := []) (qc := (RX0, TX0, 2)) (b_add l D cI cZ cL ab bl9 bk9 (dwF dn9 ck9 ch9) z h (flF F fk (dwF dn9 ck9 ch9) z h) (by omega) (flF_le _ _ _ _ _)) gX5_zoneIsDone_X0_add rfl (by decide +kernel) ⟨Nat.le_of_ble_eq_true rfl, Nat.le_of_ble_eq_true rfl⟩ rfl rfl rfl rfl rfl (Nat.le_of_ble_eq_true rfl) dX5_zoneIsDone_48 ⟨Nat.le_refl _, Nat.le_refl _⟩ (fun r9 w9 h9 => ?_)
            obtain ⟨rfl, rfl⟩ := h9
            refine j_w (w' := xW x az af ac ab aj sp ++ (zW az cI n va9 re tr sh (nf C) (nI K) ++ (fW af cI (nf F) (nI fk) ++ (cW ac cI dn9 (nI ck9) (nxH ch9) ++ (bW ab cI (bkL bl9 bk9 (packF (dwF dn9 ck9 ch9) z h (flF F fk (dwF dn9 ck9 ch9) z h))) (nI (bkN bk9)) ++ (jW aj cI (nf U) jr ja (nI jk) (nI jq))))))) rfl ?_
            refine j_st (st9 := []) rfl ?_
            refine j_iload CX 0 dX5_zoneIsDone_51 rfl ?_
            refine j_ifN_ne CX (by first | assumption | omega | exact b2n_lt _ | exact t2n_lt _) 75 dX5_zoneIsDone_53 (by decide) (fun h53 => ?_) (fun h53 => ?_)
            · rw [hd8, zdF_no (by omega) rfl hs12 h53] at he
              refine j_aload_n CX 3 dX5_zoneIsDone_75 rfl rfl ?_
              refine j_get CX 0 2 dX5_zoneIsDone_76 rfl rfl hin5 (by decide) hfl37 rfl ?_
              refine j_iload CX 1 dX5_zoneIsDone_79 rfl ?_
              refine j_callV CX (n := 1) (pre := xW x az af ac ab aj sp ++ (zW az cI n va9 re tr sh (nf C) (nI K) ++ (fW af cI (nf F) (nI fk)))) (post := bW ab cI (bkL bl9 bk9 (packF (dwF dn9 ck9 ch9) z h (flF F fk (dwF dn9 ck9 ch9) z h))) (nI (bkN bk9)) ++ (jW aj cI (nf U) jr ja (nI jk) (nI jq))) (rest := []) (qc := (RX1, TX1, 3)) (c_lose l D cI cZ cL ac dn9 ck9 (nxH ch9) (dwF dn9 ck9 ch9) hs12 (by omega)) gX5_zoneIsDone_X1_lose rfl (by decide +kernel) ⟨Nat.le_of_ble_eq_true rfl, Nat.le_of_ble_eq_true rfl⟩ rfl rfl rfl rfl rfl (Nat.le_of_ble_eq_true rfl) dX5_zoneIsDone_81 ⟨Nat.le_refl _, Nat.le_refl _⟩ (fun r9 w9 h9 => ?_)
              obtain ⟨rfl, rfl⟩ := h9
              refine j_w (w' := xW x az af ac ab aj sp ++ (zW az cI n va9 re tr sh (nf C) (nI K) ++ (fW af cI (nf F) (nI fk) ++ (cW ac cI (upd dn9 (dwF dn9 ck9 ch9) (-1)) (nI (ck9 - 1)) (nxH ch9) ++ (bW ab cI (bkL bl9 bk9 (packF (dwF dn9 ck9 ch9) z h (flF F fk (dwF dn9 ck9 ch9) z h))) (nI (bkN bk9)) ++ (jW aj cI (nf U) jr ja (nI jk) (nI jq))))))) rfl ?_
              refine j_st (st9 := []) rfl ?_
              refine j_iinc CX (v := nI (t9 + 1)) (lv' := [(3, .int (nI (t9 + 1))), (5, .int (nI (flF F fk (dwF dn9 ck9 ch9) z h))), (4, .int (nI (dwF dn9 ck9 ch9))), (0, .ref x), (1, .int (nI z)), (2, .int (nI h))]) 2 dX5_zoneIsDone_84 rfl (nI_1 _) (by decide) rfl ?_
              refine j_goto CX 2 dX5_zoneIsDone_87 (by decide) ?_
              refine j_lv (lv' := [(3, .int (nI (t9 + 1))), (0, .ref x), (1, .int (nI z)), (2, .int (nI h))]) [0, 3, 4, 5] rfl ?_
              exact ih2 _ (by omega) (t9 + 1) va9 (upd dn9 (dwF dn9 ck9 ch9) (-1)) (ck9 - 1) (nxH ch9) (bkL bl9 bk9 (packF (dwF dn9 ck9 ch9) z h (flF F fk (dwF dn9 ck9 ch9) z h))) (bkN bk9) rfl (by omega) ⟨Nat.le_trans (Nat.sub_le _ _) hk9, bkN_le hb9⟩ (by rw [← he, show 16 - (t9 + 1) = d8 by omega])
            · rw [hd8, zdF_ok (by omega) rfl hs12 h53] at he
              refine j_aload_n CX 3 dX5_zoneIsDone_56 rfl rfl ?_
              refine j_get CX 0 0 dX5_zoneIsDone_57 rfl rfl hin5 (by decide) hfl23 rfl ?_
              refine j_iload_n CX 4 dX5_zoneIsDone_60 rfl rfl ?_
              refine j_callV CX (n := 1) (pre := xW x az af ac ab aj sp) (post := fW af cI (nf F) (nI fk) ++ (cW ac cI dn9 (nI ck9) (nxH ch9) ++ (bW ab cI (bkL bl9 bk9 (packF (dwF dn9 ck9 ch9) z h (flF F fk (dwF dn9 ck9 ch9) z h))) (nI (bkN bk9)) ++ (jW aj cI (nf U) jr ja (nI jk) (nI jq))))) (rest := []) (qc := (RX4, TX4, 7)) (z_change l D cI cZ cL az n va9 re tr sh (nf C) (nI K) z hn hz) gX5_zoneIsDone_X4_change rfl (by decide +kernel) ⟨Nat.le_of_ble_eq_true rfl, Nat.le_of_ble_eq_true rfl⟩ rfl rfl rfl rfl rfl (Nat.le_of_ble_eq_true rfl) dX5_zoneIsDone_61 ⟨Nat.le_refl _, Nat.le_refl _⟩ (fun r9 w9 h9 => ?_)
              obtain ⟨rfl, rfl⟩ := h9
              refine j_w (w' := xW x az af ac ab aj sp ++ (zW az cI n (upd va9 z (chg sh n va9 z)) re tr sh (nf C) (nI K) ++ (fW af cI (nf F) (nI fk) ++ (cW ac cI dn9 (nI ck9) (nxH ch9) ++ (bW ab cI (bkL bl9 bk9 (packF (dwF dn9 ck9 ch9) z h (flF F fk (dwF dn9 ck9 ch9) z h))) (nI (bkN bk9)) ++ (jW aj cI (nf U) jr ja (nI jk) (nI jq))))))) rfl ?_
              refine j_st (st9 := []) rfl ?_
              refine j_aload_n CX 3 dX5_zoneIsDone_64 rfl rfl ?_
              refine j_get CX 0 2 dX5_zoneIsDone_65 rfl rfl hin5 (by decide) hfl37 rfl ?_
              refine j_iload CX 1 dX5_zoneIsDone_68 rfl ?_
              refine j_callV CX (n := 1) (pre := xW x az af ac ab aj sp ++ (zW az cI n (upd va9 z (chg sh n va9 z)) re tr sh (nf C) (nI K) ++ (fW af cI (nf F) (nI fk)))) (post := bW ab cI (bkL bl9 bk9 (packF (dwF dn9 ck9 ch9) z h (flF F fk (dwF dn9 ck9 ch9) z h))) (nI (bkN bk9)) ++ (jW aj cI (nf U) jr ja (nI jk) (nI jq))) (rest := []) (qc := (RX1, TX1, 3)) (c_credit l D cI cZ cL ac dn9 ck9 (nxH ch9) (dwF dn9 ck9 ch9) hs12) gX5_zoneIsDone_X1_credit rfl (by decide +kernel) ⟨Nat.le_of_ble_eq_true rfl, Nat.le_of_ble_eq_true rfl⟩ rfl rfl rfl rfl rfl (Nat.le_of_ble_eq_true rfl) dX5_zoneIsDone_70 ⟨Nat.le_refl _, Nat.le_refl _⟩ (fun r9 w9 h9 => ?_)
              obtain ⟨rfl, rfl⟩ := h9
              refine j_w (w' := xW x az af ac ab aj sp ++ (zW az cI n (upd va9 z (chg sh n va9 z)) re tr sh (nf C) (nI K) ++ (fW af cI (nf F) (nI fk) ++ (cW ac cI (upd dn9 (dwF dn9 ck9 ch9) (dn9 (dwF dn9 ck9 ch9) + nI 1)) (nI ck9) (nxH ch9) ++ (bW ab cI (bkL bl9 bk9 (packF (dwF dn9 ck9 ch9) z h (flF F fk (dwF dn9 ck9 ch9) z h))) (nI (bkN bk9)) ++ (jW aj cI (nf U) jr ja (nI jk) (nI jq))))))) rfl ?_
              refine j_st (st9 := []) rfl ?_
              refine j_iconst CX dX5_zoneIsDone_73 (show _ = (nI 1 : Int32) by decide) ?_
              exact j_zret CX hr hlocks dX5_zoneIsDone_74 (rfl) (⟨by rw [← he]; rfl, by first | (rw [← he]; done) | (rw [← he]; rfl)⟩)
          · rw [hd8, zdF_x (by omega) hs12] at he
            refine j_callV CX (n := 0) (pre := xW x az af ac ab aj sp ++ (zW az cI n va9 re tr sh (nf C) (nI K) ++ (fW af cI (nf F) (nI fk)))) (post := bW ab cI bl9 (nI bk9) ++ (jW aj cI (nf U) jr ja (nI jk) (nI jq))) (rest := []) (qc := (RX1, TX1, 3)) (c_drawX l D cI cZ cL ac dn9 ck9 ch9 (by omega) hk9 hs12) gX5_zoneIsDone_X1_draw rfl (by decide +kernel) ⟨Nat.le_of_ble_eq_true rfl, Nat.le_of_ble_eq_true rfl⟩ rfl rfl rfl rfl rfl (Nat.le_of_ble_eq_true rfl) dX5_zoneIsDone_12 ⟨Nat.le_refl _, Nat.le_refl _⟩ (fun r9 w9 h9 => ?_)
            obtain ⟨rfl, rfl⟩ := h9
            refine j_w (w' := xW x az af ac ab aj sp ++ (zW az cI n va9 re tr sh (nf C) (nI K) ++ (fW af cI (nf F) (nI fk) ++ (cW ac cI dn9 (nI ck9) (nxH ch9) ++ (bW ab cI bl9 (nI bk9) ++ (jW aj cI (nf U) jr ja (nI jk) (nI jq))))))) rfl ?_
            refine j_st (st9 := [.int (-1)]) rfl ?_
            refine j_istore CX (lv' := [(4, .int (-1)), (3, .int (nI t9)), (0, .ref x), (1, .int (nI z)), (2, .int (nI h))]) dX5_zoneIsDone_15 (by decide) rfl ?_
            refine j_iload CX 0 dX5_zoneIsDone_17 rfl ?_
            refine j_iconst CX dX5_zoneIsDone_19 (show _ = ((-1) : Int32) by decide) ?_
            refine j_icmp_ne CX 25 dX5_zoneIsDone_20 (by decide) (fun h20 => absurd h20 (by decide)) (fun h20 => ?_)
            refine j_iconst CX dX5_zoneIsDone_23 (show _ = (nI 0 : Int32) by decide) ?_
            exact j_zret CX hr hlocks dX5_zoneIsDone_24 (rfl) (⟨by rw [← he]; rfl, by first | (rw [← he]; done) | (rw [← he]; rfl)⟩)
  show J p l e rmX5_zoneIsDone s m args below meth c D A 6 0 0 (MQ below (jQc D (fun r0 w0 => r0 = some (.int (nI (t2n (zdF sh n F fk z h 16 (va, dn, ck, ch, bl, bk)).1))) ∧ w0 = xW x az af ac ab aj sp ++ (zW az cI n (((zdF sh n F fk z h 16 (va, dn, ck, ch, bl, bk)).2).1) re tr sh (nf C) (nI K) ++ (fW af cI (nf F) (nI fk) ++ (cW ac cI (((zdF sh n F fk z h 16 (va, dn, ck, ch, bl, bk)).2).2.1) (nI ((zdF sh n F fk z h 16 (va, dn, ck, ch, bl, bk)).2).2.2.1) (((zdF sh n F fk z h 16 (va, dn, ck, ch, bl, bk)).2).2.2.2.1) ++ (bW ab cI (((zdF sh n F fk z h 16 (va, dn, ck, ch, bl, bk)).2).2.2.2.2.1) (nI ((zdF sh n F fk z h 16 (va, dn, ck, ch, bl, bk)).2).2.2.2.2.2) ++ (jW aj cI (nf U) jr ja (nI jk) (nI jq))))))) A) args s rmX5_zoneIsDone.cells rmX5_zoneIsDone.slots A) (xW x az af ac ab aj sp ++ (zW az cI n va re tr sh (nf C) (nI K) ++ (fW af cI (nf F) (nI fk) ++ (cW ac cI dn (nI ck) ch ++ (bW ab cI bl (nI bk) ++ (jW aj cI (nf U) jr ja (nI jk) (nI jq))))))) 0 [(0, .ref x), (1, .int (nI z)), (2, .int (nI h))] []
  refine j_iconst CX dX5_zoneIsDone_0 (show _ = (nI 0 : Int32) by decide) ?_
  refine j_istore_n CX (lv' := [(3, .int (nI 0)), (0, .ref x), (1, .int (nI z)), (2, .int (nI h))]) dX5_zoneIsDone_1 rfl (by decide) rfl ?_
  exact L2 _ 0 va dn ck ch bl bk rfl (by omega) hs rfl
