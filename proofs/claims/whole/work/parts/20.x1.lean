
theorem m1_le {k : Nat} (h : k ≤ 2000) : ¬ nI k - nI 1 < -1 := by
  intro e
  have h1 := Int32.lt_iff_toInt_lt.mp e
  rw [pk_sub_toInt (by omega) (by decide)] at h1
  have h2 : (-1 : Int32).toInt = -1 := by decide
  rw [h2] at h1
  omega
theorem nI_nltm1 {j : Nat} (h : j < 2 ^ 31) : ¬ nI j < -1 := by
  intro e
  have h1 := Int32.lt_iff_toInt_lt.mp e
  rw [nI_toInt h] at h1
  have h2 : (-1 : Int32).toInt = -1 := by decide
  rw [h2] at h1
  omega
abbrev rmX5_checkWithin : Room := { frames := 6, cells := 0, slots := 0, locals := 200 }
set_option maxRecDepth 100000 in
set_option maxHeartbeats 4000000 in
theorem x_cw (l : Launch) (D : va_G) (cI cZ cL : ClassId) (v lo hi : Int32) (g1 : ¬ v < lo) (g2 : ¬ hi < v) : Cg l D cI cZ cL yX5_checkWithin wsX5_checkWithin rmX5_checkWithin [.int v, .int lo, .int hi] (([] : va_W)) (fun r0 w0 => r0 = none ∧ w0 = ([] : va_W)) := by
  refine Cg.ofJ (own := RX5) (cc := cX5_checkWithin) (maxL := 3) (ret := none) (by decide) rfl rfl (Nat.le_of_ble_eq_true rfl) ?_
  intro p e s m args below meth c A CX hr hlocks hname
  show J p l e rmX5_checkWithin s m args below meth c D A 3 0 0 (MQ below (jQc D (fun r0 w0 => r0 = none ∧ w0 = ([] : va_W)) A) args s rmX5_checkWithin.cells rmX5_checkWithin.slots A) (([] : va_W)) 0 [(0, .int v), (1, .int lo), (2, .int hi)] []
  refine j_iload_n CX 0 dX5_checkWithin_0 rfl rfl ?_
  refine j_iload_n CX 1 dX5_checkWithin_1 rfl rfl ?_
  refine j_icmp_lt CX 10 dX5_checkWithin_2 (by decide) (fun h2 => ?_) (fun h2 => ?_)
  · exact absurd h2 g1
  · refine j_iload_n CX 0 dX5_checkWithin_5 rfl rfl ?_
    refine j_iload_n CX 2 dX5_checkWithin_6 rfl rfl ?_
    refine j_icmp_le CX 20 dX5_checkWithin_7 (by decide) (fun h7 => ?_) (fun h7 => ?_)
    · exact j_vret CX hr hlocks dX5_checkWithin_20 (⟨rfl, rfl⟩)
    · exact absurd (Int32.not_lt.mp g2) h7

abbrev rmX5_checkZone : Room := { frames := 7, cells := 0, slots := 0, locals := 222 }
set_option maxRecDepth 100000 in
set_option maxHeartbeats 4000000 in
theorem x_cz (l : Launch) (D : va_G) (cI cZ cL : ClassId) (x : Nat) (az af ac ab aj : Nat → Nat) (sp : Int32) (n : Nat) (va re tr sh : Nat → Int32) (C : Nat → Nat) (K : Nat) (F : Nat → Nat) (fk : Nat) (dn : Nat → Int32) (ck : Nat) (ch : Int32) (bl : Nat → Int32) (bk : Nat) (U : Nat → Nat) (jr ja : Nat → Int32) (jk jq : Nat) (z : Nat) (hn : n ≤ 24) (hz : z < n) : Cg l D cI cZ cL yX5_checkZone wsX5_checkZone rmX5_checkZone [.ref x, .int (nI z)] (xW x az af ac ab aj sp ++ (zW az cI n va re tr sh (nf C) (nI K) ++ (fW af cI (nf F) (nI fk) ++ (cW ac cI dn (nI ck) ch ++ (bW ab cI bl (nI bk) ++ (jW aj cI (nf U) jr ja (nI jk) (nI jq))))))) (fun r0 w0 => r0 = none ∧ w0 = xW x az af ac ab aj sp ++ (zW az cI n va re tr sh (nf C) (nI K) ++ (fW af cI (nf F) (nI fk) ++ (cW ac cI dn (nI ck) ch ++ (bW ab cI bl (nI bk) ++ (jW aj cI (nf U) jr ja (nI jk) (nI jq))))))) := by
  refine Cg.ofJ (own := RX5) (cc := cX5_checkZone) (maxL := 2) (ret := none) (by decide) rfl rfl (Nat.le_of_ble_eq_true rfl) ?_
  intro p e s m args below meth c A CX hr hlocks hname
  have hin5 : ∀ x ∈ u_ws RX5 TX5 6, x ∈ wsX5_checkZone := by decide +kernel
  have hfl23 : Cond.fieldLink RX5 23 (TX5 0).1 (TX5 0).2.1 (TX5 0).2.2.1 ∈ wsX5_checkZone := by decide +kernel
  show J p l e rmX5_checkZone s m args below meth c D A 2 0 0 (MQ below (jQc D (fun r0 w0 => r0 = none ∧ w0 = xW x az af ac ab aj sp ++ (zW az cI n va re tr sh (nf C) (nI K) ++ (fW af cI (nf F) (nI fk) ++ (cW ac cI dn (nI ck) ch ++ (bW ab cI bl (nI bk) ++ (jW aj cI (nf U) jr ja (nI jk) (nI jq))))))) A) args s rmX5_checkZone.cells rmX5_checkZone.slots A) (xW x az af ac ab aj sp ++ (zW az cI n va re tr sh (nf C) (nI K) ++ (fW af cI (nf F) (nI fk) ++ (cW ac cI dn (nI ck) ch ++ (bW ab cI bl (nI bk) ++ (jW aj cI (nf U) jr ja (nI jk) (nI jq))))))) 0 [(0, .ref x), (1, .int (nI z))] []
  refine j_iload_n CX 1 dX5_checkZone_0 rfl rfl ?_
  refine j_iconst CX dX5_checkZone_1 (show _ = (nI 0 : Int32) by decide) ?_
  refine j_aload_n CX 0 dX5_checkZone_2 rfl rfl ?_
  refine j_get CX 0 0 dX5_checkZone_3 rfl rfl hin5 (by decide) hfl23 rfl ?_
  refine j_callV CX (n := 0) (pre := xW x az af ac ab aj sp) (post := fW af cI (nf F) (nI fk) ++ (cW ac cI dn (nI ck) ch ++ (bW ab cI bl (nI bk) ++ (jW aj cI (nf U) jr ja (nI jk) (nI jq))))) (rest := [.int (nI 0), .int (nI z)]) (qc := (RX4, TX4, 7)) (z_size l D cI cZ cL az n va re tr sh (nf C) (nI K) ) gX5_checkZone_X4_size rfl (by decide +kernel) ⟨Nat.le_of_ble_eq_true rfl, Nat.le_of_ble_eq_true rfl⟩ rfl rfl rfl rfl rfl (Nat.le_of_ble_eq_true rfl) dX5_checkZone_6 ⟨Nat.le_refl _, Nat.le_refl _⟩ (fun r9 w9 h9 => ?_)
  obtain ⟨rfl, rfl⟩ := h9
  refine j_w (w' := xW x az af ac ab aj sp ++ (zW az cI n va re tr sh (nf C) (nI K) ++ (fW af cI (nf F) (nI fk) ++ (cW ac cI dn (nI ck) ch ++ (bW ab cI bl (nI bk) ++ (jW aj cI (nf U) jr ja (nI jk) (nI jq))))))) rfl ?_
  refine j_st (st9 := [.int (nI n), .int (nI 0), .int (nI z)]) rfl ?_
  refine j_iconst CX dX5_checkZone_9 (show _ = (nI 1 : Int32) by decide) ?_
  refine j_isub CX dX5_checkZone_10 ?_
  refine j_top (show ((nI n) - (nI 1)) = nI (n - 1) from pk_sub (by omega)) ?_
  refine j_callS CX (n := 3) (b := 0) (pre := []) (post := xW x az af ac ab aj sp ++ (zW az cI n va re tr sh (nf C) (nI K) ++ (fW af cI (nf F) (nI fk) ++ (cW ac cI dn (nI ck) ch ++ (bW ab cI bl (nI bk) ++ (jW aj cI (nf U) jr ja (nI jk) (nI jq))))))) (rest := []) (x_cw l D cI cZ cL (nI z) (nI 0) (nI (n - 1)) (nI_nlt (by omega) (by omega)) (nI_nlt (by omega) (by omega))) gX5_checkZone_X5_checkWithin rfl (by decide +kernel) ⟨Nat.le_of_ble_eq_true rfl, Nat.le_of_ble_eq_true rfl⟩ rfl rfl rfl (Nat.le_of_ble_eq_true rfl) dX5_checkZone_11 ⟨Nat.le_refl _, Nat.le_refl _⟩ (fun r9 w9 h9 => ?_)
  obtain ⟨rfl, rfl⟩ := h9
  refine j_w (w' := xW x az af ac ab aj sp ++ (zW az cI n va re tr sh (nf C) (nI K) ++ (fW af cI (nf F) (nI fk) ++ (cW ac cI dn (nI ck) ch ++ (bW ab cI bl (nI bk) ++ (jW aj cI (nf U) jr ja (nI jk) (nI jq))))))) rfl ?_
  refine j_st (st9 := []) rfl ?_
  exact j_vret CX hr hlocks dX5_checkZone_14 (⟨rfl, rfl⟩)

abbrev rmX5_at : Room := { frames := 8, cells := 0, slots := 0, locals := 243 }
set_option maxRecDepth 100000 in
set_option maxHeartbeats 4000000 in
theorem x_at (l : Launch) (D : va_G) (cI cZ cL : ClassId) (x : Nat) (az af ac ab aj : Nat → Nat) (sp : Int32) (n : Nat) (va re tr sh : Nat → Int32) (C : Nat → Nat) (K : Nat) (F : Nat → Nat) (fk : Nat) (dn : Nat → Int32) (ck : Nat) (ch : Int32) (bl : Nat → Int32) (bk : Nat) (U : Nat → Nat) (jr ja : Nat → Int32) (jk jq : Nat) (z : Nat) (hn : n ≤ 24) (hz : z < n) : Cg l D cI cZ cL yX5_at wsX5_at rmX5_at [.ref x, .int (nI z)] (xW x az af ac ab aj sp ++ (zW az cI n va re tr sh (nf C) (nI K) ++ (fW af cI (nf F) (nI fk) ++ (cW ac cI dn (nI ck) ch ++ (bW ab cI bl (nI bk) ++ (jW aj cI (nf U) jr ja (nI jk) (nI jq))))))) (fun r0 w0 => r0 = some (.int (va z)) ∧ w0 = xW x az af ac ab aj sp ++ (zW az cI n va re tr sh (nf C) (nI K) ++ (fW af cI (nf F) (nI fk) ++ (cW ac cI dn (nI ck) ch ++ (bW ab cI bl (nI bk) ++ (jW aj cI (nf U) jr ja (nI jk) (nI jq))))))) := by
  refine Cg.ofJ (own := RX5) (cc := cX5_at) (maxL := 2) (ret := (some .int)) (by decide) rfl rfl (Nat.le_of_ble_eq_true rfl) ?_
  intro p e s m args below meth c A CX hr hlocks hname
  have hin5 : ∀ x ∈ u_ws RX5 TX5 6, x ∈ wsX5_at := by decide +kernel
  have hfl23 : Cond.fieldLink RX5 23 (TX5 0).1 (TX5 0).2.1 (TX5 0).2.2.1 ∈ wsX5_at := by decide +kernel
  show J p l e rmX5_at s m args below meth c D A 2 0 0 (MQ below (jQc D (fun r0 w0 => r0 = some (.int (va z)) ∧ w0 = xW x az af ac ab aj sp ++ (zW az cI n va re tr sh (nf C) (nI K) ++ (fW af cI (nf F) (nI fk) ++ (cW ac cI dn (nI ck) ch ++ (bW ab cI bl (nI bk) ++ (jW aj cI (nf U) jr ja (nI jk) (nI jq))))))) A) args s rmX5_at.cells rmX5_at.slots A) (xW x az af ac ab aj sp ++ (zW az cI n va re tr sh (nf C) (nI K) ++ (fW af cI (nf F) (nI fk) ++ (cW ac cI dn (nI ck) ch ++ (bW ab cI bl (nI bk) ++ (jW aj cI (nf U) jr ja (nI jk) (nI jq))))))) 0 [(0, .ref x), (1, .int (nI z))] []
  refine j_aload_n CX 0 dX5_at_0 rfl rfl ?_
  refine j_iload_n CX 1 dX5_at_1 rfl rfl ?_
  refine j_callV CX (n := 1) (pre := []) (post := []) (rest := []) (qc := (RX5, TX5, 6)) (x_cz l D cI cZ cL x az af ac ab aj sp n va re tr sh C K F fk dn ck ch bl bk U jr ja jk jq z hn (by omega)) gX5_at_X5_checkZone rfl (by decide +kernel) ⟨Nat.le_of_ble_eq_true rfl, Nat.le_of_ble_eq_true rfl⟩ rfl rfl rfl rfl rfl (Nat.le_of_ble_eq_true rfl) dX5_at_2 ⟨Nat.le_refl _, Nat.le_refl _⟩ (fun r9 w9 h9 => ?_)
  obtain ⟨rfl, rfl⟩ := h9
  refine j_w (w' := xW x az af ac ab aj sp ++ (zW az cI n va re tr sh (nf C) (nI K) ++ (fW af cI (nf F) (nI fk) ++ (cW ac cI dn (nI ck) ch ++ (bW ab cI bl (nI bk) ++ (jW aj cI (nf U) jr ja (nI jk) (nI jq))))))) rfl ?_
  refine j_st (st9 := []) rfl ?_
  refine j_aload_n CX 0 dX5_at_5 rfl rfl ?_
  refine j_get CX 0 0 dX5_at_6 rfl rfl hin5 (by decide) hfl23 rfl ?_
  refine j_iload_n CX 1 dX5_at_9 rfl rfl ?_
  refine j_callV CX (n := 1) (pre := xW x az af ac ab aj sp) (post := fW af cI (nf F) (nI fk) ++ (cW ac cI dn (nI ck) ch ++ (bW ab cI bl (nI bk) ++ (jW aj cI (nf U) jr ja (nI jk) (nI jq))))) (rest := []) (qc := (RX4, TX4, 7)) (z_valueOf l D cI cZ cL az n va re tr sh (nf C) (nI K) z hn (by omega)) gX5_at_X4_valueOf rfl (by decide +kernel) ⟨Nat.le_of_ble_eq_true rfl, Nat.le_of_ble_eq_true rfl⟩ rfl rfl rfl rfl rfl (Nat.le_of_ble_eq_true rfl) dX5_at_10 ⟨Nat.le_refl _, Nat.le_refl _⟩ (fun r9 w9 h9 => ?_)
  obtain ⟨rfl, rfl⟩ := h9
  refine j_w (w' := xW x az af ac ab aj sp ++ (zW az cI n va re tr sh (nf C) (nI K) ++ (fW af cI (nf F) (nI fk) ++ (cW ac cI dn (nI ck) ch ++ (bW ab cI bl (nI bk) ++ (jW aj cI (nf U) jr ja (nI jk) (nI jq))))))) rfl ?_
  refine j_st (st9 := [.int (va z)]) rfl ?_
  exact j_iret CX hr hlocks dX5_at_13 (⟨rfl, rfl⟩)

abbrev rmX5_colour : Room := { frames := 8, cells := 0, slots := 0, locals := 243 }
set_option maxRecDepth 100000 in
set_option maxHeartbeats 4000000 in
theorem x_colour (l : Launch) (D : va_G) (cI cZ cL : ClassId) (x : Nat) (az af ac ab aj : Nat → Nat) (sp : Int32) (n : Nat) (va re tr sh : Nat → Int32) (C : Nat → Nat) (K : Nat) (F : Nat → Nat) (fk : Nat) (dn : Nat → Int32) (ck : Nat) (ch : Int32) (bl : Nat → Int32) (bk : Nat) (U : Nat → Nat) (jr ja : Nat → Int32) (jk jq : Nat) (z : Nat) (hn : n ≤ 24) (hz : z < n) : Cg l D cI cZ cL yX5_colour wsX5_colour rmX5_colour [.ref x, .int (nI z)] (xW x az af ac ab aj sp ++ (zW az cI n va re tr sh (nf C) (nI K) ++ (fW af cI (nf F) (nI fk) ++ (cW ac cI dn (nI ck) ch ++ (bW ab cI bl (nI bk) ++ (jW aj cI (nf U) jr ja (nI jk) (nI jq))))))) (fun r0 w0 => r0 = some (.int (nI (C z))) ∧ w0 = xW x az af ac ab aj sp ++ (zW az cI n va re tr sh (nf C) (nI K) ++ (fW af cI (nf F) (nI fk) ++ (cW ac cI dn (nI ck) ch ++ (bW ab cI bl (nI bk) ++ (jW aj cI (nf U) jr ja (nI jk) (nI jq))))))) := by
  refine Cg.ofJ (own := RX5) (cc := cX5_colour) (maxL := 2) (ret := (some .int)) (by decide) rfl rfl (Nat.le_of_ble_eq_true rfl) ?_
  intro p e s m args below meth c A CX hr hlocks hname
  have hin5 : ∀ x ∈ u_ws RX5 TX5 6, x ∈ wsX5_colour := by decide +kernel
  have hfl23 : Cond.fieldLink RX5 23 (TX5 0).1 (TX5 0).2.1 (TX5 0).2.2.1 ∈ wsX5_colour := by decide +kernel
  show J p l e rmX5_colour s m args below meth c D A 2 0 0 (MQ below (jQc D (fun r0 w0 => r0 = some (.int (nI (C z))) ∧ w0 = xW x az af ac ab aj sp ++ (zW az cI n va re tr sh (nf C) (nI K) ++ (fW af cI (nf F) (nI fk) ++ (cW ac cI dn (nI ck) ch ++ (bW ab cI bl (nI bk) ++ (jW aj cI (nf U) jr ja (nI jk) (nI jq))))))) A) args s rmX5_colour.cells rmX5_colour.slots A) (xW x az af ac ab aj sp ++ (zW az cI n va re tr sh (nf C) (nI K) ++ (fW af cI (nf F) (nI fk) ++ (cW ac cI dn (nI ck) ch ++ (bW ab cI bl (nI bk) ++ (jW aj cI (nf U) jr ja (nI jk) (nI jq))))))) 0 [(0, .ref x), (1, .int (nI z))] []
  refine j_aload_n CX 0 dX5_colour_0 rfl rfl ?_
  refine j_iload_n CX 1 dX5_colour_1 rfl rfl ?_
  refine j_callV CX (n := 1) (pre := []) (post := []) (rest := []) (qc := (RX5, TX5, 6)) (x_cz l D cI cZ cL x az af ac ab aj sp n va re tr sh C K F fk dn ck ch bl bk U jr ja jk jq z hn (by omega)) gX5_colour_X5_checkZone rfl (by decide +kernel) ⟨Nat.le_of_ble_eq_true rfl, Nat.le_of_ble_eq_true rfl⟩ rfl rfl rfl rfl rfl (Nat.le_of_ble_eq_true rfl) dX5_colour_2 ⟨Nat.le_refl _, Nat.le_refl _⟩ (fun r9 w9 h9 => ?_)
  obtain ⟨rfl, rfl⟩ := h9
  refine j_w (w' := xW x az af ac ab aj sp ++ (zW az cI n va re tr sh (nf C) (nI K) ++ (fW af cI (nf F) (nI fk) ++ (cW ac cI dn (nI ck) ch ++ (bW ab cI bl (nI bk) ++ (jW aj cI (nf U) jr ja (nI jk) (nI jq))))))) rfl ?_
  refine j_st (st9 := []) rfl ?_
  refine j_aload_n CX 0 dX5_colour_5 rfl rfl ?_
  refine j_get CX 0 0 dX5_colour_6 rfl rfl hin5 (by decide) hfl23 rfl ?_
  refine j_iload_n CX 1 dX5_colour_9 rfl rfl ?_
  refine j_callV CX (n := 1) (pre := xW x az af ac ab aj sp) (post := fW af cI (nf F) (nI fk) ++ (cW ac cI dn (nI ck) ch ++ (bW ab cI bl (nI bk) ++ (jW aj cI (nf U) jr ja (nI jk) (nI jq))))) (rest := []) (qc := (RX4, TX4, 7)) (z_colourOf l D cI cZ cL az n va re tr sh (nf C) (nI K) z hn (by omega)) gX5_colour_X4_colourOf rfl (by decide +kernel) ⟨Nat.le_of_ble_eq_true rfl, Nat.le_of_ble_eq_true rfl⟩ rfl rfl rfl rfl rfl (Nat.le_of_ble_eq_true rfl) dX5_colour_10 ⟨Nat.le_refl _, Nat.le_refl _⟩ (fun r9 w9 h9 => ?_)
  obtain ⟨rfl, rfl⟩ := h9
  refine j_w (w' := xW x az af ac ab aj sp ++ (zW az cI n va re tr sh (nf C) (nI K) ++ (fW af cI (nf F) (nI fk) ++ (cW ac cI dn (nI ck) ch ++ (bW ab cI bl (nI bk) ++ (jW aj cI (nf U) jr ja (nI jk) (nI jq))))))) rfl ?_
  refine j_st (st9 := [.int (nI (C z))]) rfl ?_
  exact j_iret CX hr hlocks dX5_colour_13 (⟨rfl, rfl⟩)

abbrev rmX5_colours : Room := { frames := 1, cells := 0, slots := 0, locals := 20 }
set_option maxRecDepth 100000 in
set_option maxHeartbeats 4000000 in
theorem x_colours (l : Launch) (D : va_G) (cI cZ cL : ClassId) (x : Nat) (az af ac ab aj : Nat → Nat) (sp : Int32) (n : Nat) (va re tr sh : Nat → Int32) (C : Nat → Nat) (K : Nat) (F : Nat → Nat) (fk : Nat) (dn : Nat → Int32) (ck : Nat) (ch : Int32) (bl : Nat → Int32) (bk : Nat) (U : Nat → Nat) (jr ja : Nat → Int32) (jk jq : Nat)  : Cg l D cI cZ cL yX5_colours wsX5_colours rmX5_colours [.ref x] (xW x az af ac ab aj sp ++ (zW az cI n va re tr sh (nf C) (nI K) ++ (fW af cI (nf F) (nI fk) ++ (cW ac cI dn (nI ck) ch ++ (bW ab cI bl (nI bk) ++ (jW aj cI (nf U) jr ja (nI jk) (nI jq))))))) (fun r0 w0 => r0 = some (.int (nI K)) ∧ w0 = xW x az af ac ab aj sp ++ (zW az cI n va re tr sh (nf C) (nI K) ++ (fW af cI (nf F) (nI fk) ++ (cW ac cI dn (nI ck) ch ++ (bW ab cI bl (nI bk) ++ (jW aj cI (nf U) jr ja (nI jk) (nI jq))))))) := by
  refine Cg.ofJ (own := RX5) (cc := cX5_colours) (maxL := 1) (ret := (some .int)) (by decide) rfl rfl (Nat.le_of_ble_eq_true rfl) ?_
  intro p e s m args below meth c A CX hr hlocks hname
  have hin5 : ∀ x ∈ u_ws RX5 TX5 6, x ∈ wsX5_colours := by decide +kernel
  have hfl23 : Cond.fieldLink RX5 23 (TX5 0).1 (TX5 0).2.1 (TX5 0).2.2.1 ∈ wsX5_colours := by decide +kernel
  show J p l e rmX5_colours s m args below meth c D A 1 0 0 (MQ below (jQc D (fun r0 w0 => r0 = some (.int (nI K)) ∧ w0 = xW x az af ac ab aj sp ++ (zW az cI n va re tr sh (nf C) (nI K) ++ (fW af cI (nf F) (nI fk) ++ (cW ac cI dn (nI ck) ch ++ (bW ab cI bl (nI bk) ++ (jW aj cI (nf U) jr ja (nI jk) (nI jq))))))) A) args s rmX5_colours.cells rmX5_colours.slots A) (xW x az af ac ab aj sp ++ (zW az cI n va re tr sh (nf C) (nI K) ++ (fW af cI (nf F) (nI fk) ++ (cW ac cI dn (nI ck) ch ++ (bW ab cI bl (nI bk) ++ (jW aj cI (nf U) jr ja (nI jk) (nI jq))))))) 0 [(0, .ref x)] []
  refine j_aload_n CX 0 dX5_colours_0 rfl rfl ?_
  refine j_get CX 0 0 dX5_colours_1 rfl rfl hin5 (by decide) hfl23 rfl ?_
  refine j_callV CX (n := 0) (pre := xW x az af ac ab aj sp) (post := fW af cI (nf F) (nI fk) ++ (cW ac cI dn (nI ck) ch ++ (bW ab cI bl (nI bk) ++ (jW aj cI (nf U) jr ja (nI jk) (nI jq))))) (rest := []) (qc := (RX4, TX4, 7)) (z_cc l D cI cZ cL az n va re tr sh (nf C) (nI K) ) gX5_colours_X4_colourCount rfl (by decide +kernel) ⟨Nat.le_of_ble_eq_true rfl, Nat.le_of_ble_eq_true rfl⟩ rfl rfl rfl rfl rfl (Nat.le_of_ble_eq_true rfl) dX5_colours_4 ⟨Nat.le_refl _, Nat.le_refl _⟩ (fun r9 w9 h9 => ?_)
  obtain ⟨rfl, rfl⟩ := h9
  refine j_w (w' := xW x az af ac ab aj sp ++ (zW az cI n va re tr sh (nf C) (nI K) ++ (fW af cI (nf F) (nI fk) ++ (cW ac cI dn (nI ck) ch ++ (bW ab cI bl (nI bk) ++ (jW aj cI (nf U) jr ja (nI jk) (nI jq))))))) rfl ?_
  refine j_st (st9 := [.int (nI K)]) rfl ?_
  exact j_iret CX hr hlocks dX5_colours_7 (⟨rfl, rfl⟩)

abbrev rmX5_sum : Room := { frames := 9, cells := 0, slots := 0, locals := 446 }
set_option maxRecDepth 100000 in
set_option maxHeartbeats 4000000 in
theorem x_sum (l : Launch) (D : va_G) (cI cZ cL : ClassId) (x : Nat) (az af ac ab aj : Nat → Nat) (sp : Int32) (n : Nat) (va re tr sh : Nat → Int32) (C : Nat → Nat) (K : Nat) (F : Nat → Nat) (fk : Nat) (dn : Nat → Int32) (ck : Nat) (ch : Int32) (bl : Nat → Int32) (bk : Nat) (U : Nat → Nat) (jr ja : Nat → Int32) (jk jq : Nat) (hn : n ≤ 24) (h1 : 1 ≤ n) : Cg l D cI cZ cL yX5_sum wsX5_sum rmX5_sum [.ref x] (xW x az af ac ab aj sp ++ (zW az cI n va re tr sh (nf C) (nI K) ++ (fW af cI (nf F) (nI fk) ++ (cW ac cI dn (nI ck) ch ++ (bW ab cI bl (nI bk) ++ (jW aj cI (nf U) jr ja (nI jk) (nI jq))))))) (fun r0 w0 => r0 = some (.int (tsF va 5 0 n)) ∧ w0 = xW x az af ac ab aj sp ++ (zW az cI n va re tr sh (nf C) (nI K) ++ (fW af cI (nf F) (nI fk) ++ (cW ac cI dn (nI ck) ch ++ (bW ab cI bl (nI bk) ++ (jW aj cI (nf U) jr ja (nI jk) (nI jq))))))) := by
  refine Cg.ofJ (own := RX5) (cc := cX5_sum) (maxL := 1) (ret := (some .int)) (by decide) rfl rfl (Nat.le_of_ble_eq_true rfl) ?_
  intro p e s m args below meth c A CX hr hlocks hname
  have hin5 : ∀ x ∈ u_ws RX5 TX5 6, x ∈ wsX5_sum := by decide +kernel
  have hfl23 : Cond.fieldLink RX5 23 (TX5 0).1 (TX5 0).2.1 (TX5 0).2.2.1 ∈ wsX5_sum := by decide +kernel
  show J p l e rmX5_sum s m args below meth c D A 1 0 0 (MQ below (jQc D (fun r0 w0 => r0 = some (.int (tsF va 5 0 n)) ∧ w0 = xW x az af ac ab aj sp ++ (zW az cI n va re tr sh (nf C) (nI K) ++ (fW af cI (nf F) (nI fk) ++ (cW ac cI dn (nI ck) ch ++ (bW ab cI bl (nI bk) ++ (jW aj cI (nf U) jr ja (nI jk) (nI jq))))))) A) args s rmX5_sum.cells rmX5_sum.slots A) (xW x az af ac ab aj sp ++ (zW az cI n va re tr sh (nf C) (nI K) ++ (fW af cI (nf F) (nI fk) ++ (cW ac cI dn (nI ck) ch ++ (bW ab cI bl (nI bk) ++ (jW aj cI (nf U) jr ja (nI jk) (nI jq))))))) 0 [(0, .ref x)] []
  refine j_aload_n CX 0 dX5_sum_0 rfl rfl ?_
  refine j_get CX 0 0 dX5_sum_1 rfl rfl hin5 (by decide) hfl23 rfl ?_
  refine j_callV CX (n := 0) (pre := xW x az af ac ab aj sp) (post := fW af cI (nf F) (nI fk) ++ (cW ac cI dn (nI ck) ch ++ (bW ab cI bl (nI bk) ++ (jW aj cI (nf U) jr ja (nI jk) (nI jq))))) (rest := []) (qc := (RX4, TX4, 7)) (z_total l D cI cZ cL az n va re tr sh (nf C) (nI K) hn h1) gX5_sum_X4_total rfl (by decide +kernel) ⟨Nat.le_of_ble_eq_true rfl, Nat.le_of_ble_eq_true rfl⟩ rfl rfl rfl rfl rfl (Nat.le_of_ble_eq_true rfl) dX5_sum_4 ⟨Nat.le_refl _, Nat.le_refl _⟩ (fun r9 w9 h9 => ?_)
  obtain ⟨rfl, rfl⟩ := h9
  refine j_w (w' := xW x az af ac ab aj sp ++ (zW az cI n va re tr sh (nf C) (nI K) ++ (fW af cI (nf F) (nI fk) ++ (cW ac cI dn (nI ck) ch ++ (bW ab cI bl (nI bk) ++ (jW aj cI (nf U) jr ja (nI jk) (nI jq))))))) rfl ?_
  refine j_st (st9 := [.int (tsF va 5 0 n)]) rfl ?_
  exact j_iret CX hr hlocks dX5_sum_7 (⟨rfl, rfl⟩)

abbrev rmX5_did : Room := { frames := 7, cells := 0, slots := 0, locals := 222 }
set_option maxRecDepth 100000 in
set_option maxHeartbeats 4000000 in
theorem x_did (l : Launch) (D : va_G) (cI cZ cL : ClassId) (x : Nat) (az af ac ab aj : Nat → Nat) (sp : Int32) (n : Nat) (va re tr sh : Nat → Int32) (C : Nat → Nat) (K : Nat) (F : Nat → Nat) (fk : Nat) (dn : Nat → Int32) (ck : Nat) (ch : Int32) (bl : Nat → Int32) (bk : Nat) (U : Nat → Nat) (jr ja : Nat → Int32) (jk jq : Nat) (w : Nat) (hw : w < 16) : Cg l D cI cZ cL yX5_did wsX5_did rmX5_did [.ref x, .int (nI w)] (xW x az af ac ab aj sp ++ (zW az cI n va re tr sh (nf C) (nI K) ++ (fW af cI (nf F) (nI fk) ++ (cW ac cI dn (nI ck) ch ++ (bW ab cI bl (nI bk) ++ (jW aj cI (nf U) jr ja (nI jk) (nI jq))))))) (fun r0 w0 => r0 = some (.int (dn w)) ∧ w0 = xW x az af ac ab aj sp ++ (zW az cI n va re tr sh (nf C) (nI K) ++ (fW af cI (nf F) (nI fk) ++ (cW ac cI dn (nI ck) ch ++ (bW ab cI bl (nI bk) ++ (jW aj cI (nf U) jr ja (nI jk) (nI jq))))))) := by
  refine Cg.ofJ (own := RX5) (cc := cX5_did) (maxL := 2) (ret := (some .int)) (by decide) rfl rfl (Nat.le_of_ble_eq_true rfl) ?_
  intro p e s m args below meth c A CX hr hlocks hname
  have hin5 : ∀ x ∈ u_ws RX5 TX5 6, x ∈ wsX5_did := by decide +kernel
  have hfl37 : Cond.fieldLink RX5 37 (TX5 2).1 (TX5 2).2.1 (TX5 2).2.2.1 ∈ wsX5_did := by decide +kernel
  show J p l e rmX5_did s m args below meth c D A 2 0 0 (MQ below (jQc D (fun r0 w0 => r0 = some (.int (dn w)) ∧ w0 = xW x az af ac ab aj sp ++ (zW az cI n va re tr sh (nf C) (nI K) ++ (fW af cI (nf F) (nI fk) ++ (cW ac cI dn (nI ck) ch ++ (bW ab cI bl (nI bk) ++ (jW aj cI (nf U) jr ja (nI jk) (nI jq))))))) A) args s rmX5_did.cells rmX5_did.slots A) (xW x az af ac ab aj sp ++ (zW az cI n va re tr sh (nf C) (nI K) ++ (fW af cI (nf F) (nI fk) ++ (cW ac cI dn (nI ck) ch ++ (bW ab cI bl (nI bk) ++ (jW aj cI (nf U) jr ja (nI jk) (nI jq))))))) 0 [(0, .ref x), (1, .int (nI w))] []
  refine j_iload_n CX 1 dX5_did_0 rfl rfl ?_
  refine j_iconst CX dX5_did_1 (show _ = (nI 0 : Int32) by decide) ?_
  refine j_bipush CX dX5_did_2 (show _ = (nI 15 : Int32) by decide) ?_
  refine j_callS CX (n := 3) (b := 0) (pre := []) (post := xW x az af ac ab aj sp ++ (zW az cI n va re tr sh (nf C) (nI K) ++ (fW af cI (nf F) (nI fk) ++ (cW ac cI dn (nI ck) ch ++ (bW ab cI bl (nI bk) ++ (jW aj cI (nf U) jr ja (nI jk) (nI jq))))))) (rest := []) (x_cw l D cI cZ cL (nI w) (nI 0) (nI 15) (nI_nlt (by omega) (by omega)) (nI_nlt (by omega) (by omega))) gX5_did_X5_checkWithin rfl (by decide +kernel) ⟨Nat.le_of_ble_eq_true rfl, Nat.le_of_ble_eq_true rfl⟩ rfl rfl rfl (Nat.le_of_ble_eq_true rfl) dX5_did_4 ⟨Nat.le_refl _, Nat.le_refl _⟩ (fun r9 w9 h9 => ?_)
  obtain ⟨rfl, rfl⟩ := h9
  refine j_w (w' := xW x az af ac ab aj sp ++ (zW az cI n va re tr sh (nf C) (nI K) ++ (fW af cI (nf F) (nI fk) ++ (cW ac cI dn (nI ck) ch ++ (bW ab cI bl (nI bk) ++ (jW aj cI (nf U) jr ja (nI jk) (nI jq))))))) rfl ?_
  refine j_st (st9 := []) rfl ?_
  refine j_aload_n CX 0 dX5_did_7 rfl rfl ?_
  refine j_get CX 0 2 dX5_did_8 rfl rfl hin5 (by decide) hfl37 rfl ?_
  refine j_iload_n CX 1 dX5_did_11 rfl rfl ?_
  refine j_callV CX (n := 1) (pre := xW x az af ac ab aj sp ++ (zW az cI n va re tr sh (nf C) (nI K) ++ (fW af cI (nf F) (nI fk)))) (post := bW ab cI bl (nI bk) ++ (jW aj cI (nf U) jr ja (nI jk) (nI jq))) (rest := []) (qc := (RX1, TX1, 3)) (c_doneBy l D cI cZ cL ac dn ck ch w hw) gX5_did_X1_doneBy rfl (by decide +kernel) ⟨Nat.le_of_ble_eq_true rfl, Nat.le_of_ble_eq_true rfl⟩ rfl rfl rfl rfl rfl (Nat.le_of_ble_eq_true rfl) dX5_did_12 ⟨Nat.le_refl _, Nat.le_refl _⟩ (fun r9 w9 h9 => ?_)
  obtain ⟨rfl, rfl⟩ := h9
  refine j_w (w' := xW x az af ac ab aj sp ++ (zW az cI n va re tr sh (nf C) (nI K) ++ (fW af cI (nf F) (nI fk) ++ (cW ac cI dn (nI ck) ch ++ (bW ab cI bl (nI bk) ++ (jW aj cI (nf U) jr ja (nI jk) (nI jq))))))) rfl ?_
  refine j_st (st9 := [.int (dn w)]) rfl ?_
  exact j_iret CX hr hlocks dX5_did_15 (⟨rfl, rfl⟩)

abbrev rmX5_value : Room := { frames := 8, cells := 0, slots := 0, locals := 243 }
set_option maxRecDepth 100000 in
set_option maxHeartbeats 4000000 in
theorem x_value (l : Launch) (D : va_G) (cI cZ cL : ClassId) (x : Nat) (az af ac ab aj : Nat → Nat) (sp : Int32) (n : Nat) (va re tr sh : Nat → Int32) (C : Nat → Nat) (K : Nat) (F : Nat → Nat) (fk : Nat) (dn : Nat → Int32) (ck : Nat) (ch : Int32) (bl : Nat → Int32) (bk : Nat) (U : Nat → Nat) (jr ja : Nat → Int32) (jk jq : Nat) (z : Nat) (v : Int32) (hn : n ≤ 24) (hz : z < n) (hv1 : ¬ v < -1000000) (hv2 : ¬ 1000000 < v) : Cg l D cI cZ cL yX5_value wsX5_value rmX5_value [.ref x, .int (nI z), .int v] (xW x az af ac ab aj sp ++ (zW az cI n va re tr sh (nf C) (nI K) ++ (fW af cI (nf F) (nI fk) ++ (cW ac cI dn (nI ck) ch ++ (bW ab cI bl (nI bk) ++ (jW aj cI (nf U) jr ja (nI jk) (nI jq))))))) (fun r0 w0 => r0 = some (.int (va z)) ∧ w0 = xW x az af ac ab aj sp ++ (zW az cI n (upd va z v) re tr sh (nf C) (nI K) ++ (fW af cI (nf F) (nI fk) ++ (cW ac cI dn (nI ck) ch ++ (bW ab cI bl (nI bk) ++ (jW aj cI (nf U) jr ja (nI jk) (nI jq))))))) := by
  refine Cg.ofJ (own := RX5) (cc := cX5_value) (maxL := 4) (ret := (some .int)) (by decide) rfl rfl (Nat.le_of_ble_eq_true rfl) ?_
  intro p e s m args below meth c A CX hr hlocks hname
  have hcn79 : Cond.constant RX5 79 (-1000000) ∈ wsX5_value := by decide +kernel
  have hcn80 : Cond.constant RX5 80 (1000000) ∈ wsX5_value := by decide +kernel
  have hin5 : ∀ x ∈ u_ws RX5 TX5 6, x ∈ wsX5_value := by decide +kernel
  have hfl23 : Cond.fieldLink RX5 23 (TX5 0).1 (TX5 0).2.1 (TX5 0).2.2.1 ∈ wsX5_value := by decide +kernel
  show J p l e rmX5_value s m args below meth c D A 4 0 0 (MQ below (jQc D (fun r0 w0 => r0 = some (.int (va z)) ∧ w0 = xW x az af ac ab aj sp ++ (zW az cI n (upd va z v) re tr sh (nf C) (nI K) ++ (fW af cI (nf F) (nI fk) ++ (cW ac cI dn (nI ck) ch ++ (bW ab cI bl (nI bk) ++ (jW aj cI (nf U) jr ja (nI jk) (nI jq))))))) A) args s rmX5_value.cells rmX5_value.slots A) (xW x az af ac ab aj sp ++ (zW az cI n va re tr sh (nf C) (nI K) ++ (fW af cI (nf F) (nI fk) ++ (cW ac cI dn (nI ck) ch ++ (bW ab cI bl (nI bk) ++ (jW aj cI (nf U) jr ja (nI jk) (nI jq))))))) 0 [(0, .ref x), (1, .int (nI z)), (2, .int v)] []
  refine j_aload_n CX 0 dX5_value_0 rfl rfl ?_
  refine j_iload_n CX 1 dX5_value_1 rfl rfl ?_
  refine j_callV CX (n := 1) (pre := []) (post := []) (rest := []) (qc := (RX5, TX5, 6)) (x_cz l D cI cZ cL x az af ac ab aj sp n va re tr sh C K F fk dn ck ch bl bk U jr ja jk jq z hn (by omega)) gX5_value_X5_checkZone rfl (by decide +kernel) ⟨Nat.le_of_ble_eq_true rfl, Nat.le_of_ble_eq_true rfl⟩ rfl rfl rfl rfl rfl (Nat.le_of_ble_eq_true rfl) dX5_value_2 ⟨Nat.le_refl _, Nat.le_refl _⟩ (fun r9 w9 h9 => ?_)
  obtain ⟨rfl, rfl⟩ := h9
  refine j_w (w' := xW x az af ac ab aj sp ++ (zW az cI n va re tr sh (nf C) (nI K) ++ (fW af cI (nf F) (nI fk) ++ (cW ac cI dn (nI ck) ch ++ (bW ab cI bl (nI bk) ++ (jW aj cI (nf U) jr ja (nI jk) (nI jq))))))) rfl ?_
  refine j_st (st9 := []) rfl ?_
  refine j_iload_n CX 2 dX5_value_5 rfl rfl ?_
  refine j_ldc CX dX5_value_6 hcn79 ?_
  refine j_ldc CX dX5_value_8 hcn80 ?_
  refine j_callS CX (n := 3) (b := 0) (pre := []) (post := xW x az af ac ab aj sp ++ (zW az cI n va re tr sh (nf C) (nI K) ++ (fW af cI (nf F) (nI fk) ++ (cW ac cI dn (nI ck) ch ++ (bW ab cI bl (nI bk) ++ (jW aj cI (nf U) jr ja (nI jk) (nI jq))))))) (rest := []) (x_cw l D cI cZ cL v (-1000000) 1000000 hv1 hv2) gX5_value_X5_checkWithin rfl (by decide +kernel) ⟨Nat.le_of_ble_eq_true rfl, Nat.le_of_ble_eq_true rfl⟩ rfl rfl rfl (Nat.le_of_ble_eq_true rfl) dX5_value_10 ⟨Nat.le_refl _, Nat.le_refl _⟩ (fun r9 w9 h9 => ?_)
  obtain ⟨rfl, rfl⟩ := h9
  refine j_w (w' := xW x az af ac ab aj sp ++ (zW az cI n va re tr sh (nf C) (nI K) ++ (fW af cI (nf F) (nI fk) ++ (cW ac cI dn (nI ck) ch ++ (bW ab cI bl (nI bk) ++ (jW aj cI (nf U) jr ja (nI jk) (nI jq))))))) rfl ?_
  refine j_st (st9 := []) rfl ?_
  refine j_aload_n CX 0 dX5_value_13 rfl rfl ?_
  refine j_get CX 0 0 dX5_value_14 rfl rfl hin5 (by decide) hfl23 rfl ?_
  refine j_iload_n CX 1 dX5_value_17 rfl rfl ?_
  refine j_callV CX (n := 1) (pre := xW x az af ac ab aj sp) (post := fW af cI (nf F) (nI fk) ++ (cW ac cI dn (nI ck) ch ++ (bW ab cI bl (nI bk) ++ (jW aj cI (nf U) jr ja (nI jk) (nI jq))))) (rest := []) (qc := (RX4, TX4, 7)) (z_valueOf l D cI cZ cL az n va re tr sh (nf C) (nI K) z hn (by omega)) gX5_value_X4_valueOf rfl (by decide +kernel) ⟨Nat.le_of_ble_eq_true rfl, Nat.le_of_ble_eq_true rfl⟩ rfl rfl rfl rfl rfl (Nat.le_of_ble_eq_true rfl) dX5_value_18 ⟨Nat.le_refl _, Nat.le_refl _⟩ (fun r9 w9 h9 => ?_)
  obtain ⟨rfl, rfl⟩ := h9
  refine j_w (w' := xW x az af ac ab aj sp ++ (zW az cI n va re tr sh (nf C) (nI K) ++ (fW af cI (nf F) (nI fk) ++ (cW ac cI dn (nI ck) ch ++ (bW ab cI bl (nI bk) ++ (jW aj cI (nf U) jr ja (nI jk) (nI jq))))))) rfl ?_
  refine j_st (st9 := [.int (va z)]) rfl ?_
  refine j_istore_n CX (lv' := [(3, .int (va z)), (0, .ref x), (1, .int (nI z)), (2, .int v)]) dX5_value_21 rfl (by decide) rfl ?_
  refine j_aload_n CX 1 dX5_value_22 rfl rfl ?_
  refine j_get CX 0 0 dX5_value_23 rfl rfl hin5 (by decide) hfl23 rfl ?_
  refine j_iload_n CX 2 dX5_value_26 rfl rfl ?_
  refine j_iload_n CX 3 dX5_value_27 rfl rfl ?_
  refine j_callV CX (n := 2) (pre := xW x az af ac ab aj sp) (post := fW af cI (nf F) (nI fk) ++ (cW ac cI dn (nI ck) ch ++ (bW ab cI bl (nI bk) ++ (jW aj cI (nf U) jr ja (nI jk) (nI jq))))) (rest := []) (qc := (RX4, TX4, 7)) (z_put l D cI cZ cL az n va re tr sh (nf C) (nI K) z v hn (by omega)) gX5_value_X4_put rfl (by decide +kernel) ⟨Nat.le_of_ble_eq_true rfl, Nat.le_of_ble_eq_true rfl⟩ rfl rfl rfl rfl rfl (Nat.le_of_ble_eq_true rfl) dX5_value_28 ⟨Nat.le_refl _, Nat.le_refl _⟩ (fun r9 w9 h9 => ?_)
  obtain ⟨rfl, rfl⟩ := h9
  refine j_w (w' := xW x az af ac ab aj sp ++ (zW az cI n (upd va z v) re tr sh (nf C) (nI K) ++ (fW af cI (nf F) (nI fk) ++ (cW ac cI dn (nI ck) ch ++ (bW ab cI bl (nI bk) ++ (jW aj cI (nf U) jr ja (nI jk) (nI jq))))))) rfl ?_
  refine j_st (st9 := []) rfl ?_
  refine j_iload_n CX 0 dX5_value_31 rfl rfl ?_
  exact j_iret CX hr hlocks dX5_value_32 (⟨rfl, rfl⟩)

abbrev rmX5_stops : Room := { frames := 7, cells := 0, slots := 0, locals := 222 }
set_option maxRecDepth 100000 in
set_option maxHeartbeats 4000000 in
theorem x_stops (l : Launch) (D : va_G) (cI cZ cL : ClassId) (x : Nat) (az af ac ab aj : Nat → Nat) (sp : Int32) (n : Nat) (va re tr sh : Nat → Int32) (C : Nat → Nat) (K : Nat) (F : Nat → Nat) (fk : Nat) (dn : Nat → Int32) (ck : Nat) (ch : Int32) (bl : Nat → Int32) (bk : Nat) (U : Nat → Nat) (jr ja : Nat → Int32) (jk jq : Nat) (v : Int32) (hv1 : ¬ v < -1) (hv2 : ¬ nI 999 < v) : Cg l D cI cZ cL yX5_stops wsX5_stops rmX5_stops [.ref x, .int v] (xW x az af ac ab aj sp ++ (zW az cI n va re tr sh (nf C) (nI K) ++ (fW af cI (nf F) (nI fk) ++ (cW ac cI dn (nI ck) ch ++ (bW ab cI bl (nI bk) ++ (jW aj cI (nf U) jr ja (nI jk) (nI jq))))))) (fun r0 w0 => r0 = some (.int sp) ∧ w0 = xW x az af ac ab aj v ++ (zW az cI n va re tr sh (nf C) (nI K) ++ (fW af cI (nf F) (nI fk) ++ (cW ac cI dn (nI ck) ch ++ (bW ab cI bl (nI bk) ++ (jW aj cI (nf U) jr ja (nI jk) (nI jq))))))) := by
  refine Cg.ofJ (own := RX5) (cc := cX5_stops) (maxL := 3) (ret := (some .int)) (by decide) rfl rfl (Nat.le_of_ble_eq_true rfl) ?_
  intro p e s m args below meth c A CX hr hlocks hname
  have hin5 : ∀ x ∈ u_ws RX5 TX5 6, x ∈ wsX5_stops := by decide +kernel
  have hfl55 : Cond.fieldLink RX5 55 (TX5 5).1 (TX5 5).2.1 (TX5 5).2.2.1 ∈ wsX5_stops := by decide +kernel
  show J p l e rmX5_stops s m args below meth c D A 3 0 0 (MQ below (jQc D (fun r0 w0 => r0 = some (.int sp) ∧ w0 = xW x az af ac ab aj v ++ (zW az cI n va re tr sh (nf C) (nI K) ++ (fW af cI (nf F) (nI fk) ++ (cW ac cI dn (nI ck) ch ++ (bW ab cI bl (nI bk) ++ (jW aj cI (nf U) jr ja (nI jk) (nI jq))))))) A) args s rmX5_stops.cells rmX5_stops.slots A) (xW x az af ac ab aj sp ++ (zW az cI n va re tr sh (nf C) (nI K) ++ (fW af cI (nf F) (nI fk) ++ (cW ac cI dn (nI ck) ch ++ (bW ab cI bl (nI bk) ++ (jW aj cI (nf U) jr ja (nI jk) (nI jq))))))) 0 [(0, .ref x), (1, .int v)] []
  refine j_iload_n CX 1 dX5_stops_0 rfl rfl ?_
  refine j_iconst CX dX5_stops_1 (show _ = ((-1) : Int32) by decide) ?_
  refine j_sipush CX dX5_stops_2 (show _ = (nI 999 : Int32) by decide) ?_
  refine j_callS CX (n := 3) (b := 0) (pre := []) (post := xW x az af ac ab aj sp ++ (zW az cI n va re tr sh (nf C) (nI K) ++ (fW af cI (nf F) (nI fk) ++ (cW ac cI dn (nI ck) ch ++ (bW ab cI bl (nI bk) ++ (jW aj cI (nf U) jr ja (nI jk) (nI jq))))))) (rest := []) (x_cw l D cI cZ cL v (-1) (nI 999) hv1 hv2) gX5_stops_X5_checkWithin rfl (by decide +kernel) ⟨Nat.le_of_ble_eq_true rfl, Nat.le_of_ble_eq_true rfl⟩ rfl rfl rfl (Nat.le_of_ble_eq_true rfl) dX5_stops_5 ⟨Nat.le_refl _, Nat.le_refl _⟩ (fun r9 w9 h9 => ?_)
  obtain ⟨rfl, rfl⟩ := h9
  refine j_w (w' := xW x az af ac ab aj sp ++ (zW az cI n va re tr sh (nf C) (nI K) ++ (fW af cI (nf F) (nI fk) ++ (cW ac cI dn (nI ck) ch ++ (bW ab cI bl (nI bk) ++ (jW aj cI (nf U) jr ja (nI jk) (nI jq))))))) rfl ?_
  refine j_st (st9 := []) rfl ?_
  refine j_aload_n CX 0 dX5_stops_8 rfl rfl ?_
  refine j_get CX 0 5 dX5_stops_9 rfl rfl hin5 (by decide) hfl55 rfl ?_
  refine j_istore_n CX (lv' := [(2, .int sp), (0, .ref x), (1, .int v)]) dX5_stops_12 rfl (by decide) rfl ?_
  refine j_aload_n CX 1 dX5_stops_13 rfl rfl ?_
  refine j_iload_n CX 2 dX5_stops_14 rfl rfl ?_
  refine j_put CX (w' := xW x az af ac ab aj v ++ (zW az cI n va re tr sh (nf C) (nI K) ++ (fW af cI (nf F) (nI fk) ++ (cW ac cI dn (nI ck) ch ++ (bW ab cI bl (nI bk) ++ (jW aj cI (nf U) jr ja (nI jk) (nI jq))))))) 0 5 dX5_stops_15 rfl rfl hin5 tyX5 tyX5_ok nmX5 (by decide) hfl55 rfl rfl rfl rfl (Nat.le_of_ble_eq_true rfl) rfl ?_
  refine j_iload_n CX 0 dX5_stops_18 rfl rfl ?_
  exact j_iret CX hr hlocks dX5_stops_19 (⟨rfl, rfl⟩)

abbrev rmX5_wall : Room := { frames := 8, cells := 0, slots := 0, locals := 243 }
set_option maxRecDepth 100000 in
set_option maxHeartbeats 4000000 in
theorem x_wall (l : Launch) (D : va_G) (cI cZ cL : ClassId) (x : Nat) (az af ac ab aj : Nat → Nat) (sp : Int32) (n : Nat) (va re tr sh : Nat → Int32) (C : Nat → Nat) (K : Nat) (F : Nat → Nat) (fk : Nat) (dn : Nat → Int32) (ck : Nat) (ch : Int32) (bl : Nat → Int32) (bk : Nat) (U : Nat → Nat) (jr ja : Nat → Int32) (jk jq : Nat) (z o v : Nat) (hn : n ≤ 24) (hz : z < n) (ho : o < n) (hv : v ≤ 100) (hzo : z ≠ o) : Cg l D cI cZ cL yX5_wall wsX5_wall rmX5_wall [.ref x, .int (nI z), .int (nI o), .int (nI v)] (xW x az af ac ab aj sp ++ (zW az cI n va re tr sh (nf C) (nI K) ++ (fW af cI (nf F) (nI fk) ++ (cW ac cI dn (nI ck) ch ++ (bW ab cI bl (nI bk) ++ (jW aj cI (nf U) jr ja (nI jk) (nI jq))))))) (fun r0 w0 => r0 = some (.int (sh (z * n + o))) ∧ w0 = xW x az af ac ab aj sp ++ (zW az cI n va re tr (upd (upd sh (z * n + o) (nI v)) (o * n + z) (nI v)) (nf (pnC (upd (upd sh (z * n + o) (nI v)) (o * n + z) (nI v)) n C n)) (nI (pnK (upd (upd sh (z * n + o) (nI v)) (o * n + z) (nI v)) n C n)) ++ (fW af cI (nf F) (nI fk) ++ (cW ac cI dn (nI ck) ch ++ (bW ab cI bl (nI bk) ++ (jW aj cI (nf U) jr ja (nI jk) (nI jq))))))) := by
  refine Cg.ofJ (own := RX5) (cc := cX5_wall) (maxL := 5) (ret := (some .int)) (by decide) rfl rfl (Nat.le_of_ble_eq_true rfl) ?_
  intro p e s m args below meth c A CX hr hlocks hname
  have hin5 : ∀ x ∈ u_ws RX5 TX5 6, x ∈ wsX5_wall := by decide +kernel
  have hfl23 : Cond.fieldLink RX5 23 (TX5 0).1 (TX5 0).2.1 (TX5 0).2.2.1 ∈ wsX5_wall := by decide +kernel
  show J p l e rmX5_wall s m args below meth c D A 5 0 0 (MQ below (jQc D (fun r0 w0 => r0 = some (.int (sh (z * n + o))) ∧ w0 = xW x az af ac ab aj sp ++ (zW az cI n va re tr (upd (upd sh (z * n + o) (nI v)) (o * n + z) (nI v)) (nf (pnC (upd (upd sh (z * n + o) (nI v)) (o * n + z) (nI v)) n C n)) (nI (pnK (upd (upd sh (z * n + o) (nI v)) (o * n + z) (nI v)) n C n)) ++ (fW af cI (nf F) (nI fk) ++ (cW ac cI dn (nI ck) ch ++ (bW ab cI bl (nI bk) ++ (jW aj cI (nf U) jr ja (nI jk) (nI jq))))))) A) args s rmX5_wall.cells rmX5_wall.slots A) (xW x az af ac ab aj sp ++ (zW az cI n va re tr sh (nf C) (nI K) ++ (fW af cI (nf F) (nI fk) ++ (cW ac cI dn (nI ck) ch ++ (bW ab cI bl (nI bk) ++ (jW aj cI (nf U) jr ja (nI jk) (nI jq))))))) 0 [(0, .ref x), (1, .int (nI z)), (2, .int (nI o)), (3, .int (nI v))] []
  refine j_aload_n CX 0 dX5_wall_0 rfl rfl ?_
  refine j_iload_n CX 1 dX5_wall_1 rfl rfl ?_
  refine j_callV CX (n := 1) (pre := []) (post := []) (rest := []) (qc := (RX5, TX5, 6)) (x_cz l D cI cZ cL x az af ac ab aj sp n va re tr sh C K F fk dn ck ch bl bk U jr ja jk jq z hn (by omega)) gX5_wall_X5_checkZone rfl (by decide +kernel) ⟨Nat.le_of_ble_eq_true rfl, Nat.le_of_ble_eq_true rfl⟩ rfl rfl rfl rfl rfl (Nat.le_of_ble_eq_true rfl) dX5_wall_2 ⟨Nat.le_refl _, Nat.le_refl _⟩ (fun r9 w9 h9 => ?_)
  obtain ⟨rfl, rfl⟩ := h9
  refine j_w (w' := xW x az af ac ab aj sp ++ (zW az cI n va re tr sh (nf C) (nI K) ++ (fW af cI (nf F) (nI fk) ++ (cW ac cI dn (nI ck) ch ++ (bW ab cI bl (nI bk) ++ (jW aj cI (nf U) jr ja (nI jk) (nI jq))))))) rfl ?_
  refine j_st (st9 := []) rfl ?_
  refine j_aload_n CX 0 dX5_wall_5 rfl rfl ?_
  refine j_iload_n CX 2 dX5_wall_6 rfl rfl ?_
  refine j_callV CX (n := 1) (pre := []) (post := []) (rest := []) (qc := (RX5, TX5, 6)) (x_cz l D cI cZ cL x az af ac ab aj sp n va re tr sh C K F fk dn ck ch bl bk U jr ja jk jq o hn (by omega)) gX5_wall_X5_checkZone rfl (by decide +kernel) ⟨Nat.le_of_ble_eq_true rfl, Nat.le_of_ble_eq_true rfl⟩ rfl rfl rfl rfl rfl (Nat.le_of_ble_eq_true rfl) dX5_wall_7 ⟨Nat.le_refl _, Nat.le_refl _⟩ (fun r9 w9 h9 => ?_)
  obtain ⟨rfl, rfl⟩ := h9
  refine j_w (w' := xW x az af ac ab aj sp ++ (zW az cI n va re tr sh (nf C) (nI K) ++ (fW af cI (nf F) (nI fk) ++ (cW ac cI dn (nI ck) ch ++ (bW ab cI bl (nI bk) ++ (jW aj cI (nf U) jr ja (nI jk) (nI jq))))))) rfl ?_
  refine j_st (st9 := []) rfl ?_
  refine j_iload_n CX 3 dX5_wall_10 rfl rfl ?_
  refine j_iconst CX dX5_wall_11 (show _ = (nI 0 : Int32) by decide) ?_
  refine j_bipush CX dX5_wall_12 (show _ = (nI 100 : Int32) by decide) ?_
  refine j_callS CX (n := 3) (b := 0) (pre := []) (post := xW x az af ac ab aj sp ++ (zW az cI n va re tr sh (nf C) (nI K) ++ (fW af cI (nf F) (nI fk) ++ (cW ac cI dn (nI ck) ch ++ (bW ab cI bl (nI bk) ++ (jW aj cI (nf U) jr ja (nI jk) (nI jq))))))) (rest := []) (x_cw l D cI cZ cL (nI v) (nI 0) (nI 100) (nI_nlt (by omega) (by omega)) (nI_nlt (by omega) (by omega))) gX5_wall_X5_checkWithin rfl (by decide +kernel) ⟨Nat.le_of_ble_eq_true rfl, Nat.le_of_ble_eq_true rfl⟩ rfl rfl rfl (Nat.le_of_ble_eq_true rfl) dX5_wall_14 ⟨Nat.le_refl _, Nat.le_refl _⟩ (fun r9 w9 h9 => ?_)
  obtain ⟨rfl, rfl⟩ := h9
  refine j_w (w' := xW x az af ac ab aj sp ++ (zW az cI n va re tr sh (nf C) (nI K) ++ (fW af cI (nf F) (nI fk) ++ (cW ac cI dn (nI ck) ch ++ (bW ab cI bl (nI bk) ++ (jW aj cI (nf U) jr ja (nI jk) (nI jq))))))) rfl ?_
  refine j_st (st9 := []) rfl ?_
  refine j_iload_n CX 1 dX5_wall_17 rfl rfl ?_
  refine j_iload_n CX 2 dX5_wall_18 rfl rfl ?_
  refine j_icmpN_ne CX (by first | assumption | omega) (by first | assumption | omega | exact b2n_lt _ | exact t2n_lt _) 32 dX5_wall_19 (by decide) (fun h19 => ?_) (fun h19 => ?_)
  · refine j_aload_n CX 0 dX5_wall_32 rfl rfl ?_
    refine j_get CX 0 0 dX5_wall_33 rfl rfl hin5 (by decide) hfl23 rfl ?_
    refine j_iload_n CX 1 dX5_wall_36 rfl rfl ?_
    refine j_iload_n CX 2 dX5_wall_37 rfl rfl ?_
    refine j_callV CX (n := 2) (pre := xW x az af ac ab aj sp) (post := fW af cI (nf F) (nI fk) ++ (cW ac cI dn (nI ck) ch ++ (bW ab cI bl (nI bk) ++ (jW aj cI (nf U) jr ja (nI jk) (nI jq))))) (rest := []) (qc := (RX4, TX4, 7)) (z_share l D cI cZ cL az n va re tr sh (nf C) (nI K) z o hn hz ho) gX5_wall_X4_shareBetween rfl (by decide +kernel) ⟨Nat.le_of_ble_eq_true rfl, Nat.le_of_ble_eq_true rfl⟩ rfl rfl rfl rfl rfl (Nat.le_of_ble_eq_true rfl) dX5_wall_38 ⟨Nat.le_refl _, Nat.le_refl _⟩ (fun r9 w9 h9 => ?_)
    obtain ⟨rfl, rfl⟩ := h9
    refine j_w (w' := xW x az af ac ab aj sp ++ (zW az cI n va re tr sh (nf C) (nI K) ++ (fW af cI (nf F) (nI fk) ++ (cW ac cI dn (nI ck) ch ++ (bW ab cI bl (nI bk) ++ (jW aj cI (nf U) jr ja (nI jk) (nI jq))))))) rfl ?_
    refine j_st (st9 := [.int (sh (z * n + o))]) rfl ?_
    refine j_istore CX (lv' := [(4, .int (sh (z * n + o))), (0, .ref x), (1, .int (nI z)), (2, .int (nI o)), (3, .int (nI v))]) dX5_wall_41 (by decide) rfl ?_
    refine j_aload_n CX 1 dX5_wall_43 rfl rfl ?_
    refine j_get CX 0 0 dX5_wall_44 rfl rfl hin5 (by decide) hfl23 rfl ?_
    refine j_iload_n CX 2 dX5_wall_47 rfl rfl ?_
    refine j_iload_n CX 3 dX5_wall_48 rfl rfl ?_
    refine j_iload_n CX 4 dX5_wall_49 rfl rfl ?_
    refine j_callV CX (n := 3) (pre := xW x az af ac ab aj sp) (post := fW af cI (nf F) (nI fk) ++ (cW ac cI dn (nI ck) ch ++ (bW ab cI bl (nI bk) ++ (jW aj cI (nf U) jr ja (nI jk) (nI jq))))) (rest := []) (qc := (RX4, TX4, 7)) (z_build l D cI cZ cL az n va re tr sh C K z o (nI v) hn hz ho) gX5_wall_X4_build rfl (by decide +kernel) ⟨Nat.le_of_ble_eq_true rfl, Nat.le_of_ble_eq_true rfl⟩ rfl rfl rfl rfl rfl (Nat.le_of_ble_eq_true rfl) dX5_wall_50 ⟨Nat.le_refl _, Nat.le_refl _⟩ (fun r9 w9 h9 => ?_)
    obtain ⟨rfl, rfl⟩ := h9
    refine j_w (w' := xW x az af ac ab aj sp ++ (zW az cI n va re tr (upd (upd sh (z * n + o) (nI v)) (o * n + z) (nI v)) (nf (pnC (upd (upd sh (z * n + o) (nI v)) (o * n + z) (nI v)) n C n)) (nI (pnK (upd (upd sh (z * n + o) (nI v)) (o * n + z) (nI v)) n C n)) ++ (fW af cI (nf F) (nI fk) ++ (cW ac cI dn (nI ck) ch ++ (bW ab cI bl (nI bk) ++ (jW aj cI (nf U) jr ja (nI jk) (nI jq))))))) rfl ?_
    refine j_st (st9 := []) rfl ?_
    refine j_iload CX 0 dX5_wall_53 rfl ?_
    exact j_iret CX hr hlocks dX5_wall_55 (⟨rfl, rfl⟩)
  · exact absurd h19 hzo

abbrev rmX5_foretold : Room := { frames := 8, cells := 0, slots := 0, locals := 243 }
set_option maxRecDepth 100000 in
set_option maxHeartbeats 4000000 in
theorem x_foretold (l : Launch) (D : va_G) (cI cZ cL : ClassId) (x : Nat) (az af ac ab aj : Nat → Nat) (sp : Int32) (n : Nat) (va re tr sh : Nat → Int32) (C : Nat → Nat) (K : Nat) (F : Nat → Nat) (fk : Nat) (dn : Nat → Int32) (ck : Nat) (ch : Int32) (bl : Nat → Int32) (bk : Nat) (U : Nat → Nat) (jr ja : Nat → Int32) (jk jq : Nat) (z h : Nat) (hn : n ≤ 24) (hz : z < n) (hh : h ≤ 50) (hK : K ≤ 24) (hC : ∀ k, k < n → C k < 2 ^ 31) : Cg l D cI cZ cL yX5_foretold wsX5_foretold rmX5_foretold [.ref x, .int (nI z), .int (nI h)] (xW x az af ac ab aj sp ++ (zW az cI n va re tr sh (nf C) (nI K) ++ (fW af cI (nf F) (nI fk) ++ (cW ac cI dn (nI ck) ch ++ (bW ab cI bl (nI bk) ++ (jW aj cI (nf U) jr ja (nI jk) (nI jq))))))) (fun r0 w0 => r0 = some (.int ((hrsF sh n C K (va_cpy va tr 0 0 n) h) z)) ∧ w0 = xW x az af ac ab aj sp ++ (zW az cI n va re (hrsF sh n C K (va_cpy va tr 0 0 n) h) sh (nf C) (nI K) ++ (fW af cI (nf F) (nI fk) ++ (cW ac cI dn (nI ck) ch ++ (bW ab cI bl (nI bk) ++ (jW aj cI (nf U) jr ja (nI jk) (nI jq))))))) := by
  refine Cg.ofJ (own := RX5) (cc := cX5_foretold) (maxL := 3) (ret := (some .int)) (by decide) rfl rfl (Nat.le_of_ble_eq_true rfl) ?_
  intro p e s m args below meth c A CX hr hlocks hname
  have hin5 : ∀ x ∈ u_ws RX5 TX5 6, x ∈ wsX5_foretold := by decide +kernel
  have hfl23 : Cond.fieldLink RX5 23 (TX5 0).1 (TX5 0).2.1 (TX5 0).2.2.1 ∈ wsX5_foretold := by decide +kernel
  show J p l e rmX5_foretold s m args below meth c D A 3 0 0 (MQ below (jQc D (fun r0 w0 => r0 = some (.int ((hrsF sh n C K (va_cpy va tr 0 0 n) h) z)) ∧ w0 = xW x az af ac ab aj sp ++ (zW az cI n va re (hrsF sh n C K (va_cpy va tr 0 0 n) h) sh (nf C) (nI K) ++ (fW af cI (nf F) (nI fk) ++ (cW ac cI dn (nI ck) ch ++ (bW ab cI bl (nI bk) ++ (jW aj cI (nf U) jr ja (nI jk) (nI jq))))))) A) args s rmX5_foretold.cells rmX5_foretold.slots A) (xW x az af ac ab aj sp ++ (zW az cI n va re tr sh (nf C) (nI K) ++ (fW af cI (nf F) (nI fk) ++ (cW ac cI dn (nI ck) ch ++ (bW ab cI bl (nI bk) ++ (jW aj cI (nf U) jr ja (nI jk) (nI jq))))))) 0 [(0, .ref x), (1, .int (nI z)), (2, .int (nI h))] []
  refine j_aload_n CX 0 dX5_foretold_0 rfl rfl ?_
  refine j_iload_n CX 1 dX5_foretold_1 rfl rfl ?_
  refine j_callV CX (n := 1) (pre := []) (post := []) (rest := []) (qc := (RX5, TX5, 6)) (x_cz l D cI cZ cL x az af ac ab aj sp n va re tr sh C K F fk dn ck ch bl bk U jr ja jk jq z hn (by omega)) gX5_foretold_X5_checkZone rfl (by decide +kernel) ⟨Nat.le_of_ble_eq_true rfl, Nat.le_of_ble_eq_true rfl⟩ rfl rfl rfl rfl rfl (Nat.le_of_ble_eq_true rfl) dX5_foretold_2 ⟨Nat.le_refl _, Nat.le_refl _⟩ (fun r9 w9 h9 => ?_)
  obtain ⟨rfl, rfl⟩ := h9
  refine j_w (w' := xW x az af ac ab aj sp ++ (zW az cI n va re tr sh (nf C) (nI K) ++ (fW af cI (nf F) (nI fk) ++ (cW ac cI dn (nI ck) ch ++ (bW ab cI bl (nI bk) ++ (jW aj cI (nf U) jr ja (nI jk) (nI jq))))))) rfl ?_
  refine j_st (st9 := []) rfl ?_
  refine j_iload_n CX 2 dX5_foretold_5 rfl rfl ?_
  refine j_iconst CX dX5_foretold_6 (show _ = (nI 0 : Int32) by decide) ?_
  refine j_bipush CX dX5_foretold_7 (show _ = (nI 50 : Int32) by decide) ?_
  refine j_callS CX (n := 3) (b := 0) (pre := []) (post := xW x az af ac ab aj sp ++ (zW az cI n va re tr sh (nf C) (nI K) ++ (fW af cI (nf F) (nI fk) ++ (cW ac cI dn (nI ck) ch ++ (bW ab cI bl (nI bk) ++ (jW aj cI (nf U) jr ja (nI jk) (nI jq))))))) (rest := []) (x_cw l D cI cZ cL (nI h) (nI 0) (nI 50) (nI_nlt (by omega) (by omega)) (nI_nlt (by omega) (by omega))) gX5_foretold_X5_checkWithin rfl (by decide +kernel) ⟨Nat.le_of_ble_eq_true rfl, Nat.le_of_ble_eq_true rfl⟩ rfl rfl rfl (Nat.le_of_ble_eq_true rfl) dX5_foretold_9 ⟨Nat.le_refl _, Nat.le_refl _⟩ (fun r9 w9 h9 => ?_)
  obtain ⟨rfl, rfl⟩ := h9
  refine j_w (w' := xW x az af ac ab aj sp ++ (zW az cI n va re tr sh (nf C) (nI K) ++ (fW af cI (nf F) (nI fk) ++ (cW ac cI dn (nI ck) ch ++ (bW ab cI bl (nI bk) ++ (jW aj cI (nf U) jr ja (nI jk) (nI jq))))))) rfl ?_
  refine j_st (st9 := []) rfl ?_
  refine j_aload_n CX 0 dX5_foretold_12 rfl rfl ?_
  refine j_get CX 0 0 dX5_foretold_13 rfl rfl hin5 (by decide) hfl23 rfl ?_
  refine j_iload_n CX 1 dX5_foretold_16 rfl rfl ?_
  refine j_iload_n CX 2 dX5_foretold_17 rfl rfl ?_
  refine j_callV CX (n := 2) (pre := xW x az af ac ab aj sp) (post := fW af cI (nf F) (nI fk) ++ (cW ac cI dn (nI ck) ch ++ (bW ab cI bl (nI bk) ++ (jW aj cI (nf U) jr ja (nI jk) (nI jq))))) (rest := []) (qc := (RX4, TX4, 7)) (z_after l D cI cZ cL az n va re tr sh C K z h hn hz hh hK hC) gX5_foretold_X4_valueAfter rfl (by decide +kernel) ⟨Nat.le_of_ble_eq_true rfl, Nat.le_of_ble_eq_true rfl⟩ rfl rfl rfl rfl rfl (Nat.le_of_ble_eq_true rfl) dX5_foretold_18 ⟨Nat.le_refl _, Nat.le_refl _⟩ (fun r9 w9 h9 => ?_)
  obtain ⟨rfl, rfl⟩ := h9
  refine j_w (w' := xW x az af ac ab aj sp ++ (zW az cI n va re (hrsF sh n C K (va_cpy va tr 0 0 n) h) sh (nf C) (nI K) ++ (fW af cI (nf F) (nI fk) ++ (cW ac cI dn (nI ck) ch ++ (bW ab cI bl (nI bk) ++ (jW aj cI (nf U) jr ja (nI jk) (nI jq))))))) rfl ?_
  refine j_st (st9 := [.int ((hrsF sh n C K (va_cpy va tr 0 0 n) h) z)]) rfl ?_
  exact j_iret CX hr hlocks dX5_foretold_21 (⟨rfl, rfl⟩)

abbrev rmX5_book : Room := { frames := 7, cells := 0, slots := 0, locals := 222 }
set_option maxRecDepth 100000 in
set_option maxHeartbeats 4000000 in
theorem x_bookN (l : Launch) (D : va_G) (cI cZ cL : ClassId) (x : Nat) (az af ac ab aj : Nat → Nat) (sp : Int32) (n : Nat) (va re tr sh : Nat → Int32) (C : Nat → Nat) (K : Nat) (F : Nat → Nat) (fk : Nat) (dn : Nat → Int32) (ck : Nat) (ch : Int32) (bl : Nat → Int32) (bk : Nat) (U : Nat → Nat) (jr ja : Nat → Int32) (jk jq : Nat) (q : Nat) (hq : q ≤ 3) (hbk : bk ≤ 2000) : Cg l D cI cZ cL yX5_book wsX5_book rmX5_book [.ref x, .int (-1), .int (nI q)] (xW x az af ac ab aj sp ++ (zW az cI n va re tr sh (nf C) (nI K) ++ (fW af cI (nf F) (nI fk) ++ (cW ac cI dn (nI ck) ch ++ (bW ab cI bl (nI bk) ++ (jW aj cI (nf U) jr ja (nI jk) (nI jq))))))) (fun r0 w0 => r0 = some (.int (nI bk)) ∧ w0 = xW x az af ac ab aj sp ++ (zW az cI n va re tr sh (nf C) (nI K) ++ (fW af cI (nf F) (nI fk) ++ (cW ac cI dn (nI ck) ch ++ (bW ab cI bl (nI bk) ++ (jW aj cI (nf U) jr ja (nI jk) (nI jq))))))) := by
  refine Cg.ofJ (own := RX5) (cc := cX5_book) (maxL := 3) (ret := (some .int)) (by decide) rfl rfl (Nat.le_of_ble_eq_true rfl) ?_
  intro p e s m args below meth c A CX hr hlocks hname
  have hin5 : ∀ x ∈ u_ws RX5 TX5 6, x ∈ wsX5_book := by decide +kernel
  have hfl44 : Cond.fieldLink RX5 44 (TX5 3).1 (TX5 3).2.1 (TX5 3).2.2.1 ∈ wsX5_book := by decide +kernel
  show J p l e rmX5_book s m args below meth c D A 3 0 0 (MQ below (jQc D (fun r0 w0 => r0 = some (.int (nI bk)) ∧ w0 = xW x az af ac ab aj sp ++ (zW az cI n va re tr sh (nf C) (nI K) ++ (fW af cI (nf F) (nI fk) ++ (cW ac cI dn (nI ck) ch ++ (bW ab cI bl (nI bk) ++ (jW aj cI (nf U) jr ja (nI jk) (nI jq))))))) A) args s rmX5_book.cells rmX5_book.slots A) (xW x az af ac ab aj sp ++ (zW az cI n va re tr sh (nf C) (nI K) ++ (fW af cI (nf F) (nI fk) ++ (cW ac cI dn (nI ck) ch ++ (bW ab cI bl (nI bk) ++ (jW aj cI (nf U) jr ja (nI jk) (nI jq))))))) 0 [(0, .ref x), (1, .int (-1)), (2, .int (nI q))] []
  refine j_iload_n CX 2 dX5_book_0 rfl rfl ?_
  refine j_iconst CX dX5_book_1 (show _ = (nI 0 : Int32) by decide) ?_
  refine j_iconst CX dX5_book_2 (show _ = (nI 3 : Int32) by decide) ?_
  refine j_callS CX (n := 3) (b := 0) (pre := []) (post := xW x az af ac ab aj sp ++ (zW az cI n va re tr sh (nf C) (nI K) ++ (fW af cI (nf F) (nI fk) ++ (cW ac cI dn (nI ck) ch ++ (bW ab cI bl (nI bk) ++ (jW aj cI (nf U) jr ja (nI jk) (nI jq))))))) (rest := []) (x_cw l D cI cZ cL (nI q) (nI 0) (nI 3) (nI_nlt (by omega) (by omega)) (nI_nlt (by omega) (by omega))) gX5_book_X5_checkWithin rfl (by decide +kernel) ⟨Nat.le_of_ble_eq_true rfl, Nat.le_of_ble_eq_true rfl⟩ rfl rfl rfl (Nat.le_of_ble_eq_true rfl) dX5_book_3 ⟨Nat.le_refl _, Nat.le_refl _⟩ (fun r9 w9 h9 => ?_)
  obtain ⟨rfl, rfl⟩ := h9
  refine j_w (w' := xW x az af ac ab aj sp ++ (zW az cI n va re tr sh (nf C) (nI K) ++ (fW af cI (nf F) (nI fk) ++ (cW ac cI dn (nI ck) ch ++ (bW ab cI bl (nI bk) ++ (jW aj cI (nf U) jr ja (nI jk) (nI jq))))))) rfl ?_
  refine j_st (st9 := []) rfl ?_
  refine j_iload_n CX 1 dX5_book_6 rfl rfl ?_
  refine j_iconst CX dX5_book_7 (show _ = ((-1) : Int32) by decide) ?_
  refine j_aload_n CX 0 dX5_book_8 rfl rfl ?_
  refine j_get CX 0 3 dX5_book_9 rfl rfl hin5 (by decide) hfl44 rfl ?_
  refine j_callV CX (n := 0) (pre := xW x az af ac ab aj sp ++ (zW az cI n va re tr sh (nf C) (nI K) ++ (fW af cI (nf F) (nI fk) ++ (cW ac cI dn (nI ck) ch)))) (post := jW aj cI (nf U) jr ja (nI jk) (nI jq)) (rest := [.int (-1), .int (-1)]) (qc := (RX0, TX0, 2)) (b_size l D cI cZ cL ab bl bk ) gX5_book_X0_size rfl (by decide +kernel) ⟨Nat.le_of_ble_eq_true rfl, Nat.le_of_ble_eq_true rfl⟩ rfl rfl rfl rfl rfl (Nat.le_of_ble_eq_true rfl) dX5_book_12 ⟨Nat.le_refl _, Nat.le_refl _⟩ (fun r9 w9 h9 => ?_)
  obtain ⟨rfl, rfl⟩ := h9
  refine j_w (w' := xW x az af ac ab aj sp ++ (zW az cI n va re tr sh (nf C) (nI K) ++ (fW af cI (nf F) (nI fk) ++ (cW ac cI dn (nI ck) ch ++ (bW ab cI bl (nI bk) ++ (jW aj cI (nf U) jr ja (nI jk) (nI jq))))))) rfl ?_
  refine j_st (st9 := [.int (nI bk), .int (-1), .int (-1)]) rfl ?_
  refine j_iconst CX dX5_book_15 (show _ = (nI 1 : Int32) by decide) ?_
  refine j_isub CX dX5_book_16 ?_
  refine j_callS CX (n := 3) (b := 0) (pre := []) (post := xW x az af ac ab aj sp ++ (zW az cI n va re tr sh (nf C) (nI K) ++ (fW af cI (nf F) (nI fk) ++ (cW ac cI dn (nI ck) ch ++ (bW ab cI bl (nI bk) ++ (jW aj cI (nf U) jr ja (nI jk) (nI jq))))))) (rest := []) (x_cw l D cI cZ cL (-1) (-1) ((nI bk) - (nI 1)) (fun h => Int32.lt_irrefl h) (m1_le hbk)) gX5_book_X5_checkWithin rfl (by decide +kernel) ⟨Nat.le_of_ble_eq_true rfl, Nat.le_of_ble_eq_true rfl⟩ rfl rfl rfl (Nat.le_of_ble_eq_true rfl) dX5_book_17 ⟨Nat.le_refl _, Nat.le_refl _⟩ (fun r9 w9 h9 => ?_)
  obtain ⟨rfl, rfl⟩ := h9
  refine j_w (w' := xW x az af ac ab aj sp ++ (zW az cI n va re tr sh (nf C) (nI K) ++ (fW af cI (nf F) (nI fk) ++ (cW ac cI dn (nI ck) ch ++ (bW ab cI bl (nI bk) ++ (jW aj cI (nf U) jr ja (nI jk) (nI jq))))))) rfl ?_
  refine j_st (st9 := []) rfl ?_
  refine j_iload_n CX 1 dX5_book_20 rfl rfl ?_
  refine j_iconst CX dX5_book_21 (show _ = ((-1) : Int32) by decide) ?_
  refine j_icmp_ne CX 35 dX5_book_22 (by decide) (fun h22 => absurd h22 (by decide)) (fun h22 => ?_)
  refine j_aload_n CX 0 dX5_book_25 rfl rfl ?_
  refine j_get CX 0 3 dX5_book_26 rfl rfl hin5 (by decide) hfl44 rfl ?_
  refine j_callV CX (n := 0) (pre := xW x az af ac ab aj sp ++ (zW az cI n va re tr sh (nf C) (nI K) ++ (fW af cI (nf F) (nI fk) ++ (cW ac cI dn (nI ck) ch)))) (post := jW aj cI (nf U) jr ja (nI jk) (nI jq)) (rest := []) (qc := (RX0, TX0, 2)) (b_size l D cI cZ cL ab bl bk ) gX5_book_X0_size rfl (by decide +kernel) ⟨Nat.le_of_ble_eq_true rfl, Nat.le_of_ble_eq_true rfl⟩ rfl rfl rfl rfl rfl (Nat.le_of_ble_eq_true rfl) dX5_book_29 ⟨Nat.le_refl _, Nat.le_refl _⟩ (fun r9 w9 h9 => ?_)
  obtain ⟨rfl, rfl⟩ := h9
  refine j_w (w' := xW x az af ac ab aj sp ++ (zW az cI n va re tr sh (nf C) (nI K) ++ (fW af cI (nf F) (nI fk) ++ (cW ac cI dn (nI ck) ch ++ (bW ab cI bl (nI bk) ++ (jW aj cI (nf U) jr ja (nI jk) (nI jq))))))) rfl ?_
  refine j_st (st9 := [.int (nI bk)]) rfl ?_
  refine j_goto CX 44 dX5_book_32 (by decide) ?_
  exact j_iret CX hr hlocks dX5_book_44 (⟨rfl, rfl⟩)

set_option maxRecDepth 100000 in
set_option maxHeartbeats 4000000 in
theorem x_book0 (l : Launch) (D : va_G) (cI cZ cL : ClassId) (x : Nat) (az af ac ab aj : Nat → Nat) (sp : Int32) (n : Nat) (va re tr sh : Nat → Int32) (C : Nat → Nat) (K : Nat) (F : Nat → Nat) (fk : Nat) (dn : Nat → Int32) (ck : Nat) (ch : Int32) (bl : Nat → Int32) (bk : Nat) (U : Nat → Nat) (jr ja : Nat → Int32) (jk jq : Nat) (j : Nat) (hj : j < bk) (hbk : bk ≤ 2000) : Cg l D cI cZ cL yX5_book wsX5_book rmX5_book [.ref x, .int (nI j), .int (nI 0)] (xW x az af ac ab aj sp ++ (zW az cI n va re tr sh (nf C) (nI K) ++ (fW af cI (nf F) (nI fk) ++ (cW ac cI dn (nI ck) ch ++ (bW ab cI bl (nI bk) ++ (jW aj cI (nf U) jr ja (nI jk) (nI jq))))))) (fun r0 w0 => r0 = some (.int (bl j &&& nI 15)) ∧ w0 = xW x az af ac ab aj sp ++ (zW az cI n va re tr sh (nf C) (nI K) ++ (fW af cI (nf F) (nI fk) ++ (cW ac cI dn (nI ck) ch ++ (bW ab cI bl (nI bk) ++ (jW aj cI (nf U) jr ja (nI jk) (nI jq))))))) := by
  refine Cg.ofJ (own := RX5) (cc := cX5_book) (maxL := 3) (ret := (some .int)) (by decide) rfl rfl (Nat.le_of_ble_eq_true rfl) ?_
  intro p e s m args below meth c A CX hr hlocks hname
  have hin5 : ∀ x ∈ u_ws RX5 TX5 6, x ∈ wsX5_book := by decide +kernel
  have hfl44 : Cond.fieldLink RX5 44 (TX5 3).1 (TX5 3).2.1 (TX5 3).2.2.1 ∈ wsX5_book := by decide +kernel
  show J p l e rmX5_book s m args below meth c D A 3 0 0 (MQ below (jQc D (fun r0 w0 => r0 = some (.int (bl j &&& nI 15)) ∧ w0 = xW x az af ac ab aj sp ++ (zW az cI n va re tr sh (nf C) (nI K) ++ (fW af cI (nf F) (nI fk) ++ (cW ac cI dn (nI ck) ch ++ (bW ab cI bl (nI bk) ++ (jW aj cI (nf U) jr ja (nI jk) (nI jq))))))) A) args s rmX5_book.cells rmX5_book.slots A) (xW x az af ac ab aj sp ++ (zW az cI n va re tr sh (nf C) (nI K) ++ (fW af cI (nf F) (nI fk) ++ (cW ac cI dn (nI ck) ch ++ (bW ab cI bl (nI bk) ++ (jW aj cI (nf U) jr ja (nI jk) (nI jq))))))) 0 [(0, .ref x), (1, .int (nI j)), (2, .int (nI 0))] []
  refine j_iload_n CX 2 dX5_book_0 rfl rfl ?_
  refine j_iconst CX dX5_book_1 (show _ = (nI 0 : Int32) by decide) ?_
  refine j_iconst CX dX5_book_2 (show _ = (nI 3 : Int32) by decide) ?_
  refine j_callS CX (n := 3) (b := 0) (pre := []) (post := xW x az af ac ab aj sp ++ (zW az cI n va re tr sh (nf C) (nI K) ++ (fW af cI (nf F) (nI fk) ++ (cW ac cI dn (nI ck) ch ++ (bW ab cI bl (nI bk) ++ (jW aj cI (nf U) jr ja (nI jk) (nI jq))))))) (rest := []) (x_cw l D cI cZ cL (nI 0) (nI 0) (nI 3) (nI_nlt (by omega) (by omega)) (nI_nlt (by omega) (by omega))) gX5_book_X5_checkWithin rfl (by decide +kernel) ⟨Nat.le_of_ble_eq_true rfl, Nat.le_of_ble_eq_true rfl⟩ rfl rfl rfl (Nat.le_of_ble_eq_true rfl) dX5_book_3 ⟨Nat.le_refl _, Nat.le_refl _⟩ (fun r9 w9 h9 => ?_)
  obtain ⟨rfl, rfl⟩ := h9
  refine j_w (w' := xW x az af ac ab aj sp ++ (zW az cI n va re tr sh (nf C) (nI K) ++ (fW af cI (nf F) (nI fk) ++ (cW ac cI dn (nI ck) ch ++ (bW ab cI bl (nI bk) ++ (jW aj cI (nf U) jr ja (nI jk) (nI jq))))))) rfl ?_
  refine j_st (st9 := []) rfl ?_
  refine j_iload_n CX 1 dX5_book_6 rfl rfl ?_
  refine j_iconst CX dX5_book_7 (show _ = ((-1) : Int32) by decide) ?_
  refine j_aload_n CX 0 dX5_book_8 rfl rfl ?_
  refine j_get CX 0 3 dX5_book_9 rfl rfl hin5 (by decide) hfl44 rfl ?_
  refine j_callV CX (n := 0) (pre := xW x az af ac ab aj sp ++ (zW az cI n va re tr sh (nf C) (nI K) ++ (fW af cI (nf F) (nI fk) ++ (cW ac cI dn (nI ck) ch)))) (post := jW aj cI (nf U) jr ja (nI jk) (nI jq)) (rest := [.int (-1), .int (nI j)]) (qc := (RX0, TX0, 2)) (b_size l D cI cZ cL ab bl bk ) gX5_book_X0_size rfl (by decide +kernel) ⟨Nat.le_of_ble_eq_true rfl, Nat.le_of_ble_eq_true rfl⟩ rfl rfl rfl rfl rfl (Nat.le_of_ble_eq_true rfl) dX5_book_12 ⟨Nat.le_refl _, Nat.le_refl _⟩ (fun r9 w9 h9 => ?_)
  obtain ⟨rfl, rfl⟩ := h9
  refine j_w (w' := xW x az af ac ab aj sp ++ (zW az cI n va re tr sh (nf C) (nI K) ++ (fW af cI (nf F) (nI fk) ++ (cW ac cI dn (nI ck) ch ++ (bW ab cI bl (nI bk) ++ (jW aj cI (nf U) jr ja (nI jk) (nI jq))))))) rfl ?_
  refine j_st (st9 := [.int (nI bk), .int (-1), .int (nI j)]) rfl ?_
  refine j_iconst CX dX5_book_15 (show _ = (nI 1 : Int32) by decide) ?_
  refine j_isub CX dX5_book_16 ?_
  refine j_top (show ((nI bk) - (nI 1)) = nI (bk - 1) from pk_sub (by omega)) ?_
  refine j_callS CX (n := 3) (b := 0) (pre := []) (post := xW x az af ac ab aj sp ++ (zW az cI n va re tr sh (nf C) (nI K) ++ (fW af cI (nf F) (nI fk) ++ (cW ac cI dn (nI ck) ch ++ (bW ab cI bl (nI bk) ++ (jW aj cI (nf U) jr ja (nI jk) (nI jq))))))) (rest := []) (x_cw l D cI cZ cL (nI j) (-1) (nI (bk - 1)) (nI_nltm1 (by omega)) (nI_nlt (by omega) (by omega))) gX5_book_X5_checkWithin rfl (by decide +kernel) ⟨Nat.le_of_ble_eq_true rfl, Nat.le_of_ble_eq_true rfl⟩ rfl rfl rfl (Nat.le_of_ble_eq_true rfl) dX5_book_17 ⟨Nat.le_refl _, Nat.le_refl _⟩ (fun r9 w9 h9 => ?_)
  obtain ⟨rfl, rfl⟩ := h9
  refine j_w (w' := xW x az af ac ab aj sp ++ (zW az cI n va re tr sh (nf C) (nI K) ++ (fW af cI (nf F) (nI fk) ++ (cW ac cI dn (nI ck) ch ++ (bW ab cI bl (nI bk) ++ (jW aj cI (nf U) jr ja (nI jk) (nI jq))))))) rfl ?_
  refine j_st (st9 := []) rfl ?_
  refine j_iload_n CX 1 dX5_book_20 rfl rfl ?_
  refine j_iconst CX dX5_book_21 (show _ = ((-1) : Int32) by decide) ?_
  refine j_icmp_ne CX 35 dX5_book_22 (by decide) (fun h22 => ?_) (fun h22 => ?_)
  · refine j_aload_n CX 0 dX5_book_35 rfl rfl ?_
    refine j_get CX 0 3 dX5_book_36 rfl rfl hin5 (by decide) hfl44 rfl ?_
    refine j_iload_n CX 1 dX5_book_39 rfl rfl ?_
    refine j_iload_n CX 2 dX5_book_40 rfl rfl ?_
    refine j_callV CX (n := 2) (pre := xW x az af ac ab aj sp ++ (zW az cI n va re tr sh (nf C) (nI K) ++ (fW af cI (nf F) (nI fk) ++ (cW ac cI dn (nI ck) ch)))) (post := jW aj cI (nf U) jr ja (nI jk) (nI jq)) (rest := []) (qc := (RX0, TX0, 2)) (b_read0 l D cI cZ cL ab bl bk j (by omega)) gX5_book_X0_read rfl (by decide +kernel) ⟨Nat.le_of_ble_eq_true rfl, Nat.le_of_ble_eq_true rfl⟩ rfl rfl rfl rfl rfl (Nat.le_of_ble_eq_true rfl) dX5_book_41 ⟨Nat.le_refl _, Nat.le_refl _⟩ (fun r9 w9 h9 => ?_)
    obtain ⟨rfl, rfl⟩ := h9
    refine j_w (w' := xW x az af ac ab aj sp ++ (zW az cI n va re tr sh (nf C) (nI K) ++ (fW af cI (nf F) (nI fk) ++ (cW ac cI dn (nI ck) ch ++ (bW ab cI bl (nI bk) ++ (jW aj cI (nf U) jr ja (nI jk) (nI jq))))))) rfl ?_
    refine j_st (st9 := [.int (bl j &&& nI 15)]) rfl ?_
    exact j_iret CX hr hlocks dX5_book_44 (⟨rfl, rfl⟩)
  · exact absurd h22 (nI_nm1 (by omega))

set_option maxRecDepth 100000 in
set_option maxHeartbeats 4000000 in
theorem x_book1 (l : Launch) (D : va_G) (cI cZ cL : ClassId) (x : Nat) (az af ac ab aj : Nat → Nat) (sp : Int32) (n : Nat) (va re tr sh : Nat → Int32) (C : Nat → Nat) (K : Nat) (F : Nat → Nat) (fk : Nat) (dn : Nat → Int32) (ck : Nat) (ch : Int32) (bl : Nat → Int32) (bk : Nat) (U : Nat → Nat) (jr ja : Nat → Int32) (jk jq : Nat) (j : Nat) (hj : j < bk) (hbk : bk ≤ 2000) : Cg l D cI cZ cL yX5_book wsX5_book rmX5_book [.ref x, .int (nI j), .int (nI 1)] (xW x az af ac ab aj sp ++ (zW az cI n va re tr sh (nf C) (nI K) ++ (fW af cI (nf F) (nI fk) ++ (cW ac cI dn (nI ck) ch ++ (bW ab cI bl (nI bk) ++ (jW aj cI (nf U) jr ja (nI jk) (nI jq))))))) (fun r0 w0 => r0 = some (.int ((bl j >>> (nI 4 &&& 31)) &&& nI 31)) ∧ w0 = xW x az af ac ab aj sp ++ (zW az cI n va re tr sh (nf C) (nI K) ++ (fW af cI (nf F) (nI fk) ++ (cW ac cI dn (nI ck) ch ++ (bW ab cI bl (nI bk) ++ (jW aj cI (nf U) jr ja (nI jk) (nI jq))))))) := by
  refine Cg.ofJ (own := RX5) (cc := cX5_book) (maxL := 3) (ret := (some .int)) (by decide) rfl rfl (Nat.le_of_ble_eq_true rfl) ?_
  intro p e s m args below meth c A CX hr hlocks hname
  have hin5 : ∀ x ∈ u_ws RX5 TX5 6, x ∈ wsX5_book := by decide +kernel
  have hfl44 : Cond.fieldLink RX5 44 (TX5 3).1 (TX5 3).2.1 (TX5 3).2.2.1 ∈ wsX5_book := by decide +kernel
  show J p l e rmX5_book s m args below meth c D A 3 0 0 (MQ below (jQc D (fun r0 w0 => r0 = some (.int ((bl j >>> (nI 4 &&& 31)) &&& nI 31)) ∧ w0 = xW x az af ac ab aj sp ++ (zW az cI n va re tr sh (nf C) (nI K) ++ (fW af cI (nf F) (nI fk) ++ (cW ac cI dn (nI ck) ch ++ (bW ab cI bl (nI bk) ++ (jW aj cI (nf U) jr ja (nI jk) (nI jq))))))) A) args s rmX5_book.cells rmX5_book.slots A) (xW x az af ac ab aj sp ++ (zW az cI n va re tr sh (nf C) (nI K) ++ (fW af cI (nf F) (nI fk) ++ (cW ac cI dn (nI ck) ch ++ (bW ab cI bl (nI bk) ++ (jW aj cI (nf U) jr ja (nI jk) (nI jq))))))) 0 [(0, .ref x), (1, .int (nI j)), (2, .int (nI 1))] []
  refine j_iload_n CX 2 dX5_book_0 rfl rfl ?_
  refine j_iconst CX dX5_book_1 (show _ = (nI 0 : Int32) by decide) ?_
  refine j_iconst CX dX5_book_2 (show _ = (nI 3 : Int32) by decide) ?_
  refine j_callS CX (n := 3) (b := 0) (pre := []) (post := xW x az af ac ab aj sp ++ (zW az cI n va re tr sh (nf C) (nI K) ++ (fW af cI (nf F) (nI fk) ++ (cW ac cI dn (nI ck) ch ++ (bW ab cI bl (nI bk) ++ (jW aj cI (nf U) jr ja (nI jk) (nI jq))))))) (rest := []) (x_cw l D cI cZ cL (nI 1) (nI 0) (nI 3) (nI_nlt (by omega) (by omega)) (nI_nlt (by omega) (by omega))) gX5_book_X5_checkWithin rfl (by decide +kernel) ⟨Nat.le_of_ble_eq_true rfl, Nat.le_of_ble_eq_true rfl⟩ rfl rfl rfl (Nat.le_of_ble_eq_true rfl) dX5_book_3 ⟨Nat.le_refl _, Nat.le_refl _⟩ (fun r9 w9 h9 => ?_)
  obtain ⟨rfl, rfl⟩ := h9
  refine j_w (w' := xW x az af ac ab aj sp ++ (zW az cI n va re tr sh (nf C) (nI K) ++ (fW af cI (nf F) (nI fk) ++ (cW ac cI dn (nI ck) ch ++ (bW ab cI bl (nI bk) ++ (jW aj cI (nf U) jr ja (nI jk) (nI jq))))))) rfl ?_
  refine j_st (st9 := []) rfl ?_
  refine j_iload_n CX 1 dX5_book_6 rfl rfl ?_
  refine j_iconst CX dX5_book_7 (show _ = ((-1) : Int32) by decide) ?_
  refine j_aload_n CX 0 dX5_book_8 rfl rfl ?_
  refine j_get CX 0 3 dX5_book_9 rfl rfl hin5 (by decide) hfl44 rfl ?_
  refine j_callV CX (n := 0) (pre := xW x az af ac ab aj sp ++ (zW az cI n va re tr sh (nf C) (nI K) ++ (fW af cI (nf F) (nI fk) ++ (cW ac cI dn (nI ck) ch)))) (post := jW aj cI (nf U) jr ja (nI jk) (nI jq)) (rest := [.int (-1), .int (nI j)]) (qc := (RX0, TX0, 2)) (b_size l D cI cZ cL ab bl bk ) gX5_book_X0_size rfl (by decide +kernel) ⟨Nat.le_of_ble_eq_true rfl, Nat.le_of_ble_eq_true rfl⟩ rfl rfl rfl rfl rfl (Nat.le_of_ble_eq_true rfl) dX5_book_12 ⟨Nat.le_refl _, Nat.le_refl _⟩ (fun r9 w9 h9 => ?_)
  obtain ⟨rfl, rfl⟩ := h9
  refine j_w (w' := xW x az af ac ab aj sp ++ (zW az cI n va re tr sh (nf C) (nI K) ++ (fW af cI (nf F) (nI fk) ++ (cW ac cI dn (nI ck) ch ++ (bW ab cI bl (nI bk) ++ (jW aj cI (nf U) jr ja (nI jk) (nI jq))))))) rfl ?_
  refine j_st (st9 := [.int (nI bk), .int (-1), .int (nI j)]) rfl ?_
  refine j_iconst CX dX5_book_15 (show _ = (nI 1 : Int32) by decide) ?_
  refine j_isub CX dX5_book_16 ?_
  refine j_top (show ((nI bk) - (nI 1)) = nI (bk - 1) from pk_sub (by omega)) ?_
  refine j_callS CX (n := 3) (b := 0) (pre := []) (post := xW x az af ac ab aj sp ++ (zW az cI n va re tr sh (nf C) (nI K) ++ (fW af cI (nf F) (nI fk) ++ (cW ac cI dn (nI ck) ch ++ (bW ab cI bl (nI bk) ++ (jW aj cI (nf U) jr ja (nI jk) (nI jq))))))) (rest := []) (x_cw l D cI cZ cL (nI j) (-1) (nI (bk - 1)) (nI_nltm1 (by omega)) (nI_nlt (by omega) (by omega))) gX5_book_X5_checkWithin rfl (by decide +kernel) ⟨Nat.le_of_ble_eq_true rfl, Nat.le_of_ble_eq_true rfl⟩ rfl rfl rfl (Nat.le_of_ble_eq_true rfl) dX5_book_17 ⟨Nat.le_refl _, Nat.le_refl _⟩ (fun r9 w9 h9 => ?_)
  obtain ⟨rfl, rfl⟩ := h9
  refine j_w (w' := xW x az af ac ab aj sp ++ (zW az cI n va re tr sh (nf C) (nI K) ++ (fW af cI (nf F) (nI fk) ++ (cW ac cI dn (nI ck) ch ++ (bW ab cI bl (nI bk) ++ (jW aj cI (nf U) jr ja (nI jk) (nI jq))))))) rfl ?_
  refine j_st (st9 := []) rfl ?_
  refine j_iload_n CX 1 dX5_book_20 rfl rfl ?_
  refine j_iconst CX dX5_book_21 (show _ = ((-1) : Int32) by decide) ?_
  refine j_icmp_ne CX 35 dX5_book_22 (by decide) (fun h22 => ?_) (fun h22 => ?_)
  · refine j_aload_n CX 0 dX5_book_35 rfl rfl ?_
    refine j_get CX 0 3 dX5_book_36 rfl rfl hin5 (by decide) hfl44 rfl ?_
    refine j_iload_n CX 1 dX5_book_39 rfl rfl ?_
    refine j_iload_n CX 2 dX5_book_40 rfl rfl ?_
    refine j_callV CX (n := 2) (pre := xW x az af ac ab aj sp ++ (zW az cI n va re tr sh (nf C) (nI K) ++ (fW af cI (nf F) (nI fk) ++ (cW ac cI dn (nI ck) ch)))) (post := jW aj cI (nf U) jr ja (nI jk) (nI jq)) (rest := []) (qc := (RX0, TX0, 2)) (b_read1 l D cI cZ cL ab bl bk j (by omega)) gX5_book_X0_read rfl (by decide +kernel) ⟨Nat.le_of_ble_eq_true rfl, Nat.le_of_ble_eq_true rfl⟩ rfl rfl rfl rfl rfl (Nat.le_of_ble_eq_true rfl) dX5_book_41 ⟨Nat.le_refl _, Nat.le_refl _⟩ (fun r9 w9 h9 => ?_)
    obtain ⟨rfl, rfl⟩ := h9
    refine j_w (w' := xW x az af ac ab aj sp ++ (zW az cI n va re tr sh (nf C) (nI K) ++ (fW af cI (nf F) (nI fk) ++ (cW ac cI dn (nI ck) ch ++ (bW ab cI bl (nI bk) ++ (jW aj cI (nf U) jr ja (nI jk) (nI jq))))))) rfl ?_
    refine j_st (st9 := [.int ((bl j >>> (nI 4 &&& 31)) &&& nI 31)]) rfl ?_
    exact j_iret CX hr hlocks dX5_book_44 (⟨rfl, rfl⟩)
  · exact absurd h22 (nI_nm1 (by omega))

set_option maxRecDepth 100000 in
set_option maxHeartbeats 4000000 in
theorem x_book2 (l : Launch) (D : va_G) (cI cZ cL : ClassId) (x : Nat) (az af ac ab aj : Nat → Nat) (sp : Int32) (n : Nat) (va re tr sh : Nat → Int32) (C : Nat → Nat) (K : Nat) (F : Nat → Nat) (fk : Nat) (dn : Nat → Int32) (ck : Nat) (ch : Int32) (bl : Nat → Int32) (bk : Nat) (U : Nat → Nat) (jr ja : Nat → Int32) (jk jq : Nat) (j : Nat) (hj : j < bk) (hbk : bk ≤ 2000) : Cg l D cI cZ cL yX5_book wsX5_book rmX5_book [.ref x, .int (nI j), .int (nI 2)] (xW x az af ac ab aj sp ++ (zW az cI n va re tr sh (nf C) (nI K) ++ (fW af cI (nf F) (nI fk) ++ (cW ac cI dn (nI ck) ch ++ (bW ab cI bl (nI bk) ++ (jW aj cI (nf U) jr ja (nI jk) (nI jq))))))) (fun r0 w0 => r0 = some (.int ((bl j >>> (nI 9 &&& 31)) &&& nI 1023)) ∧ w0 = xW x az af ac ab aj sp ++ (zW az cI n va re tr sh (nf C) (nI K) ++ (fW af cI (nf F) (nI fk) ++ (cW ac cI dn (nI ck) ch ++ (bW ab cI bl (nI bk) ++ (jW aj cI (nf U) jr ja (nI jk) (nI jq))))))) := by
  refine Cg.ofJ (own := RX5) (cc := cX5_book) (maxL := 3) (ret := (some .int)) (by decide) rfl rfl (Nat.le_of_ble_eq_true rfl) ?_
  intro p e s m args below meth c A CX hr hlocks hname
  have hin5 : ∀ x ∈ u_ws RX5 TX5 6, x ∈ wsX5_book := by decide +kernel
  have hfl44 : Cond.fieldLink RX5 44 (TX5 3).1 (TX5 3).2.1 (TX5 3).2.2.1 ∈ wsX5_book := by decide +kernel
  show J p l e rmX5_book s m args below meth c D A 3 0 0 (MQ below (jQc D (fun r0 w0 => r0 = some (.int ((bl j >>> (nI 9 &&& 31)) &&& nI 1023)) ∧ w0 = xW x az af ac ab aj sp ++ (zW az cI n va re tr sh (nf C) (nI K) ++ (fW af cI (nf F) (nI fk) ++ (cW ac cI dn (nI ck) ch ++ (bW ab cI bl (nI bk) ++ (jW aj cI (nf U) jr ja (nI jk) (nI jq))))))) A) args s rmX5_book.cells rmX5_book.slots A) (xW x az af ac ab aj sp ++ (zW az cI n va re tr sh (nf C) (nI K) ++ (fW af cI (nf F) (nI fk) ++ (cW ac cI dn (nI ck) ch ++ (bW ab cI bl (nI bk) ++ (jW aj cI (nf U) jr ja (nI jk) (nI jq))))))) 0 [(0, .ref x), (1, .int (nI j)), (2, .int (nI 2))] []
  refine j_iload_n CX 2 dX5_book_0 rfl rfl ?_
  refine j_iconst CX dX5_book_1 (show _ = (nI 0 : Int32) by decide) ?_
  refine j_iconst CX dX5_book_2 (show _ = (nI 3 : Int32) by decide) ?_
  refine j_callS CX (n := 3) (b := 0) (pre := []) (post := xW x az af ac ab aj sp ++ (zW az cI n va re tr sh (nf C) (nI K) ++ (fW af cI (nf F) (nI fk) ++ (cW ac cI dn (nI ck) ch ++ (bW ab cI bl (nI bk) ++ (jW aj cI (nf U) jr ja (nI jk) (nI jq))))))) (rest := []) (x_cw l D cI cZ cL (nI 2) (nI 0) (nI 3) (nI_nlt (by omega) (by omega)) (nI_nlt (by omega) (by omega))) gX5_book_X5_checkWithin rfl (by decide +kernel) ⟨Nat.le_of_ble_eq_true rfl, Nat.le_of_ble_eq_true rfl⟩ rfl rfl rfl (Nat.le_of_ble_eq_true rfl) dX5_book_3 ⟨Nat.le_refl _, Nat.le_refl _⟩ (fun r9 w9 h9 => ?_)
  obtain ⟨rfl, rfl⟩ := h9
  refine j_w (w' := xW x az af ac ab aj sp ++ (zW az cI n va re tr sh (nf C) (nI K) ++ (fW af cI (nf F) (nI fk) ++ (cW ac cI dn (nI ck) ch ++ (bW ab cI bl (nI bk) ++ (jW aj cI (nf U) jr ja (nI jk) (nI jq))))))) rfl ?_
  refine j_st (st9 := []) rfl ?_
  refine j_iload_n CX 1 dX5_book_6 rfl rfl ?_
  refine j_iconst CX dX5_book_7 (show _ = ((-1) : Int32) by decide) ?_
  refine j_aload_n CX 0 dX5_book_8 rfl rfl ?_
  refine j_get CX 0 3 dX5_book_9 rfl rfl hin5 (by decide) hfl44 rfl ?_
  refine j_callV CX (n := 0) (pre := xW x az af ac ab aj sp ++ (zW az cI n va re tr sh (nf C) (nI K) ++ (fW af cI (nf F) (nI fk) ++ (cW ac cI dn (nI ck) ch)))) (post := jW aj cI (nf U) jr ja (nI jk) (nI jq)) (rest := [.int (-1), .int (nI j)]) (qc := (RX0, TX0, 2)) (b_size l D cI cZ cL ab bl bk ) gX5_book_X0_size rfl (by decide +kernel) ⟨Nat.le_of_ble_eq_true rfl, Nat.le_of_ble_eq_true rfl⟩ rfl rfl rfl rfl rfl (Nat.le_of_ble_eq_true rfl) dX5_book_12 ⟨Nat.le_refl _, Nat.le_refl _⟩ (fun r9 w9 h9 => ?_)
  obtain ⟨rfl, rfl⟩ := h9
  refine j_w (w' := xW x az af ac ab aj sp ++ (zW az cI n va re tr sh (nf C) (nI K) ++ (fW af cI (nf F) (nI fk) ++ (cW ac cI dn (nI ck) ch ++ (bW ab cI bl (nI bk) ++ (jW aj cI (nf U) jr ja (nI jk) (nI jq))))))) rfl ?_
  refine j_st (st9 := [.int (nI bk), .int (-1), .int (nI j)]) rfl ?_
  refine j_iconst CX dX5_book_15 (show _ = (nI 1 : Int32) by decide) ?_
  refine j_isub CX dX5_book_16 ?_
  refine j_top (show ((nI bk) - (nI 1)) = nI (bk - 1) from pk_sub (by omega)) ?_
  refine j_callS CX (n := 3) (b := 0) (pre := []) (post := xW x az af ac ab aj sp ++ (zW az cI n va re tr sh (nf C) (nI K) ++ (fW af cI (nf F) (nI fk) ++ (cW ac cI dn (nI ck) ch ++ (bW ab cI bl (nI bk) ++ (jW aj cI (nf U) jr ja (nI jk) (nI jq))))))) (rest := []) (x_cw l D cI cZ cL (nI j) (-1) (nI (bk - 1)) (nI_nltm1 (by omega)) (nI_nlt (by omega) (by omega))) gX5_book_X5_checkWithin rfl (by decide +kernel) ⟨Nat.le_of_ble_eq_true rfl, Nat.le_of_ble_eq_true rfl⟩ rfl rfl rfl (Nat.le_of_ble_eq_true rfl) dX5_book_17 ⟨Nat.le_refl _, Nat.le_refl _⟩ (fun r9 w9 h9 => ?_)
  obtain ⟨rfl, rfl⟩ := h9
  refine j_w (w' := xW x az af ac ab aj sp ++ (zW az cI n va re tr sh (nf C) (nI K) ++ (fW af cI (nf F) (nI fk) ++ (cW ac cI dn (nI ck) ch ++ (bW ab cI bl (nI bk) ++ (jW aj cI (nf U) jr ja (nI jk) (nI jq))))))) rfl ?_
  refine j_st (st9 := []) rfl ?_
  refine j_iload_n CX 1 dX5_book_20 rfl rfl ?_
  refine j_iconst CX dX5_book_21 (show _ = ((-1) : Int32) by decide) ?_
  refine j_icmp_ne CX 35 dX5_book_22 (by decide) (fun h22 => ?_) (fun h22 => ?_)
  · refine j_aload_n CX 0 dX5_book_35 rfl rfl ?_
    refine j_get CX 0 3 dX5_book_36 rfl rfl hin5 (by decide) hfl44 rfl ?_
    refine j_iload_n CX 1 dX5_book_39 rfl rfl ?_
    refine j_iload_n CX 2 dX5_book_40 rfl rfl ?_
    refine j_callV CX (n := 2) (pre := xW x az af ac ab aj sp ++ (zW az cI n va re tr sh (nf C) (nI K) ++ (fW af cI (nf F) (nI fk) ++ (cW ac cI dn (nI ck) ch)))) (post := jW aj cI (nf U) jr ja (nI jk) (nI jq)) (rest := []) (qc := (RX0, TX0, 2)) (b_read2 l D cI cZ cL ab bl bk j (by omega)) gX5_book_X0_read rfl (by decide +kernel) ⟨Nat.le_of_ble_eq_true rfl, Nat.le_of_ble_eq_true rfl⟩ rfl rfl rfl rfl rfl (Nat.le_of_ble_eq_true rfl) dX5_book_41 ⟨Nat.le_refl _, Nat.le_refl _⟩ (fun r9 w9 h9 => ?_)
    obtain ⟨rfl, rfl⟩ := h9
    refine j_w (w' := xW x az af ac ab aj sp ++ (zW az cI n va re tr sh (nf C) (nI K) ++ (fW af cI (nf F) (nI fk) ++ (cW ac cI dn (nI ck) ch ++ (bW ab cI bl (nI bk) ++ (jW aj cI (nf U) jr ja (nI jk) (nI jq))))))) rfl ?_
    refine j_st (st9 := [.int ((bl j >>> (nI 9 &&& 31)) &&& nI 1023)]) rfl ?_
    exact j_iret CX hr hlocks dX5_book_44 (⟨rfl, rfl⟩)
  · exact absurd h22 (nI_nm1 (by omega))

set_option maxRecDepth 100000 in
set_option maxHeartbeats 4000000 in
theorem x_book3 (l : Launch) (D : va_G) (cI cZ cL : ClassId) (x : Nat) (az af ac ab aj : Nat → Nat) (sp : Int32) (n : Nat) (va re tr sh : Nat → Int32) (C : Nat → Nat) (K : Nat) (F : Nat → Nat) (fk : Nat) (dn : Nat → Int32) (ck : Nat) (ch : Int32) (bl : Nat → Int32) (bk : Nat) (U : Nat → Nat) (jr ja : Nat → Int32) (jk jq : Nat) (j : Nat) (hj : j < bk) (hbk : bk ≤ 2000) : Cg l D cI cZ cL yX5_book wsX5_book rmX5_book [.ref x, .int (nI j), .int (nI 3)] (xW x az af ac ab aj sp ++ (zW az cI n va re tr sh (nf C) (nI K) ++ (fW af cI (nf F) (nI fk) ++ (cW ac cI dn (nI ck) ch ++ (bW ab cI bl (nI bk) ++ (jW aj cI (nf U) jr ja (nI jk) (nI jq))))))) (fun r0 w0 => r0 = some (.int ((bl j >>> (nI 19 &&& 31)) &&& nI 1)) ∧ w0 = xW x az af ac ab aj sp ++ (zW az cI n va re tr sh (nf C) (nI K) ++ (fW af cI (nf F) (nI fk) ++ (cW ac cI dn (nI ck) ch ++ (bW ab cI bl (nI bk) ++ (jW aj cI (nf U) jr ja (nI jk) (nI jq))))))) := by
  refine Cg.ofJ (own := RX5) (cc := cX5_book) (maxL := 3) (ret := (some .int)) (by decide) rfl rfl (Nat.le_of_ble_eq_true rfl) ?_
  intro p e s m args below meth c A CX hr hlocks hname
  have hin5 : ∀ x ∈ u_ws RX5 TX5 6, x ∈ wsX5_book := by decide +kernel
  have hfl44 : Cond.fieldLink RX5 44 (TX5 3).1 (TX5 3).2.1 (TX5 3).2.2.1 ∈ wsX5_book := by decide +kernel
  show J p l e rmX5_book s m args below meth c D A 3 0 0 (MQ below (jQc D (fun r0 w0 => r0 = some (.int ((bl j >>> (nI 19 &&& 31)) &&& nI 1)) ∧ w0 = xW x az af ac ab aj sp ++ (zW az cI n va re tr sh (nf C) (nI K) ++ (fW af cI (nf F) (nI fk) ++ (cW ac cI dn (nI ck) ch ++ (bW ab cI bl (nI bk) ++ (jW aj cI (nf U) jr ja (nI jk) (nI jq))))))) A) args s rmX5_book.cells rmX5_book.slots A) (xW x az af ac ab aj sp ++ (zW az cI n va re tr sh (nf C) (nI K) ++ (fW af cI (nf F) (nI fk) ++ (cW ac cI dn (nI ck) ch ++ (bW ab cI bl (nI bk) ++ (jW aj cI (nf U) jr ja (nI jk) (nI jq))))))) 0 [(0, .ref x), (1, .int (nI j)), (2, .int (nI 3))] []
  refine j_iload_n CX 2 dX5_book_0 rfl rfl ?_
  refine j_iconst CX dX5_book_1 (show _ = (nI 0 : Int32) by decide) ?_
  refine j_iconst CX dX5_book_2 (show _ = (nI 3 : Int32) by decide) ?_
  refine j_callS CX (n := 3) (b := 0) (pre := []) (post := xW x az af ac ab aj sp ++ (zW az cI n va re tr sh (nf C) (nI K) ++ (fW af cI (nf F) (nI fk) ++ (cW ac cI dn (nI ck) ch ++ (bW ab cI bl (nI bk) ++ (jW aj cI (nf U) jr ja (nI jk) (nI jq))))))) (rest := []) (x_cw l D cI cZ cL (nI 3) (nI 0) (nI 3) (nI_nlt (by omega) (by omega)) (nI_nlt (by omega) (by omega))) gX5_book_X5_checkWithin rfl (by decide +kernel) ⟨Nat.le_of_ble_eq_true rfl, Nat.le_of_ble_eq_true rfl⟩ rfl rfl rfl (Nat.le_of_ble_eq_true rfl) dX5_book_3 ⟨Nat.le_refl _, Nat.le_refl _⟩ (fun r9 w9 h9 => ?_)
  obtain ⟨rfl, rfl⟩ := h9
  refine j_w (w' := xW x az af ac ab aj sp ++ (zW az cI n va re tr sh (nf C) (nI K) ++ (fW af cI (nf F) (nI fk) ++ (cW ac cI dn (nI ck) ch ++ (bW ab cI bl (nI bk) ++ (jW aj cI (nf U) jr ja (nI jk) (nI jq))))))) rfl ?_
  refine j_st (st9 := []) rfl ?_
  refine j_iload_n CX 1 dX5_book_6 rfl rfl ?_
  refine j_iconst CX dX5_book_7 (show _ = ((-1) : Int32) by decide) ?_
  refine j_aload_n CX 0 dX5_book_8 rfl rfl ?_
  refine j_get CX 0 3 dX5_book_9 rfl rfl hin5 (by decide) hfl44 rfl ?_
  refine j_callV CX (n := 0) (pre := xW x az af ac ab aj sp ++ (zW az cI n va re tr sh (nf C) (nI K) ++ (fW af cI (nf F) (nI fk) ++ (cW ac cI dn (nI ck) ch)))) (post := jW aj cI (nf U) jr ja (nI jk) (nI jq)) (rest := [.int (-1), .int (nI j)]) (qc := (RX0, TX0, 2)) (b_size l D cI cZ cL ab bl bk ) gX5_book_X0_size rfl (by decide +kernel) ⟨Nat.le_of_ble_eq_true rfl, Nat.le_of_ble_eq_true rfl⟩ rfl rfl rfl rfl rfl (Nat.le_of_ble_eq_true rfl) dX5_book_12 ⟨Nat.le_refl _, Nat.le_refl _⟩ (fun r9 w9 h9 => ?_)
  obtain ⟨rfl, rfl⟩ := h9
  refine j_w (w' := xW x az af ac ab aj sp ++ (zW az cI n va re tr sh (nf C) (nI K) ++ (fW af cI (nf F) (nI fk) ++ (cW ac cI dn (nI ck) ch ++ (bW ab cI bl (nI bk) ++ (jW aj cI (nf U) jr ja (nI jk) (nI jq))))))) rfl ?_
  refine j_st (st9 := [.int (nI bk), .int (-1), .int (nI j)]) rfl ?_
  refine j_iconst CX dX5_book_15 (show _ = (nI 1 : Int32) by decide) ?_
  refine j_isub CX dX5_book_16 ?_
  refine j_top (show ((nI bk) - (nI 1)) = nI (bk - 1) from pk_sub (by omega)) ?_
  refine j_callS CX (n := 3) (b := 0) (pre := []) (post := xW x az af ac ab aj sp ++ (zW az cI n va re tr sh (nf C) (nI K) ++ (fW af cI (nf F) (nI fk) ++ (cW ac cI dn (nI ck) ch ++ (bW ab cI bl (nI bk) ++ (jW aj cI (nf U) jr ja (nI jk) (nI jq))))))) (rest := []) (x_cw l D cI cZ cL (nI j) (-1) (nI (bk - 1)) (nI_nltm1 (by omega)) (nI_nlt (by omega) (by omega))) gX5_book_X5_checkWithin rfl (by decide +kernel) ⟨Nat.le_of_ble_eq_true rfl, Nat.le_of_ble_eq_true rfl⟩ rfl rfl rfl (Nat.le_of_ble_eq_true rfl) dX5_book_17 ⟨Nat.le_refl _, Nat.le_refl _⟩ (fun r9 w9 h9 => ?_)
  obtain ⟨rfl, rfl⟩ := h9
  refine j_w (w' := xW x az af ac ab aj sp ++ (zW az cI n va re tr sh (nf C) (nI K) ++ (fW af cI (nf F) (nI fk) ++ (cW ac cI dn (nI ck) ch ++ (bW ab cI bl (nI bk) ++ (jW aj cI (nf U) jr ja (nI jk) (nI jq))))))) rfl ?_
  refine j_st (st9 := []) rfl ?_
  refine j_iload_n CX 1 dX5_book_20 rfl rfl ?_
  refine j_iconst CX dX5_book_21 (show _ = ((-1) : Int32) by decide) ?_
  refine j_icmp_ne CX 35 dX5_book_22 (by decide) (fun h22 => ?_) (fun h22 => ?_)
  · refine j_aload_n CX 0 dX5_book_35 rfl rfl ?_
    refine j_get CX 0 3 dX5_book_36 rfl rfl hin5 (by decide) hfl44 rfl ?_
    refine j_iload_n CX 1 dX5_book_39 rfl rfl ?_
    refine j_iload_n CX 2 dX5_book_40 rfl rfl ?_
    refine j_callV CX (n := 2) (pre := xW x az af ac ab aj sp ++ (zW az cI n va re tr sh (nf C) (nI K) ++ (fW af cI (nf F) (nI fk) ++ (cW ac cI dn (nI ck) ch)))) (post := jW aj cI (nf U) jr ja (nI jk) (nI jq)) (rest := []) (qc := (RX0, TX0, 2)) (b_read3 l D cI cZ cL ab bl bk j (by omega)) gX5_book_X0_read rfl (by decide +kernel) ⟨Nat.le_of_ble_eq_true rfl, Nat.le_of_ble_eq_true rfl⟩ rfl rfl rfl rfl rfl (Nat.le_of_ble_eq_true rfl) dX5_book_41 ⟨Nat.le_refl _, Nat.le_refl _⟩ (fun r9 w9 h9 => ?_)
    obtain ⟨rfl, rfl⟩ := h9
    refine j_w (w' := xW x az af ac ab aj sp ++ (zW az cI n va re tr sh (nf C) (nI K) ++ (fW af cI (nf F) (nI fk) ++ (cW ac cI dn (nI ck) ch ++ (bW ab cI bl (nI bk) ++ (jW aj cI (nf U) jr ja (nI jk) (nI jq))))))) rfl ?_
    refine j_st (st9 := [.int ((bl j >>> (nI 19 &&& 31)) &&& nI 1)]) rfl ?_
    exact j_iret CX hr hlocks dX5_book_44 (⟨rfl, rfl⟩)
  · exact absurd h22 (nI_nm1 (by omega))

abbrev rmX5_job : Room := { frames := 7, cells := 0, slots := 0, locals := 222 }
set_option maxRecDepth 100000 in
set_option maxHeartbeats 4000000 in
theorem x_job (l : Launch) (D : va_G) (cI cZ cL : ClassId) (x : Nat) (az af ac ab aj : Nat → Nat) (sp : Int32) (n : Nat) (va re tr sh : Nat → Int32) (C : Nat → Nat) (K : Nat) (F : Nat → Nat) (fk : Nat) (dn : Nat → Int32) (ck : Nat) (ch : Int32) (bl : Nat → Int32) (bk : Nat) (U : Nat → Nat) (jr ja : Nat → Int32) (jk jq : Nat) (v : Nat) (hv : v ≤ 100) (hjk : jk < 100) : Cg l D cI cZ cL yX5_job wsX5_job rmX5_job [.ref x, .int (nI v)] (xW x az af ac ab aj sp ++ (zW az cI n va re tr sh (nf C) (nI K) ++ (fW af cI (nf F) (nI fk) ++ (cW ac cI dn (nI ck) ch ++ (bW ab cI bl (nI bk) ++ (jW aj cI (nf U) jr ja (nI jk) (nI jq))))))) (fun r0 w0 => r0 = some (.int (nI jq)) ∧ w0 = xW x az af ac ab aj sp ++ (zW az cI n va re tr sh (nf C) (nI K) ++ (fW af cI (nf F) (nI fk) ++ (cW ac cI dn (nI ck) ch ++ (bW ab cI bl (nI bk) ++ (jW aj cI (nf (updN U jk jq)) (upd jr jk (nI v)) (upd ja jk (nI 0)) (nI (jk + 1)) (nI (jq + 1)))))))) := by
  refine Cg.ofJ (own := RX5) (cc := cX5_job) (maxL := 2) (ret := (some .int)) (by decide) rfl rfl (Nat.le_of_ble_eq_true rfl) ?_
  intro p e s m args below meth c A CX hr hlocks hname
  have hin5 : ∀ x ∈ u_ws RX5 TX5 6, x ∈ wsX5_job := by decide +kernel
  have hfl51 : Cond.fieldLink RX5 51 (TX5 4).1 (TX5 4).2.1 (TX5 4).2.2.1 ∈ wsX5_job := by decide +kernel
  show J p l e rmX5_job s m args below meth c D A 2 0 0 (MQ below (jQc D (fun r0 w0 => r0 = some (.int (nI jq)) ∧ w0 = xW x az af ac ab aj sp ++ (zW az cI n va re tr sh (nf C) (nI K) ++ (fW af cI (nf F) (nI fk) ++ (cW ac cI dn (nI ck) ch ++ (bW ab cI bl (nI bk) ++ (jW aj cI (nf (updN U jk jq)) (upd jr jk (nI v)) (upd ja jk (nI 0)) (nI (jk + 1)) (nI (jq + 1)))))))) A) args s rmX5_job.cells rmX5_job.slots A) (xW x az af ac ab aj sp ++ (zW az cI n va re tr sh (nf C) (nI K) ++ (fW af cI (nf F) (nI fk) ++ (cW ac cI dn (nI ck) ch ++ (bW ab cI bl (nI bk) ++ (jW aj cI (nf U) jr ja (nI jk) (nI jq))))))) 0 [(0, .ref x), (1, .int (nI v))] []
  refine j_iload_n CX 1 dX5_job_0 rfl rfl ?_
  refine j_iconst CX dX5_job_1 (show _ = (nI 0 : Int32) by decide) ?_
  refine j_bipush CX dX5_job_2 (show _ = (nI 100 : Int32) by decide) ?_
  refine j_callS CX (n := 3) (b := 0) (pre := []) (post := xW x az af ac ab aj sp ++ (zW az cI n va re tr sh (nf C) (nI K) ++ (fW af cI (nf F) (nI fk) ++ (cW ac cI dn (nI ck) ch ++ (bW ab cI bl (nI bk) ++ (jW aj cI (nf U) jr ja (nI jk) (nI jq))))))) (rest := []) (x_cw l D cI cZ cL (nI v) (nI 0) (nI 100) (nI_nlt (by omega) (by omega)) (nI_nlt (by omega) (by omega))) gX5_job_X5_checkWithin rfl (by decide +kernel) ⟨Nat.le_of_ble_eq_true rfl, Nat.le_of_ble_eq_true rfl⟩ rfl rfl rfl (Nat.le_of_ble_eq_true rfl) dX5_job_4 ⟨Nat.le_refl _, Nat.le_refl _⟩ (fun r9 w9 h9 => ?_)
  obtain ⟨rfl, rfl⟩ := h9
  refine j_w (w' := xW x az af ac ab aj sp ++ (zW az cI n va re tr sh (nf C) (nI K) ++ (fW af cI (nf F) (nI fk) ++ (cW ac cI dn (nI ck) ch ++ (bW ab cI bl (nI bk) ++ (jW aj cI (nf U) jr ja (nI jk) (nI jq))))))) rfl ?_
  refine j_st (st9 := []) rfl ?_
  refine j_aload_n CX 0 dX5_job_7 rfl rfl ?_
  refine j_get CX 0 4 dX5_job_8 rfl rfl hin5 (by decide) hfl51 rfl ?_
  refine j_callV CX (n := 0) (pre := xW x az af ac ab aj sp ++ (zW az cI n va re tr sh (nf C) (nI K) ++ (fW af cI (nf F) (nI fk) ++ (cW ac cI dn (nI ck) ch ++ (bW ab cI bl (nI bk)))))) (post := []) (rest := []) (qc := (RX3, TX3, 5)) (j_isFull l D cI cZ cL aj U jr ja jk jq (by omega)) gX5_job_X3_isFull rfl (by decide +kernel) ⟨Nat.le_of_ble_eq_true rfl, Nat.le_of_ble_eq_true rfl⟩ rfl rfl rfl rfl rfl (Nat.le_of_ble_eq_true rfl) dX5_job_11 ⟨Nat.le_refl _, Nat.le_refl _⟩ (fun r9 w9 h9 => ?_)
  obtain ⟨rfl, rfl⟩ := h9
  refine j_w (w' := xW x az af ac ab aj sp ++ (zW az cI n va re tr sh (nf C) (nI K) ++ (fW af cI (nf F) (nI fk) ++ (cW ac cI dn (nI ck) ch ++ (bW ab cI bl (nI bk) ++ (jW aj cI (nf U) jr ja (nI jk) (nI jq))))))) rfl ?_
  refine j_st (st9 := [.int (nI (b2n (100 ≤ jk)))]) rfl ?_
  refine j_ifN_eq CX (by first | assumption | omega | exact b2n_lt _ | exact t2n_lt _) 27 dX5_job_14 (by decide) (fun h14 => ?_) (fun h14 => ?_)
  · refine j_aload_n CX 0 dX5_job_27 rfl rfl ?_
    refine j_get CX 0 4 dX5_job_28 rfl rfl hin5 (by decide) hfl51 rfl ?_
    refine j_iload_n CX 1 dX5_job_31 rfl rfl ?_
    refine j_callV CX (n := 1) (pre := xW x az af ac ab aj sp ++ (zW az cI n va re tr sh (nf C) (nI K) ++ (fW af cI (nf F) (nI fk) ++ (cW ac cI dn (nI ck) ch ++ (bW ab cI bl (nI bk)))))) (post := []) (rest := []) (qc := (RX3, TX3, 5)) (j_add l D cI cZ cL aj U jr ja jk jq (nI v) hjk) gX5_job_X3_add rfl (by decide +kernel) ⟨Nat.le_of_ble_eq_true rfl, Nat.le_of_ble_eq_true rfl⟩ rfl rfl rfl rfl rfl (Nat.le_of_ble_eq_true rfl) dX5_job_32 ⟨Nat.le_refl _, Nat.le_refl _⟩ (fun r9 w9 h9 => ?_)
    obtain ⟨rfl, rfl⟩ := h9
    refine j_w (w' := xW x az af ac ab aj sp ++ (zW az cI n va re tr sh (nf C) (nI K) ++ (fW af cI (nf F) (nI fk) ++ (cW ac cI dn (nI ck) ch ++ (bW ab cI bl (nI bk) ++ (jW aj cI (nf (updN U jk jq)) (upd jr jk (nI v)) (upd ja jk (nI 0)) (nI (jk + 1)) (nI (jq + 1)))))))) rfl ?_
    refine j_st (st9 := [.int (nI jq)]) rfl ?_
    exact j_iret CX hr hlocks dX5_job_35 (⟨rfl, rfl⟩)
  · exact absurd h14 (by rw [b2n_f (by omega)]; decide)

abbrev rmX5_take : Room := { frames := 3, cells := 0, slots := 0, locals := 109 }
set_option maxRecDepth 100000 in
set_option maxHeartbeats 4000000 in
theorem x_take0 (l : Launch) (D : va_G) (cI cZ cL : ClassId) (x : Nat) (az af ac ab aj : Nat → Nat) (sp : Int32) (n : Nat) (va re tr sh : Nat → Int32) (C : Nat → Nat) (K : Nat) (F : Nat → Nat) (fk : Nat) (dn : Nat → Int32) (ck : Nat) (ch : Int32) (bl : Nat → Int32) (bk : Nat) (U : Nat → Nat) (jr ja : Nat → Int32) (jq : Nat)  : Cg l D cI cZ cL yX5_take wsX5_take rmX5_take [.ref x] (xW x az af ac ab aj sp ++ (zW az cI n va re tr sh (nf C) (nI K) ++ (fW af cI (nf F) (nI fk) ++ (cW ac cI dn (nI ck) ch ++ (bW ab cI bl (nI bk) ++ (jW aj cI (nf U) jr ja (nI 0) (nI jq))))))) (fun r0 w0 => r0 = some (.int (-1)) ∧ w0 = xW x az af ac ab aj sp ++ (zW az cI n va re tr sh (nf C) (nI K) ++ (fW af cI (nf F) (nI fk) ++ (cW ac cI dn (nI ck) ch ++ (bW ab cI bl (nI bk) ++ (jW aj cI (nf U) jr ja (nI 0) (nI jq))))))) := by
  refine Cg.ofJ (own := RX5) (cc := cX5_take) (maxL := 1) (ret := (some .int)) (by decide) rfl rfl (Nat.le_of_ble_eq_true rfl) ?_
  intro p e s m args below meth c A CX hr hlocks hname
  have hin5 : ∀ x ∈ u_ws RX5 TX5 6, x ∈ wsX5_take := by decide +kernel
  have hfl51 : Cond.fieldLink RX5 51 (TX5 4).1 (TX5 4).2.1 (TX5 4).2.2.1 ∈ wsX5_take := by decide +kernel
  show J p l e rmX5_take s m args below meth c D A 1 0 0 (MQ below (jQc D (fun r0 w0 => r0 = some (.int (-1)) ∧ w0 = xW x az af ac ab aj sp ++ (zW az cI n va re tr sh (nf C) (nI K) ++ (fW af cI (nf F) (nI fk) ++ (cW ac cI dn (nI ck) ch ++ (bW ab cI bl (nI bk) ++ (jW aj cI (nf U) jr ja (nI 0) (nI jq))))))) A) args s rmX5_take.cells rmX5_take.slots A) (xW x az af ac ab aj sp ++ (zW az cI n va re tr sh (nf C) (nI K) ++ (fW af cI (nf F) (nI fk) ++ (cW ac cI dn (nI ck) ch ++ (bW ab cI bl (nI bk) ++ (jW aj cI (nf U) jr ja (nI 0) (nI jq))))))) 0 [(0, .ref x)] []
  refine j_aload_n CX 0 dX5_take_0 rfl rfl ?_
  refine j_get CX 0 4 dX5_take_1 rfl rfl hin5 (by decide) hfl51 rfl ?_
  refine j_callV CX (n := 0) (pre := xW x az af ac ab aj sp ++ (zW az cI n va re tr sh (nf C) (nI K) ++ (fW af cI (nf F) (nI fk) ++ (cW ac cI dn (nI ck) ch ++ (bW ab cI bl (nI bk)))))) (post := []) (rest := []) (qc := (RX3, TX3, 5)) (j_take0 l D cI cZ cL aj U jr ja jq) gX5_take_X3_takeFirst rfl (by decide +kernel) ⟨Nat.le_of_ble_eq_true rfl, Nat.le_of_ble_eq_true rfl⟩ rfl rfl rfl rfl rfl (Nat.le_of_ble_eq_true rfl) dX5_take_4 ⟨Nat.le_refl _, Nat.le_refl _⟩ (fun r9 w9 h9 => ?_)
  obtain ⟨rfl, rfl⟩ := h9
  refine j_w (w' := xW x az af ac ab aj sp ++ (zW az cI n va re tr sh (nf C) (nI K) ++ (fW af cI (nf F) (nI fk) ++ (cW ac cI dn (nI ck) ch ++ (bW ab cI bl (nI bk) ++ (jW aj cI (nf U) jr ja (nI 0) (nI jq))))))) rfl ?_
  refine j_st (st9 := [.int (-1)]) rfl ?_
  exact j_iret CX hr hlocks dX5_take_7 (⟨rfl, rfl⟩)

set_option maxRecDepth 100000 in
set_option maxHeartbeats 4000000 in
theorem x_take (l : Launch) (D : va_G) (cI cZ cL : ClassId) (x : Nat) (az af ac ab aj : Nat → Nat) (sp : Int32) (n : Nat) (va re tr sh : Nat → Int32) (C : Nat → Nat) (K : Nat) (F : Nat → Nat) (fk : Nat) (dn : Nat → Int32) (ck : Nat) (ch : Int32) (bl : Nat → Int32) (bk : Nat) (U : Nat → Nat) (jr ja : Nat → Int32) (jk jq : Nat) (hjk : jk ≤ 100) (h0 : 0 < jk) : Cg l D cI cZ cL yX5_take wsX5_take rmX5_take [.ref x] (xW x az af ac ab aj sp ++ (zW az cI n va re tr sh (nf C) (nI K) ++ (fW af cI (nf F) (nI fk) ++ (cW ac cI dn (nI ck) ch ++ (bW ab cI bl (nI bk) ++ (jW aj cI (nf U) jr ja (nI jk) (nI jq))))))) (fun r0 w0 => r0 = some (.int (nI (U (fmF jr ja (jk - 1))))) ∧ w0 = xW x az af ac ab aj sp ++ (zW az cI n va re tr sh (nf C) (nI K) ++ (fW af cI (nf F) (nI fk) ++ (cW ac cI dn (nI ck) ch ++ (bW ab cI bl (nI bk) ++ (jW aj cI (nf (cpyN U U (fmF jr ja (jk - 1) + 1) (fmF jr ja (jk - 1)) (jk - fmF jr ja (jk - 1) - 1))) (va_cpy jr jr (fmF jr ja (jk - 1) + 1) (fmF jr ja (jk - 1)) (jk - fmF jr ja (jk - 1) - 1)) (agF (va_cpy ja ja (fmF jr ja (jk - 1) + 1) (fmF jr ja (jk - 1)) (jk - fmF jr ja (jk - 1) - 1)) (jk - 1)) (nI (jk - 1)) (nI jq))))))) := by
  refine Cg.ofJ (own := RX5) (cc := cX5_take) (maxL := 1) (ret := (some .int)) (by decide) rfl rfl (Nat.le_of_ble_eq_true rfl) ?_
  intro p e s m args below meth c A CX hr hlocks hname
  have hin5 : ∀ x ∈ u_ws RX5 TX5 6, x ∈ wsX5_take := by decide +kernel
  have hfl51 : Cond.fieldLink RX5 51 (TX5 4).1 (TX5 4).2.1 (TX5 4).2.2.1 ∈ wsX5_take := by decide +kernel
  show J p l e rmX5_take s m args below meth c D A 1 0 0 (MQ below (jQc D (fun r0 w0 => r0 = some (.int (nI (U (fmF jr ja (jk - 1))))) ∧ w0 = xW x az af ac ab aj sp ++ (zW az cI n va re tr sh (nf C) (nI K) ++ (fW af cI (nf F) (nI fk) ++ (cW ac cI dn (nI ck) ch ++ (bW ab cI bl (nI bk) ++ (jW aj cI (nf (cpyN U U (fmF jr ja (jk - 1) + 1) (fmF jr ja (jk - 1)) (jk - fmF jr ja (jk - 1) - 1))) (va_cpy jr jr (fmF jr ja (jk - 1) + 1) (fmF jr ja (jk - 1)) (jk - fmF jr ja (jk - 1) - 1)) (agF (va_cpy ja ja (fmF jr ja (jk - 1) + 1) (fmF jr ja (jk - 1)) (jk - fmF jr ja (jk - 1) - 1)) (jk - 1)) (nI (jk - 1)) (nI jq))))))) A) args s rmX5_take.cells rmX5_take.slots A) (xW x az af ac ab aj sp ++ (zW az cI n va re tr sh (nf C) (nI K) ++ (fW af cI (nf F) (nI fk) ++ (cW ac cI dn (nI ck) ch ++ (bW ab cI bl (nI bk) ++ (jW aj cI (nf U) jr ja (nI jk) (nI jq))))))) 0 [(0, .ref x)] []
  refine j_aload_n CX 0 dX5_take_0 rfl rfl ?_
  refine j_get CX 0 4 dX5_take_1 rfl rfl hin5 (by decide) hfl51 rfl ?_
  refine j_callV CX (n := 0) (pre := xW x az af ac ab aj sp ++ (zW az cI n va re tr sh (nf C) (nI K) ++ (fW af cI (nf F) (nI fk) ++ (cW ac cI dn (nI ck) ch ++ (bW ab cI bl (nI bk)))))) (post := []) (rest := []) (qc := (RX3, TX3, 5)) (j_take l D cI cZ cL aj U jr ja jk jq hjk h0) gX5_take_X3_takeFirst rfl (by decide +kernel) ⟨Nat.le_of_ble_eq_true rfl, Nat.le_of_ble_eq_true rfl⟩ rfl rfl rfl rfl rfl (Nat.le_of_ble_eq_true rfl) dX5_take_4 ⟨Nat.le_refl _, Nat.le_refl _⟩ (fun r9 w9 h9 => ?_)
  obtain ⟨rfl, rfl⟩ := h9
  refine j_w (w' := xW x az af ac ab aj sp ++ (zW az cI n va re tr sh (nf C) (nI K) ++ (fW af cI (nf F) (nI fk) ++ (cW ac cI dn (nI ck) ch ++ (bW ab cI bl (nI bk) ++ (jW aj cI (nf (cpyN U U (fmF jr ja (jk - 1) + 1) (fmF jr ja (jk - 1)) (jk - fmF jr ja (jk - 1) - 1))) (va_cpy jr jr (fmF jr ja (jk - 1) + 1) (fmF jr ja (jk - 1)) (jk - fmF jr ja (jk - 1) - 1)) (agF (va_cpy ja ja (fmF jr ja (jk - 1) + 1) (fmF jr ja (jk - 1)) (jk - fmF jr ja (jk - 1) - 1)) (jk - 1)) (nI (jk - 1)) (nI jq))))))) rfl ?_
  refine j_st (st9 := [.int (nI (U (fmF jr ja (jk - 1))))]) rfl ?_
  exact j_iret CX hr hlocks dX5_take_7 (⟨rfl, rfl⟩)

abbrev rmX5_age : Room := { frames := 7, cells := 0, slots := 0, locals := 222 }
set_option maxRecDepth 100000 in
set_option maxHeartbeats 4000000 in
theorem x_age (l : Launch) (D : va_G) (cI cZ cL : ClassId) (x : Nat) (az af ac ab aj : Nat → Nat) (sp : Int32) (n : Nat) (va re tr sh : Nat → Int32) (C : Nat → Nat) (K : Nat) (F : Nat → Nat) (fk : Nat) (dn : Nat → Int32) (ck : Nat) (ch : Int32) (bl : Nat → Int32) (bk : Nat) (U : Nat → Nat) (jr ja : Nat → Int32) (jk jq : Nat) (j : Nat) (hj : j < jq) (hjq : jq < 2 ^ 31) (hjk : jk ≤ 100) (hU : ∀ p, p < jk → U p < 2 ^ 31) : Cg l D cI cZ cL yX5_age wsX5_age rmX5_age [.ref x, .int (nI j)] (xW x az af ac ab aj sp ++ (zW az cI n va re tr sh (nf C) (nI K) ++ (fW af cI (nf F) (nI fk) ++ (cW ac cI dn (nI ck) ch ++ (bW ab cI bl (nI bk) ++ (jW aj cI (nf U) jr ja (nI jk) (nI jq))))))) (fun r0 w0 => r0 = some (.int (aoF U ja j jk 0)) ∧ w0 = xW x az af ac ab aj sp ++ (zW az cI n va re tr sh (nf C) (nI K) ++ (fW af cI (nf F) (nI fk) ++ (cW ac cI dn (nI ck) ch ++ (bW ab cI bl (nI bk) ++ (jW aj cI (nf U) jr ja (nI jk) (nI jq))))))) := by
  refine Cg.ofJ (own := RX5) (cc := cX5_age) (maxL := 2) (ret := (some .int)) (by decide) rfl rfl (Nat.le_of_ble_eq_true rfl) ?_
  intro p e s m args below meth c A CX hr hlocks hname
  have hin5 : ∀ x ∈ u_ws RX5 TX5 6, x ∈ wsX5_age := by decide +kernel
  have hfl51 : Cond.fieldLink RX5 51 (TX5 4).1 (TX5 4).2.1 (TX5 4).2.2.1 ∈ wsX5_age := by decide +kernel
  show J p l e rmX5_age s m args below meth c D A 2 0 0 (MQ below (jQc D (fun r0 w0 => r0 = some (.int (aoF U ja j jk 0)) ∧ w0 = xW x az af ac ab aj sp ++ (zW az cI n va re tr sh (nf C) (nI K) ++ (fW af cI (nf F) (nI fk) ++ (cW ac cI dn (nI ck) ch ++ (bW ab cI bl (nI bk) ++ (jW aj cI (nf U) jr ja (nI jk) (nI jq))))))) A) args s rmX5_age.cells rmX5_age.slots A) (xW x az af ac ab aj sp ++ (zW az cI n va re tr sh (nf C) (nI K) ++ (fW af cI (nf F) (nI fk) ++ (cW ac cI dn (nI ck) ch ++ (bW ab cI bl (nI bk) ++ (jW aj cI (nf U) jr ja (nI jk) (nI jq))))))) 0 [(0, .ref x), (1, .int (nI j))] []
  refine j_iload_n CX 1 dX5_age_0 rfl rfl ?_
  refine j_iconst CX dX5_age_1 (show _ = (nI 0 : Int32) by decide) ?_
  refine j_aload_n CX 0 dX5_age_2 rfl rfl ?_
  refine j_get CX 0 4 dX5_age_3 rfl rfl hin5 (by decide) hfl51 rfl ?_
  refine j_callV CX (n := 0) (pre := xW x az af ac ab aj sp ++ (zW az cI n va re tr sh (nf C) (nI K) ++ (fW af cI (nf F) (nI fk) ++ (cW ac cI dn (nI ck) ch ++ (bW ab cI bl (nI bk)))))) (post := []) (rest := [.int (nI 0), .int (nI j)]) (qc := (RX3, TX3, 5)) (j_came l D cI cZ cL aj U jr ja jk jq ) gX5_age_X3_cameInAll rfl (by decide +kernel) ⟨Nat.le_of_ble_eq_true rfl, Nat.le_of_ble_eq_true rfl⟩ rfl rfl rfl rfl rfl (Nat.le_of_ble_eq_true rfl) dX5_age_6 ⟨Nat.le_refl _, Nat.le_refl _⟩ (fun r9 w9 h9 => ?_)
  obtain ⟨rfl, rfl⟩ := h9
  refine j_w (w' := xW x az af ac ab aj sp ++ (zW az cI n va re tr sh (nf C) (nI K) ++ (fW af cI (nf F) (nI fk) ++ (cW ac cI dn (nI ck) ch ++ (bW ab cI bl (nI bk) ++ (jW aj cI (nf U) jr ja (nI jk) (nI jq))))))) rfl ?_
  refine j_st (st9 := [.int (nI jq), .int (nI 0), .int (nI j)]) rfl ?_
  refine j_iconst CX dX5_age_9 (show _ = (nI 1 : Int32) by decide) ?_
  refine j_isub CX dX5_age_10 ?_
  refine j_top (show ((nI jq) - (nI 1)) = nI (jq - 1) from pk_sub (by omega)) ?_
  refine j_callS CX (n := 3) (b := 0) (pre := []) (post := xW x az af ac ab aj sp ++ (zW az cI n va re tr sh (nf C) (nI K) ++ (fW af cI (nf F) (nI fk) ++ (cW ac cI dn (nI ck) ch ++ (bW ab cI bl (nI bk) ++ (jW aj cI (nf U) jr ja (nI jk) (nI jq))))))) (rest := []) (x_cw l D cI cZ cL (nI j) (nI 0) (nI (jq - 1)) (nI_nlt (by omega) (by omega)) (nI_nlt (by omega) (by omega))) gX5_age_X5_checkWithin rfl (by decide +kernel) ⟨Nat.le_of_ble_eq_true rfl, Nat.le_of_ble_eq_true rfl⟩ rfl rfl rfl (Nat.le_of_ble_eq_true rfl) dX5_age_11 ⟨Nat.le_refl _, Nat.le_refl _⟩ (fun r9 w9 h9 => ?_)
  obtain ⟨rfl, rfl⟩ := h9
  refine j_w (w' := xW x az af ac ab aj sp ++ (zW az cI n va re tr sh (nf C) (nI K) ++ (fW af cI (nf F) (nI fk) ++ (cW ac cI dn (nI ck) ch ++ (bW ab cI bl (nI bk) ++ (jW aj cI (nf U) jr ja (nI jk) (nI jq))))))) rfl ?_
  refine j_st (st9 := []) rfl ?_
  refine j_aload_n CX 0 dX5_age_14 rfl rfl ?_
  refine j_get CX 0 4 dX5_age_15 rfl rfl hin5 (by decide) hfl51 rfl ?_
  refine j_iload_n CX 1 dX5_age_18 rfl rfl ?_
  refine j_callV CX (n := 1) (pre := xW x az af ac ab aj sp ++ (zW az cI n va re tr sh (nf C) (nI K) ++ (fW af cI (nf F) (nI fk) ++ (cW ac cI dn (nI ck) ch ++ (bW ab cI bl (nI bk)))))) (post := []) (rest := []) (qc := (RX3, TX3, 5)) (j_ageOf l D cI cZ cL aj U jr ja jk jq j hjk (by omega) hU) gX5_age_X3_ageOf rfl (by decide +kernel) ⟨Nat.le_of_ble_eq_true rfl, Nat.le_of_ble_eq_true rfl⟩ rfl rfl rfl rfl rfl (Nat.le_of_ble_eq_true rfl) dX5_age_19 ⟨Nat.le_refl _, Nat.le_refl _⟩ (fun r9 w9 h9 => ?_)
  obtain ⟨rfl, rfl⟩ := h9
  refine j_w (w' := xW x az af ac ab aj sp ++ (zW az cI n va re tr sh (nf C) (nI K) ++ (fW af cI (nf F) (nI fk) ++ (cW ac cI dn (nI ck) ch ++ (bW ab cI bl (nI bk) ++ (jW aj cI (nf U) jr ja (nI jk) (nI jq))))))) rfl ?_
  refine j_st (st9 := [.int (aoF U ja j jk 0)]) rfl ?_
  exact j_iret CX hr hlocks dX5_age_22 (⟨rfl, rfl⟩)
