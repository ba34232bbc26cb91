
theorem zbad {n : Nat} {v : Int32} (hn : n ≤ 24) (h1n : 1 ≤ n) (g : v < 0 ∨ nI n ≤ v) : v < nI 0 ∨ nI (n - 1) < v := by
  rcases g with g | g
  · exact Or.inl g
  · refine Or.inr (Int32.lt_iff_toInt_lt.mpr ?_)
    have h := Int32.le_iff_toInt_le.mp g
    rw [nI_toInt (by omega)] at h ⊢
    omega
abbrev rmxX5_checkWithin : Room := { frames := 6, cells := 1, slots := 6, locals := 200 }
abbrev rmxX5_checkZone : Room := { frames := 7, cells := 1, slots := 6, locals := 222 }
abbrev rmxX5_wall : Room := { frames := 8, cells := 1, slots := 6, locals := 243 }
abbrev rmxX5_value : Room := { frames := 8, cells := 1, slots := 6, locals := 243 }
abbrev rmxX5_fails : Room := { frames := 8, cells := 1, slots := 6, locals := 243 }
abbrev rmxX5_stops : Room := { frames := 7, cells := 1, slots := 6, locals := 222 }
abbrev rmxX5_run : Room := { frames := 7, cells := 1, slots := 6, locals := 222 }
abbrev rmxX5_colour : Room := { frames := 8, cells := 1, slots := 6, locals := 243 }
abbrev rmxX5_at : Room := { frames := 8, cells := 1, slots := 6, locals := 243 }
abbrev rmxX5_book : Room := { frames := 7, cells := 1, slots := 6, locals := 222 }
abbrev rmxX5_did : Room := { frames := 7, cells := 1, slots := 6, locals := 222 }
abbrev rmxX5_foretold : Room := { frames := 8, cells := 1, slots := 6, locals := 243 }
abbrev rmxX5_job : Room := { frames := 7, cells := 1, slots := 6, locals := 222 }
abbrev rmxX5_age : Room := { frames := 7, cells := 1, slots := 6, locals := 222 }
set_option maxRecDepth 100000 in
set_option maxHeartbeats 4000000 in
theorem x_cw_x (l : Launch) (hl9 : l.stackTraces = false) (D : va_G) (cI cZ cL : ClassId) (σ : Nat → Nat) (v lo hi : Int32) (g : v < lo ∨ hi < v) : Cx l D cI cZ cL σ yX5_checkWithin wsX5_checkWithin rmxX5_checkWithin [.int v, .int lo, .int hi] (([] : va_W)) jIAE := by
  refine Cx.ofJ (own := RX5) (cc := cX5_checkWithin) (maxL := 3) (ret := none) (by decide) rfl rfl (Nat.le_of_ble_eq_true rfl) ?_
  intro p e s m args below meth c A CX hlocks htab hX hZ
  have hck66 : Cond.classLink RX5 66 jIAE ∈ wsX5_checkWithin := by decide +kernel
  have hinijIAE : Cond.initialized jIAE ∈ wsX5_checkWithin := by decide +kernel
  have hatjIAE : ∀ x ∈ (vx_atS RX5 70 jIAE jNM).filter goodWord, x ∈ wsX5_checkWithin := by decide +kernel
  show J p l e rmxX5_checkWithin s m args below meth c D A 3 0 0 (vx_MQ below jNo (jXC D jIAE (([] : va_W)) A) args s rmxX5_checkWithin.cells rmxX5_checkWithin.slots A) (([] : va_W)) 0 [(0, .int v), (1, .int lo), (2, .int hi)] []
  refine j_iload_n CX 0 dX5_checkWithin_0 rfl rfl ?_
  refine j_iload_n CX 1 dX5_checkWithin_1 rfl rfl ?_
  refine j_icmp_lt CX 10 dX5_checkWithin_2 (by decide) (fun h2 => ?_) (fun h2 => ?_)
  · exact j_throwS CX hl9 hlocks htab hZ (by decide +kernel) hck66 hinijIAE hX.2.1 hX.1.1 hX.1.2.2.2 hatjIAE (by decide +kernel) (by decide +kernel) dX5_checkWithin_10 dX5_checkWithin_13 dX5_checkWithin_14 dX5_checkWithin_16 dX5_checkWithin_19 (Nat.le_of_ble_eq_true rfl) (Nat.le_of_ble_eq_true rfl) (Nat.le_of_ble_eq_true rfl) (Nat.le_of_ble_eq_true rfl) (Nat.le_of_ble_eq_true rfl) (Nat.le_of_ble_eq_true rfl)
  · refine j_iload_n CX 0 dX5_checkWithin_5 rfl rfl ?_
    refine j_iload_n CX 2 dX5_checkWithin_6 rfl rfl ?_
    refine j_icmp_le CX 20 dX5_checkWithin_7 (by decide) (fun h7 => ?_) (fun h7 => ?_)
    · exact absurd g (fun g => g.elim h2 (fun g => absurd h7 (Int32.not_le.mpr g)))
    · exact j_throwS CX hl9 hlocks htab hZ (by decide +kernel) hck66 hinijIAE hX.2.1 hX.1.1 hX.1.2.2.2 hatjIAE (by decide +kernel) (by decide +kernel) dX5_checkWithin_10 dX5_checkWithin_13 dX5_checkWithin_14 dX5_checkWithin_16 dX5_checkWithin_19 (Nat.le_of_ble_eq_true rfl) (Nat.le_of_ble_eq_true rfl) (Nat.le_of_ble_eq_true rfl) (Nat.le_of_ble_eq_true rfl) (Nat.le_of_ble_eq_true rfl) (Nat.le_of_ble_eq_true rfl)

set_option maxRecDepth 100000 in
set_option maxHeartbeats 4000000 in
theorem x_cz_x (l : Launch) (hl9 : l.stackTraces = false) (D : va_G) (cI cZ cL : ClassId) (σ : Nat → Nat) (x : Nat) (az af ac ab aj : Nat → Nat) (sp : Int32) (n : Nat) (va re tr sh : Nat → Int32) (C : Nat → Nat) (K : Nat) (F : Nat → Nat) (fk : Nat) (dn : Nat → Int32) (ck : Nat) (ch : Int32) (bl : Nat → Int32) (bk : Nat) (U : Nat → Nat) (jr ja : Nat → Int32) (jk jq : Nat) (v : Int32) (hn : n ≤ 24) (h1n : 1 ≤ n) (g : v < 0 ∨ nI n ≤ v) : Cx l D cI cZ cL σ yX5_checkZone wsX5_checkZone rmxX5_checkZone [.ref x, .int v] (xW x az af ac ab aj sp ++ (zW az cI n va re tr sh (nf C) (nI K) ++ (fW af cI (nf F) (nI fk) ++ (cW ac cI dn (nI ck) ch ++ (bW ab cI bl (nI bk) ++ (jW aj cI (nf U) jr ja (nI jk) (nI jq))))))) jIAE := by
  refine Cx.ofJ (own := RX5) (cc := cX5_checkZone) (maxL := 2) (ret := none) (by decide) rfl rfl (Nat.le_of_ble_eq_true rfl) ?_
  intro p e s m args below meth c A CX hlocks htab hX hZ
  have hin5 : ∀ x ∈ u_ws RX5 TX5 6, x ∈ wsX5_checkZone := by decide +kernel
  have hfl23 : Cond.fieldLink RX5 23 (TX5 0).1 (TX5 0).2.1 (TX5 0).2.2.1 ∈ wsX5_checkZone := by decide +kernel
  show J p l e rmxX5_checkZone s m args below meth c D A 2 0 0 (vx_MQ below jNo (jXC D jIAE (xW x az af ac ab aj sp ++ (zW az cI n va re tr sh (nf C) (nI K) ++ (fW af cI (nf F) (nI fk) ++ (cW ac cI dn (nI ck) ch ++ (bW ab cI bl (nI bk) ++ (jW aj cI (nf U) jr ja (nI jk) (nI jq))))))) A) args s rmxX5_checkZone.cells rmxX5_checkZone.slots A) (xW x az af ac ab aj sp ++ (zW az cI n va re tr sh (nf C) (nI K) ++ (fW af cI (nf F) (nI fk) ++ (cW ac cI dn (nI ck) ch ++ (bW ab cI bl (nI bk) ++ (jW aj cI (nf U) jr ja (nI jk) (nI jq))))))) 0 [(0, .ref x), (1, .int v)] []
  refine j_iload_n CX 1 dX5_checkZone_0 rfl rfl ?_
  refine j_iconst CX dX5_checkZone_1 (show _ = (nI 0 : Int32) by decide) ?_
  refine j_aload_n CX 0 dX5_checkZone_2 rfl rfl ?_
  refine j_get CX 0 0 dX5_checkZone_3 rfl rfl hin5 (by decide) hfl23 rfl ?_
  refine j_callV CX (n := 0) (pre := xW x az af ac ab aj sp) (post := fW af cI (nf F) (nI fk) ++ (cW ac cI dn (nI ck) ch ++ (bW ab cI bl (nI bk) ++ (jW aj cI (nf U) jr ja (nI jk) (nI jq))))) (rest := [.int (nI 0), .int v]) (qc := (RX4, TX4, 7)) (z_size l D cI cZ cL az n va re tr sh (nf C) (nI K) ) gX5_checkZone_X4_size rfl (by decide +kernel) ⟨Nat.le_of_ble_eq_true rfl, Nat.le_of_ble_eq_true rfl⟩ rfl rfl rfl rfl rfl (Nat.le_of_ble_eq_true rfl) dX5_checkZone_6 ⟨Nat.le_of_ble_eq_true rfl, Nat.le_of_ble_eq_true rfl⟩ (fun r9 w9 h9 => ?_)
  obtain ⟨rfl, rfl⟩ := h9
  refine j_w (w' := xW x az af ac ab aj sp ++ (zW az cI n va re tr sh (nf C) (nI K) ++ (fW af cI (nf F) (nI fk) ++ (cW ac cI dn (nI ck) ch ++ (bW ab cI bl (nI bk) ++ (jW aj cI (nf U) jr ja (nI jk) (nI jq))))))) rfl ?_
  refine j_st (st9 := [.int (nI n), .int (nI 0), .int v]) rfl ?_
  refine j_iconst CX dX5_checkZone_9 (show _ = (nI 1 : Int32) by decide) ?_
  refine j_isub CX dX5_checkZone_10 ?_
  refine j_top (show ((nI n) - (nI 1)) = nI (n - 1) from pk_sub (by omega)) ?_
  exact j_callSX CX hX hZ (n := 3) (b := 0) (pre := []) (post := xW x az af ac ab aj sp ++ (zW az cI n va re tr sh (nf C) (nI K) ++ (fW af cI (nf F) (nI fk) ++ (cW ac cI dn (nI ck) ch ++ (bW ab cI bl (nI bk) ++ (jW aj cI (nf U) jr ja (nI jk) (nI jq))))))) (rest := []) (x_cw_x l hl9 D cI cZ cL σ v (nI 0) (nI (n - 1)) (zbad hn h1n g)) gX5_checkZone_X5_checkWithin rfl (by decide +kernel) ⟨(Nat.le_of_ble_eq_true rfl), (Nat.le_of_ble_eq_true rfl)⟩ rfl rfl rfl (Nat.le_of_ble_eq_true rfl) dX5_checkZone_11 ⟨(Nat.le_of_ble_eq_true rfl), (Nat.le_of_ble_eq_true rfl)⟩ htab hlocks (Nat.le_of_ble_eq_true rfl) (Nat.le_of_ble_eq_true rfl)

set_option maxRecDepth 100000 in
set_option maxHeartbeats 4000000 in
theorem x_at_x (l : Launch) (hl9 : l.stackTraces = false) (D : va_G) (cI cZ cL : ClassId) (σ : Nat → Nat) (x : Nat) (az af ac ab aj : Nat → Nat) (sp : Int32) (n : Nat) (va re tr sh : Nat → Int32) (C : Nat → Nat) (K : Nat) (F : Nat → Nat) (fk : Nat) (dn : Nat → Int32) (ck : Nat) (ch : Int32) (bl : Nat → Int32) (bk : Nat) (U : Nat → Nat) (jr ja : Nat → Int32) (jk jq : Nat) (v : Int32) (hn : n ≤ 24) (h1n : 1 ≤ n) (g : v < 0 ∨ nI n ≤ v) : Cx l D cI cZ cL σ yX5_at wsX5_at rmxX5_at [.ref x, .int v] (xW x az af ac ab aj sp ++ (zW az cI n va re tr sh (nf C) (nI K) ++ (fW af cI (nf F) (nI fk) ++ (cW ac cI dn (nI ck) ch ++ (bW ab cI bl (nI bk) ++ (jW aj cI (nf U) jr ja (nI jk) (nI jq))))))) jIAE := by
  refine Cx.ofJ (own := RX5) (cc := cX5_at) (maxL := 2) (ret := (some .int)) (by decide) rfl rfl (Nat.le_of_ble_eq_true rfl) ?_
  intro p e s m args below meth c A CX hlocks htab hX hZ
  show J p l e rmxX5_at s m args below meth c D A 2 0 0 (vx_MQ below jNo (jXC D jIAE (xW x az af ac ab aj sp ++ (zW az cI n va re tr sh (nf C) (nI K) ++ (fW af cI (nf F) (nI fk) ++ (cW ac cI dn (nI ck) ch ++ (bW ab cI bl (nI bk) ++ (jW aj cI (nf U) jr ja (nI jk) (nI jq))))))) A) args s rmxX5_at.cells rmxX5_at.slots A) (xW x az af ac ab aj sp ++ (zW az cI n va re tr sh (nf C) (nI K) ++ (fW af cI (nf F) (nI fk) ++ (cW ac cI dn (nI ck) ch ++ (bW ab cI bl (nI bk) ++ (jW aj cI (nf U) jr ja (nI jk) (nI jq))))))) 0 [(0, .ref x), (1, .int v)] []
  refine j_aload_n CX 0 dX5_at_0 rfl rfl ?_
  refine j_iload_n CX 1 dX5_at_1 rfl rfl ?_
  exact j_callVX CX hX hZ (n := 1) (pre := []) (post := []) (rest := []) (qc := (RX5, TX5, 6)) (x_cz_x l hl9 D cI cZ cL σ x az af ac ab aj sp n va re tr sh C K F fk dn ck ch bl bk U jr ja jk jq v hn h1n (g)) gX5_at_X5_checkZone rfl (by decide +kernel) ⟨(Nat.le_of_ble_eq_true rfl), (Nat.le_of_ble_eq_true rfl)⟩ rfl rfl rfl rfl rfl (Nat.le_of_ble_eq_true rfl) dX5_at_2 ⟨(Nat.le_of_ble_eq_true rfl), (Nat.le_of_ble_eq_true rfl)⟩ htab hlocks (Nat.le_of_ble_eq_true rfl) (Nat.le_of_ble_eq_true rfl)

set_option maxRecDepth 100000 in
set_option maxHeartbeats 4000000 in
theorem x_colour_x (l : Launch) (hl9 : l.stackTraces = false) (D : va_G) (cI cZ cL : ClassId) (σ : Nat → Nat) (x : Nat) (az af ac ab aj : Nat → Nat) (sp : Int32) (n : Nat) (va re tr sh : Nat → Int32) (C : Nat → Nat) (K : Nat) (F : Nat → Nat) (fk : Nat) (dn : Nat → Int32) (ck : Nat) (ch : Int32) (bl : Nat → Int32) (bk : Nat) (U : Nat → Nat) (jr ja : Nat → Int32) (jk jq : Nat) (v : Int32) (hn : n ≤ 24) (h1n : 1 ≤ n) (g : v < 0 ∨ nI n ≤ v) : Cx l D cI cZ cL σ yX5_colour wsX5_colour rmxX5_colour [.ref x, .int v] (xW x az af ac ab aj sp ++ (zW az cI n va re tr sh (nf C) (nI K) ++ (fW af cI (nf F) (nI fk) ++ (cW ac cI dn (nI ck) ch ++ (bW ab cI bl (nI bk) ++ (jW aj cI (nf U) jr ja (nI jk) (nI jq))))))) jIAE := by
  refine Cx.ofJ (own := RX5) (cc := cX5_colour) (maxL := 2) (ret := (some .int)) (by decide) rfl rfl (Nat.le_of_ble_eq_true rfl) ?_
  intro p e s m args below meth c A CX hlocks htab hX hZ
  show J p l e rmxX5_colour s m args below meth c D A 2 0 0 (vx_MQ below jNo (jXC D jIAE (xW x az af ac ab aj sp ++ (zW az cI n va re tr sh (nf C) (nI K) ++ (fW af cI (nf F) (nI fk) ++ (cW ac cI dn (nI ck) ch ++ (bW ab cI bl (nI bk) ++ (jW aj cI (nf U) jr ja (nI jk) (nI jq))))))) A) args s rmxX5_colour.cells rmxX5_colour.slots A) (xW x az af ac ab aj sp ++ (zW az cI n va re tr sh (nf C) (nI K) ++ (fW af cI (nf F) (nI fk) ++ (cW ac cI dn (nI ck) ch ++ (bW ab cI bl (nI bk) ++ (jW aj cI (nf U) jr ja (nI jk) (nI jq))))))) 0 [(0, .ref x), (1, .int v)] []
  refine j_aload_n CX 0 dX5_colour_0 rfl rfl ?_
  refine j_iload_n CX 1 dX5_colour_1 rfl rfl ?_
  exact j_callVX CX hX hZ (n := 1) (pre := []) (post := []) (rest := []) (qc := (RX5, TX5, 6)) (x_cz_x l hl9 D cI cZ cL σ x az af ac ab aj sp n va re tr sh C K F fk dn ck ch bl bk U jr ja jk jq v hn h1n (g)) gX5_colour_X5_checkZone rfl (by decide +kernel) ⟨(Nat.le_of_ble_eq_true rfl), (Nat.le_of_ble_eq_true rfl)⟩ rfl rfl rfl rfl rfl (Nat.le_of_ble_eq_true rfl) dX5_colour_2 ⟨(Nat.le_of_ble_eq_true rfl), (Nat.le_of_ble_eq_true rfl)⟩ htab hlocks (Nat.le_of_ble_eq_true rfl) (Nat.le_of_ble_eq_true rfl)

set_option maxRecDepth 100000 in
set_option maxHeartbeats 4000000 in
theorem x_value_x1 (l : Launch) (hl9 : l.stackTraces = false) (D : va_G) (cI cZ cL : ClassId) (σ : Nat → Nat) (x : Nat) (az af ac ab aj : Nat → Nat) (sp : Int32) (n : Nat) (va re tr sh : Nat → Int32) (C : Nat → Nat) (K : Nat) (F : Nat → Nat) (fk : Nat) (dn : Nat → Int32) (ck : Nat) (ch : Int32) (bl : Nat → Int32) (bk : Nat) (U : Nat → Nat) (jr ja : Nat → Int32) (jk jq : Nat) (v u : Int32) (hn : n ≤ 24) (h1n : 1 ≤ n) (g : v < 0 ∨ nI n ≤ v) : Cx l D cI cZ cL σ yX5_value wsX5_value rmxX5_value [.ref x, .int v, .int u] (xW x az af ac ab aj sp ++ (zW az cI n va re tr sh (nf C) (nI K) ++ (fW af cI (nf F) (nI fk) ++ (cW ac cI dn (nI ck) ch ++ (bW ab cI bl (nI bk) ++ (jW aj cI (nf U) jr ja (nI jk) (nI jq))))))) jIAE := by
  refine Cx.ofJ (own := RX5) (cc := cX5_value) (maxL := 4) (ret := (some .int)) (by decide) rfl rfl (Nat.le_of_ble_eq_true rfl) ?_
  intro p e s m args below meth c A CX hlocks htab hX hZ
  show J p l e rmxX5_value s m args below meth c D A 4 0 0 (vx_MQ below jNo (jXC D jIAE (xW x az af ac ab aj sp ++ (zW az cI n va re tr sh (nf C) (nI K) ++ (fW af cI (nf F) (nI fk) ++ (cW ac cI dn (nI ck) ch ++ (bW ab cI bl (nI bk) ++ (jW aj cI (nf U) jr ja (nI jk) (nI jq))))))) A) args s rmxX5_value.cells rmxX5_value.slots A) (xW x az af ac ab aj sp ++ (zW az cI n va re tr sh (nf C) (nI K) ++ (fW af cI (nf F) (nI fk) ++ (cW ac cI dn (nI ck) ch ++ (bW ab cI bl (nI bk) ++ (jW aj cI (nf U) jr ja (nI jk) (nI jq))))))) 0 [(0, .ref x), (1, .int v), (2, .int u)] []
  refine j_aload_n CX 0 dX5_value_0 rfl rfl ?_
  refine j_iload_n CX 1 dX5_value_1 rfl rfl ?_
  exact j_callVX CX hX hZ (n := 1) (pre := []) (post := []) (rest := []) (qc := (RX5, TX5, 6)) (x_cz_x l hl9 D cI cZ cL σ x az af ac ab aj sp n va re tr sh C K F fk dn ck ch bl bk U jr ja jk jq v hn h1n (g)) gX5_value_X5_checkZone rfl (by decide +kernel) ⟨(Nat.le_of_ble_eq_true rfl), (Nat.le_of_ble_eq_true rfl)⟩ rfl rfl rfl rfl rfl (Nat.le_of_ble_eq_true rfl) dX5_value_2 ⟨(Nat.le_of_ble_eq_true rfl), (Nat.le_of_ble_eq_true rfl)⟩ htab hlocks (Nat.le_of_ble_eq_true rfl) (Nat.le_of_ble_eq_true rfl)

set_option maxRecDepth 100000 in
set_option maxHeartbeats 4000000 in
theorem x_value_x2 (l : Launch) (hl9 : l.stackTraces = false) (D : va_G) (cI cZ cL : ClassId) (σ : Nat → Nat) (x : Nat) (az af ac ab aj : Nat → Nat) (sp : Int32) (n : Nat) (va re tr sh : Nat → Int32) (C : Nat → Nat) (K : Nat) (F : Nat → Nat) (fk : Nat) (dn : Nat → Int32) (ck : Nat) (ch : Int32) (bl : Nat → Int32) (bk : Nat) (U : Nat → Nat) (jr ja : Nat → Int32) (jk jq : Nat) (z : Nat) (v : Int32) (hn : n ≤ 24) (h1n : 1 ≤ n) (hz : z < n) (g : v < -1000000 ∨ 1000000 < v) : Cx l D cI cZ cL σ yX5_value wsX5_value rmxX5_value [.ref x, .int (nI z), .int v] (xW x az af ac ab aj sp ++ (zW az cI n va re tr sh (nf C) (nI K) ++ (fW af cI (nf F) (nI fk) ++ (cW ac cI dn (nI ck) ch ++ (bW ab cI bl (nI bk) ++ (jW aj cI (nf U) jr ja (nI jk) (nI jq))))))) jIAE := by
  refine Cx.ofJ (own := RX5) (cc := cX5_value) (maxL := 4) (ret := (some .int)) (by decide) rfl rfl (Nat.le_of_ble_eq_true rfl) ?_
  intro p e s m args below meth c A CX hlocks htab hX hZ
  have hcn79 : Cond.constant RX5 79 (-1000000) ∈ wsX5_value := by decide +kernel
  have hcn80 : Cond.constant RX5 80 (1000000) ∈ wsX5_value := by decide +kernel
  show J p l e rmxX5_value s m args below meth c D A 4 0 0 (vx_MQ below jNo (jXC D jIAE (xW x az af ac ab aj sp ++ (zW az cI n va re tr sh (nf C) (nI K) ++ (fW af cI (nf F) (nI fk) ++ (cW ac cI dn (nI ck) ch ++ (bW ab cI bl (nI bk) ++ (jW aj cI (nf U) jr ja (nI jk) (nI jq))))))) A) args s rmxX5_value.cells rmxX5_value.slots A) (xW x az af ac ab aj sp ++ (zW az cI n va re tr sh (nf C) (nI K) ++ (fW af cI (nf F) (nI fk) ++ (cW ac cI dn (nI ck) ch ++ (bW ab cI bl (nI bk) ++ (jW aj cI (nf U) jr ja (nI jk) (nI jq))))))) 0 [(0, .ref x), (1, .int (nI z)), (2, .int v)] []
  refine j_aload_n CX 0 dX5_value_0 rfl rfl ?_
  refine j_iload_n CX 1 dX5_value_1 rfl rfl ?_
  refine j_callV CX (n := 1) (pre := []) (post := []) (rest := []) (qc := (RX5, TX5, 6)) (x_cz l D cI cZ cL x az af ac ab aj sp n va re tr sh C K F fk dn ck ch bl bk U jr ja jk jq z hn (by omega)) gX5_value_X5_checkZone rfl (by decide +kernel) ⟨Nat.le_of_ble_eq_true rfl, Nat.le_of_ble_eq_true rfl⟩ rfl rfl rfl rfl rfl (Nat.le_of_ble_eq_true rfl) dX5_value_2 ⟨Nat.le_of_ble_eq_true rfl, Nat.le_of_ble_eq_true rfl⟩ (fun r9 w9 h9 => ?_)
  obtain ⟨rfl, rfl⟩ := h9
  refine j_w (w' := xW x az af ac ab aj sp ++ (zW az cI n va re tr sh (nf C) (nI K) ++ (fW af cI (nf F) (nI fk) ++ (cW ac cI dn (nI ck) ch ++ (bW ab cI bl (nI bk) ++ (jW aj cI (nf U) jr ja (nI jk) (nI jq))))))) rfl ?_
  refine j_st (st9 := []) rfl ?_
  refine j_iload_n CX 2 dX5_value_5 rfl rfl ?_
  refine j_ldc CX dX5_value_6 hcn79 ?_
  refine j_ldc CX dX5_value_8 hcn80 ?_
  exact j_callSX CX hX hZ (n := 3) (b := 0) (pre := []) (post := xW x az af ac ab aj sp ++ (zW az cI n va re tr sh (nf C) (nI K) ++ (fW af cI (nf F) (nI fk) ++ (cW ac cI dn (nI ck) ch ++ (bW ab cI bl (nI bk) ++ (jW aj cI (nf U) jr ja (nI jk) (nI jq))))))) (rest := []) (x_cw_x l hl9 D cI cZ cL σ v (-1000000) 1000000 (g)) gX5_value_X5_checkWithin rfl (by decide +kernel) ⟨(Nat.le_of_ble_eq_true rfl), (Nat.le_of_ble_eq_true rfl)⟩ rfl rfl rfl (Nat.le_of_ble_eq_true rfl) dX5_value_10 ⟨(Nat.le_of_ble_eq_true rfl), (Nat.le_of_ble_eq_true rfl)⟩ htab hlocks (Nat.le_of_ble_eq_true rfl) (Nat.le_of_ble_eq_true rfl)

set_option maxRecDepth 100000 in
set_option maxHeartbeats 4000000 in
theorem x_wall_x1 (l : Launch) (hl9 : l.stackTraces = false) (D : va_G) (cI cZ cL : ClassId) (σ : Nat → Nat) (x : Nat) (az af ac ab aj : Nat → Nat) (sp : Int32) (n : Nat) (va re tr sh : Nat → Int32) (C : Nat → Nat) (K : Nat) (F : Nat → Nat) (fk : Nat) (dn : Nat → Int32) (ck : Nat) (ch : Int32) (bl : Nat → Int32) (bk : Nat) (U : Nat → Nat) (jr ja : Nat → Int32) (jk jq : Nat) (v o u : Int32) (hn : n ≤ 24) (h1n : 1 ≤ n) (g : v < 0 ∨ nI n ≤ v) : Cx l D cI cZ cL σ yX5_wall wsX5_wall rmxX5_wall [.ref x, .int v, .int o, .int u] (xW x az af ac ab aj sp ++ (zW az cI n va re tr sh (nf C) (nI K) ++ (fW af cI (nf F) (nI fk) ++ (cW ac cI dn (nI ck) ch ++ (bW ab cI bl (nI bk) ++ (jW aj cI (nf U) jr ja (nI jk) (nI jq))))))) jIAE := by
  refine Cx.ofJ (own := RX5) (cc := cX5_wall) (maxL := 5) (ret := (some .int)) (by decide) rfl rfl (Nat.le_of_ble_eq_true rfl) ?_
  intro p e s m args below meth c A CX hlocks htab hX hZ
  show J p l e rmxX5_wall s m args below meth c D A 5 0 0 (vx_MQ below jNo (jXC D jIAE (xW x az af ac ab aj sp ++ (zW az cI n va re tr sh (nf C) (nI K) ++ (fW af cI (nf F) (nI fk) ++ (cW ac cI dn (nI ck) ch ++ (bW ab cI bl (nI bk) ++ (jW aj cI (nf U) jr ja (nI jk) (nI jq))))))) A) args s rmxX5_wall.cells rmxX5_wall.slots A) (xW x az af ac ab aj sp ++ (zW az cI n va re tr sh (nf C) (nI K) ++ (fW af cI (nf F) (nI fk) ++ (cW ac cI dn (nI ck) ch ++ (bW ab cI bl (nI bk) ++ (jW aj cI (nf U) jr ja (nI jk) (nI jq))))))) 0 [(0, .ref x), (1, .int v), (2, .int o), (3, .int u)] []
  refine j_aload_n CX 0 dX5_wall_0 rfl rfl ?_
  refine j_iload_n CX 1 dX5_wall_1 rfl rfl ?_
  exact j_callVX CX hX hZ (n := 1) (pre := []) (post := []) (rest := []) (qc := (RX5, TX5, 6)) (x_cz_x l hl9 D cI cZ cL σ x az af ac ab aj sp n va re tr sh C K F fk dn ck ch bl bk U jr ja jk jq v hn h1n (g)) gX5_wall_X5_checkZone rfl (by decide +kernel) ⟨(Nat.le_of_ble_eq_true rfl), (Nat.le_of_ble_eq_true rfl)⟩ rfl rfl rfl rfl rfl (Nat.le_of_ble_eq_true rfl) dX5_wall_2 ⟨(Nat.le_of_ble_eq_true rfl), (Nat.le_of_ble_eq_true rfl)⟩ htab hlocks (Nat.le_of_ble_eq_true rfl) (Nat.le_of_ble_eq_true rfl)

set_option maxRecDepth 100000 in
set_option maxHeartbeats 4000000 in
theorem x_wall_x2 (l : Launch) (hl9 : l.stackTraces = false) (D : va_G) (cI cZ cL : ClassId) (σ : Nat → Nat) (x : Nat) (az af ac ab aj : Nat → Nat) (sp : Int32) (n : Nat) (va re tr sh : Nat → Int32) (C : Nat → Nat) (K : Nat) (F : Nat → Nat) (fk : Nat) (dn : Nat → Int32) (ck : Nat) (ch : Int32) (bl : Nat → Int32) (bk : Nat) (U : Nat → Nat) (jr ja : Nat → Int32) (jk jq : Nat) (z : Nat) (v u : Int32) (hn : n ≤ 24) (h1n : 1 ≤ n) (hz : z < n) (g : v < 0 ∨ nI n ≤ v) : Cx l D cI cZ cL σ yX5_wall wsX5_wall rmxX5_wall [.ref x, .int (nI z), .int v, .int u] (xW x az af ac ab aj sp ++ (zW az cI n va re tr sh (nf C) (nI K) ++ (fW af cI (nf F) (nI fk) ++ (cW ac cI dn (nI ck) ch ++ (bW ab cI bl (nI bk) ++ (jW aj cI (nf U) jr ja (nI jk) (nI jq))))))) jIAE := by
  refine Cx.ofJ (own := RX5) (cc := cX5_wall) (maxL := 5) (ret := (some .int)) (by decide) rfl rfl (Nat.le_of_ble_eq_true rfl) ?_
  intro p e s m args below meth c A CX hlocks htab hX hZ
  show J p l e rmxX5_wall s m args below meth c D A 5 0 0 (vx_MQ below jNo (jXC D jIAE (xW x az af ac ab aj sp ++ (zW az cI n va re tr sh (nf C) (nI K) ++ (fW af cI (nf F) (nI fk) ++ (cW ac cI dn (nI ck) ch ++ (bW ab cI bl (nI bk) ++ (jW aj cI (nf U) jr ja (nI jk) (nI jq))))))) A) args s rmxX5_wall.cells rmxX5_wall.slots A) (xW x az af ac ab aj sp ++ (zW az cI n va re tr sh (nf C) (nI K) ++ (fW af cI (nf F) (nI fk) ++ (cW ac cI dn (nI ck) ch ++ (bW ab cI bl (nI bk) ++ (jW aj cI (nf U) jr ja (nI jk) (nI jq))))))) 0 [(0, .ref x), (1, .int (nI z)), (2, .int v), (3, .int u)] []
  refine j_aload_n CX 0 dX5_wall_0 rfl rfl ?_
  refine j_iload_n CX 1 dX5_wall_1 rfl rfl ?_
  refine j_callV CX (n := 1) (pre := []) (post := []) (rest := []) (qc := (RX5, TX5, 6)) (x_cz l D cI cZ cL x az af ac ab aj sp n va re tr sh C K F fk dn ck ch bl bk U jr ja jk jq z hn (by omega)) gX5_wall_X5_checkZone rfl (by decide +kernel) ⟨Nat.le_of_ble_eq_true rfl, Nat.le_of_ble_eq_true rfl⟩ rfl rfl rfl rfl rfl (Nat.le_of_ble_eq_true rfl) dX5_wall_2 ⟨Nat.le_of_ble_eq_true rfl, Nat.le_of_ble_eq_true rfl⟩ (fun r9 w9 h9 => ?_)
  obtain ⟨rfl, rfl⟩ := h9
  refine j_w (w' := xW x az af ac ab aj sp ++ (zW az cI n va re tr sh (nf C) (nI K) ++ (fW af cI (nf F) (nI fk) ++ (cW ac cI dn (nI ck) ch ++ (bW ab cI bl (nI bk) ++ (jW aj cI (nf U) jr ja (nI jk) (nI jq))))))) rfl ?_
  refine j_st (st9 := []) rfl ?_
  refine j_aload_n CX 0 dX5_wall_5 rfl rfl ?_
  refine j_iload_n CX 2 dX5_wall_6 rfl rfl ?_
  exact j_callVX CX hX hZ (n := 1) (pre := []) (post := []) (rest := []) (qc := (RX5, TX5, 6)) (x_cz_x l hl9 D cI cZ cL σ x az af ac ab aj sp n va re tr sh C K F fk dn ck ch bl bk U jr ja jk jq v hn h1n (g)) gX5_wall_X5_checkZone rfl (by decide +kernel) ⟨(Nat.le_of_ble_eq_true rfl), (Nat.le_of_ble_eq_true rfl)⟩ rfl rfl rfl rfl rfl (Nat.le_of_ble_eq_true rfl) dX5_wall_7 ⟨(Nat.le_of_ble_eq_true rfl), (Nat.le_of_ble_eq_true rfl)⟩ htab hlocks (Nat.le_of_ble_eq_true rfl) (Nat.le_of_ble_eq_true rfl)

set_option maxRecDepth 100000 in
set_option maxHeartbeats 4000000 in
theorem x_wall_x3 (l : Launch) (hl9 : l.stackTraces = false) (D : va_G) (cI cZ cL : ClassId) (σ : Nat → Nat) (x : Nat) (az af ac ab aj : Nat → Nat) (sp : Int32) (n : Nat) (va re tr sh : Nat → Int32) (C : Nat → Nat) (K : Nat) (F : Nat → Nat) (fk : Nat) (dn : Nat → Int32) (ck : Nat) (ch : Int32) (bl : Nat → Int32) (bk : Nat) (U : Nat → Nat) (jr ja : Nat → Int32) (jk jq : Nat) (z : Nat) (u : Nat) (hn : n ≤ 24) (h1n : 1 ≤ n) (hz : z < n) (hu : u ≤ 100) : Cx l D cI cZ cL σ yX5_wall wsX5_wall rmxX5_wall [.ref x, .int (nI z), .int (nI z), .int (nI u)] (xW x az af ac ab aj sp ++ (zW az cI n va re tr sh (nf C) (nI K) ++ (fW af cI (nf F) (nI fk) ++ (cW ac cI dn (nI ck) ch ++ (bW ab cI bl (nI bk) ++ (jW aj cI (nf U) jr ja (nI jk) (nI jq))))))) jIAE := by
  refine Cx.ofJ (own := RX5) (cc := cX5_wall) (maxL := 5) (ret := (some .int)) (by decide) rfl rfl (Nat.le_of_ble_eq_true rfl) ?_
  intro p e s m args below meth c A CX hlocks htab hX hZ
  have hck66 : Cond.classLink RX5 66 jIAE ∈ wsX5_wall := by decide +kernel
  have hinijIAE : Cond.initialized jIAE ∈ wsX5_wall := by decide +kernel
  have hatjIAE : ∀ x ∈ (vx_atS RX5 70 jIAE jNM).filter goodWord, x ∈ wsX5_wall := by decide +kernel
  show J p l e rmxX5_wall s m args below meth c D A 5 0 0 (vx_MQ below jNo (jXC D jIAE (xW x az af ac ab aj sp ++ (zW az cI n va re tr sh (nf C) (nI K) ++ (fW af cI (nf F) (nI fk) ++ (cW ac cI dn (nI ck) ch ++ (bW ab cI bl (nI bk) ++ (jW aj cI (nf U) jr ja (nI jk) (nI jq))))))) A) args s rmxX5_wall.cells rmxX5_wall.slots A) (xW x az af ac ab aj sp ++ (zW az cI n va re tr sh (nf C) (nI K) ++ (fW af cI (nf F) (nI fk) ++ (cW ac cI dn (nI ck) ch ++ (bW ab cI bl (nI bk) ++ (jW aj cI (nf U) jr ja (nI jk) (nI jq))))))) 0 [(0, .ref x), (1, .int (nI z)), (2, .int (nI z)), (3, .int (nI u))] []
  refine j_aload_n CX 0 dX5_wall_0 rfl rfl ?_
  refine j_iload_n CX 1 dX5_wall_1 rfl rfl ?_
  refine j_callV CX (n := 1) (pre := []) (post := []) (rest := []) (qc := (RX5, TX5, 6)) (x_cz l D cI cZ cL x az af ac ab aj sp n va re tr sh C K F fk dn ck ch bl bk U jr ja jk jq z hn (by omega)) gX5_wall_X5_checkZone rfl (by decide +kernel) ⟨Nat.le_of_ble_eq_true rfl, Nat.le_of_ble_eq_true rfl⟩ rfl rfl rfl rfl rfl (Nat.le_of_ble_eq_true rfl) dX5_wall_2 ⟨Nat.le_of_ble_eq_true rfl, Nat.le_of_ble_eq_true rfl⟩ (fun r9 w9 h9 => ?_)
  obtain ⟨rfl, rfl⟩ := h9
  refine j_w (w' := xW x az af ac ab aj sp ++ (zW az cI n va re tr sh (nf C) (nI K) ++ (fW af cI (nf F) (nI fk) ++ (cW ac cI dn (nI ck) ch ++ (bW ab cI bl (nI bk) ++ (jW aj cI (nf U) jr ja (nI jk) (nI jq))))))) rfl ?_
  refine j_st (st9 := []) rfl ?_
  refine j_aload_n CX 0 dX5_wall_5 rfl rfl ?_
  refine j_iload_n CX 2 dX5_wall_6 rfl rfl ?_
  refine j_callV CX (n := 1) (pre := []) (post := []) (rest := []) (qc := (RX5, TX5, 6)) (x_cz l D cI cZ cL x az af ac ab aj sp n va re tr sh C K F fk dn ck ch bl bk U jr ja jk jq z hn (by omega)) gX5_wall_X5_checkZone rfl (by decide +kernel) ⟨Nat.le_of_ble_eq_true rfl, Nat.le_of_ble_eq_true rfl⟩ rfl rfl rfl rfl rfl (Nat.le_of_ble_eq_true rfl) dX5_wall_7 ⟨Nat.le_of_ble_eq_true rfl, Nat.le_of_ble_eq_true rfl⟩ (fun r9 w9 h9 => ?_)
  obtain ⟨rfl, rfl⟩ := h9
  refine j_w (w' := xW x az af ac ab aj sp ++ (zW az cI n va re tr sh (nf C) (nI K) ++ (fW af cI (nf F) (nI fk) ++ (cW ac cI dn (nI ck) ch ++ (bW ab cI bl (nI bk) ++ (jW aj cI (nf U) jr ja (nI jk) (nI jq))))))) rfl ?_
  refine j_st (st9 := []) rfl ?_
  refine j_iload_n CX 3 dX5_wall_10 rfl rfl ?_
  refine j_iconst CX dX5_wall_11 (show _ = (nI 0 : Int32) by decide) ?_
  refine j_bipush CX dX5_wall_12 (show _ = (nI 100 : Int32) by decide) ?_
  refine j_callS CX (n := 3) (b := 0) (pre := []) (post := xW x az af ac ab aj sp ++ (zW az cI n va re tr sh (nf C) (nI K) ++ (fW af cI (nf F) (nI fk) ++ (cW ac cI dn (nI ck) ch ++ (bW ab cI bl (nI bk) ++ (jW aj cI (nf U) jr ja (nI jk) (nI jq))))))) (rest := []) (x_cw l D cI cZ cL (nI u) (nI 0) (nI 100) (nI_nlt (by omega) (by omega)) (nI_nlt (by omega) (by omega))) gX5_wall_X5_checkWithin rfl (by decide +kernel) ⟨Nat.le_of_ble_eq_true rfl, Nat.le_of_ble_eq_true rfl⟩ rfl rfl rfl (Nat.le_of_ble_eq_true rfl) dX5_wall_14 ⟨Nat.le_of_ble_eq_true rfl, Nat.le_of_ble_eq_true rfl⟩ (fun r9 w9 h9 => ?_)
  obtain ⟨rfl, rfl⟩ := h9
  refine j_w (w' := xW x az af ac ab aj sp ++ (zW az cI n va re tr sh (nf C) (nI K) ++ (fW af cI (nf F) (nI fk) ++ (cW ac cI dn (nI ck) ch ++ (bW ab cI bl (nI bk) ++ (jW aj cI (nf U) jr ja (nI jk) (nI jq))))))) rfl ?_
  refine j_st (st9 := []) rfl ?_
  refine j_iload_n CX 1 dX5_wall_17 rfl rfl ?_
  refine j_iload_n CX 2 dX5_wall_18 rfl rfl ?_
  refine j_icmpN_ne CX (by first | assumption | omega) (by first | assumption | omega | exact b2n_lt _ | exact t2n_lt _) 32 dX5_wall_19 (by decide) (fun h19 => ?_) (fun h19 => ?_)
  · exact absurd rfl h19
  · exact j_throwS CX hl9 hlocks htab hZ (by decide +kernel) hck66 hinijIAE hX.2.2.1 hX.1.1 hX.1.2.2.2 hatjIAE (by decide +kernel) (by decide +kernel) dX5_wall_22 dX5_wall_25 dX5_wall_26 dX5_wall_28 dX5_wall_31 (Nat.le_of_ble_eq_true rfl) (Nat.le_of_ble_eq_true rfl) (Nat.le_of_ble_eq_true rfl) (Nat.le_of_ble_eq_true rfl) (Nat.le_of_ble_eq_true rfl) (Nat.le_of_ble_eq_true rfl)

set_option maxRecDepth 100000 in
set_option maxHeartbeats 4000000 in
theorem x_wall_x4 (l : Launch) (hl9 : l.stackTraces = false) (D : va_G) (cI cZ cL : ClassId) (σ : Nat → Nat) (x : Nat) (az af ac ab aj : Nat → Nat) (sp : Int32) (n : Nat) (va re tr sh : Nat → Int32) (C : Nat → Nat) (K : Nat) (F : Nat → Nat) (fk : Nat) (dn : Nat → Int32) (ck : Nat) (ch : Int32) (bl : Nat → Int32) (bk : Nat) (U : Nat → Nat) (jr ja : Nat → Int32) (jk jq : Nat) (z o : Nat) (u : Int32) (hn : n ≤ 24) (h1n : 1 ≤ n) (hz : z < n) (ho : o < n) (g : u < nI 0 ∨ nI 100 < u) : Cx l D cI cZ cL σ yX5_wall wsX5_wall rmxX5_wall [.ref x, .int (nI z), .int (nI o), .int u] (xW x az af ac ab aj sp ++ (zW az cI n va re tr sh (nf C) (nI K) ++ (fW af cI (nf F) (nI fk) ++ (cW ac cI dn (nI ck) ch ++ (bW ab cI bl (nI bk) ++ (jW aj cI (nf U) jr ja (nI jk) (nI jq))))))) jIAE := by
  refine Cx.ofJ (own := RX5) (cc := cX5_wall) (maxL := 5) (ret := (some .int)) (by decide) rfl rfl (Nat.le_of_ble_eq_true rfl) ?_
  intro p e s m args below meth c A CX hlocks htab hX hZ
  show J p l e rmxX5_wall s m args below meth c D A 5 0 0 (vx_MQ below jNo (jXC D jIAE (xW x az af ac ab aj sp ++ (zW az cI n va re tr sh (nf C) (nI K) ++ (fW af cI (nf F) (nI fk) ++ (cW ac cI dn (nI ck) ch ++ (bW ab cI bl (nI bk) ++ (jW aj cI (nf U) jr ja (nI jk) (nI jq))))))) A) args s rmxX5_wall.cells rmxX5_wall.slots A) (xW x az af ac ab aj sp ++ (zW az cI n va re tr sh (nf C) (nI K) ++ (fW af cI (nf F) (nI fk) ++ (cW ac cI dn (nI ck) ch ++ (bW ab cI bl (nI bk) ++ (jW aj cI (nf U) jr ja (nI jk) (nI jq))))))) 0 [(0, .ref x), (1, .int (nI z)), (2, .int (nI o)), (3, .int u)] []
  refine j_aload_n CX 0 dX5_wall_0 rfl rfl ?_
  refine j_iload_n CX 1 dX5_wall_1 rfl rfl ?_
  refine j_callV CX (n := 1) (pre := []) (post := []) (rest := []) (qc := (RX5, TX5, 6)) (x_cz l D cI cZ cL x az af ac ab aj sp n va re tr sh C K F fk dn ck ch bl bk U jr ja jk jq z hn (by omega)) gX5_wall_X5_checkZone rfl (by decide +kernel) ⟨Nat.le_of_ble_eq_true rfl, Nat.le_of_ble_eq_true rfl⟩ rfl rfl rfl rfl rfl (Nat.le_of_ble_eq_true rfl) dX5_wall_2 ⟨Nat.le_of_ble_eq_true rfl, Nat.le_of_ble_eq_true rfl⟩ (fun r9 w9 h9 => ?_)
  obtain ⟨rfl, rfl⟩ := h9
  refine j_w (w' := xW x az af ac ab aj sp ++ (zW az cI n va re tr sh (nf C) (nI K) ++ (fW af cI (nf F) (nI fk) ++ (cW ac cI dn (nI ck) ch ++ (bW ab cI bl (nI bk) ++ (jW aj cI (nf U) jr ja (nI jk) (nI jq))))))) rfl ?_
  refine j_st (st9 := []) rfl ?_
  refine j_aload_n CX 0 dX5_wall_5 rfl rfl ?_
  refine j_iload_n CX 2 dX5_wall_6 rfl rfl ?_
  refine j_callV CX (n := 1) (pre := []) (post := []) (rest := []) (qc := (RX5, TX5, 6)) (x_cz l D cI cZ cL x az af ac ab aj sp n va re tr sh C K F fk dn ck ch bl bk U jr ja jk jq o hn (by omega)) gX5_wall_X5_checkZone rfl (by decide +kernel) ⟨Nat.le_of_ble_eq_true rfl, Nat.le_of_ble_eq_true rfl⟩ rfl rfl rfl rfl rfl (Nat.le_of_ble_eq_true rfl) dX5_wall_7 ⟨Nat.le_of_ble_eq_true rfl, Nat.le_of_ble_eq_true rfl⟩ (fun r9 w9 h9 => ?_)
  obtain ⟨rfl, rfl⟩ := h9
  refine j_w (w' := xW x az af ac ab aj sp ++ (zW az cI n va re tr sh (nf C) (nI K) ++ (fW af cI (nf F) (nI fk) ++ (cW ac cI dn (nI ck) ch ++ (bW ab cI bl (nI bk) ++ (jW aj cI (nf U) jr ja (nI jk) (nI jq))))))) rfl ?_
  refine j_st (st9 := []) rfl ?_
  refine j_iload_n CX 3 dX5_wall_10 rfl rfl ?_
  refine j_iconst CX dX5_wall_11 (show _ = (nI 0 : Int32) by decide) ?_
  refine j_bipush CX dX5_wall_12 (show _ = (nI 100 : Int32) by decide) ?_
  exact j_callSX CX hX hZ (n := 3) (b := 0) (pre := []) (post := xW x az af ac ab aj sp ++ (zW az cI n va re tr sh (nf C) (nI K) ++ (fW af cI (nf F) (nI fk) ++ (cW ac cI dn (nI ck) ch ++ (bW ab cI bl (nI bk) ++ (jW aj cI (nf U) jr ja (nI jk) (nI jq))))))) (rest := []) (x_cw_x l hl9 D cI cZ cL σ u (nI 0) (nI 100) (g)) gX5_wall_X5_checkWithin rfl (by decide +kernel) ⟨(Nat.le_of_ble_eq_true rfl), (Nat.le_of_ble_eq_true rfl)⟩ rfl rfl rfl (Nat.le_of_ble_eq_true rfl) dX5_wall_14 ⟨(Nat.le_of_ble_eq_true rfl), (Nat.le_of_ble_eq_true rfl)⟩ htab hlocks (Nat.le_of_ble_eq_true rfl) (Nat.le_of_ble_eq_true rfl)

set_option maxRecDepth 100000 in
set_option maxHeartbeats 4000000 in
theorem x_stops_x (l : Launch) (hl9 : l.stackTraces = false) (D : va_G) (cI cZ cL : ClassId) (σ : Nat → Nat) (x : Nat) (az af ac ab aj : Nat → Nat) (sp : Int32) (n : Nat) (va re tr sh : Nat → Int32) (C : Nat → Nat) (K : Nat) (F : Nat → Nat) (fk : Nat) (dn : Nat → Int32) (ck : Nat) (ch : Int32) (bl : Nat → Int32) (bk : Nat) (U : Nat → Nat) (jr ja : Nat → Int32) (jk jq : Nat) (v : Int32) (g : v < -1 ∨ nI 999 < v) : Cx l D cI cZ cL σ yX5_stops wsX5_stops rmxX5_stops [.ref x, .int v] (xW x az af ac ab aj sp ++ (zW az cI n va re tr sh (nf C) (nI K) ++ (fW af cI (nf F) (nI fk) ++ (cW ac cI dn (nI ck) ch ++ (bW ab cI bl (nI bk) ++ (jW aj cI (nf U) jr ja (nI jk) (nI jq))))))) jIAE := by
  refine Cx.ofJ (own := RX5) (cc := cX5_stops) (maxL := 3) (ret := (some .int)) (by decide) rfl rfl (Nat.le_of_ble_eq_true rfl) ?_
  intro p e s m args below meth c A CX hlocks htab hX hZ
  show J p l e rmxX5_stops s m args below meth c D A 3 0 0 (vx_MQ below jNo (jXC D jIAE (xW x az af ac ab aj sp ++ (zW az cI n va re tr sh (nf C) (nI K) ++ (fW af cI (nf F) (nI fk) ++ (cW ac cI dn (nI ck) ch ++ (bW ab cI bl (nI bk) ++ (jW aj cI (nf U) jr ja (nI jk) (nI jq))))))) A) args s rmxX5_stops.cells rmxX5_stops.slots A) (xW x az af ac ab aj sp ++ (zW az cI n va re tr sh (nf C) (nI K) ++ (fW af cI (nf F) (nI fk) ++ (cW ac cI dn (nI ck) ch ++ (bW ab cI bl (nI bk) ++ (jW aj cI (nf U) jr ja (nI jk) (nI jq))))))) 0 [(0, .ref x), (1, .int v)] []
  refine j_iload_n CX 1 dX5_stops_0 rfl rfl ?_
  refine j_iconst CX dX5_stops_1 (show _ = ((-1) : Int32) by decide) ?_
  refine j_sipush CX dX5_stops_2 (show _ = (nI 999 : Int32) by decide) ?_
  exact j_callSX CX hX hZ (n := 3) (b := 0) (pre := []) (post := xW x az af ac ab aj sp ++ (zW az cI n va re tr sh (nf C) (nI K) ++ (fW af cI (nf F) (nI fk) ++ (cW ac cI dn (nI ck) ch ++ (bW ab cI bl (nI bk) ++ (jW aj cI (nf U) jr ja (nI jk) (nI jq))))))) (rest := []) (x_cw_x l hl9 D cI cZ cL σ v (-1) (nI 999) (g)) gX5_stops_X5_checkWithin rfl (by decide +kernel) ⟨(Nat.le_of_ble_eq_true rfl), (Nat.le_of_ble_eq_true rfl)⟩ rfl rfl rfl (Nat.le_of_ble_eq_true rfl) dX5_stops_5 ⟨(Nat.le_of_ble_eq_true rfl), (Nat.le_of_ble_eq_true rfl)⟩ htab hlocks (Nat.le_of_ble_eq_true rfl) (Nat.le_of_ble_eq_true rfl)

set_option maxRecDepth 100000 in
set_option maxHeartbeats 4000000 in
theorem x_did_x (l : Launch) (hl9 : l.stackTraces = false) (D : va_G) (cI cZ cL : ClassId) (σ : Nat → Nat) (x : Nat) (az af ac ab aj : Nat → Nat) (sp : Int32) (n : Nat) (va re tr sh : Nat → Int32) (C : Nat → Nat) (K : Nat) (F : Nat → Nat) (fk : Nat) (dn : Nat → Int32) (ck : Nat) (ch : Int32) (bl : Nat → Int32) (bk : Nat) (U : Nat → Nat) (jr ja : Nat → Int32) (jk jq : Nat) (v : Int32) (g : v < nI 0 ∨ nI 15 < v) : Cx l D cI cZ cL σ yX5_did wsX5_did rmxX5_did [.ref x, .int v] (xW x az af ac ab aj sp ++ (zW az cI n va re tr sh (nf C) (nI K) ++ (fW af cI (nf F) (nI fk) ++ (cW ac cI dn (nI ck) ch ++ (bW ab cI bl (nI bk) ++ (jW aj cI (nf U) jr ja (nI jk) (nI jq))))))) jIAE := by
  refine Cx.ofJ (own := RX5) (cc := cX5_did) (maxL := 2) (ret := (some .int)) (by decide) rfl rfl (Nat.le_of_ble_eq_true rfl) ?_
  intro p e s m args below meth c A CX hlocks htab hX hZ
  show J p l e rmxX5_did s m args below meth c D A 2 0 0 (vx_MQ below jNo (jXC D jIAE (xW x az af ac ab aj sp ++ (zW az cI n va re tr sh (nf C) (nI K) ++ (fW af cI (nf F) (nI fk) ++ (cW ac cI dn (nI ck) ch ++ (bW ab cI bl (nI bk) ++ (jW aj cI (nf U) jr ja (nI jk) (nI jq))))))) A) args s rmxX5_did.cells rmxX5_did.slots A) (xW x az af ac ab aj sp ++ (zW az cI n va re tr sh (nf C) (nI K) ++ (fW af cI (nf F) (nI fk) ++ (cW ac cI dn (nI ck) ch ++ (bW ab cI bl (nI bk) ++ (jW aj cI (nf U) jr ja (nI jk) (nI jq))))))) 0 [(0, .ref x), (1, .int v)] []
  refine j_iload_n CX 1 dX5_did_0 rfl rfl ?_
  refine j_iconst CX dX5_did_1 (show _ = (nI 0 : Int32) by decide) ?_
  refine j_bipush CX dX5_did_2 (show _ = (nI 15 : Int32) by decide) ?_
  exact j_callSX CX hX hZ (n := 3) (b := 0) (pre := []) (post := xW x az af ac ab aj sp ++ (zW az cI n va re tr sh (nf C) (nI K) ++ (fW af cI (nf F) (nI fk) ++ (cW ac cI dn (nI ck) ch ++ (bW ab cI bl (nI bk) ++ (jW aj cI (nf U) jr ja (nI jk) (nI jq))))))) (rest := []) (x_cw_x l hl9 D cI cZ cL σ v (nI 0) (nI 15) (g)) gX5_did_X5_checkWithin rfl (by decide +kernel) ⟨(Nat.le_of_ble_eq_true rfl), (Nat.le_of_ble_eq_true rfl)⟩ rfl rfl rfl (Nat.le_of_ble_eq_true rfl) dX5_did_4 ⟨(Nat.le_of_ble_eq_true rfl), (Nat.le_of_ble_eq_true rfl)⟩ htab hlocks (Nat.le_of_ble_eq_true rfl) (Nat.le_of_ble_eq_true rfl)

set_option maxRecDepth 100000 in
set_option maxHeartbeats 4000000 in
theorem x_run_x1 (l : Launch) (hl9 : l.stackTraces = false) (D : va_G) (cI cZ cL : ClassId) (σ : Nat → Nat) (x : Nat) (az af ac ab aj : Nat → Nat) (sp : Int32) (n : Nat) (va re tr sh : Nat → Int32) (C : Nat → Nat) (K : Nat) (F : Nat → Nat) (fk : Nat) (dn : Nat → Int32) (ck : Nat) (ch : Int32) (bl : Nat → Int32) (bk : Nat) (U : Nat → Nat) (jr ja : Nat → Int32) (jk jq : Nat) (v u y : Int32) (g : v < nI 1 ∨ nI 16 < v) : Cx l D cI cZ cL σ yX5_run wsX5_run rmxX5_run [.ref x, .int v, .int u, .int y] (xW x az af ac ab aj sp ++ (zW az cI n va re tr sh (nf C) (nI K) ++ (fW af cI (nf F) (nI fk) ++ (cW ac cI dn (nI ck) ch ++ (bW ab cI bl (nI bk) ++ (jW aj cI (nf U) jr ja (nI jk) (nI jq))))))) jIAE := by
  refine Cx.ofJ (own := RX5) (cc := cX5_run) (maxL := 5) (ret := (some .int)) (by decide) rfl rfl (Nat.le_of_ble_eq_true rfl) ?_
  intro p e s m args below meth c A CX hlocks htab hX hZ
  show J p l e rmxX5_run s m args below meth c D A 5 0 0 (vx_MQ below jNo (jXC D jIAE (xW x az af ac ab aj sp ++ (zW az cI n va re tr sh (nf C) (nI K) ++ (fW af cI (nf F) (nI fk) ++ (cW ac cI dn (nI ck) ch ++ (bW ab cI bl (nI bk) ++ (jW aj cI (nf U) jr ja (nI jk) (nI jq))))))) A) args s rmxX5_run.cells rmxX5_run.slots A) (xW x az af ac ab aj sp ++ (zW az cI n va re tr sh (nf C) (nI K) ++ (fW af cI (nf F) (nI fk) ++ (cW ac cI dn (nI ck) ch ++ (bW ab cI bl (nI bk) ++ (jW aj cI (nf U) jr ja (nI jk) (nI jq))))))) 0 [(0, .ref x), (1, .int v), (2, .int u), (3, .int y)] []
  refine j_iload_n CX 1 dX5_run_0 rfl rfl ?_
  refine j_iconst CX dX5_run_1 (show _ = (nI 1 : Int32) by decide) ?_
  refine j_bipush CX dX5_run_2 (show _ = (nI 16 : Int32) by decide) ?_
  exact j_callSX CX hX hZ (n := 3) (b := 0) (pre := []) (post := xW x az af ac ab aj sp ++ (zW az cI n va re tr sh (nf C) (nI K) ++ (fW af cI (nf F) (nI fk) ++ (cW ac cI dn (nI ck) ch ++ (bW ab cI bl (nI bk) ++ (jW aj cI (nf U) jr ja (nI jk) (nI jq))))))) (rest := []) (x_cw_x l hl9 D cI cZ cL σ v (nI 1) (nI 16) (g)) gX5_run_X5_checkWithin rfl (by decide +kernel) ⟨(Nat.le_of_ble_eq_true rfl), (Nat.le_of_ble_eq_true rfl)⟩ rfl rfl rfl (Nat.le_of_ble_eq_true rfl) dX5_run_4 ⟨(Nat.le_of_ble_eq_true rfl), (Nat.le_of_ble_eq_true rfl)⟩ htab hlocks (Nat.le_of_ble_eq_true rfl) (Nat.le_of_ble_eq_true rfl)

set_option maxRecDepth 100000 in
set_option maxHeartbeats 4000000 in
theorem x_run_x2 (l : Launch) (hl9 : l.stackTraces = false) (D : va_G) (cI cZ cL : ClassId) (σ : Nat → Nat) (x : Nat) (az af ac ab aj : Nat → Nat) (sp : Int32) (n : Nat) (va re tr sh : Nat → Int32) (C : Nat → Nat) (K : Nat) (F : Nat → Nat) (fk : Nat) (dn : Nat → Int32) (ck : Nat) (ch : Int32) (bl : Nat → Int32) (bk : Nat) (U : Nat → Nat) (jr ja : Nat → Int32) (jk jq : Nat) (W : Nat) (u y : Int32) (hW1 : 1 ≤ W) (hW : W ≤ 16) (g : y < nI 1 ∨ nI 50 < y) : Cx l D cI cZ cL σ yX5_run wsX5_run rmxX5_run [.ref x, .int (nI W), .int u, .int y] (xW x az af ac ab aj sp ++ (zW az cI n va re tr sh (nf C) (nI K) ++ (fW af cI (nf F) (nI fk) ++ (cW ac cI dn (nI ck) ch ++ (bW ab cI bl (nI bk) ++ (jW aj cI (nf U) jr ja (nI jk) (nI jq))))))) jIAE := by
  refine Cx.ofJ (own := RX5) (cc := cX5_run) (maxL := 5) (ret := (some .int)) (by decide) rfl rfl (Nat.le_of_ble_eq_true rfl) ?_
  intro p e s m args below meth c A CX hlocks htab hX hZ
  show J p l e rmxX5_run s m args below meth c D A 5 0 0 (vx_MQ below jNo (jXC D jIAE (xW x az af ac ab aj sp ++ (zW az cI n va re tr sh (nf C) (nI K) ++ (fW af cI (nf F) (nI fk) ++ (cW ac cI dn (nI ck) ch ++ (bW ab cI bl (nI bk) ++ (jW aj cI (nf U) jr ja (nI jk) (nI jq))))))) A) args s rmxX5_run.cells rmxX5_run.slots A) (xW x az af ac ab aj sp ++ (zW az cI n va re tr sh (nf C) (nI K) ++ (fW af cI (nf F) (nI fk) ++ (cW ac cI dn (nI ck) ch ++ (bW ab cI bl (nI bk) ++ (jW aj cI (nf U) jr ja (nI jk) (nI jq))))))) 0 [(0, .ref x), (1, .int (nI W)), (2, .int u), (3, .int y)] []
  refine j_iload_n CX 1 dX5_run_0 rfl rfl ?_
  refine j_iconst CX dX5_run_1 (show _ = (nI 1 : Int32) by decide) ?_
  refine j_bipush CX dX5_run_2 (show _ = (nI 16 : Int32) by decide) ?_
  refine j_callS CX (n := 3) (b := 0) (pre := []) (post := xW x az af ac ab aj sp ++ (zW az cI n va re tr sh (nf C) (nI K) ++ (fW af cI (nf F) (nI fk) ++ (cW ac cI dn (nI ck) ch ++ (bW ab cI bl (nI bk) ++ (jW aj cI (nf U) jr ja (nI jk) (nI jq))))))) (rest := []) (x_cw l D cI cZ cL (nI W) (nI 1) (nI 16) (nI_nlt (by omega) (by omega)) (nI_nlt (by omega) (by omega))) gX5_run_X5_checkWithin rfl (by decide +kernel) ⟨Nat.le_of_ble_eq_true rfl, Nat.le_of_ble_eq_true rfl⟩ rfl rfl rfl (Nat.le_of_ble_eq_true rfl) dX5_run_4 ⟨Nat.le_of_ble_eq_true rfl, Nat.le_of_ble_eq_true rfl⟩ (fun r9 w9 h9 => ?_)
  obtain ⟨rfl, rfl⟩ := h9
  refine j_w (w' := xW x az af ac ab aj sp ++ (zW az cI n va re tr sh (nf C) (nI K) ++ (fW af cI (nf F) (nI fk) ++ (cW ac cI dn (nI ck) ch ++ (bW ab cI bl (nI bk) ++ (jW aj cI (nf U) jr ja (nI jk) (nI jq))))))) rfl ?_
  refine j_st (st9 := []) rfl ?_
  refine j_iload_n CX 3 dX5_run_7 rfl rfl ?_
  refine j_iconst CX dX5_run_8 (show _ = (nI 1 : Int32) by decide) ?_
  refine j_bipush CX dX5_run_9 (show _ = (nI 50 : Int32) by decide) ?_
  exact j_callSX CX hX hZ (n := 3) (b := 0) (pre := []) (post := xW x az af ac ab aj sp ++ (zW az cI n va re tr sh (nf C) (nI K) ++ (fW af cI (nf F) (nI fk) ++ (cW ac cI dn (nI ck) ch ++ (bW ab cI bl (nI bk) ++ (jW aj cI (nf U) jr ja (nI jk) (nI jq))))))) (rest := []) (x_cw_x l hl9 D cI cZ cL σ y (nI 1) (nI 50) (g)) gX5_run_X5_checkWithin rfl (by decide +kernel) ⟨(Nat.le_of_ble_eq_true rfl), (Nat.le_of_ble_eq_true rfl)⟩ rfl rfl rfl (Nat.le_of_ble_eq_true rfl) dX5_run_11 ⟨(Nat.le_of_ble_eq_true rfl), (Nat.le_of_ble_eq_true rfl)⟩ htab hlocks (Nat.le_of_ble_eq_true rfl) (Nat.le_of_ble_eq_true rfl)

set_option maxRecDepth 100000 in
set_option maxHeartbeats 4000000 in
theorem x_foretold_x1 (l : Launch) (hl9 : l.stackTraces = false) (D : va_G) (cI cZ cL : ClassId) (σ : Nat → Nat) (x : Nat) (az af ac ab aj : Nat → Nat) (sp : Int32) (n : Nat) (va re tr sh : Nat → Int32) (C : Nat → Nat) (K : Nat) (F : Nat → Nat) (fk : Nat) (dn : Nat → Int32) (ck : Nat) (ch : Int32) (bl : Nat → Int32) (bk : Nat) (U : Nat → Nat) (jr ja : Nat → Int32) (jk jq : Nat) (v u : Int32) (hn : n ≤ 24) (h1n : 1 ≤ n) (g : v < 0 ∨ nI n ≤ v) : Cx l D cI cZ cL σ yX5_foretold wsX5_foretold rmxX5_foretold [.ref x, .int v, .int u] (xW x az af ac ab aj sp ++ (zW az cI n va re tr sh (nf C) (nI K) ++ (fW af cI (nf F) (nI fk) ++ (cW ac cI dn (nI ck) ch ++ (bW ab cI bl (nI bk) ++ (jW aj cI (nf U) jr ja (nI jk) (nI jq))))))) jIAE := by
  refine Cx.ofJ (own := RX5) (cc := cX5_foretold) (maxL := 3) (ret := (some .int)) (by decide) rfl rfl (Nat.le_of_ble_eq_true rfl) ?_
  intro p e s m args below meth c A CX hlocks htab hX hZ
  show J p l e rmxX5_foretold s m args below meth c D A 3 0 0 (vx_MQ below jNo (jXC D jIAE (xW x az af ac ab aj sp ++ (zW az cI n va re tr sh (nf C) (nI K) ++ (fW af cI (nf F) (nI fk) ++ (cW ac cI dn (nI ck) ch ++ (bW ab cI bl (nI bk) ++ (jW aj cI (nf U) jr ja (nI jk) (nI jq))))))) A) args s rmxX5_foretold.cells rmxX5_foretold.slots A) (xW x az af ac ab aj sp ++ (zW az cI n va re tr sh (nf C) (nI K) ++ (fW af cI (nf F) (nI fk) ++ (cW ac cI dn (nI ck) ch ++ (bW ab cI bl (nI bk) ++ (jW aj cI (nf U) jr ja (nI jk) (nI jq))))))) 0 [(0, .ref x), (1, .int v), (2, .int u)] []
  refine j_aload_n CX 0 dX5_foretold_0 rfl rfl ?_
  refine j_iload_n CX 1 dX5_foretold_1 rfl rfl ?_
  exact j_callVX CX hX hZ (n := 1) (pre := []) (post := []) (rest := []) (qc := (RX5, TX5, 6)) (x_cz_x l hl9 D cI cZ cL σ x az af ac ab aj sp n va re tr sh C K F fk dn ck ch bl bk U jr ja jk jq v hn h1n (g)) gX5_foretold_X5_checkZone rfl (by decide +kernel) ⟨(Nat.le_of_ble_eq_true rfl), (Nat.le_of_ble_eq_true rfl)⟩ rfl rfl rfl rfl rfl (Nat.le_of_ble_eq_true rfl) dX5_foretold_2 ⟨(Nat.le_of_ble_eq_true rfl), (Nat.le_of_ble_eq_true rfl)⟩ htab hlocks (Nat.le_of_ble_eq_true rfl) (Nat.le_of_ble_eq_true rfl)

set_option maxRecDepth 100000 in
set_option maxHeartbeats 4000000 in
theorem x_foretold_x2 (l : Launch) (hl9 : l.stackTraces = false) (D : va_G) (cI cZ cL : ClassId) (σ : Nat → Nat) (x : Nat) (az af ac ab aj : Nat → Nat) (sp : Int32) (n : Nat) (va re tr sh : Nat → Int32) (C : Nat → Nat) (K : Nat) (F : Nat → Nat) (fk : Nat) (dn : Nat → Int32) (ck : Nat) (ch : Int32) (bl : Nat → Int32) (bk : Nat) (U : Nat → Nat) (jr ja : Nat → Int32) (jk jq : Nat) (z : Nat) (u : Int32) (hn : n ≤ 24) (h1n : 1 ≤ n) (hz : z < n) (g : u < nI 0 ∨ nI 50 < u) : Cx l D cI cZ cL σ yX5_foretold wsX5_foretold rmxX5_foretold [.ref x, .int (nI z), .int u] (xW x az af ac ab aj sp ++ (zW az cI n va re tr sh (nf C) (nI K) ++ (fW af cI (nf F) (nI fk) ++ (cW ac cI dn (nI ck) ch ++ (bW ab cI bl (nI bk) ++ (jW aj cI (nf U) jr ja (nI jk) (nI jq))))))) jIAE := by
  refine Cx.ofJ (own := RX5) (cc := cX5_foretold) (maxL := 3) (ret := (some .int)) (by decide) rfl rfl (Nat.le_of_ble_eq_true rfl) ?_
  intro p e s m args below meth c A CX hlocks htab hX hZ
  show J p l e rmxX5_foretold s m args below meth c D A 3 0 0 (vx_MQ below jNo (jXC D jIAE (xW x az af ac ab aj sp ++ (zW az cI n va re tr sh (nf C) (nI K) ++ (fW af cI (nf F) (nI fk) ++ (cW ac cI dn (nI ck) ch ++ (bW ab cI bl (nI bk) ++ (jW aj cI (nf U) jr ja (nI jk) (nI jq))))))) A) args s rmxX5_foretold.cells rmxX5_foretold.slots A) (xW x az af ac ab aj sp ++ (zW az cI n va re tr sh (nf C) (nI K) ++ (fW af cI (nf F) (nI fk) ++ (cW ac cI dn (nI ck) ch ++ (bW ab cI bl (nI bk) ++ (jW aj cI (nf U) jr ja (nI jk) (nI jq))))))) 0 [(0, .ref x), (1, .int (nI z)), (2, .int u)] []
  refine j_aload_n CX 0 dX5_foretold_0 rfl rfl ?_
  refine j_iload_n CX 1 dX5_foretold_1 rfl rfl ?_
  refine j_callV CX (n := 1) (pre := []) (post := []) (rest := []) (qc := (RX5, TX5, 6)) (x_cz l D cI cZ cL x az af ac ab aj sp n va re tr sh C K F fk dn ck ch bl bk U jr ja jk jq z hn (by omega)) gX5_foretold_X5_checkZone rfl (by decide +kernel) ⟨Nat.le_of_ble_eq_true rfl, Nat.le_of_ble_eq_true rfl⟩ rfl rfl rfl rfl rfl (Nat.le_of_ble_eq_true rfl) dX5_foretold_2 ⟨Nat.le_of_ble_eq_true rfl, Nat.le_of_ble_eq_true rfl⟩ (fun r9 w9 h9 => ?_)
  obtain ⟨rfl, rfl⟩ := h9
  refine j_w (w' := xW x az af ac ab aj sp ++ (zW az cI n va re tr sh (nf C) (nI K) ++ (fW af cI (nf F) (nI fk) ++ (cW ac cI dn (nI ck) ch ++ (bW ab cI bl (nI bk) ++ (jW aj cI (nf U) jr ja (nI jk) (nI jq))))))) rfl ?_
  refine j_st (st9 := []) rfl ?_
  refine j_iload_n CX 2 dX5_foretold_5 rfl rfl ?_
  refine j_iconst CX dX5_foretold_6 (show _ = (nI 0 : Int32) by decide) ?_
  refine j_bipush CX dX5_foretold_7 (show _ = (nI 50 : Int32) by decide) ?_
  exact j_callSX CX hX hZ (n := 3) (b := 0) (pre := []) (post := xW x az af ac ab aj sp ++ (zW az cI n va re tr sh (nf C) (nI K) ++ (fW af cI (nf F) (nI fk) ++ (cW ac cI dn (nI ck) ch ++ (bW ab cI bl (nI bk) ++ (jW aj cI (nf U) jr ja (nI jk) (nI jq))))))) (rest := []) (x_cw_x l hl9 D cI cZ cL σ u (nI 0) (nI 50) (g)) gX5_foretold_X5_checkWithin rfl (by decide +kernel) ⟨(Nat.le_of_ble_eq_true rfl), (Nat.le_of_ble_eq_true rfl)⟩ rfl rfl rfl (Nat.le_of_ble_eq_true rfl) dX5_foretold_9 ⟨(Nat.le_of_ble_eq_true rfl), (Nat.le_of_ble_eq_true rfl)⟩ htab hlocks (Nat.le_of_ble_eq_true rfl) (Nat.le_of_ble_eq_true rfl)

set_option maxRecDepth 100000 in
set_option maxHeartbeats 4000000 in
theorem x_book_x1 (l : Launch) (hl9 : l.stackTraces = false) (D : va_G) (cI cZ cL : ClassId) (σ : Nat → Nat) (x : Nat) (az af ac ab aj : Nat → Nat) (sp : Int32) (n : Nat) (va re tr sh : Nat → Int32) (C : Nat → Nat) (K : Nat) (F : Nat → Nat) (fk : Nat) (dn : Nat → Int32) (ck : Nat) (ch : Int32) (bl : Nat → Int32) (bk : Nat) (U : Nat → Nat) (jr ja : Nat → Int32) (jk jq : Nat) (v u : Int32) (g : u < nI 0 ∨ nI 3 < u) : Cx l D cI cZ cL σ yX5_book wsX5_book rmxX5_book [.ref x, .int v, .int u] (xW x az af ac ab aj sp ++ (zW az cI n va re tr sh (nf C) (nI K) ++ (fW af cI (nf F) (nI fk) ++ (cW ac cI dn (nI ck) ch ++ (bW ab cI bl (nI bk) ++ (jW aj cI (nf U) jr ja (nI jk) (nI jq))))))) jIAE := by
  refine Cx.ofJ (own := RX5) (cc := cX5_book) (maxL := 3) (ret := (some .int)) (by decide) rfl rfl (Nat.le_of_ble_eq_true rfl) ?_
  intro p e s m args below meth c A CX hlocks htab hX hZ
  show J p l e rmxX5_book s m args below meth c D A 3 0 0 (vx_MQ below jNo (jXC D jIAE (xW x az af ac ab aj sp ++ (zW az cI n va re tr sh (nf C) (nI K) ++ (fW af cI (nf F) (nI fk) ++ (cW ac cI dn (nI ck) ch ++ (bW ab cI bl (nI bk) ++ (jW aj cI (nf U) jr ja (nI jk) (nI jq))))))) A) args s rmxX5_book.cells rmxX5_book.slots A) (xW x az af ac ab aj sp ++ (zW az cI n va re tr sh (nf C) (nI K) ++ (fW af cI (nf F) (nI fk) ++ (cW ac cI dn (nI ck) ch ++ (bW ab cI bl (nI bk) ++ (jW aj cI (nf U) jr ja (nI jk) (nI jq))))))) 0 [(0, .ref x), (1, .int v), (2, .int u)] []
  refine j_iload_n CX 2 dX5_book_0 rfl rfl ?_
  refine j_iconst CX dX5_book_1 (show _ = (nI 0 : Int32) by decide) ?_
  refine j_iconst CX dX5_book_2 (show _ = (nI 3 : Int32) by decide) ?_
  exact j_callSX CX hX hZ (n := 3) (b := 0) (pre := []) (post := xW x az af ac ab aj sp ++ (zW az cI n va re tr sh (nf C) (nI K) ++ (fW af cI (nf F) (nI fk) ++ (cW ac cI dn (nI ck) ch ++ (bW ab cI bl (nI bk) ++ (jW aj cI (nf U) jr ja (nI jk) (nI jq))))))) (rest := []) (x_cw_x l hl9 D cI cZ cL σ u (nI 0) (nI 3) (g)) gX5_book_X5_checkWithin rfl (by decide +kernel) ⟨(Nat.le_of_ble_eq_true rfl), (Nat.le_of_ble_eq_true rfl)⟩ rfl rfl rfl (Nat.le_of_ble_eq_true rfl) dX5_book_3 ⟨(Nat.le_of_ble_eq_true rfl), (Nat.le_of_ble_eq_true rfl)⟩ htab hlocks (Nat.le_of_ble_eq_true rfl) (Nat.le_of_ble_eq_true rfl)

set_option maxRecDepth 100000 in
set_option maxHeartbeats 4000000 in
theorem x_book_x2 (l : Launch) (hl9 : l.stackTraces = false) (D : va_G) (cI cZ cL : ClassId) (σ : Nat → Nat) (x : Nat) (az af ac ab aj : Nat → Nat) (sp : Int32) (n : Nat) (va re tr sh : Nat → Int32) (C : Nat → Nat) (K : Nat) (F : Nat → Nat) (fk : Nat) (dn : Nat → Int32) (ck : Nat) (ch : Int32) (bl : Nat → Int32) (bk : Nat) (U : Nat → Nat) (jr ja : Nat → Int32) (jk jq : Nat) (v : Int32) (q : Nat) (hq : q ≤ 3) (g : v < -1 ∨ nI bk - nI 1 < v) : Cx l D cI cZ cL σ yX5_book wsX5_book rmxX5_book [.ref x, .int v, .int (nI q)] (xW x az af ac ab aj sp ++ (zW az cI n va re tr sh (nf C) (nI K) ++ (fW af cI (nf F) (nI fk) ++ (cW ac cI dn (nI ck) ch ++ (bW ab cI bl (nI bk) ++ (jW aj cI (nf U) jr ja (nI jk) (nI jq))))))) jIAE := by
  refine Cx.ofJ (own := RX5) (cc := cX5_book) (maxL := 3) (ret := (some .int)) (by decide) rfl rfl (Nat.le_of_ble_eq_true rfl) ?_
  intro p e s m args below meth c A CX hlocks htab hX hZ
  have hin5 : ∀ x ∈ u_ws RX5 TX5 6, x ∈ wsX5_book := by decide +kernel
  have hfl44 : Cond.fieldLink RX5 44 (TX5 3).1 (TX5 3).2.1 (TX5 3).2.2.1 ∈ wsX5_book := by decide +kernel
  show J p l e rmxX5_book s m args below meth c D A 3 0 0 (vx_MQ below jNo (jXC D jIAE (xW x az af ac ab aj sp ++ (zW az cI n va re tr sh (nf C) (nI K) ++ (fW af cI (nf F) (nI fk) ++ (cW ac cI dn (nI ck) ch ++ (bW ab cI bl (nI bk) ++ (jW aj cI (nf U) jr ja (nI jk) (nI jq))))))) A) args s rmxX5_book.cells rmxX5_book.slots A) (xW x az af ac ab aj sp ++ (zW az cI n va re tr sh (nf C) (nI K) ++ (fW af cI (nf F) (nI fk) ++ (cW ac cI dn (nI ck) ch ++ (bW ab cI bl (nI bk) ++ (jW aj cI (nf U) jr ja (nI jk) (nI jq))))))) 0 [(0, .ref x), (1, .int v), (2, .int (nI q))] []
  refine j_iload_n CX 2 dX5_book_0 rfl rfl ?_
  refine j_iconst CX dX5_book_1 (show _ = (nI 0 : Int32) by decide) ?_
  refine j_iconst CX dX5_book_2 (show _ = (nI 3 : Int32) by decide) ?_
  refine j_callS CX (n := 3) (b := 0) (pre := []) (post := xW x az af ac ab aj sp ++ (zW az cI n va re tr sh (nf C) (nI K) ++ (fW af cI (nf F) (nI fk) ++ (cW ac cI dn (nI ck) ch ++ (bW ab cI bl (nI bk) ++ (jW aj cI (nf U) jr ja (nI jk) (nI jq))))))) (rest := []) (x_cw l D cI cZ cL (nI q) (nI 0) (nI 3) (nI_nlt (by omega) (by omega)) (nI_nlt (by omega) (by omega))) gX5_book_X5_checkWithin rfl (by decide +kernel) ⟨Nat.le_of_ble_eq_true rfl, Nat.le_of_ble_eq_true rfl⟩ rfl rfl rfl (Nat.le_of_ble_eq_true rfl) dX5_book_3 ⟨Nat.le_of_ble_eq_true rfl, Nat.le_of_ble_eq_true rfl⟩ (fun r9 w9 h9 => ?_)
  obtain ⟨rfl, rfl⟩ := h9
  refine j_w (w' := xW x az af ac ab aj sp ++ (zW az cI n va re tr sh (nf C) (nI K) ++ (fW af cI (nf F) (nI fk) ++ (cW ac cI dn (nI ck) ch ++ (bW ab cI bl (nI bk) ++ (jW aj cI (nf U) jr ja (nI jk) (nI jq))))))) rfl ?_
  refine j_st (st9 := []) rfl ?_
  refine j_iload_n CX 1 dX5_book_6 rfl rfl ?_
  refine j_iconst CX dX5_book_7 (show _ = ((-1) : Int32) by decide) ?_
  refine j_aload_n CX 0 dX5_book_8 rfl rfl ?_
  refine j_get CX 0 3 dX5_book_9 rfl rfl hin5 (by decide) hfl44 rfl ?_
  refine j_callV CX (n := 0) (pre := xW x az af ac ab aj sp ++ (zW az cI n va re tr sh (nf C) (nI K) ++ (fW af cI (nf F) (nI fk) ++ (cW ac cI dn (nI ck) ch)))) (post := jW aj cI (nf U) jr ja (nI jk) (nI jq)) (rest := [.int (-1), .int v]) (qc := (RX0, TX0, 2)) (b_size l D cI cZ cL ab bl bk ) gX5_book_X0_size rfl (by decide +kernel) ⟨Nat.le_of_ble_eq_true rfl, Nat.le_of_ble_eq_true rfl⟩ rfl rfl rfl rfl rfl (Nat.le_of_ble_eq_true rfl) dX5_book_12 ⟨Nat.le_of_ble_eq_true rfl, Nat.le_of_ble_eq_true rfl⟩ (fun r9 w9 h9 => ?_)
  obtain ⟨rfl, rfl⟩ := h9
  refine j_w (w' := xW x az af ac ab aj sp ++ (zW az cI n va re tr sh (nf C) (nI K) ++ (fW af cI (nf F) (nI fk) ++ (cW ac cI dn (nI ck) ch ++ (bW ab cI bl (nI bk) ++ (jW aj cI (nf U) jr ja (nI jk) (nI jq))))))) rfl ?_
  refine j_st (st9 := [.int (nI bk), .int (-1), .int v]) rfl ?_
  refine j_iconst CX dX5_book_15 (show _ = (nI 1 : Int32) by decide) ?_
  refine j_isub CX dX5_book_16 ?_
  exact j_callSX CX hX hZ (n := 3) (b := 0) (pre := []) (post := xW x az af ac ab aj sp ++ (zW az cI n va re tr sh (nf C) (nI K) ++ (fW af cI (nf F) (nI fk) ++ (cW ac cI dn (nI ck) ch ++ (bW ab cI bl (nI bk) ++ (jW aj cI (nf U) jr ja (nI jk) (nI jq))))))) (rest := []) (x_cw_x l hl9 D cI cZ cL σ v (-1) ((nI bk) - (nI 1)) (g)) gX5_book_X5_checkWithin rfl (by decide +kernel) ⟨(Nat.le_of_ble_eq_true rfl), (Nat.le_of_ble_eq_true rfl)⟩ rfl rfl rfl (Nat.le_of_ble_eq_true rfl) dX5_book_17 ⟨(Nat.le_of_ble_eq_true rfl), (Nat.le_of_ble_eq_true rfl)⟩ htab hlocks (Nat.le_of_ble_eq_true rfl) (Nat.le_of_ble_eq_true rfl)

set_option maxRecDepth 100000 in
set_option maxHeartbeats 4000000 in
theorem x_job_x1 (l : Launch) (hl9 : l.stackTraces = false) (D : va_G) (cI cZ cL : ClassId) (σ : Nat → Nat) (x : Nat) (az af ac ab aj : Nat → Nat) (sp : Int32) (n : Nat) (va re tr sh : Nat → Int32) (C : Nat → Nat) (K : Nat) (F : Nat → Nat) (fk : Nat) (dn : Nat → Int32) (ck : Nat) (ch : Int32) (bl : Nat → Int32) (bk : Nat) (U : Nat → Nat) (jr ja : Nat → Int32) (jk jq : Nat) (v : Int32) (g : v < nI 0 ∨ nI 100 < v) : Cx l D cI cZ cL σ yX5_job wsX5_job rmxX5_job [.ref x, .int v] (xW x az af ac ab aj sp ++ (zW az cI n va re tr sh (nf C) (nI K) ++ (fW af cI (nf F) (nI fk) ++ (cW ac cI dn (nI ck) ch ++ (bW ab cI bl (nI bk) ++ (jW aj cI (nf U) jr ja (nI jk) (nI jq))))))) jIAE := by
  refine Cx.ofJ (own := RX5) (cc := cX5_job) (maxL := 2) (ret := (some .int)) (by decide) rfl rfl (Nat.le_of_ble_eq_true rfl) ?_
  intro p e s m args below meth c A CX hlocks htab hX hZ
  show J p l e rmxX5_job s m args below meth c D A 2 0 0 (vx_MQ below jNo (jXC D jIAE (xW x az af ac ab aj sp ++ (zW az cI n va re tr sh (nf C) (nI K) ++ (fW af cI (nf F) (nI fk) ++ (cW ac cI dn (nI ck) ch ++ (bW ab cI bl (nI bk) ++ (jW aj cI (nf U) jr ja (nI jk) (nI jq))))))) A) args s rmxX5_job.cells rmxX5_job.slots A) (xW x az af ac ab aj sp ++ (zW az cI n va re tr sh (nf C) (nI K) ++ (fW af cI (nf F) (nI fk) ++ (cW ac cI dn (nI ck) ch ++ (bW ab cI bl (nI bk) ++ (jW aj cI (nf U) jr ja (nI jk) (nI jq))))))) 0 [(0, .ref x), (1, .int v)] []
  refine j_iload_n CX 1 dX5_job_0 rfl rfl ?_
  refine j_iconst CX dX5_job_1 (show _ = (nI 0 : Int32) by decide) ?_
  refine j_bipush CX dX5_job_2 (show _ = (nI 100 : Int32) by decide) ?_
  exact j_callSX CX hX hZ (n := 3) (b := 0) (pre := []) (post := xW x az af ac ab aj sp ++ (zW az cI n va re tr sh (nf C) (nI K) ++ (fW af cI (nf F) (nI fk) ++ (cW ac cI dn (nI ck) ch ++ (bW ab cI bl (nI bk) ++ (jW aj cI (nf U) jr ja (nI jk) (nI jq))))))) (rest := []) (x_cw_x l hl9 D cI cZ cL σ v (nI 0) (nI 100) (g)) gX5_job_X5_checkWithin rfl (by decide +kernel) ⟨(Nat.le_of_ble_eq_true rfl), (Nat.le_of_ble_eq_true rfl)⟩ rfl rfl rfl (Nat.le_of_ble_eq_true rfl) dX5_job_4 ⟨(Nat.le_of_ble_eq_true rfl), (Nat.le_of_ble_eq_true rfl)⟩ htab hlocks (Nat.le_of_ble_eq_true rfl) (Nat.le_of_ble_eq_true rfl)

set_option maxRecDepth 100000 in
set_option maxHeartbeats 4000000 in
theorem x_job_x2 (l : Launch) (hl9 : l.stackTraces = false) (D : va_G) (cI cZ cL : ClassId) (σ : Nat → Nat) (x : Nat) (az af ac ab aj : Nat → Nat) (sp : Int32) (n : Nat) (va re tr sh : Nat → Int32) (C : Nat → Nat) (K : Nat) (F : Nat → Nat) (fk : Nat) (dn : Nat → Int32) (ck : Nat) (ch : Int32) (bl : Nat → Int32) (bk : Nat) (U : Nat → Nat) (jr ja : Nat → Int32) (jk jq : Nat) (v : Nat) (hv : v ≤ 100) (hjk : jk = 100) : Cx l D cI cZ cL σ yX5_job wsX5_job rmxX5_job [.ref x, .int (nI v)] (xW x az af ac ab aj sp ++ (zW az cI n va re tr sh (nf C) (nI K) ++ (fW af cI (nf F) (nI fk) ++ (cW ac cI dn (nI ck) ch ++ (bW ab cI bl (nI bk) ++ (jW aj cI (nf U) jr ja (nI jk) (nI jq))))))) jISE := by
  refine Cx.ofJ (own := RX5) (cc := cX5_job) (maxL := 2) (ret := (some .int)) (by decide) rfl rfl (Nat.le_of_ble_eq_true rfl) ?_
  intro p e s m args below meth c A CX hlocks htab hX hZ
  have hin5 : ∀ x ∈ u_ws RX5 TX5 6, x ∈ wsX5_job := by decide +kernel
  have hfl51 : Cond.fieldLink RX5 51 (TX5 4).1 (TX5 4).2.1 (TX5 4).2.2.1 ∈ wsX5_job := by decide +kernel
  have hck97 : Cond.classLink RX5 97 jISE ∈ wsX5_job := by decide +kernel
  have hinijISE : Cond.initialized jISE ∈ wsX5_job := by decide +kernel
  have hatjISE : ∀ x ∈ (vx_atS RX5 101 jISE jNM).filter goodWord, x ∈ wsX5_job := by decide +kernel
  show J p l e rmxX5_job s m args below meth c D A 2 0 0 (vx_MQ below jNo (jXC D jISE (xW x az af ac ab aj sp ++ (zW az cI n va re tr sh (nf C) (nI K) ++ (fW af cI (nf F) (nI fk) ++ (cW ac cI dn (nI ck) ch ++ (bW ab cI bl (nI bk) ++ (jW aj cI (nf U) jr ja (nI jk) (nI jq))))))) A) args s rmxX5_job.cells rmxX5_job.slots A) (xW x az af ac ab aj sp ++ (zW az cI n va re tr sh (nf C) (nI K) ++ (fW af cI (nf F) (nI fk) ++ (cW ac cI dn (nI ck) ch ++ (bW ab cI bl (nI bk) ++ (jW aj cI (nf U) jr ja (nI jk) (nI jq))))))) 0 [(0, .ref x), (1, .int (nI v))] []
  refine j_iload_n CX 1 dX5_job_0 rfl rfl ?_
  refine j_iconst CX dX5_job_1 (show _ = (nI 0 : Int32) by decide) ?_
  refine j_bipush CX dX5_job_2 (show _ = (nI 100 : Int32) by decide) ?_
  refine j_callS CX (n := 3) (b := 0) (pre := []) (post := xW x az af ac ab aj sp ++ (zW az cI n va re tr sh (nf C) (nI K) ++ (fW af cI (nf F) (nI fk) ++ (cW ac cI dn (nI ck) ch ++ (bW ab cI bl (nI bk) ++ (jW aj cI (nf U) jr ja (nI jk) (nI jq))))))) (rest := []) (x_cw l D cI cZ cL (nI v) (nI 0) (nI 100) (nI_nlt (by omega) (by omega)) (nI_nlt (by omega) (by omega))) gX5_job_X5_checkWithin rfl (by decide +kernel) ⟨Nat.le_of_ble_eq_true rfl, Nat.le_of_ble_eq_true rfl⟩ rfl rfl rfl (Nat.le_of_ble_eq_true rfl) dX5_job_4 ⟨Nat.le_of_ble_eq_true rfl, Nat.le_of_ble_eq_true rfl⟩ (fun r9 w9 h9 => ?_)
  obtain ⟨rfl, rfl⟩ := h9
  refine j_w (w' := xW x az af ac ab aj sp ++ (zW az cI n va re tr sh (nf C) (nI K) ++ (fW af cI (nf F) (nI fk) ++ (cW ac cI dn (nI ck) ch ++ (bW ab cI bl (nI bk) ++ (jW aj cI (nf U) jr ja (nI jk) (nI jq))))))) rfl ?_
  refine j_st (st9 := []) rfl ?_
  refine j_aload_n CX 0 dX5_job_7 rfl rfl ?_
  refine j_get CX 0 4 dX5_job_8 rfl rfl hin5 (by decide) hfl51 rfl ?_
  refine j_callV CX (n := 0) (pre := xW x az af ac ab aj sp ++ (zW az cI n va re tr sh (nf C) (nI K) ++ (fW af cI (nf F) (nI fk) ++ (cW ac cI dn (nI ck) ch ++ (bW ab cI bl (nI bk)))))) (post := []) (rest := []) (qc := (RX3, TX3, 5)) (j_isFull l D cI cZ cL aj U jr ja jk jq (by omega)) gX5_job_X3_isFull rfl (by decide +kernel) ⟨Nat.le_of_ble_eq_true rfl, Nat.le_of_ble_eq_true rfl⟩ rfl rfl rfl rfl rfl (Nat.le_of_ble_eq_true rfl) dX5_job_11 ⟨Nat.le_of_ble_eq_true rfl, Nat.le_of_ble_eq_true rfl⟩ (fun r9 w9 h9 => ?_)
  obtain ⟨rfl, rfl⟩ := h9
  refine j_w (w' := xW x az af ac ab aj sp ++ (zW az cI n va re tr sh (nf C) (nI K) ++ (fW af cI (nf F) (nI fk) ++ (cW ac cI dn (nI ck) ch ++ (bW ab cI bl (nI bk) ++ (jW aj cI (nf U) jr ja (nI jk) (nI jq))))))) rfl ?_
  refine j_st (st9 := [.int (nI (b2n (100 ≤ jk)))]) rfl ?_
  refine j_ifN_eq CX (by first | assumption | omega | exact b2n_lt _ | exact t2n_lt _) 27 dX5_job_14 (by decide) (fun h14 => ?_) (fun h14 => ?_)
  · exact absurd h14 (by rw [b2n_t (by omega)]; decide)
  · exact j_throwS CX hl9 hlocks htab hZ (by decide +kernel) hck97 hinijISE hX.2.2.2.2 hX.1.2.1 hX.1.2.2.2 hatjISE (by decide +kernel) (by decide +kernel) dX5_job_17 dX5_job_20 dX5_job_21 dX5_job_23 dX5_job_26 (Nat.le_of_ble_eq_true rfl) (Nat.le_of_ble_eq_true rfl) (Nat.le_of_ble_eq_true rfl) (Nat.le_of_ble_eq_true rfl) (Nat.le_of_ble_eq_true rfl) (Nat.le_of_ble_eq_true rfl)

set_option maxRecDepth 100000 in
set_option maxHeartbeats 4000000 in
theorem x_age_x (l : Launch) (hl9 : l.stackTraces = false) (D : va_G) (cI cZ cL : ClassId) (σ : Nat → Nat) (x : Nat) (az af ac ab aj : Nat → Nat) (sp : Int32) (n : Nat) (va re tr sh : Nat → Int32) (C : Nat → Nat) (K : Nat) (F : Nat → Nat) (fk : Nat) (dn : Nat → Int32) (ck : Nat) (ch : Int32) (bl : Nat → Int32) (bk : Nat) (U : Nat → Nat) (jr ja : Nat → Int32) (jk jq : Nat) (v : Int32) (g : v < nI 0 ∨ nI jq - nI 1 < v) : Cx l D cI cZ cL σ yX5_age wsX5_age rmxX5_age [.ref x, .int v] (xW x az af ac ab aj sp ++ (zW az cI n va re tr sh (nf C) (nI K) ++ (fW af cI (nf F) (nI fk) ++ (cW ac cI dn (nI ck) ch ++ (bW ab cI bl (nI bk) ++ (jW aj cI (nf U) jr ja (nI jk) (nI jq))))))) jIAE := by
  refine Cx.ofJ (own := RX5) (cc := cX5_age) (maxL := 2) (ret := (some .int)) (by decide) rfl rfl (Nat.le_of_ble_eq_true rfl) ?_
  intro p e s m args below meth c A CX hlocks htab hX hZ
  have hin5 : ∀ x ∈ u_ws RX5 TX5 6, x ∈ wsX5_age := by decide +kernel
  have hfl51 : Cond.fieldLink RX5 51 (TX5 4).1 (TX5 4).2.1 (TX5 4).2.2.1 ∈ wsX5_age := by decide +kernel
  show J p l e rmxX5_age s m args below meth c D A 2 0 0 (vx_MQ below jNo (jXC D jIAE (xW x az af ac ab aj sp ++ (zW az cI n va re tr sh (nf C) (nI K) ++ (fW af cI (nf F) (nI fk) ++ (cW ac cI dn (nI ck) ch ++ (bW ab cI bl (nI bk) ++ (jW aj cI (nf U) jr ja (nI jk) (nI jq))))))) A) args s rmxX5_age.cells rmxX5_age.slots A) (xW x az af ac ab aj sp ++ (zW az cI n va re tr sh (nf C) (nI K) ++ (fW af cI (nf F) (nI fk) ++ (cW ac cI dn (nI ck) ch ++ (bW ab cI bl (nI bk) ++ (jW aj cI (nf U) jr ja (nI jk) (nI jq))))))) 0 [(0, .ref x), (1, .int v)] []
  refine j_iload_n CX 1 dX5_age_0 rfl rfl ?_
  refine j_iconst CX dX5_age_1 (show _ = (nI 0 : Int32) by decide) ?_
  refine j_aload_n CX 0 dX5_age_2 rfl rfl ?_
  refine j_get CX 0 4 dX5_age_3 rfl rfl hin5 (by decide) hfl51 rfl ?_
  refine j_callV CX (n := 0) (pre := xW x az af ac ab aj sp ++ (zW az cI n va re tr sh (nf C) (nI K) ++ (fW af cI (nf F) (nI fk) ++ (cW ac cI dn (nI ck) ch ++ (bW ab cI bl (nI bk)))))) (post := []) (rest := [.int (nI 0), .int v]) (qc := (RX3, TX3, 5)) (j_came l D cI cZ cL aj U jr ja jk jq ) gX5_age_X3_cameInAll rfl (by decide +kernel) ⟨Nat.le_of_ble_eq_true rfl, Nat.le_of_ble_eq_true rfl⟩ rfl rfl rfl rfl rfl (Nat.le_of_ble_eq_true rfl) dX5_age_6 ⟨Nat.le_of_ble_eq_true rfl, Nat.le_of_ble_eq_true rfl⟩ (fun r9 w9 h9 => ?_)
  obtain ⟨rfl, rfl⟩ := h9
  refine j_w (w' := xW x az af ac ab aj sp ++ (zW az cI n va re tr sh (nf C) (nI K) ++ (fW af cI (nf F) (nI fk) ++ (cW ac cI dn (nI ck) ch ++ (bW ab cI bl (nI bk) ++ (jW aj cI (nf U) jr ja (nI jk) (nI jq))))))) rfl ?_
  refine j_st (st9 := [.int (nI jq), .int (nI 0), .int v]) rfl ?_
  refine j_iconst CX dX5_age_9 (show _ = (nI 1 : Int32) by decide) ?_
  refine j_isub CX dX5_age_10 ?_
  exact j_callSX CX hX hZ (n := 3) (b := 0) (pre := []) (post := xW x az af ac ab aj sp ++ (zW az cI n va re tr sh (nf C) (nI K) ++ (fW af cI (nf F) (nI fk) ++ (cW ac cI dn (nI ck) ch ++ (bW ab cI bl (nI bk) ++ (jW aj cI (nf U) jr ja (nI jk) (nI jq))))))) (rest := []) (x_cw_x l hl9 D cI cZ cL σ v (nI 0) ((nI jq) - (nI 1)) (g)) gX5_age_X5_checkWithin rfl (by decide +kernel) ⟨(Nat.le_of_ble_eq_true rfl), (Nat.le_of_ble_eq_true rfl)⟩ rfl rfl rfl (Nat.le_of_ble_eq_true rfl) dX5_age_11 ⟨(Nat.le_of_ble_eq_true rfl), (Nat.le_of_ble_eq_true rfl)⟩ htab hlocks (Nat.le_of_ble_eq_true rfl) (Nat.le_of_ble_eq_true rfl)

set_option maxRecDepth 100000 in
set_option maxHeartbeats 4000000 in
theorem x_fails_x1 (l : Launch) (hl9 : l.stackTraces = false) (D : va_G) (cI cZ cL : ClassId) (σ : Nat → Nat) (x : Nat) (az af ac ab aj : Nat → Nat) (sp : Int32) (n : Nat) (va re tr sh : Nat → Int32) (C : Nat → Nat) (K : Nat) (F : Nat → Nat) (fk : Nat) (dn : Nat → Int32) (ck : Nat) (ch : Int32) (bl : Nat → Int32) (bk : Nat) (U : Nat → Nat) (jr ja : Nat → Int32) (jk jq : Nat) (v z h : Int32) (on : Nat) (g : v < nI 0 ∨ nI 15 < v) : Cx l D cI cZ cL σ yX5_fails wsX5_fails rmxX5_fails [.ref x, .int v, .int z, .int h, .int (nI on)] (xW x az af ac ab aj sp ++ (zW az cI n va re tr sh (nf C) (nI K) ++ (fW af cI (nf F) (nI fk) ++ (cW ac cI dn (nI ck) ch ++ (bW ab cI bl (nI bk) ++ (jW aj cI (nf U) jr ja (nI jk) (nI jq))))))) jIAE := by
  refine Cx.ofJ (own := RX5) (cc := cX5_fails) (maxL := 6) (ret := (some .boolean)) (by decide) rfl rfl (Nat.le_of_ble_eq_true rfl) ?_
  intro p e s m args below meth c A CX hlocks htab hX hZ
  show J p l e rmxX5_fails s m args below meth c D A 6 0 0 (vx_MQ below jNo (jXC D jIAE (xW x az af ac ab aj sp ++ (zW az cI n va re tr sh (nf C) (nI K) ++ (fW af cI (nf F) (nI fk) ++ (cW ac cI dn (nI ck) ch ++ (bW ab cI bl (nI bk) ++ (jW aj cI (nf U) jr ja (nI jk) (nI jq))))))) A) args s rmxX5_fails.cells rmxX5_fails.slots A) (xW x az af ac ab aj sp ++ (zW az cI n va re tr sh (nf C) (nI K) ++ (fW af cI (nf F) (nI fk) ++ (cW ac cI dn (nI ck) ch ++ (bW ab cI bl (nI bk) ++ (jW aj cI (nf U) jr ja (nI jk) (nI jq))))))) 0 [(0, .ref x), (1, .int v), (2, .int z), (3, .int h), (4, .int (nI on))] []
  refine j_iload_n CX 1 dX5_fails_0 rfl rfl ?_
  refine j_iconst CX dX5_fails_1 (show _ = (nI 0 : Int32) by decide) ?_
  refine j_bipush CX dX5_fails_2 (show _ = (nI 15 : Int32) by decide) ?_
  exact j_callSX CX hX hZ (n := 3) (b := 0) (pre := []) (post := xW x az af ac ab aj sp ++ (zW az cI n va re tr sh (nf C) (nI K) ++ (fW af cI (nf F) (nI fk) ++ (cW ac cI dn (nI ck) ch ++ (bW ab cI bl (nI bk) ++ (jW aj cI (nf U) jr ja (nI jk) (nI jq))))))) (rest := []) (x_cw_x l hl9 D cI cZ cL σ v (nI 0) (nI 15) (g)) gX5_fails_X5_checkWithin rfl (by decide +kernel) ⟨(Nat.le_of_ble_eq_true rfl), (Nat.le_of_ble_eq_true rfl)⟩ rfl rfl rfl (Nat.le_of_ble_eq_true rfl) dX5_fails_4 ⟨(Nat.le_of_ble_eq_true rfl), (Nat.le_of_ble_eq_true rfl)⟩ htab hlocks (Nat.le_of_ble_eq_true rfl) (Nat.le_of_ble_eq_true rfl)

set_option maxRecDepth 100000 in
set_option maxHeartbeats 4000000 in
theorem x_fails_x2 (l : Launch) (hl9 : l.stackTraces = false) (D : va_G) (cI cZ cL : ClassId) (σ : Nat → Nat) (x : Nat) (az af ac ab aj : Nat → Nat) (sp : Int32) (n : Nat) (va re tr sh : Nat → Int32) (C : Nat → Nat) (K : Nat) (F : Nat → Nat) (fk : Nat) (dn : Nat → Int32) (ck : Nat) (ch : Int32) (bl : Nat → Int32) (bk : Nat) (U : Nat → Nat) (jr ja : Nat → Int32) (jk jq : Nat) (w : Nat) (v h : Int32) (on : Nat) (hn : n ≤ 24) (h1n : 1 ≤ n) (hw : w < 16) (g : v < 0 ∨ nI n ≤ v) : Cx l D cI cZ cL σ yX5_fails wsX5_fails rmxX5_fails [.ref x, .int (nI w), .int v, .int h, .int (nI on)] (xW x az af ac ab aj sp ++ (zW az cI n va re tr sh (nf C) (nI K) ++ (fW af cI (nf F) (nI fk) ++ (cW ac cI dn (nI ck) ch ++ (bW ab cI bl (nI bk) ++ (jW aj cI (nf U) jr ja (nI jk) (nI jq))))))) jIAE := by
  refine Cx.ofJ (own := RX5) (cc := cX5_fails) (maxL := 6) (ret := (some .boolean)) (by decide) rfl rfl (Nat.le_of_ble_eq_true rfl) ?_
  intro p e s m args below meth c A CX hlocks htab hX hZ
  show J p l e rmxX5_fails s m args below meth c D A 6 0 0 (vx_MQ below jNo (jXC D jIAE (xW x az af ac ab aj sp ++ (zW az cI n va re tr sh (nf C) (nI K) ++ (fW af cI (nf F) (nI fk) ++ (cW ac cI dn (nI ck) ch ++ (bW ab cI bl (nI bk) ++ (jW aj cI (nf U) jr ja (nI jk) (nI jq))))))) A) args s rmxX5_fails.cells rmxX5_fails.slots A) (xW x az af ac ab aj sp ++ (zW az cI n va re tr sh (nf C) (nI K) ++ (fW af cI (nf F) (nI fk) ++ (cW ac cI dn (nI ck) ch ++ (bW ab cI bl (nI bk) ++ (jW aj cI (nf U) jr ja (nI jk) (nI jq))))))) 0 [(0, .ref x), (1, .int (nI w)), (2, .int v), (3, .int h), (4, .int (nI on))] []
  refine j_iload_n CX 1 dX5_fails_0 rfl rfl ?_
  refine j_iconst CX dX5_fails_1 (show _ = (nI 0 : Int32) by decide) ?_
  refine j_bipush CX dX5_fails_2 (show _ = (nI 15 : Int32) by decide) ?_
  refine j_callS CX (n := 3) (b := 0) (pre := []) (post := xW x az af ac ab aj sp ++ (zW az cI n va re tr sh (nf C) (nI K) ++ (fW af cI (nf F) (nI fk) ++ (cW ac cI dn (nI ck) ch ++ (bW ab cI bl (nI bk) ++ (jW aj cI (nf U) jr ja (nI jk) (nI jq))))))) (rest := []) (x_cw l D cI cZ cL (nI w) (nI 0) (nI 15) (nI_nlt (by omega) (by omega)) (nI_nlt (by omega) (by omega))) gX5_fails_X5_checkWithin rfl (by decide +kernel) ⟨Nat.le_of_ble_eq_true rfl, Nat.le_of_ble_eq_true rfl⟩ rfl rfl rfl (Nat.le_of_ble_eq_true rfl) dX5_fails_4 ⟨Nat.le_of_ble_eq_true rfl, Nat.le_of_ble_eq_true rfl⟩ (fun r9 w9 h9 => ?_)
  obtain ⟨rfl, rfl⟩ := h9
  refine j_w (w' := xW x az af ac ab aj sp ++ (zW az cI n va re tr sh (nf C) (nI K) ++ (fW af cI (nf F) (nI fk) ++ (cW ac cI dn (nI ck) ch ++ (bW ab cI bl (nI bk) ++ (jW aj cI (nf U) jr ja (nI jk) (nI jq))))))) rfl ?_
  refine j_st (st9 := []) rfl ?_
  refine j_aload_n CX 0 dX5_fails_7 rfl rfl ?_
  refine j_iload_n CX 2 dX5_fails_8 rfl rfl ?_
  exact j_callVX CX hX hZ (n := 1) (pre := []) (post := []) (rest := []) (qc := (RX5, TX5, 6)) (x_cz_x l hl9 D cI cZ cL σ x az af ac ab aj sp n va re tr sh C K F fk dn ck ch bl bk U jr ja jk jq v hn h1n (g)) gX5_fails_X5_checkZone rfl (by decide +kernel) ⟨(Nat.le_of_ble_eq_true rfl), (Nat.le_of_ble_eq_true rfl)⟩ rfl rfl rfl rfl rfl (Nat.le_of_ble_eq_true rfl) dX5_fails_9 ⟨(Nat.le_of_ble_eq_true rfl), (Nat.le_of_ble_eq_true rfl)⟩ htab hlocks (Nat.le_of_ble_eq_true rfl) (Nat.le_of_ble_eq_true rfl)

set_option maxRecDepth 100000 in
set_option maxHeartbeats 4000000 in
theorem x_fails_x3 (l : Launch) (hl9 : l.stackTraces = false) (D : va_G) (cI cZ cL : ClassId) (σ : Nat → Nat) (x : Nat) (az af ac ab aj : Nat → Nat) (sp : Int32) (n : Nat) (va re tr sh : Nat → Int32) (C : Nat → Nat) (K : Nat) (F : Nat → Nat) (fk : Nat) (dn : Nat → Int32) (ck : Nat) (ch : Int32) (bl : Nat → Int32) (bk : Nat) (U : Nat → Nat) (jr ja : Nat → Int32) (jk jq : Nat) (w z : Nat) (h : Int32) (on : Nat) (hn : n ≤ 24) (h1n : 1 ≤ n) (hw : w < 16) (hz : z < n) (g : h < nI 0 ∨ nI 999 < h) : Cx l D cI cZ cL σ yX5_fails wsX5_fails rmxX5_fails [.ref x, .int (nI w), .int (nI z), .int h, .int (nI on)] (xW x az af ac ab aj sp ++ (zW az cI n va re tr sh (nf C) (nI K) ++ (fW af cI (nf F) (nI fk) ++ (cW ac cI dn (nI ck) ch ++ (bW ab cI bl (nI bk) ++ (jW aj cI (nf U) jr ja (nI jk) (nI jq))))))) jIAE := by
  refine Cx.ofJ (own := RX5) (cc := cX5_fails) (maxL := 6) (ret := (some .boolean)) (by decide) rfl rfl (Nat.le_of_ble_eq_true rfl) ?_
  intro p e s m args below meth c A CX hlocks htab hX hZ
  show J p l e rmxX5_fails s m args below meth c D A 6 0 0 (vx_MQ below jNo (jXC D jIAE (xW x az af ac ab aj sp ++ (zW az cI n va re tr sh (nf C) (nI K) ++ (fW af cI (nf F) (nI fk) ++ (cW ac cI dn (nI ck) ch ++ (bW ab cI bl (nI bk) ++ (jW aj cI (nf U) jr ja (nI jk) (nI jq))))))) A) args s rmxX5_fails.cells rmxX5_fails.slots A) (xW x az af ac ab aj sp ++ (zW az cI n va re tr sh (nf C) (nI K) ++ (fW af cI (nf F) (nI fk) ++ (cW ac cI dn (nI ck) ch ++ (bW ab cI bl (nI bk) ++ (jW aj cI (nf U) jr ja (nI jk) (nI jq))))))) 0 [(0, .ref x), (1, .int (nI w)), (2, .int (nI z)), (3, .int h), (4, .int (nI on))] []
  refine j_iload_n CX 1 dX5_fails_0 rfl rfl ?_
  refine j_iconst CX dX5_fails_1 (show _ = (nI 0 : Int32) by decide) ?_
  refine j_bipush CX dX5_fails_2 (show _ = (nI 15 : Int32) by decide) ?_
  refine j_callS CX (n := 3) (b := 0) (pre := []) (post := xW x az af ac ab aj sp ++ (zW az cI n va re tr sh (nf C) (nI K) ++ (fW af cI (nf F) (nI fk) ++ (cW ac cI dn (nI ck) ch ++ (bW ab cI bl (nI bk) ++ (jW aj cI (nf U) jr ja (nI jk) (nI jq))))))) (rest := []) (x_cw l D cI cZ cL (nI w) (nI 0) (nI 15) (nI_nlt (by omega) (by omega)) (nI_nlt (by omega) (by omega))) gX5_fails_X5_checkWithin rfl (by decide +kernel) ⟨Nat.le_of_ble_eq_true rfl, Nat.le_of_ble_eq_true rfl⟩ rfl rfl rfl (Nat.le_of_ble_eq_true rfl) dX5_fails_4 ⟨Nat.le_of_ble_eq_true rfl, Nat.le_of_ble_eq_true rfl⟩ (fun r9 w9 h9 => ?_)
  obtain ⟨rfl, rfl⟩ := h9
  refine j_w (w' := xW x az af ac ab aj sp ++ (zW az cI n va re tr sh (nf C) (nI K) ++ (fW af cI (nf F) (nI fk) ++ (cW ac cI dn (nI ck) ch ++ (bW ab cI bl (nI bk) ++ (jW aj cI (nf U) jr ja (nI jk) (nI jq))))))) rfl ?_
  refine j_st (st9 := []) rfl ?_
  refine j_aload_n CX 0 dX5_fails_7 rfl rfl ?_
  refine j_iload_n CX 2 dX5_fails_8 rfl rfl ?_
  refine j_callV CX (n := 1) (pre := []) (post := []) (rest := []) (qc := (RX5, TX5, 6)) (x_cz l D cI cZ cL x az af ac ab aj sp n va re tr sh C K F fk dn ck ch bl bk U jr ja jk jq z hn (by omega)) gX5_fails_X5_checkZone rfl (by decide +kernel) ⟨Nat.le_of_ble_eq_true rfl, Nat.le_of_ble_eq_true rfl⟩ rfl rfl rfl rfl rfl (Nat.le_of_ble_eq_true rfl) dX5_fails_9 ⟨Nat.le_of_ble_eq_true rfl, Nat.le_of_ble_eq_true rfl⟩ (fun r9 w9 h9 => ?_)
  obtain ⟨rfl, rfl⟩ := h9
  refine j_w (w' := xW x az af ac ab aj sp ++ (zW az cI n va re tr sh (nf C) (nI K) ++ (fW af cI (nf F) (nI fk) ++ (cW ac cI dn (nI ck) ch ++ (bW ab cI bl (nI bk) ++ (jW aj cI (nf U) jr ja (nI jk) (nI jq))))))) rfl ?_
  refine j_st (st9 := []) rfl ?_
  refine j_iload_n CX 3 dX5_fails_12 rfl rfl ?_
  refine j_iconst CX dX5_fails_13 (show _ = (nI 0 : Int32) by decide) ?_
  refine j_sipush CX dX5_fails_14 (show _ = (nI 999 : Int32) by decide) ?_
  exact j_callSX CX hX hZ (n := 3) (b := 0) (pre := []) (post := xW x az af ac ab aj sp ++ (zW az cI n va re tr sh (nf C) (nI K) ++ (fW af cI (nf F) (nI fk) ++ (cW ac cI dn (nI ck) ch ++ (bW ab cI bl (nI bk) ++ (jW aj cI (nf U) jr ja (nI jk) (nI jq))))))) (rest := []) (x_cw_x l hl9 D cI cZ cL σ h (nI 0) (nI 999) (g)) gX5_fails_X5_checkWithin rfl (by decide +kernel) ⟨(Nat.le_of_ble_eq_true rfl), (Nat.le_of_ble_eq_true rfl)⟩ rfl rfl rfl (Nat.le_of_ble_eq_true rfl) dX5_fails_17 ⟨(Nat.le_of_ble_eq_true rfl), (Nat.le_of_ble_eq_true rfl)⟩ htab hlocks (Nat.le_of_ble_eq_true rfl) (Nat.le_of_ble_eq_true rfl)

set_option maxRecDepth 100000 in
set_option maxHeartbeats 4000000 in
theorem x_fails_x4 (l : Launch) (hl9 : l.stackTraces = false) (D : va_G) (cI cZ cL : ClassId) (σ : Nat → Nat) (x : Nat) (az af ac ab aj : Nat → Nat) (sp : Int32) (n : Nat) (va re tr sh : Nat → Int32) (C : Nat → Nat) (K : Nat) (F : Nat → Nat) (fk : Nat) (dn : Nat → Int32) (ck : Nat) (ch : Int32) (bl : Nat → Int32) (bk : Nat) (U : Nat → Nat) (jr ja : Nat → Int32) (jk jq : Nat) (w z h : Nat) (hn : n ≤ 24) (hw : w < 16) (hz : z < n) (hh : h < 1000) (hfk : fk = 200) (hF : ∀ j, j < fk → F j < 2 ^ 31) (hin : ¬ (bsF F (kyF w z h) 200 0 fk < fk ∧ F (bsF F (kyF w z h) 200 0 fk) = kyF w z h)) : Cx l D cI cZ cL σ yX5_fails wsX5_fails rmxX5_fails [.ref x, .int (nI w), .int (nI z), .int (nI h), .int (nI 1)] (xW x az af ac ab aj sp ++ (zW az cI n va re tr sh (nf C) (nI K) ++ (fW af cI (nf F) (nI fk) ++ (cW ac cI dn (nI ck) ch ++ (bW ab cI bl (nI bk) ++ (jW aj cI (nf U) jr ja (nI jk) (nI jq))))))) jISE := by
  refine Cx.ofJ (own := RX5) (cc := cX5_fails) (maxL := 6) (ret := (some .boolean)) (by decide) rfl rfl (Nat.le_of_ble_eq_true rfl) ?_
  intro p e s m args below meth c A CX hlocks htab hX hZ
  have hin5 : ∀ x ∈ u_ws RX5 TX5 6, x ∈ wsX5_fails := by decide +kernel
  have hfl30 : Cond.fieldLink RX5 30 (TX5 1).1 (TX5 1).2.1 (TX5 1).2.2.1 ∈ wsX5_fails := by decide +kernel
  have hck97 : Cond.classLink RX5 97 jISE ∈ wsX5_fails := by decide +kernel
  have hinijISE : Cond.initialized jISE ∈ wsX5_fails := by decide +kernel
  have hatjISE : ∀ x ∈ (vx_atS RX5 101 jISE jNM).filter goodWord, x ∈ wsX5_fails := by decide +kernel
  show J p l e rmxX5_fails s m args below meth c D A 6 0 0 (vx_MQ below jNo (jXC D jISE (xW x az af ac ab aj sp ++ (zW az cI n va re tr sh (nf C) (nI K) ++ (fW af cI (nf F) (nI fk) ++ (cW ac cI dn (nI ck) ch ++ (bW ab cI bl (nI bk) ++ (jW aj cI (nf U) jr ja (nI jk) (nI jq))))))) A) args s rmxX5_fails.cells rmxX5_fails.slots A) (xW x az af ac ab aj sp ++ (zW az cI n va re tr sh (nf C) (nI K) ++ (fW af cI (nf F) (nI fk) ++ (cW ac cI dn (nI ck) ch ++ (bW ab cI bl (nI bk) ++ (jW aj cI (nf U) jr ja (nI jk) (nI jq))))))) 0 [(0, .ref x), (1, .int (nI w)), (2, .int (nI z)), (3, .int (nI h)), (4, .int (nI 1))] []
  refine j_iload_n CX 1 dX5_fails_0 rfl rfl ?_
  refine j_iconst CX dX5_fails_1 (show _ = (nI 0 : Int32) by decide) ?_
  refine j_bipush CX dX5_fails_2 (show _ = (nI 15 : Int32) by decide) ?_
  refine j_callS CX (n := 3) (b := 0) (pre := []) (post := xW x az af ac ab aj sp ++ (zW az cI n va re tr sh (nf C) (nI K) ++ (fW af cI (nf F) (nI fk) ++ (cW ac cI dn (nI ck) ch ++ (bW ab cI bl (nI bk) ++ (jW aj cI (nf U) jr ja (nI jk) (nI jq))))))) (rest := []) (x_cw l D cI cZ cL (nI w) (nI 0) (nI 15) (nI_nlt (by omega) (by omega)) (nI_nlt (by omega) (by omega))) gX5_fails_X5_checkWithin rfl (by decide +kernel) ⟨Nat.le_of_ble_eq_true rfl, Nat.le_of_ble_eq_true rfl⟩ rfl rfl rfl (Nat.le_of_ble_eq_true rfl) dX5_fails_4 ⟨Nat.le_of_ble_eq_true rfl, Nat.le_of_ble_eq_true rfl⟩ (fun r9 w9 h9 => ?_)
  obtain ⟨rfl, rfl⟩ := h9
  refine j_w (w' := xW x az af ac ab aj sp ++ (zW az cI n va re tr sh (nf C) (nI K) ++ (fW af cI (nf F) (nI fk) ++ (cW ac cI dn (nI ck) ch ++ (bW ab cI bl (nI bk) ++ (jW aj cI (nf U) jr ja (nI jk) (nI jq))))))) rfl ?_
  refine j_st (st9 := []) rfl ?_
  refine j_aload_n CX 0 dX5_fails_7 rfl rfl ?_
  refine j_iload_n CX 2 dX5_fails_8 rfl rfl ?_
  refine j_callV CX (n := 1) (pre := []) (post := []) (rest := []) (qc := (RX5, TX5, 6)) (x_cz l D cI cZ cL x az af ac ab aj sp n va re tr sh C K F fk dn ck ch bl bk U jr ja jk jq z hn (by omega)) gX5_fails_X5_checkZone rfl (by decide +kernel) ⟨Nat.le_of_ble_eq_true rfl, Nat.le_of_ble_eq_true rfl⟩ rfl rfl rfl rfl rfl (Nat.le_of_ble_eq_true rfl) dX5_fails_9 ⟨Nat.le_of_ble_eq_true rfl, Nat.le_of_ble_eq_true rfl⟩ (fun r9 w9 h9 => ?_)
  obtain ⟨rfl, rfl⟩ := h9
  refine j_w (w' := xW x az af ac ab aj sp ++ (zW az cI n va re tr sh (nf C) (nI K) ++ (fW af cI (nf F) (nI fk) ++ (cW ac cI dn (nI ck) ch ++ (bW ab cI bl (nI bk) ++ (jW aj cI (nf U) jr ja (nI jk) (nI jq))))))) rfl ?_
  refine j_st (st9 := []) rfl ?_
  refine j_iload_n CX 3 dX5_fails_12 rfl rfl ?_
  refine j_iconst CX dX5_fails_13 (show _ = (nI 0 : Int32) by decide) ?_
  refine j_sipush CX dX5_fails_14 (show _ = (nI 999 : Int32) by decide) ?_
  refine j_callS CX (n := 3) (b := 0) (pre := []) (post := xW x az af ac ab aj sp ++ (zW az cI n va re tr sh (nf C) (nI K) ++ (fW af cI (nf F) (nI fk) ++ (cW ac cI dn (nI ck) ch ++ (bW ab cI bl (nI bk) ++ (jW aj cI (nf U) jr ja (nI jk) (nI jq))))))) (rest := []) (x_cw l D cI cZ cL (nI h) (nI 0) (nI 999) (nI_nlt (by omega) (by omega)) (nI_nlt (by omega) (by omega))) gX5_fails_X5_checkWithin rfl (by decide +kernel) ⟨Nat.le_of_ble_eq_true rfl, Nat.le_of_ble_eq_true rfl⟩ rfl rfl rfl (Nat.le_of_ble_eq_true rfl) dX5_fails_17 ⟨Nat.le_of_ble_eq_true rfl, Nat.le_of_ble_eq_true rfl⟩ (fun r9 w9 h9 => ?_)
  obtain ⟨rfl, rfl⟩ := h9
  refine j_w (w' := xW x az af ac ab aj sp ++ (zW az cI n va re tr sh (nf C) (nI K) ++ (fW af cI (nf F) (nI fk) ++ (cW ac cI dn (nI ck) ch ++ (bW ab cI bl (nI bk) ++ (jW aj cI (nf U) jr ja (nI jk) (nI jq))))))) rfl ?_
  refine j_st (st9 := []) rfl ?_
  refine j_aload_n CX 0 dX5_fails_20 rfl rfl ?_
  refine j_get CX 0 1 dX5_fails_21 rfl rfl hin5 (by decide) hfl30 rfl ?_
  refine j_iload_n CX 1 dX5_fails_24 rfl rfl ?_
  refine j_iload_n CX 2 dX5_fails_25 rfl rfl ?_
  refine j_iload_n CX 3 dX5_fails_26 rfl rfl ?_
  refine j_callV CX (n := 3) (pre := xW x az af ac ab aj sp ++ (zW az cI n va re tr sh (nf C) (nI K))) (post := cW ac cI dn (nI ck) ch ++ (bW ab cI bl (nI bk) ++ (jW aj cI (nf U) jr ja (nI jk) (nI jq)))) (rest := []) (qc := (RX2, TX2, 2)) (f_has l D cI cZ cL af F fk w z h (by omega) hF hw (by omega) hh) gX5_fails_X2_has rfl (by decide +kernel) ⟨Nat.le_of_ble_eq_true rfl, Nat.le_of_ble_eq_true rfl⟩ rfl rfl rfl rfl rfl (Nat.le_of_ble_eq_true rfl) dX5_fails_27 ⟨Nat.le_of_ble_eq_true rfl, Nat.le_of_ble_eq_true rfl⟩ (fun r9 w9 h9 => ?_)
  obtain ⟨rfl, rfl⟩ := h9
  refine j_w (w' := xW x az af ac ab aj sp ++ (zW az cI n va re tr sh (nf C) (nI K) ++ (fW af cI (nf F) (nI fk) ++ (cW ac cI dn (nI ck) ch ++ (bW ab cI bl (nI bk) ++ (jW aj cI (nf U) jr ja (nI jk) (nI jq))))))) rfl ?_
  refine j_st (st9 := [.int (nI (b2n (bsF F (kyF w z h) 200 0 fk < fk ∧ F (bsF F (kyF w z h) 200 0 fk) = kyF w z h)))]) rfl ?_
  refine j_top (show (nI (b2n (bsF F (kyF w z h) 200 0 fk < fk ∧ F (bsF F (kyF w z h) 200 0 fk) = kyF w z h))) = nI 0 from by rw [b2n_f hin]) ?_
  refine j_istore CX (lv' := [(5, .int (nI 0)), (0, .ref x), (1, .int (nI w)), (2, .int (nI z)), (3, .int (nI h)), (4, .int (nI 1))]) dX5_fails_30 (by decide) rfl ?_
  refine j_iload CX 5 dX5_fails_32 rfl ?_
  refine j_ifN_eq CX (by first | assumption | omega | exact b2n_lt _ | exact t2n_lt _) 72 dX5_fails_34 (by decide) (fun h34 => absurd h34 (by decide)) (fun h34 => ?_)
  refine j_iload CX 0 dX5_fails_37 rfl ?_
  refine j_ifN_ne CX (by first | assumption | omega | exact b2n_lt _ | exact t2n_lt _) 72 dX5_fails_39 (by decide) (fun h39 => absurd h39 (by decide)) (fun h39 => ?_)
  refine j_aload_n CX 1 dX5_fails_42 rfl rfl ?_
  refine j_get CX 0 1 dX5_fails_43 rfl rfl hin5 (by decide) hfl30 rfl ?_
  refine j_callV CX (n := 0) (pre := xW x az af ac ab aj sp ++ (zW az cI n va re tr sh (nf C) (nI K))) (post := cW ac cI dn (nI ck) ch ++ (bW ab cI bl (nI bk) ++ (jW aj cI (nf U) jr ja (nI jk) (nI jq)))) (rest := []) (qc := (RX2, TX2, 2)) (f_isFull l D cI cZ cL af F fk (by omega)) gX5_fails_X2_isFull rfl (by decide +kernel) ⟨Nat.le_of_ble_eq_true rfl, Nat.le_of_ble_eq_true rfl⟩ rfl rfl rfl rfl rfl (Nat.le_of_ble_eq_true rfl) dX5_fails_46 ⟨Nat.le_of_ble_eq_true rfl, Nat.le_of_ble_eq_true rfl⟩ (fun r9 w9 h9 => ?_)
  obtain ⟨rfl, rfl⟩ := h9
  refine j_w (w' := xW x az af ac ab aj sp ++ (zW az cI n va re tr sh (nf C) (nI K) ++ (fW af cI (nf F) (nI fk) ++ (cW ac cI dn (nI ck) ch ++ (bW ab cI bl (nI bk) ++ (jW aj cI (nf U) jr ja (nI jk) (nI jq))))))) rfl ?_
  refine j_st (st9 := [.int (nI (b2n (200 ≤ fk)))]) rfl ?_
  refine j_ifN_eq CX (by first | assumption | omega | exact b2n_lt _ | exact t2n_lt _) 62 dX5_fails_49 (by decide) (fun h49 => ?_) (fun h49 => ?_)
  · exact absurd h49 (by rw [b2n_t (by omega)]; decide)
  · exact j_throwS CX hl9 hlocks htab hZ (by decide +kernel) hck97 hinijISE hX.2.2.2.1 hX.1.2.1 hX.1.2.2.2 hatjISE (by decide +kernel) (by decide +kernel) dX5_fails_52 dX5_fails_55 dX5_fails_56 dX5_fails_58 dX5_fails_61 (Nat.le_of_ble_eq_true rfl) (Nat.le_of_ble_eq_true rfl) (Nat.le_of_ble_eq_true rfl) (Nat.le_of_ble_eq_true rfl) (Nat.le_of_ble_eq_true rfl) (Nat.le_of_ble_eq_true rfl)
