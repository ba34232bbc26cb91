
theorem kept_lo {x : Int64} (h : ¬ (-1000000 : Int64) ≤ x) : kept x = -1000000 := by
  have h1 : x < -1000000 := Int64.not_le.mp h
  have h2 : x < 1000000 := Int64.lt_trans h1 (by decide)
  unfold kept
  rw [if_pos h2, if_pos h1]
  decide
theorem kept_hi {x : Int64} (h : ¬ x ≤ 1000000) : kept x = 1000000 := by
  have h1 : ¬ x < 1000000 := fun q => h (Int64.le_of_lt q)
  unfold kept
  rw [if_neg h1, if_neg (by decide)]
  decide
theorem kept_in {x : Int64} (h1 : (-1000000 : Int64) ≤ x) (h2 : x ≤ 1000000) : kept x = x.toInt32 := by
  unfold kept
  by_cases h : x < 1000000
  · rw [if_pos h, if_neg (Int64.not_lt.mpr h1)]
  · have e : x = 1000000 := Int64.le_antisymm h2 (Int64.not_lt.mp h)
    subst e
    decide
abbrev rmX6_thrown : Room := { frames := 0, cells := 0, slots := 0, locals := 0 }
set_option maxRecDepth 100000 in
set_option maxHeartbeats 4000000 in
theorem r_thrown (l : Launch) (D : va_G) (cI cZ cL : ClassId) (a : Nat → Nat) (n : Nat) (thr : Int32) (fc : Nat) (sp : Int32) (cr ln : Nat) (cx : Int32) (jo wg : Nat) (sh va : Nat → Int32) (C fw fz fh G : Nat → Nat) (di : Nat → Int32) (B : Nat → Nat) (ke : Nat → Int32) (dO fr ma st : Nat → Nat) (hf : Nat → Int32) (wa : Nat → Nat) (ra ag : Nat → Int32)  : Cg l D cI cZ cL yX6_thrown wsX6_thrown rmX6_thrown [.ref (a 0)] (mW a cI cZ n thr (nI fc) sp (nI cr) (nI ln) cx (nI jo) (nI wg) sh va (nf C) (nf fw) (nf fz) (nf fh) (nf G) di (nf B) ke (nf dO) (nf fr) (nf ma) (nf st) hf (nf wa) ra ag) (fun r0 w0 => r0 = some (.int thr) ∧ w0 = mW a cI cZ n thr (nI fc) sp (nI cr) (nI ln) cx (nI jo) (nI wg) sh va (nf C) (nf fw) (nf fz) (nf fh) (nf G) di (nf B) ke (nf dO) (nf fr) (nf ma) (nf st) hf (nf wa) ra ag) := by
  refine Cg.ofJ (own := RX6) (cc := cX6_thrown) (maxL := 1) (ret := (some .int)) (by decide) rfl rfl (Nat.le_of_ble_eq_true rfl) ?_
  intro p e s m args below meth c A CX hr hlocks hname
  have hin6 : ∀ x ∈ u_ws RX6 TX6 27, x ∈ wsX6_thrown := by decide +kernel
  have hfl72 : Cond.fieldLink RX6 72 (TX6 0).1 (TX6 0).2.1 (TX6 0).2.2.1 ∈ wsX6_thrown := by decide +kernel
  show J p l e rmX6_thrown s m args below meth c D A 1 0 0 (MQ below (jQc D (fun r0 w0 => r0 = some (.int thr) ∧ w0 = mW a cI cZ n thr (nI fc) sp (nI cr) (nI ln) cx (nI jo) (nI wg) sh va (nf C) (nf fw) (nf fz) (nf fh) (nf G) di (nf B) ke (nf dO) (nf fr) (nf ma) (nf st) hf (nf wa) ra ag) A) args s rmX6_thrown.cells rmX6_thrown.slots A) (mW a cI cZ n thr (nI fc) sp (nI cr) (nI ln) cx (nI jo) (nI wg) sh va (nf C) (nf fw) (nf fz) (nf fh) (nf G) di (nf B) ke (nf dO) (nf fr) (nf ma) (nf st) hf (nf wa) ra ag) 0 [(0, .ref (a 0))] []
  refine j_aload_n CX 0 dX6_thrown_0 rfl rfl ?_
  refine j_get CX 0 0 dX6_thrown_1 rfl rfl hin6 (by decide) hfl72 rfl ?_
  exact j_iret CX hr hlocks dX6_thrown_4 (⟨rfl, rfl⟩)

abbrev rmX6_isIn : Room := { frames := 0, cells := 0, slots := 0, locals := 0 }
set_option maxRecDepth 100000 in
set_option maxHeartbeats 4000000 in
theorem r_isIn_t (l : Launch) (D : va_G) (cI cZ cL : ClassId) (v lo hi : Int32) (g1 : ¬ v < lo) (g2 : ¬ hi < v) : Cg l D cI cZ cL yX6_isIn wsX6_isIn rmX6_isIn [.int v, .int lo, .int hi] (([] : va_W)) (fun r0 w0 => r0 = some (.int (nI 1)) ∧ w0 = ([] : va_W)) := by
  refine Cg.ofJ (own := RX6) (cc := cX6_isIn) (maxL := 3) (ret := (some .boolean)) (by decide) rfl rfl (Nat.le_of_ble_eq_true rfl) ?_
  intro p e s m args below meth c A CX hr hlocks hname
  show J p l e rmX6_isIn s m args below meth c D A 3 0 0 (MQ below (jQc D (fun r0 w0 => r0 = some (.int (nI 1)) ∧ w0 = ([] : va_W)) A) args s rmX6_isIn.cells rmX6_isIn.slots A) (([] : va_W)) 0 [(0, .int v), (1, .int lo), (2, .int hi)] []
  refine j_iload_n CX 0 dX6_isIn_0 rfl rfl ?_
  refine j_iload_n CX 1 dX6_isIn_1 rfl rfl ?_
  refine j_icmp_lt CX 14 dX6_isIn_2 (by decide) (fun h2 => ?_) (fun h2 => ?_)
  · exact absurd h2 g1
  · refine j_iload_n CX 0 dX6_isIn_5 rfl rfl ?_
    refine j_iload_n CX 2 dX6_isIn_6 rfl rfl ?_
    refine j_icmp_gt CX 14 dX6_isIn_7 (by decide) (fun h7 => ?_) (fun h7 => ?_)
    · exact absurd h7 g2
    · refine j_iconst CX dX6_isIn_10 (show _ = (nI 1 : Int32) by decide) ?_
      refine j_goto CX 15 dX6_isIn_11 (by decide) ?_
      exact j_zret CX hr hlocks dX6_isIn_15 (rfl) (⟨rfl, rfl⟩)

set_option maxRecDepth 100000 in
set_option maxHeartbeats 4000000 in
theorem r_isIn_f (l : Launch) (D : va_G) (cI cZ cL : ClassId) (v lo hi : Int32) (g : v < lo ∨ hi < v) : Cg l D cI cZ cL yX6_isIn wsX6_isIn rmX6_isIn [.int v, .int lo, .int hi] (([] : va_W)) (fun r0 w0 => r0 = some (.int (nI 0)) ∧ w0 = ([] : va_W)) := by
  refine Cg.ofJ (own := RX6) (cc := cX6_isIn) (maxL := 3) (ret := (some .boolean)) (by decide) rfl rfl (Nat.le_of_ble_eq_true rfl) ?_
  intro p e s m args below meth c A CX hr hlocks hname
  show J p l e rmX6_isIn s m args below meth c D A 3 0 0 (MQ below (jQc D (fun r0 w0 => r0 = some (.int (nI 0)) ∧ w0 = ([] : va_W)) A) args s rmX6_isIn.cells rmX6_isIn.slots A) (([] : va_W)) 0 [(0, .int v), (1, .int lo), (2, .int hi)] []
  refine j_iload_n CX 0 dX6_isIn_0 rfl rfl ?_
  refine j_iload_n CX 1 dX6_isIn_1 rfl rfl ?_
  refine j_icmp_lt CX 14 dX6_isIn_2 (by decide) (fun h2 => ?_) (fun h2 => ?_)
  · refine j_iconst CX dX6_isIn_14 (show _ = (nI 0 : Int32) by decide) ?_
    exact j_zret CX hr hlocks dX6_isIn_15 (rfl) (⟨rfl, rfl⟩)
  · refine j_iload_n CX 0 dX6_isIn_5 rfl rfl ?_
    refine j_iload_n CX 2 dX6_isIn_6 rfl rfl ?_
    refine j_icmp_gt CX 14 dX6_isIn_7 (by decide) (fun h7 => ?_) (fun h7 => ?_)
    · refine j_iconst CX dX6_isIn_14 (show _ = (nI 0 : Int32) by decide) ?_
      exact j_zret CX hr hlocks dX6_isIn_15 (rfl) (⟨rfl, rfl⟩)
    · exact absurd g (fun g => g.elim h2 h7)

abbrev rmX6_noZone : Room := { frames := 0, cells := 0, slots := 0, locals := 0 }
set_option maxRecDepth 100000 in
set_option maxHeartbeats 4000000 in
theorem r_nz_f (l : Launch) (D : va_G) (cI cZ cL : ClassId) (a : Nat → Nat) (n : Nat) (thr : Int32) (fc : Nat) (sp : Int32) (cr ln : Nat) (cx : Int32) (jo wg : Nat) (sh va : Nat → Int32) (C fw fz fh G : Nat → Nat) (di : Nat → Int32) (B : Nat → Nat) (ke : Nat → Int32) (dO fr ma st : Nat → Nat) (hf : Nat → Int32) (wa : Nat → Nat) (ra ag : Nat → Int32) (z : Nat) (hn : n ≤ 24) (hz : z < n) : Cg l D cI cZ cL yX6_noZone wsX6_noZone rmX6_noZone [.ref (a 0), .int (nI z)] (mW a cI cZ n thr (nI fc) sp (nI cr) (nI ln) cx (nI jo) (nI wg) sh va (nf C) (nf fw) (nf fz) (nf fh) (nf G) di (nf B) ke (nf dO) (nf fr) (nf ma) (nf st) hf (nf wa) ra ag) (fun r0 w0 => r0 = some (.int (nI 0)) ∧ w0 = mW a cI cZ n thr (nI fc) sp (nI cr) (nI ln) cx (nI jo) (nI wg) sh va (nf C) (nf fw) (nf fz) (nf fh) (nf G) di (nf B) ke (nf dO) (nf fr) (nf ma) (nf st) hf (nf wa) ra ag) := by
  refine Cg.ofJ (own := RX6) (cc := cX6_noZone) (maxL := 2) (ret := (some .boolean)) (by decide) rfl rfl (Nat.le_of_ble_eq_true rfl) ?_
  intro p e s m args below meth c A CX hr hlocks hname
  have hin6 : ∀ x ∈ u_ws RX6 TX6 27, x ∈ wsX6_noZone := by decide +kernel
  have hfl69 : Cond.fieldLink RX6 69 (TX6 1).1 (TX6 1).2.1 (TX6 1).2.2.1 ∈ wsX6_noZone := by decide +kernel
  show J p l e rmX6_noZone s m args below meth c D A 2 0 0 (MQ below (jQc D (fun r0 w0 => r0 = some (.int (nI 0)) ∧ w0 = mW a cI cZ n thr (nI fc) sp (nI cr) (nI ln) cx (nI jo) (nI wg) sh va (nf C) (nf fw) (nf fz) (nf fh) (nf G) di (nf B) ke (nf dO) (nf fr) (nf ma) (nf st) hf (nf wa) ra ag) A) args s rmX6_noZone.cells rmX6_noZone.slots A) (mW a cI cZ n thr (nI fc) sp (nI cr) (nI ln) cx (nI jo) (nI wg) sh va (nf C) (nf fw) (nf fz) (nf fh) (nf G) di (nf B) ke (nf dO) (nf fr) (nf ma) (nf st) hf (nf wa) ra ag) 0 [(0, .ref (a 0)), (1, .int (nI z))] []
  refine j_iload_n CX 1 dX6_noZone_0 rfl rfl ?_
  refine j_ifN_lt CX (by first | assumption | omega | exact b2n_lt _ | exact t2n_lt _) 12 dX6_noZone_1 (by decide) (fun h1 => ?_) (fun h1 => ?_)
  · exact absurd h1 (by omega)
  · refine j_iload_n CX 1 dX6_noZone_4 rfl rfl ?_
    refine j_aload_n CX 0 dX6_noZone_5 rfl rfl ?_
    refine j_get CX 0 1 dX6_noZone_6 rfl rfl hin6 (by decide) hfl69 rfl ?_
    refine j_icmpN_lt CX (by first | assumption | omega) (by first | assumption | omega | exact b2n_lt _ | exact t2n_lt _) 16 dX6_noZone_9 (by decide) (fun h9 => ?_) (fun h9 => ?_)
    · refine j_iconst CX dX6_noZone_16 (show _ = (nI 0 : Int32) by decide) ?_
      exact j_zret CX hr hlocks dX6_noZone_17 (rfl) (⟨rfl, rfl⟩)
    · exact absurd hz (by omega)

set_option maxRecDepth 100000 in
set_option maxHeartbeats 4000000 in
theorem r_nz_t (l : Launch) (D : va_G) (cI cZ cL : ClassId) (a : Nat → Nat) (n : Nat) (thr : Int32) (fc : Nat) (sp : Int32) (cr ln : Nat) (cx : Int32) (jo wg : Nat) (sh va : Nat → Int32) (C fw fz fh G : Nat → Nat) (di : Nat → Int32) (B : Nat → Nat) (ke : Nat → Int32) (dO fr ma st : Nat → Nat) (hf : Nat → Int32) (wa : Nat → Nat) (ra ag : Nat → Int32) (v : Int32) (g : v < 0 ∨ nI n ≤ v) : Cg l D cI cZ cL yX6_noZone wsX6_noZone rmX6_noZone [.ref (a 0), .int v] (mW a cI cZ n thr (nI fc) sp (nI cr) (nI ln) cx (nI jo) (nI wg) sh va (nf C) (nf fw) (nf fz) (nf fh) (nf G) di (nf B) ke (nf dO) (nf fr) (nf ma) (nf st) hf (nf wa) ra ag) (fun r0 w0 => r0 = some (.int (nI 1)) ∧ w0 = mW a cI cZ n thr (nI fc) sp (nI cr) (nI ln) cx (nI jo) (nI wg) sh va (nf C) (nf fw) (nf fz) (nf fh) (nf G) di (nf B) ke (nf dO) (nf fr) (nf ma) (nf st) hf (nf wa) ra ag) := by
  refine Cg.ofJ (own := RX6) (cc := cX6_noZone) (maxL := 2) (ret := (some .boolean)) (by decide) rfl rfl (Nat.le_of_ble_eq_true rfl) ?_
  intro p e s m args below meth c A CX hr hlocks hname
  have hin6 : ∀ x ∈ u_ws RX6 TX6 27, x ∈ wsX6_noZone := by decide +kernel
  have hfl69 : Cond.fieldLink RX6 69 (TX6 1).1 (TX6 1).2.1 (TX6 1).2.2.1 ∈ wsX6_noZone := by decide +kernel
  show J p l e rmX6_noZone s m args below meth c D A 2 0 0 (MQ below (jQc D (fun r0 w0 => r0 = some (.int (nI 1)) ∧ w0 = mW a cI cZ n thr (nI fc) sp (nI cr) (nI ln) cx (nI jo) (nI wg) sh va (nf C) (nf fw) (nf fz) (nf fh) (nf G) di (nf B) ke (nf dO) (nf fr) (nf ma) (nf st) hf (nf wa) ra ag) A) args s rmX6_noZone.cells rmX6_noZone.slots A) (mW a cI cZ n thr (nI fc) sp (nI cr) (nI ln) cx (nI jo) (nI wg) sh va (nf C) (nf fw) (nf fz) (nf fh) (nf G) di (nf B) ke (nf dO) (nf fr) (nf ma) (nf st) hf (nf wa) ra ag) 0 [(0, .ref (a 0)), (1, .int v)] []
  refine j_iload_n CX 1 dX6_noZone_0 rfl rfl ?_
  refine j_if_lt CX 12 dX6_noZone_1 (by decide) (fun h1 => ?_) (fun h1 => ?_)
  · refine j_iconst CX dX6_noZone_12 (show _ = (nI 1 : Int32) by decide) ?_
    refine j_goto CX 17 dX6_noZone_13 (by decide) ?_
    exact j_zret CX hr hlocks dX6_noZone_17 (rfl) (⟨rfl, rfl⟩)
  · refine j_iload_n CX 1 dX6_noZone_4 rfl rfl ?_
    refine j_aload_n CX 0 dX6_noZone_5 rfl rfl ?_
    refine j_get CX 0 1 dX6_noZone_6 rfl rfl hin6 (by decide) hfl69 rfl ?_
    refine j_icmp_lt CX 16 dX6_noZone_9 (by decide) (fun h9 => ?_) (fun h9 => ?_)
    · exact absurd g (fun g => g.elim h1 (fun g => absurd h9 (Int32.not_lt.mpr g)))
    · refine j_iconst CX dX6_noZone_12 (show _ = (nI 1 : Int32) by decide) ?_
      refine j_goto CX 17 dX6_noZone_13 (by decide) ?_
      exact j_zret CX hr hlocks dX6_noZone_17 (rfl) (⟨rfl, rfl⟩)

abbrev rmX6_within : Room := { frames := 0, cells := 0, slots := 0, locals := 0 }
set_option maxRecDepth 100000 in
set_option maxHeartbeats 4000000 in
theorem r_within (l : Launch) (D : va_G) (cI cZ cL : ClassId) (v : Int64)  : Cg l D cI cZ cL yX6_within wsX6_within rmX6_within [.long v] (([] : va_W)) (fun r0 w0 => r0 = some (.int (kept v)) ∧ w0 = ([] : va_W)) := by
  refine Cg.ofJ (own := RX6) (cc := cX6_within) (maxL := 2) (ret := (some .int)) (by decide) rfl rfl (Nat.le_of_ble_eq_true rfl) ?_
  intro p e s m args below meth c A CX hr hlocks hname
  have hcn75 : Cond.constantLong RX6 75 (-1000000) ∈ wsX6_within := by decide +kernel
  have hcn78 : Cond.constantLong RX6 78 (1000000) ∈ wsX6_within := by decide +kernel
  have hcn80 : Cond.constant RX6 80 (1000000) ∈ wsX6_within := by decide +kernel
  have hcn77 : Cond.constant RX6 77 (-1000000) ∈ wsX6_within := by decide +kernel
  show J p l e rmX6_within s m args below meth c D A 2 0 0 (MQ below (jQc D (fun r0 w0 => r0 = some (.int (kept v)) ∧ w0 = ([] : va_W)) A) args s rmX6_within.cells rmX6_within.slots A) (([] : va_W)) 0 [(0, .long v)] []
  refine j_lload_n CX 0 dX6_within_0 rfl rfl ?_
  refine j_ldc2 CX dX6_within_1 hcn75 ?_
  refine j_lcmp CX dX6_within_4 ?_
  refine j_if_ge CX 13 dX6_within_5 (by decide) (fun h5 => ?_) (fun h5 => ?_)
  · refine j_lload_n CX 0 dX6_within_13 rfl rfl ?_
    refine j_ldc2 CX dX6_within_14 hcn78 ?_
    refine j_lcmp CX dX6_within_17 ?_
    refine j_if_le CX 26 dX6_within_18 (by decide) (fun h18 => ?_) (fun h18 => ?_)
    · refine j_lload_n CX 0 dX6_within_26 rfl rfl ?_
      refine j_l2i CX dX6_within_27 ?_
      exact j_iret CX hr hlocks dX6_within_28 (⟨by rw [kept_in ((lg_cmp_ge _ _).mp h5) ((lg_cmp_le _ _).mp h18)], rfl⟩)
    · refine j_ldc CX dX6_within_21 hcn80 ?_
      refine j_goto CX 28 dX6_within_23 (by decide) ?_
      exact j_iret CX hr hlocks dX6_within_28 (⟨by rw [kept_hi (fun q => h18 ((lg_cmp_le _ _).mpr q))], rfl⟩)
  · refine j_ldc CX dX6_within_8 hcn77 ?_
    refine j_goto CX 28 dX6_within_10 (by decide) ?_
    exact j_iret CX hr hlocks dX6_within_28 (⟨by rw [kept_lo (fun q => h5 ((lg_cmp_ge _ _).mpr q))], rfl⟩)

abbrev rmX6_at : Room := { frames := 1, cells := 0, slots := 0, locals := 21 }
set_option maxRecDepth 100000 in
set_option maxHeartbeats 4000000 in
theorem r_at (l : Launch) (D : va_G) (cI cZ cL : ClassId) (a : Nat → Nat) (n : Nat) (thr : Int32) (fc : Nat) (sp : Int32) (cr ln : Nat) (cx : Int32) (jo wg : Nat) (sh va : Nat → Int32) (C fw fz fh G : Nat → Nat) (di : Nat → Int32) (B : Nat → Nat) (ke : Nat → Int32) (dO fr ma st : Nat → Nat) (hf : Nat → Int32) (wa : Nat → Nat) (ra ag : Nat → Int32) (z : Nat) (hn : n ≤ 24) (hz : z < n) : Cg l D cI cZ cL yX6_at wsX6_at rmX6_at [.ref (a 0), .int (nI z)] (mW a cI cZ n thr (nI fc) sp (nI cr) (nI ln) cx (nI jo) (nI wg) sh va (nf C) (nf fw) (nf fz) (nf fh) (nf G) di (nf B) ke (nf dO) (nf fr) (nf ma) (nf st) hf (nf wa) ra ag) (fun r0 w0 => r0 = some (.int (va z)) ∧ w0 = mW a cI cZ n (nI 0) (nI fc) sp (nI cr) (nI ln) cx (nI jo) (nI wg) sh va (nf C) (nf fw) (nf fz) (nf fh) (nf G) di (nf B) ke (nf dO) (nf fr) (nf ma) (nf st) hf (nf wa) ra ag) := by
  refine Cg.ofJ (own := RX6) (cc := cX6_at) (maxL := 2) (ret := (some .int)) (by decide) rfl rfl (Nat.le_of_ble_eq_true rfl) ?_
  intro p e s m args below meth c A CX hr hlocks hname
  have hin6 : ∀ x ∈ u_ws RX6 TX6 27, x ∈ wsX6_at := by decide +kernel
  have hfl72 : Cond.fieldLink RX6 72 (TX6 0).1 (TX6 0).2.1 (TX6 0).2.2.1 ∈ wsX6_at := by decide +kernel
  have hfl13 : Cond.fieldLink RX6 13 (TX6 3).1 (TX6 3).2.1 (TX6 3).2.2.1 ∈ wsX6_at := by decide +kernel
  show J p l e rmX6_at s m args below meth c D A 2 0 0 (MQ below (jQc D (fun r0 w0 => r0 = some (.int (va z)) ∧ w0 = mW a cI cZ n (nI 0) (nI fc) sp (nI cr) (nI ln) cx (nI jo) (nI wg) sh va (nf C) (nf fw) (nf fz) (nf fh) (nf G) di (nf B) ke (nf dO) (nf fr) (nf ma) (nf st) hf (nf wa) ra ag) A) args s rmX6_at.cells rmX6_at.slots A) (mW a cI cZ n thr (nI fc) sp (nI cr) (nI ln) cx (nI jo) (nI wg) sh va (nf C) (nf fw) (nf fz) (nf fh) (nf G) di (nf B) ke (nf dO) (nf fr) (nf ma) (nf st) hf (nf wa) ra ag) 0 [(0, .ref (a 0)), (1, .int (nI z))] []
  refine j_aload_n CX 0 dX6_at_0 rfl rfl ?_
  refine j_aload_n CX 0 dX6_at_1 rfl rfl ?_
  refine j_iload_n CX 1 dX6_at_2 rfl rfl ?_
  refine j_callV CX (n := 1) (pre := []) (post := []) (rest := [.ref (a 0)]) (qc := (RX6, TX6, 27)) (r_nz_f l D cI cZ cL a n thr fc sp cr ln cx jo wg sh va C fw fz fh G di B ke dO fr ma st hf wa ra ag z hn (by omega)) gX6_at_X6_noZone rfl (by decide +kernel) ⟨Nat.le_of_ble_eq_true rfl, Nat.le_of_ble_eq_true rfl⟩ rfl rfl rfl rfl rfl (Nat.le_of_ble_eq_true rfl) dX6_at_3 ⟨Nat.le_refl _, Nat.le_refl _⟩ (fun r9 w9 h9 => ?_)
  obtain ⟨rfl, rfl⟩ := h9
  refine j_w (w' := mW a cI cZ n thr (nI fc) sp (nI cr) (nI ln) cx (nI jo) (nI wg) sh va (nf C) (nf fw) (nf fz) (nf fh) (nf G) di (nf B) ke (nf dO) (nf fr) (nf ma) (nf st) hf (nf wa) ra ag) rfl ?_
  refine j_st (st9 := [.int (nI 0), .ref (a 0)]) rfl ?_
  refine j_ifN_eq CX (by first | assumption | omega | exact b2n_lt _ | exact t2n_lt _) 13 dX6_at_6 (by decide) (fun h6 => ?_) (fun h6 => absurd h6 (by decide))
  refine j_iconst CX dX6_at_13 (show _ = (nI 0 : Int32) by decide) ?_
  refine j_put CX (w' := mW a cI cZ n (nI 0) (nI fc) sp (nI cr) (nI ln) cx (nI jo) (nI wg) sh va (nf C) (nf fw) (nf fz) (nf fh) (nf G) di (nf B) ke (nf dO) (nf fr) (nf ma) (nf st) hf (nf wa) ra ag) 0 0 dX6_at_14 rfl rfl hin6 tyX6 tyX6_ok nmX6 (by decide) hfl72 rfl rfl rfl rfl (Nat.le_of_ble_eq_true rfl) rfl ?_
  refine j_aload_n CX 0 dX6_at_17 rfl rfl ?_
  refine j_get CX 0 0 dX6_at_18 rfl rfl hin6 (by decide) hfl72 rfl ?_
  refine j_ifN_le CX (by first | assumption | omega | exact b2n_lt _ | exact t2n_lt _) 28 dX6_at_21 (by decide) (fun h21 => ?_) (fun h21 => absurd h21 (by decide))
  refine j_aload_n CX 0 dX6_at_28 rfl rfl ?_
  refine j_get CX 0 3 dX6_at_29 rfl rfl hin6 (by decide) hfl13 rfl ?_
  refine j_iload_n CX 1 dX6_at_32 rfl rfl ?_
  refine j_iald CX 2 z dX6_at_33 rfl (rfl) (by first | assumption | omega) (by decide) ?_
  exact j_iret CX hr hlocks dX6_at_34 (⟨rfl, rfl⟩)

set_option maxRecDepth 100000 in
set_option maxHeartbeats 4000000 in
theorem r_at_x (l : Launch) (D : va_G) (cI cZ cL : ClassId) (a : Nat → Nat) (n : Nat) (thr : Int32) (fc : Nat) (sp : Int32) (cr ln : Nat) (cx : Int32) (jo wg : Nat) (sh va : Nat → Int32) (C fw fz fh G : Nat → Nat) (di : Nat → Int32) (B : Nat → Nat) (ke : Nat → Int32) (dO fr ma st : Nat → Nat) (hf : Nat → Int32) (wa : Nat → Nat) (ra ag : Nat → Int32) (v : Int32) (g : v < 0 ∨ nI n ≤ v) : Cg l D cI cZ cL yX6_at wsX6_at rmX6_at [.ref (a 0), .int v] (mW a cI cZ n thr (nI fc) sp (nI cr) (nI ln) cx (nI jo) (nI wg) sh va (nf C) (nf fw) (nf fz) (nf fh) (nf G) di (nf B) ke (nf dO) (nf fr) (nf ma) (nf st) hf (nf wa) ra ag) (fun r0 w0 => r0 = some (.int (nI 0)) ∧ w0 = mW a cI cZ n (nI 1) (nI fc) sp (nI cr) (nI ln) cx (nI jo) (nI wg) sh va (nf C) (nf fw) (nf fz) (nf fh) (nf G) di (nf B) ke (nf dO) (nf fr) (nf ma) (nf st) hf (nf wa) ra ag) := by
  refine Cg.ofJ (own := RX6) (cc := cX6_at) (maxL := 2) (ret := (some .int)) (by decide) rfl rfl (Nat.le_of_ble_eq_true rfl) ?_
  intro p e s m args below meth c A CX hr hlocks hname
  have hin6 : ∀ x ∈ u_ws RX6 TX6 27, x ∈ wsX6_at := by decide +kernel
  have hfl72 : Cond.fieldLink RX6 72 (TX6 0).1 (TX6 0).2.1 (TX6 0).2.2.1 ∈ wsX6_at := by decide +kernel
  show J p l e rmX6_at s m args below meth c D A 2 0 0 (MQ below (jQc D (fun r0 w0 => r0 = some (.int (nI 0)) ∧ w0 = mW a cI cZ n (nI 1) (nI fc) sp (nI cr) (nI ln) cx (nI jo) (nI wg) sh va (nf C) (nf fw) (nf fz) (nf fh) (nf G) di (nf B) ke (nf dO) (nf fr) (nf ma) (nf st) hf (nf wa) ra ag) A) args s rmX6_at.cells rmX6_at.slots A) (mW a cI cZ n thr (nI fc) sp (nI cr) (nI ln) cx (nI jo) (nI wg) sh va (nf C) (nf fw) (nf fz) (nf fh) (nf G) di (nf B) ke (nf dO) (nf fr) (nf ma) (nf st) hf (nf wa) ra ag) 0 [(0, .ref (a 0)), (1, .int v)] []
  refine j_aload_n CX 0 dX6_at_0 rfl rfl ?_
  refine j_aload_n CX 0 dX6_at_1 rfl rfl ?_
  refine j_iload_n CX 1 dX6_at_2 rfl rfl ?_
  refine j_callV CX (n := 1) (pre := []) (post := []) (rest := [.ref (a 0)]) (qc := (RX6, TX6, 27)) (r_nz_t l D cI cZ cL a n thr fc sp cr ln cx jo wg sh va C fw fz fh G di B ke dO fr ma st hf wa ra ag v (g)) gX6_at_X6_noZone rfl (by decide +kernel) ⟨Nat.le_of_ble_eq_true rfl, Nat.le_of_ble_eq_true rfl⟩ rfl rfl rfl rfl rfl (Nat.le_of_ble_eq_true rfl) dX6_at_3 ⟨Nat.le_refl _, Nat.le_refl _⟩ (fun r9 w9 h9 => ?_)
  obtain ⟨rfl, rfl⟩ := h9
  refine j_w (w' := mW a cI cZ n thr (nI fc) sp (nI cr) (nI ln) cx (nI jo) (nI wg) sh va (nf C) (nf fw) (nf fz) (nf fh) (nf G) di (nf B) ke (nf dO) (nf fr) (nf ma) (nf st) hf (nf wa) ra ag) rfl ?_
  refine j_st (st9 := [.int (nI 1), .ref (a 0)]) rfl ?_
  refine j_ifN_eq CX (by first | assumption | omega | exact b2n_lt _ | exact t2n_lt _) 13 dX6_at_6 (by decide) (fun h6 => absurd h6 (by decide)) (fun h6 => ?_)
  refine j_iconst CX dX6_at_9 (show _ = (nI 1 : Int32) by decide) ?_
  refine j_goto CX 14 dX6_at_10 (by decide) ?_
  refine j_put CX (w' := mW a cI cZ n (nI 1) (nI fc) sp (nI cr) (nI ln) cx (nI jo) (nI wg) sh va (nf C) (nf fw) (nf fz) (nf fh) (nf G) di (nf B) ke (nf dO) (nf fr) (nf ma) (nf st) hf (nf wa) ra ag) 0 0 dX6_at_14 rfl rfl hin6 tyX6 tyX6_ok nmX6 (by decide) hfl72 rfl rfl rfl rfl (Nat.le_of_ble_eq_true rfl) rfl ?_
  refine j_aload_n CX 0 dX6_at_17 rfl rfl ?_
  refine j_get CX 0 0 dX6_at_18 rfl rfl hin6 (by decide) hfl72 rfl ?_
  refine j_ifN_le CX (by first | assumption | omega | exact b2n_lt _ | exact t2n_lt _) 28 dX6_at_21 (by decide) (fun h21 => absurd h21 (by decide)) (fun h21 => ?_)
  refine j_iconst CX dX6_at_24 (show _ = (nI 0 : Int32) by decide) ?_
  refine j_goto CX 34 dX6_at_25 (by decide) ?_
  exact j_iret CX hr hlocks dX6_at_34 (⟨rfl, rfl⟩)

abbrev rmX6_value : Room := { frames := 1, cells := 0, slots := 0, locals := 22 }
set_option maxRecDepth 100000 in
set_option maxHeartbeats 4000000 in
theorem r_value (l : Launch) (D : va_G) (cI cZ cL : ClassId) (a : Nat → Nat) (n : Nat) (thr : Int32) (fc : Nat) (sp : Int32) (cr ln : Nat) (cx : Int32) (jo wg : Nat) (sh va : Nat → Int32) (C fw fz fh G : Nat → Nat) (di : Nat → Int32) (B : Nat → Nat) (ke : Nat → Int32) (dO fr ma st : Nat → Nat) (hf : Nat → Int32) (wa : Nat → Nat) (ra ag : Nat → Int32) (z : Nat) (v : Int32) (hn : n ≤ 24) (hz : z < n) (hv1 : ¬ v < -1000000) (hv2 : ¬ 1000000 < v) : Cg l D cI cZ cL yX6_value wsX6_value rmX6_value [.ref (a 0), .int (nI z), .int v] (mW a cI cZ n thr (nI fc) sp (nI cr) (nI ln) cx (nI jo) (nI wg) sh va (nf C) (nf fw) (nf fz) (nf fh) (nf G) di (nf B) ke (nf dO) (nf fr) (nf ma) (nf st) hf (nf wa) ra ag) (fun r0 w0 => r0 = some (.int (va z)) ∧ w0 = mW a cI cZ n (nI 0) (nI fc) sp (nI cr) (nI ln) cx (nI jo) (nI wg) sh (upd va z v) (nf C) (nf fw) (nf fz) (nf fh) (nf G) di (nf B) ke (nf dO) (nf fr) (nf ma) (nf st) hf (nf wa) ra ag) := by
  refine Cg.ofJ (own := RX6) (cc := cX6_value) (maxL := 4) (ret := (some .int)) (by decide) rfl rfl (Nat.le_of_ble_eq_true rfl) ?_
  intro p e s m args below meth c A CX hr hlocks hname
  have hcn77 : Cond.constant RX6 77 (-1000000) ∈ wsX6_value := by decide +kernel
  have hcn80 : Cond.constant RX6 80 (1000000) ∈ wsX6_value := by decide +kernel
  have hin6 : ∀ x ∈ u_ws RX6 TX6 27, x ∈ wsX6_value := by decide +kernel
  have hfl72 : Cond.fieldLink RX6 72 (TX6 0).1 (TX6 0).2.1 (TX6 0).2.2.1 ∈ wsX6_value := by decide +kernel
  have hfl13 : Cond.fieldLink RX6 13 (TX6 3).1 (TX6 3).2.1 (TX6 3).2.2.1 ∈ wsX6_value := by decide +kernel
  show J p l e rmX6_value s m args below meth c D A 4 0 0 (MQ below (jQc D (fun r0 w0 => r0 = some (.int (va z)) ∧ w0 = mW a cI cZ n (nI 0) (nI fc) sp (nI cr) (nI ln) cx (nI jo) (nI wg) sh (upd va z v) (nf C) (nf fw) (nf fz) (nf fh) (nf G) di (nf B) ke (nf dO) (nf fr) (nf ma) (nf st) hf (nf wa) ra ag) A) args s rmX6_value.cells rmX6_value.slots A) (mW a cI cZ n thr (nI fc) sp (nI cr) (nI ln) cx (nI jo) (nI wg) sh va (nf C) (nf fw) (nf fz) (nf fh) (nf G) di (nf B) ke (nf dO) (nf fr) (nf ma) (nf st) hf (nf wa) ra ag) 0 [(0, .ref (a 0)), (1, .int (nI z)), (2, .int v)] []
  refine j_aload_n CX 0 dX6_value_0 rfl rfl ?_
  refine j_aload_n CX 0 dX6_value_1 rfl rfl ?_
  refine j_iload_n CX 1 dX6_value_2 rfl rfl ?_
  refine j_callV CX (n := 1) (pre := []) (post := []) (rest := [.ref (a 0)]) (qc := (RX6, TX6, 27)) (r_nz_f l D cI cZ cL a n thr fc sp cr ln cx jo wg sh va C fw fz fh G di B ke dO fr ma st hf wa ra ag z hn (by omega)) gX6_value_X6_noZone rfl (by decide +kernel) ⟨Nat.le_of_ble_eq_true rfl, Nat.le_of_ble_eq_true rfl⟩ rfl rfl rfl rfl rfl (Nat.le_of_ble_eq_true rfl) dX6_value_3 ⟨Nat.le_refl _, Nat.le_refl _⟩ (fun r9 w9 h9 => ?_)
  obtain ⟨rfl, rfl⟩ := h9
  refine j_w (w' := mW a cI cZ n thr (nI fc) sp (nI cr) (nI ln) cx (nI jo) (nI wg) sh va (nf C) (nf fw) (nf fz) (nf fh) (nf G) di (nf B) ke (nf dO) (nf fr) (nf ma) (nf st) hf (nf wa) ra ag) rfl ?_
  refine j_st (st9 := [.int (nI 0), .ref (a 0)]) rfl ?_
  refine j_ifN_ne CX (by first | assumption | omega | exact b2n_lt _ | exact t2n_lt _) 20 dX6_value_6 (by decide) (fun h6 => absurd h6 (by decide)) (fun h6 => ?_)
  refine j_iload_n CX 2 dX6_value_9 rfl rfl ?_
  refine j_ldc CX dX6_value_10 hcn77 ?_
  refine j_ldc CX dX6_value_12 hcn80 ?_
  refine j_callS CX (n := 3) (b := 0) (pre := []) (post := mW a cI cZ n thr (nI fc) sp (nI cr) (nI ln) cx (nI jo) (nI wg) sh va (nf C) (nf fw) (nf fz) (nf fh) (nf G) di (nf B) ke (nf dO) (nf fr) (nf ma) (nf st) hf (nf wa) ra ag) (rest := [.ref (a 0)]) (r_isIn_t l D cI cZ cL v (-1000000) 1000000 hv1 hv2) gX6_value_X6_isIn rfl (by decide +kernel) ⟨Nat.le_of_ble_eq_true rfl, Nat.le_of_ble_eq_true rfl⟩ rfl rfl rfl (Nat.le_of_ble_eq_true rfl) dX6_value_14 ⟨Nat.le_refl _, Nat.le_refl _⟩ (fun r9 w9 h9 => ?_)
  obtain ⟨rfl, rfl⟩ := h9
  refine j_w (w' := mW a cI cZ n thr (nI fc) sp (nI cr) (nI ln) cx (nI jo) (nI wg) sh va (nf C) (nf fw) (nf fz) (nf fh) (nf G) di (nf B) ke (nf dO) (nf fr) (nf ma) (nf st) hf (nf wa) ra ag) rfl ?_
  refine j_st (st9 := [.int (nI 1), .ref (a 0)]) rfl ?_
  refine j_ifN_ne CX (by first | assumption | omega | exact b2n_lt _ | exact t2n_lt _) 24 dX6_value_17 (by decide) (fun h17 => ?_) (fun h17 => absurd h17 (by decide))
  refine j_iconst CX dX6_value_24 (show _ = (nI 0 : Int32) by decide) ?_
  refine j_put CX (w' := mW a cI cZ n (nI 0) (nI fc) sp (nI cr) (nI ln) cx (nI jo) (nI wg) sh va (nf C) (nf fw) (nf fz) (nf fh) (nf G) di (nf B) ke (nf dO) (nf fr) (nf ma) (nf st) hf (nf wa) ra ag) 0 0 dX6_value_25 rfl rfl hin6 tyX6 tyX6_ok nmX6 (by decide) hfl72 rfl rfl rfl rfl (Nat.le_of_ble_eq_true rfl) rfl ?_
  refine j_aload_n CX 0 dX6_value_28 rfl rfl ?_
  refine j_get CX 0 0 dX6_value_29 rfl rfl hin6 (by decide) hfl72 rfl ?_
  refine j_ifN_le CX (by first | assumption | omega | exact b2n_lt _ | exact t2n_lt _) 37 dX6_value_32 (by decide) (fun h32 => ?_) (fun h32 => absurd h32 (by decide))
  refine j_aload_n CX 0 dX6_value_37 rfl rfl ?_
  refine j_get CX 0 3 dX6_value_38 rfl rfl hin6 (by decide) hfl13 rfl ?_
  refine j_iload_n CX 1 dX6_value_41 rfl rfl ?_
  refine j_iald CX 2 z dX6_value_42 rfl (rfl) (by first | assumption | omega) (by decide) ?_
  refine j_istore_n CX (lv' := [(3, .int (va z)), (0, .ref (a 0)), (1, .int (nI z)), (2, .int v)]) dX6_value_43 rfl (by decide) rfl ?_
  refine j_aload_n CX 1 dX6_value_44 rfl rfl ?_
  refine j_get CX 0 3 dX6_value_45 rfl rfl hin6 (by decide) hfl13 rfl ?_
  refine j_iload_n CX 2 dX6_value_48 rfl rfl ?_
  refine j_iload_n CX 3 dX6_value_49 rfl rfl ?_
  refine j_iast CX (w' := mW a cI cZ n (nI 0) (nI fc) sp (nI cr) (nI ln) cx (nI jo) (nI wg) sh (upd va z v) (nf C) (nf fw) (nf fz) (nf fh) (nf G) di (nf B) ke (nf dO) (nf fr) (nf ma) (nf st) hf (nf wa) ra ag) 2 z dX6_value_50 rfl (rfl) (by first | assumption | omega) (by decide) rfl ?_
  refine j_iload_n CX 0 dX6_value_51 rfl rfl ?_
  exact j_iret CX hr hlocks dX6_value_52 (⟨rfl, rfl⟩)

set_option maxRecDepth 100000 in
set_option maxHeartbeats 4000000 in
theorem r_value_x1 (l : Launch) (D : va_G) (cI cZ cL : ClassId) (a : Nat → Nat) (n : Nat) (thr : Int32) (fc : Nat) (sp : Int32) (cr ln : Nat) (cx : Int32) (jo wg : Nat) (sh va : Nat → Int32) (C fw fz fh G : Nat → Nat) (di : Nat → Int32) (B : Nat → Nat) (ke : Nat → Int32) (dO fr ma st : Nat → Nat) (hf : Nat → Int32) (wa : Nat → Nat) (ra ag : Nat → Int32) (z v : Int32) (g : z < 0 ∨ nI n ≤ z) : Cg l D cI cZ cL yX6_value wsX6_value rmX6_value [.ref (a 0), .int z, .int v] (mW a cI cZ n thr (nI fc) sp (nI cr) (nI ln) cx (nI jo) (nI wg) sh va (nf C) (nf fw) (nf fz) (nf fh) (nf G) di (nf B) ke (nf dO) (nf fr) (nf ma) (nf st) hf (nf wa) ra ag) (fun r0 w0 => r0 = some (.int (nI 0)) ∧ w0 = mW a cI cZ n (nI 1) (nI fc) sp (nI cr) (nI ln) cx (nI jo) (nI wg) sh va (nf C) (nf fw) (nf fz) (nf fh) (nf G) di (nf B) ke (nf dO) (nf fr) (nf ma) (nf st) hf (nf wa) ra ag) := by
  refine Cg.ofJ (own := RX6) (cc := cX6_value) (maxL := 4) (ret := (some .int)) (by decide) rfl rfl (Nat.le_of_ble_eq_true rfl) ?_
  intro p e s m args below meth c A CX hr hlocks hname
  have hin6 : ∀ x ∈ u_ws RX6 TX6 27, x ∈ wsX6_value := by decide +kernel
  have hfl72 : Cond.fieldLink RX6 72 (TX6 0).1 (TX6 0).2.1 (TX6 0).2.2.1 ∈ wsX6_value := by decide +kernel
  show J p l e rmX6_value s m args below meth c D A 4 0 0 (MQ below (jQc D (fun r0 w0 => r0 = some (.int (nI 0)) ∧ w0 = mW a cI cZ n (nI 1) (nI fc) sp (nI cr) (nI ln) cx (nI jo) (nI wg) sh va (nf C) (nf fw) (nf fz) (nf fh) (nf G) di (nf B) ke (nf dO) (nf fr) (nf ma) (nf st) hf (nf wa) ra ag) A) args s rmX6_value.cells rmX6_value.slots A) (mW a cI cZ n thr (nI fc) sp (nI cr) (nI ln) cx (nI jo) (nI wg) sh va (nf C) (nf fw) (nf fz) (nf fh) (nf G) di (nf B) ke (nf dO) (nf fr) (nf ma) (nf st) hf (nf wa) ra ag) 0 [(0, .ref (a 0)), (1, .int z), (2, .int v)] []
  refine j_aload_n CX 0 dX6_value_0 rfl rfl ?_
  refine j_aload_n CX 0 dX6_value_1 rfl rfl ?_
  refine j_iload_n CX 1 dX6_value_2 rfl rfl ?_
  refine j_callV CX (n := 1) (pre := []) (post := []) (rest := [.ref (a 0)]) (qc := (RX6, TX6, 27)) (r_nz_t l D cI cZ cL a n thr fc sp cr ln cx jo wg sh va C fw fz fh G di B ke dO fr ma st hf wa ra ag z (g)) gX6_value_X6_noZone rfl (by decide +kernel) ⟨Nat.le_of_ble_eq_true rfl, Nat.le_of_ble_eq_true rfl⟩ rfl rfl rfl rfl rfl (Nat.le_of_ble_eq_true rfl) dX6_value_3 ⟨Nat.le_refl _, Nat.le_refl _⟩ (fun r9 w9 h9 => ?_)
  obtain ⟨rfl, rfl⟩ := h9
  refine j_w (w' := mW a cI cZ n thr (nI fc) sp (nI cr) (nI ln) cx (nI jo) (nI wg) sh va (nf C) (nf fw) (nf fz) (nf fh) (nf G) di (nf B) ke (nf dO) (nf fr) (nf ma) (nf st) hf (nf wa) ra ag) rfl ?_
  refine j_st (st9 := [.int (nI 1), .ref (a 0)]) rfl ?_
  refine j_ifN_ne CX (by first | assumption | omega | exact b2n_lt _ | exact t2n_lt _) 20 dX6_value_6 (by decide) (fun h6 => ?_) (fun h6 => absurd h6 (by decide))
  refine j_iconst CX dX6_value_20 (show _ = (nI 1 : Int32) by decide) ?_
  refine j_goto CX 25 dX6_value_21 (by decide) ?_
  refine j_put CX (w' := mW a cI cZ n (nI 1) (nI fc) sp (nI cr) (nI ln) cx (nI jo) (nI wg) sh va (nf C) (nf fw) (nf fz) (nf fh) (nf G) di (nf B) ke (nf dO) (nf fr) (nf ma) (nf st) hf (nf wa) ra ag) 0 0 dX6_value_25 rfl rfl hin6 tyX6 tyX6_ok nmX6 (by decide) hfl72 rfl rfl rfl rfl (Nat.le_of_ble_eq_true rfl) rfl ?_
  refine j_aload_n CX 0 dX6_value_28 rfl rfl ?_
  refine j_get CX 0 0 dX6_value_29 rfl rfl hin6 (by decide) hfl72 rfl ?_
  refine j_ifN_le CX (by first | assumption | omega | exact b2n_lt _ | exact t2n_lt _) 37 dX6_value_32 (by decide) (fun h32 => absurd h32 (by decide)) (fun h32 => ?_)
  refine j_iconst CX dX6_value_35 (show _ = (nI 0 : Int32) by decide) ?_
  exact j_iret CX hr hlocks dX6_value_36 (⟨rfl, rfl⟩)

set_option maxRecDepth 100000 in
set_option maxHeartbeats 4000000 in
theorem r_value_x2 (l : Launch) (D : va_G) (cI cZ cL : ClassId) (a : Nat → Nat) (n : Nat) (thr : Int32) (fc : Nat) (sp : Int32) (cr ln : Nat) (cx : Int32) (jo wg : Nat) (sh va : Nat → Int32) (C fw fz fh G : Nat → Nat) (di : Nat → Int32) (B : Nat → Nat) (ke : Nat → Int32) (dO fr ma st : Nat → Nat) (hf : Nat → Int32) (wa : Nat → Nat) (ra ag : Nat → Int32) (z : Nat) (v : Int32) (hn : n ≤ 24) (hz : z < n) (g : v < -1000000 ∨ 1000000 < v) : Cg l D cI cZ cL yX6_value wsX6_value rmX6_value [.ref (a 0), .int (nI z), .int v] (mW a cI cZ n thr (nI fc) sp (nI cr) (nI ln) cx (nI jo) (nI wg) sh va (nf C) (nf fw) (nf fz) (nf fh) (nf G) di (nf B) ke (nf dO) (nf fr) (nf ma) (nf st) hf (nf wa) ra ag) (fun r0 w0 => r0 = some (.int (nI 0)) ∧ w0 = mW a cI cZ n (nI 1) (nI fc) sp (nI cr) (nI ln) cx (nI jo) (nI wg) sh va (nf C) (nf fw) (nf fz) (nf fh) (nf G) di (nf B) ke (nf dO) (nf fr) (nf ma) (nf st) hf (nf wa) ra ag) := by
  refine Cg.ofJ (own := RX6) (cc := cX6_value) (maxL := 4) (ret := (some .int)) (by decide) rfl rfl (Nat.le_of_ble_eq_true rfl) ?_
  intro p e s m args below meth c A CX hr hlocks hname
  have hcn77 : Cond.constant RX6 77 (-1000000) ∈ wsX6_value := by decide +kernel
  have hcn80 : Cond.constant RX6 80 (1000000) ∈ wsX6_value := by decide +kernel
  have hin6 : ∀ x ∈ u_ws RX6 TX6 27, x ∈ wsX6_value := by decide +kernel
  have hfl72 : Cond.fieldLink RX6 72 (TX6 0).1 (TX6 0).2.1 (TX6 0).2.2.1 ∈ wsX6_value := by decide +kernel
  show J p l e rmX6_value s m args below meth c D A 4 0 0 (MQ below (jQc D (fun r0 w0 => r0 = some (.int (nI 0)) ∧ w0 = mW a cI cZ n (nI 1) (nI fc) sp (nI cr) (nI ln) cx (nI jo) (nI wg) sh va (nf C) (nf fw) (nf fz) (nf fh) (nf G) di (nf B) ke (nf dO) (nf fr) (nf ma) (nf st) hf (nf wa) ra ag) A) args s rmX6_value.cells rmX6_value.slots A) (mW a cI cZ n thr (nI fc) sp (nI cr) (nI ln) cx (nI jo) (nI wg) sh va (nf C) (nf fw) (nf fz) (nf fh) (nf G) di (nf B) ke (nf dO) (nf fr) (nf ma) (nf st) hf (nf wa) ra ag) 0 [(0, .ref (a 0)), (1, .int (nI z)), (2, .int v)] []
  refine j_aload_n CX 0 dX6_value_0 rfl rfl ?_
  refine j_aload_n CX 0 dX6_value_1 rfl rfl ?_
  refine j_iload_n CX 1 dX6_value_2 rfl rfl ?_
  refine j_callV CX (n := 1) (pre := []) (post := []) (rest := [.ref (a 0)]) (qc := (RX6, TX6, 27)) (r_nz_f l D cI cZ cL a n thr fc sp cr ln cx jo wg sh va C fw fz fh G di B ke dO fr ma st hf wa ra ag z hn (by omega)) gX6_value_X6_noZone rfl (by decide +kernel) ⟨Nat.le_of_ble_eq_true rfl, Nat.le_of_ble_eq_true rfl⟩ rfl rfl rfl rfl rfl (Nat.le_of_ble_eq_true rfl) dX6_value_3 ⟨Nat.le_refl _, Nat.le_refl _⟩ (fun r9 w9 h9 => ?_)
  obtain ⟨rfl, rfl⟩ := h9
  refine j_w (w' := mW a cI cZ n thr (nI fc) sp (nI cr) (nI ln) cx (nI jo) (nI wg) sh va (nf C) (nf fw) (nf fz) (nf fh) (nf G) di (nf B) ke (nf dO) (nf fr) (nf ma) (nf st) hf (nf wa) ra ag) rfl ?_
  refine j_st (st9 := [.int (nI 0), .ref (a 0)]) rfl ?_
  refine j_ifN_ne CX (by first | assumption | omega | exact b2n_lt _ | exact t2n_lt _) 20 dX6_value_6 (by decide) (fun h6 => absurd h6 (by decide)) (fun h6 => ?_)
  refine j_iload_n CX 2 dX6_value_9 rfl rfl ?_
  refine j_ldc CX dX6_value_10 hcn77 ?_
  refine j_ldc CX dX6_value_12 hcn80 ?_
  refine j_callS CX (n := 3) (b := 0) (pre := []) (post := mW a cI cZ n thr (nI fc) sp (nI cr) (nI ln) cx (nI jo) (nI wg) sh va (nf C) (nf fw) (nf fz) (nf fh) (nf G) di (nf B) ke (nf dO) (nf fr) (nf ma) (nf st) hf (nf wa) ra ag) (rest := [.ref (a 0)]) (r_isIn_f l D cI cZ cL v (-1000000) 1000000 (g)) gX6_value_X6_isIn rfl (by decide +kernel) ⟨Nat.le_of_ble_eq_true rfl, Nat.le_of_ble_eq_true rfl⟩ rfl rfl rfl (Nat.le_of_ble_eq_true rfl) dX6_value_14 ⟨Nat.le_refl _, Nat.le_refl _⟩ (fun r9 w9 h9 => ?_)
  obtain ⟨rfl, rfl⟩ := h9
  refine j_w (w' := mW a cI cZ n thr (nI fc) sp (nI cr) (nI ln) cx (nI jo) (nI wg) sh va (nf C) (nf fw) (nf fz) (nf fh) (nf G) di (nf B) ke (nf dO) (nf fr) (nf ma) (nf st) hf (nf wa) ra ag) rfl ?_
  refine j_st (st9 := [.int (nI 0), .ref (a 0)]) rfl ?_
  refine j_ifN_ne CX (by first | assumption | omega | exact b2n_lt _ | exact t2n_lt _) 24 dX6_value_17 (by decide) (fun h17 => absurd h17 (by decide)) (fun h17 => ?_)
  refine j_iconst CX dX6_value_20 (show _ = (nI 1 : Int32) by decide) ?_
  refine j_goto CX 25 dX6_value_21 (by decide) ?_
  refine j_put CX (w' := mW a cI cZ n (nI 1) (nI fc) sp (nI cr) (nI ln) cx (nI jo) (nI wg) sh va (nf C) (nf fw) (nf fz) (nf fh) (nf G) di (nf B) ke (nf dO) (nf fr) (nf ma) (nf st) hf (nf wa) ra ag) 0 0 dX6_value_25 rfl rfl hin6 tyX6 tyX6_ok nmX6 (by decide) hfl72 rfl rfl rfl rfl (Nat.le_of_ble_eq_true rfl) rfl ?_
  refine j_aload_n CX 0 dX6_value_28 rfl rfl ?_
  refine j_get CX 0 0 dX6_value_29 rfl rfl hin6 (by decide) hfl72 rfl ?_
  refine j_ifN_le CX (by first | assumption | omega | exact b2n_lt _ | exact t2n_lt _) 37 dX6_value_32 (by decide) (fun h32 => absurd h32 (by decide)) (fun h32 => ?_)
  refine j_iconst CX dX6_value_35 (show _ = (nI 0 : Int32) by decide) ?_
  exact j_iret CX hr hlocks dX6_value_36 (⟨rfl, rfl⟩)

abbrev rmX6_wall : Room := { frames := 1, cells := 0, slots := 0, locals := 22 }
set_option maxRecDepth 100000 in
set_option maxHeartbeats 4000000 in
theorem r_wall (l : Launch) (D : va_G) (cI cZ cL : ClassId) (a : Nat → Nat) (n : Nat) (thr : Int32) (fc : Nat) (sp : Int32) (cr ln : Nat) (cx : Int32) (jo wg : Nat) (sh va : Nat → Int32) (C fw fz fh G : Nat → Nat) (di : Nat → Int32) (B : Nat → Nat) (ke : Nat → Int32) (dO fr ma st : Nat → Nat) (hf : Nat → Int32) (wa : Nat → Nat) (ra ag : Nat → Int32) (z o v : Nat) (hn : n ≤ 24) (hz : z < n) (ho : o < n) (hzo : z ≠ o) (hv : v ≤ 100) : Cg l D cI cZ cL yX6_wall wsX6_wall rmX6_wall [.ref (a 0), .int (nI z), .int (nI o), .int (nI v)] (mW a cI cZ n thr (nI fc) sp (nI cr) (nI ln) cx (nI jo) (nI wg) sh va (nf C) (nf fw) (nf fz) (nf fh) (nf G) di (nf B) ke (nf dO) (nf fr) (nf ma) (nf st) hf (nf wa) ra ag) (fun r0 w0 => r0 = some (.int (sh (24 * z + o))) ∧ w0 = mW a cI cZ n (nI 0) (nI fc) sp (nI cr) (nI ln) cx (nI jo) (nI wg) (upd (upd sh (24 * z + o) (nI v)) (24 * o + z) (nI v)) va (nf C) (nf fw) (nf fz) (nf fh) (nf G) di (nf B) ke (nf dO) (nf fr) (nf ma) (nf st) hf (nf wa) ra ag) := by
  refine Cg.ofJ (own := RX6) (cc := cX6_wall) (maxL := 5) (ret := (some .int)) (by decide) rfl rfl (Nat.le_of_ble_eq_true rfl) ?_
  intro p e s m args below meth c A CX hr hlocks hname
  have hin6 : ∀ x ∈ u_ws RX6 TX6 27, x ∈ wsX6_wall := by decide +kernel
  have hfl72 : Cond.fieldLink RX6 72 (TX6 0).1 (TX6 0).2.1 (TX6 0).2.2.1 ∈ wsX6_wall := by decide +kernel
  have hfl7 : Cond.fieldLink RX6 7 (TX6 2).1 (TX6 2).2.1 (TX6 2).2.2.1 ∈ wsX6_wall := by decide +kernel
  show J p l e rmX6_wall s m args below meth c D A 5 0 0 (MQ below (jQc D (fun r0 w0 => r0 = some (.int (sh (24 * z + o))) ∧ w0 = mW a cI cZ n (nI 0) (nI fc) sp (nI cr) (nI ln) cx (nI jo) (nI wg) (upd (upd sh (24 * z + o) (nI v)) (24 * o + z) (nI v)) va (nf C) (nf fw) (nf fz) (nf fh) (nf G) di (nf B) ke (nf dO) (nf fr) (nf ma) (nf st) hf (nf wa) ra ag) A) args s rmX6_wall.cells rmX6_wall.slots A) (mW a cI cZ n thr (nI fc) sp (nI cr) (nI ln) cx (nI jo) (nI wg) sh va (nf C) (nf fw) (nf fz) (nf fh) (nf G) di (nf B) ke (nf dO) (nf fr) (nf ma) (nf st) hf (nf wa) ra ag) 0 [(0, .ref (a 0)), (1, .int (nI z)), (2, .int (nI o)), (3, .int (nI v))] []
  refine j_aload_n CX 0 dX6_wall_0 rfl rfl ?_
  refine j_aload_n CX 0 dX6_wall_1 rfl rfl ?_
  refine j_iload_n CX 1 dX6_wall_2 rfl rfl ?_
  refine j_callV CX (n := 1) (pre := []) (post := []) (rest := [.ref (a 0)]) (qc := (RX6, TX6, 27)) (r_nz_f l D cI cZ cL a n thr fc sp cr ln cx jo wg sh va C fw fz fh G di B ke dO fr ma st hf wa ra ag z hn (by omega)) gX6_wall_X6_noZone rfl (by decide +kernel) ⟨Nat.le_of_ble_eq_true rfl, Nat.le_of_ble_eq_true rfl⟩ rfl rfl rfl rfl rfl (Nat.le_of_ble_eq_true rfl) dX6_wall_3 ⟨Nat.le_refl _, Nat.le_refl _⟩ (fun r9 w9 h9 => ?_)
  obtain ⟨rfl, rfl⟩ := h9
  refine j_w (w' := mW a cI cZ n thr (nI fc) sp (nI cr) (nI ln) cx (nI jo) (nI wg) sh va (nf C) (nf fw) (nf fz) (nf fh) (nf G) di (nf B) ke (nf dO) (nf fr) (nf ma) (nf st) hf (nf wa) ra ag) rfl ?_
  refine j_st (st9 := [.int (nI 0), .ref (a 0)]) rfl ?_
  refine j_ifN_ne CX (by first | assumption | omega | exact b2n_lt _ | exact t2n_lt _) 32 dX6_wall_6 (by decide) (fun h6 => absurd h6 (by decide)) (fun h6 => ?_)
  refine j_aload_n CX 0 dX6_wall_9 rfl rfl ?_
  refine j_iload_n CX 2 dX6_wall_10 rfl rfl ?_
  refine j_callV CX (n := 1) (pre := []) (post := []) (rest := [.ref (a 0)]) (qc := (RX6, TX6, 27)) (r_nz_f l D cI cZ cL a n thr fc sp cr ln cx jo wg sh va C fw fz fh G di B ke dO fr ma st hf wa ra ag o hn (by omega)) gX6_wall_X6_noZone rfl (by decide +kernel) ⟨Nat.le_of_ble_eq_true rfl, Nat.le_of_ble_eq_true rfl⟩ rfl rfl rfl rfl rfl (Nat.le_of_ble_eq_true rfl) dX6_wall_11 ⟨Nat.le_refl _, Nat.le_refl _⟩ (fun r9 w9 h9 => ?_)
  obtain ⟨rfl, rfl⟩ := h9
  refine j_w (w' := mW a cI cZ n thr (nI fc) sp (nI cr) (nI ln) cx (nI jo) (nI wg) sh va (nf C) (nf fw) (nf fz) (nf fh) (nf G) di (nf B) ke (nf dO) (nf fr) (nf ma) (nf st) hf (nf wa) ra ag) rfl ?_
  refine j_st (st9 := [.int (nI 0), .ref (a 0)]) rfl ?_
  refine j_ifN_ne CX (by first | assumption | omega | exact b2n_lt _ | exact t2n_lt _) 32 dX6_wall_14 (by decide) (fun h14 => absurd h14 (by decide)) (fun h14 => ?_)
  refine j_iload_n CX 1 dX6_wall_17 rfl rfl ?_
  refine j_iload_n CX 2 dX6_wall_18 rfl rfl ?_
  refine j_icmpN_eq CX (by first | assumption | omega) (by first | assumption | omega | exact b2n_lt _ | exact t2n_lt _) 32 dX6_wall_19 (by decide) (fun h19 => ?_) (fun h19 => ?_)
  · exact absurd h19 hzo
  · refine j_iload_n CX 3 dX6_wall_22 rfl rfl ?_
    refine j_iconst CX dX6_wall_23 (show _ = (nI 0 : Int32) by decide) ?_
    refine j_bipush CX dX6_wall_24 (show _ = (nI 100 : Int32) by decide) ?_
    refine j_callS CX (n := 3) (b := 0) (pre := []) (post := mW a cI cZ n thr (nI fc) sp (nI cr) (nI ln) cx (nI jo) (nI wg) sh va (nf C) (nf fw) (nf fz) (nf fh) (nf G) di (nf B) ke (nf dO) (nf fr) (nf ma) (nf st) hf (nf wa) ra ag) (rest := [.ref (a 0)]) (r_isIn_t l D cI cZ cL (nI v) (nI 0) (nI 100) (nI_nlt (by omega) (by omega)) (nI_nlt (by omega) (by omega))) gX6_wall_X6_isIn rfl (by decide +kernel) ⟨Nat.le_of_ble_eq_true rfl, Nat.le_of_ble_eq_true rfl⟩ rfl rfl rfl (Nat.le_of_ble_eq_true rfl) dX6_wall_26 ⟨Nat.le_refl _, Nat.le_refl _⟩ (fun r9 w9 h9 => ?_)
    obtain ⟨rfl, rfl⟩ := h9
    refine j_w (w' := mW a cI cZ n thr (nI fc) sp (nI cr) (nI ln) cx (nI jo) (nI wg) sh va (nf C) (nf fw) (nf fz) (nf fh) (nf G) di (nf B) ke (nf dO) (nf fr) (nf ma) (nf st) hf (nf wa) ra ag) rfl ?_
    refine j_st (st9 := [.int (nI 1), .ref (a 0)]) rfl ?_
    refine j_ifN_ne CX (by first | assumption | omega | exact b2n_lt _ | exact t2n_lt _) 36 dX6_wall_29 (by decide) (fun h29 => ?_) (fun h29 => absurd h29 (by decide))
    refine j_iconst CX dX6_wall_36 (show _ = (nI 0 : Int32) by decide) ?_
    refine j_put CX (w' := mW a cI cZ n (nI 0) (nI fc) sp (nI cr) (nI ln) cx (nI jo) (nI wg) sh va (nf C) (nf fw) (nf fz) (nf fh) (nf G) di (nf B) ke (nf dO) (nf fr) (nf ma) (nf st) hf (nf wa) ra ag) 0 0 dX6_wall_37 rfl rfl hin6 tyX6 tyX6_ok nmX6 (by decide) hfl72 rfl rfl rfl rfl (Nat.le_of_ble_eq_true rfl) rfl ?_
    refine j_aload_n CX 0 dX6_wall_40 rfl rfl ?_
    refine j_get CX 0 0 dX6_wall_41 rfl rfl hin6 (by decide) hfl72 rfl ?_
    refine j_ifN_le CX (by first | assumption | omega | exact b2n_lt _ | exact t2n_lt _) 49 dX6_wall_44 (by decide) (fun h44 => ?_) (fun h44 => absurd h44 (by decide))
    refine j_aload_n CX 0 dX6_wall_49 rfl rfl ?_
    refine j_get CX 0 2 dX6_wall_50 rfl rfl hin6 (by decide) hfl7 rfl ?_
    refine j_bipush CX dX6_wall_53 (show _ = (nI 24 : Int32) by decide) ?_
    refine j_iload_n CX 1 dX6_wall_55 rfl rfl ?_
    refine j_imul CX dX6_wall_56 ?_
    refine j_top (show (nI 24) * (nI z) = nI (24 * z) from pk_mul _ _) ?_
    refine j_iload_n CX 2 dX6_wall_57 rfl rfl ?_
    refine j_iadd CX dX6_wall_58 ?_
    refine j_top (show (nI (24 * z)) + (nI o) = nI (24 * z + o) from nI_add _ _) ?_
    refine j_iald CX 1 (24 * z + o) dX6_wall_59 rfl (rfl) (by omega) (by decide) ?_
    refine j_istore CX (lv' := [(4, .int (sh (24 * z + o))), (0, .ref (a 0)), (1, .int (nI z)), (2, .int (nI o)), (3, .int (nI v))]) dX6_wall_60 (by decide) rfl ?_
    refine j_aload_n CX 1 dX6_wall_62 rfl rfl ?_
    refine j_get CX 0 2 dX6_wall_63 rfl rfl hin6 (by decide) hfl7 rfl ?_
    refine j_bipush CX dX6_wall_66 (show _ = (nI 24 : Int32) by decide) ?_
    refine j_iload_n CX 2 dX6_wall_68 rfl rfl ?_
    refine j_imul CX dX6_wall_69 ?_
    refine j_top (show (nI 24) * (nI z) = nI (24 * z) from pk_mul _ _) ?_
    refine j_iload_n CX 3 dX6_wall_70 rfl rfl ?_
    refine j_iadd CX dX6_wall_71 ?_
    refine j_top (show (nI (24 * z)) + (nI o) = nI (24 * z + o) from nI_add _ _) ?_
    refine j_iload_n CX 4 dX6_wall_72 rfl rfl ?_
    refine j_iast CX (w' := mW a cI cZ n (nI 0) (nI fc) sp (nI cr) (nI ln) cx (nI jo) (nI wg) (upd sh (24 * z + o) (nI v)) va (nf C) (nf fw) (nf fz) (nf fh) (nf G) di (nf B) ke (nf dO) (nf fr) (nf ma) (nf st) hf (nf wa) ra ag) 1 (24 * z + o) dX6_wall_73 rfl (rfl) (by omega) (by decide) rfl ?_
    refine j_aload_n CX 1 dX6_wall_74 rfl rfl ?_
    refine j_get CX 0 2 dX6_wall_75 rfl rfl hin6 (by decide) hfl7 rfl ?_
    refine j_bipush CX dX6_wall_78 (show _ = (nI 24 : Int32) by decide) ?_
    refine j_iload_n CX 3 dX6_wall_80 rfl rfl ?_
    refine j_imul CX dX6_wall_81 ?_
    refine j_top (show (nI 24) * (nI o) = nI (24 * o) from pk_mul _ _) ?_
    refine j_iload_n CX 2 dX6_wall_82 rfl rfl ?_
    refine j_iadd CX dX6_wall_83 ?_
    refine j_top (show (nI (24 * o)) + (nI z) = nI (24 * o + z) from nI_add _ _) ?_
    refine j_iload_n CX 4 dX6_wall_84 rfl rfl ?_
    refine j_iast CX (w' := mW a cI cZ n (nI 0) (nI fc) sp (nI cr) (nI ln) cx (nI jo) (nI wg) (upd (upd sh (24 * z + o) (nI v)) (24 * o + z) (nI v)) va (nf C) (nf fw) (nf fz) (nf fh) (nf G) di (nf B) ke (nf dO) (nf fr) (nf ma) (nf st) hf (nf wa) ra ag) 1 (24 * o + z) dX6_wall_85 rfl (rfl) (by omega) (by decide) rfl ?_
    refine j_iload CX 0 dX6_wall_86 rfl ?_
    exact j_iret CX hr hlocks dX6_wall_88 (⟨rfl, rfl⟩)

set_option maxRecDepth 100000 in
set_option maxHeartbeats 4000000 in
theorem r_wall_x1 (l : Launch) (D : va_G) (cI cZ cL : ClassId) (a : Nat → Nat) (n : Nat) (thr : Int32) (fc : Nat) (sp : Int32) (cr ln : Nat) (cx : Int32) (jo wg : Nat) (sh va : Nat → Int32) (C fw fz fh G : Nat → Nat) (di : Nat → Int32) (B : Nat → Nat) (ke : Nat → Int32) (dO fr ma st : Nat → Nat) (hf : Nat → Int32) (wa : Nat → Nat) (ra ag : Nat → Int32) (z o v : Int32) (g : z < 0 ∨ nI n ≤ z) : Cg l D cI cZ cL yX6_wall wsX6_wall rmX6_wall [.ref (a 0), .int z, .int o, .int v] (mW a cI cZ n thr (nI fc) sp (nI cr) (nI ln) cx (nI jo) (nI wg) sh va (nf C) (nf fw) (nf fz) (nf fh) (nf G) di (nf B) ke (nf dO) (nf fr) (nf ma) (nf st) hf (nf wa) ra ag) (fun r0 w0 => r0 = some (.int (nI 0)) ∧ w0 = mW a cI cZ n (nI 1) (nI fc) sp (nI cr) (nI ln) cx (nI jo) (nI wg) sh va (nf C) (nf fw) (nf fz) (nf fh) (nf G) di (nf B) ke (nf dO) (nf fr) (nf ma) (nf st) hf (nf wa) ra ag) := by
  refine Cg.ofJ (own := RX6) (cc := cX6_wall) (maxL := 5) (ret := (some .int)) (by decide) rfl rfl (Nat.le_of_ble_eq_true rfl) ?_
  intro p e s m args below meth c A CX hr hlocks hname
  have hin6 : ∀ x ∈ u_ws RX6 TX6 27, x ∈ wsX6_wall := by decide +kernel
  have hfl72 : Cond.fieldLink RX6 72 (TX6 0).1 (TX6 0).2.1 (TX6 0).2.2.1 ∈ wsX6_wall := by decide +kernel
  show J p l e rmX6_wall s m args below meth c D A 5 0 0 (MQ below (jQc D (fun r0 w0 => r0 = some (.int (nI 0)) ∧ w0 = mW a cI cZ n (nI 1) (nI fc) sp (nI cr) (nI ln) cx (nI jo) (nI wg) sh va (nf C) (nf fw) (nf fz) (nf fh) (nf G) di (nf B) ke (nf dO) (nf fr) (nf ma) (nf st) hf (nf wa) ra ag) A) args s rmX6_wall.cells rmX6_wall.slots A) (mW a cI cZ n thr (nI fc) sp (nI cr) (nI ln) cx (nI jo) (nI wg) sh va (nf C) (nf fw) (nf fz) (nf fh) (nf G) di (nf B) ke (nf dO) (nf fr) (nf ma) (nf st) hf (nf wa) ra ag) 0 [(0, .ref (a 0)), (1, .int z), (2, .int o), (3, .int v)] []
  refine j_aload_n CX 0 dX6_wall_0 rfl rfl ?_
  refine j_aload_n CX 0 dX6_wall_1 rfl rfl ?_
  refine j_iload_n CX 1 dX6_wall_2 rfl rfl ?_
  refine j_callV CX (n := 1) (pre := []) (post := []) (rest := [.ref (a 0)]) (qc := (RX6, TX6, 27)) (r_nz_t l D cI cZ cL a n thr fc sp cr ln cx jo wg sh va C fw fz fh G di B ke dO fr ma st hf wa ra ag z (g)) gX6_wall_X6_noZone rfl (by decide +kernel) ⟨Nat.le_of_ble_eq_true rfl, Nat.le_of_ble_eq_true rfl⟩ rfl rfl rfl rfl rfl (Nat.le_of_ble_eq_true rfl) dX6_wall_3 ⟨Nat.le_refl _, Nat.le_refl _⟩ (fun r9 w9 h9 => ?_)
  obtain ⟨rfl, rfl⟩ := h9
  refine j_w (w' := mW a cI cZ n thr (nI fc) sp (nI cr) (nI ln) cx (nI jo) (nI wg) sh va (nf C) (nf fw) (nf fz) (nf fh) (nf G) di (nf B) ke (nf dO) (nf fr) (nf ma) (nf st) hf (nf wa) ra ag) rfl ?_
  refine j_st (st9 := [.int (nI 1), .ref (a 0)]) rfl ?_
  refine j_ifN_ne CX (by first | assumption | omega | exact b2n_lt _ | exact t2n_lt _) 32 dX6_wall_6 (by decide) (fun h6 => ?_) (fun h6 => absurd h6 (by decide))
  refine j_iconst CX dX6_wall_32 (show _ = (nI 1 : Int32) by decide) ?_
  refine j_goto CX 37 dX6_wall_33 (by decide) ?_
  refine j_put CX (w' := mW a cI cZ n (nI 1) (nI fc) sp (nI cr) (nI ln) cx (nI jo) (nI wg) sh va (nf C) (nf fw) (nf fz) (nf fh) (nf G) di (nf B) ke (nf dO) (nf fr) (nf ma) (nf st) hf (nf wa) ra ag) 0 0 dX6_wall_37 rfl rfl hin6 tyX6 tyX6_ok nmX6 (by decide) hfl72 rfl rfl rfl rfl (Nat.le_of_ble_eq_true rfl) rfl ?_
  refine j_aload_n CX 0 dX6_wall_40 rfl rfl ?_
  refine j_get CX 0 0 dX6_wall_41 rfl rfl hin6 (by decide) hfl72 rfl ?_
  refine j_ifN_le CX (by first | assumption | omega | exact b2n_lt _ | exact t2n_lt _) 49 dX6_wall_44 (by decide) (fun h44 => absurd h44 (by decide)) (fun h44 => ?_)
  refine j_iconst CX dX6_wall_47 (show _ = (nI 0 : Int32) by decide) ?_
  exact j_iret CX hr hlocks dX6_wall_48 (⟨rfl, rfl⟩)

set_option maxRecDepth 100000 in
set_option maxHeartbeats 4000000 in
theorem r_wall_x2 (l : Launch) (D : va_G) (cI cZ cL : ClassId) (a : Nat → Nat) (n : Nat) (thr : Int32) (fc : Nat) (sp : Int32) (cr ln : Nat) (cx : Int32) (jo wg : Nat) (sh va : Nat → Int32) (C fw fz fh G : Nat → Nat) (di : Nat → Int32) (B : Nat → Nat) (ke : Nat → Int32) (dO fr ma st : Nat → Nat) (hf : Nat → Int32) (wa : Nat → Nat) (ra ag : Nat → Int32) (z : Nat) (o v : Int32) (hn : n ≤ 24) (hz : z < n) (g : o < 0 ∨ nI n ≤ o) : Cg l D cI cZ cL yX6_wall wsX6_wall rmX6_wall [.ref (a 0), .int (nI z), .int o, .int v] (mW a cI cZ n thr (nI fc) sp (nI cr) (nI ln) cx (nI jo) (nI wg) sh va (nf C) (nf fw) (nf fz) (nf fh) (nf G) di (nf B) ke (nf dO) (nf fr) (nf ma) (nf st) hf (nf wa) ra ag) (fun r0 w0 => r0 = some (.int (nI 0)) ∧ w0 = mW a cI cZ n (nI 1) (nI fc) sp (nI cr) (nI ln) cx (nI jo) (nI wg) sh va (nf C) (nf fw) (nf fz) (nf fh) (nf G) di (nf B) ke (nf dO) (nf fr) (nf ma) (nf st) hf (nf wa) ra ag) := by
  refine Cg.ofJ (own := RX6) (cc := cX6_wall) (maxL := 5) (ret := (some .int)) (by decide) rfl rfl (Nat.le_of_ble_eq_true rfl) ?_
  intro p e s m args below meth c A CX hr hlocks hname
  have hin6 : ∀ x ∈ u_ws RX6 TX6 27, x ∈ wsX6_wall := by decide +kernel
  have hfl72 : Cond.fieldLink RX6 72 (TX6 0).1 (TX6 0).2.1 (TX6 0).2.2.1 ∈ wsX6_wall := by decide +kernel
  show J p l e rmX6_wall s m args below meth c D A 5 0 0 (MQ below (jQc D (fun r0 w0 => r0 = some (.int (nI 0)) ∧ w0 = mW a cI cZ n (nI 1) (nI fc) sp (nI cr) (nI ln) cx (nI jo) (nI wg) sh va (nf C) (nf fw) (nf fz) (nf fh) (nf G) di (nf B) ke (nf dO) (nf fr) (nf ma) (nf st) hf (nf wa) ra ag) A) args s rmX6_wall.cells rmX6_wall.slots A) (mW a cI cZ n thr (nI fc) sp (nI cr) (nI ln) cx (nI jo) (nI wg) sh va (nf C) (nf fw) (nf fz) (nf fh) (nf G) di (nf B) ke (nf dO) (nf fr) (nf ma) (nf st) hf (nf wa) ra ag) 0 [(0, .ref (a 0)), (1, .int (nI z)), (2, .int o), (3, .int v)] []
  refine j_aload_n CX 0 dX6_wall_0 rfl rfl ?_
  refine j_aload_n CX 0 dX6_wall_1 rfl rfl ?_
  refine j_iload_n CX 1 dX6_wall_2 rfl rfl ?_
  refine j_callV CX (n := 1) (pre := []) (post := []) (rest := [.ref (a 0)]) (qc := (RX6, TX6, 27)) (r_nz_f l D cI cZ cL a n thr fc sp cr ln cx jo wg sh va C fw fz fh G di B ke dO fr ma st hf wa ra ag z hn (by omega)) gX6_wall_X6_noZone rfl (by decide +kernel) ⟨Nat.le_of_ble_eq_true rfl, Nat.le_of_ble_eq_true rfl⟩ rfl rfl rfl rfl rfl (Nat.le_of_ble_eq_true rfl) dX6_wall_3 ⟨Nat.le_refl _, Nat.le_refl _⟩ (fun r9 w9 h9 => ?_)
  obtain ⟨rfl, rfl⟩ := h9
  refine j_w (w' := mW a cI cZ n thr (nI fc) sp (nI cr) (nI ln) cx (nI jo) (nI wg) sh va (nf C) (nf fw) (nf fz) (nf fh) (nf G) di (nf B) ke (nf dO) (nf fr) (nf ma) (nf st) hf (nf wa) ra ag) rfl ?_
  refine j_st (st9 := [.int (nI 0), .ref (a 0)]) rfl ?_
  refine j_ifN_ne CX (by first | assumption | omega | exact b2n_lt _ | exact t2n_lt _) 32 dX6_wall_6 (by decide) (fun h6 => absurd h6 (by decide)) (fun h6 => ?_)
  refine j_aload_n CX 0 dX6_wall_9 rfl rfl ?_
  refine j_iload_n CX 2 dX6_wall_10 rfl rfl ?_
  refine j_callV CX (n := 1) (pre := []) (post := []) (rest := [.ref (a 0)]) (qc := (RX6, TX6, 27)) (r_nz_t l D cI cZ cL a n thr fc sp cr ln cx jo wg sh va C fw fz fh G di B ke dO fr ma st hf wa ra ag o (g)) gX6_wall_X6_noZone rfl (by decide +kernel) ⟨Nat.le_of_ble_eq_true rfl, Nat.le_of_ble_eq_true rfl⟩ rfl rfl rfl rfl rfl (Nat.le_of_ble_eq_true rfl) dX6_wall_11 ⟨Nat.le_refl _, Nat.le_refl _⟩ (fun r9 w9 h9 => ?_)
  obtain ⟨rfl, rfl⟩ := h9
  refine j_w (w' := mW a cI cZ n thr (nI fc) sp (nI cr) (nI ln) cx (nI jo) (nI wg) sh va (nf C) (nf fw) (nf fz) (nf fh) (nf G) di (nf B) ke (nf dO) (nf fr) (nf ma) (nf st) hf (nf wa) ra ag) rfl ?_
  refine j_st (st9 := [.int (nI 1), .ref (a 0)]) rfl ?_
  refine j_ifN_ne CX (by first | assumption | omega | exact b2n_lt _ | exact t2n_lt _) 32 dX6_wall_14 (by decide) (fun h14 => ?_) (fun h14 => absurd h14 (by decide))
  refine j_iconst CX dX6_wall_32 (show _ = (nI 1 : Int32) by decide) ?_
  refine j_goto CX 37 dX6_wall_33 (by decide) ?_
  refine j_put CX (w' := mW a cI cZ n (nI 1) (nI fc) sp (nI cr) (nI ln) cx (nI jo) (nI wg) sh va (nf C) (nf fw) (nf fz) (nf fh) (nf G) di (nf B) ke (nf dO) (nf fr) (nf ma) (nf st) hf (nf wa) ra ag) 0 0 dX6_wall_37 rfl rfl hin6 tyX6 tyX6_ok nmX6 (by decide) hfl72 rfl rfl rfl rfl (Nat.le_of_ble_eq_true rfl) rfl ?_
  refine j_aload_n CX 0 dX6_wall_40 rfl rfl ?_
  refine j_get CX 0 0 dX6_wall_41 rfl rfl hin6 (by decide) hfl72 rfl ?_
  refine j_ifN_le CX (by first | assumption | omega | exact b2n_lt _ | exact t2n_lt _) 49 dX6_wall_44 (by decide) (fun h44 => absurd h44 (by decide)) (fun h44 => ?_)
  refine j_iconst CX dX6_wall_47 (show _ = (nI 0 : Int32) by decide) ?_
  exact j_iret CX hr hlocks dX6_wall_48 (⟨rfl, rfl⟩)

set_option maxRecDepth 100000 in
set_option maxHeartbeats 4000000 in
theorem r_wall_x3 (l : Launch) (D : va_G) (cI cZ cL : ClassId) (a : Nat → Nat) (n : Nat) (thr : Int32) (fc : Nat) (sp : Int32) (cr ln : Nat) (cx : Int32) (jo wg : Nat) (sh va : Nat → Int32) (C fw fz fh G : Nat → Nat) (di : Nat → Int32) (B : Nat → Nat) (ke : Nat → Int32) (dO fr ma st : Nat → Nat) (hf : Nat → Int32) (wa : Nat → Nat) (ra ag : Nat → Int32) (z : Nat) (v : Int32) (hn : n ≤ 24) (hz : z < n) : Cg l D cI cZ cL yX6_wall wsX6_wall rmX6_wall [.ref (a 0), .int (nI z), .int (nI z), .int v] (mW a cI cZ n thr (nI fc) sp (nI cr) (nI ln) cx (nI jo) (nI wg) sh va (nf C) (nf fw) (nf fz) (nf fh) (nf G) di (nf B) ke (nf dO) (nf fr) (nf ma) (nf st) hf (nf wa) ra ag) (fun r0 w0 => r0 = some (.int (nI 0)) ∧ w0 = mW a cI cZ n (nI 1) (nI fc) sp (nI cr) (nI ln) cx (nI jo) (nI wg) sh va (nf C) (nf fw) (nf fz) (nf fh) (nf G) di (nf B) ke (nf dO) (nf fr) (nf ma) (nf st) hf (nf wa) ra ag) := by
  refine Cg.ofJ (own := RX6) (cc := cX6_wall) (maxL := 5) (ret := (some .int)) (by decide) rfl rfl (Nat.le_of_ble_eq_true rfl) ?_
  intro p e s m args below meth c A CX hr hlocks hname
  have hin6 : ∀ x ∈ u_ws RX6 TX6 27, x ∈ wsX6_wall := by decide +kernel
  have hfl72 : Cond.fieldLink RX6 72 (TX6 0).1 (TX6 0).2.1 (TX6 0).2.2.1 ∈ wsX6_wall := by decide +kernel
  show J p l e rmX6_wall s m args below meth c D A 5 0 0 (MQ below (jQc D (fun r0 w0 => r0 = some (.int (nI 0)) ∧ w0 = mW a cI cZ n (nI 1) (nI fc) sp (nI cr) (nI ln) cx (nI jo) (nI wg) sh va (nf C) (nf fw) (nf fz) (nf fh) (nf G) di (nf B) ke (nf dO) (nf fr) (nf ma) (nf st) hf (nf wa) ra ag) A) args s rmX6_wall.cells rmX6_wall.slots A) (mW a cI cZ n thr (nI fc) sp (nI cr) (nI ln) cx (nI jo) (nI wg) sh va (nf C) (nf fw) (nf fz) (nf fh) (nf G) di (nf B) ke (nf dO) (nf fr) (nf ma) (nf st) hf (nf wa) ra ag) 0 [(0, .ref (a 0)), (1, .int (nI z)), (2, .int (nI z)), (3, .int v)] []
  refine j_aload_n CX 0 dX6_wall_0 rfl rfl ?_
  refine j_aload_n CX 0 dX6_wall_1 rfl rfl ?_
  refine j_iload_n CX 1 dX6_wall_2 rfl rfl ?_
  refine j_callV CX (n := 1) (pre := []) (post := []) (rest := [.ref (a 0)]) (qc := (RX6, TX6, 27)) (r_nz_f l D cI cZ cL a n thr fc sp cr ln cx jo wg sh va C fw fz fh G di B ke dO fr ma st hf wa ra ag z hn (by omega)) gX6_wall_X6_noZone rfl (by decide +kernel) ⟨Nat.le_of_ble_eq_true rfl, Nat.le_of_ble_eq_true rfl⟩ rfl rfl rfl rfl rfl (Nat.le_of_ble_eq_true rfl) dX6_wall_3 ⟨Nat.le_refl _, Nat.le_refl _⟩ (fun r9 w9 h9 => ?_)
  obtain ⟨rfl, rfl⟩ := h9
  refine j_w (w' := mW a cI cZ n thr (nI fc) sp (nI cr) (nI ln) cx (nI jo) (nI wg) sh va (nf C) (nf fw) (nf fz) (nf fh) (nf G) di (nf B) ke (nf dO) (nf fr) (nf ma) (nf st) hf (nf wa) ra ag) rfl ?_
  refine j_st (st9 := [.int (nI 0), .ref (a 0)]) rfl ?_
  refine j_ifN_ne CX (by first | assumption | omega | exact b2n_lt _ | exact t2n_lt _) 32 dX6_wall_6 (by decide) (fun h6 => absurd h6 (by decide)) (fun h6 => ?_)
  refine j_aload_n CX 0 dX6_wall_9 rfl rfl ?_
  refine j_iload_n CX 2 dX6_wall_10 rfl rfl ?_
  refine j_callV CX (n := 1) (pre := []) (post := []) (rest := [.ref (a 0)]) (qc := (RX6, TX6, 27)) (r_nz_f l D cI cZ cL a n thr fc sp cr ln cx jo wg sh va C fw fz fh G di B ke dO fr ma st hf wa ra ag z hn (by omega)) gX6_wall_X6_noZone rfl (by decide +kernel) ⟨Nat.le_of_ble_eq_true rfl, Nat.le_of_ble_eq_true rfl⟩ rfl rfl rfl rfl rfl (Nat.le_of_ble_eq_true rfl) dX6_wall_11 ⟨Nat.le_refl _, Nat.le_refl _⟩ (fun r9 w9 h9 => ?_)
  obtain ⟨rfl, rfl⟩ := h9
  refine j_w (w' := mW a cI cZ n thr (nI fc) sp (nI cr) (nI ln) cx (nI jo) (nI wg) sh va (nf C) (nf fw) (nf fz) (nf fh) (nf G) di (nf B) ke (nf dO) (nf fr) (nf ma) (nf st) hf (nf wa) ra ag) rfl ?_
  refine j_st (st9 := [.int (nI 0), .ref (a 0)]) rfl ?_
  refine j_ifN_ne CX (by first | assumption | omega | exact b2n_lt _ | exact t2n_lt _) 32 dX6_wall_14 (by decide) (fun h14 => absurd h14 (by decide)) (fun h14 => ?_)
  refine j_iload_n CX 1 dX6_wall_17 rfl rfl ?_
  refine j_iload_n CX 2 dX6_wall_18 rfl rfl ?_
  refine j_icmpN_eq CX (by first | assumption | omega) (by first | assumption | omega | exact b2n_lt _ | exact t2n_lt _) 32 dX6_wall_19 (by decide) (fun h19 => ?_) (fun h19 => ?_)
  · refine j_iconst CX dX6_wall_32 (show _ = (nI 1 : Int32) by decide) ?_
    refine j_goto CX 37 dX6_wall_33 (by decide) ?_
    refine j_put CX (w' := mW a cI cZ n (nI 1) (nI fc) sp (nI cr) (nI ln) cx (nI jo) (nI wg) sh va (nf C) (nf fw) (nf fz) (nf fh) (nf G) di (nf B) ke (nf dO) (nf fr) (nf ma) (nf st) hf (nf wa) ra ag) 0 0 dX6_wall_37 rfl rfl hin6 tyX6 tyX6_ok nmX6 (by decide) hfl72 rfl rfl rfl rfl (Nat.le_of_ble_eq_true rfl) rfl ?_
    refine j_aload_n CX 0 dX6_wall_40 rfl rfl ?_
    refine j_get CX 0 0 dX6_wall_41 rfl rfl hin6 (by decide) hfl72 rfl ?_
    refine j_ifN_le CX (by first | assumption | omega | exact b2n_lt _ | exact t2n_lt _) 49 dX6_wall_44 (by decide) (fun h44 => absurd h44 (by decide)) (fun h44 => ?_)
    refine j_iconst CX dX6_wall_47 (show _ = (nI 0 : Int32) by decide) ?_
    exact j_iret CX hr hlocks dX6_wall_48 (⟨rfl, rfl⟩)
  · exact absurd rfl h19

set_option maxRecDepth 100000 in
set_option maxHeartbeats 4000000 in
theorem r_wall_x4 (l : Launch) (D : va_G) (cI cZ cL : ClassId) (a : Nat → Nat) (n : Nat) (thr : Int32) (fc : Nat) (sp : Int32) (cr ln : Nat) (cx : Int32) (jo wg : Nat) (sh va : Nat → Int32) (C fw fz fh G : Nat → Nat) (di : Nat → Int32) (B : Nat → Nat) (ke : Nat → Int32) (dO fr ma st : Nat → Nat) (hf : Nat → Int32) (wa : Nat → Nat) (ra ag : Nat → Int32) (z o : Nat) (v : Int32) (hn : n ≤ 24) (hz : z < n) (ho : o < n) (hzo : z ≠ o) (g : v < nI 0 ∨ nI 100 < v) : Cg l D cI cZ cL yX6_wall wsX6_wall rmX6_wall [.ref (a 0), .int (nI z), .int (nI o), .int v] (mW a cI cZ n thr (nI fc) sp (nI cr) (nI ln) cx (nI jo) (nI wg) sh va (nf C) (nf fw) (nf fz) (nf fh) (nf G) di (nf B) ke (nf dO) (nf fr) (nf ma) (nf st) hf (nf wa) ra ag) (fun r0 w0 => r0 = some (.int (nI 0)) ∧ w0 = mW a cI cZ n (nI 1) (nI fc) sp (nI cr) (nI ln) cx (nI jo) (nI wg) sh va (nf C) (nf fw) (nf fz) (nf fh) (nf G) di (nf B) ke (nf dO) (nf fr) (nf ma) (nf st) hf (nf wa) ra ag) := by
  refine Cg.ofJ (own := RX6) (cc := cX6_wall) (maxL := 5) (ret := (some .int)) (by decide) rfl rfl (Nat.le_of_ble_eq_true rfl) ?_
  intro p e s m args below meth c A CX hr hlocks hname
  have hin6 : ∀ x ∈ u_ws RX6 TX6 27, x ∈ wsX6_wall := by decide +kernel
  have hfl72 : Cond.fieldLink RX6 72 (TX6 0).1 (TX6 0).2.1 (TX6 0).2.2.1 ∈ wsX6_wall := by decide +kernel
  show J p l e rmX6_wall s m args below meth c D A 5 0 0 (MQ below (jQc D (fun r0 w0 => r0 = some (.int (nI 0)) ∧ w0 = mW a cI cZ n (nI 1) (nI fc) sp (nI cr) (nI ln) cx (nI jo) (nI wg) sh va (nf C) (nf fw) (nf fz) (nf fh) (nf G) di (nf B) ke (nf dO) (nf fr) (nf ma) (nf st) hf (nf wa) ra ag) A) args s rmX6_wall.cells rmX6_wall.slots A) (mW a cI cZ n thr (nI fc) sp (nI cr) (nI ln) cx (nI jo) (nI wg) sh va (nf C) (nf fw) (nf fz) (nf fh) (nf G) di (nf B) ke (nf dO) (nf fr) (nf ma) (nf st) hf (nf wa) ra ag) 0 [(0, .ref (a 0)), (1, .int (nI z)), (2, .int (nI o)), (3, .int v)] []
  refine j_aload_n CX 0 dX6_wall_0 rfl rfl ?_
  refine j_aload_n CX 0 dX6_wall_1 rfl rfl ?_
  refine j_iload_n CX 1 dX6_wall_2 rfl rfl ?_
  refine j_callV CX (n := 1) (pre := []) (post := []) (rest := [.ref (a 0)]) (qc := (RX6, TX6, 27)) (r_nz_f l D cI cZ cL a n thr fc sp cr ln cx jo wg sh va C fw fz fh G di B ke dO fr ma st hf wa ra ag z hn (by omega)) gX6_wall_X6_noZone rfl (by decide +kernel) ⟨Nat.le_of_ble_eq_true rfl, Nat.le_of_ble_eq_true rfl⟩ rfl rfl rfl rfl rfl (Nat.le_of_ble_eq_true rfl) dX6_wall_3 ⟨Nat.le_refl _, Nat.le_refl _⟩ (fun r9 w9 h9 => ?_)
  obtain ⟨rfl, rfl⟩ := h9
  refine j_w (w' := mW a cI cZ n thr (nI fc) sp (nI cr) (nI ln) cx (nI jo) (nI wg) sh va (nf C) (nf fw) (nf fz) (nf fh) (nf G) di (nf B) ke (nf dO) (nf fr) (nf ma) (nf st) hf (nf wa) ra ag) rfl ?_
  refine j_st (st9 := [.int (nI 0), .ref (a 0)]) rfl ?_
  refine j_ifN_ne CX (by first | assumption | omega | exact b2n_lt _ | exact t2n_lt _) 32 dX6_wall_6 (by decide) (fun h6 => absurd h6 (by decide)) (fun h6 => ?_)
  refine j_aload_n CX 0 dX6_wall_9 rfl rfl ?_
  refine j_iload_n CX 2 dX6_wall_10 rfl rfl ?_
  refine j_callV CX (n := 1) (pre := []) (post := []) (rest := [.ref (a 0)]) (qc := (RX6, TX6, 27)) (r_nz_f l D cI cZ cL a n thr fc sp cr ln cx jo wg sh va C fw fz fh G di B ke dO fr ma st hf wa ra ag o hn (by omega)) gX6_wall_X6_noZone rfl (by decide +kernel) ⟨Nat.le_of_ble_eq_true rfl, Nat.le_of_ble_eq_true rfl⟩ rfl rfl rfl rfl rfl (Nat.le_of_ble_eq_true rfl) dX6_wall_11 ⟨Nat.le_refl _, Nat.le_refl _⟩ (fun r9 w9 h9 => ?_)
  obtain ⟨rfl, rfl⟩ := h9
  refine j_w (w' := mW a cI cZ n thr (nI fc) sp (nI cr) (nI ln) cx (nI jo) (nI wg) sh va (nf C) (nf fw) (nf fz) (nf fh) (nf G) di (nf B) ke (nf dO) (nf fr) (nf ma) (nf st) hf (nf wa) ra ag) rfl ?_
  refine j_st (st9 := [.int (nI 0), .ref (a 0)]) rfl ?_
  refine j_ifN_ne CX (by first | assumption | omega | exact b2n_lt _ | exact t2n_lt _) 32 dX6_wall_14 (by decide) (fun h14 => absurd h14 (by decide)) (fun h14 => ?_)
  refine j_iload_n CX 1 dX6_wall_17 rfl rfl ?_
  refine j_iload_n CX 2 dX6_wall_18 rfl rfl ?_
  refine j_icmpN_eq CX (by first | assumption | omega) (by first | assumption | omega | exact b2n_lt _ | exact t2n_lt _) 32 dX6_wall_19 (by decide) (fun h19 => ?_) (fun h19 => ?_)
  · exact absurd h19 hzo
  · refine j_iload_n CX 3 dX6_wall_22 rfl rfl ?_
    refine j_iconst CX dX6_wall_23 (show _ = (nI 0 : Int32) by decide) ?_
    refine j_bipush CX dX6_wall_24 (show _ = (nI 100 : Int32) by decide) ?_
    refine j_callS CX (n := 3) (b := 0) (pre := []) (post := mW a cI cZ n thr (nI fc) sp (nI cr) (nI ln) cx (nI jo) (nI wg) sh va (nf C) (nf fw) (nf fz) (nf fh) (nf G) di (nf B) ke (nf dO) (nf fr) (nf ma) (nf st) hf (nf wa) ra ag) (rest := [.ref (a 0)]) (r_isIn_f l D cI cZ cL v (nI 0) (nI 100) (g)) gX6_wall_X6_isIn rfl (by decide +kernel) ⟨Nat.le_of_ble_eq_true rfl, Nat.le_of_ble_eq_true rfl⟩ rfl rfl rfl (Nat.le_of_ble_eq_true rfl) dX6_wall_26 ⟨Nat.le_refl _, Nat.le_refl _⟩ (fun r9 w9 h9 => ?_)
    obtain ⟨rfl, rfl⟩ := h9
    refine j_w (w' := mW a cI cZ n thr (nI fc) sp (nI cr) (nI ln) cx (nI jo) (nI wg) sh va (nf C) (nf fw) (nf fz) (nf fh) (nf G) di (nf B) ke (nf dO) (nf fr) (nf ma) (nf st) hf (nf wa) ra ag) rfl ?_
    refine j_st (st9 := [.int (nI 0), .ref (a 0)]) rfl ?_
    refine j_ifN_ne CX (by first | assumption | omega | exact b2n_lt _ | exact t2n_lt _) 36 dX6_wall_29 (by decide) (fun h29 => absurd h29 (by decide)) (fun h29 => ?_)
    refine j_iconst CX dX6_wall_32 (show _ = (nI 1 : Int32) by decide) ?_
    refine j_goto CX 37 dX6_wall_33 (by decide) ?_
    refine j_put CX (w' := mW a cI cZ n (nI 1) (nI fc) sp (nI cr) (nI ln) cx (nI jo) (nI wg) sh va (nf C) (nf fw) (nf fz) (nf fh) (nf G) di (nf B) ke (nf dO) (nf fr) (nf ma) (nf st) hf (nf wa) ra ag) 0 0 dX6_wall_37 rfl rfl hin6 tyX6 tyX6_ok nmX6 (by decide) hfl72 rfl rfl rfl rfl (Nat.le_of_ble_eq_true rfl) rfl ?_
    refine j_aload_n CX 0 dX6_wall_40 rfl rfl ?_
    refine j_get CX 0 0 dX6_wall_41 rfl rfl hin6 (by decide) hfl72 rfl ?_
    refine j_ifN_le CX (by first | assumption | omega | exact b2n_lt _ | exact t2n_lt _) 49 dX6_wall_44 (by decide) (fun h44 => absurd h44 (by decide)) (fun h44 => ?_)
    refine j_iconst CX dX6_wall_47 (show _ = (nI 0 : Int32) by decide) ?_
    exact j_iret CX hr hlocks dX6_wall_48 (⟨rfl, rfl⟩)

abbrev rmX6_stops : Room := { frames := 1, cells := 0, slots := 0, locals := 22 }
set_option maxRecDepth 100000 in
set_option maxHeartbeats 4000000 in
theorem r_stops (l : Launch) (D : va_G) (cI cZ cL : ClassId) (a : Nat → Nat) (n : Nat) (thr : Int32) (fc : Nat) (sp : Int32) (cr ln : Nat) (cx : Int32) (jo wg : Nat) (sh va : Nat → Int32) (C fw fz fh G : Nat → Nat) (di : Nat → Int32) (B : Nat → Nat) (ke : Nat → Int32) (dO fr ma st : Nat → Nat) (hf : Nat → Int32) (wa : Nat → Nat) (ra ag : Nat → Int32) (v : Nat) (hv : v ≤ 999) : Cg l D cI cZ cL yX6_stops wsX6_stops rmX6_stops [.ref (a 0), .int (nI v)] (mW a cI cZ n thr (nI fc) sp (nI cr) (nI ln) cx (nI jo) (nI wg) sh va (nf C) (nf fw) (nf fz) (nf fh) (nf G) di (nf B) ke (nf dO) (nf fr) (nf ma) (nf st) hf (nf wa) ra ag) (fun r0 w0 => r0 = some (.int sp) ∧ w0 = mW a cI cZ n (nI 0) (nI fc) (nI v) (nI cr) (nI ln) cx (nI jo) (nI wg) sh va (nf C) (nf fw) (nf fz) (nf fh) (nf G) di (nf B) ke (nf dO) (nf fr) (nf ma) (nf st) hf (nf wa) ra ag) := by
  refine Cg.ofJ (own := RX6) (cc := cX6_stops) (maxL := 3) (ret := (some .int)) (by decide) rfl rfl (Nat.le_of_ble_eq_true rfl) ?_
  intro p e s m args below meth c A CX hr hlocks hname
  have hin6 : ∀ x ∈ u_ws RX6 TX6 27, x ∈ wsX6_stops := by decide +kernel
  have hfl72 : Cond.fieldLink RX6 72 (TX6 0).1 (TX6 0).2.1 (TX6 0).2.2.1 ∈ wsX6_stops := by decide +kernel
  have hfl28 : Cond.fieldLink RX6 28 (TX6 9).1 (TX6 9).2.1 (TX6 9).2.2.1 ∈ wsX6_stops := by decide +kernel
  show J p l e rmX6_stops s m args below meth c D A 3 0 0 (MQ below (jQc D (fun r0 w0 => r0 = some (.int sp) ∧ w0 = mW a cI cZ n (nI 0) (nI fc) (nI v) (nI cr) (nI ln) cx (nI jo) (nI wg) sh va (nf C) (nf fw) (nf fz) (nf fh) (nf G) di (nf B) ke (nf dO) (nf fr) (nf ma) (nf st) hf (nf wa) ra ag) A) args s rmX6_stops.cells rmX6_stops.slots A) (mW a cI cZ n thr (nI fc) sp (nI cr) (nI ln) cx (nI jo) (nI wg) sh va (nf C) (nf fw) (nf fz) (nf fh) (nf G) di (nf B) ke (nf dO) (nf fr) (nf ma) (nf st) hf (nf wa) ra ag) 0 [(0, .ref (a 0)), (1, .int (nI v))] []
  refine j_aload_n CX 0 dX6_stops_0 rfl rfl ?_
  refine j_iload_n CX 1 dX6_stops_1 rfl rfl ?_
  refine j_iconst CX dX6_stops_2 (show _ = ((-1) : Int32) by decide) ?_
  refine j_icmp_eq CX 17 dX6_stops_3 (by decide) (fun h3 => absurd h3 (nI_nm1 (by first | assumption | omega))) (fun h3 => ?_)
  refine j_iload_n CX 1 dX6_stops_6 rfl rfl ?_
  refine j_iconst CX dX6_stops_7 (show _ = (nI 0 : Int32) by decide) ?_
  refine j_sipush CX dX6_stops_8 (show _ = (nI 999 : Int32) by decide) ?_
  refine j_callS CX (n := 3) (b := 0) (pre := []) (post := mW a cI cZ n thr (nI fc) sp (nI cr) (nI ln) cx (nI jo) (nI wg) sh va (nf C) (nf fw) (nf fz) (nf fh) (nf G) di (nf B) ke (nf dO) (nf fr) (nf ma) (nf st) hf (nf wa) ra ag) (rest := [.ref (a 0)]) (r_isIn_t l D cI cZ cL (nI v) (nI 0) (nI 999) (nI_nlt (by omega) (by omega)) (nI_nlt (by omega) (by omega))) gX6_stops_X6_isIn rfl (by decide +kernel) ⟨Nat.le_of_ble_eq_true rfl, Nat.le_of_ble_eq_true rfl⟩ rfl rfl rfl (Nat.le_of_ble_eq_true rfl) dX6_stops_11 ⟨Nat.le_refl _, Nat.le_refl _⟩ (fun r9 w9 h9 => ?_)
  obtain ⟨rfl, rfl⟩ := h9
  refine j_w (w' := mW a cI cZ n thr (nI fc) sp (nI cr) (nI ln) cx (nI jo) (nI wg) sh va (nf C) (nf fw) (nf fz) (nf fh) (nf G) di (nf B) ke (nf dO) (nf fr) (nf ma) (nf st) hf (nf wa) ra ag) rfl ?_
  refine j_st (st9 := [.int (nI 1), .ref (a 0)]) rfl ?_
  refine j_ifN_eq CX (by first | assumption | omega | exact b2n_lt _ | exact t2n_lt _) 21 dX6_stops_14 (by decide) (fun h14 => absurd h14 (by decide)) (fun h14 => ?_)
  refine j_iconst CX dX6_stops_17 (show _ = (nI 0 : Int32) by decide) ?_
  refine j_goto CX 22 dX6_stops_18 (by decide) ?_
  refine j_put CX (w' := mW a cI cZ n (nI 0) (nI fc) sp (nI cr) (nI ln) cx (nI jo) (nI wg) sh va (nf C) (nf fw) (nf fz) (nf fh) (nf G) di (nf B) ke (nf dO) (nf fr) (nf ma) (nf st) hf (nf wa) ra ag) 0 0 dX6_stops_22 rfl rfl hin6 tyX6 tyX6_ok nmX6 (by decide) hfl72 rfl rfl rfl rfl (Nat.le_of_ble_eq_true rfl) rfl ?_
  refine j_aload_n CX 0 dX6_stops_25 rfl rfl ?_
  refine j_get CX 0 0 dX6_stops_26 rfl rfl hin6 (by decide) hfl72 rfl ?_
  refine j_ifN_le CX (by first | assumption | omega | exact b2n_lt _ | exact t2n_lt _) 34 dX6_stops_29 (by decide) (fun h29 => ?_) (fun h29 => absurd h29 (by decide))
  refine j_aload_n CX 0 dX6_stops_34 rfl rfl ?_
  refine j_get CX 0 9 dX6_stops_35 rfl rfl hin6 (by decide) hfl28 rfl ?_
  refine j_istore_n CX (lv' := [(2, .int sp), (0, .ref (a 0)), (1, .int (nI v))]) dX6_stops_38 rfl (by decide) rfl ?_
  refine j_aload_n CX 1 dX6_stops_39 rfl rfl ?_
  refine j_iload_n CX 2 dX6_stops_40 rfl rfl ?_
  refine j_put CX (w' := mW a cI cZ n (nI 0) (nI fc) (nI v) (nI cr) (nI ln) cx (nI jo) (nI wg) sh va (nf C) (nf fw) (nf fz) (nf fh) (nf G) di (nf B) ke (nf dO) (nf fr) (nf ma) (nf st) hf (nf wa) ra ag) 0 9 dX6_stops_41 rfl rfl hin6 tyX6 tyX6_ok nmX6 (by decide) hfl28 rfl rfl rfl rfl (Nat.le_of_ble_eq_true rfl) rfl ?_
  refine j_iload_n CX 0 dX6_stops_44 rfl rfl ?_
  exact j_iret CX hr hlocks dX6_stops_45 (⟨rfl, rfl⟩)

set_option maxRecDepth 100000 in
set_option maxHeartbeats 4000000 in
theorem r_stopsN (l : Launch) (D : va_G) (cI cZ cL : ClassId) (a : Nat → Nat) (n : Nat) (thr : Int32) (fc : Nat) (sp : Int32) (cr ln : Nat) (cx : Int32) (jo wg : Nat) (sh va : Nat → Int32) (C fw fz fh G : Nat → Nat) (di : Nat → Int32) (B : Nat → Nat) (ke : Nat → Int32) (dO fr ma st : Nat → Nat) (hf : Nat → Int32) (wa : Nat → Nat) (ra ag : Nat → Int32)  : Cg l D cI cZ cL yX6_stops wsX6_stops rmX6_stops [.ref (a 0), .int (-1)] (mW a cI cZ n thr (nI fc) sp (nI cr) (nI ln) cx (nI jo) (nI wg) sh va (nf C) (nf fw) (nf fz) (nf fh) (nf G) di (nf B) ke (nf dO) (nf fr) (nf ma) (nf st) hf (nf wa) ra ag) (fun r0 w0 => r0 = some (.int sp) ∧ w0 = mW a cI cZ n (nI 0) (nI fc) (-1) (nI cr) (nI ln) cx (nI jo) (nI wg) sh va (nf C) (nf fw) (nf fz) (nf fh) (nf G) di (nf B) ke (nf dO) (nf fr) (nf ma) (nf st) hf (nf wa) ra ag) := by
  refine Cg.ofJ (own := RX6) (cc := cX6_stops) (maxL := 3) (ret := (some .int)) (by decide) rfl rfl (Nat.le_of_ble_eq_true rfl) ?_
  intro p e s m args below meth c A CX hr hlocks hname
  have hin6 : ∀ x ∈ u_ws RX6 TX6 27, x ∈ wsX6_stops := by decide +kernel
  have hfl72 : Cond.fieldLink RX6 72 (TX6 0).1 (TX6 0).2.1 (TX6 0).2.2.1 ∈ wsX6_stops := by decide +kernel
  have hfl28 : Cond.fieldLink RX6 28 (TX6 9).1 (TX6 9).2.1 (TX6 9).2.2.1 ∈ wsX6_stops := by decide +kernel
  show J p l e rmX6_stops s m args below meth c D A 3 0 0 (MQ below (jQc D (fun r0 w0 => r0 = some (.int sp) ∧ w0 = mW a cI cZ n (nI 0) (nI fc) (-1) (nI cr) (nI ln) cx (nI jo) (nI wg) sh va (nf C) (nf fw) (nf fz) (nf fh) (nf G) di (nf B) ke (nf dO) (nf fr) (nf ma) (nf st) hf (nf wa) ra ag) A) args s rmX6_stops.cells rmX6_stops.slots A) (mW a cI cZ n thr (nI fc) sp (nI cr) (nI ln) cx (nI jo) (nI wg) sh va (nf C) (nf fw) (nf fz) (nf fh) (nf G) di (nf B) ke (nf dO) (nf fr) (nf ma) (nf st) hf (nf wa) ra ag) 0 [(0, .ref (a 0)), (1, .int (-1))] []
  refine j_aload_n CX 0 dX6_stops_0 rfl rfl ?_
  refine j_iload_n CX 1 dX6_stops_1 rfl rfl ?_
  refine j_iconst CX dX6_stops_2 (show _ = ((-1) : Int32) by decide) ?_
  refine j_icmp_eq CX 17 dX6_stops_3 (by decide) (fun h3 => ?_) (fun h3 => absurd h3 (by decide))
  refine j_iconst CX dX6_stops_17 (show _ = (nI 0 : Int32) by decide) ?_
  refine j_goto CX 22 dX6_stops_18 (by decide) ?_
  refine j_put CX (w' := mW a cI cZ n (nI 0) (nI fc) sp (nI cr) (nI ln) cx (nI jo) (nI wg) sh va (nf C) (nf fw) (nf fz) (nf fh) (nf G) di (nf B) ke (nf dO) (nf fr) (nf ma) (nf st) hf (nf wa) ra ag) 0 0 dX6_stops_22 rfl rfl hin6 tyX6 tyX6_ok nmX6 (by decide) hfl72 rfl rfl rfl rfl (Nat.le_of_ble_eq_true rfl) rfl ?_
  refine j_aload_n CX 0 dX6_stops_25 rfl rfl ?_
  refine j_get CX 0 0 dX6_stops_26 rfl rfl hin6 (by decide) hfl72 rfl ?_
  refine j_ifN_le CX (by first | assumption | omega | exact b2n_lt _ | exact t2n_lt _) 34 dX6_stops_29 (by decide) (fun h29 => ?_) (fun h29 => absurd h29 (by decide))
  refine j_aload_n CX 0 dX6_stops_34 rfl rfl ?_
  refine j_get CX 0 9 dX6_stops_35 rfl rfl hin6 (by decide) hfl28 rfl ?_
  refine j_istore_n CX (lv' := [(2, .int sp), (0, .ref (a 0)), (1, .int (-1))]) dX6_stops_38 rfl (by decide) rfl ?_
  refine j_aload_n CX 1 dX6_stops_39 rfl rfl ?_
  refine j_iload_n CX 2 dX6_stops_40 rfl rfl ?_
  refine j_put CX (w' := mW a cI cZ n (nI 0) (nI fc) (-1) (nI cr) (nI ln) cx (nI jo) (nI wg) sh va (nf C) (nf fw) (nf fz) (nf fh) (nf G) di (nf B) ke (nf dO) (nf fr) (nf ma) (nf st) hf (nf wa) ra ag) 0 9 dX6_stops_41 rfl rfl hin6 tyX6 tyX6_ok nmX6 (by decide) hfl28 rfl rfl rfl rfl (Nat.le_of_ble_eq_true rfl) rfl ?_
  refine j_iload_n CX 0 dX6_stops_44 rfl rfl ?_
  exact j_iret CX hr hlocks dX6_stops_45 (⟨rfl, rfl⟩)

set_option maxRecDepth 100000 in
set_option maxHeartbeats 4000000 in
theorem r_stops_x (l : Launch) (D : va_G) (cI cZ cL : ClassId) (a : Nat → Nat) (n : Nat) (thr : Int32) (fc : Nat) (sp : Int32) (cr ln : Nat) (cx : Int32) (jo wg : Nat) (sh va : Nat → Int32) (C fw fz fh G : Nat → Nat) (di : Nat → Int32) (B : Nat → Nat) (ke : Nat → Int32) (dO fr ma st : Nat → Nat) (hf : Nat → Int32) (wa : Nat → Nat) (ra ag : Nat → Int32) (v : Int32) (hv : ¬ v = -1) (g : v < nI 0 ∨ nI 999 < v) : Cg l D cI cZ cL yX6_stops wsX6_stops rmX6_stops [.ref (a 0), .int v] (mW a cI cZ n thr (nI fc) sp (nI cr) (nI ln) cx (nI jo) (nI wg) sh va (nf C) (nf fw) (nf fz) (nf fh) (nf G) di (nf B) ke (nf dO) (nf fr) (nf ma) (nf st) hf (nf wa) ra ag) (fun r0 w0 => r0 = some (.int (nI 0)) ∧ w0 = mW a cI cZ n (nI 1) (nI fc) sp (nI cr) (nI ln) cx (nI jo) (nI wg) sh va (nf C) (nf fw) (nf fz) (nf fh) (nf G) di (nf B) ke (nf dO) (nf fr) (nf ma) (nf st) hf (nf wa) ra ag) := by
  refine Cg.ofJ (own := RX6) (cc := cX6_stops) (maxL := 3) (ret := (some .int)) (by decide) rfl rfl (Nat.le_of_ble_eq_true rfl) ?_
  intro p e s m args below meth c A CX hr hlocks hname
  have hin6 : ∀ x ∈ u_ws RX6 TX6 27, x ∈ wsX6_stops := by decide +kernel
  have hfl72 : Cond.fieldLink RX6 72 (TX6 0).1 (TX6 0).2.1 (TX6 0).2.2.1 ∈ wsX6_stops := by decide +kernel
  show J p l e rmX6_stops s m args below meth c D A 3 0 0 (MQ below (jQc D (fun r0 w0 => r0 = some (.int (nI 0)) ∧ w0 = mW a cI cZ n (nI 1) (nI fc) sp (nI cr) (nI ln) cx (nI jo) (nI wg) sh va (nf C) (nf fw) (nf fz) (nf fh) (nf G) di (nf B) ke (nf dO) (nf fr) (nf ma) (nf st) hf (nf wa) ra ag) A) args s rmX6_stops.cells rmX6_stops.slots A) (mW a cI cZ n thr (nI fc) sp (nI cr) (nI ln) cx (nI jo) (nI wg) sh va (nf C) (nf fw) (nf fz) (nf fh) (nf G) di (nf B) ke (nf dO) (nf fr) (nf ma) (nf st) hf (nf wa) ra ag) 0 [(0, .ref (a 0)), (1, .int v)] []
  refine j_aload_n CX 0 dX6_stops_0 rfl rfl ?_
  refine j_iload_n CX 1 dX6_stops_1 rfl rfl ?_
  refine j_iconst CX dX6_stops_2 (show _ = ((-1) : Int32) by decide) ?_
  refine j_icmp_eq CX 17 dX6_stops_3 (by decide) (fun h3 => ?_) (fun h3 => ?_)
  · exact absurd h3 hv
  · refine j_iload_n CX 1 dX6_stops_6 rfl rfl ?_
    refine j_iconst CX dX6_stops_7 (show _ = (nI 0 : Int32) by decide) ?_
    refine j_sipush CX dX6_stops_8 (show _ = (nI 999 : Int32) by decide) ?_
    refine j_callS CX (n := 3) (b := 0) (pre := []) (post := mW a cI cZ n thr (nI fc) sp (nI cr) (nI ln) cx (nI jo) (nI wg) sh va (nf C) (nf fw) (nf fz) (nf fh) (nf G) di (nf B) ke (nf dO) (nf fr) (nf ma) (nf st) hf (nf wa) ra ag) (rest := [.ref (a 0)]) (r_isIn_f l D cI cZ cL v (nI 0) (nI 999) (g)) gX6_stops_X6_isIn rfl (by decide +kernel) ⟨Nat.le_of_ble_eq_true rfl, Nat.le_of_ble_eq_true rfl⟩ rfl rfl rfl (Nat.le_of_ble_eq_true rfl) dX6_stops_11 ⟨Nat.le_refl _, Nat.le_refl _⟩ (fun r9 w9 h9 => ?_)
    obtain ⟨rfl, rfl⟩ := h9
    refine j_w (w' := mW a cI cZ n thr (nI fc) sp (nI cr) (nI ln) cx (nI jo) (nI wg) sh va (nf C) (nf fw) (nf fz) (nf fh) (nf G) di (nf B) ke (nf dO) (nf fr) (nf ma) (nf st) hf (nf wa) ra ag) rfl ?_
    refine j_st (st9 := [.int (nI 0), .ref (a 0)]) rfl ?_
    refine j_ifN_eq CX (by first | assumption | omega | exact b2n_lt _ | exact t2n_lt _) 21 dX6_stops_14 (by decide) (fun h14 => ?_) (fun h14 => absurd h14 (by decide))
    refine j_iconst CX dX6_stops_21 (show _ = (nI 1 : Int32) by decide) ?_
    refine j_put CX (w' := mW a cI cZ n (nI 1) (nI fc) sp (nI cr) (nI ln) cx (nI jo) (nI wg) sh va (nf C) (nf fw) (nf fz) (nf fh) (nf G) di (nf B) ke (nf dO) (nf fr) (nf ma) (nf st) hf (nf wa) ra ag) 0 0 dX6_stops_22 rfl rfl hin6 tyX6 tyX6_ok nmX6 (by decide) hfl72 rfl rfl rfl rfl (Nat.le_of_ble_eq_true rfl) rfl ?_
    refine j_aload_n CX 0 dX6_stops_25 rfl rfl ?_
    refine j_get CX 0 0 dX6_stops_26 rfl rfl hin6 (by decide) hfl72 rfl ?_
    refine j_ifN_le CX (by first | assumption | omega | exact b2n_lt _ | exact t2n_lt _) 34 dX6_stops_29 (by decide) (fun h29 => absurd h29 (by decide)) (fun h29 => ?_)
    refine j_iconst CX dX6_stops_32 (show _ = (nI 0 : Int32) by decide) ?_
    exact j_iret CX hr hlocks dX6_stops_33 (⟨rfl, rfl⟩)

abbrev rmX6_did : Room := { frames := 1, cells := 0, slots := 0, locals := 22 }
set_option maxRecDepth 100000 in
set_option maxHeartbeats 4000000 in
theorem r_did (l : Launch) (D : va_G) (cI cZ cL : ClassId) (a : Nat → Nat) (n : Nat) (thr : Int32) (fc : Nat) (sp : Int32) (cr ln : Nat) (cx : Int32) (jo wg : Nat) (sh va : Nat → Int32) (C fw fz fh G : Nat → Nat) (di : Nat → Int32) (B : Nat → Nat) (ke : Nat → Int32) (dO fr ma st : Nat → Nat) (hf : Nat → Int32) (wa : Nat → Nat) (ra ag : Nat → Int32) (w : Nat) (hw : w < 16) (hcr : cr ≤ 16) (hG : G w < 2 ^ 31) : Cg l D cI cZ cL yX6_did wsX6_did rmX6_did [.ref (a 0), .int (nI w)] (mW a cI cZ n thr (nI fc) sp (nI cr) (nI ln) cx (nI jo) (nI wg) sh va (nf C) (nf fw) (nf fz) (nf fh) (nf G) di (nf B) ke (nf dO) (nf fr) (nf ma) (nf st) hf (nf wa) ra ag) (fun r0 w0 => r0 = some (.int (if w < cr ∧ G w = 0 then di w else -1)) ∧ w0 = mW a cI cZ n (nI 0) (nI fc) sp (nI cr) (nI ln) cx (nI jo) (nI wg) sh va (nf C) (nf fw) (nf fz) (nf fh) (nf G) di (nf B) ke (nf dO) (nf fr) (nf ma) (nf st) hf (nf wa) ra ag) := by
  refine Cg.ofJ (own := RX6) (cc := cX6_did) (maxL := 2) (ret := (some .int)) (by decide) rfl rfl (Nat.le_of_ble_eq_true rfl) ?_
  intro p e s m args below meth c A CX hr hlocks hname
  have hin6 : ∀ x ∈ u_ws RX6 TX6 27, x ∈ wsX6_did := by decide +kernel
  have hfl72 : Cond.fieldLink RX6 72 (TX6 0).1 (TX6 0).2.1 (TX6 0).2.2.1 ∈ wsX6_did := by decide +kernel
  have hfl107 : Cond.fieldLink RX6 107 (TX6 10).1 (TX6 10).2.1 (TX6 10).2.2.1 ∈ wsX6_did := by decide +kernel
  have hfl32 : Cond.fieldLink RX6 32 (TX6 11).1 (TX6 11).2.1 (TX6 11).2.2.1 ∈ wsX6_did := by decide +kernel
  have hfl36 : Cond.fieldLink RX6 36 (TX6 12).1 (TX6 12).2.1 (TX6 12).2.2.1 ∈ wsX6_did := by decide +kernel
  show J p l e rmX6_did s m args below meth c D A 2 0 0 (MQ below (jQc D (fun r0 w0 => r0 = some (.int (if w < cr ∧ G w = 0 then di w else -1)) ∧ w0 = mW a cI cZ n (nI 0) (nI fc) sp (nI cr) (nI ln) cx (nI jo) (nI wg) sh va (nf C) (nf fw) (nf fz) (nf fh) (nf G) di (nf B) ke (nf dO) (nf fr) (nf ma) (nf st) hf (nf wa) ra ag) A) args s rmX6_did.cells rmX6_did.slots A) (mW a cI cZ n thr (nI fc) sp (nI cr) (nI ln) cx (nI jo) (nI wg) sh va (nf C) (nf fw) (nf fz) (nf fh) (nf G) di (nf B) ke (nf dO) (nf fr) (nf ma) (nf st) hf (nf wa) ra ag) 0 [(0, .ref (a 0)), (1, .int (nI w))] []
  refine j_aload_n CX 0 dX6_did_0 rfl rfl ?_
  refine j_iload_n CX 1 dX6_did_1 rfl rfl ?_
  refine j_iconst CX dX6_did_2 (show _ = (nI 0 : Int32) by decide) ?_
  refine j_bipush CX dX6_did_3 (show _ = (nI 15 : Int32) by decide) ?_
  refine j_callS CX (n := 3) (b := 0) (pre := []) (post := mW a cI cZ n thr (nI fc) sp (nI cr) (nI ln) cx (nI jo) (nI wg) sh va (nf C) (nf fw) (nf fz) (nf fh) (nf G) di (nf B) ke (nf dO) (nf fr) (nf ma) (nf st) hf (nf wa) ra ag) (rest := [.ref (a 0)]) (r_isIn_t l D cI cZ cL (nI w) (nI 0) (nI 15) (nI_nlt (by omega) (by omega)) (nI_nlt (by omega) (by omega))) gX6_did_X6_isIn rfl (by decide +kernel) ⟨Nat.le_of_ble_eq_true rfl, Nat.le_of_ble_eq_true rfl⟩ rfl rfl rfl (Nat.le_of_ble_eq_true rfl) dX6_did_5 ⟨Nat.le_refl _, Nat.le_refl _⟩ (fun r9 w9 h9 => ?_)
  obtain ⟨rfl, rfl⟩ := h9
  refine j_w (w' := mW a cI cZ n thr (nI fc) sp (nI cr) (nI ln) cx (nI jo) (nI wg) sh va (nf C) (nf fw) (nf fz) (nf fh) (nf G) di (nf B) ke (nf dO) (nf fr) (nf ma) (nf st) hf (nf wa) ra ag) rfl ?_
  refine j_st (st9 := [.int (nI 1), .ref (a 0)]) rfl ?_
  refine j_ifN_eq CX (by first | assumption | omega | exact b2n_lt _ | exact t2n_lt _) 15 dX6_did_8 (by decide) (fun h8 => absurd h8 (by decide)) (fun h8 => ?_)
  refine j_iconst CX dX6_did_11 (show _ = (nI 0 : Int32) by decide) ?_
  refine j_goto CX 16 dX6_did_12 (by decide) ?_
  refine j_put CX (w' := mW a cI cZ n (nI 0) (nI fc) sp (nI cr) (nI ln) cx (nI jo) (nI wg) sh va (nf C) (nf fw) (nf fz) (nf fh) (nf G) di (nf B) ke (nf dO) (nf fr) (nf ma) (nf st) hf (nf wa) ra ag) 0 0 dX6_did_16 rfl rfl hin6 tyX6 tyX6_ok nmX6 (by decide) hfl72 rfl rfl rfl rfl (Nat.le_of_ble_eq_true rfl) rfl ?_
  refine j_aload_n CX 0 dX6_did_19 rfl rfl ?_
  refine j_get CX 0 0 dX6_did_20 rfl rfl hin6 (by decide) hfl72 rfl ?_
  refine j_ifN_le CX (by first | assumption | omega | exact b2n_lt _ | exact t2n_lt _) 28 dX6_did_23 (by decide) (fun h23 => ?_) (fun h23 => absurd h23 (by decide))
  refine j_iload_n CX 1 dX6_did_28 rfl rfl ?_
  refine j_aload_n CX 0 dX6_did_29 rfl rfl ?_
  refine j_get CX 0 10 dX6_did_30 rfl rfl hin6 (by decide) hfl107 rfl ?_
  refine j_icmpN_ge CX (by first | assumption | omega) (by first | assumption | omega | exact b2n_lt _ | exact t2n_lt _) 45 dX6_did_33 (by decide) (fun h33 => ?_) (fun h33 => ?_)
  · refine j_iconst CX dX6_did_45 (show _ = ((-1) : Int32) by decide) ?_
    refine j_goto CX 55 dX6_did_46 (by decide) ?_
    exact j_iret CX hr hlocks dX6_did_55 (⟨by first | (rw [if_neg (fun q => absurd q.1 (by omega))]) | (rw [if_neg (fun q => absurd q.2 (by omega))]), rfl⟩)
  · refine j_aload_n CX 0 dX6_did_36 rfl rfl ?_
    refine j_get CX 0 11 dX6_did_37 rfl rfl hin6 (by decide) hfl32 rfl ?_
    refine j_iload_n CX 1 dX6_did_40 rfl rfl ?_
    refine j_zald CX 7 w dX6_did_41 rfl (rfl) (by first | assumption | omega) (by decide) ?_
    refine j_ifN_eq CX (by first | assumption | omega | exact b2n_lt _ | exact t2n_lt _) 49 dX6_did_42 (by decide) (fun h42 => ?_) (fun h42 => ?_)
    · refine j_aload_n CX 0 dX6_did_49 rfl rfl ?_
      refine j_get CX 0 12 dX6_did_50 rfl rfl hin6 (by decide) hfl36 rfl ?_
      refine j_iload_n CX 1 dX6_did_53 rfl rfl ?_
      refine j_iald CX 8 w dX6_did_54 rfl (rfl) (by first | assumption | omega) (by decide) ?_
      exact j_iret CX hr hlocks dX6_did_55 (⟨by rw [if_pos ⟨h33, h42⟩], rfl⟩)
    · refine j_iconst CX dX6_did_45 (show _ = ((-1) : Int32) by decide) ?_
      refine j_goto CX 55 dX6_did_46 (by decide) ?_
      exact j_iret CX hr hlocks dX6_did_55 (⟨by first | (rw [if_neg (fun q => absurd q.1 (by omega))]) | (rw [if_neg (fun q => absurd q.2 (by omega))]), rfl⟩)

set_option maxRecDepth 100000 in
set_option maxHeartbeats 4000000 in
theorem r_did_x (l : Launch) (D : va_G) (cI cZ cL : ClassId) (a : Nat → Nat) (n : Nat) (thr : Int32) (fc : Nat) (sp : Int32) (cr ln : Nat) (cx : Int32) (jo wg : Nat) (sh va : Nat → Int32) (C fw fz fh G : Nat → Nat) (di : Nat → Int32) (B : Nat → Nat) (ke : Nat → Int32) (dO fr ma st : Nat → Nat) (hf : Nat → Int32) (wa : Nat → Nat) (ra ag : Nat → Int32) (v : Int32) (g : v < nI 0 ∨ nI 15 < v) : Cg l D cI cZ cL yX6_did wsX6_did rmX6_did [.ref (a 0), .int v] (mW a cI cZ n thr (nI fc) sp (nI cr) (nI ln) cx (nI jo) (nI wg) sh va (nf C) (nf fw) (nf fz) (nf fh) (nf G) di (nf B) ke (nf dO) (nf fr) (nf ma) (nf st) hf (nf wa) ra ag) (fun r0 w0 => r0 = some (.int (nI 0)) ∧ w0 = mW a cI cZ n (nI 1) (nI fc) sp (nI cr) (nI ln) cx (nI jo) (nI wg) sh va (nf C) (nf fw) (nf fz) (nf fh) (nf G) di (nf B) ke (nf dO) (nf fr) (nf ma) (nf st) hf (nf wa) ra ag) := by
  refine Cg.ofJ (own := RX6) (cc := cX6_did) (maxL := 2) (ret := (some .int)) (by decide) rfl rfl (Nat.le_of_ble_eq_true rfl) ?_
  intro p e s m args below meth c A CX hr hlocks hname
  have hin6 : ∀ x ∈ u_ws RX6 TX6 27, x ∈ wsX6_did := by decide +kernel
  have hfl72 : Cond.fieldLink RX6 72 (TX6 0).1 (TX6 0).2.1 (TX6 0).2.2.1 ∈ wsX6_did := by decide +kernel
  show J p l e rmX6_did s m args below meth c D A 2 0 0 (MQ below (jQc D (fun r0 w0 => r0 = some (.int (nI 0)) ∧ w0 = mW a cI cZ n (nI 1) (nI fc) sp (nI cr) (nI ln) cx (nI jo) (nI wg) sh va (nf C) (nf fw) (nf fz) (nf fh) (nf G) di (nf B) ke (nf dO) (nf fr) (nf ma) (nf st) hf (nf wa) ra ag) A) args s rmX6_did.cells rmX6_did.slots A) (mW a cI cZ n thr (nI fc) sp (nI cr) (nI ln) cx (nI jo) (nI wg) sh va (nf C) (nf fw) (nf fz) (nf fh) (nf G) di (nf B) ke (nf dO) (nf fr) (nf ma) (nf st) hf (nf wa) ra ag) 0 [(0, .ref (a 0)), (1, .int v)] []
  refine j_aload_n CX 0 dX6_did_0 rfl rfl ?_
  refine j_iload_n CX 1 dX6_did_1 rfl rfl ?_
  refine j_iconst CX dX6_did_2 (show _ = (nI 0 : Int32) by decide) ?_
  refine j_bipush CX dX6_did_3 (show _ = (nI 15 : Int32) by decide) ?_
  refine j_callS CX (n := 3) (b := 0) (pre := []) (post := mW a cI cZ n thr (nI fc) sp (nI cr) (nI ln) cx (nI jo) (nI wg) sh va (nf C) (nf fw) (nf fz) (nf fh) (nf G) di (nf B) ke (nf dO) (nf fr) (nf ma) (nf st) hf (nf wa) ra ag) (rest := [.ref (a 0)]) (r_isIn_f l D cI cZ cL v (nI 0) (nI 15) (g)) gX6_did_X6_isIn rfl (by decide +kernel) ⟨Nat.le_of_ble_eq_true rfl, Nat.le_of_ble_eq_true rfl⟩ rfl rfl rfl (Nat.le_of_ble_eq_true rfl) dX6_did_5 ⟨Nat.le_refl _, Nat.le_refl _⟩ (fun r9 w9 h9 => ?_)
  obtain ⟨rfl, rfl⟩ := h9
  refine j_w (w' := mW a cI cZ n thr (nI fc) sp (nI cr) (nI ln) cx (nI jo) (nI wg) sh va (nf C) (nf fw) (nf fz) (nf fh) (nf G) di (nf B) ke (nf dO) (nf fr) (nf ma) (nf st) hf (nf wa) ra ag) rfl ?_
  refine j_st (st9 := [.int (nI 0), .ref (a 0)]) rfl ?_
  refine j_ifN_eq CX (by first | assumption | omega | exact b2n_lt _ | exact t2n_lt _) 15 dX6_did_8 (by decide) (fun h8 => ?_) (fun h8 => absurd h8 (by decide))
  refine j_iconst CX dX6_did_15 (show _ = (nI 1 : Int32) by decide) ?_
  refine j_put CX (w' := mW a cI cZ n (nI 1) (nI fc) sp (nI cr) (nI ln) cx (nI jo) (nI wg) sh va (nf C) (nf fw) (nf fz) (nf fh) (nf G) di (nf B) ke (nf dO) (nf fr) (nf ma) (nf st) hf (nf wa) ra ag) 0 0 dX6_did_16 rfl rfl hin6 tyX6 tyX6_ok nmX6 (by decide) hfl72 rfl rfl rfl rfl (Nat.le_of_ble_eq_true rfl) rfl ?_
  refine j_aload_n CX 0 dX6_did_19 rfl rfl ?_
  refine j_get CX 0 0 dX6_did_20 rfl rfl hin6 (by decide) hfl72 rfl ?_
  refine j_ifN_le CX (by first | assumption | omega | exact b2n_lt _ | exact t2n_lt _) 28 dX6_did_23 (by decide) (fun h23 => absurd h23 (by decide)) (fun h23 => ?_)
  refine j_iconst CX dX6_did_26 (show _ = (nI 0 : Int32) by decide) ?_
  exact j_iret CX hr hlocks dX6_did_27 (⟨rfl, rfl⟩)

abbrev rmX6_book : Room := { frames := 1, cells := 0, slots := 0, locals := 22 }
set_option maxRecDepth 100000 in
set_option maxHeartbeats 4000000 in
theorem r_bookN (l : Launch) (D : va_G) (cI cZ cL : ClassId) (a : Nat → Nat) (n : Nat) (thr : Int32) (fc : Nat) (sp : Int32) (cr ln : Nat) (cx : Int32) (jo wg : Nat) (sh va : Nat → Int32) (C fw fz fh G : Nat → Nat) (di : Nat → Int32) (B : Nat → Nat) (ke : Nat → Int32) (dO fr ma st : Nat → Nat) (hf : Nat → Int32) (wa : Nat → Nat) (ra ag : Nat → Int32) (q : Nat) (hq : q ≤ 3) : Cg l D cI cZ cL yX6_book wsX6_book rmX6_book [.ref (a 0), .int (-1), .int (nI q)] (mW a cI cZ n thr (nI fc) sp (nI cr) (nI ln) cx (nI jo) (nI wg) sh va (nf C) (nf fw) (nf fz) (nf fh) (nf G) di (nf B) ke (nf dO) (nf fr) (nf ma) (nf st) hf (nf wa) ra ag) (fun r0 w0 => r0 = some (.int (nI ln)) ∧ w0 = mW a cI cZ n (nI 0) (nI fc) sp (nI cr) (nI ln) cx (nI jo) (nI wg) sh va (nf C) (nf fw) (nf fz) (nf fh) (nf G) di (nf B) ke (nf dO) (nf fr) (nf ma) (nf st) hf (nf wa) ra ag) := by
  refine Cg.ofJ (own := RX6) (cc := cX6_book) (maxL := 4) (ret := (some .int)) (by decide) rfl rfl (Nat.le_of_ble_eq_true rfl) ?_
  intro p e s m args below meth c A CX hr hlocks hname
  have hin6 : ∀ x ∈ u_ws RX6 TX6 27, x ∈ wsX6_book := by decide +kernel
  have hfl72 : Cond.fieldLink RX6 72 (TX6 0).1 (TX6 0).2.1 (TX6 0).2.2.1 ∈ wsX6_book := by decide +kernel
  have hfl104 : Cond.fieldLink RX6 104 (TX6 13).1 (TX6 13).2.1 (TX6 13).2.2.1 ∈ wsX6_book := by decide +kernel
  show J p l e rmX6_book s m args below meth c D A 4 0 0 (MQ below (jQc D (fun r0 w0 => r0 = some (.int (nI ln)) ∧ w0 = mW a cI cZ n (nI 0) (nI fc) sp (nI cr) (nI ln) cx (nI jo) (nI wg) sh va (nf C) (nf fw) (nf fz) (nf fh) (nf G) di (nf B) ke (nf dO) (nf fr) (nf ma) (nf st) hf (nf wa) ra ag) A) args s rmX6_book.cells rmX6_book.slots A) (mW a cI cZ n thr (nI fc) sp (nI cr) (nI ln) cx (nI jo) (nI wg) sh va (nf C) (nf fw) (nf fz) (nf fh) (nf G) di (nf B) ke (nf dO) (nf fr) (nf ma) (nf st) hf (nf wa) ra ag) 0 [(0, .ref (a 0)), (1, .int (-1)), (2, .int (nI q))] []
  refine j_iload_n CX 2 dX6_book_0 rfl rfl ?_
  refine j_iconst CX dX6_book_1 (show _ = (nI 0 : Int32) by decide) ?_
  refine j_iconst CX dX6_book_2 (show _ = (nI 3 : Int32) by decide) ?_
  refine j_callS CX (n := 3) (b := 0) (pre := []) (post := mW a cI cZ n thr (nI fc) sp (nI cr) (nI ln) cx (nI jo) (nI wg) sh va (nf C) (nf fw) (nf fz) (nf fh) (nf G) di (nf B) ke (nf dO) (nf fr) (nf ma) (nf st) hf (nf wa) ra ag) (rest := []) (r_isIn_t l D cI cZ cL (nI q) (nI 0) (nI 3) (nI_nlt (by omega) (by omega)) (nI_nlt (by omega) (by omega))) gX6_book_X6_isIn rfl (by decide +kernel) ⟨Nat.le_of_ble_eq_true rfl, Nat.le_of_ble_eq_true rfl⟩ rfl rfl rfl (Nat.le_of_ble_eq_true rfl) dX6_book_3 ⟨Nat.le_refl _, Nat.le_refl _⟩ (fun r9 w9 h9 => ?_)
  obtain ⟨rfl, rfl⟩ := h9
  refine j_w (w' := mW a cI cZ n thr (nI fc) sp (nI cr) (nI ln) cx (nI jo) (nI wg) sh va (nf C) (nf fw) (nf fz) (nf fh) (nf G) di (nf B) ke (nf dO) (nf fr) (nf ma) (nf st) hf (nf wa) ra ag) rfl ?_
  refine j_st (st9 := [.int (nI 1)]) rfl ?_
  refine j_ifN_eq CX (by first | assumption | omega | exact b2n_lt _ | exact t2n_lt _) 32 dX6_book_6 (by decide) (fun h6 => absurd h6 (by decide)) (fun h6 => ?_)
  refine j_iload_n CX 1 dX6_book_9 rfl rfl ?_
  refine j_iconst CX dX6_book_10 (show _ = ((-1) : Int32) by decide) ?_
  refine j_icmp_eq CX 28 dX6_book_11 (by decide) (fun h11 => ?_) (fun h11 => absurd h11 (by decide))
  refine j_iconst CX dX6_book_28 (show _ = (nI 1 : Int32) by decide) ?_
  refine j_goto CX 33 dX6_book_29 (by decide) ?_
  refine j_istore_n CX (lv' := [(3, .int (nI 1)), (0, .ref (a 0)), (1, .int (-1)), (2, .int (nI q))]) dX6_book_33 rfl (by decide) rfl ?_
  refine j_aload_n CX 1 dX6_book_34 rfl rfl ?_
  refine j_iload_n CX 0 dX6_book_35 rfl rfl ?_
  refine j_ifN_eq CX (by first | assumption | omega | exact b2n_lt _ | exact t2n_lt _) 43 dX6_book_36 (by decide) (fun h36 => absurd h36 (by decide)) (fun h36 => ?_)
  refine j_iconst CX dX6_book_39 (show _ = (nI 0 : Int32) by decide) ?_
  refine j_goto CX 44 dX6_book_40 (by decide) ?_
  refine j_put CX (w' := mW a cI cZ n (nI 0) (nI fc) sp (nI cr) (nI ln) cx (nI jo) (nI wg) sh va (nf C) (nf fw) (nf fz) (nf fh) (nf G) di (nf B) ke (nf dO) (nf fr) (nf ma) (nf st) hf (nf wa) ra ag) 0 0 dX6_book_44 rfl rfl hin6 tyX6 tyX6_ok nmX6 (by decide) hfl72 rfl rfl rfl rfl (Nat.le_of_ble_eq_true rfl) rfl ?_
  refine j_aload_n CX 1 dX6_book_47 rfl rfl ?_
  refine j_get CX 0 0 dX6_book_48 rfl rfl hin6 (by decide) hfl72 rfl ?_
  refine j_ifN_le CX (by first | assumption | omega | exact b2n_lt _ | exact t2n_lt _) 58 dX6_book_51 (by decide) (fun h51 => ?_) (fun h51 => absurd h51 (by decide))
  refine j_iload_n CX 2 dX6_book_58 rfl rfl ?_
  refine j_iconst CX dX6_book_59 (show _ = ((-1) : Int32) by decide) ?_
  refine j_icmp_ne CX 70 dX6_book_60 (by decide) (fun h60 => absurd h60 (by decide)) (fun h60 => ?_)
  refine j_aload_n CX 1 dX6_book_63 rfl rfl ?_
  refine j_get CX 0 13 dX6_book_64 rfl rfl hin6 (by decide) hfl104 rfl ?_
  refine j_goto CX 80 dX6_book_67 (by decide) ?_
  exact j_iret CX hr hlocks dX6_book_80 (⟨rfl, rfl⟩)

set_option maxRecDepth 100000 in
set_option maxHeartbeats 4000000 in
theorem r_book (l : Launch) (D : va_G) (cI cZ cL : ClassId) (a : Nat → Nat) (n : Nat) (thr : Int32) (fc : Nat) (sp : Int32) (cr ln : Nat) (cx : Int32) (jo wg : Nat) (sh va : Nat → Int32) (C fw fz fh G : Nat → Nat) (di : Nat → Int32) (B : Nat → Nat) (ke : Nat → Int32) (dO fr ma st : Nat → Nat) (hf : Nat → Int32) (wa : Nat → Nat) (ra ag : Nat → Int32) (j q : Nat) (hj : j < ln) (hln : ln ≤ 2000) (hq : q ≤ 3) : Cg l D cI cZ cL yX6_book wsX6_book rmX6_book [.ref (a 0), .int (nI j), .int (nI q)] (mW a cI cZ n thr (nI fc) sp (nI cr) (nI ln) cx (nI jo) (nI wg) sh va (nf C) (nf fw) (nf fz) (nf fh) (nf G) di (nf B) ke (nf dO) (nf fr) (nf ma) (nf st) hf (nf wa) ra ag) (fun r0 w0 => r0 = some (.int (nI (B (4 * j + q)))) ∧ w0 = mW a cI cZ n (nI 0) (nI fc) sp (nI cr) (nI ln) cx (nI jo) (nI wg) sh va (nf C) (nf fw) (nf fz) (nf fh) (nf G) di (nf B) ke (nf dO) (nf fr) (nf ma) (nf st) hf (nf wa) ra ag) := by
  refine Cg.ofJ (own := RX6) (cc := cX6_book) (maxL := 4) (ret := (some .int)) (by decide) rfl rfl (Nat.le_of_ble_eq_true rfl) ?_
  intro p e s m args below meth c A CX hr hlocks hname
  have hin6 : ∀ x ∈ u_ws RX6 TX6 27, x ∈ wsX6_book := by decide +kernel
  have hfl104 : Cond.fieldLink RX6 104 (TX6 13).1 (TX6 13).2.1 (TX6 13).2.2.1 ∈ wsX6_book := by decide +kernel
  have hfl72 : Cond.fieldLink RX6 72 (TX6 0).1 (TX6 0).2.1 (TX6 0).2.2.1 ∈ wsX6_book := by decide +kernel
  have hfl39 : Cond.fieldLink RX6 39 (TX6 14).1 (TX6 14).2.1 (TX6 14).2.2.1 ∈ wsX6_book := by decide +kernel
  show J p l e rmX6_book s m args below meth c D A 4 0 0 (MQ below (jQc D (fun r0 w0 => r0 = some (.int (nI (B (4 * j + q)))) ∧ w0 = mW a cI cZ n (nI 0) (nI fc) sp (nI cr) (nI ln) cx (nI jo) (nI wg) sh va (nf C) (nf fw) (nf fz) (nf fh) (nf G) di (nf B) ke (nf dO) (nf fr) (nf ma) (nf st) hf (nf wa) ra ag) A) args s rmX6_book.cells rmX6_book.slots A) (mW a cI cZ n thr (nI fc) sp (nI cr) (nI ln) cx (nI jo) (nI wg) sh va (nf C) (nf fw) (nf fz) (nf fh) (nf G) di (nf B) ke (nf dO) (nf fr) (nf ma) (nf st) hf (nf wa) ra ag) 0 [(0, .ref (a 0)), (1, .int (nI j)), (2, .int (nI q))] []
  refine j_iload_n CX 2 dX6_book_0 rfl rfl ?_
  refine j_iconst CX dX6_book_1 (show _ = (nI 0 : Int32) by decide) ?_
  refine j_iconst CX dX6_book_2 (show _ = (nI 3 : Int32) by decide) ?_
  refine j_callS CX (n := 3) (b := 0) (pre := []) (post := mW a cI cZ n thr (nI fc) sp (nI cr) (nI ln) cx (nI jo) (nI wg) sh va (nf C) (nf fw) (nf fz) (nf fh) (nf G) di (nf B) ke (nf dO) (nf fr) (nf ma) (nf st) hf (nf wa) ra ag) (rest := []) (r_isIn_t l D cI cZ cL (nI q) (nI 0) (nI 3) (nI_nlt (by omega) (by omega)) (nI_nlt (by omega) (by omega))) gX6_book_X6_isIn rfl (by decide +kernel) ⟨Nat.le_of_ble_eq_true rfl, Nat.le_of_ble_eq_true rfl⟩ rfl rfl rfl (Nat.le_of_ble_eq_true rfl) dX6_book_3 ⟨Nat.le_refl _, Nat.le_refl _⟩ (fun r9 w9 h9 => ?_)
  obtain ⟨rfl, rfl⟩ := h9
  refine j_w (w' := mW a cI cZ n thr (nI fc) sp (nI cr) (nI ln) cx (nI jo) (nI wg) sh va (nf C) (nf fw) (nf fz) (nf fh) (nf G) di (nf B) ke (nf dO) (nf fr) (nf ma) (nf st) hf (nf wa) ra ag) rfl ?_
  refine j_st (st9 := [.int (nI 1)]) rfl ?_
  refine j_ifN_eq CX (by first | assumption | omega | exact b2n_lt _ | exact t2n_lt _) 32 dX6_book_6 (by decide) (fun h6 => absurd h6 (by decide)) (fun h6 => ?_)
  refine j_iload_n CX 1 dX6_book_9 rfl rfl ?_
  refine j_iconst CX dX6_book_10 (show _ = ((-1) : Int32) by decide) ?_
  refine j_icmp_eq CX 28 dX6_book_11 (by decide) (fun h11 => absurd h11 (nI_nm1 (by first | assumption | omega))) (fun h11 => ?_)
  refine j_iload_n CX 1 dX6_book_14 rfl rfl ?_
  refine j_iconst CX dX6_book_15 (show _ = (nI 0 : Int32) by decide) ?_
  refine j_aload_n CX 0 dX6_book_16 rfl rfl ?_
  refine j_get CX 0 13 dX6_book_17 rfl rfl hin6 (by decide) hfl104 rfl ?_
  refine j_iconst CX dX6_book_20 (show _ = (nI 1 : Int32) by decide) ?_
  refine j_isub CX dX6_book_21 ?_
  refine j_top (show ((nI ln) - (nI 1)) = nI (ln - 1) from pk_sub (by omega)) ?_
  refine j_callS CX (n := 3) (b := 0) (pre := []) (post := mW a cI cZ n thr (nI fc) sp (nI cr) (nI ln) cx (nI jo) (nI wg) sh va (nf C) (nf fw) (nf fz) (nf fh) (nf G) di (nf B) ke (nf dO) (nf fr) (nf ma) (nf st) hf (nf wa) ra ag) (rest := []) (r_isIn_t l D cI cZ cL (nI j) (nI 0) (nI (ln - 1)) (nI_nlt (by omega) (by omega)) (nI_nlt (by omega) (by omega))) gX6_book_X6_isIn rfl (by decide +kernel) ⟨Nat.le_of_ble_eq_true rfl, Nat.le_of_ble_eq_true rfl⟩ rfl rfl rfl (Nat.le_of_ble_eq_true rfl) dX6_book_22 ⟨Nat.le_refl _, Nat.le_refl _⟩ (fun r9 w9 h9 => ?_)
  obtain ⟨rfl, rfl⟩ := h9
  refine j_w (w' := mW a cI cZ n thr (nI fc) sp (nI cr) (nI ln) cx (nI jo) (nI wg) sh va (nf C) (nf fw) (nf fz) (nf fh) (nf G) di (nf B) ke (nf dO) (nf fr) (nf ma) (nf st) hf (nf wa) ra ag) rfl ?_
  refine j_st (st9 := [.int (nI 1)]) rfl ?_
  refine j_ifN_eq CX (by first | assumption | omega | exact b2n_lt _ | exact t2n_lt _) 32 dX6_book_25 (by decide) (fun h25 => absurd h25 (by decide)) (fun h25 => ?_)
  refine j_iconst CX dX6_book_28 (show _ = (nI 1 : Int32) by decide) ?_
  refine j_goto CX 33 dX6_book_29 (by decide) ?_
  refine j_istore_n CX (lv' := [(3, .int (nI 1)), (0, .ref (a 0)), (1, .int (nI j)), (2, .int (nI q))]) dX6_book_33 rfl (by decide) rfl ?_
  refine j_aload_n CX 1 dX6_book_34 rfl rfl ?_
  refine j_iload_n CX 0 dX6_book_35 rfl rfl ?_
  refine j_ifN_eq CX (by first | assumption | omega | exact b2n_lt _ | exact t2n_lt _) 43 dX6_book_36 (by decide) (fun h36 => absurd h36 (by decide)) (fun h36 => ?_)
  refine j_iconst CX dX6_book_39 (show _ = (nI 0 : Int32) by decide) ?_
  refine j_goto CX 44 dX6_book_40 (by decide) ?_
  refine j_put CX (w' := mW a cI cZ n (nI 0) (nI fc) sp (nI cr) (nI ln) cx (nI jo) (nI wg) sh va (nf C) (nf fw) (nf fz) (nf fh) (nf G) di (nf B) ke (nf dO) (nf fr) (nf ma) (nf st) hf (nf wa) ra ag) 0 0 dX6_book_44 rfl rfl hin6 tyX6 tyX6_ok nmX6 (by decide) hfl72 rfl rfl rfl rfl (Nat.le_of_ble_eq_true rfl) rfl ?_
  refine j_aload_n CX 1 dX6_book_47 rfl rfl ?_
  refine j_get CX 0 0 dX6_book_48 rfl rfl hin6 (by decide) hfl72 rfl ?_
  refine j_ifN_le CX (by first | assumption | omega | exact b2n_lt _ | exact t2n_lt _) 58 dX6_book_51 (by decide) (fun h51 => ?_) (fun h51 => absurd h51 (by decide))
  refine j_iload_n CX 2 dX6_book_58 rfl rfl ?_
  refine j_iconst CX dX6_book_59 (show _ = ((-1) : Int32) by decide) ?_
  refine j_icmp_ne CX 70 dX6_book_60 (by decide) (fun h60 => ?_) (fun h60 => absurd h60 (nI_nm1 (by first | assumption | omega)))
  refine j_aload_n CX 1 dX6_book_70 rfl rfl ?_
  refine j_get CX 0 14 dX6_book_71 rfl rfl hin6 (by decide) hfl39 rfl ?_
  refine j_iconst CX dX6_book_74 (show _ = (nI 4 : Int32) by decide) ?_
  refine j_iload_n CX 2 dX6_book_75 rfl rfl ?_
  refine j_imul CX dX6_book_76 ?_
  refine j_top (show (nI 4) * (nI j) = nI (4 * j) from pk_mul _ _) ?_
  refine j_iload_n CX 3 dX6_book_77 rfl rfl ?_
  refine j_iadd CX dX6_book_78 ?_
  refine j_top (show (nI (4 * j)) + (nI q) = nI (4 * j + q) from nI_add _ _) ?_
  refine j_iald CX 9 (4 * j + q) dX6_book_79 rfl (rfl) (by omega) (by decide) ?_
  exact j_iret CX hr hlocks dX6_book_80 (⟨rfl, rfl⟩)

set_option maxRecDepth 100000 in
set_option maxHeartbeats 4000000 in
theorem r_book_x1 (l : Launch) (D : va_G) (cI cZ cL : ClassId) (a : Nat → Nat) (n : Nat) (thr : Int32) (fc : Nat) (sp : Int32) (cr ln : Nat) (cx : Int32) (jo wg : Nat) (sh va : Nat → Int32) (C fw fz fh G : Nat → Nat) (di : Nat → Int32) (B : Nat → Nat) (ke : Nat → Int32) (dO fr ma st : Nat → Nat) (hf : Nat → Int32) (wa : Nat → Nat) (ra ag : Nat → Int32) (v q : Int32) (g : q < nI 0 ∨ nI 3 < q) : Cg l D cI cZ cL yX6_book wsX6_book rmX6_book [.ref (a 0), .int v, .int q] (mW a cI cZ n thr (nI fc) sp (nI cr) (nI ln) cx (nI jo) (nI wg) sh va (nf C) (nf fw) (nf fz) (nf fh) (nf G) di (nf B) ke (nf dO) (nf fr) (nf ma) (nf st) hf (nf wa) ra ag) (fun r0 w0 => r0 = some (.int (nI 0)) ∧ w0 = mW a cI cZ n (nI 1) (nI fc) sp (nI cr) (nI ln) cx (nI jo) (nI wg) sh va (nf C) (nf fw) (nf fz) (nf fh) (nf G) di (nf B) ke (nf dO) (nf fr) (nf ma) (nf st) hf (nf wa) ra ag) := by
  refine Cg.ofJ (own := RX6) (cc := cX6_book) (maxL := 4) (ret := (some .int)) (by decide) rfl rfl (Nat.le_of_ble_eq_true rfl) ?_
  intro p e s m args below meth c A CX hr hlocks hname
  have hin6 : ∀ x ∈ u_ws RX6 TX6 27, x ∈ wsX6_book := by decide +kernel
  have hfl72 : Cond.fieldLink RX6 72 (TX6 0).1 (TX6 0).2.1 (TX6 0).2.2.1 ∈ wsX6_book := by decide +kernel
  show J p l e rmX6_book s m args below meth c D A 4 0 0 (MQ below (jQc D (fun r0 w0 => r0 = some (.int (nI 0)) ∧ w0 = mW a cI cZ n (nI 1) (nI fc) sp (nI cr) (nI ln) cx (nI jo) (nI wg) sh va (nf C) (nf fw) (nf fz) (nf fh) (nf G) di (nf B) ke (nf dO) (nf fr) (nf ma) (nf st) hf (nf wa) ra ag) A) args s rmX6_book.cells rmX6_book.slots A) (mW a cI cZ n thr (nI fc) sp (nI cr) (nI ln) cx (nI jo) (nI wg) sh va (nf C) (nf fw) (nf fz) (nf fh) (nf G) di (nf B) ke (nf dO) (nf fr) (nf ma) (nf st) hf (nf wa) ra ag) 0 [(0, .ref (a 0)), (1, .int v), (2, .int q)] []
  refine j_iload_n CX 2 dX6_book_0 rfl rfl ?_
  refine j_iconst CX dX6_book_1 (show _ = (nI 0 : Int32) by decide) ?_
  refine j_iconst CX dX6_book_2 (show _ = (nI 3 : Int32) by decide) ?_
  refine j_callS CX (n := 3) (b := 0) (pre := []) (post := mW a cI cZ n thr (nI fc) sp (nI cr) (nI ln) cx (nI jo) (nI wg) sh va (nf C) (nf fw) (nf fz) (nf fh) (nf G) di (nf B) ke (nf dO) (nf fr) (nf ma) (nf st) hf (nf wa) ra ag) (rest := []) (r_isIn_f l D cI cZ cL q (nI 0) (nI 3) (g)) gX6_book_X6_isIn rfl (by decide +kernel) ⟨Nat.le_of_ble_eq_true rfl, Nat.le_of_ble_eq_true rfl⟩ rfl rfl rfl (Nat.le_of_ble_eq_true rfl) dX6_book_3 ⟨Nat.le_refl _, Nat.le_refl _⟩ (fun r9 w9 h9 => ?_)
  obtain ⟨rfl, rfl⟩ := h9
  refine j_w (w' := mW a cI cZ n thr (nI fc) sp (nI cr) (nI ln) cx (nI jo) (nI wg) sh va (nf C) (nf fw) (nf fz) (nf fh) (nf G) di (nf B) ke (nf dO) (nf fr) (nf ma) (nf st) hf (nf wa) ra ag) rfl ?_
  refine j_st (st9 := [.int (nI 0)]) rfl ?_
  refine j_ifN_eq CX (by first | assumption | omega | exact b2n_lt _ | exact t2n_lt _) 32 dX6_book_6 (by decide) (fun h6 => ?_) (fun h6 => absurd h6 (by decide))
  refine j_iconst CX dX6_book_32 (show _ = (nI 0 : Int32) by decide) ?_
  refine j_istore_n CX (lv' := [(3, .int (nI 0)), (0, .ref (a 0)), (1, .int v), (2, .int q)]) dX6_book_33 rfl (by decide) rfl ?_
  refine j_aload_n CX 1 dX6_book_34 rfl rfl ?_
  refine j_iload_n CX 0 dX6_book_35 rfl rfl ?_
  refine j_ifN_eq CX (by first | assumption | omega | exact b2n_lt _ | exact t2n_lt _) 43 dX6_book_36 (by decide) (fun h36 => ?_) (fun h36 => absurd h36 (by decide))
  refine j_iconst CX dX6_book_43 (show _ = (nI 1 : Int32) by decide) ?_
  refine j_put CX (w' := mW a cI cZ n (nI 1) (nI fc) sp (nI cr) (nI ln) cx (nI jo) (nI wg) sh va (nf C) (nf fw) (nf fz) (nf fh) (nf G) di (nf B) ke (nf dO) (nf fr) (nf ma) (nf st) hf (nf wa) ra ag) 0 0 dX6_book_44 rfl rfl hin6 tyX6 tyX6_ok nmX6 (by decide) hfl72 rfl rfl rfl rfl (Nat.le_of_ble_eq_true rfl) rfl ?_
  refine j_aload_n CX 1 dX6_book_47 rfl rfl ?_
  refine j_get CX 0 0 dX6_book_48 rfl rfl hin6 (by decide) hfl72 rfl ?_
  refine j_ifN_le CX (by first | assumption | omega | exact b2n_lt _ | exact t2n_lt _) 58 dX6_book_51 (by decide) (fun h51 => absurd h51 (by decide)) (fun h51 => ?_)
  refine j_iconst CX dX6_book_54 (show _ = (nI 0 : Int32) by decide) ?_
  refine j_goto CX 80 dX6_book_55 (by decide) ?_
  exact j_iret CX hr hlocks dX6_book_80 (⟨rfl, rfl⟩)

set_option maxRecDepth 100000 in
set_option maxHeartbeats 4000000 in
theorem r_book_x2 (l : Launch) (D : va_G) (cI cZ cL : ClassId) (a : Nat → Nat) (n : Nat) (thr : Int32) (fc : Nat) (sp : Int32) (cr ln : Nat) (cx : Int32) (jo wg : Nat) (sh va : Nat → Int32) (C fw fz fh G : Nat → Nat) (di : Nat → Int32) (B : Nat → Nat) (ke : Nat → Int32) (dO fr ma st : Nat → Nat) (hf : Nat → Int32) (wa : Nat → Nat) (ra ag : Nat → Int32) (v : Int32) (q : Nat) (hq : q ≤ 3) (hv : ¬ v = -1) (g : v < nI 0 ∨ nI ln - nI 1 < v) : Cg l D cI cZ cL yX6_book wsX6_book rmX6_book [.ref (a 0), .int v, .int (nI q)] (mW a cI cZ n thr (nI fc) sp (nI cr) (nI ln) cx (nI jo) (nI wg) sh va (nf C) (nf fw) (nf fz) (nf fh) (nf G) di (nf B) ke (nf dO) (nf fr) (nf ma) (nf st) hf (nf wa) ra ag) (fun r0 w0 => r0 = some (.int (nI 0)) ∧ w0 = mW a cI cZ n (nI 1) (nI fc) sp (nI cr) (nI ln) cx (nI jo) (nI wg) sh va (nf C) (nf fw) (nf fz) (nf fh) (nf G) di (nf B) ke (nf dO) (nf fr) (nf ma) (nf st) hf (nf wa) ra ag) := by
  refine Cg.ofJ (own := RX6) (cc := cX6_book) (maxL := 4) (ret := (some .int)) (by decide) rfl rfl (Nat.le_of_ble_eq_true rfl) ?_
  intro p e s m args below meth c A CX hr hlocks hname
  have hin6 : ∀ x ∈ u_ws RX6 TX6 27, x ∈ wsX6_book := by decide +kernel
  have hfl104 : Cond.fieldLink RX6 104 (TX6 13).1 (TX6 13).2.1 (TX6 13).2.2.1 ∈ wsX6_book := by decide +kernel
  have hfl72 : Cond.fieldLink RX6 72 (TX6 0).1 (TX6 0).2.1 (TX6 0).2.2.1 ∈ wsX6_book := by decide +kernel
  show J p l e rmX6_book s m args below meth c D A 4 0 0 (MQ below (jQc D (fun r0 w0 => r0 = some (.int (nI 0)) ∧ w0 = mW a cI cZ n (nI 1) (nI fc) sp (nI cr) (nI ln) cx (nI jo) (nI wg) sh va (nf C) (nf fw) (nf fz) (nf fh) (nf G) di (nf B) ke (nf dO) (nf fr) (nf ma) (nf st) hf (nf wa) ra ag) A) args s rmX6_book.cells rmX6_book.slots A) (mW a cI cZ n thr (nI fc) sp (nI cr) (nI ln) cx (nI jo) (nI wg) sh va (nf C) (nf fw) (nf fz) (nf fh) (nf G) di (nf B) ke (nf dO) (nf fr) (nf ma) (nf st) hf (nf wa) ra ag) 0 [(0, .ref (a 0)), (1, .int v), (2, .int (nI q))] []
  refine j_iload_n CX 2 dX6_book_0 rfl rfl ?_
  refine j_iconst CX dX6_book_1 (show _ = (nI 0 : Int32) by decide) ?_
  refine j_iconst CX dX6_book_2 (show _ = (nI 3 : Int32) by decide) ?_
  refine j_callS CX (n := 3) (b := 0) (pre := []) (post := mW a cI cZ n thr (nI fc) sp (nI cr) (nI ln) cx (nI jo) (nI wg) sh va (nf C) (nf fw) (nf fz) (nf fh) (nf G) di (nf B) ke (nf dO) (nf fr) (nf ma) (nf st) hf (nf wa) ra ag) (rest := []) (r_isIn_t l D cI cZ cL (nI q) (nI 0) (nI 3) (nI_nlt (by omega) (by omega)) (nI_nlt (by omega) (by omega))) gX6_book_X6_isIn rfl (by decide +kernel) ⟨Nat.le_of_ble_eq_true rfl, Nat.le_of_ble_eq_true rfl⟩ rfl rfl rfl (Nat.le_of_ble_eq_true rfl) dX6_book_3 ⟨Nat.le_refl _, Nat.le_refl _⟩ (fun r9 w9 h9 => ?_)
  obtain ⟨rfl, rfl⟩ := h9
  refine j_w (w' := mW a cI cZ n thr (nI fc) sp (nI cr) (nI ln) cx (nI jo) (nI wg) sh va (nf C) (nf fw) (nf fz) (nf fh) (nf G) di (nf B) ke (nf dO) (nf fr) (nf ma) (nf st) hf (nf wa) ra ag) rfl ?_
  refine j_st (st9 := [.int (nI 1)]) rfl ?_
  refine j_ifN_eq CX (by first | assumption | omega | exact b2n_lt _ | exact t2n_lt _) 32 dX6_book_6 (by decide) (fun h6 => absurd h6 (by decide)) (fun h6 => ?_)
  refine j_iload_n CX 1 dX6_book_9 rfl rfl ?_
  refine j_iconst CX dX6_book_10 (show _ = ((-1) : Int32) by decide) ?_
  refine j_icmp_eq CX 28 dX6_book_11 (by decide) (fun h11 => ?_) (fun h11 => ?_)
  · exact absurd h11 hv
  · refine j_iload_n CX 1 dX6_book_14 rfl rfl ?_
    refine j_iconst CX dX6_book_15 (show _ = (nI 0 : Int32) by decide) ?_
    refine j_aload_n CX 0 dX6_book_16 rfl rfl ?_
    refine j_get CX 0 13 dX6_book_17 rfl rfl hin6 (by decide) hfl104 rfl ?_
    refine j_iconst CX dX6_book_20 (show _ = (nI 1 : Int32) by decide) ?_
    refine j_isub CX dX6_book_21 ?_
    refine j_callS CX (n := 3) (b := 0) (pre := []) (post := mW a cI cZ n thr (nI fc) sp (nI cr) (nI ln) cx (nI jo) (nI wg) sh va (nf C) (nf fw) (nf fz) (nf fh) (nf G) di (nf B) ke (nf dO) (nf fr) (nf ma) (nf st) hf (nf wa) ra ag) (rest := []) (r_isIn_f l D cI cZ cL v (nI 0) ((nI ln) - (nI 1)) (g)) gX6_book_X6_isIn rfl (by decide +kernel) ⟨Nat.le_of_ble_eq_true rfl, Nat.le_of_ble_eq_true rfl⟩ rfl rfl rfl (Nat.le_of_ble_eq_true rfl) dX6_book_22 ⟨Nat.le_refl _, Nat.le_refl _⟩ (fun r9 w9 h9 => ?_)
    obtain ⟨rfl, rfl⟩ := h9
    refine j_w (w' := mW a cI cZ n thr (nI fc) sp (nI cr) (nI ln) cx (nI jo) (nI wg) sh va (nf C) (nf fw) (nf fz) (nf fh) (nf G) di (nf B) ke (nf dO) (nf fr) (nf ma) (nf st) hf (nf wa) ra ag) rfl ?_
    refine j_st (st9 := [.int (nI 0)]) rfl ?_
    refine j_ifN_eq CX (by first | assumption | omega | exact b2n_lt _ | exact t2n_lt _) 32 dX6_book_25 (by decide) (fun h25 => ?_) (fun h25 => absurd h25 (by decide))
    refine j_iconst CX dX6_book_32 (show _ = (nI 0 : Int32) by decide) ?_
    refine j_istore_n CX (lv' := [(3, .int (nI 0)), (0, .ref (a 0)), (1, .int v), (2, .int (nI q))]) dX6_book_33 rfl (by decide) rfl ?_
    refine j_aload_n CX 1 dX6_book_34 rfl rfl ?_
    refine j_iload_n CX 0 dX6_book_35 rfl rfl ?_
    refine j_ifN_eq CX (by first | assumption | omega | exact b2n_lt _ | exact t2n_lt _) 43 dX6_book_36 (by decide) (fun h36 => ?_) (fun h36 => absurd h36 (by decide))
    refine j_iconst CX dX6_book_43 (show _ = (nI 1 : Int32) by decide) ?_
    refine j_put CX (w' := mW a cI cZ n (nI 1) (nI fc) sp (nI cr) (nI ln) cx (nI jo) (nI wg) sh va (nf C) (nf fw) (nf fz) (nf fh) (nf G) di (nf B) ke (nf dO) (nf fr) (nf ma) (nf st) hf (nf wa) ra ag) 0 0 dX6_book_44 rfl rfl hin6 tyX6 tyX6_ok nmX6 (by decide) hfl72 rfl rfl rfl rfl (Nat.le_of_ble_eq_true rfl) rfl ?_
    refine j_aload_n CX 1 dX6_book_47 rfl rfl ?_
    refine j_get CX 0 0 dX6_book_48 rfl rfl hin6 (by decide) hfl72 rfl ?_
    refine j_ifN_le CX (by first | assumption | omega | exact b2n_lt _ | exact t2n_lt _) 58 dX6_book_51 (by decide) (fun h51 => absurd h51 (by decide)) (fun h51 => ?_)
    refine j_iconst CX dX6_book_54 (show _ = (nI 0 : Int32) by decide) ?_
    refine j_goto CX 80 dX6_book_55 (by decide) ?_
    exact j_iret CX hr hlocks dX6_book_80 (⟨rfl, rfl⟩)
