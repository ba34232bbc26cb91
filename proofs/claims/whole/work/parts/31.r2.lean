
theorem wkF_g {G : Nat → Nat} {d w b : Nat} (h : G w ≠ 0) : wkF G (d + 1) w b = wkF G d (w + 1) b := by
  show (if _ then _ else _) = _
  rw [if_neg h]
theorem wkF_n {G : Nat → Nat} {d w b : Nat} (h : G w = 0) (h2 : b ≠ 0) : wkF G (d + 1) w b = wkF G d (w + 1) (b - 1) := by
  show (if _ then (if _ then _ else _) else _) = _
  rw [if_pos h, if_neg h2]
theorem wkF_h {G : Nat → Nat} {d w b : Nat} (h : G w = 0) (h2 : b = 0) : wkF G (d + 1) w b = nI w := by
  show (if _ then (if _ then _ else _) else _) = _
  rw [if_pos h, if_pos h2]
abbrev rmX6_change : Room := { frames := 1, cells := 0, slots := 0, locals := 21 }
set_option maxRecDepth 100000 in
set_option maxHeartbeats 4000000 in
theorem r_change (l : Launch) (D : va_G) (cI cZ cL : ClassId) (a : Nat → Nat) (n : Nat) (thr : Int32) (fc : Nat) (sp : Int32) (cr ln : Nat) (cx : Int32) (jo wg : Nat) (sh va : Nat → Int32) (C fw fz fh G : Nat → Nat) (di : Nat → Int32) (B : Nat → Nat) (ke : Nat → Int32) (dO fr ma st : Nat → Nat) (hf : Nat → Int32) (wa : Nat → Nat) (ra ag : Nat → Int32) (z : Nat) (hn : n ≤ 24) (hz : z < n) : Cg l D cI cZ cL yX6_change wsX6_change rmX6_change [.ref (a 0), .int (nI z)] (mW a cI cZ n thr (nI fc) sp (nI cr) (nI ln) cx (nI jo) (nI wg) sh va (nf C) (nf fw) (nf fz) (nf fh) (nf G) di (nf B) ke (nf dO) (nf fr) (nf ma) (nf st) hf (nf wa) ra ag) (fun r0 w0 => r0 = none ∧ w0 = mW a cI cZ n thr (nI fc) sp (nI cr) (nI ln) cx (nI jo) (nI wg) sh (upd va z (ch24 sh n va z)) (nf C) (nf fw) (nf fz) (nf fh) (nf G) di (nf B) ke (nf dO) (nf fr) (nf ma) (nf st) hf (nf wa) ra ag) := by
  refine Cg.ofJ (own := RX6) (cc := cX6_change) (maxL := 5) (ret := none) (by decide) rfl rfl (Nat.le_of_ble_eq_true rfl) ?_
  intro p e s m args below meth c A CX hr hlocks hname
  have hin6 : ∀ x ∈ u_ws RX6 TX6 27, x ∈ wsX6_change := by decide +kernel
  have hfl69 : Cond.fieldLink RX6 69 (TX6 1).1 (TX6 1).2.1 (TX6 1).2.2.1 ∈ wsX6_change := by decide +kernel
  have hfl13 : Cond.fieldLink RX6 13 (TX6 3).1 (TX6 3).2.1 (TX6 3).2.2.1 ∈ wsX6_change := by decide +kernel
  have hcn98 : Cond.constantLong RX6 98 (1000) ∈ wsX6_change := by decide +kernel
  have hfl7 : Cond.fieldLink RX6 7 (TX6 2).1 (TX6 2).2.1 (TX6 2).2.2.1 ∈ wsX6_change := by decide +kernel
  have L5 : ∀ (d5 : Nat) (k9 : Nat), n - k9 = d5 → k9 ≤ n → J p l e rmX6_change s m args below meth c D A 5 0 0 (MQ below (jQc D (fun r0 w0 => r0 = none ∧ w0 = mW a cI cZ n thr (nI fc) sp (nI cr) (nI ln) cx (nI jo) (nI wg) sh (upd va z (ch24 sh n va z)) (nf C) (nf fw) (nf fz) (nf fh) (nf G) di (nf B) ke (nf dO) (nf fr) (nf ma) (nf st) hf (nf wa) ra ag) A) args s rmX6_change.cells rmX6_change.slots A) (mW a cI cZ n thr (nI fc) sp (nI cr) (nI ln) cx (nI jo) (nI wg) sh va (nf C) (nf fw) (nf fz) (nf fh) (nf G) di (nf B) ke (nf dO) (nf fr) (nf ma) (nf st) hf (nf wa) ra ag) 5 [(4, .int (nI k9)), (2, .long (fl24 sh va z k9)), (0, .ref (a 0)), (1, .int (nI z))] [] := by
    intro d5
    induction d5 using Nat.strongRecOn with
    | _ d5 ih5 =>
      intro k9 hd hk
      refine j_iload CX 0 dX6_change_5 rfl ?_
      refine j_aload_n CX 2 dX6_change_7 rfl rfl ?_
      refine j_get CX 0 1 dX6_change_8 rfl rfl hin6 (by decide) hfl69 rfl ?_
      refine j_icmpN_ge CX (by first | assumption | omega) (by first | assumption | omega | exact b2n_lt _ | exact t2n_lt _) 52 dX6_change_11 (by decide) (fun h11 => ?_) (fun h11 => ?_)
      · refine j_aload_n CX 2 dX6_change_52 rfl rfl ?_
        refine j_get CX 0 3 dX6_change_53 rfl rfl hin6 (by decide) hfl13 rfl ?_
        refine j_iload_n CX 3 dX6_change_56 rfl rfl ?_
        refine j_aload_n CX 2 dX6_change_57 rfl rfl ?_
        refine j_get CX 0 3 dX6_change_58 rfl rfl hin6 (by decide) hfl13 rfl ?_
        refine j_iload_n CX 3 dX6_change_61 rfl rfl ?_
        refine j_iald CX 2 z dX6_change_62 rfl (rfl) (by first | assumption | omega) (by decide) ?_
        refine j_i2l CX dX6_change_63 ?_
        refine j_lload_n CX 1 dX6_change_64 rfl rfl ?_
        refine j_ldc2 CX dX6_change_65 hcn98 ?_
        refine j_ldiv CX dX6_change_68 (by decide) ?_
        refine j_ladd CX dX6_change_69 ?_
        refine j_callS CX (n := 1) (b := 0) (pre := []) (post := mW a cI cZ n thr (nI fc) sp (nI cr) (nI ln) cx (nI jo) (nI wg) sh va (nf C) (nf fw) (nf fz) (nf fh) (nf G) di (nf B) ke (nf dO) (nf fr) (nf ma) (nf st) hf (nf wa) ra ag) (rest := [.int (nI z), .ref (a 2)]) (r_within l D cI cZ cL (((va z).toInt64) + ((fl24 sh va z k9) / 1000))) gX6_change_X6_within rfl (by decide +kernel) ⟨Nat.le_of_ble_eq_true rfl, Nat.le_of_ble_eq_true rfl⟩ rfl rfl rfl (Nat.le_of_ble_eq_true rfl) dX6_change_70 ⟨Nat.le_refl _, Nat.le_refl _⟩ (fun r9 w9 h9 => ?_)
        obtain ⟨rfl, rfl⟩ := h9
        refine j_w (w' := mW a cI cZ n thr (nI fc) sp (nI cr) (nI ln) cx (nI jo) (nI wg) sh va (nf C) (nf fw) (nf fz) (nf fh) (nf G) di (nf B) ke (nf dO) (nf fr) (nf ma) (nf st) hf (nf wa) ra ag) rfl ?_
        refine j_st (st9 := [.int (kept (((va z).toInt64) + ((fl24 sh va z k9) / 1000))), .int (nI z), .ref (a 2)]) rfl ?_
        refine j_iast CX (w' := mW a cI cZ n thr (nI fc) sp (nI cr) (nI ln) cx (nI jo) (nI wg) sh (upd va z (kept (((va z).toInt64) + ((fl24 sh va z k9) / 1000)))) (nf C) (nf fw) (nf fz) (nf fh) (nf G) di (nf B) ke (nf dO) (nf fr) (nf ma) (nf st) hf (nf wa) ra ag) 2 z dX6_change_73 rfl (rfl) (by first | assumption | omega) (by decide) rfl ?_
        exact j_vret CX hr hlocks dX6_change_74 (⟨rfl, by unfold ch24; rw [show n = k9 by omega]⟩)
      · refine j_lload_n CX 1 dX6_change_14 rfl rfl ?_
        refine j_aload_n CX 2 dX6_change_15 rfl rfl ?_
        refine j_get CX 0 2 dX6_change_16 rfl rfl hin6 (by decide) hfl7 rfl ?_
        refine j_bipush CX dX6_change_19 (show _ = (nI 24 : Int32) by decide) ?_
        refine j_iload_n CX 3 dX6_change_21 rfl rfl ?_
        refine j_imul CX dX6_change_22 ?_
        refine j_top (show (nI 24) * (nI z) = nI (24 * z) from pk_mul _ _) ?_
        refine j_iload CX 0 dX6_change_23 rfl ?_
        refine j_iadd CX dX6_change_25 ?_
        refine j_top (show (nI (24 * z)) + (nI k9) = nI (24 * z + k9) from nI_add _ _) ?_
        refine j_iald CX 1 (24 * z + k9) dX6_change_26 rfl (rfl) (by omega) (by decide) ?_
        refine j_i2l CX dX6_change_27 ?_
        refine j_aload_n CX 2 dX6_change_28 rfl rfl ?_
        refine j_get CX 0 3 dX6_change_29 rfl rfl hin6 (by decide) hfl13 rfl ?_
        refine j_iload CX 0 dX6_change_32 rfl ?_
        refine j_iald CX 2 k9 dX6_change_34 rfl (rfl) (by first | assumption | omega) (by decide) ?_
        refine j_aload_n CX 2 dX6_change_35 rfl rfl ?_
        refine j_get CX 0 3 dX6_change_36 rfl rfl hin6 (by decide) hfl13 rfl ?_
        refine j_iload_n CX 3 dX6_change_39 rfl rfl ?_
        refine j_iald CX 2 z dX6_change_40 rfl (rfl) (by first | assumption | omega) (by decide) ?_
        refine j_isub CX dX6_change_41 ?_
        refine j_i2l CX dX6_change_42 ?_
        refine j_lmul CX dX6_change_43 ?_
        refine j_ladd CX dX6_change_44 ?_
        refine j_topl (show ((fl24 sh va z k9) + (((sh (24 * z + k9)).toInt64) * (((va k9) - (va z)).toInt64))) = fl24 sh va z (k9 + 1) from rfl) ?_
        refine j_lstore_n CX (lv' := [(2, .long (fl24 sh va z (k9 + 1))), (4, .int (nI k9)), (0, .ref (a 0)), (1, .int (nI z))]) dX6_change_45 rfl (by decide) rfl ?_
        refine j_iinc CX (v := nI (k9 + 1)) (lv' := [(4, .int (nI (k9 + 1))), (2, .long (fl24 sh va z (k9 + 1))), (0, .ref (a 0)), (1, .int (nI z))]) 1 dX6_change_46 rfl (nI_1 _) (by decide) rfl ?_
        refine j_goto CX 5 dX6_change_49 (by decide) ?_
        exact ih5 _ (by omega) (k9 + 1) rfl (by omega)
  show J p l e rmX6_change s m args below meth c D A 5 0 0 (MQ below (jQc D (fun r0 w0 => r0 = none ∧ w0 = mW a cI cZ n thr (nI fc) sp (nI cr) (nI ln) cx (nI jo) (nI wg) sh (upd va z (ch24 sh n va z)) (nf C) (nf fw) (nf fz) (nf fh) (nf G) di (nf B) ke (nf dO) (nf fr) (nf ma) (nf st) hf (nf wa) ra ag) A) args s rmX6_change.cells rmX6_change.slots A) (mW a cI cZ n thr (nI fc) sp (nI cr) (nI ln) cx (nI jo) (nI wg) sh va (nf C) (nf fw) (nf fz) (nf fh) (nf G) di (nf B) ke (nf dO) (nf fr) (nf ma) (nf st) hf (nf wa) ra ag) 0 [(0, .ref (a 0)), (1, .int (nI z))] []
  refine j_lconst CX dX6_change_0 (show _ = (0 : Int64) by decide) ?_
  refine j_lstore_n CX (lv' := [(2, .long 0), (0, .ref (a 0)), (1, .int (nI z))]) dX6_change_1 rfl (by decide) rfl ?_
  refine j_iconst CX dX6_change_2 (show _ = (nI 0 : Int32) by decide) ?_
  refine j_istore CX (lv' := [(4, .int (nI 0)), (2, .long 0), (0, .ref (a 0)), (1, .int (nI z))]) dX6_change_3 (by decide) rfl ?_
  exact L5 _ 0 rfl (Nat.zero_le _)

abbrev rmX6_write : Room := { frames := 0, cells := 0, slots := 0, locals := 0 }
set_option maxRecDepth 100000 in
set_option maxHeartbeats 4000000 in
theorem r_write (l : Launch) (D : va_G) (cI cZ cL : ClassId) (a : Nat → Nat) (n : Nat) (thr : Int32) (fc : Nat) (sp : Int32) (cr ln : Nat) (cx : Int32) (jo wg : Nat) (sh va : Nat → Int32) (C fw fz fh G : Nat → Nat) (di : Nat → Int32) (B : Nat → Nat) (ke : Nat → Int32) (dO fr ma st : Nat → Nat) (hf : Nat → Int32) (wa : Nat → Nat) (ra ag : Nat → Int32) (w z h f : Nat) (hln : ln ≤ 2000) (hf1 : f ≤ 1) : Cg l D cI cZ cL yX6_write wsX6_write rmX6_write [.ref (a 0), .int (nI w), .int (nI z), .int (nI h), .int (nI f)] (mW a cI cZ n thr (nI fc) sp (nI cr) (nI ln) cx (nI jo) (nI wg) sh va (nf C) (nf fw) (nf fz) (nf fh) (nf G) di (nf B) ke (nf dO) (nf fr) (nf ma) (nf st) hf (nf wa) ra ag) (fun r0 w0 => r0 = none ∧ w0 = mW a cI cZ n thr (nI fc) sp (nI cr) (nI (bkN ln)) cx (nI jo) (nI wg) sh va (nf C) (nf fw) (nf fz) (nf fh) (nf G) di (nf (wrB B ln w z h f)) ke (nf dO) (nf fr) (nf ma) (nf st) hf (nf wa) ra ag) := by
  refine Cg.ofJ (own := RX6) (cc := cX6_write) (maxL := 5) (ret := none) (by decide) rfl rfl (Nat.le_of_ble_eq_true rfl) ?_
  intro p e s m args below meth c A CX hr hlocks hname
  have hin6 : ∀ x ∈ u_ws RX6 TX6 27, x ∈ wsX6_write := by decide +kernel
  have hfl104 : Cond.fieldLink RX6 104 (TX6 13).1 (TX6 13).2.1 (TX6 13).2.2.1 ∈ wsX6_write := by decide +kernel
  have hfl39 : Cond.fieldLink RX6 39 (TX6 14).1 (TX6 14).2.1 (TX6 14).2.2.1 ∈ wsX6_write := by decide +kernel
  show J p l e rmX6_write s m args below meth c D A 5 0 0 (MQ below (jQc D (fun r0 w0 => r0 = none ∧ w0 = mW a cI cZ n thr (nI fc) sp (nI cr) (nI (bkN ln)) cx (nI jo) (nI wg) sh va (nf C) (nf fw) (nf fz) (nf fh) (nf G) di (nf (wrB B ln w z h f)) ke (nf dO) (nf fr) (nf ma) (nf st) hf (nf wa) ra ag) A) args s rmX6_write.cells rmX6_write.slots A) (mW a cI cZ n thr (nI fc) sp (nI cr) (nI ln) cx (nI jo) (nI wg) sh va (nf C) (nf fw) (nf fz) (nf fh) (nf G) di (nf B) ke (nf dO) (nf fr) (nf ma) (nf st) hf (nf wa) ra ag) 0 [(0, .ref (a 0)), (1, .int (nI w)), (2, .int (nI z)), (3, .int (nI h)), (4, .int (nI f))] []
  refine j_aload_n CX 0 dX6_write_0 rfl rfl ?_
  refine j_get CX 0 13 dX6_write_1 rfl rfl hin6 (by decide) hfl104 rfl ?_
  refine j_sipush CX dX6_write_4 (show _ = (nI 2000 : Int32) by decide) ?_
  refine j_icmpN_ge CX (by first | assumption | omega) (by first | assumption | omega | exact b2n_lt _ | exact t2n_lt _) 83 dX6_write_7 (by decide) (fun h7 => ?_) (fun h7 => ?_)
  · exact j_vret CX hr hlocks dX6_write_83 (⟨rfl, by unfold wrB bkN; rw [if_neg (Nat.not_lt.mpr h7), if_neg (Nat.not_lt.mpr h7)]⟩)
  · refine j_aload_n CX 0 dX6_write_10 rfl rfl ?_
    refine j_get CX 0 14 dX6_write_11 rfl rfl hin6 (by decide) hfl39 rfl ?_
    refine j_iconst CX dX6_write_14 (show _ = (nI 4 : Int32) by decide) ?_
    refine j_aload_n CX 0 dX6_write_15 rfl rfl ?_
    refine j_get CX 0 13 dX6_write_16 rfl rfl hin6 (by decide) hfl104 rfl ?_
    refine j_imul CX dX6_write_19 ?_
    refine j_top (show (nI 4) * (nI ln) = nI (4 * ln) from pk_mul _ _) ?_
    refine j_iload_n CX 1 dX6_write_20 rfl rfl ?_
    refine j_iast CX (w' := mW a cI cZ n thr (nI fc) sp (nI cr) (nI ln) cx (nI jo) (nI wg) sh va (nf C) (nf fw) (nf fz) (nf fh) (nf G) di (upd (nf B) (4 * ln) (nI w)) ke (nf dO) (nf fr) (nf ma) (nf st) hf (nf wa) ra ag) 9 (4 * ln) dX6_write_21 rfl (rfl) (by omega) (by decide) rfl ?_
    refine j_w (show mW a cI cZ n thr (nI fc) sp (nI cr) (nI ln) cx (nI jo) (nI wg) sh va (nf C) (nf fw) (nf fz) (nf fh) (nf G) di (upd (nf B) (4 * ln) (nI w)) ke (nf dO) (nf fr) (nf ma) (nf st) hf (nf wa) ra ag = mW a cI cZ n thr (nI fc) sp (nI cr) (nI ln) cx (nI jo) (nI wg) sh va (nf C) (nf fw) (nf fz) (nf fh) (nf G) di (nf (updN B (4 * ln) w)) ke (nf dO) (nf fr) (nf ma) (nf st) hf (nf wa) ra ag by rw [nf_upd]) ?_
    refine j_aload_n CX 0 dX6_write_22 rfl rfl ?_
    refine j_get CX 0 14 dX6_write_23 rfl rfl hin6 (by decide) hfl39 rfl ?_
    refine j_iconst CX dX6_write_26 (show _ = (nI 4 : Int32) by decide) ?_
    refine j_aload_n CX 0 dX6_write_27 rfl rfl ?_
    refine j_get CX 0 13 dX6_write_28 rfl rfl hin6 (by decide) hfl104 rfl ?_
    refine j_imul CX dX6_write_31 ?_
    refine j_top (show (nI 4) * (nI ln) = nI (4 * ln) from pk_mul _ _) ?_
    refine j_iconst CX dX6_write_32 (show _ = (nI 1 : Int32) by decide) ?_
    refine j_iadd CX dX6_write_33 ?_
    refine j_top (show (nI (4 * ln)) + (nI 1) = nI (4 * ln + 1) from nI_add _ _) ?_
    refine j_iload_n CX 2 dX6_write_34 rfl rfl ?_
    refine j_iast CX (w' := mW a cI cZ n thr (nI fc) sp (nI cr) (nI ln) cx (nI jo) (nI wg) sh va (nf C) (nf fw) (nf fz) (nf fh) (nf G) di (upd (nf (updN B (4 * ln) w)) (4 * ln + 1) (nI z)) ke (nf dO) (nf fr) (nf ma) (nf st) hf (nf wa) ra ag) 9 (4 * ln + 1) dX6_write_35 rfl (rfl) (by omega) (by decide) rfl ?_
    refine j_w (show mW a cI cZ n thr (nI fc) sp (nI cr) (nI ln) cx (nI jo) (nI wg) sh va (nf C) (nf fw) (nf fz) (nf fh) (nf G) di (upd (nf (updN B (4 * ln) w)) (4 * ln + 1) (nI z)) ke (nf dO) (nf fr) (nf ma) (nf st) hf (nf wa) ra ag = mW a cI cZ n thr (nI fc) sp (nI cr) (nI ln) cx (nI jo) (nI wg) sh va (nf C) (nf fw) (nf fz) (nf fh) (nf G) di (nf (updN (updN B (4 * ln) w) (4 * ln + 1) z)) ke (nf dO) (nf fr) (nf ma) (nf st) hf (nf wa) ra ag by rw [nf_upd]) ?_
    refine j_aload_n CX 0 dX6_write_36 rfl rfl ?_
    refine j_get CX 0 14 dX6_write_37 rfl rfl hin6 (by decide) hfl39 rfl ?_
    refine j_iconst CX dX6_write_40 (show _ = (nI 4 : Int32) by decide) ?_
    refine j_aload_n CX 0 dX6_write_41 rfl rfl ?_
    refine j_get CX 0 13 dX6_write_42 rfl rfl hin6 (by decide) hfl104 rfl ?_
    refine j_imul CX dX6_write_45 ?_
    refine j_top (show (nI 4) * (nI ln) = nI (4 * ln) from pk_mul _ _) ?_
    refine j_iconst CX dX6_write_46 (show _ = (nI 2 : Int32) by decide) ?_
    refine j_iadd CX dX6_write_47 ?_
    refine j_top (show (nI (4 * ln)) + (nI 2) = nI (4 * ln + 2) from nI_add _ _) ?_
    refine j_iload_n CX 3 dX6_write_48 rfl rfl ?_
    refine j_iast CX (w' := mW a cI cZ n thr (nI fc) sp (nI cr) (nI ln) cx (nI jo) (nI wg) sh va (nf C) (nf fw) (nf fz) (nf fh) (nf G) di (upd (nf (updN (updN B (4 * ln) w) (4 * ln + 1) z)) (4 * ln + 2) (nI h)) ke (nf dO) (nf fr) (nf ma) (nf st) hf (nf wa) ra ag) 9 (4 * ln + 2) dX6_write_49 rfl (rfl) (by omega) (by decide) rfl ?_
    refine j_w (show mW a cI cZ n thr (nI fc) sp (nI cr) (nI ln) cx (nI jo) (nI wg) sh va (nf C) (nf fw) (nf fz) (nf fh) (nf G) di (upd (nf (updN (updN B (4 * ln) w) (4 * ln + 1) z)) (4 * ln + 2) (nI h)) ke (nf dO) (nf fr) (nf ma) (nf st) hf (nf wa) ra ag = mW a cI cZ n thr (nI fc) sp (nI cr) (nI ln) cx (nI jo) (nI wg) sh va (nf C) (nf fw) (nf fz) (nf fh) (nf G) di (nf (updN (updN (updN B (4 * ln) w) (4 * ln + 1) z) (4 * ln + 2) h)) ke (nf dO) (nf fr) (nf ma) (nf st) hf (nf wa) ra ag by rw [nf_upd]) ?_
    refine j_aload_n CX 0 dX6_write_50 rfl rfl ?_
    refine j_get CX 0 14 dX6_write_51 rfl rfl hin6 (by decide) hfl39 rfl ?_
    refine j_iconst CX dX6_write_54 (show _ = (nI 4 : Int32) by decide) ?_
    refine j_aload_n CX 0 dX6_write_55 rfl rfl ?_
    refine j_get CX 0 13 dX6_write_56 rfl rfl hin6 (by decide) hfl104 rfl ?_
    refine j_imul CX dX6_write_59 ?_
    refine j_top (show (nI 4) * (nI ln) = nI (4 * ln) from pk_mul _ _) ?_
    refine j_iconst CX dX6_write_60 (show _ = (nI 3 : Int32) by decide) ?_
    refine j_iadd CX dX6_write_61 ?_
    refine j_top (show (nI (4 * ln)) + (nI 3) = nI (4 * ln + 3) from nI_add _ _) ?_
    refine j_iload CX 4 dX6_write_62 rfl ?_
    refine j_ifN_eq CX (by first | assumption | omega | exact b2n_lt _ | exact t2n_lt _) 71 dX6_write_64 (by decide) (fun h64 => ?_) (fun h64 => ?_)
    · refine j_iconst CX dX6_write_71 (show _ = (nI 0 : Int32) by decide) ?_
      refine j_top (show (nI 0 : Int32) = nI f by rw [show f = 0 by omega]) ?_
      refine j_iast CX (w' := mW a cI cZ n thr (nI fc) sp (nI cr) (nI ln) cx (nI jo) (nI wg) sh va (nf C) (nf fw) (nf fz) (nf fh) (nf G) di (upd (nf (updN (updN (updN B (4 * ln) w) (4 * ln + 1) z) (4 * ln + 2) h)) (4 * ln + 3) (nI f)) ke (nf dO) (nf fr) (nf ma) (nf st) hf (nf wa) ra ag) 9 (4 * ln + 3) dX6_write_72 rfl (rfl) (by omega) (by decide) rfl ?_
      refine j_w (show mW a cI cZ n thr (nI fc) sp (nI cr) (nI ln) cx (nI jo) (nI wg) sh va (nf C) (nf fw) (nf fz) (nf fh) (nf G) di (upd (nf (updN (updN (updN B (4 * ln) w) (4 * ln + 1) z) (4 * ln + 2) h)) (4 * ln + 3) (nI f)) ke (nf dO) (nf fr) (nf ma) (nf st) hf (nf wa) ra ag = mW a cI cZ n thr (nI fc) sp (nI cr) (nI ln) cx (nI jo) (nI wg) sh va (nf C) (nf fw) (nf fz) (nf fh) (nf G) di (nf (updN (updN (updN (updN B (4 * ln) w) (4 * ln + 1) z) (4 * ln + 2) h) (4 * ln + 3) f)) ke (nf dO) (nf fr) (nf ma) (nf st) hf (nf wa) ra ag by rw [nf_upd]) ?_
      refine j_aload_n CX 0 dX6_write_73 rfl rfl ?_
      refine j_dup CX dX6_write_74 rfl ?_
      refine j_get CX 0 13 dX6_write_75 rfl rfl hin6 (by decide) hfl104 rfl ?_
      refine j_iconst CX dX6_write_78 (show _ = (nI 1 : Int32) by decide) ?_
      refine j_iadd CX dX6_write_79 ?_
      refine j_top (show (nI ln) + (nI 1) = nI (ln + 1) from nI_add _ _) ?_
      refine j_put CX (w' := mW a cI cZ n thr (nI fc) sp (nI cr) (nI (ln + 1)) cx (nI jo) (nI wg) sh va (nf C) (nf fw) (nf fz) (nf fh) (nf G) di (nf (updN (updN (updN (updN B (4 * ln) w) (4 * ln + 1) z) (4 * ln + 2) h) (4 * ln + 3) f)) ke (nf dO) (nf fr) (nf ma) (nf st) hf (nf wa) ra ag) 0 13 dX6_write_80 rfl rfl hin6 tyX6 tyX6_ok nmX6 (by decide) hfl104 rfl rfl rfl rfl (Nat.le_of_ble_eq_true rfl) rfl ?_
      exact j_vret CX hr hlocks dX6_write_83 (⟨rfl, by unfold wrB bkN; rw [if_pos h7, if_pos h7]⟩)
    · refine j_iconst CX dX6_write_67 (show _ = (nI 1 : Int32) by decide) ?_
      refine j_goto CX 72 dX6_write_68 (by decide) ?_
      refine j_top (show (nI 1 : Int32) = nI f by rw [show f = 1 by omega]) ?_
      refine j_iast CX (w' := mW a cI cZ n thr (nI fc) sp (nI cr) (nI ln) cx (nI jo) (nI wg) sh va (nf C) (nf fw) (nf fz) (nf fh) (nf G) di (upd (nf (updN (updN (updN B (4 * ln) w) (4 * ln + 1) z) (4 * ln + 2) h)) (4 * ln + 3) (nI f)) ke (nf dO) (nf fr) (nf ma) (nf st) hf (nf wa) ra ag) 9 (4 * ln + 3) dX6_write_72 rfl (rfl) (by omega) (by decide) rfl ?_
      refine j_w (show mW a cI cZ n thr (nI fc) sp (nI cr) (nI ln) cx (nI jo) (nI wg) sh va (nf C) (nf fw) (nf fz) (nf fh) (nf G) di (upd (nf (updN (updN (updN B (4 * ln) w) (4 * ln + 1) z) (4 * ln + 2) h)) (4 * ln + 3) (nI f)) ke (nf dO) (nf fr) (nf ma) (nf st) hf (nf wa) ra ag = mW a cI cZ n thr (nI fc) sp (nI cr) (nI ln) cx (nI jo) (nI wg) sh va (nf C) (nf fw) (nf fz) (nf fh) (nf G) di (nf (updN (updN (updN (updN B (4 * ln) w) (4 * ln + 1) z) (4 * ln + 2) h) (4 * ln + 3) f)) ke (nf dO) (nf fr) (nf ma) (nf st) hf (nf wa) ra ag by rw [nf_upd]) ?_
      refine j_aload_n CX 0 dX6_write_73 rfl rfl ?_
      refine j_dup CX dX6_write_74 rfl ?_
      refine j_get CX 0 13 dX6_write_75 rfl rfl hin6 (by decide) hfl104 rfl ?_
      refine j_iconst CX dX6_write_78 (show _ = (nI 1 : Int32) by decide) ?_
      refine j_iadd CX dX6_write_79 ?_
      refine j_top (show (nI ln) + (nI 1) = nI (ln + 1) from nI_add _ _) ?_
      refine j_put CX (w' := mW a cI cZ n thr (nI fc) sp (nI cr) (nI (ln + 1)) cx (nI jo) (nI wg) sh va (nf C) (nf fw) (nf fz) (nf fh) (nf G) di (nf (updN (updN (updN (updN B (4 * ln) w) (4 * ln + 1) z) (4 * ln + 2) h) (4 * ln + 3) f)) ke (nf dO) (nf fr) (nf ma) (nf st) hf (nf wa) ra ag) 0 13 dX6_write_80 rfl rfl hin6 tyX6 tyX6_ok nmX6 (by decide) hfl104 rfl rfl rfl rfl (Nat.le_of_ble_eq_true rfl) rfl ?_
      exact j_vret CX hr hlocks dX6_write_83 (⟨rfl, by unfold wrB bkN; rw [if_pos h7, if_pos h7]⟩)

abbrev rmX6_failing : Room := { frames := 0, cells := 0, slots := 0, locals := 0 }
set_option maxRecDepth 100000 in
set_option maxHeartbeats 4000000 in
theorem r_failing (l : Launch) (D : va_G) (cI cZ cL : ClassId) (a : Nat → Nat) (n : Nat) (thr : Int32) (fc : Nat) (sp : Int32) (cr ln : Nat) (cx : Int32) (jo wg : Nat) (sh va : Nat → Int32) (C fw fz fh G : Nat → Nat) (di : Nat → Int32) (B : Nat → Nat) (ke : Nat → Int32) (dO fr ma st : Nat → Nat) (hf : Nat → Int32) (wa : Nat → Nat) (ra ag : Nat → Int32) (w z h : Nat) (hfc : fc ≤ 200) (hw : w < 2 ^ 31) (hz : z < 2 ^ 31) (hh : h < 2 ^ 31) (hfw : ∀ k, k < fc → fw k < 2 ^ 31) (hfz : ∀ k, k < fc → fz k < 2 ^ 31) (hfh : ∀ k, k < fc → fh k < 2 ^ 31) : Cg l D cI cZ cL yX6_failing wsX6_failing rmX6_failing [.ref (a 0), .int (nI w), .int (nI z), .int (nI h)] (mW a cI cZ n thr (nI fc) sp (nI cr) (nI ln) cx (nI jo) (nI wg) sh va (nf C) (nf fw) (nf fz) (nf fh) (nf G) di (nf B) ke (nf dO) (nf fr) (nf ma) (nf st) hf (nf wa) ra ag) (fun r0 w0 => r0 = some (.int (fiF fw fz fh w z h fc 0)) ∧ w0 = mW a cI cZ n thr (nI fc) sp (nI cr) (nI ln) cx (nI jo) (nI wg) sh va (nf C) (nf fw) (nf fz) (nf fh) (nf G) di (nf B) ke (nf dO) (nf fr) (nf ma) (nf st) hf (nf wa) ra ag) := by
  refine Cg.ofJ (own := RX6) (cc := cX6_failing) (maxL := 5) (ret := (some .int)) (by decide) rfl rfl (Nat.le_of_ble_eq_true rfl) ?_
  intro p e s m args below meth c A CX hr hlocks hname
  have hin6 : ∀ x ∈ u_ws RX6 TX6 27, x ∈ wsX6_failing := by decide +kernel
  have hfl89 : Cond.fieldLink RX6 89 (TX6 5).1 (TX6 5).2.1 (TX6 5).2.2.1 ∈ wsX6_failing := by decide +kernel
  have hfl19 : Cond.fieldLink RX6 19 (TX6 6).1 (TX6 6).2.1 (TX6 6).2.2.1 ∈ wsX6_failing := by decide +kernel
  have hfl22 : Cond.fieldLink RX6 22 (TX6 7).1 (TX6 7).2.1 (TX6 7).2.2.1 ∈ wsX6_failing := by decide +kernel
  have hfl25 : Cond.fieldLink RX6 25 (TX6 8).1 (TX6 8).2.1 (TX6 8).2.2.1 ∈ wsX6_failing := by decide +kernel
  have L3 : ∀ (d3 : Nat) (k9 : Nat), fc - k9 = d3 → k9 ≤ fc → fiF fw fz fh w z h (fc - k9) k9 = fiF fw fz fh w z h fc 0 → J p l e rmX6_failing s m args below meth c D A 5 0 0 (MQ below (jQc D (fun r0 w0 => r0 = some (.int (fiF fw fz fh w z h fc 0)) ∧ w0 = mW a cI cZ n thr (nI fc) sp (nI cr) (nI ln) cx (nI jo) (nI wg) sh va (nf C) (nf fw) (nf fz) (nf fh) (nf G) di (nf B) ke (nf dO) (nf fr) (nf ma) (nf st) hf (nf wa) ra ag) A) args s rmX6_failing.cells rmX6_failing.slots A) (mW a cI cZ n thr (nI fc) sp (nI cr) (nI ln) cx (nI jo) (nI wg) sh va (nf C) (nf fw) (nf fz) (nf fh) (nf G) di (nf B) ke (nf dO) (nf fr) (nf ma) (nf st) hf (nf wa) ra ag) 3 [(4, .int (nI k9)), (0, .ref (a 0)), (1, .int (nI w)), (2, .int (nI z)), (3, .int (nI h))] [] := by
    intro d3
    induction d3 using Nat.strongRecOn with
    | _ d3 ih3 =>
      intro k9 hd hk he
      refine j_iload CX 0 dX6_failing_3 rfl ?_
      refine j_aload_n CX 1 dX6_failing_5 rfl rfl ?_
      refine j_get CX 0 5 dX6_failing_6 rfl rfl hin6 (by decide) hfl89 rfl ?_
      refine j_icmpN_ge CX (by first | assumption | omega) (by first | assumption | omega | exact b2n_lt _ | exact t2n_lt _) 54 dX6_failing_9 (by decide) (fun h9 => ?_) (fun h9 => ?_)
      · refine j_iconst CX dX6_failing_54 (show _ = ((-1) : Int32) by decide) ?_
        exact j_iret CX hr hlocks dX6_failing_55 (⟨by rw [← he, show fc - k9 = 0 by omega]; rfl, rfl⟩)
      · have e1 := hfw k9 (by omega)
        have e2 := hfz k9 (by omega)
        have e3 := hfh k9 (by omega)
        obtain ⟨d8, hd8⟩ : ∃ d8, fc - k9 = d8 + 1 := ⟨fc - k9 - 1, by omega⟩
        refine j_aload_n CX 1 dX6_failing_12 rfl rfl ?_
        refine j_get CX 0 6 dX6_failing_13 rfl rfl hin6 (by decide) hfl19 rfl ?_
        refine j_iload CX 0 dX6_failing_16 rfl ?_
        refine j_iald CX 4 k9 dX6_failing_18 rfl (rfl) (by first | assumption | omega) (by decide) ?_
        refine j_iload_n CX 2 dX6_failing_19 rfl rfl ?_
        refine j_icmpN_ne CX (by first | assumption | omega) (by first | assumption | omega | exact b2n_lt _ | exact t2n_lt _) 48 dX6_failing_20 (by decide) (fun h20 => ?_) (fun h20 => ?_)
        · refine j_iinc CX (v := nI (k9 + 1)) (lv' := [(4, .int (nI (k9 + 1))), (0, .ref (a 0)), (1, .int (nI w)), (2, .int (nI z)), (3, .int (nI h))]) 0 dX6_failing_48 rfl (nI_1 _) (by decide) rfl ?_
          refine j_goto CX 3 dX6_failing_51 (by decide) ?_
          first | (exact ih3 _ (by omega) (k9 + 1) rfl (by omega) (by rw [← he, hd8, fiF_ne (fun q => h20 q.1), show fc - (k9 + 1) = d8 by omega])) | (exact ih3 _ (by omega) (k9 + 1) rfl (by omega) (by rw [← he, hd8, fiF_ne (fun q => h31 q.2.1), show fc - (k9 + 1) = d8 by omega])) | (exact ih3 _ (by omega) (k9 + 1) rfl (by omega) (by rw [← he, hd8, fiF_ne (fun q => h42 q.2.2), show fc - (k9 + 1) = d8 by omega]))
        · refine j_aload_n CX 1 dX6_failing_23 rfl rfl ?_
          refine j_get CX 0 7 dX6_failing_24 rfl rfl hin6 (by decide) hfl22 rfl ?_
          refine j_iload CX 0 dX6_failing_27 rfl ?_
          refine j_iald CX 5 k9 dX6_failing_29 rfl (rfl) (by first | assumption | omega) (by decide) ?_
          refine j_iload_n CX 3 dX6_failing_30 rfl rfl ?_
          refine j_icmpN_ne CX (by first | assumption | omega) (by first | assumption | omega | exact b2n_lt _ | exact t2n_lt _) 48 dX6_failing_31 (by decide) (fun h31 => ?_) (fun h31 => ?_)
          · refine j_iinc CX (v := nI (k9 + 1)) (lv' := [(4, .int (nI (k9 + 1))), (0, .ref (a 0)), (1, .int (nI w)), (2, .int (nI z)), (3, .int (nI h))]) 0 dX6_failing_48 rfl (nI_1 _) (by decide) rfl ?_
            refine j_goto CX 3 dX6_failing_51 (by decide) ?_
            first | (exact ih3 _ (by omega) (k9 + 1) rfl (by omega) (by rw [← he, hd8, fiF_ne (fun q => h20 q.1), show fc - (k9 + 1) = d8 by omega])) | (exact ih3 _ (by omega) (k9 + 1) rfl (by omega) (by rw [← he, hd8, fiF_ne (fun q => h31 q.2.1), show fc - (k9 + 1) = d8 by omega])) | (exact ih3 _ (by omega) (k9 + 1) rfl (by omega) (by rw [← he, hd8, fiF_ne (fun q => h42 q.2.2), show fc - (k9 + 1) = d8 by omega]))
          · refine j_aload_n CX 1 dX6_failing_34 rfl rfl ?_
            refine j_get CX 0 8 dX6_failing_35 rfl rfl hin6 (by decide) hfl25 rfl ?_
            refine j_iload CX 0 dX6_failing_38 rfl ?_
            refine j_iald CX 6 k9 dX6_failing_40 rfl (rfl) (by first | assumption | omega) (by decide) ?_
            refine j_iload_n CX 4 dX6_failing_41 rfl rfl ?_
            refine j_icmpN_ne CX (by first | assumption | omega) (by first | assumption | omega | exact b2n_lt _ | exact t2n_lt _) 48 dX6_failing_42 (by decide) (fun h42 => ?_) (fun h42 => ?_)
            · refine j_iinc CX (v := nI (k9 + 1)) (lv' := [(4, .int (nI (k9 + 1))), (0, .ref (a 0)), (1, .int (nI w)), (2, .int (nI z)), (3, .int (nI h))]) 0 dX6_failing_48 rfl (nI_1 _) (by decide) rfl ?_
              refine j_goto CX 3 dX6_failing_51 (by decide) ?_
              first | (exact ih3 _ (by omega) (k9 + 1) rfl (by omega) (by rw [← he, hd8, fiF_ne (fun q => h20 q.1), show fc - (k9 + 1) = d8 by omega])) | (exact ih3 _ (by omega) (k9 + 1) rfl (by omega) (by rw [← he, hd8, fiF_ne (fun q => h31 q.2.1), show fc - (k9 + 1) = d8 by omega])) | (exact ih3 _ (by omega) (k9 + 1) rfl (by omega) (by rw [← he, hd8, fiF_ne (fun q => h42 q.2.2), show fc - (k9 + 1) = d8 by omega]))
            · refine j_iload CX 0 dX6_failing_45 rfl ?_
              exact j_iret CX hr hlocks dX6_failing_47 (⟨by rw [← he, hd8, fiF_eq ⟨h20, h31, h42⟩], rfl⟩)
  show J p l e rmX6_failing s m args below meth c D A 5 0 0 (MQ below (jQc D (fun r0 w0 => r0 = some (.int (fiF fw fz fh w z h fc 0)) ∧ w0 = mW a cI cZ n thr (nI fc) sp (nI cr) (nI ln) cx (nI jo) (nI wg) sh va (nf C) (nf fw) (nf fz) (nf fh) (nf G) di (nf B) ke (nf dO) (nf fr) (nf ma) (nf st) hf (nf wa) ra ag) A) args s rmX6_failing.cells rmX6_failing.slots A) (mW a cI cZ n thr (nI fc) sp (nI cr) (nI ln) cx (nI jo) (nI wg) sh va (nf C) (nf fw) (nf fz) (nf fh) (nf G) di (nf B) ke (nf dO) (nf fr) (nf ma) (nf st) hf (nf wa) ra ag) 0 [(0, .ref (a 0)), (1, .int (nI w)), (2, .int (nI z)), (3, .int (nI h))] []
  refine j_iconst CX dX6_failing_0 (show _ = (nI 0 : Int32) by decide) ?_
  refine j_istore CX (lv' := [(4, .int (nI 0)), (0, .ref (a 0)), (1, .int (nI w)), (2, .int (nI z)), (3, .int (nI h))]) dX6_failing_1 (by decide) rfl ?_
  exact L3 _ 0 rfl (Nat.zero_le _) rfl

abbrev rmX6_next : Room := { frames := 0, cells := 0, slots := 0, locals := 0 }
set_option maxRecDepth 100000 in
set_option maxHeartbeats 4000000 in
theorem r_next (l : Launch) (D : va_G) (cI cZ cL : ClassId) (a : Nat → Nat) (n : Nat) (thr : Int32) (fc : Nat) (sp : Int32) (cr ln : Nat) (cx : Int32) (jo wg : Nat) (sh va : Nat → Int32) (C fw fz fh G : Nat → Nat) (di : Nat → Int32) (B : Nat → Nat) (ke : Nat → Int32) (dO fr ma st : Nat → Nat) (hf : Nat → Int32) (wa : Nat → Nat) (ra ag : Nat → Int32) (c0 : Nat) (hn : n ≤ 24) (hc : c0 < 2 ^ 31) (hC : ∀ k, k < n → C k < 2 ^ 31) (hdO : ∀ k, k < n → dO k < 2 ^ 31) : Cg l D cI cZ cL yX6_next wsX6_next rmX6_next [.ref (a 0), .int (nI c0)] (mW a cI cZ n thr (nI fc) sp (nI cr) (nI ln) cx (nI jo) (nI wg) sh va (nf C) (nf fw) (nf fz) (nf fh) (nf G) di (nf B) ke (nf dO) (nf fr) (nf ma) (nf st) hf (nf wa) ra ag) (fun r0 w0 => r0 = some (.int (nxD C dO c0 n n)) ∧ w0 = mW a cI cZ n thr (nI fc) sp (nI cr) (nI ln) cx (nI jo) (nI wg) sh va (nf C) (nf fw) (nf fz) (nf fh) (nf G) di (nf B) ke (nf dO) (nf fr) (nf ma) (nf st) hf (nf wa) ra ag) := by
  refine Cg.ofJ (own := RX6) (cc := cX6_next) (maxL := 4) (ret := (some .int)) (by decide) rfl rfl (Nat.le_of_ble_eq_true rfl) ?_
  intro p e s m args below meth c A CX hr hlocks hname
  have hin6 : ∀ x ∈ u_ws RX6 TX6 27, x ∈ wsX6_next := by decide +kernel
  have hfl16 : Cond.fieldLink RX6 16 (TX6 4).1 (TX6 4).2.1 (TX6 4).2.2.1 ∈ wsX6_next := by decide +kernel
  have hfl45 : Cond.fieldLink RX6 45 (TX6 16).1 (TX6 16).2.1 (TX6 16).2.2.1 ∈ wsX6_next := by decide +kernel
  have hfl69 : Cond.fieldLink RX6 69 (TX6 1).1 (TX6 1).2.1 (TX6 1).2.2.1 ∈ wsX6_next := by decide +kernel
  have L9 : ∀ (d9 : Nat) (k9 q9 : Nat), k9 = d9 → k9 + q9 = n → J p l e rmX6_next s m args below meth c D A 4 0 0 (MQ below (jQc D (fun r0 w0 => r0 = some (.int (nxD C dO c0 n n)) ∧ w0 = mW a cI cZ n thr (nI fc) sp (nI cr) (nI ln) cx (nI jo) (nI wg) sh va (nf C) (nf fw) (nf fz) (nf fh) (nf G) di (nf B) ke (nf dO) (nf fr) (nf ma) (nf st) hf (nf wa) ra ag) A) args s rmX6_next.cells rmX6_next.slots A) (mW a cI cZ n thr (nI fc) sp (nI cr) (nI ln) cx (nI jo) (nI wg) sh va (nf C) (nf fw) (nf fz) (nf fh) (nf G) di (nf B) ke (nf dO) (nf fr) (nf ma) (nf st) hf (nf wa) ra ag) 9 [(3, .int (nI k9 - nI 1)), (2, .int (nxD C dO c0 n q9)), (0, .ref (a 0)), (1, .int (nI c0))] [] := by
    intro d9
    induction d9 using Nat.strongRecOn with
    | _ d9 ih9 =>
      intro k9 q9 hd hk
      refine j_iload_n CX 0 dX6_next_9 rfl rfl ?_
      refine j_if_lt CX 44 dX6_next_10 (by decide) (fun h10 => ?_) (fun h10 => ?_)
      · have hk0 := (nI_m1lt (by omega)).mp h10
        refine j_iload_n CX 1 dX6_next_44 rfl rfl ?_
        exact j_iret CX hr hlocks dX6_next_45 (⟨by rw [show n = q9 by omega], rfl⟩)
      · have hk0 : k9 ≠ 0 := fun q => h10 ((nI_m1lt (by omega)).mpr q)
        obtain ⟨k8, rfl⟩ : ∃ k8, k9 = k8 + 1 := ⟨k9 - 1, by omega⟩
        have e1 := hC k8 (by omega)
        have e2 := hdO k8 (by omega)
        refine j_lve (lv' := [(3, .int (nI k8)), (2, .int (nxD C dO c0 n q9)), (0, .ref (a 0)), (1, .int (nI c0))]) (by rw [nI_m1]) ?_
        refine j_aload_n CX 2 dX6_next_13 rfl rfl ?_
        refine j_get CX 0 4 dX6_next_14 rfl rfl hin6 (by decide) hfl16 rfl ?_
        refine j_iload_n CX 0 dX6_next_17 rfl rfl ?_
        refine j_iald CX 3 k8 dX6_next_18 rfl (rfl) (by first | assumption | omega) (by decide) ?_
        refine j_iload_n CX 3 dX6_next_19 rfl rfl ?_
        refine j_icmpN_ne CX (by first | assumption | omega) (by first | assumption | omega | exact b2n_lt _ | exact t2n_lt _) 36 dX6_next_20 (by decide) (fun h20 => ?_) (fun h20 => ?_)
        · refine j_iload_n CX 1 dX6_next_36 rfl rfl ?_
          refine j_top (show (nxD C dO c0 n q9) = nxD C dO c0 n (q9 + 1) by show _ = (if _ then _ else _); first | rw [if_neg (fun q => h20 (by rw [← q.1, show n - (q9 + 1) = k8 by omega]))] | rw [if_neg (fun q => h29 (by rw [← q.2, show n - (q9 + 1) = k8 by omega]))]) ?_
          refine j_istore_n CX (lv' := [(2, .int (nxD C dO c0 n (q9 + 1))), (3, .int (nI k8)), (0, .ref (a 0)), (1, .int (nI c0))]) dX6_next_37 rfl (by decide) rfl ?_
          refine j_iinc CX (v := nI k8 - nI 1) (lv' := [(3, .int (nI k8 - nI 1)), (2, .int (nxD C dO c0 n (q9 + 1))), (0, .ref (a 0)), (1, .int (nI c0))]) 1 dX6_next_38 rfl (sub_m1 _) (by decide) rfl ?_
          refine j_goto CX 9 dX6_next_41 (by decide) ?_
          exact ih9 _ (by omega) k8 (q9 + 1) rfl (by omega)
        · refine j_aload_n CX 2 dX6_next_23 rfl rfl ?_
          refine j_get CX 0 16 dX6_next_24 rfl rfl hin6 (by decide) hfl45 rfl ?_
          refine j_iload_n CX 0 dX6_next_27 rfl rfl ?_
          refine j_zald CX 11 k8 dX6_next_28 rfl (rfl) (by first | assumption | omega) (by decide) ?_
          refine j_ifN_ne CX (by first | assumption | omega | exact b2n_lt _ | exact t2n_lt _) 36 dX6_next_29 (by decide) (fun h29 => ?_) (fun h29 => ?_)
          · refine j_iload_n CX 1 dX6_next_36 rfl rfl ?_
            refine j_top (show (nxD C dO c0 n q9) = nxD C dO c0 n (q9 + 1) by show _ = (if _ then _ else _); first | rw [if_neg (fun q => h20 (by rw [← q.1, show n - (q9 + 1) = k8 by omega]))] | rw [if_neg (fun q => h29 (by rw [← q.2, show n - (q9 + 1) = k8 by omega]))]) ?_
            refine j_istore_n CX (lv' := [(2, .int (nxD C dO c0 n (q9 + 1))), (3, .int (nI k8)), (0, .ref (a 0)), (1, .int (nI c0))]) dX6_next_37 rfl (by decide) rfl ?_
            refine j_iinc CX (v := nI k8 - nI 1) (lv' := [(3, .int (nI k8 - nI 1)), (2, .int (nxD C dO c0 n (q9 + 1))), (0, .ref (a 0)), (1, .int (nI c0))]) 1 dX6_next_38 rfl (sub_m1 _) (by decide) rfl ?_
            refine j_goto CX 9 dX6_next_41 (by decide) ?_
            exact ih9 _ (by omega) k8 (q9 + 1) rfl (by omega)
          · refine j_iload_n CX 0 dX6_next_32 rfl rfl ?_
            refine j_goto CX 37 dX6_next_33 (by decide) ?_
            refine j_top (show (nI k8) = nxD C dO c0 n (q9 + 1) by show _ = (if _ then _ else _); rw [show n - (q9 + 1) = k8 by omega, if_pos ⟨h20, h29⟩]) ?_
            refine j_istore_n CX (lv' := [(2, .int (nxD C dO c0 n (q9 + 1))), (3, .int (nI k8)), (0, .ref (a 0)), (1, .int (nI c0))]) dX6_next_37 rfl (by decide) rfl ?_
            refine j_iinc CX (v := nI k8 - nI 1) (lv' := [(3, .int (nI k8 - nI 1)), (2, .int (nxD C dO c0 n (q9 + 1))), (0, .ref (a 0)), (1, .int (nI c0))]) 1 dX6_next_38 rfl (sub_m1 _) (by decide) rfl ?_
            refine j_goto CX 9 dX6_next_41 (by decide) ?_
            exact ih9 _ (by omega) k8 (q9 + 1) rfl (by omega)
  show J p l e rmX6_next s m args below meth c D A 4 0 0 (MQ below (jQc D (fun r0 w0 => r0 = some (.int (nxD C dO c0 n n)) ∧ w0 = mW a cI cZ n thr (nI fc) sp (nI cr) (nI ln) cx (nI jo) (nI wg) sh va (nf C) (nf fw) (nf fz) (nf fh) (nf G) di (nf B) ke (nf dO) (nf fr) (nf ma) (nf st) hf (nf wa) ra ag) A) args s rmX6_next.cells rmX6_next.slots A) (mW a cI cZ n thr (nI fc) sp (nI cr) (nI ln) cx (nI jo) (nI wg) sh va (nf C) (nf fw) (nf fz) (nf fh) (nf G) di (nf B) ke (nf dO) (nf fr) (nf ma) (nf st) hf (nf wa) ra ag) 0 [(0, .ref (a 0)), (1, .int (nI c0))] []
  refine j_iconst CX dX6_next_0 (show _ = ((-1) : Int32) by decide) ?_
  refine j_istore_n CX (lv' := [(2, .int (-1)), (0, .ref (a 0)), (1, .int (nI c0))]) dX6_next_1 rfl (by decide) rfl ?_
  refine j_aload_n CX 1 dX6_next_2 rfl rfl ?_
  refine j_get CX 0 1 dX6_next_3 rfl rfl hin6 (by decide) hfl69 rfl ?_
  refine j_iconst CX dX6_next_6 (show _ = (nI 1 : Int32) by decide) ?_
  refine j_isub CX dX6_next_7 ?_
  refine j_istore_n CX (lv' := [(3, .int ((nI n) - (nI 1))), (2, .int (-1)), (0, .ref (a 0)), (1, .int (nI c0))]) dX6_next_8 rfl (by decide) rfl ?_
  exact L9 _ n 0 rfl (by omega)

abbrev rmX6_worker : Room := { frames := 0, cells := 0, slots := 0, locals := 0 }
set_option maxRecDepth 100000 in
set_option maxHeartbeats 4000000 in
theorem r_worker (l : Launch) (D : va_G) (cI cZ cL : ClassId) (a : Nat → Nat) (n : Nat) (thr : Int32) (fc : Nat) (sp : Int32) (cr ln : Nat) (cx : Int32) (jo wg : Nat) (sh va : Nat → Int32) (C fw fz fh G : Nat → Nat) (di : Nat → Int32) (B : Nat → Nat) (ke : Nat → Int32) (dO fr ma st : Nat → Nat) (hf : Nat → Int32) (wa : Nat → Nat) (ra ag : Nat → Int32) (hcr : cr ≤ 16) (hG : ∀ k, k < cr → G k < 2 ^ 31) : Cg l D cI cZ cL yX6_worker wsX6_worker rmX6_worker [.ref (a 0)] (mW a cI cZ n thr (nI fc) sp (nI cr) (nI ln) cx (nI jo) (nI wg) sh va (nf C) (nf fw) (nf fz) (nf fh) (nf G) di (nf B) ke (nf dO) (nf fr) (nf ma) (nf st) hf (nf wa) ra ag) (fun r0 w0 => r0 = some (.int (if cnF G cr = 0 then -1 else wkF G cr 0 (dv (nxH cx) % cnF G cr))) ∧ w0 = mW a cI cZ n thr (nI fc) sp (nI cr) (nI ln) (if cnF G cr = 0 then cx else nxH cx) (nI jo) (nI wg) sh va (nf C) (nf fw) (nf fz) (nf fh) (nf G) di (nf B) ke (nf dO) (nf fr) (nf ma) (nf st) hf (nf wa) ra ag) := by
  refine Cg.ofJ (own := RX6) (cc := cX6_worker) (maxL := 4) (ret := (some .int)) (by decide) rfl rfl (Nat.le_of_ble_eq_true rfl) ?_
  intro p e s m args below meth c A CX hr hlocks hname
  have hin6 : ∀ x ∈ u_ws RX6 TX6 27, x ∈ wsX6_worker := by decide +kernel
  have hfl107 : Cond.fieldLink RX6 107 (TX6 10).1 (TX6 10).2.1 (TX6 10).2.2.1 ∈ wsX6_worker := by decide +kernel
  have hfl32 : Cond.fieldLink RX6 32 (TX6 11).1 (TX6 11).2.1 (TX6 11).2.2.1 ∈ wsX6_worker := by decide +kernel
  have hfl110 : Cond.fieldLink RX6 110 (TX6 17).1 (TX6 17).2.1 (TX6 17).2.2.1 ∈ wsX6_worker := by decide +kernel
  have hcn113 : Cond.constant RX6 113 (1103515245) ∈ wsX6_worker := by decide +kernel
  have hcc := cnF_le G cr
  have L68 : ∀ (d68 : Nat) (w9 b9 : Nat), cr - w9 = d68 → w9 ≤ cr → b9 < 65536 → cnF G cr ≠ 0 → wkF G (cr - w9) w9 b9 = wkF G cr 0 (dv (nxH cx) % cnF G cr) → J p l e rmX6_worker s m args below meth c D A 4 0 0 (MQ below (jQc D (fun r0 w0 => r0 = some (.int (if cnF G cr = 0 then -1 else wkF G cr 0 (dv (nxH cx) % cnF G cr))) ∧ w0 = mW a cI cZ n thr (nI fc) sp (nI cr) (nI ln) (if cnF G cr = 0 then cx else nxH cx) (nI jo) (nI wg) sh va (nf C) (nf fw) (nf fz) (nf fh) (nf G) di (nf B) ke (nf dO) (nf fr) (nf ma) (nf st) hf (nf wa) ra ag) A) args s rmX6_worker.cells rmX6_worker.slots A) (mW a cI cZ n thr (nI fc) sp (nI cr) (nI ln) (nxH cx) (nI jo) (nI wg) sh va (nf C) (nf fw) (nf fz) (nf fh) (nf G) di (nf B) ke (nf dO) (nf fr) (nf ma) (nf st) hf (nf wa) ra ag) 68 [(3, .int (nI w9)), (2, .int (nI b9)), (1, .int (nI (cnF G cr))), (0, .ref (a 0))] [] := by
    intro d68
    induction d68 using Nat.strongRecOn with
    | _ d68 ih68 =>
      intro w9 b9 hd hw hb hc0 he
      refine j_iload_n CX 0 dX6_worker_68 rfl rfl ?_
      refine j_aload_n CX 3 dX6_worker_69 rfl rfl ?_
      refine j_get CX 0 10 dX6_worker_70 rfl rfl hin6 (by decide) hfl107 rfl ?_
      refine j_icmpN_ge CX (by first | assumption | omega) (by first | assumption | omega | exact b2n_lt _ | exact t2n_lt _) 100 dX6_worker_73 (by decide) (fun h73 => ?_) (fun h73 => ?_)
      · refine j_iconst CX dX6_worker_100 (show _ = ((-1) : Int32) by decide) ?_
        exact j_iret CX hr hlocks dX6_worker_101 (⟨by rw [if_neg hc0, ← he, show cr - w9 = 0 by omega]; rfl, by rw [if_neg hc0]⟩)
      · have e1 := hG w9 (by omega)
        obtain ⟨d8, hd8⟩ : ∃ d8, cr - w9 = d8 + 1 := ⟨cr - w9 - 1, by omega⟩
        refine j_aload_n CX 3 dX6_worker_76 rfl rfl ?_
        refine j_get CX 0 11 dX6_worker_77 rfl rfl hin6 (by decide) hfl32 rfl ?_
        refine j_iload_n CX 0 dX6_worker_80 rfl rfl ?_
        refine j_zald CX 7 w9 dX6_worker_81 rfl (rfl) (by first | assumption | omega) (by decide) ?_
        refine j_ifN_ne CX (by first | assumption | omega | exact b2n_lt _ | exact t2n_lt _) 94 dX6_worker_82 (by decide) (fun h82 => ?_) (fun h82 => ?_)
        · refine j_iinc CX (v := nI (w9 + 1)) (lv' := [(3, .int (nI (w9 + 1))), (2, .int (nI b9)), (1, .int (nI (cnF G cr))), (0, .ref (a 0))]) 0 dX6_worker_94 rfl (nI_1 _) (by decide) rfl ?_
          refine j_goto CX 68 dX6_worker_97 (by decide) ?_
          exact ih68 _ (by omega) (w9 + 1) b9 rfl (by omega) hb hc0 (by rw [← he, hd8, wkF_g h82, show cr - (w9 + 1) = d8 by omega])
        · refine j_iload_n CX 1 dX6_worker_85 rfl rfl ?_
          refine j_ifN_ne CX (by first | assumption | omega | exact b2n_lt _ | exact t2n_lt _) 91 dX6_worker_86 (by decide) (fun h86 => ?_) (fun h86 => ?_)
          · refine j_iinc CX (v := nI (b9 - 1)) (lv' := [(2, .int (nI (b9 - 1))), (3, .int (nI w9)), (1, .int (nI (cnF G cr))), (0, .ref (a 0))]) 1 dX6_worker_91 rfl (by rw [sub_m1]; exact pk_sub (by omega)) (by decide) rfl ?_
            refine j_iinc CX (v := nI (w9 + 1)) (lv' := [(3, .int (nI (w9 + 1))), (2, .int (nI (b9 - 1))), (1, .int (nI (cnF G cr))), (0, .ref (a 0))]) 1 dX6_worker_94 rfl (nI_1 _) (by decide) rfl ?_
            refine j_goto CX 68 dX6_worker_97 (by decide) ?_
            exact ih68 _ (by omega) (w9 + 1) (b9 - 1) rfl (by omega) (by omega) hc0 (by rw [← he, hd8, wkF_n h82 h86, show cr - (w9 + 1) = d8 by omega])
          · refine j_iload_n CX 0 dX6_worker_89 rfl rfl ?_
            exact j_iret CX hr hlocks dX6_worker_90 (⟨by rw [if_neg hc0, ← he, hd8, wkF_h h82 h86], by rw [if_neg hc0]⟩)
  have L4 : ∀ (d4 : Nat) (w9 : Nat), cr - w9 = d4 → w9 ≤ cr → J p l e rmX6_worker s m args below meth c D A 4 0 0 (MQ below (jQc D (fun r0 w0 => r0 = some (.int (if cnF G cr = 0 then -1 else wkF G cr 0 (dv (nxH cx) % cnF G cr))) ∧ w0 = mW a cI cZ n thr (nI fc) sp (nI cr) (nI ln) (if cnF G cr = 0 then cx else nxH cx) (nI jo) (nI wg) sh va (nf C) (nf fw) (nf fz) (nf fh) (nf G) di (nf B) ke (nf dO) (nf fr) (nf ma) (nf st) hf (nf wa) ra ag) A) args s rmX6_worker.cells rmX6_worker.slots A) (mW a cI cZ n thr (nI fc) sp (nI cr) (nI ln) cx (nI jo) (nI wg) sh va (nf C) (nf fw) (nf fz) (nf fh) (nf G) di (nf B) ke (nf dO) (nf fr) (nf ma) (nf st) hf (nf wa) ra ag) 4 [(2, .int (nI w9)), (1, .int (nI (cnF G w9))), (0, .ref (a 0))] [] := by
    intro d4
    induction d4 using Nat.strongRecOn with
    | _ d4 ih4 =>
      intro w9 hd hw
      have hcn := cnF_le G w9
      refine j_iload_n CX 0 dX6_worker_4 rfl rfl ?_
      refine j_aload_n CX 2 dX6_worker_5 rfl rfl ?_
      refine j_get CX 0 10 dX6_worker_6 rfl rfl hin6 (by decide) hfl107 rfl ?_
      refine j_icmpN_ge CX (by first | assumption | omega) (by first | assumption | omega | exact b2n_lt _ | exact t2n_lt _) 35 dX6_worker_9 (by decide) (fun h9 => ?_) (fun h9 => ?_)
      · refine j_lve (lv' := [(2, .int (nI w9)), (1, .int (nI (cnF G cr))), (0, .ref (a 0))]) (by rw [show cr = w9 by omega]) ?_
        refine j_iload_n CX 1 dX6_worker_35 rfl rfl ?_
        refine j_ifN_ne CX (by first | assumption | omega | exact b2n_lt _ | exact t2n_lt _) 41 dX6_worker_36 (by decide) (fun h36 => ?_) (fun h36 => ?_)
        · refine j_aload_n CX 2 dX6_worker_41 rfl rfl ?_
          refine j_aload_n CX 2 dX6_worker_42 rfl rfl ?_
          refine j_get CX 0 17 dX6_worker_43 rfl rfl hin6 (by decide) hfl110 rfl ?_
          refine j_ldc CX dX6_worker_46 hcn113 ?_
          refine j_imul CX dX6_worker_48 ?_
          refine j_sipush CX dX6_worker_49 (show _ = (nI 12345 : Int32) by decide) ?_
          refine j_iadd CX dX6_worker_52 ?_
          refine j_top (show ((cx * 1103515245) + (nI 12345)) = nxH cx from (nxH_eq _).symm) ?_
          refine j_put CX (w' := mW a cI cZ n thr (nI fc) sp (nI cr) (nI ln) (nxH cx) (nI jo) (nI wg) sh va (nf C) (nf fw) (nf fz) (nf fh) (nf G) di (nf B) ke (nf dO) (nf fr) (nf ma) (nf st) hf (nf wa) ra ag) 0 17 dX6_worker_53 rfl rfl hin6 tyX6 tyX6_ok nmX6 (by decide) hfl110 rfl rfl rfl rfl (Nat.le_of_ble_eq_true rfl) rfl ?_
          refine j_aload_n CX 2 dX6_worker_56 rfl rfl ?_
          refine j_get CX 0 17 dX6_worker_57 rfl rfl hin6 (by decide) hfl110 rfl ?_
          refine j_bipush CX dX6_worker_60 (show _ = (nI 16 : Int32) by decide) ?_
          refine j_iushr CX dX6_worker_62 ?_
          refine j_top (show (((nxH cx).toUInt32 >>> ((nI 16).toUInt32 &&& Int32.toUInt32 31)).toInt32) = nI (dv (nxH cx)) from ush16 _) ?_
          refine j_iload_n CX 1 dX6_worker_63 rfl rfl ?_
          refine j_irem CX dX6_worker_64 (nI_ne0 (Nat.pos_of_ne_zero h36) (by have := cnF_le G cr; omega)) ?_
          refine j_top (show ((nI (dv (nxH cx))) - (nI (dv (nxH cx))) / (nI (cnF G cr)) * (nI (cnF G cr))) = nI (dv (nxH cx) % cnF G cr) from pk_rem (by have := dv_lt (nxH cx); omega) (Nat.pos_of_ne_zero h36) (by have := cnF_le G cr; omega)) ?_
          refine j_istore_n CX (lv' := [(2, .int (nI (dv (nxH cx) % cnF G cr))), (1, .int (nI (cnF G cr))), (0, .ref (a 0))]) dX6_worker_65 rfl (by decide) rfl ?_
          refine j_iconst CX dX6_worker_66 (show _ = (nI 0 : Int32) by decide) ?_
          refine j_istore_n CX (lv' := [(3, .int (nI 0)), (2, .int (nI (dv (nxH cx) % cnF G cr))), (1, .int (nI (cnF G cr))), (0, .ref (a 0))]) dX6_worker_67 rfl (by decide) rfl ?_
          exact L68 _ 0 _ rfl (Nat.zero_le _) (Nat.lt_of_le_of_lt (Nat.mod_le _ _) (dv_lt _)) h36 rfl
        · refine j_iconst CX dX6_worker_39 (show _ = ((-1) : Int32) by decide) ?_
          exact j_iret CX hr hlocks dX6_worker_40 (⟨by rw [if_pos h36], by rw [if_pos h36]⟩)
      · have e1 := hG w9 (by omega)
        refine j_aload_n CX 2 dX6_worker_12 rfl rfl ?_
        refine j_get CX 0 11 dX6_worker_13 rfl rfl hin6 (by decide) hfl32 rfl ?_
        refine j_iload_n CX 0 dX6_worker_16 rfl rfl ?_
        refine j_zald CX 7 w9 dX6_worker_17 rfl (rfl) (by first | assumption | omega) (by decide) ?_
        refine j_ifN_eq CX (by first | assumption | omega | exact b2n_lt _ | exact t2n_lt _) 25 dX6_worker_18 (by decide) (fun h18 => ?_) (fun h18 => ?_)
        · refine j_iload_n CX 1 dX6_worker_25 rfl rfl ?_
          refine j_iconst CX dX6_worker_26 (show _ = (nI 1 : Int32) by decide) ?_
          refine j_iadd CX dX6_worker_27 ?_
          refine j_top (show (nI (cnF G w9)) + (nI 1) = nI (cnF G w9 + 1) from nI_add _ _) ?_
          refine j_top (show (nI (cnF G w9 + 1)) = nI (cnF G (w9 + 1)) by first | rw [show cnF G (w9 + 1) = cnF G w9 + 1 by show (if _ then _ else _) = _; rw [if_pos h18]] | rw [show cnF G (w9 + 1) = cnF G w9 by show (if _ then _ else _) = _; rw [if_neg h18]]) ?_
          refine j_istore_n CX (lv' := [(1, .int (nI (cnF G (w9 + 1)))), (2, .int (nI w9)), (0, .ref (a 0))]) dX6_worker_28 rfl (by decide) rfl ?_
          refine j_iinc CX (v := nI (w9 + 1)) (lv' := [(2, .int (nI (w9 + 1))), (1, .int (nI (cnF G (w9 + 1)))), (0, .ref (a 0))]) 1 dX6_worker_29 rfl (nI_1 _) (by decide) rfl ?_
          refine j_goto CX 4 dX6_worker_32 (by decide) ?_
          exact ih4 _ (by omega) (w9 + 1) rfl (by omega)
        · refine j_iload_n CX 1 dX6_worker_21 rfl rfl ?_
          refine j_goto CX 28 dX6_worker_22 (by decide) ?_
          refine j_top (show (nI (cnF G w9)) = nI (cnF G (w9 + 1)) by first | rw [show cnF G (w9 + 1) = cnF G w9 + 1 by show (if _ then _ else _) = _; rw [if_pos h18]] | rw [show cnF G (w9 + 1) = cnF G w9 by show (if _ then _ else _) = _; rw [if_neg h18]]) ?_
          refine j_istore_n CX (lv' := [(1, .int (nI (cnF G (w9 + 1)))), (2, .int (nI w9)), (0, .ref (a 0))]) dX6_worker_28 rfl (by decide) rfl ?_
          refine j_iinc CX (v := nI (w9 + 1)) (lv' := [(2, .int (nI (w9 + 1))), (1, .int (nI (cnF G (w9 + 1)))), (0, .ref (a 0))]) 1 dX6_worker_29 rfl (nI_1 _) (by decide) rfl ?_
          refine j_goto CX 4 dX6_worker_32 (by decide) ?_
          exact ih4 _ (by omega) (w9 + 1) rfl (by omega)
  show J p l e rmX6_worker s m args below meth c D A 4 0 0 (MQ below (jQc D (fun r0 w0 => r0 = some (.int (if cnF G cr = 0 then -1 else wkF G cr 0 (dv (nxH cx) % cnF G cr))) ∧ w0 = mW a cI cZ n thr (nI fc) sp (nI cr) (nI ln) (if cnF G cr = 0 then cx else nxH cx) (nI jo) (nI wg) sh va (nf C) (nf fw) (nf fz) (nf fh) (nf G) di (nf B) ke (nf dO) (nf fr) (nf ma) (nf st) hf (nf wa) ra ag) A) args s rmX6_worker.cells rmX6_worker.slots A) (mW a cI cZ n thr (nI fc) sp (nI cr) (nI ln) cx (nI jo) (nI wg) sh va (nf C) (nf fw) (nf fz) (nf fh) (nf G) di (nf B) ke (nf dO) (nf fr) (nf ma) (nf st) hf (nf wa) ra ag) 0 [(0, .ref (a 0))] []
  refine j_iconst CX dX6_worker_0 (show _ = (nI 0 : Int32) by decide) ?_
  refine j_istore_n CX (lv' := [(1, .int (nI 0)), (0, .ref (a 0))]) dX6_worker_1 rfl (by decide) rfl ?_
  refine j_iconst CX dX6_worker_2 (show _ = (nI 0 : Int32) by decide) ?_
  refine j_istore_n CX (lv' := [(2, .int (nI 0)), (1, .int (nI 0)), (0, .ref (a 0))]) dX6_worker_3 rfl (by decide) rfl ?_
  exact L4 _ 0 rfl (Nat.zero_le _)
