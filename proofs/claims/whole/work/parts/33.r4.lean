abbrev rmX6_fails : Room := { frames := 1, cells := 0, slots := 0, locals := 24 }
set_option maxRecDepth 100000 in
set_option maxHeartbeats 4000000 in
theorem r_fails1t (l : Launch) (D : va_G) (cI cZ cL : ClassId) (a : Nat → Nat) (n : Nat) (thr : Int32) (fc : Nat) (sp : Int32) (cr ln : Nat) (cx : Int32) (jo wg : Nat) (sh va : Nat → Int32) (C fw fz fh G : Nat → Nat) (di : Nat → Int32) (B : Nat → Nat) (ke : Nat → Int32) (dO fr ma st : Nat → Nat) (hf : Nat → Int32) (wa : Nat → Nat) (ra ag : Nat → Int32) (w z h : Nat) (hn : n ≤ 24) (hw : w < 16) (hz : z < n) (hh : h < 1000) (hfc : fc ≤ 200) (hfw : ∀ k, k < fc → fw k < 2 ^ 31) (hfz : ∀ k, k < fc → fz k < 2 ^ 31) (hfh : ∀ k, k < fc → fh k < 2 ^ 31) (k : Nat) (hk : k < fc) (hat : fiF fw fz fh w z h fc 0 = nI k) : Cg l D cI cZ cL yX6_fails wsX6_fails rmX6_fails [.ref (a 0), .int (nI w), .int (nI z), .int (nI h), .int (nI 1)] (mW a cI cZ n thr (nI fc) sp (nI cr) (nI ln) cx (nI jo) (nI wg) sh va (nf C) (nf fw) (nf fz) (nf fh) (nf G) di (nf B) ke (nf dO) (nf fr) (nf ma) (nf st) hf (nf wa) ra ag) (fun r0 w0 => r0 = some (.int (nI 1)) ∧ w0 = mW a cI cZ n (nI 0) (nI fc) sp (nI cr) (nI ln) cx (nI jo) (nI wg) sh va (nf C) (nf fw) (nf fz) (nf fh) (nf G) di (nf B) ke (nf dO) (nf fr) (nf ma) (nf st) hf (nf wa) ra ag) := by
  refine Cg.ofJ (own := RX6) (cc := cX6_fails) (maxL := 7) (ret := (some .boolean)) (by decide) rfl rfl (Nat.le_of_ble_eq_true rfl) ?_
  intro p e s m args below meth c A CX hr hlocks hname
  have hin6 : ∀ x ∈ u_ws RX6 TX6 27, x ∈ wsX6_fails := by decide +kernel
  have hfl72 : Cond.fieldLink RX6 72 (TX6 0).1 (TX6 0).2.1 (TX6 0).2.2.1 ∈ wsX6_fails := by decide +kernel
  show J p l e rmX6_fails s m args below meth c D A 7 0 0 (MQ below (jQc D (fun r0 w0 => r0 = some (.int (nI 1)) ∧ w0 = mW a cI cZ n (nI 0) (nI fc) sp (nI cr) (nI ln) cx (nI jo) (nI wg) sh va (nf C) (nf fw) (nf fz) (nf fh) (nf G) di (nf B) ke (nf dO) (nf fr) (nf ma) (nf st) hf (nf wa) ra ag) A) args s rmX6_fails.cells rmX6_fails.slots A) (mW a cI cZ n thr (nI fc) sp (nI cr) (nI ln) cx (nI jo) (nI wg) sh va (nf C) (nf fw) (nf fz) (nf fh) (nf G) di (nf B) ke (nf dO) (nf fr) (nf ma) (nf st) hf (nf wa) ra ag) 0 [(0, .ref (a 0)), (1, .int (nI w)), (2, .int (nI z)), (3, .int (nI h)), (4, .int (nI 1))] []
  refine j_iload_n CX 1 dX6_fails_0 rfl rfl ?_
  refine j_iconst CX dX6_fails_1 (show _ = (nI 0 : Int32) by decide) ?_
  refine j_bipush CX dX6_fails_2 (show _ = (nI 15 : Int32) by decide) ?_
  refine j_callS CX (n := 3) (b := 0) (pre := []) (post := mW a cI cZ n thr (nI fc) sp (nI cr) (nI ln) cx (nI jo) (nI wg) sh va (nf C) (nf fw) (nf fz) (nf fh) (nf G) di (nf B) ke (nf dO) (nf fr) (nf ma) (nf st) hf (nf wa) ra ag) (rest := []) (r_isIn_t l D cI cZ cL (nI w) (nI 0) (nI 15) (nI_nlt (by omega) (by omega)) (nI_nlt (by omega) (by omega))) gX6_fails_X6_isIn rfl (by decide +kernel) ⟨Nat.le_of_ble_eq_true rfl, Nat.le_of_ble_eq_true rfl⟩ rfl rfl rfl (Nat.le_of_ble_eq_true rfl) dX6_fails_4 ⟨Nat.le_refl _, Nat.le_refl _⟩ (fun r9 w9 h9 => ?_)
  obtain ⟨rfl, rfl⟩ := h9
  refine j_w (w' := mW a cI cZ n thr (nI fc) sp (nI cr) (nI ln) cx (nI jo) (nI wg) sh va (nf C) (nf fw) (nf fz) (nf fh) (nf G) di (nf B) ke (nf dO) (nf fr) (nf ma) (nf st) hf (nf wa) ra ag) rfl ?_
  refine j_st (st9 := [.int (nI 1)]) rfl ?_
  refine j_ifN_eq CX (by first | assumption | omega | exact b2n_lt _ | exact t2n_lt _) 33 dX6_fails_7 (by decide) (fun h7 => absurd h7 (by decide)) (fun h7 => ?_)
  refine j_aload_n CX 0 dX6_fails_10 rfl rfl ?_
  refine j_iload_n CX 2 dX6_fails_11 rfl rfl ?_
  refine j_callV CX (n := 1) (pre := []) (post := []) (rest := []) (qc := (RX6, TX6, 27)) (r_nz_f l D cI cZ cL a n thr fc sp cr ln cx jo wg sh va C fw fz fh G di B ke dO fr ma st hf wa ra ag z hn (by omega)) gX6_fails_X6_noZone rfl (by decide +kernel) ⟨Nat.le_of_ble_eq_true rfl, Nat.le_of_ble_eq_true rfl⟩ rfl rfl rfl rfl rfl (Nat.le_of_ble_eq_true rfl) dX6_fails_12 ⟨Nat.le_refl _, Nat.le_refl _⟩ (fun r9 w9 h9 => ?_)
  obtain ⟨rfl, rfl⟩ := h9
  refine j_w (w' := mW a cI cZ n thr (nI fc) sp (nI cr) (nI ln) cx (nI jo) (nI wg) sh va (nf C) (nf fw) (nf fz) (nf fh) (nf G) di (nf B) ke (nf dO) (nf fr) (nf ma) (nf st) hf (nf wa) ra ag) rfl ?_
  refine j_st (st9 := [.int (nI 0)]) rfl ?_
  refine j_ifN_ne CX (by first | assumption | omega | exact b2n_lt _ | exact t2n_lt _) 33 dX6_fails_15 (by decide) (fun h15 => absurd h15 (by decide)) (fun h15 => ?_)
  refine j_iload_n CX 3 dX6_fails_18 rfl rfl ?_
  refine j_iconst CX dX6_fails_19 (show _ = (nI 0 : Int32) by decide) ?_
  refine j_sipush CX dX6_fails_20 (show _ = (nI 999 : Int32) by decide) ?_
  refine j_callS CX (n := 3) (b := 0) (pre := []) (post := mW a cI cZ n thr (nI fc) sp (nI cr) (nI ln) cx (nI jo) (nI wg) sh va (nf C) (nf fw) (nf fz) (nf fh) (nf G) di (nf B) ke (nf dO) (nf fr) (nf ma) (nf st) hf (nf wa) ra ag) (rest := []) (r_isIn_t l D cI cZ cL (nI h) (nI 0) (nI 999) (nI_nlt (by omega) (by omega)) (nI_nlt (by omega) (by omega))) gX6_fails_X6_isIn rfl (by decide +kernel) ⟨Nat.le_of_ble_eq_true rfl, Nat.le_of_ble_eq_true rfl⟩ rfl rfl rfl (Nat.le_of_ble_eq_true rfl) dX6_fails_23 ⟨Nat.le_refl _, Nat.le_refl _⟩ (fun r9 w9 h9 => ?_)
  obtain ⟨rfl, rfl⟩ := h9
  refine j_w (w' := mW a cI cZ n thr (nI fc) sp (nI cr) (nI ln) cx (nI jo) (nI wg) sh va (nf C) (nf fw) (nf fz) (nf fh) (nf G) di (nf B) ke (nf dO) (nf fr) (nf ma) (nf st) hf (nf wa) ra ag) rfl ?_
  refine j_st (st9 := [.int (nI 1)]) rfl ?_
  refine j_ifN_eq CX (by first | assumption | omega | exact b2n_lt _ | exact t2n_lt _) 33 dX6_fails_26 (by decide) (fun h26 => absurd h26 (by decide)) (fun h26 => ?_)
  refine j_iconst CX dX6_fails_29 (show _ = (nI 1 : Int32) by decide) ?_
  refine j_goto CX 34 dX6_fails_30 (by decide) ?_
  refine j_istore CX (lv' := [(5, .int (nI 1)), (0, .ref (a 0)), (1, .int (nI w)), (2, .int (nI z)), (3, .int (nI h)), (4, .int (nI 1))]) dX6_fails_34 (by decide) rfl ?_
  refine j_iload CX 0 dX6_fails_36 rfl ?_
  refine j_ifN_eq CX (by first | assumption | omega | exact b2n_lt _ | exact t2n_lt _) 51 dX6_fails_38 (by decide) (fun h38 => absurd h38 (by decide)) (fun h38 => ?_)
  refine j_aload_n CX 1 dX6_fails_41 rfl rfl ?_
  refine j_iload_n CX 2 dX6_fails_42 rfl rfl ?_
  refine j_iload_n CX 3 dX6_fails_43 rfl rfl ?_
  refine j_iload_n CX 4 dX6_fails_44 rfl rfl ?_
  refine j_callV CX (n := 3) (pre := []) (post := []) (rest := []) (qc := (RX6, TX6, 27)) (r_failing l D cI cZ cL a n thr fc sp cr ln cx jo wg sh va C fw fz fh G di B ke dO fr ma st hf wa ra ag w z h hfc (by omega) (by omega) (by omega) hfw hfz hfh) gX6_fails_X6_failing rfl (by decide +kernel) ⟨Nat.le_of_ble_eq_true rfl, Nat.le_of_ble_eq_true rfl⟩ rfl rfl rfl rfl rfl (Nat.le_of_ble_eq_true rfl) dX6_fails_45 ⟨Nat.le_refl _, Nat.le_refl _⟩ (fun r9 w9 h9 => ?_)
  obtain ⟨rfl, rfl⟩ := h9
  refine j_w (w' := mW a cI cZ n thr (nI fc) sp (nI cr) (nI ln) cx (nI jo) (nI wg) sh va (nf C) (nf fw) (nf fz) (nf fh) (nf G) di (nf B) ke (nf dO) (nf fr) (nf ma) (nf st) hf (nf wa) ra ag) rfl ?_
  refine j_st (st9 := [.int (fiF fw fz fh w z h fc 0)]) rfl ?_
  refine j_top (show (fiF fw fz fh w z h fc 0) = nI k from hat) ?_
  refine j_goto CX 52 dX6_fails_48 (by decide) ?_
  refine j_istore CX (lv' := [(6, .int (nI k)), (5, .int (nI 1)), (0, .ref (a 0)), (1, .int (nI w)), (2, .int (nI z)), (3, .int (nI h)), (4, .int (nI 1))]) dX6_fails_52 (by decide) rfl ?_
  refine j_aload_n CX 2 dX6_fails_54 rfl rfl ?_
  refine j_iload CX 1 dX6_fails_55 rfl ?_
  refine j_ifN_ne CX (by first | assumption | omega | exact b2n_lt _ | exact t2n_lt _) 64 dX6_fails_57 (by decide) (fun h57 => ?_) (fun h57 => absurd h57 (by decide))
  refine j_iload CX 6 dX6_fails_64 rfl ?_
  refine j_ifN_eq CX (by first | assumption | omega | exact b2n_lt _ | exact t2n_lt _) 89 dX6_fails_66 (by decide) (fun h66 => absurd h66 (by decide)) (fun h66 => ?_)
  refine j_iload CX 0 dX6_fails_69 rfl ?_
  refine j_iconst CX dX6_fails_71 (show _ = ((-1) : Int32) by decide) ?_
  refine j_icmp_ne CX 89 dX6_fails_72 (by decide) (fun h72 => ?_) (fun h72 => absurd h72 (nI_nm1 (by first | assumption | omega)))
  refine j_iconst CX dX6_fails_89 (show _ = (nI 0 : Int32) by decide) ?_
  refine j_put CX (w' := mW a cI cZ n (nI 0) (nI fc) sp (nI cr) (nI ln) cx (nI jo) (nI wg) sh va (nf C) (nf fw) (nf fz) (nf fh) (nf G) di (nf B) ke (nf dO) (nf fr) (nf ma) (nf st) hf (nf wa) ra ag) 0 0 dX6_fails_90 rfl rfl hin6 tyX6 tyX6_ok nmX6 (by decide) hfl72 rfl rfl rfl rfl (Nat.le_of_ble_eq_true rfl) rfl ?_
  refine j_aload_n CX 2 dX6_fails_93 rfl rfl ?_
  refine j_get CX 0 0 dX6_fails_94 rfl rfl hin6 (by decide) hfl72 rfl ?_
  refine j_ifN_le CX (by first | assumption | omega | exact b2n_lt _ | exact t2n_lt _) 102 dX6_fails_97 (by decide) (fun h97 => ?_) (fun h97 => absurd h97 (by decide))
  refine j_iload CX 6 dX6_fails_102 rfl ?_
  refine j_ifN_eq CX (by first | assumption | omega | exact b2n_lt _ | exact t2n_lt _) 153 dX6_fails_104 (by decide) (fun h104 => absurd h104 (by decide)) (fun h104 => ?_)
  refine j_iload CX 0 dX6_fails_107 rfl ?_
  refine j_iconst CX dX6_fails_109 (show _ = ((-1) : Int32) by decide) ?_
  refine j_icmp_ne CX 153 dX6_fails_110 (by decide) (fun h110 => ?_) (fun h110 => absurd h110 (nI_nm1 (by first | assumption | omega)))
  refine j_iload CX 6 dX6_fails_153 rfl ?_
  refine j_ifN_ne CX (by first | assumption | omega | exact b2n_lt _ | exact t2n_lt _) 222 dX6_fails_155 (by decide) (fun h155 => ?_) (fun h155 => absurd h155 (by decide))
  refine j_iload CX 0 dX6_fails_222 rfl ?_
  refine j_iconst CX dX6_fails_224 (show _ = ((-1) : Int32) by decide) ?_
  refine j_icmp_eq CX 232 dX6_fails_225 (by decide) (fun h225 => absurd h225 (nI_nm1 (by first | assumption | omega))) (fun h225 => ?_)
  refine j_iconst CX dX6_fails_228 (show _ = (nI 1 : Int32) by decide) ?_
  refine j_goto CX 233 dX6_fails_229 (by decide) ?_
  exact j_zret CX hr hlocks dX6_fails_233 (rfl) (⟨rfl, rfl⟩)

set_option maxRecDepth 100000 in
set_option maxHeartbeats 4000000 in
theorem r_fails1f (l : Launch) (D : va_G) (cI cZ cL : ClassId) (a : Nat → Nat) (n : Nat) (thr : Int32) (fc : Nat) (sp : Int32) (cr ln : Nat) (cx : Int32) (jo wg : Nat) (sh va : Nat → Int32) (C fw fz fh G : Nat → Nat) (di : Nat → Int32) (B : Nat → Nat) (ke : Nat → Int32) (dO fr ma st : Nat → Nat) (hf : Nat → Int32) (wa : Nat → Nat) (ra ag : Nat → Int32) (w z h : Nat) (hn : n ≤ 24) (hw : w < 16) (hz : z < n) (hh : h < 1000) (hfc : fc ≤ 200) (hfw : ∀ k, k < fc → fw k < 2 ^ 31) (hfz : ∀ k, k < fc → fz k < 2 ^ 31) (hfh : ∀ k, k < fc → fh k < 2 ^ 31) (hat : fiF fw fz fh w z h fc 0 = -1) (hf2 : fc < 200) : Cg l D cI cZ cL yX6_fails wsX6_fails rmX6_fails [.ref (a 0), .int (nI w), .int (nI z), .int (nI h), .int (nI 1)] (mW a cI cZ n thr (nI fc) sp (nI cr) (nI ln) cx (nI jo) (nI wg) sh va (nf C) (nf fw) (nf fz) (nf fh) (nf G) di (nf B) ke (nf dO) (nf fr) (nf ma) (nf st) hf (nf wa) ra ag) (fun r0 w0 => r0 = some (.int (nI 0)) ∧ w0 = mW a cI cZ n (nI 0) (nI (fc + 1)) sp (nI cr) (nI ln) cx (nI jo) (nI wg) sh va (nf C) (nf (updN fw fc w)) (nf (updN fz fc z)) (nf (updN fh fc h)) (nf G) di (nf B) ke (nf dO) (nf fr) (nf ma) (nf st) hf (nf wa) ra ag) := by
  refine Cg.ofJ (own := RX6) (cc := cX6_fails) (maxL := 7) (ret := (some .boolean)) (by decide) rfl rfl (Nat.le_of_ble_eq_true rfl) ?_
  intro p e s m args below meth c A CX hr hlocks hname
  have hin6 : ∀ x ∈ u_ws RX6 TX6 27, x ∈ wsX6_fails := by decide +kernel
  have hfl89 : Cond.fieldLink RX6 89 (TX6 5).1 (TX6 5).2.1 (TX6 5).2.2.1 ∈ wsX6_fails := by decide +kernel
  have hfl72 : Cond.fieldLink RX6 72 (TX6 0).1 (TX6 0).2.1 (TX6 0).2.2.1 ∈ wsX6_fails := by decide +kernel
  have hfl19 : Cond.fieldLink RX6 19 (TX6 6).1 (TX6 6).2.1 (TX6 6).2.2.1 ∈ wsX6_fails := by decide +kernel
  have hfl22 : Cond.fieldLink RX6 22 (TX6 7).1 (TX6 7).2.1 (TX6 7).2.2.1 ∈ wsX6_fails := by decide +kernel
  have hfl25 : Cond.fieldLink RX6 25 (TX6 8).1 (TX6 8).2.1 (TX6 8).2.2.1 ∈ wsX6_fails := by decide +kernel
  show J p l e rmX6_fails s m args below meth c D A 7 0 0 (MQ below (jQc D (fun r0 w0 => r0 = some (.int (nI 0)) ∧ w0 = mW a cI cZ n (nI 0) (nI (fc + 1)) sp (nI cr) (nI ln) cx (nI jo) (nI wg) sh va (nf C) (nf (updN fw fc w)) (nf (updN fz fc z)) (nf (updN fh fc h)) (nf G) di (nf B) ke (nf dO) (nf fr) (nf ma) (nf st) hf (nf wa) ra ag) A) args s rmX6_fails.cells rmX6_fails.slots A) (mW a cI cZ n thr (nI fc) sp (nI cr) (nI ln) cx (nI jo) (nI wg) sh va (nf C) (nf fw) (nf fz) (nf fh) (nf G) di (nf B) ke (nf dO) (nf fr) (nf ma) (nf st) hf (nf wa) ra ag) 0 [(0, .ref (a 0)), (1, .int (nI w)), (2, .int (nI z)), (3, .int (nI h)), (4, .int (nI 1))] []
  refine j_iload_n CX 1 dX6_fails_0 rfl rfl ?_
  refine j_iconst CX dX6_fails_1 (show _ = (nI 0 : Int32) by decide) ?_
  refine j_bipush CX dX6_fails_2 (show _ = (nI 15 : Int32) by decide) ?_
  refine j_callS CX (n := 3) (b := 0) (pre := []) (post := mW a cI cZ n thr (nI fc) sp (nI cr) (nI ln) cx (nI jo) (nI wg) sh va (nf C) (nf fw) (nf fz) (nf fh) (nf G) di (nf B) ke (nf dO) (nf fr) (nf ma) (nf st) hf (nf wa) ra ag) (rest := []) (r_isIn_t l D cI cZ cL (nI w) (nI 0) (nI 15) (nI_nlt (by omega) (by omega)) (nI_nlt (by omega) (by omega))) gX6_fails_X6_isIn rfl (by decide +kernel) ⟨Nat.le_of_ble_eq_true rfl, Nat.le_of_ble_eq_true rfl⟩ rfl rfl rfl (Nat.le_of_ble_eq_true rfl) dX6_fails_4 ⟨Nat.le_refl _, Nat.le_refl _⟩ (fun r9 w9 h9 => ?_)
  obtain ⟨rfl, rfl⟩ := h9
  refine j_w (w' := mW a cI cZ n thr (nI fc) sp (nI cr) (nI ln) cx (nI jo) (nI wg) sh va (nf C) (nf fw) (nf fz) (nf fh) (nf G) di (nf B) ke (nf dO) (nf fr) (nf ma) (nf st) hf (nf wa) ra ag) rfl ?_
  refine j_st (st9 := [.int (nI 1)]) rfl ?_
  refine j_ifN_eq CX (by first | assumption | omega | exact b2n_lt _ | exact t2n_lt _) 33 dX6_fails_7 (by decide) (fun h7 => absurd h7 (by decide)) (fun h7 => ?_)
  refine j_aload_n CX 0 dX6_fails_10 rfl rfl ?_
  refine j_iload_n CX 2 dX6_fails_11 rfl rfl ?_
  refine j_callV CX (n := 1) (pre := []) (post := []) (rest := []) (qc := (RX6, TX6, 27)) (r_nz_f l D cI cZ cL a n thr fc sp cr ln cx jo wg sh va C fw fz fh G di B ke dO fr ma st hf wa ra ag z hn (by omega)) gX6_fails_X6_noZone rfl (by decide +kernel) ⟨Nat.le_of_ble_eq_true rfl, Nat.le_of_ble_eq_true rfl⟩ rfl rfl rfl rfl rfl (Nat.le_of_ble_eq_true rfl) dX6_fails_12 ⟨Nat.le_refl _, Nat.le_refl _⟩ (fun r9 w9 h9 => ?_)
  obtain ⟨rfl, rfl⟩ := h9
  refine j_w (w' := mW a cI cZ n thr (nI fc) sp (nI cr) (nI ln) cx (nI jo) (nI wg) sh va (nf C) (nf fw) (nf fz) (nf fh) (nf G) di (nf B) ke (nf dO) (nf fr) (nf ma) (nf st) hf (nf wa) ra ag) rfl ?_
  refine j_st (st9 := [.int (nI 0)]) rfl ?_
  refine j_ifN_ne CX (by first | assumption | omega | exact b2n_lt _ | exact t2n_lt _) 33 dX6_fails_15 (by decide) (fun h15 => absurd h15 (by decide)) (fun h15 => ?_)
  refine j_iload_n CX 3 dX6_fails_18 rfl rfl ?_
  refine j_iconst CX dX6_fails_19 (show _ = (nI 0 : Int32) by decide) ?_
  refine j_sipush CX dX6_fails_20 (show _ = (nI 999 : Int32) by decide) ?_
  refine j_callS CX (n := 3) (b := 0) (pre := []) (post := mW a cI cZ n thr (nI fc) sp (nI cr) (nI ln) cx (nI jo) (nI wg) sh va (nf C) (nf fw) (nf fz) (nf fh) (nf G) di (nf B) ke (nf dO) (nf fr) (nf ma) (nf st) hf (nf wa) ra ag) (rest := []) (r_isIn_t l D cI cZ cL (nI h) (nI 0) (nI 999) (nI_nlt (by omega) (by omega)) (nI_nlt (by omega) (by omega))) gX6_fails_X6_isIn rfl (by decide +kernel) ⟨Nat.le_of_ble_eq_true rfl, Nat.le_of_ble_eq_true rfl⟩ rfl rfl rfl (Nat.le_of_ble_eq_true rfl) dX6_fails_23 ⟨Nat.le_refl _, Nat.le_refl _⟩ (fun r9 w9 h9 => ?_)
  obtain ⟨rfl, rfl⟩ := h9
  refine j_w (w' := mW a cI cZ n thr (nI fc) sp (nI cr) (nI ln) cx (nI jo) (nI wg) sh va (nf C) (nf fw) (nf fz) (nf fh) (nf G) di (nf B) ke (nf dO) (nf fr) (nf ma) (nf st) hf (nf wa) ra ag) rfl ?_
  refine j_st (st9 := [.int (nI 1)]) rfl ?_
  refine j_ifN_eq CX (by first | assumption | omega | exact b2n_lt _ | exact t2n_lt _) 33 dX6_fails_26 (by decide) (fun h26 => absurd h26 (by decide)) (fun h26 => ?_)
  refine j_iconst CX dX6_fails_29 (show _ = (nI 1 : Int32) by decide) ?_
  refine j_goto CX 34 dX6_fails_30 (by decide) ?_
  refine j_istore CX (lv' := [(5, .int (nI 1)), (0, .ref (a 0)), (1, .int (nI w)), (2, .int (nI z)), (3, .int (nI h)), (4, .int (nI 1))]) dX6_fails_34 (by decide) rfl ?_
  refine j_iload CX 0 dX6_fails_36 rfl ?_
  refine j_ifN_eq CX (by first | assumption | omega | exact b2n_lt _ | exact t2n_lt _) 51 dX6_fails_38 (by decide) (fun h38 => absurd h38 (by decide)) (fun h38 => ?_)
  refine j_aload_n CX 1 dX6_fails_41 rfl rfl ?_
  refine j_iload_n CX 2 dX6_fails_42 rfl rfl ?_
  refine j_iload_n CX 3 dX6_fails_43 rfl rfl ?_
  refine j_iload_n CX 4 dX6_fails_44 rfl rfl ?_
  refine j_callV CX (n := 3) (pre := []) (post := []) (rest := []) (qc := (RX6, TX6, 27)) (r_failing l D cI cZ cL a n thr fc sp cr ln cx jo wg sh va C fw fz fh G di B ke dO fr ma st hf wa ra ag w z h hfc (by omega) (by omega) (by omega) hfw hfz hfh) gX6_fails_X6_failing rfl (by decide +kernel) ⟨Nat.le_of_ble_eq_true rfl, Nat.le_of_ble_eq_true rfl⟩ rfl rfl rfl rfl rfl (Nat.le_of_ble_eq_true rfl) dX6_fails_45 ⟨Nat.le_refl _, Nat.le_refl _⟩ (fun r9 w9 h9 => ?_)
  obtain ⟨rfl, rfl⟩ := h9
  refine j_w (w' := mW a cI cZ n thr (nI fc) sp (nI cr) (nI ln) cx (nI jo) (nI wg) sh va (nf C) (nf fw) (nf fz) (nf fh) (nf G) di (nf B) ke (nf dO) (nf fr) (nf ma) (nf st) hf (nf wa) ra ag) rfl ?_
  refine j_st (st9 := [.int (fiF fw fz fh w z h fc 0)]) rfl ?_
  refine j_top (show (fiF fw fz fh w z h fc 0) = (-1) from hat) ?_
  refine j_goto CX 52 dX6_fails_48 (by decide) ?_
  refine j_istore CX (lv' := [(6, .int (-1)), (5, .int (nI 1)), (0, .ref (a 0)), (1, .int (nI w)), (2, .int (nI z)), (3, .int (nI h)), (4, .int (nI 1))]) dX6_fails_52 (by decide) rfl ?_
  refine j_aload_n CX 2 dX6_fails_54 rfl rfl ?_
  refine j_iload CX 1 dX6_fails_55 rfl ?_
  refine j_ifN_ne CX (by first | assumption | omega | exact b2n_lt _ | exact t2n_lt _) 64 dX6_fails_57 (by decide) (fun h57 => ?_) (fun h57 => absurd h57 (by decide))
  refine j_iload CX 6 dX6_fails_64 rfl ?_
  refine j_ifN_eq CX (by first | assumption | omega | exact b2n_lt _ | exact t2n_lt _) 89 dX6_fails_66 (by decide) (fun h66 => absurd h66 (by decide)) (fun h66 => ?_)
  refine j_iload CX 0 dX6_fails_69 rfl ?_
  refine j_iconst CX dX6_fails_71 (show _ = ((-1) : Int32) by decide) ?_
  refine j_icmp_ne CX 89 dX6_fails_72 (by decide) (fun h72 => absurd h72 (by decide)) (fun h72 => ?_)
  refine j_aload_n CX 2 dX6_fails_75 rfl rfl ?_
  refine j_get CX 0 5 dX6_fails_76 rfl rfl hin6 (by decide) hfl89 rfl ?_
  refine j_sipush CX dX6_fails_79 (show _ = (nI 200 : Int32) by decide) ?_
  refine j_icmpN_ne CX (by first | assumption | omega) (by first | assumption | omega | exact b2n_lt _ | exact t2n_lt _) 89 dX6_fails_82 (by decide) (fun h82 => ?_) (fun h82 => ?_)
  · refine j_iconst CX dX6_fails_89 (show _ = (nI 0 : Int32) by decide) ?_
    refine j_put CX (w' := mW a cI cZ n (nI 0) (nI fc) sp (nI cr) (nI ln) cx (nI jo) (nI wg) sh va (nf C) (nf fw) (nf fz) (nf fh) (nf G) di (nf B) ke (nf dO) (nf fr) (nf ma) (nf st) hf (nf wa) ra ag) 0 0 dX6_fails_90 rfl rfl hin6 tyX6 tyX6_ok nmX6 (by decide) hfl72 rfl rfl rfl rfl (Nat.le_of_ble_eq_true rfl) rfl ?_
    refine j_aload_n CX 2 dX6_fails_93 rfl rfl ?_
    refine j_get CX 0 0 dX6_fails_94 rfl rfl hin6 (by decide) hfl72 rfl ?_
    refine j_ifN_le CX (by first | assumption | omega | exact b2n_lt _ | exact t2n_lt _) 102 dX6_fails_97 (by decide) (fun h97 => ?_) (fun h97 => absurd h97 (by decide))
    refine j_iload CX 6 dX6_fails_102 rfl ?_
    refine j_ifN_eq CX (by first | assumption | omega | exact b2n_lt _ | exact t2n_lt _) 153 dX6_fails_104 (by decide) (fun h104 => absurd h104 (by decide)) (fun h104 => ?_)
    refine j_iload CX 0 dX6_fails_107 rfl ?_
    refine j_iconst CX dX6_fails_109 (show _ = ((-1) : Int32) by decide) ?_
    refine j_icmp_ne CX 153 dX6_fails_110 (by decide) (fun h110 => absurd h110 (by decide)) (fun h110 => ?_)
    refine j_aload_n CX 2 dX6_fails_113 rfl rfl ?_
    refine j_get CX 0 6 dX6_fails_114 rfl rfl hin6 (by decide) hfl19 rfl ?_
    refine j_aload_n CX 2 dX6_fails_117 rfl rfl ?_
    refine j_get CX 0 5 dX6_fails_118 rfl rfl hin6 (by decide) hfl89 rfl ?_
    refine j_iload_n CX 3 dX6_fails_121 rfl rfl ?_
    refine j_iast CX (w' := mW a cI cZ n (nI 0) (nI fc) sp (nI cr) (nI ln) cx (nI jo) (nI wg) sh va (nf C) (upd (nf fw) fc (nI w)) (nf fz) (nf fh) (nf G) di (nf B) ke (nf dO) (nf fr) (nf ma) (nf st) hf (nf wa) ra ag) 4 fc dX6_fails_122 rfl (rfl) (by first | assumption | omega) (by decide) rfl ?_
    refine j_w (show mW a cI cZ n (nI 0) (nI fc) sp (nI cr) (nI ln) cx (nI jo) (nI wg) sh va (nf C) (upd (nf fw) fc (nI w)) (nf fz) (nf fh) (nf G) di (nf B) ke (nf dO) (nf fr) (nf ma) (nf st) hf (nf wa) ra ag = mW a cI cZ n (nI 0) (nI fc) sp (nI cr) (nI ln) cx (nI jo) (nI wg) sh va (nf C) (nf (updN fw fc w)) (nf fz) (nf fh) (nf G) di (nf B) ke (nf dO) (nf fr) (nf ma) (nf st) hf (nf wa) ra ag by rw [nf_upd]) ?_
    refine j_aload_n CX 2 dX6_fails_123 rfl rfl ?_
    refine j_get CX 0 7 dX6_fails_124 rfl rfl hin6 (by decide) hfl22 rfl ?_
    refine j_aload_n CX 2 dX6_fails_127 rfl rfl ?_
    refine j_get CX 0 5 dX6_fails_128 rfl rfl hin6 (by decide) hfl89 rfl ?_
    refine j_iload_n CX 4 dX6_fails_131 rfl rfl ?_
    refine j_iast CX (w' := mW a cI cZ n (nI 0) (nI fc) sp (nI cr) (nI ln) cx (nI jo) (nI wg) sh va (nf C) (nf (updN fw fc w)) (upd (nf fz) fc (nI z)) (nf fh) (nf G) di (nf B) ke (nf dO) (nf fr) (nf ma) (nf st) hf (nf wa) ra ag) 5 fc dX6_fails_132 rfl (rfl) (by first | assumption | omega) (by decide) rfl ?_
    refine j_w (show mW a cI cZ n (nI 0) (nI fc) sp (nI cr) (nI ln) cx (nI jo) (nI wg) sh va (nf C) (nf (updN fw fc w)) (upd (nf fz) fc (nI z)) (nf fh) (nf G) di (nf B) ke (nf dO) (nf fr) (nf ma) (nf st) hf (nf wa) ra ag = mW a cI cZ n (nI 0) (nI fc) sp (nI cr) (nI ln) cx (nI jo) (nI wg) sh va (nf C) (nf (updN fw fc w)) (nf (updN fz fc z)) (nf fh) (nf G) di (nf B) ke (nf dO) (nf fr) (nf ma) (nf st) hf (nf wa) ra ag by rw [nf_upd]) ?_
    refine j_aload_n CX 2 dX6_fails_133 rfl rfl ?_
    refine j_get CX 0 8 dX6_fails_134 rfl rfl hin6 (by decide) hfl25 rfl ?_
    refine j_aload_n CX 2 dX6_fails_137 rfl rfl ?_
    refine j_get CX 0 5 dX6_fails_138 rfl rfl hin6 (by decide) hfl89 rfl ?_
    refine j_iload_n CX 5 dX6_fails_141 rfl rfl ?_
    refine j_iast CX (w' := mW a cI cZ n (nI 0) (nI fc) sp (nI cr) (nI ln) cx (nI jo) (nI wg) sh va (nf C) (nf (updN fw fc w)) (nf (updN fz fc z)) (upd (nf fh) fc (nI h)) (nf G) di (nf B) ke (nf dO) (nf fr) (nf ma) (nf st) hf (nf wa) ra ag) 6 fc dX6_fails_142 rfl (rfl) (by first | assumption | omega) (by decide) rfl ?_
    refine j_w (show mW a cI cZ n (nI 0) (nI fc) sp (nI cr) (nI ln) cx (nI jo) (nI wg) sh va (nf C) (nf (updN fw fc w)) (nf (updN fz fc z)) (upd (nf fh) fc (nI h)) (nf G) di (nf B) ke (nf dO) (nf fr) (nf ma) (nf st) hf (nf wa) ra ag = mW a cI cZ n (nI 0) (nI fc) sp (nI cr) (nI ln) cx (nI jo) (nI wg) sh va (nf C) (nf (updN fw fc w)) (nf (updN fz fc z)) (nf (updN fh fc h)) (nf G) di (nf B) ke (nf dO) (nf fr) (nf ma) (nf st) hf (nf wa) ra ag by rw [nf_upd]) ?_
    refine j_aload_n CX 2 dX6_fails_143 rfl rfl ?_
    refine j_dup CX dX6_fails_144 rfl ?_
    refine j_get CX 0 5 dX6_fails_145 rfl rfl hin6 (by decide) hfl89 rfl ?_
    refine j_iconst CX dX6_fails_148 (show _ = (nI 1 : Int32) by decide) ?_
    refine j_iadd CX dX6_fails_149 ?_
    refine j_top (show (nI fc) + (nI 1) = nI (fc + 1) from nI_add _ _) ?_
    refine j_put CX (w' := mW a cI cZ n (nI 0) (nI (fc + 1)) sp (nI cr) (nI ln) cx (nI jo) (nI wg) sh va (nf C) (nf (updN fw fc w)) (nf (updN fz fc z)) (nf (updN fh fc h)) (nf G) di (nf B) ke (nf dO) (nf fr) (nf ma) (nf st) hf (nf wa) ra ag) 0 5 dX6_fails_150 rfl rfl hin6 tyX6 tyX6_ok nmX6 (by decide) hfl89 rfl rfl rfl rfl (Nat.le_of_ble_eq_true rfl) rfl ?_
    refine j_iload CX 6 dX6_fails_153 rfl ?_
    refine j_ifN_ne CX (by first | assumption | omega | exact b2n_lt _ | exact t2n_lt _) 222 dX6_fails_155 (by decide) (fun h155 => ?_) (fun h155 => absurd h155 (by decide))
    refine j_iload CX 0 dX6_fails_222 rfl ?_
    refine j_iconst CX dX6_fails_224 (show _ = ((-1) : Int32) by decide) ?_
    refine j_icmp_eq CX 232 dX6_fails_225 (by decide) (fun h225 => ?_) (fun h225 => absurd h225 (by decide))
    refine j_iconst CX dX6_fails_232 (show _ = (nI 0 : Int32) by decide) ?_
    exact j_zret CX hr hlocks dX6_fails_233 (rfl) (⟨rfl, rfl⟩)
  · exact absurd h82 (by omega)

set_option maxRecDepth 100000 in
set_option maxHeartbeats 4000000 in
theorem r_fails1x (l : Launch) (D : va_G) (cI cZ cL : ClassId) (a : Nat → Nat) (n : Nat) (thr : Int32) (fc : Nat) (sp : Int32) (cr ln : Nat) (cx : Int32) (jo wg : Nat) (sh va : Nat → Int32) (C fw fz fh G : Nat → Nat) (di : Nat → Int32) (B : Nat → Nat) (ke : Nat → Int32) (dO fr ma st : Nat → Nat) (hf : Nat → Int32) (wa : Nat → Nat) (ra ag : Nat → Int32) (w z h : Nat) (hn : n ≤ 24) (hw : w < 16) (hz : z < n) (hh : h < 1000) (hfc : fc ≤ 200) (hfw : ∀ k, k < fc → fw k < 2 ^ 31) (hfz : ∀ k, k < fc → fz k < 2 ^ 31) (hfh : ∀ k, k < fc → fh k < 2 ^ 31) (hat : fiF fw fz fh w z h fc 0 = -1) (hf2 : fc = 200) : Cg l D cI cZ cL yX6_fails wsX6_fails rmX6_fails [.ref (a 0), .int (nI w), .int (nI z), .int (nI h), .int (nI 1)] (mW a cI cZ n thr (nI fc) sp (nI cr) (nI ln) cx (nI jo) (nI wg) sh va (nf C) (nf fw) (nf fz) (nf fh) (nf G) di (nf B) ke (nf dO) (nf fr) (nf ma) (nf st) hf (nf wa) ra ag) (fun r0 w0 => r0 = some (.int (nI 0)) ∧ w0 = mW a cI cZ n (nI 2) (nI fc) sp (nI cr) (nI ln) cx (nI jo) (nI wg) sh va (nf C) (nf fw) (nf fz) (nf fh) (nf G) di (nf B) ke (nf dO) (nf fr) (nf ma) (nf st) hf (nf wa) ra ag) := by
  refine Cg.ofJ (own := RX6) (cc := cX6_fails) (maxL := 7) (ret := (some .boolean)) (by decide) rfl rfl (Nat.le_of_ble_eq_true rfl) ?_
  intro p e s m args below meth c A CX hr hlocks hname
  have hin6 : ∀ x ∈ u_ws RX6 TX6 27, x ∈ wsX6_fails := by decide +kernel
  have hfl89 : Cond.fieldLink RX6 89 (TX6 5).1 (TX6 5).2.1 (TX6 5).2.2.1 ∈ wsX6_fails := by decide +kernel
  have hfl72 : Cond.fieldLink RX6 72 (TX6 0).1 (TX6 0).2.1 (TX6 0).2.2.1 ∈ wsX6_fails := by decide +kernel
  show J p l e rmX6_fails s m args below meth c D A 7 0 0 (MQ below (jQc D (fun r0 w0 => r0 = some (.int (nI 0)) ∧ w0 = mW a cI cZ n (nI 2) (nI fc) sp (nI cr) (nI ln) cx (nI jo) (nI wg) sh va (nf C) (nf fw) (nf fz) (nf fh) (nf G) di (nf B) ke (nf dO) (nf fr) (nf ma) (nf st) hf (nf wa) ra ag) A) args s rmX6_fails.cells rmX6_fails.slots A) (mW a cI cZ n thr (nI fc) sp (nI cr) (nI ln) cx (nI jo) (nI wg) sh va (nf C) (nf fw) (nf fz) (nf fh) (nf G) di (nf B) ke (nf dO) (nf fr) (nf ma) (nf st) hf (nf wa) ra ag) 0 [(0, .ref (a 0)), (1, .int (nI w)), (2, .int (nI z)), (3, .int (nI h)), (4, .int (nI 1))] []
  refine j_iload_n CX 1 dX6_fails_0 rfl rfl ?_
  refine j_iconst CX dX6_fails_1 (show _ = (nI 0 : Int32) by decide) ?_
  refine j_bipush CX dX6_fails_2 (show _ = (nI 15 : Int32) by decide) ?_
  refine j_callS CX (n := 3) (b := 0) (pre := []) (post := mW a cI cZ n thr (nI fc) sp (nI cr) (nI ln) cx (nI jo) (nI wg) sh va (nf C) (nf fw) (nf fz) (nf fh) (nf G) di (nf B) ke (nf dO) (nf fr) (nf ma) (nf st) hf (nf wa) ra ag) (rest := []) (r_isIn_t l D cI cZ cL (nI w) (nI 0) (nI 15) (nI_nlt (by omega) (by omega)) (nI_nlt (by omega) (by omega))) gX6_fails_X6_isIn rfl (by decide +kernel) ⟨Nat.le_of_ble_eq_true rfl, Nat.le_of_ble_eq_true rfl⟩ rfl rfl rfl (Nat.le_of_ble_eq_true rfl) dX6_fails_4 ⟨Nat.le_refl _, Nat.le_refl _⟩ (fun r9 w9 h9 => ?_)
  obtain ⟨rfl, rfl⟩ := h9
  refine j_w (w' := mW a cI cZ n thr (nI fc) sp (nI cr) (nI ln) cx (nI jo) (nI wg) sh va (nf C) (nf fw) (nf fz) (nf fh) (nf G) di (nf B) ke (nf dO) (nf fr) (nf ma) (nf st) hf (nf wa) ra ag) rfl ?_
  refine j_st (st9 := [.int (nI 1)]) rfl ?_
  refine j_ifN_eq CX (by first | assumption | omega | exact b2n_lt _ | exact t2n_lt _) 33 dX6_fails_7 (by decide) (fun h7 => absurd h7 (by decide)) (fun h7 => ?_)
  refine j_aload_n CX 0 dX6_fails_10 rfl rfl ?_
  refine j_iload_n CX 2 dX6_fails_11 rfl rfl ?_
  refine j_callV CX (n := 1) (pre := []) (post := []) (rest := []) (qc := (RX6, TX6, 27)) (r_nz_f l D cI cZ cL a n thr fc sp cr ln cx jo wg sh va C fw fz fh G di B ke dO fr ma st hf wa ra ag z hn (by omega)) gX6_fails_X6_noZone rfl (by decide +kernel) ⟨Nat.le_of_ble_eq_true rfl, Nat.le_of_ble_eq_true rfl⟩ rfl rfl rfl rfl rfl (Nat.le_of_ble_eq_true rfl) dX6_fails_12 ⟨Nat.le_refl _, Nat.le_refl _⟩ (fun r9 w9 h9 => ?_)
  obtain ⟨rfl, rfl⟩ := h9
  refine j_w (w' := mW a cI cZ n thr (nI fc) sp (nI cr) (nI ln) cx (nI jo) (nI wg) sh va (nf C) (nf fw) (nf fz) (nf fh) (nf G) di (nf B) ke (nf dO) (nf fr) (nf ma) (nf st) hf (nf wa) ra ag) rfl ?_
  refine j_st (st9 := [.int (nI 0)]) rfl ?_
  refine j_ifN_ne CX (by first | assumption | omega | exact b2n_lt _ | exact t2n_lt _) 33 dX6_fails_15 (by decide) (fun h15 => absurd h15 (by decide)) (fun h15 => ?_)
  refine j_iload_n CX 3 dX6_fails_18 rfl rfl ?_
  refine j_iconst CX dX6_fails_19 (show _ = (nI 0 : Int32) by decide) ?_
  refine j_sipush CX dX6_fails_20 (show _ = (nI 999 : Int32) by decide) ?_
  refine j_callS CX (n := 3) (b := 0) (pre := []) (post := mW a cI cZ n thr (nI fc) sp (nI cr) (nI ln) cx (nI jo) (nI wg) sh va (nf C) (nf fw) (nf fz) (nf fh) (nf G) di (nf B) ke (nf dO) (nf fr) (nf ma) (nf st) hf (nf wa) ra ag) (rest := []) (r_isIn_t l D cI cZ cL (nI h) (nI 0) (nI 999) (nI_nlt (by omega) (by omega)) (nI_nlt (by omega) (by omega))) gX6_fails_X6_isIn rfl (by decide +kernel) ⟨Nat.le_of_ble_eq_true rfl, Nat.le_of_ble_eq_true rfl⟩ rfl rfl rfl (Nat.le_of_ble_eq_true rfl) dX6_fails_23 ⟨Nat.le_refl _, Nat.le_refl _⟩ (fun r9 w9 h9 => ?_)
  obtain ⟨rfl, rfl⟩ := h9
  refine j_w (w' := mW a cI cZ n thr (nI fc) sp (nI cr) (nI ln) cx (nI jo) (nI wg) sh va (nf C) (nf fw) (nf fz) (nf fh) (nf G) di (nf B) ke (nf dO) (nf fr) (nf ma) (nf st) hf (nf wa) ra ag) rfl ?_
  refine j_st (st9 := [.int (nI 1)]) rfl ?_
  refine j_ifN_eq CX (by first | assumption | omega | exact b2n_lt _ | exact t2n_lt _) 33 dX6_fails_26 (by decide) (fun h26 => absurd h26 (by decide)) (fun h26 => ?_)
  refine j_iconst CX dX6_fails_29 (show _ = (nI 1 : Int32) by decide) ?_
  refine j_goto CX 34 dX6_fails_30 (by decide) ?_
  refine j_istore CX (lv' := [(5, .int (nI 1)), (0, .ref (a 0)), (1, .int (nI w)), (2, .int (nI z)), (3, .int (nI h)), (4, .int (nI 1))]) dX6_fails_34 (by decide) rfl ?_
  refine j_iload CX 0 dX6_fails_36 rfl ?_
  refine j_ifN_eq CX (by first | assumption | omega | exact b2n_lt _ | exact t2n_lt _) 51 dX6_fails_38 (by decide) (fun h38 => absurd h38 (by decide)) (fun h38 => ?_)
  refine j_aload_n CX 1 dX6_fails_41 rfl rfl ?_
  refine j_iload_n CX 2 dX6_fails_42 rfl rfl ?_
  refine j_iload_n CX 3 dX6_fails_43 rfl rfl ?_
  refine j_iload_n CX 4 dX6_fails_44 rfl rfl ?_
  refine j_callV CX (n := 3) (pre := []) (post := []) (rest := []) (qc := (RX6, TX6, 27)) (r_failing l D cI cZ cL a n thr fc sp cr ln cx jo wg sh va C fw fz fh G di B ke dO fr ma st hf wa ra ag w z h hfc (by omega) (by omega) (by omega) hfw hfz hfh) gX6_fails_X6_failing rfl (by decide +kernel) ⟨Nat.le_of_ble_eq_true rfl, Nat.le_of_ble_eq_true rfl⟩ rfl rfl rfl rfl rfl (Nat.le_of_ble_eq_true rfl) dX6_fails_45 ⟨Nat.le_refl _, Nat.le_refl _⟩ (fun r9 w9 h9 => ?_)
  obtain ⟨rfl, rfl⟩ := h9
  refine j_w (w' := mW a cI cZ n thr (nI fc) sp (nI cr) (nI ln) cx (nI jo) (nI wg) sh va (nf C) (nf fw) (nf fz) (nf fh) (nf G) di (nf B) ke (nf dO) (nf fr) (nf ma) (nf st) hf (nf wa) ra ag) rfl ?_
  refine j_st (st9 := [.int (fiF fw fz fh w z h fc 0)]) rfl ?_
  refine j_top (show (fiF fw fz fh w z h fc 0) = (-1) from hat) ?_
  refine j_goto CX 52 dX6_fails_48 (by decide) ?_
  refine j_istore CX (lv' := [(6, .int (-1)), (5, .int (nI 1)), (0, .ref (a 0)), (1, .int (nI w)), (2, .int (nI z)), (3, .int (nI h)), (4, .int (nI 1))]) dX6_fails_52 (by decide) rfl ?_
  refine j_aload_n CX 2 dX6_fails_54 rfl rfl ?_
  refine j_iload CX 1 dX6_fails_55 rfl ?_
  refine j_ifN_ne CX (by first | assumption | omega | exact b2n_lt _ | exact t2n_lt _) 64 dX6_fails_57 (by decide) (fun h57 => ?_) (fun h57 => absurd h57 (by decide))
  refine j_iload CX 6 dX6_fails_64 rfl ?_
  refine j_ifN_eq CX (by first | assumption | omega | exact b2n_lt _ | exact t2n_lt _) 89 dX6_fails_66 (by decide) (fun h66 => absurd h66 (by decide)) (fun h66 => ?_)
  refine j_iload CX 0 dX6_fails_69 rfl ?_
  refine j_iconst CX dX6_fails_71 (show _ = ((-1) : Int32) by decide) ?_
  refine j_icmp_ne CX 89 dX6_fails_72 (by decide) (fun h72 => absurd h72 (by decide)) (fun h72 => ?_)
  refine j_aload_n CX 2 dX6_fails_75 rfl rfl ?_
  refine j_get CX 0 5 dX6_fails_76 rfl rfl hin6 (by decide) hfl89 rfl ?_
  refine j_sipush CX dX6_fails_79 (show _ = (nI 200 : Int32) by decide) ?_
  refine j_icmpN_ne CX (by first | assumption | omega) (by first | assumption | omega | exact b2n_lt _ | exact t2n_lt _) 89 dX6_fails_82 (by decide) (fun h82 => ?_) (fun h82 => ?_)
  · exact absurd h82 (by omega)
  · refine j_iconst CX dX6_fails_85 (show _ = (nI 2 : Int32) by decide) ?_
    refine j_goto CX 90 dX6_fails_86 (by decide) ?_
    refine j_put CX (w' := mW a cI cZ n (nI 2) (nI fc) sp (nI cr) (nI ln) cx (nI jo) (nI wg) sh va (nf C) (nf fw) (nf fz) (nf fh) (nf G) di (nf B) ke (nf dO) (nf fr) (nf ma) (nf st) hf (nf wa) ra ag) 0 0 dX6_fails_90 rfl rfl hin6 tyX6 tyX6_ok nmX6 (by decide) hfl72 rfl rfl rfl rfl (Nat.le_of_ble_eq_true rfl) rfl ?_
    refine j_aload_n CX 2 dX6_fails_93 rfl rfl ?_
    refine j_get CX 0 0 dX6_fails_94 rfl rfl hin6 (by decide) hfl72 rfl ?_
    refine j_ifN_le CX (by first | assumption | omega | exact b2n_lt _ | exact t2n_lt _) 102 dX6_fails_97 (by decide) (fun h97 => absurd h97 (by decide)) (fun h97 => ?_)
    refine j_iconst CX dX6_fails_100 (show _ = (nI 0 : Int32) by decide) ?_
    exact j_zret CX hr hlocks dX6_fails_101 (rfl) (⟨rfl, rfl⟩)

set_option maxRecDepth 100000 in
set_option maxHeartbeats 4000000 in
theorem r_fails0t (l : Launch) (D : va_G) (cI cZ cL : ClassId) (a : Nat → Nat) (n : Nat) (thr : Int32) (fc : Nat) (sp : Int32) (cr ln : Nat) (cx : Int32) (jo wg : Nat) (sh va : Nat → Int32) (C fw fz fh G : Nat → Nat) (di : Nat → Int32) (B : Nat → Nat) (ke : Nat → Int32) (dO fr ma st : Nat → Nat) (hf : Nat → Int32) (wa : Nat → Nat) (ra ag : Nat → Int32) (w z h : Nat) (hn : n ≤ 24) (hw : w < 16) (hz : z < n) (hh : h < 1000) (hfc : fc ≤ 200) (hfw : ∀ k, k < fc → fw k < 2 ^ 31) (hfz : ∀ k, k < fc → fz k < 2 ^ 31) (hfh : ∀ k, k < fc → fh k < 2 ^ 31) (k : Nat) (hk : k < fc) (hat : fiF fw fz fh w z h fc 0 = nI k) : Cg l D cI cZ cL yX6_fails wsX6_fails rmX6_fails [.ref (a 0), .int (nI w), .int (nI z), .int (nI h), .int (nI 0)] (mW a cI cZ n thr (nI fc) sp (nI cr) (nI ln) cx (nI jo) (nI wg) sh va (nf C) (nf fw) (nf fz) (nf fh) (nf G) di (nf B) ke (nf dO) (nf fr) (nf ma) (nf st) hf (nf wa) ra ag) (fun r0 w0 => r0 = some (.int (nI 1)) ∧ w0 = mW a cI cZ n (nI 0) (nI (fc - 1)) sp (nI cr) (nI ln) cx (nI jo) (nI wg) sh va (nf C) (nf (updN fw k (fw (fc - 1)))) (nf (updN fz k (fz (fc - 1)))) (nf (updN fh k (fh (fc - 1)))) (nf G) di (nf B) ke (nf dO) (nf fr) (nf ma) (nf st) hf (nf wa) ra ag) := by
  refine Cg.ofJ (own := RX6) (cc := cX6_fails) (maxL := 7) (ret := (some .boolean)) (by decide) rfl rfl (Nat.le_of_ble_eq_true rfl) ?_
  intro p e s m args below meth c A CX hr hlocks hname
  have hin6 : ∀ x ∈ u_ws RX6 TX6 27, x ∈ wsX6_fails := by decide +kernel
  have hfl72 : Cond.fieldLink RX6 72 (TX6 0).1 (TX6 0).2.1 (TX6 0).2.2.1 ∈ wsX6_fails := by decide +kernel
  have hfl89 : Cond.fieldLink RX6 89 (TX6 5).1 (TX6 5).2.1 (TX6 5).2.2.1 ∈ wsX6_fails := by decide +kernel
  have hfl19 : Cond.fieldLink RX6 19 (TX6 6).1 (TX6 6).2.1 (TX6 6).2.2.1 ∈ wsX6_fails := by decide +kernel
  have hfl22 : Cond.fieldLink RX6 22 (TX6 7).1 (TX6 7).2.1 (TX6 7).2.2.1 ∈ wsX6_fails := by decide +kernel
  have hfl25 : Cond.fieldLink RX6 25 (TX6 8).1 (TX6 8).2.1 (TX6 8).2.2.1 ∈ wsX6_fails := by decide +kernel
  show J p l e rmX6_fails s m args below meth c D A 7 0 0 (MQ below (jQc D (fun r0 w0 => r0 = some (.int (nI 1)) ∧ w0 = mW a cI cZ n (nI 0) (nI (fc - 1)) sp (nI cr) (nI ln) cx (nI jo) (nI wg) sh va (nf C) (nf (updN fw k (fw (fc - 1)))) (nf (updN fz k (fz (fc - 1)))) (nf (updN fh k (fh (fc - 1)))) (nf G) di (nf B) ke (nf dO) (nf fr) (nf ma) (nf st) hf (nf wa) ra ag) A) args s rmX6_fails.cells rmX6_fails.slots A) (mW a cI cZ n thr (nI fc) sp (nI cr) (nI ln) cx (nI jo) (nI wg) sh va (nf C) (nf fw) (nf fz) (nf fh) (nf G) di (nf B) ke (nf dO) (nf fr) (nf ma) (nf st) hf (nf wa) ra ag) 0 [(0, .ref (a 0)), (1, .int (nI w)), (2, .int (nI z)), (3, .int (nI h)), (4, .int (nI 0))] []
  refine j_iload_n CX 1 dX6_fails_0 rfl rfl ?_
  refine j_iconst CX dX6_fails_1 (show _ = (nI 0 : Int32) by decide) ?_
  refine j_bipush CX dX6_fails_2 (show _ = (nI 15 : Int32) by decide) ?_
  refine j_callS CX (n := 3) (b := 0) (pre := []) (post := mW a cI cZ n thr (nI fc) sp (nI cr) (nI ln) cx (nI jo) (nI wg) sh va (nf C) (nf fw) (nf fz) (nf fh) (nf G) di (nf B) ke (nf dO) (nf fr) (nf ma) (nf st) hf (nf wa) ra ag) (rest := []) (r_isIn_t l D cI cZ cL (nI w) (nI 0) (nI 15) (nI_nlt (by omega) (by omega)) (nI_nlt (by omega) (by omega))) gX6_fails_X6_isIn rfl (by decide +kernel) ⟨Nat.le_of_ble_eq_true rfl, Nat.le_of_ble_eq_true rfl⟩ rfl rfl rfl (Nat.le_of_ble_eq_true rfl) dX6_fails_4 ⟨Nat.le_refl _, Nat.le_refl _⟩ (fun r9 w9 h9 => ?_)
  obtain ⟨rfl, rfl⟩ := h9
  refine j_w (w' := mW a cI cZ n thr (nI fc) sp (nI cr) (nI ln) cx (nI jo) (nI wg) sh va (nf C) (nf fw) (nf fz) (nf fh) (nf G) di (nf B) ke (nf dO) (nf fr) (nf ma) (nf st) hf (nf wa) ra ag) rfl ?_
  refine j_st (st9 := [.int (nI 1)]) rfl ?_
  refine j_ifN_eq CX (by first | assumption | omega | exact b2n_lt _ | exact t2n_lt _) 33 dX6_fails_7 (by decide) (fun h7 => absurd h7 (by decide)) (fun h7 => ?_)
  refine j_aload_n CX 0 dX6_fails_10 rfl rfl ?_
  refine j_iload_n CX 2 dX6_fails_11 rfl rfl ?_
  refine j_callV CX (n := 1) (pre := []) (post := []) (rest := []) (qc := (RX6, TX6, 27)) (r_nz_f l D cI cZ cL a n thr fc sp cr ln cx jo wg sh va C fw fz fh G di B ke dO fr ma st hf wa ra ag z hn (by omega)) gX6_fails_X6_noZone rfl (by decide +kernel) ⟨Nat.le_of_ble_eq_true rfl, Nat.le_of_ble_eq_true rfl⟩ rfl rfl rfl rfl rfl (Nat.le_of_ble_eq_true rfl) dX6_fails_12 ⟨Nat.le_refl _, Nat.le_refl _⟩ (fun r9 w9 h9 => ?_)
  obtain ⟨rfl, rfl⟩ := h9
  refine j_w (w' := mW a cI cZ n thr (nI fc) sp (nI cr) (nI ln) cx (nI jo) (nI wg) sh va (nf C) (nf fw) (nf fz) (nf fh) (nf G) di (nf B) ke (nf dO) (nf fr) (nf ma) (nf st) hf (nf wa) ra ag) rfl ?_
  refine j_st (st9 := [.int (nI 0)]) rfl ?_
  refine j_ifN_ne CX (by first | assumption | omega | exact b2n_lt _ | exact t2n_lt _) 33 dX6_fails_15 (by decide) (fun h15 => absurd h15 (by decide)) (fun h15 => ?_)
  refine j_iload_n CX 3 dX6_fails_18 rfl rfl ?_
  refine j_iconst CX dX6_fails_19 (show _ = (nI 0 : Int32) by decide) ?_
  refine j_sipush CX dX6_fails_20 (show _ = (nI 999 : Int32) by decide) ?_
  refine j_callS CX (n := 3) (b := 0) (pre := []) (post := mW a cI cZ n thr (nI fc) sp (nI cr) (nI ln) cx (nI jo) (nI wg) sh va (nf C) (nf fw) (nf fz) (nf fh) (nf G) di (nf B) ke (nf dO) (nf fr) (nf ma) (nf st) hf (nf wa) ra ag) (rest := []) (r_isIn_t l D cI cZ cL (nI h) (nI 0) (nI 999) (nI_nlt (by omega) (by omega)) (nI_nlt (by omega) (by omega))) gX6_fails_X6_isIn rfl (by decide +kernel) ⟨Nat.le_of_ble_eq_true rfl, Nat.le_of_ble_eq_true rfl⟩ rfl rfl rfl (Nat.le_of_ble_eq_true rfl) dX6_fails_23 ⟨Nat.le_refl _, Nat.le_refl _⟩ (fun r9 w9 h9 => ?_)
  obtain ⟨rfl, rfl⟩ := h9
  refine j_w (w' := mW a cI cZ n thr (nI fc) sp (nI cr) (nI ln) cx (nI jo) (nI wg) sh va (nf C) (nf fw) (nf fz) (nf fh) (nf G) di (nf B) ke (nf dO) (nf fr) (nf ma) (nf st) hf (nf wa) ra ag) rfl ?_
  refine j_st (st9 := [.int (nI 1)]) rfl ?_
  refine j_ifN_eq CX (by first | assumption | omega | exact b2n_lt _ | exact t2n_lt _) 33 dX6_fails_26 (by decide) (fun h26 => absurd h26 (by decide)) (fun h26 => ?_)
  refine j_iconst CX dX6_fails_29 (show _ = (nI 1 : Int32) by decide) ?_
  refine j_goto CX 34 dX6_fails_30 (by decide) ?_
  refine j_istore CX (lv' := [(5, .int (nI 1)), (0, .ref (a 0)), (1, .int (nI w)), (2, .int (nI z)), (3, .int (nI h)), (4, .int (nI 0))]) dX6_fails_34 (by decide) rfl ?_
  refine j_iload CX 0 dX6_fails_36 rfl ?_
  refine j_ifN_eq CX (by first | assumption | omega | exact b2n_lt _ | exact t2n_lt _) 51 dX6_fails_38 (by decide) (fun h38 => absurd h38 (by decide)) (fun h38 => ?_)
  refine j_aload_n CX 1 dX6_fails_41 rfl rfl ?_
  refine j_iload_n CX 2 dX6_fails_42 rfl rfl ?_
  refine j_iload_n CX 3 dX6_fails_43 rfl rfl ?_
  refine j_iload_n CX 4 dX6_fails_44 rfl rfl ?_
  refine j_callV CX (n := 3) (pre := []) (post := []) (rest := []) (qc := (RX6, TX6, 27)) (r_failing l D cI cZ cL a n thr fc sp cr ln cx jo wg sh va C fw fz fh G di B ke dO fr ma st hf wa ra ag w z h hfc (by omega) (by omega) (by omega) hfw hfz hfh) gX6_fails_X6_failing rfl (by decide +kernel) ⟨Nat.le_of_ble_eq_true rfl, Nat.le_of_ble_eq_true rfl⟩ rfl rfl rfl rfl rfl (Nat.le_of_ble_eq_true rfl) dX6_fails_45 ⟨Nat.le_refl _, Nat.le_refl _⟩ (fun r9 w9 h9 => ?_)
  obtain ⟨rfl, rfl⟩ := h9
  refine j_w (w' := mW a cI cZ n thr (nI fc) sp (nI cr) (nI ln) cx (nI jo) (nI wg) sh va (nf C) (nf fw) (nf fz) (nf fh) (nf G) di (nf B) ke (nf dO) (nf fr) (nf ma) (nf st) hf (nf wa) ra ag) rfl ?_
  refine j_st (st9 := [.int (fiF fw fz fh w z h fc 0)]) rfl ?_
  refine j_top (show (fiF fw fz fh w z h fc 0) = nI k from hat) ?_
  refine j_goto CX 52 dX6_fails_48 (by decide) ?_
  refine j_istore CX (lv' := [(6, .int (nI k)), (5, .int (nI 1)), (0, .ref (a 0)), (1, .int (nI w)), (2, .int (nI z)), (3, .int (nI h)), (4, .int (nI 0))]) dX6_fails_52 (by decide) rfl ?_
  refine j_aload_n CX 2 dX6_fails_54 rfl rfl ?_
  refine j_iload CX 1 dX6_fails_55 rfl ?_
  refine j_ifN_ne CX (by first | assumption | omega | exact b2n_lt _ | exact t2n_lt _) 64 dX6_fails_57 (by decide) (fun h57 => ?_) (fun h57 => absurd h57 (by decide))
  refine j_iload CX 6 dX6_fails_64 rfl ?_
  refine j_ifN_eq CX (by first | assumption | omega | exact b2n_lt _ | exact t2n_lt _) 89 dX6_fails_66 (by decide) (fun h66 => ?_) (fun h66 => absurd h66 (by decide))
  refine j_iconst CX dX6_fails_89 (show _ = (nI 0 : Int32) by decide) ?_
  refine j_put CX (w' := mW a cI cZ n (nI 0) (nI fc) sp (nI cr) (nI ln) cx (nI jo) (nI wg) sh va (nf C) (nf fw) (nf fz) (nf fh) (nf G) di (nf B) ke (nf dO) (nf fr) (nf ma) (nf st) hf (nf wa) ra ag) 0 0 dX6_fails_90 rfl rfl hin6 tyX6 tyX6_ok nmX6 (by decide) hfl72 rfl rfl rfl rfl (Nat.le_of_ble_eq_true rfl) rfl ?_
  refine j_aload_n CX 2 dX6_fails_93 rfl rfl ?_
  refine j_get CX 0 0 dX6_fails_94 rfl rfl hin6 (by decide) hfl72 rfl ?_
  refine j_ifN_le CX (by first | assumption | omega | exact b2n_lt _ | exact t2n_lt _) 102 dX6_fails_97 (by decide) (fun h97 => ?_) (fun h97 => absurd h97 (by decide))
  refine j_iload CX 6 dX6_fails_102 rfl ?_
  refine j_ifN_eq CX (by first | assumption | omega | exact b2n_lt _ | exact t2n_lt _) 153 dX6_fails_104 (by decide) (fun h104 => ?_) (fun h104 => absurd h104 (by decide))
  refine j_iload CX 6 dX6_fails_153 rfl ?_
  refine j_ifN_ne CX (by first | assumption | omega | exact b2n_lt _ | exact t2n_lt _) 222 dX6_fails_155 (by decide) (fun h155 => absurd h155 (by decide)) (fun h155 => ?_)
  refine j_iload CX 0 dX6_fails_158 rfl ?_
  refine j_iconst CX dX6_fails_160 (show _ = ((-1) : Int32) by decide) ?_
  refine j_icmp_eq CX 222 dX6_fails_161 (by decide) (fun h161 => absurd h161 (nI_nm1 (by first | assumption | omega))) (fun h161 => ?_)
  refine j_aload_n CX 2 dX6_fails_164 rfl rfl ?_
  refine j_dup CX dX6_fails_165 rfl ?_
  refine j_get CX 0 5 dX6_fails_166 rfl rfl hin6 (by decide) hfl89 rfl ?_
  refine j_iconst CX dX6_fails_169 (show _ = (nI 1 : Int32) by decide) ?_
  refine j_isub CX dX6_fails_170 ?_
  refine j_top (show ((nI fc) - (nI 1)) = nI (fc - 1) from pk_sub (by omega)) ?_
  refine j_put CX (w' := mW a cI cZ n (nI 0) (nI (fc - 1)) sp (nI cr) (nI ln) cx (nI jo) (nI wg) sh va (nf C) (nf fw) (nf fz) (nf fh) (nf G) di (nf B) ke (nf dO) (nf fr) (nf ma) (nf st) hf (nf wa) ra ag) 0 5 dX6_fails_171 rfl rfl hin6 tyX6 tyX6_ok nmX6 (by decide) hfl89 rfl rfl rfl rfl (Nat.le_of_ble_eq_true rfl) rfl ?_
  refine j_aload_n CX 2 dX6_fails_174 rfl rfl ?_
  refine j_get CX 0 6 dX6_fails_175 rfl rfl hin6 (by decide) hfl19 rfl ?_
  refine j_iload CX 0 dX6_fails_178 rfl ?_
  refine j_aload_n CX 2 dX6_fails_180 rfl rfl ?_
  refine j_get CX 0 6 dX6_fails_181 rfl rfl hin6 (by decide) hfl19 rfl ?_
  refine j_aload_n CX 2 dX6_fails_184 rfl rfl ?_
  refine j_get CX 0 5 dX6_fails_185 rfl rfl hin6 (by decide) hfl89 rfl ?_
  refine j_iald CX 4 (fc - 1) dX6_fails_188 rfl (rfl) (by first | assumption | omega) (by decide) ?_
  refine j_iast CX (w' := mW a cI cZ n (nI 0) (nI (fc - 1)) sp (nI cr) (nI ln) cx (nI jo) (nI wg) sh va (nf C) (upd (nf fw) k (nI (fw (fc - 1)))) (nf fz) (nf fh) (nf G) di (nf B) ke (nf dO) (nf fr) (nf ma) (nf st) hf (nf wa) ra ag) 4 k dX6_fails_189 rfl (rfl) (by first | assumption | omega) (by decide) rfl ?_
  refine j_w (show mW a cI cZ n (nI 0) (nI (fc - 1)) sp (nI cr) (nI ln) cx (nI jo) (nI wg) sh va (nf C) (upd (nf fw) k (nI (fw (fc - 1)))) (nf fz) (nf fh) (nf G) di (nf B) ke (nf dO) (nf fr) (nf ma) (nf st) hf (nf wa) ra ag = mW a cI cZ n (nI 0) (nI (fc - 1)) sp (nI cr) (nI ln) cx (nI jo) (nI wg) sh va (nf C) (nf (updN fw k (fw (fc - 1)))) (nf fz) (nf fh) (nf G) di (nf B) ke (nf dO) (nf fr) (nf ma) (nf st) hf (nf wa) ra ag by rw [nf_upd]) ?_
  refine j_aload_n CX 2 dX6_fails_190 rfl rfl ?_
  refine j_get CX 0 7 dX6_fails_191 rfl rfl hin6 (by decide) hfl22 rfl ?_
  refine j_iload CX 0 dX6_fails_194 rfl ?_
  refine j_aload_n CX 2 dX6_fails_196 rfl rfl ?_
  refine j_get CX 0 7 dX6_fails_197 rfl rfl hin6 (by decide) hfl22 rfl ?_
  refine j_aload_n CX 2 dX6_fails_200 rfl rfl ?_
  refine j_get CX 0 5 dX6_fails_201 rfl rfl hin6 (by decide) hfl89 rfl ?_
  refine j_iald CX 5 (fc - 1) dX6_fails_204 rfl (rfl) (by first | assumption | omega) (by decide) ?_
  refine j_iast CX (w' := mW a cI cZ n (nI 0) (nI (fc - 1)) sp (nI cr) (nI ln) cx (nI jo) (nI wg) sh va (nf C) (nf (updN fw k (fw (fc - 1)))) (upd (nf fz) k (nI (fz (fc - 1)))) (nf fh) (nf G) di (nf B) ke (nf dO) (nf fr) (nf ma) (nf st) hf (nf wa) ra ag) 5 k dX6_fails_205 rfl (rfl) (by first | assumption | omega) (by decide) rfl ?_
  refine j_w (show mW a cI cZ n (nI 0) (nI (fc - 1)) sp (nI cr) (nI ln) cx (nI jo) (nI wg) sh va (nf C) (nf (updN fw k (fw (fc - 1)))) (upd (nf fz) k (nI (fz (fc - 1)))) (nf fh) (nf G) di (nf B) ke (nf dO) (nf fr) (nf ma) (nf st) hf (nf wa) ra ag = mW a cI cZ n (nI 0) (nI (fc - 1)) sp (nI cr) (nI ln) cx (nI jo) (nI wg) sh va (nf C) (nf (updN fw k (fw (fc - 1)))) (nf (updN fz k (fz (fc - 1)))) (nf fh) (nf G) di (nf B) ke (nf dO) (nf fr) (nf ma) (nf st) hf (nf wa) ra ag by rw [nf_upd]) ?_
  refine j_aload_n CX 2 dX6_fails_206 rfl rfl ?_
  refine j_get CX 0 8 dX6_fails_207 rfl rfl hin6 (by decide) hfl25 rfl ?_
  refine j_iload CX 0 dX6_fails_210 rfl ?_
  refine j_aload_n CX 2 dX6_fails_212 rfl rfl ?_
  refine j_get CX 0 8 dX6_fails_213 rfl rfl hin6 (by decide) hfl25 rfl ?_
  refine j_aload_n CX 2 dX6_fails_216 rfl rfl ?_
  refine j_get CX 0 5 dX6_fails_217 rfl rfl hin6 (by decide) hfl89 rfl ?_
  refine j_iald CX 6 (fc - 1) dX6_fails_220 rfl (rfl) (by first | assumption | omega) (by decide) ?_
  refine j_iast CX (w' := mW a cI cZ n (nI 0) (nI (fc - 1)) sp (nI cr) (nI ln) cx (nI jo) (nI wg) sh va (nf C) (nf (updN fw k (fw (fc - 1)))) (nf (updN fz k (fz (fc - 1)))) (upd (nf fh) k (nI (fh (fc - 1)))) (nf G) di (nf B) ke (nf dO) (nf fr) (nf ma) (nf st) hf (nf wa) ra ag) 6 k dX6_fails_221 rfl (rfl) (by first | assumption | omega) (by decide) rfl ?_
  refine j_w (show mW a cI cZ n (nI 0) (nI (fc - 1)) sp (nI cr) (nI ln) cx (nI jo) (nI wg) sh va (nf C) (nf (updN fw k (fw (fc - 1)))) (nf (updN fz k (fz (fc - 1)))) (upd (nf fh) k (nI (fh (fc - 1)))) (nf G) di (nf B) ke (nf dO) (nf fr) (nf ma) (nf st) hf (nf wa) ra ag = mW a cI cZ n (nI 0) (nI (fc - 1)) sp (nI cr) (nI ln) cx (nI jo) (nI wg) sh va (nf C) (nf (updN fw k (fw (fc - 1)))) (nf (updN fz k (fz (fc - 1)))) (nf (updN fh k (fh (fc - 1)))) (nf G) di (nf B) ke (nf dO) (nf fr) (nf ma) (nf st) hf (nf wa) ra ag by rw [nf_upd]) ?_
  refine j_iload CX 0 dX6_fails_222 rfl ?_
  refine j_iconst CX dX6_fails_224 (show _ = ((-1) : Int32) by decide) ?_
  refine j_icmp_eq CX 232 dX6_fails_225 (by decide) (fun h225 => absurd h225 (nI_nm1 (by first | assumption | omega))) (fun h225 => ?_)
  refine j_iconst CX dX6_fails_228 (show _ = (nI 1 : Int32) by decide) ?_
  refine j_goto CX 233 dX6_fails_229 (by decide) ?_
  exact j_zret CX hr hlocks dX6_fails_233 (rfl) (⟨rfl, rfl⟩)

set_option maxRecDepth 100000 in
set_option maxHeartbeats 4000000 in
theorem r_fails0f (l : Launch) (D : va_G) (cI cZ cL : ClassId) (a : Nat → Nat) (n : Nat) (thr : Int32) (fc : Nat) (sp : Int32) (cr ln : Nat) (cx : Int32) (jo wg : Nat) (sh va : Nat → Int32) (C fw fz fh G : Nat → Nat) (di : Nat → Int32) (B : Nat → Nat) (ke : Nat → Int32) (dO fr ma st : Nat → Nat) (hf : Nat → Int32) (wa : Nat → Nat) (ra ag : Nat → Int32) (w z h : Nat) (hn : n ≤ 24) (hw : w < 16) (hz : z < n) (hh : h < 1000) (hfc : fc ≤ 200) (hfw : ∀ k, k < fc → fw k < 2 ^ 31) (hfz : ∀ k, k < fc → fz k < 2 ^ 31) (hfh : ∀ k, k < fc → fh k < 2 ^ 31) (hat : fiF fw fz fh w z h fc 0 = -1) : Cg l D cI cZ cL yX6_fails wsX6_fails rmX6_fails [.ref (a 0), .int (nI w), .int (nI z), .int (nI h), .int (nI 0)] (mW a cI cZ n thr (nI fc) sp (nI cr) (nI ln) cx (nI jo) (nI wg) sh va (nf C) (nf fw) (nf fz) (nf fh) (nf G) di (nf B) ke (nf dO) (nf fr) (nf ma) (nf st) hf (nf wa) ra ag) (fun r0 w0 => r0 = some (.int (nI 0)) ∧ w0 = mW a cI cZ n (nI 0) (nI fc) sp (nI cr) (nI ln) cx (nI jo) (nI wg) sh va (nf C) (nf fw) (nf fz) (nf fh) (nf G) di (nf B) ke (nf dO) (nf fr) (nf ma) (nf st) hf (nf wa) ra ag) := by
  refine Cg.ofJ (own := RX6) (cc := cX6_fails) (maxL := 7) (ret := (some .boolean)) (by decide) rfl rfl (Nat.le_of_ble_eq_true rfl) ?_
  intro p e s m args below meth c A CX hr hlocks hname
  have hin6 : ∀ x ∈ u_ws RX6 TX6 27, x ∈ wsX6_fails := by decide +kernel
  have hfl72 : Cond.fieldLink RX6 72 (TX6 0).1 (TX6 0).2.1 (TX6 0).2.2.1 ∈ wsX6_fails := by decide +kernel
  show J p l e rmX6_fails s m args below meth c D A 7 0 0 (MQ below (jQc D (fun r0 w0 => r0 = some (.int (nI 0)) ∧ w0 = mW a cI cZ n (nI 0) (nI fc) sp (nI cr) (nI ln) cx (nI jo) (nI wg) sh va (nf C) (nf fw) (nf fz) (nf fh) (nf G) di (nf B) ke (nf dO) (nf fr) (nf ma) (nf st) hf (nf wa) ra ag) A) args s rmX6_fails.cells rmX6_fails.slots A) (mW a cI cZ n thr (nI fc) sp (nI cr) (nI ln) cx (nI jo) (nI wg) sh va (nf C) (nf fw) (nf fz) (nf fh) (nf G) di (nf B) ke (nf dO) (nf fr) (nf ma) (nf st) hf (nf wa) ra ag) 0 [(0, .ref (a 0)), (1, .int (nI w)), (2, .int (nI z)), (3, .int (nI h)), (4, .int (nI 0))] []
  refine j_iload_n CX 1 dX6_fails_0 rfl rfl ?_
  refine j_iconst CX dX6_fails_1 (show _ = (nI 0 : Int32) by decide) ?_
  refine j_bipush CX dX6_fails_2 (show _ = (nI 15 : Int32) by decide) ?_
  refine j_callS CX (n := 3) (b := 0) (pre := []) (post := mW a cI cZ n thr (nI fc) sp (nI cr) (nI ln) cx (nI jo) (nI wg) sh va (nf C) (nf fw) (nf fz) (nf fh) (nf G) di (nf B) ke (nf dO) (nf fr) (nf ma) (nf st) hf (nf wa) ra ag) (rest := []) (r_isIn_t l D cI cZ cL (nI w) (nI 0) (nI 15) (nI_nlt (by omega) (by omega)) (nI_nlt (by omega) (by omega))) gX6_fails_X6_isIn rfl (by decide +kernel) ⟨Nat.le_of_ble_eq_true rfl, Nat.le_of_ble_eq_true rfl⟩ rfl rfl rfl (Nat.le_of_ble_eq_true rfl) dX6_fails_4 ⟨Nat.le_refl _, Nat.le_refl _⟩ (fun r9 w9 h9 => ?_)
  obtain ⟨rfl, rfl⟩ := h9
  refine j_w (w' := mW a cI cZ n thr (nI fc) sp (nI cr) (nI ln) cx (nI jo) (nI wg) sh va (nf C) (nf fw) (nf fz) (nf fh) (nf G) di (nf B) ke (nf dO) (nf fr) (nf ma) (nf st) hf (nf wa) ra ag) rfl ?_
  refine j_st (st9 := [.int (nI 1)]) rfl ?_
  refine j_ifN_eq CX (by first | assumption | omega | exact b2n_lt _ | exact t2n_lt _) 33 dX6_fails_7 (by decide) (fun h7 => absurd h7 (by decide)) (fun h7 => ?_)
  refine j_aload_n CX 0 dX6_fails_10 rfl rfl ?_
  refine j_iload_n CX 2 dX6_fails_11 rfl rfl ?_
  refine j_callV CX (n := 1) (pre := []) (post := []) (rest := []) (qc := (RX6, TX6, 27)) (r_nz_f l D cI cZ cL a n thr fc sp cr ln cx jo wg sh va C fw fz fh G di B ke dO fr ma st hf wa ra ag z hn (by omega)) gX6_fails_X6_noZone rfl (by decide +kernel) ⟨Nat.le_of_ble_eq_true rfl, Nat.le_of_ble_eq_true rfl⟩ rfl rfl rfl rfl rfl (Nat.le_of_ble_eq_true rfl) dX6_fails_12 ⟨Nat.le_refl _, Nat.le_refl _⟩ (fun r9 w9 h9 => ?_)
  obtain ⟨rfl, rfl⟩ := h9
  refine j_w (w' := mW a cI cZ n thr (nI fc) sp (nI cr) (nI ln) cx (nI jo) (nI wg) sh va (nf C) (nf fw) (nf fz) (nf fh) (nf G) di (nf B) ke (nf dO) (nf fr) (nf ma) (nf st) hf (nf wa) ra ag) rfl ?_
  refine j_st (st9 := [.int (nI 0)]) rfl ?_
  refine j_ifN_ne CX (by first | assumption | omega | exact b2n_lt _ | exact t2n_lt _) 33 dX6_fails_15 (by decide) (fun h15 => absurd h15 (by decide)) (fun h15 => ?_)
  refine j_iload_n CX 3 dX6_fails_18 rfl rfl ?_
  refine j_iconst CX dX6_fails_19 (show _ = (nI 0 : Int32) by decide) ?_
  refine j_sipush CX dX6_fails_20 (show _ = (nI 999 : Int32) by decide) ?_
  refine j_callS CX (n := 3) (b := 0) (pre := []) (post := mW a cI cZ n thr (nI fc) sp (nI cr) (nI ln) cx (nI jo) (nI wg) sh va (nf C) (nf fw) (nf fz) (nf fh) (nf G) di (nf B) ke (nf dO) (nf fr) (nf ma) (nf st) hf (nf wa) ra ag) (rest := []) (r_isIn_t l D cI cZ cL (nI h) (nI 0) (nI 999) (nI_nlt (by omega) (by omega)) (nI_nlt (by omega) (by omega))) gX6_fails_X6_isIn rfl (by decide +kernel) ⟨Nat.le_of_ble_eq_true rfl, Nat.le_of_ble_eq_true rfl⟩ rfl rfl rfl (Nat.le_of_ble_eq_true rfl) dX6_fails_23 ⟨Nat.le_refl _, Nat.le_refl _⟩ (fun r9 w9 h9 => ?_)
  obtain ⟨rfl, rfl⟩ := h9
  refine j_w (w' := mW a cI cZ n thr (nI fc) sp (nI cr) (nI ln) cx (nI jo) (nI wg) sh va (nf C) (nf fw) (nf fz) (nf fh) (nf G) di (nf B) ke (nf dO) (nf fr) (nf ma) (nf st) hf (nf wa) ra ag) rfl ?_
  refine j_st (st9 := [.int (nI 1)]) rfl ?_
  refine j_ifN_eq CX (by first | assumption | omega | exact b2n_lt _ | exact t2n_lt _) 33 dX6_fails_26 (by decide) (fun h26 => absurd h26 (by decide)) (fun h26 => ?_)
  refine j_iconst CX dX6_fails_29 (show _ = (nI 1 : Int32) by decide) ?_
  refine j_goto CX 34 dX6_fails_30 (by decide) ?_
  refine j_istore CX (lv' := [(5, .int (nI 1)), (0, .ref (a 0)), (1, .int (nI w)), (2, .int (nI z)), (3, .int (nI h)), (4, .int (nI 0))]) dX6_fails_34 (by decide) rfl ?_
  refine j_iload CX 0 dX6_fails_36 rfl ?_
  refine j_ifN_eq CX (by first | assumption | omega | exact b2n_lt _ | exact t2n_lt _) 51 dX6_fails_38 (by decide) (fun h38 => absurd h38 (by decide)) (fun h38 => ?_)
  refine j_aload_n CX 1 dX6_fails_41 rfl rfl ?_
  refine j_iload_n CX 2 dX6_fails_42 rfl rfl ?_
  refine j_iload_n CX 3 dX6_fails_43 rfl rfl ?_
  refine j_iload_n CX 4 dX6_fails_44 rfl rfl ?_
  refine j_callV CX (n := 3) (pre := []) (post := []) (rest := []) (qc := (RX6, TX6, 27)) (r_failing l D cI cZ cL a n thr fc sp cr ln cx jo wg sh va C fw fz fh G di B ke dO fr ma st hf wa ra ag w z h hfc (by omega) (by omega) (by omega) hfw hfz hfh) gX6_fails_X6_failing rfl (by decide +kernel) ⟨Nat.le_of_ble_eq_true rfl, Nat.le_of_ble_eq_true rfl⟩ rfl rfl rfl rfl rfl (Nat.le_of_ble_eq_true rfl) dX6_fails_45 ⟨Nat.le_refl _, Nat.le_refl _⟩ (fun r9 w9 h9 => ?_)
  obtain ⟨rfl, rfl⟩ := h9
  refine j_w (w' := mW a cI cZ n thr (nI fc) sp (nI cr) (nI ln) cx (nI jo) (nI wg) sh va (nf C) (nf fw) (nf fz) (nf fh) (nf G) di (nf B) ke (nf dO) (nf fr) (nf ma) (nf st) hf (nf wa) ra ag) rfl ?_
  refine j_st (st9 := [.int (fiF fw fz fh w z h fc 0)]) rfl ?_
  refine j_top (show (fiF fw fz fh w z h fc 0) = (-1) from hat) ?_
  refine j_goto CX 52 dX6_fails_48 (by decide) ?_
  refine j_istore CX (lv' := [(6, .int (-1)), (5, .int (nI 1)), (0, .ref (a 0)), (1, .int (nI w)), (2, .int (nI z)), (3, .int (nI h)), (4, .int (nI 0))]) dX6_fails_52 (by decide) rfl ?_
  refine j_aload_n CX 2 dX6_fails_54 rfl rfl ?_
  refine j_iload CX 1 dX6_fails_55 rfl ?_
  refine j_ifN_ne CX (by first | assumption | omega | exact b2n_lt _ | exact t2n_lt _) 64 dX6_fails_57 (by decide) (fun h57 => ?_) (fun h57 => absurd h57 (by decide))
  refine j_iload CX 6 dX6_fails_64 rfl ?_
  refine j_ifN_eq CX (by first | assumption | omega | exact b2n_lt _ | exact t2n_lt _) 89 dX6_fails_66 (by decide) (fun h66 => ?_) (fun h66 => absurd h66 (by decide))
  refine j_iconst CX dX6_fails_89 (show _ = (nI 0 : Int32) by decide) ?_
  refine j_put CX (w' := mW a cI cZ n (nI 0) (nI fc) sp (nI cr) (nI ln) cx (nI jo) (nI wg) sh va (nf C) (nf fw) (nf fz) (nf fh) (nf G) di (nf B) ke (nf dO) (nf fr) (nf ma) (nf st) hf (nf wa) ra ag) 0 0 dX6_fails_90 rfl rfl hin6 tyX6 tyX6_ok nmX6 (by decide) hfl72 rfl rfl rfl rfl (Nat.le_of_ble_eq_true rfl) rfl ?_
  refine j_aload_n CX 2 dX6_fails_93 rfl rfl ?_
  refine j_get CX 0 0 dX6_fails_94 rfl rfl hin6 (by decide) hfl72 rfl ?_
  refine j_ifN_le CX (by first | assumption | omega | exact b2n_lt _ | exact t2n_lt _) 102 dX6_fails_97 (by decide) (fun h97 => ?_) (fun h97 => absurd h97 (by decide))
  refine j_iload CX 6 dX6_fails_102 rfl ?_
  refine j_ifN_eq CX (by first | assumption | omega | exact b2n_lt _ | exact t2n_lt _) 153 dX6_fails_104 (by decide) (fun h104 => ?_) (fun h104 => absurd h104 (by decide))
  refine j_iload CX 6 dX6_fails_153 rfl ?_
  refine j_ifN_ne CX (by first | assumption | omega | exact b2n_lt _ | exact t2n_lt _) 222 dX6_fails_155 (by decide) (fun h155 => absurd h155 (by decide)) (fun h155 => ?_)
  refine j_iload CX 0 dX6_fails_158 rfl ?_
  refine j_iconst CX dX6_fails_160 (show _ = ((-1) : Int32) by decide) ?_
  refine j_icmp_eq CX 222 dX6_fails_161 (by decide) (fun h161 => ?_) (fun h161 => absurd h161 (by decide))
  refine j_iload CX 0 dX6_fails_222 rfl ?_
  refine j_iconst CX dX6_fails_224 (show _ = ((-1) : Int32) by decide) ?_
  refine j_icmp_eq CX 232 dX6_fails_225 (by decide) (fun h225 => ?_) (fun h225 => absurd h225 (by decide))
  refine j_iconst CX dX6_fails_232 (show _ = (nI 0 : Int32) by decide) ?_
  exact j_zret CX hr hlocks dX6_fails_233 (rfl) (⟨rfl, rfl⟩)

set_option maxRecDepth 100000 in
set_option maxHeartbeats 4000000 in
theorem r_fails_x1 (l : Launch) (D : va_G) (cI cZ cL : ClassId) (a : Nat → Nat) (n : Nat) (thr : Int32) (fc : Nat) (sp : Int32) (cr ln : Nat) (cx : Int32) (jo wg : Nat) (sh va : Nat → Int32) (C fw fz fh G : Nat → Nat) (di : Nat → Int32) (B : Nat → Nat) (ke : Nat → Int32) (dO fr ma st : Nat → Nat) (hf : Nat → Int32) (wa : Nat → Nat) (ra ag : Nat → Int32) (w z h : Int32) (on : Nat) (g : w < nI 0 ∨ nI 15 < w) : Cg l D cI cZ cL yX6_fails wsX6_fails rmX6_fails [.ref (a 0), .int w, .int z, .int h, .int (nI on)] (mW a cI cZ n thr (nI fc) sp (nI cr) (nI ln) cx (nI jo) (nI wg) sh va (nf C) (nf fw) (nf fz) (nf fh) (nf G) di (nf B) ke (nf dO) (nf fr) (nf ma) (nf st) hf (nf wa) ra ag) (fun r0 w0 => r0 = some (.int (nI 0)) ∧ w0 = mW a cI cZ n (nI 1) (nI fc) sp (nI cr) (nI ln) cx (nI jo) (nI wg) sh va (nf C) (nf fw) (nf fz) (nf fh) (nf G) di (nf B) ke (nf dO) (nf fr) (nf ma) (nf st) hf (nf wa) ra ag) := by
  refine Cg.ofJ (own := RX6) (cc := cX6_fails) (maxL := 7) (ret := (some .boolean)) (by decide) rfl rfl (Nat.le_of_ble_eq_true rfl) ?_
  intro p e s m args below meth c A CX hr hlocks hname
  have hin6 : ∀ x ∈ u_ws RX6 TX6 27, x ∈ wsX6_fails := by decide +kernel
  have hfl72 : Cond.fieldLink RX6 72 (TX6 0).1 (TX6 0).2.1 (TX6 0).2.2.1 ∈ wsX6_fails := by decide +kernel
  show J p l e rmX6_fails s m args below meth c D A 7 0 0 (MQ below (jQc D (fun r0 w0 => r0 = some (.int (nI 0)) ∧ w0 = mW a cI cZ n (nI 1) (nI fc) sp (nI cr) (nI ln) cx (nI jo) (nI wg) sh va (nf C) (nf fw) (nf fz) (nf fh) (nf G) di (nf B) ke (nf dO) (nf fr) (nf ma) (nf st) hf (nf wa) ra ag) A) args s rmX6_fails.cells rmX6_fails.slots A) (mW a cI cZ n thr (nI fc) sp (nI cr) (nI ln) cx (nI jo) (nI wg) sh va (nf C) (nf fw) (nf fz) (nf fh) (nf G) di (nf B) ke (nf dO) (nf fr) (nf ma) (nf st) hf (nf wa) ra ag) 0 [(0, .ref (a 0)), (1, .int w), (2, .int z), (3, .int h), (4, .int (nI on))] []
  refine j_iload_n CX 1 dX6_fails_0 rfl rfl ?_
  refine j_iconst CX dX6_fails_1 (show _ = (nI 0 : Int32) by decide) ?_
  refine j_bipush CX dX6_fails_2 (show _ = (nI 15 : Int32) by decide) ?_
  refine j_callS CX (n := 3) (b := 0) (pre := []) (post := mW a cI cZ n thr (nI fc) sp (nI cr) (nI ln) cx (nI jo) (nI wg) sh va (nf C) (nf fw) (nf fz) (nf fh) (nf G) di (nf B) ke (nf dO) (nf fr) (nf ma) (nf st) hf (nf wa) ra ag) (rest := []) (r_isIn_f l D cI cZ cL w (nI 0) (nI 15) (g)) gX6_fails_X6_isIn rfl (by decide +kernel) ⟨Nat.le_of_ble_eq_true rfl, Nat.le_of_ble_eq_true rfl⟩ rfl rfl rfl (Nat.le_of_ble_eq_true rfl) dX6_fails_4 ⟨Nat.le_refl _, Nat.le_refl _⟩ (fun r9 w9 h9 => ?_)
  obtain ⟨rfl, rfl⟩ := h9
  refine j_w (w' := mW a cI cZ n thr (nI fc) sp (nI cr) (nI ln) cx (nI jo) (nI wg) sh va (nf C) (nf fw) (nf fz) (nf fh) (nf G) di (nf B) ke (nf dO) (nf fr) (nf ma) (nf st) hf (nf wa) ra ag) rfl ?_
  refine j_st (st9 := [.int (nI 0)]) rfl ?_
  refine j_ifN_eq CX (by first | assumption | omega | exact b2n_lt _ | exact t2n_lt _) 33 dX6_fails_7 (by decide) (fun h7 => ?_) (fun h7 => absurd h7 (by decide))
  refine j_iconst CX dX6_fails_33 (show _ = (nI 0 : Int32) by decide) ?_
  refine j_istore CX (lv' := [(5, .int (nI 0)), (0, .ref (a 0)), (1, .int w), (2, .int z), (3, .int h), (4, .int (nI on))]) dX6_fails_34 (by decide) rfl ?_
  refine j_iload CX 0 dX6_fails_36 rfl ?_
  refine j_ifN_eq CX (by first | assumption | omega | exact b2n_lt _ | exact t2n_lt _) 51 dX6_fails_38 (by decide) (fun h38 => ?_) (fun h38 => absurd h38 (by decide))
  refine j_iconst CX dX6_fails_51 (show _ = ((-1) : Int32) by decide) ?_
  refine j_istore CX (lv' := [(6, .int (-1)), (5, .int (nI 0)), (0, .ref (a 0)), (1, .int w), (2, .int z), (3, .int h), (4, .int (nI on))]) dX6_fails_52 (by decide) rfl ?_
  refine j_aload_n CX 2 dX6_fails_54 rfl rfl ?_
  refine j_iload CX 1 dX6_fails_55 rfl ?_
  refine j_ifN_ne CX (by first | assumption | omega | exact b2n_lt _ | exact t2n_lt _) 64 dX6_fails_57 (by decide) (fun h57 => absurd h57 (by decide)) (fun h57 => ?_)
  refine j_iconst CX dX6_fails_60 (show _ = (nI 1 : Int32) by decide) ?_
  refine j_goto CX 90 dX6_fails_61 (by decide) ?_
  refine j_put CX (w' := mW a cI cZ n (nI 1) (nI fc) sp (nI cr) (nI ln) cx (nI jo) (nI wg) sh va (nf C) (nf fw) (nf fz) (nf fh) (nf G) di (nf B) ke (nf dO) (nf fr) (nf ma) (nf st) hf (nf wa) ra ag) 0 0 dX6_fails_90 rfl rfl hin6 tyX6 tyX6_ok nmX6 (by decide) hfl72 rfl rfl rfl rfl (Nat.le_of_ble_eq_true rfl) rfl ?_
  refine j_aload_n CX 2 dX6_fails_93 rfl rfl ?_
  refine j_get CX 0 0 dX6_fails_94 rfl rfl hin6 (by decide) hfl72 rfl ?_
  refine j_ifN_le CX (by first | assumption | omega | exact b2n_lt _ | exact t2n_lt _) 102 dX6_fails_97 (by decide) (fun h97 => absurd h97 (by decide)) (fun h97 => ?_)
  refine j_iconst CX dX6_fails_100 (show _ = (nI 0 : Int32) by decide) ?_
  exact j_zret CX hr hlocks dX6_fails_101 (rfl) (⟨rfl, rfl⟩)

set_option maxRecDepth 100000 in
set_option maxHeartbeats 4000000 in
theorem r_fails_x2 (l : Launch) (D : va_G) (cI cZ cL : ClassId) (a : Nat → Nat) (n : Nat) (thr : Int32) (fc : Nat) (sp : Int32) (cr ln : Nat) (cx : Int32) (jo wg : Nat) (sh va : Nat → Int32) (C fw fz fh G : Nat → Nat) (di : Nat → Int32) (B : Nat → Nat) (ke : Nat → Int32) (dO fr ma st : Nat → Nat) (hf : Nat → Int32) (wa : Nat → Nat) (ra ag : Nat → Int32) (w : Nat) (z h : Int32) (on : Nat) (hw : w < 16) (g : z < 0 ∨ nI n ≤ z) : Cg l D cI cZ cL yX6_fails wsX6_fails rmX6_fails [.ref (a 0), .int (nI w), .int z, .int h, .int (nI on)] (mW a cI cZ n thr (nI fc) sp (nI cr) (nI ln) cx (nI jo) (nI wg) sh va (nf C) (nf fw) (nf fz) (nf fh) (nf G) di (nf B) ke (nf dO) (nf fr) (nf ma) (nf st) hf (nf wa) ra ag) (fun r0 w0 => r0 = some (.int (nI 0)) ∧ w0 = mW a cI cZ n (nI 1) (nI fc) sp (nI cr) (nI ln) cx (nI jo) (nI wg) sh va (nf C) (nf fw) (nf fz) (nf fh) (nf G) di (nf B) ke (nf dO) (nf fr) (nf ma) (nf st) hf (nf wa) ra ag) := by
  refine Cg.ofJ (own := RX6) (cc := cX6_fails) (maxL := 7) (ret := (some .boolean)) (by decide) rfl rfl (Nat.le_of_ble_eq_true rfl) ?_
  intro p e s m args below meth c A CX hr hlocks hname
  have hin6 : ∀ x ∈ u_ws RX6 TX6 27, x ∈ wsX6_fails := by decide +kernel
  have hfl72 : Cond.fieldLink RX6 72 (TX6 0).1 (TX6 0).2.1 (TX6 0).2.2.1 ∈ wsX6_fails := by decide +kernel
  show J p l e rmX6_fails s m args below meth c D A 7 0 0 (MQ below (jQc D (fun r0 w0 => r0 = some (.int (nI 0)) ∧ w0 = mW a cI cZ n (nI 1) (nI fc) sp (nI cr) (nI ln) cx (nI jo) (nI wg) sh va (nf C) (nf fw) (nf fz) (nf fh) (nf G) di (nf B) ke (nf dO) (nf fr) (nf ma) (nf st) hf (nf wa) ra ag) A) args s rmX6_fails.cells rmX6_fails.slots A) (mW a cI cZ n thr (nI fc) sp (nI cr) (nI ln) cx (nI jo) (nI wg) sh va (nf C) (nf fw) (nf fz) (nf fh) (nf G) di (nf B) ke (nf dO) (nf fr) (nf ma) (nf st) hf (nf wa) ra ag) 0 [(0, .ref (a 0)), (1, .int (nI w)), (2, .int z), (3, .int h), (4, .int (nI on))] []
  refine j_iload_n CX 1 dX6_fails_0 rfl rfl ?_
  refine j_iconst CX dX6_fails_1 (show _ = (nI 0 : Int32) by decide) ?_
  refine j_bipush CX dX6_fails_2 (show _ = (nI 15 : Int32) by decide) ?_
  refine j_callS CX (n := 3) (b := 0) (pre := []) (post := mW a cI cZ n thr (nI fc) sp (nI cr) (nI ln) cx (nI jo) (nI wg) sh va (nf C) (nf fw) (nf fz) (nf fh) (nf G) di (nf B) ke (nf dO) (nf fr) (nf ma) (nf st) hf (nf wa) ra ag) (rest := []) (r_isIn_t l D cI cZ cL (nI w) (nI 0) (nI 15) (nI_nlt (by omega) (by omega)) (nI_nlt (by omega) (by omega))) gX6_fails_X6_isIn rfl (by decide +kernel) ⟨Nat.le_of_ble_eq_true rfl, Nat.le_of_ble_eq_true rfl⟩ rfl rfl rfl (Nat.le_of_ble_eq_true rfl) dX6_fails_4 ⟨Nat.le_refl _, Nat.le_refl _⟩ (fun r9 w9 h9 => ?_)
  obtain ⟨rfl, rfl⟩ := h9
  refine j_w (w' := mW a cI cZ n thr (nI fc) sp (nI cr) (nI ln) cx (nI jo) (nI wg) sh va (nf C) (nf fw) (nf fz) (nf fh) (nf G) di (nf B) ke (nf dO) (nf fr) (nf ma) (nf st) hf (nf wa) ra ag) rfl ?_
  refine j_st (st9 := [.int (nI 1)]) rfl ?_
  refine j_ifN_eq CX (by first | assumption | omega | exact b2n_lt _ | exact t2n_lt _) 33 dX6_fails_7 (by decide) (fun h7 => absurd h7 (by decide)) (fun h7 => ?_)
  refine j_aload_n CX 0 dX6_fails_10 rfl rfl ?_
  refine j_iload_n CX 2 dX6_fails_11 rfl rfl ?_
  refine j_callV CX (n := 1) (pre := []) (post := []) (rest := []) (qc := (RX6, TX6, 27)) (r_nz_t l D cI cZ cL a n thr fc sp cr ln cx jo wg sh va C fw fz fh G di B ke dO fr ma st hf wa ra ag z (g)) gX6_fails_X6_noZone rfl (by decide +kernel) ⟨Nat.le_of_ble_eq_true rfl, Nat.le_of_ble_eq_true rfl⟩ rfl rfl rfl rfl rfl (Nat.le_of_ble_eq_true rfl) dX6_fails_12 ⟨Nat.le_refl _, Nat.le_refl _⟩ (fun r9 w9 h9 => ?_)
  obtain ⟨rfl, rfl⟩ := h9
  refine j_w (w' := mW a cI cZ n thr (nI fc) sp (nI cr) (nI ln) cx (nI jo) (nI wg) sh va (nf C) (nf fw) (nf fz) (nf fh) (nf G) di (nf B) ke (nf dO) (nf fr) (nf ma) (nf st) hf (nf wa) ra ag) rfl ?_
  refine j_st (st9 := [.int (nI 1)]) rfl ?_
  refine j_ifN_ne CX (by first | assumption | omega | exact b2n_lt _ | exact t2n_lt _) 33 dX6_fails_15 (by decide) (fun h15 => ?_) (fun h15 => absurd h15 (by decide))
  refine j_iconst CX dX6_fails_33 (show _ = (nI 0 : Int32) by decide) ?_
  refine j_istore CX (lv' := [(5, .int (nI 0)), (0, .ref (a 0)), (1, .int (nI w)), (2, .int z), (3, .int h), (4, .int (nI on))]) dX6_fails_34 (by decide) rfl ?_
  refine j_iload CX 0 dX6_fails_36 rfl ?_
  refine j_ifN_eq CX (by first | assumption | omega | exact b2n_lt _ | exact t2n_lt _) 51 dX6_fails_38 (by decide) (fun h38 => ?_) (fun h38 => absurd h38 (by decide))
  refine j_iconst CX dX6_fails_51 (show _ = ((-1) : Int32) by decide) ?_
  refine j_istore CX (lv' := [(6, .int (-1)), (5, .int (nI 0)), (0, .ref (a 0)), (1, .int (nI w)), (2, .int z), (3, .int h), (4, .int (nI on))]) dX6_fails_52 (by decide) rfl ?_
  refine j_aload_n CX 2 dX6_fails_54 rfl rfl ?_
  refine j_iload CX 1 dX6_fails_55 rfl ?_
  refine j_ifN_ne CX (by first | assumption | omega | exact b2n_lt _ | exact t2n_lt _) 64 dX6_fails_57 (by decide) (fun h57 => absurd h57 (by decide)) (fun h57 => ?_)
  refine j_iconst CX dX6_fails_60 (show _ = (nI 1 : Int32) by decide) ?_
  refine j_goto CX 90 dX6_fails_61 (by decide) ?_
  refine j_put CX (w' := mW a cI cZ n (nI 1) (nI fc) sp (nI cr) (nI ln) cx (nI jo) (nI wg) sh va (nf C) (nf fw) (nf fz) (nf fh) (nf G) di (nf B) ke (nf dO) (nf fr) (nf ma) (nf st) hf (nf wa) ra ag) 0 0 dX6_fails_90 rfl rfl hin6 tyX6 tyX6_ok nmX6 (by decide) hfl72 rfl rfl rfl rfl (Nat.le_of_ble_eq_true rfl) rfl ?_
  refine j_aload_n CX 2 dX6_fails_93 rfl rfl ?_
  refine j_get CX 0 0 dX6_fails_94 rfl rfl hin6 (by decide) hfl72 rfl ?_
  refine j_ifN_le CX (by first | assumption | omega | exact b2n_lt _ | exact t2n_lt _) 102 dX6_fails_97 (by decide) (fun h97 => absurd h97 (by decide)) (fun h97 => ?_)
  refine j_iconst CX dX6_fails_100 (show _ = (nI 0 : Int32) by decide) ?_
  exact j_zret CX hr hlocks dX6_fails_101 (rfl) (⟨rfl, rfl⟩)

set_option maxRecDepth 100000 in
set_option maxHeartbeats 4000000 in
theorem r_fails_x3 (l : Launch) (D : va_G) (cI cZ cL : ClassId) (a : Nat → Nat) (n : Nat) (thr : Int32) (fc : Nat) (sp : Int32) (cr ln : Nat) (cx : Int32) (jo wg : Nat) (sh va : Nat → Int32) (C fw fz fh G : Nat → Nat) (di : Nat → Int32) (B : Nat → Nat) (ke : Nat → Int32) (dO fr ma st : Nat → Nat) (hf : Nat → Int32) (wa : Nat → Nat) (ra ag : Nat → Int32) (w z : Nat) (h : Int32) (on : Nat) (hn : n ≤ 24) (hw : w < 16) (hz : z < n) (g : h < nI 0 ∨ nI 999 < h) : Cg l D cI cZ cL yX6_fails wsX6_fails rmX6_fails [.ref (a 0), .int (nI w), .int (nI z), .int h, .int (nI on)] (mW a cI cZ n thr (nI fc) sp (nI cr) (nI ln) cx (nI jo) (nI wg) sh va (nf C) (nf fw) (nf fz) (nf fh) (nf G) di (nf B) ke (nf dO) (nf fr) (nf ma) (nf st) hf (nf wa) ra ag) (fun r0 w0 => r0 = some (.int (nI 0)) ∧ w0 = mW a cI cZ n (nI 1) (nI fc) sp (nI cr) (nI ln) cx (nI jo) (nI wg) sh va (nf C) (nf fw) (nf fz) (nf fh) (nf G) di (nf B) ke (nf dO) (nf fr) (nf ma) (nf st) hf (nf wa) ra ag) := by
  refine Cg.ofJ (own := RX6) (cc := cX6_fails) (maxL := 7) (ret := (some .boolean)) (by decide) rfl rfl (Nat.le_of_ble_eq_true rfl) ?_
  intro p e s m args below meth c A CX hr hlocks hname
  have hin6 : ∀ x ∈ u_ws RX6 TX6 27, x ∈ wsX6_fails := by decide +kernel
  have hfl72 : Cond.fieldLink RX6 72 (TX6 0).1 (TX6 0).2.1 (TX6 0).2.2.1 ∈ wsX6_fails := by decide +kernel
  show J p l e rmX6_fails s m args below meth c D A 7 0 0 (MQ below (jQc D (fun r0 w0 => r0 = some (.int (nI 0)) ∧ w0 = mW a cI cZ n (nI 1) (nI fc) sp (nI cr) (nI ln) cx (nI jo) (nI wg) sh va (nf C) (nf fw) (nf fz) (nf fh) (nf G) di (nf B) ke (nf dO) (nf fr) (nf ma) (nf st) hf (nf wa) ra ag) A) args s rmX6_fails.cells rmX6_fails.slots A) (mW a cI cZ n thr (nI fc) sp (nI cr) (nI ln) cx (nI jo) (nI wg) sh va (nf C) (nf fw) (nf fz) (nf fh) (nf G) di (nf B) ke (nf dO) (nf fr) (nf ma) (nf st) hf (nf wa) ra ag) 0 [(0, .ref (a 0)), (1, .int (nI w)), (2, .int (nI z)), (3, .int h), (4, .int (nI on))] []
  refine j_iload_n CX 1 dX6_fails_0 rfl rfl ?_
  refine j_iconst CX dX6_fails_1 (show _ = (nI 0 : Int32) by decide) ?_
  refine j_bipush CX dX6_fails_2 (show _ = (nI 15 : Int32) by decide) ?_
  refine j_callS CX (n := 3) (b := 0) (pre := []) (post := mW a cI cZ n thr (nI fc) sp (nI cr) (nI ln) cx (nI jo) (nI wg) sh va (nf C) (nf fw) (nf fz) (nf fh) (nf G) di (nf B) ke (nf dO) (nf fr) (nf ma) (nf st) hf (nf wa) ra ag) (rest := []) (r_isIn_t l D cI cZ cL (nI w) (nI 0) (nI 15) (nI_nlt (by omega) (by omega)) (nI_nlt (by omega) (by omega))) gX6_fails_X6_isIn rfl (by decide +kernel) ⟨Nat.le_of_ble_eq_true rfl, Nat.le_of_ble_eq_true rfl⟩ rfl rfl rfl (Nat.le_of_ble_eq_true rfl) dX6_fails_4 ⟨Nat.le_refl _, Nat.le_refl _⟩ (fun r9 w9 h9 => ?_)
  obtain ⟨rfl, rfl⟩ := h9
  refine j_w (w' := mW a cI cZ n thr (nI fc) sp (nI cr) (nI ln) cx (nI jo) (nI wg) sh va (nf C) (nf fw) (nf fz) (nf fh) (nf G) di (nf B) ke (nf dO) (nf fr) (nf ma) (nf st) hf (nf wa) ra ag) rfl ?_
  refine j_st (st9 := [.int (nI 1)]) rfl ?_
  refine j_ifN_eq CX (by first | assumption | omega | exact b2n_lt _ | exact t2n_lt _) 33 dX6_fails_7 (by decide) (fun h7 => absurd h7 (by decide)) (fun h7 => ?_)
  refine j_aload_n CX 0 dX6_fails_10 rfl rfl ?_
  refine j_iload_n CX 2 dX6_fails_11 rfl rfl ?_
  refine j_callV CX (n := 1) (pre := []) (post := []) (rest := []) (qc := (RX6, TX6, 27)) (r_nz_f l D cI cZ cL a n thr fc sp cr ln cx jo wg sh va C fw fz fh G di B ke dO fr ma st hf wa ra ag z hn (by omega)) gX6_fails_X6_noZone rfl (by decide +kernel) ⟨Nat.le_of_ble_eq_true rfl, Nat.le_of_ble_eq_true rfl⟩ rfl rfl rfl rfl rfl (Nat.le_of_ble_eq_true rfl) dX6_fails_12 ⟨Nat.le_refl _, Nat.le_refl _⟩ (fun r9 w9 h9 => ?_)
  obtain ⟨rfl, rfl⟩ := h9
  refine j_w (w' := mW a cI cZ n thr (nI fc) sp (nI cr) (nI ln) cx (nI jo) (nI wg) sh va (nf C) (nf fw) (nf fz) (nf fh) (nf G) di (nf B) ke (nf dO) (nf fr) (nf ma) (nf st) hf (nf wa) ra ag) rfl ?_
  refine j_st (st9 := [.int (nI 0)]) rfl ?_
  refine j_ifN_ne CX (by first | assumption | omega | exact b2n_lt _ | exact t2n_lt _) 33 dX6_fails_15 (by decide) (fun h15 => absurd h15 (by decide)) (fun h15 => ?_)
  refine j_iload_n CX 3 dX6_fails_18 rfl rfl ?_
  refine j_iconst CX dX6_fails_19 (show _ = (nI 0 : Int32) by decide) ?_
  refine j_sipush CX dX6_fails_20 (show _ = (nI 999 : Int32) by decide) ?_
  refine j_callS CX (n := 3) (b := 0) (pre := []) (post := mW a cI cZ n thr (nI fc) sp (nI cr) (nI ln) cx (nI jo) (nI wg) sh va (nf C) (nf fw) (nf fz) (nf fh) (nf G) di (nf B) ke (nf dO) (nf fr) (nf ma) (nf st) hf (nf wa) ra ag) (rest := []) (r_isIn_f l D cI cZ cL h (nI 0) (nI 999) (g)) gX6_fails_X6_isIn rfl (by decide +kernel) ⟨Nat.le_of_ble_eq_true rfl, Nat.le_of_ble_eq_true rfl⟩ rfl rfl rfl (Nat.le_of_ble_eq_true rfl) dX6_fails_23 ⟨Nat.le_refl _, Nat.le_refl _⟩ (fun r9 w9 h9 => ?_)
  obtain ⟨rfl, rfl⟩ := h9
  refine j_w (w' := mW a cI cZ n thr (nI fc) sp (nI cr) (nI ln) cx (nI jo) (nI wg) sh va (nf C) (nf fw) (nf fz) (nf fh) (nf G) di (nf B) ke (nf dO) (nf fr) (nf ma) (nf st) hf (nf wa) ra ag) rfl ?_
  refine j_st (st9 := [.int (nI 0)]) rfl ?_
  refine j_ifN_eq CX (by first | assumption | omega | exact b2n_lt _ | exact t2n_lt _) 33 dX6_fails_26 (by decide) (fun h26 => ?_) (fun h26 => absurd h26 (by decide))
  refine j_iconst CX dX6_fails_33 (show _ = (nI 0 : Int32) by decide) ?_
  refine j_istore CX (lv' := [(5, .int (nI 0)), (0, .ref (a 0)), (1, .int (nI w)), (2, .int (nI z)), (3, .int h), (4, .int (nI on))]) dX6_fails_34 (by decide) rfl ?_
  refine j_iload CX 0 dX6_fails_36 rfl ?_
  refine j_ifN_eq CX (by first | assumption | omega | exact b2n_lt _ | exact t2n_lt _) 51 dX6_fails_38 (by decide) (fun h38 => ?_) (fun h38 => absurd h38 (by decide))
  refine j_iconst CX dX6_fails_51 (show _ = ((-1) : Int32) by decide) ?_
  refine j_istore CX (lv' := [(6, .int (-1)), (5, .int (nI 0)), (0, .ref (a 0)), (1, .int (nI w)), (2, .int (nI z)), (3, .int h), (4, .int (nI on))]) dX6_fails_52 (by decide) rfl ?_
  refine j_aload_n CX 2 dX6_fails_54 rfl rfl ?_
  refine j_iload CX 1 dX6_fails_55 rfl ?_
  refine j_ifN_ne CX (by first | assumption | omega | exact b2n_lt _ | exact t2n_lt _) 64 dX6_fails_57 (by decide) (fun h57 => absurd h57 (by decide)) (fun h57 => ?_)
  refine j_iconst CX dX6_fails_60 (show _ = (nI 1 : Int32) by decide) ?_
  refine j_goto CX 90 dX6_fails_61 (by decide) ?_
  refine j_put CX (w' := mW a cI cZ n (nI 1) (nI fc) sp (nI cr) (nI ln) cx (nI jo) (nI wg) sh va (nf C) (nf fw) (nf fz) (nf fh) (nf G) di (nf B) ke (nf dO) (nf fr) (nf ma) (nf st) hf (nf wa) ra ag) 0 0 dX6_fails_90 rfl rfl hin6 tyX6 tyX6_ok nmX6 (by decide) hfl72 rfl rfl rfl rfl (Nat.le_of_ble_eq_true rfl) rfl ?_
  refine j_aload_n CX 2 dX6_fails_93 rfl rfl ?_
  refine j_get CX 0 0 dX6_fails_94 rfl rfl hin6 (by decide) hfl72 rfl ?_
  refine j_ifN_le CX (by first | assumption | omega | exact b2n_lt _ | exact t2n_lt _) 102 dX6_fails_97 (by decide) (fun h97 => absurd h97 (by decide)) (fun h97 => ?_)
  refine j_iconst CX dX6_fails_100 (show _ = (nI 0 : Int32) by decide) ?_
  exact j_zret CX hr hlocks dX6_fails_101 (rfl) (⟨rfl, rfl⟩)

abbrev rmX6_job : Room := { frames := 1, cells := 0, slots := 0, locals := 22 }
set_option maxRecDepth 100000 in
set_option maxHeartbeats 4000000 in
theorem r_job (l : Launch) (D : va_G) (cI cZ cL : ClassId) (a : Nat → Nat) (n : Nat) (thr : Int32) (fc : Nat) (sp : Int32) (cr ln : Nat) (cx : Int32) (jo wg : Nat) (sh va : Nat → Int32) (C fw fz fh G : Nat → Nat) (di : Nat → Int32) (B : Nat → Nat) (ke : Nat → Int32) (dO fr ma st : Nat → Nat) (hf : Nat → Int32) (wa : Nat → Nat) (ra ag : Nat → Int32) (v : Nat) (hv : v ≤ 100) (hwg : wg < 100) (hjo : jo < 4096) : Cg l D cI cZ cL yX6_job wsX6_job rmX6_job [.ref (a 0), .int (nI v)] (mW a cI cZ n thr (nI fc) sp (nI cr) (nI ln) cx (nI jo) (nI wg) sh va (nf C) (nf fw) (nf fz) (nf fh) (nf G) di (nf B) ke (nf dO) (nf fr) (nf ma) (nf st) hf (nf wa) ra ag) (fun r0 w0 => r0 = some (.int (nI jo)) ∧ w0 = mW a cI cZ n (nI 0) (nI fc) sp (nI cr) (nI ln) cx (nI (jo + 1)) (nI (wg + 1)) sh va (nf C) (nf fw) (nf fz) (nf fh) (nf G) di (nf B) ke (nf dO) (nf fr) (nf ma) (nf st) hf (nf (updN wa jo 1)) (upd ra jo (nI v)) (upd ag jo (nI 0))) := by
  refine Cg.ofJ (own := RX6) (cc := cX6_job) (maxL := 2) (ret := (some .int)) (by decide) rfl rfl (Nat.le_of_ble_eq_true rfl) ?_
  intro p e s m args below meth c A CX hr hlocks hname
  have hin6 : ∀ x ∈ u_ws RX6 TX6 27, x ∈ wsX6_job := by decide +kernel
  have hfl136 : Cond.fieldLink RX6 136 (TX6 23).1 (TX6 23).2.1 (TX6 23).2.2.1 ∈ wsX6_job := by decide +kernel
  have hfl72 : Cond.fieldLink RX6 72 (TX6 0).1 (TX6 0).2.1 (TX6 0).2.2.1 ∈ wsX6_job := by decide +kernel
  have hfl63 : Cond.fieldLink RX6 63 (TX6 25).1 (TX6 25).2.1 (TX6 25).2.2.1 ∈ wsX6_job := by decide +kernel
  have hfl139 : Cond.fieldLink RX6 139 (TX6 22).1 (TX6 22).2.1 (TX6 22).2.2.1 ∈ wsX6_job := by decide +kernel
  have hfl66 : Cond.fieldLink RX6 66 (TX6 26).1 (TX6 26).2.1 (TX6 26).2.2.1 ∈ wsX6_job := by decide +kernel
  have hfl60 : Cond.fieldLink RX6 60 (TX6 24).1 (TX6 24).2.1 (TX6 24).2.2.1 ∈ wsX6_job := by decide +kernel
  show J p l e rmX6_job s m args below meth c D A 2 0 0 (MQ below (jQc D (fun r0 w0 => r0 = some (.int (nI jo)) ∧ w0 = mW a cI cZ n (nI 0) (nI fc) sp (nI cr) (nI ln) cx (nI (jo + 1)) (nI (wg + 1)) sh va (nf C) (nf fw) (nf fz) (nf fh) (nf G) di (nf B) ke (nf dO) (nf fr) (nf ma) (nf st) hf (nf (updN wa jo 1)) (upd ra jo (nI v)) (upd ag jo (nI 0))) A) args s rmX6_job.cells rmX6_job.slots A) (mW a cI cZ n thr (nI fc) sp (nI cr) (nI ln) cx (nI jo) (nI wg) sh va (nf C) (nf fw) (nf fz) (nf fh) (nf G) di (nf B) ke (nf dO) (nf fr) (nf ma) (nf st) hf (nf wa) ra ag) 0 [(0, .ref (a 0)), (1, .int (nI v))] []
  refine j_aload_n CX 0 dX6_job_0 rfl rfl ?_
  refine j_iload_n CX 1 dX6_job_1 rfl rfl ?_
  refine j_iconst CX dX6_job_2 (show _ = (nI 0 : Int32) by decide) ?_
  refine j_bipush CX dX6_job_3 (show _ = (nI 100 : Int32) by decide) ?_
  refine j_callS CX (n := 3) (b := 0) (pre := []) (post := mW a cI cZ n thr (nI fc) sp (nI cr) (nI ln) cx (nI jo) (nI wg) sh va (nf C) (nf fw) (nf fz) (nf fh) (nf G) di (nf B) ke (nf dO) (nf fr) (nf ma) (nf st) hf (nf wa) ra ag) (rest := [.ref (a 0)]) (r_isIn_t l D cI cZ cL (nI v) (nI 0) (nI 100) (nI_nlt (by omega) (by omega)) (nI_nlt (by omega) (by omega))) gX6_job_X6_isIn rfl (by decide +kernel) ⟨Nat.le_of_ble_eq_true rfl, Nat.le_of_ble_eq_true rfl⟩ rfl rfl rfl (Nat.le_of_ble_eq_true rfl) dX6_job_5 ⟨Nat.le_refl _, Nat.le_refl _⟩ (fun r9 w9 h9 => ?_)
  obtain ⟨rfl, rfl⟩ := h9
  refine j_w (w' := mW a cI cZ n thr (nI fc) sp (nI cr) (nI ln) cx (nI jo) (nI wg) sh va (nf C) (nf fw) (nf fz) (nf fh) (nf G) di (nf B) ke (nf dO) (nf fr) (nf ma) (nf st) hf (nf wa) ra ag) rfl ?_
  refine j_st (st9 := [.int (nI 1), .ref (a 0)]) rfl ?_
  refine j_ifN_ne CX (by first | assumption | omega | exact b2n_lt _ | exact t2n_lt _) 15 dX6_job_8 (by decide) (fun h8 => ?_) (fun h8 => absurd h8 (by decide))
  refine j_aload_n CX 0 dX6_job_15 rfl rfl ?_
  refine j_get CX 0 23 dX6_job_16 rfl rfl hin6 (by decide) hfl136 rfl ?_
  refine j_bipush CX dX6_job_19 (show _ = (nI 100 : Int32) by decide) ?_
  refine j_icmpN_ne CX (by first | assumption | omega) (by first | assumption | omega | exact b2n_lt _ | exact t2n_lt _) 28 dX6_job_21 (by decide) (fun h21 => ?_) (fun h21 => ?_)
  · refine j_iconst CX dX6_job_28 (show _ = (nI 0 : Int32) by decide) ?_
    refine j_put CX (w' := mW a cI cZ n (nI 0) (nI fc) sp (nI cr) (nI ln) cx (nI jo) (nI wg) sh va (nf C) (nf fw) (nf fz) (nf fh) (nf G) di (nf B) ke (nf dO) (nf fr) (nf ma) (nf st) hf (nf wa) ra ag) 0 0 dX6_job_29 rfl rfl hin6 tyX6 tyX6_ok nmX6 (by decide) hfl72 rfl rfl rfl rfl (Nat.le_of_ble_eq_true rfl) rfl ?_
    refine j_aload_n CX 0 dX6_job_32 rfl rfl ?_
    refine j_get CX 0 0 dX6_job_33 rfl rfl hin6 (by decide) hfl72 rfl ?_
    refine j_ifN_le CX (by first | assumption | omega | exact b2n_lt _ | exact t2n_lt _) 41 dX6_job_36 (by decide) (fun h36 => ?_) (fun h36 => absurd h36 (by decide))
    refine j_aload_n CX 0 dX6_job_41 rfl rfl ?_
    refine j_get CX 0 25 dX6_job_42 rfl rfl hin6 (by decide) hfl63 rfl ?_
    refine j_aload_n CX 0 dX6_job_45 rfl rfl ?_
    refine j_get CX 0 22 dX6_job_46 rfl rfl hin6 (by decide) hfl139 rfl ?_
    refine j_iload_n CX 1 dX6_job_49 rfl rfl ?_
    refine j_iast CX (w' := mW a cI cZ n (nI 0) (nI fc) sp (nI cr) (nI ln) cx (nI jo) (nI wg) sh va (nf C) (nf fw) (nf fz) (nf fh) (nf G) di (nf B) ke (nf dO) (nf fr) (nf ma) (nf st) hf (nf wa) (upd ra jo (nI v)) ag) 17 jo dX6_job_50 rfl (rfl) (by first | assumption | omega) (by decide) rfl ?_
    refine j_aload_n CX 0 dX6_job_51 rfl rfl ?_
    refine j_get CX 0 26 dX6_job_52 rfl rfl hin6 (by decide) hfl66 rfl ?_
    refine j_aload_n CX 0 dX6_job_55 rfl rfl ?_
    refine j_get CX 0 22 dX6_job_56 rfl rfl hin6 (by decide) hfl139 rfl ?_
    refine j_iconst CX dX6_job_59 (show _ = (nI 0 : Int32) by decide) ?_
    refine j_iast CX (w' := mW a cI cZ n (nI 0) (nI fc) sp (nI cr) (nI ln) cx (nI jo) (nI wg) sh va (nf C) (nf fw) (nf fz) (nf fh) (nf G) di (nf B) ke (nf dO) (nf fr) (nf ma) (nf st) hf (nf wa) (upd ra jo (nI v)) (upd ag jo (nI 0))) 18 jo dX6_job_60 rfl (rfl) (by first | assumption | omega) (by decide) rfl ?_
    refine j_aload_n CX 0 dX6_job_61 rfl rfl ?_
    refine j_get CX 0 24 dX6_job_62 rfl rfl hin6 (by decide) hfl60 rfl ?_
    refine j_aload_n CX 0 dX6_job_65 rfl rfl ?_
    refine j_get CX 0 22 dX6_job_66 rfl rfl hin6 (by decide) hfl139 rfl ?_
    refine j_iconst CX dX6_job_69 (show _ = (nI 1 : Int32) by decide) ?_
    refine j_zast CX (w' := mW a cI cZ n (nI 0) (nI fc) sp (nI cr) (nI ln) cx (nI jo) (nI wg) sh va (nf C) (nf fw) (nf fz) (nf fh) (nf G) di (nf B) ke (nf dO) (nf fr) (nf ma) (nf st) hf (upd (nf wa) jo (vp_nar .boolean (nI 1))) (upd ra jo (nI v)) (upd ag jo (nI 0))) 16 jo dX6_job_70 rfl (rfl) (by first | assumption | omega) (by decide) rfl ?_
    refine j_w (show mW a cI cZ n (nI 0) (nI fc) sp (nI cr) (nI ln) cx (nI jo) (nI wg) sh va (nf C) (nf fw) (nf fz) (nf fh) (nf G) di (nf B) ke (nf dO) (nf fr) (nf ma) (nf st) hf (upd (nf wa) jo (vp_nar .boolean (nI 1))) (upd ra jo (nI v)) (upd ag jo (nI 0)) = mW a cI cZ n (nI 0) (nI fc) sp (nI cr) (nI ln) cx (nI jo) (nI wg) sh va (nf C) (nf fw) (nf fz) (nf fh) (nf G) di (nf B) ke (nf dO) (nf fr) (nf ma) (nf st) hf (nf (updN wa jo 1)) (upd ra jo (nI v)) (upd ag jo (nI 0)) by rw [nar1, nf_upd]) ?_
    refine j_aload_n CX 0 dX6_job_71 rfl rfl ?_
    refine j_dup CX dX6_job_72 rfl ?_
    refine j_get CX 0 23 dX6_job_73 rfl rfl hin6 (by decide) hfl136 rfl ?_
    refine j_iconst CX dX6_job_76 (show _ = (nI 1 : Int32) by decide) ?_
    refine j_iadd CX dX6_job_77 ?_
    refine j_top (show (nI wg) + (nI 1) = nI (wg + 1) from nI_add _ _) ?_
    refine j_put CX (w' := mW a cI cZ n (nI 0) (nI fc) sp (nI cr) (nI ln) cx (nI jo) (nI (wg + 1)) sh va (nf C) (nf fw) (nf fz) (nf fh) (nf G) di (nf B) ke (nf dO) (nf fr) (nf ma) (nf st) hf (nf (updN wa jo 1)) (upd ra jo (nI v)) (upd ag jo (nI 0))) 0 23 dX6_job_78 rfl rfl hin6 tyX6 tyX6_ok nmX6 (by decide) hfl136 rfl rfl rfl rfl (Nat.le_of_ble_eq_true rfl) rfl ?_
    refine j_aload_n CX 0 dX6_job_81 rfl rfl ?_
    refine j_dup CX dX6_job_82 rfl ?_
    refine j_get CX 0 22 dX6_job_83 rfl rfl hin6 (by decide) hfl139 rfl ?_
    refine j_iconst CX dX6_job_86 (show _ = (nI 1 : Int32) by decide) ?_
    refine j_iadd CX dX6_job_87 ?_
    refine j_top (show (nI jo) + (nI 1) = nI (jo + 1) from nI_add _ _) ?_
    refine j_put CX (w' := mW a cI cZ n (nI 0) (nI fc) sp (nI cr) (nI ln) cx (nI (jo + 1)) (nI (wg + 1)) sh va (nf C) (nf fw) (nf fz) (nf fh) (nf G) di (nf B) ke (nf dO) (nf fr) (nf ma) (nf st) hf (nf (updN wa jo 1)) (upd ra jo (nI v)) (upd ag jo (nI 0))) 0 22 dX6_job_88 rfl rfl hin6 tyX6 tyX6_ok nmX6 (by decide) hfl139 rfl rfl rfl rfl (Nat.le_of_ble_eq_true rfl) rfl ?_
    refine j_aload_n CX 0 dX6_job_91 rfl rfl ?_
    refine j_get CX 0 22 dX6_job_92 rfl rfl hin6 (by decide) hfl139 rfl ?_
    refine j_iconst CX dX6_job_95 (show _ = (nI 1 : Int32) by decide) ?_
    refine j_isub CX dX6_job_96 ?_
    refine j_top (show ((nI (jo + 1)) - (nI 1)) = nI jo from nI_m1 _) ?_
    exact j_iret CX hr hlocks dX6_job_97 (⟨rfl, rfl⟩)
  · exact absurd h21 (by omega)

set_option maxRecDepth 100000 in
set_option maxHeartbeats 4000000 in
theorem r_job_x1 (l : Launch) (D : va_G) (cI cZ cL : ClassId) (a : Nat → Nat) (n : Nat) (thr : Int32) (fc : Nat) (sp : Int32) (cr ln : Nat) (cx : Int32) (jo wg : Nat) (sh va : Nat → Int32) (C fw fz fh G : Nat → Nat) (di : Nat → Int32) (B : Nat → Nat) (ke : Nat → Int32) (dO fr ma st : Nat → Nat) (hf : Nat → Int32) (wa : Nat → Nat) (ra ag : Nat → Int32) (v : Int32) (g : v < nI 0 ∨ nI 100 < v) : Cg l D cI cZ cL yX6_job wsX6_job rmX6_job [.ref (a 0), .int v] (mW a cI cZ n thr (nI fc) sp (nI cr) (nI ln) cx (nI jo) (nI wg) sh va (nf C) (nf fw) (nf fz) (nf fh) (nf G) di (nf B) ke (nf dO) (nf fr) (nf ma) (nf st) hf (nf wa) ra ag) (fun r0 w0 => r0 = some (.int (nI 0)) ∧ w0 = mW a cI cZ n (nI 1) (nI fc) sp (nI cr) (nI ln) cx (nI jo) (nI wg) sh va (nf C) (nf fw) (nf fz) (nf fh) (nf G) di (nf B) ke (nf dO) (nf fr) (nf ma) (nf st) hf (nf wa) ra ag) := by
  refine Cg.ofJ (own := RX6) (cc := cX6_job) (maxL := 2) (ret := (some .int)) (by decide) rfl rfl (Nat.le_of_ble_eq_true rfl) ?_
  intro p e s m args below meth c A CX hr hlocks hname
  have hin6 : ∀ x ∈ u_ws RX6 TX6 27, x ∈ wsX6_job := by decide +kernel
  have hfl72 : Cond.fieldLink RX6 72 (TX6 0).1 (TX6 0).2.1 (TX6 0).2.2.1 ∈ wsX6_job := by decide +kernel
  show J p l e rmX6_job s m args below meth c D A 2 0 0 (MQ below (jQc D (fun r0 w0 => r0 = some (.int (nI 0)) ∧ w0 = mW a cI cZ n (nI 1) (nI fc) sp (nI cr) (nI ln) cx (nI jo) (nI wg) sh va (nf C) (nf fw) (nf fz) (nf fh) (nf G) di (nf B) ke (nf dO) (nf fr) (nf ma) (nf st) hf (nf wa) ra ag) A) args s rmX6_job.cells rmX6_job.slots A) (mW a cI cZ n thr (nI fc) sp (nI cr) (nI ln) cx (nI jo) (nI wg) sh va (nf C) (nf fw) (nf fz) (nf fh) (nf G) di (nf B) ke (nf dO) (nf fr) (nf ma) (nf st) hf (nf wa) ra ag) 0 [(0, .ref (a 0)), (1, .int v)] []
  refine j_aload_n CX 0 dX6_job_0 rfl rfl ?_
  refine j_iload_n CX 1 dX6_job_1 rfl rfl ?_
  refine j_iconst CX dX6_job_2 (show _ = (nI 0 : Int32) by decide) ?_
  refine j_bipush CX dX6_job_3 (show _ = (nI 100 : Int32) by decide) ?_
  refine j_callS CX (n := 3) (b := 0) (pre := []) (post := mW a cI cZ n thr (nI fc) sp (nI cr) (nI ln) cx (nI jo) (nI wg) sh va (nf C) (nf fw) (nf fz) (nf fh) (nf G) di (nf B) ke (nf dO) (nf fr) (nf ma) (nf st) hf (nf wa) ra ag) (rest := [.ref (a 0)]) (r_isIn_f l D cI cZ cL v (nI 0) (nI 100) (g)) gX6_job_X6_isIn rfl (by decide +kernel) ⟨Nat.le_of_ble_eq_true rfl, Nat.le_of_ble_eq_true rfl⟩ rfl rfl rfl (Nat.le_of_ble_eq_true rfl) dX6_job_5 ⟨Nat.le_refl _, Nat.le_refl _⟩ (fun r9 w9 h9 => ?_)
  obtain ⟨rfl, rfl⟩ := h9
  refine j_w (w' := mW a cI cZ n thr (nI fc) sp (nI cr) (nI ln) cx (nI jo) (nI wg) sh va (nf C) (nf fw) (nf fz) (nf fh) (nf G) di (nf B) ke (nf dO) (nf fr) (nf ma) (nf st) hf (nf wa) ra ag) rfl ?_
  refine j_st (st9 := [.int (nI 0), .ref (a 0)]) rfl ?_
  refine j_ifN_ne CX (by first | assumption | omega | exact b2n_lt _ | exact t2n_lt _) 15 dX6_job_8 (by decide) (fun h8 => absurd h8 (by decide)) (fun h8 => ?_)
  refine j_iconst CX dX6_job_11 (show _ = (nI 1 : Int32) by decide) ?_
  refine j_goto CX 29 dX6_job_12 (by decide) ?_
  refine j_put CX (w' := mW a cI cZ n (nI 1) (nI fc) sp (nI cr) (nI ln) cx (nI jo) (nI wg) sh va (nf C) (nf fw) (nf fz) (nf fh) (nf G) di (nf B) ke (nf dO) (nf fr) (nf ma) (nf st) hf (nf wa) ra ag) 0 0 dX6_job_29 rfl rfl hin6 tyX6 tyX6_ok nmX6 (by decide) hfl72 rfl rfl rfl rfl (Nat.le_of_ble_eq_true rfl) rfl ?_
  refine j_aload_n CX 0 dX6_job_32 rfl rfl ?_
  refine j_get CX 0 0 dX6_job_33 rfl rfl hin6 (by decide) hfl72 rfl ?_
  refine j_ifN_le CX (by first | assumption | omega | exact b2n_lt _ | exact t2n_lt _) 41 dX6_job_36 (by decide) (fun h36 => absurd h36 (by decide)) (fun h36 => ?_)
  refine j_iconst CX dX6_job_39 (show _ = (nI 0 : Int32) by decide) ?_
  exact j_iret CX hr hlocks dX6_job_40 (⟨rfl, rfl⟩)

set_option maxRecDepth 100000 in
set_option maxHeartbeats 4000000 in
theorem r_job_x2 (l : Launch) (D : va_G) (cI cZ cL : ClassId) (a : Nat → Nat) (n : Nat) (thr : Int32) (fc : Nat) (sp : Int32) (cr ln : Nat) (cx : Int32) (jo : Nat) (sh va : Nat → Int32) (C fw fz fh G : Nat → Nat) (di : Nat → Int32) (B : Nat → Nat) (ke : Nat → Int32) (dO fr ma st : Nat → Nat) (hf : Nat → Int32) (wa : Nat → Nat) (ra ag : Nat → Int32) (v : Nat) (hv : v ≤ 100) : Cg l D cI cZ cL yX6_job wsX6_job rmX6_job [.ref (a 0), .int (nI v)] (mW a cI cZ n thr (nI fc) sp (nI cr) (nI ln) cx (nI jo) (nI 100) sh va (nf C) (nf fw) (nf fz) (nf fh) (nf G) di (nf B) ke (nf dO) (nf fr) (nf ma) (nf st) hf (nf wa) ra ag) (fun r0 w0 => r0 = some (.int (nI 0)) ∧ w0 = mW a cI cZ n (nI 2) (nI fc) sp (nI cr) (nI ln) cx (nI jo) (nI 100) sh va (nf C) (nf fw) (nf fz) (nf fh) (nf G) di (nf B) ke (nf dO) (nf fr) (nf ma) (nf st) hf (nf wa) ra ag) := by
  refine Cg.ofJ (own := RX6) (cc := cX6_job) (maxL := 2) (ret := (some .int)) (by decide) rfl rfl (Nat.le_of_ble_eq_true rfl) ?_
  intro p e s m args below meth c A CX hr hlocks hname
  have hin6 : ∀ x ∈ u_ws RX6 TX6 27, x ∈ wsX6_job := by decide +kernel
  have hfl136 : Cond.fieldLink RX6 136 (TX6 23).1 (TX6 23).2.1 (TX6 23).2.2.1 ∈ wsX6_job := by decide +kernel
  have hfl72 : Cond.fieldLink RX6 72 (TX6 0).1 (TX6 0).2.1 (TX6 0).2.2.1 ∈ wsX6_job := by decide +kernel
  show J p l e rmX6_job s m args below meth c D A 2 0 0 (MQ below (jQc D (fun r0 w0 => r0 = some (.int (nI 0)) ∧ w0 = mW a cI cZ n (nI 2) (nI fc) sp (nI cr) (nI ln) cx (nI jo) (nI 100) sh va (nf C) (nf fw) (nf fz) (nf fh) (nf G) di (nf B) ke (nf dO) (nf fr) (nf ma) (nf st) hf (nf wa) ra ag) A) args s rmX6_job.cells rmX6_job.slots A) (mW a cI cZ n thr (nI fc) sp (nI cr) (nI ln) cx (nI jo) (nI 100) sh va (nf C) (nf fw) (nf fz) (nf fh) (nf G) di (nf B) ke (nf dO) (nf fr) (nf ma) (nf st) hf (nf wa) ra ag) 0 [(0, .ref (a 0)), (1, .int (nI v))] []
  refine j_aload_n CX 0 dX6_job_0 rfl rfl ?_
  refine j_iload_n CX 1 dX6_job_1 rfl rfl ?_
  refine j_iconst CX dX6_job_2 (show _ = (nI 0 : Int32) by decide) ?_
  refine j_bipush CX dX6_job_3 (show _ = (nI 100 : Int32) by decide) ?_
  refine j_callS CX (n := 3) (b := 0) (pre := []) (post := mW a cI cZ n thr (nI fc) sp (nI cr) (nI ln) cx (nI jo) (nI 100) sh va (nf C) (nf fw) (nf fz) (nf fh) (nf G) di (nf B) ke (nf dO) (nf fr) (nf ma) (nf st) hf (nf wa) ra ag) (rest := [.ref (a 0)]) (r_isIn_t l D cI cZ cL (nI v) (nI 0) (nI 100) (nI_nlt (by omega) (by omega)) (nI_nlt (by omega) (by omega))) gX6_job_X6_isIn rfl (by decide +kernel) ⟨Nat.le_of_ble_eq_true rfl, Nat.le_of_ble_eq_true rfl⟩ rfl rfl rfl (Nat.le_of_ble_eq_true rfl) dX6_job_5 ⟨Nat.le_refl _, Nat.le_refl _⟩ (fun r9 w9 h9 => ?_)
  obtain ⟨rfl, rfl⟩ := h9
  refine j_w (w' := mW a cI cZ n thr (nI fc) sp (nI cr) (nI ln) cx (nI jo) (nI 100) sh va (nf C) (nf fw) (nf fz) (nf fh) (nf G) di (nf B) ke (nf dO) (nf fr) (nf ma) (nf st) hf (nf wa) ra ag) rfl ?_
  refine j_st (st9 := [.int (nI 1), .ref (a 0)]) rfl ?_
  refine j_ifN_ne CX (by first | assumption | omega | exact b2n_lt _ | exact t2n_lt _) 15 dX6_job_8 (by decide) (fun h8 => ?_) (fun h8 => absurd h8 (by decide))
  refine j_aload_n CX 0 dX6_job_15 rfl rfl ?_
  refine j_get CX 0 23 dX6_job_16 rfl rfl hin6 (by decide) hfl136 rfl ?_
  refine j_bipush CX dX6_job_19 (show _ = (nI 100 : Int32) by decide) ?_
  refine j_icmpN_ne CX (by first | assumption | omega) (by first | assumption | omega | exact b2n_lt _ | exact t2n_lt _) 28 dX6_job_21 (by decide) (fun h21 => absurd h21 (by decide)) (fun h21 => ?_)
  refine j_iconst CX dX6_job_24 (show _ = (nI 2 : Int32) by decide) ?_
  refine j_goto CX 29 dX6_job_25 (by decide) ?_
  refine j_put CX (w' := mW a cI cZ n (nI 2) (nI fc) sp (nI cr) (nI ln) cx (nI jo) (nI 100) sh va (nf C) (nf fw) (nf fz) (nf fh) (nf G) di (nf B) ke (nf dO) (nf fr) (nf ma) (nf st) hf (nf wa) ra ag) 0 0 dX6_job_29 rfl rfl hin6 tyX6 tyX6_ok nmX6 (by decide) hfl72 rfl rfl rfl rfl (Nat.le_of_ble_eq_true rfl) rfl ?_
  refine j_aload_n CX 0 dX6_job_32 rfl rfl ?_
  refine j_get CX 0 0 dX6_job_33 rfl rfl hin6 (by decide) hfl72 rfl ?_
  refine j_ifN_le CX (by first | assumption | omega | exact b2n_lt _ | exact t2n_lt _) 41 dX6_job_36 (by decide) (fun h36 => absurd h36 (by decide)) (fun h36 => ?_)
  refine j_iconst CX dX6_job_39 (show _ = (nI 0 : Int32) by decide) ?_
  exact j_iret CX hr hlocks dX6_job_40 (⟨rfl, rfl⟩)

abbrev rmX6_age : Room := { frames := 1, cells := 0, slots := 0, locals := 22 }
set_option maxRecDepth 100000 in
set_option maxHeartbeats 4000000 in
theorem r_age (l : Launch) (D : va_G) (cI cZ cL : ClassId) (a : Nat → Nat) (n : Nat) (thr : Int32) (fc : Nat) (sp : Int32) (cr ln : Nat) (cx : Int32) (jo wg : Nat) (sh va : Nat → Int32) (C fw fz fh G : Nat → Nat) (di : Nat → Int32) (B : Nat → Nat) (ke : Nat → Int32) (dO fr ma st : Nat → Nat) (hf : Nat → Int32) (wa : Nat → Nat) (ra ag : Nat → Int32) (j : Nat) (hj : j < jo) (hjo : jo ≤ 4096) (hwa : wa j < 2 ^ 31) : Cg l D cI cZ cL yX6_age wsX6_age rmX6_age [.ref (a 0), .int (nI j)] (mW a cI cZ n thr (nI fc) sp (nI cr) (nI ln) cx (nI jo) (nI wg) sh va (nf C) (nf fw) (nf fz) (nf fh) (nf G) di (nf B) ke (nf dO) (nf fr) (nf ma) (nf st) hf (nf wa) ra ag) (fun r0 w0 => r0 = some (.int (if wa j = 0 then -1 else ag j)) ∧ w0 = mW a cI cZ n (nI 0) (nI fc) sp (nI cr) (nI ln) cx (nI jo) (nI wg) sh va (nf C) (nf fw) (nf fz) (nf fh) (nf G) di (nf B) ke (nf dO) (nf fr) (nf ma) (nf st) hf (nf wa) ra ag) := by
  refine Cg.ofJ (own := RX6) (cc := cX6_age) (maxL := 2) (ret := (some .int)) (by decide) rfl rfl (Nat.le_of_ble_eq_true rfl) ?_
  intro p e s m args below meth c A CX hr hlocks hname
  have hin6 : ∀ x ∈ u_ws RX6 TX6 27, x ∈ wsX6_age := by decide +kernel
  have hfl139 : Cond.fieldLink RX6 139 (TX6 22).1 (TX6 22).2.1 (TX6 22).2.2.1 ∈ wsX6_age := by decide +kernel
  have hfl72 : Cond.fieldLink RX6 72 (TX6 0).1 (TX6 0).2.1 (TX6 0).2.2.1 ∈ wsX6_age := by decide +kernel
  have hfl60 : Cond.fieldLink RX6 60 (TX6 24).1 (TX6 24).2.1 (TX6 24).2.2.1 ∈ wsX6_age := by decide +kernel
  have hfl66 : Cond.fieldLink RX6 66 (TX6 26).1 (TX6 26).2.1 (TX6 26).2.2.1 ∈ wsX6_age := by decide +kernel
  show J p l e rmX6_age s m args below meth c D A 2 0 0 (MQ below (jQc D (fun r0 w0 => r0 = some (.int (if wa j = 0 then -1 else ag j)) ∧ w0 = mW a cI cZ n (nI 0) (nI fc) sp (nI cr) (nI ln) cx (nI jo) (nI wg) sh va (nf C) (nf fw) (nf fz) (nf fh) (nf G) di (nf B) ke (nf dO) (nf fr) (nf ma) (nf st) hf (nf wa) ra ag) A) args s rmX6_age.cells rmX6_age.slots A) (mW a cI cZ n thr (nI fc) sp (nI cr) (nI ln) cx (nI jo) (nI wg) sh va (nf C) (nf fw) (nf fz) (nf fh) (nf G) di (nf B) ke (nf dO) (nf fr) (nf ma) (nf st) hf (nf wa) ra ag) 0 [(0, .ref (a 0)), (1, .int (nI j))] []
  refine j_aload_n CX 0 dX6_age_0 rfl rfl ?_
  refine j_iload_n CX 1 dX6_age_1 rfl rfl ?_
  refine j_iconst CX dX6_age_2 (show _ = (nI 0 : Int32) by decide) ?_
  refine j_aload_n CX 0 dX6_age_3 rfl rfl ?_
  refine j_get CX 0 22 dX6_age_4 rfl rfl hin6 (by decide) hfl139 rfl ?_
  refine j_iconst CX dX6_age_7 (show _ = (nI 1 : Int32) by decide) ?_
  refine j_isub CX dX6_age_8 ?_
  refine j_top (show ((nI jo) - (nI 1)) = nI (jo - 1) from pk_sub (by omega)) ?_
  refine j_callS CX (n := 3) (b := 0) (pre := []) (post := mW a cI cZ n thr (nI fc) sp (nI cr) (nI ln) cx (nI jo) (nI wg) sh va (nf C) (nf fw) (nf fz) (nf fh) (nf G) di (nf B) ke (nf dO) (nf fr) (nf ma) (nf st) hf (nf wa) ra ag) (rest := [.ref (a 0)]) (r_isIn_t l D cI cZ cL (nI j) (nI 0) (nI (jo - 1)) (nI_nlt (by omega) (by omega)) (nI_nlt (by omega) (by omega))) gX6_age_X6_isIn rfl (by decide +kernel) ⟨Nat.le_of_ble_eq_true rfl, Nat.le_of_ble_eq_true rfl⟩ rfl rfl rfl (Nat.le_of_ble_eq_true rfl) dX6_age_9 ⟨Nat.le_refl _, Nat.le_refl _⟩ (fun r9 w9 h9 => ?_)
  obtain ⟨rfl, rfl⟩ := h9
  refine j_w (w' := mW a cI cZ n thr (nI fc) sp (nI cr) (nI ln) cx (nI jo) (nI wg) sh va (nf C) (nf fw) (nf fz) (nf fh) (nf G) di (nf B) ke (nf dO) (nf fr) (nf ma) (nf st) hf (nf wa) ra ag) rfl ?_
  refine j_st (st9 := [.int (nI 1), .ref (a 0)]) rfl ?_
  refine j_ifN_eq CX (by first | assumption | omega | exact b2n_lt _ | exact t2n_lt _) 19 dX6_age_12 (by decide) (fun h12 => absurd h12 (by decide)) (fun h12 => ?_)
  refine j_iconst CX dX6_age_15 (show _ = (nI 0 : Int32) by decide) ?_
  refine j_goto CX 20 dX6_age_16 (by decide) ?_
  refine j_put CX (w' := mW a cI cZ n (nI 0) (nI fc) sp (nI cr) (nI ln) cx (nI jo) (nI wg) sh va (nf C) (nf fw) (nf fz) (nf fh) (nf G) di (nf B) ke (nf dO) (nf fr) (nf ma) (nf st) hf (nf wa) ra ag) 0 0 dX6_age_20 rfl rfl hin6 tyX6 tyX6_ok nmX6 (by decide) hfl72 rfl rfl rfl rfl (Nat.le_of_ble_eq_true rfl) rfl ?_
  refine j_aload_n CX 0 dX6_age_23 rfl rfl ?_
  refine j_get CX 0 0 dX6_age_24 rfl rfl hin6 (by decide) hfl72 rfl ?_
  refine j_ifN_le CX (by first | assumption | omega | exact b2n_lt _ | exact t2n_lt _) 34 dX6_age_27 (by decide) (fun h27 => ?_) (fun h27 => absurd h27 (by decide))
  refine j_aload_n CX 0 dX6_age_34 rfl rfl ?_
  refine j_get CX 0 24 dX6_age_35 rfl rfl hin6 (by decide) hfl60 rfl ?_
  refine j_iload_n CX 1 dX6_age_38 rfl rfl ?_
  refine j_zald CX 16 j dX6_age_39 rfl (rfl) (by first | assumption | omega) (by decide) ?_
  refine j_ifN_eq CX (by first | assumption | omega | exact b2n_lt _ | exact t2n_lt _) 52 dX6_age_40 (by decide) (fun h40 => ?_) (fun h40 => ?_)
  · refine j_iconst CX dX6_age_52 (show _ = ((-1) : Int32) by decide) ?_
    exact j_iret CX hr hlocks dX6_age_53 (⟨by rw [if_pos h40], rfl⟩)
  · refine j_aload_n CX 0 dX6_age_43 rfl rfl ?_
    refine j_get CX 0 26 dX6_age_44 rfl rfl hin6 (by decide) hfl66 rfl ?_
    refine j_iload_n CX 1 dX6_age_47 rfl rfl ?_
    refine j_iald CX 18 j dX6_age_48 rfl (rfl) (by first | assumption | omega) (by decide) ?_
    refine j_goto CX 53 dX6_age_49 (by decide) ?_
    exact j_iret CX hr hlocks dX6_age_53 (⟨by rw [if_neg h40], rfl⟩)

set_option maxRecDepth 100000 in
set_option maxHeartbeats 4000000 in
theorem r_age_x (l : Launch) (D : va_G) (cI cZ cL : ClassId) (a : Nat → Nat) (n : Nat) (thr : Int32) (fc : Nat) (sp : Int32) (cr ln : Nat) (cx : Int32) (jo wg : Nat) (sh va : Nat → Int32) (C fw fz fh G : Nat → Nat) (di : Nat → Int32) (B : Nat → Nat) (ke : Nat → Int32) (dO fr ma st : Nat → Nat) (hf : Nat → Int32) (wa : Nat → Nat) (ra ag : Nat → Int32) (v : Int32) (g : v < nI 0 ∨ nI jo - nI 1 < v) : Cg l D cI cZ cL yX6_age wsX6_age rmX6_age [.ref (a 0), .int v] (mW a cI cZ n thr (nI fc) sp (nI cr) (nI ln) cx (nI jo) (nI wg) sh va (nf C) (nf fw) (nf fz) (nf fh) (nf G) di (nf B) ke (nf dO) (nf fr) (nf ma) (nf st) hf (nf wa) ra ag) (fun r0 w0 => r0 = some (.int (nI 0)) ∧ w0 = mW a cI cZ n (nI 1) (nI fc) sp (nI cr) (nI ln) cx (nI jo) (nI wg) sh va (nf C) (nf fw) (nf fz) (nf fh) (nf G) di (nf B) ke (nf dO) (nf fr) (nf ma) (nf st) hf (nf wa) ra ag) := by
  refine Cg.ofJ (own := RX6) (cc := cX6_age) (maxL := 2) (ret := (some .int)) (by decide) rfl rfl (Nat.le_of_ble_eq_true rfl) ?_
  intro p e s m args below meth c A CX hr hlocks hname
  have hin6 : ∀ x ∈ u_ws RX6 TX6 27, x ∈ wsX6_age := by decide +kernel
  have hfl139 : Cond.fieldLink RX6 139 (TX6 22).1 (TX6 22).2.1 (TX6 22).2.2.1 ∈ wsX6_age := by decide +kernel
  have hfl72 : Cond.fieldLink RX6 72 (TX6 0).1 (TX6 0).2.1 (TX6 0).2.2.1 ∈ wsX6_age := by decide +kernel
  show J p l e rmX6_age s m args below meth c D A 2 0 0 (MQ below (jQc D (fun r0 w0 => r0 = some (.int (nI 0)) ∧ w0 = mW a cI cZ n (nI 1) (nI fc) sp (nI cr) (nI ln) cx (nI jo) (nI wg) sh va (nf C) (nf fw) (nf fz) (nf fh) (nf G) di (nf B) ke (nf dO) (nf fr) (nf ma) (nf st) hf (nf wa) ra ag) A) args s rmX6_age.cells rmX6_age.slots A) (mW a cI cZ n thr (nI fc) sp (nI cr) (nI ln) cx (nI jo) (nI wg) sh va (nf C) (nf fw) (nf fz) (nf fh) (nf G) di (nf B) ke (nf dO) (nf fr) (nf ma) (nf st) hf (nf wa) ra ag) 0 [(0, .ref (a 0)), (1, .int v)] []
  refine j_aload_n CX 0 dX6_age_0 rfl rfl ?_
  refine j_iload_n CX 1 dX6_age_1 rfl rfl ?_
  refine j_iconst CX dX6_age_2 (show _ = (nI 0 : Int32) by decide) ?_
  refine j_aload_n CX 0 dX6_age_3 rfl rfl ?_
  refine j_get CX 0 22 dX6_age_4 rfl rfl hin6 (by decide) hfl139 rfl ?_
  refine j_iconst CX dX6_age_7 (show _ = (nI 1 : Int32) by decide) ?_
  refine j_isub CX dX6_age_8 ?_
  refine j_callS CX (n := 3) (b := 0) (pre := []) (post := mW a cI cZ n thr (nI fc) sp (nI cr) (nI ln) cx (nI jo) (nI wg) sh va (nf C) (nf fw) (nf fz) (nf fh) (nf G) di (nf B) ke (nf dO) (nf fr) (nf ma) (nf st) hf (nf wa) ra ag) (rest := [.ref (a 0)]) (r_isIn_f l D cI cZ cL v (nI 0) ((nI jo) - (nI 1)) (g)) gX6_age_X6_isIn rfl (by decide +kernel) ⟨Nat.le_of_ble_eq_true rfl, Nat.le_of_ble_eq_true rfl⟩ rfl rfl rfl (Nat.le_of_ble_eq_true rfl) dX6_age_9 ⟨Nat.le_refl _, Nat.le_refl _⟩ (fun r9 w9 h9 => ?_)
  obtain ⟨rfl, rfl⟩ := h9
  refine j_w (w' := mW a cI cZ n thr (nI fc) sp (nI cr) (nI ln) cx (nI jo) (nI wg) sh va (nf C) (nf fw) (nf fz) (nf fh) (nf G) di (nf B) ke (nf dO) (nf fr) (nf ma) (nf st) hf (nf wa) ra ag) rfl ?_
  refine j_st (st9 := [.int (nI 0), .ref (a 0)]) rfl ?_
  refine j_ifN_eq CX (by first | assumption | omega | exact b2n_lt _ | exact t2n_lt _) 19 dX6_age_12 (by decide) (fun h12 => ?_) (fun h12 => absurd h12 (by decide))
  refine j_iconst CX dX6_age_19 (show _ = (nI 1 : Int32) by decide) ?_
  refine j_put CX (w' := mW a cI cZ n (nI 1) (nI fc) sp (nI cr) (nI ln) cx (nI jo) (nI wg) sh va (nf C) (nf fw) (nf fz) (nf fh) (nf G) di (nf B) ke (nf dO) (nf fr) (nf ma) (nf st) hf (nf wa) ra ag) 0 0 dX6_age_20 rfl rfl hin6 tyX6 tyX6_ok nmX6 (by decide) hfl72 rfl rfl rfl rfl (Nat.le_of_ble_eq_true rfl) rfl ?_
  refine j_aload_n CX 0 dX6_age_23 rfl rfl ?_
  refine j_get CX 0 0 dX6_age_24 rfl rfl hin6 (by decide) hfl72 rfl ?_
  refine j_ifN_le CX (by first | assumption | omega | exact b2n_lt _ | exact t2n_lt _) 34 dX6_age_27 (by decide) (fun h27 => absurd h27 (by decide)) (fun h27 => ?_)
  refine j_iconst CX dX6_age_30 (show _ = (nI 0 : Int32) by decide) ?_
  refine j_goto CX 53 dX6_age_31 (by decide) ?_
  exact j_iret CX hr hlocks dX6_age_53 (⟨rfl, rfl⟩)

abbrev rmX6_take : Room := { frames := 0, cells := 0, slots := 0, locals := 0 }
set_option maxRecDepth 100000 in
set_option maxHeartbeats 4000000 in
theorem r_take0 (l : Launch) (D : va_G) (cI cZ cL : ClassId) (a : Nat → Nat) (n : Nat) (thr : Int32) (fc : Nat) (sp : Int32) (cr ln : Nat) (cx : Int32) (jo wg : Nat) (sh va : Nat → Int32) (C fw fz fh G : Nat → Nat) (di : Nat → Int32) (B : Nat → Nat) (ke : Nat → Int32) (dO fr ma st : Nat → Nat) (hf : Nat → Int32) (wa : Nat → Nat) (ra ag : Nat → Int32) (hjo : jo ≤ 4096) (hwa : ∀ k, k < jo → wa k < 2 ^ 31) (hT : tbN wa ra ag jo = 0) : Cg l D cI cZ cL yX6_take wsX6_take rmX6_take [.ref (a 0)] (mW a cI cZ n thr (nI fc) sp (nI cr) (nI ln) cx (nI jo) (nI wg) sh va (nf C) (nf fw) (nf fz) (nf fh) (nf G) di (nf B) ke (nf dO) (nf fr) (nf ma) (nf st) hf (nf wa) ra ag) (fun r0 w0 => r0 = some (.int (-1)) ∧ w0 = mW a cI cZ n (nI 0) (nI fc) sp (nI cr) (nI ln) cx (nI jo) (nI wg) sh va (nf C) (nf fw) (nf fz) (nf fh) (nf G) di (nf B) ke (nf dO) (nf fr) (nf ma) (nf st) hf (nf wa) ra (taF wa 0 ag jo)) := by
  refine Cg.ofJ (own := RX6) (cc := cX6_take) (maxL := 3) (ret := (some .int)) (by decide) rfl rfl (Nat.le_of_ble_eq_true rfl) ?_
  intro p e s m args below meth c A CX hr hlocks hname
  have hin6 : ∀ x ∈ u_ws RX6 TX6 27, x ∈ wsX6_take := by decide +kernel
  have hfl139 : Cond.fieldLink RX6 139 (TX6 22).1 (TX6 22).2.1 (TX6 22).2.2.1 ∈ wsX6_take := by decide +kernel
  have hfl66 : Cond.fieldLink RX6 66 (TX6 26).1 (TX6 26).2.1 (TX6 26).2.2.1 ∈ wsX6_take := by decide +kernel
  have hfl60 : Cond.fieldLink RX6 60 (TX6 24).1 (TX6 24).2.1 (TX6 24).2.2.1 ∈ wsX6_take := by decide +kernel
  have hfl63 : Cond.fieldLink RX6 63 (TX6 25).1 (TX6 25).2.1 (TX6 25).2.2.1 ∈ wsX6_take := by decide +kernel
  have hfl72 : Cond.fieldLink RX6 72 (TX6 0).1 (TX6 0).2.1 (TX6 0).2.2.1 ∈ wsX6_take := by decide +kernel
  have hTB := tbN_le wa ra ag jo
  have L70 : ∀ (d70 : Nat) (k9 : Nat), jo - k9 = d70 → k9 ≤ jo → J p l e rmX6_take s m args below meth c D A 3 0 0 (MQ below (jQc D (fun r0 w0 => r0 = some (.int (-1)) ∧ w0 = mW a cI cZ n (nI 0) (nI fc) sp (nI cr) (nI ln) cx (nI jo) (nI wg) sh va (nf C) (nf fw) (nf fz) (nf fh) (nf G) di (nf B) ke (nf dO) (nf fr) (nf ma) (nf st) hf (nf wa) ra (taF wa 0 ag jo)) A) args s rmX6_take.cells rmX6_take.slots A) (mW a cI cZ n (nI 0) (nI fc) sp (nI cr) (nI ln) cx (nI jo) (nI wg) sh va (nf C) (nf fw) (nf fz) (nf fh) (nf G) di (nf B) ke (nf dO) (nf fr) (nf ma) (nf st) hf (nf wa) ra (taF wa (tbN wa ra ag jo) ag k9)) 70 [(2, .int (nI k9)), (1, .int (nI (tbN wa ra ag jo) - nI 1)), (0, .ref (a 0))] [] := by
    intro d70
    induction d70 using Nat.strongRecOn with
    | _ d70 ih70 =>
      intro k9 hd hk
      refine j_iload_n CX 0 dX6_take_70 rfl rfl ?_
      refine j_aload_n CX 2 dX6_take_71 rfl rfl ?_
      refine j_get CX 0 22 dX6_take_72 rfl rfl hin6 (by decide) hfl139 rfl ?_
      refine j_icmpN_ge CX (by first | assumption | omega) (by first | assumption | omega | exact b2n_lt _ | exact t2n_lt _) 121 dX6_take_75 (by decide) (fun h75 => ?_) (fun h75 => ?_)
      · refine j_iload_n CX 1 dX6_take_121 rfl rfl ?_
        refine j_iconst CX dX6_take_122 (show _ = ((-1) : Int32) by decide) ?_
        refine j_icmp_eq CX 143 dX6_take_123 (by decide) (fun h123 => ?_) (fun h123 => ?_)
        · refine j_iload_n CX 1 dX6_take_143 rfl rfl ?_
          exact j_iret CX hr hlocks dX6_take_144 (⟨by rw [(bI_m1 (by omega)).mpr hT], by rw [show jo = k9 by omega] at hT ⊢; rw [hT]⟩)
        · exact absurd ((bI_m1 (by omega)).mpr hT) h123
      · have e2 := hwa k9 (by omega)
        refine j_aload_n CX 2 dX6_take_78 rfl rfl ?_
        refine j_get CX 0 26 dX6_take_79 rfl rfl hin6 (by decide) hfl66 rfl ?_
        refine j_iload_n CX 0 dX6_take_82 rfl rfl ?_
        refine j_aload_n CX 2 dX6_take_83 rfl rfl ?_
        refine j_get CX 0 24 dX6_take_84 rfl rfl hin6 (by decide) hfl60 rfl ?_
        refine j_iload_n CX 0 dX6_take_87 rfl rfl ?_
        refine j_zald CX 16 k9 dX6_take_88 rfl (rfl) (by first | assumption | omega) (by decide) ?_
        refine j_ifN_eq CX (by first | assumption | omega | exact b2n_lt _ | exact t2n_lt _) 108 dX6_take_89 (by decide) (fun h89 => ?_) (fun h89 => ?_)
        · refine j_aload_n CX 2 dX6_take_108 rfl rfl ?_
          refine j_get CX 0 26 dX6_take_109 rfl rfl hin6 (by decide) hfl66 rfl ?_
          refine j_iload_n CX 0 dX6_take_112 rfl rfl ?_
          refine j_iald CX 18 k9 dX6_take_113 rfl (rfl) (by first | assumption | omega) (by decide) ?_
          refine j_top (show ((taF wa (tbN wa ra ag jo) ag k9) k9) = (if wa k9 ≠ 0 ∧ k9 + 1 ≠ tbN wa ra ag jo then taF wa (tbN wa ra ag jo) ag k9 k9 + nI 1 else taF wa (tbN wa ra ag jo) ag k9 k9) by rw [if_neg]; rintro ⟨q1, q2⟩; first | exact absurd h89 q1 | exact absurd ((bI_eq (by omega) (by omega)).mp h94) q2) ?_
          refine j_iast CX (w' := mW a cI cZ n (nI 0) (nI fc) sp (nI cr) (nI ln) cx (nI jo) (nI wg) sh va (nf C) (nf fw) (nf fz) (nf fh) (nf G) di (nf B) ke (nf dO) (nf fr) (nf ma) (nf st) hf (nf wa) ra (upd (taF wa (tbN wa ra ag jo) ag k9) k9 (if wa k9 ≠ 0 ∧ k9 + 1 ≠ tbN wa ra ag jo then taF wa (tbN wa ra ag jo) ag k9 k9 + nI 1 else taF wa (tbN wa ra ag jo) ag k9 k9))) 18 k9 dX6_take_114 rfl (rfl) (by first | assumption | omega) (by decide) rfl ?_
          refine j_iinc CX (v := nI (k9 + 1)) (lv' := [(2, .int (nI (k9 + 1))), (1, .int (nI (tbN wa ra ag jo) - nI 1)), (0, .ref (a 0))]) 0 dX6_take_115 rfl (nI_1 _) (by decide) rfl ?_
          refine j_goto CX 70 dX6_take_118 (by decide) ?_
          exact ih70 _ (by omega) (k9 + 1) rfl (by omega)
        · refine j_iload_n CX 0 dX6_take_92 rfl rfl ?_
          refine j_iload_n CX 1 dX6_take_93 rfl rfl ?_
          refine j_icmp_eq CX 108 dX6_take_94 (by decide) (fun h94 => ?_) (fun h94 => ?_)
          · refine j_aload_n CX 2 dX6_take_108 rfl rfl ?_
            refine j_get CX 0 26 dX6_take_109 rfl rfl hin6 (by decide) hfl66 rfl ?_
            refine j_iload_n CX 0 dX6_take_112 rfl rfl ?_
            refine j_iald CX 18 k9 dX6_take_113 rfl (rfl) (by first | assumption | omega) (by decide) ?_
            refine j_top (show ((taF wa (tbN wa ra ag jo) ag k9) k9) = (if wa k9 ≠ 0 ∧ k9 + 1 ≠ tbN wa ra ag jo then taF wa (tbN wa ra ag jo) ag k9 k9 + nI 1 else taF wa (tbN wa ra ag jo) ag k9 k9) by rw [if_neg]; rintro ⟨q1, q2⟩; first | exact absurd h89 q1 | exact absurd ((bI_eq (by omega) (by omega)).mp h94) q2) ?_
            refine j_iast CX (w' := mW a cI cZ n (nI 0) (nI fc) sp (nI cr) (nI ln) cx (nI jo) (nI wg) sh va (nf C) (nf fw) (nf fz) (nf fh) (nf G) di (nf B) ke (nf dO) (nf fr) (nf ma) (nf st) hf (nf wa) ra (upd (taF wa (tbN wa ra ag jo) ag k9) k9 (if wa k9 ≠ 0 ∧ k9 + 1 ≠ tbN wa ra ag jo then taF wa (tbN wa ra ag jo) ag k9 k9 + nI 1 else taF wa (tbN wa ra ag jo) ag k9 k9))) 18 k9 dX6_take_114 rfl (rfl) (by first | assumption | omega) (by decide) rfl ?_
            refine j_iinc CX (v := nI (k9 + 1)) (lv' := [(2, .int (nI (k9 + 1))), (1, .int (nI (tbN wa ra ag jo) - nI 1)), (0, .ref (a 0))]) 0 dX6_take_115 rfl (nI_1 _) (by decide) rfl ?_
            refine j_goto CX 70 dX6_take_118 (by decide) ?_
            exact ih70 _ (by omega) (k9 + 1) rfl (by omega)
          · refine j_aload_n CX 2 dX6_take_97 rfl rfl ?_
            refine j_get CX 0 26 dX6_take_98 rfl rfl hin6 (by decide) hfl66 rfl ?_
            refine j_iload_n CX 0 dX6_take_101 rfl rfl ?_
            refine j_iald CX 18 k9 dX6_take_102 rfl (rfl) (by first | assumption | omega) (by decide) ?_
            refine j_iconst CX dX6_take_103 (show _ = (nI 1 : Int32) by decide) ?_
            refine j_iadd CX dX6_take_104 ?_
            refine j_goto CX 114 dX6_take_105 (by decide) ?_
            refine j_top (show (((taF wa (tbN wa ra ag jo) ag k9) k9) + (nI 1)) = (if wa k9 ≠ 0 ∧ k9 + 1 ≠ tbN wa ra ag jo then taF wa (tbN wa ra ag jo) ag k9 k9 + nI 1 else taF wa (tbN wa ra ag jo) ag k9 k9) by rw [if_pos ⟨h89, fun q => h94 ((bI_eq (by omega) (by omega)).mpr q)⟩]) ?_
            refine j_iast CX (w' := mW a cI cZ n (nI 0) (nI fc) sp (nI cr) (nI ln) cx (nI jo) (nI wg) sh va (nf C) (nf fw) (nf fz) (nf fh) (nf G) di (nf B) ke (nf dO) (nf fr) (nf ma) (nf st) hf (nf wa) ra (upd (taF wa (tbN wa ra ag jo) ag k9) k9 (if wa k9 ≠ 0 ∧ k9 + 1 ≠ tbN wa ra ag jo then taF wa (tbN wa ra ag jo) ag k9 k9 + nI 1 else taF wa (tbN wa ra ag jo) ag k9 k9))) 18 k9 dX6_take_114 rfl (rfl) (by first | assumption | omega) (by decide) rfl ?_
            refine j_iinc CX (v := nI (k9 + 1)) (lv' := [(2, .int (nI (k9 + 1))), (1, .int (nI (tbN wa ra ag jo) - nI 1)), (0, .ref (a 0))]) 0 dX6_take_115 rfl (nI_1 _) (by decide) rfl ?_
            refine j_goto CX 70 dX6_take_118 (by decide) ?_
            exact ih70 _ (by omega) (k9 + 1) rfl (by omega)
  have L9 : ∀ (d9 : Nat) (j9 t9 : Nat), jo - j9 = d9 → j9 ≤ jo → tbN wa ra ag j9 = t9 → J p l e rmX6_take s m args below meth c D A 3 0 0 (MQ below (jQc D (fun r0 w0 => r0 = some (.int (-1)) ∧ w0 = mW a cI cZ n (nI 0) (nI fc) sp (nI cr) (nI ln) cx (nI jo) (nI wg) sh va (nf C) (nf fw) (nf fz) (nf fh) (nf G) di (nf B) ke (nf dO) (nf fr) (nf ma) (nf st) hf (nf wa) ra (taF wa 0 ag jo)) A) args s rmX6_take.cells rmX6_take.slots A) (mW a cI cZ n (nI 0) (nI fc) sp (nI cr) (nI ln) cx (nI jo) (nI wg) sh va (nf C) (nf fw) (nf fz) (nf fh) (nf G) di (nf B) ke (nf dO) (nf fr) (nf ma) (nf st) hf (nf wa) ra ag) 9 [(2, .int (nI j9)), (1, .int (nI t9 - nI 1)), (0, .ref (a 0))] [] := by
    intro d9
    induction d9 using Nat.strongRecOn with
    | _ d9 ih9 =>
      intro j9 t9 hd hj ht
      have htl := tbN_le wa ra ag j9
      refine j_iload_n CX 0 dX6_take_9 rfl rfl ?_
      refine j_aload_n CX 2 dX6_take_10 rfl rfl ?_
      refine j_get CX 0 22 dX6_take_11 rfl rfl hin6 (by decide) hfl139 rfl ?_
      refine j_icmpN_ge CX (by first | assumption | omega) (by first | assumption | omega | exact b2n_lt _ | exact t2n_lt _) 68 dX6_take_14 (by decide) (fun h14 => ?_) (fun h14 => ?_)
      · refine j_lve (lv' := [(2, .int (nI j9)), (1, .int (nI (tbN wa ra ag jo) - nI 1)), (0, .ref (a 0))]) (by rw [show jo = j9 by omega, ht]) ?_
        refine j_iconst CX dX6_take_68 (show _ = (nI 0 : Int32) by decide) ?_
        refine j_istore_n CX (lv' := [(2, .int (nI 0)), (1, .int (nI (tbN wa ra ag jo) - nI 1)), (0, .ref (a 0))]) dX6_take_69 rfl (by decide) rfl ?_
        exact L70 _ 0 rfl (Nat.zero_le _)
      · have e1 := hwa j9 (by omega)
        refine j_aload_n CX 2 dX6_take_17 rfl rfl ?_
        refine j_get CX 0 24 dX6_take_18 rfl rfl hin6 (by decide) hfl60 rfl ?_
        refine j_iload_n CX 0 dX6_take_21 rfl rfl ?_
        refine j_zald CX 16 j9 dX6_take_22 rfl (rfl) (by first | assumption | omega) (by decide) ?_
        refine j_ifN_eq CX (by first | assumption | omega | exact b2n_lt _ | exact t2n_lt _) 62 dX6_take_23 (by decide) (fun h23 => ?_) (fun h23 => ?_)
        · refine j_iinc CX (v := nI (j9 + 1)) (lv' := [(2, .int (nI (j9 + 1))), (1, .int (nI t9 - nI 1)), (0, .ref (a 0))]) 0 dX6_take_62 rfl (nI_1 _) (by decide) rfl ?_
          refine j_goto CX 9 dX6_take_65 (by decide) ?_
          first | exact ih9 _ (by omega) (j9 + 1) t9 rfl (by omega) (tbN_w ht h23) | exact ih9 _ (by omega) (j9 + 1) (t8 + 1) rfl (by omega) (tbN_k ht h23 h57)
        · refine j_iload_n CX 1 dX6_take_26 rfl rfl ?_
          refine j_iconst CX dX6_take_27 (show _ = ((-1) : Int32) by decide) ?_
          refine j_icmp_eq CX 60 dX6_take_28 (by decide) (fun h28 => ?_) (fun h28 => ?_)
          · have ht0 : t9 = 0 := (bI_m1 (by omega)).mp h28
            refine j_iload_n CX 0 dX6_take_60 rfl rfl ?_
            refine j_istore_n CX (lv' := [(1, .int (nI j9)), (2, .int (nI j9)), (0, .ref (a 0))]) dX6_take_61 rfl (by decide) rfl ?_
            refine j_lve (lv' := [(1, .int (nI (j9 + 1) - nI 1)), (2, .int (nI j9)), (0, .ref (a 0))]) (by rw [nI_m1]) ?_
            refine j_iinc CX (v := nI (j9 + 1)) (lv' := [(2, .int (nI (j9 + 1))), (1, .int (nI (j9 + 1) - nI 1)), (0, .ref (a 0))]) 1 dX6_take_62 rfl (nI_1 _) (by decide) rfl ?_
            refine j_goto CX 9 dX6_take_65 (by decide) ?_
            first | exact ih9 _ (by omega) (j9 + 1) (j9 + 1) rfl (by omega) (tbN_0 (by rw [ht]; exact ht0) h23) | exact ih9 _ (by omega) (j9 + 1) (j9 + 1) rfl (by omega) (tbN_n ht h23 h57)
          · have ht0 : t9 ≠ 0 := fun q => h28 ((bI_m1 (by omega)).mpr q)
            obtain ⟨t8, rfl⟩ : ∃ t8, t9 = t8 + 1 := ⟨t9 - 1, by omega⟩
            refine j_lve (lv' := [(2, .int (nI j9)), (1, .int (nI t8)), (0, .ref (a 0))]) (by rw [nI_m1]) ?_
            refine j_aload_n CX 2 dX6_take_31 rfl rfl ?_
            refine j_get CX 0 25 dX6_take_32 rfl rfl hin6 (by decide) hfl63 rfl ?_
            refine j_iload_n CX 0 dX6_take_35 rfl rfl ?_
            refine j_iald CX 17 j9 dX6_take_36 rfl (rfl) (by first | assumption | omega) (by decide) ?_
            refine j_aload_n CX 2 dX6_take_37 rfl rfl ?_
            refine j_get CX 0 26 dX6_take_38 rfl rfl hin6 (by decide) hfl66 rfl ?_
            refine j_iload_n CX 0 dX6_take_41 rfl rfl ?_
            refine j_iald CX 18 j9 dX6_take_42 rfl (rfl) (by first | assumption | omega) (by decide) ?_
            refine j_iadd CX dX6_take_43 ?_
            refine j_aload_n CX 2 dX6_take_44 rfl rfl ?_
            refine j_get CX 0 25 dX6_take_45 rfl rfl hin6 (by decide) hfl63 rfl ?_
            refine j_iload_n CX 1 dX6_take_48 rfl rfl ?_
            refine j_iald CX 17 t8 dX6_take_49 rfl (rfl) (by first | assumption | omega) (by decide) ?_
            refine j_aload_n CX 2 dX6_take_50 rfl rfl ?_
            refine j_get CX 0 26 dX6_take_51 rfl rfl hin6 (by decide) hfl66 rfl ?_
            refine j_iload_n CX 1 dX6_take_54 rfl rfl ?_
            refine j_iald CX 18 t8 dX6_take_55 rfl (rfl) (by first | assumption | omega) (by decide) ?_
            refine j_iadd CX dX6_take_56 ?_
            refine j_icmp_le CX 62 dX6_take_57 (by decide) (fun h57 => ?_) (fun h57 => ?_)
            · refine j_lve (lv' := [(2, .int (nI j9)), (1, .int (nI (t8 + 1) - nI 1)), (0, .ref (a 0))]) (by rw [nI_m1]) ?_
              refine j_iinc CX (v := nI (j9 + 1)) (lv' := [(2, .int (nI (j9 + 1))), (1, .int (nI (t8 + 1) - nI 1)), (0, .ref (a 0))]) 0 dX6_take_62 rfl (nI_1 _) (by decide) rfl ?_
              refine j_goto CX 9 dX6_take_65 (by decide) ?_
              first | exact ih9 _ (by omega) (j9 + 1) t9 rfl (by omega) (tbN_w ht h23) | exact ih9 _ (by omega) (j9 + 1) (t8 + 1) rfl (by omega) (tbN_k ht h23 h57)
            · refine j_iload_n CX 0 dX6_take_60 rfl rfl ?_
              refine j_istore_n CX (lv' := [(1, .int (nI j9)), (2, .int (nI j9)), (0, .ref (a 0))]) dX6_take_61 rfl (by decide) rfl ?_
              refine j_lve (lv' := [(1, .int (nI (j9 + 1) - nI 1)), (2, .int (nI j9)), (0, .ref (a 0))]) (by rw [nI_m1]) ?_
              refine j_iinc CX (v := nI (j9 + 1)) (lv' := [(2, .int (nI (j9 + 1))), (1, .int (nI (j9 + 1) - nI 1)), (0, .ref (a 0))]) 1 dX6_take_62 rfl (nI_1 _) (by decide) rfl ?_
              refine j_goto CX 9 dX6_take_65 (by decide) ?_
              first | exact ih9 _ (by omega) (j9 + 1) (j9 + 1) rfl (by omega) (tbN_0 (by rw [ht]; exact ht0) h23) | exact ih9 _ (by omega) (j9 + 1) (j9 + 1) rfl (by omega) (tbN_n ht h23 h57)
  show J p l e rmX6_take s m args below meth c D A 3 0 0 (MQ below (jQc D (fun r0 w0 => r0 = some (.int (-1)) ∧ w0 = mW a cI cZ n (nI 0) (nI fc) sp (nI cr) (nI ln) cx (nI jo) (nI wg) sh va (nf C) (nf fw) (nf fz) (nf fh) (nf G) di (nf B) ke (nf dO) (nf fr) (nf ma) (nf st) hf (nf wa) ra (taF wa 0 ag jo)) A) args s rmX6_take.cells rmX6_take.slots A) (mW a cI cZ n thr (nI fc) sp (nI cr) (nI ln) cx (nI jo) (nI wg) sh va (nf C) (nf fw) (nf fz) (nf fh) (nf G) di (nf B) ke (nf dO) (nf fr) (nf ma) (nf st) hf (nf wa) ra ag) 0 [(0, .ref (a 0))] []
  refine j_aload_n CX 0 dX6_take_0 rfl rfl ?_
  refine j_iconst CX dX6_take_1 (show _ = (nI 0 : Int32) by decide) ?_
  refine j_put CX (w' := mW a cI cZ n (nI 0) (nI fc) sp (nI cr) (nI ln) cx (nI jo) (nI wg) sh va (nf C) (nf fw) (nf fz) (nf fh) (nf G) di (nf B) ke (nf dO) (nf fr) (nf ma) (nf st) hf (nf wa) ra ag) 0 0 dX6_take_2 rfl rfl hin6 tyX6 tyX6_ok nmX6 (by decide) hfl72 rfl rfl rfl rfl (Nat.le_of_ble_eq_true rfl) rfl ?_
  refine j_iconst CX dX6_take_5 (show _ = ((-1) : Int32) by decide) ?_
  refine j_istore_n CX (lv' := [(1, .int (-1)), (0, .ref (a 0))]) dX6_take_6 rfl (by decide) rfl ?_
  refine j_lve (lv' := [(1, .int (nI 0 - nI 1)), (0, .ref (a 0))]) (by rw [show nI 0 - nI 1 = (-1 : Int32) by decide]) ?_
  refine j_iconst CX dX6_take_7 (show _ = (nI 0 : Int32) by decide) ?_
  refine j_istore_n CX (lv' := [(2, .int (nI 0)), (1, .int (nI 0 - nI 1)), (0, .ref (a 0))]) dX6_take_8 rfl (by decide) rfl ?_
  exact L9 _ 0 0 rfl (Nat.zero_le _) rfl

set_option maxRecDepth 100000 in
set_option maxHeartbeats 4000000 in
theorem r_take (l : Launch) (D : va_G) (cI cZ cL : ClassId) (a : Nat → Nat) (n : Nat) (thr : Int32) (fc : Nat) (sp : Int32) (cr ln : Nat) (cx : Int32) (jo wg : Nat) (sh va : Nat → Int32) (C fw fz fh G : Nat → Nat) (di : Nat → Int32) (B : Nat → Nat) (ke : Nat → Int32) (dO fr ma st : Nat → Nat) (hf : Nat → Int32) (wa : Nat → Nat) (ra ag : Nat → Int32) (b : Nat) (hjo : jo ≤ 4096) (hwa : ∀ k, k < jo → wa k < 2 ^ 31) (hT : tbN wa ra ag jo = b + 1) (hwg : 1 ≤ wg) : Cg l D cI cZ cL yX6_take wsX6_take rmX6_take [.ref (a 0)] (mW a cI cZ n thr (nI fc) sp (nI cr) (nI ln) cx (nI jo) (nI wg) sh va (nf C) (nf fw) (nf fz) (nf fh) (nf G) di (nf B) ke (nf dO) (nf fr) (nf ma) (nf st) hf (nf wa) ra ag) (fun r0 w0 => r0 = some (.int (nI b)) ∧ w0 = mW a cI cZ n (nI 0) (nI fc) sp (nI cr) (nI ln) cx (nI jo) (nI (wg - 1)) sh va (nf C) (nf fw) (nf fz) (nf fh) (nf G) di (nf B) ke (nf dO) (nf fr) (nf ma) (nf st) hf (nf (updN wa b 0)) ra (taF wa (b + 1) ag jo)) := by
  refine Cg.ofJ (own := RX6) (cc := cX6_take) (maxL := 3) (ret := (some .int)) (by decide) rfl rfl (Nat.le_of_ble_eq_true rfl) ?_
  intro p e s m args below meth c A CX hr hlocks hname
  have hin6 : ∀ x ∈ u_ws RX6 TX6 27, x ∈ wsX6_take := by decide +kernel
  have hfl139 : Cond.fieldLink RX6 139 (TX6 22).1 (TX6 22).2.1 (TX6 22).2.2.1 ∈ wsX6_take := by decide +kernel
  have hfl60 : Cond.fieldLink RX6 60 (TX6 24).1 (TX6 24).2.1 (TX6 24).2.2.1 ∈ wsX6_take := by decide +kernel
  have hfl136 : Cond.fieldLink RX6 136 (TX6 23).1 (TX6 23).2.1 (TX6 23).2.2.1 ∈ wsX6_take := by decide +kernel
  have hfl66 : Cond.fieldLink RX6 66 (TX6 26).1 (TX6 26).2.1 (TX6 26).2.2.1 ∈ wsX6_take := by decide +kernel
  have hfl63 : Cond.fieldLink RX6 63 (TX6 25).1 (TX6 25).2.1 (TX6 25).2.2.1 ∈ wsX6_take := by decide +kernel
  have hfl72 : Cond.fieldLink RX6 72 (TX6 0).1 (TX6 0).2.1 (TX6 0).2.2.1 ∈ wsX6_take := by decide +kernel
  have hTB := tbN_le wa ra ag jo
  have L70 : ∀ (d70 : Nat) (k9 : Nat), jo - k9 = d70 → k9 ≤ jo → J p l e rmX6_take s m args below meth c D A 3 0 0 (MQ below (jQc D (fun r0 w0 => r0 = some (.int (nI b)) ∧ w0 = mW a cI cZ n (nI 0) (nI fc) sp (nI cr) (nI ln) cx (nI jo) (nI (wg - 1)) sh va (nf C) (nf fw) (nf fz) (nf fh) (nf G) di (nf B) ke (nf dO) (nf fr) (nf ma) (nf st) hf (nf (updN wa b 0)) ra (taF wa (b + 1) ag jo)) A) args s rmX6_take.cells rmX6_take.slots A) (mW a cI cZ n (nI 0) (nI fc) sp (nI cr) (nI ln) cx (nI jo) (nI wg) sh va (nf C) (nf fw) (nf fz) (nf fh) (nf G) di (nf B) ke (nf dO) (nf fr) (nf ma) (nf st) hf (nf wa) ra (taF wa (tbN wa ra ag jo) ag k9)) 70 [(2, .int (nI k9)), (1, .int (nI (tbN wa ra ag jo) - nI 1)), (0, .ref (a 0))] [] := by
    intro d70
    induction d70 using Nat.strongRecOn with
    | _ d70 ih70 =>
      intro k9 hd hk
      refine j_iload_n CX 0 dX6_take_70 rfl rfl ?_
      refine j_aload_n CX 2 dX6_take_71 rfl rfl ?_
      refine j_get CX 0 22 dX6_take_72 rfl rfl hin6 (by decide) hfl139 rfl ?_
      refine j_icmpN_ge CX (by first | assumption | omega) (by first | assumption | omega | exact b2n_lt _ | exact t2n_lt _) 121 dX6_take_75 (by decide) (fun h75 => ?_) (fun h75 => ?_)
      · refine j_iload_n CX 1 dX6_take_121 rfl rfl ?_
        refine j_iconst CX dX6_take_122 (show _ = ((-1) : Int32) by decide) ?_
        refine j_icmp_eq CX 143 dX6_take_123 (by decide) (fun h123 => ?_) (fun h123 => ?_)
        · exact absurd ((bI_m1 (by omega)).mp h123) (by omega)
        · refine j_lve (lv' := [(2, .int (nI k9)), (1, .int (nI b)), (0, .ref (a 0))]) (by rw [hT, nI_m1]) ?_
          refine j_aload_n CX 2 dX6_take_126 rfl rfl ?_
          refine j_get CX 0 24 dX6_take_127 rfl rfl hin6 (by decide) hfl60 rfl ?_
          refine j_iload_n CX 1 dX6_take_130 rfl rfl ?_
          refine j_iconst CX dX6_take_131 (show _ = (nI 0 : Int32) by decide) ?_
          refine j_zast CX (w' := mW a cI cZ n (nI 0) (nI fc) sp (nI cr) (nI ln) cx (nI jo) (nI wg) sh va (nf C) (nf fw) (nf fz) (nf fh) (nf G) di (nf B) ke (nf dO) (nf fr) (nf ma) (nf st) hf (upd (nf wa) b (vp_nar .boolean (nI 0))) ra (taF wa (tbN wa ra ag jo) ag k9)) 16 b dX6_take_132 rfl (rfl) (by first | assumption | omega) (by decide) rfl ?_
          refine j_w (show mW a cI cZ n (nI 0) (nI fc) sp (nI cr) (nI ln) cx (nI jo) (nI wg) sh va (nf C) (nf fw) (nf fz) (nf fh) (nf G) di (nf B) ke (nf dO) (nf fr) (nf ma) (nf st) hf (upd (nf wa) b (vp_nar .boolean (nI 0))) ra (taF wa (tbN wa ra ag jo) ag k9) = mW a cI cZ n (nI 0) (nI fc) sp (nI cr) (nI ln) cx (nI jo) (nI wg) sh va (nf C) (nf fw) (nf fz) (nf fh) (nf G) di (nf B) ke (nf dO) (nf fr) (nf ma) (nf st) hf (nf (updN wa b 0)) ra (taF wa (tbN wa ra ag jo) ag k9) by rw [nar0, nf_upd]) ?_
          refine j_aload_n CX 2 dX6_take_133 rfl rfl ?_
          refine j_dup CX dX6_take_134 rfl ?_
          refine j_get CX 0 23 dX6_take_135 rfl rfl hin6 (by decide) hfl136 rfl ?_
          refine j_iconst CX dX6_take_138 (show _ = (nI 1 : Int32) by decide) ?_
          refine j_isub CX dX6_take_139 ?_
          refine j_top (show ((nI wg) - (nI 1)) = nI (wg - 1) from pk_sub hwg) ?_
          refine j_put CX (w' := mW a cI cZ n (nI 0) (nI fc) sp (nI cr) (nI ln) cx (nI jo) (nI (wg - 1)) sh va (nf C) (nf fw) (nf fz) (nf fh) (nf G) di (nf B) ke (nf dO) (nf fr) (nf ma) (nf st) hf (nf (updN wa b 0)) ra (taF wa (tbN wa ra ag jo) ag k9)) 0 23 dX6_take_140 rfl rfl hin6 tyX6 tyX6_ok nmX6 (by decide) hfl136 rfl rfl rfl rfl (Nat.le_of_ble_eq_true rfl) rfl ?_
          refine j_iload_n CX 1 dX6_take_143 rfl rfl ?_
          exact j_iret CX hr hlocks dX6_take_144 (⟨rfl, by rw [show jo = k9 by omega] at hT ⊢; rw [hT]⟩)
      · have e2 := hwa k9 (by omega)
        refine j_aload_n CX 2 dX6_take_78 rfl rfl ?_
        refine j_get CX 0 26 dX6_take_79 rfl rfl hin6 (by decide) hfl66 rfl ?_
        refine j_iload_n CX 0 dX6_take_82 rfl rfl ?_
        refine j_aload_n CX 2 dX6_take_83 rfl rfl ?_
        refine j_get CX 0 24 dX6_take_84 rfl rfl hin6 (by decide) hfl60 rfl ?_
        refine j_iload_n CX 0 dX6_take_87 rfl rfl ?_
        refine j_zald CX 16 k9 dX6_take_88 rfl (rfl) (by first | assumption | omega) (by decide) ?_
        refine j_ifN_eq CX (by first | assumption | omega | exact b2n_lt _ | exact t2n_lt _) 108 dX6_take_89 (by decide) (fun h89 => ?_) (fun h89 => ?_)
        · refine j_aload_n CX 2 dX6_take_108 rfl rfl ?_
          refine j_get CX 0 26 dX6_take_109 rfl rfl hin6 (by decide) hfl66 rfl ?_
          refine j_iload_n CX 0 dX6_take_112 rfl rfl ?_
          refine j_iald CX 18 k9 dX6_take_113 rfl (rfl) (by first | assumption | omega) (by decide) ?_
          refine j_top (show ((taF wa (tbN wa ra ag jo) ag k9) k9) = (if wa k9 ≠ 0 ∧ k9 + 1 ≠ tbN wa ra ag jo then taF wa (tbN wa ra ag jo) ag k9 k9 + nI 1 else taF wa (tbN wa ra ag jo) ag k9 k9) by rw [if_neg]; rintro ⟨q1, q2⟩; first | exact absurd h89 q1 | exact absurd ((bI_eq (by omega) (by omega)).mp h94) q2) ?_
          refine j_iast CX (w' := mW a cI cZ n (nI 0) (nI fc) sp (nI cr) (nI ln) cx (nI jo) (nI wg) sh va (nf C) (nf fw) (nf fz) (nf fh) (nf G) di (nf B) ke (nf dO) (nf fr) (nf ma) (nf st) hf (nf wa) ra (upd (taF wa (tbN wa ra ag jo) ag k9) k9 (if wa k9 ≠ 0 ∧ k9 + 1 ≠ tbN wa ra ag jo then taF wa (tbN wa ra ag jo) ag k9 k9 + nI 1 else taF wa (tbN wa ra ag jo) ag k9 k9))) 18 k9 dX6_take_114 rfl (rfl) (by first | assumption | omega) (by decide) rfl ?_
          refine j_iinc CX (v := nI (k9 + 1)) (lv' := [(2, .int (nI (k9 + 1))), (1, .int (nI (tbN wa ra ag jo) - nI 1)), (0, .ref (a 0))]) 0 dX6_take_115 rfl (nI_1 _) (by decide) rfl ?_
          refine j_goto CX 70 dX6_take_118 (by decide) ?_
          exact ih70 _ (by omega) (k9 + 1) rfl (by omega)
        · refine j_iload_n CX 0 dX6_take_92 rfl rfl ?_
          refine j_iload_n CX 1 dX6_take_93 rfl rfl ?_
          refine j_icmp_eq CX 108 dX6_take_94 (by decide) (fun h94 => ?_) (fun h94 => ?_)
          · refine j_aload_n CX 2 dX6_take_108 rfl rfl ?_
            refine j_get CX 0 26 dX6_take_109 rfl rfl hin6 (by decide) hfl66 rfl ?_
            refine j_iload_n CX 0 dX6_take_112 rfl rfl ?_
            refine j_iald CX 18 k9 dX6_take_113 rfl (rfl) (by first | assumption | omega) (by decide) ?_
            refine j_top (show ((taF wa (tbN wa ra ag jo) ag k9) k9) = (if wa k9 ≠ 0 ∧ k9 + 1 ≠ tbN wa ra ag jo then taF wa (tbN wa ra ag jo) ag k9 k9 + nI 1 else taF wa (tbN wa ra ag jo) ag k9 k9) by rw [if_neg]; rintro ⟨q1, q2⟩; first | exact absurd h89 q1 | exact absurd ((bI_eq (by omega) (by omega)).mp h94) q2) ?_
            refine j_iast CX (w' := mW a cI cZ n (nI 0) (nI fc) sp (nI cr) (nI ln) cx (nI jo) (nI wg) sh va (nf C) (nf fw) (nf fz) (nf fh) (nf G) di (nf B) ke (nf dO) (nf fr) (nf ma) (nf st) hf (nf wa) ra (upd (taF wa (tbN wa ra ag jo) ag k9) k9 (if wa k9 ≠ 0 ∧ k9 + 1 ≠ tbN wa ra ag jo then taF wa (tbN wa ra ag jo) ag k9 k9 + nI 1 else taF wa (tbN wa ra ag jo) ag k9 k9))) 18 k9 dX6_take_114 rfl (rfl) (by first | assumption | omega) (by decide) rfl ?_
            refine j_iinc CX (v := nI (k9 + 1)) (lv' := [(2, .int (nI (k9 + 1))), (1, .int (nI (tbN wa ra ag jo) - nI 1)), (0, .ref (a 0))]) 0 dX6_take_115 rfl (nI_1 _) (by decide) rfl ?_
            refine j_goto CX 70 dX6_take_118 (by decide) ?_
            exact ih70 _ (by omega) (k9 + 1) rfl (by omega)
          · refine j_aload_n CX 2 dX6_take_97 rfl rfl ?_
            refine j_get CX 0 26 dX6_take_98 rfl rfl hin6 (by decide) hfl66 rfl ?_
            refine j_iload_n CX 0 dX6_take_101 rfl rfl ?_
            refine j_iald CX 18 k9 dX6_take_102 rfl (rfl) (by first | assumption | omega) (by decide) ?_
            refine j_iconst CX dX6_take_103 (show _ = (nI 1 : Int32) by decide) ?_
            refine j_iadd CX dX6_take_104 ?_
            refine j_goto CX 114 dX6_take_105 (by decide) ?_
            refine j_top (show (((taF wa (tbN wa ra ag jo) ag k9) k9) + (nI 1)) = (if wa k9 ≠ 0 ∧ k9 + 1 ≠ tbN wa ra ag jo then taF wa (tbN wa ra ag jo) ag k9 k9 + nI 1 else taF wa (tbN wa ra ag jo) ag k9 k9) by rw [if_pos ⟨h89, fun q => h94 ((bI_eq (by omega) (by omega)).mpr q)⟩]) ?_
            refine j_iast CX (w' := mW a cI cZ n (nI 0) (nI fc) sp (nI cr) (nI ln) cx (nI jo) (nI wg) sh va (nf C) (nf fw) (nf fz) (nf fh) (nf G) di (nf B) ke (nf dO) (nf fr) (nf ma) (nf st) hf (nf wa) ra (upd (taF wa (tbN wa ra ag jo) ag k9) k9 (if wa k9 ≠ 0 ∧ k9 + 1 ≠ tbN wa ra ag jo then taF wa (tbN wa ra ag jo) ag k9 k9 + nI 1 else taF wa (tbN wa ra ag jo) ag k9 k9))) 18 k9 dX6_take_114 rfl (rfl) (by first | assumption | omega) (by decide) rfl ?_
            refine j_iinc CX (v := nI (k9 + 1)) (lv' := [(2, .int (nI (k9 + 1))), (1, .int (nI (tbN wa ra ag jo) - nI 1)), (0, .ref (a 0))]) 0 dX6_take_115 rfl (nI_1 _) (by decide) rfl ?_
            refine j_goto CX 70 dX6_take_118 (by decide) ?_
            exact ih70 _ (by omega) (k9 + 1) rfl (by omega)
  have L9 : ∀ (d9 : Nat) (j9 t9 : Nat), jo - j9 = d9 → j9 ≤ jo → tbN wa ra ag j9 = t9 → J p l e rmX6_take s m args below meth c D A 3 0 0 (MQ below (jQc D (fun r0 w0 => r0 = some (.int (nI b)) ∧ w0 = mW a cI cZ n (nI 0) (nI fc) sp (nI cr) (nI ln) cx (nI jo) (nI (wg - 1)) sh va (nf C) (nf fw) (nf fz) (nf fh) (nf G) di (nf B) ke (nf dO) (nf fr) (nf ma) (nf st) hf (nf (updN wa b 0)) ra (taF wa (b + 1) ag jo)) A) args s rmX6_take.cells rmX6_take.slots A) (mW a cI cZ n (nI 0) (nI fc) sp (nI cr) (nI ln) cx (nI jo) (nI wg) sh va (nf C) (nf fw) (nf fz) (nf fh) (nf G) di (nf B) ke (nf dO) (nf fr) (nf ma) (nf st) hf (nf wa) ra ag) 9 [(2, .int (nI j9)), (1, .int (nI t9 - nI 1)), (0, .ref (a 0))] [] := by
    intro d9
    induction d9 using Nat.strongRecOn with
    | _ d9 ih9 =>
      intro j9 t9 hd hj ht
      have htl := tbN_le wa ra ag j9
      refine j_iload_n CX 0 dX6_take_9 rfl rfl ?_
      refine j_aload_n CX 2 dX6_take_10 rfl rfl ?_
      refine j_get CX 0 22 dX6_take_11 rfl rfl hin6 (by decide) hfl139 rfl ?_
      refine j_icmpN_ge CX (by first | assumption | omega) (by first | assumption | omega | exact b2n_lt _ | exact t2n_lt _) 68 dX6_take_14 (by decide) (fun h14 => ?_) (fun h14 => ?_)
      · refine j_lve (lv' := [(2, .int (nI j9)), (1, .int (nI (tbN wa ra ag jo) - nI 1)), (0, .ref (a 0))]) (by rw [show jo = j9 by omega, ht]) ?_
        refine j_iconst CX dX6_take_68 (show _ = (nI 0 : Int32) by decide) ?_
        refine j_istore_n CX (lv' := [(2, .int (nI 0)), (1, .int (nI (tbN wa ra ag jo) - nI 1)), (0, .ref (a 0))]) dX6_take_69 rfl (by decide) rfl ?_
        exact L70 _ 0 rfl (Nat.zero_le _)
      · have e1 := hwa j9 (by omega)
        refine j_aload_n CX 2 dX6_take_17 rfl rfl ?_
        refine j_get CX 0 24 dX6_take_18 rfl rfl hin6 (by decide) hfl60 rfl ?_
        refine j_iload_n CX 0 dX6_take_21 rfl rfl ?_
        refine j_zald CX 16 j9 dX6_take_22 rfl (rfl) (by first | assumption | omega) (by decide) ?_
        refine j_ifN_eq CX (by first | assumption | omega | exact b2n_lt _ | exact t2n_lt _) 62 dX6_take_23 (by decide) (fun h23 => ?_) (fun h23 => ?_)
        · refine j_iinc CX (v := nI (j9 + 1)) (lv' := [(2, .int (nI (j9 + 1))), (1, .int (nI t9 - nI 1)), (0, .ref (a 0))]) 0 dX6_take_62 rfl (nI_1 _) (by decide) rfl ?_
          refine j_goto CX 9 dX6_take_65 (by decide) ?_
          first | exact ih9 _ (by omega) (j9 + 1) t9 rfl (by omega) (tbN_w ht h23) | exact ih9 _ (by omega) (j9 + 1) (t8 + 1) rfl (by omega) (tbN_k ht h23 h57)
        · refine j_iload_n CX 1 dX6_take_26 rfl rfl ?_
          refine j_iconst CX dX6_take_27 (show _ = ((-1) : Int32) by decide) ?_
          refine j_icmp_eq CX 60 dX6_take_28 (by decide) (fun h28 => ?_) (fun h28 => ?_)
          · have ht0 : t9 = 0 := (bI_m1 (by omega)).mp h28
            refine j_iload_n CX 0 dX6_take_60 rfl rfl ?_
            refine j_istore_n CX (lv' := [(1, .int (nI j9)), (2, .int (nI j9)), (0, .ref (a 0))]) dX6_take_61 rfl (by decide) rfl ?_
            refine j_lve (lv' := [(1, .int (nI (j9 + 1) - nI 1)), (2, .int (nI j9)), (0, .ref (a 0))]) (by rw [nI_m1]) ?_
            refine j_iinc CX (v := nI (j9 + 1)) (lv' := [(2, .int (nI (j9 + 1))), (1, .int (nI (j9 + 1) - nI 1)), (0, .ref (a 0))]) 1 dX6_take_62 rfl (nI_1 _) (by decide) rfl ?_
            refine j_goto CX 9 dX6_take_65 (by decide) ?_
            first | exact ih9 _ (by omega) (j9 + 1) (j9 + 1) rfl (by omega) (tbN_0 (by rw [ht]; exact ht0) h23) | exact ih9 _ (by omega) (j9 + 1) (j9 + 1) rfl (by omega) (tbN_n ht h23 h57)
          · have ht0 : t9 ≠ 0 := fun q => h28 ((bI_m1 (by omega)).mpr q)
            obtain ⟨t8, rfl⟩ : ∃ t8, t9 = t8 + 1 := ⟨t9 - 1, by omega⟩
            refine j_lve (lv' := [(2, .int (nI j9)), (1, .int (nI t8)), (0, .ref (a 0))]) (by rw [nI_m1]) ?_
            refine j_aload_n CX 2 dX6_take_31 rfl rfl ?_
            refine j_get CX 0 25 dX6_take_32 rfl rfl hin6 (by decide) hfl63 rfl ?_
            refine j_iload_n CX 0 dX6_take_35 rfl rfl ?_
            refine j_iald CX 17 j9 dX6_take_36 rfl (rfl) (by first | assumption | omega) (by decide) ?_
            refine j_aload_n CX 2 dX6_take_37 rfl rfl ?_
            refine j_get CX 0 26 dX6_take_38 rfl rfl hin6 (by decide) hfl66 rfl ?_
            refine j_iload_n CX 0 dX6_take_41 rfl rfl ?_
            refine j_iald CX 18 j9 dX6_take_42 rfl (rfl) (by first | assumption | omega) (by decide) ?_
            refine j_iadd CX dX6_take_43 ?_
            refine j_aload_n CX 2 dX6_take_44 rfl rfl ?_
            refine j_get CX 0 25 dX6_take_45 rfl rfl hin6 (by decide) hfl63 rfl ?_
            refine j_iload_n CX 1 dX6_take_48 rfl rfl ?_
            refine j_iald CX 17 t8 dX6_take_49 rfl (rfl) (by first | assumption | omega) (by decide) ?_
            refine j_aload_n CX 2 dX6_take_50 rfl rfl ?_
            refine j_get CX 0 26 dX6_take_51 rfl rfl hin6 (by decide) hfl66 rfl ?_
            refine j_iload_n CX 1 dX6_take_54 rfl rfl ?_
            refine j_iald CX 18 t8 dX6_take_55 rfl (rfl) (by first | assumption | omega) (by decide) ?_
            refine j_iadd CX dX6_take_56 ?_
            refine j_icmp_le CX 62 dX6_take_57 (by decide) (fun h57 => ?_) (fun h57 => ?_)
            · refine j_lve (lv' := [(2, .int (nI j9)), (1, .int (nI (t8 + 1) - nI 1)), (0, .ref (a 0))]) (by rw [nI_m1]) ?_
              refine j_iinc CX (v := nI (j9 + 1)) (lv' := [(2, .int (nI (j9 + 1))), (1, .int (nI (t8 + 1) - nI 1)), (0, .ref (a 0))]) 0 dX6_take_62 rfl (nI_1 _) (by decide) rfl ?_
              refine j_goto CX 9 dX6_take_65 (by decide) ?_
              first | exact ih9 _ (by omega) (j9 + 1) t9 rfl (by omega) (tbN_w ht h23) | exact ih9 _ (by omega) (j9 + 1) (t8 + 1) rfl (by omega) (tbN_k ht h23 h57)
            · refine j_iload_n CX 0 dX6_take_60 rfl rfl ?_
              refine j_istore_n CX (lv' := [(1, .int (nI j9)), (2, .int (nI j9)), (0, .ref (a 0))]) dX6_take_61 rfl (by decide) rfl ?_
              refine j_lve (lv' := [(1, .int (nI (j9 + 1) - nI 1)), (2, .int (nI j9)), (0, .ref (a 0))]) (by rw [nI_m1]) ?_
              refine j_iinc CX (v := nI (j9 + 1)) (lv' := [(2, .int (nI (j9 + 1))), (1, .int (nI (j9 + 1) - nI 1)), (0, .ref (a 0))]) 1 dX6_take_62 rfl (nI_1 _) (by decide) rfl ?_
              refine j_goto CX 9 dX6_take_65 (by decide) ?_
              first | exact ih9 _ (by omega) (j9 + 1) (j9 + 1) rfl (by omega) (tbN_0 (by rw [ht]; exact ht0) h23) | exact ih9 _ (by omega) (j9 + 1) (j9 + 1) rfl (by omega) (tbN_n ht h23 h57)
  show J p l e rmX6_take s m args below meth c D A 3 0 0 (MQ below (jQc D (fun r0 w0 => r0 = some (.int (nI b)) ∧ w0 = mW a cI cZ n (nI 0) (nI fc) sp (nI cr) (nI ln) cx (nI jo) (nI (wg - 1)) sh va (nf C) (nf fw) (nf fz) (nf fh) (nf G) di (nf B) ke (nf dO) (nf fr) (nf ma) (nf st) hf (nf (updN wa b 0)) ra (taF wa (b + 1) ag jo)) A) args s rmX6_take.cells rmX6_take.slots A) (mW a cI cZ n thr (nI fc) sp (nI cr) (nI ln) cx (nI jo) (nI wg) sh va (nf C) (nf fw) (nf fz) (nf fh) (nf G) di (nf B) ke (nf dO) (nf fr) (nf ma) (nf st) hf (nf wa) ra ag) 0 [(0, .ref (a 0))] []
  refine j_aload_n CX 0 dX6_take_0 rfl rfl ?_
  refine j_iconst CX dX6_take_1 (show _ = (nI 0 : Int32) by decide) ?_
  refine j_put CX (w' := mW a cI cZ n (nI 0) (nI fc) sp (nI cr) (nI ln) cx (nI jo) (nI wg) sh va (nf C) (nf fw) (nf fz) (nf fh) (nf G) di (nf B) ke (nf dO) (nf fr) (nf ma) (nf st) hf (nf wa) ra ag) 0 0 dX6_take_2 rfl rfl hin6 tyX6 tyX6_ok nmX6 (by decide) hfl72 rfl rfl rfl rfl (Nat.le_of_ble_eq_true rfl) rfl ?_
  refine j_iconst CX dX6_take_5 (show _ = ((-1) : Int32) by decide) ?_
  refine j_istore_n CX (lv' := [(1, .int (-1)), (0, .ref (a 0))]) dX6_take_6 rfl (by decide) rfl ?_
  refine j_lve (lv' := [(1, .int (nI 0 - nI 1)), (0, .ref (a 0))]) (by rw [show nI 0 - nI 1 = (-1 : Int32) by decide]) ?_
  refine j_iconst CX dX6_take_7 (show _ = (nI 0 : Int32) by decide) ?_
  refine j_istore_n CX (lv' := [(2, .int (nI 0)), (1, .int (nI 0 - nI 1)), (0, .ref (a 0))]) dX6_take_8 rfl (by decide) rfl ?_
  exact L9 _ 0 0 rfl (Nat.zero_le _) rfl
