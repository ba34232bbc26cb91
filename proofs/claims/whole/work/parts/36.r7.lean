abbrev rmX6_sum : Room := { frames := 1, cells := 0, slots := 0, locals := 21 }
set_option maxRecDepth 100000 in
set_option maxHeartbeats 4000000 in
theorem r_sum (l : Launch) (D : va_G) (cI cZ cL : ClassId) (a : Nat → Nat) (n : Nat) (thr : Int32) (fc : Nat) (sp : Int32) (cr ln : Nat) (cx : Int32) (jo wg : Nat) (sh va : Nat → Int32) (C fw fz fh G : Nat → Nat) (di : Nat → Int32) (B : Nat → Nat) (ke : Nat → Int32) (dO fr ma st : Nat → Nat) (hf : Nat → Int32) (wa : Nat → Nat) (ra ag : Nat → Int32) (hn : n ≤ 24) (h1 : 1 ≤ n) : Cg l D cI cZ cL yX6_sum wsX6_sum rmX6_sum [.ref (a 0)] (mW a cI cZ n thr (nI fc) sp (nI cr) (nI ln) cx (nI jo) (nI wg) sh va (nf C) (nf fw) (nf fz) (nf fh) (nf G) di (nf B) ke (nf dO) (nf fr) (nf ma) (nf st) hf (nf wa) ra ag) (fun r0 w0 => ∃ fr' ma' st' hf', r0 = some (.int (tsR va 5 0 n)) ∧ w0 = mW a cI cZ n (nI 0) (nI fc) sp (nI cr) (nI ln) cx (nI jo) (nI wg) sh va (nf C) (nf fw) (nf fz) (nf fh) (nf G) di (nf B) ke (nf dO) (nf fr') (nf ma') (nf st') hf' (nf wa) ra ag) := by
  refine Cg.ofJ (own := RX6) (cc := cX6_sum) (maxL := 5) (ret := (some .int)) (by decide) rfl rfl (Nat.le_of_ble_eq_true rfl) ?_
  intro p e s m args below meth c A CX hr hlocks hname
  have hin6 : ∀ x ∈ u_ws RX6 TX6 27, x ∈ wsX6_sum := by decide +kernel
  have hfl51 : Cond.fieldLink RX6 51 (TX6 19).1 (TX6 19).2.1 (TX6 19).2.2.1 ∈ wsX6_sum := by decide +kernel
  have hfl13 : Cond.fieldLink RX6 13 (TX6 3).1 (TX6 3).2.1 (TX6 3).2.2.1 ∈ wsX6_sum := by decide +kernel
  have hfl48 : Cond.fieldLink RX6 48 (TX6 18).1 (TX6 18).2.1 (TX6 18).2.2.1 ∈ wsX6_sum := by decide +kernel
  have hfl54 : Cond.fieldLink RX6 54 (TX6 20).1 (TX6 20).2.1 (TX6 20).2.2.1 ∈ wsX6_sum := by decide +kernel
  have hfl57 : Cond.fieldLink RX6 57 (TX6 21).1 (TX6 21).2.1 (TX6 21).2.2.1 ∈ wsX6_sum := by decide +kernel
  have hfl72 : Cond.fieldLink RX6 72 (TX6 0).1 (TX6 0).2.1 (TX6 0).2.2.1 ∈ wsX6_sum := by decide +kernel
  have hfl69 : Cond.fieldLink RX6 69 (TX6 1).1 (TX6 1).2.1 (TX6 1).2.2.1 ∈ wsX6_sum := by decide +kernel
  have L217 : ∀ (fr9 ma9 st9 : Nat → Nat) (hf9 : Nat → Int32), J p l e rmX6_sum s m args below meth c D A 5 0 0 (MQ below (jQc D (fun r0 w0 => ∃ fr' ma' st' hf', r0 = some (.int (tsR va 5 0 n)) ∧ w0 = mW a cI cZ n (nI 0) (nI fc) sp (nI cr) (nI ln) cx (nI jo) (nI wg) sh va (nf C) (nf fw) (nf fz) (nf fh) (nf G) di (nf B) ke (nf dO) (nf fr') (nf ma') (nf st') hf' (nf wa) ra ag) A) args s rmX6_sum.cells rmX6_sum.slots A) (mW a cI cZ n (nI 0) (nI fc) sp (nI cr) (nI ln) cx (nI jo) (nI wg) sh va (nf C) (nf fw) (nf fz) (nf fh) (nf G) di (nf B) ke (nf dO) (nf fr9) (nf ma9) (nf st9) hf9 (nf wa) ra ag) 217 [(1, .int (nI 0)), (2, .int (tsR va 5 0 n)), (0, .ref (a 0))] [] := by
    intro fr9 ma9 st9 hf9
    refine j_iload_n CX 1 dX6_sum_217 rfl rfl ?_
    exact j_iret CX hr hlocks dX6_sum_218 (⟨_, _, _, _, rfl, rfl⟩)
  have LE : ∀ (fr9 ma9 st9 : Nat → Nat) (hf9 : Nat → Int32), J p l e rmX6_sum s m args below meth c D A 5 0 0 (MQ below (jQc D (fun r0 w0 => ∃ fr' ma' st' hf', r0 = some (.int (tsR va 5 0 n)) ∧ w0 = mW a cI cZ n (nI 0) (nI fc) sp (nI cr) (nI ln) cx (nI jo) (nI wg) sh va (nf C) (nf fw) (nf fz) (nf fh) (nf G) di (nf B) ke (nf dO) (nf fr') (nf ma') (nf st') hf' (nf wa) ra ag) A) args s rmX6_sum.cells rmX6_sum.slots A) (mW a cI cZ n (nI 0) (nI fc) sp (nI cr) (nI ln) cx (nI jo) (nI wg) sh va (nf C) (nf fw) (nf fz) (nf fh) (nf G) di (nf B) ke (nf dO) (nf fr9) (nf ma9) (nf st9) hf9 (nf wa) ra ag) 33 [(1, .int (nI 0)), (2, .int (tsR va 5 0 n)), (0, .ref (a 0))] [] := by
    intro fr9 ma9 st9 hf9
    refine j_iload_n CX 0 dX6_sum_33 rfl rfl ?_
    refine j_ifN_le CX (by first | assumption | omega | exact b2n_lt _ | exact t2n_lt _) 217 dX6_sum_34 (by decide) (fun h34 => ?_) (fun h34 => absurd h34 (by decide))
    exact L217 fr9 ma9 st9 hf9
  have A0 : ∀ (k f c0 : Nat) (fr9 ma9 st9 : Nat → Nat) (hf9 : Nat → Int32) (r9 : Int32), k + 0 < 15 → 1 ≤ c0 → c0 ≤ 1 → f + c0 ≤ n → fr9 k = f → ma9 k = c0 → st9 k = 0 → (∀ (fr8 ma8 st8 : Nat → Nat) (hf8 : Nat → Int32), (∀ j, j < k → fr8 j = fr9 j ∧ ma8 j = ma9 j ∧ st8 j = st9 j ∧ hf8 j = hf9 j) → J p l e rmX6_sum s m args below meth c D A 5 0 0 (MQ below (jQc D (fun r0 w0 => ∃ fr' ma' st' hf', r0 = some (.int (tsR va 5 0 n)) ∧ w0 = mW a cI cZ n (nI 0) (nI fc) sp (nI cr) (nI ln) cx (nI jo) (nI wg) sh va (nf C) (nf fw) (nf fz) (nf fh) (nf G) di (nf B) ke (nf dO) (nf fr') (nf ma') (nf st') hf' (nf wa) ra ag) A) args s rmX6_sum.cells rmX6_sum.slots A) (mW a cI cZ n (nI 0) (nI fc) sp (nI cr) (nI ln) cx (nI jo) (nI wg) sh va (nf C) (nf fw) (nf fz) (nf fh) (nf G) di (nf B) ke (nf dO) (nf fr8) (nf ma8) (nf st8) hf8 (nf wa) ra ag) 33 [(1, .int (nI k)), (2, .int (tsR va 0 f c0)), (0, .ref (a 0))] []) → J p l e rmX6_sum s m args below meth c D A 5 0 0 (MQ below (jQc D (fun r0 w0 => ∃ fr' ma' st' hf', r0 = some (.int (tsR va 5 0 n)) ∧ w0 = mW a cI cZ n (nI 0) (nI fc) sp (nI cr) (nI ln) cx (nI jo) (nI wg) sh va (nf C) (nf fw) (nf fz) (nf fh) (nf G) di (nf B) ke (nf dO) (nf fr') (nf ma') (nf st') hf' (nf wa) ra ag) A) args s rmX6_sum.cells rmX6_sum.slots A) (mW a cI cZ n (nI 0) (nI fc) sp (nI cr) (nI ln) cx (nI jo) (nI wg) sh va (nf C) (nf fw) (nf fz) (nf fh) (nf G) di (nf B) ke (nf dO) (nf fr9) (nf ma9) (nf st9) hf9 (nf wa) ra ag) 33 [(1, .int (nI (k + 1))), (2, .int r9), (0, .ref (a 0))] [] := by
    intro k f c0 fr9 ma9 st9 hf9 r9 hk hc1 hc2 hfc0 hfr hma hst hkk
    refine j_iload_n CX 0 dX6_sum_33 rfl rfl ?_
    refine j_ifN_le CX (by first | assumption | omega | exact b2n_lt _ | exact t2n_lt _) 217 dX6_sum_34 (by decide) (fun h34 => ?_) (fun h34 => ?_)
    · exact absurd h34 (by omega)
    · refine j_iload_n CX 0 dX6_sum_37 rfl rfl ?_
      refine j_iconst CX dX6_sum_38 (show _ = (nI 1 : Int32) by decide) ?_
      refine j_isub CX dX6_sum_39 ?_
      refine j_top (show ((nI (k + 1)) - (nI 1)) = nI k from nI_m1 _) ?_
      refine j_istore_n CX (lv' := [(3, .int (nI k)), (1, .int (nI (k + 1))), (2, .int r9), (0, .ref (a 0))]) dX6_sum_40 rfl (by decide) rfl ?_
      refine j_aload_n CX 3 dX6_sum_41 rfl rfl ?_
      refine j_get CX 0 19 dX6_sum_42 rfl rfl hin6 (by decide) hfl51 rfl ?_
      refine j_iload_n CX 0 dX6_sum_45 rfl rfl ?_
      refine j_iald CX 13 k dX6_sum_46 rfl (rfl) (by first | assumption | omega) (by decide) ?_
      refine j_top (show (nI (ma9 k)) = nI c0 from by rw [hma]) ?_
      refine j_iconst CX dX6_sum_47 (show _ = (nI 1 : Int32) by decide) ?_
      refine j_iadd CX dX6_sum_48 ?_
      refine j_top (show (nI c0) + (nI 1) = nI (c0 + 1) from nI_add _ _) ?_
      refine j_iconst CX dX6_sum_49 (show _ = (nI 2 : Int32) by decide) ?_
      refine j_idiv CX dX6_sum_50 (by decide) ?_
      refine j_top (show ((nI (c0 + 1)) / (nI 2)) = nI ((c0 + 1) / 2) from pk_div (by omega) (by decide) (by decide)) ?_
      refine j_istore CX (lv' := [(4, .int (nI ((c0 + 1) / 2))), (3, .int (nI k)), (1, .int (nI (k + 1))), (2, .int r9), (0, .ref (a 0))]) dX6_sum_51 (by decide) rfl ?_
      refine j_aload_n CX 4 dX6_sum_53 rfl rfl ?_
      refine j_get CX 0 19 dX6_sum_54 rfl rfl hin6 (by decide) hfl51 rfl ?_
      refine j_iload_n CX 1 dX6_sum_57 rfl rfl ?_
      refine j_iald CX 13 k dX6_sum_58 rfl (rfl) (by first | assumption | omega) (by decide) ?_
      refine j_top (show (nI (ma9 k)) = nI c0 from by rw [hma]) ?_
      refine j_iconst CX dX6_sum_59 (show _ = (nI 1 : Int32) by decide) ?_
      refine j_icmpN_ne CX (by first | assumption | omega) (by first | assumption | omega | exact b2n_lt _ | exact t2n_lt _) 81 dX6_sum_60 (by decide) (fun h60 => ?_) (fun h60 => ?_)
      · exact absurd h60 (by omega)
      · refine j_aload_n CX 4 dX6_sum_63 rfl rfl ?_
        refine j_get CX 0 3 dX6_sum_64 rfl rfl hin6 (by decide) hfl13 rfl ?_
        refine j_aload_n CX 4 dX6_sum_67 rfl rfl ?_
        refine j_get CX 0 18 dX6_sum_68 rfl rfl hin6 (by decide) hfl48 rfl ?_
        refine j_iload_n CX 1 dX6_sum_71 rfl rfl ?_
        refine j_iald CX 12 k dX6_sum_72 rfl (rfl) (by first | assumption | omega) (by decide) ?_
        refine j_top (show (nI (fr9 k)) = nI f from by rw [hfr]) ?_
        refine j_iald CX 2 f dX6_sum_73 rfl (rfl) (by first | assumption | omega) (by decide) ?_
        refine j_istore_n CX (lv' := [(2, .int (va f)), (4, .int (nI ((c0 + 1) / 2))), (3, .int (nI k)), (1, .int (nI (k + 1))), (0, .ref (a 0))]) dX6_sum_74 rfl (by decide) rfl ?_
        refine j_lve (lv' := [(2, .int (tsR va 0 f c0)), (4, .int (nI ((c0 + 1) / 2))), (3, .int (nI k)), (1, .int (nI (k + 1))), (0, .ref (a 0))]) (by rfl) ?_
        refine j_iinc CX (v := nI k) (lv' := [(1, .int (nI k)), (2, .int (tsR va 0 f c0)), (4, .int (nI ((c0 + 1) / 2))), (3, .int (nI k)), (0, .ref (a 0))]) 3 dX6_sum_75 rfl (by rw [sub_m1]; exact nI_m1 _) (by decide) rfl ?_
        refine j_goto CX 214 dX6_sum_78 (by decide) ?_
        refine j_goto CX 33 dX6_sum_214 (by decide) ?_
        refine j_lv (lv' := [(1, .int (nI k)), (2, .int (tsR va 0 f c0)), (0, .ref (a 0))]) [0, 1, 4] rfl ?_
        exact hkk _ _ _ _ (fun j hj => ⟨rfl, rfl, rfl, rfl⟩)
  have C1 : ∀ (k f c0 : Nat) (fr9 ma9 st9 : Nat → Nat) (hf9 : Nat → Int32) (r9 : Int32), k + 1 < 15 → 1 ≤ c0 → c0 ≤ 2 → f + c0 ≤ n → fr9 k = f → ma9 k = c0 → 1 < c0 → st9 k = 2 → hf9 k = tsR va 0 f ((c0 + 1) / 2) → r9 = tsR va 0 (f + ((c0 + 1) / 2)) (c0 - (c0 + 1) / 2) → (∀ (fr8 ma8 st8 : Nat → Nat) (hf8 : Nat → Int32), (∀ j, j < k → fr8 j = fr9 j ∧ ma8 j = ma9 j ∧ st8 j = st9 j ∧ hf8 j = hf9 j) → J p l e rmX6_sum s m args below meth c D A 5 0 0 (MQ below (jQc D (fun r0 w0 => ∃ fr' ma' st' hf', r0 = some (.int (tsR va 5 0 n)) ∧ w0 = mW a cI cZ n (nI 0) (nI fc) sp (nI cr) (nI ln) cx (nI jo) (nI wg) sh va (nf C) (nf fw) (nf fz) (nf fh) (nf G) di (nf B) ke (nf dO) (nf fr') (nf ma') (nf st') hf' (nf wa) ra ag) A) args s rmX6_sum.cells rmX6_sum.slots A) (mW a cI cZ n (nI 0) (nI fc) sp (nI cr) (nI ln) cx (nI jo) (nI wg) sh va (nf C) (nf fw) (nf fz) (nf fh) (nf G) di (nf B) ke (nf dO) (nf fr8) (nf ma8) (nf st8) hf8 (nf wa) ra ag) 33 [(1, .int (nI k)), (2, .int (tsR va 1 f c0)), (0, .ref (a 0))] []) → J p l e rmX6_sum s m args below meth c D A 5 0 0 (MQ below (jQc D (fun r0 w0 => ∃ fr' ma' st' hf', r0 = some (.int (tsR va 5 0 n)) ∧ w0 = mW a cI cZ n (nI 0) (nI fc) sp (nI cr) (nI ln) cx (nI jo) (nI wg) sh va (nf C) (nf fw) (nf fz) (nf fh) (nf G) di (nf B) ke (nf dO) (nf fr') (nf ma') (nf st') hf' (nf wa) ra ag) A) args s rmX6_sum.cells rmX6_sum.slots A) (mW a cI cZ n (nI 0) (nI fc) sp (nI cr) (nI ln) cx (nI jo) (nI wg) sh va (nf C) (nf fw) (nf fz) (nf fh) (nf G) di (nf B) ke (nf dO) (nf fr9) (nf ma9) (nf st9) hf9 (nf wa) ra ag) 33 [(1, .int (nI (k + 1))), (2, .int r9), (0, .ref (a 0))] [] := by
    intro k f c0 fr9 ma9 st9 hf9 r9 hk hc1 hc2 hfc0 hfr hma hc3 hst hhf hr9 hkk
    refine j_iload_n CX 0 dX6_sum_33 rfl rfl ?_
    refine j_ifN_le CX (by first | assumption | omega | exact b2n_lt _ | exact t2n_lt _) 217 dX6_sum_34 (by decide) (fun h34 => ?_) (fun h34 => ?_)
    · exact absurd h34 (by omega)
    · refine j_iload_n CX 0 dX6_sum_37 rfl rfl ?_
      refine j_iconst CX dX6_sum_38 (show _ = (nI 1 : Int32) by decide) ?_
      refine j_isub CX dX6_sum_39 ?_
      refine j_top (show ((nI (k + 1)) - (nI 1)) = nI k from nI_m1 _) ?_
      refine j_istore_n CX (lv' := [(3, .int (nI k)), (1, .int (nI (k + 1))), (2, .int r9), (0, .ref (a 0))]) dX6_sum_40 rfl (by decide) rfl ?_
      refine j_aload_n CX 3 dX6_sum_41 rfl rfl ?_
      refine j_get CX 0 19 dX6_sum_42 rfl rfl hin6 (by decide) hfl51 rfl ?_
      refine j_iload_n CX 0 dX6_sum_45 rfl rfl ?_
      refine j_iald CX 13 k dX6_sum_46 rfl (rfl) (by first | assumption | omega) (by decide) ?_
      refine j_top (show (nI (ma9 k)) = nI c0 from by rw [hma]) ?_
      refine j_iconst CX dX6_sum_47 (show _ = (nI 1 : Int32) by decide) ?_
      refine j_iadd CX dX6_sum_48 ?_
      refine j_top (show (nI c0) + (nI 1) = nI (c0 + 1) from nI_add _ _) ?_
      refine j_iconst CX dX6_sum_49 (show _ = (nI 2 : Int32) by decide) ?_
      refine j_idiv CX dX6_sum_50 (by decide) ?_
      refine j_top (show ((nI (c0 + 1)) / (nI 2)) = nI ((c0 + 1) / 2) from pk_div (by omega) (by decide) (by decide)) ?_
      refine j_istore CX (lv' := [(4, .int (nI ((c0 + 1) / 2))), (3, .int (nI k)), (1, .int (nI (k + 1))), (2, .int r9), (0, .ref (a 0))]) dX6_sum_51 (by decide) rfl ?_
      refine j_aload_n CX 4 dX6_sum_53 rfl rfl ?_
      refine j_get CX 0 19 dX6_sum_54 rfl rfl hin6 (by decide) hfl51 rfl ?_
      refine j_iload_n CX 1 dX6_sum_57 rfl rfl ?_
      refine j_iald CX 13 k dX6_sum_58 rfl (rfl) (by first | assumption | omega) (by decide) ?_
      refine j_top (show (nI (ma9 k)) = nI c0 from by rw [hma]) ?_
      refine j_iconst CX dX6_sum_59 (show _ = (nI 1 : Int32) by decide) ?_
      refine j_icmpN_ne CX (by first | assumption | omega) (by first | assumption | omega | exact b2n_lt _ | exact t2n_lt _) 81 dX6_sum_60 (by decide) (fun h60 => ?_) (fun h60 => ?_)
      · have hstb : st9 k < 2 ^ 31 := by omega
        refine j_aload_n CX 4 dX6_sum_81 rfl rfl ?_
        refine j_get CX 0 20 dX6_sum_82 rfl rfl hin6 (by decide) hfl54 rfl ?_
        refine j_iload_n CX 1 dX6_sum_85 rfl rfl ?_
        refine j_iald CX 14 k dX6_sum_86 rfl (rfl) (by first | assumption | omega) (by decide) ?_
        refine j_ifN_ne CX (by first | assumption | omega | exact b2n_lt _ | exact t2n_lt _) 130 dX6_sum_87 (by decide) (fun h87 => ?_) (fun h87 => ?_)
        · refine j_aload_n CX 4 dX6_sum_130 rfl rfl ?_
          refine j_get CX 0 20 dX6_sum_131 rfl rfl hin6 (by decide) hfl54 rfl ?_
          refine j_iload_n CX 1 dX6_sum_134 rfl rfl ?_
          refine j_iald CX 14 k dX6_sum_135 rfl (rfl) (by first | assumption | omega) (by decide) ?_
          refine j_iconst CX dX6_sum_136 (show _ = (nI 1 : Int32) by decide) ?_
          refine j_icmpN_ne CX (by first | assumption | omega) (by first | assumption | omega | exact b2n_lt _ | exact t2n_lt _) 197 dX6_sum_137 (by decide) (fun h137 => ?_) (fun h137 => ?_)
          · refine j_aload_n CX 4 dX6_sum_197 rfl rfl ?_
            refine j_get CX 0 21 dX6_sum_198 rfl rfl hin6 (by decide) hfl57 rfl ?_
            refine j_iload_n CX 1 dX6_sum_201 rfl rfl ?_
            refine j_iald CX 15 k dX6_sum_202 rfl (rfl) (by first | assumption | omega) (by decide) ?_
            refine j_i2l CX dX6_sum_203 ?_
            refine j_iload_n CX 3 dX6_sum_204 rfl rfl ?_
            refine j_i2l CX dX6_sum_205 ?_
            refine j_ladd CX dX6_sum_206 ?_
            refine j_callS CX (n := 1) (b := 0) (pre := []) (post := mW a cI cZ n (nI 0) (nI fc) sp (nI cr) (nI ln) cx (nI jo) (nI wg) sh va (nf C) (nf fw) (nf fz) (nf fh) (nf G) di (nf B) ke (nf dO) (nf fr9) (nf ma9) (nf st9) hf9 (nf wa) ra ag) (rest := []) (r_within l D cI cZ cL (((hf9 k).toInt64) + r9.toInt64)) gX6_sum_X6_within rfl (by decide +kernel) ⟨Nat.le_of_ble_eq_true rfl, Nat.le_of_ble_eq_true rfl⟩ rfl rfl rfl (Nat.le_of_ble_eq_true rfl) dX6_sum_207 ⟨Nat.le_refl _, Nat.le_refl _⟩ (fun r9 w9 h9 => ?_)
            obtain ⟨rfl, rfl⟩ := h9
            refine j_w (w' := mW a cI cZ n (nI 0) (nI fc) sp (nI cr) (nI ln) cx (nI jo) (nI wg) sh va (nf C) (nf fw) (nf fz) (nf fh) (nf G) di (nf B) ke (nf dO) (nf fr9) (nf ma9) (nf st9) hf9 (nf wa) ra ag) rfl ?_
            refine j_st (st9 := [.int (kept (((hf9 k).toInt64) + r9.toInt64))]) rfl ?_
            refine j_istore_n CX (lv' := [(2, .int (kept (((hf9 k).toInt64) + r9.toInt64))), (4, .int (nI ((c0 + 1) / 2))), (3, .int (nI k)), (1, .int (nI (k + 1))), (0, .ref (a 0))]) dX6_sum_210 rfl (by decide) rfl ?_
            refine j_lve (lv' := [(2, .int (tsR va 1 f c0)), (4, .int (nI ((c0 + 1) / 2))), (3, .int (nI k)), (1, .int (nI (k + 1))), (0, .ref (a 0))]) (by rw [show tsR va 1 f c0 = kept (((hf9 k).toInt64) + r9.toInt64) by rw [hhf, hr9]; show (if _ then _ else _) = _; rw [if_neg (by omega)]]) ?_
            refine j_iinc CX (v := nI k) (lv' := [(1, .int (nI k)), (2, .int (tsR va 1 f c0)), (4, .int (nI ((c0 + 1) / 2))), (3, .int (nI k)), (0, .ref (a 0))]) 3 dX6_sum_211 rfl (by rw [sub_m1]; exact nI_m1 _) (by decide) rfl ?_
            refine j_goto CX 33 dX6_sum_214 (by decide) ?_
            refine j_lv (lv' := [(1, .int (nI k)), (2, .int (tsR va 1 f c0)), (0, .ref (a 0))]) [0, 1, 4] rfl ?_
            exact hkk _ _ _ _ (fun j hj => ⟨rfl, rfl, rfl, rfl⟩)
          · exact absurd (hst.symm.trans h137) (by decide)
        · exact absurd (hst.symm.trans h87) (by decide)
      · exact absurd hc3 (by omega)
  have B1 : ∀ (k f c0 : Nat) (fr9 ma9 st9 : Nat → Nat) (hf9 : Nat → Int32) (r9 : Int32), k + 1 < 15 → 1 ≤ c0 → c0 ≤ 2 → f + c0 ≤ n → fr9 k = f → ma9 k = c0 → 1 < c0 → st9 k = 1 → r9 = tsR va 0 f ((c0 + 1) / 2) → (∀ (fr8 ma8 st8 : Nat → Nat) (hf8 : Nat → Int32), (∀ j, j < k → fr8 j = fr9 j ∧ ma8 j = ma9 j ∧ st8 j = st9 j ∧ hf8 j = hf9 j) → J p l e rmX6_sum s m args below meth c D A 5 0 0 (MQ below (jQc D (fun r0 w0 => ∃ fr' ma' st' hf', r0 = some (.int (tsR va 5 0 n)) ∧ w0 = mW a cI cZ n (nI 0) (nI fc) sp (nI cr) (nI ln) cx (nI jo) (nI wg) sh va (nf C) (nf fw) (nf fz) (nf fh) (nf G) di (nf B) ke (nf dO) (nf fr') (nf ma') (nf st') hf' (nf wa) ra ag) A) args s rmX6_sum.cells rmX6_sum.slots A) (mW a cI cZ n (nI 0) (nI fc) sp (nI cr) (nI ln) cx (nI jo) (nI wg) sh va (nf C) (nf fw) (nf fz) (nf fh) (nf G) di (nf B) ke (nf dO) (nf fr8) (nf ma8) (nf st8) hf8 (nf wa) ra ag) 33 [(1, .int (nI k)), (2, .int (tsR va 1 f c0)), (0, .ref (a 0))] []) → J p l e rmX6_sum s m args below meth c D A 5 0 0 (MQ below (jQc D (fun r0 w0 => ∃ fr' ma' st' hf', r0 = some (.int (tsR va 5 0 n)) ∧ w0 = mW a cI cZ n (nI 0) (nI fc) sp (nI cr) (nI ln) cx (nI jo) (nI wg) sh va (nf C) (nf fw) (nf fz) (nf fh) (nf G) di (nf B) ke (nf dO) (nf fr') (nf ma') (nf st') hf' (nf wa) ra ag) A) args s rmX6_sum.cells rmX6_sum.slots A) (mW a cI cZ n (nI 0) (nI fc) sp (nI cr) (nI ln) cx (nI jo) (nI wg) sh va (nf C) (nf fw) (nf fz) (nf fh) (nf G) di (nf B) ke (nf dO) (nf fr9) (nf ma9) (nf st9) hf9 (nf wa) ra ag) 33 [(1, .int (nI (k + 1))), (2, .int r9), (0, .ref (a 0))] [] := by
    intro k f c0 fr9 ma9 st9 hf9 r9 hk hc1 hc2 hfc0 hfr hma hc3 hst hr9 hkk
    refine j_iload_n CX 0 dX6_sum_33 rfl rfl ?_
    refine j_ifN_le CX (by first | assumption | omega | exact b2n_lt _ | exact t2n_lt _) 217 dX6_sum_34 (by decide) (fun h34 => ?_) (fun h34 => ?_)
    · exact absurd h34 (by omega)
    · refine j_iload_n CX 0 dX6_sum_37 rfl rfl ?_
      refine j_iconst CX dX6_sum_38 (show _ = (nI 1 : Int32) by decide) ?_
      refine j_isub CX dX6_sum_39 ?_
      refine j_top (show ((nI (k + 1)) - (nI 1)) = nI k from nI_m1 _) ?_
      refine j_istore_n CX (lv' := [(3, .int (nI k)), (1, .int (nI (k + 1))), (2, .int r9), (0, .ref (a 0))]) dX6_sum_40 rfl (by decide) rfl ?_
      refine j_aload_n CX 3 dX6_sum_41 rfl rfl ?_
      refine j_get CX 0 19 dX6_sum_42 rfl rfl hin6 (by decide) hfl51 rfl ?_
      refine j_iload_n CX 0 dX6_sum_45 rfl rfl ?_
      refine j_iald CX 13 k dX6_sum_46 rfl (rfl) (by first | assumption | omega) (by decide) ?_
      refine j_top (show (nI (ma9 k)) = nI c0 from by rw [hma]) ?_
      refine j_iconst CX dX6_sum_47 (show _ = (nI 1 : Int32) by decide) ?_
      refine j_iadd CX dX6_sum_48 ?_
      refine j_top (show (nI c0) + (nI 1) = nI (c0 + 1) from nI_add _ _) ?_
      refine j_iconst CX dX6_sum_49 (show _ = (nI 2 : Int32) by decide) ?_
      refine j_idiv CX dX6_sum_50 (by decide) ?_
      refine j_top (show ((nI (c0 + 1)) / (nI 2)) = nI ((c0 + 1) / 2) from pk_div (by omega) (by decide) (by decide)) ?_
      refine j_istore CX (lv' := [(4, .int (nI ((c0 + 1) / 2))), (3, .int (nI k)), (1, .int (nI (k + 1))), (2, .int r9), (0, .ref (a 0))]) dX6_sum_51 (by decide) rfl ?_
      refine j_aload_n CX 4 dX6_sum_53 rfl rfl ?_
      refine j_get CX 0 19 dX6_sum_54 rfl rfl hin6 (by decide) hfl51 rfl ?_
      refine j_iload_n CX 1 dX6_sum_57 rfl rfl ?_
      refine j_iald CX 13 k dX6_sum_58 rfl (rfl) (by first | assumption | omega) (by decide) ?_
      refine j_top (show (nI (ma9 k)) = nI c0 from by rw [hma]) ?_
      refine j_iconst CX dX6_sum_59 (show _ = (nI 1 : Int32) by decide) ?_
      refine j_icmpN_ne CX (by first | assumption | omega) (by first | assumption | omega | exact b2n_lt _ | exact t2n_lt _) 81 dX6_sum_60 (by decide) (fun h60 => ?_) (fun h60 => ?_)
      · have hstb : st9 k < 2 ^ 31 := by omega
        refine j_aload_n CX 4 dX6_sum_81 rfl rfl ?_
        refine j_get CX 0 20 dX6_sum_82 rfl rfl hin6 (by decide) hfl54 rfl ?_
        refine j_iload_n CX 1 dX6_sum_85 rfl rfl ?_
        refine j_iald CX 14 k dX6_sum_86 rfl (rfl) (by first | assumption | omega) (by decide) ?_
        refine j_ifN_ne CX (by first | assumption | omega | exact b2n_lt _ | exact t2n_lt _) 130 dX6_sum_87 (by decide) (fun h87 => ?_) (fun h87 => ?_)
        · refine j_aload_n CX 4 dX6_sum_130 rfl rfl ?_
          refine j_get CX 0 20 dX6_sum_131 rfl rfl hin6 (by decide) hfl54 rfl ?_
          refine j_iload_n CX 1 dX6_sum_134 rfl rfl ?_
          refine j_iald CX 14 k dX6_sum_135 rfl (rfl) (by first | assumption | omega) (by decide) ?_
          refine j_iconst CX dX6_sum_136 (show _ = (nI 1 : Int32) by decide) ?_
          refine j_icmpN_ne CX (by first | assumption | omega) (by first | assumption | omega | exact b2n_lt _ | exact t2n_lt _) 197 dX6_sum_137 (by decide) (fun h137 => ?_) (fun h137 => ?_)
          · exact absurd hst h137
          · refine j_aload_n CX 4 dX6_sum_140 rfl rfl ?_
            refine j_get CX 0 21 dX6_sum_141 rfl rfl hin6 (by decide) hfl57 rfl ?_
            refine j_iload_n CX 1 dX6_sum_144 rfl rfl ?_
            refine j_iload_n CX 3 dX6_sum_145 rfl rfl ?_
            refine j_iast CX (w' := mW a cI cZ n (nI 0) (nI fc) sp (nI cr) (nI ln) cx (nI jo) (nI wg) sh va (nf C) (nf fw) (nf fz) (nf fh) (nf G) di (nf B) ke (nf dO) (nf fr9) (nf ma9) (nf st9) (upd hf9 k r9) (nf wa) ra ag) 15 k dX6_sum_146 rfl (rfl) (by first | assumption | omega) (by decide) rfl ?_
            refine j_aload_n CX 4 dX6_sum_147 rfl rfl ?_
            refine j_get CX 0 20 dX6_sum_148 rfl rfl hin6 (by decide) hfl54 rfl ?_
            refine j_iload_n CX 1 dX6_sum_151 rfl rfl ?_
            refine j_iconst CX dX6_sum_152 (show _ = (nI 2 : Int32) by decide) ?_
            refine j_iast CX (w' := mW a cI cZ n (nI 0) (nI fc) sp (nI cr) (nI ln) cx (nI jo) (nI wg) sh va (nf C) (nf fw) (nf fz) (nf fh) (nf G) di (nf B) ke (nf dO) (nf fr9) (nf ma9) (upd (nf st9) k (nI 2)) (upd hf9 k r9) (nf wa) ra ag) 14 k dX6_sum_153 rfl (rfl) (by first | assumption | omega) (by decide) rfl ?_
            refine j_w (show mW a cI cZ n (nI 0) (nI fc) sp (nI cr) (nI ln) cx (nI jo) (nI wg) sh va (nf C) (nf fw) (nf fz) (nf fh) (nf G) di (nf B) ke (nf dO) (nf fr9) (nf ma9) (upd (nf st9) k (nI 2)) (upd hf9 k r9) (nf wa) ra ag = mW a cI cZ n (nI 0) (nI fc) sp (nI cr) (nI ln) cx (nI jo) (nI wg) sh va (nf C) (nf fw) (nf fz) (nf fh) (nf G) di (nf B) ke (nf dO) (nf fr9) (nf ma9) (nf (updN st9 k 2)) (upd hf9 k r9) (nf wa) ra ag by rw [nf_upd]) ?_
            refine j_aload_n CX 4 dX6_sum_154 rfl rfl ?_
            refine j_get CX 0 18 dX6_sum_155 rfl rfl hin6 (by decide) hfl48 rfl ?_
            refine j_iload_n CX 2 dX6_sum_158 rfl rfl ?_
            refine j_aload_n CX 4 dX6_sum_159 rfl rfl ?_
            refine j_get CX 0 18 dX6_sum_160 rfl rfl hin6 (by decide) hfl48 rfl ?_
            refine j_iload_n CX 1 dX6_sum_163 rfl rfl ?_
            refine j_iald CX 12 k dX6_sum_164 rfl (rfl) (by first | assumption | omega) (by decide) ?_
            refine j_top (show (nI (fr9 k)) = nI f from by rw [hfr]) ?_
            refine j_iload CX 0 dX6_sum_165 rfl ?_
            refine j_iadd CX dX6_sum_167 ?_
            refine j_top (show (nI f) + (nI ((c0 + 1) / 2)) = nI (f + ((c0 + 1) / 2)) from nI_add _ _) ?_
            refine j_iast CX (w' := mW a cI cZ n (nI 0) (nI fc) sp (nI cr) (nI ln) cx (nI jo) (nI wg) sh va (nf C) (nf fw) (nf fz) (nf fh) (nf G) di (nf B) ke (nf dO) (upd (nf fr9) (k + 1) (nI (f + ((c0 + 1) / 2)))) (nf ma9) (nf (updN st9 k 2)) (upd hf9 k r9) (nf wa) ra ag) 12 (k + 1) dX6_sum_168 rfl (rfl) (by first | assumption | omega) (by decide) rfl ?_
            refine j_w (show mW a cI cZ n (nI 0) (nI fc) sp (nI cr) (nI ln) cx (nI jo) (nI wg) sh va (nf C) (nf fw) (nf fz) (nf fh) (nf G) di (nf B) ke (nf dO) (upd (nf fr9) (k + 1) (nI (f + ((c0 + 1) / 2)))) (nf ma9) (nf (updN st9 k 2)) (upd hf9 k r9) (nf wa) ra ag = mW a cI cZ n (nI 0) (nI fc) sp (nI cr) (nI ln) cx (nI jo) (nI wg) sh va (nf C) (nf fw) (nf fz) (nf fh) (nf G) di (nf B) ke (nf dO) (nf (updN fr9 (k + 1) (f + ((c0 + 1) / 2)))) (nf ma9) (nf (updN st9 k 2)) (upd hf9 k r9) (nf wa) ra ag by rw [nf_upd]) ?_
            refine j_aload_n CX 4 dX6_sum_169 rfl rfl ?_
            refine j_get CX 0 19 dX6_sum_170 rfl rfl hin6 (by decide) hfl51 rfl ?_
            refine j_iload_n CX 2 dX6_sum_173 rfl rfl ?_
            refine j_aload_n CX 4 dX6_sum_174 rfl rfl ?_
            refine j_get CX 0 19 dX6_sum_175 rfl rfl hin6 (by decide) hfl51 rfl ?_
            refine j_iload_n CX 1 dX6_sum_178 rfl rfl ?_
            refine j_iald CX 13 k dX6_sum_179 rfl (rfl) (by first | assumption | omega) (by decide) ?_
            refine j_top (show (nI (ma9 k)) = nI c0 from by rw [hma]) ?_
            refine j_iload CX 0 dX6_sum_180 rfl ?_
            refine j_isub CX dX6_sum_182 ?_
            refine j_top (show ((nI c0) - (nI ((c0 + 1) / 2))) = nI (c0 - (c0 + 1) / 2) from pk_sub (by omega)) ?_
            refine j_iast CX (w' := mW a cI cZ n (nI 0) (nI fc) sp (nI cr) (nI ln) cx (nI jo) (nI wg) sh va (nf C) (nf fw) (nf fz) (nf fh) (nf G) di (nf B) ke (nf dO) (nf (updN fr9 (k + 1) (f + ((c0 + 1) / 2)))) (upd (nf ma9) (k + 1) (nI (c0 - (c0 + 1) / 2))) (nf (updN st9 k 2)) (upd hf9 k r9) (nf wa) ra ag) 13 (k + 1) dX6_sum_183 rfl (rfl) (by first | assumption | omega) (by decide) rfl ?_
            refine j_w (show mW a cI cZ n (nI 0) (nI fc) sp (nI cr) (nI ln) cx (nI jo) (nI wg) sh va (nf C) (nf fw) (nf fz) (nf fh) (nf G) di (nf B) ke (nf dO) (nf (updN fr9 (k + 1) (f + ((c0 + 1) / 2)))) (upd (nf ma9) (k + 1) (nI (c0 - (c0 + 1) / 2))) (nf (updN st9 k 2)) (upd hf9 k r9) (nf wa) ra ag = mW a cI cZ n (nI 0) (nI fc) sp (nI cr) (nI ln) cx (nI jo) (nI wg) sh va (nf C) (nf fw) (nf fz) (nf fh) (nf G) di (nf B) ke (nf dO) (nf (updN fr9 (k + 1) (f + ((c0 + 1) / 2)))) (nf (updN ma9 (k + 1) (c0 - (c0 + 1) / 2))) (nf (updN st9 k 2)) (upd hf9 k r9) (nf wa) ra ag by rw [nf_upd]) ?_
            refine j_aload_n CX 4 dX6_sum_184 rfl rfl ?_
            refine j_get CX 0 20 dX6_sum_185 rfl rfl hin6 (by decide) hfl54 rfl ?_
            refine j_iload_n CX 2 dX6_sum_188 rfl rfl ?_
            refine j_iconst CX dX6_sum_189 (show _ = (nI 0 : Int32) by decide) ?_
            refine j_iast CX (w' := mW a cI cZ n (nI 0) (nI fc) sp (nI cr) (nI ln) cx (nI jo) (nI wg) sh va (nf C) (nf fw) (nf fz) (nf fh) (nf G) di (nf B) ke (nf dO) (nf (updN fr9 (k + 1) (f + ((c0 + 1) / 2)))) (nf (updN ma9 (k + 1) (c0 - (c0 + 1) / 2))) (upd (nf (updN st9 k 2)) (k + 1) (nI 0)) (upd hf9 k r9) (nf wa) ra ag) 14 (k + 1) dX6_sum_190 rfl (rfl) (by first | assumption | omega) (by decide) rfl ?_
            refine j_w (show mW a cI cZ n (nI 0) (nI fc) sp (nI cr) (nI ln) cx (nI jo) (nI wg) sh va (nf C) (nf fw) (nf fz) (nf fh) (nf G) di (nf B) ke (nf dO) (nf (updN fr9 (k + 1) (f + ((c0 + 1) / 2)))) (nf (updN ma9 (k + 1) (c0 - (c0 + 1) / 2))) (upd (nf (updN st9 k 2)) (k + 1) (nI 0)) (upd hf9 k r9) (nf wa) ra ag = mW a cI cZ n (nI 0) (nI fc) sp (nI cr) (nI ln) cx (nI jo) (nI wg) sh va (nf C) (nf fw) (nf fz) (nf fh) (nf G) di (nf B) ke (nf dO) (nf (updN fr9 (k + 1) (f + ((c0 + 1) / 2)))) (nf (updN ma9 (k + 1) (c0 - (c0 + 1) / 2))) (nf (updN (updN st9 k 2) (k + 1) 0)) (upd hf9 k r9) (nf wa) ra ag by rw [nf_upd]) ?_
            refine j_iinc CX (v := nI (k + 1 + 1)) (lv' := [(1, .int (nI (k + 1 + 1))), (4, .int (nI ((c0 + 1) / 2))), (3, .int (nI k)), (2, .int r9), (0, .ref (a 0))]) 2 dX6_sum_191 rfl (nI_1 _) (by decide) rfl ?_
            refine j_goto CX 214 dX6_sum_194 (by decide) ?_
            refine j_goto CX 33 dX6_sum_214 (by decide) ?_
            refine j_lv (lv' := [(1, .int (nI (k + 1 + 1))), (2, .int r9), (0, .ref (a 0))]) [0, 3, 4] rfl ?_
            refine A0 (k + 1) (f + (c0 + 1) / 2) (c0 - (c0 + 1) / 2) _ _ _ _ _ (by omega) (by omega) (by omega) (by omega) (by rw [updN_s]) (by rw [updN_s]) (by rw [updN_s]) (fun fr8 ma8 st8 hf8 h8 => ?_)
            have g8 := h8 k (by omega)
            refine C1 k f c0 fr8 ma8 st8 hf8 _ hk hc1 hc2 hfc0 (by rw [g8.1, updN_n (by omega), hfr]) (by rw [g8.2.1, updN_n (by omega), hma]) (by omega) (by rw [g8.2.2.1, updN_n (by omega), updN_s]) (by rw [g8.2.2.2, pk_us, hr9]) rfl (fun fr7 ma7 st7 hf7 h7 => hkk fr7 ma7 st7 hf7 (fun j hj => ?_))
            have g7 := h7 j hj
            have g6 := h8 j (by omega)
            exact ⟨by rw [g7.1, g6.1, updN_n (by omega)], by rw [g7.2.1, g6.2.1, updN_n (by omega)], by rw [g7.2.2.1, g6.2.2.1, updN_n (by omega), updN_n (by omega)], by rw [g7.2.2.2, g6.2.2.2, pk_un (by omega)]⟩
        · exact absurd (hst.symm.trans h87) (by decide)
      · exact absurd hc3 (by omega)
  have A1 : ∀ (k f c0 : Nat) (fr9 ma9 st9 : Nat → Nat) (hf9 : Nat → Int32) (r9 : Int32), k + 1 < 15 → 1 ≤ c0 → c0 ≤ 2 → f + c0 ≤ n → fr9 k = f → ma9 k = c0 → st9 k = 0 → (∀ (fr8 ma8 st8 : Nat → Nat) (hf8 : Nat → Int32), (∀ j, j < k → fr8 j = fr9 j ∧ ma8 j = ma9 j ∧ st8 j = st9 j ∧ hf8 j = hf9 j) → J p l e rmX6_sum s m args below meth c D A 5 0 0 (MQ below (jQc D (fun r0 w0 => ∃ fr' ma' st' hf', r0 = some (.int (tsR va 5 0 n)) ∧ w0 = mW a cI cZ n (nI 0) (nI fc) sp (nI cr) (nI ln) cx (nI jo) (nI wg) sh va (nf C) (nf fw) (nf fz) (nf fh) (nf G) di (nf B) ke (nf dO) (nf fr') (nf ma') (nf st') hf' (nf wa) ra ag) A) args s rmX6_sum.cells rmX6_sum.slots A) (mW a cI cZ n (nI 0) (nI fc) sp (nI cr) (nI ln) cx (nI jo) (nI wg) sh va (nf C) (nf fw) (nf fz) (nf fh) (nf G) di (nf B) ke (nf dO) (nf fr8) (nf ma8) (nf st8) hf8 (nf wa) ra ag) 33 [(1, .int (nI k)), (2, .int (tsR va 1 f c0)), (0, .ref (a 0))] []) → J p l e rmX6_sum s m args below meth c D A 5 0 0 (MQ below (jQc D (fun r0 w0 => ∃ fr' ma' st' hf', r0 = some (.int (tsR va 5 0 n)) ∧ w0 = mW a cI cZ n (nI 0) (nI fc) sp (nI cr) (nI ln) cx (nI jo) (nI wg) sh va (nf C) (nf fw) (nf fz) (nf fh) (nf G) di (nf B) ke (nf dO) (nf fr') (nf ma') (nf st') hf' (nf wa) ra ag) A) args s rmX6_sum.cells rmX6_sum.slots A) (mW a cI cZ n (nI 0) (nI fc) sp (nI cr) (nI ln) cx (nI jo) (nI wg) sh va (nf C) (nf fw) (nf fz) (nf fh) (nf G) di (nf B) ke (nf dO) (nf fr9) (nf ma9) (nf st9) hf9 (nf wa) ra ag) 33 [(1, .int (nI (k + 1))), (2, .int r9), (0, .ref (a 0))] [] := by
    intro k f c0 fr9 ma9 st9 hf9 r9 hk hc1 hc2 hfc0 hfr hma hst hkk
    refine j_iload_n CX 0 dX6_sum_33 rfl rfl ?_
    refine j_ifN_le CX (by first | assumption | omega | exact b2n_lt _ | exact t2n_lt _) 217 dX6_sum_34 (by decide) (fun h34 => ?_) (fun h34 => ?_)
    · exact absurd h34 (by omega)
    · refine j_iload_n CX 0 dX6_sum_37 rfl rfl ?_
      refine j_iconst CX dX6_sum_38 (show _ = (nI 1 : Int32) by decide) ?_
      refine j_isub CX dX6_sum_39 ?_
      refine j_top (show ((nI (k + 1)) - (nI 1)) = nI k from nI_m1 _) ?_
      refine j_istore_n CX (lv' := [(3, .int (nI k)), (1, .int (nI (k + 1))), (2, .int r9), (0, .ref (a 0))]) dX6_sum_40 rfl (by decide) rfl ?_
      refine j_aload_n CX 3 dX6_sum_41 rfl rfl ?_
      refine j_get CX 0 19 dX6_sum_42 rfl rfl hin6 (by decide) hfl51 rfl ?_
      refine j_iload_n CX 0 dX6_sum_45 rfl rfl ?_
      refine j_iald CX 13 k dX6_sum_46 rfl (rfl) (by first | assumption | omega) (by decide) ?_
      refine j_top (show (nI (ma9 k)) = nI c0 from by rw [hma]) ?_
      refine j_iconst CX dX6_sum_47 (show _ = (nI 1 : Int32) by decide) ?_
      refine j_iadd CX dX6_sum_48 ?_
      refine j_top (show (nI c0) + (nI 1) = nI (c0 + 1) from nI_add _ _) ?_
      refine j_iconst CX dX6_sum_49 (show _ = (nI 2 : Int32) by decide) ?_
      refine j_idiv CX dX6_sum_50 (by decide) ?_
      refine j_top (show ((nI (c0 + 1)) / (nI 2)) = nI ((c0 + 1) / 2) from pk_div (by omega) (by decide) (by decide)) ?_
      refine j_istore CX (lv' := [(4, .int (nI ((c0 + 1) / 2))), (3, .int (nI k)), (1, .int (nI (k + 1))), (2, .int r9), (0, .ref (a 0))]) dX6_sum_51 (by decide) rfl ?_
      refine j_aload_n CX 4 dX6_sum_53 rfl rfl ?_
      refine j_get CX 0 19 dX6_sum_54 rfl rfl hin6 (by decide) hfl51 rfl ?_
      refine j_iload_n CX 1 dX6_sum_57 rfl rfl ?_
      refine j_iald CX 13 k dX6_sum_58 rfl (rfl) (by first | assumption | omega) (by decide) ?_
      refine j_top (show (nI (ma9 k)) = nI c0 from by rw [hma]) ?_
      refine j_iconst CX dX6_sum_59 (show _ = (nI 1 : Int32) by decide) ?_
      refine j_icmpN_ne CX (by first | assumption | omega) (by first | assumption | omega | exact b2n_lt _ | exact t2n_lt _) 81 dX6_sum_60 (by decide) (fun h60 => ?_) (fun h60 => ?_)
      · have hstb : st9 k < 2 ^ 31 := by omega
        refine j_aload_n CX 4 dX6_sum_81 rfl rfl ?_
        refine j_get CX 0 20 dX6_sum_82 rfl rfl hin6 (by decide) hfl54 rfl ?_
        refine j_iload_n CX 1 dX6_sum_85 rfl rfl ?_
        refine j_iald CX 14 k dX6_sum_86 rfl (rfl) (by first | assumption | omega) (by decide) ?_
        refine j_ifN_ne CX (by first | assumption | omega | exact b2n_lt _ | exact t2n_lt _) 130 dX6_sum_87 (by decide) (fun h87 => ?_) (fun h87 => ?_)
        · exact absurd hst h87
        · refine j_aload_n CX 4 dX6_sum_90 rfl rfl ?_
          refine j_get CX 0 20 dX6_sum_91 rfl rfl hin6 (by decide) hfl54 rfl ?_
          refine j_iload_n CX 1 dX6_sum_94 rfl rfl ?_
          refine j_iconst CX dX6_sum_95 (show _ = (nI 1 : Int32) by decide) ?_
          refine j_iast CX (w' := mW a cI cZ n (nI 0) (nI fc) sp (nI cr) (nI ln) cx (nI jo) (nI wg) sh va (nf C) (nf fw) (nf fz) (nf fh) (nf G) di (nf B) ke (nf dO) (nf fr9) (nf ma9) (upd (nf st9) k (nI 1)) hf9 (nf wa) ra ag) 14 k dX6_sum_96 rfl (rfl) (by first | assumption | omega) (by decide) rfl ?_
          refine j_w (show mW a cI cZ n (nI 0) (nI fc) sp (nI cr) (nI ln) cx (nI jo) (nI wg) sh va (nf C) (nf fw) (nf fz) (nf fh) (nf G) di (nf B) ke (nf dO) (nf fr9) (nf ma9) (upd (nf st9) k (nI 1)) hf9 (nf wa) ra ag = mW a cI cZ n (nI 0) (nI fc) sp (nI cr) (nI ln) cx (nI jo) (nI wg) sh va (nf C) (nf fw) (nf fz) (nf fh) (nf G) di (nf B) ke (nf dO) (nf fr9) (nf ma9) (nf (updN st9 k 1)) hf9 (nf wa) ra ag by rw [nf_upd]) ?_
          refine j_aload_n CX 4 dX6_sum_97 rfl rfl ?_
          refine j_get CX 0 18 dX6_sum_98 rfl rfl hin6 (by decide) hfl48 rfl ?_
          refine j_iload_n CX 2 dX6_sum_101 rfl rfl ?_
          refine j_aload_n CX 4 dX6_sum_102 rfl rfl ?_
          refine j_get CX 0 18 dX6_sum_103 rfl rfl hin6 (by decide) hfl48 rfl ?_
          refine j_iload_n CX 1 dX6_sum_106 rfl rfl ?_
          refine j_iald CX 12 k dX6_sum_107 rfl (rfl) (by first | assumption | omega) (by decide) ?_
          refine j_top (show (nI (fr9 k)) = nI f from by rw [hfr]) ?_
          refine j_iast CX (w' := mW a cI cZ n (nI 0) (nI fc) sp (nI cr) (nI ln) cx (nI jo) (nI wg) sh va (nf C) (nf fw) (nf fz) (nf fh) (nf G) di (nf B) ke (nf dO) (upd (nf fr9) (k + 1) (nI f)) (nf ma9) (nf (updN st9 k 1)) hf9 (nf wa) ra ag) 12 (k + 1) dX6_sum_108 rfl (rfl) (by first | assumption | omega) (by decide) rfl ?_
          refine j_w (show mW a cI cZ n (nI 0) (nI fc) sp (nI cr) (nI ln) cx (nI jo) (nI wg) sh va (nf C) (nf fw) (nf fz) (nf fh) (nf G) di (nf B) ke (nf dO) (upd (nf fr9) (k + 1) (nI f)) (nf ma9) (nf (updN st9 k 1)) hf9 (nf wa) ra ag = mW a cI cZ n (nI 0) (nI fc) sp (nI cr) (nI ln) cx (nI jo) (nI wg) sh va (nf C) (nf fw) (nf fz) (nf fh) (nf G) di (nf B) ke (nf dO) (nf (updN fr9 (k + 1) f)) (nf ma9) (nf (updN st9 k 1)) hf9 (nf wa) ra ag by rw [nf_upd]) ?_
          refine j_aload_n CX 4 dX6_sum_109 rfl rfl ?_
          refine j_get CX 0 19 dX6_sum_110 rfl rfl hin6 (by decide) hfl51 rfl ?_
          refine j_iload_n CX 2 dX6_sum_113 rfl rfl ?_
          refine j_iload CX 0 dX6_sum_114 rfl ?_
          refine j_iast CX (w' := mW a cI cZ n (nI 0) (nI fc) sp (nI cr) (nI ln) cx (nI jo) (nI wg) sh va (nf C) (nf fw) (nf fz) (nf fh) (nf G) di (nf B) ke (nf dO) (nf (updN fr9 (k + 1) f)) (upd (nf ma9) (k + 1) (nI ((c0 + 1) / 2))) (nf (updN st9 k 1)) hf9 (nf wa) ra ag) 13 (k + 1) dX6_sum_116 rfl (rfl) (by first | assumption | omega) (by decide) rfl ?_
          refine j_w (show mW a cI cZ n (nI 0) (nI fc) sp (nI cr) (nI ln) cx (nI jo) (nI wg) sh va (nf C) (nf fw) (nf fz) (nf fh) (nf G) di (nf B) ke (nf dO) (nf (updN fr9 (k + 1) f)) (upd (nf ma9) (k + 1) (nI ((c0 + 1) / 2))) (nf (updN st9 k 1)) hf9 (nf wa) ra ag = mW a cI cZ n (nI 0) (nI fc) sp (nI cr) (nI ln) cx (nI jo) (nI wg) sh va (nf C) (nf fw) (nf fz) (nf fh) (nf G) di (nf B) ke (nf dO) (nf (updN fr9 (k + 1) f)) (nf (updN ma9 (k + 1) ((c0 + 1) / 2))) (nf (updN st9 k 1)) hf9 (nf wa) ra ag by rw [nf_upd]) ?_
          refine j_aload_n CX 4 dX6_sum_117 rfl rfl ?_
          refine j_get CX 0 20 dX6_sum_118 rfl rfl hin6 (by decide) hfl54 rfl ?_
          refine j_iload_n CX 2 dX6_sum_121 rfl rfl ?_
          refine j_iconst CX dX6_sum_122 (show _ = (nI 0 : Int32) by decide) ?_
          refine j_iast CX (w' := mW a cI cZ n (nI 0) (nI fc) sp (nI cr) (nI ln) cx (nI jo) (nI wg) sh va (nf C) (nf fw) (nf fz) (nf fh) (nf G) di (nf B) ke (nf dO) (nf (updN fr9 (k + 1) f)) (nf (updN ma9 (k + 1) ((c0 + 1) / 2))) (upd (nf (updN st9 k 1)) (k + 1) (nI 0)) hf9 (nf wa) ra ag) 14 (k + 1) dX6_sum_123 rfl (rfl) (by first | assumption | omega) (by decide) rfl ?_
          refine j_w (show mW a cI cZ n (nI 0) (nI fc) sp (nI cr) (nI ln) cx (nI jo) (nI wg) sh va (nf C) (nf fw) (nf fz) (nf fh) (nf G) di (nf B) ke (nf dO) (nf (updN fr9 (k + 1) f)) (nf (updN ma9 (k + 1) ((c0 + 1) / 2))) (upd (nf (updN st9 k 1)) (k + 1) (nI 0)) hf9 (nf wa) ra ag = mW a cI cZ n (nI 0) (nI fc) sp (nI cr) (nI ln) cx (nI jo) (nI wg) sh va (nf C) (nf fw) (nf fz) (nf fh) (nf G) di (nf B) ke (nf dO) (nf (updN fr9 (k + 1) f)) (nf (updN ma9 (k + 1) ((c0 + 1) / 2))) (nf (updN (updN st9 k 1) (k + 1) 0)) hf9 (nf wa) ra ag by rw [nf_upd]) ?_
          refine j_iinc CX (v := nI (k + 1 + 1)) (lv' := [(1, .int (nI (k + 1 + 1))), (4, .int (nI ((c0 + 1) / 2))), (3, .int (nI k)), (2, .int r9), (0, .ref (a 0))]) 2 dX6_sum_124 rfl (nI_1 _) (by decide) rfl ?_
          refine j_goto CX 214 dX6_sum_127 (by decide) ?_
          refine j_goto CX 33 dX6_sum_214 (by decide) ?_
          refine j_lv (lv' := [(1, .int (nI (k + 1 + 1))), (2, .int r9), (0, .ref (a 0))]) [0, 3, 4] rfl ?_
          refine A0 (k + 1) f ((c0 + 1) / 2) _ _ _ _ _ (by omega) (by omega) (by omega) (by omega) (by rw [updN_s]) (by rw [updN_s]) (by rw [updN_s]) (fun fr8 ma8 st8 hf8 h8 => ?_)
          have g8 := h8 k (by omega)
          refine B1 k f c0 fr8 ma8 st8 hf8 _ hk hc1 hc2 hfc0 (by rw [g8.1, updN_n (by omega), hfr]) (by rw [g8.2.1, updN_n (by omega), hma]) (by omega) (by rw [g8.2.2.1, updN_n (by omega), updN_s]) rfl (fun fr7 ma7 st7 hf7 h7 => hkk fr7 ma7 st7 hf7 (fun j hj => ?_))
          have g7 := h7 j hj
          have g6 := h8 j (by omega)
          exact ⟨by rw [g7.1, g6.1, updN_n (by omega)], by rw [g7.2.1, g6.2.1, updN_n (by omega)], by rw [g7.2.2.1, g6.2.2.1, updN_n (by omega), updN_n (by omega)], by rw [g7.2.2.2, g6.2.2.2]⟩
      · refine j_aload_n CX 4 dX6_sum_63 rfl rfl ?_
        refine j_get CX 0 3 dX6_sum_64 rfl rfl hin6 (by decide) hfl13 rfl ?_
        refine j_aload_n CX 4 dX6_sum_67 rfl rfl ?_
        refine j_get CX 0 18 dX6_sum_68 rfl rfl hin6 (by decide) hfl48 rfl ?_
        refine j_iload_n CX 1 dX6_sum_71 rfl rfl ?_
        refine j_iald CX 12 k dX6_sum_72 rfl (rfl) (by first | assumption | omega) (by decide) ?_
        refine j_top (show (nI (fr9 k)) = nI f from by rw [hfr]) ?_
        refine j_iald CX 2 f dX6_sum_73 rfl (rfl) (by first | assumption | omega) (by decide) ?_
        refine j_istore_n CX (lv' := [(2, .int (va f)), (4, .int (nI ((c0 + 1) / 2))), (3, .int (nI k)), (1, .int (nI (k + 1))), (0, .ref (a 0))]) dX6_sum_74 rfl (by decide) rfl ?_
        refine j_lve (lv' := [(2, .int (tsR va 1 f c0)), (4, .int (nI ((c0 + 1) / 2))), (3, .int (nI k)), (1, .int (nI (k + 1))), (0, .ref (a 0))]) (by rw [show tsR va 1 f c0 = va f by show (if _ then _ else _) = _; rw [if_pos (by omega)]]) ?_
        refine j_iinc CX (v := nI k) (lv' := [(1, .int (nI k)), (2, .int (tsR va 1 f c0)), (4, .int (nI ((c0 + 1) / 2))), (3, .int (nI k)), (0, .ref (a 0))]) 3 dX6_sum_75 rfl (by rw [sub_m1]; exact nI_m1 _) (by decide) rfl ?_
        refine j_goto CX 214 dX6_sum_78 (by decide) ?_
        refine j_goto CX 33 dX6_sum_214 (by decide) ?_
        refine j_lv (lv' := [(1, .int (nI k)), (2, .int (tsR va 1 f c0)), (0, .ref (a 0))]) [0, 1, 4] rfl ?_
        exact hkk _ _ _ _ (fun j hj => ⟨rfl, rfl, rfl, rfl⟩)
  have C2 : ∀ (k f c0 : Nat) (fr9 ma9 st9 : Nat → Nat) (hf9 : Nat → Int32) (r9 : Int32), k + 2 < 15 → 1 ≤ c0 → c0 ≤ 4 → f + c0 ≤ n → fr9 k = f → ma9 k = c0 → 1 < c0 → st9 k = 2 → hf9 k = tsR va 1 f ((c0 + 1) / 2) → r9 = tsR va 1 (f + ((c0 + 1) / 2)) (c0 - (c0 + 1) / 2) → (∀ (fr8 ma8 st8 : Nat → Nat) (hf8 : Nat → Int32), (∀ j, j < k → fr8 j = fr9 j ∧ ma8 j = ma9 j ∧ st8 j = st9 j ∧ hf8 j = hf9 j) → J p l e rmX6_sum s m args below meth c D A 5 0 0 (MQ below (jQc D (fun r0 w0 => ∃ fr' ma' st' hf', r0 = some (.int (tsR va 5 0 n)) ∧ w0 = mW a cI cZ n (nI 0) (nI fc) sp (nI cr) (nI ln) cx (nI jo) (nI wg) sh va (nf C) (nf fw) (nf fz) (nf fh) (nf G) di (nf B) ke (nf dO) (nf fr') (nf ma') (nf st') hf' (nf wa) ra ag) A) args s rmX6_sum.cells rmX6_sum.slots A) (mW a cI cZ n (nI 0) (nI fc) sp (nI cr) (nI ln) cx (nI jo) (nI wg) sh va (nf C) (nf fw) (nf fz) (nf fh) (nf G) di (nf B) ke (nf dO) (nf fr8) (nf ma8) (nf st8) hf8 (nf wa) ra ag) 33 [(1, .int (nI k)), (2, .int (tsR va 2 f c0)), (0, .ref (a 0))] []) → J p l e rmX6_sum s m args below meth c D A 5 0 0 (MQ below (jQc D (fun r0 w0 => ∃ fr' ma' st' hf', r0 = some (.int (tsR va 5 0 n)) ∧ w0 = mW a cI cZ n (nI 0) (nI fc) sp (nI cr) (nI ln) cx (nI jo) (nI wg) sh va (nf C) (nf fw) (nf fz) (nf fh) (nf G) di (nf B) ke (nf dO) (nf fr') (nf ma') (nf st') hf' (nf wa) ra ag) A) args s rmX6_sum.cells rmX6_sum.slots A) (mW a cI cZ n (nI 0) (nI fc) sp (nI cr) (nI ln) cx (nI jo) (nI wg) sh va (nf C) (nf fw) (nf fz) (nf fh) (nf G) di (nf B) ke (nf dO) (nf fr9) (nf ma9) (nf st9) hf9 (nf wa) ra ag) 33 [(1, .int (nI (k + 1))), (2, .int r9), (0, .ref (a 0))] [] := by
    intro k f c0 fr9 ma9 st9 hf9 r9 hk hc1 hc2 hfc0 hfr hma hc3 hst hhf hr9 hkk
    refine j_iload_n CX 0 dX6_sum_33 rfl rfl ?_
    refine j_ifN_le CX (by first | assumption | omega | exact b2n_lt _ | exact t2n_lt _) 217 dX6_sum_34 (by decide) (fun h34 => ?_) (fun h34 => ?_)
    · exact absurd h34 (by omega)
    · refine j_iload_n CX 0 dX6_sum_37 rfl rfl ?_
      refine j_iconst CX dX6_sum_38 (show _ = (nI 1 : Int32) by decide) ?_
      refine j_isub CX dX6_sum_39 ?_
      refine j_top (show ((nI (k + 1)) - (nI 1)) = nI k from nI_m1 _) ?_
      refine j_istore_n CX (lv' := [(3, .int (nI k)), (1, .int (nI (k + 1))), (2, .int r9), (0, .ref (a 0))]) dX6_sum_40 rfl (by decide) rfl ?_
      refine j_aload_n CX 3 dX6_sum_41 rfl rfl ?_
      refine j_get CX 0 19 dX6_sum_42 rfl rfl hin6 (by decide) hfl51 rfl ?_
      refine j_iload_n CX 0 dX6_sum_45 rfl rfl ?_
      refine j_iald CX 13 k dX6_sum_46 rfl (rfl) (by first | assumption | omega) (by decide) ?_
      refine j_top (show (nI (ma9 k)) = nI c0 from by rw [hma]) ?_
      refine j_iconst CX dX6_sum_47 (show _ = (nI 1 : Int32) by decide) ?_
      refine j_iadd CX dX6_sum_48 ?_
      refine j_top (show (nI c0) + (nI 1) = nI (c0 + 1) from nI_add _ _) ?_
      refine j_iconst CX dX6_sum_49 (show _ = (nI 2 : Int32) by decide) ?_
      refine j_idiv CX dX6_sum_50 (by decide) ?_
      refine j_top (show ((nI (c0 + 1)) / (nI 2)) = nI ((c0 + 1) / 2) from pk_div (by omega) (by decide) (by decide)) ?_
      refine j_istore CX (lv' := [(4, .int (nI ((c0 + 1) / 2))), (3, .int (nI k)), (1, .int (nI (k + 1))), (2, .int r9), (0, .ref (a 0))]) dX6_sum_51 (by decide) rfl ?_
      refine j_aload_n CX 4 dX6_sum_53 rfl rfl ?_
      refine j_get CX 0 19 dX6_sum_54 rfl rfl hin6 (by decide) hfl51 rfl ?_
      refine j_iload_n CX 1 dX6_sum_57 rfl rfl ?_
      refine j_iald CX 13 k dX6_sum_58 rfl (rfl) (by first | assumption | omega) (by decide) ?_
      refine j_top (show (nI (ma9 k)) = nI c0 from by rw [hma]) ?_
      refine j_iconst CX dX6_sum_59 (show _ = (nI 1 : Int32) by decide) ?_
      refine j_icmpN_ne CX (by first | assumption | omega) (by first | assumption | omega | exact b2n_lt _ | exact t2n_lt _) 81 dX6_sum_60 (by decide) (fun h60 => ?_) (fun h60 => ?_)
      · have hstb : st9 k < 2 ^ 31 := by omega
        refine j_aload_n CX 4 dX6_sum_81 rfl rfl ?_
        refine j_get CX 0 20 dX6_sum_82 rfl rfl hin6 (by decide) hfl54 rfl ?_
        refine j_iload_n CX 1 dX6_sum_85 rfl rfl ?_
        refine j_iald CX 14 k dX6_sum_86 rfl (rfl) (by first | assumption | omega) (by decide) ?_
        refine j_ifN_ne CX (by first | assumption | omega | exact b2n_lt _ | exact t2n_lt _) 130 dX6_sum_87 (by decide) (fun h87 => ?_) (fun h87 => ?_)
        · refine j_aload_n CX 4 dX6_sum_130 rfl rfl ?_
          refine j_get CX 0 20 dX6_sum_131 rfl rfl hin6 (by decide) hfl54 rfl ?_
          refine j_iload_n CX 1 dX6_sum_134 rfl rfl ?_
          refine j_iald CX 14 k dX6_sum_135 rfl (rfl) (by first | assumption | omega) (by decide) ?_
          refine j_iconst CX dX6_sum_136 (show _ = (nI 1 : Int32) by decide) ?_
          refine j_icmpN_ne CX (by first | assumption | omega) (by first | assumption | omega | exact b2n_lt _ | exact t2n_lt _) 197 dX6_sum_137 (by decide) (fun h137 => ?_) (fun h137 => ?_)
          · refine j_aload_n CX 4 dX6_sum_197 rfl rfl ?_
            refine j_get CX 0 21 dX6_sum_198 rfl rfl hin6 (by decide) hfl57 rfl ?_
            refine j_iload_n CX 1 dX6_sum_201 rfl rfl ?_
            refine j_iald CX 15 k dX6_sum_202 rfl (rfl) (by first | assumption | omega) (by decide) ?_
            refine j_i2l CX dX6_sum_203 ?_
            refine j_iload_n CX 3 dX6_sum_204 rfl rfl ?_
            refine j_i2l CX dX6_sum_205 ?_
            refine j_ladd CX dX6_sum_206 ?_
            refine j_callS CX (n := 1) (b := 0) (pre := []) (post := mW a cI cZ n (nI 0) (nI fc) sp (nI cr) (nI ln) cx (nI jo) (nI wg) sh va (nf C) (nf fw) (nf fz) (nf fh) (nf G) di (nf B) ke (nf dO) (nf fr9) (nf ma9) (nf st9) hf9 (nf wa) ra ag) (rest := []) (r_within l D cI cZ cL (((hf9 k).toInt64) + r9.toInt64)) gX6_sum_X6_within rfl (by decide +kernel) ⟨Nat.le_of_ble_eq_true rfl, Nat.le_of_ble_eq_true rfl⟩ rfl rfl rfl (Nat.le_of_ble_eq_true rfl) dX6_sum_207 ⟨Nat.le_refl _, Nat.le_refl _⟩ (fun r9 w9 h9 => ?_)
            obtain ⟨rfl, rfl⟩ := h9
            refine j_w (w' := mW a cI cZ n (nI 0) (nI fc) sp (nI cr) (nI ln) cx (nI jo) (nI wg) sh va (nf C) (nf fw) (nf fz) (nf fh) (nf G) di (nf B) ke (nf dO) (nf fr9) (nf ma9) (nf st9) hf9 (nf wa) ra ag) rfl ?_
            refine j_st (st9 := [.int (kept (((hf9 k).toInt64) + r9.toInt64))]) rfl ?_
            refine j_istore_n CX (lv' := [(2, .int (kept (((hf9 k).toInt64) + r9.toInt64))), (4, .int (nI ((c0 + 1) / 2))), (3, .int (nI k)), (1, .int (nI (k + 1))), (0, .ref (a 0))]) dX6_sum_210 rfl (by decide) rfl ?_
            refine j_lve (lv' := [(2, .int (tsR va 2 f c0)), (4, .int (nI ((c0 + 1) / 2))), (3, .int (nI k)), (1, .int (nI (k + 1))), (0, .ref (a 0))]) (by rw [show tsR va 2 f c0 = kept (((hf9 k).toInt64) + r9.toInt64) by rw [hhf, hr9]; show (if _ then _ else _) = _; rw [if_neg (by omega)]]) ?_
            refine j_iinc CX (v := nI k) (lv' := [(1, .int (nI k)), (2, .int (tsR va 2 f c0)), (4, .int (nI ((c0 + 1) / 2))), (3, .int (nI k)), (0, .ref (a 0))]) 3 dX6_sum_211 rfl (by rw [sub_m1]; exact nI_m1 _) (by decide) rfl ?_
            refine j_goto CX 33 dX6_sum_214 (by decide) ?_
            refine j_lv (lv' := [(1, .int (nI k)), (2, .int (tsR va 2 f c0)), (0, .ref (a 0))]) [0, 1, 4] rfl ?_
            exact hkk _ _ _ _ (fun j hj => ⟨rfl, rfl, rfl, rfl⟩)
          · exact absurd (hst.symm.trans h137) (by decide)
        · exact absurd (hst.symm.trans h87) (by decide)
      · exact absurd hc3 (by omega)
  have B2 : ∀ (k f c0 : Nat) (fr9 ma9 st9 : Nat → Nat) (hf9 : Nat → Int32) (r9 : Int32), k + 2 < 15 → 1 ≤ c0 → c0 ≤ 4 → f + c0 ≤ n → fr9 k = f → ma9 k = c0 → 1 < c0 → st9 k = 1 → r9 = tsR va 1 f ((c0 + 1) / 2) → (∀ (fr8 ma8 st8 : Nat → Nat) (hf8 : Nat → Int32), (∀ j, j < k → fr8 j = fr9 j ∧ ma8 j = ma9 j ∧ st8 j = st9 j ∧ hf8 j = hf9 j) → J p l e rmX6_sum s m args below meth c D A 5 0 0 (MQ below (jQc D (fun r0 w0 => ∃ fr' ma' st' hf', r0 = some (.int (tsR va 5 0 n)) ∧ w0 = mW a cI cZ n (nI 0) (nI fc) sp (nI cr) (nI ln) cx (nI jo) (nI wg) sh va (nf C) (nf fw) (nf fz) (nf fh) (nf G) di (nf B) ke (nf dO) (nf fr') (nf ma') (nf st') hf' (nf wa) ra ag) A) args s rmX6_sum.cells rmX6_sum.slots A) (mW a cI cZ n (nI 0) (nI fc) sp (nI cr) (nI ln) cx (nI jo) (nI wg) sh va (nf C) (nf fw) (nf fz) (nf fh) (nf G) di (nf B) ke (nf dO) (nf fr8) (nf ma8) (nf st8) hf8 (nf wa) ra ag) 33 [(1, .int (nI k)), (2, .int (tsR va 2 f c0)), (0, .ref (a 0))] []) → J p l e rmX6_sum s m args below meth c D A 5 0 0 (MQ below (jQc D (fun r0 w0 => ∃ fr' ma' st' hf', r0 = some (.int (tsR va 5 0 n)) ∧ w0 = mW a cI cZ n (nI 0) (nI fc) sp (nI cr) (nI ln) cx (nI jo) (nI wg) sh va (nf C) (nf fw) (nf fz) (nf fh) (nf G) di (nf B) ke (nf dO) (nf fr') (nf ma') (nf st') hf' (nf wa) ra ag) A) args s rmX6_sum.cells rmX6_sum.slots A) (mW a cI cZ n (nI 0) (nI fc) sp (nI cr) (nI ln) cx (nI jo) (nI wg) sh va (nf C) (nf fw) (nf fz) (nf fh) (nf G) di (nf B) ke (nf dO) (nf fr9) (nf ma9) (nf st9) hf9 (nf wa) ra ag) 33 [(1, .int (nI (k + 1))), (2, .int r9), (0, .ref (a 0))] [] := by
    intro k f c0 fr9 ma9 st9 hf9 r9 hk hc1 hc2 hfc0 hfr hma hc3 hst hr9 hkk
    refine j_iload_n CX 0 dX6_sum_33 rfl rfl ?_
    refine j_ifN_le CX (by first | assumption | omega | exact b2n_lt _ | exact t2n_lt _) 217 dX6_sum_34 (by decide) (fun h34 => ?_) (fun h34 => ?_)
    · exact absurd h34 (by omega)
    · refine j_iload_n CX 0 dX6_sum_37 rfl rfl ?_
      refine j_iconst CX dX6_sum_38 (show _ = (nI 1 : Int32) by decide) ?_
      refine j_isub CX dX6_sum_39 ?_
      refine j_top (show ((nI (k + 1)) - (nI 1)) = nI k from nI_m1 _) ?_
      refine j_istore_n CX (lv' := [(3, .int (nI k)), (1, .int (nI (k + 1))), (2, .int r9), (0, .ref (a 0))]) dX6_sum_40 rfl (by decide) rfl ?_
      refine j_aload_n CX 3 dX6_sum_41 rfl rfl ?_
      refine j_get CX 0 19 dX6_sum_42 rfl rfl hin6 (by decide) hfl51 rfl ?_
      refine j_iload_n CX 0 dX6_sum_45 rfl rfl ?_
      refine j_iald CX 13 k dX6_sum_46 rfl (rfl) (by first | assumption | omega) (by decide) ?_
      refine j_top (show (nI (ma9 k)) = nI c0 from by rw [hma]) ?_
      refine j_iconst CX dX6_sum_47 (show _ = (nI 1 : Int32) by decide) ?_
      refine j_iadd CX dX6_sum_48 ?_
      refine j_top (show (nI c0) + (nI 1) = nI (c0 + 1) from nI_add _ _) ?_
      refine j_iconst CX dX6_sum_49 (show _ = (nI 2 : Int32) by decide) ?_
      refine j_idiv CX dX6_sum_50 (by decide) ?_
      refine j_top (show ((nI (c0 + 1)) / (nI 2)) = nI ((c0 + 1) / 2) from pk_div (by omega) (by decide) (by decide)) ?_
      refine j_istore CX (lv' := [(4, .int (nI ((c0 + 1) / 2))), (3, .int (nI k)), (1, .int (nI (k + 1))), (2, .int r9), (0, .ref (a 0))]) dX6_sum_51 (by decide) rfl ?_
      refine j_aload_n CX 4 dX6_sum_53 rfl rfl ?_
      refine j_get CX 0 19 dX6_sum_54 rfl rfl hin6 (by decide) hfl51 rfl ?_
      refine j_iload_n CX 1 dX6_sum_57 rfl rfl ?_
      refine j_iald CX 13 k dX6_sum_58 rfl (rfl) (by first | assumption | omega) (by decide) ?_
      refine j_top (show (nI (ma9 k)) = nI c0 from by rw [hma]) ?_
      refine j_iconst CX dX6_sum_59 (show _ = (nI 1 : Int32) by decide) ?_
      refine j_icmpN_ne CX (by first | assumption | omega) (by first | assumption | omega | exact b2n_lt _ | exact t2n_lt _) 81 dX6_sum_60 (by decide) (fun h60 => ?_) (fun h60 => ?_)
      · have hstb : st9 k < 2 ^ 31 := by omega
        refine j_aload_n CX 4 dX6_sum_81 rfl rfl ?_
        refine j_get CX 0 20 dX6_sum_82 rfl rfl hin6 (by decide) hfl54 rfl ?_
        refine j_iload_n CX 1 dX6_sum_85 rfl rfl ?_
        refine j_iald CX 14 k dX6_sum_86 rfl (rfl) (by first | assumption | omega) (by decide) ?_
        refine j_ifN_ne CX (by first | assumption | omega | exact b2n_lt _ | exact t2n_lt _) 130 dX6_sum_87 (by decide) (fun h87 => ?_) (fun h87 => ?_)
        · refine j_aload_n CX 4 dX6_sum_130 rfl rfl ?_
          refine j_get CX 0 20 dX6_sum_131 rfl rfl hin6 (by decide) hfl54 rfl ?_
          refine j_iload_n CX 1 dX6_sum_134 rfl rfl ?_
          refine j_iald CX 14 k dX6_sum_135 rfl (rfl) (by first | assumption | omega) (by decide) ?_
          refine j_iconst CX dX6_sum_136 (show _ = (nI 1 : Int32) by decide) ?_
          refine j_icmpN_ne CX (by first | assumption | omega) (by first | assumption | omega | exact b2n_lt _ | exact t2n_lt _) 197 dX6_sum_137 (by decide) (fun h137 => ?_) (fun h137 => ?_)
          · exact absurd hst h137
          · refine j_aload_n CX 4 dX6_sum_140 rfl rfl ?_
            refine j_get CX 0 21 dX6_sum_141 rfl rfl hin6 (by decide) hfl57 rfl ?_
            refine j_iload_n CX 1 dX6_sum_144 rfl rfl ?_
            refine j_iload_n CX 3 dX6_sum_145 rfl rfl ?_
            refine j_iast CX (w' := mW a cI cZ n (nI 0) (nI fc) sp (nI cr) (nI ln) cx (nI jo) (nI wg) sh va (nf C) (nf fw) (nf fz) (nf fh) (nf G) di (nf B) ke (nf dO) (nf fr9) (nf ma9) (nf st9) (upd hf9 k r9) (nf wa) ra ag) 15 k dX6_sum_146 rfl (rfl) (by first | assumption | omega) (by decide) rfl ?_
            refine j_aload_n CX 4 dX6_sum_147 rfl rfl ?_
            refine j_get CX 0 20 dX6_sum_148 rfl rfl hin6 (by decide) hfl54 rfl ?_
            refine j_iload_n CX 1 dX6_sum_151 rfl rfl ?_
            refine j_iconst CX dX6_sum_152 (show _ = (nI 2 : Int32) by decide) ?_
            refine j_iast CX (w' := mW a cI cZ n (nI 0) (nI fc) sp (nI cr) (nI ln) cx (nI jo) (nI wg) sh va (nf C) (nf fw) (nf fz) (nf fh) (nf G) di (nf B) ke (nf dO) (nf fr9) (nf ma9) (upd (nf st9) k (nI 2)) (upd hf9 k r9) (nf wa) ra ag) 14 k dX6_sum_153 rfl (rfl) (by first | assumption | omega) (by decide) rfl ?_
            refine j_w (show mW a cI cZ n (nI 0) (nI fc) sp (nI cr) (nI ln) cx (nI jo) (nI wg) sh va (nf C) (nf fw) (nf fz) (nf fh) (nf G) di (nf B) ke (nf dO) (nf fr9) (nf ma9) (upd (nf st9) k (nI 2)) (upd hf9 k r9) (nf wa) ra ag = mW a cI cZ n (nI 0) (nI fc) sp (nI cr) (nI ln) cx (nI jo) (nI wg) sh va (nf C) (nf fw) (nf fz) (nf fh) (nf G) di (nf B) ke (nf dO) (nf fr9) (nf ma9) (nf (updN st9 k 2)) (upd hf9 k r9) (nf wa) ra ag by rw [nf_upd]) ?_
            refine j_aload_n CX 4 dX6_sum_154 rfl rfl ?_
            refine j_get CX 0 18 dX6_sum_155 rfl rfl hin6 (by decide) hfl48 rfl ?_
            refine j_iload_n CX 2 dX6_sum_158 rfl rfl ?_
            refine j_aload_n CX 4 dX6_sum_159 rfl rfl ?_
            refine j_get CX 0 18 dX6_sum_160 rfl rfl hin6 (by decide) hfl48 rfl ?_
            refine j_iload_n CX 1 dX6_sum_163 rfl rfl ?_
            refine j_iald CX 12 k dX6_sum_164 rfl (rfl) (by first | assumption | omega) (by decide) ?_
            refine j_top (show (nI (fr9 k)) = nI f from by rw [hfr]) ?_
            refine j_iload CX 0 dX6_sum_165 rfl ?_
            refine j_iadd CX dX6_sum_167 ?_
            refine j_top (show (nI f) + (nI ((c0 + 1) / 2)) = nI (f + ((c0 + 1) / 2)) from nI_add _ _) ?_
            refine j_iast CX (w' := mW a cI cZ n (nI 0) (nI fc) sp (nI cr) (nI ln) cx (nI jo) (nI wg) sh va (nf C) (nf fw) (nf fz) (nf fh) (nf G) di (nf B) ke (nf dO) (upd (nf fr9) (k + 1) (nI (f + ((c0 + 1) / 2)))) (nf ma9) (nf (updN st9 k 2)) (upd hf9 k r9) (nf wa) ra ag) 12 (k + 1) dX6_sum_168 rfl (rfl) (by first | assumption | omega) (by decide) rfl ?_
            refine j_w (show mW a cI cZ n (nI 0) (nI fc) sp (nI cr) (nI ln) cx (nI jo) (nI wg) sh va (nf C) (nf fw) (nf fz) (nf fh) (nf G) di (nf B) ke (nf dO) (upd (nf fr9) (k + 1) (nI (f + ((c0 + 1) / 2)))) (nf ma9) (nf (updN st9 k 2)) (upd hf9 k r9) (nf wa) ra ag = mW a cI cZ n (nI 0) (nI fc) sp (nI cr) (nI ln) cx (nI jo) (nI wg) sh va (nf C) (nf fw) (nf fz) (nf fh) (nf G) di (nf B) ke (nf dO) (nf (updN fr9 (k + 1) (f + ((c0 + 1) / 2)))) (nf ma9) (nf (updN st9 k 2)) (upd hf9 k r9) (nf wa) ra ag by rw [nf_upd]) ?_
            refine j_aload_n CX 4 dX6_sum_169 rfl rfl ?_
            refine j_get CX 0 19 dX6_sum_170 rfl rfl hin6 (by decide) hfl51 rfl ?_
            refine j_iload_n CX 2 dX6_sum_173 rfl rfl ?_
            refine j_aload_n CX 4 dX6_sum_174 rfl rfl ?_
            refine j_get CX 0 19 dX6_sum_175 rfl rfl hin6 (by decide) hfl51 rfl ?_
            refine j_iload_n CX 1 dX6_sum_178 rfl rfl ?_
            refine j_iald CX 13 k dX6_sum_179 rfl (rfl) (by first | assumption | omega) (by decide) ?_
            refine j_top (show (nI (ma9 k)) = nI c0 from by rw [hma]) ?_
            refine j_iload CX 0 dX6_sum_180 rfl ?_
            refine j_isub CX dX6_sum_182 ?_
            refine j_top (show ((nI c0) - (nI ((c0 + 1) / 2))) = nI (c0 - (c0 + 1) / 2) from pk_sub (by omega)) ?_
            refine j_iast CX (w' := mW a cI cZ n (nI 0) (nI fc) sp (nI cr) (nI ln) cx (nI jo) (nI wg) sh va (nf C) (nf fw) (nf fz) (nf fh) (nf G) di (nf B) ke (nf dO) (nf (updN fr9 (k + 1) (f + ((c0 + 1) / 2)))) (upd (nf ma9) (k + 1) (nI (c0 - (c0 + 1) / 2))) (nf (updN st9 k 2)) (upd hf9 k r9) (nf wa) ra ag) 13 (k + 1) dX6_sum_183 rfl (rfl) (by first | assumption | omega) (by decide) rfl ?_
            refine j_w (show mW a cI cZ n (nI 0) (nI fc) sp (nI cr) (nI ln) cx (nI jo) (nI wg) sh va (nf C) (nf fw) (nf fz) (nf fh) (nf G) di (nf B) ke (nf dO) (nf (updN fr9 (k + 1) (f + ((c0 + 1) / 2)))) (upd (nf ma9) (k + 1) (nI (c0 - (c0 + 1) / 2))) (nf (updN st9 k 2)) (upd hf9 k r9) (nf wa) ra ag = mW a cI cZ n (nI 0) (nI fc) sp (nI cr) (nI ln) cx (nI jo) (nI wg) sh va (nf C) (nf fw) (nf fz) (nf fh) (nf G) di (nf B) ke (nf dO) (nf (updN fr9 (k + 1) (f + ((c0 + 1) / 2)))) (nf (updN ma9 (k + 1) (c0 - (c0 + 1) / 2))) (nf (updN st9 k 2)) (upd hf9 k r9) (nf wa) ra ag by rw [nf_upd]) ?_
            refine j_aload_n CX 4 dX6_sum_184 rfl rfl ?_
            refine j_get CX 0 20 dX6_sum_185 rfl rfl hin6 (by decide) hfl54 rfl ?_
            refine j_iload_n CX 2 dX6_sum_188 rfl rfl ?_
            refine j_iconst CX dX6_sum_189 (show _ = (nI 0 : Int32) by decide) ?_
            refine j_iast CX (w' := mW a cI cZ n (nI 0) (nI fc) sp (nI cr) (nI ln) cx (nI jo) (nI wg) sh va (nf C) (nf fw) (nf fz) (nf fh) (nf G) di (nf B) ke (nf dO) (nf (updN fr9 (k + 1) (f + ((c0 + 1) / 2)))) (nf (updN ma9 (k + 1) (c0 - (c0 + 1) / 2))) (upd (nf (updN st9 k 2)) (k + 1) (nI 0)) (upd hf9 k r9) (nf wa) ra ag) 14 (k + 1) dX6_sum_190 rfl (rfl) (by first | assumption | omega) (by decide) rfl ?_
            refine j_w (show mW a cI cZ n (nI 0) (nI fc) sp (nI cr) (nI ln) cx (nI jo) (nI wg) sh va (nf C) (nf fw) (nf fz) (nf fh) (nf G) di (nf B) ke (nf dO) (nf (updN fr9 (k + 1) (f + ((c0 + 1) / 2)))) (nf (updN ma9 (k + 1) (c0 - (c0 + 1) / 2))) (upd (nf (updN st9 k 2)) (k + 1) (nI 0)) (upd hf9 k r9) (nf wa) ra ag = mW a cI cZ n (nI 0) (nI fc) sp (nI cr) (nI ln) cx (nI jo) (nI wg) sh va (nf C) (nf fw) (nf fz) (nf fh) (nf G) di (nf B) ke (nf dO) (nf (updN fr9 (k + 1) (f + ((c0 + 1) / 2)))) (nf (updN ma9 (k + 1) (c0 - (c0 + 1) / 2))) (nf (updN (updN st9 k 2) (k + 1) 0)) (upd hf9 k r9) (nf wa) ra ag by rw [nf_upd]) ?_
            refine j_iinc CX (v := nI (k + 1 + 1)) (lv' := [(1, .int (nI (k + 1 + 1))), (4, .int (nI ((c0 + 1) / 2))), (3, .int (nI k)), (2, .int r9), (0, .ref (a 0))]) 2 dX6_sum_191 rfl (nI_1 _) (by decide) rfl ?_
            refine j_goto CX 214 dX6_sum_194 (by decide) ?_
            refine j_goto CX 33 dX6_sum_214 (by decide) ?_
            refine j_lv (lv' := [(1, .int (nI (k + 1 + 1))), (2, .int r9), (0, .ref (a 0))]) [0, 3, 4] rfl ?_
            refine A1 (k + 1) (f + (c0 + 1) / 2) (c0 - (c0 + 1) / 2) _ _ _ _ _ (by omega) (by omega) (by omega) (by omega) (by rw [updN_s]) (by rw [updN_s]) (by rw [updN_s]) (fun fr8 ma8 st8 hf8 h8 => ?_)
            have g8 := h8 k (by omega)
            refine C2 k f c0 fr8 ma8 st8 hf8 _ hk hc1 hc2 hfc0 (by rw [g8.1, updN_n (by omega), hfr]) (by rw [g8.2.1, updN_n (by omega), hma]) (by omega) (by rw [g8.2.2.1, updN_n (by omega), updN_s]) (by rw [g8.2.2.2, pk_us, hr9]) rfl (fun fr7 ma7 st7 hf7 h7 => hkk fr7 ma7 st7 hf7 (fun j hj => ?_))
            have g7 := h7 j hj
            have g6 := h8 j (by omega)
            exact ⟨by rw [g7.1, g6.1, updN_n (by omega)], by rw [g7.2.1, g6.2.1, updN_n (by omega)], by rw [g7.2.2.1, g6.2.2.1, updN_n (by omega), updN_n (by omega)], by rw [g7.2.2.2, g6.2.2.2, pk_un (by omega)]⟩
        · exact absurd (hst.symm.trans h87) (by decide)
      · exact absurd hc3 (by omega)
  have A2 : ∀ (k f c0 : Nat) (fr9 ma9 st9 : Nat → Nat) (hf9 : Nat → Int32) (r9 : Int32), k + 2 < 15 → 1 ≤ c0 → c0 ≤ 4 → f + c0 ≤ n → fr9 k = f → ma9 k = c0 → st9 k = 0 → (∀ (fr8 ma8 st8 : Nat → Nat) (hf8 : Nat → Int32), (∀ j, j < k → fr8 j = fr9 j ∧ ma8 j = ma9 j ∧ st8 j = st9 j ∧ hf8 j = hf9 j) → J p l e rmX6_sum s m args below meth c D A 5 0 0 (MQ below (jQc D (fun r0 w0 => ∃ fr' ma' st' hf', r0 = some (.int (tsR va 5 0 n)) ∧ w0 = mW a cI cZ n (nI 0) (nI fc) sp (nI cr) (nI ln) cx (nI jo) (nI wg) sh va (nf C) (nf fw) (nf fz) (nf fh) (nf G) di (nf B) ke (nf dO) (nf fr') (nf ma') (nf st') hf' (nf wa) ra ag) A) args s rmX6_sum.cells rmX6_sum.slots A) (mW a cI cZ n (nI 0) (nI fc) sp (nI cr) (nI ln) cx (nI jo) (nI wg) sh va (nf C) (nf fw) (nf fz) (nf fh) (nf G) di (nf B) ke (nf dO) (nf fr8) (nf ma8) (nf st8) hf8 (nf wa) ra ag) 33 [(1, .int (nI k)), (2, .int (tsR va 2 f c0)), (0, .ref (a 0))] []) → J p l e rmX6_sum s m args below meth c D A 5 0 0 (MQ below (jQc D (fun r0 w0 => ∃ fr' ma' st' hf', r0 = some (.int (tsR va 5 0 n)) ∧ w0 = mW a cI cZ n (nI 0) (nI fc) sp (nI cr) (nI ln) cx (nI jo) (nI wg) sh va (nf C) (nf fw) (nf fz) (nf fh) (nf G) di (nf B) ke (nf dO) (nf fr') (nf ma') (nf st') hf' (nf wa) ra ag) A) args s rmX6_sum.cells rmX6_sum.slots A) (mW a cI cZ n (nI 0) (nI fc) sp (nI cr) (nI ln) cx (nI jo) (nI wg) sh va (nf C) (nf fw) (nf fz) (nf fh) (nf G) di (nf B) ke (nf dO) (nf fr9) (nf ma9) (nf st9) hf9 (nf wa) ra ag) 33 [(1, .int (nI (k + 1))), (2, .int r9), (0, .ref (a 0))] [] := by
    intro k f c0 fr9 ma9 st9 hf9 r9 hk hc1 hc2 hfc0 hfr hma hst hkk
    refine j_iload_n CX 0 dX6_sum_33 rfl rfl ?_
    refine j_ifN_le CX (by first | assumption | omega | exact b2n_lt _ | exact t2n_lt _) 217 dX6_sum_34 (by decide) (fun h34 => ?_) (fun h34 => ?_)
    · exact absurd h34 (by omega)
    · refine j_iload_n CX 0 dX6_sum_37 rfl rfl ?_
      refine j_iconst CX dX6_sum_38 (show _ = (nI 1 : Int32) by decide) ?_
      refine j_isub CX dX6_sum_39 ?_
      refine j_top (show ((nI (k + 1)) - (nI 1)) = nI k from nI_m1 _) ?_
      refine j_istore_n CX (lv' := [(3, .int (nI k)), (1, .int (nI (k + 1))), (2, .int r9), (0, .ref (a 0))]) dX6_sum_40 rfl (by decide) rfl ?_
      refine j_aload_n CX 3 dX6_sum_41 rfl rfl ?_
      refine j_get CX 0 19 dX6_sum_42 rfl rfl hin6 (by decide) hfl51 rfl ?_
      refine j_iload_n CX 0 dX6_sum_45 rfl rfl ?_
      refine j_iald CX 13 k dX6_sum_46 rfl (rfl) (by first | assumption | omega) (by decide) ?_
      refine j_top (show (nI (ma9 k)) = nI c0 from by rw [hma]) ?_
      refine j_iconst CX dX6_sum_47 (show _ = (nI 1 : Int32) by decide) ?_
      refine j_iadd CX dX6_sum_48 ?_
      refine j_top (show (nI c0) + (nI 1) = nI (c0 + 1) from nI_add _ _) ?_
      refine j_iconst CX dX6_sum_49 (show _ = (nI 2 : Int32) by decide) ?_
      refine j_idiv CX dX6_sum_50 (by decide) ?_
      refine j_top (show ((nI (c0 + 1)) / (nI 2)) = nI ((c0 + 1) / 2) from pk_div (by omega) (by decide) (by decide)) ?_
      refine j_istore CX (lv' := [(4, .int (nI ((c0 + 1) / 2))), (3, .int (nI k)), (1, .int (nI (k + 1))), (2, .int r9), (0, .ref (a 0))]) dX6_sum_51 (by decide) rfl ?_
      refine j_aload_n CX 4 dX6_sum_53 rfl rfl ?_
      refine j_get CX 0 19 dX6_sum_54 rfl rfl hin6 (by decide) hfl51 rfl ?_
      refine j_iload_n CX 1 dX6_sum_57 rfl rfl ?_
      refine j_iald CX 13 k dX6_sum_58 rfl (rfl) (by first | assumption | omega) (by decide) ?_
      refine j_top (show (nI (ma9 k)) = nI c0 from by rw [hma]) ?_
      refine j_iconst CX dX6_sum_59 (show _ = (nI 1 : Int32) by decide) ?_
      refine j_icmpN_ne CX (by first | assumption | omega) (by first | assumption | omega | exact b2n_lt _ | exact t2n_lt _) 81 dX6_sum_60 (by decide) (fun h60 => ?_) (fun h60 => ?_)
      · have hstb : st9 k < 2 ^ 31 := by omega
        refine j_aload_n CX 4 dX6_sum_81 rfl rfl ?_
        refine j_get CX 0 20 dX6_sum_82 rfl rfl hin6 (by decide) hfl54 rfl ?_
        refine j_iload_n CX 1 dX6_sum_85 rfl rfl ?_
        refine j_iald CX 14 k dX6_sum_86 rfl (rfl) (by first | assumption | omega) (by decide) ?_
        refine j_ifN_ne CX (by first | assumption | omega | exact b2n_lt _ | exact t2n_lt _) 130 dX6_sum_87 (by decide) (fun h87 => ?_) (fun h87 => ?_)
        · exact absurd hst h87
        · refine j_aload_n CX 4 dX6_sum_90 rfl rfl ?_
          refine j_get CX 0 20 dX6_sum_91 rfl rfl hin6 (by decide) hfl54 rfl ?_
          refine j_iload_n CX 1 dX6_sum_94 rfl rfl ?_
          refine j_iconst CX dX6_sum_95 (show _ = (nI 1 : Int32) by decide) ?_
          refine j_iast CX (w' := mW a cI cZ n (nI 0) (nI fc) sp (nI cr) (nI ln) cx (nI jo) (nI wg) sh va (nf C) (nf fw) (nf fz) (nf fh) (nf G) di (nf B) ke (nf dO) (nf fr9) (nf ma9) (upd (nf st9) k (nI 1)) hf9 (nf wa) ra ag) 14 k dX6_sum_96 rfl (rfl) (by first | assumption | omega) (by decide) rfl ?_
          refine j_w (show mW a cI cZ n (nI 0) (nI fc) sp (nI cr) (nI ln) cx (nI jo) (nI wg) sh va (nf C) (nf fw) (nf fz) (nf fh) (nf G) di (nf B) ke (nf dO) (nf fr9) (nf ma9) (upd (nf st9) k (nI 1)) hf9 (nf wa) ra ag = mW a cI cZ n (nI 0) (nI fc) sp (nI cr) (nI ln) cx (nI jo) (nI wg) sh va (nf C) (nf fw) (nf fz) (nf fh) (nf G) di (nf B) ke (nf dO) (nf fr9) (nf ma9) (nf (updN st9 k 1)) hf9 (nf wa) ra ag by rw [nf_upd]) ?_
          refine j_aload_n CX 4 dX6_sum_97 rfl rfl ?_
          refine j_get CX 0 18 dX6_sum_98 rfl rfl hin6 (by decide) hfl48 rfl ?_
          refine j_iload_n CX 2 dX6_sum_101 rfl rfl ?_
          refine j_aload_n CX 4 dX6_sum_102 rfl rfl ?_
          refine j_get CX 0 18 dX6_sum_103 rfl rfl hin6 (by decide) hfl48 rfl ?_
          refine j_iload_n CX 1 dX6_sum_106 rfl rfl ?_
          refine j_iald CX 12 k dX6_sum_107 rfl (rfl) (by first | assumption | omega) (by decide) ?_
          refine j_top (show (nI (fr9 k)) = nI f from by rw [hfr]) ?_
          refine j_iast CX (w' := mW a cI cZ n (nI 0) (nI fc) sp (nI cr) (nI ln) cx (nI jo) (nI wg) sh va (nf C) (nf fw) (nf fz) (nf fh) (nf G) di (nf B) ke (nf dO) (upd (nf fr9) (k + 1) (nI f)) (nf ma9) (nf (updN st9 k 1)) hf9 (nf wa) ra ag) 12 (k + 1) dX6_sum_108 rfl (rfl) (by first | assumption | omega) (by decide) rfl ?_
          refine j_w (show mW a cI cZ n (nI 0) (nI fc) sp (nI cr) (nI ln) cx (nI jo) (nI wg) sh va (nf C) (nf fw) (nf fz) (nf fh) (nf G) di (nf B) ke (nf dO) (upd (nf fr9) (k + 1) (nI f)) (nf ma9) (nf (updN st9 k 1)) hf9 (nf wa) ra ag = mW a cI cZ n (nI 0) (nI fc) sp (nI cr) (nI ln) cx (nI jo) (nI wg) sh va (nf C) (nf fw) (nf fz) (nf fh) (nf G) di (nf B) ke (nf dO) (nf (updN fr9 (k + 1) f)) (nf ma9) (nf (updN st9 k 1)) hf9 (nf wa) ra ag by rw [nf_upd]) ?_
          refine j_aload_n CX 4 dX6_sum_109 rfl rfl ?_
          refine j_get CX 0 19 dX6_sum_110 rfl rfl hin6 (by decide) hfl51 rfl ?_
          refine j_iload_n CX 2 dX6_sum_113 rfl rfl ?_
          refine j_iload CX 0 dX6_sum_114 rfl ?_
          refine j_iast CX (w' := mW a cI cZ n (nI 0) (nI fc) sp (nI cr) (nI ln) cx (nI jo) (nI wg) sh va (nf C) (nf fw) (nf fz) (nf fh) (nf G) di (nf B) ke (nf dO) (nf (updN fr9 (k + 1) f)) (upd (nf ma9) (k + 1) (nI ((c0 + 1) / 2))) (nf (updN st9 k 1)) hf9 (nf wa) ra ag) 13 (k + 1) dX6_sum_116 rfl (rfl) (by first | assumption | omega) (by decide) rfl ?_
          refine j_w (show mW a cI cZ n (nI 0) (nI fc) sp (nI cr) (nI ln) cx (nI jo) (nI wg) sh va (nf C) (nf fw) (nf fz) (nf fh) (nf G) di (nf B) ke (nf dO) (nf (updN fr9 (k + 1) f)) (upd (nf ma9) (k + 1) (nI ((c0 + 1) / 2))) (nf (updN st9 k 1)) hf9 (nf wa) ra ag = mW a cI cZ n (nI 0) (nI fc) sp (nI cr) (nI ln) cx (nI jo) (nI wg) sh va (nf C) (nf fw) (nf fz) (nf fh) (nf G) di (nf B) ke (nf dO) (nf (updN fr9 (k + 1) f)) (nf (updN ma9 (k + 1) ((c0 + 1) / 2))) (nf (updN st9 k 1)) hf9 (nf wa) ra ag by rw [nf_upd]) ?_
          refine j_aload_n CX 4 dX6_sum_117 rfl rfl ?_
          refine j_get CX 0 20 dX6_sum_118 rfl rfl hin6 (by decide) hfl54 rfl ?_
          refine j_iload_n CX 2 dX6_sum_121 rfl rfl ?_
          refine j_iconst CX dX6_sum_122 (show _ = (nI 0 : Int32) by decide) ?_
          refine j_iast CX (w' := mW a cI cZ n (nI 0) (nI fc) sp (nI cr) (nI ln) cx (nI jo) (nI wg) sh va (nf C) (nf fw) (nf fz) (nf fh) (nf G) di (nf B) ke (nf dO) (nf (updN fr9 (k + 1) f)) (nf (updN ma9 (k + 1) ((c0 + 1) / 2))) (upd (nf (updN st9 k 1)) (k + 1) (nI 0)) hf9 (nf wa) ra ag) 14 (k + 1) dX6_sum_123 rfl (rfl) (by first | assumption | omega) (by decide) rfl ?_
          refine j_w (show mW a cI cZ n (nI 0) (nI fc) sp (nI cr) (nI ln) cx (nI jo) (nI wg) sh va (nf C) (nf fw) (nf fz) (nf fh) (nf G) di (nf B) ke (nf dO) (nf (updN fr9 (k + 1) f)) (nf (updN ma9 (k + 1) ((c0 + 1) / 2))) (upd (nf (updN st9 k 1)) (k + 1) (nI 0)) hf9 (nf wa) ra ag = mW a cI cZ n (nI 0) (nI fc) sp (nI cr) (nI ln) cx (nI jo) (nI wg) sh va (nf C) (nf fw) (nf fz) (nf fh) (nf G) di (nf B) ke (nf dO) (nf (updN fr9 (k + 1) f)) (nf (updN ma9 (k + 1) ((c0 + 1) / 2))) (nf (updN (updN st9 k 1) (k + 1) 0)) hf9 (nf wa) ra ag by rw [nf_upd]) ?_
          refine j_iinc CX (v := nI (k + 1 + 1)) (lv' := [(1, .int (nI (k + 1 + 1))), (4, .int (nI ((c0 + 1) / 2))), (3, .int (nI k)), (2, .int r9), (0, .ref (a 0))]) 2 dX6_sum_124 rfl (nI_1 _) (by decide) rfl ?_
          refine j_goto CX 214 dX6_sum_127 (by decide) ?_
          refine j_goto CX 33 dX6_sum_214 (by decide) ?_
          refine j_lv (lv' := [(1, .int (nI (k + 1 + 1))), (2, .int r9), (0, .ref (a 0))]) [0, 3, 4] rfl ?_
          refine A1 (k + 1) f ((c0 + 1) / 2) _ _ _ _ _ (by omega) (by omega) (by omega) (by omega) (by rw [updN_s]) (by rw [updN_s]) (by rw [updN_s]) (fun fr8 ma8 st8 hf8 h8 => ?_)
          have g8 := h8 k (by omega)
          refine B2 k f c0 fr8 ma8 st8 hf8 _ hk hc1 hc2 hfc0 (by rw [g8.1, updN_n (by omega), hfr]) (by rw [g8.2.1, updN_n (by omega), hma]) (by omega) (by rw [g8.2.2.1, updN_n (by omega), updN_s]) rfl (fun fr7 ma7 st7 hf7 h7 => hkk fr7 ma7 st7 hf7 (fun j hj => ?_))
          have g7 := h7 j hj
          have g6 := h8 j (by omega)
          exact ⟨by rw [g7.1, g6.1, updN_n (by omega)], by rw [g7.2.1, g6.2.1, updN_n (by omega)], by rw [g7.2.2.1, g6.2.2.1, updN_n (by omega), updN_n (by omega)], by rw [g7.2.2.2, g6.2.2.2]⟩
      · refine j_aload_n CX 4 dX6_sum_63 rfl rfl ?_
        refine j_get CX 0 3 dX6_sum_64 rfl rfl hin6 (by decide) hfl13 rfl ?_
        refine j_aload_n CX 4 dX6_sum_67 rfl rfl ?_
        refine j_get CX 0 18 dX6_sum_68 rfl rfl hin6 (by decide) hfl48 rfl ?_
        refine j_iload_n CX 1 dX6_sum_71 rfl rfl ?_
        refine j_iald CX 12 k dX6_sum_72 rfl (rfl) (by first | assumption | omega) (by decide) ?_
        refine j_top (show (nI (fr9 k)) = nI f from by rw [hfr]) ?_
        refine j_iald CX 2 f dX6_sum_73 rfl (rfl) (by first | assumption | omega) (by decide) ?_
        refine j_istore_n CX (lv' := [(2, .int (va f)), (4, .int (nI ((c0 + 1) / 2))), (3, .int (nI k)), (1, .int (nI (k + 1))), (0, .ref (a 0))]) dX6_sum_74 rfl (by decide) rfl ?_
        refine j_lve (lv' := [(2, .int (tsR va 2 f c0)), (4, .int (nI ((c0 + 1) / 2))), (3, .int (nI k)), (1, .int (nI (k + 1))), (0, .ref (a 0))]) (by rw [show tsR va 2 f c0 = va f by show (if _ then _ else _) = _; rw [if_pos (by omega)]]) ?_
        refine j_iinc CX (v := nI k) (lv' := [(1, .int (nI k)), (2, .int (tsR va 2 f c0)), (4, .int (nI ((c0 + 1) / 2))), (3, .int (nI k)), (0, .ref (a 0))]) 3 dX6_sum_75 rfl (by rw [sub_m1]; exact nI_m1 _) (by decide) rfl ?_
        refine j_goto CX 214 dX6_sum_78 (by decide) ?_
        refine j_goto CX 33 dX6_sum_214 (by decide) ?_
        refine j_lv (lv' := [(1, .int (nI k)), (2, .int (tsR va 2 f c0)), (0, .ref (a 0))]) [0, 1, 4] rfl ?_
        exact hkk _ _ _ _ (fun j hj => ⟨rfl, rfl, rfl, rfl⟩)
  have C3 : ∀ (k f c0 : Nat) (fr9 ma9 st9 : Nat → Nat) (hf9 : Nat → Int32) (r9 : Int32), k + 3 < 15 → 1 ≤ c0 → c0 ≤ 8 → f + c0 ≤ n → fr9 k = f → ma9 k = c0 → 1 < c0 → st9 k = 2 → hf9 k = tsR va 2 f ((c0 + 1) / 2) → r9 = tsR va 2 (f + ((c0 + 1) / 2)) (c0 - (c0 + 1) / 2) → (∀ (fr8 ma8 st8 : Nat → Nat) (hf8 : Nat → Int32), (∀ j, j < k → fr8 j = fr9 j ∧ ma8 j = ma9 j ∧ st8 j = st9 j ∧ hf8 j = hf9 j) → J p l e rmX6_sum s m args below meth c D A 5 0 0 (MQ below (jQc D (fun r0 w0 => ∃ fr' ma' st' hf', r0 = some (.int (tsR va 5 0 n)) ∧ w0 = mW a cI cZ n (nI 0) (nI fc) sp (nI cr) (nI ln) cx (nI jo) (nI wg) sh va (nf C) (nf fw) (nf fz) (nf fh) (nf G) di (nf B) ke (nf dO) (nf fr') (nf ma') (nf st') hf' (nf wa) ra ag) A) args s rmX6_sum.cells rmX6_sum.slots A) (mW a cI cZ n (nI 0) (nI fc) sp (nI cr) (nI ln) cx (nI jo) (nI wg) sh va (nf C) (nf fw) (nf fz) (nf fh) (nf G) di (nf B) ke (nf dO) (nf fr8) (nf ma8) (nf st8) hf8 (nf wa) ra ag) 33 [(1, .int (nI k)), (2, .int (tsR va 3 f c0)), (0, .ref (a 0))] []) → J p l e rmX6_sum s m args below meth c D A 5 0 0 (MQ below (jQc D (fun r0 w0 => ∃ fr' ma' st' hf', r0 = some (.int (tsR va 5 0 n)) ∧ w0 = mW a cI cZ n (nI 0) (nI fc) sp (nI cr) (nI ln) cx (nI jo) (nI wg) sh va (nf C) (nf fw) (nf fz) (nf fh) (nf G) di (nf B) ke (nf dO) (nf fr') (nf ma') (nf st') hf' (nf wa) ra ag) A) args s rmX6_sum.cells rmX6_sum.slots A) (mW a cI cZ n (nI 0) (nI fc) sp (nI cr) (nI ln) cx (nI jo) (nI wg) sh va (nf C) (nf fw) (nf fz) (nf fh) (nf G) di (nf B) ke (nf dO) (nf fr9) (nf ma9) (nf st9) hf9 (nf wa) ra ag) 33 [(1, .int (nI (k + 1))), (2, .int r9), (0, .ref (a 0))] [] := by
    intro k f c0 fr9 ma9 st9 hf9 r9 hk hc1 hc2 hfc0 hfr hma hc3 hst hhf hr9 hkk
    refine j_iload_n CX 0 dX6_sum_33 rfl rfl ?_
    refine j_ifN_le CX (by first | assumption | omega | exact b2n_lt _ | exact t2n_lt _) 217 dX6_sum_34 (by decide) (fun h34 => ?_) (fun h34 => ?_)
    · exact absurd h34 (by omega)
    · refine j_iload_n CX 0 dX6_sum_37 rfl rfl ?_
      refine j_iconst CX dX6_sum_38 (show _ = (nI 1 : Int32) by decide) ?_
      refine j_isub CX dX6_sum_39 ?_
      refine j_top (show ((nI (k + 1)) - (nI 1)) = nI k from nI_m1 _) ?_
      refine j_istore_n CX (lv' := [(3, .int (nI k)), (1, .int (nI (k + 1))), (2, .int r9), (0, .ref (a 0))]) dX6_sum_40 rfl (by decide) rfl ?_
      refine j_aload_n CX 3 dX6_sum_41 rfl rfl ?_
      refine j_get CX 0 19 dX6_sum_42 rfl rfl hin6 (by decide) hfl51 rfl ?_
      refine j_iload_n CX 0 dX6_sum_45 rfl rfl ?_
      refine j_iald CX 13 k dX6_sum_46 rfl (rfl) (by first | assumption | omega) (by decide) ?_
      refine j_top (show (nI (ma9 k)) = nI c0 from by rw [hma]) ?_
      refine j_iconst CX dX6_sum_47 (show _ = (nI 1 : Int32) by decide) ?_
      refine j_iadd CX dX6_sum_48 ?_
      refine j_top (show (nI c0) + (nI 1) = nI (c0 + 1) from nI_add _ _) ?_
      refine j_iconst CX dX6_sum_49 (show _ = (nI 2 : Int32) by decide) ?_
      refine j_idiv CX dX6_sum_50 (by decide) ?_
      refine j_top (show ((nI (c0 + 1)) / (nI 2)) = nI ((c0 + 1) / 2) from pk_div (by omega) (by decide) (by decide)) ?_
      refine j_istore CX (lv' := [(4, .int (nI ((c0 + 1) / 2))), (3, .int (nI k)), (1, .int (nI (k + 1))), (2, .int r9), (0, .ref (a 0))]) dX6_sum_51 (by decide) rfl ?_
      refine j_aload_n CX 4 dX6_sum_53 rfl rfl ?_
      refine j_get CX 0 19 dX6_sum_54 rfl rfl hin6 (by decide) hfl51 rfl ?_
      refine j_iload_n CX 1 dX6_sum_57 rfl rfl ?_
      refine j_iald CX 13 k dX6_sum_58 rfl (rfl) (by first | assumption | omega) (by decide) ?_
      refine j_top (show (nI (ma9 k)) = nI c0 from by rw [hma]) ?_
      refine j_iconst CX dX6_sum_59 (show _ = (nI 1 : Int32) by decide) ?_
      refine j_icmpN_ne CX (by first | assumption | omega) (by first | assumption | omega | exact b2n_lt _ | exact t2n_lt _) 81 dX6_sum_60 (by decide) (fun h60 => ?_) (fun h60 => ?_)
      · have hstb : st9 k < 2 ^ 31 := by omega
        refine j_aload_n CX 4 dX6_sum_81 rfl rfl ?_
        refine j_get CX 0 20 dX6_sum_82 rfl rfl hin6 (by decide) hfl54 rfl ?_
        refine j_iload_n CX 1 dX6_sum_85 rfl rfl ?_
        refine j_iald CX 14 k dX6_sum_86 rfl (rfl) (by first | assumption | omega) (by decide) ?_
        refine j_ifN_ne CX (by first | assumption | omega | exact b2n_lt _ | exact t2n_lt _) 130 dX6_sum_87 (by decide) (fun h87 => ?_) (fun h87 => ?_)
        · refine j_aload_n CX 4 dX6_sum_130 rfl rfl ?_
          refine j_get CX 0 20 dX6_sum_131 rfl rfl hin6 (by decide) hfl54 rfl ?_
          refine j_iload_n CX 1 dX6_sum_134 rfl rfl ?_
          refine j_iald CX 14 k dX6_sum_135 rfl (rfl) (by first | assumption | omega) (by decide) ?_
          refine j_iconst CX dX6_sum_136 (show _ = (nI 1 : Int32) by decide) ?_
          refine j_icmpN_ne CX (by first | assumption | omega) (by first | assumption | omega | exact b2n_lt _ | exact t2n_lt _) 197 dX6_sum_137 (by decide) (fun h137 => ?_) (fun h137 => ?_)
          · refine j_aload_n CX 4 dX6_sum_197 rfl rfl ?_
            refine j_get CX 0 21 dX6_sum_198 rfl rfl hin6 (by decide) hfl57 rfl ?_
            refine j_iload_n CX 1 dX6_sum_201 rfl rfl ?_
            refine j_iald CX 15 k dX6_sum_202 rfl (rfl) (by first | assumption | omega) (by decide) ?_
            refine j_i2l CX dX6_sum_203 ?_
            refine j_iload_n CX 3 dX6_sum_204 rfl rfl ?_
            refine j_i2l CX dX6_sum_205 ?_
            refine j_ladd CX dX6_sum_206 ?_
            refine j_callS CX (n := 1) (b := 0) (pre := []) (post := mW a cI cZ n (nI 0) (nI fc) sp (nI cr) (nI ln) cx (nI jo) (nI wg) sh va (nf C) (nf fw) (nf fz) (nf fh) (nf G) di (nf B) ke (nf dO) (nf fr9) (nf ma9) (nf st9) hf9 (nf wa) ra ag) (rest := []) (r_within l D cI cZ cL (((hf9 k).toInt64) + r9.toInt64)) gX6_sum_X6_within rfl (by decide +kernel) ⟨Nat.le_of_ble_eq_true rfl, Nat.le_of_ble_eq_true rfl⟩ rfl rfl rfl (Nat.le_of_ble_eq_true rfl) dX6_sum_207 ⟨Nat.le_refl _, Nat.le_refl _⟩ (fun r9 w9 h9 => ?_)
            obtain ⟨rfl, rfl⟩ := h9
            refine j_w (w' := mW a cI cZ n (nI 0) (nI fc) sp (nI cr) (nI ln) cx (nI jo) (nI wg) sh va (nf C) (nf fw) (nf fz) (nf fh) (nf G) di (nf B) ke (nf dO) (nf fr9) (nf ma9) (nf st9) hf9 (nf wa) ra ag) rfl ?_
            refine j_st (st9 := [.int (kept (((hf9 k).toInt64) + r9.toInt64))]) rfl ?_
            refine j_istore_n CX (lv' := [(2, .int (kept (((hf9 k).toInt64) + r9.toInt64))), (4, .int (nI ((c0 + 1) / 2))), (3, .int (nI k)), (1, .int (nI (k + 1))), (0, .ref (a 0))]) dX6_sum_210 rfl (by decide) rfl ?_
            refine j_lve (lv' := [(2, .int (tsR va 3 f c0)), (4, .int (nI ((c0 + 1) / 2))), (3, .int (nI k)), (1, .int (nI (k + 1))), (0, .ref (a 0))]) (by rw [show tsR va 3 f c0 = kept (((hf9 k).toInt64) + r9.toInt64) by rw [hhf, hr9]; show (if _ then _ else _) = _; rw [if_neg (by omega)]]) ?_
            refine j_iinc CX (v := nI k) (lv' := [(1, .int (nI k)), (2, .int (tsR va 3 f c0)), (4, .int (nI ((c0 + 1) / 2))), (3, .int (nI k)), (0, .ref (a 0))]) 3 dX6_sum_211 rfl (by rw [sub_m1]; exact nI_m1 _) (by decide) rfl ?_
            refine j_goto CX 33 dX6_sum_214 (by decide) ?_
            refine j_lv (lv' := [(1, .int (nI k)), (2, .int (tsR va 3 f c0)), (0, .ref (a 0))]) [0, 1, 4] rfl ?_
            exact hkk _ _ _ _ (fun j hj => ⟨rfl, rfl, rfl, rfl⟩)
          · exact absurd (hst.symm.trans h137) (by decide)
        · exact absurd (hst.symm.trans h87) (by decide)
      · exact absurd hc3 (by omega)
  have B3 : ∀ (k f c0 : Nat) (fr9 ma9 st9 : Nat → Nat) (hf9 : Nat → Int32) (r9 : Int32), k + 3 < 15 → 1 ≤ c0 → c0 ≤ 8 → f + c0 ≤ n → fr9 k = f → ma9 k = c0 → 1 < c0 → st9 k = 1 → r9 = tsR va 2 f ((c0 + 1) / 2) → (∀ (fr8 ma8 st8 : Nat → Nat) (hf8 : Nat → Int32), (∀ j, j < k → fr8 j = fr9 j ∧ ma8 j = ma9 j ∧ st8 j = st9 j ∧ hf8 j = hf9 j) → J p l e rmX6_sum s m args below meth c D A 5 0 0 (MQ below (jQc D (fun r0 w0 => ∃ fr' ma' st' hf', r0 = some (.int (tsR va 5 0 n)) ∧ w0 = mW a cI cZ n (nI 0) (nI fc) sp (nI cr) (nI ln) cx (nI jo) (nI wg) sh va (nf C) (nf fw) (nf fz) (nf fh) (nf G) di (nf B) ke (nf dO) (nf fr') (nf ma') (nf st') hf' (nf wa) ra ag) A) args s rmX6_sum.cells rmX6_sum.slots A) (mW a cI cZ n (nI 0) (nI fc) sp (nI cr) (nI ln) cx (nI jo) (nI wg) sh va (nf C) (nf fw) (nf fz) (nf fh) (nf G) di (nf B) ke (nf dO) (nf fr8) (nf ma8) (nf st8) hf8 (nf wa) ra ag) 33 [(1, .int (nI k)), (2, .int (tsR va 3 f c0)), (0, .ref (a 0))] []) → J p l e rmX6_sum s m args below meth c D A 5 0 0 (MQ below (jQc D (fun r0 w0 => ∃ fr' ma' st' hf', r0 = some (.int (tsR va 5 0 n)) ∧ w0 = mW a cI cZ n (nI 0) (nI fc) sp (nI cr) (nI ln) cx (nI jo) (nI wg) sh va (nf C) (nf fw) (nf fz) (nf fh) (nf G) di (nf B) ke (nf dO) (nf fr') (nf ma') (nf st') hf' (nf wa) ra ag) A) args s rmX6_sum.cells rmX6_sum.slots A) (mW a cI cZ n (nI 0) (nI fc) sp (nI cr) (nI ln) cx (nI jo) (nI wg) sh va (nf C) (nf fw) (nf fz) (nf fh) (nf G) di (nf B) ke (nf dO) (nf fr9) (nf ma9) (nf st9) hf9 (nf wa) ra ag) 33 [(1, .int (nI (k + 1))), (2, .int r9), (0, .ref (a 0))] [] := by
    intro k f c0 fr9 ma9 st9 hf9 r9 hk hc1 hc2 hfc0 hfr hma hc3 hst hr9 hkk
    refine j_iload_n CX 0 dX6_sum_33 rfl rfl ?_
    refine j_ifN_le CX (by first | assumption | omega | exact b2n_lt _ | exact t2n_lt _) 217 dX6_sum_34 (by decide) (fun h34 => ?_) (fun h34 => ?_)
    · exact absurd h34 (by omega)
    · refine j_iload_n CX 0 dX6_sum_37 rfl rfl ?_
      refine j_iconst CX dX6_sum_38 (show _ = (nI 1 : Int32) by decide) ?_
      refine j_isub CX dX6_sum_39 ?_
      refine j_top (show ((nI (k + 1)) - (nI 1)) = nI k from nI_m1 _) ?_
      refine j_istore_n CX (lv' := [(3, .int (nI k)), (1, .int (nI (k + 1))), (2, .int r9), (0, .ref (a 0))]) dX6_sum_40 rfl (by decide) rfl ?_
      refine j_aload_n CX 3 dX6_sum_41 rfl rfl ?_
      refine j_get CX 0 19 dX6_sum_42 rfl rfl hin6 (by decide) hfl51 rfl ?_
      refine j_iload_n CX 0 dX6_sum_45 rfl rfl ?_
      refine j_iald CX 13 k dX6_sum_46 rfl (rfl) (by first | assumption | omega) (by decide) ?_
      refine j_top (show (nI (ma9 k)) = nI c0 from by rw [hma]) ?_
      refine j_iconst CX dX6_sum_47 (show _ = (nI 1 : Int32) by decide) ?_
      refine j_iadd CX dX6_sum_48 ?_
      refine j_top (show (nI c0) + (nI 1) = nI (c0 + 1) from nI_add _ _) ?_
      refine j_iconst CX dX6_sum_49 (show _ = (nI 2 : Int32) by decide) ?_
      refine j_idiv CX dX6_sum_50 (by decide) ?_
      refine j_top (show ((nI (c0 + 1)) / (nI 2)) = nI ((c0 + 1) / 2) from pk_div (by omega) (by decide) (by decide)) ?_
      refine j_istore CX (lv' := [(4, .int (nI ((c0 + 1) / 2))), (3, .int (nI k)), (1, .int (nI (k + 1))), (2, .int r9), (0, .ref (a 0))]) dX6_sum_51 (by decide) rfl ?_
      refine j_aload_n CX 4 dX6_sum_53 rfl rfl ?_
      refine j_get CX 0 19 dX6_sum_54 rfl rfl hin6 (by decide) hfl51 rfl ?_
      refine j_iload_n CX 1 dX6_sum_57 rfl rfl ?_
      refine j_iald CX 13 k dX6_sum_58 rfl (rfl) (by first | assumption | omega) (by decide) ?_
      refine j_top (show (nI (ma9 k)) = nI c0 from by rw [hma]) ?_
      refine j_iconst CX dX6_sum_59 (show _ = (nI 1 : Int32) by decide) ?_
      refine j_icmpN_ne CX (by first | assumption | omega) (by first | assumption | omega | exact b2n_lt _ | exact t2n_lt _) 81 dX6_sum_60 (by decide) (fun h60 => ?_) (fun h60 => ?_)
      · have hstb : st9 k < 2 ^ 31 := by omega
        refine j_aload_n CX 4 dX6_sum_81 rfl rfl ?_
        refine j_get CX 0 20 dX6_sum_82 rfl rfl hin6 (by decide) hfl54 rfl ?_
        refine j_iload_n CX 1 dX6_sum_85 rfl rfl ?_
        refine j_iald CX 14 k dX6_sum_86 rfl (rfl) (by first | assumption | omega) (by decide) ?_
        refine j_ifN_ne CX (by first | assumption | omega | exact b2n_lt _ | exact t2n_lt _) 130 dX6_sum_87 (by decide) (fun h87 => ?_) (fun h87 => ?_)
        · refine j_aload_n CX 4 dX6_sum_130 rfl rfl ?_
          refine j_get CX 0 20 dX6_sum_131 rfl rfl hin6 (by decide) hfl54 rfl ?_
          refine j_iload_n CX 1 dX6_sum_134 rfl rfl ?_
          refine j_iald CX 14 k dX6_sum_135 rfl (rfl) (by first | assumption | omega) (by decide) ?_
          refine j_iconst CX dX6_sum_136 (show _ = (nI 1 : Int32) by decide) ?_
          refine j_icmpN_ne CX (by first | assumption | omega) (by first | assumption | omega | exact b2n_lt _ | exact t2n_lt _) 197 dX6_sum_137 (by decide) (fun h137 => ?_) (fun h137 => ?_)
          · exact absurd hst h137
          · refine j_aload_n CX 4 dX6_sum_140 rfl rfl ?_
            refine j_get CX 0 21 dX6_sum_141 rfl rfl hin6 (by decide) hfl57 rfl ?_
            refine j_iload_n CX 1 dX6_sum_144 rfl rfl ?_
            refine j_iload_n CX 3 dX6_sum_145 rfl rfl ?_
            refine j_iast CX (w' := mW a cI cZ n (nI 0) (nI fc) sp (nI cr) (nI ln) cx (nI jo) (nI wg) sh va (nf C) (nf fw) (nf fz) (nf fh) (nf G) di (nf B) ke (nf dO) (nf fr9) (nf ma9) (nf st9) (upd hf9 k r9) (nf wa) ra ag) 15 k dX6_sum_146 rfl (rfl) (by first | assumption | omega) (by decide) rfl ?_
            refine j_aload_n CX 4 dX6_sum_147 rfl rfl ?_
            refine j_get CX 0 20 dX6_sum_148 rfl rfl hin6 (by decide) hfl54 rfl ?_
            refine j_iload_n CX 1 dX6_sum_151 rfl rfl ?_
            refine j_iconst CX dX6_sum_152 (show _ = (nI 2 : Int32) by decide) ?_
            refine j_iast CX (w' := mW a cI cZ n (nI 0) (nI fc) sp (nI cr) (nI ln) cx (nI jo) (nI wg) sh va (nf C) (nf fw) (nf fz) (nf fh) (nf G) di (nf B) ke (nf dO) (nf fr9) (nf ma9) (upd (nf st9) k (nI 2)) (upd hf9 k r9) (nf wa) ra ag) 14 k dX6_sum_153 rfl (rfl) (by first | assumption | omega) (by decide) rfl ?_
            refine j_w (show mW a cI cZ n (nI 0) (nI fc) sp (nI cr) (nI ln) cx (nI jo) (nI wg) sh va (nf C) (nf fw) (nf fz) (nf fh) (nf G) di (nf B) ke (nf dO) (nf fr9) (nf ma9) (upd (nf st9) k (nI 2)) (upd hf9 k r9) (nf wa) ra ag = mW a cI cZ n (nI 0) (nI fc) sp (nI cr) (nI ln) cx (nI jo) (nI wg) sh va (nf C) (nf fw) (nf fz) (nf fh) (nf G) di (nf B) ke (nf dO) (nf fr9) (nf ma9) (nf (updN st9 k 2)) (upd hf9 k r9) (nf wa) ra ag by rw [nf_upd]) ?_
            refine j_aload_n CX 4 dX6_sum_154 rfl rfl ?_
            refine j_get CX 0 18 dX6_sum_155 rfl rfl hin6 (by decide) hfl48 rfl ?_
            refine j_iload_n CX 2 dX6_sum_158 rfl rfl ?_
            refine j_aload_n CX 4 dX6_sum_159 rfl rfl ?_
            refine j_get CX 0 18 dX6_sum_160 rfl rfl hin6 (by decide) hfl48 rfl ?_
            refine j_iload_n CX 1 dX6_sum_163 rfl rfl ?_
            refine j_iald CX 12 k dX6_sum_164 rfl (rfl) (by first | assumption | omega) (by decide) ?_
            refine j_top (show (nI (fr9 k)) = nI f from by rw [hfr]) ?_
            refine j_iload CX 0 dX6_sum_165 rfl ?_
            refine j_iadd CX dX6_sum_167 ?_
            refine j_top (show (nI f) + (nI ((c0 + 1) / 2)) = nI (f + ((c0 + 1) / 2)) from nI_add _ _) ?_
            refine j_iast CX (w' := mW a cI cZ n (nI 0) (nI fc) sp (nI cr) (nI ln) cx (nI jo) (nI wg) sh va (nf C) (nf fw) (nf fz) (nf fh) (nf G) di (nf B) ke (nf dO) (upd (nf fr9) (k + 1) (nI (f + ((c0 + 1) / 2)))) (nf ma9) (nf (updN st9 k 2)) (upd hf9 k r9) (nf wa) ra ag) 12 (k + 1) dX6_sum_168 rfl (rfl) (by first | assumption | omega) (by decide) rfl ?_
            refine j_w (show mW a cI cZ n (nI 0) (nI fc) sp (nI cr) (nI ln) cx (nI jo) (nI wg) sh va (nf C) (nf fw) (nf fz) (nf fh) (nf G) di (nf B) ke (nf dO) (upd (nf fr9) (k + 1) (nI (f + ((c0 + 1) / 2)))) (nf ma9) (nf (updN st9 k 2)) (upd hf9 k r9) (nf wa) ra ag = mW a cI cZ n (nI 0) (nI fc) sp (nI cr) (nI ln) cx (nI jo) (nI wg) sh va (nf C) (nf fw) (nf fz) (nf fh) (nf G) di (nf B) ke (nf dO) (nf (updN fr9 (k + 1) (f + ((c0 + 1) / 2)))) (nf ma9) (nf (updN st9 k 2)) (upd hf9 k r9) (nf wa) ra ag by rw [nf_upd]) ?_
            refine j_aload_n CX 4 dX6_sum_169 rfl rfl ?_
            refine j_get CX 0 19 dX6_sum_170 rfl rfl hin6 (by decide) hfl51 rfl ?_
            refine j_iload_n CX 2 dX6_sum_173 rfl rfl ?_
            refine j_aload_n CX 4 dX6_sum_174 rfl rfl ?_
            refine j_get CX 0 19 dX6_sum_175 rfl rfl hin6 (by decide) hfl51 rfl ?_
            refine j_iload_n CX 1 dX6_sum_178 rfl rfl ?_
            refine j_iald CX 13 k dX6_sum_179 rfl (rfl) (by first | assumption | omega) (by decide) ?_
            refine j_top (show (nI (ma9 k)) = nI c0 from by rw [hma]) ?_
            refine j_iload CX 0 dX6_sum_180 rfl ?_
            refine j_isub CX dX6_sum_182 ?_
            refine j_top (show ((nI c0) - (nI ((c0 + 1) / 2))) = nI (c0 - (c0 + 1) / 2) from pk_sub (by omega)) ?_
            refine j_iast CX (w' := mW a cI cZ n (nI 0) (nI fc) sp (nI cr) (nI ln) cx (nI jo) (nI wg) sh va (nf C) (nf fw) (nf fz) (nf fh) (nf G) di (nf B) ke (nf dO) (nf (updN fr9 (k + 1) (f + ((c0 + 1) / 2)))) (upd (nf ma9) (k + 1) (nI (c0 - (c0 + 1) / 2))) (nf (updN st9 k 2)) (upd hf9 k r9) (nf wa) ra ag) 13 (k + 1) dX6_sum_183 rfl (rfl) (by first | assumption | omega) (by decide) rfl ?_
            refine j_w (show mW a cI cZ n (nI 0) (nI fc) sp (nI cr) (nI ln) cx (nI jo) (nI wg) sh va (nf C) (nf fw) (nf fz) (nf fh) (nf G) di (nf B) ke (nf dO) (nf (updN fr9 (k + 1) (f + ((c0 + 1) / 2)))) (upd (nf ma9) (k + 1) (nI (c0 - (c0 + 1) / 2))) (nf (updN st9 k 2)) (upd hf9 k r9) (nf wa) ra ag = mW a cI cZ n (nI 0) (nI fc) sp (nI cr) (nI ln) cx (nI jo) (nI wg) sh va (nf C) (nf fw) (nf fz) (nf fh) (nf G) di (nf B) ke (nf dO) (nf (updN fr9 (k + 1) (f + ((c0 + 1) / 2)))) (nf (updN ma9 (k + 1) (c0 - (c0 + 1) / 2))) (nf (updN st9 k 2)) (upd hf9 k r9) (nf wa) ra ag by rw [nf_upd]) ?_
            refine j_aload_n CX 4 dX6_sum_184 rfl rfl ?_
            refine j_get CX 0 20 dX6_sum_185 rfl rfl hin6 (by decide) hfl54 rfl ?_
            refine j_iload_n CX 2 dX6_sum_188 rfl rfl ?_
            refine j_iconst CX dX6_sum_189 (show _ = (nI 0 : Int32) by decide) ?_
            refine j_iast CX (w' := mW a cI cZ n (nI 0) (nI fc) sp (nI cr) (nI ln) cx (nI jo) (nI wg) sh va (nf C) (nf fw) (nf fz) (nf fh) (nf G) di (nf B) ke (nf dO) (nf (updN fr9 (k + 1) (f + ((c0 + 1) / 2)))) (nf (updN ma9 (k + 1) (c0 - (c0 + 1) / 2))) (upd (nf (updN st9 k 2)) (k + 1) (nI 0)) (upd hf9 k r9) (nf wa) ra ag) 14 (k + 1) dX6_sum_190 rfl (rfl) (by first | assumption | omega) (by decide) rfl ?_
            refine j_w (show mW a cI cZ n (nI 0) (nI fc) sp (nI cr) (nI ln) cx (nI jo) (nI wg) sh va (nf C) (nf fw) (nf fz) (nf fh) (nf G) di (nf B) ke (nf dO) (nf (updN fr9 (k + 1) (f + ((c0 + 1) / 2)))) (nf (updN ma9 (k + 1) (c0 - (c0 + 1) / 2))) (upd (nf (updN st9 k 2)) (k + 1) (nI 0)) (upd hf9 k r9) (nf wa) ra ag = mW a cI cZ n (nI 0) (nI fc) sp (nI cr) (nI ln) cx (nI jo) (nI wg) sh va (nf C) (nf fw) (nf fz) (nf fh) (nf G) di (nf B) ke (nf dO) (nf (updN fr9 (k + 1) (f + ((c0 + 1) / 2)))) (nf (updN ma9 (k + 1) (c0 - (c0 + 1) / 2))) (nf (updN (updN st9 k 2) (k + 1) 0)) (upd hf9 k r9) (nf wa) ra ag by rw [nf_upd]) ?_
            refine j_iinc CX (v := nI (k + 1 + 1)) (lv' := [(1, .int (nI (k + 1 + 1))), (4, .int (nI ((c0 + 1) / 2))), (3, .int (nI k)), (2, .int r9), (0, .ref (a 0))]) 2 dX6_sum_191 rfl (nI_1 _) (by decide) rfl ?_
            refine j_goto CX 214 dX6_sum_194 (by decide) ?_
            refine j_goto CX 33 dX6_sum_214 (by decide) ?_
            refine j_lv (lv' := [(1, .int (nI (k + 1 + 1))), (2, .int r9), (0, .ref (a 0))]) [0, 3, 4] rfl ?_
            refine A2 (k + 1) (f + (c0 + 1) / 2) (c0 - (c0 + 1) / 2) _ _ _ _ _ (by omega) (by omega) (by omega) (by omega) (by rw [updN_s]) (by rw [updN_s]) (by rw [updN_s]) (fun fr8 ma8 st8 hf8 h8 => ?_)
            have g8 := h8 k (by omega)
            refine C3 k f c0 fr8 ma8 st8 hf8 _ hk hc1 hc2 hfc0 (by rw [g8.1, updN_n (by omega), hfr]) (by rw [g8.2.1, updN_n (by omega), hma]) (by omega) (by rw [g8.2.2.1, updN_n (by omega), updN_s]) (by rw [g8.2.2.2, pk_us, hr9]) rfl (fun fr7 ma7 st7 hf7 h7 => hkk fr7 ma7 st7 hf7 (fun j hj => ?_))
            have g7 := h7 j hj
            have g6 := h8 j (by omega)
            exact ⟨by rw [g7.1, g6.1, updN_n (by omega)], by rw [g7.2.1, g6.2.1, updN_n (by omega)], by rw [g7.2.2.1, g6.2.2.1, updN_n (by omega), updN_n (by omega)], by rw [g7.2.2.2, g6.2.2.2, pk_un (by omega)]⟩
        · exact absurd (hst.symm.trans h87) (by decide)
      · exact absurd hc3 (by omega)
  have A3 : ∀ (k f c0 : Nat) (fr9 ma9 st9 : Nat → Nat) (hf9 : Nat → Int32) (r9 : Int32), k + 3 < 15 → 1 ≤ c0 → c0 ≤ 8 → f + c0 ≤ n → fr9 k = f → ma9 k = c0 → st9 k = 0 → (∀ (fr8 ma8 st8 : Nat → Nat) (hf8 : Nat → Int32), (∀ j, j < k → fr8 j = fr9 j ∧ ma8 j = ma9 j ∧ st8 j = st9 j ∧ hf8 j = hf9 j) → J p l e rmX6_sum s m args below meth c D A 5 0 0 (MQ below (jQc D (fun r0 w0 => ∃ fr' ma' st' hf', r0 = some (.int (tsR va 5 0 n)) ∧ w0 = mW a cI cZ n (nI 0) (nI fc) sp (nI cr) (nI ln) cx (nI jo) (nI wg) sh va (nf C) (nf fw) (nf fz) (nf fh) (nf G) di (nf B) ke (nf dO) (nf fr') (nf ma') (nf st') hf' (nf wa) ra ag) A) args s rmX6_sum.cells rmX6_sum.slots A) (mW a cI cZ n (nI 0) (nI fc) sp (nI cr) (nI ln) cx (nI jo) (nI wg) sh va (nf C) (nf fw) (nf fz) (nf fh) (nf G) di (nf B) ke (nf dO) (nf fr8) (nf ma8) (nf st8) hf8 (nf wa) ra ag) 33 [(1, .int (nI k)), (2, .int (tsR va 3 f c0)), (0, .ref (a 0))] []) → J p l e rmX6_sum s m args below meth c D A 5 0 0 (MQ below (jQc D (fun r0 w0 => ∃ fr' ma' st' hf', r0 = some (.int (tsR va 5 0 n)) ∧ w0 = mW a cI cZ n (nI 0) (nI fc) sp (nI cr) (nI ln) cx (nI jo) (nI wg) sh va (nf C) (nf fw) (nf fz) (nf fh) (nf G) di (nf B) ke (nf dO) (nf fr') (nf ma') (nf st') hf' (nf wa) ra ag) A) args s rmX6_sum.cells rmX6_sum.slots A) (mW a cI cZ n (nI 0) (nI fc) sp (nI cr) (nI ln) cx (nI jo) (nI wg) sh va (nf C) (nf fw) (nf fz) (nf fh) (nf G) di (nf B) ke (nf dO) (nf fr9) (nf ma9) (nf st9) hf9 (nf wa) ra ag) 33 [(1, .int (nI (k + 1))), (2, .int r9), (0, .ref (a 0))] [] := by
    intro k f c0 fr9 ma9 st9 hf9 r9 hk hc1 hc2 hfc0 hfr hma hst hkk
    refine j_iload_n CX 0 dX6_sum_33 rfl rfl ?_
    refine j_ifN_le CX (by first | assumption | omega | exact b2n_lt _ | exact t2n_lt _) 217 dX6_sum_34 (by decide) (fun h34 => ?_) (fun h34 => ?_)
    · exact absurd h34 (by omega)
    · refine j_iload_n CX 0 dX6_sum_37 rfl rfl ?_
      refine j_iconst CX dX6_sum_38 (show _ = (nI 1 : Int32) by decide) ?_
      refine j_isub CX dX6_sum_39 ?_
      refine j_top (show ((nI (k + 1)) - (nI 1)) = nI k from nI_m1 _) ?_
      refine j_istore_n CX (lv' := [(3, .int (nI k)), (1, .int (nI (k + 1))), (2, .int r9), (0, .ref (a 0))]) dX6_sum_40 rfl (by decide) rfl ?_
      refine j_aload_n CX 3 dX6_sum_41 rfl rfl ?_
      refine j_get CX 0 19 dX6_sum_42 rfl rfl hin6 (by decide) hfl51 rfl ?_
      refine j_iload_n CX 0 dX6_sum_45 rfl rfl ?_
      refine j_iald CX 13 k dX6_sum_46 rfl (rfl) (by first | assumption | omega) (by decide) ?_
      refine j_top (show (nI (ma9 k)) = nI c0 from by rw [hma]) ?_
      refine j_iconst CX dX6_sum_47 (show _ = (nI 1 : Int32) by decide) ?_
      refine j_iadd CX dX6_sum_48 ?_
      refine j_top (show (nI c0) + (nI 1) = nI (c0 + 1) from nI_add _ _) ?_
      refine j_iconst CX dX6_sum_49 (show _ = (nI 2 : Int32) by decide) ?_
      refine j_idiv CX dX6_sum_50 (by decide) ?_
      refine j_top (show ((nI (c0 + 1)) / (nI 2)) = nI ((c0 + 1) / 2) from pk_div (by omega) (by decide) (by decide)) ?_
      refine j_istore CX (lv' := [(4, .int (nI ((c0 + 1) / 2))), (3, .int (nI k)), (1, .int (nI (k + 1))), (2, .int r9), (0, .ref (a 0))]) dX6_sum_51 (by decide) rfl ?_
      refine j_aload_n CX 4 dX6_sum_53 rfl rfl ?_
      refine j_get CX 0 19 dX6_sum_54 rfl rfl hin6 (by decide) hfl51 rfl ?_
      refine j_iload_n CX 1 dX6_sum_57 rfl rfl ?_
      refine j_iald CX 13 k dX6_sum_58 rfl (rfl) (by first | assumption | omega) (by decide) ?_
      refine j_top (show (nI (ma9 k)) = nI c0 from by rw [hma]) ?_
      refine j_iconst CX dX6_sum_59 (show _ = (nI 1 : Int32) by decide) ?_
      refine j_icmpN_ne CX (by first | assumption | omega) (by first | assumption | omega | exact b2n_lt _ | exact t2n_lt _) 81 dX6_sum_60 (by decide) (fun h60 => ?_) (fun h60 => ?_)
      · have hstb : st9 k < 2 ^ 31 := by omega
        refine j_aload_n CX 4 dX6_sum_81 rfl rfl ?_
        refine j_get CX 0 20 dX6_sum_82 rfl rfl hin6 (by decide) hfl54 rfl ?_
        refine j_iload_n CX 1 dX6_sum_85 rfl rfl ?_
        refine j_iald CX 14 k dX6_sum_86 rfl (rfl) (by first | assumption | omega) (by decide) ?_
        refine j_ifN_ne CX (by first | assumption | omega | exact b2n_lt _ | exact t2n_lt _) 130 dX6_sum_87 (by decide) (fun h87 => ?_) (fun h87 => ?_)
        · exact absurd hst h87
        · refine j_aload_n CX 4 dX6_sum_90 rfl rfl ?_
          refine j_get CX 0 20 dX6_sum_91 rfl rfl hin6 (by decide) hfl54 rfl ?_
          refine j_iload_n CX 1 dX6_sum_94 rfl rfl ?_
          refine j_iconst CX dX6_sum_95 (show _ = (nI 1 : Int32) by decide) ?_
          refine j_iast CX (w' := mW a cI cZ n (nI 0) (nI fc) sp (nI cr) (nI ln) cx (nI jo) (nI wg) sh va (nf C) (nf fw) (nf fz) (nf fh) (nf G) di (nf B) ke (nf dO) (nf fr9) (nf ma9) (upd (nf st9) k (nI 1)) hf9 (nf wa) ra ag) 14 k dX6_sum_96 rfl (rfl) (by first | assumption | omega) (by decide) rfl ?_
          refine j_w (show mW a cI cZ n (nI 0) (nI fc) sp (nI cr) (nI ln) cx (nI jo) (nI wg) sh va (nf C) (nf fw) (nf fz) (nf fh) (nf G) di (nf B) ke (nf dO) (nf fr9) (nf ma9) (upd (nf st9) k (nI 1)) hf9 (nf wa) ra ag = mW a cI cZ n (nI 0) (nI fc) sp (nI cr) (nI ln) cx (nI jo) (nI wg) sh va (nf C) (nf fw) (nf fz) (nf fh) (nf G) di (nf B) ke (nf dO) (nf fr9) (nf ma9) (nf (updN st9 k 1)) hf9 (nf wa) ra ag by rw [nf_upd]) ?_
          refine j_aload_n CX 4 dX6_sum_97 rfl rfl ?_
          refine j_get CX 0 18 dX6_sum_98 rfl rfl hin6 (by decide) hfl48 rfl ?_
          refine j_iload_n CX 2 dX6_sum_101 rfl rfl ?_
          refine j_aload_n CX 4 dX6_sum_102 rfl rfl ?_
          refine j_get CX 0 18 dX6_sum_103 rfl rfl hin6 (by decide) hfl48 rfl ?_
          refine j_iload_n CX 1 dX6_sum_106 rfl rfl ?_
          refine j_iald CX 12 k dX6_sum_107 rfl (rfl) (by first | assumption | omega) (by decide) ?_
          refine j_top (show (nI (fr9 k)) = nI f from by rw [hfr]) ?_
          refine j_iast CX (w' := mW a cI cZ n (nI 0) (nI fc) sp (nI cr) (nI ln) cx (nI jo) (nI wg) sh va (nf C) (nf fw) (nf fz) (nf fh) (nf G) di (nf B) ke (nf dO) (upd (nf fr9) (k + 1) (nI f)) (nf ma9) (nf (updN st9 k 1)) hf9 (nf wa) ra ag) 12 (k + 1) dX6_sum_108 rfl (rfl) (by first | assumption | omega) (by decide) rfl ?_
          refine j_w (show mW a cI cZ n (nI 0) (nI fc) sp (nI cr) (nI ln) cx (nI jo) (nI wg) sh va (nf C) (nf fw) (nf fz) (nf fh) (nf G) di (nf B) ke (nf dO) (upd (nf fr9) (k + 1) (nI f)) (nf ma9) (nf (updN st9 k 1)) hf9 (nf wa) ra ag = mW a cI cZ n (nI 0) (nI fc) sp (nI cr) (nI ln) cx (nI jo) (nI wg) sh va (nf C) (nf fw) (nf fz) (nf fh) (nf G) di (nf B) ke (nf dO) (nf (updN fr9 (k + 1) f)) (nf ma9) (nf (updN st9 k 1)) hf9 (nf wa) ra ag by rw [nf_upd]) ?_
          refine j_aload_n CX 4 dX6_sum_109 rfl rfl ?_
          refine j_get CX 0 19 dX6_sum_110 rfl rfl hin6 (by decide) hfl51 rfl ?_
          refine j_iload_n CX 2 dX6_sum_113 rfl rfl ?_
          refine j_iload CX 0 dX6_sum_114 rfl ?_
          refine j_iast CX (w' := mW a cI cZ n (nI 0) (nI fc) sp (nI cr) (nI ln) cx (nI jo) (nI wg) sh va (nf C) (nf fw) (nf fz) (nf fh) (nf G) di (nf B) ke (nf dO) (nf (updN fr9 (k + 1) f)) (upd (nf ma9) (k + 1) (nI ((c0 + 1) / 2))) (nf (updN st9 k 1)) hf9 (nf wa) ra ag) 13 (k + 1) dX6_sum_116 rfl (rfl) (by first | assumption | omega) (by decide) rfl ?_
          refine j_w (show mW a cI cZ n (nI 0) (nI fc) sp (nI cr) (nI ln) cx (nI jo) (nI wg) sh va (nf C) (nf fw) (nf fz) (nf fh) (nf G) di (nf B) ke (nf dO) (nf (updN fr9 (k + 1) f)) (upd (nf ma9) (k + 1) (nI ((c0 + 1) / 2))) (nf (updN st9 k 1)) hf9 (nf wa) ra ag = mW a cI cZ n (nI 0) (nI fc) sp (nI cr) (nI ln) cx (nI jo) (nI wg) sh va (nf C) (nf fw) (nf fz) (nf fh) (nf G) di (nf B) ke (nf dO) (nf (updN fr9 (k + 1) f)) (nf (updN ma9 (k + 1) ((c0 + 1) / 2))) (nf (updN st9 k 1)) hf9 (nf wa) ra ag by rw [nf_upd]) ?_
          refine j_aload_n CX 4 dX6_sum_117 rfl rfl ?_
          refine j_get CX 0 20 dX6_sum_118 rfl rfl hin6 (by decide) hfl54 rfl ?_
          refine j_iload_n CX 2 dX6_sum_121 rfl rfl ?_
          refine j_iconst CX dX6_sum_122 (show _ = (nI 0 : Int32) by decide) ?_
          refine j_iast CX (w' := mW a cI cZ n (nI 0) (nI fc) sp (nI cr) (nI ln) cx (nI jo) (nI wg) sh va (nf C) (nf fw) (nf fz) (nf fh) (nf G) di (nf B) ke (nf dO) (nf (updN fr9 (k + 1) f)) (nf (updN ma9 (k + 1) ((c0 + 1) / 2))) (upd (nf (updN st9 k 1)) (k + 1) (nI 0)) hf9 (nf wa) ra ag) 14 (k + 1) dX6_sum_123 rfl (rfl) (by first | assumption | omega) (by decide) rfl ?_
          refine j_w (show mW a cI cZ n (nI 0) (nI fc) sp (nI cr) (nI ln) cx (nI jo) (nI wg) sh va (nf C) (nf fw) (nf fz) (nf fh) (nf G) di (nf B) ke (nf dO) (nf (updN fr9 (k + 1) f)) (nf (updN ma9 (k + 1) ((c0 + 1) / 2))) (upd (nf (updN st9 k 1)) (k + 1) (nI 0)) hf9 (nf wa) ra ag = mW a cI cZ n (nI 0) (nI fc) sp (nI cr) (nI ln) cx (nI jo) (nI wg) sh va (nf C) (nf fw) (nf fz) (nf fh) (nf G) di (nf B) ke (nf dO) (nf (updN fr9 (k + 1) f)) (nf (updN ma9 (k + 1) ((c0 + 1) / 2))) (nf (updN (updN st9 k 1) (k + 1) 0)) hf9 (nf wa) ra ag by rw [nf_upd]) ?_
          refine j_iinc CX (v := nI (k + 1 + 1)) (lv' := [(1, .int (nI (k + 1 + 1))), (4, .int (nI ((c0 + 1) / 2))), (3, .int (nI k)), (2, .int r9), (0, .ref (a 0))]) 2 dX6_sum_124 rfl (nI_1 _) (by decide) rfl ?_
          refine j_goto CX 214 dX6_sum_127 (by decide) ?_
          refine j_goto CX 33 dX6_sum_214 (by decide) ?_
          refine j_lv (lv' := [(1, .int (nI (k + 1 + 1))), (2, .int r9), (0, .ref (a 0))]) [0, 3, 4] rfl ?_
          refine A2 (k + 1) f ((c0 + 1) / 2) _ _ _ _ _ (by omega) (by omega) (by omega) (by omega) (by rw [updN_s]) (by rw [updN_s]) (by rw [updN_s]) (fun fr8 ma8 st8 hf8 h8 => ?_)
          have g8 := h8 k (by omega)
          refine B3 k f c0 fr8 ma8 st8 hf8 _ hk hc1 hc2 hfc0 (by rw [g8.1, updN_n (by omega), hfr]) (by rw [g8.2.1, updN_n (by omega), hma]) (by omega) (by rw [g8.2.2.1, updN_n (by omega), updN_s]) rfl (fun fr7 ma7 st7 hf7 h7 => hkk fr7 ma7 st7 hf7 (fun j hj => ?_))
          have g7 := h7 j hj
          have g6 := h8 j (by omega)
          exact ⟨by rw [g7.1, g6.1, updN_n (by omega)], by rw [g7.2.1, g6.2.1, updN_n (by omega)], by rw [g7.2.2.1, g6.2.2.1, updN_n (by omega), updN_n (by omega)], by rw [g7.2.2.2, g6.2.2.2]⟩
      · refine j_aload_n CX 4 dX6_sum_63 rfl rfl ?_
        refine j_get CX 0 3 dX6_sum_64 rfl rfl hin6 (by decide) hfl13 rfl ?_
        refine j_aload_n CX 4 dX6_sum_67 rfl rfl ?_
        refine j_get CX 0 18 dX6_sum_68 rfl rfl hin6 (by decide) hfl48 rfl ?_
        refine j_iload_n CX 1 dX6_sum_71 rfl rfl ?_
        refine j_iald CX 12 k dX6_sum_72 rfl (rfl) (by first | assumption | omega) (by decide) ?_
        refine j_top (show (nI (fr9 k)) = nI f from by rw [hfr]) ?_
        refine j_iald CX 2 f dX6_sum_73 rfl (rfl) (by first | assumption | omega) (by decide) ?_
        refine j_istore_n CX (lv' := [(2, .int (va f)), (4, .int (nI ((c0 + 1) / 2))), (3, .int (nI k)), (1, .int (nI (k + 1))), (0, .ref (a 0))]) dX6_sum_74 rfl (by decide) rfl ?_
        refine j_lve (lv' := [(2, .int (tsR va 3 f c0)), (4, .int (nI ((c0 + 1) / 2))), (3, .int (nI k)), (1, .int (nI (k + 1))), (0, .ref (a 0))]) (by rw [show tsR va 3 f c0 = va f by show (if _ then _ else _) = _; rw [if_pos (by omega)]]) ?_
        refine j_iinc CX (v := nI k) (lv' := [(1, .int (nI k)), (2, .int (tsR va 3 f c0)), (4, .int (nI ((c0 + 1) / 2))), (3, .int (nI k)), (0, .ref (a 0))]) 3 dX6_sum_75 rfl (by rw [sub_m1]; exact nI_m1 _) (by decide) rfl ?_
        refine j_goto CX 214 dX6_sum_78 (by decide) ?_
        refine j_goto CX 33 dX6_sum_214 (by decide) ?_
        refine j_lv (lv' := [(1, .int (nI k)), (2, .int (tsR va 3 f c0)), (0, .ref (a 0))]) [0, 1, 4] rfl ?_
        exact hkk _ _ _ _ (fun j hj => ⟨rfl, rfl, rfl, rfl⟩)
  have C4 : ∀ (k f c0 : Nat) (fr9 ma9 st9 : Nat → Nat) (hf9 : Nat → Int32) (r9 : Int32), k + 4 < 15 → 1 ≤ c0 → c0 ≤ 16 → f + c0 ≤ n → fr9 k = f → ma9 k = c0 → 1 < c0 → st9 k = 2 → hf9 k = tsR va 3 f ((c0 + 1) / 2) → r9 = tsR va 3 (f + ((c0 + 1) / 2)) (c0 - (c0 + 1) / 2) → (∀ (fr8 ma8 st8 : Nat → Nat) (hf8 : Nat → Int32), (∀ j, j < k → fr8 j = fr9 j ∧ ma8 j = ma9 j ∧ st8 j = st9 j ∧ hf8 j = hf9 j) → J p l e rmX6_sum s m args below meth c D A 5 0 0 (MQ below (jQc D (fun r0 w0 => ∃ fr' ma' st' hf', r0 = some (.int (tsR va 5 0 n)) ∧ w0 = mW a cI cZ n (nI 0) (nI fc) sp (nI cr) (nI ln) cx (nI jo) (nI wg) sh va (nf C) (nf fw) (nf fz) (nf fh) (nf G) di (nf B) ke (nf dO) (nf fr') (nf ma') (nf st') hf' (nf wa) ra ag) A) args s rmX6_sum.cells rmX6_sum.slots A) (mW a cI cZ n (nI 0) (nI fc) sp (nI cr) (nI ln) cx (nI jo) (nI wg) sh va (nf C) (nf fw) (nf fz) (nf fh) (nf G) di (nf B) ke (nf dO) (nf fr8) (nf ma8) (nf st8) hf8 (nf wa) ra ag) 33 [(1, .int (nI k)), (2, .int (tsR va 4 f c0)), (0, .ref (a 0))] []) → J p l e rmX6_sum s m args below meth c D A 5 0 0 (MQ below (jQc D (fun r0 w0 => ∃ fr' ma' st' hf', r0 = some (.int (tsR va 5 0 n)) ∧ w0 = mW a cI cZ n (nI 0) (nI fc) sp (nI cr) (nI ln) cx (nI jo) (nI wg) sh va (nf C) (nf fw) (nf fz) (nf fh) (nf G) di (nf B) ke (nf dO) (nf fr') (nf ma') (nf st') hf' (nf wa) ra ag) A) args s rmX6_sum.cells rmX6_sum.slots A) (mW a cI cZ n (nI 0) (nI fc) sp (nI cr) (nI ln) cx (nI jo) (nI wg) sh va (nf C) (nf fw) (nf fz) (nf fh) (nf G) di (nf B) ke (nf dO) (nf fr9) (nf ma9) (nf st9) hf9 (nf wa) ra ag) 33 [(1, .int (nI (k + 1))), (2, .int r9), (0, .ref (a 0))] [] := by
    intro k f c0 fr9 ma9 st9 hf9 r9 hk hc1 hc2 hfc0 hfr hma hc3 hst hhf hr9 hkk
    refine j_iload_n CX 0 dX6_sum_33 rfl rfl ?_
    refine j_ifN_le CX (by first | assumption | omega | exact b2n_lt _ | exact t2n_lt _) 217 dX6_sum_34 (by decide) (fun h34 => ?_) (fun h34 => ?_)
    · exact absurd h34 (by omega)
    · refine j_iload_n CX 0 dX6_sum_37 rfl rfl ?_
      refine j_iconst CX dX6_sum_38 (show _ = (nI 1 : Int32) by decide) ?_
      refine j_isub CX dX6_sum_39 ?_
      refine j_top (show ((nI (k + 1)) - (nI 1)) = nI k from nI_m1 _) ?_
      refine j_istore_n CX (lv' := [(3, .int (nI k)), (1, .int (nI (k + 1))), (2, .int r9), (0, .ref (a 0))]) dX6_sum_40 rfl (by decide) rfl ?_
      refine j_aload_n CX 3 dX6_sum_41 rfl rfl ?_
      refine j_get CX 0 19 dX6_sum_42 rfl rfl hin6 (by decide) hfl51 rfl ?_
      refine j_iload_n CX 0 dX6_sum_45 rfl rfl ?_
      refine j_iald CX 13 k dX6_sum_46 rfl (rfl) (by first | assumption | omega) (by decide) ?_
      refine j_top (show (nI (ma9 k)) = nI c0 from by rw [hma]) ?_
      refine j_iconst CX dX6_sum_47 (show _ = (nI 1 : Int32) by decide) ?_
      refine j_iadd CX dX6_sum_48 ?_
      refine j_top (show (nI c0) + (nI 1) = nI (c0 + 1) from nI_add _ _) ?_
      refine j_iconst CX dX6_sum_49 (show _ = (nI 2 : Int32) by decide) ?_
      refine j_idiv CX dX6_sum_50 (by decide) ?_
      refine j_top (show ((nI (c0 + 1)) / (nI 2)) = nI ((c0 + 1) / 2) from pk_div (by omega) (by decide) (by decide)) ?_
      refine j_istore CX (lv' := [(4, .int (nI ((c0 + 1) / 2))), (3, .int (nI k)), (1, .int (nI (k + 1))), (2, .int r9), (0, .ref (a 0))]) dX6_sum_51 (by decide) rfl ?_
      refine j_aload_n CX 4 dX6_sum_53 rfl rfl ?_
      refine j_get CX 0 19 dX6_sum_54 rfl rfl hin6 (by decide) hfl51 rfl ?_
      refine j_iload_n CX 1 dX6_sum_57 rfl rfl ?_
      refine j_iald CX 13 k dX6_sum_58 rfl (rfl) (by first | assumption | omega) (by decide) ?_
      refine j_top (show (nI (ma9 k)) = nI c0 from by rw [hma]) ?_
      refine j_iconst CX dX6_sum_59 (show _ = (nI 1 : Int32) by decide) ?_
      refine j_icmpN_ne CX (by first | assumption | omega) (by first | assumption | omega | exact b2n_lt _ | exact t2n_lt _) 81 dX6_sum_60 (by decide) (fun h60 => ?_) (fun h60 => ?_)
      · have hstb : st9 k < 2 ^ 31 := by omega
        refine j_aload_n CX 4 dX6_sum_81 rfl rfl ?_
        refine j_get CX 0 20 dX6_sum_82 rfl rfl hin6 (by decide) hfl54 rfl ?_
        refine j_iload_n CX 1 dX6_sum_85 rfl rfl ?_
        refine j_iald CX 14 k dX6_sum_86 rfl (rfl) (by first | assumption | omega) (by decide) ?_
        refine j_ifN_ne CX (by first | assumption | omega | exact b2n_lt _ | exact t2n_lt _) 130 dX6_sum_87 (by decide) (fun h87 => ?_) (fun h87 => ?_)
        · refine j_aload_n CX 4 dX6_sum_130 rfl rfl ?_
          refine j_get CX 0 20 dX6_sum_131 rfl rfl hin6 (by decide) hfl54 rfl ?_
          refine j_iload_n CX 1 dX6_sum_134 rfl rfl ?_
          refine j_iald CX 14 k dX6_sum_135 rfl (rfl) (by first | assumption | omega) (by decide) ?_
          refine j_iconst CX dX6_sum_136 (show _ = (nI 1 : Int32) by decide) ?_
          refine j_icmpN_ne CX (by first | assumption | omega) (by first | assumption | omega | exact b2n_lt _ | exact t2n_lt _) 197 dX6_sum_137 (by decide) (fun h137 => ?_) (fun h137 => ?_)
          · refine j_aload_n CX 4 dX6_sum_197 rfl rfl ?_
            refine j_get CX 0 21 dX6_sum_198 rfl rfl hin6 (by decide) hfl57 rfl ?_
            refine j_iload_n CX 1 dX6_sum_201 rfl rfl ?_
            refine j_iald CX 15 k dX6_sum_202 rfl (rfl) (by first | assumption | omega) (by decide) ?_
            refine j_i2l CX dX6_sum_203 ?_
            refine j_iload_n CX 3 dX6_sum_204 rfl rfl ?_
            refine j_i2l CX dX6_sum_205 ?_
            refine j_ladd CX dX6_sum_206 ?_
            refine j_callS CX (n := 1) (b := 0) (pre := []) (post := mW a cI cZ n (nI 0) (nI fc) sp (nI cr) (nI ln) cx (nI jo) (nI wg) sh va (nf C) (nf fw) (nf fz) (nf fh) (nf G) di (nf B) ke (nf dO) (nf fr9) (nf ma9) (nf st9) hf9 (nf wa) ra ag) (rest := []) (r_within l D cI cZ cL (((hf9 k).toInt64) + r9.toInt64)) gX6_sum_X6_within rfl (by decide +kernel) ⟨Nat.le_of_ble_eq_true rfl, Nat.le_of_ble_eq_true rfl⟩ rfl rfl rfl (Nat.le_of_ble_eq_true rfl) dX6_sum_207 ⟨Nat.le_refl _, Nat.le_refl _⟩ (fun r9 w9 h9 => ?_)
            obtain ⟨rfl, rfl⟩ := h9
            refine j_w (w' := mW a cI cZ n (nI 0) (nI fc) sp (nI cr) (nI ln) cx (nI jo) (nI wg) sh va (nf C) (nf fw) (nf fz) (nf fh) (nf G) di (nf B) ke (nf dO) (nf fr9) (nf ma9) (nf st9) hf9 (nf wa) ra ag) rfl ?_
            refine j_st (st9 := [.int (kept (((hf9 k).toInt64) + r9.toInt64))]) rfl ?_
            refine j_istore_n CX (lv' := [(2, .int (kept (((hf9 k).toInt64) + r9.toInt64))), (4, .int (nI ((c0 + 1) / 2))), (3, .int (nI k)), (1, .int (nI (k + 1))), (0, .ref (a 0))]) dX6_sum_210 rfl (by decide) rfl ?_
            refine j_lve (lv' := [(2, .int (tsR va 4 f c0)), (4, .int (nI ((c0 + 1) / 2))), (3, .int (nI k)), (1, .int (nI (k + 1))), (0, .ref (a 0))]) (by rw [show tsR va 4 f c0 = kept (((hf9 k).toInt64) + r9.toInt64) by rw [hhf, hr9]; show (if _ then _ else _) = _; rw [if_neg (by omega)]]) ?_
            refine j_iinc CX (v := nI k) (lv' := [(1, .int (nI k)), (2, .int (tsR va 4 f c0)), (4, .int (nI ((c0 + 1) / 2))), (3, .int (nI k)), (0, .ref (a 0))]) 3 dX6_sum_211 rfl (by rw [sub_m1]; exact nI_m1 _) (by decide) rfl ?_
            refine j_goto CX 33 dX6_sum_214 (by decide) ?_
            refine j_lv (lv' := [(1, .int (nI k)), (2, .int (tsR va 4 f c0)), (0, .ref (a 0))]) [0, 1, 4] rfl ?_
            exact hkk _ _ _ _ (fun j hj => ⟨rfl, rfl, rfl, rfl⟩)
          · exact absurd (hst.symm.trans h137) (by decide)
        · exact absurd (hst.symm.trans h87) (by decide)
      · exact absurd hc3 (by omega)
  have B4 : ∀ (k f c0 : Nat) (fr9 ma9 st9 : Nat → Nat) (hf9 : Nat → Int32) (r9 : Int32), k + 4 < 15 → 1 ≤ c0 → c0 ≤ 16 → f + c0 ≤ n → fr9 k = f → ma9 k = c0 → 1 < c0 → st9 k = 1 → r9 = tsR va 3 f ((c0 + 1) / 2) → (∀ (fr8 ma8 st8 : Nat → Nat) (hf8 : Nat → Int32), (∀ j, j < k → fr8 j = fr9 j ∧ ma8 j = ma9 j ∧ st8 j = st9 j ∧ hf8 j = hf9 j) → J p l e rmX6_sum s m args below meth c D A 5 0 0 (MQ below (jQc D (fun r0 w0 => ∃ fr' ma' st' hf', r0 = some (.int (tsR va 5 0 n)) ∧ w0 = mW a cI cZ n (nI 0) (nI fc) sp (nI cr) (nI ln) cx (nI jo) (nI wg) sh va (nf C) (nf fw) (nf fz) (nf fh) (nf G) di (nf B) ke (nf dO) (nf fr') (nf ma') (nf st') hf' (nf wa) ra ag) A) args s rmX6_sum.cells rmX6_sum.slots A) (mW a cI cZ n (nI 0) (nI fc) sp (nI cr) (nI ln) cx (nI jo) (nI wg) sh va (nf C) (nf fw) (nf fz) (nf fh) (nf G) di (nf B) ke (nf dO) (nf fr8) (nf ma8) (nf st8) hf8 (nf wa) ra ag) 33 [(1, .int (nI k)), (2, .int (tsR va 4 f c0)), (0, .ref (a 0))] []) → J p l e rmX6_sum s m args below meth c D A 5 0 0 (MQ below (jQc D (fun r0 w0 => ∃ fr' ma' st' hf', r0 = some (.int (tsR va 5 0 n)) ∧ w0 = mW a cI cZ n (nI 0) (nI fc) sp (nI cr) (nI ln) cx (nI jo) (nI wg) sh va (nf C) (nf fw) (nf fz) (nf fh) (nf G) di (nf B) ke (nf dO) (nf fr') (nf ma') (nf st') hf' (nf wa) ra ag) A) args s rmX6_sum.cells rmX6_sum.slots A) (mW a cI cZ n (nI 0) (nI fc) sp (nI cr) (nI ln) cx (nI jo) (nI wg) sh va (nf C) (nf fw) (nf fz) (nf fh) (nf G) di (nf B) ke (nf dO) (nf fr9) (nf ma9) (nf st9) hf9 (nf wa) ra ag) 33 [(1, .int (nI (k + 1))), (2, .int r9), (0, .ref (a 0))] [] := by
    intro k f c0 fr9 ma9 st9 hf9 r9 hk hc1 hc2 hfc0 hfr hma hc3 hst hr9 hkk
    refine j_iload_n CX 0 dX6_sum_33 rfl rfl ?_
    refine j_ifN_le CX (by first | assumption | omega | exact b2n_lt _ | exact t2n_lt _) 217 dX6_sum_34 (by decide) (fun h34 => ?_) (fun h34 => ?_)
    · exact absurd h34 (by omega)
    · refine j_iload_n CX 0 dX6_sum_37 rfl rfl ?_
      refine j_iconst CX dX6_sum_38 (show _ = (nI 1 : Int32) by decide) ?_
      refine j_isub CX dX6_sum_39 ?_
      refine j_top (show ((nI (k + 1)) - (nI 1)) = nI k from nI_m1 _) ?_
      refine j_istore_n CX (lv' := [(3, .int (nI k)), (1, .int (nI (k + 1))), (2, .int r9), (0, .ref (a 0))]) dX6_sum_40 rfl (by decide) rfl ?_
      refine j_aload_n CX 3 dX6_sum_41 rfl rfl ?_
      refine j_get CX 0 19 dX6_sum_42 rfl rfl hin6 (by decide) hfl51 rfl ?_
      refine j_iload_n CX 0 dX6_sum_45 rfl rfl ?_
      refine j_iald CX 13 k dX6_sum_46 rfl (rfl) (by first | assumption | omega) (by decide) ?_
      refine j_top (show (nI (ma9 k)) = nI c0 from by rw [hma]) ?_
      refine j_iconst CX dX6_sum_47 (show _ = (nI 1 : Int32) by decide) ?_
      refine j_iadd CX dX6_sum_48 ?_
      refine j_top (show (nI c0) + (nI 1) = nI (c0 + 1) from nI_add _ _) ?_
      refine j_iconst CX dX6_sum_49 (show _ = (nI 2 : Int32) by decide) ?_
      refine j_idiv CX dX6_sum_50 (by decide) ?_
      refine j_top (show ((nI (c0 + 1)) / (nI 2)) = nI ((c0 + 1) / 2) from pk_div (by omega) (by decide) (by decide)) ?_
      refine j_istore CX (lv' := [(4, .int (nI ((c0 + 1) / 2))), (3, .int (nI k)), (1, .int (nI (k + 1))), (2, .int r9), (0, .ref (a 0))]) dX6_sum_51 (by decide) rfl ?_
      refine j_aload_n CX 4 dX6_sum_53 rfl rfl ?_
      refine j_get CX 0 19 dX6_sum_54 rfl rfl hin6 (by decide) hfl51 rfl ?_
      refine j_iload_n CX 1 dX6_sum_57 rfl rfl ?_
      refine j_iald CX 13 k dX6_sum_58 rfl (rfl) (by first | assumption | omega) (by decide) ?_
      refine j_top (show (nI (ma9 k)) = nI c0 from by rw [hma]) ?_
      refine j_iconst CX dX6_sum_59 (show _ = (nI 1 : Int32) by decide) ?_
      refine j_icmpN_ne CX (by first | assumption | omega) (by first | assumption | omega | exact b2n_lt _ | exact t2n_lt _) 81 dX6_sum_60 (by decide) (fun h60 => ?_) (fun h60 => ?_)
      · have hstb : st9 k < 2 ^ 31 := by omega
        refine j_aload_n CX 4 dX6_sum_81 rfl rfl ?_
        refine j_get CX 0 20 dX6_sum_82 rfl rfl hin6 (by decide) hfl54 rfl ?_
        refine j_iload_n CX 1 dX6_sum_85 rfl rfl ?_
        refine j_iald CX 14 k dX6_sum_86 rfl (rfl) (by first | assumption | omega) (by decide) ?_
        refine j_ifN_ne CX (by first | assumption | omega | exact b2n_lt _ | exact t2n_lt _) 130 dX6_sum_87 (by decide) (fun h87 => ?_) (fun h87 => ?_)
        · refine j_aload_n CX 4 dX6_sum_130 rfl rfl ?_
          refine j_get CX 0 20 dX6_sum_131 rfl rfl hin6 (by decide) hfl54 rfl ?_
          refine j_iload_n CX 1 dX6_sum_134 rfl rfl ?_
          refine j_iald CX 14 k dX6_sum_135 rfl (rfl) (by first | assumption | omega) (by decide) ?_
          refine j_iconst CX dX6_sum_136 (show _ = (nI 1 : Int32) by decide) ?_
          refine j_icmpN_ne CX (by first | assumption | omega) (by first | assumption | omega | exact b2n_lt _ | exact t2n_lt _) 197 dX6_sum_137 (by decide) (fun h137 => ?_) (fun h137 => ?_)
          · exact absurd hst h137
          · refine j_aload_n CX 4 dX6_sum_140 rfl rfl ?_
            refine j_get CX 0 21 dX6_sum_141 rfl rfl hin6 (by decide) hfl57 rfl ?_
            refine j_iload_n CX 1 dX6_sum_144 rfl rfl ?_
            refine j_iload_n CX 3 dX6_sum_145 rfl rfl ?_
            refine j_iast CX (w' := mW a cI cZ n (nI 0) (nI fc) sp (nI cr) (nI ln) cx (nI jo) (nI wg) sh va (nf C) (nf fw) (nf fz) (nf fh) (nf G) di (nf B) ke (nf dO) (nf fr9) (nf ma9) (nf st9) (upd hf9 k r9) (nf wa) ra ag) 15 k dX6_sum_146 rfl (rfl) (by first | assumption | omega) (by decide) rfl ?_
            refine j_aload_n CX 4 dX6_sum_147 rfl rfl ?_
            refine j_get CX 0 20 dX6_sum_148 rfl rfl hin6 (by decide) hfl54 rfl ?_
            refine j_iload_n CX 1 dX6_sum_151 rfl rfl ?_
            refine j_iconst CX dX6_sum_152 (show _ = (nI 2 : Int32) by decide) ?_
            refine j_iast CX (w' := mW a cI cZ n (nI 0) (nI fc) sp (nI cr) (nI ln) cx (nI jo) (nI wg) sh va (nf C) (nf fw) (nf fz) (nf fh) (nf G) di (nf B) ke (nf dO) (nf fr9) (nf ma9) (upd (nf st9) k (nI 2)) (upd hf9 k r9) (nf wa) ra ag) 14 k dX6_sum_153 rfl (rfl) (by first | assumption | omega) (by decide) rfl ?_
            refine j_w (show mW a cI cZ n (nI 0) (nI fc) sp (nI cr) (nI ln) cx (nI jo) (nI wg) sh va (nf C) (nf fw) (nf fz) (nf fh) (nf G) di (nf B) ke (nf dO) (nf fr9) (nf ma9) (upd (nf st9) k (nI 2)) (upd hf9 k r9) (nf wa) ra ag = mW a cI cZ n (nI 0) (nI fc) sp (nI cr) (nI ln) cx (nI jo) (nI wg) sh va (nf C) (nf fw) (nf fz) (nf fh) (nf G) di (nf B) ke (nf dO) (nf fr9) (nf ma9) (nf (updN st9 k 2)) (upd hf9 k r9) (nf wa) ra ag by rw [nf_upd]) ?_
            refine j_aload_n CX 4 dX6_sum_154 rfl rfl ?_
            refine j_get CX 0 18 dX6_sum_155 rfl rfl hin6 (by decide) hfl48 rfl ?_
            refine j_iload_n CX 2 dX6_sum_158 rfl rfl ?_
            refine j_aload_n CX 4 dX6_sum_159 rfl rfl ?_
            refine j_get CX 0 18 dX6_sum_160 rfl rfl hin6 (by decide) hfl48 rfl ?_
            refine j_iload_n CX 1 dX6_sum_163 rfl rfl ?_
            refine j_iald CX 12 k dX6_sum_164 rfl (rfl) (by first | assumption | omega) (by decide) ?_
            refine j_top (show (nI (fr9 k)) = nI f from by rw [hfr]) ?_
            refine j_iload CX 0 dX6_sum_165 rfl ?_
            refine j_iadd CX dX6_sum_167 ?_
            refine j_top (show (nI f) + (nI ((c0 + 1) / 2)) = nI (f + ((c0 + 1) / 2)) from nI_add _ _) ?_
            refine j_iast CX (w' := mW a cI cZ n (nI 0) (nI fc) sp (nI cr) (nI ln) cx (nI jo) (nI wg) sh va (nf C) (nf fw) (nf fz) (nf fh) (nf G) di (nf B) ke (nf dO) (upd (nf fr9) (k + 1) (nI (f + ((c0 + 1) / 2)))) (nf ma9) (nf (updN st9 k 2)) (upd hf9 k r9) (nf wa) ra ag) 12 (k + 1) dX6_sum_168 rfl (rfl) (by first | assumption | omega) (by decide) rfl ?_
            refine j_w (show mW a cI cZ n (nI 0) (nI fc) sp (nI cr) (nI ln) cx (nI jo) (nI wg) sh va (nf C) (nf fw) (nf fz) (nf fh) (nf G) di (nf B) ke (nf dO) (upd (nf fr9) (k + 1) (nI (f + ((c0 + 1) / 2)))) (nf ma9) (nf (updN st9 k 2)) (upd hf9 k r9) (nf wa) ra ag = mW a cI cZ n (nI 0) (nI fc) sp (nI cr) (nI ln) cx (nI jo) (nI wg) sh va (nf C) (nf fw) (nf fz) (nf fh) (nf G) di (nf B) ke (nf dO) (nf (updN fr9 (k + 1) (f + ((c0 + 1) / 2)))) (nf ma9) (nf (updN st9 k 2)) (upd hf9 k r9) (nf wa) ra ag by rw [nf_upd]) ?_
            refine j_aload_n CX 4 dX6_sum_169 rfl rfl ?_
            refine j_get CX 0 19 dX6_sum_170 rfl rfl hin6 (by decide) hfl51 rfl ?_
            refine j_iload_n CX 2 dX6_sum_173 rfl rfl ?_
            refine j_aload_n CX 4 dX6_sum_174 rfl rfl ?_
            refine j_get CX 0 19 dX6_sum_175 rfl rfl hin6 (by decide) hfl51 rfl ?_
            refine j_iload_n CX 1 dX6_sum_178 rfl rfl ?_
            refine j_iald CX 13 k dX6_sum_179 rfl (rfl) (by first | assumption | omega) (by decide) ?_
            refine j_top (show (nI (ma9 k)) = nI c0 from by rw [hma]) ?_
            refine j_iload CX 0 dX6_sum_180 rfl ?_
            refine j_isub CX dX6_sum_182 ?_
            refine j_top (show ((nI c0) - (nI ((c0 + 1) / 2))) = nI (c0 - (c0 + 1) / 2) from pk_sub (by omega)) ?_
            refine j_iast CX (w' := mW a cI cZ n (nI 0) (nI fc) sp (nI cr) (nI ln) cx (nI jo) (nI wg) sh va (nf C) (nf fw) (nf fz) (nf fh) (nf G) di (nf B) ke (nf dO) (nf (updN fr9 (k + 1) (f + ((c0 + 1) / 2)))) (upd (nf ma9) (k + 1) (nI (c0 - (c0 + 1) / 2))) (nf (updN st9 k 2)) (upd hf9 k r9) (nf wa) ra ag) 13 (k + 1) dX6_sum_183 rfl (rfl) (by first | assumption | omega) (by decide) rfl ?_
            refine j_w (show mW a cI cZ n (nI 0) (nI fc) sp (nI cr) (nI ln) cx (nI jo) (nI wg) sh va (nf C) (nf fw) (nf fz) (nf fh) (nf G) di (nf B) ke (nf dO) (nf (updN fr9 (k + 1) (f + ((c0 + 1) / 2)))) (upd (nf ma9) (k + 1) (nI (c0 - (c0 + 1) / 2))) (nf (updN st9 k 2)) (upd hf9 k r9) (nf wa) ra ag = mW a cI cZ n (nI 0) (nI fc) sp (nI cr) (nI ln) cx (nI jo) (nI wg) sh va (nf C) (nf fw) (nf fz) (nf fh) (nf G) di (nf B) ke (nf dO) (nf (updN fr9 (k + 1) (f + ((c0 + 1) / 2)))) (nf (updN ma9 (k + 1) (c0 - (c0 + 1) / 2))) (nf (updN st9 k 2)) (upd hf9 k r9) (nf wa) ra ag by rw [nf_upd]) ?_
            refine j_aload_n CX 4 dX6_sum_184 rfl rfl ?_
            refine j_get CX 0 20 dX6_sum_185 rfl rfl hin6 (by decide) hfl54 rfl ?_
            refine j_iload_n CX 2 dX6_sum_188 rfl rfl ?_
            refine j_iconst CX dX6_sum_189 (show _ = (nI 0 : Int32) by decide) ?_
            refine j_iast CX (w' := mW a cI cZ n (nI 0) (nI fc) sp (nI cr) (nI ln) cx (nI jo) (nI wg) sh va (nf C) (nf fw) (nf fz) (nf fh) (nf G) di (nf B) ke (nf dO) (nf (updN fr9 (k + 1) (f + ((c0 + 1) / 2)))) (nf (updN ma9 (k + 1) (c0 - (c0 + 1) / 2))) (upd (nf (updN st9 k 2)) (k + 1) (nI 0)) (upd hf9 k r9) (nf wa) ra ag) 14 (k + 1) dX6_sum_190 rfl (rfl) (by first | assumption | omega) (by decide) rfl ?_
            refine j_w (show mW a cI cZ n (nI 0) (nI fc) sp (nI cr) (nI ln) cx (nI jo) (nI wg) sh va (nf C) (nf fw) (nf fz) (nf fh) (nf G) di (nf B) ke (nf dO) (nf (updN fr9 (k + 1) (f + ((c0 + 1) / 2)))) (nf (updN ma9 (k + 1) (c0 - (c0 + 1) / 2))) (upd (nf (updN st9 k 2)) (k + 1) (nI 0)) (upd hf9 k r9) (nf wa) ra ag = mW a cI cZ n (nI 0) (nI fc) sp (nI cr) (nI ln) cx (nI jo) (nI wg) sh va (nf C) (nf fw) (nf fz) (nf fh) (nf G) di (nf B) ke (nf dO) (nf (updN fr9 (k + 1) (f + ((c0 + 1) / 2)))) (nf (updN ma9 (k + 1) (c0 - (c0 + 1) / 2))) (nf (updN (updN st9 k 2) (k + 1) 0)) (upd hf9 k r9) (nf wa) ra ag by rw [nf_upd]) ?_
            refine j_iinc CX (v := nI (k + 1 + 1)) (lv' := [(1, .int (nI (k + 1 + 1))), (4, .int (nI ((c0 + 1) / 2))), (3, .int (nI k)), (2, .int r9), (0, .ref (a 0))]) 2 dX6_sum_191 rfl (nI_1 _) (by decide) rfl ?_
            refine j_goto CX 214 dX6_sum_194 (by decide) ?_
            refine j_goto CX 33 dX6_sum_214 (by decide) ?_
            refine j_lv (lv' := [(1, .int (nI (k + 1 + 1))), (2, .int r9), (0, .ref (a 0))]) [0, 3, 4] rfl ?_
            refine A3 (k + 1) (f + (c0 + 1) / 2) (c0 - (c0 + 1) / 2) _ _ _ _ _ (by omega) (by omega) (by omega) (by omega) (by rw [updN_s]) (by rw [updN_s]) (by rw [updN_s]) (fun fr8 ma8 st8 hf8 h8 => ?_)
            have g8 := h8 k (by omega)
            refine C4 k f c0 fr8 ma8 st8 hf8 _ hk hc1 hc2 hfc0 (by rw [g8.1, updN_n (by omega), hfr]) (by rw [g8.2.1, updN_n (by omega), hma]) (by omega) (by rw [g8.2.2.1, updN_n (by omega), updN_s]) (by rw [g8.2.2.2, pk_us, hr9]) rfl (fun fr7 ma7 st7 hf7 h7 => hkk fr7 ma7 st7 hf7 (fun j hj => ?_))
            have g7 := h7 j hj
            have g6 := h8 j (by omega)
            exact ⟨by rw [g7.1, g6.1, updN_n (by omega)], by rw [g7.2.1, g6.2.1, updN_n (by omega)], by rw [g7.2.2.1, g6.2.2.1, updN_n (by omega), updN_n (by omega)], by rw [g7.2.2.2, g6.2.2.2, pk_un (by omega)]⟩
        · exact absurd (hst.symm.trans h87) (by decide)
      · exact absurd hc3 (by omega)
  have A4 : ∀ (k f c0 : Nat) (fr9 ma9 st9 : Nat → Nat) (hf9 : Nat → Int32) (r9 : Int32), k + 4 < 15 → 1 ≤ c0 → c0 ≤ 16 → f + c0 ≤ n → fr9 k = f → ma9 k = c0 → st9 k = 0 → (∀ (fr8 ma8 st8 : Nat → Nat) (hf8 : Nat → Int32), (∀ j, j < k → fr8 j = fr9 j ∧ ma8 j = ma9 j ∧ st8 j = st9 j ∧ hf8 j = hf9 j) → J p l e rmX6_sum s m args below meth c D A 5 0 0 (MQ below (jQc D (fun r0 w0 => ∃ fr' ma' st' hf', r0 = some (.int (tsR va 5 0 n)) ∧ w0 = mW a cI cZ n (nI 0) (nI fc) sp (nI cr) (nI ln) cx (nI jo) (nI wg) sh va (nf C) (nf fw) (nf fz) (nf fh) (nf G) di (nf B) ke (nf dO) (nf fr') (nf ma') (nf st') hf' (nf wa) ra ag) A) args s rmX6_sum.cells rmX6_sum.slots A) (mW a cI cZ n (nI 0) (nI fc) sp (nI cr) (nI ln) cx (nI jo) (nI wg) sh va (nf C) (nf fw) (nf fz) (nf fh) (nf G) di (nf B) ke (nf dO) (nf fr8) (nf ma8) (nf st8) hf8 (nf wa) ra ag) 33 [(1, .int (nI k)), (2, .int (tsR va 4 f c0)), (0, .ref (a 0))] []) → J p l e rmX6_sum s m args below meth c D A 5 0 0 (MQ below (jQc D (fun r0 w0 => ∃ fr' ma' st' hf', r0 = some (.int (tsR va 5 0 n)) ∧ w0 = mW a cI cZ n (nI 0) (nI fc) sp (nI cr) (nI ln) cx (nI jo) (nI wg) sh va (nf C) (nf fw) (nf fz) (nf fh) (nf G) di (nf B) ke (nf dO) (nf fr') (nf ma') (nf st') hf' (nf wa) ra ag) A) args s rmX6_sum.cells rmX6_sum.slots A) (mW a cI cZ n (nI 0) (nI fc) sp (nI cr) (nI ln) cx (nI jo) (nI wg) sh va (nf C) (nf fw) (nf fz) (nf fh) (nf G) di (nf B) ke (nf dO) (nf fr9) (nf ma9) (nf st9) hf9 (nf wa) ra ag) 33 [(1, .int (nI (k + 1))), (2, .int r9), (0, .ref (a 0))] [] := by
    intro k f c0 fr9 ma9 st9 hf9 r9 hk hc1 hc2 hfc0 hfr hma hst hkk
    refine j_iload_n CX 0 dX6_sum_33 rfl rfl ?_
    refine j_ifN_le CX (by first | assumption | omega | exact b2n_lt _ | exact t2n_lt _) 217 dX6_sum_34 (by decide) (fun h34 => ?_) (fun h34 => ?_)
    · exact absurd h34 (by omega)
    · refine j_iload_n CX 0 dX6_sum_37 rfl rfl ?_
      refine j_iconst CX dX6_sum_38 (show _ = (nI 1 : Int32) by decide) ?_
      refine j_isub CX dX6_sum_39 ?_
      refine j_top (show ((nI (k + 1)) - (nI 1)) = nI k from nI_m1 _) ?_
      refine j_istore_n CX (lv' := [(3, .int (nI k)), (1, .int (nI (k + 1))), (2, .int r9), (0, .ref (a 0))]) dX6_sum_40 rfl (by decide) rfl ?_
      refine j_aload_n CX 3 dX6_sum_41 rfl rfl ?_
      refine j_get CX 0 19 dX6_sum_42 rfl rfl hin6 (by decide) hfl51 rfl ?_
      refine j_iload_n CX 0 dX6_sum_45 rfl rfl ?_
      refine j_iald CX 13 k dX6_sum_46 rfl (rfl) (by first | assumption | omega) (by decide) ?_
      refine j_top (show (nI (ma9 k)) = nI c0 from by rw [hma]) ?_
      refine j_iconst CX dX6_sum_47 (show _ = (nI 1 : Int32) by decide) ?_
      refine j_iadd CX dX6_sum_48 ?_
      refine j_top (show (nI c0) + (nI 1) = nI (c0 + 1) from nI_add _ _) ?_
      refine j_iconst CX dX6_sum_49 (show _ = (nI 2 : Int32) by decide) ?_
      refine j_idiv CX dX6_sum_50 (by decide) ?_
      refine j_top (show ((nI (c0 + 1)) / (nI 2)) = nI ((c0 + 1) / 2) from pk_div (by omega) (by decide) (by decide)) ?_
      refine j_istore CX (lv' := [(4, .int (nI ((c0 + 1) / 2))), (3, .int (nI k)), (1, .int (nI (k + 1))), (2, .int r9), (0, .ref (a 0))]) dX6_sum_51 (by decide) rfl ?_
      refine j_aload_n CX 4 dX6_sum_53 rfl rfl ?_
      refine j_get CX 0 19 dX6_sum_54 rfl rfl hin6 (by decide) hfl51 rfl ?_
      refine j_iload_n CX 1 dX6_sum_57 rfl rfl ?_
      refine j_iald CX 13 k dX6_sum_58 rfl (rfl) (by first | assumption | omega) (by decide) ?_
      refine j_top (show (nI (ma9 k)) = nI c0 from by rw [hma]) ?_
      refine j_iconst CX dX6_sum_59 (show _ = (nI 1 : Int32) by decide) ?_
      refine j_icmpN_ne CX (by first | assumption | omega) (by first | assumption | omega | exact b2n_lt _ | exact t2n_lt _) 81 dX6_sum_60 (by decide) (fun h60 => ?_) (fun h60 => ?_)
      · have hstb : st9 k < 2 ^ 31 := by omega
        refine j_aload_n CX 4 dX6_sum_81 rfl rfl ?_
        refine j_get CX 0 20 dX6_sum_82 rfl rfl hin6 (by decide) hfl54 rfl ?_
        refine j_iload_n CX 1 dX6_sum_85 rfl rfl ?_
        refine j_iald CX 14 k dX6_sum_86 rfl (rfl) (by first | assumption | omega) (by decide) ?_
        refine j_ifN_ne CX (by first | assumption | omega | exact b2n_lt _ | exact t2n_lt _) 130 dX6_sum_87 (by decide) (fun h87 => ?_) (fun h87 => ?_)
        · exact absurd hst h87
        · refine j_aload_n CX 4 dX6_sum_90 rfl rfl ?_
          refine j_get CX 0 20 dX6_sum_91 rfl rfl hin6 (by decide) hfl54 rfl ?_
          refine j_iload_n CX 1 dX6_sum_94 rfl rfl ?_
          refine j_iconst CX dX6_sum_95 (show _ = (nI 1 : Int32) by decide) ?_
          refine j_iast CX (w' := mW a cI cZ n (nI 0) (nI fc) sp (nI cr) (nI ln) cx (nI jo) (nI wg) sh va (nf C) (nf fw) (nf fz) (nf fh) (nf G) di (nf B) ke (nf dO) (nf fr9) (nf ma9) (upd (nf st9) k (nI 1)) hf9 (nf wa) ra ag) 14 k dX6_sum_96 rfl (rfl) (by first | assumption | omega) (by decide) rfl ?_
          refine j_w (show mW a cI cZ n (nI 0) (nI fc) sp (nI cr) (nI ln) cx (nI jo) (nI wg) sh va (nf C) (nf fw) (nf fz) (nf fh) (nf G) di (nf B) ke (nf dO) (nf fr9) (nf ma9) (upd (nf st9) k (nI 1)) hf9 (nf wa) ra ag = mW a cI cZ n (nI 0) (nI fc) sp (nI cr) (nI ln) cx (nI jo) (nI wg) sh va (nf C) (nf fw) (nf fz) (nf fh) (nf G) di (nf B) ke (nf dO) (nf fr9) (nf ma9) (nf (updN st9 k 1)) hf9 (nf wa) ra ag by rw [nf_upd]) ?_
          refine j_aload_n CX 4 dX6_sum_97 rfl rfl ?_
          refine j_get CX 0 18 dX6_sum_98 rfl rfl hin6 (by decide) hfl48 rfl ?_
          refine j_iload_n CX 2 dX6_sum_101 rfl rfl ?_
          refine j_aload_n CX 4 dX6_sum_102 rfl rfl ?_
          refine j_get CX 0 18 dX6_sum_103 rfl rfl hin6 (by decide) hfl48 rfl ?_
          refine j_iload_n CX 1 dX6_sum_106 rfl rfl ?_
          refine j_iald CX 12 k dX6_sum_107 rfl (rfl) (by first | assumption | omega) (by decide) ?_
          refine j_top (show (nI (fr9 k)) = nI f from by rw [hfr]) ?_
          refine j_iast CX (w' := mW a cI cZ n (nI 0) (nI fc) sp (nI cr) (nI ln) cx (nI jo) (nI wg) sh va (nf C) (nf fw) (nf fz) (nf fh) (nf G) di (nf B) ke (nf dO) (upd (nf fr9) (k + 1) (nI f)) (nf ma9) (nf (updN st9 k 1)) hf9 (nf wa) ra ag) 12 (k + 1) dX6_sum_108 rfl (rfl) (by first | assumption | omega) (by decide) rfl ?_
          refine j_w (show mW a cI cZ n (nI 0) (nI fc) sp (nI cr) (nI ln) cx (nI jo) (nI wg) sh va (nf C) (nf fw) (nf fz) (nf fh) (nf G) di (nf B) ke (nf dO) (upd (nf fr9) (k + 1) (nI f)) (nf ma9) (nf (updN st9 k 1)) hf9 (nf wa) ra ag = mW a cI cZ n (nI 0) (nI fc) sp (nI cr) (nI ln) cx (nI jo) (nI wg) sh va (nf C) (nf fw) (nf fz) (nf fh) (nf G) di (nf B) ke (nf dO) (nf (updN fr9 (k + 1) f)) (nf ma9) (nf (updN st9 k 1)) hf9 (nf wa) ra ag by rw [nf_upd]) ?_
          refine j_aload_n CX 4 dX6_sum_109 rfl rfl ?_
          refine j_get CX 0 19 dX6_sum_110 rfl rfl hin6 (by decide) hfl51 rfl ?_
          refine j_iload_n CX 2 dX6_sum_113 rfl rfl ?_
          refine j_iload CX 0 dX6_sum_114 rfl ?_
          refine j_iast CX (w' := mW a cI cZ n (nI 0) (nI fc) sp (nI cr) (nI ln) cx (nI jo) (nI wg) sh va (nf C) (nf fw) (nf fz) (nf fh) (nf G) di (nf B) ke (nf dO) (nf (updN fr9 (k + 1) f)) (upd (nf ma9) (k + 1) (nI ((c0 + 1) / 2))) (nf (updN st9 k 1)) hf9 (nf wa) ra ag) 13 (k + 1) dX6_sum_116 rfl (rfl) (by first | assumption | omega) (by decide) rfl ?_
          refine j_w (show mW a cI cZ n (nI 0) (nI fc) sp (nI cr) (nI ln) cx (nI jo) (nI wg) sh va (nf C) (nf fw) (nf fz) (nf fh) (nf G) di (nf B) ke (nf dO) (nf (updN fr9 (k + 1) f)) (upd (nf ma9) (k + 1) (nI ((c0 + 1) / 2))) (nf (updN st9 k 1)) hf9 (nf wa) ra ag = mW a cI cZ n (nI 0) (nI fc) sp (nI cr) (nI ln) cx (nI jo) (nI wg) sh va (nf C) (nf fw) (nf fz) (nf fh) (nf G) di (nf B) ke (nf dO) (nf (updN fr9 (k + 1) f)) (nf (updN ma9 (k + 1) ((c0 + 1) / 2))) (nf (updN st9 k 1)) hf9 (nf wa) ra ag by rw [nf_upd]) ?_
          refine j_aload_n CX 4 dX6_sum_117 rfl rfl ?_
          refine j_get CX 0 20 dX6_sum_118 rfl rfl hin6 (by decide) hfl54 rfl ?_
          refine j_iload_n CX 2 dX6_sum_121 rfl rfl ?_
          refine j_iconst CX dX6_sum_122 (show _ = (nI 0 : Int32) by decide) ?_
          refine j_iast CX (w' := mW a cI cZ n (nI 0) (nI fc) sp (nI cr) (nI ln) cx (nI jo) (nI wg) sh va (nf C) (nf fw) (nf fz) (nf fh) (nf G) di (nf B) ke (nf dO) (nf (updN fr9 (k + 1) f)) (nf (updN ma9 (k + 1) ((c0 + 1) / 2))) (upd (nf (updN st9 k 1)) (k + 1) (nI 0)) hf9 (nf wa) ra ag) 14 (k + 1) dX6_sum_123 rfl (rfl) (by first | assumption | omega) (by decide) rfl ?_
          refine j_w (show mW a cI cZ n (nI 0) (nI fc) sp (nI cr) (nI ln) cx (nI jo) (nI wg) sh va (nf C) (nf fw) (nf fz) (nf fh) (nf G) di (nf B) ke (nf dO) (nf (updN fr9 (k + 1) f)) (nf (updN ma9 (k + 1) ((c0 + 1) / 2))) (upd (nf (updN st9 k 1)) (k + 1) (nI 0)) hf9 (nf wa) ra ag = mW a cI cZ n (nI 0) (nI fc) sp (nI cr) (nI ln) cx (nI jo) (nI wg) sh va (nf C) (nf fw) (nf fz) (nf fh) (nf G) di (nf B) ke (nf dO) (nf (updN fr9 (k + 1) f)) (nf (updN ma9 (k + 1) ((c0 + 1) / 2))) (nf (updN (updN st9 k 1) (k + 1) 0)) hf9 (nf wa) ra ag by rw [nf_upd]) ?_
          refine j_iinc CX (v := nI (k + 1 + 1)) (lv' := [(1, .int (nI (k + 1 + 1))), (4, .int (nI ((c0 + 1) / 2))), (3, .int (nI k)), (2, .int r9), (0, .ref (a 0))]) 2 dX6_sum_124 rfl (nI_1 _) (by decide) rfl ?_
          refine j_goto CX 214 dX6_sum_127 (by decide) ?_
          refine j_goto CX 33 dX6_sum_214 (by decide) ?_
          refine j_lv (lv' := [(1, .int (nI (k + 1 + 1))), (2, .int r9), (0, .ref (a 0))]) [0, 3, 4] rfl ?_
          refine A3 (k + 1) f ((c0 + 1) / 2) _ _ _ _ _ (by omega) (by omega) (by omega) (by omega) (by rw [updN_s]) (by rw [updN_s]) (by rw [updN_s]) (fun fr8 ma8 st8 hf8 h8 => ?_)
          have g8 := h8 k (by omega)
          refine B4 k f c0 fr8 ma8 st8 hf8 _ hk hc1 hc2 hfc0 (by rw [g8.1, updN_n (by omega), hfr]) (by rw [g8.2.1, updN_n (by omega), hma]) (by omega) (by rw [g8.2.2.1, updN_n (by omega), updN_s]) rfl (fun fr7 ma7 st7 hf7 h7 => hkk fr7 ma7 st7 hf7 (fun j hj => ?_))
          have g7 := h7 j hj
          have g6 := h8 j (by omega)
          exact ⟨by rw [g7.1, g6.1, updN_n (by omega)], by rw [g7.2.1, g6.2.1, updN_n (by omega)], by rw [g7.2.2.1, g6.2.2.1, updN_n (by omega), updN_n (by omega)], by rw [g7.2.2.2, g6.2.2.2]⟩
      · refine j_aload_n CX 4 dX6_sum_63 rfl rfl ?_
        refine j_get CX 0 3 dX6_sum_64 rfl rfl hin6 (by decide) hfl13 rfl ?_
        refine j_aload_n CX 4 dX6_sum_67 rfl rfl ?_
        refine j_get CX 0 18 dX6_sum_68 rfl rfl hin6 (by decide) hfl48 rfl ?_
        refine j_iload_n CX 1 dX6_sum_71 rfl rfl ?_
        refine j_iald CX 12 k dX6_sum_72 rfl (rfl) (by first | assumption | omega) (by decide) ?_
        refine j_top (show (nI (fr9 k)) = nI f from by rw [hfr]) ?_
        refine j_iald CX 2 f dX6_sum_73 rfl (rfl) (by first | assumption | omega) (by decide) ?_
        refine j_istore_n CX (lv' := [(2, .int (va f)), (4, .int (nI ((c0 + 1) / 2))), (3, .int (nI k)), (1, .int (nI (k + 1))), (0, .ref (a 0))]) dX6_sum_74 rfl (by decide) rfl ?_
        refine j_lve (lv' := [(2, .int (tsR va 4 f c0)), (4, .int (nI ((c0 + 1) / 2))), (3, .int (nI k)), (1, .int (nI (k + 1))), (0, .ref (a 0))]) (by rw [show tsR va 4 f c0 = va f by show (if _ then _ else _) = _; rw [if_pos (by omega)]]) ?_
        refine j_iinc CX (v := nI k) (lv' := [(1, .int (nI k)), (2, .int (tsR va 4 f c0)), (4, .int (nI ((c0 + 1) / 2))), (3, .int (nI k)), (0, .ref (a 0))]) 3 dX6_sum_75 rfl (by rw [sub_m1]; exact nI_m1 _) (by decide) rfl ?_
        refine j_goto CX 214 dX6_sum_78 (by decide) ?_
        refine j_goto CX 33 dX6_sum_214 (by decide) ?_
        refine j_lv (lv' := [(1, .int (nI k)), (2, .int (tsR va 4 f c0)), (0, .ref (a 0))]) [0, 1, 4] rfl ?_
        exact hkk _ _ _ _ (fun j hj => ⟨rfl, rfl, rfl, rfl⟩)
  have C5 : ∀ (k f c0 : Nat) (fr9 ma9 st9 : Nat → Nat) (hf9 : Nat → Int32) (r9 : Int32), k + 5 < 15 → 1 ≤ c0 → c0 ≤ 32 → f + c0 ≤ n → fr9 k = f → ma9 k = c0 → 1 < c0 → st9 k = 2 → hf9 k = tsR va 4 f ((c0 + 1) / 2) → r9 = tsR va 4 (f + ((c0 + 1) / 2)) (c0 - (c0 + 1) / 2) → (∀ (fr8 ma8 st8 : Nat → Nat) (hf8 : Nat → Int32), (∀ j, j < k → fr8 j = fr9 j ∧ ma8 j = ma9 j ∧ st8 j = st9 j ∧ hf8 j = hf9 j) → J p l e rmX6_sum s m args below meth c D A 5 0 0 (MQ below (jQc D (fun r0 w0 => ∃ fr' ma' st' hf', r0 = some (.int (tsR va 5 0 n)) ∧ w0 = mW a cI cZ n (nI 0) (nI fc) sp (nI cr) (nI ln) cx (nI jo) (nI wg) sh va (nf C) (nf fw) (nf fz) (nf fh) (nf G) di (nf B) ke (nf dO) (nf fr') (nf ma') (nf st') hf' (nf wa) ra ag) A) args s rmX6_sum.cells rmX6_sum.slots A) (mW a cI cZ n (nI 0) (nI fc) sp (nI cr) (nI ln) cx (nI jo) (nI wg) sh va (nf C) (nf fw) (nf fz) (nf fh) (nf G) di (nf B) ke (nf dO) (nf fr8) (nf ma8) (nf st8) hf8 (nf wa) ra ag) 33 [(1, .int (nI k)), (2, .int (tsR va 5 f c0)), (0, .ref (a 0))] []) → J p l e rmX6_sum s m args below meth c D A 5 0 0 (MQ below (jQc D (fun r0 w0 => ∃ fr' ma' st' hf', r0 = some (.int (tsR va 5 0 n)) ∧ w0 = mW a cI cZ n (nI 0) (nI fc) sp (nI cr) (nI ln) cx (nI jo) (nI wg) sh va (nf C) (nf fw) (nf fz) (nf fh) (nf G) di (nf B) ke (nf dO) (nf fr') (nf ma') (nf st') hf' (nf wa) ra ag) A) args s rmX6_sum.cells rmX6_sum.slots A) (mW a cI cZ n (nI 0) (nI fc) sp (nI cr) (nI ln) cx (nI jo) (nI wg) sh va (nf C) (nf fw) (nf fz) (nf fh) (nf G) di (nf B) ke (nf dO) (nf fr9) (nf ma9) (nf st9) hf9 (nf wa) ra ag) 33 [(1, .int (nI (k + 1))), (2, .int r9), (0, .ref (a 0))] [] := by
    intro k f c0 fr9 ma9 st9 hf9 r9 hk hc1 hc2 hfc0 hfr hma hc3 hst hhf hr9 hkk
    refine j_iload_n CX 0 dX6_sum_33 rfl rfl ?_
    refine j_ifN_le CX (by first | assumption | omega | exact b2n_lt _ | exact t2n_lt _) 217 dX6_sum_34 (by decide) (fun h34 => ?_) (fun h34 => ?_)
    · exact absurd h34 (by omega)
    · refine j_iload_n CX 0 dX6_sum_37 rfl rfl ?_
      refine j_iconst CX dX6_sum_38 (show _ = (nI 1 : Int32) by decide) ?_
      refine j_isub CX dX6_sum_39 ?_
      refine j_top (show ((nI (k + 1)) - (nI 1)) = nI k from nI_m1 _) ?_
      refine j_istore_n CX (lv' := [(3, .int (nI k)), (1, .int (nI (k + 1))), (2, .int r9), (0, .ref (a 0))]) dX6_sum_40 rfl (by decide) rfl ?_
      refine j_aload_n CX 3 dX6_sum_41 rfl rfl ?_
      refine j_get CX 0 19 dX6_sum_42 rfl rfl hin6 (by decide) hfl51 rfl ?_
      refine j_iload_n CX 0 dX6_sum_45 rfl rfl ?_
      refine j_iald CX 13 k dX6_sum_46 rfl (rfl) (by first | assumption | omega) (by decide) ?_
      refine j_top (show (nI (ma9 k)) = nI c0 from by rw [hma]) ?_
      refine j_iconst CX dX6_sum_47 (show _ = (nI 1 : Int32) by decide) ?_
      refine j_iadd CX dX6_sum_48 ?_
      refine j_top (show (nI c0) + (nI 1) = nI (c0 + 1) from nI_add _ _) ?_
      refine j_iconst CX dX6_sum_49 (show _ = (nI 2 : Int32) by decide) ?_
      refine j_idiv CX dX6_sum_50 (by decide) ?_
      refine j_top (show ((nI (c0 + 1)) / (nI 2)) = nI ((c0 + 1) / 2) from pk_div (by omega) (by decide) (by decide)) ?_
      refine j_istore CX (lv' := [(4, .int (nI ((c0 + 1) / 2))), (3, .int (nI k)), (1, .int (nI (k + 1))), (2, .int r9), (0, .ref (a 0))]) dX6_sum_51 (by decide) rfl ?_
      refine j_aload_n CX 4 dX6_sum_53 rfl rfl ?_
      refine j_get CX 0 19 dX6_sum_54 rfl rfl hin6 (by decide) hfl51 rfl ?_
      refine j_iload_n CX 1 dX6_sum_57 rfl rfl ?_
      refine j_iald CX 13 k dX6_sum_58 rfl (rfl) (by first | assumption | omega) (by decide) ?_
      refine j_top (show (nI (ma9 k)) = nI c0 from by rw [hma]) ?_
      refine j_iconst CX dX6_sum_59 (show _ = (nI 1 : Int32) by decide) ?_
      refine j_icmpN_ne CX (by first | assumption | omega) (by first | assumption | omega | exact b2n_lt _ | exact t2n_lt _) 81 dX6_sum_60 (by decide) (fun h60 => ?_) (fun h60 => ?_)
      · have hstb : st9 k < 2 ^ 31 := by omega
        refine j_aload_n CX 4 dX6_sum_81 rfl rfl ?_
        refine j_get CX 0 20 dX6_sum_82 rfl rfl hin6 (by decide) hfl54 rfl ?_
        refine j_iload_n CX 1 dX6_sum_85 rfl rfl ?_
        refine j_iald CX 14 k dX6_sum_86 rfl (rfl) (by first | assumption | omega) (by decide) ?_
        refine j_ifN_ne CX (by first | assumption | omega | exact b2n_lt _ | exact t2n_lt _) 130 dX6_sum_87 (by decide) (fun h87 => ?_) (fun h87 => ?_)
        · refine j_aload_n CX 4 dX6_sum_130 rfl rfl ?_
          refine j_get CX 0 20 dX6_sum_131 rfl rfl hin6 (by decide) hfl54 rfl ?_
          refine j_iload_n CX 1 dX6_sum_134 rfl rfl ?_
          refine j_iald CX 14 k dX6_sum_135 rfl (rfl) (by first | assumption | omega) (by decide) ?_
          refine j_iconst CX dX6_sum_136 (show _ = (nI 1 : Int32) by decide) ?_
          refine j_icmpN_ne CX (by first | assumption | omega) (by first | assumption | omega | exact b2n_lt _ | exact t2n_lt _) 197 dX6_sum_137 (by decide) (fun h137 => ?_) (fun h137 => ?_)
          · refine j_aload_n CX 4 dX6_sum_197 rfl rfl ?_
            refine j_get CX 0 21 dX6_sum_198 rfl rfl hin6 (by decide) hfl57 rfl ?_
            refine j_iload_n CX 1 dX6_sum_201 rfl rfl ?_
            refine j_iald CX 15 k dX6_sum_202 rfl (rfl) (by first | assumption | omega) (by decide) ?_
            refine j_i2l CX dX6_sum_203 ?_
            refine j_iload_n CX 3 dX6_sum_204 rfl rfl ?_
            refine j_i2l CX dX6_sum_205 ?_
            refine j_ladd CX dX6_sum_206 ?_
            refine j_callS CX (n := 1) (b := 0) (pre := []) (post := mW a cI cZ n (nI 0) (nI fc) sp (nI cr) (nI ln) cx (nI jo) (nI wg) sh va (nf C) (nf fw) (nf fz) (nf fh) (nf G) di (nf B) ke (nf dO) (nf fr9) (nf ma9) (nf st9) hf9 (nf wa) ra ag) (rest := []) (r_within l D cI cZ cL (((hf9 k).toInt64) + r9.toInt64)) gX6_sum_X6_within rfl (by decide +kernel) ⟨Nat.le_of_ble_eq_true rfl, Nat.le_of_ble_eq_true rfl⟩ rfl rfl rfl (Nat.le_of_ble_eq_true rfl) dX6_sum_207 ⟨Nat.le_refl _, Nat.le_refl _⟩ (fun r9 w9 h9 => ?_)
            obtain ⟨rfl, rfl⟩ := h9
            refine j_w (w' := mW a cI cZ n (nI 0) (nI fc) sp (nI cr) (nI ln) cx (nI jo) (nI wg) sh va (nf C) (nf fw) (nf fz) (nf fh) (nf G) di (nf B) ke (nf dO) (nf fr9) (nf ma9) (nf st9) hf9 (nf wa) ra ag) rfl ?_
            refine j_st (st9 := [.int (kept (((hf9 k).toInt64) + r9.toInt64))]) rfl ?_
            refine j_istore_n CX (lv' := [(2, .int (kept (((hf9 k).toInt64) + r9.toInt64))), (4, .int (nI ((c0 + 1) / 2))), (3, .int (nI k)), (1, .int (nI (k + 1))), (0, .ref (a 0))]) dX6_sum_210 rfl (by decide) rfl ?_
            refine j_lve (lv' := [(2, .int (tsR va 5 f c0)), (4, .int (nI ((c0 + 1) / 2))), (3, .int (nI k)), (1, .int (nI (k + 1))), (0, .ref (a 0))]) (by rw [show tsR va 5 f c0 = kept (((hf9 k).toInt64) + r9.toInt64) by rw [hhf, hr9]; show (if _ then _ else _) = _; rw [if_neg (by omega)]]) ?_
            refine j_iinc CX (v := nI k) (lv' := [(1, .int (nI k)), (2, .int (tsR va 5 f c0)), (4, .int (nI ((c0 + 1) / 2))), (3, .int (nI k)), (0, .ref (a 0))]) 3 dX6_sum_211 rfl (by rw [sub_m1]; exact nI_m1 _) (by decide) rfl ?_
            refine j_goto CX 33 dX6_sum_214 (by decide) ?_
            refine j_lv (lv' := [(1, .int (nI k)), (2, .int (tsR va 5 f c0)), (0, .ref (a 0))]) [0, 1, 4] rfl ?_
            exact hkk _ _ _ _ (fun j hj => ⟨rfl, rfl, rfl, rfl⟩)
          · exact absurd (hst.symm.trans h137) (by decide)
        · exact absurd (hst.symm.trans h87) (by decide)
      · exact absurd hc3 (by omega)
  have B5 : ∀ (k f c0 : Nat) (fr9 ma9 st9 : Nat → Nat) (hf9 : Nat → Int32) (r9 : Int32), k + 5 < 15 → 1 ≤ c0 → c0 ≤ 32 → f + c0 ≤ n → fr9 k = f → ma9 k = c0 → 1 < c0 → st9 k = 1 → r9 = tsR va 4 f ((c0 + 1) / 2) → (∀ (fr8 ma8 st8 : Nat → Nat) (hf8 : Nat → Int32), (∀ j, j < k → fr8 j = fr9 j ∧ ma8 j = ma9 j ∧ st8 j = st9 j ∧ hf8 j = hf9 j) → J p l e rmX6_sum s m args below meth c D A 5 0 0 (MQ below (jQc D (fun r0 w0 => ∃ fr' ma' st' hf', r0 = some (.int (tsR va 5 0 n)) ∧ w0 = mW a cI cZ n (nI 0) (nI fc) sp (nI cr) (nI ln) cx (nI jo) (nI wg) sh va (nf C) (nf fw) (nf fz) (nf fh) (nf G) di (nf B) ke (nf dO) (nf fr') (nf ma') (nf st') hf' (nf wa) ra ag) A) args s rmX6_sum.cells rmX6_sum.slots A) (mW a cI cZ n (nI 0) (nI fc) sp (nI cr) (nI ln) cx (nI jo) (nI wg) sh va (nf C) (nf fw) (nf fz) (nf fh) (nf G) di (nf B) ke (nf dO) (nf fr8) (nf ma8) (nf st8) hf8 (nf wa) ra ag) 33 [(1, .int (nI k)), (2, .int (tsR va 5 f c0)), (0, .ref (a 0))] []) → J p l e rmX6_sum s m args below meth c D A 5 0 0 (MQ below (jQc D (fun r0 w0 => ∃ fr' ma' st' hf', r0 = some (.int (tsR va 5 0 n)) ∧ w0 = mW a cI cZ n (nI 0) (nI fc) sp (nI cr) (nI ln) cx (nI jo) (nI wg) sh va (nf C) (nf fw) (nf fz) (nf fh) (nf G) di (nf B) ke (nf dO) (nf fr') (nf ma') (nf st') hf' (nf wa) ra ag) A) args s rmX6_sum.cells rmX6_sum.slots A) (mW a cI cZ n (nI 0) (nI fc) sp (nI cr) (nI ln) cx (nI jo) (nI wg) sh va (nf C) (nf fw) (nf fz) (nf fh) (nf G) di (nf B) ke (nf dO) (nf fr9) (nf ma9) (nf st9) hf9 (nf wa) ra ag) 33 [(1, .int (nI (k + 1))), (2, .int r9), (0, .ref (a 0))] [] := by
    intro k f c0 fr9 ma9 st9 hf9 r9 hk hc1 hc2 hfc0 hfr hma hc3 hst hr9 hkk
    refine j_iload_n CX 0 dX6_sum_33 rfl rfl ?_
    refine j_ifN_le CX (by first | assumption | omega | exact b2n_lt _ | exact t2n_lt _) 217 dX6_sum_34 (by decide) (fun h34 => ?_) (fun h34 => ?_)
    · exact absurd h34 (by omega)
    · refine j_iload_n CX 0 dX6_sum_37 rfl rfl ?_
      refine j_iconst CX dX6_sum_38 (show _ = (nI 1 : Int32) by decide) ?_
      refine j_isub CX dX6_sum_39 ?_
      refine j_top (show ((nI (k + 1)) - (nI 1)) = nI k from nI_m1 _) ?_
      refine j_istore_n CX (lv' := [(3, .int (nI k)), (1, .int (nI (k + 1))), (2, .int r9), (0, .ref (a 0))]) dX6_sum_40 rfl (by decide) rfl ?_
      refine j_aload_n CX 3 dX6_sum_41 rfl rfl ?_
      refine j_get CX 0 19 dX6_sum_42 rfl rfl hin6 (by decide) hfl51 rfl ?_
      refine j_iload_n CX 0 dX6_sum_45 rfl rfl ?_
      refine j_iald CX 13 k dX6_sum_46 rfl (rfl) (by first | assumption | omega) (by decide) ?_
      refine j_top (show (nI (ma9 k)) = nI c0 from by rw [hma]) ?_
      refine j_iconst CX dX6_sum_47 (show _ = (nI 1 : Int32) by decide) ?_
      refine j_iadd CX dX6_sum_48 ?_
      refine j_top (show (nI c0) + (nI 1) = nI (c0 + 1) from nI_add _ _) ?_
      refine j_iconst CX dX6_sum_49 (show _ = (nI 2 : Int32) by decide) ?_
      refine j_idiv CX dX6_sum_50 (by decide) ?_
      refine j_top (show ((nI (c0 + 1)) / (nI 2)) = nI ((c0 + 1) / 2) from pk_div (by omega) (by decide) (by decide)) ?_
      refine j_istore CX (lv' := [(4, .int (nI ((c0 + 1) / 2))), (3, .int (nI k)), (1, .int (nI (k + 1))), (2, .int r9), (0, .ref (a 0))]) dX6_sum_51 (by decide) rfl ?_
      refine j_aload_n CX 4 dX6_sum_53 rfl rfl ?_
      refine j_get CX 0 19 dX6_sum_54 rfl rfl hin6 (by decide) hfl51 rfl ?_
      refine j_iload_n CX 1 dX6_sum_57 rfl rfl ?_
      refine j_iald CX 13 k dX6_sum_58 rfl (rfl) (by first | assumption | omega) (by decide) ?_
      refine j_top (show (nI (ma9 k)) = nI c0 from by rw [hma]) ?_
      refine j_iconst CX dX6_sum_59 (show _ = (nI 1 : Int32) by decide) ?_
      refine j_icmpN_ne CX (by first | assumption | omega) (by first | assumption | omega | exact b2n_lt _ | exact t2n_lt _) 81 dX6_sum_60 (by decide) (fun h60 => ?_) (fun h60 => ?_)
      · have hstb : st9 k < 2 ^ 31 := by omega
        refine j_aload_n CX 4 dX6_sum_81 rfl rfl ?_
        refine j_get CX 0 20 dX6_sum_82 rfl rfl hin6 (by decide) hfl54 rfl ?_
        refine j_iload_n CX 1 dX6_sum_85 rfl rfl ?_
        refine j_iald CX 14 k dX6_sum_86 rfl (rfl) (by first | assumption | omega) (by decide) ?_
        refine j_ifN_ne CX (by first | assumption | omega | exact b2n_lt _ | exact t2n_lt _) 130 dX6_sum_87 (by decide) (fun h87 => ?_) (fun h87 => ?_)
        · refine j_aload_n CX 4 dX6_sum_130 rfl rfl ?_
          refine j_get CX 0 20 dX6_sum_131 rfl rfl hin6 (by decide) hfl54 rfl ?_
          refine j_iload_n CX 1 dX6_sum_134 rfl rfl ?_
          refine j_iald CX 14 k dX6_sum_135 rfl (rfl) (by first | assumption | omega) (by decide) ?_
          refine j_iconst CX dX6_sum_136 (show _ = (nI 1 : Int32) by decide) ?_
          refine j_icmpN_ne CX (by first | assumption | omega) (by first | assumption | omega | exact b2n_lt _ | exact t2n_lt _) 197 dX6_sum_137 (by decide) (fun h137 => ?_) (fun h137 => ?_)
          · exact absurd hst h137
          · refine j_aload_n CX 4 dX6_sum_140 rfl rfl ?_
            refine j_get CX 0 21 dX6_sum_141 rfl rfl hin6 (by decide) hfl57 rfl ?_
            refine j_iload_n CX 1 dX6_sum_144 rfl rfl ?_
            refine j_iload_n CX 3 dX6_sum_145 rfl rfl ?_
            refine j_iast CX (w' := mW a cI cZ n (nI 0) (nI fc) sp (nI cr) (nI ln) cx (nI jo) (nI wg) sh va (nf C) (nf fw) (nf fz) (nf fh) (nf G) di (nf B) ke (nf dO) (nf fr9) (nf ma9) (nf st9) (upd hf9 k r9) (nf wa) ra ag) 15 k dX6_sum_146 rfl (rfl) (by first | assumption | omega) (by decide) rfl ?_
            refine j_aload_n CX 4 dX6_sum_147 rfl rfl ?_
            refine j_get CX 0 20 dX6_sum_148 rfl rfl hin6 (by decide) hfl54 rfl ?_
            refine j_iload_n CX 1 dX6_sum_151 rfl rfl ?_
            refine j_iconst CX dX6_sum_152 (show _ = (nI 2 : Int32) by decide) ?_
            refine j_iast CX (w' := mW a cI cZ n (nI 0) (nI fc) sp (nI cr) (nI ln) cx (nI jo) (nI wg) sh va (nf C) (nf fw) (nf fz) (nf fh) (nf G) di (nf B) ke (nf dO) (nf fr9) (nf ma9) (upd (nf st9) k (nI 2)) (upd hf9 k r9) (nf wa) ra ag) 14 k dX6_sum_153 rfl (rfl) (by first | assumption | omega) (by decide) rfl ?_
            refine j_w (show mW a cI cZ n (nI 0) (nI fc) sp (nI cr) (nI ln) cx (nI jo) (nI wg) sh va (nf C) (nf fw) (nf fz) (nf fh) (nf G) di (nf B) ke (nf dO) (nf fr9) (nf ma9) (upd (nf st9) k (nI 2)) (upd hf9 k r9) (nf wa) ra ag = mW a cI cZ n (nI 0) (nI fc) sp (nI cr) (nI ln) cx (nI jo) (nI wg) sh va (nf C) (nf fw) (nf fz) (nf fh) (nf G) di (nf B) ke (nf dO) (nf fr9) (nf ma9) (nf (updN st9 k 2)) (upd hf9 k r9) (nf wa) ra ag by rw [nf_upd]) ?_
            refine j_aload_n CX 4 dX6_sum_154 rfl rfl ?_
            refine j_get CX 0 18 dX6_sum_155 rfl rfl hin6 (by decide) hfl48 rfl ?_
            refine j_iload_n CX 2 dX6_sum_158 rfl rfl ?_
            refine j_aload_n CX 4 dX6_sum_159 rfl rfl ?_
            refine j_get CX 0 18 dX6_sum_160 rfl rfl hin6 (by decide) hfl48 rfl ?_
            refine j_iload_n CX 1 dX6_sum_163 rfl rfl ?_
            refine j_iald CX 12 k dX6_sum_164 rfl (rfl) (by first | assumption | omega) (by decide) ?_
            refine j_top (show (nI (fr9 k)) = nI f from by rw [hfr]) ?_
            refine j_iload CX 0 dX6_sum_165 rfl ?_
            refine j_iadd CX dX6_sum_167 ?_
            refine j_top (show (nI f) + (nI ((c0 + 1) / 2)) = nI (f + ((c0 + 1) / 2)) from nI_add _ _) ?_
            refine j_iast CX (w' := mW a cI cZ n (nI 0) (nI fc) sp (nI cr) (nI ln) cx (nI jo) (nI wg) sh va (nf C) (nf fw) (nf fz) (nf fh) (nf G) di (nf B) ke (nf dO) (upd (nf fr9) (k + 1) (nI (f + ((c0 + 1) / 2)))) (nf ma9) (nf (updN st9 k 2)) (upd hf9 k r9) (nf wa) ra ag) 12 (k + 1) dX6_sum_168 rfl (rfl) (by first | assumption | omega) (by decide) rfl ?_
            refine j_w (show mW a cI cZ n (nI 0) (nI fc) sp (nI cr) (nI ln) cx (nI jo) (nI wg) sh va (nf C) (nf fw) (nf fz) (nf fh) (nf G) di (nf B) ke (nf dO) (upd (nf fr9) (k + 1) (nI (f + ((c0 + 1) / 2)))) (nf ma9) (nf (updN st9 k 2)) (upd hf9 k r9) (nf wa) ra ag = mW a cI cZ n (nI 0) (nI fc) sp (nI cr) (nI ln) cx (nI jo) (nI wg) sh va (nf C) (nf fw) (nf fz) (nf fh) (nf G) di (nf B) ke (nf dO) (nf (updN fr9 (k + 1) (f + ((c0 + 1) / 2)))) (nf ma9) (nf (updN st9 k 2)) (upd hf9 k r9) (nf wa) ra ag by rw [nf_upd]) ?_
            refine j_aload_n CX 4 dX6_sum_169 rfl rfl ?_
            refine j_get CX 0 19 dX6_sum_170 rfl rfl hin6 (by decide) hfl51 rfl ?_
            refine j_iload_n CX 2 dX6_sum_173 rfl rfl ?_
            refine j_aload_n CX 4 dX6_sum_174 rfl rfl ?_
            refine j_get CX 0 19 dX6_sum_175 rfl rfl hin6 (by decide) hfl51 rfl ?_
            refine j_iload_n CX 1 dX6_sum_178 rfl rfl ?_
            refine j_iald CX 13 k dX6_sum_179 rfl (rfl) (by first | assumption | omega) (by decide) ?_
            refine j_top (show (nI (ma9 k)) = nI c0 from by rw [hma]) ?_
            refine j_iload CX 0 dX6_sum_180 rfl ?_
            refine j_isub CX dX6_sum_182 ?_
            refine j_top (show ((nI c0) - (nI ((c0 + 1) / 2))) = nI (c0 - (c0 + 1) / 2) from pk_sub (by omega)) ?_
            refine j_iast CX (w' := mW a cI cZ n (nI 0) (nI fc) sp (nI cr) (nI ln) cx (nI jo) (nI wg) sh va (nf C) (nf fw) (nf fz) (nf fh) (nf G) di (nf B) ke (nf dO) (nf (updN fr9 (k + 1) (f + ((c0 + 1) / 2)))) (upd (nf ma9) (k + 1) (nI (c0 - (c0 + 1) / 2))) (nf (updN st9 k 2)) (upd hf9 k r9) (nf wa) ra ag) 13 (k + 1) dX6_sum_183 rfl (rfl) (by first | assumption | omega) (by decide) rfl ?_
            refine j_w (show mW a cI cZ n (nI 0) (nI fc) sp (nI cr) (nI ln) cx (nI jo) (nI wg) sh va (nf C) (nf fw) (nf fz) (nf fh) (nf G) di (nf B) ke (nf dO) (nf (updN fr9 (k + 1) (f + ((c0 + 1) / 2)))) (upd (nf ma9) (k + 1) (nI (c0 - (c0 + 1) / 2))) (nf (updN st9 k 2)) (upd hf9 k r9) (nf wa) ra ag = mW a cI cZ n (nI 0) (nI fc) sp (nI cr) (nI ln) cx (nI jo) (nI wg) sh va (nf C) (nf fw) (nf fz) (nf fh) (nf G) di (nf B) ke (nf dO) (nf (updN fr9 (k + 1) (f + ((c0 + 1) / 2)))) (nf (updN ma9 (k + 1) (c0 - (c0 + 1) / 2))) (nf (updN st9 k 2)) (upd hf9 k r9) (nf wa) ra ag by rw [nf_upd]) ?_
            refine j_aload_n CX 4 dX6_sum_184 rfl rfl ?_
            refine j_get CX 0 20 dX6_sum_185 rfl rfl hin6 (by decide) hfl54 rfl ?_
            refine j_iload_n CX 2 dX6_sum_188 rfl rfl ?_
            refine j_iconst CX dX6_sum_189 (show _ = (nI 0 : Int32) by decide) ?_
            refine j_iast CX (w' := mW a cI cZ n (nI 0) (nI fc) sp (nI cr) (nI ln) cx (nI jo) (nI wg) sh va (nf C) (nf fw) (nf fz) (nf fh) (nf G) di (nf B) ke (nf dO) (nf (updN fr9 (k + 1) (f + ((c0 + 1) / 2)))) (nf (updN ma9 (k + 1) (c0 - (c0 + 1) / 2))) (upd (nf (updN st9 k 2)) (k + 1) (nI 0)) (upd hf9 k r9) (nf wa) ra ag) 14 (k + 1) dX6_sum_190 rfl (rfl) (by first | assumption | omega) (by decide) rfl ?_
            refine j_w (show mW a cI cZ n (nI 0) (nI fc) sp (nI cr) (nI ln) cx (nI jo) (nI wg) sh va (nf C) (nf fw) (nf fz) (nf fh) (nf G) di (nf B) ke (nf dO) (nf (updN fr9 (k + 1) (f + ((c0 + 1) / 2)))) (nf (updN ma9 (k + 1) (c0 - (c0 + 1) / 2))) (upd (nf (updN st9 k 2)) (k + 1) (nI 0)) (upd hf9 k r9) (nf wa) ra ag = mW a cI cZ n (nI 0) (nI fc) sp (nI cr) (nI ln) cx (nI jo) (nI wg) sh va (nf C) (nf fw) (nf fz) (nf fh) (nf G) di (nf B) ke (nf dO) (nf (updN fr9 (k + 1) (f + ((c0 + 1) / 2)))) (nf (updN ma9 (k + 1) (c0 - (c0 + 1) / 2))) (nf (updN (updN st9 k 2) (k + 1) 0)) (upd hf9 k r9) (nf wa) ra ag by rw [nf_upd]) ?_
            refine j_iinc CX (v := nI (k + 1 + 1)) (lv' := [(1, .int (nI (k + 1 + 1))), (4, .int (nI ((c0 + 1) / 2))), (3, .int (nI k)), (2, .int r9), (0, .ref (a 0))]) 2 dX6_sum_191 rfl (nI_1 _) (by decide) rfl ?_
            refine j_goto CX 214 dX6_sum_194 (by decide) ?_
            refine j_goto CX 33 dX6_sum_214 (by decide) ?_
            refine j_lv (lv' := [(1, .int (nI (k + 1 + 1))), (2, .int r9), (0, .ref (a 0))]) [0, 3, 4] rfl ?_
            refine A4 (k + 1) (f + (c0 + 1) / 2) (c0 - (c0 + 1) / 2) _ _ _ _ _ (by omega) (by omega) (by omega) (by omega) (by rw [updN_s]) (by rw [updN_s]) (by rw [updN_s]) (fun fr8 ma8 st8 hf8 h8 => ?_)
            have g8 := h8 k (by omega)
            refine C5 k f c0 fr8 ma8 st8 hf8 _ hk hc1 hc2 hfc0 (by rw [g8.1, updN_n (by omega), hfr]) (by rw [g8.2.1, updN_n (by omega), hma]) (by omega) (by rw [g8.2.2.1, updN_n (by omega), updN_s]) (by rw [g8.2.2.2, pk_us, hr9]) rfl (fun fr7 ma7 st7 hf7 h7 => hkk fr7 ma7 st7 hf7 (fun j hj => ?_))
            have g7 := h7 j hj
            have g6 := h8 j (by omega)
            exact ⟨by rw [g7.1, g6.1, updN_n (by omega)], by rw [g7.2.1, g6.2.1, updN_n (by omega)], by rw [g7.2.2.1, g6.2.2.1, updN_n (by omega), updN_n (by omega)], by rw [g7.2.2.2, g6.2.2.2, pk_un (by omega)]⟩
        · exact absurd (hst.symm.trans h87) (by decide)
      · exact absurd hc3 (by omega)
  have A5 : ∀ (k f c0 : Nat) (fr9 ma9 st9 : Nat → Nat) (hf9 : Nat → Int32) (r9 : Int32), k + 5 < 15 → 1 ≤ c0 → c0 ≤ 32 → f + c0 ≤ n → fr9 k = f → ma9 k = c0 → st9 k = 0 → (∀ (fr8 ma8 st8 : Nat → Nat) (hf8 : Nat → Int32), (∀ j, j < k → fr8 j = fr9 j ∧ ma8 j = ma9 j ∧ st8 j = st9 j ∧ hf8 j = hf9 j) → J p l e rmX6_sum s m args below meth c D A 5 0 0 (MQ below (jQc D (fun r0 w0 => ∃ fr' ma' st' hf', r0 = some (.int (tsR va 5 0 n)) ∧ w0 = mW a cI cZ n (nI 0) (nI fc) sp (nI cr) (nI ln) cx (nI jo) (nI wg) sh va (nf C) (nf fw) (nf fz) (nf fh) (nf G) di (nf B) ke (nf dO) (nf fr') (nf ma') (nf st') hf' (nf wa) ra ag) A) args s rmX6_sum.cells rmX6_sum.slots A) (mW a cI cZ n (nI 0) (nI fc) sp (nI cr) (nI ln) cx (nI jo) (nI wg) sh va (nf C) (nf fw) (nf fz) (nf fh) (nf G) di (nf B) ke (nf dO) (nf fr8) (nf ma8) (nf st8) hf8 (nf wa) ra ag) 33 [(1, .int (nI k)), (2, .int (tsR va 5 f c0)), (0, .ref (a 0))] []) → J p l e rmX6_sum s m args below meth c D A 5 0 0 (MQ below (jQc D (fun r0 w0 => ∃ fr' ma' st' hf', r0 = some (.int (tsR va 5 0 n)) ∧ w0 = mW a cI cZ n (nI 0) (nI fc) sp (nI cr) (nI ln) cx (nI jo) (nI wg) sh va (nf C) (nf fw) (nf fz) (nf fh) (nf G) di (nf B) ke (nf dO) (nf fr') (nf ma') (nf st') hf' (nf wa) ra ag) A) args s rmX6_sum.cells rmX6_sum.slots A) (mW a cI cZ n (nI 0) (nI fc) sp (nI cr) (nI ln) cx (nI jo) (nI wg) sh va (nf C) (nf fw) (nf fz) (nf fh) (nf G) di (nf B) ke (nf dO) (nf fr9) (nf ma9) (nf st9) hf9 (nf wa) ra ag) 33 [(1, .int (nI (k + 1))), (2, .int r9), (0, .ref (a 0))] [] := by
    intro k f c0 fr9 ma9 st9 hf9 r9 hk hc1 hc2 hfc0 hfr hma hst hkk
    refine j_iload_n CX 0 dX6_sum_33 rfl rfl ?_
    refine j_ifN_le CX (by first | assumption | omega | exact b2n_lt _ | exact t2n_lt _) 217 dX6_sum_34 (by decide) (fun h34 => ?_) (fun h34 => ?_)
    · exact absurd h34 (by omega)
    · refine j_iload_n CX 0 dX6_sum_37 rfl rfl ?_
      refine j_iconst CX dX6_sum_38 (show _ = (nI 1 : Int32) by decide) ?_
      refine j_isub CX dX6_sum_39 ?_
      refine j_top (show ((nI (k + 1)) - (nI 1)) = nI k from nI_m1 _) ?_
      refine j_istore_n CX (lv' := [(3, .int (nI k)), (1, .int (nI (k + 1))), (2, .int r9), (0, .ref (a 0))]) dX6_sum_40 rfl (by decide) rfl ?_
      refine j_aload_n CX 3 dX6_sum_41 rfl rfl ?_
      refine j_get CX 0 19 dX6_sum_42 rfl rfl hin6 (by decide) hfl51 rfl ?_
      refine j_iload_n CX 0 dX6_sum_45 rfl rfl ?_
      refine j_iald CX 13 k dX6_sum_46 rfl (rfl) (by first | assumption | omega) (by decide) ?_
      refine j_top (show (nI (ma9 k)) = nI c0 from by rw [hma]) ?_
      refine j_iconst CX dX6_sum_47 (show _ = (nI 1 : Int32) by decide) ?_
      refine j_iadd CX dX6_sum_48 ?_
      refine j_top (show (nI c0) + (nI 1) = nI (c0 + 1) from nI_add _ _) ?_
      refine j_iconst CX dX6_sum_49 (show _ = (nI 2 : Int32) by decide) ?_
      refine j_idiv CX dX6_sum_50 (by decide) ?_
      refine j_top (show ((nI (c0 + 1)) / (nI 2)) = nI ((c0 + 1) / 2) from pk_div (by omega) (by decide) (by decide)) ?_
      refine j_istore CX (lv' := [(4, .int (nI ((c0 + 1) / 2))), (3, .int (nI k)), (1, .int (nI (k + 1))), (2, .int r9), (0, .ref (a 0))]) dX6_sum_51 (by decide) rfl ?_
      refine j_aload_n CX 4 dX6_sum_53 rfl rfl ?_
      refine j_get CX 0 19 dX6_sum_54 rfl rfl hin6 (by decide) hfl51 rfl ?_
      refine j_iload_n CX 1 dX6_sum_57 rfl rfl ?_
      refine j_iald CX 13 k dX6_sum_58 rfl (rfl) (by first | assumption | omega) (by decide) ?_
      refine j_top (show (nI (ma9 k)) = nI c0 from by rw [hma]) ?_
      refine j_iconst CX dX6_sum_59 (show _ = (nI 1 : Int32) by decide) ?_
      refine j_icmpN_ne CX (by first | assumption | omega) (by first | assumption | omega | exact b2n_lt _ | exact t2n_lt _) 81 dX6_sum_60 (by decide) (fun h60 => ?_) (fun h60 => ?_)
      · have hstb : st9 k < 2 ^ 31 := by omega
        refine j_aload_n CX 4 dX6_sum_81 rfl rfl ?_
        refine j_get CX 0 20 dX6_sum_82 rfl rfl hin6 (by decide) hfl54 rfl ?_
        refine j_iload_n CX 1 dX6_sum_85 rfl rfl ?_
        refine j_iald CX 14 k dX6_sum_86 rfl (rfl) (by first | assumption | omega) (by decide) ?_
        refine j_ifN_ne CX (by first | assumption | omega | exact b2n_lt _ | exact t2n_lt _) 130 dX6_sum_87 (by decide) (fun h87 => ?_) (fun h87 => ?_)
        · exact absurd hst h87
        · refine j_aload_n CX 4 dX6_sum_90 rfl rfl ?_
          refine j_get CX 0 20 dX6_sum_91 rfl rfl hin6 (by decide) hfl54 rfl ?_
          refine j_iload_n CX 1 dX6_sum_94 rfl rfl ?_
          refine j_iconst CX dX6_sum_95 (show _ = (nI 1 : Int32) by decide) ?_
          refine j_iast CX (w' := mW a cI cZ n (nI 0) (nI fc) sp (nI cr) (nI ln) cx (nI jo) (nI wg) sh va (nf C) (nf fw) (nf fz) (nf fh) (nf G) di (nf B) ke (nf dO) (nf fr9) (nf ma9) (upd (nf st9) k (nI 1)) hf9 (nf wa) ra ag) 14 k dX6_sum_96 rfl (rfl) (by first | assumption | omega) (by decide) rfl ?_
          refine j_w (show mW a cI cZ n (nI 0) (nI fc) sp (nI cr) (nI ln) cx (nI jo) (nI wg) sh va (nf C) (nf fw) (nf fz) (nf fh) (nf G) di (nf B) ke (nf dO) (nf fr9) (nf ma9) (upd (nf st9) k (nI 1)) hf9 (nf wa) ra ag = mW a cI cZ n (nI 0) (nI fc) sp (nI cr) (nI ln) cx (nI jo) (nI wg) sh va (nf C) (nf fw) (nf fz) (nf fh) (nf G) di (nf B) ke (nf dO) (nf fr9) (nf ma9) (nf (updN st9 k 1)) hf9 (nf wa) ra ag by rw [nf_upd]) ?_
          refine j_aload_n CX 4 dX6_sum_97 rfl rfl ?_
          refine j_get CX 0 18 dX6_sum_98 rfl rfl hin6 (by decide) hfl48 rfl ?_
          refine j_iload_n CX 2 dX6_sum_101 rfl rfl ?_
          refine j_aload_n CX 4 dX6_sum_102 rfl rfl ?_
          refine j_get CX 0 18 dX6_sum_103 rfl rfl hin6 (by decide) hfl48 rfl ?_
          refine j_iload_n CX 1 dX6_sum_106 rfl rfl ?_
          refine j_iald CX 12 k dX6_sum_107 rfl (rfl) (by first | assumption | omega) (by decide) ?_
          refine j_top (show (nI (fr9 k)) = nI f from by rw [hfr]) ?_
          refine j_iast CX (w' := mW a cI cZ n (nI 0) (nI fc) sp (nI cr) (nI ln) cx (nI jo) (nI wg) sh va (nf C) (nf fw) (nf fz) (nf fh) (nf G) di (nf B) ke (nf dO) (upd (nf fr9) (k + 1) (nI f)) (nf ma9) (nf (updN st9 k 1)) hf9 (nf wa) ra ag) 12 (k + 1) dX6_sum_108 rfl (rfl) (by first | assumption | omega) (by decide) rfl ?_
          refine j_w (show mW a cI cZ n (nI 0) (nI fc) sp (nI cr) (nI ln) cx (nI jo) (nI wg) sh va (nf C) (nf fw) (nf fz) (nf fh) (nf G) di (nf B) ke (nf dO) (upd (nf fr9) (k + 1) (nI f)) (nf ma9) (nf (updN st9 k 1)) hf9 (nf wa) ra ag = mW a cI cZ n (nI 0) (nI fc) sp (nI cr) (nI ln) cx (nI jo) (nI wg) sh va (nf C) (nf fw) (nf fz) (nf fh) (nf G) di (nf B) ke (nf dO) (nf (updN fr9 (k + 1) f)) (nf ma9) (nf (updN st9 k 1)) hf9 (nf wa) ra ag by rw [nf_upd]) ?_
          refine j_aload_n CX 4 dX6_sum_109 rfl rfl ?_
          refine j_get CX 0 19 dX6_sum_110 rfl rfl hin6 (by decide) hfl51 rfl ?_
          refine j_iload_n CX 2 dX6_sum_113 rfl rfl ?_
          refine j_iload CX 0 dX6_sum_114 rfl ?_
          refine j_iast CX (w' := mW a cI cZ n (nI 0) (nI fc) sp (nI cr) (nI ln) cx (nI jo) (nI wg) sh va (nf C) (nf fw) (nf fz) (nf fh) (nf G) di (nf B) ke (nf dO) (nf (updN fr9 (k + 1) f)) (upd (nf ma9) (k + 1) (nI ((c0 + 1) / 2))) (nf (updN st9 k 1)) hf9 (nf wa) ra ag) 13 (k + 1) dX6_sum_116 rfl (rfl) (by first | assumption | omega) (by decide) rfl ?_
          refine j_w (show mW a cI cZ n (nI 0) (nI fc) sp (nI cr) (nI ln) cx (nI jo) (nI wg) sh va (nf C) (nf fw) (nf fz) (nf fh) (nf G) di (nf B) ke (nf dO) (nf (updN fr9 (k + 1) f)) (upd (nf ma9) (k + 1) (nI ((c0 + 1) / 2))) (nf (updN st9 k 1)) hf9 (nf wa) ra ag = mW a cI cZ n (nI 0) (nI fc) sp (nI cr) (nI ln) cx (nI jo) (nI wg) sh va (nf C) (nf fw) (nf fz) (nf fh) (nf G) di (nf B) ke (nf dO) (nf (updN fr9 (k + 1) f)) (nf (updN ma9 (k + 1) ((c0 + 1) / 2))) (nf (updN st9 k 1)) hf9 (nf wa) ra ag by rw [nf_upd]) ?_
          refine j_aload_n CX 4 dX6_sum_117 rfl rfl ?_
          refine j_get CX 0 20 dX6_sum_118 rfl rfl hin6 (by decide) hfl54 rfl ?_
          refine j_iload_n CX 2 dX6_sum_121 rfl rfl ?_
          refine j_iconst CX dX6_sum_122 (show _ = (nI 0 : Int32) by decide) ?_
          refine j_iast CX (w' := mW a cI cZ n (nI 0) (nI fc) sp (nI cr) (nI ln) cx (nI jo) (nI wg) sh va (nf C) (nf fw) (nf fz) (nf fh) (nf G) di (nf B) ke (nf dO) (nf (updN fr9 (k + 1) f)) (nf (updN ma9 (k + 1) ((c0 + 1) / 2))) (upd (nf (updN st9 k 1)) (k + 1) (nI 0)) hf9 (nf wa) ra ag) 14 (k + 1) dX6_sum_123 rfl (rfl) (by first | assumption | omega) (by decide) rfl ?_
          refine j_w (show mW a cI cZ n (nI 0) (nI fc) sp (nI cr) (nI ln) cx (nI jo) (nI wg) sh va (nf C) (nf fw) (nf fz) (nf fh) (nf G) di (nf B) ke (nf dO) (nf (updN fr9 (k + 1) f)) (nf (updN ma9 (k + 1) ((c0 + 1) / 2))) (upd (nf (updN st9 k 1)) (k + 1) (nI 0)) hf9 (nf wa) ra ag = mW a cI cZ n (nI 0) (nI fc) sp (nI cr) (nI ln) cx (nI jo) (nI wg) sh va (nf C) (nf fw) (nf fz) (nf fh) (nf G) di (nf B) ke (nf dO) (nf (updN fr9 (k + 1) f)) (nf (updN ma9 (k + 1) ((c0 + 1) / 2))) (nf (updN (updN st9 k 1) (k + 1) 0)) hf9 (nf wa) ra ag by rw [nf_upd]) ?_
          refine j_iinc CX (v := nI (k + 1 + 1)) (lv' := [(1, .int (nI (k + 1 + 1))), (4, .int (nI ((c0 + 1) / 2))), (3, .int (nI k)), (2, .int r9), (0, .ref (a 0))]) 2 dX6_sum_124 rfl (nI_1 _) (by decide) rfl ?_
          refine j_goto CX 214 dX6_sum_127 (by decide) ?_
          refine j_goto CX 33 dX6_sum_214 (by decide) ?_
          refine j_lv (lv' := [(1, .int (nI (k + 1 + 1))), (2, .int r9), (0, .ref (a 0))]) [0, 3, 4] rfl ?_
          refine A4 (k + 1) f ((c0 + 1) / 2) _ _ _ _ _ (by omega) (by omega) (by omega) (by omega) (by rw [updN_s]) (by rw [updN_s]) (by rw [updN_s]) (fun fr8 ma8 st8 hf8 h8 => ?_)
          have g8 := h8 k (by omega)
          refine B5 k f c0 fr8 ma8 st8 hf8 _ hk hc1 hc2 hfc0 (by rw [g8.1, updN_n (by omega), hfr]) (by rw [g8.2.1, updN_n (by omega), hma]) (by omega) (by rw [g8.2.2.1, updN_n (by omega), updN_s]) rfl (fun fr7 ma7 st7 hf7 h7 => hkk fr7 ma7 st7 hf7 (fun j hj => ?_))
          have g7 := h7 j hj
          have g6 := h8 j (by omega)
          exact ⟨by rw [g7.1, g6.1, updN_n (by omega)], by rw [g7.2.1, g6.2.1, updN_n (by omega)], by rw [g7.2.2.1, g6.2.2.1, updN_n (by omega), updN_n (by omega)], by rw [g7.2.2.2, g6.2.2.2]⟩
      · refine j_aload_n CX 4 dX6_sum_63 rfl rfl ?_
        refine j_get CX 0 3 dX6_sum_64 rfl rfl hin6 (by decide) hfl13 rfl ?_
        refine j_aload_n CX 4 dX6_sum_67 rfl rfl ?_
        refine j_get CX 0 18 dX6_sum_68 rfl rfl hin6 (by decide) hfl48 rfl ?_
        refine j_iload_n CX 1 dX6_sum_71 rfl rfl ?_
        refine j_iald CX 12 k dX6_sum_72 rfl (rfl) (by first | assumption | omega) (by decide) ?_
        refine j_top (show (nI (fr9 k)) = nI f from by rw [hfr]) ?_
        refine j_iald CX 2 f dX6_sum_73 rfl (rfl) (by first | assumption | omega) (by decide) ?_
        refine j_istore_n CX (lv' := [(2, .int (va f)), (4, .int (nI ((c0 + 1) / 2))), (3, .int (nI k)), (1, .int (nI (k + 1))), (0, .ref (a 0))]) dX6_sum_74 rfl (by decide) rfl ?_
        refine j_lve (lv' := [(2, .int (tsR va 5 f c0)), (4, .int (nI ((c0 + 1) / 2))), (3, .int (nI k)), (1, .int (nI (k + 1))), (0, .ref (a 0))]) (by rw [show tsR va 5 f c0 = va f by show (if _ then _ else _) = _; rw [if_pos (by omega)]]) ?_
        refine j_iinc CX (v := nI k) (lv' := [(1, .int (nI k)), (2, .int (tsR va 5 f c0)), (4, .int (nI ((c0 + 1) / 2))), (3, .int (nI k)), (0, .ref (a 0))]) 3 dX6_sum_75 rfl (by rw [sub_m1]; exact nI_m1 _) (by decide) rfl ?_
        refine j_goto CX 214 dX6_sum_78 (by decide) ?_
        refine j_goto CX 33 dX6_sum_214 (by decide) ?_
        refine j_lv (lv' := [(1, .int (nI k)), (2, .int (tsR va 5 f c0)), (0, .ref (a 0))]) [0, 1, 4] rfl ?_
        exact hkk _ _ _ _ (fun j hj => ⟨rfl, rfl, rfl, rfl⟩)
  show J p l e rmX6_sum s m args below meth c D A 5 0 0 (MQ below (jQc D (fun r0 w0 => ∃ fr' ma' st' hf', r0 = some (.int (tsR va 5 0 n)) ∧ w0 = mW a cI cZ n (nI 0) (nI fc) sp (nI cr) (nI ln) cx (nI jo) (nI wg) sh va (nf C) (nf fw) (nf fz) (nf fh) (nf G) di (nf B) ke (nf dO) (nf fr') (nf ma') (nf st') hf' (nf wa) ra ag) A) args s rmX6_sum.cells rmX6_sum.slots A) (mW a cI cZ n thr (nI fc) sp (nI cr) (nI ln) cx (nI jo) (nI wg) sh va (nf C) (nf fw) (nf fz) (nf fh) (nf G) di (nf B) ke (nf dO) (nf fr) (nf ma) (nf st) hf (nf wa) ra ag) 0 [(0, .ref (a 0))] []
  refine j_aload_n CX 0 dX6_sum_0 rfl rfl ?_
  refine j_iconst CX dX6_sum_1 (show _ = (nI 0 : Int32) by decide) ?_
  refine j_put CX (w' := mW a cI cZ n (nI 0) (nI fc) sp (nI cr) (nI ln) cx (nI jo) (nI wg) sh va (nf C) (nf fw) (nf fz) (nf fh) (nf G) di (nf B) ke (nf dO) (nf fr) (nf ma) (nf st) hf (nf wa) ra ag) 0 0 dX6_sum_2 rfl rfl hin6 tyX6 tyX6_ok nmX6 (by decide) hfl72 rfl rfl rfl rfl (Nat.le_of_ble_eq_true rfl) rfl ?_
  refine j_iconst CX dX6_sum_5 (show _ = (nI 1 : Int32) by decide) ?_
  refine j_istore_n CX (lv' := [(1, .int (nI 1)), (0, .ref (a 0))]) dX6_sum_6 rfl (by decide) rfl ?_
  refine j_iconst CX dX6_sum_7 (show _ = (nI 0 : Int32) by decide) ?_
  refine j_istore_n CX (lv' := [(2, .int (nI 0)), (1, .int (nI 1)), (0, .ref (a 0))]) dX6_sum_8 rfl (by decide) rfl ?_
  refine j_aload_n CX 2 dX6_sum_9 rfl rfl ?_
  refine j_get CX 0 18 dX6_sum_10 rfl rfl hin6 (by decide) hfl48 rfl ?_
  refine j_iconst CX dX6_sum_13 (show _ = (nI 0 : Int32) by decide) ?_
  refine j_iconst CX dX6_sum_14 (show _ = (nI 0 : Int32) by decide) ?_
  refine j_iast CX (w' := mW a cI cZ n (nI 0) (nI fc) sp (nI cr) (nI ln) cx (nI jo) (nI wg) sh va (nf C) (nf fw) (nf fz) (nf fh) (nf G) di (nf B) ke (nf dO) (upd (nf fr) 0 (nI 0)) (nf ma) (nf st) hf (nf wa) ra ag) 12 0 dX6_sum_15 rfl (rfl) (by first | assumption | omega) (by decide) rfl ?_
  refine j_w (show mW a cI cZ n (nI 0) (nI fc) sp (nI cr) (nI ln) cx (nI jo) (nI wg) sh va (nf C) (nf fw) (nf fz) (nf fh) (nf G) di (nf B) ke (nf dO) (upd (nf fr) 0 (nI 0)) (nf ma) (nf st) hf (nf wa) ra ag = mW a cI cZ n (nI 0) (nI fc) sp (nI cr) (nI ln) cx (nI jo) (nI wg) sh va (nf C) (nf fw) (nf fz) (nf fh) (nf G) di (nf B) ke (nf dO) (nf (updN fr 0 0)) (nf ma) (nf st) hf (nf wa) ra ag by rw [nf_upd]) ?_
  refine j_aload_n CX 2 dX6_sum_16 rfl rfl ?_
  refine j_get CX 0 19 dX6_sum_17 rfl rfl hin6 (by decide) hfl51 rfl ?_
  refine j_iconst CX dX6_sum_20 (show _ = (nI 0 : Int32) by decide) ?_
  refine j_aload_n CX 2 dX6_sum_21 rfl rfl ?_
  refine j_get CX 0 1 dX6_sum_22 rfl rfl hin6 (by decide) hfl69 rfl ?_
  refine j_iast CX (w' := mW a cI cZ n (nI 0) (nI fc) sp (nI cr) (nI ln) cx (nI jo) (nI wg) sh va (nf C) (nf fw) (nf fz) (nf fh) (nf G) di (nf B) ke (nf dO) (nf (updN fr 0 0)) (upd (nf ma) 0 (nI n)) (nf st) hf (nf wa) ra ag) 13 0 dX6_sum_25 rfl (rfl) (by first | assumption | omega) (by decide) rfl ?_
  refine j_w (show mW a cI cZ n (nI 0) (nI fc) sp (nI cr) (nI ln) cx (nI jo) (nI wg) sh va (nf C) (nf fw) (nf fz) (nf fh) (nf G) di (nf B) ke (nf dO) (nf (updN fr 0 0)) (upd (nf ma) 0 (nI n)) (nf st) hf (nf wa) ra ag = mW a cI cZ n (nI 0) (nI fc) sp (nI cr) (nI ln) cx (nI jo) (nI wg) sh va (nf C) (nf fw) (nf fz) (nf fh) (nf G) di (nf B) ke (nf dO) (nf (updN fr 0 0)) (nf (updN ma 0 n)) (nf st) hf (nf wa) ra ag by rw [nf_upd]) ?_
  refine j_aload_n CX 2 dX6_sum_26 rfl rfl ?_
  refine j_get CX 0 20 dX6_sum_27 rfl rfl hin6 (by decide) hfl54 rfl ?_
  refine j_iconst CX dX6_sum_30 (show _ = (nI 0 : Int32) by decide) ?_
  refine j_iconst CX dX6_sum_31 (show _ = (nI 0 : Int32) by decide) ?_
  refine j_iast CX (w' := mW a cI cZ n (nI 0) (nI fc) sp (nI cr) (nI ln) cx (nI jo) (nI wg) sh va (nf C) (nf fw) (nf fz) (nf fh) (nf G) di (nf B) ke (nf dO) (nf (updN fr 0 0)) (nf (updN ma 0 n)) (upd (nf st) 0 (nI 0)) hf (nf wa) ra ag) 14 0 dX6_sum_32 rfl (rfl) (by first | assumption | omega) (by decide) rfl ?_
  refine j_w (show mW a cI cZ n (nI 0) (nI fc) sp (nI cr) (nI ln) cx (nI jo) (nI wg) sh va (nf C) (nf fw) (nf fz) (nf fh) (nf G) di (nf B) ke (nf dO) (nf (updN fr 0 0)) (nf (updN ma 0 n)) (upd (nf st) 0 (nI 0)) hf (nf wa) ra ag = mW a cI cZ n (nI 0) (nI fc) sp (nI cr) (nI ln) cx (nI jo) (nI wg) sh va (nf C) (nf fw) (nf fz) (nf fh) (nf G) di (nf B) ke (nf dO) (nf (updN fr 0 0)) (nf (updN ma 0 n)) (nf (updN st 0 0)) hf (nf wa) ra ag by rw [nf_upd]) ?_
  refine j_lv (lv' := [(1, .int (nI 1)), (2, .int (nI 0)), (0, .ref (a 0))]) [1, 0, 2] rfl ?_
  exact A5 0 0 n _ _ _ _ _ (by omega) h1 (by omega) (by omega) (updN_s _ _ _) (updN_s _ _ _) (updN_s _ _ _) (fun fr8 ma8 st8 hf8 _ => LE fr8 ma8 st8 hf8)
