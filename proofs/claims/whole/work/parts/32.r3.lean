abbrev rmX6_paint : Room := { frames := 0, cells := 0, slots := 0, locals := 0 }
set_option maxRecDepth 100000 in
set_option maxHeartbeats 4000000 in
theorem r_paint (l : Launch) (D : va_G) (cI cZ cL : ClassId) (a : Nat → Nat) (n : Nat) (thr : Int32) (fc : Nat) (sp : Int32) (cr ln : Nat) (cx : Int32) (jo wg : Nat) (sh va : Nat → Int32) (C fw fz fh G : Nat → Nat) (di : Nat → Int32) (B : Nat → Nat) (ke : Nat → Int32) (dO fr ma st : Nat → Nat) (hf : Nat → Int32) (wa : Nat → Nat) (ra ag : Nat → Int32) (hn : n ≤ 24) : Cg l D cI cZ cL yX6_paint wsX6_paint rmX6_paint [.ref (a 0)] (mW a cI cZ n thr (nI fc) sp (nI cr) (nI ln) cx (nI jo) (nI wg) sh va (nf C) (nf fw) (nf fz) (nf fh) (nf G) di (nf B) ke (nf dO) (nf fr) (nf ma) (nf st) hf (nf wa) ra ag) (fun r0 w0 => r0 = none ∧ w0 = mW a cI cZ n thr (nI fc) sp (nI cr) (nI ln) cx (nI jo) (nI wg) sh va (nf (rpC sh C n)) (nf fw) (nf fz) (nf fh) (nf G) di (nf B) ke (nf dO) (nf fr) (nf ma) (nf st) hf (nf wa) ra ag) := by
  refine Cg.ofJ (own := RX6) (cc := cX6_paint) (maxL := 5) (ret := none) (by decide) rfl rfl (Nat.le_of_ble_eq_true rfl) ?_
  intro p e s m args below meth c A CX hr hlocks hname
  have hin6 : ∀ x ∈ u_ws RX6 TX6 27, x ∈ wsX6_paint := by decide +kernel
  have hfl16 : Cond.fieldLink RX6 16 (TX6 4).1 (TX6 4).2.1 (TX6 4).2.2.1 ∈ wsX6_paint := by decide +kernel
  have hfl7 : Cond.fieldLink RX6 7 (TX6 2).1 (TX6 2).2.1 (TX6 2).2.2.1 ∈ wsX6_paint := by decide +kernel
  have hfl69 : Cond.fieldLink RX6 69 (TX6 1).1 (TX6 1).2.1 (TX6 1).2.2.1 ∈ wsX6_paint := by decide +kernel
  have L2 : ∀ (d2 : Nat) (z9 : Nat), n - z9 = d2 → z9 ≤ n → J p l e rmX6_paint s m args below meth c D A 5 0 0 (MQ below (jQc D (fun r0 w0 => r0 = none ∧ w0 = mW a cI cZ n thr (nI fc) sp (nI cr) (nI ln) cx (nI jo) (nI wg) sh va (nf (rpC sh C n)) (nf fw) (nf fz) (nf fh) (nf G) di (nf B) ke (nf dO) (nf fr) (nf ma) (nf st) hf (nf wa) ra ag) A) args s rmX6_paint.cells rmX6_paint.slots A) (mW a cI cZ n thr (nI fc) sp (nI cr) (nI ln) cx (nI jo) (nI wg) sh va (nf (rpC sh C z9)) (nf fw) (nf fz) (nf fh) (nf G) di (nf B) ke (nf dO) (nf fr) (nf ma) (nf st) hf (nf wa) ra ag) 2 [(1, .int (nI z9)), (0, .ref (a 0))] [] := by
    intro d2
    induction d2 using Nat.strongRecOn with
    | _ d2 ih2 =>
      intro z9 hd hz9
      have hCz : ∀ k, k < z9 → rpC sh C z9 k ≤ k := rpC_le sh C z9
      have L18 : ∀ (d18 : Nat) (c9 f9 : Nat), z9 - c9 = d18 → c9 ≤ z9 → z9 < n → rcS sh (rpC sh C z9) z9 (z9 - c9) c9 = rcS sh (rpC sh C z9) z9 z9 0 → J p l e rmX6_paint s m args below meth c D A 5 0 0 (MQ below (jQc D (fun r0 w0 => r0 = none ∧ w0 = mW a cI cZ n thr (nI fc) sp (nI cr) (nI ln) cx (nI jo) (nI wg) sh va (nf (rpC sh C n)) (nf fw) (nf fz) (nf fh) (nf G) di (nf B) ke (nf dO) (nf fr) (nf ma) (nf st) hf (nf wa) ra ag) A) args s rmX6_paint.cells rmX6_paint.slots A) (mW a cI cZ n thr (nI fc) sp (nI cr) (nI ln) cx (nI jo) (nI wg) sh va (nf (rpC sh C z9)) (nf fw) (nf fz) (nf fh) (nf G) di (nf B) ke (nf dO) (nf fr) (nf ma) (nf st) hf (nf wa) ra ag) 18 [(3, .int (nI f9)), (2, .int (nI c9)), (1, .int (nI z9)), (0, .ref (a 0))] [] := by
        intro d18
        induction d18 using Nat.strongRecOn with
        | _ d18 ih18 =>
          intro c9 f9 hd1 hc9 hzn he
          have L23 : ∀ (d23 : Nat) (o9 : Nat), z9 - o9 = d23 → o9 ≤ z9 → J p l e rmX6_paint s m args below meth c D A 5 0 0 (MQ below (jQc D (fun r0 w0 => r0 = none ∧ w0 = mW a cI cZ n thr (nI fc) sp (nI cr) (nI ln) cx (nI jo) (nI wg) sh va (nf (rpC sh C n)) (nf fw) (nf fz) (nf fh) (nf G) di (nf B) ke (nf dO) (nf fr) (nf ma) (nf st) hf (nf wa) ra ag) A) args s rmX6_paint.cells rmX6_paint.slots A) (mW a cI cZ n thr (nI fc) sp (nI cr) (nI ln) cx (nI jo) (nI wg) sh va (nf (rpC sh C z9)) (nf fw) (nf fz) (nf fh) (nf G) di (nf B) ke (nf dO) (nf fr) (nf ma) (nf st) hf (nf wa) ra ag) 23 [(4, .int (nI o9)), (3, .int (nI (frF sh (rpC sh C z9) z9 c9 o9))), (2, .int (nI c9)), (1, .int (nI z9)), (0, .ref (a 0))] [] := by
            intro d23
            induction d23 using Nat.strongRecOn with
            | _ d23 ih23 =>
              intro o9 hd2 ho9
              have hfr := frF_le sh (rpC sh C z9) z9 c9 o9
              refine j_iload CX 0 dX6_paint_23 rfl ?_
              refine j_iload_n CX 3 dX6_paint_25 rfl rfl ?_
              refine j_icmpN_ge CX (by first | assumption | omega) (by first | assumption | omega | exact b2n_lt _ | exact t2n_lt _) 71 dX6_paint_26 (by decide) (fun h26 => ?_) (fun h26 => ?_)
              · have eo : o9 = z9 := by omega
                have hfz := eo
                refine j_iload_n CX 1 dX6_paint_71 rfl rfl ?_
                refine j_ifN_eq CX (by first | assumption | omega | exact b2n_lt _ | exact t2n_lt _) 79 dX6_paint_72 (by decide) (fun h72 => ?_) (fun h72 => ?_)
                · have hz0 : frF sh (rpC sh C z9) z9 c9 z9 = 0 := (by have q9 := h72; rw [eo] at q9; exact q9)
                  have hcz : c9 ≠ z9 := fun q => frF_top z9 (fun k hk => by have := hCz k hk; omega) hz0
                  obtain ⟨d8, hd8⟩ : ∃ d8, z9 - c9 = d8 + 1 := ⟨z9 - c9 - 1, by omega⟩
                  refine j_iload_n CX 2 dX6_paint_79 rfl rfl ?_
                  refine j_iconst CX dX6_paint_80 (show _ = (nI 1 : Int32) by decide) ?_
                  refine j_iadd CX dX6_paint_81 ?_
                  refine j_top (show (nI c9) + (nI 1) = nI (c9 + 1) from nI_add _ _) ?_
                  refine j_istore_n CX (lv' := [(2, .int (nI (c9 + 1))), (4, .int (nI o9)), (3, .int (nI (frF sh (rpC sh C z9) z9 c9 o9))), (1, .int (nI z9)), (0, .ref (a 0))]) dX6_paint_82 rfl (by decide) rfl ?_
                  refine j_goto CX 14 dX6_paint_83 (by decide) ?_
                  refine j_iload_n CX 2 dX6_paint_14 rfl rfl ?_
                  refine j_ifN_ne CX (by first | assumption | omega | exact b2n_lt _ | exact t2n_lt _) 86 dX6_paint_15 (by decide) (fun h15 => ?_) (fun h15 => ?_)
                  · exact absurd h72 h15
                  · refine j_lv (lv' := [(3, .int (nI (frF sh (rpC sh C z9) z9 c9 o9))), (2, .int (nI (c9 + 1))), (1, .int (nI z9)), (0, .ref (a 0))]) [2, 0, 3, 4] rfl ?_
                    exact ih18 _ (by omega) (c9 + 1) (frF sh (rpC sh C z9) z9 c9 o9) rfl (by omega) (by omega) (by rw [← he, hd8, rcS_next hz0, show z9 - (c9 + 1) = d8 by omega])
                · have hz1 : frF sh (rpC sh C z9) z9 c9 z9 ≠ 0 := (by have q9 := h72; rw [eo] at q9; exact q9)
                  rw [rcS_here hz1] at he
                  refine j_iload_n CX 2 dX6_paint_75 rfl rfl ?_
                  refine j_goto CX 82 dX6_paint_76 (by decide) ?_
                  refine j_istore_n CX (lv' := [(2, .int (nI c9)), (4, .int (nI o9)), (3, .int (nI (frF sh (rpC sh C z9) z9 c9 o9))), (1, .int (nI z9)), (0, .ref (a 0))]) dX6_paint_82 rfl (by decide) rfl ?_
                  refine j_goto CX 14 dX6_paint_83 (by decide) ?_
                  refine j_iload_n CX 2 dX6_paint_14 rfl rfl ?_
                  refine j_ifN_ne CX (by first | assumption | omega | exact b2n_lt _ | exact t2n_lt _) 86 dX6_paint_15 (by decide) (fun h15 => ?_) (fun h15 => ?_)
                  · refine j_aload_n CX 4 dX6_paint_86 rfl rfl ?_
                    refine j_get CX 0 4 dX6_paint_87 rfl rfl hin6 (by decide) hfl16 rfl ?_
                    refine j_iload_n CX 3 dX6_paint_90 rfl rfl ?_
                    refine j_iload_n CX 0 dX6_paint_91 rfl rfl ?_
                    refine j_iast CX (w' := mW a cI cZ n thr (nI fc) sp (nI cr) (nI ln) cx (nI jo) (nI wg) sh va (upd (nf (rpC sh C z9)) z9 (nI c9)) (nf fw) (nf fz) (nf fh) (nf G) di (nf B) ke (nf dO) (nf fr) (nf ma) (nf st) hf (nf wa) ra ag) 3 z9 dX6_paint_92 rfl (rfl) (by first | assumption | omega) (by decide) rfl ?_
                    refine j_w (show mW a cI cZ n thr (nI fc) sp (nI cr) (nI ln) cx (nI jo) (nI wg) sh va (upd (nf (rpC sh C z9)) z9 (nI c9)) (nf fw) (nf fz) (nf fh) (nf G) di (nf B) ke (nf dO) (nf fr) (nf ma) (nf st) hf (nf wa) ra ag = mW a cI cZ n thr (nI fc) sp (nI cr) (nI ln) cx (nI jo) (nI wg) sh va (nf (updN (rpC sh C z9) z9 c9)) (nf fw) (nf fz) (nf fh) (nf G) di (nf B) ke (nf dO) (nf fr) (nf ma) (nf st) hf (nf wa) ra ag by rw [nf_upd]) ?_
                    refine j_iinc CX (v := nI (z9 + 1)) (lv' := [(1, .int (nI (z9 + 1))), (2, .int (nI c9)), (4, .int (nI o9)), (3, .int (nI (frF sh (rpC sh C z9) z9 c9 o9))), (0, .ref (a 0))]) 3 dX6_paint_93 rfl (nI_1 _) (by decide) rfl ?_
                    refine j_goto CX 2 dX6_paint_96 (by decide) ?_
                    refine j_lv (lv' := [(1, .int (nI (z9 + 1))), (0, .ref (a 0))]) [0, 4] rfl ?_
                    rw [show updN (rpC sh C z9) z9 c9 = rpC sh C (z9 + 1) by show _ = updN _ _ _; rw [← he]]
                    exact ih2 _ (by omega) (z9 + 1) rfl (by omega)
                  · exact absurd h15 h72
              · refine j_iload_n CX 1 dX6_paint_29 rfl rfl ?_
                refine j_ifN_eq CX (by first | assumption | omega | exact b2n_lt _ | exact t2n_lt _) 63 dX6_paint_30 (by decide) (fun h30 => ?_) (fun h30 => ?_)
                · refine j_iconst CX dX6_paint_63 (show _ = (nI 0 : Int32) by decide) ?_
                  refine j_top (show (nI 0 : Int32) = nI (frF sh (rpC sh C z9) z9 c9 (o9 + 1)) by first | rw [frF_0 h30] | rw [frF_s h30 h45] | rw [frF_c h30 h45 h56] | rw [frF_n h30 h45 h56]) ?_
                  refine j_istore_n CX (lv' := [(3, .int (nI (frF sh (rpC sh C z9) z9 c9 (o9 + 1)))), (4, .int (nI o9)), (2, .int (nI c9)), (1, .int (nI z9)), (0, .ref (a 0))]) dX6_paint_64 rfl (by decide) rfl ?_
                  refine j_iinc CX (v := nI (o9 + 1)) (lv' := [(4, .int (nI (o9 + 1))), (3, .int (nI (frF sh (rpC sh C z9) z9 c9 (o9 + 1)))), (2, .int (nI c9)), (1, .int (nI z9)), (0, .ref (a 0))]) 1 dX6_paint_65 rfl (nI_1 _) (by decide) rfl ?_
                  refine j_goto CX 23 dX6_paint_68 (by decide) ?_
                  exact ih23 _ (by omega) (o9 + 1) rfl (by omega)
                · refine j_aload_n CX 4 dX6_paint_33 rfl rfl ?_
                  refine j_get CX 0 2 dX6_paint_34 rfl rfl hin6 (by decide) hfl7 rfl ?_
                  refine j_bipush CX dX6_paint_37 (show _ = (nI 24 : Int32) by decide) ?_
                  refine j_iload_n CX 3 dX6_paint_39 rfl rfl ?_
                  refine j_imul CX dX6_paint_40 ?_
                  refine j_top (show (nI 24) * (nI z9) = nI (24 * z9) from pk_mul _ _) ?_
                  refine j_iload CX 0 dX6_paint_41 rfl ?_
                  refine j_iadd CX dX6_paint_43 ?_
                  refine j_top (show (nI (24 * z9)) + (nI o9) = nI (24 * z9 + o9) from nI_add _ _) ?_
                  refine j_iald CX 1 (24 * z9 + o9) dX6_paint_44 rfl (rfl) (by omega) (by decide) ?_
                  refine j_if_eq CX 59 dX6_paint_45 (by decide) (fun h45 => ?_) (fun h45 => ?_)
                  · refine j_iconst CX dX6_paint_59 (show _ = (nI 1 : Int32) by decide) ?_
                    refine j_goto CX 64 dX6_paint_60 (by decide) ?_
                    refine j_top (show (nI 1 : Int32) = nI (frF sh (rpC sh C z9) z9 c9 (o9 + 1)) by first | rw [frF_0 h30] | rw [frF_s h30 h45] | rw [frF_c h30 h45 h56] | rw [frF_n h30 h45 h56]) ?_
                    refine j_istore_n CX (lv' := [(3, .int (nI (frF sh (rpC sh C z9) z9 c9 (o9 + 1)))), (4, .int (nI o9)), (2, .int (nI c9)), (1, .int (nI z9)), (0, .ref (a 0))]) dX6_paint_64 rfl (by decide) rfl ?_
                    refine j_iinc CX (v := nI (o9 + 1)) (lv' := [(4, .int (nI (o9 + 1))), (3, .int (nI (frF sh (rpC sh C z9) z9 c9 (o9 + 1)))), (2, .int (nI c9)), (1, .int (nI z9)), (0, .ref (a 0))]) 1 dX6_paint_65 rfl (nI_1 _) (by decide) rfl ?_
                    refine j_goto CX 23 dX6_paint_68 (by decide) ?_
                    exact ih23 _ (by omega) (o9 + 1) rfl (by omega)
                  · have e1 := hCz o9 (by omega)
                    refine j_aload_n CX 4 dX6_paint_48 rfl rfl ?_
                    refine j_get CX 0 4 dX6_paint_49 rfl rfl hin6 (by decide) hfl16 rfl ?_
                    refine j_iload CX 0 dX6_paint_52 rfl ?_
                    refine j_iald CX 3 o9 dX6_paint_54 rfl (rfl) (by first | assumption | omega) (by decide) ?_
                    refine j_iload_n CX 2 dX6_paint_55 rfl rfl ?_
                    refine j_icmpN_eq CX (by first | assumption | omega) (by first | assumption | omega | exact b2n_lt _ | exact t2n_lt _) 63 dX6_paint_56 (by decide) (fun h56 => ?_) (fun h56 => ?_)
                    · refine j_iconst CX dX6_paint_63 (show _ = (nI 0 : Int32) by decide) ?_
                      refine j_top (show (nI 0 : Int32) = nI (frF sh (rpC sh C z9) z9 c9 (o9 + 1)) by first | rw [frF_0 h30] | rw [frF_s h30 h45] | rw [frF_c h30 h45 h56] | rw [frF_n h30 h45 h56]) ?_
                      refine j_istore_n CX (lv' := [(3, .int (nI (frF sh (rpC sh C z9) z9 c9 (o9 + 1)))), (4, .int (nI o9)), (2, .int (nI c9)), (1, .int (nI z9)), (0, .ref (a 0))]) dX6_paint_64 rfl (by decide) rfl ?_
                      refine j_iinc CX (v := nI (o9 + 1)) (lv' := [(4, .int (nI (o9 + 1))), (3, .int (nI (frF sh (rpC sh C z9) z9 c9 (o9 + 1)))), (2, .int (nI c9)), (1, .int (nI z9)), (0, .ref (a 0))]) 1 dX6_paint_65 rfl (nI_1 _) (by decide) rfl ?_
                      refine j_goto CX 23 dX6_paint_68 (by decide) ?_
                      exact ih23 _ (by omega) (o9 + 1) rfl (by omega)
                    · refine j_iconst CX dX6_paint_59 (show _ = (nI 1 : Int32) by decide) ?_
                      refine j_goto CX 64 dX6_paint_60 (by decide) ?_
                      refine j_top (show (nI 1 : Int32) = nI (frF sh (rpC sh C z9) z9 c9 (o9 + 1)) by first | rw [frF_0 h30] | rw [frF_s h30 h45] | rw [frF_c h30 h45 h56] | rw [frF_n h30 h45 h56]) ?_
                      refine j_istore_n CX (lv' := [(3, .int (nI (frF sh (rpC sh C z9) z9 c9 (o9 + 1)))), (4, .int (nI o9)), (2, .int (nI c9)), (1, .int (nI z9)), (0, .ref (a 0))]) dX6_paint_64 rfl (by decide) rfl ?_
                      refine j_iinc CX (v := nI (o9 + 1)) (lv' := [(4, .int (nI (o9 + 1))), (3, .int (nI (frF sh (rpC sh C z9) z9 c9 (o9 + 1)))), (2, .int (nI c9)), (1, .int (nI z9)), (0, .ref (a 0))]) 1 dX6_paint_65 rfl (nI_1 _) (by decide) rfl ?_
                      refine j_goto CX 23 dX6_paint_68 (by decide) ?_
                      exact ih23 _ (by omega) (o9 + 1) rfl (by omega)
          refine j_iconst CX dX6_paint_18 (show _ = (nI 1 : Int32) by decide) ?_
          refine j_istore_n CX (lv' := [(3, .int (nI 1)), (2, .int (nI c9)), (1, .int (nI z9)), (0, .ref (a 0))]) dX6_paint_19 rfl (by decide) rfl ?_
          refine j_iconst CX dX6_paint_20 (show _ = (nI 0 : Int32) by decide) ?_
          refine j_istore CX (lv' := [(4, .int (nI 0)), (3, .int (nI 1)), (2, .int (nI c9)), (1, .int (nI z9)), (0, .ref (a 0))]) dX6_paint_21 (by decide) rfl ?_
          exact L23 _ 0 rfl (Nat.zero_le _)
      refine j_iload_n CX 0 dX6_paint_2 rfl rfl ?_
      refine j_aload_n CX 1 dX6_paint_3 rfl rfl ?_
      refine j_get CX 0 1 dX6_paint_4 rfl rfl hin6 (by decide) hfl69 rfl ?_
      refine j_icmpN_ge CX (by first | assumption | omega) (by first | assumption | omega | exact b2n_lt _ | exact t2n_lt _) 99 dX6_paint_7 (by decide) (fun h7 => ?_) (fun h7 => ?_)
      · exact j_vret CX hr hlocks dX6_paint_99 (⟨rfl, by rw [show n = z9 by omega]⟩)
      · refine j_iconst CX dX6_paint_10 (show _ = (nI 0 : Int32) by decide) ?_
        refine j_istore_n CX (lv' := [(2, .int (nI 0)), (1, .int (nI z9)), (0, .ref (a 0))]) dX6_paint_11 rfl (by decide) rfl ?_
        refine j_iconst CX dX6_paint_12 (show _ = (nI 0 : Int32) by decide) ?_
        refine j_istore_n CX (lv' := [(3, .int (nI 0)), (2, .int (nI 0)), (1, .int (nI z9)), (0, .ref (a 0))]) dX6_paint_13 rfl (by decide) rfl ?_
        refine j_iload_n CX 0 dX6_paint_14 rfl rfl ?_
        refine j_ifN_ne CX (by first | assumption | omega | exact b2n_lt _ | exact t2n_lt _) 86 dX6_paint_15 (by decide) (fun h15 => absurd h15 (by decide)) (fun h15 => ?_)
        exact L18 _ 0 0 rfl (Nat.zero_le _) (by omega) rfl
  show J p l e rmX6_paint s m args below meth c D A 5 0 0 (MQ below (jQc D (fun r0 w0 => r0 = none ∧ w0 = mW a cI cZ n thr (nI fc) sp (nI cr) (nI ln) cx (nI jo) (nI wg) sh va (nf (rpC sh C n)) (nf fw) (nf fz) (nf fh) (nf G) di (nf B) ke (nf dO) (nf fr) (nf ma) (nf st) hf (nf wa) ra ag) A) args s rmX6_paint.cells rmX6_paint.slots A) (mW a cI cZ n thr (nI fc) sp (nI cr) (nI ln) cx (nI jo) (nI wg) sh va (nf C) (nf fw) (nf fz) (nf fh) (nf G) di (nf B) ke (nf dO) (nf fr) (nf ma) (nf st) hf (nf wa) ra ag) 0 [(0, .ref (a 0))] []
  refine j_iconst CX dX6_paint_0 (show _ = (nI 0 : Int32) by decide) ?_
  refine j_istore_n CX (lv' := [(1, .int (nI 0)), (0, .ref (a 0))]) dX6_paint_1 rfl (by decide) rfl ?_
  exact L2 _ 0 rfl (Nat.zero_le _)

abbrev rmX6_colours : Room := { frames := 1, cells := 0, slots := 0, locals := 24 }
set_option maxRecDepth 100000 in
set_option maxHeartbeats 4000000 in
theorem r_colours (l : Launch) (D : va_G) (cI cZ cL : ClassId) (a : Nat → Nat) (n : Nat) (thr : Int32) (fc : Nat) (sp : Int32) (cr ln : Nat) (cx : Int32) (jo wg : Nat) (sh va : Nat → Int32) (C fw fz fh G : Nat → Nat) (di : Nat → Int32) (B : Nat → Nat) (ke : Nat → Int32) (dO fr ma st : Nat → Nat) (hf : Nat → Int32) (wa : Nat → Nat) (ra ag : Nat → Int32) (hn : n ≤ 24) : Cg l D cI cZ cL yX6_colours wsX6_colours rmX6_colours [.ref (a 0)] (mW a cI cZ n thr (nI fc) sp (nI cr) (nI ln) cx (nI jo) (nI wg) sh va (nf C) (nf fw) (nf fz) (nf fh) (nf G) di (nf B) ke (nf dO) (nf fr) (nf ma) (nf st) hf (nf wa) ra ag) (fun r0 w0 => r0 = some (.int (nI (mxC (rpC sh C n) n + 1))) ∧ w0 = mW a cI cZ n (nI 0) (nI fc) sp (nI cr) (nI ln) cx (nI jo) (nI wg) sh va (nf (rpC sh C n)) (nf fw) (nf fz) (nf fh) (nf G) di (nf B) ke (nf dO) (nf fr) (nf ma) (nf st) hf (nf wa) ra ag) := by
  refine Cg.ofJ (own := RX6) (cc := cX6_colours) (maxL := 3) (ret := (some .int)) (by decide) rfl rfl (Nat.le_of_ble_eq_true rfl) ?_
  intro p e s m args below meth c A CX hr hlocks hname
  have hin6 : ∀ x ∈ u_ws RX6 TX6 27, x ∈ wsX6_colours := by decide +kernel
  have hfl69 : Cond.fieldLink RX6 69 (TX6 1).1 (TX6 1).2.1 (TX6 1).2.2.1 ∈ wsX6_colours := by decide +kernel
  have hfl16 : Cond.fieldLink RX6 16 (TX6 4).1 (TX6 4).2.1 (TX6 4).2.2.1 ∈ wsX6_colours := by decide +kernel
  have hfl72 : Cond.fieldLink RX6 72 (TX6 0).1 (TX6 0).2.1 (TX6 0).2.2.1 ∈ wsX6_colours := by decide +kernel
  have hCn : ∀ k, k < n → rpC sh C n k ≤ k := rpC_le sh C n
  have L13 : ∀ (d13 : Nat) (z9 : Nat), n - z9 = d13 → z9 ≤ n → J p l e rmX6_colours s m args below meth c D A 3 0 0 (MQ below (jQc D (fun r0 w0 => r0 = some (.int (nI (mxC (rpC sh C n) n + 1))) ∧ w0 = mW a cI cZ n (nI 0) (nI fc) sp (nI cr) (nI ln) cx (nI jo) (nI wg) sh va (nf (rpC sh C n)) (nf fw) (nf fz) (nf fh) (nf G) di (nf B) ke (nf dO) (nf fr) (nf ma) (nf st) hf (nf wa) ra ag) A) args s rmX6_colours.cells rmX6_colours.slots A) (mW a cI cZ n (nI 0) (nI fc) sp (nI cr) (nI ln) cx (nI jo) (nI wg) sh va (nf (rpC sh C n)) (nf fw) (nf fz) (nf fh) (nf G) di (nf B) ke (nf dO) (nf fr) (nf ma) (nf st) hf (nf wa) ra ag) 13 [(2, .int (nI z9)), (1, .int (nI (mxC (rpC sh C n) z9))), (0, .ref (a 0))] [] := by
    intro d13
    induction d13 using Nat.strongRecOn with
    | _ d13 ih13 =>
      intro z9 hd hz9
      have hmx : mxC (rpC sh C n) z9 ≤ 24 := mxC_le _ 24 z9 (fun j hj => by have := hCn j (by omega); omega)
      refine j_iload_n CX 0 dX6_colours_13 rfl rfl ?_
      refine j_aload_n CX 2 dX6_colours_14 rfl rfl ?_
      refine j_get CX 0 1 dX6_colours_15 rfl rfl hin6 (by decide) hfl69 rfl ?_
      refine j_icmpN_ge CX (by first | assumption | omega) (by first | assumption | omega | exact b2n_lt _ | exact t2n_lt _) 48 dX6_colours_18 (by decide) (fun h18 => ?_) (fun h18 => ?_)
      · refine j_iload_n CX 1 dX6_colours_48 rfl rfl ?_
        refine j_iconst CX dX6_colours_49 (show _ = (nI 1 : Int32) by decide) ?_
        refine j_iadd CX dX6_colours_50 ?_
        refine j_top (show (nI (mxC (rpC sh C n) z9)) + (nI 1) = nI (mxC (rpC sh C n) z9 + 1) from nI_add _ _) ?_
        exact j_iret CX hr hlocks dX6_colours_51 (⟨by rw [show z9 = n by omega], rfl⟩)
      · have e1 := hCn z9 (by omega)
        refine j_aload_n CX 2 dX6_colours_21 rfl rfl ?_
        refine j_get CX 0 4 dX6_colours_22 rfl rfl hin6 (by decide) hfl16 rfl ?_
        refine j_iload_n CX 0 dX6_colours_25 rfl rfl ?_
        refine j_iald CX 3 z9 dX6_colours_26 rfl (rfl) (by first | assumption | omega) (by decide) ?_
        refine j_iload_n CX 1 dX6_colours_27 rfl rfl ?_
        refine j_icmpN_le CX (by first | assumption | omega) (by first | assumption | omega | exact b2n_lt _ | exact t2n_lt _) 40 dX6_colours_28 (by decide) (fun h28 => ?_) (fun h28 => ?_)
        · refine j_iload_n CX 1 dX6_colours_40 rfl rfl ?_
          refine j_top (show (nI (mxC (rpC sh C n) z9)) = nI (mxC (rpC sh C n) (z9 + 1)) by first | rw [show mxC (rpC sh C n) (z9 + 1) = mxC (rpC sh C n) z9 by show (if _ then _ else _) = _; rw [if_pos h28]] | rw [show mxC (rpC sh C n) (z9 + 1) = (rpC sh C n) z9 by show (if _ then _ else _) = _; rw [if_neg (Nat.not_le.mpr h28)]]) ?_
          refine j_istore_n CX (lv' := [(1, .int (nI (mxC (rpC sh C n) (z9 + 1)))), (2, .int (nI z9)), (0, .ref (a 0))]) dX6_colours_41 rfl (by decide) rfl ?_
          refine j_iinc CX (v := nI (z9 + 1)) (lv' := [(2, .int (nI (z9 + 1))), (1, .int (nI (mxC (rpC sh C n) (z9 + 1)))), (0, .ref (a 0))]) 1 dX6_colours_42 rfl (nI_1 _) (by decide) rfl ?_
          refine j_goto CX 13 dX6_colours_45 (by decide) ?_
          exact ih13 _ (by omega) (z9 + 1) rfl (by omega)
        · refine j_aload_n CX 2 dX6_colours_31 rfl rfl ?_
          refine j_get CX 0 4 dX6_colours_32 rfl rfl hin6 (by decide) hfl16 rfl ?_
          refine j_iload_n CX 0 dX6_colours_35 rfl rfl ?_
          refine j_iald CX 3 z9 dX6_colours_36 rfl (rfl) (by first | assumption | omega) (by decide) ?_
          refine j_goto CX 41 dX6_colours_37 (by decide) ?_
          refine j_top (show (nI ((rpC sh C n) z9)) = nI (mxC (rpC sh C n) (z9 + 1)) by first | rw [show mxC (rpC sh C n) (z9 + 1) = mxC (rpC sh C n) z9 by show (if _ then _ else _) = _; rw [if_pos h28]] | rw [show mxC (rpC sh C n) (z9 + 1) = (rpC sh C n) z9 by show (if _ then _ else _) = _; rw [if_neg (Nat.not_le.mpr h28)]]) ?_
          refine j_istore_n CX (lv' := [(1, .int (nI (mxC (rpC sh C n) (z9 + 1)))), (2, .int (nI z9)), (0, .ref (a 0))]) dX6_colours_41 rfl (by decide) rfl ?_
          refine j_iinc CX (v := nI (z9 + 1)) (lv' := [(2, .int (nI (z9 + 1))), (1, .int (nI (mxC (rpC sh C n) (z9 + 1)))), (0, .ref (a 0))]) 1 dX6_colours_42 rfl (nI_1 _) (by decide) rfl ?_
          refine j_goto CX 13 dX6_colours_45 (by decide) ?_
          exact ih13 _ (by omega) (z9 + 1) rfl (by omega)
  show J p l e rmX6_colours s m args below meth c D A 3 0 0 (MQ below (jQc D (fun r0 w0 => r0 = some (.int (nI (mxC (rpC sh C n) n + 1))) ∧ w0 = mW a cI cZ n (nI 0) (nI fc) sp (nI cr) (nI ln) cx (nI jo) (nI wg) sh va (nf (rpC sh C n)) (nf fw) (nf fz) (nf fh) (nf G) di (nf B) ke (nf dO) (nf fr) (nf ma) (nf st) hf (nf wa) ra ag) A) args s rmX6_colours.cells rmX6_colours.slots A) (mW a cI cZ n thr (nI fc) sp (nI cr) (nI ln) cx (nI jo) (nI wg) sh va (nf C) (nf fw) (nf fz) (nf fh) (nf G) di (nf B) ke (nf dO) (nf fr) (nf ma) (nf st) hf (nf wa) ra ag) 0 [(0, .ref (a 0))] []
  refine j_aload_n CX 0 dX6_colours_0 rfl rfl ?_
  refine j_iconst CX dX6_colours_1 (show _ = (nI 0 : Int32) by decide) ?_
  refine j_put CX (w' := mW a cI cZ n (nI 0) (nI fc) sp (nI cr) (nI ln) cx (nI jo) (nI wg) sh va (nf C) (nf fw) (nf fz) (nf fh) (nf G) di (nf B) ke (nf dO) (nf fr) (nf ma) (nf st) hf (nf wa) ra ag) 0 0 dX6_colours_2 rfl rfl hin6 tyX6 tyX6_ok nmX6 (by decide) hfl72 rfl rfl rfl rfl (Nat.le_of_ble_eq_true rfl) rfl ?_
  refine j_aload_n CX 0 dX6_colours_5 rfl rfl ?_
  refine j_callV CX (n := 0) (pre := []) (post := []) (rest := []) (qc := (RX6, TX6, 27)) (r_paint l D cI cZ cL a n (nI 0) fc sp cr ln cx jo wg sh va C fw fz fh G di B ke dO fr ma st hf wa ra ag hn) gX6_colours_X6_paint rfl (by decide +kernel) ⟨Nat.le_of_ble_eq_true rfl, Nat.le_of_ble_eq_true rfl⟩ rfl rfl rfl rfl rfl (Nat.le_of_ble_eq_true rfl) dX6_colours_6 ⟨Nat.le_refl _, Nat.le_refl _⟩ (fun r9 w9 h9 => ?_)
  obtain ⟨rfl, rfl⟩ := h9
  refine j_w (w' := mW a cI cZ n (nI 0) (nI fc) sp (nI cr) (nI ln) cx (nI jo) (nI wg) sh va (nf (rpC sh C n)) (nf fw) (nf fz) (nf fh) (nf G) di (nf B) ke (nf dO) (nf fr) (nf ma) (nf st) hf (nf wa) ra ag) rfl ?_
  refine j_st (st9 := []) rfl ?_
  refine j_iconst CX dX6_colours_9 (show _ = (nI 0 : Int32) by decide) ?_
  refine j_istore_n CX (lv' := [(1, .int (nI 0)), (0, .ref (a 0))]) dX6_colours_10 rfl (by decide) rfl ?_
  refine j_iconst CX dX6_colours_11 (show _ = (nI 0 : Int32) by decide) ?_
  refine j_istore_n CX (lv' := [(2, .int (nI 0)), (1, .int (nI 0)), (0, .ref (a 0))]) dX6_colours_12 rfl (by decide) rfl ?_
  exact L13 _ 0 rfl (Nat.zero_le _)

abbrev rmX6_colour : Room := { frames := 1, cells := 0, slots := 0, locals := 24 }
set_option maxRecDepth 100000 in
set_option maxHeartbeats 4000000 in
theorem r_colour (l : Launch) (D : va_G) (cI cZ cL : ClassId) (a : Nat → Nat) (n : Nat) (thr : Int32) (fc : Nat) (sp : Int32) (cr ln : Nat) (cx : Int32) (jo wg : Nat) (sh va : Nat → Int32) (C fw fz fh G : Nat → Nat) (di : Nat → Int32) (B : Nat → Nat) (ke : Nat → Int32) (dO fr ma st : Nat → Nat) (hf : Nat → Int32) (wa : Nat → Nat) (ra ag : Nat → Int32) (z : Nat) (hn : n ≤ 24) (hz : z < n) : Cg l D cI cZ cL yX6_colour wsX6_colour rmX6_colour [.ref (a 0), .int (nI z)] (mW a cI cZ n thr (nI fc) sp (nI cr) (nI ln) cx (nI jo) (nI wg) sh va (nf C) (nf fw) (nf fz) (nf fh) (nf G) di (nf B) ke (nf dO) (nf fr) (nf ma) (nf st) hf (nf wa) ra ag) (fun r0 w0 => r0 = some (.int (nI (rpC sh C n z))) ∧ w0 = mW a cI cZ n (nI 0) (nI fc) sp (nI cr) (nI ln) cx (nI jo) (nI wg) sh va (nf (rpC sh C n)) (nf fw) (nf fz) (nf fh) (nf G) di (nf B) ke (nf dO) (nf fr) (nf ma) (nf st) hf (nf wa) ra ag) := by
  refine Cg.ofJ (own := RX6) (cc := cX6_colour) (maxL := 2) (ret := (some .int)) (by decide) rfl rfl (Nat.le_of_ble_eq_true rfl) ?_
  intro p e s m args below meth c A CX hr hlocks hname
  have hin6 : ∀ x ∈ u_ws RX6 TX6 27, x ∈ wsX6_colour := by decide +kernel
  have hfl72 : Cond.fieldLink RX6 72 (TX6 0).1 (TX6 0).2.1 (TX6 0).2.2.1 ∈ wsX6_colour := by decide +kernel
  have hfl16 : Cond.fieldLink RX6 16 (TX6 4).1 (TX6 4).2.1 (TX6 4).2.2.1 ∈ wsX6_colour := by decide +kernel
  show J p l e rmX6_colour s m args below meth c D A 2 0 0 (MQ below (jQc D (fun r0 w0 => r0 = some (.int (nI (rpC sh C n z))) ∧ w0 = mW a cI cZ n (nI 0) (nI fc) sp (nI cr) (nI ln) cx (nI jo) (nI wg) sh va (nf (rpC sh C n)) (nf fw) (nf fz) (nf fh) (nf G) di (nf B) ke (nf dO) (nf fr) (nf ma) (nf st) hf (nf wa) ra ag) A) args s rmX6_colour.cells rmX6_colour.slots A) (mW a cI cZ n thr (nI fc) sp (nI cr) (nI ln) cx (nI jo) (nI wg) sh va (nf C) (nf fw) (nf fz) (nf fh) (nf G) di (nf B) ke (nf dO) (nf fr) (nf ma) (nf st) hf (nf wa) ra ag) 0 [(0, .ref (a 0)), (1, .int (nI z))] []
  refine j_aload_n CX 0 dX6_colour_0 rfl rfl ?_
  refine j_aload_n CX 0 dX6_colour_1 rfl rfl ?_
  refine j_iload_n CX 1 dX6_colour_2 rfl rfl ?_
  refine j_callV CX (n := 1) (pre := []) (post := []) (rest := [.ref (a 0)]) (qc := (RX6, TX6, 27)) (r_nz_f l D cI cZ cL a n thr fc sp cr ln cx jo wg sh va C fw fz fh G di B ke dO fr ma st hf wa ra ag z hn (by omega)) gX6_colour_X6_noZone rfl (by decide +kernel) ⟨Nat.le_of_ble_eq_true rfl, Nat.le_of_ble_eq_true rfl⟩ rfl rfl rfl rfl rfl (Nat.le_of_ble_eq_true rfl) dX6_colour_3 ⟨Nat.le_refl _, Nat.le_refl _⟩ (fun r9 w9 h9 => ?_)
  obtain ⟨rfl, rfl⟩ := h9
  refine j_w (w' := mW a cI cZ n thr (nI fc) sp (nI cr) (nI ln) cx (nI jo) (nI wg) sh va (nf C) (nf fw) (nf fz) (nf fh) (nf G) di (nf B) ke (nf dO) (nf fr) (nf ma) (nf st) hf (nf wa) ra ag) rfl ?_
  refine j_st (st9 := [.int (nI 0), .ref (a 0)]) rfl ?_
  refine j_ifN_eq CX (by first | assumption | omega | exact b2n_lt _ | exact t2n_lt _) 13 dX6_colour_6 (by decide) (fun h6 => ?_) (fun h6 => absurd h6 (by decide))
  refine j_iconst CX dX6_colour_13 (show _ = (nI 0 : Int32) by decide) ?_
  refine j_put CX (w' := mW a cI cZ n (nI 0) (nI fc) sp (nI cr) (nI ln) cx (nI jo) (nI wg) sh va (nf C) (nf fw) (nf fz) (nf fh) (nf G) di (nf B) ke (nf dO) (nf fr) (nf ma) (nf st) hf (nf wa) ra ag) 0 0 dX6_colour_14 rfl rfl hin6 tyX6 tyX6_ok nmX6 (by decide) hfl72 rfl rfl rfl rfl (Nat.le_of_ble_eq_true rfl) rfl ?_
  refine j_aload_n CX 0 dX6_colour_17 rfl rfl ?_
  refine j_callV CX (n := 0) (pre := []) (post := []) (rest := []) (qc := (RX6, TX6, 27)) (r_paint l D cI cZ cL a n (nI 0) fc sp cr ln cx jo wg sh va C fw fz fh G di B ke dO fr ma st hf wa ra ag hn) gX6_colour_X6_paint rfl (by decide +kernel) ⟨Nat.le_of_ble_eq_true rfl, Nat.le_of_ble_eq_true rfl⟩ rfl rfl rfl rfl rfl (Nat.le_of_ble_eq_true rfl) dX6_colour_18 ⟨Nat.le_refl _, Nat.le_refl _⟩ (fun r9 w9 h9 => ?_)
  obtain ⟨rfl, rfl⟩ := h9
  refine j_w (w' := mW a cI cZ n (nI 0) (nI fc) sp (nI cr) (nI ln) cx (nI jo) (nI wg) sh va (nf (rpC sh C n)) (nf fw) (nf fz) (nf fh) (nf G) di (nf B) ke (nf dO) (nf fr) (nf ma) (nf st) hf (nf wa) ra ag) rfl ?_
  refine j_st (st9 := []) rfl ?_
  refine j_aload_n CX 0 dX6_colour_21 rfl rfl ?_
  refine j_get CX 0 0 dX6_colour_22 rfl rfl hin6 (by decide) hfl72 rfl ?_
  refine j_ifN_le CX (by first | assumption | omega | exact b2n_lt _ | exact t2n_lt _) 32 dX6_colour_25 (by decide) (fun h25 => ?_) (fun h25 => absurd h25 (by decide))
  refine j_aload_n CX 0 dX6_colour_32 rfl rfl ?_
  refine j_get CX 0 4 dX6_colour_33 rfl rfl hin6 (by decide) hfl16 rfl ?_
  refine j_iload_n CX 1 dX6_colour_36 rfl rfl ?_
  refine j_iald CX 3 z dX6_colour_37 rfl (rfl) (by first | assumption | omega) (by decide) ?_
  exact j_iret CX hr hlocks dX6_colour_38 (⟨rfl, rfl⟩)

set_option maxRecDepth 100000 in
set_option maxHeartbeats 4000000 in
theorem r_colour_x (l : Launch) (D : va_G) (cI cZ cL : ClassId) (a : Nat → Nat) (n : Nat) (thr : Int32) (fc : Nat) (sp : Int32) (cr ln : Nat) (cx : Int32) (jo wg : Nat) (sh va : Nat → Int32) (C fw fz fh G : Nat → Nat) (di : Nat → Int32) (B : Nat → Nat) (ke : Nat → Int32) (dO fr ma st : Nat → Nat) (hf : Nat → Int32) (wa : Nat → Nat) (ra ag : Nat → Int32) (v : Int32) (hn : n ≤ 24) (g : v < 0 ∨ nI n ≤ v) : Cg l D cI cZ cL yX6_colour wsX6_colour rmX6_colour [.ref (a 0), .int v] (mW a cI cZ n thr (nI fc) sp (nI cr) (nI ln) cx (nI jo) (nI wg) sh va (nf C) (nf fw) (nf fz) (nf fh) (nf G) di (nf B) ke (nf dO) (nf fr) (nf ma) (nf st) hf (nf wa) ra ag) (fun r0 w0 => r0 = some (.int (nI 0)) ∧ w0 = mW a cI cZ n (nI 1) (nI fc) sp (nI cr) (nI ln) cx (nI jo) (nI wg) sh va (nf (rpC sh C n)) (nf fw) (nf fz) (nf fh) (nf G) di (nf B) ke (nf dO) (nf fr) (nf ma) (nf st) hf (nf wa) ra ag) := by
  refine Cg.ofJ (own := RX6) (cc := cX6_colour) (maxL := 2) (ret := (some .int)) (by decide) rfl rfl (Nat.le_of_ble_eq_true rfl) ?_
  intro p e s m args below meth c A CX hr hlocks hname
  have hin6 : ∀ x ∈ u_ws RX6 TX6 27, x ∈ wsX6_colour := by decide +kernel
  have hfl72 : Cond.fieldLink RX6 72 (TX6 0).1 (TX6 0).2.1 (TX6 0).2.2.1 ∈ wsX6_colour := by decide +kernel
  show J p l e rmX6_colour s m args below meth c D A 2 0 0 (MQ below (jQc D (fun r0 w0 => r0 = some (.int (nI 0)) ∧ w0 = mW a cI cZ n (nI 1) (nI fc) sp (nI cr) (nI ln) cx (nI jo) (nI wg) sh va (nf (rpC sh C n)) (nf fw) (nf fz) (nf fh) (nf G) di (nf B) ke (nf dO) (nf fr) (nf ma) (nf st) hf (nf wa) ra ag) A) args s rmX6_colour.cells rmX6_colour.slots A) (mW a cI cZ n thr (nI fc) sp (nI cr) (nI ln) cx (nI jo) (nI wg) sh va (nf C) (nf fw) (nf fz) (nf fh) (nf G) di (nf B) ke (nf dO) (nf fr) (nf ma) (nf st) hf (nf wa) ra ag) 0 [(0, .ref (a 0)), (1, .int v)] []
  refine j_aload_n CX 0 dX6_colour_0 rfl rfl ?_
  refine j_aload_n CX 0 dX6_colour_1 rfl rfl ?_
  refine j_iload_n CX 1 dX6_colour_2 rfl rfl ?_
  refine j_callV CX (n := 1) (pre := []) (post := []) (rest := [.ref (a 0)]) (qc := (RX6, TX6, 27)) (r_nz_t l D cI cZ cL a n thr fc sp cr ln cx jo wg sh va C fw fz fh G di B ke dO fr ma st hf wa ra ag v (g)) gX6_colour_X6_noZone rfl (by decide +kernel) ⟨Nat.le_of_ble_eq_true rfl, Nat.le_of_ble_eq_true rfl⟩ rfl rfl rfl rfl rfl (Nat.le_of_ble_eq_true rfl) dX6_colour_3 ⟨Nat.le_refl _, Nat.le_refl _⟩ (fun r9 w9 h9 => ?_)
  obtain ⟨rfl, rfl⟩ := h9
  refine j_w (w' := mW a cI cZ n thr (nI fc) sp (nI cr) (nI ln) cx (nI jo) (nI wg) sh va (nf C) (nf fw) (nf fz) (nf fh) (nf G) di (nf B) ke (nf dO) (nf fr) (nf ma) (nf st) hf (nf wa) ra ag) rfl ?_
  refine j_st (st9 := [.int (nI 1), .ref (a 0)]) rfl ?_
  refine j_ifN_eq CX (by first | assumption | omega | exact b2n_lt _ | exact t2n_lt _) 13 dX6_colour_6 (by decide) (fun h6 => absurd h6 (by decide)) (fun h6 => ?_)
  refine j_iconst CX dX6_colour_9 (show _ = (nI 1 : Int32) by decide) ?_
  refine j_goto CX 14 dX6_colour_10 (by decide) ?_
  refine j_put CX (w' := mW a cI cZ n (nI 1) (nI fc) sp (nI cr) (nI ln) cx (nI jo) (nI wg) sh va (nf C) (nf fw) (nf fz) (nf fh) (nf G) di (nf B) ke (nf dO) (nf fr) (nf ma) (nf st) hf (nf wa) ra ag) 0 0 dX6_colour_14 rfl rfl hin6 tyX6 tyX6_ok nmX6 (by decide) hfl72 rfl rfl rfl rfl (Nat.le_of_ble_eq_true rfl) rfl ?_
  refine j_aload_n CX 0 dX6_colour_17 rfl rfl ?_
  refine j_callV CX (n := 0) (pre := []) (post := []) (rest := []) (qc := (RX6, TX6, 27)) (r_paint l D cI cZ cL a n (nI 1) fc sp cr ln cx jo wg sh va C fw fz fh G di B ke dO fr ma st hf wa ra ag hn) gX6_colour_X6_paint rfl (by decide +kernel) ⟨Nat.le_of_ble_eq_true rfl, Nat.le_of_ble_eq_true rfl⟩ rfl rfl rfl rfl rfl (Nat.le_of_ble_eq_true rfl) dX6_colour_18 ⟨Nat.le_refl _, Nat.le_refl _⟩ (fun r9 w9 h9 => ?_)
  obtain ⟨rfl, rfl⟩ := h9
  refine j_w (w' := mW a cI cZ n (nI 1) (nI fc) sp (nI cr) (nI ln) cx (nI jo) (nI wg) sh va (nf (rpC sh C n)) (nf fw) (nf fz) (nf fh) (nf G) di (nf B) ke (nf dO) (nf fr) (nf ma) (nf st) hf (nf wa) ra ag) rfl ?_
  refine j_st (st9 := []) rfl ?_
  refine j_aload_n CX 0 dX6_colour_21 rfl rfl ?_
  refine j_get CX 0 0 dX6_colour_22 rfl rfl hin6 (by decide) hfl72 rfl ?_
  refine j_ifN_le CX (by first | assumption | omega | exact b2n_lt _ | exact t2n_lt _) 32 dX6_colour_25 (by decide) (fun h25 => absurd h25 (by decide)) (fun h25 => ?_)
  refine j_iconst CX dX6_colour_28 (show _ = (nI 0 : Int32) by decide) ?_
  refine j_goto CX 38 dX6_colour_29 (by decide) ?_
  exact j_iret CX hr hlocks dX6_colour_38 (⟨rfl, rfl⟩)
