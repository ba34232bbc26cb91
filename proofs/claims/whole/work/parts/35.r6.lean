abbrev rmX6_run : Room := { frames := 3, cells := 0, slots := 0, locals := 71 }
set_option maxRecDepth 100000 in
set_option maxHeartbeats 4000000 in
theorem r_run (l : Launch) (D : va_G) (cI cZ cL : ClassId) (a : Nat → Nat) (n : Nat) (thr : Int32) (fc : Nat) (sp : Int32) (cr ln : Nat) (cx : Int32) (jo wg : Nat) (sh va : Nat → Int32) (C fw fz fh G : Nat → Nat) (di : Nat → Int32) (B : Nat → Nat) (ke : Nat → Int32) (dO fr ma st : Nat → Nat) (hf : Nat → Int32) (wa : Nat → Nat) (ra ag : Nat → Int32) (W : Nat) (sd : Int32) (H : Nat) (hn : n ≤ 24) (hW1 : 1 ≤ W) (hW : W ≤ 16) (hH1 : 1 ≤ H) (hH : H ≤ 50) (hfc : fc ≤ 200) (hfw : ∀ k, k < fc → fw k < 2 ^ 31) (hfz : ∀ k, k < fc → fz k < 2 ^ 31) (hfh : ∀ k, k < fc → fh k < 2 ^ 31) : Cg l D cI cZ cL yX6_run wsX6_run rmX6_run [.ref (a 0), .int (nI W), .int sd, .int (nI H)] (mW a cI cZ n thr (nI fc) sp (nI cr) (nI ln) cx (nI jo) (nI wg) sh va (nf C) (nf fw) (nf fz) (nf fh) (nf G) di (nf B) ke (nf dO) (nf fr) (nf ma) (nf st) hf (nf wa) ra ag) (fun r0 w0 => r0 = some (.int (nI (rrF sh n (rpC sh C n) fw fz fh fc W (mxC (rpC sh C n) n + 1) sp H 0 (ke, (va, dzF G 16, dzI di 16, sd, B, 0, dO))).1)) ∧ w0 = mW a cI cZ n (nI 0) (nI fc) sp (nI W) (nI ((rrF sh n (rpC sh C n) fw fz fh fc W (mxC (rpC sh C n) n + 1) sp H 0 (ke, (va, dzF G 16, dzI di 16, sd, B, 0, dO))).2).2.2.2.2.2.2.1) (((rrF sh n (rpC sh C n) fw fz fh fc W (mxC (rpC sh C n) n + 1) sp H 0 (ke, (va, dzF G 16, dzI di 16, sd, B, 0, dO))).2).2.2.2.2.1) (nI jo) (nI wg) sh (((rrF sh n (rpC sh C n) fw fz fh fc W (mxC (rpC sh C n) n + 1) sp H 0 (ke, (va, dzF G 16, dzI di 16, sd, B, 0, dO))).2).2.1) (nf (rpC sh C n)) (nf fw) (nf fz) (nf fh) (nf ((rrF sh n (rpC sh C n) fw fz fh fc W (mxC (rpC sh C n) n + 1) sp H 0 (ke, (va, dzF G 16, dzI di 16, sd, B, 0, dO))).2).2.2.1) (((rrF sh n (rpC sh C n) fw fz fh fc W (mxC (rpC sh C n) n + 1) sp H 0 (ke, (va, dzF G 16, dzI di 16, sd, B, 0, dO))).2).2.2.2.1) (nf ((rrF sh n (rpC sh C n) fw fz fh fc W (mxC (rpC sh C n) n + 1) sp H 0 (ke, (va, dzF G 16, dzI di 16, sd, B, 0, dO))).2).2.2.2.2.2.1) (((rrF sh n (rpC sh C n) fw fz fh fc W (mxC (rpC sh C n) n + 1) sp H 0 (ke, (va, dzF G 16, dzI di 16, sd, B, 0, dO))).2).1) (nf ((rrF sh n (rpC sh C n) fw fz fh fc W (mxC (rpC sh C n) n + 1) sp H 0 (ke, (va, dzF G 16, dzI di 16, sd, B, 0, dO))).2).2.2.2.2.2.2.2) (nf fr) (nf ma) (nf st) hf (nf wa) ra ag) := by
  refine Cg.ofJ (own := RX6) (cc := cX6_run) (maxL := 7) (ret := (some .int)) (by decide) rfl rfl (Nat.le_of_ble_eq_true rfl) ?_
  intro p e s m args below meth c A CX hr hlocks hname
  have hin6 : ∀ x ∈ u_ws RX6 TX6 27, x ∈ wsX6_run := by decide +kernel
  have hfl28 : Cond.fieldLink RX6 28 (TX6 9).1 (TX6 9).2.1 (TX6 9).2.2.1 ∈ wsX6_run := by decide +kernel
  have hfl32 : Cond.fieldLink RX6 32 (TX6 11).1 (TX6 11).2.1 (TX6 11).2.2.1 ∈ wsX6_run := by decide +kernel
  have hfl36 : Cond.fieldLink RX6 36 (TX6 12).1 (TX6 12).2.1 (TX6 12).2.2.1 ∈ wsX6_run := by decide +kernel
  have hfl72 : Cond.fieldLink RX6 72 (TX6 0).1 (TX6 0).2.1 (TX6 0).2.2.1 ∈ wsX6_run := by decide +kernel
  have hfl107 : Cond.fieldLink RX6 107 (TX6 10).1 (TX6 10).2.1 (TX6 10).2.2.1 ∈ wsX6_run := by decide +kernel
  have hfl110 : Cond.fieldLink RX6 110 (TX6 17).1 (TX6 17).2.1 (TX6 17).2.2.1 ∈ wsX6_run := by decide +kernel
  have hfl104 : Cond.fieldLink RX6 104 (TX6 13).1 (TX6 13).2.1 (TX6 13).2.2.1 ∈ wsX6_run := by decide +kernel
  have hRC0 : ∀ k, k < n → rpC sh C n k ≤ k := rpC_le sh C n
  have hRC : ∀ k, k < n → rpC sh C n k < 2 ^ 31 := fun k hk => by have := hRC0 k hk; omega
  have hKK : mxC (rpC sh C n) n ≤ 23 := mxC_le _ 23 n (fun j hj => by have := hRC0 j hj; omega)
  have L97 : ∀ (d97 : Nat) (h9 : Nat) (ke9 : Nat → Int32) (va9 : Nat → Int32) (G9 : Nat → Nat) (di9 : Nat → Int32) (cx9 : Int32) (B9 : Nat → Nat) (ln9 : Nat) (dO9 : Nat → Nat), H - h9 = d97 → h9 ≤ H → rqOk W (va9, G9, di9, cx9, B9, ln9, dO9) → rrF sh n (rpC sh C n) fw fz fh fc W (mxC (rpC sh C n) n + 1) sp (H - h9) h9 (ke9, (va9, G9, di9, cx9, B9, ln9, dO9)) = rrF sh n (rpC sh C n) fw fz fh fc W (mxC (rpC sh C n) n + 1) sp H 0 (ke, (va, dzF G 16, dzI di 16, sd, B, 0, dO)) → J p l e rmX6_run s m args below meth c D A 7 0 0 (MQ below (jQc D (fun r0 w0 => r0 = some (.int (nI (rrF sh n (rpC sh C n) fw fz fh fc W (mxC (rpC sh C n) n + 1) sp H 0 (ke, (va, dzF G 16, dzI di 16, sd, B, 0, dO))).1)) ∧ w0 = mW a cI cZ n (nI 0) (nI fc) sp (nI W) (nI ((rrF sh n (rpC sh C n) fw fz fh fc W (mxC (rpC sh C n) n + 1) sp H 0 (ke, (va, dzF G 16, dzI di 16, sd, B, 0, dO))).2).2.2.2.2.2.2.1) (((rrF sh n (rpC sh C n) fw fz fh fc W (mxC (rpC sh C n) n + 1) sp H 0 (ke, (va, dzF G 16, dzI di 16, sd, B, 0, dO))).2).2.2.2.2.1) (nI jo) (nI wg) sh (((rrF sh n (rpC sh C n) fw fz fh fc W (mxC (rpC sh C n) n + 1) sp H 0 (ke, (va, dzF G 16, dzI di 16, sd, B, 0, dO))).2).2.1) (nf (rpC sh C n)) (nf fw) (nf fz) (nf fh) (nf ((rrF sh n (rpC sh C n) fw fz fh fc W (mxC (rpC sh C n) n + 1) sp H 0 (ke, (va, dzF G 16, dzI di 16, sd, B, 0, dO))).2).2.2.1) (((rrF sh n (rpC sh C n) fw fz fh fc W (mxC (rpC sh C n) n + 1) sp H 0 (ke, (va, dzF G 16, dzI di 16, sd, B, 0, dO))).2).2.2.2.1) (nf ((rrF sh n (rpC sh C n) fw fz fh fc W (mxC (rpC sh C n) n + 1) sp H 0 (ke, (va, dzF G 16, dzI di 16, sd, B, 0, dO))).2).2.2.2.2.2.1) (((rrF sh n (rpC sh C n) fw fz fh fc W (mxC (rpC sh C n) n + 1) sp H 0 (ke, (va, dzF G 16, dzI di 16, sd, B, 0, dO))).2).1) (nf ((rrF sh n (rpC sh C n) fw fz fh fc W (mxC (rpC sh C n) n + 1) sp H 0 (ke, (va, dzF G 16, dzI di 16, sd, B, 0, dO))).2).2.2.2.2.2.2.2) (nf fr) (nf ma) (nf st) hf (nf wa) ra ag) A) args s rmX6_run.cells rmX6_run.slots A) (mW a cI cZ n (nI 0) (nI fc) sp (nI W) (nI ln9) cx9 (nI jo) (nI wg) sh va9 (nf (rpC sh C n)) (nf fw) (nf fz) (nf fh) (nf G9) di9 (nf B9) ke9 (nf dO9) (nf fr) (nf ma) (nf st) hf (nf wa) ra ag) 97 [(6, .int (nI 1)), (5, .int (nI h9)), (4, .int (nI (mxC (rpC sh C n) n + 1))), (0, .ref (a 0)), (1, .int (nI W)), (2, .int sd), (3, .int (nI H))] [] := by
    intro d97
    induction d97 using Nat.strongRecOn with
    | _ d97 ih97 =>
      intro h9 ke9 va9 G9 di9 cx9 B9 ln9 dO9 hd hh9 hs9 he
      refine j_iload CX 0 dX6_run_97 rfl ?_
      refine j_ifN_eq CX (by first | assumption | omega | exact b2n_lt _ | exact t2n_lt _) 160 dX6_run_99 (by decide) (fun h99 => absurd h99 (by decide)) (fun h99 => ?_)
      refine j_iload CX 1 dX6_run_102 rfl ?_
      refine j_iload_n CX 6 dX6_run_104 rfl rfl ?_
      refine j_icmpN_ge CX (by first | assumption | omega) (by first | assumption | omega | exact b2n_lt _ | exact t2n_lt _) 160 dX6_run_105 (by decide) (fun h105 => ?_) (fun h105 => ?_)
      · rw [show H - h9 = 0 by omega] at he
        refine j_iload CX 1 dX6_run_160 rfl ?_
        exact j_iret CX hr hlocks dX6_run_162 (⟨by rw [← he]; rfl, by first | (rw [← he]; done) | (rw [← he]; rfl)⟩)
      · obtain ⟨d8, hd8⟩ : ∃ d8, H - h9 = d8 + 1 := ⟨H - h9 - 1, by omega⟩
        refine j_aload_n CX 3 dX6_run_108 rfl rfl ?_
        refine j_iload CX 1 dX6_run_109 rfl ?_
        refine j_iload CX 2 dX6_run_111 rfl ?_
        refine j_callV CX (n := 2) (pre := []) (post := []) (rest := []) (qc := (RX6, TX6, 27)) (r_hour l D cI cZ cL a n (nI 0) fc sp W ln9 cx9 jo wg sh va9 (rpC sh C n) fw fz fh G9 di9 B9 ke9 dO9 fr ma st hf wa ra ag h9 (mxC (rpC sh C n) n + 1) hn (by omega) (by omega) hfc hW hRC hfw hfz hfh hs9.q) gX6_run_X6_hour rfl (by decide +kernel) ⟨Nat.le_of_ble_eq_true rfl, Nat.le_of_ble_eq_true rfl⟩ rfl rfl rfl rfl rfl (Nat.le_of_ble_eq_true rfl) dX6_run_113 ⟨Nat.le_refl _, Nat.le_refl _⟩ (fun r9 w9 h9 => ?_)
        obtain ⟨rfl, rfl⟩ := h9
        refine j_w (w' := mW a cI cZ n (nI 0) (nI fc) sp (nI W) (nI ((rhR sh n (rpC sh C n) fw fz fh fc W (mxC (rpC sh C n) n + 1) h9 (ke9, (va9, G9, di9, cx9, B9, ln9, dO9))).2).2.2.2.2.2.2.1) (((rhR sh n (rpC sh C n) fw fz fh fc W (mxC (rpC sh C n) n + 1) h9 (ke9, (va9, G9, di9, cx9, B9, ln9, dO9))).2).2.2.2.2.1) (nI jo) (nI wg) sh (((rhR sh n (rpC sh C n) fw fz fh fc W (mxC (rpC sh C n) n + 1) h9 (ke9, (va9, G9, di9, cx9, B9, ln9, dO9))).2).2.1) (nf (rpC sh C n)) (nf fw) (nf fz) (nf fh) (nf ((rhR sh n (rpC sh C n) fw fz fh fc W (mxC (rpC sh C n) n + 1) h9 (ke9, (va9, G9, di9, cx9, B9, ln9, dO9))).2).2.2.1) (((rhR sh n (rpC sh C n) fw fz fh fc W (mxC (rpC sh C n) n + 1) h9 (ke9, (va9, G9, di9, cx9, B9, ln9, dO9))).2).2.2.2.1) (nf ((rhR sh n (rpC sh C n) fw fz fh fc W (mxC (rpC sh C n) n + 1) h9 (ke9, (va9, G9, di9, cx9, B9, ln9, dO9))).2).2.2.2.2.2.1) (((rhR sh n (rpC sh C n) fw fz fh fc W (mxC (rpC sh C n) n + 1) h9 (ke9, (va9, G9, di9, cx9, B9, ln9, dO9))).2).1) (nf ((rhR sh n (rpC sh C n) fw fz fh fc W (mxC (rpC sh C n) n + 1) h9 (ke9, (va9, G9, di9, cx9, B9, ln9, dO9))).2).2.2.2.2.2.2.2) (nf fr) (nf ma) (nf st) hf (nf wa) ra ag) rfl ?_
        refine j_st (st9 := [.int (nI (t2n (rhR sh n (rpC sh C n) fw fz fh fc W (mxC (rpC sh C n) n + 1) h9 (ke9, (va9, G9, di9, cx9, B9, ln9, dO9))).1))]) rfl ?_
        refine j_istore CX (lv' := [(6, .int (nI (t2n (rhR sh n (rpC sh C n) fw fz fh fc W (mxC (rpC sh C n) n + 1) h9 (ke9, (va9, G9, di9, cx9, B9, ln9, dO9))).1))), (5, .int (nI h9)), (4, .int (nI (mxC (rpC sh C n) n + 1))), (0, .ref (a 0)), (1, .int (nI W)), (2, .int sd), (3, .int (nI H))]) dX6_run_116 (by decide) rfl ?_
        refine j_iload CX 0 dX6_run_118 rfl ?_
        refine j_ifN_eq CX (by first | assumption | omega | exact b2n_lt _ | exact t2n_lt _) 130 dX6_run_120 (by decide) (fun h120 => ?_) (fun h120 => ?_)
        · have q9 : ¬ (rhR sh n (rpC sh C n) fw fz fh fc W (mxC (rpC sh C n) n + 1) h9 (ke9, (va9, G9, di9, cx9, B9, ln9, dO9))).1 = true := t2n_eq h120
          refine j_iload CX 1 dX6_run_130 rfl ?_
          refine j_istore CX (lv' := [(5, .int (nI h9)), (6, .int (nI (t2n (rhR sh n (rpC sh C n) fw fz fh fc W (mxC (rpC sh C n) n + 1) h9 (ke9, (va9, G9, di9, cx9, B9, ln9, dO9))).1))), (4, .int (nI (mxC (rpC sh C n) n + 1))), (0, .ref (a 0)), (1, .int (nI W)), (2, .int sd), (3, .int (nI H))]) dX6_run_132 (by decide) rfl ?_
          refine j_iload CX 1 dX6_run_134 rfl ?_
          refine j_ifN_eq CX (by first | assumption | omega | exact b2n_lt _ | exact t2n_lt _) 154 dX6_run_136 (by decide) (fun h136 => ?_) (fun h136 => ?_)
          · refine j_iconst CX dX6_run_154 (show _ = (nI 0 : Int32) by decide) ?_
            refine j_istore CX (lv' := [(6, .int (nI 0)), (5, .int (nI h9)), (4, .int (nI (mxC (rpC sh C n) n + 1))), (0, .ref (a 0)), (1, .int (nI W)), (2, .int sd), (3, .int (nI H))]) dX6_run_155 (by decide) rfl ?_
            refine j_goto CX 97 dX6_run_157 (by decide) ?_
            refine j_iload CX 0 dX6_run_97 rfl ?_
            refine j_ifN_eq CX (by first | assumption | omega | exact b2n_lt _ | exact t2n_lt _) 160 dX6_run_99 (by decide) (fun h99 => ?_) (fun h99 => absurd h99 (by decide))
            refine j_iload CX 1 dX6_run_160 rfl ?_
            exact j_iret CX hr hlocks dX6_run_162 (⟨by rw [← he, hd8, rrF_f q9], by rw [← he, hd8, rrF_f q9]⟩)
          · exact absurd h120 h136
        · have q9 : (rhR sh n (rpC sh C n) fw fz fh fc W (mxC (rpC sh C n) n + 1) h9 (ke9, (va9, G9, di9, cx9, B9, ln9, dO9))).1 = true := t2n_ne h120
          refine j_iload CX 1 dX6_run_123 rfl ?_
          refine j_iconst CX dX6_run_125 (show _ = (nI 1 : Int32) by decide) ?_
          refine j_iadd CX dX6_run_126 ?_
          refine j_top (show (nI h9) + (nI 1) = nI (h9 + 1) from nI_add _ _) ?_
          refine j_goto CX 132 dX6_run_127 (by decide) ?_
          refine j_istore CX (lv' := [(5, .int (nI (h9 + 1))), (6, .int (nI (t2n (rhR sh n (rpC sh C n) fw fz fh fc W (mxC (rpC sh C n) n + 1) h9 (ke9, (va9, G9, di9, cx9, B9, ln9, dO9))).1))), (4, .int (nI (mxC (rpC sh C n) n + 1))), (0, .ref (a 0)), (1, .int (nI W)), (2, .int sd), (3, .int (nI H))]) dX6_run_132 (by decide) rfl ?_
          refine j_iload CX 1 dX6_run_134 rfl ?_
          refine j_ifN_eq CX (by first | assumption | omega | exact b2n_lt _ | exact t2n_lt _) 154 dX6_run_136 (by decide) (fun h136 => ?_) (fun h136 => ?_)
          · exact absurd h136 h120
          · refine j_iload CX 0 dX6_run_139 rfl ?_
            refine j_iconst CX dX6_run_141 (show _ = (nI 1 : Int32) by decide) ?_
            refine j_isub CX dX6_run_142 ?_
            refine j_top (show ((nI (h9 + 1)) - (nI 1)) = nI h9 from nI_m1 _) ?_
            refine j_aload_n CX 3 dX6_run_143 rfl rfl ?_
            refine j_get CX 0 9 dX6_run_144 rfl rfl hin6 (by decide) hfl28 rfl ?_
            refine j_icmp_eq CX 154 dX6_run_147 (by decide) (fun h147 => ?_) (fun h147 => ?_)
            · refine j_iconst CX dX6_run_154 (show _ = (nI 0 : Int32) by decide) ?_
              refine j_istore CX (lv' := [(6, .int (nI 0)), (5, .int (nI (h9 + 1))), (4, .int (nI (mxC (rpC sh C n) n + 1))), (0, .ref (a 0)), (1, .int (nI W)), (2, .int sd), (3, .int (nI H))]) dX6_run_155 (by decide) rfl ?_
              refine j_goto CX 97 dX6_run_157 (by decide) ?_
              refine j_iload CX 0 dX6_run_97 rfl ?_
              refine j_ifN_eq CX (by first | assumption | omega | exact b2n_lt _ | exact t2n_lt _) 160 dX6_run_99 (by decide) (fun h99 => ?_) (fun h99 => absurd h99 (by decide))
              refine j_iload CX 1 dX6_run_160 rfl ?_
              exact j_iret CX hr hlocks dX6_run_162 (⟨by rw [← he, hd8, rrF_s q9 h147], by rw [← he, hd8, rrF_s q9 h147]⟩)
            · refine j_iconst CX dX6_run_150 (show _ = (nI 1 : Int32) by decide) ?_
              refine j_goto CX 155 dX6_run_151 (by decide) ?_
              refine j_istore CX (lv' := [(6, .int (nI 1)), (5, .int (nI (h9 + 1))), (4, .int (nI (mxC (rpC sh C n) n + 1))), (0, .ref (a 0)), (1, .int (nI W)), (2, .int sd), (3, .int (nI H))]) dX6_run_155 (by decide) rfl ?_
              refine j_goto CX 97 dX6_run_157 (by decide) ?_
              exact ih97 _ (by omega) (h9 + 1) _ _ _ _ _ _ _ _ rfl (by omega) (rhR_ok2 _ _ _ _ _ _ _ _ _ _ _ hs9) (by rw [← he, hd8, rrF_t q9 h147, show H - (h9 + 1) = d8 by omega])
  have L56 : ∀ (d56 : Nat) (i9 : Nat), 16 - i9 = d56 → i9 ≤ 16 → J p l e rmX6_run s m args below meth c D A 7 0 0 (MQ below (jQc D (fun r0 w0 => r0 = some (.int (nI (rrF sh n (rpC sh C n) fw fz fh fc W (mxC (rpC sh C n) n + 1) sp H 0 (ke, (va, dzF G 16, dzI di 16, sd, B, 0, dO))).1)) ∧ w0 = mW a cI cZ n (nI 0) (nI fc) sp (nI W) (nI ((rrF sh n (rpC sh C n) fw fz fh fc W (mxC (rpC sh C n) n + 1) sp H 0 (ke, (va, dzF G 16, dzI di 16, sd, B, 0, dO))).2).2.2.2.2.2.2.1) (((rrF sh n (rpC sh C n) fw fz fh fc W (mxC (rpC sh C n) n + 1) sp H 0 (ke, (va, dzF G 16, dzI di 16, sd, B, 0, dO))).2).2.2.2.2.1) (nI jo) (nI wg) sh (((rrF sh n (rpC sh C n) fw fz fh fc W (mxC (rpC sh C n) n + 1) sp H 0 (ke, (va, dzF G 16, dzI di 16, sd, B, 0, dO))).2).2.1) (nf (rpC sh C n)) (nf fw) (nf fz) (nf fh) (nf ((rrF sh n (rpC sh C n) fw fz fh fc W (mxC (rpC sh C n) n + 1) sp H 0 (ke, (va, dzF G 16, dzI di 16, sd, B, 0, dO))).2).2.2.1) (((rrF sh n (rpC sh C n) fw fz fh fc W (mxC (rpC sh C n) n + 1) sp H 0 (ke, (va, dzF G 16, dzI di 16, sd, B, 0, dO))).2).2.2.2.1) (nf ((rrF sh n (rpC sh C n) fw fz fh fc W (mxC (rpC sh C n) n + 1) sp H 0 (ke, (va, dzF G 16, dzI di 16, sd, B, 0, dO))).2).2.2.2.2.2.1) (((rrF sh n (rpC sh C n) fw fz fh fc W (mxC (rpC sh C n) n + 1) sp H 0 (ke, (va, dzF G 16, dzI di 16, sd, B, 0, dO))).2).1) (nf ((rrF sh n (rpC sh C n) fw fz fh fc W (mxC (rpC sh C n) n + 1) sp H 0 (ke, (va, dzF G 16, dzI di 16, sd, B, 0, dO))).2).2.2.2.2.2.2.2) (nf fr) (nf ma) (nf st) hf (nf wa) ra ag) A) args s rmX6_run.cells rmX6_run.slots A) (mW a cI cZ n (nI 0) (nI fc) sp (nI W) (nI 0) sd (nI jo) (nI wg) sh va (nf C) (nf fw) (nf fz) (nf fh) (nf (dzF G i9)) (dzI di i9) (nf B) ke (nf dO) (nf fr) (nf ma) (nf st) hf (nf wa) ra ag) 56 [(4, .int (nI i9)), (0, .ref (a 0)), (1, .int (nI W)), (2, .int sd), (3, .int (nI H))] [] := by
    intro d56
    induction d56 using Nat.strongRecOn with
    | _ d56 ih56 =>
      intro i9 hd hi
      refine j_iload CX 0 dX6_run_56 rfl ?_
      refine j_bipush CX dX6_run_58 (show _ = (nI 16 : Int32) by decide) ?_
      refine j_icmpN_ge CX (by first | assumption | omega) (by first | assumption | omega | exact b2n_lt _ | exact t2n_lt _) 85 dX6_run_60 (by decide) (fun h60 => ?_) (fun h60 => ?_)
      · rw [show i9 = 16 by omega]
        refine j_aload_n CX 1 dX6_run_85 rfl rfl ?_
        refine j_callV CX (n := 0) (pre := []) (post := []) (rest := []) (qc := (RX6, TX6, 27)) (r_colours l D cI cZ cL a n (nI 0) fc sp W 0 sd jo wg sh va C fw fz fh (dzF G 16) (dzI di 16) B ke dO fr ma st hf wa ra ag hn) gX6_run_X6_colours rfl (by decide +kernel) ⟨Nat.le_of_ble_eq_true rfl, Nat.le_of_ble_eq_true rfl⟩ rfl rfl rfl rfl rfl (Nat.le_of_ble_eq_true rfl) dX6_run_86 ⟨Nat.le_refl _, Nat.le_refl _⟩ (fun r9 w9 h9 => ?_)
        obtain ⟨rfl, rfl⟩ := h9
        refine j_w (w' := mW a cI cZ n (nI 0) (nI fc) sp (nI W) (nI 0) sd (nI jo) (nI wg) sh va (nf (rpC sh C n)) (nf fw) (nf fz) (nf fh) (nf (dzF G 16)) (dzI di 16) (nf B) ke (nf dO) (nf fr) (nf ma) (nf st) hf (nf wa) ra ag) rfl ?_
        refine j_st (st9 := [.int (nI (mxC (rpC sh C n) n + 1))]) rfl ?_
        refine j_istore CX (lv' := [(4, .int (nI (mxC (rpC sh C n) n + 1))), (0, .ref (a 0)), (1, .int (nI W)), (2, .int sd), (3, .int (nI H))]) dX6_run_89 (by decide) rfl ?_
        refine j_iconst CX dX6_run_91 (show _ = (nI 0 : Int32) by decide) ?_
        refine j_istore CX (lv' := [(5, .int (nI 0)), (4, .int (nI (mxC (rpC sh C n) n + 1))), (0, .ref (a 0)), (1, .int (nI W)), (2, .int sd), (3, .int (nI H))]) dX6_run_92 (by decide) rfl ?_
        refine j_iconst CX dX6_run_94 (show _ = (nI 1 : Int32) by decide) ?_
        refine j_istore CX (lv' := [(6, .int (nI 1)), (5, .int (nI 0)), (4, .int (nI (mxC (rpC sh C n) n + 1))), (0, .ref (a 0)), (1, .int (nI W)), (2, .int sd), (3, .int (nI H))]) dX6_run_95 (by decide) rfl ?_
        exact L97 _ 0 ke va (dzF G 16) (dzI di 16) sd B 0 dO rfl (Nat.zero_le _) ⟨Nat.zero_le _, fun k hk => by show dzF G 16 k ≤ 1; rw [dzF_val, if_pos (by omega)]; exact Nat.zero_le _⟩ rfl
      · refine j_aload_n CX 1 dX6_run_63 rfl rfl ?_
        refine j_get CX 0 11 dX6_run_64 rfl rfl hin6 (by decide) hfl32 rfl ?_
        refine j_iload CX 0 dX6_run_67 rfl ?_
        refine j_iconst CX dX6_run_69 (show _ = (nI 0 : Int32) by decide) ?_
        refine j_zast CX (w' := mW a cI cZ n (nI 0) (nI fc) sp (nI W) (nI 0) sd (nI jo) (nI wg) sh va (nf C) (nf fw) (nf fz) (nf fh) (upd (nf (dzF G i9)) i9 (vp_nar .boolean (nI 0))) (dzI di i9) (nf B) ke (nf dO) (nf fr) (nf ma) (nf st) hf (nf wa) ra ag) 7 i9 dX6_run_70 rfl (rfl) (by first | assumption | omega) (by decide) rfl ?_
        refine j_w (show mW a cI cZ n (nI 0) (nI fc) sp (nI W) (nI 0) sd (nI jo) (nI wg) sh va (nf C) (nf fw) (nf fz) (nf fh) (upd (nf (dzF G i9)) i9 (vp_nar .boolean (nI 0))) (dzI di i9) (nf B) ke (nf dO) (nf fr) (nf ma) (nf st) hf (nf wa) ra ag = mW a cI cZ n (nI 0) (nI fc) sp (nI W) (nI 0) sd (nI jo) (nI wg) sh va (nf C) (nf fw) (nf fz) (nf fh) (nf (updN (dzF G i9) i9 0)) (dzI di i9) (nf B) ke (nf dO) (nf fr) (nf ma) (nf st) hf (nf wa) ra ag by rw [nar0, nf_upd]) ?_
        refine j_aload_n CX 1 dX6_run_71 rfl rfl ?_
        refine j_get CX 0 12 dX6_run_72 rfl rfl hin6 (by decide) hfl36 rfl ?_
        refine j_iload CX 0 dX6_run_75 rfl ?_
        refine j_iconst CX dX6_run_77 (show _ = (nI 0 : Int32) by decide) ?_
        refine j_iast CX (w' := mW a cI cZ n (nI 0) (nI fc) sp (nI W) (nI 0) sd (nI jo) (nI wg) sh va (nf C) (nf fw) (nf fz) (nf fh) (nf (updN (dzF G i9) i9 0)) (upd (dzI di i9) i9 (nI 0)) (nf B) ke (nf dO) (nf fr) (nf ma) (nf st) hf (nf wa) ra ag) 8 i9 dX6_run_78 rfl (rfl) (by first | assumption | omega) (by decide) rfl ?_
        refine j_iinc CX (v := nI (i9 + 1)) (lv' := [(4, .int (nI (i9 + 1))), (0, .ref (a 0)), (1, .int (nI W)), (2, .int sd), (3, .int (nI H))]) 0 dX6_run_79 rfl (nI_1 _) (by decide) rfl ?_
        refine j_goto CX 56 dX6_run_82 (by decide) ?_
        exact ih56 _ (by omega) (i9 + 1) rfl (by omega)
  show J p l e rmX6_run s m args below meth c D A 7 0 0 (MQ below (jQc D (fun r0 w0 => r0 = some (.int (nI (rrF sh n (rpC sh C n) fw fz fh fc W (mxC (rpC sh C n) n + 1) sp H 0 (ke, (va, dzF G 16, dzI di 16, sd, B, 0, dO))).1)) ∧ w0 = mW a cI cZ n (nI 0) (nI fc) sp (nI W) (nI ((rrF sh n (rpC sh C n) fw fz fh fc W (mxC (rpC sh C n) n + 1) sp H 0 (ke, (va, dzF G 16, dzI di 16, sd, B, 0, dO))).2).2.2.2.2.2.2.1) (((rrF sh n (rpC sh C n) fw fz fh fc W (mxC (rpC sh C n) n + 1) sp H 0 (ke, (va, dzF G 16, dzI di 16, sd, B, 0, dO))).2).2.2.2.2.1) (nI jo) (nI wg) sh (((rrF sh n (rpC sh C n) fw fz fh fc W (mxC (rpC sh C n) n + 1) sp H 0 (ke, (va, dzF G 16, dzI di 16, sd, B, 0, dO))).2).2.1) (nf (rpC sh C n)) (nf fw) (nf fz) (nf fh) (nf ((rrF sh n (rpC sh C n) fw fz fh fc W (mxC (rpC sh C n) n + 1) sp H 0 (ke, (va, dzF G 16, dzI di 16, sd, B, 0, dO))).2).2.2.1) (((rrF sh n (rpC sh C n) fw fz fh fc W (mxC (rpC sh C n) n + 1) sp H 0 (ke, (va, dzF G 16, dzI di 16, sd, B, 0, dO))).2).2.2.2.1) (nf ((rrF sh n (rpC sh C n) fw fz fh fc W (mxC (rpC sh C n) n + 1) sp H 0 (ke, (va, dzF G 16, dzI di 16, sd, B, 0, dO))).2).2.2.2.2.2.1) (((rrF sh n (rpC sh C n) fw fz fh fc W (mxC (rpC sh C n) n + 1) sp H 0 (ke, (va, dzF G 16, dzI di 16, sd, B, 0, dO))).2).1) (nf ((rrF sh n (rpC sh C n) fw fz fh fc W (mxC (rpC sh C n) n + 1) sp H 0 (ke, (va, dzF G 16, dzI di 16, sd, B, 0, dO))).2).2.2.2.2.2.2.2) (nf fr) (nf ma) (nf st) hf (nf wa) ra ag) A) args s rmX6_run.cells rmX6_run.slots A) (mW a cI cZ n thr (nI fc) sp (nI cr) (nI ln) cx (nI jo) (nI wg) sh va (nf C) (nf fw) (nf fz) (nf fh) (nf G) di (nf B) ke (nf dO) (nf fr) (nf ma) (nf st) hf (nf wa) ra ag) 0 [(0, .ref (a 0)), (1, .int (nI W)), (2, .int sd), (3, .int (nI H))] []
  refine j_aload_n CX 0 dX6_run_0 rfl rfl ?_
  refine j_iload_n CX 1 dX6_run_1 rfl rfl ?_
  refine j_iconst CX dX6_run_2 (show _ = (nI 1 : Int32) by decide) ?_
  refine j_bipush CX dX6_run_3 (show _ = (nI 16 : Int32) by decide) ?_
  refine j_callS CX (n := 3) (b := 0) (pre := []) (post := mW a cI cZ n thr (nI fc) sp (nI cr) (nI ln) cx (nI jo) (nI wg) sh va (nf C) (nf fw) (nf fz) (nf fh) (nf G) di (nf B) ke (nf dO) (nf fr) (nf ma) (nf st) hf (nf wa) ra ag) (rest := [.ref (a 0)]) (r_isIn_t l D cI cZ cL (nI W) (nI 1) (nI 16) (nI_nlt (by omega) (by omega)) (nI_nlt (by omega) (by omega))) gX6_run_X6_isIn rfl (by decide +kernel) ⟨Nat.le_of_ble_eq_true rfl, Nat.le_of_ble_eq_true rfl⟩ rfl rfl rfl (Nat.le_of_ble_eq_true rfl) dX6_run_5 ⟨Nat.le_refl _, Nat.le_refl _⟩ (fun r9 w9 h9 => ?_)
  obtain ⟨rfl, rfl⟩ := h9
  refine j_w (w' := mW a cI cZ n thr (nI fc) sp (nI cr) (nI ln) cx (nI jo) (nI wg) sh va (nf C) (nf fw) (nf fz) (nf fh) (nf G) di (nf B) ke (nf dO) (nf fr) (nf ma) (nf st) hf (nf wa) ra ag) rfl ?_
  refine j_st (st9 := [.int (nI 1), .ref (a 0)]) rfl ?_
  refine j_ifN_eq CX (by first | assumption | omega | exact b2n_lt _ | exact t2n_lt _) 25 dX6_run_8 (by decide) (fun h8 => absurd h8 (by decide)) (fun h8 => ?_)
  refine j_iload_n CX 3 dX6_run_11 rfl rfl ?_
  refine j_iconst CX dX6_run_12 (show _ = (nI 1 : Int32) by decide) ?_
  refine j_bipush CX dX6_run_13 (show _ = (nI 50 : Int32) by decide) ?_
  refine j_callS CX (n := 3) (b := 0) (pre := []) (post := mW a cI cZ n thr (nI fc) sp (nI cr) (nI ln) cx (nI jo) (nI wg) sh va (nf C) (nf fw) (nf fz) (nf fh) (nf G) di (nf B) ke (nf dO) (nf fr) (nf ma) (nf st) hf (nf wa) ra ag) (rest := [.ref (a 0)]) (r_isIn_t l D cI cZ cL (nI H) (nI 1) (nI 50) (nI_nlt (by omega) (by omega)) (nI_nlt (by omega) (by omega))) gX6_run_X6_isIn rfl (by decide +kernel) ⟨Nat.le_of_ble_eq_true rfl, Nat.le_of_ble_eq_true rfl⟩ rfl rfl rfl (Nat.le_of_ble_eq_true rfl) dX6_run_15 ⟨Nat.le_refl _, Nat.le_refl _⟩ (fun r9 w9 h9 => ?_)
  obtain ⟨rfl, rfl⟩ := h9
  refine j_w (w' := mW a cI cZ n thr (nI fc) sp (nI cr) (nI ln) cx (nI jo) (nI wg) sh va (nf C) (nf fw) (nf fz) (nf fh) (nf G) di (nf B) ke (nf dO) (nf fr) (nf ma) (nf st) hf (nf wa) ra ag) rfl ?_
  refine j_st (st9 := [.int (nI 1), .ref (a 0)]) rfl ?_
  refine j_ifN_eq CX (by first | assumption | omega | exact b2n_lt _ | exact t2n_lt _) 25 dX6_run_18 (by decide) (fun h18 => absurd h18 (by decide)) (fun h18 => ?_)
  refine j_iconst CX dX6_run_21 (show _ = (nI 0 : Int32) by decide) ?_
  refine j_goto CX 26 dX6_run_22 (by decide) ?_
  refine j_put CX (w' := mW a cI cZ n (nI 0) (nI fc) sp (nI cr) (nI ln) cx (nI jo) (nI wg) sh va (nf C) (nf fw) (nf fz) (nf fh) (nf G) di (nf B) ke (nf dO) (nf fr) (nf ma) (nf st) hf (nf wa) ra ag) 0 0 dX6_run_26 rfl rfl hin6 tyX6 tyX6_ok nmX6 (by decide) hfl72 rfl rfl rfl rfl (Nat.le_of_ble_eq_true rfl) rfl ?_
  refine j_aload_n CX 0 dX6_run_29 rfl rfl ?_
  refine j_get CX 0 0 dX6_run_30 rfl rfl hin6 (by decide) hfl72 rfl ?_
  refine j_ifN_le CX (by first | assumption | omega | exact b2n_lt _ | exact t2n_lt _) 38 dX6_run_33 (by decide) (fun h33 => ?_) (fun h33 => absurd h33 (by decide))
  refine j_aload_n CX 0 dX6_run_38 rfl rfl ?_
  refine j_iload_n CX 1 dX6_run_39 rfl rfl ?_
  refine j_put CX (w' := mW a cI cZ n (nI 0) (nI fc) sp (nI W) (nI ln) cx (nI jo) (nI wg) sh va (nf C) (nf fw) (nf fz) (nf fh) (nf G) di (nf B) ke (nf dO) (nf fr) (nf ma) (nf st) hf (nf wa) ra ag) 0 10 dX6_run_40 rfl rfl hin6 tyX6 tyX6_ok nmX6 (by decide) hfl107 rfl rfl rfl rfl (Nat.le_of_ble_eq_true rfl) rfl ?_
  refine j_aload_n CX 0 dX6_run_43 rfl rfl ?_
  refine j_iload_n CX 2 dX6_run_44 rfl rfl ?_
  refine j_put CX (w' := mW a cI cZ n (nI 0) (nI fc) sp (nI W) (nI ln) sd (nI jo) (nI wg) sh va (nf C) (nf fw) (nf fz) (nf fh) (nf G) di (nf B) ke (nf dO) (nf fr) (nf ma) (nf st) hf (nf wa) ra ag) 0 17 dX6_run_45 rfl rfl hin6 tyX6 tyX6_ok nmX6 (by decide) hfl110 rfl rfl rfl rfl (Nat.le_of_ble_eq_true rfl) rfl ?_
  refine j_aload_n CX 0 dX6_run_48 rfl rfl ?_
  refine j_iconst CX dX6_run_49 (show _ = (nI 0 : Int32) by decide) ?_
  refine j_put CX (w' := mW a cI cZ n (nI 0) (nI fc) sp (nI W) (nI 0) sd (nI jo) (nI wg) sh va (nf C) (nf fw) (nf fz) (nf fh) (nf G) di (nf B) ke (nf dO) (nf fr) (nf ma) (nf st) hf (nf wa) ra ag) 0 13 dX6_run_50 rfl rfl hin6 tyX6 tyX6_ok nmX6 (by decide) hfl104 rfl rfl rfl rfl (Nat.le_of_ble_eq_true rfl) rfl ?_
  refine j_iconst CX dX6_run_53 (show _ = (nI 0 : Int32) by decide) ?_
  refine j_istore CX (lv' := [(4, .int (nI 0)), (0, .ref (a 0)), (1, .int (nI W)), (2, .int sd), (3, .int (nI H))]) dX6_run_54 (by decide) rfl ?_
  exact L56 _ 0 rfl (Nat.zero_le _)

set_option maxRecDepth 100000 in
set_option maxHeartbeats 4000000 in
theorem r_run_x1 (l : Launch) (D : va_G) (cI cZ cL : ClassId) (a : Nat → Nat) (n : Nat) (thr : Int32) (fc : Nat) (sp : Int32) (cr ln : Nat) (cx : Int32) (jo wg : Nat) (sh va : Nat → Int32) (C fw fz fh G : Nat → Nat) (di : Nat → Int32) (B : Nat → Nat) (ke : Nat → Int32) (dO fr ma st : Nat → Nat) (hf : Nat → Int32) (wa : Nat → Nat) (ra ag : Nat → Int32) (v sd y : Int32) (g : v < nI 1 ∨ nI 16 < v) : Cg l D cI cZ cL yX6_run wsX6_run rmX6_run [.ref (a 0), .int v, .int sd, .int y] (mW a cI cZ n thr (nI fc) sp (nI cr) (nI ln) cx (nI jo) (nI wg) sh va (nf C) (nf fw) (nf fz) (nf fh) (nf G) di (nf B) ke (nf dO) (nf fr) (nf ma) (nf st) hf (nf wa) ra ag) (fun r0 w0 => r0 = some (.int (nI 0)) ∧ w0 = mW a cI cZ n (nI 1) (nI fc) sp (nI cr) (nI ln) cx (nI jo) (nI wg) sh va (nf C) (nf fw) (nf fz) (nf fh) (nf G) di (nf B) ke (nf dO) (nf fr) (nf ma) (nf st) hf (nf wa) ra ag) := by
  refine Cg.ofJ (own := RX6) (cc := cX6_run) (maxL := 7) (ret := (some .int)) (by decide) rfl rfl (Nat.le_of_ble_eq_true rfl) ?_
  intro p e s m args below meth c A CX hr hlocks hname
  have hin6 : ∀ x ∈ u_ws RX6 TX6 27, x ∈ wsX6_run := by decide +kernel
  have hfl72 : Cond.fieldLink RX6 72 (TX6 0).1 (TX6 0).2.1 (TX6 0).2.2.1 ∈ wsX6_run := by decide +kernel
  show J p l e rmX6_run s m args below meth c D A 7 0 0 (MQ below (jQc D (fun r0 w0 => r0 = some (.int (nI 0)) ∧ w0 = mW a cI cZ n (nI 1) (nI fc) sp (nI cr) (nI ln) cx (nI jo) (nI wg) sh va (nf C) (nf fw) (nf fz) (nf fh) (nf G) di (nf B) ke (nf dO) (nf fr) (nf ma) (nf st) hf (nf wa) ra ag) A) args s rmX6_run.cells rmX6_run.slots A) (mW a cI cZ n thr (nI fc) sp (nI cr) (nI ln) cx (nI jo) (nI wg) sh va (nf C) (nf fw) (nf fz) (nf fh) (nf G) di (nf B) ke (nf dO) (nf fr) (nf ma) (nf st) hf (nf wa) ra ag) 0 [(0, .ref (a 0)), (1, .int v), (2, .int sd), (3, .int y)] []
  refine j_aload_n CX 0 dX6_run_0 rfl rfl ?_
  refine j_iload_n CX 1 dX6_run_1 rfl rfl ?_
  refine j_iconst CX dX6_run_2 (show _ = (nI 1 : Int32) by decide) ?_
  refine j_bipush CX dX6_run_3 (show _ = (nI 16 : Int32) by decide) ?_
  refine j_callS CX (n := 3) (b := 0) (pre := []) (post := mW a cI cZ n thr (nI fc) sp (nI cr) (nI ln) cx (nI jo) (nI wg) sh va (nf C) (nf fw) (nf fz) (nf fh) (nf G) di (nf B) ke (nf dO) (nf fr) (nf ma) (nf st) hf (nf wa) ra ag) (rest := [.ref (a 0)]) (r_isIn_f l D cI cZ cL v (nI 1) (nI 16) (g)) gX6_run_X6_isIn rfl (by decide +kernel) ⟨Nat.le_of_ble_eq_true rfl, Nat.le_of_ble_eq_true rfl⟩ rfl rfl rfl (Nat.le_of_ble_eq_true rfl) dX6_run_5 ⟨Nat.le_refl _, Nat.le_refl _⟩ (fun r9 w9 h9 => ?_)
  obtain ⟨rfl, rfl⟩ := h9
  refine j_w (w' := mW a cI cZ n thr (nI fc) sp (nI cr) (nI ln) cx (nI jo) (nI wg) sh va (nf C) (nf fw) (nf fz) (nf fh) (nf G) di (nf B) ke (nf dO) (nf fr) (nf ma) (nf st) hf (nf wa) ra ag) rfl ?_
  refine j_st (st9 := [.int (nI 0), .ref (a 0)]) rfl ?_
  refine j_ifN_eq CX (by first | assumption | omega | exact b2n_lt _ | exact t2n_lt _) 25 dX6_run_8 (by decide) (fun h8 => ?_) (fun h8 => absurd h8 (by decide))
  refine j_iconst CX dX6_run_25 (show _ = (nI 1 : Int32) by decide) ?_
  refine j_put CX (w' := mW a cI cZ n (nI 1) (nI fc) sp (nI cr) (nI ln) cx (nI jo) (nI wg) sh va (nf C) (nf fw) (nf fz) (nf fh) (nf G) di (nf B) ke (nf dO) (nf fr) (nf ma) (nf st) hf (nf wa) ra ag) 0 0 dX6_run_26 rfl rfl hin6 tyX6 tyX6_ok nmX6 (by decide) hfl72 rfl rfl rfl rfl (Nat.le_of_ble_eq_true rfl) rfl ?_
  refine j_aload_n CX 0 dX6_run_29 rfl rfl ?_
  refine j_get CX 0 0 dX6_run_30 rfl rfl hin6 (by decide) hfl72 rfl ?_
  refine j_ifN_le CX (by first | assumption | omega | exact b2n_lt _ | exact t2n_lt _) 38 dX6_run_33 (by decide) (fun h33 => absurd h33 (by decide)) (fun h33 => ?_)
  refine j_iconst CX dX6_run_36 (show _ = (nI 0 : Int32) by decide) ?_
  exact j_iret CX hr hlocks dX6_run_37 (⟨rfl, rfl⟩)

set_option maxRecDepth 100000 in
set_option maxHeartbeats 4000000 in
theorem r_run_x2 (l : Launch) (D : va_G) (cI cZ cL : ClassId) (a : Nat → Nat) (n : Nat) (thr : Int32) (fc : Nat) (sp : Int32) (cr ln : Nat) (cx : Int32) (jo wg : Nat) (sh va : Nat → Int32) (C fw fz fh G : Nat → Nat) (di : Nat → Int32) (B : Nat → Nat) (ke : Nat → Int32) (dO fr ma st : Nat → Nat) (hf : Nat → Int32) (wa : Nat → Nat) (ra ag : Nat → Int32) (W : Nat) (sd y : Int32) (hW1 : 1 ≤ W) (hW : W ≤ 16) (g : y < nI 1 ∨ nI 50 < y) : Cg l D cI cZ cL yX6_run wsX6_run rmX6_run [.ref (a 0), .int (nI W), .int sd, .int y] (mW a cI cZ n thr (nI fc) sp (nI cr) (nI ln) cx (nI jo) (nI wg) sh va (nf C) (nf fw) (nf fz) (nf fh) (nf G) di (nf B) ke (nf dO) (nf fr) (nf ma) (nf st) hf (nf wa) ra ag) (fun r0 w0 => r0 = some (.int (nI 0)) ∧ w0 = mW a cI cZ n (nI 1) (nI fc) sp (nI cr) (nI ln) cx (nI jo) (nI wg) sh va (nf C) (nf fw) (nf fz) (nf fh) (nf G) di (nf B) ke (nf dO) (nf fr) (nf ma) (nf st) hf (nf wa) ra ag) := by
  refine Cg.ofJ (own := RX6) (cc := cX6_run) (maxL := 7) (ret := (some .int)) (by decide) rfl rfl (Nat.le_of_ble_eq_true rfl) ?_
  intro p e s m args below meth c A CX hr hlocks hname
  have hin6 : ∀ x ∈ u_ws RX6 TX6 27, x ∈ wsX6_run := by decide +kernel
  have hfl72 : Cond.fieldLink RX6 72 (TX6 0).1 (TX6 0).2.1 (TX6 0).2.2.1 ∈ wsX6_run := by decide +kernel
  show J p l e rmX6_run s m args below meth c D A 7 0 0 (MQ below (jQc D (fun r0 w0 => r0 = some (.int (nI 0)) ∧ w0 = mW a cI cZ n (nI 1) (nI fc) sp (nI cr) (nI ln) cx (nI jo) (nI wg) sh va (nf C) (nf fw) (nf fz) (nf fh) (nf G) di (nf B) ke (nf dO) (nf fr) (nf ma) (nf st) hf (nf wa) ra ag) A) args s rmX6_run.cells rmX6_run.slots A) (mW a cI cZ n thr (nI fc) sp (nI cr) (nI ln) cx (nI jo) (nI wg) sh va (nf C) (nf fw) (nf fz) (nf fh) (nf G) di (nf B) ke (nf dO) (nf fr) (nf ma) (nf st) hf (nf wa) ra ag) 0 [(0, .ref (a 0)), (1, .int (nI W)), (2, .int sd), (3, .int y)] []
  refine j_aload_n CX 0 dX6_run_0 rfl rfl ?_
  refine j_iload_n CX 1 dX6_run_1 rfl rfl ?_
  refine j_iconst CX dX6_run_2 (show _ = (nI 1 : Int32) by decide) ?_
  refine j_bipush CX dX6_run_3 (show _ = (nI 16 : Int32) by decide) ?_
  refine j_callS CX (n := 3) (b := 0) (pre := []) (post := mW a cI cZ n thr (nI fc) sp (nI cr) (nI ln) cx (nI jo) (nI wg) sh va (nf C) (nf fw) (nf fz) (nf fh) (nf G) di (nf B) ke (nf dO) (nf fr) (nf ma) (nf st) hf (nf wa) ra ag) (rest := [.ref (a 0)]) (r_isIn_t l D cI cZ cL (nI W) (nI 1) (nI 16) (nI_nlt (by omega) (by omega)) (nI_nlt (by omega) (by omega))) gX6_run_X6_isIn rfl (by decide +kernel) ⟨Nat.le_of_ble_eq_true rfl, Nat.le_of_ble_eq_true rfl⟩ rfl rfl rfl (Nat.le_of_ble_eq_true rfl) dX6_run_5 ⟨Nat.le_refl _, Nat.le_refl _⟩ (fun r9 w9 h9 => ?_)
  obtain ⟨rfl, rfl⟩ := h9
  refine j_w (w' := mW a cI cZ n thr (nI fc) sp (nI cr) (nI ln) cx (nI jo) (nI wg) sh va (nf C) (nf fw) (nf fz) (nf fh) (nf G) di (nf B) ke (nf dO) (nf fr) (nf ma) (nf st) hf (nf wa) ra ag) rfl ?_
  refine j_st (st9 := [.int (nI 1), .ref (a 0)]) rfl ?_
  refine j_ifN_eq CX (by first | assumption | omega | exact b2n_lt _ | exact t2n_lt _) 25 dX6_run_8 (by decide) (fun h8 => absurd h8 (by decide)) (fun h8 => ?_)
  refine j_iload_n CX 3 dX6_run_11 rfl rfl ?_
  refine j_iconst CX dX6_run_12 (show _ = (nI 1 : Int32) by decide) ?_
  refine j_bipush CX dX6_run_13 (show _ = (nI 50 : Int32) by decide) ?_
  refine j_callS CX (n := 3) (b := 0) (pre := []) (post := mW a cI cZ n thr (nI fc) sp (nI cr) (nI ln) cx (nI jo) (nI wg) sh va (nf C) (nf fw) (nf fz) (nf fh) (nf G) di (nf B) ke (nf dO) (nf fr) (nf ma) (nf st) hf (nf wa) ra ag) (rest := [.ref (a 0)]) (r_isIn_f l D cI cZ cL y (nI 1) (nI 50) (g)) gX6_run_X6_isIn rfl (by decide +kernel) ⟨Nat.le_of_ble_eq_true rfl, Nat.le_of_ble_eq_true rfl⟩ rfl rfl rfl (Nat.le_of_ble_eq_true rfl) dX6_run_15 ⟨Nat.le_refl _, Nat.le_refl _⟩ (fun r9 w9 h9 => ?_)
  obtain ⟨rfl, rfl⟩ := h9
  refine j_w (w' := mW a cI cZ n thr (nI fc) sp (nI cr) (nI ln) cx (nI jo) (nI wg) sh va (nf C) (nf fw) (nf fz) (nf fh) (nf G) di (nf B) ke (nf dO) (nf fr) (nf ma) (nf st) hf (nf wa) ra ag) rfl ?_
  refine j_st (st9 := [.int (nI 0), .ref (a 0)]) rfl ?_
  refine j_ifN_eq CX (by first | assumption | omega | exact b2n_lt _ | exact t2n_lt _) 25 dX6_run_18 (by decide) (fun h18 => ?_) (fun h18 => absurd h18 (by decide))
  refine j_iconst CX dX6_run_25 (show _ = (nI 1 : Int32) by decide) ?_
  refine j_put CX (w' := mW a cI cZ n (nI 1) (nI fc) sp (nI cr) (nI ln) cx (nI jo) (nI wg) sh va (nf C) (nf fw) (nf fz) (nf fh) (nf G) di (nf B) ke (nf dO) (nf fr) (nf ma) (nf st) hf (nf wa) ra ag) 0 0 dX6_run_26 rfl rfl hin6 tyX6 tyX6_ok nmX6 (by decide) hfl72 rfl rfl rfl rfl (Nat.le_of_ble_eq_true rfl) rfl ?_
  refine j_aload_n CX 0 dX6_run_29 rfl rfl ?_
  refine j_get CX 0 0 dX6_run_30 rfl rfl hin6 (by decide) hfl72 rfl ?_
  refine j_ifN_le CX (by first | assumption | omega | exact b2n_lt _ | exact t2n_lt _) 38 dX6_run_33 (by decide) (fun h33 => absurd h33 (by decide)) (fun h33 => ?_)
  refine j_iconst CX dX6_run_36 (show _ = (nI 0 : Int32) by decide) ?_
  exact j_iret CX hr hlocks dX6_run_37 (⟨rfl, rfl⟩)

abbrev rmX6_foretold : Room := { frames := 2, cells := 0, slots := 0, locals := 46 }
set_option maxRecDepth 100000 in
set_option maxHeartbeats 4000000 in
theorem r_foretold (l : Launch) (D : va_G) (cI cZ cL : ClassId) (a : Nat → Nat) (n : Nat) (thr : Int32) (fc : Nat) (sp : Int32) (cr ln : Nat) (cx : Int32) (jo wg : Nat) (sh va : Nat → Int32) (C fw fz fh G : Nat → Nat) (di : Nat → Int32) (B : Nat → Nat) (ke : Nat → Int32) (dO fr ma st : Nat → Nat) (hf : Nat → Int32) (wa : Nat → Nat) (ra ag : Nat → Int32) (z h : Nat) (hn : n ≤ 24) (hz : z < n) (hh : h ≤ 50) : Cg l D cI cZ cL yX6_foretold wsX6_foretold rmX6_foretold [.ref (a 0), .int (nI z), .int (nI h)] (mW a cI cZ n thr (nI fc) sp (nI cr) (nI ln) cx (nI jo) (nI wg) sh va (nf C) (nf fw) (nf fz) (nf fh) (nf G) di (nf B) ke (nf dO) (nf fr) (nf ma) (nf st) hf (nf wa) ra ag) (fun r0 w0 => r0 = some (.int ((ftO sh n (rpC sh C n) (mxC (rpC sh C n) n + 1) va (h * (mxC (rpC sh C n) n + 1))) z)) ∧ w0 = mW a cI cZ n (nI 0) (nI fc) sp (nI cr) (nI ln) cx (nI jo) (nI wg) sh (kcF (ftO sh n (rpC sh C n) (mxC (rpC sh C n) n + 1) va (h * (mxC (rpC sh C n) n + 1))) (kcF ke va n) n) (nf (rpC sh C n)) (nf fw) (nf fz) (nf fh) (nf G) di (nf B) (kcF ke va n) (nf dO) (nf fr) (nf ma) (nf st) hf (nf wa) ra ag) := by
  refine Cg.ofJ (own := RX6) (cc := cX6_foretold) (maxL := 6) (ret := (some .int)) (by decide) rfl rfl (Nat.le_of_ble_eq_true rfl) ?_
  intro p e s m args below meth c A CX hr hlocks hname
  have hin6 : ∀ x ∈ u_ws RX6 TX6 27, x ∈ wsX6_foretold := by decide +kernel
  have hfl69 : Cond.fieldLink RX6 69 (TX6 1).1 (TX6 1).2.1 (TX6 1).2.2.1 ∈ wsX6_foretold := by decide +kernel
  have hfl13 : Cond.fieldLink RX6 13 (TX6 3).1 (TX6 3).2.1 (TX6 3).2.2.1 ∈ wsX6_foretold := by decide +kernel
  have hfl42 : Cond.fieldLink RX6 42 (TX6 15).1 (TX6 15).2.1 (TX6 15).2.2.1 ∈ wsX6_foretold := by decide +kernel
  have hfl16 : Cond.fieldLink RX6 16 (TX6 4).1 (TX6 4).2.1 (TX6 4).2.2.1 ∈ wsX6_foretold := by decide +kernel
  have hfl72 : Cond.fieldLink RX6 72 (TX6 0).1 (TX6 0).2.1 (TX6 0).2.2.1 ∈ wsX6_foretold := by decide +kernel
  have hRC0 : ∀ k, k < n → rpC sh C n k ≤ k := rpC_le sh C n
  have hKK : mxC (rpC sh C n) n ≤ 23 := mxC_le _ 23 n (fun j hj => by have := hRC0 j hj; omega)
  have hHK : h * (mxC (rpC sh C n) n + 1) ≤ 50 * 24 := Nat.mul_le_mul hh (by omega)
  have L135 : ∀ (d135 : Nat) (k9 : Nat), n - k9 = d135 → k9 ≤ n → J p l e rmX6_foretold s m args below meth c D A 6 0 0 (MQ below (jQc D (fun r0 w0 => r0 = some (.int ((ftO sh n (rpC sh C n) (mxC (rpC sh C n) n + 1) va (h * (mxC (rpC sh C n) n + 1))) z)) ∧ w0 = mW a cI cZ n (nI 0) (nI fc) sp (nI cr) (nI ln) cx (nI jo) (nI wg) sh (kcF (ftO sh n (rpC sh C n) (mxC (rpC sh C n) n + 1) va (h * (mxC (rpC sh C n) n + 1))) (kcF ke va n) n) (nf (rpC sh C n)) (nf fw) (nf fz) (nf fh) (nf G) di (nf B) (kcF ke va n) (nf dO) (nf fr) (nf ma) (nf st) hf (nf wa) ra ag) A) args s rmX6_foretold.cells rmX6_foretold.slots A) (mW a cI cZ n (nI 0) (nI fc) sp (nI cr) (nI ln) cx (nI jo) (nI wg) sh (kcF (ftO sh n (rpC sh C n) (mxC (rpC sh C n) n + 1) va (h * (mxC (rpC sh C n) n + 1))) (kcF ke va n) k9) (nf (rpC sh C n)) (nf fw) (nf fz) (nf fh) (nf G) di (nf B) (kcF ke va n) (nf dO) (nf fr) (nf ma) (nf st) hf (nf wa) ra ag) 135 [(5, .int (nI k9)), (4, .int ((ftO sh n (rpC sh C n) (mxC (rpC sh C n) n + 1) va (h * (mxC (rpC sh C n) n + 1))) z)), (0, .ref (a 0))] [] := by
    intro d135
    induction d135 using Nat.strongRecOn with
    | _ d135 ih135 =>
      intro k9 hd hk
      refine j_iload CX 0 dX6_foretold_135 rfl ?_
      refine j_aload_n CX 2 dX6_foretold_137 rfl rfl ?_
      refine j_get CX 0 1 dX6_foretold_138 rfl rfl hin6 (by decide) hfl69 rfl ?_
      refine j_icmpN_ge CX (by first | assumption | omega) (by first | assumption | omega | exact b2n_lt _ | exact t2n_lt _) 164 dX6_foretold_141 (by decide) (fun h141 => ?_) (fun h141 => ?_)
      · refine j_iload CX 1 dX6_foretold_164 rfl ?_
        exact j_iret CX hr hlocks dX6_foretold_166 (⟨rfl, by rw [show n = k9 by omega]⟩)
      · refine j_aload_n CX 2 dX6_foretold_144 rfl rfl ?_
        refine j_get CX 0 3 dX6_foretold_145 rfl rfl hin6 (by decide) hfl13 rfl ?_
        refine j_iload CX 0 dX6_foretold_148 rfl ?_
        refine j_aload_n CX 2 dX6_foretold_150 rfl rfl ?_
        refine j_get CX 0 15 dX6_foretold_151 rfl rfl hin6 (by decide) hfl42 rfl ?_
        refine j_iload CX 0 dX6_foretold_154 rfl ?_
        refine j_iald CX 10 k9 dX6_foretold_156 rfl (rfl) (by first | assumption | omega) (by decide) ?_
        refine j_iast CX (w' := mW a cI cZ n (nI 0) (nI fc) sp (nI cr) (nI ln) cx (nI jo) (nI wg) sh (upd (kcF (ftO sh n (rpC sh C n) (mxC (rpC sh C n) n + 1) va (h * (mxC (rpC sh C n) n + 1))) (kcF ke va n) k9) k9 ((kcF ke va n) k9)) (nf (rpC sh C n)) (nf fw) (nf fz) (nf fh) (nf G) di (nf B) (kcF ke va n) (nf dO) (nf fr) (nf ma) (nf st) hf (nf wa) ra ag) 2 k9 dX6_foretold_157 rfl (rfl) (by first | assumption | omega) (by decide) rfl ?_
        refine j_iinc CX (v := nI (k9 + 1)) (lv' := [(5, .int (nI (k9 + 1))), (4, .int ((ftO sh n (rpC sh C n) (mxC (rpC sh C n) n + 1) va (h * (mxC (rpC sh C n) n + 1))) z)), (0, .ref (a 0))]) 0 dX6_foretold_158 rfl (nI_1 _) (by decide) rfl ?_
        refine j_goto CX 135 dX6_foretold_161 (by decide) ?_
        exact ih135 _ (by omega) (k9 + 1) rfl (by omega)
  have L72 : ∀ (d72 : Nat) (k9 : Nat), h * (mxC (rpC sh C n) n + 1) - k9 = d72 → k9 ≤ h * (mxC (rpC sh C n) n + 1) → J p l e rmX6_foretold s m args below meth c D A 6 0 0 (MQ below (jQc D (fun r0 w0 => r0 = some (.int ((ftO sh n (rpC sh C n) (mxC (rpC sh C n) n + 1) va (h * (mxC (rpC sh C n) n + 1))) z)) ∧ w0 = mW a cI cZ n (nI 0) (nI fc) sp (nI cr) (nI ln) cx (nI jo) (nI wg) sh (kcF (ftO sh n (rpC sh C n) (mxC (rpC sh C n) n + 1) va (h * (mxC (rpC sh C n) n + 1))) (kcF ke va n) n) (nf (rpC sh C n)) (nf fw) (nf fz) (nf fh) (nf G) di (nf B) (kcF ke va n) (nf dO) (nf fr) (nf ma) (nf st) hf (nf wa) ra ag) A) args s rmX6_foretold.cells rmX6_foretold.slots A) (mW a cI cZ n (nI 0) (nI fc) sp (nI cr) (nI ln) cx (nI jo) (nI wg) sh (ftO sh n (rpC sh C n) (mxC (rpC sh C n) n + 1) va k9) (nf (rpC sh C n)) (nf fw) (nf fz) (nf fh) (nf G) di (nf B) (kcF ke va n) (nf dO) (nf fr) (nf ma) (nf st) hf (nf wa) ra ag) 72 [(4, .int (nI k9)), (3, .int (nI (mxC (rpC sh C n) n + 1))), (0, .ref (a 0)), (1, .int (nI z)), (2, .int (nI h))] [] := by
    intro d72
    induction d72 using Nat.strongRecOn with
    | _ d72 ih72 =>
      intro k9 hd hk
      have L83 : ∀ (d83 : Nat) (z9 : Nat), n - z9 = d83 → k9 < h * (mxC (rpC sh C n) n + 1) → z9 ≤ n → J p l e rmX6_foretold s m args below meth c D A 6 0 0 (MQ below (jQc D (fun r0 w0 => r0 = some (.int ((ftO sh n (rpC sh C n) (mxC (rpC sh C n) n + 1) va (h * (mxC (rpC sh C n) n + 1))) z)) ∧ w0 = mW a cI cZ n (nI 0) (nI fc) sp (nI cr) (nI ln) cx (nI jo) (nI wg) sh (kcF (ftO sh n (rpC sh C n) (mxC (rpC sh C n) n + 1) va (h * (mxC (rpC sh C n) n + 1))) (kcF ke va n) n) (nf (rpC sh C n)) (nf fw) (nf fz) (nf fh) (nf G) di (nf B) (kcF ke va n) (nf dO) (nf fr) (nf ma) (nf st) hf (nf wa) ra ag) A) args s rmX6_foretold.cells rmX6_foretold.slots A) (mW a cI cZ n (nI 0) (nI fc) sp (nI cr) (nI ln) cx (nI jo) (nI wg) sh (ftI sh n (rpC sh C n) (k9 % (mxC (rpC sh C n) n + 1)) (ftO sh n (rpC sh C n) (mxC (rpC sh C n) n + 1) va k9) z9) (nf (rpC sh C n)) (nf fw) (nf fz) (nf fh) (nf G) di (nf B) (kcF ke va n) (nf dO) (nf fr) (nf ma) (nf st) hf (nf wa) ra ag) 83 [(5, .int (nI z9)), (4, .int (nI k9)), (3, .int (nI (mxC (rpC sh C n) n + 1))), (0, .ref (a 0)), (1, .int (nI z)), (2, .int (nI h))] [] := by
        intro d83
        induction d83 using Nat.strongRecOn with
        | _ d83 ih83 =>
          intro z9 hd2 hkK hz9
          refine j_iload CX 0 dX6_foretold_83 rfl ?_
          refine j_aload_n CX 3 dX6_foretold_85 rfl rfl ?_
          refine j_get CX 0 1 dX6_foretold_86 rfl rfl hin6 (by decide) hfl69 rfl ?_
          refine j_icmpN_ge CX (by first | assumption | omega) (by first | assumption | omega | exact b2n_lt _ | exact t2n_lt _) 118 dX6_foretold_89 (by decide) (fun h89 => ?_) (fun h89 => ?_)
          · refine j_iinc CX (v := nI (k9 + 1)) (lv' := [(4, .int (nI (k9 + 1))), (5, .int (nI z9)), (3, .int (nI (mxC (rpC sh C n) n + 1))), (0, .ref (a 0)), (1, .int (nI z)), (2, .int (nI h))]) 1 dX6_foretold_118 rfl (nI_1 _) (by decide) rfl ?_
            refine j_goto CX 72 dX6_foretold_121 (by decide) ?_
            refine j_lv (lv' := [(4, .int (nI (k9 + 1))), (3, .int (nI (mxC (rpC sh C n) n + 1))), (0, .ref (a 0)), (1, .int (nI z)), (2, .int (nI h))]) [0, 2, 3, 4, 5] rfl ?_
            rw [show z9 = n by omega]
            exact ih72 _ (by omega) (k9 + 1) rfl (by omega)
          · have e1 := hRC0 z9 (by omega)
            have e2 : k9 % (mxC (rpC sh C n) n + 1) < (mxC (rpC sh C n) n + 1) := Nat.mod_lt _ (by omega)
            refine j_aload_n CX 3 dX6_foretold_92 rfl rfl ?_
            refine j_get CX 0 4 dX6_foretold_93 rfl rfl hin6 (by decide) hfl16 rfl ?_
            refine j_iload CX 0 dX6_foretold_96 rfl ?_
            refine j_iald CX 3 z9 dX6_foretold_98 rfl (rfl) (by first | assumption | omega) (by decide) ?_
            refine j_iload CX 1 dX6_foretold_99 rfl ?_
            refine j_iload_n CX 2 dX6_foretold_101 rfl rfl ?_
            refine j_irem CX dX6_foretold_102 (nI_ne0 (by omega) (by omega)) ?_
            refine j_top (show ((nI k9) - (nI k9) / (nI (mxC (rpC sh C n) n + 1)) * (nI (mxC (rpC sh C n) n + 1))) = nI (k9 % (mxC (rpC sh C n) n + 1)) from pk_rem (by omega) (by omega) (by omega)) ?_
            refine j_icmpN_ne CX (by first | assumption | omega) (by first | assumption | omega | exact b2n_lt _ | exact t2n_lt _) 112 dX6_foretold_103 (by decide) (fun h103 => ?_) (fun h103 => ?_)
            · refine j_w (show mW a cI cZ n (nI 0) (nI fc) sp (nI cr) (nI ln) cx (nI jo) (nI wg) sh (ftI sh n (rpC sh C n) (k9 % (mxC (rpC sh C n) n + 1)) (ftO sh n (rpC sh C n) (mxC (rpC sh C n) n + 1) va k9) z9) (nf (rpC sh C n)) (nf fw) (nf fz) (nf fh) (nf G) di (nf B) (kcF ke va n) (nf dO) (nf fr) (nf ma) (nf st) hf (nf wa) ra ag = mW a cI cZ n (nI 0) (nI fc) sp (nI cr) (nI ln) cx (nI jo) (nI wg) sh (ftI sh n (rpC sh C n) (k9 % (mxC (rpC sh C n) n + 1)) (ftO sh n (rpC sh C n) (mxC (rpC sh C n) n + 1) va k9) (z9 + 1)) (nf (rpC sh C n)) (nf fw) (nf fz) (nf fh) (nf G) di (nf B) (kcF ke va n) (nf dO) (nf fr) (nf ma) (nf st) hf (nf wa) ra ag by rw [show ftI sh n (rpC sh C n) (k9 % (mxC (rpC sh C n) n + 1)) (ftO sh n (rpC sh C n) (mxC (rpC sh C n) n + 1) va k9) (z9 + 1) = ftI sh n (rpC sh C n) (k9 % (mxC (rpC sh C n) n + 1)) (ftO sh n (rpC sh C n) (mxC (rpC sh C n) n + 1) va k9) z9 from if_neg h103]) ?_
              refine j_iinc CX (v := nI (z9 + 1)) (lv' := [(5, .int (nI (z9 + 1))), (4, .int (nI k9)), (3, .int (nI (mxC (rpC sh C n) n + 1))), (0, .ref (a 0)), (1, .int (nI z)), (2, .int (nI h))]) 0 dX6_foretold_112 rfl (nI_1 _) (by decide) rfl ?_
              refine j_goto CX 83 dX6_foretold_115 (by decide) ?_
              exact ih83 _ (by omega) (z9 + 1) rfl hkK (by omega)
            · refine j_aload_n CX 3 dX6_foretold_106 rfl rfl ?_
              refine j_iload CX 0 dX6_foretold_107 rfl ?_
              refine j_callV CX (n := 1) (pre := []) (post := []) (rest := []) (qc := (RX6, TX6, 27)) (r_change l D cI cZ cL a n (nI 0) fc sp cr ln cx jo wg sh (ftI sh n (rpC sh C n) (k9 % (mxC (rpC sh C n) n + 1)) (ftO sh n (rpC sh C n) (mxC (rpC sh C n) n + 1) va k9) z9) (rpC sh C n) fw fz fh G di B (kcF ke va n) dO fr ma st hf wa ra ag z9 hn (by omega)) gX6_foretold_X6_change rfl (by decide +kernel) ⟨Nat.le_of_ble_eq_true rfl, Nat.le_of_ble_eq_true rfl⟩ rfl rfl rfl rfl rfl (Nat.le_of_ble_eq_true rfl) dX6_foretold_109 ⟨Nat.le_refl _, Nat.le_refl _⟩ (fun r9 w9 h9 => ?_)
              obtain ⟨rfl, rfl⟩ := h9
              refine j_w (w' := mW a cI cZ n (nI 0) (nI fc) sp (nI cr) (nI ln) cx (nI jo) (nI wg) sh (upd (ftI sh n (rpC sh C n) (k9 % (mxC (rpC sh C n) n + 1)) (ftO sh n (rpC sh C n) (mxC (rpC sh C n) n + 1) va k9) z9) z9 (ch24 sh n (ftI sh n (rpC sh C n) (k9 % (mxC (rpC sh C n) n + 1)) (ftO sh n (rpC sh C n) (mxC (rpC sh C n) n + 1) va k9) z9) z9)) (nf (rpC sh C n)) (nf fw) (nf fz) (nf fh) (nf G) di (nf B) (kcF ke va n) (nf dO) (nf fr) (nf ma) (nf st) hf (nf wa) ra ag) rfl ?_
              refine j_st (st9 := []) rfl ?_
              refine j_w (show mW a cI cZ n (nI 0) (nI fc) sp (nI cr) (nI ln) cx (nI jo) (nI wg) sh (upd (ftI sh n (rpC sh C n) (k9 % (mxC (rpC sh C n) n + 1)) (ftO sh n (rpC sh C n) (mxC (rpC sh C n) n + 1) va k9) z9) z9 (ch24 sh n (ftI sh n (rpC sh C n) (k9 % (mxC (rpC sh C n) n + 1)) (ftO sh n (rpC sh C n) (mxC (rpC sh C n) n + 1) va k9) z9) z9)) (nf (rpC sh C n)) (nf fw) (nf fz) (nf fh) (nf G) di (nf B) (kcF ke va n) (nf dO) (nf fr) (nf ma) (nf st) hf (nf wa) ra ag = mW a cI cZ n (nI 0) (nI fc) sp (nI cr) (nI ln) cx (nI jo) (nI wg) sh (ftI sh n (rpC sh C n) (k9 % (mxC (rpC sh C n) n + 1)) (ftO sh n (rpC sh C n) (mxC (rpC sh C n) n + 1) va k9) (z9 + 1)) (nf (rpC sh C n)) (nf fw) (nf fz) (nf fh) (nf G) di (nf B) (kcF ke va n) (nf dO) (nf fr) (nf ma) (nf st) hf (nf wa) ra ag by rw [show ftI sh n (rpC sh C n) (k9 % (mxC (rpC sh C n) n + 1)) (ftO sh n (rpC sh C n) (mxC (rpC sh C n) n + 1) va k9) (z9 + 1) = upd (ftI sh n (rpC sh C n) (k9 % (mxC (rpC sh C n) n + 1)) (ftO sh n (rpC sh C n) (mxC (rpC sh C n) n + 1) va k9) z9) z9 (ch24 sh n (ftI sh n (rpC sh C n) (k9 % (mxC (rpC sh C n) n + 1)) (ftO sh n (rpC sh C n) (mxC (rpC sh C n) n + 1) va k9) z9) z9) from if_pos h103]) ?_
              refine j_iinc CX (v := nI (z9 + 1)) (lv' := [(5, .int (nI (z9 + 1))), (4, .int (nI k9)), (3, .int (nI (mxC (rpC sh C n) n + 1))), (0, .ref (a 0)), (1, .int (nI z)), (2, .int (nI h))]) 0 dX6_foretold_112 rfl (nI_1 _) (by decide) rfl ?_
              refine j_goto CX 83 dX6_foretold_115 (by decide) ?_
              exact ih83 _ (by omega) (z9 + 1) rfl hkK (by omega)
      refine j_iload CX 0 dX6_foretold_72 rfl ?_
      refine j_iload_n CX 4 dX6_foretold_74 rfl rfl ?_
      refine j_iload_n CX 1 dX6_foretold_75 rfl rfl ?_
      refine j_imul CX dX6_foretold_76 ?_
      refine j_top (show (nI h) * (nI (mxC (rpC sh C n) n + 1)) = nI (h * (mxC (rpC sh C n) n + 1)) from pk_mul _ _) ?_
      refine j_icmpN_ge CX (by first | assumption | omega) (by first | assumption | omega | exact b2n_lt _ | exact t2n_lt _) 124 dX6_foretold_77 (by decide) (fun h77 => ?_) (fun h77 => ?_)
      · rw [show k9 = h * (mxC (rpC sh C n) n + 1) by omega]
        refine j_aload_n CX 2 dX6_foretold_124 rfl rfl ?_
        refine j_get CX 0 3 dX6_foretold_125 rfl rfl hin6 (by decide) hfl13 rfl ?_
        refine j_iload_n CX 3 dX6_foretold_128 rfl rfl ?_
        refine j_iald CX 2 z dX6_foretold_129 rfl (rfl) (by first | assumption | omega) (by decide) ?_
        refine j_istore CX (lv' := [(4, .int ((ftO sh n (rpC sh C n) (mxC (rpC sh C n) n + 1) va (h * (mxC (rpC sh C n) n + 1))) z)), (3, .int (nI (mxC (rpC sh C n) n + 1))), (0, .ref (a 0)), (1, .int (nI z)), (2, .int (nI h))]) dX6_foretold_130 (by decide) rfl ?_
        refine j_iconst CX dX6_foretold_132 (show _ = (nI 0 : Int32) by decide) ?_
        refine j_istore CX (lv' := [(5, .int (nI 0)), (4, .int ((ftO sh n (rpC sh C n) (mxC (rpC sh C n) n + 1) va (h * (mxC (rpC sh C n) n + 1))) z)), (3, .int (nI (mxC (rpC sh C n) n + 1))), (0, .ref (a 0)), (1, .int (nI z)), (2, .int (nI h))]) dX6_foretold_133 (by decide) rfl ?_
        refine j_lv (lv' := [(5, .int (nI 0)), (4, .int ((ftO sh n (rpC sh C n) (mxC (rpC sh C n) n + 1) va (h * (mxC (rpC sh C n) n + 1))) z)), (0, .ref (a 0))]) [0, 1, 3] rfl ?_
        exact L135 _ 0 rfl (Nat.zero_le _)
      · refine j_iconst CX dX6_foretold_80 (show _ = (nI 0 : Int32) by decide) ?_
        refine j_istore CX (lv' := [(5, .int (nI 0)), (4, .int (nI k9)), (3, .int (nI (mxC (rpC sh C n) n + 1))), (0, .ref (a 0)), (1, .int (nI z)), (2, .int (nI h))]) dX6_foretold_81 (by decide) rfl ?_
        exact L83 _ 0 rfl h77 (Nat.zero_le _)
  have L38 : ∀ (d38 : Nat) (k9 : Nat), n - k9 = d38 → k9 ≤ n → J p l e rmX6_foretold s m args below meth c D A 6 0 0 (MQ below (jQc D (fun r0 w0 => r0 = some (.int ((ftO sh n (rpC sh C n) (mxC (rpC sh C n) n + 1) va (h * (mxC (rpC sh C n) n + 1))) z)) ∧ w0 = mW a cI cZ n (nI 0) (nI fc) sp (nI cr) (nI ln) cx (nI jo) (nI wg) sh (kcF (ftO sh n (rpC sh C n) (mxC (rpC sh C n) n + 1) va (h * (mxC (rpC sh C n) n + 1))) (kcF ke va n) n) (nf (rpC sh C n)) (nf fw) (nf fz) (nf fh) (nf G) di (nf B) (kcF ke va n) (nf dO) (nf fr) (nf ma) (nf st) hf (nf wa) ra ag) A) args s rmX6_foretold.cells rmX6_foretold.slots A) (mW a cI cZ n (nI 0) (nI fc) sp (nI cr) (nI ln) cx (nI jo) (nI wg) sh va (nf C) (nf fw) (nf fz) (nf fh) (nf G) di (nf B) (kcF ke va k9) (nf dO) (nf fr) (nf ma) (nf st) hf (nf wa) ra ag) 38 [(3, .int (nI k9)), (0, .ref (a 0)), (1, .int (nI z)), (2, .int (nI h))] [] := by
    intro d38
    induction d38 using Nat.strongRecOn with
    | _ d38 ih38 =>
      intro k9 hd hk
      refine j_iload_n CX 0 dX6_foretold_38 rfl rfl ?_
      refine j_aload_n CX 1 dX6_foretold_39 rfl rfl ?_
      refine j_get CX 0 1 dX6_foretold_40 rfl rfl hin6 (by decide) hfl69 rfl ?_
      refine j_icmpN_ge CX (by first | assumption | omega) (by first | assumption | omega | exact b2n_lt _ | exact t2n_lt _) 64 dX6_foretold_43 (by decide) (fun h43 => ?_) (fun h43 => ?_)
      · rw [show k9 = n by omega]
        refine j_aload_n CX 1 dX6_foretold_64 rfl rfl ?_
        refine j_callV CX (n := 0) (pre := []) (post := []) (rest := []) (qc := (RX6, TX6, 27)) (r_colours l D cI cZ cL a n (nI 0) fc sp cr ln cx jo wg sh va C fw fz fh G di B (kcF ke va n) dO fr ma st hf wa ra ag hn) gX6_foretold_X6_colours rfl (by decide +kernel) ⟨Nat.le_of_ble_eq_true rfl, Nat.le_of_ble_eq_true rfl⟩ rfl rfl rfl rfl rfl (Nat.le_of_ble_eq_true rfl) dX6_foretold_65 ⟨Nat.le_refl _, Nat.le_refl _⟩ (fun r9 w9 h9 => ?_)
        obtain ⟨rfl, rfl⟩ := h9
        refine j_w (w' := mW a cI cZ n (nI 0) (nI fc) sp (nI cr) (nI ln) cx (nI jo) (nI wg) sh va (nf (rpC sh C n)) (nf fw) (nf fz) (nf fh) (nf G) di (nf B) (kcF ke va n) (nf dO) (nf fr) (nf ma) (nf st) hf (nf wa) ra ag) rfl ?_
        refine j_st (st9 := [.int (nI (mxC (rpC sh C n) n + 1))]) rfl ?_
        refine j_istore_n CX (lv' := [(3, .int (nI (mxC (rpC sh C n) n + 1))), (0, .ref (a 0)), (1, .int (nI z)), (2, .int (nI h))]) dX6_foretold_68 rfl (by decide) rfl ?_
        refine j_iconst CX dX6_foretold_69 (show _ = (nI 0 : Int32) by decide) ?_
        refine j_istore CX (lv' := [(4, .int (nI 0)), (3, .int (nI (mxC (rpC sh C n) n + 1))), (0, .ref (a 0)), (1, .int (nI z)), (2, .int (nI h))]) dX6_foretold_70 (by decide) rfl ?_
        exact L72 _ 0 rfl (Nat.zero_le _)
      · refine j_aload_n CX 1 dX6_foretold_46 rfl rfl ?_
        refine j_get CX 0 15 dX6_foretold_47 rfl rfl hin6 (by decide) hfl42 rfl ?_
        refine j_iload_n CX 0 dX6_foretold_50 rfl rfl ?_
        refine j_aload_n CX 1 dX6_foretold_51 rfl rfl ?_
        refine j_get CX 0 3 dX6_foretold_52 rfl rfl hin6 (by decide) hfl13 rfl ?_
        refine j_iload_n CX 0 dX6_foretold_55 rfl rfl ?_
        refine j_iald CX 2 k9 dX6_foretold_56 rfl (rfl) (by first | assumption | omega) (by decide) ?_
        refine j_iast CX (w' := mW a cI cZ n (nI 0) (nI fc) sp (nI cr) (nI ln) cx (nI jo) (nI wg) sh va (nf C) (nf fw) (nf fz) (nf fh) (nf G) di (nf B) (upd (kcF ke va k9) k9 (va k9)) (nf dO) (nf fr) (nf ma) (nf st) hf (nf wa) ra ag) 10 k9 dX6_foretold_57 rfl (rfl) (by first | assumption | omega) (by decide) rfl ?_
        refine j_iinc CX (v := nI (k9 + 1)) (lv' := [(3, .int (nI (k9 + 1))), (0, .ref (a 0)), (1, .int (nI z)), (2, .int (nI h))]) 0 dX6_foretold_58 rfl (nI_1 _) (by decide) rfl ?_
        refine j_goto CX 38 dX6_foretold_61 (by decide) ?_
        exact ih38 _ (by omega) (k9 + 1) rfl (by omega)
  show J p l e rmX6_foretold s m args below meth c D A 6 0 0 (MQ below (jQc D (fun r0 w0 => r0 = some (.int ((ftO sh n (rpC sh C n) (mxC (rpC sh C n) n + 1) va (h * (mxC (rpC sh C n) n + 1))) z)) ∧ w0 = mW a cI cZ n (nI 0) (nI fc) sp (nI cr) (nI ln) cx (nI jo) (nI wg) sh (kcF (ftO sh n (rpC sh C n) (mxC (rpC sh C n) n + 1) va (h * (mxC (rpC sh C n) n + 1))) (kcF ke va n) n) (nf (rpC sh C n)) (nf fw) (nf fz) (nf fh) (nf G) di (nf B) (kcF ke va n) (nf dO) (nf fr) (nf ma) (nf st) hf (nf wa) ra ag) A) args s rmX6_foretold.cells rmX6_foretold.slots A) (mW a cI cZ n thr (nI fc) sp (nI cr) (nI ln) cx (nI jo) (nI wg) sh va (nf C) (nf fw) (nf fz) (nf fh) (nf G) di (nf B) ke (nf dO) (nf fr) (nf ma) (nf st) hf (nf wa) ra ag) 0 [(0, .ref (a 0)), (1, .int (nI z)), (2, .int (nI h))] []
  refine j_aload_n CX 0 dX6_foretold_0 rfl rfl ?_
  refine j_aload_n CX 0 dX6_foretold_1 rfl rfl ?_
  refine j_iload_n CX 1 dX6_foretold_2 rfl rfl ?_
  refine j_callV CX (n := 1) (pre := []) (post := []) (rest := [.ref (a 0)]) (qc := (RX6, TX6, 27)) (r_nz_f l D cI cZ cL a n thr fc sp cr ln cx jo wg sh va C fw fz fh G di B ke dO fr ma st hf wa ra ag z hn (by omega)) gX6_foretold_X6_noZone rfl (by decide +kernel) ⟨Nat.le_of_ble_eq_true rfl, Nat.le_of_ble_eq_true rfl⟩ rfl rfl rfl rfl rfl (Nat.le_of_ble_eq_true rfl) dX6_foretold_3 ⟨Nat.le_refl _, Nat.le_refl _⟩ (fun r9 w9 h9 => ?_)
  obtain ⟨rfl, rfl⟩ := h9
  refine j_w (w' := mW a cI cZ n thr (nI fc) sp (nI cr) (nI ln) cx (nI jo) (nI wg) sh va (nf C) (nf fw) (nf fz) (nf fh) (nf G) di (nf B) ke (nf dO) (nf fr) (nf ma) (nf st) hf (nf wa) ra ag) rfl ?_
  refine j_st (st9 := [.int (nI 0), .ref (a 0)]) rfl ?_
  refine j_ifN_ne CX (by first | assumption | omega | exact b2n_lt _ | exact t2n_lt _) 19 dX6_foretold_6 (by decide) (fun h6 => absurd h6 (by decide)) (fun h6 => ?_)
  refine j_iload_n CX 2 dX6_foretold_9 rfl rfl ?_
  refine j_iconst CX dX6_foretold_10 (show _ = (nI 0 : Int32) by decide) ?_
  refine j_bipush CX dX6_foretold_11 (show _ = (nI 50 : Int32) by decide) ?_
  refine j_callS CX (n := 3) (b := 0) (pre := []) (post := mW a cI cZ n thr (nI fc) sp (nI cr) (nI ln) cx (nI jo) (nI wg) sh va (nf C) (nf fw) (nf fz) (nf fh) (nf G) di (nf B) ke (nf dO) (nf fr) (nf ma) (nf st) hf (nf wa) ra ag) (rest := [.ref (a 0)]) (r_isIn_t l D cI cZ cL (nI h) (nI 0) (nI 50) (nI_nlt (by omega) (by omega)) (nI_nlt (by omega) (by omega))) gX6_foretold_X6_isIn rfl (by decide +kernel) ⟨Nat.le_of_ble_eq_true rfl, Nat.le_of_ble_eq_true rfl⟩ rfl rfl rfl (Nat.le_of_ble_eq_true rfl) dX6_foretold_13 ⟨Nat.le_refl _, Nat.le_refl _⟩ (fun r9 w9 h9 => ?_)
  obtain ⟨rfl, rfl⟩ := h9
  refine j_w (w' := mW a cI cZ n thr (nI fc) sp (nI cr) (nI ln) cx (nI jo) (nI wg) sh va (nf C) (nf fw) (nf fz) (nf fh) (nf G) di (nf B) ke (nf dO) (nf fr) (nf ma) (nf st) hf (nf wa) ra ag) rfl ?_
  refine j_st (st9 := [.int (nI 1), .ref (a 0)]) rfl ?_
  refine j_ifN_ne CX (by first | assumption | omega | exact b2n_lt _ | exact t2n_lt _) 23 dX6_foretold_16 (by decide) (fun h16 => ?_) (fun h16 => absurd h16 (by decide))
  refine j_iconst CX dX6_foretold_23 (show _ = (nI 0 : Int32) by decide) ?_
  refine j_put CX (w' := mW a cI cZ n (nI 0) (nI fc) sp (nI cr) (nI ln) cx (nI jo) (nI wg) sh va (nf C) (nf fw) (nf fz) (nf fh) (nf G) di (nf B) ke (nf dO) (nf fr) (nf ma) (nf st) hf (nf wa) ra ag) 0 0 dX6_foretold_24 rfl rfl hin6 tyX6 tyX6_ok nmX6 (by decide) hfl72 rfl rfl rfl rfl (Nat.le_of_ble_eq_true rfl) rfl ?_
  refine j_aload_n CX 0 dX6_foretold_27 rfl rfl ?_
  refine j_get CX 0 0 dX6_foretold_28 rfl rfl hin6 (by decide) hfl72 rfl ?_
  refine j_ifN_le CX (by first | assumption | omega | exact b2n_lt _ | exact t2n_lt _) 36 dX6_foretold_31 (by decide) (fun h31 => ?_) (fun h31 => absurd h31 (by decide))
  refine j_iconst CX dX6_foretold_36 (show _ = (nI 0 : Int32) by decide) ?_
  refine j_istore_n CX (lv' := [(3, .int (nI 0)), (0, .ref (a 0)), (1, .int (nI z)), (2, .int (nI h))]) dX6_foretold_37 rfl (by decide) rfl ?_
  exact L38 _ 0 rfl (Nat.zero_le _)

set_option maxRecDepth 100000 in
set_option maxHeartbeats 4000000 in
theorem r_foretold_x1 (l : Launch) (D : va_G) (cI cZ cL : ClassId) (a : Nat → Nat) (n : Nat) (thr : Int32) (fc : Nat) (sp : Int32) (cr ln : Nat) (cx : Int32) (jo wg : Nat) (sh va : Nat → Int32) (C fw fz fh G : Nat → Nat) (di : Nat → Int32) (B : Nat → Nat) (ke : Nat → Int32) (dO fr ma st : Nat → Nat) (hf : Nat → Int32) (wa : Nat → Nat) (ra ag : Nat → Int32) (v y : Int32) (g : v < 0 ∨ nI n ≤ v) : Cg l D cI cZ cL yX6_foretold wsX6_foretold rmX6_foretold [.ref (a 0), .int v, .int y] (mW a cI cZ n thr (nI fc) sp (nI cr) (nI ln) cx (nI jo) (nI wg) sh va (nf C) (nf fw) (nf fz) (nf fh) (nf G) di (nf B) ke (nf dO) (nf fr) (nf ma) (nf st) hf (nf wa) ra ag) (fun r0 w0 => r0 = some (.int (nI 0)) ∧ w0 = mW a cI cZ n (nI 1) (nI fc) sp (nI cr) (nI ln) cx (nI jo) (nI wg) sh va (nf C) (nf fw) (nf fz) (nf fh) (nf G) di (nf B) ke (nf dO) (nf fr) (nf ma) (nf st) hf (nf wa) ra ag) := by
  refine Cg.ofJ (own := RX6) (cc := cX6_foretold) (maxL := 6) (ret := (some .int)) (by decide) rfl rfl (Nat.le_of_ble_eq_true rfl) ?_
  intro p e s m args below meth c A CX hr hlocks hname
  have hin6 : ∀ x ∈ u_ws RX6 TX6 27, x ∈ wsX6_foretold := by decide +kernel
  have hfl72 : Cond.fieldLink RX6 72 (TX6 0).1 (TX6 0).2.1 (TX6 0).2.2.1 ∈ wsX6_foretold := by decide +kernel
  show J p l e rmX6_foretold s m args below meth c D A 6 0 0 (MQ below (jQc D (fun r0 w0 => r0 = some (.int (nI 0)) ∧ w0 = mW a cI cZ n (nI 1) (nI fc) sp (nI cr) (nI ln) cx (nI jo) (nI wg) sh va (nf C) (nf fw) (nf fz) (nf fh) (nf G) di (nf B) ke (nf dO) (nf fr) (nf ma) (nf st) hf (nf wa) ra ag) A) args s rmX6_foretold.cells rmX6_foretold.slots A) (mW a cI cZ n thr (nI fc) sp (nI cr) (nI ln) cx (nI jo) (nI wg) sh va (nf C) (nf fw) (nf fz) (nf fh) (nf G) di (nf B) ke (nf dO) (nf fr) (nf ma) (nf st) hf (nf wa) ra ag) 0 [(0, .ref (a 0)), (1, .int v), (2, .int y)] []
  refine j_aload_n CX 0 dX6_foretold_0 rfl rfl ?_
  refine j_aload_n CX 0 dX6_foretold_1 rfl rfl ?_
  refine j_iload_n CX 1 dX6_foretold_2 rfl rfl ?_
  refine j_callV CX (n := 1) (pre := []) (post := []) (rest := [.ref (a 0)]) (qc := (RX6, TX6, 27)) (r_nz_t l D cI cZ cL a n thr fc sp cr ln cx jo wg sh va C fw fz fh G di B ke dO fr ma st hf wa ra ag v (g)) gX6_foretold_X6_noZone rfl (by decide +kernel) ⟨Nat.le_of_ble_eq_true rfl, Nat.le_of_ble_eq_true rfl⟩ rfl rfl rfl rfl rfl (Nat.le_of_ble_eq_true rfl) dX6_foretold_3 ⟨Nat.le_refl _, Nat.le_refl _⟩ (fun r9 w9 h9 => ?_)
  obtain ⟨rfl, rfl⟩ := h9
  refine j_w (w' := mW a cI cZ n thr (nI fc) sp (nI cr) (nI ln) cx (nI jo) (nI wg) sh va (nf C) (nf fw) (nf fz) (nf fh) (nf G) di (nf B) ke (nf dO) (nf fr) (nf ma) (nf st) hf (nf wa) ra ag) rfl ?_
  refine j_st (st9 := [.int (nI 1), .ref (a 0)]) rfl ?_
  refine j_ifN_ne CX (by first | assumption | omega | exact b2n_lt _ | exact t2n_lt _) 19 dX6_foretold_6 (by decide) (fun h6 => ?_) (fun h6 => absurd h6 (by decide))
  refine j_iconst CX dX6_foretold_19 (show _ = (nI 1 : Int32) by decide) ?_
  refine j_goto CX 24 dX6_foretold_20 (by decide) ?_
  refine j_put CX (w' := mW a cI cZ n (nI 1) (nI fc) sp (nI cr) (nI ln) cx (nI jo) (nI wg) sh va (nf C) (nf fw) (nf fz) (nf fh) (nf G) di (nf B) ke (nf dO) (nf fr) (nf ma) (nf st) hf (nf wa) ra ag) 0 0 dX6_foretold_24 rfl rfl hin6 tyX6 tyX6_ok nmX6 (by decide) hfl72 rfl rfl rfl rfl (Nat.le_of_ble_eq_true rfl) rfl ?_
  refine j_aload_n CX 0 dX6_foretold_27 rfl rfl ?_
  refine j_get CX 0 0 dX6_foretold_28 rfl rfl hin6 (by decide) hfl72 rfl ?_
  refine j_ifN_le CX (by first | assumption | omega | exact b2n_lt _ | exact t2n_lt _) 36 dX6_foretold_31 (by decide) (fun h31 => absurd h31 (by decide)) (fun h31 => ?_)
  refine j_iconst CX dX6_foretold_34 (show _ = (nI 0 : Int32) by decide) ?_
  exact j_iret CX hr hlocks dX6_foretold_35 (⟨rfl, rfl⟩)

set_option maxRecDepth 100000 in
set_option maxHeartbeats 4000000 in
theorem r_foretold_x2 (l : Launch) (D : va_G) (cI cZ cL : ClassId) (a : Nat → Nat) (n : Nat) (thr : Int32) (fc : Nat) (sp : Int32) (cr ln : Nat) (cx : Int32) (jo wg : Nat) (sh va : Nat → Int32) (C fw fz fh G : Nat → Nat) (di : Nat → Int32) (B : Nat → Nat) (ke : Nat → Int32) (dO fr ma st : Nat → Nat) (hf : Nat → Int32) (wa : Nat → Nat) (ra ag : Nat → Int32) (z : Nat) (y : Int32) (hn : n ≤ 24) (hz : z < n) (g : y < nI 0 ∨ nI 50 < y) : Cg l D cI cZ cL yX6_foretold wsX6_foretold rmX6_foretold [.ref (a 0), .int (nI z), .int y] (mW a cI cZ n thr (nI fc) sp (nI cr) (nI ln) cx (nI jo) (nI wg) sh va (nf C) (nf fw) (nf fz) (nf fh) (nf G) di (nf B) ke (nf dO) (nf fr) (nf ma) (nf st) hf (nf wa) ra ag) (fun r0 w0 => r0 = some (.int (nI 0)) ∧ w0 = mW a cI cZ n (nI 1) (nI fc) sp (nI cr) (nI ln) cx (nI jo) (nI wg) sh va (nf C) (nf fw) (nf fz) (nf fh) (nf G) di (nf B) ke (nf dO) (nf fr) (nf ma) (nf st) hf (nf wa) ra ag) := by
  refine Cg.ofJ (own := RX6) (cc := cX6_foretold) (maxL := 6) (ret := (some .int)) (by decide) rfl rfl (Nat.le_of_ble_eq_true rfl) ?_
  intro p e s m args below meth c A CX hr hlocks hname
  have hin6 : ∀ x ∈ u_ws RX6 TX6 27, x ∈ wsX6_foretold := by decide +kernel
  have hfl72 : Cond.fieldLink RX6 72 (TX6 0).1 (TX6 0).2.1 (TX6 0).2.2.1 ∈ wsX6_foretold := by decide +kernel
  show J p l e rmX6_foretold s m args below meth c D A 6 0 0 (MQ below (jQc D (fun r0 w0 => r0 = some (.int (nI 0)) ∧ w0 = mW a cI cZ n (nI 1) (nI fc) sp (nI cr) (nI ln) cx (nI jo) (nI wg) sh va (nf C) (nf fw) (nf fz) (nf fh) (nf G) di (nf B) ke (nf dO) (nf fr) (nf ma) (nf st) hf (nf wa) ra ag) A) args s rmX6_foretold.cells rmX6_foretold.slots A) (mW a cI cZ n thr (nI fc) sp (nI cr) (nI ln) cx (nI jo) (nI wg) sh va (nf C) (nf fw) (nf fz) (nf fh) (nf G) di (nf B) ke (nf dO) (nf fr) (nf ma) (nf st) hf (nf wa) ra ag) 0 [(0, .ref (a 0)), (1, .int (nI z)), (2, .int y)] []
  refine j_aload_n CX 0 dX6_foretold_0 rfl rfl ?_
  refine j_aload_n CX 0 dX6_foretold_1 rfl rfl ?_
  refine j_iload_n CX 1 dX6_foretold_2 rfl rfl ?_
  refine j_callV CX (n := 1) (pre := []) (post := []) (rest := [.ref (a 0)]) (qc := (RX6, TX6, 27)) (r_nz_f l D cI cZ cL a n thr fc sp cr ln cx jo wg sh va C fw fz fh G di B ke dO fr ma st hf wa ra ag z hn (by omega)) gX6_foretold_X6_noZone rfl (by decide +kernel) ⟨Nat.le_of_ble_eq_true rfl, Nat.le_of_ble_eq_true rfl⟩ rfl rfl rfl rfl rfl (Nat.le_of_ble_eq_true rfl) dX6_foretold_3 ⟨Nat.le_refl _, Nat.le_refl _⟩ (fun r9 w9 h9 => ?_)
  obtain ⟨rfl, rfl⟩ := h9
  refine j_w (w' := mW a cI cZ n thr (nI fc) sp (nI cr) (nI ln) cx (nI jo) (nI wg) sh va (nf C) (nf fw) (nf fz) (nf fh) (nf G) di (nf B) ke (nf dO) (nf fr) (nf ma) (nf st) hf (nf wa) ra ag) rfl ?_
  refine j_st (st9 := [.int (nI 0), .ref (a 0)]) rfl ?_
  refine j_ifN_ne CX (by first | assumption | omega | exact b2n_lt _ | exact t2n_lt _) 19 dX6_foretold_6 (by decide) (fun h6 => absurd h6 (by decide)) (fun h6 => ?_)
  refine j_iload_n CX 2 dX6_foretold_9 rfl rfl ?_
  refine j_iconst CX dX6_foretold_10 (show _ = (nI 0 : Int32) by decide) ?_
  refine j_bipush CX dX6_foretold_11 (show _ = (nI 50 : Int32) by decide) ?_
  refine j_callS CX (n := 3) (b := 0) (pre := []) (post := mW a cI cZ n thr (nI fc) sp (nI cr) (nI ln) cx (nI jo) (nI wg) sh va (nf C) (nf fw) (nf fz) (nf fh) (nf G) di (nf B) ke (nf dO) (nf fr) (nf ma) (nf st) hf (nf wa) ra ag) (rest := [.ref (a 0)]) (r_isIn_f l D cI cZ cL y (nI 0) (nI 50) (g)) gX6_foretold_X6_isIn rfl (by decide +kernel) ⟨Nat.le_of_ble_eq_true rfl, Nat.le_of_ble_eq_true rfl⟩ rfl rfl rfl (Nat.le_of_ble_eq_true rfl) dX6_foretold_13 ⟨Nat.le_refl _, Nat.le_refl _⟩ (fun r9 w9 h9 => ?_)
  obtain ⟨rfl, rfl⟩ := h9
  refine j_w (w' := mW a cI cZ n thr (nI fc) sp (nI cr) (nI ln) cx (nI jo) (nI wg) sh va (nf C) (nf fw) (nf fz) (nf fh) (nf G) di (nf B) ke (nf dO) (nf fr) (nf ma) (nf st) hf (nf wa) ra ag) rfl ?_
  refine j_st (st9 := [.int (nI 0), .ref (a 0)]) rfl ?_
  refine j_ifN_ne CX (by first | assumption | omega | exact b2n_lt _ | exact t2n_lt _) 23 dX6_foretold_16 (by decide) (fun h16 => absurd h16 (by decide)) (fun h16 => ?_)
  refine j_iconst CX dX6_foretold_19 (show _ = (nI 1 : Int32) by decide) ?_
  refine j_goto CX 24 dX6_foretold_20 (by decide) ?_
  refine j_put CX (w' := mW a cI cZ n (nI 1) (nI fc) sp (nI cr) (nI ln) cx (nI jo) (nI wg) sh va (nf C) (nf fw) (nf fz) (nf fh) (nf G) di (nf B) ke (nf dO) (nf fr) (nf ma) (nf st) hf (nf wa) ra ag) 0 0 dX6_foretold_24 rfl rfl hin6 tyX6 tyX6_ok nmX6 (by decide) hfl72 rfl rfl rfl rfl (Nat.le_of_ble_eq_true rfl) rfl ?_
  refine j_aload_n CX 0 dX6_foretold_27 rfl rfl ?_
  refine j_get CX 0 0 dX6_foretold_28 rfl rfl hin6 (by decide) hfl72 rfl ?_
  refine j_ifN_le CX (by first | assumption | omega | exact b2n_lt _ | exact t2n_lt _) 36 dX6_foretold_31 (by decide) (fun h31 => absurd h31 (by decide)) (fun h31 => ?_)
  refine j_iconst CX dX6_foretold_34 (show _ = (nI 0 : Int32) by decide) ?_
  exact j_iret CX hr hlocks dX6_foretold_35 (⟨rfl, rfl⟩)
