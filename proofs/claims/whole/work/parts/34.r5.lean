theorem r_worker0 (l : Launch) (D : va_G) (cI cZ cL : ClassId) (a : Nat → Nat) (n : Nat) (thr : Int32) (fc : Nat) (sp : Int32) (cr ln : Nat) (cx : Int32) (jo wg : Nat) (sh va : Nat → Int32) (C fw fz fh G : Nat → Nat) (di : Nat → Int32) (B : Nat → Nat) (ke : Nat → Int32) (dO fr ma st : Nat → Nat) (hf : Nat → Int32) (wa : Nat → Nat) (ra ag : Nat → Int32) (hcr : cr ≤ 16) (hG : ∀ k, k < cr → G k < 2 ^ 31) (h0 : cnF G cr = 0) : Cg l D cI cZ cL yX6_worker wsX6_worker rmX6_worker [.ref (a 0)] (mW a cI cZ n thr (nI fc) sp (nI cr) (nI ln) cx (nI jo) (nI wg) sh va (nf C) (nf fw) (nf fz) (nf fh) (nf G) di (nf B) ke (nf dO) (nf fr) (nf ma) (nf st) hf (nf wa) ra ag) (fun r0 w0 => r0 = some (.int (-1)) ∧ w0 = mW a cI cZ n thr (nI fc) sp (nI cr) (nI ln) cx (nI jo) (nI wg) sh va (nf C) (nf fw) (nf fz) (nf fh) (nf G) di (nf B) ke (nf dO) (nf fr) (nf ma) (nf st) hf (nf wa) ra ag) := by
  have h := r_worker l D cI cZ cL a n thr fc sp cr ln cx jo wg sh va C fw fz fh G di B ke dO fr ma st hf wa ra ag hcr hG
  rw [if_pos h0, if_pos h0] at h
  exact h
theorem r_worker1 (l : Launch) (D : va_G) (cI cZ cL : ClassId) (a : Nat → Nat) (n : Nat) (thr : Int32) (fc : Nat) (sp : Int32) (cr ln : Nat) (cx : Int32) (jo wg : Nat) (sh va : Nat → Int32) (C fw fz fh G : Nat → Nat) (di : Nat → Int32) (B : Nat → Nat) (ke : Nat → Int32) (dO fr ma st : Nat → Nat) (hf : Nat → Int32) (wa : Nat → Nat) (ra ag : Nat → Int32) (w : Nat) (hcr : cr ≤ 16) (hG : ∀ k, k < cr → G k < 2 ^ 31) (h0 : cnF G cr ≠ 0) (hw : wkF G cr 0 (dv (nxH cx) % cnF G cr) = nI w) : Cg l D cI cZ cL yX6_worker wsX6_worker rmX6_worker [.ref (a 0)] (mW a cI cZ n thr (nI fc) sp (nI cr) (nI ln) cx (nI jo) (nI wg) sh va (nf C) (nf fw) (nf fz) (nf fh) (nf G) di (nf B) ke (nf dO) (nf fr) (nf ma) (nf st) hf (nf wa) ra ag) (fun r0 w0 => r0 = some (.int (nI w)) ∧ w0 = mW a cI cZ n thr (nI fc) sp (nI cr) (nI ln) (nxH cx) (nI jo) (nI wg) sh va (nf C) (nf fw) (nf fz) (nf fh) (nf G) di (nf B) ke (nf dO) (nf fr) (nf ma) (nf st) hf (nf wa) ra ag) := by
  have h := r_worker l D cI cZ cL a n thr fc sp cr ln cx jo wg sh va C fw fz fh G di B ke dO fr ma st hf wa ra ag hcr hG
  rw [if_neg h0, if_neg h0, hw] at h
  exact h
abbrev rmX6_hour : Room := { frames := 2, cells := 0, slots := 0, locals := 45 }
set_option maxRecDepth 100000 in
set_option maxHeartbeats 4000000 in
theorem r_hour (l : Launch) (D : va_G) (cI cZ cL : ClassId) (a : Nat → Nat) (n : Nat) (thr : Int32) (fc : Nat) (sp : Int32) (cr ln : Nat) (cx : Int32) (jo wg : Nat) (sh va : Nat → Int32) (C fw fz fh G : Nat → Nat) (di : Nat → Int32) (B : Nat → Nat) (ke : Nat → Int32) (dO fr ma st : Nat → Nat) (hf : Nat → Int32) (wa : Nat → Nat) (ra ag : Nat → Int32) (h K : Nat) (hn : n ≤ 24) (hK : K ≤ 24) (hh : h < 1000) (hfc : fc ≤ 200) (hcr : cr ≤ 16) (hC : ∀ k, k < n → C k < 2 ^ 31) (hfw : ∀ k, k < fc → fw k < 2 ^ 31) (hfz : ∀ k, k < fc → fz k < 2 ^ 31) (hfh : ∀ k, k < fc → fh k < 2 ^ 31) (hs : qsOk n cr (va, G, di, cx, B, ln, dzF dO n)) : Cg l D cI cZ cL yX6_hour wsX6_hour rmX6_hour [.ref (a 0), .int (nI h), .int (nI K)] (mW a cI cZ n thr (nI fc) sp (nI cr) (nI ln) cx (nI jo) (nI wg) sh va (nf C) (nf fw) (nf fz) (nf fh) (nf G) di (nf B) ke (nf dO) (nf fr) (nf ma) (nf st) hf (nf wa) ra ag) (fun r0 w0 => r0 = some (.int (nI (t2n (roF sh n C fw fz fh fc cr h K 0 (va, G, di, cx, B, ln, dzF dO n)).1))) ∧ w0 = mW a cI cZ n thr (nI fc) sp (nI cr) (nI (roF sh n C fw fz fh fc cr h K 0 (va, G, di, cx, B, ln, dzF dO n)).2.2.2.2.2.2.1) ((roF sh n C fw fz fh fc cr h K 0 (va, G, di, cx, B, ln, dzF dO n)).2.2.2.2.1) (nI jo) (nI wg) sh (if (roF sh n C fw fz fh fc cr h K 0 (va, G, di, cx, B, ln, dzF dO n)).1 = true then (roF sh n C fw fz fh fc cr h K 0 (va, G, di, cx, B, ln, dzF dO n)).2.1 else kcF (roF sh n C fw fz fh fc cr h K 0 (va, G, di, cx, B, ln, dzF dO n)).2.1 (kcF ke va n) n) (nf C) (nf fw) (nf fz) (nf fh) (nf (roF sh n C fw fz fh fc cr h K 0 (va, G, di, cx, B, ln, dzF dO n)).2.2.1) ((roF sh n C fw fz fh fc cr h K 0 (va, G, di, cx, B, ln, dzF dO n)).2.2.2.1) (nf (roF sh n C fw fz fh fc cr h K 0 (va, G, di, cx, B, ln, dzF dO n)).2.2.2.2.2.1) (kcF ke va n) (nf (roF sh n C fw fz fh fc cr h K 0 (va, G, di, cx, B, ln, dzF dO n)).2.2.2.2.2.2.2) (nf fr) (nf ma) (nf st) hf (nf wa) ra ag) := by
  refine Cg.ofJ (own := RX6) (cc := cX6_hour) (maxL := 7) (ret := (some .boolean)) (by decide) rfl rfl (Nat.le_of_ble_eq_true rfl) ?_
  intro p e s m args below meth c A CX hr hlocks hname
  have hin6 : ∀ x ∈ u_ws RX6 TX6 27, x ∈ wsX6_hour := by decide +kernel
  have hfl69 : Cond.fieldLink RX6 69 (TX6 1).1 (TX6 1).2.1 (TX6 1).2.2.1 ∈ wsX6_hour := by decide +kernel
  have hfl13 : Cond.fieldLink RX6 13 (TX6 3).1 (TX6 3).2.1 (TX6 3).2.2.1 ∈ wsX6_hour := by decide +kernel
  have hfl42 : Cond.fieldLink RX6 42 (TX6 15).1 (TX6 15).2.1 (TX6 15).2.2.1 ∈ wsX6_hour := by decide +kernel
  have hfl45 : Cond.fieldLink RX6 45 (TX6 16).1 (TX6 16).2.1 (TX6 16).2.2.1 ∈ wsX6_hour := by decide +kernel
  have hfl36 : Cond.fieldLink RX6 36 (TX6 12).1 (TX6 12).2.1 (TX6 12).2.2.1 ∈ wsX6_hour := by decide +kernel
  have hfl32 : Cond.fieldLink RX6 32 (TX6 11).1 (TX6 11).2.1 (TX6 11).2.2.1 ∈ wsX6_hour := by decide +kernel
  have L37 : ∀ (d37 : Nat) (c9 : Nat) (va9 : Nat → Int32) (G9 : Nat → Nat) (di9 : Nat → Int32) (cx9 : Int32) (B9 : Nat → Nat) (ln9 : Nat) (dO9 : Nat → Nat), K - c9 = d37 → c9 ≤ K → qsOk n cr (va9, G9, di9, cx9, B9, ln9, dO9) → roF sh n C fw fz fh fc cr h (K - c9) c9 (va9, G9, di9, cx9, B9, ln9, dO9) = roF sh n C fw fz fh fc cr h K 0 (va, G, di, cx, B, ln, dzF dO n) → J p l e rmX6_hour s m args below meth c D A 7 0 0 (MQ below (jQc D (fun r0 w0 => r0 = some (.int (nI (t2n (roF sh n C fw fz fh fc cr h K 0 (va, G, di, cx, B, ln, dzF dO n)).1))) ∧ w0 = mW a cI cZ n thr (nI fc) sp (nI cr) (nI (roF sh n C fw fz fh fc cr h K 0 (va, G, di, cx, B, ln, dzF dO n)).2.2.2.2.2.2.1) ((roF sh n C fw fz fh fc cr h K 0 (va, G, di, cx, B, ln, dzF dO n)).2.2.2.2.1) (nI jo) (nI wg) sh (if (roF sh n C fw fz fh fc cr h K 0 (va, G, di, cx, B, ln, dzF dO n)).1 = true then (roF sh n C fw fz fh fc cr h K 0 (va, G, di, cx, B, ln, dzF dO n)).2.1 else kcF (roF sh n C fw fz fh fc cr h K 0 (va, G, di, cx, B, ln, dzF dO n)).2.1 (kcF ke va n) n) (nf C) (nf fw) (nf fz) (nf fh) (nf (roF sh n C fw fz fh fc cr h K 0 (va, G, di, cx, B, ln, dzF dO n)).2.2.1) ((roF sh n C fw fz fh fc cr h K 0 (va, G, di, cx, B, ln, dzF dO n)).2.2.2.1) (nf (roF sh n C fw fz fh fc cr h K 0 (va, G, di, cx, B, ln, dzF dO n)).2.2.2.2.2.1) (kcF ke va n) (nf (roF sh n C fw fz fh fc cr h K 0 (va, G, di, cx, B, ln, dzF dO n)).2.2.2.2.2.2.2) (nf fr) (nf ma) (nf st) hf (nf wa) ra ag) A) args s rmX6_hour.cells rmX6_hour.slots A) (mW a cI cZ n thr (nI fc) sp (nI cr) (nI ln9) cx9 (nI jo) (nI wg) sh va9 (nf C) (nf fw) (nf fz) (nf fh) (nf G9) di9 (nf B9) (kcF ke va n) (nf dO9) (nf fr) (nf ma) (nf st) hf (nf wa) ra ag) 37 [(3, .int (nI c9)), (0, .ref (a 0)), (1, .int (nI h)), (2, .int (nI K))] [] := by
    intro d37
    induction d37 using Nat.strongRecOn with
    | _ d37 ih37 =>
      intro c9 va9 G9 di9 cx9 B9 ln9 dO9 hd hc9 hs9 hec
      have hcnA := cnF_le G9 cr
      have hcnB := cnF_le dO9 n
      obtain ⟨s37, es37⟩ : ∃ z, z = (va9, G9, di9, cx9, B9, ln9, dO9) := ⟨_, rfl⟩
      rw [← es37] at hec
      have L49 : ∀ (d49 : Nat) (va9 : Nat → Int32) (G9 : Nat → Nat) (di9 : Nat → Int32) (cx9 : Int32) (B9 : Nat → Nat) (ln9 : Nat) (dO9 : Nat → Nat) (f9 : Nat), cnF G9 cr + cnF dO9 n = d49 → cnF G9 cr + cnF dO9 n < f9 → qsOk n cr (va9, G9, di9, cx9, B9, ln9, dO9) → c9 < K → rwF sh n C fw fz fh fc cr h c9 f9 (va9, G9, di9, cx9, B9, ln9, dO9) = rwF sh n C fw fz fh fc cr h c9 41 s37 → J p l e rmX6_hour s m args below meth c D A 7 0 0 (MQ below (jQc D (fun r0 w0 => r0 = some (.int (nI (t2n (roF sh n C fw fz fh fc cr h K 0 (va, G, di, cx, B, ln, dzF dO n)).1))) ∧ w0 = mW a cI cZ n thr (nI fc) sp (nI cr) (nI (roF sh n C fw fz fh fc cr h K 0 (va, G, di, cx, B, ln, dzF dO n)).2.2.2.2.2.2.1) ((roF sh n C fw fz fh fc cr h K 0 (va, G, di, cx, B, ln, dzF dO n)).2.2.2.2.1) (nI jo) (nI wg) sh (if (roF sh n C fw fz fh fc cr h K 0 (va, G, di, cx, B, ln, dzF dO n)).1 = true then (roF sh n C fw fz fh fc cr h K 0 (va, G, di, cx, B, ln, dzF dO n)).2.1 else kcF (roF sh n C fw fz fh fc cr h K 0 (va, G, di, cx, B, ln, dzF dO n)).2.1 (kcF ke va n) n) (nf C) (nf fw) (nf fz) (nf fh) (nf (roF sh n C fw fz fh fc cr h K 0 (va, G, di, cx, B, ln, dzF dO n)).2.2.1) ((roF sh n C fw fz fh fc cr h K 0 (va, G, di, cx, B, ln, dzF dO n)).2.2.2.1) (nf (roF sh n C fw fz fh fc cr h K 0 (va, G, di, cx, B, ln, dzF dO n)).2.2.2.2.2.1) (kcF ke va n) (nf (roF sh n C fw fz fh fc cr h K 0 (va, G, di, cx, B, ln, dzF dO n)).2.2.2.2.2.2.2) (nf fr) (nf ma) (nf st) hf (nf wa) ra ag) A) args s rmX6_hour.cells rmX6_hour.slots A) (mW a cI cZ n thr (nI fc) sp (nI cr) (nI ln9) cx9 (nI jo) (nI wg) sh va9 (nf C) (nf fw) (nf fz) (nf fh) (nf G9) di9 (nf B9) (kcF ke va n) (nf dO9) (nf fr) (nf ma) (nf st) hf (nf wa) ra ag) 49 [(4, .int (nxD C dO9 c9 n n)), (3, .int (nI c9)), (0, .ref (a 0)), (1, .int (nI h)), (2, .int (nI K))] [] := by
        intro d49
        induction d49 using Nat.strongRecOn with
        | _ d49 ih49 =>
          intro va9 G9 di9 cx9 B9 ln9 dO9 f9 hd1 hf9 hs9 hcK he
          obtain ⟨f8, rfl⟩ : ∃ f8, f9 = f8 + 1 := ⟨f9 - 1, by omega⟩
          have hGb : ∀ k, k < cr → G9 k < 2 ^ 31 := fun k hk => Nat.lt_of_le_of_lt (show G9 k ≤ 1 from hs9.2.1 k hk) (by decide)
          obtain ⟨d8, hd8⟩ : ∃ d8, K - c9 = d8 + 1 := ⟨K - c9 - 1, by omega⟩
          have L70 : ∀ (d70 : Nat) (k9 : Nat), n - k9 = d70 → k9 ≤ n → roF sh n C fw fz fh fc cr h K 0 (va, G, di, cx, B, ln, dzF dO n) = (false, (va9, G9, di9, cx9, B9, ln9, dO9)) → J p l e rmX6_hour s m args below meth c D A 7 0 0 (MQ below (jQc D (fun r0 w0 => r0 = some (.int (nI (t2n (roF sh n C fw fz fh fc cr h K 0 (va, G, di, cx, B, ln, dzF dO n)).1))) ∧ w0 = mW a cI cZ n thr (nI fc) sp (nI cr) (nI (roF sh n C fw fz fh fc cr h K 0 (va, G, di, cx, B, ln, dzF dO n)).2.2.2.2.2.2.1) ((roF sh n C fw fz fh fc cr h K 0 (va, G, di, cx, B, ln, dzF dO n)).2.2.2.2.1) (nI jo) (nI wg) sh (if (roF sh n C fw fz fh fc cr h K 0 (va, G, di, cx, B, ln, dzF dO n)).1 = true then (roF sh n C fw fz fh fc cr h K 0 (va, G, di, cx, B, ln, dzF dO n)).2.1 else kcF (roF sh n C fw fz fh fc cr h K 0 (va, G, di, cx, B, ln, dzF dO n)).2.1 (kcF ke va n) n) (nf C) (nf fw) (nf fz) (nf fh) (nf (roF sh n C fw fz fh fc cr h K 0 (va, G, di, cx, B, ln, dzF dO n)).2.2.1) ((roF sh n C fw fz fh fc cr h K 0 (va, G, di, cx, B, ln, dzF dO n)).2.2.2.1) (nf (roF sh n C fw fz fh fc cr h K 0 (va, G, di, cx, B, ln, dzF dO n)).2.2.2.2.2.1) (kcF ke va n) (nf (roF sh n C fw fz fh fc cr h K 0 (va, G, di, cx, B, ln, dzF dO n)).2.2.2.2.2.2.2) (nf fr) (nf ma) (nf st) hf (nf wa) ra ag) A) args s rmX6_hour.cells rmX6_hour.slots A) (mW a cI cZ n thr (nI fc) sp (nI cr) (nI ln9) cx9 (nI jo) (nI wg) sh (kcF va9 (kcF ke va n) k9) (nf C) (nf fw) (nf fz) (nf fh) (nf G9) di9 (nf B9) (kcF ke va n) (nf dO9) (nf fr) (nf ma) (nf st) hf (nf wa) ra ag) 70 [(6, .int (nI k9)), (0, .ref (a 0))] [] := by
            intro d70
            induction d70 using Nat.strongRecOn with
            | _ d70 ih70 =>
              intro k9 hd2 hk e9
              refine j_iload CX 0 dX6_hour_70 rfl ?_
              refine j_aload_n CX 1 dX6_hour_72 rfl rfl ?_
              refine j_get CX 0 1 dX6_hour_73 rfl rfl hin6 (by decide) hfl69 rfl ?_
              refine j_icmpN_ge CX (by first | assumption | omega) (by first | assumption | omega | exact b2n_lt _ | exact t2n_lt _) 99 dX6_hour_76 (by decide) (fun h76 => ?_) (fun h76 => ?_)
              · refine j_iconst CX dX6_hour_99 (show _ = (nI 0 : Int32) by decide) ?_
                exact j_zret CX hr hlocks dX6_hour_100 (rfl) (⟨by rw [e9]; rfl, by rw [e9, if_neg Bool.false_ne_true, show n = k9 by omega]⟩)
              · refine j_aload_n CX 1 dX6_hour_79 rfl rfl ?_
                refine j_get CX 0 3 dX6_hour_80 rfl rfl hin6 (by decide) hfl13 rfl ?_
                refine j_iload CX 0 dX6_hour_83 rfl ?_
                refine j_aload_n CX 1 dX6_hour_85 rfl rfl ?_
                refine j_get CX 0 15 dX6_hour_86 rfl rfl hin6 (by decide) hfl42 rfl ?_
                refine j_iload CX 0 dX6_hour_89 rfl ?_
                refine j_iald CX 10 k9 dX6_hour_91 rfl (rfl) (by first | assumption | omega) (by decide) ?_
                refine j_iast CX (w' := mW a cI cZ n thr (nI fc) sp (nI cr) (nI ln9) cx9 (nI jo) (nI wg) sh (upd (kcF va9 (kcF ke va n) k9) k9 ((kcF ke va n) k9)) (nf C) (nf fw) (nf fz) (nf fh) (nf G9) di9 (nf B9) (kcF ke va n) (nf dO9) (nf fr) (nf ma) (nf st) hf (nf wa) ra ag) 2 k9 dX6_hour_92 rfl (rfl) (by first | assumption | omega) (by decide) rfl ?_
                refine j_iinc CX (v := nI (k9 + 1)) (lv' := [(6, .int (nI (k9 + 1))), (0, .ref (a 0))]) 0 dX6_hour_93 rfl (nI_1 _) (by decide) rfl ?_
                refine j_goto CX 70 dX6_hour_96 (by decide) ?_
                exact ih70 _ (by omega) (k9 + 1) rfl (by omega) e9
          refine j_iload CX 0 dX6_hour_49 rfl ?_
          refine j_iconst CX dX6_hour_51 (show _ = ((-1) : Int32) by decide) ?_
          refine j_icmp_eq CX 183 dX6_hour_52 (by decide) (fun h52 => ?_) (fun h52 => ?_)
          · refine j_iinc CX (v := nI (c9 + 1)) (lv' := [(3, .int (nI (c9 + 1))), (4, .int (nxD C dO9 c9 n n)), (0, .ref (a 0)), (1, .int (nI h)), (2, .int (nI K))]) 1 dX6_hour_183 rfl (nI_1 _) (by decide) rfl ?_
            refine j_goto CX 37 dX6_hour_186 (by decide) ?_
            refine j_lv (lv' := [(3, .int (nI (c9 + 1))), (0, .ref (a 0)), (1, .int (nI h)), (2, .int (nI K))]) [0, 2, 3, 4] rfl ?_
            exact ih37 _ (by omega) (c9 + 1) va9 G9 di9 cx9 B9 ln9 dO9 rfl (by omega) hs9 (by rw [← hec, hd8, roF_t (he.symm.trans (rwF_e h52)), show K - (c9 + 1) = d8 by omega])
          · obtain ⟨z9, hz1, hz2, hz4, hz3⟩ := nxD_some n (Nat.le_refl n) h52
            refine j_lve (lv' := [(4, .int (nI z9)), (3, .int (nI c9)), (0, .ref (a 0)), (1, .int (nI h)), (2, .int (nI K))]) (by rw [hz2]) ?_
            by_cases hs55 : cnF G9 cr = 0
            · refine j_aload_n CX 2 dX6_hour_55 rfl rfl ?_
              refine j_callV CX (n := 0) (pre := []) (post := []) (rest := []) (qc := (RX6, TX6, 27)) (r_worker0 l D cI cZ cL a n thr fc sp cr ln9 cx9 jo wg sh va9 C fw fz fh G9 di9 B9 (kcF ke va n) dO9 fr ma st hf wa ra ag hcr hGb hs55) gX6_hour_X6_worker rfl (by decide +kernel) ⟨Nat.le_of_ble_eq_true rfl, Nat.le_of_ble_eq_true rfl⟩ rfl rfl rfl rfl rfl (Nat.le_of_ble_eq_true rfl) dX6_hour_56 ⟨Nat.le_refl _, Nat.le_refl _⟩ (fun r9 w9 h9 => ?_)
              obtain ⟨rfl, rfl⟩ := h9
              refine j_w (w' := mW a cI cZ n thr (nI fc) sp (nI cr) (nI ln9) cx9 (nI jo) (nI wg) sh va9 (nf C) (nf fw) (nf fz) (nf fh) (nf G9) di9 (nf B9) (kcF ke va n) (nf dO9) (nf fr) (nf ma) (nf st) hf (nf wa) ra ag) rfl ?_
              refine j_st (st9 := [.int (-1)]) rfl ?_
              refine j_istore CX (lv' := [(5, .int (-1)), (4, .int (nI z9)), (3, .int (nI c9)), (0, .ref (a 0)), (1, .int (nI h)), (2, .int (nI K))]) dX6_hour_59 (by decide) rfl ?_
              refine j_iload CX 0 dX6_hour_61 rfl ?_
              refine j_iconst CX dX6_hour_63 (show _ = ((-1) : Int32) by decide) ?_
              refine j_icmp_ne CX 101 dX6_hour_64 (by decide) (fun h64 => absurd h64 (by decide)) (fun h64 => ?_)
              refine j_iconst CX dX6_hour_67 (show _ = (nI 0 : Int32) by decide) ?_
              refine j_istore CX (lv' := [(6, .int (nI 0)), (5, .int (-1)), (4, .int (nI z9)), (3, .int (nI c9)), (0, .ref (a 0)), (1, .int (nI h)), (2, .int (nI K))]) dX6_hour_68 (by decide) rfl ?_
              refine j_lv (lv' := [(6, .int (nI 0)), (0, .ref (a 0))]) [0, 4] rfl ?_
              exact L70 _ 0 rfl (Nat.zero_le _) (by rw [← hec, hd8, roF_f (he.symm.trans (rwF_g hz2 (by omega) hs55))])
            · obtain ⟨w9, hw1, hw2, hw3⟩ := wk1 hs55 (dv (nxH cx9))
              refine j_aload_n CX 2 dX6_hour_55 rfl rfl ?_
              refine j_callV CX (n := 0) (pre := []) (post := []) (rest := []) (qc := (RX6, TX6, 27)) (r_worker1 l D cI cZ cL a n thr fc sp cr ln9 cx9 jo wg sh va9 C fw fz fh G9 di9 B9 (kcF ke va n) dO9 fr ma st hf wa ra ag w9 hcr hGb hs55 hw2) gX6_hour_X6_worker rfl (by decide +kernel) ⟨Nat.le_of_ble_eq_true rfl, Nat.le_of_ble_eq_true rfl⟩ rfl rfl rfl rfl rfl (Nat.le_of_ble_eq_true rfl) dX6_hour_56 ⟨Nat.le_refl _, Nat.le_refl _⟩ (fun r9 w9 h9 => ?_)
              obtain ⟨rfl, rfl⟩ := h9
              refine j_w (w' := mW a cI cZ n thr (nI fc) sp (nI cr) (nI ln9) (nxH cx9) (nI jo) (nI wg) sh va9 (nf C) (nf fw) (nf fz) (nf fh) (nf G9) di9 (nf B9) (kcF ke va n) (nf dO9) (nf fr) (nf ma) (nf st) hf (nf wa) ra ag) rfl ?_
              refine j_st (st9 := [.int (nI w9)]) rfl ?_
              refine j_istore CX (lv' := [(5, .int (nI w9)), (4, .int (nI z9)), (3, .int (nI c9)), (0, .ref (a 0)), (1, .int (nI h)), (2, .int (nI K))]) dX6_hour_59 (by decide) rfl ?_
              refine j_iload CX 0 dX6_hour_61 rfl ?_
              refine j_iconst CX dX6_hour_63 (show _ = ((-1) : Int32) by decide) ?_
              refine j_icmp_ne CX 101 dX6_hour_64 (by decide) (fun h64 => ?_) (fun h64 => absurd h64 (nI_nm1 (by first | assumption | omega)))
              refine j_aload_n CX 3 dX6_hour_101 rfl rfl ?_
              refine j_iload CX 0 dX6_hour_102 rfl ?_
              refine j_iload CX 1 dX6_hour_104 rfl ?_
              refine j_iload_n CX 4 dX6_hour_106 rfl rfl ?_
              refine j_callV CX (n := 3) (pre := []) (post := []) (rest := []) (qc := (RX6, TX6, 27)) (r_failing l D cI cZ cL a n thr fc sp cr ln9 (nxH cx9) jo wg sh va9 C fw fz fh G9 di9 B9 (kcF ke va n) dO9 fr ma st hf wa ra ag w9 z9 h hfc (by omega) (by omega) (by omega) hfw hfz hfh) gX6_hour_X6_failing rfl (by decide +kernel) ⟨Nat.le_of_ble_eq_true rfl, Nat.le_of_ble_eq_true rfl⟩ rfl rfl rfl rfl rfl (Nat.le_of_ble_eq_true rfl) dX6_hour_107 ⟨Nat.le_refl _, Nat.le_refl _⟩ (fun r9 w9 h9 => ?_)
              obtain ⟨rfl, rfl⟩ := h9
              refine j_w (w' := mW a cI cZ n thr (nI fc) sp (nI cr) (nI ln9) (nxH cx9) (nI jo) (nI wg) sh va9 (nf C) (nf fw) (nf fz) (nf fh) (nf G9) di9 (nf B9) (kcF ke va n) (nf dO9) (nf fr) (nf ma) (nf st) hf (nf wa) ra ag) rfl ?_
              refine j_st (st9 := [.int (fiF fw fz fh w9 z9 h fc 0)]) rfl ?_
              refine j_iconst CX dX6_hour_110 (show _ = ((-1) : Int32) by decide) ?_
              refine j_icmp_eq CX 118 dX6_hour_111 (by decide) (fun h111 => ?_) (fun h111 => ?_)
              · refine j_iconst CX dX6_hour_118 (show _ = (nI 0 : Int32) by decide) ?_
                refine j_istore CX (lv' := [(6, .int (nI 0)), (5, .int (nI w9)), (4, .int (nI z9)), (3, .int (nI c9)), (0, .ref (a 0)), (1, .int (nI h)), (2, .int (nI K))]) dX6_hour_119 (by decide) rfl ?_
                refine j_aload_n CX 4 dX6_hour_121 rfl rfl ?_
                refine j_iload CX 1 dX6_hour_122 rfl ?_
                refine j_iload CX 2 dX6_hour_124 rfl ?_
                refine j_iload_n CX 5 dX6_hour_126 rfl rfl ?_
                refine j_iload CX 0 dX6_hour_127 rfl ?_
                refine j_callV CX (n := 4) (pre := []) (post := []) (rest := []) (qc := (RX6, TX6, 27)) (r_write l D cI cZ cL a n thr fc sp cr ln9 (nxH cx9) jo wg sh va9 C fw fz fh G9 di9 B9 (kcF ke va n) dO9 fr ma st hf wa ra ag w9 z9 h 0 hs9.1 (by decide)) gX6_hour_X6_write rfl (by decide +kernel) ⟨Nat.le_of_ble_eq_true rfl, Nat.le_of_ble_eq_true rfl⟩ rfl rfl rfl rfl rfl (Nat.le_of_ble_eq_true rfl) dX6_hour_129 ⟨Nat.le_refl _, Nat.le_refl _⟩ (fun r9 w9 h9 => ?_)
                obtain ⟨rfl, rfl⟩ := h9
                refine j_w (w' := mW a cI cZ n thr (nI fc) sp (nI cr) (nI (bkN ln9)) (nxH cx9) (nI jo) (nI wg) sh va9 (nf C) (nf fw) (nf fz) (nf fh) (nf G9) di9 (nf (wrB B9 ln9 w9 z9 h 0)) (kcF ke va n) (nf dO9) (nf fr) (nf ma) (nf st) hf (nf wa) ra ag) rfl ?_
                refine j_st (st9 := []) rfl ?_
                refine j_iload CX 0 dX6_hour_132 rfl ?_
                refine j_ifN_eq CX (by first | assumption | omega | exact b2n_lt _ | exact t2n_lt _) 148 dX6_hour_134 (by decide) (fun h134 => ?_) (fun h134 => absurd h134 (by decide))
                refine j_aload_n CX 4 dX6_hour_148 rfl rfl ?_
                refine j_iload CX 2 dX6_hour_149 rfl ?_
                refine j_callV CX (n := 1) (pre := []) (post := []) (rest := []) (qc := (RX6, TX6, 27)) (r_change l D cI cZ cL a n thr fc sp cr (bkN ln9) (nxH cx9) jo wg sh va9 C fw fz fh G9 di9 (wrB B9 ln9 w9 z9 h 0) (kcF ke va n) dO9 fr ma st hf wa ra ag z9 hn hz1) gX6_hour_X6_change rfl (by decide +kernel) ⟨Nat.le_of_ble_eq_true rfl, Nat.le_of_ble_eq_true rfl⟩ rfl rfl rfl rfl rfl (Nat.le_of_ble_eq_true rfl) dX6_hour_151 ⟨Nat.le_refl _, Nat.le_refl _⟩ (fun r9 w9 h9 => ?_)
                obtain ⟨rfl, rfl⟩ := h9
                refine j_w (w' := mW a cI cZ n thr (nI fc) sp (nI cr) (nI (bkN ln9)) (nxH cx9) (nI jo) (nI wg) sh (upd va9 z9 (ch24 sh n va9 z9)) (nf C) (nf fw) (nf fz) (nf fh) (nf G9) di9 (nf (wrB B9 ln9 w9 z9 h 0)) (kcF ke va n) (nf dO9) (nf fr) (nf ma) (nf st) hf (nf wa) ra ag) rfl ?_
                refine j_st (st9 := []) rfl ?_
                refine j_aload_n CX 4 dX6_hour_154 rfl rfl ?_
                refine j_get CX 0 16 dX6_hour_155 rfl rfl hin6 (by decide) hfl45 rfl ?_
                refine j_iload CX 2 dX6_hour_158 rfl ?_
                refine j_iconst CX dX6_hour_160 (show _ = (nI 1 : Int32) by decide) ?_
                refine j_zast CX (w' := mW a cI cZ n thr (nI fc) sp (nI cr) (nI (bkN ln9)) (nxH cx9) (nI jo) (nI wg) sh (upd va9 z9 (ch24 sh n va9 z9)) (nf C) (nf fw) (nf fz) (nf fh) (nf G9) di9 (nf (wrB B9 ln9 w9 z9 h 0)) (kcF ke va n) (upd (nf dO9) z9 (vp_nar .boolean (nI 1))) (nf fr) (nf ma) (nf st) hf (nf wa) ra ag) 11 z9 dX6_hour_161 rfl (rfl) (by first | assumption | omega) (by decide) rfl ?_
                refine j_w (show mW a cI cZ n thr (nI fc) sp (nI cr) (nI (bkN ln9)) (nxH cx9) (nI jo) (nI wg) sh (upd va9 z9 (ch24 sh n va9 z9)) (nf C) (nf fw) (nf fz) (nf fh) (nf G9) di9 (nf (wrB B9 ln9 w9 z9 h 0)) (kcF ke va n) (upd (nf dO9) z9 (vp_nar .boolean (nI 1))) (nf fr) (nf ma) (nf st) hf (nf wa) ra ag = mW a cI cZ n thr (nI fc) sp (nI cr) (nI (bkN ln9)) (nxH cx9) (nI jo) (nI wg) sh (upd va9 z9 (ch24 sh n va9 z9)) (nf C) (nf fw) (nf fz) (nf fh) (nf G9) di9 (nf (wrB B9 ln9 w9 z9 h 0)) (kcF ke va n) (nf (updN dO9 z9 1)) (nf fr) (nf ma) (nf st) hf (nf wa) ra ag by rw [nar1, nf_upd]) ?_
                refine j_aload_n CX 4 dX6_hour_162 rfl rfl ?_
                refine j_get CX 0 12 dX6_hour_163 rfl rfl hin6 (by decide) hfl36 rfl ?_
                refine j_iload CX 1 dX6_hour_166 rfl ?_
                refine j_dup2 CX dX6_hour_168 rfl rfl ?_
                refine j_iald CX 8 w9 dX6_hour_169 rfl (rfl) (by first | assumption | omega) (by decide) ?_
                refine j_iconst CX dX6_hour_170 (show _ = (nI 1 : Int32) by decide) ?_
                refine j_iadd CX dX6_hour_171 ?_
                refine j_iast CX (w' := mW a cI cZ n thr (nI fc) sp (nI cr) (nI (bkN ln9)) (nxH cx9) (nI jo) (nI wg) sh (upd va9 z9 (ch24 sh n va9 z9)) (nf C) (nf fw) (nf fz) (nf fh) (nf G9) (upd di9 w9 ((di9 w9) + (nI 1))) (nf (wrB B9 ln9 w9 z9 h 0)) (kcF ke va n) (nf (updN dO9 z9 1)) (nf fr) (nf ma) (nf st) hf (nf wa) ra ag) 8 w9 dX6_hour_172 rfl (rfl) (by first | assumption | omega) (by decide) rfl ?_
                refine j_aload_n CX 4 dX6_hour_173 rfl rfl ?_
                refine j_iload_n CX 3 dX6_hour_174 rfl rfl ?_
                refine j_callV CX (n := 1) (pre := []) (post := []) (rest := []) (qc := (RX6, TX6, 27)) (r_next l D cI cZ cL a n thr fc sp cr (bkN ln9) (nxH cx9) jo wg sh (upd va9 z9 (ch24 sh n va9 z9)) C fw fz fh G9 (upd di9 w9 ((di9 w9) + (nI 1))) (wrB B9 ln9 w9 z9 h 0) (kcF ke va n) (updN dO9 z9 1) fr ma st hf wa ra ag c9 hn (by omega) hC (fun k hk => Nat.lt_of_le_of_lt (show updN dO9 z9 1 k ≤ 1 from updN_le hs9.2.2 k hk) (by decide))) gX6_hour_X6_next rfl (by decide +kernel) ⟨Nat.le_of_ble_eq_true rfl, Nat.le_of_ble_eq_true rfl⟩ rfl rfl rfl rfl rfl (Nat.le_of_ble_eq_true rfl) dX6_hour_175 ⟨Nat.le_refl _, Nat.le_refl _⟩ (fun r9 w9 h9 => ?_)
                obtain ⟨rfl, rfl⟩ := h9
                refine j_w (w' := mW a cI cZ n thr (nI fc) sp (nI cr) (nI (bkN ln9)) (nxH cx9) (nI jo) (nI wg) sh (upd va9 z9 (ch24 sh n va9 z9)) (nf C) (nf fw) (nf fz) (nf fh) (nf G9) (upd di9 w9 ((di9 w9) + (nI 1))) (nf (wrB B9 ln9 w9 z9 h 0)) (kcF ke va n) (nf (updN dO9 z9 1)) (nf fr) (nf ma) (nf st) hf (nf wa) ra ag) rfl ?_
                refine j_st (st9 := [.int (nxD C (updN dO9 z9 1) c9 n n)]) rfl ?_
                refine j_istore CX (lv' := [(4, .int (nxD C (updN dO9 z9 1) c9 n n)), (6, .int (nI 0)), (5, .int (nI w9)), (3, .int (nI c9)), (0, .ref (a 0)), (1, .int (nI h)), (2, .int (nI K))]) dX6_hour_178 (by decide) rfl ?_
                refine j_goto CX 49 dX6_hour_180 (by decide) ?_
                refine j_lv (lv' := [(4, .int (nxD C (updN dO9 z9 1) c9 n n)), (3, .int (nI c9)), (0, .ref (a 0)), (1, .int (nI h)), (2, .int (nI K))]) [0, 3, 4, 5, 6] rfl ?_
                exact ih49 _ (by have := cnF_upd hz3 n hz1; omega) _ _ _ _ _ _ _ f8 rfl (by have := cnF_upd hz3 n hz1; omega) ⟨bkN_le hs9.1, hs9.2.1, updN_le hs9.2.2⟩ hcK (by rw [← he, rwF_ok hz2 (by omega) hs55 hw2 (by omega) h111])
              · refine j_iconst CX dX6_hour_114 (show _ = (nI 1 : Int32) by decide) ?_
                refine j_goto CX 119 dX6_hour_115 (by decide) ?_
                refine j_istore CX (lv' := [(6, .int (nI 1)), (5, .int (nI w9)), (4, .int (nI z9)), (3, .int (nI c9)), (0, .ref (a 0)), (1, .int (nI h)), (2, .int (nI K))]) dX6_hour_119 (by decide) rfl ?_
                refine j_aload_n CX 4 dX6_hour_121 rfl rfl ?_
                refine j_iload CX 1 dX6_hour_122 rfl ?_
                refine j_iload CX 2 dX6_hour_124 rfl ?_
                refine j_iload_n CX 5 dX6_hour_126 rfl rfl ?_
                refine j_iload CX 0 dX6_hour_127 rfl ?_
                refine j_callV CX (n := 4) (pre := []) (post := []) (rest := []) (qc := (RX6, TX6, 27)) (r_write l D cI cZ cL a n thr fc sp cr ln9 (nxH cx9) jo wg sh va9 C fw fz fh G9 di9 B9 (kcF ke va n) dO9 fr ma st hf wa ra ag w9 z9 h 1 hs9.1 (by decide)) gX6_hour_X6_write rfl (by decide +kernel) ⟨Nat.le_of_ble_eq_true rfl, Nat.le_of_ble_eq_true rfl⟩ rfl rfl rfl rfl rfl (Nat.le_of_ble_eq_true rfl) dX6_hour_129 ⟨Nat.le_refl _, Nat.le_refl _⟩ (fun r9 w9 h9 => ?_)
                obtain ⟨rfl, rfl⟩ := h9
                refine j_w (w' := mW a cI cZ n thr (nI fc) sp (nI cr) (nI (bkN ln9)) (nxH cx9) (nI jo) (nI wg) sh va9 (nf C) (nf fw) (nf fz) (nf fh) (nf G9) di9 (nf (wrB B9 ln9 w9 z9 h 1)) (kcF ke va n) (nf dO9) (nf fr) (nf ma) (nf st) hf (nf wa) ra ag) rfl ?_
                refine j_st (st9 := []) rfl ?_
                refine j_iload CX 0 dX6_hour_132 rfl ?_
                refine j_ifN_eq CX (by first | assumption | omega | exact b2n_lt _ | exact t2n_lt _) 148 dX6_hour_134 (by decide) (fun h134 => absurd h134 (by decide)) (fun h134 => ?_)
                refine j_aload_n CX 4 dX6_hour_137 rfl rfl ?_
                refine j_get CX 0 11 dX6_hour_138 rfl rfl hin6 (by decide) hfl32 rfl ?_
                refine j_iload CX 1 dX6_hour_141 rfl ?_
                refine j_iconst CX dX6_hour_143 (show _ = (nI 1 : Int32) by decide) ?_
                refine j_zast CX (w' := mW a cI cZ n thr (nI fc) sp (nI cr) (nI (bkN ln9)) (nxH cx9) (nI jo) (nI wg) sh va9 (nf C) (nf fw) (nf fz) (nf fh) (upd (nf G9) w9 (vp_nar .boolean (nI 1))) di9 (nf (wrB B9 ln9 w9 z9 h 1)) (kcF ke va n) (nf dO9) (nf fr) (nf ma) (nf st) hf (nf wa) ra ag) 7 w9 dX6_hour_144 rfl (rfl) (by first | assumption | omega) (by decide) rfl ?_
                refine j_w (show mW a cI cZ n thr (nI fc) sp (nI cr) (nI (bkN ln9)) (nxH cx9) (nI jo) (nI wg) sh va9 (nf C) (nf fw) (nf fz) (nf fh) (upd (nf G9) w9 (vp_nar .boolean (nI 1))) di9 (nf (wrB B9 ln9 w9 z9 h 1)) (kcF ke va n) (nf dO9) (nf fr) (nf ma) (nf st) hf (nf wa) ra ag = mW a cI cZ n thr (nI fc) sp (nI cr) (nI (bkN ln9)) (nxH cx9) (nI jo) (nI wg) sh va9 (nf C) (nf fw) (nf fz) (nf fh) (nf (updN G9 w9 1)) di9 (nf (wrB B9 ln9 w9 z9 h 1)) (kcF ke va n) (nf dO9) (nf fr) (nf ma) (nf st) hf (nf wa) ra ag by rw [nar1, nf_upd]) ?_
                refine j_goto CX 173 dX6_hour_145 (by decide) ?_
                refine j_aload_n CX 4 dX6_hour_173 rfl rfl ?_
                refine j_iload_n CX 3 dX6_hour_174 rfl rfl ?_
                refine j_callV CX (n := 1) (pre := []) (post := []) (rest := []) (qc := (RX6, TX6, 27)) (r_next l D cI cZ cL a n thr fc sp cr (bkN ln9) (nxH cx9) jo wg sh va9 C fw fz fh (updN G9 w9 1) di9 (wrB B9 ln9 w9 z9 h 1) (kcF ke va n) dO9 fr ma st hf wa ra ag c9 hn (by omega) hC (fun k hk => Nat.lt_of_le_of_lt (show dO9 k ≤ 1 from hs9.2.2 k hk) (by decide))) gX6_hour_X6_next rfl (by decide +kernel) ⟨Nat.le_of_ble_eq_true rfl, Nat.le_of_ble_eq_true rfl⟩ rfl rfl rfl rfl rfl (Nat.le_of_ble_eq_true rfl) dX6_hour_175 ⟨Nat.le_refl _, Nat.le_refl _⟩ (fun r9 w9 h9 => ?_)
                obtain ⟨rfl, rfl⟩ := h9
                refine j_w (w' := mW a cI cZ n thr (nI fc) sp (nI cr) (nI (bkN ln9)) (nxH cx9) (nI jo) (nI wg) sh va9 (nf C) (nf fw) (nf fz) (nf fh) (nf (updN G9 w9 1)) di9 (nf (wrB B9 ln9 w9 z9 h 1)) (kcF ke va n) (nf dO9) (nf fr) (nf ma) (nf st) hf (nf wa) ra ag) rfl ?_
                refine j_st (st9 := [.int (nxD C dO9 c9 n n)]) rfl ?_
                refine j_istore CX (lv' := [(4, .int (nxD C dO9 c9 n n)), (6, .int (nI 1)), (5, .int (nI w9)), (3, .int (nI c9)), (0, .ref (a 0)), (1, .int (nI h)), (2, .int (nI K))]) dX6_hour_178 (by decide) rfl ?_
                refine j_goto CX 49 dX6_hour_180 (by decide) ?_
                refine j_lv (lv' := [(4, .int (nxD C dO9 c9 n n)), (3, .int (nI c9)), (0, .ref (a 0)), (1, .int (nI h)), (2, .int (nI K))]) [0, 3, 4, 5, 6] rfl ?_
                exact ih49 _ (by have := cnF_upd hw3 cr hw1; omega) _ _ _ _ _ _ _ f8 rfl (by have := cnF_upd hw3 cr hw1; omega) ⟨bkN_le hs9.1, updN_le hs9.2.1, hs9.2.2⟩ hcK (by rw [← he, rwF_no hz2 (by omega) hs55 hw2 (by omega) h111])
      refine j_iload_n CX 0 dX6_hour_37 rfl rfl ?_
      refine j_iload_n CX 3 dX6_hour_38 rfl rfl ?_
      refine j_icmpN_ge CX (by first | assumption | omega) (by first | assumption | omega | exact b2n_lt _ | exact t2n_lt _) 189 dX6_hour_39 (by decide) (fun h39 => ?_) (fun h39 => ?_)
      · have e9 : roF sh n C fw fz fh fc cr h K 0 (va, G, di, cx, B, ln, dzF dO n) = (true, (va9, G9, di9, cx9, B9, ln9, dO9)) := by rw [← hec, show K - c9 = 0 by omega, es37]; rfl
        refine j_iconst CX dX6_hour_189 (show _ = (nI 1 : Int32) by decide) ?_
        exact j_zret CX hr hlocks dX6_hour_190 (rfl) (⟨by rw [e9]; rfl, by rw [e9, if_pos rfl]⟩)
      · have hcK0 : c9 < K := h39
        refine j_aload_n CX 1 dX6_hour_42 rfl rfl ?_
        refine j_iload_n CX 0 dX6_hour_43 rfl rfl ?_
        refine j_callV CX (n := 1) (pre := []) (post := []) (rest := []) (qc := (RX6, TX6, 27)) (r_next l D cI cZ cL a n thr fc sp cr ln9 cx9 jo wg sh va9 C fw fz fh G9 di9 B9 (kcF ke va n) dO9 fr ma st hf wa ra ag c9 hn (by omega) hC (fun k hk => Nat.lt_of_le_of_lt (show dO9 k ≤ 1 from hs9.2.2 k hk) (by decide))) gX6_hour_X6_next rfl (by decide +kernel) ⟨Nat.le_of_ble_eq_true rfl, Nat.le_of_ble_eq_true rfl⟩ rfl rfl rfl rfl rfl (Nat.le_of_ble_eq_true rfl) dX6_hour_44 ⟨Nat.le_refl _, Nat.le_refl _⟩ (fun r9 w9 h9 => ?_)
        obtain ⟨rfl, rfl⟩ := h9
        refine j_w (w' := mW a cI cZ n thr (nI fc) sp (nI cr) (nI ln9) cx9 (nI jo) (nI wg) sh va9 (nf C) (nf fw) (nf fz) (nf fh) (nf G9) di9 (nf B9) (kcF ke va n) (nf dO9) (nf fr) (nf ma) (nf st) hf (nf wa) ra ag) rfl ?_
        refine j_st (st9 := [.int (nxD C dO9 c9 n n)]) rfl ?_
        refine j_istore CX (lv' := [(4, .int (nxD C dO9 c9 n n)), (3, .int (nI c9)), (0, .ref (a 0)), (1, .int (nI h)), (2, .int (nI K))]) dX6_hour_47 (by decide) rfl ?_
        exact L49 _ va9 G9 di9 cx9 B9 ln9 dO9 41 rfl (by omega) hs9 hcK0 (by rw [es37])
  have L2 : ∀ (d2 : Nat) (k9 : Nat), n - k9 = d2 → k9 ≤ n → J p l e rmX6_hour s m args below meth c D A 7 0 0 (MQ below (jQc D (fun r0 w0 => r0 = some (.int (nI (t2n (roF sh n C fw fz fh fc cr h K 0 (va, G, di, cx, B, ln, dzF dO n)).1))) ∧ w0 = mW a cI cZ n thr (nI fc) sp (nI cr) (nI (roF sh n C fw fz fh fc cr h K 0 (va, G, di, cx, B, ln, dzF dO n)).2.2.2.2.2.2.1) ((roF sh n C fw fz fh fc cr h K 0 (va, G, di, cx, B, ln, dzF dO n)).2.2.2.2.1) (nI jo) (nI wg) sh (if (roF sh n C fw fz fh fc cr h K 0 (va, G, di, cx, B, ln, dzF dO n)).1 = true then (roF sh n C fw fz fh fc cr h K 0 (va, G, di, cx, B, ln, dzF dO n)).2.1 else kcF (roF sh n C fw fz fh fc cr h K 0 (va, G, di, cx, B, ln, dzF dO n)).2.1 (kcF ke va n) n) (nf C) (nf fw) (nf fz) (nf fh) (nf (roF sh n C fw fz fh fc cr h K 0 (va, G, di, cx, B, ln, dzF dO n)).2.2.1) ((roF sh n C fw fz fh fc cr h K 0 (va, G, di, cx, B, ln, dzF dO n)).2.2.2.1) (nf (roF sh n C fw fz fh fc cr h K 0 (va, G, di, cx, B, ln, dzF dO n)).2.2.2.2.2.1) (kcF ke va n) (nf (roF sh n C fw fz fh fc cr h K 0 (va, G, di, cx, B, ln, dzF dO n)).2.2.2.2.2.2.2) (nf fr) (nf ma) (nf st) hf (nf wa) ra ag) A) args s rmX6_hour.cells rmX6_hour.slots A) (mW a cI cZ n thr (nI fc) sp (nI cr) (nI ln) cx (nI jo) (nI wg) sh va (nf C) (nf fw) (nf fz) (nf fh) (nf G) di (nf B) (kcF ke va k9) (nf (dzF dO k9)) (nf fr) (nf ma) (nf st) hf (nf wa) ra ag) 2 [(3, .int (nI k9)), (0, .ref (a 0)), (1, .int (nI h)), (2, .int (nI K))] [] := by
    intro d2
    induction d2 using Nat.strongRecOn with
    | _ d2 ih2 =>
      intro k9 hd hk
      refine j_iload_n CX 0 dX6_hour_2 rfl rfl ?_
      refine j_aload_n CX 1 dX6_hour_3 rfl rfl ?_
      refine j_get CX 0 1 dX6_hour_4 rfl rfl hin6 (by decide) hfl69 rfl ?_
      refine j_icmpN_ge CX (by first | assumption | omega) (by first | assumption | omega | exact b2n_lt _ | exact t2n_lt _) 35 dX6_hour_7 (by decide) (fun h7 => ?_) (fun h7 => ?_)
      · have ek : k9 = n := by omega
        refine j_iconst CX dX6_hour_35 (show _ = (nI 0 : Int32) by decide) ?_
        refine j_istore_n CX (lv' := [(3, .int (nI 0)), (0, .ref (a 0)), (1, .int (nI h)), (2, .int (nI K))]) dX6_hour_36 rfl (by decide) rfl ?_
        rw [ek]
        exact L37 _ 0 va G di cx B ln (dzF dO n) rfl (Nat.zero_le _) hs rfl
      · refine j_aload_n CX 1 dX6_hour_10 rfl rfl ?_
        refine j_get CX 0 15 dX6_hour_11 rfl rfl hin6 (by decide) hfl42 rfl ?_
        refine j_iload_n CX 0 dX6_hour_14 rfl rfl ?_
        refine j_aload_n CX 1 dX6_hour_15 rfl rfl ?_
        refine j_get CX 0 3 dX6_hour_16 rfl rfl hin6 (by decide) hfl13 rfl ?_
        refine j_iload_n CX 0 dX6_hour_19 rfl rfl ?_
        refine j_iald CX 2 k9 dX6_hour_20 rfl (rfl) (by first | assumption | omega) (by decide) ?_
        refine j_iast CX (w' := mW a cI cZ n thr (nI fc) sp (nI cr) (nI ln) cx (nI jo) (nI wg) sh va (nf C) (nf fw) (nf fz) (nf fh) (nf G) di (nf B) (upd (kcF ke va k9) k9 (va k9)) (nf (dzF dO k9)) (nf fr) (nf ma) (nf st) hf (nf wa) ra ag) 10 k9 dX6_hour_21 rfl (rfl) (by first | assumption | omega) (by decide) rfl ?_
        refine j_aload_n CX 1 dX6_hour_22 rfl rfl ?_
        refine j_get CX 0 16 dX6_hour_23 rfl rfl hin6 (by decide) hfl45 rfl ?_
        refine j_iload_n CX 0 dX6_hour_26 rfl rfl ?_
        refine j_iconst CX dX6_hour_27 (show _ = (nI 0 : Int32) by decide) ?_
        refine j_zast CX (w' := mW a cI cZ n thr (nI fc) sp (nI cr) (nI ln) cx (nI jo) (nI wg) sh va (nf C) (nf fw) (nf fz) (nf fh) (nf G) di (nf B) (upd (kcF ke va k9) k9 (va k9)) (upd (nf (dzF dO k9)) k9 (vp_nar .boolean (nI 0))) (nf fr) (nf ma) (nf st) hf (nf wa) ra ag) 11 k9 dX6_hour_28 rfl (rfl) (by first | assumption | omega) (by decide) rfl ?_
        refine j_w (show mW a cI cZ n thr (nI fc) sp (nI cr) (nI ln) cx (nI jo) (nI wg) sh va (nf C) (nf fw) (nf fz) (nf fh) (nf G) di (nf B) (upd (kcF ke va k9) k9 (va k9)) (upd (nf (dzF dO k9)) k9 (vp_nar .boolean (nI 0))) (nf fr) (nf ma) (nf st) hf (nf wa) ra ag = mW a cI cZ n thr (nI fc) sp (nI cr) (nI ln) cx (nI jo) (nI wg) sh va (nf C) (nf fw) (nf fz) (nf fh) (nf G) di (nf B) (upd (kcF ke va k9) k9 (va k9)) (nf (updN (dzF dO k9) k9 0)) (nf fr) (nf ma) (nf st) hf (nf wa) ra ag by rw [nar0, nf_upd]) ?_
        refine j_iinc CX (v := nI (k9 + 1)) (lv' := [(3, .int (nI (k9 + 1))), (0, .ref (a 0)), (1, .int (nI h)), (2, .int (nI K))]) 0 dX6_hour_29 rfl (nI_1 _) (by decide) rfl ?_
        refine j_goto CX 2 dX6_hour_32 (by decide) ?_
        exact ih2 _ (by omega) (k9 + 1) rfl (by omega)
  show J p l e rmX6_hour s m args below meth c D A 7 0 0 (MQ below (jQc D (fun r0 w0 => r0 = some (.int (nI (t2n (roF sh n C fw fz fh fc cr h K 0 (va, G, di, cx, B, ln, dzF dO n)).1))) ∧ w0 = mW a cI cZ n thr (nI fc) sp (nI cr) (nI (roF sh n C fw fz fh fc cr h K 0 (va, G, di, cx, B, ln, dzF dO n)).2.2.2.2.2.2.1) ((roF sh n C fw fz fh fc cr h K 0 (va, G, di, cx, B, ln, dzF dO n)).2.2.2.2.1) (nI jo) (nI wg) sh (if (roF sh n C fw fz fh fc cr h K 0 (va, G, di, cx, B, ln, dzF dO n)).1 = true then (roF sh n C fw fz fh fc cr h K 0 (va, G, di, cx, B, ln, dzF dO n)).2.1 else kcF (roF sh n C fw fz fh fc cr h K 0 (va, G, di, cx, B, ln, dzF dO n)).2.1 (kcF ke va n) n) (nf C) (nf fw) (nf fz) (nf fh) (nf (roF sh n C fw fz fh fc cr h K 0 (va, G, di, cx, B, ln, dzF dO n)).2.2.1) ((roF sh n C fw fz fh fc cr h K 0 (va, G, di, cx, B, ln, dzF dO n)).2.2.2.1) (nf (roF sh n C fw fz fh fc cr h K 0 (va, G, di, cx, B, ln, dzF dO n)).2.2.2.2.2.1) (kcF ke va n) (nf (roF sh n C fw fz fh fc cr h K 0 (va, G, di, cx, B, ln, dzF dO n)).2.2.2.2.2.2.2) (nf fr) (nf ma) (nf st) hf (nf wa) ra ag) A) args s rmX6_hour.cells rmX6_hour.slots A) (mW a cI cZ n thr (nI fc) sp (nI cr) (nI ln) cx (nI jo) (nI wg) sh va (nf C) (nf fw) (nf fz) (nf fh) (nf G) di (nf B) ke (nf dO) (nf fr) (nf ma) (nf st) hf (nf wa) ra ag) 0 [(0, .ref (a 0)), (1, .int (nI h)), (2, .int (nI K))] []
  refine j_iconst CX dX6_hour_0 (show _ = (nI 0 : Int32) by decide) ?_
  refine j_istore_n CX (lv' := [(3, .int (nI 0)), (0, .ref (a 0)), (1, .int (nI h)), (2, .int (nI K))]) dX6_hour_1 rfl (by decide) rfl ?_
  exact L2 _ 0 rfl (Nat.zero_le _)
