
theorem t2n_ne {b : Bool} (h : t2n b ≠ 0) : b = true := by
  unfold t2n at h
  split at h
  · assumption
  · exact absurd rfl h
theorem t2n_eq {b : Bool} (h : t2n b = 0) : ¬ b = true := by
  intro e
  rw [e] at h
  exact absurd h (by decide)
theorem hdF_t {sh : Nat → Int32} {n : Nat} {F : Nat → Nat} {fk : Nat} {C : Nat → Nat} {h d c : Nat} {s : RS} (q : (sdF sh n F fk C h c n 0 s).1 = true) : hdF sh n F fk C h (d + 1) c s = hdF sh n F fk C h d (c + 1) (sdF sh n F fk C h c n 0 s).2 := by
  rw [hdF, if_pos q]
theorem hdF_f {sh : Nat → Int32} {n : Nat} {F : Nat → Nat} {fk : Nat} {C : Nat → Nat} {h d c : Nat} {s : RS} (q : ¬ (sdF sh n F fk C h c n 0 s).1 = true) : hdF sh n F fk C h (d + 1) c s = (false, (sdF sh n F fk C h c n 0 s).2) := by
  rw [hdF, if_neg q]
theorem rnF_f {sh : Nat → Int32} {n : Nat} {F : Nat → Nat} {fk : Nat} {C : Nat → Nat} {K : Nat} {sp : Int32} {h d : Nat} {s : HS} (q : ¬ (hdR sh n F fk C K h s).1 = true) : rnF sh n F fk C K sp (d + 1) h s = (h, (hdR sh n F fk C K h s).2) := by
  rw [rnF, if_neg q]
theorem rnF_s {sh : Nat → Int32} {n : Nat} {F : Nat → Nat} {fk : Nat} {C : Nat → Nat} {K : Nat} {sp : Int32} {h d : Nat} {s : HS} (q : (hdR sh n F fk C K h s).1 = true) (e : nI h = sp) : rnF sh n F fk C K sp (d + 1) h s = (h + 1, (hdR sh n F fk C K h s).2) := by
  rw [rnF, if_pos q, if_pos e]
theorem rnF_t {sh : Nat → Int32} {n : Nat} {F : Nat → Nat} {fk : Nat} {C : Nat → Nat} {K : Nat} {sp : Int32} {h d : Nat} {s : HS} (q : (hdR sh n F fk C K h s).1 = true) (e : ¬ nI h = sp) : rnF sh n F fk C K sp (d + 1) h s = rnF sh n F fk C K sp d (h + 1) (hdR sh n F fk C K h s).2 := by
  rw [rnF, if_pos q, if_neg e]
abbrev rmX5_stageIsDone : Room := { frames := 5, cells := 0, slots := 0, locals := 157 }
set_option maxRecDepth 100000 in
set_option maxHeartbeats 4000000 in
theorem x_sd (l : Launch) (D : va_G) (cI cZ cL : ClassId) (x : Nat) (az af ac ab aj : Nat → Nat) (sp : Int32) (n : Nat) (va re tr sh : Nat → Int32) (C : Nat → Nat) (K : Nat) (F : Nat → Nat) (fk : Nat) (dn : Nat → Int32) (ck : Nat) (ch : Int32) (bl : Nat → Int32) (bk : Nat) (U : Nat → Nat) (jr ja : Nat → Int32) (jk jq : Nat) (cq h : Nat) (hc : cq < 2 ^ 31) (hn : n ≤ 24) (hC : ∀ k, k < n → C k < 2 ^ 31) (hh : h < 1000) (hfk : fk ≤ 200) (hF : ∀ j, j < fk → F j < 2 ^ 31) (hs : rsOk (va, dn, ck, ch, bl, bk)) : Cg l D cI cZ cL yX5_stageIsDone wsX5_stageIsDone rmX5_stageIsDone [.ref x, .int (nI cq), .int (nI h)] (xW x az af ac ab aj sp ++ (zW az cI n va re tr sh (nf C) (nI K) ++ (fW af cI (nf F) (nI fk) ++ (cW ac cI dn (nI ck) ch ++ (bW ab cI bl (nI bk) ++ (jW aj cI (nf U) jr ja (nI jk) (nI jq))))))) (fun r0 w0 => r0 = some (.int (nI (t2n (sdF sh n F fk C h cq n 0 (va, dn, ck, ch, bl, bk)).1))) ∧ w0 = xW x az af ac ab aj sp ++ (zW az cI n (((sdF sh n F fk C h cq n 0 (va, dn, ck, ch, bl, bk)).2).1) re tr sh (nf C) (nI K) ++ (fW af cI (nf F) (nI fk) ++ (cW ac cI (((sdF sh n F fk C h cq n 0 (va, dn, ck, ch, bl, bk)).2).2.1) (nI ((sdF sh n F fk C h cq n 0 (va, dn, ck, ch, bl, bk)).2).2.2.1) (((sdF sh n F fk C h cq n 0 (va, dn, ck, ch, bl, bk)).2).2.2.2.1) ++ (bW ab cI (((sdF sh n F fk C h cq n 0 (va, dn, ck, ch, bl, bk)).2).2.2.2.2.1) (nI ((sdF sh n F fk C h cq n 0 (va, dn, ck, ch, bl, bk)).2).2.2.2.2.2) ++ (jW aj cI (nf U) jr ja (nI jk) (nI jq))))))) := by
  refine Cg.ofJ (own := RX5) (cc := cX5_stageIsDone) (maxL := 4) (ret := (some .boolean)) (by decide) rfl rfl (Nat.le_of_ble_eq_true rfl) ?_
  intro p e s m args below meth c A CX hr hlocks hname
  have hin5 : ∀ x ∈ u_ws RX5 TX5 6, x ∈ wsX5_stageIsDone := by decide +kernel
  have hfl23 : Cond.fieldLink RX5 23 (TX5 0).1 (TX5 0).2.1 (TX5 0).2.2.1 ∈ wsX5_stageIsDone := by decide +kernel
  have L2 : ∀ (d2 : Nat) (k9 : Nat) (va9 dn9 : Nat → Int32) (ck9 : Nat) (ch9 : Int32) (bl9 : Nat → Int32) (bk9 : Nat), n - k9 = d2 → k9 ≤ n → rsOk (va9, dn9, ck9, ch9, bl9, bk9) → sdF sh n F fk C h cq (n - k9) k9 (va9, dn9, ck9, ch9, bl9, bk9) = sdF sh n F fk C h cq n 0 (va, dn, ck, ch, bl, bk) → J p l e rmX5_stageIsDone s m args below meth c D A 4 0 0 (MQ below (jQc D (fun r0 w0 => r0 = some (.int (nI (t2n (sdF sh n F fk C h cq n 0 (va, dn, ck, ch, bl, bk)).1))) ∧ w0 = xW x az af ac ab aj sp ++ (zW az cI n (((sdF sh n F fk C h cq n 0 (va, dn, ck, ch, bl, bk)).2).1) re tr sh (nf C) (nI K) ++ (fW af cI (nf F) (nI fk) ++ (cW ac cI (((sdF sh n F fk C h cq n 0 (va, dn, ck, ch, bl, bk)).2).2.1) (nI ((sdF sh n F fk C h cq n 0 (va, dn, ck, ch, bl, bk)).2).2.2.1) (((sdF sh n F fk C h cq n 0 (va, dn, ck, ch, bl, bk)).2).2.2.2.1) ++ (bW ab cI (((sdF sh n F fk C h cq n 0 (va, dn, ck, ch, bl, bk)).2).2.2.2.2.1) (nI ((sdF sh n F fk C h cq n 0 (va, dn, ck, ch, bl, bk)).2).2.2.2.2.2) ++ (jW aj cI (nf U) jr ja (nI jk) (nI jq))))))) A) args s rmX5_stageIsDone.cells rmX5_stageIsDone.slots A) (xW x az af ac ab aj sp ++ (zW az cI n va9 re tr sh (nf C) (nI K) ++ (fW af cI (nf F) (nI fk) ++ (cW ac cI dn9 (nI ck9) ch9 ++ (bW ab cI bl9 (nI bk9) ++ (jW aj cI (nf U) jr ja (nI jk) (nI jq))))))) 2 [(3, .int (nI k9)), (0, .ref x), (1, .int (nI cq)), (2, .int (nI h))] [] := by
    intro d2
    induction d2 using Nat.strongRecOn with
    | _ d2 ih2 =>
      intro k9 va9 dn9 ck9 ch9 bl9 bk9 hd hk hs9 he
      refine j_iload_n CX 0 dX5_stageIsDone_2 rfl rfl ?_
      refine j_aload_n CX 1 dX5_stageIsDone_3 rfl rfl ?_
      refine j_get CX 0 0 dX5_stageIsDone_4 rfl rfl hin5 (by decide) hfl23 rfl ?_
      refine j_callV CX (n := 0) (pre := xW x az af ac ab aj sp) (post := fW af cI (nf F) (nI fk) ++ (cW ac cI dn9 (nI ck9) ch9 ++ (bW ab cI bl9 (nI bk9) ++ (jW aj cI (nf U) jr ja (nI jk) (nI jq))))) (rest := [.int (nI k9)]) (qc := (RX4, TX4, 7)) (z_size l D cI cZ cL az n va9 re tr sh (nf C) (nI K) ) gX5_stageIsDone_X4_size rfl (by decide +kernel) ⟨Nat.le_of_ble_eq_true rfl, Nat.le_of_ble_eq_true rfl⟩ rfl rfl rfl rfl rfl (Nat.le_of_ble_eq_true rfl) dX5_stageIsDone_7 ⟨Nat.le_refl _, Nat.le_refl _⟩ (fun r9 w9 h9 => ?_)
      obtain ⟨rfl, rfl⟩ := h9
      refine j_w (w' := xW x az af ac ab aj sp ++ (zW az cI n va9 re tr sh (nf C) (nI K) ++ (fW af cI (nf F) (nI fk) ++ (cW ac cI dn9 (nI ck9) ch9 ++ (bW ab cI bl9 (nI bk9) ++ (jW aj cI (nf U) jr ja (nI jk) (nI jq))))))) rfl ?_
      refine j_st (st9 := [.int (nI n), .int (nI k9)]) rfl ?_
      refine j_icmpN_ge CX (by first | assumption | omega) (by first | assumption | omega | exact b2n_lt _ | exact t2n_lt _) 42 dX5_stageIsDone_10 (by decide) (fun h10 => ?_) (fun h10 => ?_)
      · rw [show n - k9 = 0 by omega] at he
        refine j_iconst CX dX5_stageIsDone_42 (show _ = (nI 1 : Int32) by decide) ?_
        exact j_zret CX hr hlocks dX5_stageIsDone_43 (rfl) (⟨by rw [← he]; rfl, by first | (rw [← he]; done) | (rw [← he]; rfl)⟩)
      · obtain ⟨d8, hd8⟩ : ∃ d8, n - k9 = d8 + 1 := ⟨n - k9 - 1, by omega⟩
        have hCk := hC k9 (by omega)
        refine j_aload_n CX 1 dX5_stageIsDone_13 rfl rfl ?_
        refine j_get CX 0 0 dX5_stageIsDone_14 rfl rfl hin5 (by decide) hfl23 rfl ?_
        refine j_iload_n CX 0 dX5_stageIsDone_17 rfl rfl ?_
        refine j_callV CX (n := 1) (pre := xW x az af ac ab aj sp) (post := fW af cI (nf F) (nI fk) ++ (cW ac cI dn9 (nI ck9) ch9 ++ (bW ab cI bl9 (nI bk9) ++ (jW aj cI (nf U) jr ja (nI jk) (nI jq))))) (rest := []) (qc := (RX4, TX4, 7)) (z_colourOf l D cI cZ cL az n va9 re tr sh (nf C) (nI K) k9 hn (by omega)) gX5_stageIsDone_X4_colourOf rfl (by decide +kernel) ⟨Nat.le_of_ble_eq_true rfl, Nat.le_of_ble_eq_true rfl⟩ rfl rfl rfl rfl rfl (Nat.le_of_ble_eq_true rfl) dX5_stageIsDone_18 ⟨Nat.le_refl _, Nat.le_refl _⟩ (fun r9 w9 h9 => ?_)
        obtain ⟨rfl, rfl⟩ := h9
        refine j_w (w' := xW x az af ac ab aj sp ++ (zW az cI n va9 re tr sh (nf C) (nI K) ++ (fW af cI (nf F) (nI fk) ++ (cW ac cI dn9 (nI ck9) ch9 ++ (bW ab cI bl9 (nI bk9) ++ (jW aj cI (nf U) jr ja (nI jk) (nI jq))))))) rfl ?_
        refine j_st (st9 := [.int (nI (C k9))]) rfl ?_
        refine j_iload_n CX 2 dX5_stageIsDone_21 rfl rfl ?_
        refine j_icmpN_ne CX (by first | assumption | omega) (by first | assumption | omega | exact b2n_lt _ | exact t2n_lt _) 36 dX5_stageIsDone_22 (by decide) (fun h22 => ?_) (fun h22 => ?_)
        · rw [hd8, sdF_n h22] at he
          refine j_iinc CX (v := nI (k9 + 1)) (lv' := [(3, .int (nI (k9 + 1))), (0, .ref x), (1, .int (nI cq)), (2, .int (nI h))]) 0 dX5_stageIsDone_36 rfl (nI_1 _) (by decide) rfl ?_
          refine j_goto CX 2 dX5_stageIsDone_39 (by decide) ?_
          exact ih2 _ (by omega) (k9 + 1) va9 dn9 ck9 ch9 bl9 bk9 rfl (by omega) hs9 (by rw [← he, show n - (k9 + 1) = d8 by omega])
        · refine j_aload_n CX 1 dX5_stageIsDone_25 rfl rfl ?_
          refine j_iload_n CX 0 dX5_stageIsDone_26 rfl rfl ?_
          refine j_iload_n CX 3 dX5_stageIsDone_27 rfl rfl ?_
          refine j_callV CX (n := 2) (pre := []) (post := []) (rest := []) (qc := (RX5, TX5, 6)) (x_zd l D cI cZ cL x az af ac ab aj sp n va9 re tr sh C K F fk dn9 ck9 ch9 bl9 bk9 U jr ja jk jq k9 h hn (by omega) hh hfk hF hs9) gX5_stageIsDone_X5_zoneIsDone rfl (by decide +kernel) ⟨Nat.le_of_ble_eq_true rfl, Nat.le_of_ble_eq_true rfl⟩ rfl rfl rfl rfl rfl (Nat.le_of_ble_eq_true rfl) dX5_stageIsDone_28 ⟨Nat.le_refl _, Nat.le_refl _⟩ (fun r9 w9 h9 => ?_)
          obtain ⟨rfl, rfl⟩ := h9
          refine j_w (w' := xW x az af ac ab aj sp ++ (zW az cI n ((zdF sh n F fk k9 h 16 (va9, dn9, ck9, ch9, bl9, bk9)).2.1) re tr sh (nf C) (nI K) ++ (fW af cI (nf F) (nI fk) ++ (cW ac cI ((zdF sh n F fk k9 h 16 (va9, dn9, ck9, ch9, bl9, bk9)).2.2.1) (nI (zdF sh n F fk k9 h 16 (va9, dn9, ck9, ch9, bl9, bk9)).2.2.2.1) ((zdF sh n F fk k9 h 16 (va9, dn9, ck9, ch9, bl9, bk9)).2.2.2.2.1) ++ (bW ab cI ((zdF sh n F fk k9 h 16 (va9, dn9, ck9, ch9, bl9, bk9)).2.2.2.2.2.1) (nI (zdF sh n F fk k9 h 16 (va9, dn9, ck9, ch9, bl9, bk9)).2.2.2.2.2.2) ++ (jW aj cI (nf U) jr ja (nI jk) (nI jq))))))) rfl ?_
          refine j_st (st9 := [.int (nI (t2n (zdF sh n F fk k9 h 16 (va9, dn9, ck9, ch9, bl9, bk9)).1))]) rfl ?_
          refine j_ifN_ne CX (by first | assumption | omega | exact b2n_lt _ | exact t2n_lt _) 36 dX5_stageIsDone_31 (by decide) (fun h31 => ?_) (fun h31 => ?_)
          · have q9 : (zdF sh n F fk k9 h 16 (va9, dn9, ck9, ch9, bl9, bk9)).1 = true := t2n_ne h31
            rw [hd8, sdF_t h22 q9] at he
            refine j_iinc CX (v := nI (k9 + 1)) (lv' := [(3, .int (nI (k9 + 1))), (0, .ref x), (1, .int (nI cq)), (2, .int (nI h))]) 0 dX5_stageIsDone_36 rfl (nI_1 _) (by decide) rfl ?_
            refine j_goto CX 2 dX5_stageIsDone_39 (by decide) ?_
            exact ih2 _ (by omega) (k9 + 1) _ _ _ _ _ _ rfl (by omega) (zdF_ok2 sh n F fk k9 h 16 _ hs9) (by rw [← he, show n - (k9 + 1) = d8 by omega])
          · have q9 : ¬ (zdF sh n F fk k9 h 16 (va9, dn9, ck9, ch9, bl9, bk9)).1 = true := t2n_eq h31
            rw [hd8, sdF_f h22 q9] at he
            refine j_iconst CX dX5_stageIsDone_34 (show _ = (nI 0 : Int32) by decide) ?_
            exact j_zret CX hr hlocks dX5_stageIsDone_35 (rfl) (⟨by rw [← he]; rfl, by first | (rw [← he]; done) | (rw [← he]; rfl)⟩)
  show J p l e rmX5_stageIsDone s m args below meth c D A 4 0 0 (MQ below (jQc D (fun r0 w0 => r0 = some (.int (nI (t2n (sdF sh n F fk C h cq n 0 (va, dn, ck, ch, bl, bk)).1))) ∧ w0 = xW x az af ac ab aj sp ++ (zW az cI n (((sdF sh n F fk C h cq n 0 (va, dn, ck, ch, bl, bk)).2).1) re tr sh (nf C) (nI K) ++ (fW af cI (nf F) (nI fk) ++ (cW ac cI (((sdF sh n F fk C h cq n 0 (va, dn, ck, ch, bl, bk)).2).2.1) (nI ((sdF sh n F fk C h cq n 0 (va, dn, ck, ch, bl, bk)).2).2.2.1) (((sdF sh n F fk C h cq n 0 (va, dn, ck, ch, bl, bk)).2).2.2.2.1) ++ (bW ab cI (((sdF sh n F fk C h cq n 0 (va, dn, ck, ch, bl, bk)).2).2.2.2.2.1) (nI ((sdF sh n F fk C h cq n 0 (va, dn, ck, ch, bl, bk)).2).2.2.2.2.2) ++ (jW aj cI (nf U) jr ja (nI jk) (nI jq))))))) A) args s rmX5_stageIsDone.cells rmX5_stageIsDone.slots A) (xW x az af ac ab aj sp ++ (zW az cI n va re tr sh (nf C) (nI K) ++ (fW af cI (nf F) (nI fk) ++ (cW ac cI dn (nI ck) ch ++ (bW ab cI bl (nI bk) ++ (jW aj cI (nf U) jr ja (nI jk) (nI jq))))))) 0 [(0, .ref x), (1, .int (nI cq)), (2, .int (nI h))] []
  refine j_iconst CX dX5_stageIsDone_0 (show _ = (nI 0 : Int32) by decide) ?_
  refine j_istore_n CX (lv' := [(3, .int (nI 0)), (0, .ref x), (1, .int (nI cq)), (2, .int (nI h))]) dX5_stageIsDone_1 rfl (by decide) rfl ?_
  exact L2 _ 0 va dn ck ch bl bk rfl (Nat.zero_le _) hs rfl

abbrev rmX5_hourIsDone : Room := { frames := 6, cells := 0, slots := 0, locals := 180 }
set_option maxRecDepth 100000 in
set_option maxHeartbeats 4000000 in
theorem x_hd (l : Launch) (D : va_G) (cI cZ cL : ClassId) (x : Nat) (az af ac ab aj : Nat → Nat) (sp : Int32) (n : Nat) (va re tr sh : Nat → Int32) (C : Nat → Nat) (K : Nat) (F : Nat → Nat) (fk : Nat) (dn : Nat → Int32) (ck : Nat) (ch : Int32) (bl : Nat → Int32) (bk : Nat) (U : Nat → Nat) (jr ja : Nat → Int32) (jk jq : Nat) (h : Nat) (hK : K ≤ 24) (hn : n ≤ 24) (hC : ∀ k, k < n → C k < 2 ^ 31) (hh : h < 1000) (hfk : fk ≤ 200) (hF : ∀ j, j < fk → F j < 2 ^ 31) (hs : rsOk (va, dn, ck, ch, bl, bk)) : Cg l D cI cZ cL yX5_hourIsDone wsX5_hourIsDone rmX5_hourIsDone [.ref x, .int (nI h)] (xW x az af ac ab aj sp ++ (zW az cI n va re tr sh (nf C) (nI K) ++ (fW af cI (nf F) (nI fk) ++ (cW ac cI dn (nI ck) ch ++ (bW ab cI bl (nI bk) ++ (jW aj cI (nf U) jr ja (nI jk) (nI jq))))))) (fun r0 w0 => r0 = some (.int (nI (t2n (hdR sh n F fk C K h (re, (va, dn, ck, ch, bl, bk))).1))) ∧ w0 = xW x az af ac ab aj sp ++ (zW az cI n (((hdR sh n F fk C K h (re, (va, dn, ck, ch, bl, bk))).2.2).1) ((hdR sh n F fk C K h (re, (va, dn, ck, ch, bl, bk))).2.1) tr sh (nf C) (nI K) ++ (fW af cI (nf F) (nI fk) ++ (cW ac cI (((hdR sh n F fk C K h (re, (va, dn, ck, ch, bl, bk))).2.2).2.1) (nI ((hdR sh n F fk C K h (re, (va, dn, ck, ch, bl, bk))).2.2).2.2.1) (((hdR sh n F fk C K h (re, (va, dn, ck, ch, bl, bk))).2.2).2.2.2.1) ++ (bW ab cI (((hdR sh n F fk C K h (re, (va, dn, ck, ch, bl, bk))).2.2).2.2.2.2.1) (nI ((hdR sh n F fk C K h (re, (va, dn, ck, ch, bl, bk))).2.2).2.2.2.2.2) ++ (jW aj cI (nf U) jr ja (nI jk) (nI jq))))))) := by
  refine Cg.ofJ (own := RX5) (cc := cX5_hourIsDone) (maxL := 3) (ret := (some .boolean)) (by decide) rfl rfl (Nat.le_of_ble_eq_true rfl) ?_
  intro p e s m args below meth c A CX hr hlocks hname
  have hin5 : ∀ x ∈ u_ws RX5 TX5 6, x ∈ wsX5_hourIsDone := by decide +kernel
  have hfl23 : Cond.fieldLink RX5 23 (TX5 0).1 (TX5 0).2.1 (TX5 0).2.2.1 ∈ wsX5_hourIsDone := by decide +kernel
  have L9 : ∀ (d9 : Nat) (c9 : Nat) (va9 dn9 : Nat → Int32) (ck9 : Nat) (ch9 : Int32) (bl9 : Nat → Int32) (bk9 : Nat), K - c9 = d9 → c9 ≤ K → rsOk (va9, dn9, ck9, ch9, bl9, bk9) → hdF sh n F fk C h (K - c9) c9 (va9, dn9, ck9, ch9, bl9, bk9) = hdF sh n F fk C h K 0 (va, dn, ck, ch, bl, bk) → J p l e rmX5_hourIsDone s m args below meth c D A 3 0 0 (MQ below (jQc D (fun r0 w0 => r0 = some (.int (nI (t2n (hdR sh n F fk C K h (re, (va, dn, ck, ch, bl, bk))).1))) ∧ w0 = xW x az af ac ab aj sp ++ (zW az cI n (((hdR sh n F fk C K h (re, (va, dn, ck, ch, bl, bk))).2.2).1) ((hdR sh n F fk C K h (re, (va, dn, ck, ch, bl, bk))).2.1) tr sh (nf C) (nI K) ++ (fW af cI (nf F) (nI fk) ++ (cW ac cI (((hdR sh n F fk C K h (re, (va, dn, ck, ch, bl, bk))).2.2).2.1) (nI ((hdR sh n F fk C K h (re, (va, dn, ck, ch, bl, bk))).2.2).2.2.1) (((hdR sh n F fk C K h (re, (va, dn, ck, ch, bl, bk))).2.2).2.2.2.1) ++ (bW ab cI (((hdR sh n F fk C K h (re, (va, dn, ck, ch, bl, bk))).2.2).2.2.2.2.1) (nI ((hdR sh n F fk C K h (re, (va, dn, ck, ch, bl, bk))).2.2).2.2.2.2.2) ++ (jW aj cI (nf U) jr ja (nI jk) (nI jq))))))) A) args s rmX5_hourIsDone.cells rmX5_hourIsDone.slots A) (xW x az af ac ab aj sp ++ (zW az cI n va9 (va_cpy va re 0 0 n) tr sh (nf C) (nI K) ++ (fW af cI (nf F) (nI fk) ++ (cW ac cI dn9 (nI ck9) ch9 ++ (bW ab cI bl9 (nI bk9) ++ (jW aj cI (nf U) jr ja (nI jk) (nI jq))))))) 9 [(2, .int (nI c9)), (0, .ref x), (1, .int (nI h))] [] := by
    intro d9
    induction d9 using Nat.strongRecOn with
    | _ d9 ih9 =>
      intro c9 va9 dn9 ck9 ch9 bl9 bk9 hd hc hs9 he
      refine j_iload_n CX 0 dX5_hourIsDone_9 rfl rfl ?_
      refine j_aload_n CX 1 dX5_hourIsDone_10 rfl rfl ?_
      refine j_get CX 0 0 dX5_hourIsDone_11 rfl rfl hin5 (by decide) hfl23 rfl ?_
      refine j_callV CX (n := 0) (pre := xW x az af ac ab aj sp) (post := fW af cI (nf F) (nI fk) ++ (cW ac cI dn9 (nI ck9) ch9 ++ (bW ab cI bl9 (nI bk9) ++ (jW aj cI (nf U) jr ja (nI jk) (nI jq))))) (rest := [.int (nI c9)]) (qc := (RX4, TX4, 7)) (z_cc l D cI cZ cL az n va9 (va_cpy va re 0 0 n) tr sh (nf C) (nI K) ) gX5_hourIsDone_X4_colourCount rfl (by decide +kernel) ⟨Nat.le_of_ble_eq_true rfl, Nat.le_of_ble_eq_true rfl⟩ rfl rfl rfl rfl rfl (Nat.le_of_ble_eq_true rfl) dX5_hourIsDone_14 ⟨Nat.le_refl _, Nat.le_refl _⟩ (fun r9 w9 h9 => ?_)
      obtain ⟨rfl, rfl⟩ := h9
      refine j_w (w' := xW x az af ac ab aj sp ++ (zW az cI n va9 (va_cpy va re 0 0 n) tr sh (nf C) (nI K) ++ (fW af cI (nf F) (nI fk) ++ (cW ac cI dn9 (nI ck9) ch9 ++ (bW ab cI bl9 (nI bk9) ++ (jW aj cI (nf U) jr ja (nI jk) (nI jq))))))) rfl ?_
      refine j_st (st9 := [.int (nI K), .int (nI c9)]) rfl ?_
      refine j_icmpN_ge CX (by first | assumption | omega) (by first | assumption | omega | exact b2n_lt _ | exact t2n_lt _) 44 dX5_hourIsDone_17 (by decide) (fun h17 => ?_) (fun h17 => ?_)
      · rw [show K - c9 = 0 by omega] at he
        have e9 : hdR sh n F fk C K h (re, (va, dn, ck, ch, bl, bk)) = (true, (va_cpy va re 0 0 n, (va9, dn9, ck9, ch9, bl9, bk9))) := by
          unfold hdR
          rw [← he]
          rfl
        refine j_iconst CX dX5_hourIsDone_44 (show _ = (nI 1 : Int32) by decide) ?_
        exact j_zret CX hr hlocks dX5_hourIsDone_45 (rfl) (⟨by rw [e9]; rfl, by rw [e9]⟩)
      · obtain ⟨d8, hd8⟩ : ∃ d8, K - c9 = d8 + 1 := ⟨K - c9 - 1, by omega⟩
        refine j_aload_n CX 1 dX5_hourIsDone_20 rfl rfl ?_
        refine j_iload_n CX 0 dX5_hourIsDone_21 rfl rfl ?_
        refine j_iload_n CX 2 dX5_hourIsDone_22 rfl rfl ?_
        refine j_callV CX (n := 2) (pre := []) (post := []) (rest := []) (qc := (RX5, TX5, 6)) (x_sd l D cI cZ cL x az af ac ab aj sp n va9 (va_cpy va re 0 0 n) tr sh C K F fk dn9 ck9 ch9 bl9 bk9 U jr ja jk jq c9 h (by omega) hn hC hh hfk hF hs9) gX5_hourIsDone_X5_stageIsDone rfl (by decide +kernel) ⟨Nat.le_of_ble_eq_true rfl, Nat.le_of_ble_eq_true rfl⟩ rfl rfl rfl rfl rfl (Nat.le_of_ble_eq_true rfl) dX5_hourIsDone_23 ⟨Nat.le_refl _, Nat.le_refl _⟩ (fun r9 w9 h9 => ?_)
        obtain ⟨rfl, rfl⟩ := h9
        refine j_w (w' := xW x az af ac ab aj sp ++ (zW az cI n ((sdF sh n F fk C h c9 n 0 (va9, dn9, ck9, ch9, bl9, bk9)).2.1) (va_cpy va re 0 0 n) tr sh (nf C) (nI K) ++ (fW af cI (nf F) (nI fk) ++ (cW ac cI ((sdF sh n F fk C h c9 n 0 (va9, dn9, ck9, ch9, bl9, bk9)).2.2.1) (nI (sdF sh n F fk C h c9 n 0 (va9, dn9, ck9, ch9, bl9, bk9)).2.2.2.1) ((sdF sh n F fk C h c9 n 0 (va9, dn9, ck9, ch9, bl9, bk9)).2.2.2.2.1) ++ (bW ab cI ((sdF sh n F fk C h c9 n 0 (va9, dn9, ck9, ch9, bl9, bk9)).2.2.2.2.2.1) (nI (sdF sh n F fk C h c9 n 0 (va9, dn9, ck9, ch9, bl9, bk9)).2.2.2.2.2.2) ++ (jW aj cI (nf U) jr ja (nI jk) (nI jq))))))) rfl ?_
        refine j_st (st9 := [.int (nI (t2n (sdF sh n F fk C h c9 n 0 (va9, dn9, ck9, ch9, bl9, bk9)).1))]) rfl ?_
        refine j_ifN_ne CX (by first | assumption | omega | exact b2n_lt _ | exact t2n_lt _) 38 dX5_hourIsDone_26 (by decide) (fun h26 => ?_) (fun h26 => ?_)
        · have q9 : (sdF sh n F fk C h c9 n 0 (va9, dn9, ck9, ch9, bl9, bk9)).1 = true := t2n_ne h26
          rw [hd8, hdF_t q9] at he
          refine j_iinc CX (v := nI (c9 + 1)) (lv' := [(2, .int (nI (c9 + 1))), (0, .ref x), (1, .int (nI h))]) 0 dX5_hourIsDone_38 rfl (nI_1 _) (by decide) rfl ?_
          refine j_goto CX 9 dX5_hourIsDone_41 (by decide) ?_
          exact ih9 _ (by omega) (c9 + 1) _ _ _ _ _ _ rfl (by omega) (sdF_ok2 sh n F fk C h c9 n 0 _ hs9) (by rw [← he, show K - (c9 + 1) = d8 by omega])
        · have q9 : ¬ (sdF sh n F fk C h c9 n 0 (va9, dn9, ck9, ch9, bl9, bk9)).1 = true := t2n_eq h26
          rw [hd8, hdF_f q9] at he
          have e9 : hdR sh n F fk C K h (re, (va, dn, ck, ch, bl, bk)) = (false, (va_cpy va re 0 0 n, (va_cpy (va_cpy va re 0 0 n) (sdF sh n F fk C h c9 n 0 (va9, dn9, ck9, ch9, bl9, bk9)).2.1 0 0 n, (sdF sh n F fk C h c9 n 0 (va9, dn9, ck9, ch9, bl9, bk9)).2.2))) := by
            unfold hdR
            rw [← he]
            rfl
          refine j_aload_n CX 1 dX5_hourIsDone_29 rfl rfl ?_
          refine j_get CX 0 0 dX5_hourIsDone_30 rfl rfl hin5 (by decide) hfl23 rfl ?_
          refine j_callV CX (n := 0) (pre := xW x az af ac ab aj sp) (post := fW af cI (nf F) (nI fk) ++ (cW ac cI ((sdF sh n F fk C h c9 n 0 (va9, dn9, ck9, ch9, bl9, bk9)).2.2.1) (nI (sdF sh n F fk C h c9 n 0 (va9, dn9, ck9, ch9, bl9, bk9)).2.2.2.1) ((sdF sh n F fk C h c9 n 0 (va9, dn9, ck9, ch9, bl9, bk9)).2.2.2.2.1) ++ (bW ab cI ((sdF sh n F fk C h c9 n 0 (va9, dn9, ck9, ch9, bl9, bk9)).2.2.2.2.2.1) (nI (sdF sh n F fk C h c9 n 0 (va9, dn9, ck9, ch9, bl9, bk9)).2.2.2.2.2.2) ++ (jW aj cI (nf U) jr ja (nI jk) (nI jq))))) (rest := []) (qc := (RX4, TX4, 7)) (z_recall l D cI cZ cL az n ((sdF sh n F fk C h c9 n 0 (va9, dn9, ck9, ch9, bl9, bk9)).2.1) (va_cpy va re 0 0 n) tr sh (nf C) (nI K) hn) gX5_hourIsDone_X4_recall rfl (by decide +kernel) ⟨Nat.le_of_ble_eq_true rfl, Nat.le_of_ble_eq_true rfl⟩ rfl rfl rfl rfl rfl (Nat.le_of_ble_eq_true rfl) dX5_hourIsDone_33 ⟨Nat.le_refl _, Nat.le_refl _⟩ (fun r9 w9 h9 => ?_)
          obtain ⟨rfl, rfl⟩ := h9
          refine j_w (w' := xW x az af ac ab aj sp ++ (zW az cI n (va_cpy (va_cpy va re 0 0 n) ((sdF sh n F fk C h c9 n 0 (va9, dn9, ck9, ch9, bl9, bk9)).2.1) 0 0 n) (va_cpy va re 0 0 n) tr sh (nf C) (nI K) ++ (fW af cI (nf F) (nI fk) ++ (cW ac cI ((sdF sh n F fk C h c9 n 0 (va9, dn9, ck9, ch9, bl9, bk9)).2.2.1) (nI (sdF sh n F fk C h c9 n 0 (va9, dn9, ck9, ch9, bl9, bk9)).2.2.2.1) ((sdF sh n F fk C h c9 n 0 (va9, dn9, ck9, ch9, bl9, bk9)).2.2.2.2.1) ++ (bW ab cI ((sdF sh n F fk C h c9 n 0 (va9, dn9, ck9, ch9, bl9, bk9)).2.2.2.2.2.1) (nI (sdF sh n F fk C h c9 n 0 (va9, dn9, ck9, ch9, bl9, bk9)).2.2.2.2.2.2) ++ (jW aj cI (nf U) jr ja (nI jk) (nI jq))))))) rfl ?_
          refine j_st (st9 := []) rfl ?_
          refine j_iconst CX dX5_hourIsDone_36 (show _ = (nI 0 : Int32) by decide) ?_
          exact j_zret CX hr hlocks dX5_hourIsDone_37 (rfl) (⟨by rw [e9]; rfl, by rw [e9]⟩)
  show J p l e rmX5_hourIsDone s m args below meth c D A 3 0 0 (MQ below (jQc D (fun r0 w0 => r0 = some (.int (nI (t2n (hdR sh n F fk C K h (re, (va, dn, ck, ch, bl, bk))).1))) ∧ w0 = xW x az af ac ab aj sp ++ (zW az cI n (((hdR sh n F fk C K h (re, (va, dn, ck, ch, bl, bk))).2.2).1) ((hdR sh n F fk C K h (re, (va, dn, ck, ch, bl, bk))).2.1) tr sh (nf C) (nI K) ++ (fW af cI (nf F) (nI fk) ++ (cW ac cI (((hdR sh n F fk C K h (re, (va, dn, ck, ch, bl, bk))).2.2).2.1) (nI ((hdR sh n F fk C K h (re, (va, dn, ck, ch, bl, bk))).2.2).2.2.1) (((hdR sh n F fk C K h (re, (va, dn, ck, ch, bl, bk))).2.2).2.2.2.1) ++ (bW ab cI (((hdR sh n F fk C K h (re, (va, dn, ck, ch, bl, bk))).2.2).2.2.2.2.1) (nI ((hdR sh n F fk C K h (re, (va, dn, ck, ch, bl, bk))).2.2).2.2.2.2.2) ++ (jW aj cI (nf U) jr ja (nI jk) (nI jq))))))) A) args s rmX5_hourIsDone.cells rmX5_hourIsDone.slots A) (xW x az af ac ab aj sp ++ (zW az cI n va re tr sh (nf C) (nI K) ++ (fW af cI (nf F) (nI fk) ++ (cW ac cI dn (nI ck) ch ++ (bW ab cI bl (nI bk) ++ (jW aj cI (nf U) jr ja (nI jk) (nI jq))))))) 0 [(0, .ref x), (1, .int (nI h))] []
  refine j_aload_n CX 0 dX5_hourIsDone_0 rfl rfl ?_
  refine j_get CX 0 0 dX5_hourIsDone_1 rfl rfl hin5 (by decide) hfl23 rfl ?_
  refine j_callV CX (n := 0) (pre := xW x az af ac ab aj sp) (post := fW af cI (nf F) (nI fk) ++ (cW ac cI dn (nI ck) ch ++ (bW ab cI bl (nI bk) ++ (jW aj cI (nf U) jr ja (nI jk) (nI jq))))) (rest := []) (qc := (RX4, TX4, 7)) (z_remember l D cI cZ cL az n va re tr sh (nf C) (nI K) hn) gX5_hourIsDone_X4_remember rfl (by decide +kernel) ⟨Nat.le_of_ble_eq_true rfl, Nat.le_of_ble_eq_true rfl⟩ rfl rfl rfl rfl rfl (Nat.le_of_ble_eq_true rfl) dX5_hourIsDone_4 ⟨Nat.le_refl _, Nat.le_refl _⟩ (fun r9 w9 h9 => ?_)
  obtain ⟨rfl, rfl⟩ := h9
  refine j_w (w' := xW x az af ac ab aj sp ++ (zW az cI n va (va_cpy va re 0 0 n) tr sh (nf C) (nI K) ++ (fW af cI (nf F) (nI fk) ++ (cW ac cI dn (nI ck) ch ++ (bW ab cI bl (nI bk) ++ (jW aj cI (nf U) jr ja (nI jk) (nI jq))))))) rfl ?_
  refine j_st (st9 := []) rfl ?_
  refine j_iconst CX dX5_hourIsDone_7 (show _ = (nI 0 : Int32) by decide) ?_
  refine j_istore_n CX (lv' := [(2, .int (nI 0)), (0, .ref x), (1, .int (nI h))]) dX5_hourIsDone_8 rfl (by decide) rfl ?_
  exact L9 _ 0 va dn ck ch bl bk rfl (Nat.zero_le _) hs rfl

abbrev rmX5_run : Room := { frames := 7, cells := 0, slots := 0, locals := 222 }
set_option maxRecDepth 100000 in
set_option maxHeartbeats 4000000 in
theorem x_run (l : Launch) (D : va_G) (cI cZ cL : ClassId) (x : Nat) (az af ac ab aj : Nat → Nat) (sp : Int32) (n : Nat) (va re tr sh : Nat → Int32) (C : Nat → Nat) (K : Nat) (F : Nat → Nat) (fk : Nat) (dn : Nat → Int32) (ck : Nat) (ch : Int32) (bl : Nat → Int32) (bk : Nat) (U : Nat → Nat) (jr ja : Nat → Int32) (jk jq : Nat) (W : Nat) (sd : Int32) (H : Nat) (hK : K ≤ 24) (hn : n ≤ 24) (hC : ∀ k, k < n → C k < 2 ^ 31) (hfk : fk ≤ 200) (hF : ∀ j, j < fk → F j < 2 ^ 31) (hW1 : 1 ≤ W) (hW : W ≤ 16) (hH1 : 1 ≤ H) (hH : H ≤ 50) : Cg l D cI cZ cL yX5_run wsX5_run rmX5_run [.ref x, .int (nI W), .int sd, .int (nI H)] (xW x az af ac ab aj sp ++ (zW az cI n va re tr sh (nf C) (nI K) ++ (fW af cI (nf F) (nI fk) ++ (cW ac cI dn (nI ck) ch ++ (bW ab cI bl (nI bk) ++ (jW aj cI (nf U) jr ja (nI jk) (nI jq))))))) (fun r0 w0 => r0 = some (.int (nI (rnF sh n F fk C K sp H 0 (re, (va, gaD dn W 16, W, sd, bl, 0))).1)) ∧ w0 = xW x az af ac ab aj sp ++ (zW az cI n (((rnF sh n F fk C K sp H 0 (re, (va, gaD dn W 16, W, sd, bl, 0))).2.2).1) ((rnF sh n F fk C K sp H 0 (re, (va, gaD dn W 16, W, sd, bl, 0))).2.1) tr sh (nf C) (nI K) ++ (fW af cI (nf F) (nI fk) ++ (cW ac cI (((rnF sh n F fk C K sp H 0 (re, (va, gaD dn W 16, W, sd, bl, 0))).2.2).2.1) (nI ((rnF sh n F fk C K sp H 0 (re, (va, gaD dn W 16, W, sd, bl, 0))).2.2).2.2.1) (((rnF sh n F fk C K sp H 0 (re, (va, gaD dn W 16, W, sd, bl, 0))).2.2).2.2.2.1) ++ (bW ab cI (((rnF sh n F fk C K sp H 0 (re, (va, gaD dn W 16, W, sd, bl, 0))).2.2).2.2.2.2.1) (nI ((rnF sh n F fk C K sp H 0 (re, (va, gaD dn W 16, W, sd, bl, 0))).2.2).2.2.2.2.2) ++ (jW aj cI (nf U) jr ja (nI jk) (nI jq))))))) := by
  refine Cg.ofJ (own := RX5) (cc := cX5_run) (maxL := 5) (ret := (some .int)) (by decide) rfl rfl (Nat.le_of_ble_eq_true rfl) ?_
  intro p e s m args below meth c A CX hr hlocks hname
  have hin5 : ∀ x ∈ u_ws RX5 TX5 6, x ∈ wsX5_run := by decide +kernel
  have hfl55 : Cond.fieldLink RX5 55 (TX5 5).1 (TX5 5).2.1 (TX5 5).2.2.1 ∈ wsX5_run := by decide +kernel
  have hfl37 : Cond.fieldLink RX5 37 (TX5 2).1 (TX5 2).2.1 (TX5 2).2.2.1 ∈ wsX5_run := by decide +kernel
  have hfl44 : Cond.fieldLink RX5 44 (TX5 3).1 (TX5 3).2.1 (TX5 3).2.2.1 ∈ wsX5_run := by decide +kernel
  have L33 : ∀ (d33 : Nat) (h9 : Nat) (re9 : Nat → Int32) (va9 dn9 : Nat → Int32) (ck9 : Nat) (ch9 : Int32) (bl9 : Nat → Int32) (bk9 : Nat), H - h9 = d33 → h9 ≤ H → rsOk (va9, dn9, ck9, ch9, bl9, bk9) → rnF sh n F fk C K sp (H - h9) h9 (re9, (va9, dn9, ck9, ch9, bl9, bk9)) = rnF sh n F fk C K sp H 0 (re, (va, gaD dn W 16, W, sd, bl, 0)) → J p l e rmX5_run s m args below meth c D A 5 0 0 (MQ below (jQc D (fun r0 w0 => r0 = some (.int (nI (rnF sh n F fk C K sp H 0 (re, (va, gaD dn W 16, W, sd, bl, 0))).1)) ∧ w0 = xW x az af ac ab aj sp ++ (zW az cI n (((rnF sh n F fk C K sp H 0 (re, (va, gaD dn W 16, W, sd, bl, 0))).2.2).1) ((rnF sh n F fk C K sp H 0 (re, (va, gaD dn W 16, W, sd, bl, 0))).2.1) tr sh (nf C) (nI K) ++ (fW af cI (nf F) (nI fk) ++ (cW ac cI (((rnF sh n F fk C K sp H 0 (re, (va, gaD dn W 16, W, sd, bl, 0))).2.2).2.1) (nI ((rnF sh n F fk C K sp H 0 (re, (va, gaD dn W 16, W, sd, bl, 0))).2.2).2.2.1) (((rnF sh n F fk C K sp H 0 (re, (va, gaD dn W 16, W, sd, bl, 0))).2.2).2.2.2.1) ++ (bW ab cI (((rnF sh n F fk C K sp H 0 (re, (va, gaD dn W 16, W, sd, bl, 0))).2.2).2.2.2.2.1) (nI ((rnF sh n F fk C K sp H 0 (re, (va, gaD dn W 16, W, sd, bl, 0))).2.2).2.2.2.2.2) ++ (jW aj cI (nf U) jr ja (nI jk) (nI jq))))))) A) args s rmX5_run.cells rmX5_run.slots A) (xW x az af ac ab aj sp ++ (zW az cI n va9 re9 tr sh (nf C) (nI K) ++ (fW af cI (nf F) (nI fk) ++ (cW ac cI dn9 (nI ck9) ch9 ++ (bW ab cI bl9 (nI bk9) ++ (jW aj cI (nf U) jr ja (nI jk) (nI jq))))))) 33 [(4, .int (nI h9)), (0, .ref x), (1, .int (nI W)), (2, .int sd), (3, .int (nI H))] [] := by
    intro d33
    induction d33 using Nat.strongRecOn with
    | _ d33 ih33 =>
      intro h9 re9 va9 dn9 ck9 ch9 bl9 bk9 hd hh9 hs9 he
      refine j_iload CX 0 dX5_run_33 rfl ?_
      refine j_iload_n CX 4 dX5_run_35 rfl rfl ?_
      refine j_icmpN_ge CX (by first | assumption | omega) (by first | assumption | omega | exact b2n_lt _ | exact t2n_lt _) 71 dX5_run_36 (by decide) (fun h36 => ?_) (fun h36 => ?_)
      · rw [show H - h9 = 0 by omega] at he
        refine j_iload_n CX 4 dX5_run_71 rfl rfl ?_
        exact j_iret CX hr hlocks dX5_run_72 (⟨by rw [← he, show H = h9 by omega]; rfl, by first | (rw [← he]; done) | (rw [← he]; rfl)⟩)
      · obtain ⟨d8, hd8⟩ : ∃ d8, H - h9 = d8 + 1 := ⟨H - h9 - 1, by omega⟩
        refine j_aload_n CX 1 dX5_run_39 rfl rfl ?_
        refine j_iload CX 0 dX5_run_40 rfl ?_
        refine j_callV CX (n := 1) (pre := []) (post := []) (rest := []) (qc := (RX5, TX5, 6)) (x_hd l D cI cZ cL x az af ac ab aj sp n va9 re9 tr sh C K F fk dn9 ck9 ch9 bl9 bk9 U jr ja jk jq h9 hK hn hC (by omega) hfk hF hs9) gX5_run_X5_hourIsDone rfl (by decide +kernel) ⟨Nat.le_of_ble_eq_true rfl, Nat.le_of_ble_eq_true rfl⟩ rfl rfl rfl rfl rfl (Nat.le_of_ble_eq_true rfl) dX5_run_42 ⟨Nat.le_refl _, Nat.le_refl _⟩ (fun r9 w9 h9 => ?_)
        obtain ⟨rfl, rfl⟩ := h9
        refine j_w (w' := xW x az af ac ab aj sp ++ (zW az cI n ((hdR sh n F fk C K h9 (re9, (va9, dn9, ck9, ch9, bl9, bk9))).2.2.1) ((hdR sh n F fk C K h9 (re9, (va9, dn9, ck9, ch9, bl9, bk9))).2.1) tr sh (nf C) (nI K) ++ (fW af cI (nf F) (nI fk) ++ (cW ac cI ((hdR sh n F fk C K h9 (re9, (va9, dn9, ck9, ch9, bl9, bk9))).2.2.2.1) (nI (hdR sh n F fk C K h9 (re9, (va9, dn9, ck9, ch9, bl9, bk9))).2.2.2.2.1) ((hdR sh n F fk C K h9 (re9, (va9, dn9, ck9, ch9, bl9, bk9))).2.2.2.2.2.1) ++ (bW ab cI ((hdR sh n F fk C K h9 (re9, (va9, dn9, ck9, ch9, bl9, bk9))).2.2.2.2.2.2.1) (nI (hdR sh n F fk C K h9 (re9, (va9, dn9, ck9, ch9, bl9, bk9))).2.2.2.2.2.2.2) ++ (jW aj cI (nf U) jr ja (nI jk) (nI jq))))))) rfl ?_
        refine j_st (st9 := [.int (nI (t2n (hdR sh n F fk C K h9 (re9, (va9, dn9, ck9, ch9, bl9, bk9))).1))]) rfl ?_
        refine j_ifN_ne CX (by first | assumption | omega | exact b2n_lt _ | exact t2n_lt _) 51 dX5_run_45 (by decide) (fun h45 => ?_) (fun h45 => ?_)
        · have q9 : (hdR sh n F fk C K h9 (re9, (va9, dn9, ck9, ch9, bl9, bk9))).1 = true := t2n_ne h45
          refine j_iload CX 0 dX5_run_51 rfl ?_
          refine j_aload_n CX 1 dX5_run_53 rfl rfl ?_
          refine j_get CX 0 5 dX5_run_54 rfl rfl hin5 (by decide) hfl55 rfl ?_
          refine j_icmp_ne CX 65 dX5_run_57 (by decide) (fun h57 => ?_) (fun h57 => ?_)
          · rw [hd8, rnF_t q9 h57] at he
            refine j_iinc CX (v := nI (h9 + 1)) (lv' := [(4, .int (nI (h9 + 1))), (0, .ref x), (1, .int (nI W)), (2, .int sd), (3, .int (nI H))]) 0 dX5_run_65 rfl (nI_1 _) (by decide) rfl ?_
            refine j_goto CX 33 dX5_run_68 (by decide) ?_
            exact ih33 _ (by omega) (h9 + 1) _ _ _ _ _ _ _ rfl (by omega) (hdR_ok2 sh n F fk C K h9 _ hs9) (by rw [← he, show H - (h9 + 1) = d8 by omega])
          · rw [hd8, rnF_s q9 h57] at he
            refine j_iload CX 0 dX5_run_60 rfl ?_
            refine j_iconst CX dX5_run_62 (show _ = (nI 1 : Int32) by decide) ?_
            refine j_iadd CX dX5_run_63 ?_
            refine j_top (show (nI h9) + (nI 1) = nI (h9 + 1) from nI_add _ _) ?_
            exact j_iret CX hr hlocks dX5_run_64 (⟨by rw [← he], by rw [← he]⟩)
        · have q9 : ¬ (hdR sh n F fk C K h9 (re9, (va9, dn9, ck9, ch9, bl9, bk9))).1 = true := t2n_eq h45
          rw [hd8, rnF_f q9] at he
          refine j_iload CX 0 dX5_run_48 rfl ?_
          exact j_iret CX hr hlocks dX5_run_50 (⟨by rw [← he], by rw [← he]⟩)
  show J p l e rmX5_run s m args below meth c D A 5 0 0 (MQ below (jQc D (fun r0 w0 => r0 = some (.int (nI (rnF sh n F fk C K sp H 0 (re, (va, gaD dn W 16, W, sd, bl, 0))).1)) ∧ w0 = xW x az af ac ab aj sp ++ (zW az cI n (((rnF sh n F fk C K sp H 0 (re, (va, gaD dn W 16, W, sd, bl, 0))).2.2).1) ((rnF sh n F fk C K sp H 0 (re, (va, gaD dn W 16, W, sd, bl, 0))).2.1) tr sh (nf C) (nI K) ++ (fW af cI (nf F) (nI fk) ++ (cW ac cI (((rnF sh n F fk C K sp H 0 (re, (va, gaD dn W 16, W, sd, bl, 0))).2.2).2.1) (nI ((rnF sh n F fk C K sp H 0 (re, (va, gaD dn W 16, W, sd, bl, 0))).2.2).2.2.1) (((rnF sh n F fk C K sp H 0 (re, (va, gaD dn W 16, W, sd, bl, 0))).2.2).2.2.2.1) ++ (bW ab cI (((rnF sh n F fk C K sp H 0 (re, (va, gaD dn W 16, W, sd, bl, 0))).2.2).2.2.2.2.1) (nI ((rnF sh n F fk C K sp H 0 (re, (va, gaD dn W 16, W, sd, bl, 0))).2.2).2.2.2.2.2) ++ (jW aj cI (nf U) jr ja (nI jk) (nI jq))))))) A) args s rmX5_run.cells rmX5_run.slots A) (xW x az af ac ab aj sp ++ (zW az cI n va re tr sh (nf C) (nI K) ++ (fW af cI (nf F) (nI fk) ++ (cW ac cI dn (nI ck) ch ++ (bW ab cI bl (nI bk) ++ (jW aj cI (nf U) jr ja (nI jk) (nI jq))))))) 0 [(0, .ref x), (1, .int (nI W)), (2, .int sd), (3, .int (nI H))] []
  refine j_iload_n CX 1 dX5_run_0 rfl rfl ?_
  refine j_iconst CX dX5_run_1 (show _ = (nI 1 : Int32) by decide) ?_
  refine j_bipush CX dX5_run_2 (show _ = (nI 16 : Int32) by decide) ?_
  refine j_callS CX (n := 3) (b := 0) (pre := []) (post := xW x az af ac ab aj sp ++ (zW az cI n va re tr sh (nf C) (nI K) ++ (fW af cI (nf F) (nI fk) ++ (cW ac cI dn (nI ck) ch ++ (bW ab cI bl (nI bk) ++ (jW aj cI (nf U) jr ja (nI jk) (nI jq))))))) (rest := []) (x_cw l D cI cZ cL (nI W) (nI 1) (nI 16) (nI_nlt (by omega) (by omega)) (nI_nlt (by omega) (by omega))) gX5_run_X5_checkWithin rfl (by decide +kernel) ⟨Nat.le_of_ble_eq_true rfl, Nat.le_of_ble_eq_true rfl⟩ rfl rfl rfl (Nat.le_of_ble_eq_true rfl) dX5_run_4 ⟨Nat.le_refl _, Nat.le_refl _⟩ (fun r9 w9 h9 => ?_)
  obtain ⟨rfl, rfl⟩ := h9
  refine j_w (w' := xW x az af ac ab aj sp ++ (zW az cI n va re tr sh (nf C) (nI K) ++ (fW af cI (nf F) (nI fk) ++ (cW ac cI dn (nI ck) ch ++ (bW ab cI bl (nI bk) ++ (jW aj cI (nf U) jr ja (nI jk) (nI jq))))))) rfl ?_
  refine j_st (st9 := []) rfl ?_
  refine j_iload_n CX 3 dX5_run_7 rfl rfl ?_
  refine j_iconst CX dX5_run_8 (show _ = (nI 1 : Int32) by decide) ?_
  refine j_bipush CX dX5_run_9 (show _ = (nI 50 : Int32) by decide) ?_
  refine j_callS CX (n := 3) (b := 0) (pre := []) (post := xW x az af ac ab aj sp ++ (zW az cI n va re tr sh (nf C) (nI K) ++ (fW af cI (nf F) (nI fk) ++ (cW ac cI dn (nI ck) ch ++ (bW ab cI bl (nI bk) ++ (jW aj cI (nf U) jr ja (nI jk) (nI jq))))))) (rest := []) (x_cw l D cI cZ cL (nI H) (nI 1) (nI 50) (nI_nlt (by omega) (by omega)) (nI_nlt (by omega) (by omega))) gX5_run_X5_checkWithin rfl (by decide +kernel) ⟨Nat.le_of_ble_eq_true rfl, Nat.le_of_ble_eq_true rfl⟩ rfl rfl rfl (Nat.le_of_ble_eq_true rfl) dX5_run_11 ⟨Nat.le_refl _, Nat.le_refl _⟩ (fun r9 w9 h9 => ?_)
  obtain ⟨rfl, rfl⟩ := h9
  refine j_w (w' := xW x az af ac ab aj sp ++ (zW az cI n va re tr sh (nf C) (nI K) ++ (fW af cI (nf F) (nI fk) ++ (cW ac cI dn (nI ck) ch ++ (bW ab cI bl (nI bk) ++ (jW aj cI (nf U) jr ja (nI jk) (nI jq))))))) rfl ?_
  refine j_st (st9 := []) rfl ?_
  refine j_aload_n CX 0 dX5_run_14 rfl rfl ?_
  refine j_get CX 0 2 dX5_run_15 rfl rfl hin5 (by decide) hfl37 rfl ?_
  refine j_iload_n CX 1 dX5_run_18 rfl rfl ?_
  refine j_iload_n CX 2 dX5_run_19 rfl rfl ?_
  refine j_callV CX (n := 2) (pre := xW x az af ac ab aj sp ++ (zW az cI n va re tr sh (nf C) (nI K) ++ (fW af cI (nf F) (nI fk)))) (post := bW ab cI bl (nI bk) ++ (jW aj cI (nf U) jr ja (nI jk) (nI jq))) (rest := []) (qc := (RX1, TX1, 3)) (c_gather l D cI cZ cL ac dn ck ch W sd hW) gX5_run_X1_gather rfl (by decide +kernel) ⟨Nat.le_of_ble_eq_true rfl, Nat.le_of_ble_eq_true rfl⟩ rfl rfl rfl rfl rfl (Nat.le_of_ble_eq_true rfl) dX5_run_20 ⟨Nat.le_refl _, Nat.le_refl _⟩ (fun r9 w9 h9 => ?_)
  obtain ⟨rfl, rfl⟩ := h9
  refine j_w (w' := xW x az af ac ab aj sp ++ (zW az cI n va re tr sh (nf C) (nI K) ++ (fW af cI (nf F) (nI fk) ++ (cW ac cI (gaD dn W 16) (nI W) sd ++ (bW ab cI bl (nI bk) ++ (jW aj cI (nf U) jr ja (nI jk) (nI jq))))))) rfl ?_
  refine j_st (st9 := []) rfl ?_
  refine j_aload_n CX 0 dX5_run_23 rfl rfl ?_
  refine j_get CX 0 3 dX5_run_24 rfl rfl hin5 (by decide) hfl44 rfl ?_
  refine j_callV CX (n := 0) (pre := xW x az af ac ab aj sp ++ (zW az cI n va re tr sh (nf C) (nI K) ++ (fW af cI (nf F) (nI fk) ++ (cW ac cI (gaD dn W 16) (nI W) sd)))) (post := jW aj cI (nf U) jr ja (nI jk) (nI jq)) (rest := []) (qc := (RX0, TX0, 2)) (b_clear l D cI cZ cL ab bl bk ) gX5_run_X0_clear rfl (by decide +kernel) ⟨Nat.le_of_ble_eq_true rfl, Nat.le_of_ble_eq_true rfl⟩ rfl rfl rfl rfl rfl (Nat.le_of_ble_eq_true rfl) dX5_run_27 ⟨Nat.le_refl _, Nat.le_refl _⟩ (fun r9 w9 h9 => ?_)
  obtain ⟨rfl, rfl⟩ := h9
  refine j_w (w' := xW x az af ac ab aj sp ++ (zW az cI n va re tr sh (nf C) (nI K) ++ (fW af cI (nf F) (nI fk) ++ (cW ac cI (gaD dn W 16) (nI W) sd ++ (bW ab cI bl (nI 0) ++ (jW aj cI (nf U) jr ja (nI jk) (nI jq))))))) rfl ?_
  refine j_st (st9 := []) rfl ?_
  refine j_iconst CX dX5_run_30 (show _ = (nI 0 : Int32) by decide) ?_
  refine j_istore CX (lv' := [(4, .int (nI 0)), (0, .ref x), (1, .int (nI W)), (2, .int sd), (3, .int (nI H))]) dX5_run_31 (by decide) rfl ?_
  exact L33 _ 0 re va (gaD dn W 16) W sd bl 0 rfl (Nat.zero_le _) ⟨hW, Nat.zero_le _⟩ rfl
