set_option maxRecDepth 100000 in
set_option maxHeartbeats 4000000 in
theorem lc_sum {p : Program} {l : Launch} (hl9 : l.stackTraces = false) {e : Env} {s : State} {m : MethodId} {below : List Frame} {meth : Method} {c : Code} {D : va_G} {cI cZ cL : ClassId} {σ : Nat → Nat} {Q : State → Prop} {b L : Nat} {xs : Nat → Int32} {x a0 o : Nat} {Rel : Nat → va_W → va_W → Prop} (hL : L ≤ 2561) (CX : jC p s m #[Value.ref b] c cL_law 7 wsL_law RL D cI cZ cL (fun q : Nat => s.heap.size ≤ q)) (hX : jX σ s) (hZ : jZ (fun q : Nat => s.heap.size ≤ q) s s.heap) (hXs : va_X b L xs s s.heap) (hbl : b < s.heap.size)
    (hRx : ∀ k wx wm, Rel k wx wm → ∃ fs, wx[0]? = some (x, .inr (5, fs))) (hRm : ∀ k wx wm, Rel k wx wm → ∃ fs, wm[0]? = some (a0, .inr (6, fs))) (k i : Nat) (hk : k ≤ 512) (hi : i + 5 ≤ L) (ou : Nat → Int64) (wx wm : va_W) (hR : Rel k wx wm) (hstep : StN l D cI cZ cL x a0 Rel k yX5_sum wsX5_sum rmX5_sum yX6_sum wsX6_sum rmX6_sum wx wm)
    (kk : ∀ (ou2 : Nat → Int64) (wx2 wm2 : va_W), Rel (k + 1) wx2 wm2 → J p l e room_1 s m #[Value.ref b] below meth c D (fun q : Nat => s.heap.size ≤ q) 7 (100 + (k + 1)) (40000 + 6 * (k + 1)) Q (wm2 ++ (oW o cL ou2 ++ wx2)) 978 [(4, .int (nI i)), (0, .ref b), (1, .ref x), (2, .ref a0), (3, .ref o)] []) : J p l e room_1 s m #[Value.ref b] below meth c D (fun q : Nat => s.heap.size ≤ q) 7 (100 + k) (40000 + 6 * k) Q (wm ++ (oW o cL ou ++ wx)) 648 [(4, .int (nI i)), (0, .ref b), (1, .ref x), (2, .ref a0), (3, .ref o)] [] := by
  have hbA : ¬ (fun q : Nat => s.heap.size ≤ q) b := Nat.not_le.mpr hbl
  obtain ⟨fx, hx0⟩ := hRx k wx wm hR
  obtain ⟨fm, hm0⟩ := hRm k wx wm hR
  have hce : ∀ q : Nat, q ≤ 2 → 100 + k + q ≤ room_1.cells := fun q hq => by show _ ≤ 601024; omega
  have hsl : ∀ q : Nat, q ≤ 6 → 40000 + 6 * k + q ≤ room_1.slots := fun q hq => by show _ ≤ 7293000; omega
  obtain ⟨v, wx2, Po, hcx, hcm, hpo⟩ := hstep
  refine j_aload_n CX 2 dL_law_648 rfl rfl ?_
  refine j_callV CX (n := 0) (pre := wm ++ oW o cL ou) (post := []) (rest := []) (qc := (RX5, TX5, 6)) hcx gL_law_X5_sum rfl (by decide +kernel) ⟨(Nat.le_of_ble_eq_true rfl), (Nat.le_of_ble_eq_true rfl)⟩ (by rw [List.append_nil, List.append_assoc]) rfl hx0 rfl rfl (Nat.le_of_ble_eq_true rfl) dL_law_649 ⟨hce _ (by decide), hsl _ (by decide)⟩ (fun r9 w9 h9 => ?_)
  obtain ⟨rfl, e9⟩ := h9
  refine j_w (w' := wm ++ (oW o cL ou ++ wx2)) (by rw [e9, List.append_nil, List.append_assoc]) ?_
  refine j_st (st9 := [.int v]) rfl ?_
  refine j_aload_n CX 3 dL_law_652 rfl rfl ?_
  refine j_callV CX (n := 0) (pre := []) (post := oW o cL ou ++ wx2) (rest := [.int v]) (qc := (RX6, TX6, 27)) hcm gL_law_X6_sum rfl (by decide +kernel) ⟨(Nat.le_of_ble_eq_true rfl), (Nat.le_of_ble_eq_true rfl)⟩ rfl rfl hm0 rfl rfl (Nat.le_of_ble_eq_true rfl) dL_law_653 ⟨hce _ (by decide), hsl _ (by decide)⟩ (fun r9 w9 h9 => ?_)
  obtain ⟨rfl, hrel⟩ := hpo _ _ h9
  refine j_w (w' := w9 ++ (oW o cL ou ++ wx2)) rfl ?_
  refine j_st (st9 := [.int v, .int v]) rfl ?_
  refine j_icmp_eq CX 978 dL_law_656 (by decide) (fun _ => ?_) (fun h => absurd rfl h)
  refine j_widen (k9 := 100 + (k + 1)) (n9 := 40000 + 6 * (k + 1)) (by have h9 : rmX5_sum.cells + rmX6_sum.cells ≤ 1 := (by decide); have h8 : rmX6_sum.cells ≤ 0 := (by decide); omega) (by have h9 : rmX5_sum.slots + rmX6_sum.slots ≤ 6 := (by decide); have h8 : rmX6_sum.slots ≤ 0 := (by decide); omega) ?_
  exact kk _ _ _ hrel
set_option maxRecDepth 100000 in
set_option maxHeartbeats 4000000 in
theorem lc_book {p : Program} {l : Launch} (hl9 : l.stackTraces = false) {e : Env} {s : State} {m : MethodId} {below : List Frame} {meth : Method} {c : Code} {D : va_G} {cI cZ cL : ClassId} {σ : Nat → Nat} {Q : State → Prop} {b L : Nat} {xs : Nat → Int32} {x a0 o : Nat} {Rel : Nat → va_W → va_W → Prop} (hL : L ≤ 2561) (CX : jC p s m #[Value.ref b] c cL_law 7 wsL_law RL D cI cZ cL (fun q : Nat => s.heap.size ≤ q)) (hX : jX σ s) (hZ : jZ (fun q : Nat => s.heap.size ≤ q) s s.heap) (hXs : va_X b L xs s s.heap) (hbl : b < s.heap.size)
    (hRx : ∀ k wx wm, Rel k wx wm → ∃ fs, wx[0]? = some (x, .inr (5, fs))) (hRm : ∀ k wx wm, Rel k wx wm → ∃ fs, wm[0]? = some (a0, .inr (6, fs))) (k i : Nat) (hk : k ≤ 512) (hi : i + 5 ≤ L) (ou : Nat → Int64) (wx wm : va_W) (hR : Rel k wx wm) (hstep : StA l D cI cZ cL σ x a0 Rel k yX5_book wsX5_book rmX5_book rmxX5_book yX6_book wsX6_book rmX6_book [.int (xs (i + 1)), .int (xs (i + 2))] wx wm)
    (kk : ∀ (ou2 : Nat → Int64) (wx2 wm2 : va_W), Rel (k + 1) wx2 wm2 → J p l e room_1 s m #[Value.ref b] below meth c D (fun q : Nat => s.heap.size ≤ q) 7 (100 + (k + 1)) (40000 + 6 * (k + 1)) Q (wm2 ++ (oW o cL ou2 ++ wx2)) 978 [(4, .int (nI i)), (0, .ref b), (1, .ref x), (2, .ref a0), (3, .ref o)] []) : J p l e room_1 s m #[Value.ref b] below meth c D (fun q : Nat => s.heap.size ≤ q) 7 (100 + k) (40000 + 6 * k) Q (wm ++ (oW o cL ou ++ wx)) 661 [(4, .int (nI i)), (0, .ref b), (1, .ref x), (2, .ref a0), (3, .ref o)] [] := by
  have hbA : ¬ (fun q : Nat => s.heap.size ≤ q) b := Nat.not_le.mpr hbl
  obtain ⟨fx, hx0⟩ := hRx k wx wm hR
  obtain ⟨fm, hm0⟩ := hRm k wx wm hR
  have hce : ∀ q : Nat, q ≤ 2 → 100 + k + q ≤ room_1.cells := fun q hq => by show _ ≤ 601024; omega
  have hsl : ∀ q : Nat, q ≤ 6 → 40000 + 6 * k + q ≤ room_1.slots := fun q hq => by show _ ≤ 7293000; omega
  rcases hstep with ⟨v, wx2, wm2, hcx, hcm, hthr, hrel⟩ | ⟨u, wm2, hcx, hcm, hthr, hrel⟩
  · obtain ⟨fm2, hm2⟩ := hRm _ _ _ hrel
    have hce9 : ∀ q : Nat, q ≤ 1 → 100 + k + 0 + q ≤ room_1.cells := fun q hq => by show _ ≤ 601024; omega
    have hsl9 : ∀ q : Nat, q ≤ 0 → 40000 + 6 * k + 0 + q ≤ room_1.slots := fun q hq => by show _ ≤ 7293000; omega
    refine j_aload_n CX 2 dL_law_661 rfl rfl ?_
    refine j_aload_n CX 1 dL_law_662 rfl rfl ?_
    refine j_iload CX 0 dL_law_663 rfl ?_
    refine j_iconst CX dL_law_665 (show _ = (nI 1 : Int32) by decide) ?_
    refine j_iadd CX dL_law_666 ?_
    refine j_top (show nI i + nI 1 = nI (i + 1) from nI_add _ _) ?_
    refine j_sld CX hXs hbl hbA (i + 1) dL_law_667 rfl (by omega) (by omega) ?_
    refine j_aload_n CX 1 dL_law_668 rfl rfl ?_
    refine j_iload CX 0 dL_law_669 rfl ?_
    refine j_iconst CX dL_law_671 (show _ = (nI 2 : Int32) by decide) ?_
    refine j_iadd CX dL_law_672 ?_
    refine j_top (show nI i + nI 2 = nI (i + 2) from nI_add _ _) ?_
    refine j_sld CX hXs hbl hbA (i + 2) dL_law_673 rfl (by omega) (by omega) ?_
    refine j_aload_n CX 4 dL_law_674 rfl rfl ?_
    refine j_callSW CX hX hZ (n := 4) (pre := wm) (post := []) (rest := []) (h_book l hl9 D cI cZ cL σ x o ou wx wx2 fx hx0 (xs (i + 1)) (xs (i + 2)) v hcx) gL_law_L_book rfl (by decide +kernel) ⟨(Nat.le_of_ble_eq_true rfl), (Nat.le_of_ble_eq_true rfl)⟩ (by rw [List.append_nil]) rfl rfl (Nat.le_of_ble_eq_true rfl) dL_law_675 ⟨hce _ (by decide), hsl _ (by decide)⟩ (fun r9 w9 h9 => ?_)
    obtain ⟨rfl, e9⟩ := h9
    refine j_w (w' := wm ++ (oW o cL (vp_updL ou 0 (v.toInt64)) ++ wx2)) (by rw [e9, List.append_nil]) ?_
    refine j_st (st9 := [.int (nI 0)]) rfl ?_
    refine j_istore CX (lv' := [(5, .int (nI 0)), (4, .int (nI i)), (0, .ref b), (1, .ref x), (2, .ref a0), (3, .ref o)]) dL_law_678 (by decide) rfl ?_
    refine j_aload_n CX 4 dL_law_680 rfl rfl ?_
    refine j_aload_n CX 2 dL_law_681 rfl rfl ?_
    refine j_iload CX 1 dL_law_682 rfl ?_
    refine j_iconst CX dL_law_684 (show _ = (nI 1 : Int32) by decide) ?_
    refine j_iadd CX dL_law_685 ?_
    refine j_top (show nI i + nI 1 = nI (i + 1) from nI_add _ _) ?_
    refine j_sld CX hXs hbl hbA (i + 1) dL_law_686 rfl (by omega) (by omega) ?_
    refine j_aload_n CX 2 dL_law_687 rfl rfl ?_
    refine j_iload CX 1 dL_law_688 rfl ?_
    refine j_iconst CX dL_law_690 (show _ = (nI 2 : Int32) by decide) ?_
    refine j_iadd CX dL_law_691 ?_
    refine j_top (show nI i + nI 2 = nI (i + 2) from nI_add _ _) ?_
    refine j_sld CX hXs hbl hbA (i + 2) dL_law_692 rfl (by omega) (by omega) ?_
    refine j_callV CX (n := 2) (pre := []) (post := oW o cL (vp_updL ou 0 (v.toInt64)) ++ wx2) (rest := []) (qc := (RX6, TX6, 27)) hcm gL_law_X6_book rfl (by decide +kernel) ⟨(Nat.le_of_ble_eq_true rfl), (Nat.le_of_ble_eq_true rfl)⟩ rfl rfl hm0 rfl rfl (Nat.le_of_ble_eq_true rfl) dL_law_693 ⟨hce9 _ (by decide), hsl9 _ (by decide)⟩ (fun r9 w9 h9 => ?_)
    obtain ⟨rfl, e9⟩ := h9
    refine j_w (w' := wm2 ++ (oW o cL (vp_updL ou 0 (v.toInt64)) ++ wx2)) (by rw [e9]; rfl) ?_
    refine j_st (st9 := [.int v]) rfl ?_
    refine j_istore CX (lv' := [(6, .int v), (5, .int (nI 0)), (4, .int (nI i)), (0, .ref b), (1, .ref x), (2, .ref a0), (3, .ref o)]) dL_law_696 (by decide) rfl ?_
    refine j_aload_n CX 5 dL_law_698 rfl rfl ?_
    refine j_callV CX (n := 0) (pre := []) (post := oW o cL (vp_updL ou 0 (v.toInt64)) ++ wx2) (rest := []) (qc := (RX6, TX6, 27)) hthr gL_law_X6_thrown rfl (by decide +kernel) ⟨(Nat.le_of_ble_eq_true rfl), (Nat.le_of_ble_eq_true rfl)⟩ rfl rfl hm2 rfl rfl (Nat.le_of_ble_eq_true rfl) dL_law_699 ⟨hce9 _ (by decide), hsl9 _ (by decide)⟩ (fun r9 w9 h9 => ?_)
    obtain ⟨rfl, e9⟩ := h9
    refine j_w (w' := wm2 ++ (oW o cL (vp_updL ou 0 (v.toInt64)) ++ wx2)) (by rw [e9]; rfl) ?_
    refine j_st (st9 := [.int (nI 0)]) rfl ?_
    refine j_iload CX 1 dL_law_702 rfl ?_
    refine j_icmpN_eq CX (by decide) (by decide) 709 dL_law_704 (by decide) (fun _ => ?_) (fun h => absurd rfl h)
    refine j_iload CX 1 dL_law_709 rfl ?_
    refine j_ifN_ne CX (by decide) 726 dL_law_711 (by decide) (fun h => absurd rfl h) (fun _ => ?_)
    refine j_aload_n CX 6 dL_law_714 rfl rfl ?_
    refine j_iconst CX dL_law_715 (show _ = (nI 0 : Int32) by decide) ?_
    refine j_lald CX (wm2).length 0 dL_law_716 mid_at rfl (by decide) (by decide) ?_
    refine j_topl (show _ = v.toInt64 from pk_uLs) ?_
    refine j_iload CX 0 dL_law_717 rfl ?_
    refine j_i2l CX dL_law_719 ?_
    refine j_lcmp CX dL_law_720 ?_
    refine j_if_eq CX 726 dL_law_721 (by decide) (fun _ => ?_) (fun h => absurd ((lg_cmp_eq _ _).mpr rfl) h)
    refine j_goto CX 978 dL_law_726 (by decide) ?_
    refine j_lv (lv' := [(4, .int (nI i)), (0, .ref b), (1, .ref x), (2, .ref a0), (3, .ref o)]) [2, 3, 4, 5, 6] rfl (j_widen (k9 := 100 + (k + 1)) (n9 := 40000 + 6 * (k + 1)) (by have h9 : rmL_book.cells + rmX6_book.cells + rmX6_thrown.cells ≤ 1 := (by decide); have h8 : rmX6_book.cells + rmX6_thrown.cells ≤ 0 := (by decide); omega) (by have h9 : rmL_book.slots + rmX6_book.slots + rmX6_thrown.slots ≤ 6 := (by decide); have h8 : rmX6_book.slots + rmX6_thrown.slots ≤ 0 := (by decide); omega) ?_)
    exact kk _ _ _ hrel
  · obtain ⟨fm2, hm2⟩ := hRm _ _ _ hrel
    have hce9 : ∀ q : Nat, q ≤ 1 → 100 + k + 1 + q ≤ room_1.cells := fun q hq => by show _ ≤ 601024; omega
    have hsl9 : ∀ q : Nat, q ≤ 0 → 40000 + 6 * k + 6 + q ≤ room_1.slots := fun q hq => by show _ ≤ 7293000; omega
    refine j_aload_n CX 2 dL_law_661 rfl rfl ?_
    refine j_aload_n CX 1 dL_law_662 rfl rfl ?_
    refine j_iload CX 0 dL_law_663 rfl ?_
    refine j_iconst CX dL_law_665 (show _ = (nI 1 : Int32) by decide) ?_
    refine j_iadd CX dL_law_666 ?_
    refine j_top (show nI i + nI 1 = nI (i + 1) from nI_add _ _) ?_
    refine j_sld CX hXs hbl hbA (i + 1) dL_law_667 rfl (by omega) (by omega) ?_
    refine j_aload_n CX 1 dL_law_668 rfl rfl ?_
    refine j_iload CX 0 dL_law_669 rfl ?_
    refine j_iconst CX dL_law_671 (show _ = (nI 2 : Int32) by decide) ?_
    refine j_iadd CX dL_law_672 ?_
    refine j_top (show nI i + nI 2 = nI (i + 2) from nI_add _ _) ?_
    refine j_sld CX hXs hbl hbA (i + 2) dL_law_673 rfl (by omega) (by omega) ?_
    refine j_aload_n CX 4 dL_law_674 rfl rfl ?_
    refine j_callSW CX hX hZ (n := 4) (pre := wm) (post := []) (rest := []) (h_book_x l hl9 D cI cZ cL σ x o ou wx fx hx0 (xs (i + 1)) (xs (i + 2)) hcx) gL_law_L_book rfl (by decide +kernel) ⟨(Nat.le_of_ble_eq_true rfl), (Nat.le_of_ble_eq_true rfl)⟩ (by rw [List.append_nil]) rfl rfl (Nat.le_of_ble_eq_true rfl) dL_law_675 ⟨hce _ (by decide), hsl _ (by decide)⟩ (fun r9 w9 h9 => ?_)
    obtain ⟨rfl, e9⟩ := h9
    refine j_w (w' := wm ++ (oW o cL ou ++ wx)) (by rw [e9, List.append_nil]) ?_
    refine j_st (st9 := [.int (nI 1)]) rfl ?_
    refine j_istore CX (lv' := [(5, .int (nI 1)), (4, .int (nI i)), (0, .ref b), (1, .ref x), (2, .ref a0), (3, .ref o)]) dL_law_678 (by decide) rfl ?_
    refine j_aload_n CX 4 dL_law_680 rfl rfl ?_
    refine j_aload_n CX 2 dL_law_681 rfl rfl ?_
    refine j_iload CX 1 dL_law_682 rfl ?_
    refine j_iconst CX dL_law_684 (show _ = (nI 1 : Int32) by decide) ?_
    refine j_iadd CX dL_law_685 ?_
    refine j_top (show nI i + nI 1 = nI (i + 1) from nI_add _ _) ?_
    refine j_sld CX hXs hbl hbA (i + 1) dL_law_686 rfl (by omega) (by omega) ?_
    refine j_aload_n CX 2 dL_law_687 rfl rfl ?_
    refine j_iload CX 1 dL_law_688 rfl ?_
    refine j_iconst CX dL_law_690 (show _ = (nI 2 : Int32) by decide) ?_
    refine j_iadd CX dL_law_691 ?_
    refine j_top (show nI i + nI 2 = nI (i + 2) from nI_add _ _) ?_
    refine j_sld CX hXs hbl hbA (i + 2) dL_law_692 rfl (by omega) (by omega) ?_
    refine j_callV CX (n := 2) (pre := []) (post := oW o cL ou ++ wx) (rest := []) (qc := (RX6, TX6, 27)) hcm gL_law_X6_book rfl (by decide +kernel) ⟨(Nat.le_of_ble_eq_true rfl), (Nat.le_of_ble_eq_true rfl)⟩ rfl rfl hm0 rfl rfl (Nat.le_of_ble_eq_true rfl) dL_law_693 ⟨hce9 _ (by decide), hsl9 _ (by decide)⟩ (fun r9 w9 h9 => ?_)
    obtain ⟨rfl, e9⟩ := h9
    refine j_w (w' := wm2 ++ (oW o cL ou ++ wx)) (by rw [e9]; rfl) ?_
    refine j_st (st9 := [.int u]) rfl ?_
    refine j_istore CX (lv' := [(6, .int u), (5, .int (nI 1)), (4, .int (nI i)), (0, .ref b), (1, .ref x), (2, .ref a0), (3, .ref o)]) dL_law_696 (by decide) rfl ?_
    refine j_aload_n CX 5 dL_law_698 rfl rfl ?_
    refine j_callV CX (n := 0) (pre := []) (post := oW o cL ou ++ wx) (rest := []) (qc := (RX6, TX6, 27)) hthr gL_law_X6_thrown rfl (by decide +kernel) ⟨(Nat.le_of_ble_eq_true rfl), (Nat.le_of_ble_eq_true rfl)⟩ rfl rfl hm2 rfl rfl (Nat.le_of_ble_eq_true rfl) dL_law_699 ⟨hce9 _ (by decide), hsl9 _ (by decide)⟩ (fun r9 w9 h9 => ?_)
    obtain ⟨rfl, e9⟩ := h9
    refine j_w (w' := wm2 ++ (oW o cL ou ++ wx)) (by rw [e9]; rfl) ?_
    refine j_st (st9 := [.int (nI 1)]) rfl ?_
    refine j_iload CX 1 dL_law_702 rfl ?_
    refine j_icmpN_eq CX (by decide) (by decide) 709 dL_law_704 (by decide) (fun _ => ?_) (fun h => absurd rfl h)
    refine j_iload CX 1 dL_law_709 rfl ?_
    refine j_ifN_ne CX (by decide) 726 dL_law_711 (by decide) (fun _ => ?_) (fun h => absurd h (by decide))
    refine j_goto CX 978 dL_law_726 (by decide) ?_
    refine j_lv (lv' := [(4, .int (nI i)), (0, .ref b), (1, .ref x), (2, .ref a0), (3, .ref o)]) [2, 3, 4, 5, 6] rfl (j_widen (k9 := 100 + (k + 1)) (n9 := 40000 + 6 * (k + 1)) (by have h9 : rmxL_book.cells + rmX6_book.cells + rmX6_thrown.cells ≤ 1 := (by decide); have h8 : rmX6_book.cells + rmX6_thrown.cells ≤ 0 := (by decide); omega) (by have h9 : rmxL_book.slots + rmX6_book.slots + rmX6_thrown.slots ≤ 6 := (by decide); have h8 : rmX6_book.slots + rmX6_thrown.slots ≤ 0 := (by decide); omega) ?_)
    exact kk _ _ _ hrel
set_option maxRecDepth 100000 in
set_option maxHeartbeats 4000000 in
theorem lc_did {p : Program} {l : Launch} (hl9 : l.stackTraces = false) {e : Env} {s : State} {m : MethodId} {below : List Frame} {meth : Method} {c : Code} {D : va_G} {cI cZ cL : ClassId} {σ : Nat → Nat} {Q : State → Prop} {b L : Nat} {xs : Nat → Int32} {x a0 o : Nat} {Rel : Nat → va_W → va_W → Prop} (hL : L ≤ 2561) (CX : jC p s m #[Value.ref b] c cL_law 7 wsL_law RL D cI cZ cL (fun q : Nat => s.heap.size ≤ q)) (hX : jX σ s) (hZ : jZ (fun q : Nat => s.heap.size ≤ q) s s.heap) (hXs : va_X b L xs s s.heap) (hbl : b < s.heap.size)
    (hRx : ∀ k wx wm, Rel k wx wm → ∃ fs, wx[0]? = some (x, .inr (5, fs))) (hRm : ∀ k wx wm, Rel k wx wm → ∃ fs, wm[0]? = some (a0, .inr (6, fs))) (k i : Nat) (hk : k ≤ 512) (hi : i + 5 ≤ L) (ou : Nat → Int64) (wx wm : va_W) (hR : Rel k wx wm) (hstep : StA l D cI cZ cL σ x a0 Rel k yX5_did wsX5_did rmX5_did rmxX5_did yX6_did wsX6_did rmX6_did [.int (xs (i + 1))] wx wm)
    (kk : ∀ (ou2 : Nat → Int64) (wx2 wm2 : va_W), Rel (k + 1) wx2 wm2 → J p l e room_1 s m #[Value.ref b] below meth c D (fun q : Nat => s.heap.size ≤ q) 7 (100 + (k + 1)) (40000 + 6 * (k + 1)) Q (wm2 ++ (oW o cL ou2 ++ wx2)) 978 [(4, .int (nI i)), (0, .ref b), (1, .ref x), (2, .ref a0), (3, .ref o)] []) : J p l e room_1 s m #[Value.ref b] below meth c D (fun q : Nat => s.heap.size ≤ q) 7 (100 + k) (40000 + 6 * k) Q (wm ++ (oW o cL ou ++ wx)) 729 [(4, .int (nI i)), (0, .ref b), (1, .ref x), (2, .ref a0), (3, .ref o)] [] := by
  have hbA : ¬ (fun q : Nat => s.heap.size ≤ q) b := Nat.not_le.mpr hbl
  obtain ⟨fx, hx0⟩ := hRx k wx wm hR
  obtain ⟨fm, hm0⟩ := hRm k wx wm hR
  have hce : ∀ q : Nat, q ≤ 2 → 100 + k + q ≤ room_1.cells := fun q hq => by show _ ≤ 601024; omega
  have hsl : ∀ q : Nat, q ≤ 6 → 40000 + 6 * k + q ≤ room_1.slots := fun q hq => by show _ ≤ 7293000; omega
  rcases hstep with ⟨v, wx2, wm2, hcx, hcm, hthr, hrel⟩ | ⟨u, wm2, hcx, hcm, hthr, hrel⟩
  · obtain ⟨fm2, hm2⟩ := hRm _ _ _ hrel
    have hce9 : ∀ q : Nat, q ≤ 1 → 100 + k + 0 + q ≤ room_1.cells := fun q hq => by show _ ≤ 601024; omega
    have hsl9 : ∀ q : Nat, q ≤ 0 → 40000 + 6 * k + 0 + q ≤ room_1.slots := fun q hq => by show _ ≤ 7293000; omega
    refine j_aload_n CX 2 dL_law_729 rfl rfl ?_
    refine j_aload_n CX 1 dL_law_730 rfl rfl ?_
    refine j_iload CX 0 dL_law_731 rfl ?_
    refine j_iconst CX dL_law_733 (show _ = (nI 1 : Int32) by decide) ?_
    refine j_iadd CX dL_law_734 ?_
    refine j_top (show nI i + nI 1 = nI (i + 1) from nI_add _ _) ?_
    refine j_sld CX hXs hbl hbA (i + 1) dL_law_735 rfl (by omega) (by omega) ?_
    refine j_aload_n CX 4 dL_law_736 rfl rfl ?_
    refine j_callSW CX hX hZ (n := 3) (pre := wm) (post := []) (rest := []) (h_did l hl9 D cI cZ cL σ x o ou wx wx2 fx hx0 (xs (i + 1)) v hcx) gL_law_L_did rfl (by decide +kernel) ⟨(Nat.le_of_ble_eq_true rfl), (Nat.le_of_ble_eq_true rfl)⟩ (by rw [List.append_nil]) rfl rfl (Nat.le_of_ble_eq_true rfl) dL_law_737 ⟨hce _ (by decide), hsl _ (by decide)⟩ (fun r9 w9 h9 => ?_)
    obtain ⟨rfl, e9⟩ := h9
    refine j_w (w' := wm ++ (oW o cL (vp_updL ou 0 (v.toInt64)) ++ wx2)) (by rw [e9, List.append_nil]) ?_
    refine j_st (st9 := [.int (nI 0)]) rfl ?_
    refine j_istore CX (lv' := [(5, .int (nI 0)), (4, .int (nI i)), (0, .ref b), (1, .ref x), (2, .ref a0), (3, .ref o)]) dL_law_740 (by decide) rfl ?_
    refine j_aload_n CX 4 dL_law_742 rfl rfl ?_
    refine j_aload_n CX 2 dL_law_743 rfl rfl ?_
    refine j_iload CX 1 dL_law_744 rfl ?_
    refine j_iconst CX dL_law_746 (show _ = (nI 1 : Int32) by decide) ?_
    refine j_iadd CX dL_law_747 ?_
    refine j_top (show nI i + nI 1 = nI (i + 1) from nI_add _ _) ?_
    refine j_sld CX hXs hbl hbA (i + 1) dL_law_748 rfl (by omega) (by omega) ?_
    refine j_callV CX (n := 1) (pre := []) (post := oW o cL (vp_updL ou 0 (v.toInt64)) ++ wx2) (rest := []) (qc := (RX6, TX6, 27)) hcm gL_law_X6_did rfl (by decide +kernel) ⟨(Nat.le_of_ble_eq_true rfl), (Nat.le_of_ble_eq_true rfl)⟩ rfl rfl hm0 rfl rfl (Nat.le_of_ble_eq_true rfl) dL_law_749 ⟨hce9 _ (by decide), hsl9 _ (by decide)⟩ (fun r9 w9 h9 => ?_)
    obtain ⟨rfl, e9⟩ := h9
    refine j_w (w' := wm2 ++ (oW o cL (vp_updL ou 0 (v.toInt64)) ++ wx2)) (by rw [e9]; rfl) ?_
    refine j_st (st9 := [.int v]) rfl ?_
    refine j_istore CX (lv' := [(6, .int v), (5, .int (nI 0)), (4, .int (nI i)), (0, .ref b), (1, .ref x), (2, .ref a0), (3, .ref o)]) dL_law_752 (by decide) rfl ?_
    refine j_aload_n CX 5 dL_law_754 rfl rfl ?_
    refine j_callV CX (n := 0) (pre := []) (post := oW o cL (vp_updL ou 0 (v.toInt64)) ++ wx2) (rest := []) (qc := (RX6, TX6, 27)) hthr gL_law_X6_thrown rfl (by decide +kernel) ⟨(Nat.le_of_ble_eq_true rfl), (Nat.le_of_ble_eq_true rfl)⟩ rfl rfl hm2 rfl rfl (Nat.le_of_ble_eq_true rfl) dL_law_755 ⟨hce9 _ (by decide), hsl9 _ (by decide)⟩ (fun r9 w9 h9 => ?_)
    obtain ⟨rfl, e9⟩ := h9
    refine j_w (w' := wm2 ++ (oW o cL (vp_updL ou 0 (v.toInt64)) ++ wx2)) (by rw [e9]; rfl) ?_
    refine j_st (st9 := [.int (nI 0)]) rfl ?_
    refine j_iload CX 1 dL_law_758 rfl ?_
    refine j_icmpN_eq CX (by decide) (by decide) 765 dL_law_760 (by decide) (fun _ => ?_) (fun h => absurd rfl h)
    refine j_iload CX 1 dL_law_765 rfl ?_
    refine j_ifN_ne CX (by decide) 782 dL_law_767 (by decide) (fun h => absurd rfl h) (fun _ => ?_)
    refine j_aload_n CX 6 dL_law_770 rfl rfl ?_
    refine j_iconst CX dL_law_771 (show _ = (nI 0 : Int32) by decide) ?_
    refine j_lald CX (wm2).length 0 dL_law_772 mid_at rfl (by decide) (by decide) ?_
    refine j_topl (show _ = v.toInt64 from pk_uLs) ?_
    refine j_iload CX 0 dL_law_773 rfl ?_
    refine j_i2l CX dL_law_775 ?_
    refine j_lcmp CX dL_law_776 ?_
    refine j_if_eq CX 782 dL_law_777 (by decide) (fun _ => ?_) (fun h => absurd ((lg_cmp_eq _ _).mpr rfl) h)
    refine j_goto CX 978 dL_law_782 (by decide) ?_
    refine j_lv (lv' := [(4, .int (nI i)), (0, .ref b), (1, .ref x), (2, .ref a0), (3, .ref o)]) [2, 3, 4, 5, 6] rfl (j_widen (k9 := 100 + (k + 1)) (n9 := 40000 + 6 * (k + 1)) (by have h9 : rmL_did.cells + rmX6_did.cells + rmX6_thrown.cells ≤ 1 := (by decide); have h8 : rmX6_did.cells + rmX6_thrown.cells ≤ 0 := (by decide); omega) (by have h9 : rmL_did.slots + rmX6_did.slots + rmX6_thrown.slots ≤ 6 := (by decide); have h8 : rmX6_did.slots + rmX6_thrown.slots ≤ 0 := (by decide); omega) ?_)
    exact kk _ _ _ hrel
  · obtain ⟨fm2, hm2⟩ := hRm _ _ _ hrel
    have hce9 : ∀ q : Nat, q ≤ 1 → 100 + k + 1 + q ≤ room_1.cells := fun q hq => by show _ ≤ 601024; omega
    have hsl9 : ∀ q : Nat, q ≤ 0 → 40000 + 6 * k + 6 + q ≤ room_1.slots := fun q hq => by show _ ≤ 7293000; omega
    refine j_aload_n CX 2 dL_law_729 rfl rfl ?_
    refine j_aload_n CX 1 dL_law_730 rfl rfl ?_
    refine j_iload CX 0 dL_law_731 rfl ?_
    refine j_iconst CX dL_law_733 (show _ = (nI 1 : Int32) by decide) ?_
    refine j_iadd CX dL_law_734 ?_
    refine j_top (show nI i + nI 1 = nI (i + 1) from nI_add _ _) ?_
    refine j_sld CX hXs hbl hbA (i + 1) dL_law_735 rfl (by omega) (by omega) ?_
    refine j_aload_n CX 4 dL_law_736 rfl rfl ?_
    refine j_callSW CX hX hZ (n := 3) (pre := wm) (post := []) (rest := []) (h_did_x l hl9 D cI cZ cL σ x o ou wx fx hx0 (xs (i + 1)) hcx) gL_law_L_did rfl (by decide +kernel) ⟨(Nat.le_of_ble_eq_true rfl), (Nat.le_of_ble_eq_true rfl)⟩ (by rw [List.append_nil]) rfl rfl (Nat.le_of_ble_eq_true rfl) dL_law_737 ⟨hce _ (by decide), hsl _ (by decide)⟩ (fun r9 w9 h9 => ?_)
    obtain ⟨rfl, e9⟩ := h9
    refine j_w (w' := wm ++ (oW o cL ou ++ wx)) (by rw [e9, List.append_nil]) ?_
    refine j_st (st9 := [.int (nI 1)]) rfl ?_
    refine j_istore CX (lv' := [(5, .int (nI 1)), (4, .int (nI i)), (0, .ref b), (1, .ref x), (2, .ref a0), (3, .ref o)]) dL_law_740 (by decide) rfl ?_
    refine j_aload_n CX 4 dL_law_742 rfl rfl ?_
    refine j_aload_n CX 2 dL_law_743 rfl rfl ?_
    refine j_iload CX 1 dL_law_744 rfl ?_
    refine j_iconst CX dL_law_746 (show _ = (nI 1 : Int32) by decide) ?_
    refine j_iadd CX dL_law_747 ?_
    refine j_top (show nI i + nI 1 = nI (i + 1) from nI_add _ _) ?_
    refine j_sld CX hXs hbl hbA (i + 1) dL_law_748 rfl (by omega) (by omega) ?_
    refine j_callV CX (n := 1) (pre := []) (post := oW o cL ou ++ wx) (rest := []) (qc := (RX6, TX6, 27)) hcm gL_law_X6_did rfl (by decide +kernel) ⟨(Nat.le_of_ble_eq_true rfl), (Nat.le_of_ble_eq_true rfl)⟩ rfl rfl hm0 rfl rfl (Nat.le_of_ble_eq_true rfl) dL_law_749 ⟨hce9 _ (by decide), hsl9 _ (by decide)⟩ (fun r9 w9 h9 => ?_)
    obtain ⟨rfl, e9⟩ := h9
    refine j_w (w' := wm2 ++ (oW o cL ou ++ wx)) (by rw [e9]; rfl) ?_
    refine j_st (st9 := [.int u]) rfl ?_
    refine j_istore CX (lv' := [(6, .int u), (5, .int (nI 1)), (4, .int (nI i)), (0, .ref b), (1, .ref x), (2, .ref a0), (3, .ref o)]) dL_law_752 (by decide) rfl ?_
    refine j_aload_n CX 5 dL_law_754 rfl rfl ?_
    refine j_callV CX (n := 0) (pre := []) (post := oW o cL ou ++ wx) (rest := []) (qc := (RX6, TX6, 27)) hthr gL_law_X6_thrown rfl (by decide +kernel) ⟨(Nat.le_of_ble_eq_true rfl), (Nat.le_of_ble_eq_true rfl)⟩ rfl rfl hm2 rfl rfl (Nat.le_of_ble_eq_true rfl) dL_law_755 ⟨hce9 _ (by decide), hsl9 _ (by decide)⟩ (fun r9 w9 h9 => ?_)
    obtain ⟨rfl, e9⟩ := h9
    refine j_w (w' := wm2 ++ (oW o cL ou ++ wx)) (by rw [e9]; rfl) ?_
    refine j_st (st9 := [.int (nI 1)]) rfl ?_
    refine j_iload CX 1 dL_law_758 rfl ?_
    refine j_icmpN_eq CX (by decide) (by decide) 765 dL_law_760 (by decide) (fun _ => ?_) (fun h => absurd rfl h)
    refine j_iload CX 1 dL_law_765 rfl ?_
    refine j_ifN_ne CX (by decide) 782 dL_law_767 (by decide) (fun _ => ?_) (fun h => absurd h (by decide))
    refine j_goto CX 978 dL_law_782 (by decide) ?_
    refine j_lv (lv' := [(4, .int (nI i)), (0, .ref b), (1, .ref x), (2, .ref a0), (3, .ref o)]) [2, 3, 4, 5, 6] rfl (j_widen (k9 := 100 + (k + 1)) (n9 := 40000 + 6 * (k + 1)) (by have h9 : rmxL_did.cells + rmX6_did.cells + rmX6_thrown.cells ≤ 1 := (by decide); have h8 : rmX6_did.cells + rmX6_thrown.cells ≤ 0 := (by decide); omega) (by have h9 : rmxL_did.slots + rmX6_did.slots + rmX6_thrown.slots ≤ 6 := (by decide); have h8 : rmX6_did.slots + rmX6_thrown.slots ≤ 0 := (by decide); omega) ?_)
    exact kk _ _ _ hrel
set_option maxRecDepth 100000 in
set_option maxHeartbeats 4000000 in
theorem lc_foretold {p : Program} {l : Launch} (hl9 : l.stackTraces = false) {e : Env} {s : State} {m : MethodId} {below : List Frame} {meth : Method} {c : Code} {D : va_G} {cI cZ cL : ClassId} {σ : Nat → Nat} {Q : State → Prop} {b L : Nat} {xs : Nat → Int32} {x a0 o : Nat} {Rel : Nat → va_W → va_W → Prop} (hL : L ≤ 2561) (CX : jC p s m #[Value.ref b] c cL_law 7 wsL_law RL D cI cZ cL (fun q : Nat => s.heap.size ≤ q)) (hX : jX σ s) (hZ : jZ (fun q : Nat => s.heap.size ≤ q) s s.heap) (hXs : va_X b L xs s s.heap) (hbl : b < s.heap.size)
    (hRx : ∀ k wx wm, Rel k wx wm → ∃ fs, wx[0]? = some (x, .inr (5, fs))) (hRm : ∀ k wx wm, Rel k wx wm → ∃ fs, wm[0]? = some (a0, .inr (6, fs))) (k i : Nat) (hk : k ≤ 512) (hi : i + 5 ≤ L) (ou : Nat → Int64) (wx wm : va_W) (hR : Rel k wx wm) (hstep : StA l D cI cZ cL σ x a0 Rel k yX5_foretold wsX5_foretold rmX5_foretold rmxX5_foretold yX6_foretold wsX6_foretold rmX6_foretold [.int (xs (i + 1)), .int (xs (i + 2))] wx wm)
    (kk : ∀ (ou2 : Nat → Int64) (wx2 wm2 : va_W), Rel (k + 1) wx2 wm2 → J p l e room_1 s m #[Value.ref b] below meth c D (fun q : Nat => s.heap.size ≤ q) 7 (100 + (k + 1)) (40000 + 6 * (k + 1)) Q (wm2 ++ (oW o cL ou2 ++ wx2)) 978 [(4, .int (nI i)), (0, .ref b), (1, .ref x), (2, .ref a0), (3, .ref o)] []) : J p l e room_1 s m #[Value.ref b] below meth c D (fun q : Nat => s.heap.size ≤ q) 7 (100 + k) (40000 + 6 * k) Q (wm ++ (oW o cL ou ++ wx)) 785 [(4, .int (nI i)), (0, .ref b), (1, .ref x), (2, .ref a0), (3, .ref o)] [] := by
  have hbA : ¬ (fun q : Nat => s.heap.size ≤ q) b := Nat.not_le.mpr hbl
  obtain ⟨fx, hx0⟩ := hRx k wx wm hR
  obtain ⟨fm, hm0⟩ := hRm k wx wm hR
  have hce : ∀ q : Nat, q ≤ 2 → 100 + k + q ≤ room_1.cells := fun q hq => by show _ ≤ 601024; omega
  have hsl : ∀ q : Nat, q ≤ 6 → 40000 + 6 * k + q ≤ room_1.slots := fun q hq => by show _ ≤ 7293000; omega
  rcases hstep with ⟨v, wx2, wm2, hcx, hcm, hthr, hrel⟩ | ⟨u, wm2, hcx, hcm, hthr, hrel⟩
  · obtain ⟨fm2, hm2⟩ := hRm _ _ _ hrel
    have hce9 : ∀ q : Nat, q ≤ 1 → 100 + k + 0 + q ≤ room_1.cells := fun q hq => by show _ ≤ 601024; omega
    have hsl9 : ∀ q : Nat, q ≤ 0 → 40000 + 6 * k + 0 + q ≤ room_1.slots := fun q hq => by show _ ≤ 7293000; omega
    refine j_aload_n CX 2 dL_law_785 rfl rfl ?_
    refine j_aload_n CX 1 dL_law_786 rfl rfl ?_
    refine j_iload CX 0 dL_law_787 rfl ?_
    refine j_iconst CX dL_law_789 (show _ = (nI 1 : Int32) by decide) ?_
    refine j_iadd CX dL_law_790 ?_
    refine j_top (show nI i + nI 1 = nI (i + 1) from nI_add _ _) ?_
    refine j_sld CX hXs hbl hbA (i + 1) dL_law_791 rfl (by omega) (by omega) ?_
    refine j_aload_n CX 1 dL_law_792 rfl rfl ?_
    refine j_iload CX 0 dL_law_793 rfl ?_
    refine j_iconst CX dL_law_795 (show _ = (nI 2 : Int32) by decide) ?_
    refine j_iadd CX dL_law_796 ?_
    refine j_top (show nI i + nI 2 = nI (i + 2) from nI_add _ _) ?_
    refine j_sld CX hXs hbl hbA (i + 2) dL_law_797 rfl (by omega) (by omega) ?_
    refine j_aload_n CX 4 dL_law_798 rfl rfl ?_
    refine j_callSW CX hX hZ (n := 4) (pre := wm) (post := []) (rest := []) (h_foretold l hl9 D cI cZ cL σ x o ou wx wx2 fx hx0 (xs (i + 1)) (xs (i + 2)) v hcx) gL_law_L_foretold rfl (by decide +kernel) ⟨(Nat.le_of_ble_eq_true rfl), (Nat.le_of_ble_eq_true rfl)⟩ (by rw [List.append_nil]) rfl rfl (Nat.le_of_ble_eq_true rfl) dL_law_799 ⟨hce _ (by decide), hsl _ (by decide)⟩ (fun r9 w9 h9 => ?_)
    obtain ⟨rfl, e9⟩ := h9
    refine j_w (w' := wm ++ (oW o cL (vp_updL ou 0 (v.toInt64)) ++ wx2)) (by rw [e9, List.append_nil]) ?_
    refine j_st (st9 := [.int (nI 0)]) rfl ?_
    refine j_istore CX (lv' := [(5, .int (nI 0)), (4, .int (nI i)), (0, .ref b), (1, .ref x), (2, .ref a0), (3, .ref o)]) dL_law_802 (by decide) rfl ?_
    refine j_aload_n CX 4 dL_law_804 rfl rfl ?_
    refine j_aload_n CX 2 dL_law_805 rfl rfl ?_
    refine j_iload CX 1 dL_law_806 rfl ?_
    refine j_iconst CX dL_law_808 (show _ = (nI 1 : Int32) by decide) ?_
    refine j_iadd CX dL_law_809 ?_
    refine j_top (show nI i + nI 1 = nI (i + 1) from nI_add _ _) ?_
    refine j_sld CX hXs hbl hbA (i + 1) dL_law_810 rfl (by omega) (by omega) ?_
    refine j_aload_n CX 2 dL_law_811 rfl rfl ?_
    refine j_iload CX 1 dL_law_812 rfl ?_
    refine j_iconst CX dL_law_814 (show _ = (nI 2 : Int32) by decide) ?_
    refine j_iadd CX dL_law_815 ?_
    refine j_top (show nI i + nI 2 = nI (i + 2) from nI_add _ _) ?_
    refine j_sld CX hXs hbl hbA (i + 2) dL_law_816 rfl (by omega) (by omega) ?_
    refine j_callV CX (n := 2) (pre := []) (post := oW o cL (vp_updL ou 0 (v.toInt64)) ++ wx2) (rest := []) (qc := (RX6, TX6, 27)) hcm gL_law_X6_foretold rfl (by decide +kernel) ⟨(Nat.le_of_ble_eq_true rfl), (Nat.le_of_ble_eq_true rfl)⟩ rfl rfl hm0 rfl rfl (Nat.le_of_ble_eq_true rfl) dL_law_817 ⟨hce9 _ (by decide), hsl9 _ (by decide)⟩ (fun r9 w9 h9 => ?_)
    obtain ⟨rfl, e9⟩ := h9
    refine j_w (w' := wm2 ++ (oW o cL (vp_updL ou 0 (v.toInt64)) ++ wx2)) (by rw [e9]; rfl) ?_
    refine j_st (st9 := [.int v]) rfl ?_
    refine j_istore CX (lv' := [(6, .int v), (5, .int (nI 0)), (4, .int (nI i)), (0, .ref b), (1, .ref x), (2, .ref a0), (3, .ref o)]) dL_law_820 (by decide) rfl ?_
    refine j_aload_n CX 5 dL_law_822 rfl rfl ?_
    refine j_callV CX (n := 0) (pre := []) (post := oW o cL (vp_updL ou 0 (v.toInt64)) ++ wx2) (rest := []) (qc := (RX6, TX6, 27)) hthr gL_law_X6_thrown rfl (by decide +kernel) ⟨(Nat.le_of_ble_eq_true rfl), (Nat.le_of_ble_eq_true rfl)⟩ rfl rfl hm2 rfl rfl (Nat.le_of_ble_eq_true rfl) dL_law_823 ⟨hce9 _ (by decide), hsl9 _ (by decide)⟩ (fun r9 w9 h9 => ?_)
    obtain ⟨rfl, e9⟩ := h9
    refine j_w (w' := wm2 ++ (oW o cL (vp_updL ou 0 (v.toInt64)) ++ wx2)) (by rw [e9]; rfl) ?_
    refine j_st (st9 := [.int (nI 0)]) rfl ?_
    refine j_iload CX 1 dL_law_826 rfl ?_
    refine j_icmpN_eq CX (by decide) (by decide) 833 dL_law_828 (by decide) (fun _ => ?_) (fun h => absurd rfl h)
    refine j_iload CX 1 dL_law_833 rfl ?_
    refine j_ifN_ne CX (by decide) 850 dL_law_835 (by decide) (fun h => absurd rfl h) (fun _ => ?_)
    refine j_aload_n CX 6 dL_law_838 rfl rfl ?_
    refine j_iconst CX dL_law_839 (show _ = (nI 0 : Int32) by decide) ?_
    refine j_lald CX (wm2).length 0 dL_law_840 mid_at rfl (by decide) (by decide) ?_
    refine j_topl (show _ = v.toInt64 from pk_uLs) ?_
    refine j_iload CX 0 dL_law_841 rfl ?_
    refine j_i2l CX dL_law_843 ?_
    refine j_lcmp CX dL_law_844 ?_
    refine j_if_eq CX 850 dL_law_845 (by decide) (fun _ => ?_) (fun h => absurd ((lg_cmp_eq _ _).mpr rfl) h)
    refine j_goto CX 978 dL_law_850 (by decide) ?_
    refine j_lv (lv' := [(4, .int (nI i)), (0, .ref b), (1, .ref x), (2, .ref a0), (3, .ref o)]) [2, 3, 4, 5, 6] rfl (j_widen (k9 := 100 + (k + 1)) (n9 := 40000 + 6 * (k + 1)) (by have h9 : rmL_foretold.cells + rmX6_foretold.cells + rmX6_thrown.cells ≤ 1 := (by decide); have h8 : rmX6_foretold.cells + rmX6_thrown.cells ≤ 0 := (by decide); omega) (by have h9 : rmL_foretold.slots + rmX6_foretold.slots + rmX6_thrown.slots ≤ 6 := (by decide); have h8 : rmX6_foretold.slots + rmX6_thrown.slots ≤ 0 := (by decide); omega) ?_)
    exact kk _ _ _ hrel
  · obtain ⟨fm2, hm2⟩ := hRm _ _ _ hrel
    have hce9 : ∀ q : Nat, q ≤ 1 → 100 + k + 1 + q ≤ room_1.cells := fun q hq => by show _ ≤ 601024; omega
    have hsl9 : ∀ q : Nat, q ≤ 0 → 40000 + 6 * k + 6 + q ≤ room_1.slots := fun q hq => by show _ ≤ 7293000; omega
    refine j_aload_n CX 2 dL_law_785 rfl rfl ?_
    refine j_aload_n CX 1 dL_law_786 rfl rfl ?_
    refine j_iload CX 0 dL_law_787 rfl ?_
    refine j_iconst CX dL_law_789 (show _ = (nI 1 : Int32) by decide) ?_
    refine j_iadd CX dL_law_790 ?_
    refine j_top (show nI i + nI 1 = nI (i + 1) from nI_add _ _) ?_
    refine j_sld CX hXs hbl hbA (i + 1) dL_law_791 rfl (by omega) (by omega) ?_
    refine j_aload_n CX 1 dL_law_792 rfl rfl ?_
    refine j_iload CX 0 dL_law_793 rfl ?_
    refine j_iconst CX dL_law_795 (show _ = (nI 2 : Int32) by decide) ?_
    refine j_iadd CX dL_law_796 ?_
    refine j_top (show nI i + nI 2 = nI (i + 2) from nI_add _ _) ?_
    refine j_sld CX hXs hbl hbA (i + 2) dL_law_797 rfl (by omega) (by omega) ?_
    refine j_aload_n CX 4 dL_law_798 rfl rfl ?_
    refine j_callSW CX hX hZ (n := 4) (pre := wm) (post := []) (rest := []) (h_foretold_x l hl9 D cI cZ cL σ x o ou wx fx hx0 (xs (i + 1)) (xs (i + 2)) hcx) gL_law_L_foretold rfl (by decide +kernel) ⟨(Nat.le_of_ble_eq_true rfl), (Nat.le_of_ble_eq_true rfl)⟩ (by rw [List.append_nil]) rfl rfl (Nat.le_of_ble_eq_true rfl) dL_law_799 ⟨hce _ (by decide), hsl _ (by decide)⟩ (fun r9 w9 h9 => ?_)
    obtain ⟨rfl, e9⟩ := h9
    refine j_w (w' := wm ++ (oW o cL ou ++ wx)) (by rw [e9, List.append_nil]) ?_
    refine j_st (st9 := [.int (nI 1)]) rfl ?_
    refine j_istore CX (lv' := [(5, .int (nI 1)), (4, .int (nI i)), (0, .ref b), (1, .ref x), (2, .ref a0), (3, .ref o)]) dL_law_802 (by decide) rfl ?_
    refine j_aload_n CX 4 dL_law_804 rfl rfl ?_
    refine j_aload_n CX 2 dL_law_805 rfl rfl ?_
    refine j_iload CX 1 dL_law_806 rfl ?_
    refine j_iconst CX dL_law_808 (show _ = (nI 1 : Int32) by decide) ?_
    refine j_iadd CX dL_law_809 ?_
    refine j_top (show nI i + nI 1 = nI (i + 1) from nI_add _ _) ?_
    refine j_sld CX hXs hbl hbA (i + 1) dL_law_810 rfl (by omega) (by omega) ?_
    refine j_aload_n CX 2 dL_law_811 rfl rfl ?_
    refine j_iload CX 1 dL_law_812 rfl ?_
    refine j_iconst CX dL_law_814 (show _ = (nI 2 : Int32) by decide) ?_
    refine j_iadd CX dL_law_815 ?_
    refine j_top (show nI i + nI 2 = nI (i + 2) from nI_add _ _) ?_
    refine j_sld CX hXs hbl hbA (i + 2) dL_law_816 rfl (by omega) (by omega) ?_
    refine j_callV CX (n := 2) (pre := []) (post := oW o cL ou ++ wx) (rest := []) (qc := (RX6, TX6, 27)) hcm gL_law_X6_foretold rfl (by decide +kernel) ⟨(Nat.le_of_ble_eq_true rfl), (Nat.le_of_ble_eq_true rfl)⟩ rfl rfl hm0 rfl rfl (Nat.le_of_ble_eq_true rfl) dL_law_817 ⟨hce9 _ (by decide), hsl9 _ (by decide)⟩ (fun r9 w9 h9 => ?_)
    obtain ⟨rfl, e9⟩ := h9
    refine j_w (w' := wm2 ++ (oW o cL ou ++ wx)) (by rw [e9]; rfl) ?_
    refine j_st (st9 := [.int u]) rfl ?_
    refine j_istore CX (lv' := [(6, .int u), (5, .int (nI 1)), (4, .int (nI i)), (0, .ref b), (1, .ref x), (2, .ref a0), (3, .ref o)]) dL_law_820 (by decide) rfl ?_
    refine j_aload_n CX 5 dL_law_822 rfl rfl ?_
    refine j_callV CX (n := 0) (pre := []) (post := oW o cL ou ++ wx) (rest := []) (qc := (RX6, TX6, 27)) hthr gL_law_X6_thrown rfl (by decide +kernel) ⟨(Nat.le_of_ble_eq_true rfl), (Nat.le_of_ble_eq_true rfl)⟩ rfl rfl hm2 rfl rfl (Nat.le_of_ble_eq_true rfl) dL_law_823 ⟨hce9 _ (by decide), hsl9 _ (by decide)⟩ (fun r9 w9 h9 => ?_)
    obtain ⟨rfl, e9⟩ := h9
    refine j_w (w' := wm2 ++ (oW o cL ou ++ wx)) (by rw [e9]; rfl) ?_
    refine j_st (st9 := [.int (nI 1)]) rfl ?_
    refine j_iload CX 1 dL_law_826 rfl ?_
    refine j_icmpN_eq CX (by decide) (by decide) 833 dL_law_828 (by decide) (fun _ => ?_) (fun h => absurd rfl h)
    refine j_iload CX 1 dL_law_833 rfl ?_
    refine j_ifN_ne CX (by decide) 850 dL_law_835 (by decide) (fun _ => ?_) (fun h => absurd h (by decide))
    refine j_goto CX 978 dL_law_850 (by decide) ?_
    refine j_lv (lv' := [(4, .int (nI i)), (0, .ref b), (1, .ref x), (2, .ref a0), (3, .ref o)]) [2, 3, 4, 5, 6] rfl (j_widen (k9 := 100 + (k + 1)) (n9 := 40000 + 6 * (k + 1)) (by have h9 : rmxL_foretold.cells + rmX6_foretold.cells + rmX6_thrown.cells ≤ 1 := (by decide); have h8 : rmX6_foretold.cells + rmX6_thrown.cells ≤ 0 := (by decide); omega) (by have h9 : rmxL_foretold.slots + rmX6_foretold.slots + rmX6_thrown.slots ≤ 6 := (by decide); have h8 : rmX6_foretold.slots + rmX6_thrown.slots ≤ 0 := (by decide); omega) ?_)
    exact kk _ _ _ hrel
set_option maxRecDepth 100000 in
set_option maxHeartbeats 4000000 in
theorem lc_job {p : Program} {l : Launch} (hl9 : l.stackTraces = false) {e : Env} {s : State} {m : MethodId} {below : List Frame} {meth : Method} {c : Code} {D : va_G} {cI cZ cL : ClassId} {σ : Nat → Nat} {Q : State → Prop} {b L : Nat} {xs : Nat → Int32} {x a0 o : Nat} {Rel : Nat → va_W → va_W → Prop} (hL : L ≤ 2561) (CX : jC p s m #[Value.ref b] c cL_law 7 wsL_law RL D cI cZ cL (fun q : Nat => s.heap.size ≤ q)) (hX : jX σ s) (hZ : jZ (fun q : Nat => s.heap.size ≤ q) s s.heap) (hXs : va_X b L xs s s.heap) (hbl : b < s.heap.size)
    (hRx : ∀ k wx wm, Rel k wx wm → ∃ fs, wx[0]? = some (x, .inr (5, fs))) (hRm : ∀ k wx wm, Rel k wx wm → ∃ fs, wm[0]? = some (a0, .inr (6, fs))) (k i : Nat) (hk : k ≤ 512) (hi : i + 5 ≤ L) (ou : Nat → Int64) (wx wm : va_W) (hR : Rel k wx wm) (hstep : StI l D cI cZ cL σ x a0 Rel k yX5_job wsX5_job rmX5_job rmxX5_job yX6_job wsX6_job rmX6_job [.int (xs (i + 1))] wx wm)
    (kk : ∀ (ou2 : Nat → Int64) (wx2 wm2 : va_W), Rel (k + 1) wx2 wm2 → J p l e room_1 s m #[Value.ref b] below meth c D (fun q : Nat => s.heap.size ≤ q) 7 (100 + (k + 1)) (40000 + 6 * (k + 1)) Q (wm2 ++ (oW o cL ou2 ++ wx2)) 978 [(4, .int (nI i)), (0, .ref b), (1, .ref x), (2, .ref a0), (3, .ref o)] []) : J p l e room_1 s m #[Value.ref b] below meth c D (fun q : Nat => s.heap.size ≤ q) 7 (100 + k) (40000 + 6 * k) Q (wm ++ (oW o cL ou ++ wx)) 853 [(4, .int (nI i)), (0, .ref b), (1, .ref x), (2, .ref a0), (3, .ref o)] [] := by
  have hbA : ¬ (fun q : Nat => s.heap.size ≤ q) b := Nat.not_le.mpr hbl
  obtain ⟨fx, hx0⟩ := hRx k wx wm hR
  obtain ⟨fm, hm0⟩ := hRm k wx wm hR
  have hce : ∀ q : Nat, q ≤ 2 → 100 + k + q ≤ room_1.cells := fun q hq => by show _ ≤ 601024; omega
  have hsl : ∀ q : Nat, q ≤ 6 → 40000 + 6 * k + q ≤ room_1.slots := fun q hq => by show _ ≤ 7293000; omega
  rcases hstep with ⟨v, wx2, wm2, hcx, hcm, hthr, hrel⟩ | ⟨u, wm2, hcx, hcm, hthr, hrel⟩ | ⟨u, wm2, hcx, hcm, hthr, hrel⟩
  · obtain ⟨fm2, hm2⟩ := hRm _ _ _ hrel
    have hce9 : ∀ q : Nat, q ≤ 1 → 100 + k + 0 + q ≤ room_1.cells := fun q hq => by show _ ≤ 601024; omega
    have hsl9 : ∀ q : Nat, q ≤ 0 → 40000 + 6 * k + 0 + q ≤ room_1.slots := fun q hq => by show _ ≤ 7293000; omega
    refine j_aload_n CX 2 dL_law_853 rfl rfl ?_
    refine j_aload_n CX 1 dL_law_854 rfl rfl ?_
    refine j_iload CX 0 dL_law_855 rfl ?_
    refine j_iconst CX dL_law_857 (show _ = (nI 1 : Int32) by decide) ?_
    refine j_iadd CX dL_law_858 ?_
    refine j_top (show nI i + nI 1 = nI (i + 1) from nI_add _ _) ?_
    refine j_sld CX hXs hbl hbA (i + 1) dL_law_859 rfl (by omega) (by omega) ?_
    refine j_aload_n CX 4 dL_law_860 rfl rfl ?_
    refine j_callSW CX hX hZ (n := 3) (pre := wm) (post := []) (rest := []) (h_job l hl9 D cI cZ cL σ x o ou wx wx2 fx hx0 (xs (i + 1)) v hcx) gL_law_L_job rfl (by decide +kernel) ⟨(Nat.le_of_ble_eq_true rfl), (Nat.le_of_ble_eq_true rfl)⟩ (by rw [List.append_nil]) rfl rfl (Nat.le_of_ble_eq_true rfl) dL_law_861 ⟨hce _ (by decide), hsl _ (by decide)⟩ (fun r9 w9 h9 => ?_)
    obtain ⟨rfl, e9⟩ := h9
    refine j_w (w' := wm ++ (oW o cL (vp_updL ou 0 (v.toInt64)) ++ wx2)) (by rw [e9, List.append_nil]) ?_
    refine j_st (st9 := [.int (nI 0)]) rfl ?_
    refine j_istore CX (lv' := [(5, .int (nI 0)), (4, .int (nI i)), (0, .ref b), (1, .ref x), (2, .ref a0), (3, .ref o)]) dL_law_864 (by decide) rfl ?_
    refine j_aload_n CX 4 dL_law_866 rfl rfl ?_
    refine j_aload_n CX 2 dL_law_867 rfl rfl ?_
    refine j_iload CX 1 dL_law_868 rfl ?_
    refine j_iconst CX dL_law_870 (show _ = (nI 1 : Int32) by decide) ?_
    refine j_iadd CX dL_law_871 ?_
    refine j_top (show nI i + nI 1 = nI (i + 1) from nI_add _ _) ?_
    refine j_sld CX hXs hbl hbA (i + 1) dL_law_872 rfl (by omega) (by omega) ?_
    refine j_callV CX (n := 1) (pre := []) (post := oW o cL (vp_updL ou 0 (v.toInt64)) ++ wx2) (rest := []) (qc := (RX6, TX6, 27)) hcm gL_law_X6_job rfl (by decide +kernel) ⟨(Nat.le_of_ble_eq_true rfl), (Nat.le_of_ble_eq_true rfl)⟩ rfl rfl hm0 rfl rfl (Nat.le_of_ble_eq_true rfl) dL_law_873 ⟨hce9 _ (by decide), hsl9 _ (by decide)⟩ (fun r9 w9 h9 => ?_)
    obtain ⟨rfl, e9⟩ := h9
    refine j_w (w' := wm2 ++ (oW o cL (vp_updL ou 0 (v.toInt64)) ++ wx2)) (by rw [e9]; rfl) ?_
    refine j_st (st9 := [.int v]) rfl ?_
    refine j_istore CX (lv' := [(6, .int v), (5, .int (nI 0)), (4, .int (nI i)), (0, .ref b), (1, .ref x), (2, .ref a0), (3, .ref o)]) dL_law_876 (by decide) rfl ?_
    refine j_aload_n CX 5 dL_law_878 rfl rfl ?_
    refine j_callV CX (n := 0) (pre := []) (post := oW o cL (vp_updL ou 0 (v.toInt64)) ++ wx2) (rest := []) (qc := (RX6, TX6, 27)) hthr gL_law_X6_thrown rfl (by decide +kernel) ⟨(Nat.le_of_ble_eq_true rfl), (Nat.le_of_ble_eq_true rfl)⟩ rfl rfl hm2 rfl rfl (Nat.le_of_ble_eq_true rfl) dL_law_879 ⟨hce9 _ (by decide), hsl9 _ (by decide)⟩ (fun r9 w9 h9 => ?_)
    obtain ⟨rfl, e9⟩ := h9
    refine j_w (w' := wm2 ++ (oW o cL (vp_updL ou 0 (v.toInt64)) ++ wx2)) (by rw [e9]; rfl) ?_
    refine j_st (st9 := [.int (nI 0)]) rfl ?_
    refine j_iload CX 1 dL_law_882 rfl ?_
    refine j_icmpN_eq CX (by decide) (by decide) 889 dL_law_884 (by decide) (fun _ => ?_) (fun h => absurd rfl h)
    refine j_iload CX 1 dL_law_889 rfl ?_
    refine j_ifN_ne CX (by decide) 906 dL_law_891 (by decide) (fun h => absurd rfl h) (fun _ => ?_)
    refine j_aload_n CX 6 dL_law_894 rfl rfl ?_
    refine j_iconst CX dL_law_895 (show _ = (nI 0 : Int32) by decide) ?_
    refine j_lald CX (wm2).length 0 dL_law_896 mid_at rfl (by decide) (by decide) ?_
    refine j_topl (show _ = v.toInt64 from pk_uLs) ?_
    refine j_iload CX 0 dL_law_897 rfl ?_
    refine j_i2l CX dL_law_899 ?_
    refine j_lcmp CX dL_law_900 ?_
    refine j_if_eq CX 906 dL_law_901 (by decide) (fun _ => ?_) (fun h => absurd ((lg_cmp_eq _ _).mpr rfl) h)
    refine j_goto CX 978 dL_law_906 (by decide) ?_
    refine j_lv (lv' := [(4, .int (nI i)), (0, .ref b), (1, .ref x), (2, .ref a0), (3, .ref o)]) [2, 3, 4, 5, 6] rfl (j_widen (k9 := 100 + (k + 1)) (n9 := 40000 + 6 * (k + 1)) (by have h9 : rmL_job.cells + rmX6_job.cells + rmX6_thrown.cells ≤ 1 := (by decide); have h8 : rmX6_job.cells + rmX6_thrown.cells ≤ 0 := (by decide); omega) (by have h9 : rmL_job.slots + rmX6_job.slots + rmX6_thrown.slots ≤ 6 := (by decide); have h8 : rmX6_job.slots + rmX6_thrown.slots ≤ 0 := (by decide); omega) ?_)
    exact kk _ _ _ hrel
  · obtain ⟨fm2, hm2⟩ := hRm _ _ _ hrel
    have hce9 : ∀ q : Nat, q ≤ 1 → 100 + k + 1 + q ≤ room_1.cells := fun q hq => by show _ ≤ 601024; omega
    have hsl9 : ∀ q : Nat, q ≤ 0 → 40000 + 6 * k + 6 + q ≤ room_1.slots := fun q hq => by show _ ≤ 7293000; omega
    refine j_aload_n CX 2 dL_law_853 rfl rfl ?_
    refine j_aload_n CX 1 dL_law_854 rfl rfl ?_
    refine j_iload CX 0 dL_law_855 rfl ?_
    refine j_iconst CX dL_law_857 (show _ = (nI 1 : Int32) by decide) ?_
    refine j_iadd CX dL_law_858 ?_
    refine j_top (show nI i + nI 1 = nI (i + 1) from nI_add _ _) ?_
    refine j_sld CX hXs hbl hbA (i + 1) dL_law_859 rfl (by omega) (by omega) ?_
    refine j_aload_n CX 4 dL_law_860 rfl rfl ?_
    refine j_callSW CX hX hZ (n := 3) (pre := wm) (post := []) (rest := []) (h_job_x l hl9 D cI cZ cL σ x o ou wx fx hx0 (xs (i + 1)) hcx) gL_law_L_job rfl (by decide +kernel) ⟨(Nat.le_of_ble_eq_true rfl), (Nat.le_of_ble_eq_true rfl)⟩ (by rw [List.append_nil]) rfl rfl (Nat.le_of_ble_eq_true rfl) dL_law_861 ⟨hce _ (by decide), hsl _ (by decide)⟩ (fun r9 w9 h9 => ?_)
    obtain ⟨rfl, e9⟩ := h9
    refine j_w (w' := wm ++ (oW o cL ou ++ wx)) (by rw [e9, List.append_nil]) ?_
    refine j_st (st9 := [.int (nI 1)]) rfl ?_
    refine j_istore CX (lv' := [(5, .int (nI 1)), (4, .int (nI i)), (0, .ref b), (1, .ref x), (2, .ref a0), (3, .ref o)]) dL_law_864 (by decide) rfl ?_
    refine j_aload_n CX 4 dL_law_866 rfl rfl ?_
    refine j_aload_n CX 2 dL_law_867 rfl rfl ?_
    refine j_iload CX 1 dL_law_868 rfl ?_
    refine j_iconst CX dL_law_870 (show _ = (nI 1 : Int32) by decide) ?_
    refine j_iadd CX dL_law_871 ?_
    refine j_top (show nI i + nI 1 = nI (i + 1) from nI_add _ _) ?_
    refine j_sld CX hXs hbl hbA (i + 1) dL_law_872 rfl (by omega) (by omega) ?_
    refine j_callV CX (n := 1) (pre := []) (post := oW o cL ou ++ wx) (rest := []) (qc := (RX6, TX6, 27)) hcm gL_law_X6_job rfl (by decide +kernel) ⟨(Nat.le_of_ble_eq_true rfl), (Nat.le_of_ble_eq_true rfl)⟩ rfl rfl hm0 rfl rfl (Nat.le_of_ble_eq_true rfl) dL_law_873 ⟨hce9 _ (by decide), hsl9 _ (by decide)⟩ (fun r9 w9 h9 => ?_)
    obtain ⟨rfl, e9⟩ := h9
    refine j_w (w' := wm2 ++ (oW o cL ou ++ wx)) (by rw [e9]; rfl) ?_
    refine j_st (st9 := [.int u]) rfl ?_
    refine j_istore CX (lv' := [(6, .int u), (5, .int (nI 1)), (4, .int (nI i)), (0, .ref b), (1, .ref x), (2, .ref a0), (3, .ref o)]) dL_law_876 (by decide) rfl ?_
    refine j_aload_n CX 5 dL_law_878 rfl rfl ?_
    refine j_callV CX (n := 0) (pre := []) (post := oW o cL ou ++ wx) (rest := []) (qc := (RX6, TX6, 27)) hthr gL_law_X6_thrown rfl (by decide +kernel) ⟨(Nat.le_of_ble_eq_true rfl), (Nat.le_of_ble_eq_true rfl)⟩ rfl rfl hm2 rfl rfl (Nat.le_of_ble_eq_true rfl) dL_law_879 ⟨hce9 _ (by decide), hsl9 _ (by decide)⟩ (fun r9 w9 h9 => ?_)
    obtain ⟨rfl, e9⟩ := h9
    refine j_w (w' := wm2 ++ (oW o cL ou ++ wx)) (by rw [e9]; rfl) ?_
    refine j_st (st9 := [.int (nI 1)]) rfl ?_
    refine j_iload CX 1 dL_law_882 rfl ?_
    refine j_icmpN_eq CX (by decide) (by decide) 889 dL_law_884 (by decide) (fun _ => ?_) (fun h => absurd rfl h)
    refine j_iload CX 1 dL_law_889 rfl ?_
    refine j_ifN_ne CX (by decide) 906 dL_law_891 (by decide) (fun _ => ?_) (fun h => absurd h (by decide))
    refine j_goto CX 978 dL_law_906 (by decide) ?_
    refine j_lv (lv' := [(4, .int (nI i)), (0, .ref b), (1, .ref x), (2, .ref a0), (3, .ref o)]) [2, 3, 4, 5, 6] rfl (j_widen (k9 := 100 + (k + 1)) (n9 := 40000 + 6 * (k + 1)) (by have h9 : rmxL_job.cells + rmX6_job.cells + rmX6_thrown.cells ≤ 1 := (by decide); have h8 : rmX6_job.cells + rmX6_thrown.cells ≤ 0 := (by decide); omega) (by have h9 : rmxL_job.slots + rmX6_job.slots + rmX6_thrown.slots ≤ 6 := (by decide); have h8 : rmX6_job.slots + rmX6_thrown.slots ≤ 0 := (by decide); omega) ?_)
    exact kk _ _ _ hrel
  · obtain ⟨fm2, hm2⟩ := hRm _ _ _ hrel
    have hce9 : ∀ q : Nat, q ≤ 1 → 100 + k + 1 + q ≤ room_1.cells := fun q hq => by show _ ≤ 601024; omega
    have hsl9 : ∀ q : Nat, q ≤ 0 → 40000 + 6 * k + 6 + q ≤ room_1.slots := fun q hq => by show _ ≤ 7293000; omega
    refine j_aload_n CX 2 dL_law_853 rfl rfl ?_
    refine j_aload_n CX 1 dL_law_854 rfl rfl ?_
    refine j_iload CX 0 dL_law_855 rfl ?_
    refine j_iconst CX dL_law_857 (show _ = (nI 1 : Int32) by decide) ?_
    refine j_iadd CX dL_law_858 ?_
    refine j_top (show nI i + nI 1 = nI (i + 1) from nI_add _ _) ?_
    refine j_sld CX hXs hbl hbA (i + 1) dL_law_859 rfl (by omega) (by omega) ?_
    refine j_aload_n CX 4 dL_law_860 rfl rfl ?_
    refine j_callSW CX hX hZ (n := 3) (pre := wm) (post := []) (rest := []) (h_job_xS l hl9 D cI cZ cL σ x o ou wx fx hx0 (xs (i + 1)) hcx) gL_law_L_job rfl (by decide +kernel) ⟨(Nat.le_of_ble_eq_true rfl), (Nat.le_of_ble_eq_true rfl)⟩ (by rw [List.append_nil]) rfl rfl (Nat.le_of_ble_eq_true rfl) dL_law_861 ⟨hce _ (by decide), hsl _ (by decide)⟩ (fun r9 w9 h9 => ?_)
    obtain ⟨rfl, e9⟩ := h9
    refine j_w (w' := wm ++ (oW o cL ou ++ wx)) (by rw [e9, List.append_nil]) ?_
    refine j_st (st9 := [.int (nI 2)]) rfl ?_
    refine j_istore CX (lv' := [(5, .int (nI 2)), (4, .int (nI i)), (0, .ref b), (1, .ref x), (2, .ref a0), (3, .ref o)]) dL_law_864 (by decide) rfl ?_
    refine j_aload_n CX 4 dL_law_866 rfl rfl ?_
    refine j_aload_n CX 2 dL_law_867 rfl rfl ?_
    refine j_iload CX 1 dL_law_868 rfl ?_
    refine j_iconst CX dL_law_870 (show _ = (nI 1 : Int32) by decide) ?_
    refine j_iadd CX dL_law_871 ?_
    refine j_top (show nI i + nI 1 = nI (i + 1) from nI_add _ _) ?_
    refine j_sld CX hXs hbl hbA (i + 1) dL_law_872 rfl (by omega) (by omega) ?_
    refine j_callV CX (n := 1) (pre := []) (post := oW o cL ou ++ wx) (rest := []) (qc := (RX6, TX6, 27)) hcm gL_law_X6_job rfl (by decide +kernel) ⟨(Nat.le_of_ble_eq_true rfl), (Nat.le_of_ble_eq_true rfl)⟩ rfl rfl hm0 rfl rfl (Nat.le_of_ble_eq_true rfl) dL_law_873 ⟨hce9 _ (by decide), hsl9 _ (by decide)⟩ (fun r9 w9 h9 => ?_)
    obtain ⟨rfl, e9⟩ := h9
    refine j_w (w' := wm2 ++ (oW o cL ou ++ wx)) (by rw [e9]; rfl) ?_
    refine j_st (st9 := [.int u]) rfl ?_
    refine j_istore CX (lv' := [(6, .int u), (5, .int (nI 2)), (4, .int (nI i)), (0, .ref b), (1, .ref x), (2, .ref a0), (3, .ref o)]) dL_law_876 (by decide) rfl ?_
    refine j_aload_n CX 5 dL_law_878 rfl rfl ?_
    refine j_callV CX (n := 0) (pre := []) (post := oW o cL ou ++ wx) (rest := []) (qc := (RX6, TX6, 27)) hthr gL_law_X6_thrown rfl (by decide +kernel) ⟨(Nat.le_of_ble_eq_true rfl), (Nat.le_of_ble_eq_true rfl)⟩ rfl rfl hm2 rfl rfl (Nat.le_of_ble_eq_true rfl) dL_law_879 ⟨hce9 _ (by decide), hsl9 _ (by decide)⟩ (fun r9 w9 h9 => ?_)
    obtain ⟨rfl, e9⟩ := h9
    refine j_w (w' := wm2 ++ (oW o cL ou ++ wx)) (by rw [e9]; rfl) ?_
    refine j_st (st9 := [.int (nI 2)]) rfl ?_
    refine j_iload CX 1 dL_law_882 rfl ?_
    refine j_icmpN_eq CX (by decide) (by decide) 889 dL_law_884 (by decide) (fun _ => ?_) (fun h => absurd rfl h)
    refine j_iload CX 1 dL_law_889 rfl ?_
    refine j_ifN_ne CX (by decide) 906 dL_law_891 (by decide) (fun _ => ?_) (fun h => absurd h (by decide))
    refine j_goto CX 978 dL_law_906 (by decide) ?_
    refine j_lv (lv' := [(4, .int (nI i)), (0, .ref b), (1, .ref x), (2, .ref a0), (3, .ref o)]) [2, 3, 4, 5, 6] rfl (j_widen (k9 := 100 + (k + 1)) (n9 := 40000 + 6 * (k + 1)) (by have h9 : rmxL_job.cells + rmX6_job.cells + rmX6_thrown.cells ≤ 1 := (by decide); have h8 : rmX6_job.cells + rmX6_thrown.cells ≤ 0 := (by decide); omega) (by have h9 : rmxL_job.slots + rmX6_job.slots + rmX6_thrown.slots ≤ 6 := (by decide); have h8 : rmX6_job.slots + rmX6_thrown.slots ≤ 0 := (by decide); omega) ?_)
    exact kk _ _ _ hrel
set_option maxRecDepth 100000 in
set_option maxHeartbeats 4000000 in
theorem lc_take {p : Program} {l : Launch} (hl9 : l.stackTraces = false) {e : Env} {s : State} {m : MethodId} {below : List Frame} {meth : Method} {c : Code} {D : va_G} {cI cZ cL : ClassId} {σ : Nat → Nat} {Q : State → Prop} {b L : Nat} {xs : Nat → Int32} {x a0 o : Nat} {Rel : Nat → va_W → va_W → Prop} (hL : L ≤ 2561) (CX : jC p s m #[Value.ref b] c cL_law 7 wsL_law RL D cI cZ cL (fun q : Nat => s.heap.size ≤ q)) (hX : jX σ s) (hZ : jZ (fun q : Nat => s.heap.size ≤ q) s s.heap) (hXs : va_X b L xs s s.heap) (hbl : b < s.heap.size)
    (hRx : ∀ k wx wm, Rel k wx wm → ∃ fs, wx[0]? = some (x, .inr (5, fs))) (hRm : ∀ k wx wm, Rel k wx wm → ∃ fs, wm[0]? = some (a0, .inr (6, fs))) (k i : Nat) (hk : k ≤ 512) (hi : i + 5 ≤ L) (ou : Nat → Int64) (wx wm : va_W) (hR : Rel k wx wm) (hstep : StN l D cI cZ cL x a0 Rel k yX5_take wsX5_take rmX5_take yX6_take wsX6_take rmX6_take wx wm)
    (kk : ∀ (ou2 : Nat → Int64) (wx2 wm2 : va_W), Rel (k + 1) wx2 wm2 → J p l e room_1 s m #[Value.ref b] below meth c D (fun q : Nat => s.heap.size ≤ q) 7 (100 + (k + 1)) (40000 + 6 * (k + 1)) Q (wm2 ++ (oW o cL ou2 ++ wx2)) 978 [(4, .int (nI i)), (0, .ref b), (1, .ref x), (2, .ref a0), (3, .ref o)] []) : J p l e room_1 s m #[Value.ref b] below meth c D (fun q : Nat => s.heap.size ≤ q) 7 (100 + k) (40000 + 6 * k) Q (wm ++ (oW o cL ou ++ wx)) 909 [(4, .int (nI i)), (0, .ref b), (1, .ref x), (2, .ref a0), (3, .ref o)] [] := by
  have hbA : ¬ (fun q : Nat => s.heap.size ≤ q) b := Nat.not_le.mpr hbl
  obtain ⟨fx, hx0⟩ := hRx k wx wm hR
  obtain ⟨fm, hm0⟩ := hRm k wx wm hR
  have hce : ∀ q : Nat, q ≤ 2 → 100 + k + q ≤ room_1.cells := fun q hq => by show _ ≤ 601024; omega
  have hsl : ∀ q : Nat, q ≤ 6 → 40000 + 6 * k + q ≤ room_1.slots := fun q hq => by show _ ≤ 7293000; omega
  obtain ⟨v, wx2, Po, hcx, hcm, hpo⟩ := hstep
  refine j_aload_n CX 2 dL_law_909 rfl rfl ?_
  refine j_callV CX (n := 0) (pre := wm ++ oW o cL ou) (post := []) (rest := []) (qc := (RX5, TX5, 6)) hcx gL_law_X5_take rfl (by decide +kernel) ⟨(Nat.le_of_ble_eq_true rfl), (Nat.le_of_ble_eq_true rfl)⟩ (by rw [List.append_nil, List.append_assoc]) rfl hx0 rfl rfl (Nat.le_of_ble_eq_true rfl) dL_law_910 ⟨hce _ (by decide), hsl _ (by decide)⟩ (fun r9 w9 h9 => ?_)
  obtain ⟨rfl, e9⟩ := h9
  refine j_w (w' := wm ++ (oW o cL ou ++ wx2)) (by rw [e9, List.append_nil, List.append_assoc]) ?_
  refine j_st (st9 := [.int v]) rfl ?_
  refine j_aload_n CX 3 dL_law_913 rfl rfl ?_
  refine j_callV CX (n := 0) (pre := []) (post := oW o cL ou ++ wx2) (rest := [.int v]) (qc := (RX6, TX6, 27)) hcm gL_law_X6_take rfl (by decide +kernel) ⟨(Nat.le_of_ble_eq_true rfl), (Nat.le_of_ble_eq_true rfl)⟩ rfl rfl hm0 rfl rfl (Nat.le_of_ble_eq_true rfl) dL_law_914 ⟨hce _ (by decide), hsl _ (by decide)⟩ (fun r9 w9 h9 => ?_)
  obtain ⟨rfl, hrel⟩ := hpo _ _ h9
  refine j_w (w' := w9 ++ (oW o cL ou ++ wx2)) rfl ?_
  refine j_st (st9 := [.int v, .int v]) rfl ?_
  refine j_icmp_eq CX 978 dL_law_917 (by decide) (fun _ => ?_) (fun h => absurd rfl h)
  refine j_widen (k9 := 100 + (k + 1)) (n9 := 40000 + 6 * (k + 1)) (by have h9 : rmX5_take.cells + rmX6_take.cells ≤ 1 := (by decide); have h8 : rmX6_take.cells ≤ 0 := (by decide); omega) (by have h9 : rmX5_take.slots + rmX6_take.slots ≤ 6 := (by decide); have h8 : rmX6_take.slots ≤ 0 := (by decide); omega) ?_
  exact kk _ _ _ hrel
set_option maxRecDepth 100000 in
set_option maxHeartbeats 4000000 in
theorem lc_age {p : Program} {l : Launch} (hl9 : l.stackTraces = false) {e : Env} {s : State} {m : MethodId} {below : List Frame} {meth : Method} {c : Code} {D : va_G} {cI cZ cL : ClassId} {σ : Nat → Nat} {Q : State → Prop} {b L : Nat} {xs : Nat → Int32} {x a0 o : Nat} {Rel : Nat → va_W → va_W → Prop} (hL : L ≤ 2561) (CX : jC p s m #[Value.ref b] c cL_law 7 wsL_law RL D cI cZ cL (fun q : Nat => s.heap.size ≤ q)) (hX : jX σ s) (hZ : jZ (fun q : Nat => s.heap.size ≤ q) s s.heap) (hXs : va_X b L xs s s.heap) (hbl : b < s.heap.size)
    (hRx : ∀ k wx wm, Rel k wx wm → ∃ fs, wx[0]? = some (x, .inr (5, fs))) (hRm : ∀ k wx wm, Rel k wx wm → ∃ fs, wm[0]? = some (a0, .inr (6, fs))) (k i : Nat) (hk : k ≤ 512) (hi : i + 5 ≤ L) (ou : Nat → Int64) (wx wm : va_W) (hR : Rel k wx wm) (hstep : StA l D cI cZ cL σ x a0 Rel k yX5_age wsX5_age rmX5_age rmxX5_age yX6_age wsX6_age rmX6_age [.int (xs (i + 1))] wx wm)
    (kk : ∀ (ou2 : Nat → Int64) (wx2 wm2 : va_W), Rel (k + 1) wx2 wm2 → J p l e room_1 s m #[Value.ref b] below meth c D (fun q : Nat => s.heap.size ≤ q) 7 (100 + (k + 1)) (40000 + 6 * (k + 1)) Q (wm2 ++ (oW o cL ou2 ++ wx2)) 978 [(4, .int (nI i)), (0, .ref b), (1, .ref x), (2, .ref a0), (3, .ref o)] []) : J p l e room_1 s m #[Value.ref b] below meth c D (fun q : Nat => s.heap.size ≤ q) 7 (100 + k) (40000 + 6 * k) Q (wm ++ (oW o cL ou ++ wx)) 922 [(4, .int (nI i)), (0, .ref b), (1, .ref x), (2, .ref a0), (3, .ref o)] [] := by
  have hbA : ¬ (fun q : Nat => s.heap.size ≤ q) b := Nat.not_le.mpr hbl
  obtain ⟨fx, hx0⟩ := hRx k wx wm hR
  obtain ⟨fm, hm0⟩ := hRm k wx wm hR
  have hce : ∀ q : Nat, q ≤ 2 → 100 + k + q ≤ room_1.cells := fun q hq => by show _ ≤ 601024; omega
  have hsl : ∀ q : Nat, q ≤ 6 → 40000 + 6 * k + q ≤ room_1.slots := fun q hq => by show _ ≤ 7293000; omega
  rcases hstep with ⟨v, wx2, wm2, hcx, hcm, hthr, hrel⟩ | ⟨u, wm2, hcx, hcm, hthr, hrel⟩
  · obtain ⟨fm2, hm2⟩ := hRm _ _ _ hrel
    have hce9 : ∀ q : Nat, q ≤ 1 → 100 + k + 0 + q ≤ room_1.cells := fun q hq => by show _ ≤ 601024; omega
    have hsl9 : ∀ q : Nat, q ≤ 0 → 40000 + 6 * k + 0 + q ≤ room_1.slots := fun q hq => by show _ ≤ 7293000; omega
    refine j_aload_n CX 2 dL_law_922 rfl rfl ?_
    refine j_aload_n CX 1 dL_law_923 rfl rfl ?_
    refine j_iload CX 0 dL_law_924 rfl ?_
    refine j_iconst CX dL_law_926 (show _ = (nI 1 : Int32) by decide) ?_
    refine j_iadd CX dL_law_927 ?_
    refine j_top (show nI i + nI 1 = nI (i + 1) from nI_add _ _) ?_
    refine j_sld CX hXs hbl hbA (i + 1) dL_law_928 rfl (by omega) (by omega) ?_
    refine j_aload_n CX 4 dL_law_929 rfl rfl ?_
    refine j_callSW CX hX hZ (n := 3) (pre := wm) (post := []) (rest := []) (h_age l hl9 D cI cZ cL σ x o ou wx wx2 fx hx0 (xs (i + 1)) v hcx) gL_law_L_age rfl (by decide +kernel) ⟨(Nat.le_of_ble_eq_true rfl), (Nat.le_of_ble_eq_true rfl)⟩ (by rw [List.append_nil]) rfl rfl (Nat.le_of_ble_eq_true rfl) dL_law_930 ⟨hce _ (by decide), hsl _ (by decide)⟩ (fun r9 w9 h9 => ?_)
    obtain ⟨rfl, e9⟩ := h9
    refine j_w (w' := wm ++ (oW o cL (vp_updL ou 0 (v.toInt64)) ++ wx2)) (by rw [e9, List.append_nil]) ?_
    refine j_st (st9 := [.int (nI 0)]) rfl ?_
    refine j_istore CX (lv' := [(5, .int (nI 0)), (4, .int (nI i)), (0, .ref b), (1, .ref x), (2, .ref a0), (3, .ref o)]) dL_law_933 (by decide) rfl ?_
    refine j_aload_n CX 4 dL_law_935 rfl rfl ?_
    refine j_aload_n CX 2 dL_law_936 rfl rfl ?_
    refine j_iload CX 1 dL_law_937 rfl ?_
    refine j_iconst CX dL_law_939 (show _ = (nI 1 : Int32) by decide) ?_
    refine j_iadd CX dL_law_940 ?_
    refine j_top (show nI i + nI 1 = nI (i + 1) from nI_add _ _) ?_
    refine j_sld CX hXs hbl hbA (i + 1) dL_law_941 rfl (by omega) (by omega) ?_
    refine j_callV CX (n := 1) (pre := []) (post := oW o cL (vp_updL ou 0 (v.toInt64)) ++ wx2) (rest := []) (qc := (RX6, TX6, 27)) hcm gL_law_X6_age rfl (by decide +kernel) ⟨(Nat.le_of_ble_eq_true rfl), (Nat.le_of_ble_eq_true rfl)⟩ rfl rfl hm0 rfl rfl (Nat.le_of_ble_eq_true rfl) dL_law_942 ⟨hce9 _ (by decide), hsl9 _ (by decide)⟩ (fun r9 w9 h9 => ?_)
    obtain ⟨rfl, e9⟩ := h9
    refine j_w (w' := wm2 ++ (oW o cL (vp_updL ou 0 (v.toInt64)) ++ wx2)) (by rw [e9]; rfl) ?_
    refine j_st (st9 := [.int v]) rfl ?_
    refine j_istore CX (lv' := [(6, .int v), (5, .int (nI 0)), (4, .int (nI i)), (0, .ref b), (1, .ref x), (2, .ref a0), (3, .ref o)]) dL_law_945 (by decide) rfl ?_
    refine j_aload_n CX 5 dL_law_947 rfl rfl ?_
    refine j_callV CX (n := 0) (pre := []) (post := oW o cL (vp_updL ou 0 (v.toInt64)) ++ wx2) (rest := []) (qc := (RX6, TX6, 27)) hthr gL_law_X6_thrown rfl (by decide +kernel) ⟨(Nat.le_of_ble_eq_true rfl), (Nat.le_of_ble_eq_true rfl)⟩ rfl rfl hm2 rfl rfl (Nat.le_of_ble_eq_true rfl) dL_law_948 ⟨hce9 _ (by decide), hsl9 _ (by decide)⟩ (fun r9 w9 h9 => ?_)
    obtain ⟨rfl, e9⟩ := h9
    refine j_w (w' := wm2 ++ (oW o cL (vp_updL ou 0 (v.toInt64)) ++ wx2)) (by rw [e9]; rfl) ?_
    refine j_st (st9 := [.int (nI 0)]) rfl ?_
    refine j_iload CX 1 dL_law_951 rfl ?_
    refine j_icmpN_eq CX (by decide) (by decide) 958 dL_law_953 (by decide) (fun _ => ?_) (fun h => absurd rfl h)
    refine j_iload CX 1 dL_law_958 rfl ?_
    refine j_ifN_ne CX (by decide) 975 dL_law_960 (by decide) (fun h => absurd rfl h) (fun _ => ?_)
    refine j_aload_n CX 6 dL_law_963 rfl rfl ?_
    refine j_iconst CX dL_law_964 (show _ = (nI 0 : Int32) by decide) ?_
    refine j_lald CX (wm2).length 0 dL_law_965 mid_at rfl (by decide) (by decide) ?_
    refine j_topl (show _ = v.toInt64 from pk_uLs) ?_
    refine j_iload CX 0 dL_law_966 rfl ?_
    refine j_i2l CX dL_law_968 ?_
    refine j_lcmp CX dL_law_969 ?_
    refine j_if_eq CX 975 dL_law_970 (by decide) (fun _ => ?_) (fun h => absurd ((lg_cmp_eq _ _).mpr rfl) h)
    refine j_goto CX 978 dL_law_975 (by decide) ?_
    refine j_lv (lv' := [(4, .int (nI i)), (0, .ref b), (1, .ref x), (2, .ref a0), (3, .ref o)]) [2, 3, 4, 5, 6] rfl (j_widen (k9 := 100 + (k + 1)) (n9 := 40000 + 6 * (k + 1)) (by have h9 : rmL_age.cells + rmX6_age.cells + rmX6_thrown.cells ≤ 1 := (by decide); have h8 : rmX6_age.cells + rmX6_thrown.cells ≤ 0 := (by decide); omega) (by have h9 : rmL_age.slots + rmX6_age.slots + rmX6_thrown.slots ≤ 6 := (by decide); have h8 : rmX6_age.slots + rmX6_thrown.slots ≤ 0 := (by decide); omega) ?_)
    exact kk _ _ _ hrel
  · obtain ⟨fm2, hm2⟩ := hRm _ _ _ hrel
    have hce9 : ∀ q : Nat, q ≤ 1 → 100 + k + 1 + q ≤ room_1.cells := fun q hq => by show _ ≤ 601024; omega
    have hsl9 : ∀ q : Nat, q ≤ 0 → 40000 + 6 * k + 6 + q ≤ room_1.slots := fun q hq => by show _ ≤ 7293000; omega
    refine j_aload_n CX 2 dL_law_922 rfl rfl ?_
    refine j_aload_n CX 1 dL_law_923 rfl rfl ?_
    refine j_iload CX 0 dL_law_924 rfl ?_
    refine j_iconst CX dL_law_926 (show _ = (nI 1 : Int32) by decide) ?_
    refine j_iadd CX dL_law_927 ?_
    refine j_top (show nI i + nI 1 = nI (i + 1) from nI_add _ _) ?_
    refine j_sld CX hXs hbl hbA (i + 1) dL_law_928 rfl (by omega) (by omega) ?_
    refine j_aload_n CX 4 dL_law_929 rfl rfl ?_
    refine j_callSW CX hX hZ (n := 3) (pre := wm) (post := []) (rest := []) (h_age_x l hl9 D cI cZ cL σ x o ou wx fx hx0 (xs (i + 1)) hcx) gL_law_L_age rfl (by decide +kernel) ⟨(Nat.le_of_ble_eq_true rfl), (Nat.le_of_ble_eq_true rfl)⟩ (by rw [List.append_nil]) rfl rfl (Nat.le_of_ble_eq_true rfl) dL_law_930 ⟨hce _ (by decide), hsl _ (by decide)⟩ (fun r9 w9 h9 => ?_)
    obtain ⟨rfl, e9⟩ := h9
    refine j_w (w' := wm ++ (oW o cL ou ++ wx)) (by rw [e9, List.append_nil]) ?_
    refine j_st (st9 := [.int (nI 1)]) rfl ?_
    refine j_istore CX (lv' := [(5, .int (nI 1)), (4, .int (nI i)), (0, .ref b), (1, .ref x), (2, .ref a0), (3, .ref o)]) dL_law_933 (by decide) rfl ?_
    refine j_aload_n CX 4 dL_law_935 rfl rfl ?_
    refine j_aload_n CX 2 dL_law_936 rfl rfl ?_
    refine j_iload CX 1 dL_law_937 rfl ?_
    refine j_iconst CX dL_law_939 (show _ = (nI 1 : Int32) by decide) ?_
    refine j_iadd CX dL_law_940 ?_
    refine j_top (show nI i + nI 1 = nI (i + 1) from nI_add _ _) ?_
    refine j_sld CX hXs hbl hbA (i + 1) dL_law_941 rfl (by omega) (by omega) ?_
    refine j_callV CX (n := 1) (pre := []) (post := oW o cL ou ++ wx) (rest := []) (qc := (RX6, TX6, 27)) hcm gL_law_X6_age rfl (by decide +kernel) ⟨(Nat.le_of_ble_eq_true rfl), (Nat.le_of_ble_eq_true rfl)⟩ rfl rfl hm0 rfl rfl (Nat.le_of_ble_eq_true rfl) dL_law_942 ⟨hce9 _ (by decide), hsl9 _ (by decide)⟩ (fun r9 w9 h9 => ?_)
    obtain ⟨rfl, e9⟩ := h9
    refine j_w (w' := wm2 ++ (oW o cL ou ++ wx)) (by rw [e9]; rfl) ?_
    refine j_st (st9 := [.int u]) rfl ?_
    refine j_istore CX (lv' := [(6, .int u), (5, .int (nI 1)), (4, .int (nI i)), (0, .ref b), (1, .ref x), (2, .ref a0), (3, .ref o)]) dL_law_945 (by decide) rfl ?_
    refine j_aload_n CX 5 dL_law_947 rfl rfl ?_
    refine j_callV CX (n := 0) (pre := []) (post := oW o cL ou ++ wx) (rest := []) (qc := (RX6, TX6, 27)) hthr gL_law_X6_thrown rfl (by decide +kernel) ⟨(Nat.le_of_ble_eq_true rfl), (Nat.le_of_ble_eq_true rfl)⟩ rfl rfl hm2 rfl rfl (Nat.le_of_ble_eq_true rfl) dL_law_948 ⟨hce9 _ (by decide), hsl9 _ (by decide)⟩ (fun r9 w9 h9 => ?_)
    obtain ⟨rfl, e9⟩ := h9
    refine j_w (w' := wm2 ++ (oW o cL ou ++ wx)) (by rw [e9]; rfl) ?_
    refine j_st (st9 := [.int (nI 1)]) rfl ?_
    refine j_iload CX 1 dL_law_951 rfl ?_
    refine j_icmpN_eq CX (by decide) (by decide) 958 dL_law_953 (by decide) (fun _ => ?_) (fun h => absurd rfl h)
    refine j_iload CX 1 dL_law_958 rfl ?_
    refine j_ifN_ne CX (by decide) 975 dL_law_960 (by decide) (fun _ => ?_) (fun h => absurd h (by decide))
    refine j_goto CX 978 dL_law_975 (by decide) ?_
    refine j_lv (lv' := [(4, .int (nI i)), (0, .ref b), (1, .ref x), (2, .ref a0), (3, .ref o)]) [2, 3, 4, 5, 6] rfl (j_widen (k9 := 100 + (k + 1)) (n9 := 40000 + 6 * (k + 1)) (by have h9 : rmxL_age.cells + rmX6_age.cells + rmX6_thrown.cells ≤ 1 := (by decide); have h8 : rmX6_age.cells + rmX6_thrown.cells ≤ 0 := (by decide); omega) (by have h9 : rmxL_age.slots + rmX6_age.slots + rmX6_thrown.slots ≤ 6 := (by decide); have h8 : rmX6_age.slots + rmX6_thrown.slots ≤ 0 := (by decide); omega) ?_)
    exact kk _ _ _ hrel