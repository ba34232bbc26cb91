set_option maxRecDepth 100000 in
set_option maxHeartbeats 4000000 in
theorem lc_wall {p : Program} {l : Launch} (hl9 : l.stackTraces = false) {e : Env} {s : State} {m : MethodId} {below : List Frame} {meth : Method} {c : Code} {D : va_G} {cI cZ cL : ClassId} {σ : Nat → Nat} {Q : State → Prop} {b L : Nat} {xs : Nat → Int32} {x a0 o : Nat} {Rel : Nat → va_W → va_W → Prop} (hL : L ≤ 2561) (CX : jC p s m #[Value.ref b] c cL_law 7 wsL_law RL D cI cZ cL (fun q : Nat => s.heap.size ≤ q)) (hX : jX σ s) (hZ : jZ (fun q : Nat => s.heap.size ≤ q) s s.heap) (hXs : va_X b L xs s s.heap) (hbl : b < s.heap.size)
    (hRx : ∀ k wx wm, Rel k wx wm → ∃ fs, wx[0]? = some (x, .inr (5, fs))) (hRm : ∀ k wx wm, Rel k wx wm → ∃ fs, wm[0]? = some (a0, .inr (6, fs))) (k i : Nat) (hk : k ≤ 512) (hi : i + 5 ≤ L) (ou : Nat → Int64) (wx wm : va_W) (hR : Rel k wx wm) (hstep : StA l D cI cZ cL σ x a0 Rel k yX5_wall wsX5_wall rmX5_wall rmxX5_wall yX6_wall wsX6_wall rmX6_wall [.int (xs (i + 1)), .int (xs (i + 2)), .int (xs (i + 3))] wx wm)
    (kk : ∀ (ou2 : Nat → Int64) (wx2 wm2 : va_W), Rel (k + 1) wx2 wm2 → J p l e room_1 s m #[Value.ref b] below meth c D (fun q : Nat => s.heap.size ≤ q) 7 (100 + (k + 1)) (40000 + 6 * (k + 1)) Q (wm2 ++ (oW o cL ou2 ++ wx2)) 978 [(4, .int (nI i)), (0, .ref b), (1, .ref x), (2, .ref a0), (3, .ref o)] []) : J p l e room_1 s m #[Value.ref b] below meth c D (fun q : Nat => s.heap.size ≤ q) 7 (100 + k) (40000 + 6 * k) Q (wm ++ (oW o cL ou ++ wx)) 124 [(4, .int (nI i)), (0, .ref b), (1, .ref x), (2, .ref a0), (3, .ref o)] [] := by
  have hbA : ¬ (fun q : Nat => s.heap.size ≤ q) b := Nat.not_le.mpr hbl
  obtain ⟨fx, hx0⟩ := hRx k wx wm hR
  obtain ⟨fm, hm0⟩ := hRm k wx wm hR
  have hce : ∀ q : Nat, q ≤ 2 → 100 + k + q ≤ room_1.cells := fun q hq => by show _ ≤ 601024; omega
  have hsl : ∀ q : Nat, q ≤ 6 → 40000 + 6 * k + q ≤ room_1.slots := fun q hq => by show _ ≤ 7293000; omega
  rcases hstep with ⟨v, wx2, wm2, hcx, hcm, hthr, hrel⟩ | ⟨u, wm2, hcx, hcm, hthr, hrel⟩
  · obtain ⟨fm2, hm2⟩ := hRm _ _ _ hrel
    have hce9 : ∀ q : Nat, q ≤ 1 → 100 + k + 0 + q ≤ room_1.cells := fun q hq => by show _ ≤ 601024; omega
    have hsl9 : ∀ q : Nat, q ≤ 0 → 40000 + 6 * k + 0 + q ≤ room_1.slots := fun q hq => by show _ ≤ 7293000; omega
    refine j_aload_n CX 2 dL_law_124 rfl rfl ?_
    refine j_aload_n CX 1 dL_law_125 rfl rfl ?_
    refine j_iload CX 0 dL_law_126 rfl ?_
    refine j_iconst CX dL_law_128 (show _ = (nI 1 : Int32) by decide) ?_
    refine j_iadd CX dL_law_129 ?_
    refine j_top (show nI i + nI 1 = nI (i + 1) from nI_add _ _) ?_
    refine j_sld CX hXs hbl hbA (i + 1) dL_law_130 rfl (by omega) (by omega) ?_
    refine j_aload_n CX 1 dL_law_131 rfl rfl ?_
    refine j_iload CX 0 dL_law_132 rfl ?_
    refine j_iconst CX dL_law_134 (show _ = (nI 2 : Int32) by decide) ?_
    refine j_iadd CX dL_law_135 ?_
    refine j_top (show nI i + nI 2 = nI (i + 2) from nI_add _ _) ?_
    refine j_sld CX hXs hbl hbA (i + 2) dL_law_136 rfl (by omega) (by omega) ?_
    refine j_aload_n CX 1 dL_law_137 rfl rfl ?_
    refine j_iload CX 0 dL_law_138 rfl ?_
    refine j_iconst CX dL_law_140 (show _ = (nI 3 : Int32) by decide) ?_
    refine j_iadd CX dL_law_141 ?_
    refine j_top (show nI i + nI 3 = nI (i + 3) from nI_add _ _) ?_
    refine j_sld CX hXs hbl hbA (i + 3) dL_law_142 rfl (by omega) (by omega) ?_
    refine j_aload_n CX 4 dL_law_143 rfl rfl ?_
    refine j_callSW CX hX hZ (n := 5) (pre := wm) (post := []) (rest := []) (h_wall l hl9 D cI cZ cL σ x o ou wx wx2 fx hx0 (xs (i + 1)) (xs (i + 2)) (xs (i + 3)) v hcx) gL_law_L_wall rfl (by decide +kernel) ⟨(Nat.le_of_ble_eq_true rfl), (Nat.le_of_ble_eq_true rfl)⟩ (by rw [List.append_nil]) rfl rfl (Nat.le_of_ble_eq_true rfl) dL_law_144 ⟨hce _ (by decide), hsl _ (by decide)⟩ (fun r9 w9 h9 => ?_)
    obtain ⟨rfl, e9⟩ := h9
    refine j_w (w' := wm ++ (oW o cL (vp_updL ou 0 (v.toInt64)) ++ wx2)) (by rw [e9, List.append_nil]) ?_
    refine j_st (st9 := [.int (nI 0)]) rfl ?_
    refine j_istore CX (lv' := [(5, .int (nI 0)), (4, .int (nI i)), (0, .ref b), (1, .ref x), (2, .ref a0), (3, .ref o)]) dL_law_147 (by decide) rfl ?_
    refine j_aload_n CX 4 dL_law_149 rfl rfl ?_
    refine j_aload_n CX 2 dL_law_150 rfl rfl ?_
    refine j_iload CX 1 dL_law_151 rfl ?_
    refine j_iconst CX dL_law_153 (show _ = (nI 1 : Int32) by decide) ?_
    refine j_iadd CX dL_law_154 ?_
    refine j_top (show nI i + nI 1 = nI (i + 1) from nI_add _ _) ?_
    refine j_sld CX hXs hbl hbA (i + 1) dL_law_155 rfl (by omega) (by omega) ?_
    refine j_aload_n CX 2 dL_law_156 rfl rfl ?_
    refine j_iload CX 1 dL_law_157 rfl ?_
    refine j_iconst CX dL_law_159 (show _ = (nI 2 : Int32) by decide) ?_
    refine j_iadd CX dL_law_160 ?_
    refine j_top (show nI i + nI 2 = nI (i + 2) from nI_add _ _) ?_
    refine j_sld CX hXs hbl hbA (i + 2) dL_law_161 rfl (by omega) (by omega) ?_
    refine j_aload_n CX 2 dL_law_162 rfl rfl ?_
    refine j_iload CX 1 dL_law_163 rfl ?_
    refine j_iconst CX dL_law_165 (show _ = (nI 3 : Int32) by decide) ?_
    refine j_iadd CX dL_law_166 ?_
    refine j_top (show nI i + nI 3 = nI (i + 3) from nI_add _ _) ?_
    refine j_sld CX hXs hbl hbA (i + 3) dL_law_167 rfl (by omega) (by omega) ?_
    refine j_callV CX (n := 3) (pre := []) (post := oW o cL (vp_updL ou 0 (v.toInt64)) ++ wx2) (rest := []) (qc := (RX6, TX6, 27)) hcm gL_law_X6_wall rfl (by decide +kernel) ⟨(Nat.le_of_ble_eq_true rfl), (Nat.le_of_ble_eq_true rfl)⟩ rfl rfl hm0 rfl rfl (Nat.le_of_ble_eq_true rfl) dL_law_168 ⟨hce9 _ (by decide), hsl9 _ (by decide)⟩ (fun r9 w9 h9 => ?_)
    obtain ⟨rfl, e9⟩ := h9
    refine j_w (w' := wm2 ++ (oW o cL (vp_updL ou 0 (v.toInt64)) ++ wx2)) (by rw [e9]; rfl) ?_
    refine j_st (st9 := [.int v]) rfl ?_
    refine j_istore CX (lv' := [(6, .int v), (5, .int (nI 0)), (4, .int (nI i)), (0, .ref b), (1, .ref x), (2, .ref a0), (3, .ref o)]) dL_law_171 (by decide) rfl ?_
    refine j_aload_n CX 5 dL_law_173 rfl rfl ?_
    refine j_callV CX (n := 0) (pre := []) (post := oW o cL (vp_updL ou 0 (v.toInt64)) ++ wx2) (rest := []) (qc := (RX6, TX6, 27)) hthr gL_law_X6_thrown rfl (by decide +kernel) ⟨(Nat.le_of_ble_eq_true rfl), (Nat.le_of_ble_eq_true rfl)⟩ rfl rfl hm2 rfl rfl (Nat.le_of_ble_eq_true rfl) dL_law_174 ⟨hce9 _ (by decide), hsl9 _ (by decide)⟩ (fun r9 w9 h9 => ?_)
    obtain ⟨rfl, e9⟩ := h9
    refine j_w (w' := wm2 ++ (oW o cL (vp_updL ou 0 (v.toInt64)) ++ wx2)) (by rw [e9]; rfl) ?_
    refine j_st (st9 := [.int (nI 0)]) rfl ?_
    refine j_iload CX 1 dL_law_177 rfl ?_
    refine j_icmpN_eq CX (by decide) (by decide) 184 dL_law_179 (by decide) (fun _ => ?_) (fun h => absurd rfl h)
    refine j_iload CX 1 dL_law_184 rfl ?_
    refine j_ifN_ne CX (by decide) 201 dL_law_186 (by decide) (fun h => absurd rfl h) (fun _ => ?_)
    refine j_aload_n CX 6 dL_law_189 rfl rfl ?_
    refine j_iconst CX dL_law_190 (show _ = (nI 0 : Int32) by decide) ?_
    refine j_lald CX (wm2).length 0 dL_law_191 mid_at rfl (by decide) (by decide) ?_
    refine j_topl (show _ = v.toInt64 from pk_uLs) ?_
    refine j_iload CX 0 dL_law_192 rfl ?_
    refine j_i2l CX dL_law_194 ?_
    refine j_lcmp CX dL_law_195 ?_
    refine j_if_eq CX 201 dL_law_196 (by decide) (fun _ => ?_) (fun h => absurd ((lg_cmp_eq _ _).mpr rfl) h)
    refine j_goto CX 978 dL_law_201 (by decide) ?_
    refine j_lv (lv' := [(4, .int (nI i)), (0, .ref b), (1, .ref x), (2, .ref a0), (3, .ref o)]) [2, 3, 4, 5, 6] rfl (j_widen (k9 := 100 + (k + 1)) (n9 := 40000 + 6 * (k + 1)) (by have h9 : rmL_wall.cells + rmX6_wall.cells + rmX6_thrown.cells ≤ 1 := (by decide); have h8 : rmX6_wall.cells + rmX6_thrown.cells ≤ 0 := (by decide); omega) (by have h9 : rmL_wall.slots + rmX6_wall.slots + rmX6_thrown.slots ≤ 6 := (by decide); have h8 : rmX6_wall.slots + rmX6_thrown.slots ≤ 0 := (by decide); omega) ?_)
    exact kk _ _ _ hrel
  · obtain ⟨fm2, hm2⟩ := hRm _ _ _ hrel
    have hce9 : ∀ q : Nat, q ≤ 1 → 100 + k + 1 + q ≤ room_1.cells := fun q hq => by show _ ≤ 601024; omega
    have hsl9 : ∀ q : Nat, q ≤ 0 → 40000 + 6 * k + 6 + q ≤ room_1.slots := fun q hq => by show _ ≤ 7293000; omega
    refine j_aload_n CX 2 dL_law_124 rfl rfl ?_
    refine j_aload_n CX 1 dL_law_125 rfl rfl ?_
    refine j_iload CX 0 dL_law_126 rfl ?_
    refine j_iconst CX dL_law_128 (show _ = (nI 1 : Int32) by decide) ?_
    refine j_iadd CX dL_law_129 ?_
    refine j_top (show nI i + nI 1 = nI (i + 1) from nI_add _ _) ?_
    refine j_sld CX hXs hbl hbA (i + 1) dL_law_130 rfl (by omega) (by omega) ?_
    refine j_aload_n CX 1 dL_law_131 rfl rfl ?_
    refine j_iload CX 0 dL_law_132 rfl ?_
    refine j_iconst CX dL_law_134 (show _ = (nI 2 : Int32) by decide) ?_
    refine j_iadd CX dL_law_135 ?_
    refine j_top (show nI i + nI 2 = nI (i + 2) from nI_add _ _) ?_
    refine j_sld CX hXs hbl hbA (i + 2) dL_law_136 rfl (by omega) (by omega) ?_
    refine j_aload_n CX 1 dL_law_137 rfl rfl ?_
    refine j_iload CX 0 dL_law_138 rfl ?_
    refine j_iconst CX dL_law_140 (show _ = (nI 3 : Int32) by decide) ?_
    refine j_iadd CX dL_law_141 ?_
    refine j_top (show nI i + nI 3 = nI (i + 3) from nI_add _ _) ?_
    refine j_sld CX hXs hbl hbA (i + 3) dL_law_142 rfl (by omega) (by omega) ?_
    refine j_aload_n CX 4 dL_law_143 rfl rfl ?_
    refine j_callSW CX hX hZ (n := 5) (pre := wm) (post := []) (rest := []) (h_wall_x l hl9 D cI cZ cL σ x o ou wx fx hx0 (xs (i + 1)) (xs (i + 2)) (xs (i + 3)) hcx) gL_law_L_wall rfl (by decide +kernel) ⟨(Nat.le_of_ble_eq_true rfl), (Nat.le_of_ble_eq_true rfl)⟩ (by rw [List.append_nil]) rfl rfl (Nat.le_of_ble_eq_true rfl) dL_law_144 ⟨hce _ (by decide), hsl _ (by decide)⟩ (fun r9 w9 h9 => ?_)
    obtain ⟨rfl, e9⟩ := h9
    refine j_w (w' := wm ++ (oW o cL ou ++ wx)) (by rw [e9, List.append_nil]) ?_
    refine j_st (st9 := [.int (nI 1)]) rfl ?_
    refine j_istore CX (lv' := [(5, .int (nI 1)), (4, .int (nI i)), (0, .ref b), (1, .ref x), (2, .ref a0), (3, .ref o)]) dL_law_147 (by decide) rfl ?_
    refine j_aload_n CX 4 dL_law_149 rfl rfl ?_
    refine j_aload_n CX 2 dL_law_150 rfl rfl ?_
    refine j_iload CX 1 dL_law_151 rfl ?_
    refine j_iconst CX dL_law_153 (show _ = (nI 1 : Int32) by decide) ?_
    refine j_iadd CX dL_law_154 ?_
    refine j_top (show nI i + nI 1 = nI (i + 1) from nI_add _ _) ?_
    refine j_sld CX hXs hbl hbA (i + 1) dL_law_155 rfl (by omega) (by omega) ?_
    refine j_aload_n CX 2 dL_law_156 rfl rfl ?_
    refine j_iload CX 1 dL_law_157 rfl ?_
    refine j_iconst CX dL_law_159 (show _ = (nI 2 : Int32) by decide) ?_
    refine j_iadd CX dL_law_160 ?_
    refine j_top (show nI i + nI 2 = nI (i + 2) from nI_add _ _) ?_
    refine j_sld CX hXs hbl hbA (i + 2) dL_law_161 rfl (by omega) (by omega) ?_
    refine j_aload_n CX 2 dL_law_162 rfl rfl ?_
    refine j_iload CX 1 dL_law_163 rfl ?_
    refine j_iconst CX dL_law_165 (show _ = (nI 3 : Int32) by decide) ?_
    refine j_iadd CX dL_law_166 ?_
    refine j_top (show nI i + nI 3 = nI (i + 3) from nI_add _ _) ?_
    refine j_sld CX hXs hbl hbA (i + 3) dL_law_167 rfl (by omega) (by omega) ?_
    refine j_callV CX (n := 3) (pre := []) (post := oW o cL ou ++ wx) (rest := []) (qc := (RX6, TX6, 27)) hcm gL_law_X6_wall rfl (by decide +kernel) ⟨(Nat.le_of_ble_eq_true rfl), (Nat.le_of_ble_eq_true rfl)⟩ rfl rfl hm0 rfl rfl (Nat.le_of_ble_eq_true rfl) dL_law_168 ⟨hce9 _ (by decide), hsl9 _ (by decide)⟩ (fun r9 w9 h9 => ?_)
    obtain ⟨rfl, e9⟩ := h9
    refine j_w (w' := wm2 ++ (oW o cL ou ++ wx)) (by rw [e9]; rfl) ?_
    refine j_st (st9 := [.int u]) rfl ?_
    refine j_istore CX (lv' := [(6, .int u), (5, .int (nI 1)), (4, .int (nI i)), (0, .ref b), (1, .ref x), (2, .ref a0), (3, .ref o)]) dL_law_171 (by decide) rfl ?_
    refine j_aload_n CX 5 dL_law_173 rfl rfl ?_
    refine j_callV CX (n := 0) (pre := []) (post := oW o cL ou ++ wx) (rest := []) (qc := (RX6, TX6, 27)) hthr gL_law_X6_thrown rfl (by decide +kernel) ⟨(Nat.le_of_ble_eq_true rfl), (Nat.le_of_ble_eq_true rfl)⟩ rfl rfl hm2 rfl rfl (Nat.le_of_ble_eq_true rfl) dL_law_174 ⟨hce9 _ (by decide), hsl9 _ (by decide)⟩ (fun r9 w9 h9 => ?_)
    obtain ⟨rfl, e9⟩ := h9
    refine j_w (w' := wm2 ++ (oW o cL ou ++ wx)) (by rw [e9]; rfl) ?_
    refine j_st (st9 := [.int (nI 1)]) rfl ?_
    refine j_iload CX 1 dL_law_177 rfl ?_
    refine j_icmpN_eq CX (by decide) (by decide) 184 dL_law_179 (by decide) (fun _ => ?_) (fun h => absurd rfl h)
    refine j_iload CX 1 dL_law_184 rfl ?_
    refine j_ifN_ne CX (by decide) 201 dL_law_186 (by decide) (fun _ => ?_) (fun h => absurd h (by decide))
    refine j_goto CX 978 dL_law_201 (by decide) ?_
    refine j_lv (lv' := [(4, .int (nI i)), (0, .ref b), (1, .ref x), (2, .ref a0), (3, .ref o)]) [2, 3, 4, 5, 6] rfl (j_widen (k9 := 100 + (k + 1)) (n9 := 40000 + 6 * (k + 1)) (by have h9 : rmxL_wall.cells + rmX6_wall.cells + rmX6_thrown.cells ≤ 1 := (by decide); have h8 : rmX6_wall.cells + rmX6_thrown.cells ≤ 0 := (by decide); omega) (by have h9 : rmxL_wall.slots + rmX6_wall.slots + rmX6_thrown.slots ≤ 6 := (by decide); have h8 : rmX6_wall.slots + rmX6_thrown.slots ≤ 0 := (by decide); omega) ?_)
    exact kk _ _ _ hrel
set_option maxRecDepth 100000 in
set_option maxHeartbeats 4000000 in
theorem lc_value {p : Program} {l : Launch} (hl9 : l.stackTraces = false) {e : Env} {s : State} {m : MethodId} {below : List Frame} {meth : Method} {c : Code} {D : va_G} {cI cZ cL : ClassId} {σ : Nat → Nat} {Q : State → Prop} {b L : Nat} {xs : Nat → Int32} {x a0 o : Nat} {Rel : Nat → va_W → va_W → Prop} (hL : L ≤ 2561) (CX : jC p s m #[Value.ref b] c cL_law 7 wsL_law RL D cI cZ cL (fun q : Nat => s.heap.size ≤ q)) (hX : jX σ s) (hZ : jZ (fun q : Nat => s.heap.size ≤ q) s s.heap) (hXs : va_X b L xs s s.heap) (hbl : b < s.heap.size)
    (hRx : ∀ k wx wm, Rel k wx wm → ∃ fs, wx[0]? = some (x, .inr (5, fs))) (hRm : ∀ k wx wm, Rel k wx wm → ∃ fs, wm[0]? = some (a0, .inr (6, fs))) (k i : Nat) (hk : k ≤ 512) (hi : i + 5 ≤ L) (ou : Nat → Int64) (wx wm : va_W) (hR : Rel k wx wm) (hstep : StA l D cI cZ cL σ x a0 Rel k yX5_value wsX5_value rmX5_value rmxX5_value yX6_value wsX6_value rmX6_value [.int (xs (i + 1)), .int (xs (i + 2))] wx wm)
    (kk : ∀ (ou2 : Nat → Int64) (wx2 wm2 : va_W), Rel (k + 1) wx2 wm2 → J p l e room_1 s m #[Value.ref b] below meth c D (fun q : Nat => s.heap.size ≤ q) 7 (100 + (k + 1)) (40000 + 6 * (k + 1)) Q (wm2 ++ (oW o cL ou2 ++ wx2)) 978 [(4, .int (nI i)), (0, .ref b), (1, .ref x), (2, .ref a0), (3, .ref o)] []) : J p l e room_1 s m #[Value.ref b] below meth c D (fun q : Nat => s.heap.size ≤ q) 7 (100 + k) (40000 + 6 * k) Q (wm ++ (oW o cL ou ++ wx)) 204 [(4, .int (nI i)), (0, .ref b), (1, .ref x), (2, .ref a0), (3, .ref o)] [] := by
  have hbA : ¬ (fun q : Nat => s.heap.size ≤ q) b := Nat.not_le.mpr hbl
  obtain ⟨fx, hx0⟩ := hRx k wx wm hR
  obtain ⟨fm, hm0⟩ := hRm k wx wm hR
  have hce : ∀ q : Nat, q ≤ 2 → 100 + k + q ≤ room_1.cells := fun q hq => by show _ ≤ 601024; omega
  have hsl : ∀ q : Nat, q ≤ 6 → 40000 + 6 * k + q ≤ room_1.slots := fun q hq => by show _ ≤ 7293000; omega
  rcases hstep with ⟨v, wx2, wm2, hcx, hcm, hthr, hrel⟩ | ⟨u, wm2, hcx, hcm, hthr, hrel⟩
  · obtain ⟨fm2, hm2⟩ := hRm _ _ _ hrel
    have hce9 : ∀ q : Nat, q ≤ 1 → 100 + k + 0 + q ≤ room_1.cells := fun q hq => by show _ ≤ 601024; omega
    have hsl9 : ∀ q : Nat, q ≤ 0 → 40000 + 6 * k + 0 + q ≤ room_1.slots := fun q hq => by show _ ≤ 7293000; omega
    refine j_aload_n CX 2 dL_law_204 rfl rfl ?_
    refine j_aload_n CX 1 dL_law_205 rfl rfl ?_
    refine j_iload CX 0 dL_law_206 rfl ?_
    refine j_iconst CX dL_law_208 (show _ = (nI 1 : Int32) by decide) ?_
    refine j_iadd CX dL_law_209 ?_
    refine j_top (show nI i + nI 1 = nI (i + 1) from nI_add _ _) ?_
    refine j_sld CX hXs hbl hbA (i + 1) dL_law_210 rfl (by omega) (by omega) ?_
    refine j_aload_n CX 1 dL_law_211 rfl rfl ?_
    refine j_iload CX 0 dL_law_212 rfl ?_
    refine j_iconst CX dL_law_214 (show _ = (nI 2 : Int32) by decide) ?_
    refine j_iadd CX dL_law_215 ?_
    refine j_top (show nI i + nI 2 = nI (i + 2) from nI_add _ _) ?_
    refine j_sld CX hXs hbl hbA (i + 2) dL_law_216 rfl (by omega) (by omega) ?_
    refine j_aload_n CX 4 dL_law_217 rfl rfl ?_
    refine j_callSW CX hX hZ (n := 4) (pre := wm) (post := []) (rest := []) (h_value l hl9 D cI cZ cL σ x o ou wx wx2 fx hx0 (xs (i + 1)) (xs (i + 2)) v hcx) gL_law_L_value rfl (by decide +kernel) ⟨(Nat.le_of_ble_eq_true rfl), (Nat.le_of_ble_eq_true rfl)⟩ (by rw [List.append_nil]) rfl rfl (Nat.le_of_ble_eq_true rfl) dL_law_218 ⟨hce _ (by decide), hsl _ (by decide)⟩ (fun r9 w9 h9 => ?_)
    obtain ⟨rfl, e9⟩ := h9
    refine j_w (w' := wm ++ (oW o cL (vp_updL ou 0 (v.toInt64)) ++ wx2)) (by rw [e9, List.append_nil]) ?_
    refine j_st (st9 := [.int (nI 0)]) rfl ?_
    refine j_istore CX (lv' := [(5, .int (nI 0)), (4, .int (nI i)), (0, .ref b), (1, .ref x), (2, .ref a0), (3, .ref o)]) dL_law_221 (by decide) rfl ?_
    refine j_aload_n CX 4 dL_law_223 rfl rfl ?_
    refine j_aload_n CX 2 dL_law_224 rfl rfl ?_
    refine j_iload CX 1 dL_law_225 rfl ?_
    refine j_iconst CX dL_law_227 (show _ = (nI 1 : Int32) by decide) ?_
    refine j_iadd CX dL_law_228 ?_
    refine j_top (show nI i + nI 1 = nI (i + 1) from nI_add _ _) ?_
    refine j_sld CX hXs hbl hbA (i + 1) dL_law_229 rfl (by omega) (by omega) ?_
    refine j_aload_n CX 2 dL_law_230 rfl rfl ?_
    refine j_iload CX 1 dL_law_231 rfl ?_
    refine j_iconst CX dL_law_233 (show _ = (nI 2 : Int32) by decide) ?_
    refine j_iadd CX dL_law_234 ?_
    refine j_top (show nI i + nI 2 = nI (i + 2) from nI_add _ _) ?_
    refine j_sld CX hXs hbl hbA (i + 2) dL_law_235 rfl (by omega) (by omega) ?_
    refine j_callV CX (n := 2) (pre := []) (post := oW o cL (vp_updL ou 0 (v.toInt64)) ++ wx2) (rest := []) (qc := (RX6, TX6, 27)) hcm gL_law_X6_value rfl (by decide +kernel) ⟨(Nat.le_of_ble_eq_true rfl), (Nat.le_of_ble_eq_true rfl)⟩ rfl rfl hm0 rfl rfl (Nat.le_of_ble_eq_true rfl) dL_law_236 ⟨hce9 _ (by decide), hsl9 _ (by decide)⟩ (fun r9 w9 h9 => ?_)
    obtain ⟨rfl, e9⟩ := h9
    refine j_w (w' := wm2 ++ (oW o cL (vp_updL ou 0 (v.toInt64)) ++ wx2)) (by rw [e9]; rfl) ?_
    refine j_st (st9 := [.int v]) rfl ?_
    refine j_istore CX (lv' := [(6, .int v), (5, .int (nI 0)), (4, .int (nI i)), (0, .ref b), (1, .ref x), (2, .ref a0), (3, .ref o)]) dL_law_239 (by decide) rfl ?_
    refine j_aload_n CX 5 dL_law_241 rfl rfl ?_
    refine j_callV CX (n := 0) (pre := []) (post := oW o cL (vp_updL ou 0 (v.toInt64)) ++ wx2) (rest := []) (qc := (RX6, TX6, 27)) hthr gL_law_X6_thrown rfl (by decide +kernel) ⟨(Nat.le_of_ble_eq_true rfl), (Nat.le_of_ble_eq_true rfl)⟩ rfl rfl hm2 rfl rfl (Nat.le_of_ble_eq_true rfl) dL_law_242 ⟨hce9 _ (by decide), hsl9 _ (by decide)⟩ (fun r9 w9 h9 => ?_)
    obtain ⟨rfl, e9⟩ := h9
    refine j_w (w' := wm2 ++ (oW o cL (vp_updL ou 0 (v.toInt64)) ++ wx2)) (by rw [e9]; rfl) ?_
    refine j_st (st9 := [.int (nI 0)]) rfl ?_
    refine j_iload CX 1 dL_law_245 rfl ?_
    refine j_icmpN_eq CX (by decide) (by decide) 252 dL_law_247 (by decide) (fun _ => ?_) (fun h => absurd rfl h)
    refine j_iload CX 1 dL_law_252 rfl ?_
    refine j_ifN_ne CX (by decide) 269 dL_law_254 (by decide) (fun h => absurd rfl h) (fun _ => ?_)
    refine j_aload_n CX 6 dL_law_257 rfl rfl ?_
    refine j_iconst CX dL_law_258 (show _ = (nI 0 : Int32) by decide) ?_
    refine j_lald CX (wm2).length 0 dL_law_259 mid_at rfl (by decide) (by decide) ?_
    refine j_topl (show _ = v.toInt64 from pk_uLs) ?_
    refine j_iload CX 0 dL_law_260 rfl ?_
    refine j_i2l CX dL_law_262 ?_
    refine j_lcmp CX dL_law_263 ?_
    refine j_if_eq CX 269 dL_law_264 (by decide) (fun _ => ?_) (fun h => absurd ((lg_cmp_eq _ _).mpr rfl) h)
    refine j_goto CX 978 dL_law_269 (by decide) ?_
    refine j_lv (lv' := [(4, .int (nI i)), (0, .ref b), (1, .ref x), (2, .ref a0), (3, .ref o)]) [2, 3, 4, 5, 6] rfl (j_widen (k9 := 100 + (k + 1)) (n9 := 40000 + 6 * (k + 1)) (by have h9 : rmL_value.cells + rmX6_value.cells + rmX6_thrown.cells ≤ 1 := (by decide); have h8 : rmX6_value.cells + rmX6_thrown.cells ≤ 0 := (by decide); omega) (by have h9 : rmL_value.slots + rmX6_value.slots + rmX6_thrown.slots ≤ 6 := (by decide); have h8 : rmX6_value.slots + rmX6_thrown.slots ≤ 0 := (by decide); omega) ?_)
    exact kk _ _ _ hrel
  · obtain ⟨fm2, hm2⟩ := hRm _ _ _ hrel
    have hce9 : ∀ q : Nat, q ≤ 1 → 100 + k + 1 + q ≤ room_1.cells := fun q hq => by show _ ≤ 601024; omega
    have hsl9 : ∀ q : Nat, q ≤ 0 → 40000 + 6 * k + 6 + q ≤ room_1.slots := fun q hq => by show _ ≤ 7293000; omega
    refine j_aload_n CX 2 dL_law_204 rfl rfl ?_
    refine j_aload_n CX 1 dL_law_205 rfl rfl ?_
    refine j_iload CX 0 dL_law_206 rfl ?_
    refine j_iconst CX dL_law_208 (show _ = (nI 1 : Int32) by decide) ?_
    refine j_iadd CX dL_law_209 ?_
    refine j_top (show nI i + nI 1 = nI (i + 1) from nI_add _ _) ?_
    refine j_sld CX hXs hbl hbA (i + 1) dL_law_210 rfl (by omega) (by omega) ?_
    refine j_aload_n CX 1 dL_law_211 rfl rfl ?_
    refine j_iload CX 0 dL_law_212 rfl ?_
    refine j_iconst CX dL_law_214 (show _ = (nI 2 : Int32) by decide) ?_
    refine j_iadd CX dL_law_215 ?_
    refine j_top (show nI i + nI 2 = nI (i + 2) from nI_add _ _) ?_
    refine j_sld CX hXs hbl hbA (i + 2) dL_law_216 rfl (by omega) (by omega) ?_
    refine j_aload_n CX 4 dL_law_217 rfl rfl ?_
    refine j_callSW CX hX hZ (n := 4) (pre := wm) (post := []) (rest := []) (h_value_x l hl9 D cI cZ cL σ x o ou wx fx hx0 (xs (i + 1)) (xs (i + 2)) hcx) gL_law_L_value rfl (by decide +kernel) ⟨(Nat.le_of_ble_eq_true rfl), (Nat.le_of_ble_eq_true rfl)⟩ (by rw [List.append_nil]) rfl rfl (Nat.le_of_ble_eq_true rfl) dL_law_218 ⟨hce _ (by decide), hsl _ (by decide)⟩ (fun r9 w9 h9 => ?_)
    obtain ⟨rfl, e9⟩ := h9
    refine j_w (w' := wm ++ (oW o cL ou ++ wx)) (by rw [e9, List.append_nil]) ?_
    refine j_st (st9 := [.int (nI 1)]) rfl ?_
    refine j_istore CX (lv' := [(5, .int (nI 1)), (4, .int (nI i)), (0, .ref b), (1, .ref x), (2, .ref a0), (3, .ref o)]) dL_law_221 (by decide) rfl ?_
    refine j_aload_n CX 4 dL_law_223 rfl rfl ?_
    refine j_aload_n CX 2 dL_law_224 rfl rfl ?_
    refine j_iload CX 1 dL_law_225 rfl ?_
    refine j_iconst CX dL_law_227 (show _ = (nI 1 : Int32) by decide) ?_
    refine j_iadd CX dL_law_228 ?_
    refine j_top (show nI i + nI 1 = nI (i + 1) from nI_add _ _) ?_
    refine j_sld CX hXs hbl hbA (i + 1) dL_law_229 rfl (by omega) (by omega) ?_
    refine j_aload_n CX 2 dL_law_230 rfl rfl ?_
    refine j_iload CX 1 dL_law_231 rfl ?_
    refine j_iconst CX dL_law_233 (show _ = (nI 2 : Int32) by decide) ?_
    refine j_iadd CX dL_law_234 ?_
    refine j_top (show nI i + nI 2 = nI (i + 2) from nI_add _ _) ?_
    refine j_sld CX hXs hbl hbA (i + 2) dL_law_235 rfl (by omega) (by omega) ?_
    refine j_callV CX (n := 2) (pre := []) (post := oW o cL ou ++ wx) (rest := []) (qc := (RX6, TX6, 27)) hcm gL_law_X6_value rfl (by decide +kernel) ⟨(Nat.le_of_ble_eq_true rfl), (Nat.le_of_ble_eq_true rfl)⟩ rfl rfl hm0 rfl rfl (Nat.le_of_ble_eq_true rfl) dL_law_236 ⟨hce9 _ (by decide), hsl9 _ (by decide)⟩ (fun r9 w9 h9 => ?_)
    obtain ⟨rfl, e9⟩ := h9
    refine j_w (w' := wm2 ++ (oW o cL ou ++ wx)) (by rw [e9]; rfl) ?_
    refine j_st (st9 := [.int u]) rfl ?_
    refine j_istore CX (lv' := [(6, .int u), (5, .int (nI 1)), (4, .int (nI i)), (0, .ref b), (1, .ref x), (2, .ref a0), (3, .ref o)]) dL_law_239 (by decide) rfl ?_
    refine j_aload_n CX 5 dL_law_241 rfl rfl ?_
    refine j_callV CX (n := 0) (pre := []) (post := oW o cL ou ++ wx) (rest := []) (qc := (RX6, TX6, 27)) hthr gL_law_X6_thrown rfl (by decide +kernel) ⟨(Nat.le_of_ble_eq_true rfl), (Nat.le_of_ble_eq_true rfl)⟩ rfl rfl hm2 rfl rfl (Nat.le_of_ble_eq_true rfl) dL_law_242 ⟨hce9 _ (by decide), hsl9 _ (by decide)⟩ (fun r9 w9 h9 => ?_)
    obtain ⟨rfl, e9⟩ := h9
    refine j_w (w' := wm2 ++ (oW o cL ou ++ wx)) (by rw [e9]; rfl) ?_
    refine j_st (st9 := [.int (nI 1)]) rfl ?_
    refine j_iload CX 1 dL_law_245 rfl ?_
    refine j_icmpN_eq CX (by decide) (by decide) 252 dL_law_247 (by decide) (fun _ => ?_) (fun h => absurd rfl h)
    refine j_iload CX 1 dL_law_252 rfl ?_
    refine j_ifN_ne CX (by decide) 269 dL_law_254 (by decide) (fun _ => ?_) (fun h => absurd h (by decide))
    refine j_goto CX 978 dL_law_269 (by decide) ?_
    refine j_lv (lv' := [(4, .int (nI i)), (0, .ref b), (1, .ref x), (2, .ref a0), (3, .ref o)]) [2, 3, 4, 5, 6] rfl (j_widen (k9 := 100 + (k + 1)) (n9 := 40000 + 6 * (k + 1)) (by have h9 : rmxL_value.cells + rmX6_value.cells + rmX6_thrown.cells ≤ 1 := (by decide); have h8 : rmX6_value.cells + rmX6_thrown.cells ≤ 0 := (by decide); omega) (by have h9 : rmxL_value.slots + rmX6_value.slots + rmX6_thrown.slots ≤ 6 := (by decide); have h8 : rmX6_value.slots + rmX6_thrown.slots ≤ 0 := (by decide); omega) ?_)
    exact kk _ _ _ hrel
set_option maxRecDepth 100000 in
set_option maxHeartbeats 4000000 in
theorem lc_fails {p : Program} {l : Launch} (hl9 : l.stackTraces = false) {e : Env} {s : State} {m : MethodId} {below : List Frame} {meth : Method} {c : Code} {D : va_G} {cI cZ cL : ClassId} {σ : Nat → Nat} {Q : State → Prop} {b L : Nat} {xs : Nat → Int32} {x a0 o : Nat} {Rel : Nat → va_W → va_W → Prop} (hL : L ≤ 2561) (CX : jC p s m #[Value.ref b] c cL_law 7 wsL_law RL D cI cZ cL (fun q : Nat => s.heap.size ≤ q)) (hX : jX σ s) (hZ : jZ (fun q : Nat => s.heap.size ≤ q) s s.heap) (hXs : va_X b L xs s s.heap) (hbl : b < s.heap.size)
    (hRx : ∀ k wx wm, Rel k wx wm → ∃ fs, wx[0]? = some (x, .inr (5, fs))) (hRm : ∀ k wx wm, Rel k wx wm → ∃ fs, wm[0]? = some (a0, .inr (6, fs))) (k i : Nat) (hk : k ≤ 512) (hi : i + 5 ≤ L) (ou : Nat → Int64) (wx wm : va_W) (hR : Rel k wx wm) (on : Nat) (hon : on = if xs (i + 4) = 0 then 0 else 1) (hstep : (∃ (v : Nat) (wx2 wm2 : va_W), v ≤ 1 ∧ CgR l D cI cZ cL yX5_fails wsX5_fails rmX5_fails (.ref x :: [.int (xs (i + 1)), .int (xs (i + 2)), .int (xs (i + 3)), .int (nI on)]) wx (.int (nI v)) wx2 ∧ CgR l D cI cZ cL yX6_fails wsX6_fails rmX6_fails (.ref a0 :: [.int (xs (i + 1)), .int (xs (i + 2)), .int (xs (i + 3)), .int (nI on)]) wm (.int (nI v)) wm2 ∧ Thr l D cI cZ cL a0 0 wm2 ∧ Rel (k + 1) wx2 wm2) ∨
      (∃ (u : Int32) (wm2 : va_W), Cx l D cI cZ cL σ yX5_fails wsX5_fails rmxX5_fails (.ref x :: [.int (xs (i + 1)), .int (xs (i + 2)), .int (xs (i + 3)), .int (nI on)]) wx jIAE ∧ CgR l D cI cZ cL yX6_fails wsX6_fails rmX6_fails (.ref a0 :: [.int (xs (i + 1)), .int (xs (i + 2)), .int (xs (i + 3)), .int (nI on)]) wm (.int u) wm2 ∧ Thr l D cI cZ cL a0 1 wm2 ∧ Rel (k + 1) wx wm2) ∨
      (∃ (u : Int32) (wm2 : va_W), Cx l D cI cZ cL σ yX5_fails wsX5_fails rmxX5_fails (.ref x :: [.int (xs (i + 1)), .int (xs (i + 2)), .int (xs (i + 3)), .int (nI on)]) wx jISE ∧ CgR l D cI cZ cL yX6_fails wsX6_fails rmX6_fails (.ref a0 :: [.int (xs (i + 1)), .int (xs (i + 2)), .int (xs (i + 3)), .int (nI on)]) wm (.int u) wm2 ∧ Thr l D cI cZ cL a0 2 wm2 ∧ Rel (k + 1) wx wm2))
    (kk : ∀ (ou2 : Nat → Int64) (wx2 wm2 : va_W), Rel (k + 1) wx2 wm2 → J p l e room_1 s m #[Value.ref b] below meth c D (fun q : Nat => s.heap.size ≤ q) 7 (100 + (k + 1)) (40000 + 6 * (k + 1)) Q (wm2 ++ (oW o cL ou2 ++ wx2)) 978 [(4, .int (nI i)), (0, .ref b), (1, .ref x), (2, .ref a0), (3, .ref o)] []) : J p l e room_1 s m #[Value.ref b] below meth c D (fun q : Nat => s.heap.size ≤ q) 7 (100 + k) (40000 + 6 * k) Q (wm ++ (oW o cL ou ++ wx)) 272 [(4, .int (nI i)), (0, .ref b), (1, .ref x), (2, .ref a0), (3, .ref o)] [] := by
  have hbA : ¬ (fun q : Nat => s.heap.size ≤ q) b := Nat.not_le.mpr hbl
  obtain ⟨fx, hx0⟩ := hRx k wx wm hR
  obtain ⟨fm, hm0⟩ := hRm k wx wm hR
  have hce : ∀ q : Nat, q ≤ 2 → 100 + k + q ≤ room_1.cells := fun q hq => by show _ ≤ 601024; omega
  have hsl : ∀ q : Nat, q ≤ 6 → 40000 + 6 * k + q ≤ room_1.slots := fun q hq => by show _ ≤ 7293000; omega
  rcases hstep with ⟨v, wx2, wm2, hv1, hcx, hcm, hthr, hrel⟩ | ⟨u, wm2, hcx, hcm, hthr, hrel⟩ | ⟨u, wm2, hcx, hcm, hthr, hrel⟩
  · obtain ⟨fm2, hm2⟩ := hRm _ _ _ hrel
    have hce9 : ∀ q : Nat, q ≤ 1 → 100 + k + 0 + q ≤ room_1.cells := fun q hq => by show _ ≤ 601024; omega
    have hsl9 : ∀ q : Nat, q ≤ 0 → 40000 + 6 * k + 0 + q ≤ room_1.slots := fun q hq => by show _ ≤ 7293000; omega
    have J2 : J p l e room_1 s m #[Value.ref b] below meth c D (fun q : Nat => s.heap.size ≤ q) 7 (100 + k + 0) (40000 + 6 * k + 0) Q (wm ++ (oW o cL (vp_updL ou 0 (lN v)) ++ wx2)) 344 [(5, .int (nI 0)), (4, .int (nI i)), (0, .ref b), (1, .ref x), (2, .ref a0), (3, .ref o)] [.int (nI on), .int (xs (i + 3)), .int (xs (i + 2)), .int (xs (i + 1)), .ref a0] := by
      refine j_callV CX (n := 4) (pre := []) (post := oW o cL (vp_updL ou 0 (lN v)) ++ wx2) (rest := []) (qc := (RX6, TX6, 27)) hcm gL_law_X6_fails rfl (by decide +kernel) ⟨(Nat.le_of_ble_eq_true rfl), (Nat.le_of_ble_eq_true rfl)⟩ rfl rfl hm0 rfl rfl (Nat.le_of_ble_eq_true rfl) dL_law_344 ⟨hce9 _ (by decide), hsl9 _ (by decide)⟩ (fun r9 w9 h9 => ?_)
      obtain ⟨rfl, e9⟩ := h9
      refine j_w (w' := wm2 ++ (oW o cL (vp_updL ou 0 (lN v)) ++ wx2)) (by rw [e9]; rfl) ?_
      refine j_st (st9 := [.int (nI v)]) rfl ?_
      refine j_istore CX (lv' := [(6, .int (nI v)), (5, .int (nI 0)), (4, .int (nI i)), (0, .ref b), (1, .ref x), (2, .ref a0), (3, .ref o)]) dL_law_347 (by decide) rfl ?_
      refine j_aload_n CX 5 dL_law_349 rfl rfl ?_
      refine j_callV CX (n := 0) (pre := []) (post := oW o cL (vp_updL ou 0 (lN v)) ++ wx2) (rest := []) (qc := (RX6, TX6, 27)) hthr gL_law_X6_thrown rfl (by decide +kernel) ⟨(Nat.le_of_ble_eq_true rfl), (Nat.le_of_ble_eq_true rfl)⟩ rfl rfl hm2 rfl rfl (Nat.le_of_ble_eq_true rfl) dL_law_350 ⟨hce9 _ (by decide), hsl9 _ (by decide)⟩ (fun r9 w9 h9 => ?_)
      obtain ⟨rfl, e9⟩ := h9
      refine j_w (w' := wm2 ++ (oW o cL (vp_updL ou 0 (lN v)) ++ wx2)) (by rw [e9]; rfl) ?_
      refine j_st (st9 := [.int (nI 0)]) rfl ?_
      refine j_iload CX 1 dL_law_353 rfl ?_
      refine j_icmpN_eq CX (by decide) (by decide) 360 dL_law_355 (by decide) (fun _ => ?_) (fun h => absurd rfl h)
      refine j_iload CX 1 dL_law_360 rfl ?_
      refine j_ifN_ne CX (by decide) 384 dL_law_362 (by decide) (fun h => absurd rfl h) (fun _ => ?_)
      refine j_aload_n CX 6 dL_law_365 rfl rfl ?_
      refine j_iconst CX dL_law_366 (show _ = (nI 0 : Int32) by decide) ?_
      refine j_lald CX (wm2).length 0 dL_law_367 mid_at rfl (by decide) (by decide) ?_
      refine j_topl (show _ = lN v from pk_uLs) ?_
      refine j_iload CX 0 dL_law_368 rfl ?_
      refine j_ifN_eq CX (by omega) 377 dL_law_370 (by decide) (fun h370 => ?_) (fun h370 => ?_)
      · refine j_lconst CX dL_law_377 (show _ = (lN v : Int64) by rw [h370]; decide) ?_
        refine j_lcmp CX dL_law_378 ?_
        refine j_if_eq CX 384 dL_law_379 (by decide) (fun _ => ?_) (fun h => absurd ((lg_cmp_eq _ _).mpr rfl) h)
        refine j_goto CX 978 dL_law_384 (by decide) ?_
        refine j_lv (lv' := [(4, .int (nI i)), (0, .ref b), (1, .ref x), (2, .ref a0), (3, .ref o)]) [2, 3, 4, 5, 6] rfl (j_widen (k9 := 100 + (k + 1)) (n9 := 40000 + 6 * (k + 1)) (by have h9 : rmL_fails.cells + rmX6_fails.cells + rmX6_thrown.cells ≤ 1 := (by decide); have h8 : rmX6_fails.cells + rmX6_thrown.cells ≤ 0 := (by decide); omega) (by have h9 : rmL_fails.slots + rmX6_fails.slots + rmX6_thrown.slots ≤ 6 := (by decide); have h8 : rmX6_fails.slots + rmX6_thrown.slots ≤ 0 := (by decide); omega) ?_)
        exact kk _ _ _ hrel
      · refine j_lconst CX dL_law_373 (show _ = (lN v : Int64) by rw [show v = 1 by omega]; decide) ?_
        refine j_goto CX 378 dL_law_374 (by decide) ?_
        refine j_lcmp CX dL_law_378 ?_
        refine j_if_eq CX 384 dL_law_379 (by decide) (fun _ => ?_) (fun h => absurd ((lg_cmp_eq _ _).mpr rfl) h)
        refine j_goto CX 978 dL_law_384 (by decide) ?_
        refine j_lv (lv' := [(4, .int (nI i)), (0, .ref b), (1, .ref x), (2, .ref a0), (3, .ref o)]) [2, 3, 4, 5, 6] rfl (j_widen (k9 := 100 + (k + 1)) (n9 := 40000 + 6 * (k + 1)) (by have h9 : rmL_fails.cells + rmX6_fails.cells + rmX6_thrown.cells ≤ 1 := (by decide); have h8 : rmX6_fails.cells + rmX6_thrown.cells ≤ 0 := (by decide); omega) (by have h9 : rmL_fails.slots + rmX6_fails.slots + rmX6_thrown.slots ≤ 6 := (by decide); have h8 : rmX6_fails.slots + rmX6_thrown.slots ≤ 0 := (by decide); omega) ?_)
        exact kk _ _ _ hrel
    have J1 : J p l e room_1 s m #[Value.ref b] below meth c D (fun q : Nat => s.heap.size ≤ q) 7 (100 + k) (40000 + 6 * k) Q (wm ++ (oW o cL ou ++ wx)) 305 [(4, .int (nI i)), (0, .ref b), (1, .ref x), (2, .ref a0), (3, .ref o)] [.int (nI on), .int (xs (i + 3)), .int (xs (i + 2)), .int (xs (i + 1)), .ref x] := by
      refine j_aload_n CX 4 dL_law_305 rfl rfl ?_
      refine j_callSW CX hX hZ (n := 6) (pre := wm) (post := []) (rest := []) (h_fails l hl9 D cI cZ cL σ x o ou wx wx2 fx hx0 (xs (i + 1)) (xs (i + 2)) (xs (i + 3)) (nI on) v hv1 hcx) gL_law_L_fails rfl (by decide +kernel) ⟨(Nat.le_of_ble_eq_true rfl), (Nat.le_of_ble_eq_true rfl)⟩ (by rw [List.append_nil]) rfl rfl (Nat.le_of_ble_eq_true rfl) dL_law_306 ⟨hce _ (by decide), hsl _ (by decide)⟩ (fun r9 w9 h9 => ?_)
      obtain ⟨rfl, e9⟩ := h9
      refine j_w (w' := wm ++ (oW o cL (vp_updL ou 0 (lN v)) ++ wx2)) (by rw [e9, List.append_nil]) ?_
      refine j_st (st9 := [.int (nI 0)]) rfl ?_
      refine j_istore CX (lv' := [(5, .int (nI 0)), (4, .int (nI i)), (0, .ref b), (1, .ref x), (2, .ref a0), (3, .ref o)]) dL_law_309 (by decide) rfl ?_
      refine j_aload_n CX 4 dL_law_311 rfl rfl ?_
      refine j_aload_n CX 2 dL_law_312 rfl rfl ?_
      refine j_iload CX 1 dL_law_313 rfl ?_
      refine j_iconst CX dL_law_315 (show _ = (nI 1 : Int32) by decide) ?_
      refine j_iadd CX dL_law_316 ?_
      refine j_top (show nI i + nI 1 = nI (i + 1) from nI_add _ _) ?_
      refine j_sld CX hXs hbl hbA (i + 1) dL_law_317 rfl (by omega) (by omega) ?_
      refine j_aload_n CX 2 dL_law_318 rfl rfl ?_
      refine j_iload CX 1 dL_law_319 rfl ?_
      refine j_iconst CX dL_law_321 (show _ = (nI 2 : Int32) by decide) ?_
      refine j_iadd CX dL_law_322 ?_
      refine j_top (show nI i + nI 2 = nI (i + 2) from nI_add _ _) ?_
      refine j_sld CX hXs hbl hbA (i + 2) dL_law_323 rfl (by omega) (by omega) ?_
      refine j_aload_n CX 2 dL_law_324 rfl rfl ?_
      refine j_iload CX 1 dL_law_325 rfl ?_
      refine j_iconst CX dL_law_327 (show _ = (nI 3 : Int32) by decide) ?_
      refine j_iadd CX dL_law_328 ?_
      refine j_top (show nI i + nI 3 = nI (i + 3) from nI_add _ _) ?_
      refine j_sld CX hXs hbl hbA (i + 3) dL_law_329 rfl (by omega) (by omega) ?_
      refine j_aload_n CX 2 dL_law_330 rfl rfl ?_
      refine j_iload CX 1 dL_law_331 rfl ?_
      refine j_iconst CX dL_law_333 (show _ = (nI 4 : Int32) by decide) ?_
      refine j_iadd CX dL_law_334 ?_
      refine j_top (show nI i + nI 4 = nI (i + 4) from nI_add _ _) ?_
      refine j_sld CX hXs hbl hbA (i + 4) dL_law_335 rfl (by omega) (by omega) ?_
      refine j_if_eq CX 343 dL_law_336 (by decide) (fun h336 => ?_) (fun h336 => ?_)
      · refine j_iconst CX dL_law_343 (show _ = (nI on : Int32) by rw [hon, if_pos h336]; decide) ?_
        exact J2
      · refine j_iconst CX dL_law_339 (show _ = (nI on : Int32) by rw [hon, if_neg h336]; decide) ?_
        refine j_goto CX 344 dL_law_340 (by decide) ?_
        exact J2
    refine j_aload_n CX 2 dL_law_272 rfl rfl ?_
    refine j_aload_n CX 1 dL_law_273 rfl rfl ?_
    refine j_iload CX 0 dL_law_274 rfl ?_
    refine j_iconst CX dL_law_276 (show _ = (nI 1 : Int32) by decide) ?_
    refine j_iadd CX dL_law_277 ?_
    refine j_top (show nI i + nI 1 = nI (i + 1) from nI_add _ _) ?_
    refine j_sld CX hXs hbl hbA (i + 1) dL_law_278 rfl (by omega) (by omega) ?_
    refine j_aload_n CX 1 dL_law_279 rfl rfl ?_
    refine j_iload CX 0 dL_law_280 rfl ?_
    refine j_iconst CX dL_law_282 (show _ = (nI 2 : Int32) by decide) ?_
    refine j_iadd CX dL_law_283 ?_
    refine j_top (show nI i + nI 2 = nI (i + 2) from nI_add _ _) ?_
    refine j_sld CX hXs hbl hbA (i + 2) dL_law_284 rfl (by omega) (by omega) ?_
    refine j_aload_n CX 1 dL_law_285 rfl rfl ?_
    refine j_iload CX 0 dL_law_286 rfl ?_
    refine j_iconst CX dL_law_288 (show _ = (nI 3 : Int32) by decide) ?_
    refine j_iadd CX dL_law_289 ?_
    refine j_top (show nI i + nI 3 = nI (i + 3) from nI_add _ _) ?_
    refine j_sld CX hXs hbl hbA (i + 3) dL_law_290 rfl (by omega) (by omega) ?_
    refine j_aload_n CX 1 dL_law_291 rfl rfl ?_
    refine j_iload CX 0 dL_law_292 rfl ?_
    refine j_iconst CX dL_law_294 (show _ = (nI 4 : Int32) by decide) ?_
    refine j_iadd CX dL_law_295 ?_
    refine j_top (show nI i + nI 4 = nI (i + 4) from nI_add _ _) ?_
    refine j_sld CX hXs hbl hbA (i + 4) dL_law_296 rfl (by omega) (by omega) ?_
    refine j_if_eq CX 304 dL_law_297 (by decide) (fun h297 => ?_) (fun h297 => ?_)
    · refine j_iconst CX dL_law_304 (show _ = (nI on : Int32) by rw [hon, if_pos h297]; decide) ?_
      exact J1
    · refine j_iconst CX dL_law_300 (show _ = (nI on : Int32) by rw [hon, if_neg h297]; decide) ?_
      refine j_goto CX 305 dL_law_301 (by decide) ?_
      exact J1
  · obtain ⟨fm2, hm2⟩ := hRm _ _ _ hrel
    have hce9 : ∀ q : Nat, q ≤ 1 → 100 + k + 1 + q ≤ room_1.cells := fun q hq => by show _ ≤ 601024; omega
    have hsl9 : ∀ q : Nat, q ≤ 0 → 40000 + 6 * k + 6 + q ≤ room_1.slots := fun q hq => by show _ ≤ 7293000; omega
    have J2 : J p l e room_1 s m #[Value.ref b] below meth c D (fun q : Nat => s.heap.size ≤ q) 7 (100 + k + 1) (40000 + 6 * k + 6) Q (wm ++ (oW o cL ou ++ wx)) 344 [(5, .int (nI 1)), (4, .int (nI i)), (0, .ref b), (1, .ref x), (2, .ref a0), (3, .ref o)] [.int (nI on), .int (xs (i + 3)), .int (xs (i + 2)), .int (xs (i + 1)), .ref a0] := by
      refine j_callV CX (n := 4) (pre := []) (post := oW o cL ou ++ wx) (rest := []) (qc := (RX6, TX6, 27)) hcm gL_law_X6_fails rfl (by decide +kernel) ⟨(Nat.le_of_ble_eq_true rfl), (Nat.le_of_ble_eq_true rfl)⟩ rfl rfl hm0 rfl rfl (Nat.le_of_ble_eq_true rfl) dL_law_344 ⟨hce9 _ (by decide), hsl9 _ (by decide)⟩ (fun r9 w9 h9 => ?_)
      obtain ⟨rfl, e9⟩ := h9
      refine j_w (w' := wm2 ++ (oW o cL ou ++ wx)) (by rw [e9]; rfl) ?_
      refine j_st (st9 := [.int u]) rfl ?_
      refine j_istore CX (lv' := [(6, .int u), (5, .int (nI 1)), (4, .int (nI i)), (0, .ref b), (1, .ref x), (2, .ref a0), (3, .ref o)]) dL_law_347 (by decide) rfl ?_
      refine j_aload_n CX 5 dL_law_349 rfl rfl ?_
      refine j_callV CX (n := 0) (pre := []) (post := oW o cL ou ++ wx) (rest := []) (qc := (RX6, TX6, 27)) hthr gL_law_X6_thrown rfl (by decide +kernel) ⟨(Nat.le_of_ble_eq_true rfl), (Nat.le_of_ble_eq_true rfl)⟩ rfl rfl hm2 rfl rfl (Nat.le_of_ble_eq_true rfl) dL_law_350 ⟨hce9 _ (by decide), hsl9 _ (by decide)⟩ (fun r9 w9 h9 => ?_)
      obtain ⟨rfl, e9⟩ := h9
      refine j_w (w' := wm2 ++ (oW o cL ou ++ wx)) (by rw [e9]; rfl) ?_
      refine j_st (st9 := [.int (nI 1)]) rfl ?_
      refine j_iload CX 1 dL_law_353 rfl ?_
      refine j_icmpN_eq CX (by decide) (by decide) 360 dL_law_355 (by decide) (fun _ => ?_) (fun h => absurd rfl h)
      refine j_iload CX 1 dL_law_360 rfl ?_
      refine j_ifN_ne CX (by decide) 384 dL_law_362 (by decide) (fun _ => ?_) (fun h => absurd h (by decide))
      refine j_goto CX 978 dL_law_384 (by decide) ?_
      refine j_lv (lv' := [(4, .int (nI i)), (0, .ref b), (1, .ref x), (2, .ref a0), (3, .ref o)]) [2, 3, 4, 5, 6] rfl (j_widen (k9 := 100 + (k + 1)) (n9 := 40000 + 6 * (k + 1)) (by have h9 : rmxL_fails.cells + rmX6_fails.cells + rmX6_thrown.cells ≤ 1 := (by decide); have h8 : rmX6_fails.cells + rmX6_thrown.cells ≤ 0 := (by decide); omega) (by have h9 : rmxL_fails.slots + rmX6_fails.slots + rmX6_thrown.slots ≤ 6 := (by decide); have h8 : rmX6_fails.slots + rmX6_thrown.slots ≤ 0 := (by decide); omega) ?_)
      exact kk _ _ _ hrel
    have J1 : J p l e room_1 s m #[Value.ref b] below meth c D (fun q : Nat => s.heap.size ≤ q) 7 (100 + k) (40000 + 6 * k) Q (wm ++ (oW o cL ou ++ wx)) 305 [(4, .int (nI i)), (0, .ref b), (1, .ref x), (2, .ref a0), (3, .ref o)] [.int (nI on), .int (xs (i + 3)), .int (xs (i + 2)), .int (xs (i + 1)), .ref x] := by
      refine j_aload_n CX 4 dL_law_305 rfl rfl ?_
      refine j_callSW CX hX hZ (n := 6) (pre := wm) (post := []) (rest := []) (h_fails_x l hl9 D cI cZ cL σ x o ou wx fx hx0 (xs (i + 1)) (xs (i + 2)) (xs (i + 3)) (nI on) hcx) gL_law_L_fails rfl (by decide +kernel) ⟨(Nat.le_of_ble_eq_true rfl), (Nat.le_of_ble_eq_true rfl)⟩ (by rw [List.append_nil]) rfl rfl (Nat.le_of_ble_eq_true rfl) dL_law_306 ⟨hce _ (by decide), hsl _ (by decide)⟩ (fun r9 w9 h9 => ?_)
      obtain ⟨rfl, e9⟩ := h9
      refine j_w (w' := wm ++ (oW o cL ou ++ wx)) (by rw [e9, List.append_nil]) ?_
      refine j_st (st9 := [.int (nI 1)]) rfl ?_
      refine j_istore CX (lv' := [(5, .int (nI 1)), (4, .int (nI i)), (0, .ref b), (1, .ref x), (2, .ref a0), (3, .ref o)]) dL_law_309 (by decide) rfl ?_
      refine j_aload_n CX 4 dL_law_311 rfl rfl ?_
      refine j_aload_n CX 2 dL_law_312 rfl rfl ?_
      refine j_iload CX 1 dL_law_313 rfl ?_
      refine j_iconst CX dL_law_315 (show _ = (nI 1 : Int32) by decide) ?_
      refine j_iadd CX dL_law_316 ?_
      refine j_top (show nI i + nI 1 = nI (i + 1) from nI_add _ _) ?_
      refine j_sld CX hXs hbl hbA (i + 1) dL_law_317 rfl (by omega) (by omega) ?_
      refine j_aload_n CX 2 dL_law_318 rfl rfl ?_
      refine j_iload CX 1 dL_law_319 rfl ?_
      refine j_iconst CX dL_law_321 (show _ = (nI 2 : Int32) by decide) ?_
      refine j_iadd CX dL_law_322 ?_
      refine j_top (show nI i + nI 2 = nI (i + 2) from nI_add _ _) ?_
      refine j_sld CX hXs hbl hbA (i + 2) dL_law_323 rfl (by omega) (by omega) ?_
      refine j_aload_n CX 2 dL_law_324 rfl rfl ?_
      refine j_iload CX 1 dL_law_325 rfl ?_
      refine j_iconst CX dL_law_327 (show _ = (nI 3 : Int32) by decide) ?_
      refine j_iadd CX dL_law_328 ?_
      refine j_top (show nI i + nI 3 = nI (i + 3) from nI_add _ _) ?_
      refine j_sld CX hXs hbl hbA (i + 3) dL_law_329 rfl (by omega) (by omega) ?_
      refine j_aload_n CX 2 dL_law_330 rfl rfl ?_
      refine j_iload CX 1 dL_law_331 rfl ?_
      refine j_iconst CX dL_law_333 (show _ = (nI 4 : Int32) by decide) ?_
      refine j_iadd CX dL_law_334 ?_
      refine j_top (show nI i + nI 4 = nI (i + 4) from nI_add _ _) ?_
      refine j_sld CX hXs hbl hbA (i + 4) dL_law_335 rfl (by omega) (by omega) ?_
      refine j_if_eq CX 343 dL_law_336 (by decide) (fun h336 => ?_) (fun h336 => ?_)
      · refine j_iconst CX dL_law_343 (show _ = (nI on : Int32) by rw [hon, if_pos h336]; decide) ?_
        exact J2
      · refine j_iconst CX dL_law_339 (show _ = (nI on : Int32) by rw [hon, if_neg h336]; decide) ?_
        refine j_goto CX 344 dL_law_340 (by decide) ?_
        exact J2
    refine j_aload_n CX 2 dL_law_272 rfl rfl ?_
    refine j_aload_n CX 1 dL_law_273 rfl rfl ?_
    refine j_iload CX 0 dL_law_274 rfl ?_
    refine j_iconst CX dL_law_276 (show _ = (nI 1 : Int32) by decide) ?_
    refine j_iadd CX dL_law_277 ?_
    refine j_top (show nI i + nI 1 = nI (i + 1) from nI_add _ _) ?_
    refine j_sld CX hXs hbl hbA (i + 1) dL_law_278 rfl (by omega) (by omega) ?_
    refine j_aload_n CX 1 dL_law_279 rfl rfl ?_
    refine j_iload CX 0 dL_law_280 rfl ?_
    refine j_iconst CX dL_law_282 (show _ = (nI 2 : Int32) by decide) ?_
    refine j_iadd CX dL_law_283 ?_
    refine j_top (show nI i + nI 2 = nI (i + 2) from nI_add _ _) ?_
    refine j_sld CX hXs hbl hbA (i + 2) dL_law_284 rfl (by omega) (by omega) ?_
    refine j_aload_n CX 1 dL_law_285 rfl rfl ?_
    refine j_iload CX 0 dL_law_286 rfl ?_
    refine j_iconst CX dL_law_288 (show _ = (nI 3 : Int32) by decide) ?_
    refine j_iadd CX dL_law_289 ?_
    refine j_top (show nI i + nI 3 = nI (i + 3) from nI_add _ _) ?_
    refine j_sld CX hXs hbl hbA (i + 3) dL_law_290 rfl (by omega) (by omega) ?_
    refine j_aload_n CX 1 dL_law_291 rfl rfl ?_
    refine j_iload CX 0 dL_law_292 rfl ?_
    refine j_iconst CX dL_law_294 (show _ = (nI 4 : Int32) by decide) ?_
    refine j_iadd CX dL_law_295 ?_
    refine j_top (show nI i + nI 4 = nI (i + 4) from nI_add _ _) ?_
    refine j_sld CX hXs hbl hbA (i + 4) dL_law_296 rfl (by omega) (by omega) ?_
    refine j_if_eq CX 304 dL_law_297 (by decide) (fun h297 => ?_) (fun h297 => ?_)
    · refine j_iconst CX dL_law_304 (show _ = (nI on : Int32) by rw [hon, if_pos h297]; decide) ?_
      exact J1
    · refine j_iconst CX dL_law_300 (show _ = (nI on : Int32) by rw [hon, if_neg h297]; decide) ?_
      refine j_goto CX 305 dL_law_301 (by decide) ?_
      exact J1
  · obtain ⟨fm2, hm2⟩ := hRm _ _ _ hrel
    have hce9 : ∀ q : Nat, q ≤ 1 → 100 + k + 1 + q ≤ room_1.cells := fun q hq => by show _ ≤ 601024; omega
    have hsl9 : ∀ q : Nat, q ≤ 0 → 40000 + 6 * k + 6 + q ≤ room_1.slots := fun q hq => by show _ ≤ 7293000; omega
    have J2 : J p l e room_1 s m #[Value.ref b] below meth c D (fun q : Nat => s.heap.size ≤ q) 7 (100 + k + 1) (40000 + 6 * k + 6) Q (wm ++ (oW o cL ou ++ wx)) 344 [(5, .int (nI 2)), (4, .int (nI i)), (0, .ref b), (1, .ref x), (2, .ref a0), (3, .ref o)] [.int (nI on), .int (xs (i + 3)), .int (xs (i + 2)), .int (xs (i + 1)), .ref a0] := by
      refine j_callV CX (n := 4) (pre := []) (post := oW o cL ou ++ wx) (rest := []) (qc := (RX6, TX6, 27)) hcm gL_law_X6_fails rfl (by decide +kernel) ⟨(Nat.le_of_ble_eq_true rfl), (Nat.le_of_ble_eq_true rfl)⟩ rfl rfl hm0 rfl rfl (Nat.le_of_ble_eq_true rfl) dL_law_344 ⟨hce9 _ (by decide), hsl9 _ (by decide)⟩ (fun r9 w9 h9 => ?_)
      obtain ⟨rfl, e9⟩ := h9
      refine j_w (w' := wm2 ++ (oW o cL ou ++ wx)) (by rw [e9]; rfl) ?_
      refine j_st (st9 := [.int u]) rfl ?_
      refine j_istore CX (lv' := [(6, .int u), (5, .int (nI 2)), (4, .int (nI i)), (0, .ref b), (1, .ref x), (2, .ref a0), (3, .ref o)]) dL_law_347 (by decide) rfl ?_
      refine j_aload_n CX 5 dL_law_349 rfl rfl ?_
      refine j_callV CX (n := 0) (pre := []) (post := oW o cL ou ++ wx) (rest := []) (qc := (RX6, TX6, 27)) hthr gL_law_X6_thrown rfl (by decide +kernel) ⟨(Nat.le_of_ble_eq_true rfl), (Nat.le_of_ble_eq_true rfl)⟩ rfl rfl hm2 rfl rfl (Nat.le_of_ble_eq_true rfl) dL_law_350 ⟨hce9 _ (by decide), hsl9 _ (by decide)⟩ (fun r9 w9 h9 => ?_)
      obtain ⟨rfl, e9⟩ := h9
      refine j_w (w' := wm2 ++ (oW o cL ou ++ wx)) (by rw [e9]; rfl) ?_
      refine j_st (st9 := [.int (nI 2)]) rfl ?_
      refine j_iload CX 1 dL_law_353 rfl ?_
      refine j_icmpN_eq CX (by decide) (by decide) 360 dL_law_355 (by decide) (fun _ => ?_) (fun h => absurd rfl h)
      refine j_iload CX 1 dL_law_360 rfl ?_
      refine j_ifN_ne CX (by decide) 384 dL_law_362 (by decide) (fun _ => ?_) (fun h => absurd h (by decide))
      refine j_goto CX 978 dL_law_384 (by decide) ?_
      refine j_lv (lv' := [(4, .int (nI i)), (0, .ref b), (1, .ref x), (2, .ref a0), (3, .ref o)]) [2, 3, 4, 5, 6] rfl (j_widen (k9 := 100 + (k + 1)) (n9 := 40000 + 6 * (k + 1)) (by have h9 : rmxL_fails.cells + rmX6_fails.cells + rmX6_thrown.cells ≤ 1 := (by decide); have h8 : rmX6_fails.cells + rmX6_thrown.cells ≤ 0 := (by decide); omega) (by have h9 : rmxL_fails.slots + rmX6_fails.slots + rmX6_thrown.slots ≤ 6 := (by decide); have h8 : rmX6_fails.slots + rmX6_thrown.slots ≤ 0 := (by decide); omega) ?_)
      exact kk _ _ _ hrel
    have J1 : J p l e room_1 s m #[Value.ref b] below meth c D (fun q : Nat => s.heap.size ≤ q) 7 (100 + k) (40000 + 6 * k) Q (wm ++ (oW o cL ou ++ wx)) 305 [(4, .int (nI i)), (0, .ref b), (1, .ref x), (2, .ref a0), (3, .ref o)] [.int (nI on), .int (xs (i + 3)), .int (xs (i + 2)), .int (xs (i + 1)), .ref x] := by
      refine j_aload_n CX 4 dL_law_305 rfl rfl ?_
      refine j_callSW CX hX hZ (n := 6) (pre := wm) (post := []) (rest := []) (h_fails_xS l hl9 D cI cZ cL σ x o ou wx fx hx0 (xs (i + 1)) (xs (i + 2)) (xs (i + 3)) (nI on) hcx) gL_law_L_fails rfl (by decide +kernel) ⟨(Nat.le_of_ble_eq_true rfl), (Nat.le_of_ble_eq_true rfl)⟩ (by rw [List.append_nil]) rfl rfl (Nat.le_of_ble_eq_true rfl) dL_law_306 ⟨hce _ (by decide), hsl _ (by decide)⟩ (fun r9 w9 h9 => ?_)
      obtain ⟨rfl, e9⟩ := h9
      refine j_w (w' := wm ++ (oW o cL ou ++ wx)) (by rw [e9, List.append_nil]) ?_
      refine j_st (st9 := [.int (nI 2)]) rfl ?_
      refine j_istore CX (lv' := [(5, .int (nI 2)), (4, .int (nI i)), (0, .ref b), (1, .ref x), (2, .ref a0), (3, .ref o)]) dL_law_309 (by decide) rfl ?_
      refine j_aload_n CX 4 dL_law_311 rfl rfl ?_
      refine j_aload_n CX 2 dL_law_312 rfl rfl ?_
      refine j_iload CX 1 dL_law_313 rfl ?_
      refine j_iconst CX dL_law_315 (show _ = (nI 1 : Int32) by decide) ?_
      refine j_iadd CX dL_law_316 ?_
      refine j_top (show nI i + nI 1 = nI (i + 1) from nI_add _ _) ?_
      refine j_sld CX hXs hbl hbA (i + 1) dL_law_317 rfl (by omega) (by omega) ?_
      refine j_aload_n CX 2 dL_law_318 rfl rfl ?_
      refine j_iload CX 1 dL_law_319 rfl ?_
      refine j_iconst CX dL_law_321 (show _ = (nI 2 : Int32) by decide) ?_
      refine j_iadd CX dL_law_322 ?_
      refine j_top (show nI i + nI 2 = nI (i + 2) from nI_add _ _) ?_
      refine j_sld CX hXs hbl hbA (i + 2) dL_law_323 rfl (by omega) (by omega) ?_
      refine j_aload_n CX 2 dL_law_324 rfl rfl ?_
      refine j_iload CX 1 dL_law_325 rfl ?_
      refine j_iconst CX dL_law_327 (show _ = (nI 3 : Int32) by decide) ?_
      refine j_iadd CX dL_law_328 ?_
      refine j_top (show nI i + nI 3 = nI (i + 3) from nI_add _ _) ?_
      refine j_sld CX hXs hbl hbA (i + 3) dL_law_329 rfl (by omega) (by omega) ?_
      refine j_aload_n CX 2 dL_law_330 rfl rfl ?_
      refine j_iload CX 1 dL_law_331 rfl ?_
      refine j_iconst CX dL_law_333 (show _ = (nI 4 : Int32) by decide) ?_
      refine j_iadd CX dL_law_334 ?_
      refine j_top (show nI i + nI 4 = nI (i + 4) from nI_add _ _) ?_
      refine j_sld CX hXs hbl hbA (i + 4) dL_law_335 rfl (by omega) (by omega) ?_
      refine j_if_eq CX 343 dL_law_336 (by decide) (fun h336 => ?_) (fun h336 => ?_)
      · refine j_iconst CX dL_law_343 (show _ = (nI on : Int32) by rw [hon, if_pos h336]; decide) ?_
        exact J2
      · refine j_iconst CX dL_law_339 (show _ = (nI on : Int32) by rw [hon, if_neg h336]; decide) ?_
        refine j_goto CX 344 dL_law_340 (by decide) ?_
        exact J2
    refine j_aload_n CX 2 dL_law_272 rfl rfl ?_
    refine j_aload_n CX 1 dL_law_273 rfl rfl ?_
    refine j_iload CX 0 dL_law_274 rfl ?_
    refine j_iconst CX dL_law_276 (show _ = (nI 1 : Int32) by decide) ?_
    refine j_iadd CX dL_law_277 ?_
    refine j_top (show nI i + nI 1 = nI (i + 1) from nI_add _ _) ?_
    refine j_sld CX hXs hbl hbA (i + 1) dL_law_278 rfl (by omega) (by omega) ?_
    refine j_aload_n CX 1 dL_law_279 rfl rfl ?_
    refine j_iload CX 0 dL_law_280 rfl ?_
    refine j_iconst CX dL_law_282 (show _ = (nI 2 : Int32) by decide) ?_
    refine j_iadd CX dL_law_283 ?_
    refine j_top (show nI i + nI 2 = nI (i + 2) from nI_add _ _) ?_
    refine j_sld CX hXs hbl hbA (i + 2) dL_law_284 rfl (by omega) (by omega) ?_
    refine j_aload_n CX 1 dL_law_285 rfl rfl ?_
    refine j_iload CX 0 dL_law_286 rfl ?_
    refine j_iconst CX dL_law_288 (show _ = (nI 3 : Int32) by decide) ?_
    refine j_iadd CX dL_law_289 ?_
    refine j_top (show nI i + nI 3 = nI (i + 3) from nI_add _ _) ?_
    refine j_sld CX hXs hbl hbA (i + 3) dL_law_290 rfl (by omega) (by omega) ?_
    refine j_aload_n CX 1 dL_law_291 rfl rfl ?_
    refine j_iload CX 0 dL_law_292 rfl ?_
    refine j_iconst CX dL_law_294 (show _ = (nI 4 : Int32) by decide) ?_
    refine j_iadd CX dL_law_295 ?_
    refine j_top (show nI i + nI 4 = nI (i + 4) from nI_add _ _) ?_
    refine j_sld CX hXs hbl hbA (i + 4) dL_law_296 rfl (by omega) (by omega) ?_
    refine j_if_eq CX 304 dL_law_297 (by decide) (fun h297 => ?_) (fun h297 => ?_)
    · refine j_iconst CX dL_law_304 (show _ = (nI on : Int32) by rw [hon, if_pos h297]; decide) ?_
      exact J1
    · refine j_iconst CX dL_law_300 (show _ = (nI on : Int32) by rw [hon, if_neg h297]; decide) ?_
      refine j_goto CX 305 dL_law_301 (by decide) ?_
      exact J1
set_option maxRecDepth 100000 in
set_option maxHeartbeats 4000000 in
theorem lc_stops {p : Program} {l : Launch} (hl9 : l.stackTraces = false) {e : Env} {s : State} {m : MethodId} {below : List Frame} {meth : Method} {c : Code} {D : va_G} {cI cZ cL : ClassId} {σ : Nat → Nat} {Q : State → Prop} {b L : Nat} {xs : Nat → Int32} {x a0 o : Nat} {Rel : Nat → va_W → va_W → Prop} (hL : L ≤ 2561) (CX : jC p s m #[Value.ref b] c cL_law 7 wsL_law RL D cI cZ cL (fun q : Nat => s.heap.size ≤ q)) (hX : jX σ s) (hZ : jZ (fun q : Nat => s.heap.size ≤ q) s s.heap) (hXs : va_X b L xs s s.heap) (hbl : b < s.heap.size)
    (hRx : ∀ k wx wm, Rel k wx wm → ∃ fs, wx[0]? = some (x, .inr (5, fs))) (hRm : ∀ k wx wm, Rel k wx wm → ∃ fs, wm[0]? = some (a0, .inr (6, fs))) (k i : Nat) (hk : k ≤ 512) (hi : i + 5 ≤ L) (ou : Nat → Int64) (wx wm : va_W) (hR : Rel k wx wm) (hstep : StA l D cI cZ cL σ x a0 Rel k yX5_stops wsX5_stops rmX5_stops rmxX5_stops yX6_stops wsX6_stops rmX6_stops [.int (xs (i + 1))] wx wm)
    (kk : ∀ (ou2 : Nat → Int64) (wx2 wm2 : va_W), Rel (k + 1) wx2 wm2 → J p l e room_1 s m #[Value.ref b] below meth c D (fun q : Nat => s.heap.size ≤ q) 7 (100 + (k + 1)) (40000 + 6 * (k + 1)) Q (wm2 ++ (oW o cL ou2 ++ wx2)) 978 [(4, .int (nI i)), (0, .ref b), (1, .ref x), (2, .ref a0), (3, .ref o)] []) : J p l e room_1 s m #[Value.ref b] below meth c D (fun q : Nat => s.heap.size ≤ q) 7 (100 + k) (40000 + 6 * k) Q (wm ++ (oW o cL ou ++ wx)) 387 [(4, .int (nI i)), (0, .ref b), (1, .ref x), (2, .ref a0), (3, .ref o)] [] := by
  have hbA : ¬ (fun q : Nat => s.heap.size ≤ q) b := Nat.not_le.mpr hbl
  obtain ⟨fx, hx0⟩ := hRx k wx wm hR
  obtain ⟨fm, hm0⟩ := hRm k wx wm hR
  have hce : ∀ q : Nat, q ≤ 2 → 100 + k + q ≤ room_1.cells := fun q hq => by show _ ≤ 601024; omega
  have hsl : ∀ q : Nat, q ≤ 6 → 40000 + 6 * k + q ≤ room_1.slots := fun q hq => by show _ ≤ 7293000; omega
  rcases hstep with ⟨v, wx2, wm2, hcx, hcm, hthr, hrel⟩ | ⟨u, wm2, hcx, hcm, hthr, hrel⟩
  · obtain ⟨fm2, hm2⟩ := hRm _ _ _ hrel
    have hce9 : ∀ q : Nat, q ≤ 1 → 100 + k + 0 + q ≤ room_1.cells := fun q hq => by show _ ≤ 601024; omega
    have hsl9 : ∀ q : Nat, q ≤ 0 → 40000 + 6 * k + 0 + q ≤ room_1.slots := fun q hq => by show _ ≤ 7293000; omega
    refine j_aload_n CX 2 dL_law_387 rfl rfl ?_
    refine j_aload_n CX 1 dL_law_388 rfl rfl ?_
    refine j_iload CX 0 dL_law_389 rfl ?_
    refine j_iconst CX dL_law_391 (show _ = (nI 1 : Int32) by decide) ?_
    refine j_iadd CX dL_law_392 ?_
    refine j_top (show nI i + nI 1 = nI (i + 1) from nI_add _ _) ?_
    refine j_sld CX hXs hbl hbA (i + 1) dL_law_393 rfl (by omega) (by omega) ?_
    refine j_aload_n CX 4 dL_law_394 rfl rfl ?_
    refine j_callSW CX hX hZ (n := 3) (pre := wm) (post := []) (rest := []) (h_stops l hl9 D cI cZ cL σ x o ou wx wx2 fx hx0 (xs (i + 1)) v hcx) gL_law_L_stops rfl (by decide +kernel) ⟨(Nat.le_of_ble_eq_true rfl), (Nat.le_of_ble_eq_true rfl)⟩ (by rw [List.append_nil]) rfl rfl (Nat.le_of_ble_eq_true rfl) dL_law_395 ⟨hce _ (by decide), hsl _ (by decide)⟩ (fun r9 w9 h9 => ?_)
    obtain ⟨rfl, e9⟩ := h9
    refine j_w (w' := wm ++ (oW o cL (vp_updL ou 0 (v.toInt64)) ++ wx2)) (by rw [e9, List.append_nil]) ?_
    refine j_st (st9 := [.int (nI 0)]) rfl ?_
    refine j_istore CX (lv' := [(5, .int (nI 0)), (4, .int (nI i)), (0, .ref b), (1, .ref x), (2, .ref a0), (3, .ref o)]) dL_law_398 (by decide) rfl ?_
    refine j_aload_n CX 4 dL_law_400 rfl rfl ?_
    refine j_aload_n CX 2 dL_law_401 rfl rfl ?_
    refine j_iload CX 1 dL_law_402 rfl ?_
    refine j_iconst CX dL_law_404 (show _ = (nI 1 : Int32) by decide) ?_
    refine j_iadd CX dL_law_405 ?_
    refine j_top (show nI i + nI 1 = nI (i + 1) from nI_add _ _) ?_
    refine j_sld CX hXs hbl hbA (i + 1) dL_law_406 rfl (by omega) (by omega) ?_
    refine j_callV CX (n := 1) (pre := []) (post := oW o cL (vp_updL ou 0 (v.toInt64)) ++ wx2) (rest := []) (qc := (RX6, TX6, 27)) hcm gL_law_X6_stops rfl (by decide +kernel) ⟨(Nat.le_of_ble_eq_true rfl), (Nat.le_of_ble_eq_true rfl)⟩ rfl rfl hm0 rfl rfl (Nat.le_of_ble_eq_true rfl) dL_law_407 ⟨hce9 _ (by decide), hsl9 _ (by decide)⟩ (fun r9 w9 h9 => ?_)
    obtain ⟨rfl, e9⟩ := h9
    refine j_w (w' := wm2 ++ (oW o cL (vp_updL ou 0 (v.toInt64)) ++ wx2)) (by rw [e9]; rfl) ?_
    refine j_st (st9 := [.int v]) rfl ?_
    refine j_istore CX (lv' := [(6, .int v), (5, .int (nI 0)), (4, .int (nI i)), (0, .ref b), (1, .ref x), (2, .ref a0), (3, .ref o)]) dL_law_410 (by decide) rfl ?_
    refine j_aload_n CX 5 dL_law_412 rfl rfl ?_
    refine j_callV CX (n := 0) (pre := []) (post := oW o cL (vp_updL ou 0 (v.toInt64)) ++ wx2) (rest := []) (qc := (RX6, TX6, 27)) hthr gL_law_X6_thrown rfl (by decide +kernel) ⟨(Nat.le_of_ble_eq_true rfl), (Nat.le_of_ble_eq_true rfl)⟩ rfl rfl hm2 rfl rfl (Nat.le_of_ble_eq_true rfl) dL_law_413 ⟨hce9 _ (by decide), hsl9 _ (by decide)⟩ (fun r9 w9 h9 => ?_)
    obtain ⟨rfl, e9⟩ := h9
    refine j_w (w' := wm2 ++ (oW o cL (vp_updL ou 0 (v.toInt64)) ++ wx2)) (by rw [e9]; rfl) ?_
    refine j_st (st9 := [.int (nI 0)]) rfl ?_
    refine j_iload CX 1 dL_law_416 rfl ?_
    refine j_icmpN_eq CX (by decide) (by decide) 423 dL_law_418 (by decide) (fun _ => ?_) (fun h => absurd rfl h)
    refine j_iload CX 1 dL_law_423 rfl ?_
    refine j_ifN_ne CX (by decide) 440 dL_law_425 (by decide) (fun h => absurd rfl h) (fun _ => ?_)
    refine j_aload_n CX 6 dL_law_428 rfl rfl ?_
    refine j_iconst CX dL_law_429 (show _ = (nI 0 : Int32) by decide) ?_
    refine j_lald CX (wm2).length 0 dL_law_430 mid_at rfl (by decide) (by decide) ?_
    refine j_topl (show _ = v.toInt64 from pk_uLs) ?_
    refine j_iload CX 0 dL_law_431 rfl ?_
    refine j_i2l CX dL_law_433 ?_
    refine j_lcmp CX dL_law_434 ?_
    refine j_if_eq CX 440 dL_law_435 (by decide) (fun _ => ?_) (fun h => absurd ((lg_cmp_eq _ _).mpr rfl) h)
    refine j_goto CX 978 dL_law_440 (by decide) ?_
    refine j_lv (lv' := [(4, .int (nI i)), (0, .ref b), (1, .ref x), (2, .ref a0), (3, .ref o)]) [2, 3, 4, 5, 6] rfl (j_widen (k9 := 100 + (k + 1)) (n9 := 40000 + 6 * (k + 1)) (by have h9 : rmL_stops.cells + rmX6_stops.cells + rmX6_thrown.cells ≤ 1 := (by decide); have h8 : rmX6_stops.cells + rmX6_thrown.cells ≤ 0 := (by decide); omega) (by have h9 : rmL_stops.slots + rmX6_stops.slots + rmX6_thrown.slots ≤ 6 := (by decide); have h8 : rmX6_stops.slots + rmX6_thrown.slots ≤ 0 := (by decide); omega) ?_)
    exact kk _ _ _ hrel
  · obtain ⟨fm2, hm2⟩ := hRm _ _ _ hrel
    have hce9 : ∀ q : Nat, q ≤ 1 → 100 + k + 1 + q ≤ room_1.cells := fun q hq => by show _ ≤ 601024; omega
    have hsl9 : ∀ q : Nat, q ≤ 0 → 40000 + 6 * k + 6 + q ≤ room_1.slots := fun q hq => by show _ ≤ 7293000; omega
    refine j_aload_n CX 2 dL_law_387 rfl rfl ?_
    refine j_aload_n CX 1 dL_law_388 rfl rfl ?_
    refine j_iload CX 0 dL_law_389 rfl ?_
    refine j_iconst CX dL_law_391 (show _ = (nI 1 : Int32) by decide) ?_
    refine j_iadd CX dL_law_392 ?_
    refine j_top (show nI i + nI 1 = nI (i + 1) from nI_add _ _) ?_
    refine j_sld CX hXs hbl hbA (i + 1) dL_law_393 rfl (by omega) (by omega) ?_
    refine j_aload_n CX 4 dL_law_394 rfl rfl ?_
    refine j_callSW CX hX hZ (n := 3) (pre := wm) (post := []) (rest := []) (h_stops_x l hl9 D cI cZ cL σ x o ou wx fx hx0 (xs (i + 1)) hcx) gL_law_L_stops rfl (by decide +kernel) ⟨(Nat.le_of_ble_eq_true rfl), (Nat.le_of_ble_eq_true rfl)⟩ (by rw [List.append_nil]) rfl rfl (Nat.le_of_ble_eq_true rfl) dL_law_395 ⟨hce _ (by decide), hsl _ (by decide)⟩ (fun r9 w9 h9 => ?_)
    obtain ⟨rfl, e9⟩ := h9
    refine j_w (w' := wm ++ (oW o cL ou ++ wx)) (by rw [e9, List.append_nil]) ?_
    refine j_st (st9 := [.int (nI 1)]) rfl ?_
    refine j_istore CX (lv' := [(5, .int (nI 1)), (4, .int (nI i)), (0, .ref b), (1, .ref x), (2, .ref a0), (3, .ref o)]) dL_law_398 (by decide) rfl ?_
    refine j_aload_n CX 4 dL_law_400 rfl rfl ?_
    refine j_aload_n CX 2 dL_law_401 rfl rfl ?_
    refine j_iload CX 1 dL_law_402 rfl ?_
    refine j_iconst CX dL_law_404 (show _ = (nI 1 : Int32) by decide) ?_
    refine j_iadd CX dL_law_405 ?_
    refine j_top (show nI i + nI 1 = nI (i + 1) from nI_add _ _) ?_
    refine j_sld CX hXs hbl hbA (i + 1) dL_law_406 rfl (by omega) (by omega) ?_
    refine j_callV CX (n := 1) (pre := []) (post := oW o cL ou ++ wx) (rest := []) (qc := (RX6, TX6, 27)) hcm gL_law_X6_stops rfl (by decide +kernel) ⟨(Nat.le_of_ble_eq_true rfl), (Nat.le_of_ble_eq_true rfl)⟩ rfl rfl hm0 rfl rfl (Nat.le_of_ble_eq_true rfl) dL_law_407 ⟨hce9 _ (by decide), hsl9 _ (by decide)⟩ (fun r9 w9 h9 => ?_)
    obtain ⟨rfl, e9⟩ := h9
    refine j_w (w' := wm2 ++ (oW o cL ou ++ wx)) (by rw [e9]; rfl) ?_
    refine j_st (st9 := [.int u]) rfl ?_
    refine j_istore CX (lv' := [(6, .int u), (5, .int (nI 1)), (4, .int (nI i)), (0, .ref b), (1, .ref x), (2, .ref a0), (3, .ref o)]) dL_law_410 (by decide) rfl ?_
    refine j_aload_n CX 5 dL_law_412 rfl rfl ?_
    refine j_callV CX (n := 0) (pre := []) (post := oW o cL ou ++ wx) (rest := []) (qc := (RX6, TX6, 27)) hthr gL_law_X6_thrown rfl (by decide +kernel) ⟨(Nat.le_of_ble_eq_true rfl), (Nat.le_of_ble_eq_true rfl)⟩ rfl rfl hm2 rfl rfl (Nat.le_of_ble_eq_true rfl) dL_law_413 ⟨hce9 _ (by decide), hsl9 _ (by decide)⟩ (fun r9 w9 h9 => ?_)
    obtain ⟨rfl, e9⟩ := h9
    refine j_w (w' := wm2 ++ (oW o cL ou ++ wx)) (by rw [e9]; rfl) ?_
    refine j_st (st9 := [.int (nI 1)]) rfl ?_
    refine j_iload CX 1 dL_law_416 rfl ?_
    refine j_icmpN_eq CX (by decide) (by decide) 423 dL_law_418 (by decide) (fun _ => ?_) (fun h => absurd rfl h)
    refine j_iload CX 1 dL_law_423 rfl ?_
    refine j_ifN_ne CX (by decide) 440 dL_law_425 (by decide) (fun _ => ?_) (fun h => absurd h (by decide))
    refine j_goto CX 978 dL_law_440 (by decide) ?_
    refine j_lv (lv' := [(4, .int (nI i)), (0, .ref b), (1, .ref x), (2, .ref a0), (3, .ref o)]) [2, 3, 4, 5, 6] rfl (j_widen (k9 := 100 + (k + 1)) (n9 := 40000 + 6 * (k + 1)) (by have h9 : rmxL_stops.cells + rmX6_stops.cells + rmX6_thrown.cells ≤ 1 := (by decide); have h8 : rmX6_stops.cells + rmX6_thrown.cells ≤ 0 := (by decide); omega) (by have h9 : rmxL_stops.slots + rmX6_stops.slots + rmX6_thrown.slots ≤ 6 := (by decide); have h8 : rmX6_stops.slots + rmX6_thrown.slots ≤ 0 := (by decide); omega) ?_)
    exact kk _ _ _ hrel
set_option maxRecDepth 100000 in
set_option maxHeartbeats 4000000 in
theorem lc_run {p : Program} {l : Launch} (hl9 : l.stackTraces = false) {e : Env} {s : State} {m : MethodId} {below : List Frame} {meth : Method} {c : Code} {D : va_G} {cI cZ cL : ClassId} {σ : Nat → Nat} {Q : State → Prop} {b L : Nat} {xs : Nat → Int32} {x a0 o : Nat} {Rel : Nat → va_W → va_W → Prop} (hL : L ≤ 2561) (CX : jC p s m #[Value.ref b] c cL_law 7 wsL_law RL D cI cZ cL (fun q : Nat => s.heap.size ≤ q)) (hX : jX σ s) (hZ : jZ (fun q : Nat => s.heap.size ≤ q) s s.heap) (hXs : va_X b L xs s s.heap) (hbl : b < s.heap.size)
    (hRx : ∀ k wx wm, Rel k wx wm → ∃ fs, wx[0]? = some (x, .inr (5, fs))) (hRm : ∀ k wx wm, Rel k wx wm → ∃ fs, wm[0]? = some (a0, .inr (6, fs))) (k i : Nat) (hk : k ≤ 512) (hi : i + 5 ≤ L) (ou : Nat → Int64) (wx wm : va_W) (hR : Rel k wx wm) (hstep : StA l D cI cZ cL σ x a0 Rel k yX5_run wsX5_run rmX5_run rmxX5_run yX6_run wsX6_run rmX6_run [.int (xs (i + 1)), .int (xs (i + 2)), .int (xs (i + 3))] wx wm)
    (kk : ∀ (ou2 : Nat → Int64) (wx2 wm2 : va_W), Rel (k + 1) wx2 wm2 → J p l e room_1 s m #[Value.ref b] below meth c D (fun q : Nat => s.heap.size ≤ q) 7 (100 + (k + 1)) (40000 + 6 * (k + 1)) Q (wm2 ++ (oW o cL ou2 ++ wx2)) 978 [(4, .int (nI i)), (0, .ref b), (1, .ref x), (2, .ref a0), (3, .ref o)] []) : J p l e room_1 s m #[Value.ref b] below meth c D (fun q : Nat => s.heap.size ≤ q) 7 (100 + k) (40000 + 6 * k) Q (wm ++ (oW o cL ou ++ wx)) 443 [(4, .int (nI i)), (0, .ref b), (1, .ref x), (2, .ref a0), (3, .ref o)] [] := by
  have hbA : ¬ (fun q : Nat => s.heap.size ≤ q) b := Nat.not_le.mpr hbl
  obtain ⟨fx, hx0⟩ := hRx k wx wm hR
  obtain ⟨fm, hm0⟩ := hRm k wx wm hR
  have hce : ∀ q : Nat, q ≤ 2 → 100 + k + q ≤ room_1.cells := fun q hq => by show _ ≤ 601024; omega
  have hsl : ∀ q : Nat, q ≤ 6 → 40000 + 6 * k + q ≤ room_1.slots := fun q hq => by show _ ≤ 7293000; omega
  rcases hstep with ⟨v, wx2, wm2, hcx, hcm, hthr, hrel⟩ | ⟨u, wm2, hcx, hcm, hthr, hrel⟩
  · obtain ⟨fm2, hm2⟩ := hRm _ _ _ hrel
    have hce9 : ∀ q : Nat, q ≤ 1 → 100 + k + 0 + q ≤ room_1.cells := fun q hq => by show _ ≤ 601024; omega
    have hsl9 : ∀ q : Nat, q ≤ 0 → 40000 + 6 * k + 0 + q ≤ room_1.slots := fun q hq => by show _ ≤ 7293000; omega
    refine j_aload_n CX 2 dL_law_443 rfl rfl ?_
    refine j_aload_n CX 1 dL_law_444 rfl rfl ?_
    refine j_iload CX 0 dL_law_445 rfl ?_
    refine j_iconst CX dL_law_447 (show _ = (nI 1 : Int32) by decide) ?_
    refine j_iadd CX dL_law_448 ?_
    refine j_top (show nI i + nI 1 = nI (i + 1) from nI_add _ _) ?_
    refine j_sld CX hXs hbl hbA (i + 1) dL_law_449 rfl (by omega) (by omega) ?_
    refine j_aload_n CX 1 dL_law_450 rfl rfl ?_
    refine j_iload CX 0 dL_law_451 rfl ?_
    refine j_iconst CX dL_law_453 (show _ = (nI 2 : Int32) by decide) ?_
    refine j_iadd CX dL_law_454 ?_
    refine j_top (show nI i + nI 2 = nI (i + 2) from nI_add _ _) ?_
    refine j_sld CX hXs hbl hbA (i + 2) dL_law_455 rfl (by omega) (by omega) ?_
    refine j_aload_n CX 1 dL_law_456 rfl rfl ?_
    refine j_iload CX 0 dL_law_457 rfl ?_
    refine j_iconst CX dL_law_459 (show _ = (nI 3 : Int32) by decide) ?_
    refine j_iadd CX dL_law_460 ?_
    refine j_top (show nI i + nI 3 = nI (i + 3) from nI_add _ _) ?_
    refine j_sld CX hXs hbl hbA (i + 3) dL_law_461 rfl (by omega) (by omega) ?_
    refine j_aload_n CX 4 dL_law_462 rfl rfl ?_
    refine j_callSW CX hX hZ (n := 5) (pre := wm) (post := []) (rest := []) (h_run l hl9 D cI cZ cL σ x o ou wx wx2 fx hx0 (xs (i + 1)) (xs (i + 2)) (xs (i + 3)) v hcx) gL_law_L_run rfl (by decide +kernel) ⟨(Nat.le_of_ble_eq_true rfl), (Nat.le_of_ble_eq_true rfl)⟩ (by rw [List.append_nil]) rfl rfl (Nat.le_of_ble_eq_true rfl) dL_law_463 ⟨hce _ (by decide), hsl _ (by decide)⟩ (fun r9 w9 h9 => ?_)
    obtain ⟨rfl, e9⟩ := h9
    refine j_w (w' := wm ++ (oW o cL (vp_updL ou 0 (v.toInt64)) ++ wx2)) (by rw [e9, List.append_nil]) ?_
    refine j_st (st9 := [.int (nI 0)]) rfl ?_
    refine j_istore CX (lv' := [(5, .int (nI 0)), (4, .int (nI i)), (0, .ref b), (1, .ref x), (2, .ref a0), (3, .ref o)]) dL_law_466 (by decide) rfl ?_
    refine j_aload_n CX 4 dL_law_468 rfl rfl ?_
    refine j_aload_n CX 2 dL_law_469 rfl rfl ?_
    refine j_iload CX 1 dL_law_470 rfl ?_
    refine j_iconst CX dL_law_472 (show _ = (nI 1 : Int32) by decide) ?_
    refine j_iadd CX dL_law_473 ?_
    refine j_top (show nI i + nI 1 = nI (i + 1) from nI_add _ _) ?_
    refine j_sld CX hXs hbl hbA (i + 1) dL_law_474 rfl (by omega) (by omega) ?_
    refine j_aload_n CX 2 dL_law_475 rfl rfl ?_
    refine j_iload CX 1 dL_law_476 rfl ?_
    refine j_iconst CX dL_law_478 (show _ = (nI 2 : Int32) by decide) ?_
    refine j_iadd CX dL_law_479 ?_
    refine j_top (show nI i + nI 2 = nI (i + 2) from nI_add _ _) ?_
    refine j_sld CX hXs hbl hbA (i + 2) dL_law_480 rfl (by omega) (by omega) ?_
    refine j_aload_n CX 2 dL_law_481 rfl rfl ?_
    refine j_iload CX 1 dL_law_482 rfl ?_
    refine j_iconst CX dL_law_484 (show _ = (nI 3 : Int32) by decide) ?_
    refine j_iadd CX dL_law_485 ?_
    refine j_top (show nI i + nI 3 = nI (i + 3) from nI_add _ _) ?_
    refine j_sld CX hXs hbl hbA (i + 3) dL_law_486 rfl (by omega) (by omega) ?_
    refine j_callV CX (n := 3) (pre := []) (post := oW o cL (vp_updL ou 0 (v.toInt64)) ++ wx2) (rest := []) (qc := (RX6, TX6, 27)) hcm gL_law_X6_run rfl (by decide +kernel) ⟨(Nat.le_of_ble_eq_true rfl), (Nat.le_of_ble_eq_true rfl)⟩ rfl rfl hm0 rfl rfl (Nat.le_of_ble_eq_true rfl) dL_law_487 ⟨hce9 _ (by decide), hsl9 _ (by decide)⟩ (fun r9 w9 h9 => ?_)
    obtain ⟨rfl, e9⟩ := h9
    refine j_w (w' := wm2 ++ (oW o cL (vp_updL ou 0 (v.toInt64)) ++ wx2)) (by rw [e9]; rfl) ?_
    refine j_st (st9 := [.int v]) rfl ?_
    refine j_istore CX (lv' := [(6, .int v), (5, .int (nI 0)), (4, .int (nI i)), (0, .ref b), (1, .ref x), (2, .ref a0), (3, .ref o)]) dL_law_490 (by decide) rfl ?_
    refine j_aload_n CX 5 dL_law_492 rfl rfl ?_
    refine j_callV CX (n := 0) (pre := []) (post := oW o cL (vp_updL ou 0 (v.toInt64)) ++ wx2) (rest := []) (qc := (RX6, TX6, 27)) hthr gL_law_X6_thrown rfl (by decide +kernel) ⟨(Nat.le_of_ble_eq_true rfl), (Nat.le_of_ble_eq_true rfl)⟩ rfl rfl hm2 rfl rfl (Nat.le_of_ble_eq_true rfl) dL_law_493 ⟨hce9 _ (by decide), hsl9 _ (by decide)⟩ (fun r9 w9 h9 => ?_)
    obtain ⟨rfl, e9⟩ := h9
    refine j_w (w' := wm2 ++ (oW o cL (vp_updL ou 0 (v.toInt64)) ++ wx2)) (by rw [e9]; rfl) ?_
    refine j_st (st9 := [.int (nI 0)]) rfl ?_
    refine j_iload CX 1 dL_law_496 rfl ?_
    refine j_icmpN_eq CX (by decide) (by decide) 503 dL_law_498 (by decide) (fun _ => ?_) (fun h => absurd rfl h)
    refine j_iload CX 1 dL_law_503 rfl ?_
    refine j_ifN_ne CX (by decide) 520 dL_law_505 (by decide) (fun h => absurd rfl h) (fun _ => ?_)
    refine j_aload_n CX 6 dL_law_508 rfl rfl ?_
    refine j_iconst CX dL_law_509 (show _ = (nI 0 : Int32) by decide) ?_
    refine j_lald CX (wm2).length 0 dL_law_510 mid_at rfl (by decide) (by decide) ?_
    refine j_topl (show _ = v.toInt64 from pk_uLs) ?_
    refine j_iload CX 0 dL_law_511 rfl ?_
    refine j_i2l CX dL_law_513 ?_
    refine j_lcmp CX dL_law_514 ?_
    refine j_if_eq CX 520 dL_law_515 (by decide) (fun _ => ?_) (fun h => absurd ((lg_cmp_eq _ _).mpr rfl) h)
    refine j_goto CX 978 dL_law_520 (by decide) ?_
    refine j_lv (lv' := [(4, .int (nI i)), (0, .ref b), (1, .ref x), (2, .ref a0), (3, .ref o)]) [2, 3, 4, 5, 6] rfl (j_widen (k9 := 100 + (k + 1)) (n9 := 40000 + 6 * (k + 1)) (by have h9 : rmL_run.cells + rmX6_run.cells + rmX6_thrown.cells ≤ 1 := (by decide); have h8 : rmX6_run.cells + rmX6_thrown.cells ≤ 0 := (by decide); omega) (by have h9 : rmL_run.slots + rmX6_run.slots + rmX6_thrown.slots ≤ 6 := (by decide); have h8 : rmX6_run.slots + rmX6_thrown.slots ≤ 0 := (by decide); omega) ?_)
    exact kk _ _ _ hrel
  · obtain ⟨fm2, hm2⟩ := hRm _ _ _ hrel
    have hce9 : ∀ q : Nat, q ≤ 1 → 100 + k + 1 + q ≤ room_1.cells := fun q hq => by show _ ≤ 601024; omega
    have hsl9 : ∀ q : Nat, q ≤ 0 → 40000 + 6 * k + 6 + q ≤ room_1.slots := fun q hq => by show _ ≤ 7293000; omega
    refine j_aload_n CX 2 dL_law_443 rfl rfl ?_
    refine j_aload_n CX 1 dL_law_444 rfl rfl ?_
    refine j_iload CX 0 dL_law_445 rfl ?_
    refine j_iconst CX dL_law_447 (show _ = (nI 1 : Int32) by decide) ?_
    refine j_iadd CX dL_law_448 ?_
    refine j_top (show nI i + nI 1 = nI (i + 1) from nI_add _ _) ?_
    refine j_sld CX hXs hbl hbA (i + 1) dL_law_449 rfl (by omega) (by omega) ?_
    refine j_aload_n CX 1 dL_law_450 rfl rfl ?_
    refine j_iload CX 0 dL_law_451 rfl ?_
    refine j_iconst CX dL_law_453 (show _ = (nI 2 : Int32) by decide) ?_
    refine j_iadd CX dL_law_454 ?_
    refine j_top (show nI i + nI 2 = nI (i + 2) from nI_add _ _) ?_
    refine j_sld CX hXs hbl hbA (i + 2) dL_law_455 rfl (by omega) (by omega) ?_
    refine j_aload_n CX 1 dL_law_456 rfl rfl ?_
    refine j_iload CX 0 dL_law_457 rfl ?_
    refine j_iconst CX dL_law_459 (show _ = (nI 3 : Int32) by decide) ?_
    refine j_iadd CX dL_law_460 ?_
    refine j_top (show nI i + nI 3 = nI (i + 3) from nI_add _ _) ?_
    refine j_sld CX hXs hbl hbA (i + 3) dL_law_461 rfl (by omega) (by omega) ?_
    refine j_aload_n CX 4 dL_law_462 rfl rfl ?_
    refine j_callSW CX hX hZ (n := 5) (pre := wm) (post := []) (rest := []) (h_run_x l hl9 D cI cZ cL σ x o ou wx fx hx0 (xs (i + 1)) (xs (i + 2)) (xs (i + 3)) hcx) gL_law_L_run rfl (by decide +kernel) ⟨(Nat.le_of_ble_eq_true rfl), (Nat.le_of_ble_eq_true rfl)⟩ (by rw [List.append_nil]) rfl rfl (Nat.le_of_ble_eq_true rfl) dL_law_463 ⟨hce _ (by decide), hsl _ (by decide)⟩ (fun r9 w9 h9 => ?_)
    obtain ⟨rfl, e9⟩ := h9
    refine j_w (w' := wm ++ (oW o cL ou ++ wx)) (by rw [e9, List.append_nil]) ?_
    refine j_st (st9 := [.int (nI 1)]) rfl ?_
    refine j_istore CX (lv' := [(5, .int (nI 1)), (4, .int (nI i)), (0, .ref b), (1, .ref x), (2, .ref a0), (3, .ref o)]) dL_law_466 (by decide) rfl ?_
    refine j_aload_n CX 4 dL_law_468 rfl rfl ?_
    refine j_aload_n CX 2 dL_law_469 rfl rfl ?_
    refine j_iload CX 1 dL_law_470 rfl ?_
    refine j_iconst CX dL_law_472 (show _ = (nI 1 : Int32) by decide) ?_
    refine j_iadd CX dL_law_473 ?_
    refine j_top (show nI i + nI 1 = nI (i + 1) from nI_add _ _) ?_
    refine j_sld CX hXs hbl hbA (i + 1) dL_law_474 rfl (by omega) (by omega) ?_
    refine j_aload_n CX 2 dL_law_475 rfl rfl ?_
    refine j_iload CX 1 dL_law_476 rfl ?_
    refine j_iconst CX dL_law_478 (show _ = (nI 2 : Int32) by decide) ?_
    refine j_iadd CX dL_law_479 ?_
    refine j_top (show nI i + nI 2 = nI (i + 2) from nI_add _ _) ?_
    refine j_sld CX hXs hbl hbA (i + 2) dL_law_480 rfl (by omega) (by omega) ?_
    refine j_aload_n CX 2 dL_law_481 rfl rfl ?_
    refine j_iload CX 1 dL_law_482 rfl ?_
    refine j_iconst CX dL_law_484 (show _ = (nI 3 : Int32) by decide) ?_
    refine j_iadd CX dL_law_485 ?_
    refine j_top (show nI i + nI 3 = nI (i + 3) from nI_add _ _) ?_
    refine j_sld CX hXs hbl hbA (i + 3) dL_law_486 rfl (by omega) (by omega) ?_
    refine j_callV CX (n := 3) (pre := []) (post := oW o cL ou ++ wx) (rest := []) (qc := (RX6, TX6, 27)) hcm gL_law_X6_run rfl (by decide +kernel) ⟨(Nat.le_of_ble_eq_true rfl), (Nat.le_of_ble_eq_true rfl)⟩ rfl rfl hm0 rfl rfl (Nat.le_of_ble_eq_true rfl) dL_law_487 ⟨hce9 _ (by decide), hsl9 _ (by decide)⟩ (fun r9 w9 h9 => ?_)
    obtain ⟨rfl, e9⟩ := h9
    refine j_w (w' := wm2 ++ (oW o cL ou ++ wx)) (by rw [e9]; rfl) ?_
    refine j_st (st9 := [.int u]) rfl ?_
    refine j_istore CX (lv' := [(6, .int u), (5, .int (nI 1)), (4, .int (nI i)), (0, .ref b), (1, .ref x), (2, .ref a0), (3, .ref o)]) dL_law_490 (by decide) rfl ?_
    refine j_aload_n CX 5 dL_law_492 rfl rfl ?_
    refine j_callV CX (n := 0) (pre := []) (post := oW o cL ou ++ wx) (rest := []) (qc := (RX6, TX6, 27)) hthr gL_law_X6_thrown rfl (by decide +kernel) ⟨(Nat.le_of_ble_eq_true rfl), (Nat.le_of_ble_eq_true rfl)⟩ rfl rfl hm2 rfl rfl (Nat.le_of_ble_eq_true rfl) dL_law_493 ⟨hce9 _ (by decide), hsl9 _ (by decide)⟩ (fun r9 w9 h9 => ?_)
    obtain ⟨rfl, e9⟩ := h9
    refine j_w (w' := wm2 ++ (oW o cL ou ++ wx)) (by rw [e9]; rfl) ?_
    refine j_st (st9 := [.int (nI 1)]) rfl ?_
    refine j_iload CX 1 dL_law_496 rfl ?_
    refine j_icmpN_eq CX (by decide) (by decide) 503 dL_law_498 (by decide) (fun _ => ?_) (fun h => absurd rfl h)
    refine j_iload CX 1 dL_law_503 rfl ?_
    refine j_ifN_ne CX (by decide) 520 dL_law_505 (by decide) (fun _ => ?_) (fun h => absurd h (by decide))
    refine j_goto CX 978 dL_law_520 (by decide) ?_
    refine j_lv (lv' := [(4, .int (nI i)), (0, .ref b), (1, .ref x), (2, .ref a0), (3, .ref o)]) [2, 3, 4, 5, 6] rfl (j_widen (k9 := 100 + (k + 1)) (n9 := 40000 + 6 * (k + 1)) (by have h9 : rmxL_run.cells + rmX6_run.cells + rmX6_thrown.cells ≤ 1 := (by decide); have h8 : rmX6_run.cells + rmX6_thrown.cells ≤ 0 := (by decide); omega) (by have h9 : rmxL_run.slots + rmX6_run.slots + rmX6_thrown.slots ≤ 6 := (by decide); have h8 : rmX6_run.slots + rmX6_thrown.slots ≤ 0 := (by decide); omega) ?_)
    exact kk _ _ _ hrel
set_option maxRecDepth 100000 in
set_option maxHeartbeats 4000000 in
theorem lc_colours {p : Program} {l : Launch} (hl9 : l.stackTraces = false) {e : Env} {s : State} {m : MethodId} {below : List Frame} {meth : Method} {c : Code} {D : va_G} {cI cZ cL : ClassId} {σ : Nat → Nat} {Q : State → Prop} {b L : Nat} {xs : Nat → Int32} {x a0 o : Nat} {Rel : Nat → va_W → va_W → Prop} (hL : L ≤ 2561) (CX : jC p s m #[Value.ref b] c cL_law 7 wsL_law RL D cI cZ cL (fun q : Nat => s.heap.size ≤ q)) (hX : jX σ s) (hZ : jZ (fun q : Nat => s.heap.size ≤ q) s s.heap) (hXs : va_X b L xs s s.heap) (hbl : b < s.heap.size)
    (hRx : ∀ k wx wm, Rel k wx wm → ∃ fs, wx[0]? = some (x, .inr (5, fs))) (hRm : ∀ k wx wm, Rel k wx wm → ∃ fs, wm[0]? = some (a0, .inr (6, fs))) (k i : Nat) (hk : k ≤ 512) (hi : i + 5 ≤ L) (ou : Nat → Int64) (wx wm : va_W) (hR : Rel k wx wm) (hstep : StN l D cI cZ cL x a0 Rel k yX5_colours wsX5_colours rmX5_colours yX6_colours wsX6_colours rmX6_colours wx wm)
    (kk : ∀ (ou2 : Nat → Int64) (wx2 wm2 : va_W), Rel (k + 1) wx2 wm2 → J p l e room_1 s m #[Value.ref b] below meth c D (fun q : Nat => s.heap.size ≤ q) 7 (100 + (k + 1)) (40000 + 6 * (k + 1)) Q (wm2 ++ (oW o cL ou2 ++ wx2)) 978 [(4, .int (nI i)), (0, .ref b), (1, .ref x), (2, .ref a0), (3, .ref o)] []) : J p l e room_1 s m #[Value.ref b] below meth c D (fun q : Nat => s.heap.size ≤ q) 7 (100 + k) (40000 + 6 * k) Q (wm ++ (oW o cL ou ++ wx)) 523 [(4, .int (nI i)), (0, .ref b), (1, .ref x), (2, .ref a0), (3, .ref o)] [] := by
  have hbA : ¬ (fun q : Nat => s.heap.size ≤ q) b := Nat.not_le.mpr hbl
  obtain ⟨fx, hx0⟩ := hRx k wx wm hR
  obtain ⟨fm, hm0⟩ := hRm k wx wm hR
  have hce : ∀ q : Nat, q ≤ 2 → 100 + k + q ≤ room_1.cells := fun q hq => by show _ ≤ 601024; omega
  have hsl : ∀ q : Nat, q ≤ 6 → 40000 + 6 * k + q ≤ room_1.slots := fun q hq => by show _ ≤ 7293000; omega
  obtain ⟨v, wx2, Po, hcx, hcm, hpo⟩ := hstep
  refine j_aload_n CX 2 dL_law_523 rfl rfl ?_
  refine j_callV CX (n := 0) (pre := wm ++ oW o cL ou) (post := []) (rest := []) (qc := (RX5, TX5, 6)) hcx gL_law_X5_colours rfl (by decide +kernel) ⟨(Nat.le_of_ble_eq_true rfl), (Nat.le_of_ble_eq_true rfl)⟩ (by rw [List.append_nil, List.append_assoc]) rfl hx0 rfl rfl (Nat.le_of_ble_eq_true rfl) dL_law_524 ⟨hce _ (by decide), hsl _ (by decide)⟩ (fun r9 w9 h9 => ?_)
  obtain ⟨rfl, e9⟩ := h9
  refine j_w (w' := wm ++ (oW o cL ou ++ wx2)) (by rw [e9, List.append_nil, List.append_assoc]) ?_
  refine j_st (st9 := [.int v]) rfl ?_
  refine j_aload_n CX 3 dL_law_527 rfl rfl ?_
  refine j_callV CX (n := 0) (pre := []) (post := oW o cL ou ++ wx2) (rest := [.int v]) (qc := (RX6, TX6, 27)) hcm gL_law_X6_colours rfl (by decide +kernel) ⟨(Nat.le_of_ble_eq_true rfl), (Nat.le_of_ble_eq_true rfl)⟩ rfl rfl hm0 rfl rfl (Nat.le_of_ble_eq_true rfl) dL_law_528 ⟨hce _ (by decide), hsl _ (by decide)⟩ (fun r9 w9 h9 => ?_)
  obtain ⟨rfl, hrel⟩ := hpo _ _ h9
  refine j_w (w' := w9 ++ (oW o cL ou ++ wx2)) rfl ?_
  refine j_st (st9 := [.int v, .int v]) rfl ?_
  refine j_icmp_eq CX 978 dL_law_531 (by decide) (fun _ => ?_) (fun h => absurd rfl h)
  refine j_widen (k9 := 100 + (k + 1)) (n9 := 40000 + 6 * (k + 1)) (by have h9 : rmX5_colours.cells + rmX6_colours.cells ≤ 1 := (by decide); have h8 : rmX6_colours.cells ≤ 0 := (by decide); omega) (by have h9 : rmX5_colours.slots + rmX6_colours.slots ≤ 6 := (by decide); have h8 : rmX6_colours.slots ≤ 0 := (by decide); omega) ?_
  exact kk _ _ _ hrel
set_option maxRecDepth 100000 in
set_option maxHeartbeats 4000000 in
theorem lc_colour {p : Program} {l : Launch} (hl9 : l.stackTraces = false) {e : Env} {s : State} {m : MethodId} {below : List Frame} {meth : Method} {c : Code} {D : va_G} {cI cZ cL : ClassId} {σ : Nat → Nat} {Q : State → Prop} {b L : Nat} {xs : Nat → Int32} {x a0 o : Nat} {Rel : Nat → va_W → va_W → Prop} (hL : L ≤ 2561) (CX : jC p s m #[Value.ref b] c cL_law 7 wsL_law RL D cI cZ cL (fun q : Nat => s.heap.size ≤ q)) (hX : jX σ s) (hZ : jZ (fun q : Nat => s.heap.size ≤ q) s s.heap) (hXs : va_X b L xs s s.heap) (hbl : b < s.heap.size)
    (hRx : ∀ k wx wm, Rel k wx wm → ∃ fs, wx[0]? = some (x, .inr (5, fs))) (hRm : ∀ k wx wm, Rel k wx wm → ∃ fs, wm[0]? = some (a0, .inr (6, fs))) (k i : Nat) (hk : k ≤ 512) (hi : i + 5 ≤ L) (ou : Nat → Int64) (wx wm : va_W) (hR : Rel k wx wm) (hstep : StA l D cI cZ cL σ x a0 Rel k yX5_colour wsX5_colour rmX5_colour rmxX5_colour yX6_colour wsX6_colour rmX6_colour [.int (xs (i + 1))] wx wm)
    (kk : ∀ (ou2 : Nat → Int64) (wx2 wm2 : va_W), Rel (k + 1) wx2 wm2 → J p l e room_1 s m #[Value.ref b] below meth c D (fun q : Nat => s.heap.size ≤ q) 7 (100 + (k + 1)) (40000 + 6 * (k + 1)) Q (wm2 ++ (oW o cL ou2 ++ wx2)) 978 [(4, .int (nI i)), (0, .ref b), (1, .ref x), (2, .ref a0), (3, .ref o)] []) : J p l e room_1 s m #[Value.ref b] below meth c D (fun q : Nat => s.heap.size ≤ q) 7 (100 + k) (40000 + 6 * k) Q (wm ++ (oW o cL ou ++ wx)) 536 [(4, .int (nI i)), (0, .ref b), (1, .ref x), (2, .ref a0), (3, .ref o)] [] := by
  have hbA : ¬ (fun q : Nat => s.heap.size ≤ q) b := Nat.not_le.mpr hbl
  obtain ⟨fx, hx0⟩ := hRx k wx wm hR
  obtain ⟨fm, hm0⟩ := hRm k wx wm hR
  have hce : ∀ q : Nat, q ≤ 2 → 100 + k + q ≤ room_1.cells := fun q hq => by show _ ≤ 601024; omega
  have hsl : ∀ q : Nat, q ≤ 6 → 40000 + 6 * k + q ≤ room_1.slots := fun q hq => by show _ ≤ 7293000; omega
  rcases hstep with ⟨v, wx2, wm2, hcx, hcm, hthr, hrel⟩ | ⟨u, wm2, hcx, hcm, hthr, hrel⟩
  · obtain ⟨fm2, hm2⟩ := hRm _ _ _ hrel
    have hce9 : ∀ q : Nat, q ≤ 1 → 100 + k + 0 + q ≤ room_1.cells := fun q hq => by show _ ≤ 601024; omega
    have hsl9 : ∀ q : Nat, q ≤ 0 → 40000 + 6 * k + 0 + q ≤ room_1.slots := fun q hq => by show _ ≤ 7293000; omega
    refine j_aload_n CX 2 dL_law_536 rfl rfl ?_
    refine j_aload_n CX 1 dL_law_537 rfl rfl ?_
    refine j_iload CX 0 dL_law_538 rfl ?_
    refine j_iconst CX dL_law_540 (show _ = (nI 1 : Int32) by decide) ?_
    refine j_iadd CX dL_law_541 ?_
    refine j_top (show nI i + nI 1 = nI (i + 1) from nI_add _ _) ?_
    refine j_sld CX hXs hbl hbA (i + 1) dL_law_542 rfl (by omega) (by omega) ?_
    refine j_aload_n CX 4 dL_law_543 rfl rfl ?_
    refine j_callSW CX hX hZ (n := 3) (pre := wm) (post := []) (rest := []) (h_colour l hl9 D cI cZ cL σ x o ou wx wx2 fx hx0 (xs (i + 1)) v hcx) gL_law_L_colour rfl (by decide +kernel) ⟨(Nat.le_of_ble_eq_true rfl), (Nat.le_of_ble_eq_true rfl)⟩ (by rw [List.append_nil]) rfl rfl (Nat.le_of_ble_eq_true rfl) dL_law_544 ⟨hce _ (by decide), hsl _ (by decide)⟩ (fun r9 w9 h9 => ?_)
    obtain ⟨rfl, e9⟩ := h9
    refine j_w (w' := wm ++ (oW o cL (vp_updL ou 0 (v.toInt64)) ++ wx2)) (by rw [e9, List.append_nil]) ?_
    refine j_st (st9 := [.int (nI 0)]) rfl ?_
    refine j_istore CX (lv' := [(5, .int (nI 0)), (4, .int (nI i)), (0, .ref b), (1, .ref x), (2, .ref a0), (3, .ref o)]) dL_law_547 (by decide) rfl ?_
    refine j_aload_n CX 4 dL_law_549 rfl rfl ?_
    refine j_aload_n CX 2 dL_law_550 rfl rfl ?_
    refine j_iload CX 1 dL_law_551 rfl ?_
    refine j_iconst CX dL_law_553 (show _ = (nI 1 : Int32) by decide) ?_
    refine j_iadd CX dL_law_554 ?_
    refine j_top (show nI i + nI 1 = nI (i + 1) from nI_add _ _) ?_
    refine j_sld CX hXs hbl hbA (i + 1) dL_law_555 rfl (by omega) (by omega) ?_
    refine j_callV CX (n := 1) (pre := []) (post := oW o cL (vp_updL ou 0 (v.toInt64)) ++ wx2) (rest := []) (qc := (RX6, TX6, 27)) hcm gL_law_X6_colour rfl (by decide +kernel) ⟨(Nat.le_of_ble_eq_true rfl), (Nat.le_of_ble_eq_true rfl)⟩ rfl rfl hm0 rfl rfl (Nat.le_of_ble_eq_true rfl) dL_law_556 ⟨hce9 _ (by decide), hsl9 _ (by decide)⟩ (fun r9 w9 h9 => ?_)
    obtain ⟨rfl, e9⟩ := h9
    refine j_w (w' := wm2 ++ (oW o cL (vp_updL ou 0 (v.toInt64)) ++ wx2)) (by rw [e9]; rfl) ?_
    refine j_st (st9 := [.int v]) rfl ?_
    refine j_istore CX (lv' := [(6, .int v), (5, .int (nI 0)), (4, .int (nI i)), (0, .ref b), (1, .ref x), (2, .ref a0), (3, .ref o)]) dL_law_559 (by decide) rfl ?_
    refine j_aload_n CX 5 dL_law_561 rfl rfl ?_
    refine j_callV CX (n := 0) (pre := []) (post := oW o cL (vp_updL ou 0 (v.toInt64)) ++ wx2) (rest := []) (qc := (RX6, TX6, 27)) hthr gL_law_X6_thrown rfl (by decide +kernel) ⟨(Nat.le_of_ble_eq_true rfl), (Nat.le_of_ble_eq_true rfl)⟩ rfl rfl hm2 rfl rfl (Nat.le_of_ble_eq_true rfl) dL_law_562 ⟨hce9 _ (by decide), hsl9 _ (by decide)⟩ (fun r9 w9 h9 => ?_)
    obtain ⟨rfl, e9⟩ := h9
    refine j_w (w' := wm2 ++ (oW o cL (vp_updL ou 0 (v.toInt64)) ++ wx2)) (by rw [e9]; rfl) ?_
    refine j_st (st9 := [.int (nI 0)]) rfl ?_
    refine j_iload CX 1 dL_law_565 rfl ?_
    refine j_icmpN_eq CX (by decide) (by decide) 572 dL_law_567 (by decide) (fun _ => ?_) (fun h => absurd rfl h)
    refine j_iload CX 1 dL_law_572 rfl ?_
    refine j_ifN_ne CX (by decide) 589 dL_law_574 (by decide) (fun h => absurd rfl h) (fun _ => ?_)
    refine j_aload_n CX 6 dL_law_577 rfl rfl ?_
    refine j_iconst CX dL_law_578 (show _ = (nI 0 : Int32) by decide) ?_
    refine j_lald CX (wm2).length 0 dL_law_579 mid_at rfl (by decide) (by decide) ?_
    refine j_topl (show _ = v.toInt64 from pk_uLs) ?_
    refine j_iload CX 0 dL_law_580 rfl ?_
    refine j_i2l CX dL_law_582 ?_
    refine j_lcmp CX dL_law_583 ?_
    refine j_if_eq CX 589 dL_law_584 (by decide) (fun _ => ?_) (fun h => absurd ((lg_cmp_eq _ _).mpr rfl) h)
    refine j_goto CX 978 dL_law_589 (by decide) ?_
    refine j_lv (lv' := [(4, .int (nI i)), (0, .ref b), (1, .ref x), (2, .ref a0), (3, .ref o)]) [2, 3, 4, 5, 6] rfl (j_widen (k9 := 100 + (k + 1)) (n9 := 40000 + 6 * (k + 1)) (by have h9 : rmL_colour.cells + rmX6_colour.cells + rmX6_thrown.cells ≤ 1 := (by decide); have h8 : rmX6_colour.cells + rmX6_thrown.cells ≤ 0 := (by decide); omega) (by have h9 : rmL_colour.slots + rmX6_colour.slots + rmX6_thrown.slots ≤ 6 := (by decide); have h8 : rmX6_colour.slots + rmX6_thrown.slots ≤ 0 := (by decide); omega) ?_)
    exact kk _ _ _ hrel
  · obtain ⟨fm2, hm2⟩ := hRm _ _ _ hrel
    have hce9 : ∀ q : Nat, q ≤ 1 → 100 + k + 1 + q ≤ room_1.cells := fun q hq => by show _ ≤ 601024; omega
    have hsl9 : ∀ q : Nat, q ≤ 0 → 40000 + 6 * k + 6 + q ≤ room_1.slots := fun q hq => by show _ ≤ 7293000; omega
    refine j_aload_n CX 2 dL_law_536 rfl rfl ?_
    refine j_aload_n CX 1 dL_law_537 rfl rfl ?_
    refine j_iload CX 0 dL_law_538 rfl ?_
    refine j_iconst CX dL_law_540 (show _ = (nI 1 : Int32) by decide) ?_
    refine j_iadd CX dL_law_541 ?_
    refine j_top (show nI i + nI 1 = nI (i + 1) from nI_add _ _) ?_
    refine j_sld CX hXs hbl hbA (i + 1) dL_law_542 rfl (by omega) (by omega) ?_
    refine j_aload_n CX 4 dL_law_543 rfl rfl ?_
    refine j_callSW CX hX hZ (n := 3) (pre := wm) (post := []) (rest := []) (h_colour_x l hl9 D cI cZ cL σ x o ou wx fx hx0 (xs (i + 1)) hcx) gL_law_L_colour rfl (by decide +kernel) ⟨(Nat.le_of_ble_eq_true rfl), (Nat.le_of_ble_eq_true rfl)⟩ (by rw [List.append_nil]) rfl rfl (Nat.le_of_ble_eq_true rfl) dL_law_544 ⟨hce _ (by decide), hsl _ (by decide)⟩ (fun r9 w9 h9 => ?_)
    obtain ⟨rfl, e9⟩ := h9
    refine j_w (w' := wm ++ (oW o cL ou ++ wx)) (by rw [e9, List.append_nil]) ?_
    refine j_st (st9 := [.int (nI 1)]) rfl ?_
    refine j_istore CX (lv' := [(5, .int (nI 1)), (4, .int (nI i)), (0, .ref b), (1, .ref x), (2, .ref a0), (3, .ref o)]) dL_law_547 (by decide) rfl ?_
    refine j_aload_n CX 4 dL_law_549 rfl rfl ?_
    refine j_aload_n CX 2 dL_law_550 rfl rfl ?_
    refine j_iload CX 1 dL_law_551 rfl ?_
    refine j_iconst CX dL_law_553 (show _ = (nI 1 : Int32) by decide) ?_
    refine j_iadd CX dL_law_554 ?_
    refine j_top (show nI i + nI 1 = nI (i + 1) from nI_add _ _) ?_
    refine j_sld CX hXs hbl hbA (i + 1) dL_law_555 rfl (by omega) (by omega) ?_
    refine j_callV CX (n := 1) (pre := []) (post := oW o cL ou ++ wx) (rest := []) (qc := (RX6, TX6, 27)) hcm gL_law_X6_colour rfl (by decide +kernel) ⟨(Nat.le_of_ble_eq_true rfl), (Nat.le_of_ble_eq_true rfl)⟩ rfl rfl hm0 rfl rfl (Nat.le_of_ble_eq_true rfl) dL_law_556 ⟨hce9 _ (by decide), hsl9 _ (by decide)⟩ (fun r9 w9 h9 => ?_)
    obtain ⟨rfl, e9⟩ := h9
    refine j_w (w' := wm2 ++ (oW o cL ou ++ wx)) (by rw [e9]; rfl) ?_
    refine j_st (st9 := [.int u]) rfl ?_
    refine j_istore CX (lv' := [(6, .int u), (5, .int (nI 1)), (4, .int (nI i)), (0, .ref b), (1, .ref x), (2, .ref a0), (3, .ref o)]) dL_law_559 (by decide) rfl ?_
    refine j_aload_n CX 5 dL_law_561 rfl rfl ?_
    refine j_callV CX (n := 0) (pre := []) (post := oW o cL ou ++ wx) (rest := []) (qc := (RX6, TX6, 27)) hthr gL_law_X6_thrown rfl (by decide +kernel) ⟨(Nat.le_of_ble_eq_true rfl), (Nat.le_of_ble_eq_true rfl)⟩ rfl rfl hm2 rfl rfl (Nat.le_of_ble_eq_true rfl) dL_law_562 ⟨hce9 _ (by decide), hsl9 _ (by decide)⟩ (fun r9 w9 h9 => ?_)
    obtain ⟨rfl, e9⟩ := h9
    refine j_w (w' := wm2 ++ (oW o cL ou ++ wx)) (by rw [e9]; rfl) ?_
    refine j_st (st9 := [.int (nI 1)]) rfl ?_
    refine j_iload CX 1 dL_law_565 rfl ?_
    refine j_icmpN_eq CX (by decide) (by decide) 572 dL_law_567 (by decide) (fun _ => ?_) (fun h => absurd rfl h)
    refine j_iload CX 1 dL_law_572 rfl ?_
    refine j_ifN_ne CX (by decide) 589 dL_law_574 (by decide) (fun _ => ?_) (fun h => absurd h (by decide))
    refine j_goto CX 978 dL_law_589 (by decide) ?_
    refine j_lv (lv' := [(4, .int (nI i)), (0, .ref b), (1, .ref x), (2, .ref a0), (3, .ref o)]) [2, 3, 4, 5, 6] rfl (j_widen (k9 := 100 + (k + 1)) (n9 := 40000 + 6 * (k + 1)) (by have h9 : rmxL_colour.cells + rmX6_colour.cells + rmX6_thrown.cells ≤ 1 := (by decide); have h8 : rmX6_colour.cells + rmX6_thrown.cells ≤ 0 := (by decide); omega) (by have h9 : rmxL_colour.slots + rmX6_colour.slots + rmX6_thrown.slots ≤ 6 := (by decide); have h8 : rmX6_colour.slots + rmX6_thrown.slots ≤ 0 := (by decide); omega) ?_)
    exact kk _ _ _ hrel
set_option maxRecDepth 100000 in
set_option maxHeartbeats 4000000 in
theorem lc_at {p : Program} {l : Launch} (hl9 : l.stackTraces = false) {e : Env} {s : State} {m : MethodId} {below : List Frame} {meth : Method} {c : Code} {D : va_G} {cI cZ cL : ClassId} {σ : Nat → Nat} {Q : State → Prop} {b L : Nat} {xs : Nat → Int32} {x a0 o : Nat} {Rel : Nat → va_W → va_W → Prop} (hL : L ≤ 2561) (CX : jC p s m #[Value.ref b] c cL_law 7 wsL_law RL D cI cZ cL (fun q : Nat => s.heap.size ≤ q)) (hX : jX σ s) (hZ : jZ (fun q : Nat => s.heap.size ≤ q) s s.heap) (hXs : va_X b L xs s s.heap) (hbl : b < s.heap.size)
    (hRx : ∀ k wx wm, Rel k wx wm → ∃ fs, wx[0]? = some (x, .inr (5, fs))) (hRm : ∀ k wx wm, Rel k wx wm → ∃ fs, wm[0]? = some (a0, .inr (6, fs))) (k i : Nat) (hk : k ≤ 512) (hi : i + 5 ≤ L) (ou : Nat → Int64) (wx wm : va_W) (hR : Rel k wx wm) (hstep : StA l D cI cZ cL σ x a0 Rel k yX5_at wsX5_at rmX5_at rmxX5_at yX6_at wsX6_at rmX6_at [.int (xs (i + 1))] wx wm)
    (kk : ∀ (ou2 : Nat → Int64) (wx2 wm2 : va_W), Rel (k + 1) wx2 wm2 → J p l e room_1 s m #[Value.ref b] below meth c D (fun q : Nat => s.heap.size ≤ q) 7 (100 + (k + 1)) (40000 + 6 * (k + 1)) Q (wm2 ++ (oW o cL ou2 ++ wx2)) 978 [(4, .int (nI i)), (0, .ref b), (1, .ref x), (2, .ref a0), (3, .ref o)] []) : J p l e room_1 s m #[Value.ref b] below meth c D (fun q : Nat => s.heap.size ≤ q) 7 (100 + k) (40000 + 6 * k) Q (wm ++ (oW o cL ou ++ wx)) 592 [(4, .int (nI i)), (0, .ref b), (1, .ref x), (2, .ref a0), (3, .ref o)] [] := by
  have hbA : ¬ (fun q : Nat => s.heap.size ≤ q) b := Nat.not_le.mpr hbl
  obtain ⟨fx, hx0⟩ := hRx k wx wm hR
  obtain ⟨fm, hm0⟩ := hRm k wx wm hR
  have hce : ∀ q : Nat, q ≤ 2 → 100 + k + q ≤ room_1.cells := fun q hq => by show _ ≤ 601024; omega
  have hsl : ∀ q : Nat, q ≤ 6 → 40000 + 6 * k + q ≤ room_1.slots := fun q hq => by show _ ≤ 7293000; omega
  rcases hstep with ⟨v, wx2, wm2, hcx, hcm, hthr, hrel⟩ | ⟨u, wm2, hcx, hcm, hthr, hrel⟩
  · obtain ⟨fm2, hm2⟩ := hRm _ _ _ hrel
    have hce9 : ∀ q : Nat, q ≤ 1 → 100 + k + 0 + q ≤ room_1.cells := fun q hq => by show _ ≤ 601024; omega
    have hsl9 : ∀ q : Nat, q ≤ 0 → 40000 + 6 * k + 0 + q ≤ room_1.slots := fun q hq => by show _ ≤ 7293000; omega
    refine j_aload_n CX 2 dL_law_592 rfl rfl ?_
    refine j_aload_n CX 1 dL_law_593 rfl rfl ?_
    refine j_iload CX 0 dL_law_594 rfl ?_
    refine j_iconst CX dL_law_596 (show _ = (nI 1 : Int32) by decide) ?_
    refine j_iadd CX dL_law_597 ?_
    refine j_top (show nI i + nI 1 = nI (i + 1) from nI_add _ _) ?_
    refine j_sld CX hXs hbl hbA (i + 1) dL_law_598 rfl (by omega) (by omega) ?_
    refine j_aload_n CX 4 dL_law_599 rfl rfl ?_
    refine j_callSW CX hX hZ (n := 3) (pre := wm) (post := []) (rest := []) (h_at l hl9 D cI cZ cL σ x o ou wx wx2 fx hx0 (xs (i + 1)) v hcx) gL_law_L_at rfl (by decide +kernel) ⟨(Nat.le_of_ble_eq_true rfl), (Nat.le_of_ble_eq_true rfl)⟩ (by rw [List.append_nil]) rfl rfl (Nat.le_of_ble_eq_true rfl) dL_law_600 ⟨hce _ (by decide), hsl _ (by decide)⟩ (fun r9 w9 h9 => ?_)
    obtain ⟨rfl, e9⟩ := h9
    refine j_w (w' := wm ++ (oW o cL (vp_updL ou 0 (v.toInt64)) ++ wx2)) (by rw [e9, List.append_nil]) ?_
    refine j_st (st9 := [.int (nI 0)]) rfl ?_
    refine j_istore CX (lv' := [(5, .int (nI 0)), (4, .int (nI i)), (0, .ref b), (1, .ref x), (2, .ref a0), (3, .ref o)]) dL_law_603 (by decide) rfl ?_
    refine j_aload_n CX 4 dL_law_605 rfl rfl ?_
    refine j_aload_n CX 2 dL_law_606 rfl rfl ?_
    refine j_iload CX 1 dL_law_607 rfl ?_
    refine j_iconst CX dL_law_609 (show _ = (nI 1 : Int32) by decide) ?_
    refine j_iadd CX dL_law_610 ?_
    refine j_top (show nI i + nI 1 = nI (i + 1) from nI_add _ _) ?_
    refine j_sld CX hXs hbl hbA (i + 1) dL_law_611 rfl (by omega) (by omega) ?_
    refine j_callV CX (n := 1) (pre := []) (post := oW o cL (vp_updL ou 0 (v.toInt64)) ++ wx2) (rest := []) (qc := (RX6, TX6, 27)) hcm gL_law_X6_at rfl (by decide +kernel) ⟨(Nat.le_of_ble_eq_true rfl), (Nat.le_of_ble_eq_true rfl)⟩ rfl rfl hm0 rfl rfl (Nat.le_of_ble_eq_true rfl) dL_law_612 ⟨hce9 _ (by decide), hsl9 _ (by decide)⟩ (fun r9 w9 h9 => ?_)
    obtain ⟨rfl, e9⟩ := h9
    refine j_w (w' := wm2 ++ (oW o cL (vp_updL ou 0 (v.toInt64)) ++ wx2)) (by rw [e9]; rfl) ?_
    refine j_st (st9 := [.int v]) rfl ?_
    refine j_istore CX (lv' := [(6, .int v), (5, .int (nI 0)), (4, .int (nI i)), (0, .ref b), (1, .ref x), (2, .ref a0), (3, .ref o)]) dL_law_615 (by decide) rfl ?_
    refine j_aload_n CX 5 dL_law_617 rfl rfl ?_
    refine j_callV CX (n := 0) (pre := []) (post := oW o cL (vp_updL ou 0 (v.toInt64)) ++ wx2) (rest := []) (qc := (RX6, TX6, 27)) hthr gL_law_X6_thrown rfl (by decide +kernel) ⟨(Nat.le_of_ble_eq_true rfl), (Nat.le_of_ble_eq_true rfl)⟩ rfl rfl hm2 rfl rfl (Nat.le_of_ble_eq_true rfl) dL_law_618 ⟨hce9 _ (by decide), hsl9 _ (by decide)⟩ (fun r9 w9 h9 => ?_)
    obtain ⟨rfl, e9⟩ := h9
    refine j_w (w' := wm2 ++ (oW o cL (vp_updL ou 0 (v.toInt64)) ++ wx2)) (by rw [e9]; rfl) ?_
    refine j_st (st9 := [.int (nI 0)]) rfl ?_
    refine j_iload CX 1 dL_law_621 rfl ?_
    refine j_icmpN_eq CX (by decide) (by decide) 628 dL_law_623 (by decide) (fun _ => ?_) (fun h => absurd rfl h)
    refine j_iload CX 1 dL_law_628 rfl ?_
    refine j_ifN_ne CX (by decide) 645 dL_law_630 (by decide) (fun h => absurd rfl h) (fun _ => ?_)
    refine j_aload_n CX 6 dL_law_633 rfl rfl ?_
    refine j_iconst CX dL_law_634 (show _ = (nI 0 : Int32) by decide) ?_
    refine j_lald CX (wm2).length 0 dL_law_635 mid_at rfl (by decide) (by decide) ?_
    refine j_topl (show _ = v.toInt64 from pk_uLs) ?_
    refine j_iload CX 0 dL_law_636 rfl ?_
    refine j_i2l CX dL_law_638 ?_
    refine j_lcmp CX dL_law_639 ?_
    refine j_if_eq CX 645 dL_law_640 (by decide) (fun _ => ?_) (fun h => absurd ((lg_cmp_eq _ _).mpr rfl) h)
    refine j_goto CX 978 dL_law_645 (by decide) ?_
    refine j_lv (lv' := [(4, .int (nI i)), (0, .ref b), (1, .ref x), (2, .ref a0), (3, .ref o)]) [2, 3, 4, 5, 6] rfl (j_widen (k9 := 100 + (k + 1)) (n9 := 40000 + 6 * (k + 1)) (by have h9 : rmL_at.cells + rmX6_at.cells + rmX6_thrown.cells ≤ 1 := (by decide); have h8 : rmX6_at.cells + rmX6_thrown.cells ≤ 0 := (by decide); omega) (by have h9 : rmL_at.slots + rmX6_at.slots + rmX6_thrown.slots ≤ 6 := (by decide); have h8 : rmX6_at.slots + rmX6_thrown.slots ≤ 0 := (by decide); omega) ?_)
    exact kk _ _ _ hrel
  · obtain ⟨fm2, hm2⟩ := hRm _ _ _ hrel
    have hce9 : ∀ q : Nat, q ≤ 1 → 100 + k + 1 + q ≤ room_1.cells := fun q hq => by show _ ≤ 601024; omega
    have hsl9 : ∀ q : Nat, q ≤ 0 → 40000 + 6 * k + 6 + q ≤ room_1.slots := fun q hq => by show _ ≤ 7293000; omega
    refine j_aload_n CX 2 dL_law_592 rfl rfl ?_
    refine j_aload_n CX 1 dL_law_593 rfl rfl ?_
    refine j_iload CX 0 dL_law_594 rfl ?_
    refine j_iconst CX dL_law_596 (show _ = (nI 1 : Int32) by decide) ?_
    refine j_iadd CX dL_law_597 ?_
    refine j_top (show nI i + nI 1 = nI (i + 1) from nI_add _ _) ?_
    refine j_sld CX hXs hbl hbA (i + 1) dL_law_598 rfl (by omega) (by omega) ?_
    refine j_aload_n CX 4 dL_law_599 rfl rfl ?_
    refine j_callSW CX hX hZ (n := 3) (pre := wm) (post := []) (rest := []) (h_at_x l hl9 D cI cZ cL σ x o ou wx fx hx0 (xs (i + 1)) hcx) gL_law_L_at rfl (by decide +kernel) ⟨(Nat.le_of_ble_eq_true rfl), (Nat.le_of_ble_eq_true rfl)⟩ (by rw [List.append_nil]) rfl rfl (Nat.le_of_ble_eq_true rfl) dL_law_600 ⟨hce _ (by decide), hsl _ (by decide)⟩ (fun r9 w9 h9 => ?_)
    obtain ⟨rfl, e9⟩ := h9
    refine j_w (w' := wm ++ (oW o cL ou ++ wx)) (by rw [e9, List.append_nil]) ?_
    refine j_st (st9 := [.int (nI 1)]) rfl ?_
    refine j_istore CX (lv' := [(5, .int (nI 1)), (4, .int (nI i)), (0, .ref b), (1, .ref x), (2, .ref a0), (3, .ref o)]) dL_law_603 (by decide) rfl ?_
    refine j_aload_n CX 4 dL_law_605 rfl rfl ?_
    refine j_aload_n CX 2 dL_law_606 rfl rfl ?_
    refine j_iload CX 1 dL_law_607 rfl ?_
    refine j_iconst CX dL_law_609 (show _ = (nI 1 : Int32) by decide) ?_
    refine j_iadd CX dL_law_610 ?_
    refine j_top (show nI i + nI 1 = nI (i + 1) from nI_add _ _) ?_
    refine j_sld CX hXs hbl hbA (i + 1) dL_law_611 rfl (by omega) (by omega) ?_
    refine j_callV CX (n := 1) (pre := []) (post := oW o cL ou ++ wx) (rest := []) (qc := (RX6, TX6, 27)) hcm gL_law_X6_at rfl (by decide +kernel) ⟨(Nat.le_of_ble_eq_true rfl), (Nat.le_of_ble_eq_true rfl)⟩ rfl rfl hm0 rfl rfl (Nat.le_of_ble_eq_true rfl) dL_law_612 ⟨hce9 _ (by decide), hsl9 _ (by decide)⟩ (fun r9 w9 h9 => ?_)
    obtain ⟨rfl, e9⟩ := h9
    refine j_w (w' := wm2 ++ (oW o cL ou ++ wx)) (by rw [e9]; rfl) ?_
    refine j_st (st9 := [.int u]) rfl ?_
    refine j_istore CX (lv' := [(6, .int u), (5, .int (nI 1)), (4, .int (nI i)), (0, .ref b), (1, .ref x), (2, .ref a0), (3, .ref o)]) dL_law_615 (by decide) rfl ?_
    refine j_aload_n CX 5 dL_law_617 rfl rfl ?_
    refine j_callV CX (n := 0) (pre := []) (post := oW o cL ou ++ wx) (rest := []) (qc := (RX6, TX6, 27)) hthr gL_law_X6_thrown rfl (by decide +kernel) ⟨(Nat.le_of_ble_eq_true rfl), (Nat.le_of_ble_eq_true rfl)⟩ rfl rfl hm2 rfl rfl (Nat.le_of_ble_eq_true rfl) dL_law_618 ⟨hce9 _ (by decide), hsl9 _ (by decide)⟩ (fun r9 w9 h9 => ?_)
    obtain ⟨rfl, e9⟩ := h9
    refine j_w (w' := wm2 ++ (oW o cL ou ++ wx)) (by rw [e9]; rfl) ?_
    refine j_st (st9 := [.int (nI 1)]) rfl ?_
    refine j_iload CX 1 dL_law_621 rfl ?_
    refine j_icmpN_eq CX (by decide) (by decide) 628 dL_law_623 (by decide) (fun _ => ?_) (fun h => absurd rfl h)
    refine j_iload CX 1 dL_law_628 rfl ?_
    refine j_ifN_ne CX (by decide) 645 dL_law_630 (by decide) (fun _ => ?_) (fun h => absurd h (by decide))
    refine j_goto CX 978 dL_law_645 (by decide) ?_
    refine j_lv (lv' := [(4, .int (nI i)), (0, .ref b), (1, .ref x), (2, .ref a0), (3, .ref o)]) [2, 3, 4, 5, 6] rfl (j_widen (k9 := 100 + (k + 1)) (n9 := 40000 + 6 * (k + 1)) (by have h9 : rmxL_at.cells + rmX6_at.cells + rmX6_thrown.cells ≤ 1 := (by decide); have h8 : rmX6_at.cells + rmX6_thrown.cells ≤ 0 := (by decide); omega) (by have h9 : rmxL_at.slots + rmX6_at.slots + rmX6_thrown.slots ≤ 6 := (by decide); have h8 : rmX6_at.slots + rmX6_thrown.slots ≤ 0 := (by decide); omega) ?_)
    exact kk _ _ _ hrel