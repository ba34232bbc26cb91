theorem memL {w : Cond} (h : w ∈ (wsL_law0_r1 ++ (wsL_law0_r2 ++ (wsL_law0_r3 ++ (wsL_law0_r4 ++ (wsL_law0_r5 ++ (wsL_law0_r6 ++ (wsL_law0_r7 ++ (wsL_law0_r8 ++ (wsL_law0_r9 ++ (wsL_law0_r10 ++ (wsL_law0_r11 ++ (wsL_law0_r12 ++ (wsL_law0_r13 ++ (wsL_law0_r14 ++ (wsL_law0_r15 ++ (wsL_law0_r16 ++ (wsL_law0_r17 ++ (wsL_law0_r18 ++ (wsL_law0_r19 ++ (wsL_law0_r20 ++ (wsL_law0_r21 ++ (wsL_law0_r22 ++ wsL_law0_r23))))))))))))))))))))))) : w ∈ wsL_law := (List.mem_append_left _ (List.mem_append_left _ (List.mem_append_left _ (List.mem_append_left _ (List.mem_append_left _ (List.mem_append_left _ (List.mem_append_left _ (List.mem_append_left _ (List.mem_append_left _ (List.mem_append_left _ (h)))))))))))
set_option maxRecDepth 100000 in
set_option maxHeartbeats 4000000 in
theorem start_walk {p : Program} {l : Launch} (hl9 : l.stackTraces = false) {e : Env} {s : State} {m : MethodId} {below : List Frame} {meth : Method} {c : Code} {D : va_G} {cI cZ cL : ClassId} {σ : Nat → Nat} {Q : State → Prop} {b L : Nat} {xs : Nat → Int32} (hL : L ≤ 2561) (CX : jC p s m #[Value.ref b] c cL_law 7 wsL_law RL D cI cZ cL (fun q : Nat => s.heap.size ≤ q)) (hX : jX σ s) (hZ : jZ (fun q : Nat => s.heap.size ≤ q) s s.heap) (hXs : va_X b L xs s s.heap) (hbl : b < s.heap.size) (hend : ∀ (x a0 o k i : Nat) (w : va_W), k ≤ 512 → J p l e room_1 s m #[Value.ref b] below meth c D (fun q : Nat => s.heap.size ≤ q) 7 (100 + k) (40000 + 6 * k) Q w 984 [(4, .int (nI i)), (0, .ref b), (1, .ref x), (2, .ref a0), (3, .ref o)] []) : J p l e room_1 s m #[Value.ref b] below meth c D (fun q : Nat => s.heap.size ≤ q) 7 0 0 Q [] 0 [(0, .ref b)] [] := by
  have hck8 : Cond.classLink RL 8 RX5 ∈ wsL_law := memL ((List.mem_append_left _ (show Cond.classLink RL 8 RX5 ∈ wsL_law0_r1 by decide +kernel)))
  have hin5 : Cond.instantiable RX5 6 ∈ wsL_law := memL ((List.mem_append_left _ (show Cond.instantiable RX5 6 ∈ wsL_law0_r1 by decide +kernel)))
  have hini5 : Cond.initialized RX5 ∈ wsL_law := memL ((List.mem_append_left _ (show Cond.initialized RX5 ∈ wsL_law0_r1 by decide +kernel)))
  have hck62 : Cond.classLink RL 62 RX6 ∈ wsL_law := memL ((List.mem_append_left _ (show Cond.classLink RL 62 RX6 ∈ wsL_law0_r1 by decide +kernel)))
  have hin6 : Cond.instantiable RX6 27 ∈ wsL_law := memL ((List.mem_append_left _ (show Cond.instantiable RX6 27 ∈ wsL_law0_r1 by decide +kernel)))
  have hini6 : Cond.initialized RX6 ∈ wsL_law := memL ((List.mem_append_left _ (show Cond.initialized RX6 ∈ wsL_law0_r1 by decide +kernel)))
  have hac : Cond.arrayClass .long ∈ wsL_law := memL ((List.mem_append_left _ (show Cond.arrayClass .long ∈ wsL_law0_r1 by decide +kernel)))
  have hml59 : Cond.methodLink RL 59 yX5_init ∈ wsL_law := memL ((List.mem_append_left _ (show Cond.methodLink RL 59 yX5_init ∈ wsL_law0_r1 by decide +kernel)))
  have him5 : Cond.instanceMethod yX5_init ∈ wsL_law := memL ((List.mem_append_left _ (show Cond.instanceMethod yX5_init ∈ wsL_law0_r1 by decide +kernel)))
  have hml64 : Cond.methodLink RL 64 yX6_init ∈ wsL_law := memL ((List.mem_append_right _ (List.mem_append_right _ (List.mem_append_right _ (List.mem_append_left _ (show Cond.methodLink RL 64 yX6_init ∈ wsL_law0_r4 by decide +kernel))))))
  have him6 : Cond.instanceMethod yX6_init ∈ wsL_law := memL ((List.mem_append_right _ (List.mem_append_right _ (List.mem_append_right _ (List.mem_append_left _ (show Cond.instanceMethod yX6_init ∈ wsL_law0_r4 by decide +kernel))))))
  have hbA : ¬ (fun q : Nat => s.heap.size ≤ q) b := Nat.not_le.mpr hbl
  refine j_new CX (fs := [.null, .null, .null, .null, .null, .int 0]) dL_law_0 inlX5 tyX5 tyX5_ok hck8 hin5 hini5 (ci := 5) rfl (fun j hj => by rcases (show j = 0 ∨ j = 1 ∨ j = 2 ∨ j = 3 ∨ j = 4 ∨ j = 5 by omega) with rfl | rfl | rfl | rfl | rfl | rfl <;> rfl) (Nat.le_of_ble_eq_true rfl) (Nat.le_of_ble_eq_true rfl) (fun x => ?_)
  refine j_w (w' := [(x, .inr (5, [.null, .null, .null, .null, .null, .int 0]))]) rfl ?_
  refine j_dup CX dL_law_3 rfl ?_
  refine j_aload_n CX 0 dL_law_4 rfl rfl ?_
  refine j_iconst CX dL_law_5 (show _ = (nI 0 : Int32) by decide) ?_
  refine j_callSS CX hXs hbl hbA (n := 2) (rest := [.ref x, .ref x]) (h_cell l D cI cZ cL b L xs hL) gL_law_L_cell rfl (by decide +kernel) ⟨(Nat.le_of_ble_eq_true rfl), (Nat.le_of_ble_eq_true rfl)⟩ rfl rfl (Nat.le_of_ble_eq_true rfl) dL_law_6 ⟨(Nat.le_of_ble_eq_true rfl), (Nat.le_of_ble_eq_true rfl)⟩ (fun r9 w9 h9 => ?_)
  obtain ⟨rfl, rfl⟩ := h9
  obtain ⟨v, hv⟩ : ∃ v, v = (if 0 < L then xs 0 else nI 0) := ⟨_, rfl⟩
  rw [← hv]
  obtain ⟨N, n1, n2, n3, n4, n5, n6⟩ := clampN v
  refine j_w (w' := [(x, .inr (5, [.null, .null, .null, .null, .null, .int 0]))]) rfl ?_
  refine j_st (st9 := [.int v, .ref x, .ref x]) rfl ?_
  refine j_callI CX (n := 1) (ret := none) (pre := []) (post := []) (rest := [.ref x]) (x_init l D cI cZ cL x v N n3 n2) gL_law_X5_init rfl hini5 hml59 him5 rfl (by decide +kernel) ⟨(Nat.le_of_ble_eq_true rfl), (Nat.le_of_ble_eq_true rfl)⟩ rfl rfl rfl (Nat.le_of_ble_eq_true rfl) dL_law_9 ⟨(Nat.le_of_ble_eq_true rfl), (Nat.le_of_ble_eq_true rfl)⟩ (fun r9 w9 h9 => ?_)
  obtain ⟨rfl, az, af, ac, ab, aj, hwx⟩ := h9
  refine j_w (w' := w9) (List.append_nil w9) ?_
  refine j_st (st9 := [.ref x]) rfl ?_
  refine j_astore_n CX (lv' := [(1, .ref x), (0, .ref b)]) dL_law_12 rfl (by decide) rfl ?_
  refine j_new CX (fs := [.int 0, .int 0, .null, .null, .null, .int 0, .null, .null, .null, .int 0, .int 0, .null, .null, .int 0, .null, .null, .null, .int 0, .null, .null, .null, .null, .int 0, .int 0, .null, .null, .null]) dL_law_13 inlX6 tyX6 tyX6_ok hck62 hin6 hini6 (ci := 6) rfl (fun j hj => by rcases (show j = 0 ∨ j = 1 ∨ j = 2 ∨ j = 3 ∨ j = 4 ∨ j = 5 ∨ j = 6 ∨ j = 7 ∨ j = 8 ∨ j = 9 ∨ j = 10 ∨ j = 11 ∨ j = 12 ∨ j = 13 ∨ j = 14 ∨ j = 15 ∨ j = 16 ∨ j = 17 ∨ j = 18 ∨ j = 19 ∨ j = 20 ∨ j = 21 ∨ j = 22 ∨ j = 23 ∨ j = 24 ∨ j = 25 ∨ j = 26 by omega) with rfl | rfl | rfl | rfl | rfl | rfl | rfl | rfl | rfl | rfl | rfl | rfl | rfl | rfl | rfl | rfl | rfl | rfl | rfl | rfl | rfl | rfl | rfl | rfl | rfl | rfl | rfl <;> rfl) (Nat.le_of_ble_eq_true rfl) (Nat.le_of_ble_eq_true rfl) (fun a0 => ?_)
  refine j_dup CX dL_law_16 rfl ?_
  refine j_aload_n CX 1 dL_law_17 rfl rfl ?_
  refine j_iconst CX dL_law_18 (show _ = (nI 0 : Int32) by decide) ?_
  refine j_callSS CX hXs hbl hbA (n := 2) (rest := [.ref a0, .ref a0]) (h_cell l D cI cZ cL b L xs hL) gL_law_L_cell rfl (by decide +kernel) ⟨(Nat.le_of_ble_eq_true rfl), (Nat.le_of_ble_eq_true rfl)⟩ rfl rfl (Nat.le_of_ble_eq_true rfl) dL_law_19 ⟨(Nat.le_of_ble_eq_true rfl), (Nat.le_of_ble_eq_true rfl)⟩ (fun r8 w8 h8 => ?_)
  obtain ⟨rfl, rfl⟩ := h8
  rw [← hv]
  refine j_w (w' := w9 ++ [(a0, .inr (6, [.int 0, .int 0, .null, .null, .null, .int 0, .null, .null, .null, .int 0, .int 0, .null, .null, .int 0, .null, .null, .null, .int 0, .null, .null, .null, .null, .int 0, .int 0, .null, .null, .null]))]) (List.append_nil _) ?_
  refine j_st (st9 := [.int v, .ref a0, .ref a0]) rfl ?_
  refine j_callI CX (n := 1) (ret := none) (pre := w9) (post := []) (rest := [.ref a0]) (r_init l D cI cZ cL a0 v N n4 n5 n6) gL_law_X6_init rfl hini6 hml64 him6 rfl (by decide +kernel) ⟨(Nat.le_of_ble_eq_true rfl), (Nat.le_of_ble_eq_true rfl)⟩ (by rw [List.append_nil]) rfl rfl (Nat.le_of_ble_eq_true rfl) dL_law_22 ⟨(Nat.le_of_ble_eq_true rfl), (Nat.le_of_ble_eq_true rfl)⟩ (fun r8 w8 h8 => ?_)
  obtain ⟨rfl, a, ha0, hwm⟩ := h8
  refine j_w (w' := w9 ++ w8) (by rw [List.append_nil]) ?_
  refine j_st (st9 := [.ref a0]) rfl ?_
  refine j_astore_n CX (lv' := [(2, .ref a0), (1, .ref x), (0, .ref b)]) dL_law_25 rfl (by decide) rfl ?_
  refine j_iconst CX dL_law_26 (show _ = (nI 1 : Int32) by decide) ?_
  refine j_newL CX 1 dL_law_27 rfl (by decide) hac (Nat.le_of_ble_eq_true rfl) (Nat.le_of_ble_eq_true rfl) (fun o => ?_)
  refine j_astore_n CX (lv' := [(3, .ref o), (2, .ref a0), (1, .ref x), (0, .ref b)]) dL_law_29 rfl (by decide) rfl ?_
  refine j_iconst CX dL_law_30 (show _ = (nI 1 : Int32) by decide) ?_
  refine j_istore CX (lv' := [(4, .int (nI 1)), (3, .ref o), (2, .ref a0), (1, .ref x), (0, .ref b)]) dL_law_31 (by decide) rfl ?_
  refine j_lv (lv' := [(4, .int (nI 1)), (0, .ref b), (1, .ref x), (2, .ref a0), (3, .ref o)]) [0, 4, 3, 2, 1] rfl ?_
  refine j_w (w' := w9 ++ (w8 ++ oW o cL (fun _ => 0))) (List.append_assoc _ _ _) ?_
  refine j_rot ?_
  refine j_w (w' := w8 ++ (oW o cL (fun _ => 0) ++ w9)) (List.append_assoc _ _ _) ?_
  refine j_widen (k9 := 100 + 0) (n9 := 40000 + 6 * 0) (Nat.le_of_ble_eq_true rfl) (Nat.le_of_ble_eq_true rfl) ?_
  refine law_loop hl9 hL CX hX hZ hXs hbl (fun k i w hk => hend x a0 o k i w hk) 2561 0 1 _ _ _ rfl (by omega) (by omega) ?_
  rw [hwx, hwm]
  exact rel0 ha0 n1 n2
theorem whole_start {p : Program} {e : Env} {s : State} {m : MethodId} {below : List Frame} {meth : Method} {c : Code} (l : Launch) (hl9 : l.stackTraces = false) {b L : Nat} {xs : Nat → Int32} (hL : L ≤ 2561) (C0 : lw_At p s m meth c b L xs) : W p l e room_1 s m #[Value.ref b] below meth c s.heap [] 0 0 (lw_Z below #[Value.ref b] s) (entryFrame m ([Value.ref b] : List Value).toArray 7) := by
  obtain ⟨hexec, hcode, hret, hml, hown, hts, hXs, hbl, hlocks, hgv⟩ := C0
  obtain ⟨D, cI, cZ, cL, σ, hG, hX, hZ⟩ := start_tables hts hgv
  have CX : jC p s m #[Value.ref b] c cL_law 7 wsL_law RL D cI cZ cL (fun q : Nat => s.heap.size ≤ q) := ⟨⟨hexec, hcode, hml, hown, fun w hw => hts w (wsL_law_in w hw)⟩, hG, fun q h => h⟩
  have hl := lv_entry [Value.ref b] (n := 7) (Nat.le_of_ble_eq_true rfl)
  rw [lg_entry_eq]
  refine start_walk (Q := lw_Z below #[Value.ref b] s) hl9 hL CX hX hZ hXs hbl (fun x a0 o k i w hk => ?_) s.heap [] _ (fun k q hk => absurd hk (by simp)) ⟨fun i j x y hi => absurd hi (by simp), fun k q hk => absurd hk (by simp)⟩ va_S.rf hl
  refine j_iconst CX dL_law_984 (show _ = (1 : Int32) by decide) ?_
  intro H locs ls hP hD hS hl
  exact va_forget (fun q hq => hS.2.2 q hq) (W.widen (by omega) (by omega) (lw_ret hexec hcode hret hlocks dL_law_985))