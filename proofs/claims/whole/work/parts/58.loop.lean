theorem nx_and (a b : Nat) : nI a &&& nI b = nI (a &&& b) := by
  apply Int32.toBitVec_inj.1
  show BitVec.ofNat 32 a &&& BitVec.ofNat 32 b = BitVec.ofNat 32 (a &&& b)
  apply BitVec.eq_of_getLsbD_eq
  intro i hi
  simp [hi]
theorem and15 (x : Int32) : ∃ j, j < 16 ∧ x &&& nI 15 = nI j := by
  have e : x = nI x.toBitVec.toNat := by
    apply Int32.toBitVec_inj.1
    show x.toBitVec = BitVec.ofNat 32 x.toBitVec.toNat
    simp
  refine ⟨x.toBitVec.toNat % 16, Nat.mod_lt _ (by omega), ?_⟩
  have h : nI x.toBitVec.toNat &&& nI 15 = nI (x.toBitVec.toNat % 16) := by
    rw [nx_and, show (15 : Nat) = 2 ^ 4 - 1 from rfl, Nat.and_two_pow_sub_one_eq_mod]
  rw [← e] at h
  exact h
theorem lt5 {L i : Nat} (hL : L ≤ 2561) (hi : i ≤ 2600) : nI L - nI 5 < nI i ↔ L < i + 5 := by
  rw [Int32.lt_iff_toInt_lt, Int32.toInt_sub, nI_toInt (by omega), nI_toInt (by omega), nI_toInt (by omega), Int.bmod_eq_of_le (by omega) (by omega)]
  omega

set_option maxHeartbeats 4000000 in
theorem law_case {p : Program} {l : Launch} (hl9 : l.stackTraces = false) {e : Env} {s : State} {m : MethodId} {below : List Frame} {meth : Method} {c : Code} {D : va_G} {cI cZ cL : ClassId} {σ : Nat → Nat} {Q : State → Prop} {b L : Nat} {xs : Nat → Int32} {x a0 o : Nat} (hL : L ≤ 2561) (CX : jC p s m #[Value.ref b] c cL_law 7 wsL_law RL D cI cZ cL (fun q : Nat => s.heap.size ≤ q)) (hX : jX σ s) (hZ : jZ (fun q : Nat => s.heap.size ≤ q) s s.heap) (hXs : va_X b L xs s s.heap) (hbl : b < s.heap.size) (k i : Nat) (hk : k ≤ 512) (hi : i + 5 ≤ L) (ou : Nat → Int64) (wx wm : va_W) (hR : RelW cI cZ x a0 k wx wm)
    (kk : ∀ (ou2 : Nat → Int64) (wx2 wm2 : va_W), RelW cI cZ x a0 (k + 1) wx2 wm2 → J p l e room_1 s m #[Value.ref b] below meth c D (fun q : Nat => s.heap.size ≤ q) 7 (100 + (k + 1)) (40000 + 6 * (k + 1)) Q (wm2 ++ (oW o cL ou2 ++ wx2)) 978 [(4, .int (nI i)), (0, .ref b), (1, .ref x), (2, .ref a0), (3, .ref o)] []) : J p l e room_1 s m #[Value.ref b] below meth c D (fun q : Nat => s.heap.size ≤ q) 7 (100 + k) (40000 + 6 * k) Q (wm ++ (oW o cL ou ++ wx)) 49 [(4, .int (nI i)), (0, .ref b), (1, .ref x), (2, .ref a0), (3, .ref o)] [.int (xs i &&& nI 15)] := by
  obtain ⟨j, hj, hje⟩ := and15 (xs i)
  refine j_top hje ?_
  rcases (show j = 0 ∨ j = 1 ∨ j = 2 ∨ j = 3 ∨ j = 4 ∨ j = 5 ∨ j = 6 ∨ j = 7 ∨ j = 8 ∨ j = 9 ∨ j = 10 ∨ j = 11 ∨ j = 12 ∨ j = 13 ∨ j = 14 ∨ j = 15 by omega) with rfl | rfl | rfl | rfl | rfl | rfl | rfl | rfl | rfl | rfl | rfl | rfl | rfl | rfl | rfl | rfl
  · exact j_tableIn CX 124 dL_law_49 (by decide) (by decide) (off := 75) (by decide) (by decide) (lc_wall (cZ := cZ) hl9 hL CX hX hZ hXs hbl (fun _ _ _ h => h.x0) (fun _ _ _ h => h.m0) k i hk hi ou wx wm hR (s_wall l hl9 D cI cZ cL σ x a0 k hk wx wm hR (xs (i + 1)) (xs (i + 2)) (xs (i + 3))) kk)
  · exact j_tableIn CX 204 dL_law_49 (by decide) (by decide) (off := 155) (by decide) (by decide) (lc_value (cZ := cZ) hl9 hL CX hX hZ hXs hbl (fun _ _ _ h => h.x0) (fun _ _ _ h => h.m0) k i hk hi ou wx wm hR (s_value l hl9 D cI cZ cL σ x a0 k hk wx wm hR (xs (i + 1)) (xs (i + 2))) kk)
  · exact j_tableIn CX 272 dL_law_49 (by decide) (by decide) (off := 223) (by decide) (by decide) (lc_fails (cZ := cZ) hl9 hL CX hX hZ hXs hbl (fun _ _ _ h => h.x0) (fun _ _ _ h => h.m0) k i hk hi ou wx wm hR (if xs (i + 4) = 0 then 0 else 1) rfl (s_fails l hl9 D cI cZ cL σ x a0 k hk wx wm hR (xs (i + 1)) (xs (i + 2)) (xs (i + 3)) _ (by split <;> omega)) kk)
  · exact j_tableIn CX 387 dL_law_49 (by decide) (by decide) (off := 338) (by decide) (by decide) (lc_stops (cZ := cZ) hl9 hL CX hX hZ hXs hbl (fun _ _ _ h => h.x0) (fun _ _ _ h => h.m0) k i hk hi ou wx wm hR (s_stops l hl9 D cI cZ cL σ x a0 k hk wx wm hR (xs (i + 1))) kk)
  · exact j_tableIn CX 443 dL_law_49 (by decide) (by decide) (off := 394) (by decide) (by decide) (lc_run (cZ := cZ) hl9 hL CX hX hZ hXs hbl (fun _ _ _ h => h.x0) (fun _ _ _ h => h.m0) k i hk hi ou wx wm hR (s_run l hl9 D cI cZ cL σ x a0 k hk wx wm hR (xs (i + 1)) (xs (i + 2)) (xs (i + 3))) kk)
  · exact j_tableIn CX 523 dL_law_49 (by decide) (by decide) (off := 474) (by decide) (by decide) (lc_colours (cZ := cZ) hl9 hL CX hX hZ hXs hbl (fun _ _ _ h => h.x0) (fun _ _ _ h => h.m0) k i hk hi ou wx wm hR (s_colours l hl9 D cI cZ cL σ x a0 k hk wx wm hR) kk)
  · exact j_tableIn CX 536 dL_law_49 (by decide) (by decide) (off := 487) (by decide) (by decide) (lc_colour (cZ := cZ) hl9 hL CX hX hZ hXs hbl (fun _ _ _ h => h.x0) (fun _ _ _ h => h.m0) k i hk hi ou wx wm hR (s_colour l hl9 D cI cZ cL σ x a0 k hk wx wm hR (xs (i + 1))) kk)
  · exact j_tableIn CX 592 dL_law_49 (by decide) (by decide) (off := 543) (by decide) (by decide) (lc_at (cZ := cZ) hl9 hL CX hX hZ hXs hbl (fun _ _ _ h => h.x0) (fun _ _ _ h => h.m0) k i hk hi ou wx wm hR (s_at l hl9 D cI cZ cL σ x a0 k hk wx wm hR (xs (i + 1))) kk)
  · exact j_tableIn CX 648 dL_law_49 (by decide) (by decide) (off := 599) (by decide) (by decide) (lc_sum (cZ := cZ) hl9 hL CX hX hZ hXs hbl (fun _ _ _ h => h.x0) (fun _ _ _ h => h.m0) k i hk hi ou wx wm hR (s_sum l hl9 D cI cZ cL σ x a0 k hk wx wm hR) kk)
  · exact j_tableIn CX 661 dL_law_49 (by decide) (by decide) (off := 612) (by decide) (by decide) (lc_book (cZ := cZ) hl9 hL CX hX hZ hXs hbl (fun _ _ _ h => h.x0) (fun _ _ _ h => h.m0) k i hk hi ou wx wm hR (s_book l hl9 D cI cZ cL σ x a0 k hk wx wm hR (xs (i + 1)) (xs (i + 2))) kk)
  · exact j_tableIn CX 729 dL_law_49 (by decide) (by decide) (off := 680) (by decide) (by decide) (lc_did (cZ := cZ) hl9 hL CX hX hZ hXs hbl (fun _ _ _ h => h.x0) (fun _ _ _ h => h.m0) k i hk hi ou wx wm hR (s_did l hl9 D cI cZ cL σ x a0 k hk wx wm hR (xs (i + 1))) kk)
  · exact j_tableIn CX 785 dL_law_49 (by decide) (by decide) (off := 736) (by decide) (by decide) (lc_foretold (cZ := cZ) hl9 hL CX hX hZ hXs hbl (fun _ _ _ h => h.x0) (fun _ _ _ h => h.m0) k i hk hi ou wx wm hR (s_foretold l hl9 D cI cZ cL σ x a0 k hk wx wm hR (xs (i + 1)) (xs (i + 2))) kk)
  · exact j_tableIn CX 853 dL_law_49 (by decide) (by decide) (off := 804) (by decide) (by decide) (lc_job (cZ := cZ) hl9 hL CX hX hZ hXs hbl (fun _ _ _ h => h.x0) (fun _ _ _ h => h.m0) k i hk hi ou wx wm hR (s_job l hl9 D cI cZ cL σ x a0 k hk wx wm hR (xs (i + 1))) kk)
  · exact j_tableIn CX 909 dL_law_49 (by decide) (by decide) (off := 860) (by decide) (by decide) (lc_take (cZ := cZ) hl9 hL CX hX hZ hXs hbl (fun _ _ _ h => h.x0) (fun _ _ _ h => h.m0) k i hk hi ou wx wm hR (s_take l hl9 D cI cZ cL σ x a0 k hk wx wm hR) kk)
  · exact j_tableIn CX 922 dL_law_49 (by decide) (by decide) (off := 873) (by decide) (by decide) (lc_age (cZ := cZ) hl9 hL CX hX hZ hXs hbl (fun _ _ _ h => h.x0) (fun _ _ _ h => h.m0) k i hk hi ou wx wm hR (s_age l hl9 D cI cZ cL σ x a0 k hk wx wm hR (xs (i + 1))) kk)
  · refine j_tableOut CX 978 dL_law_49 (by decide) (by decide) ?_
    refine j_widen (k9 := 100 + (k + 1)) (n9 := 40000 + 6 * (k + 1)) (by omega) (by omega) ?_
    exact kk ou wx wm hR.up
theorem law_loop {p : Program} {l : Launch} (hl9 : l.stackTraces = false) {e : Env} {s : State} {m : MethodId} {below : List Frame} {meth : Method} {c : Code} {D : va_G} {cI cZ cL : ClassId} {σ : Nat → Nat} {Q : State → Prop} {b L : Nat} {xs : Nat → Int32} {x a0 o : Nat} (hL : L ≤ 2561) (CX : jC p s m #[Value.ref b] c cL_law 7 wsL_law RL D cI cZ cL (fun q : Nat => s.heap.size ≤ q)) (hX : jX σ s) (hZ : jZ (fun q : Nat => s.heap.size ≤ q) s s.heap) (hXs : va_X b L xs s s.heap) (hbl : b < s.heap.size) (hend : ∀ (k i : Nat) (w : va_W), k ≤ 512 → J p l e room_1 s m #[Value.ref b] below meth c D (fun q : Nat => s.heap.size ≤ q) 7 (100 + k) (40000 + 6 * k) Q w 984 [(4, .int (nI i)), (0, .ref b), (1, .ref x), (2, .ref a0), (3, .ref o)] []) : ∀ (d k i : Nat) (ou : Nat → Int64) (wx wm : va_W), i = 5 * k + 1 → k ≤ 512 → L ≤ i + 4 + d → RelW cI cZ x a0 k wx wm → J p l e room_1 s m #[Value.ref b] below meth c D (fun q : Nat => s.heap.size ≤ q) 7 (100 + k) (40000 + 6 * k) Q (wm ++ (oW o cL ou ++ wx)) 33 [(4, .int (nI i)), (0, .ref b), (1, .ref x), (2, .ref a0), (3, .ref o)] [] := by
  have hbA : ¬ (fun q : Nat => s.heap.size ≤ q) b := Nat.not_le.mpr hbl
  have head : ∀ (k i : Nat) (w : va_W), i = 5 * k + 1 → k ≤ 512 → (i + 5 ≤ L → J p l e room_1 s m #[Value.ref b] below meth c D (fun q : Nat => s.heap.size ≤ q) 7 (100 + k) (40000 + 6 * k) Q w 49 [(4, .int (nI i)), (0, .ref b), (1, .ref x), (2, .ref a0), (3, .ref o)] [.int (xs i &&& nI 15)]) → J p l e room_1 s m #[Value.ref b] below meth c D (fun q : Nat => s.heap.size ≤ q) 7 (100 + k) (40000 + 6 * k) Q w 33 [(4, .int (nI i)), (0, .ref b), (1, .ref x), (2, .ref a0), (3, .ref o)] [] := by
    intro k i w hi hk kk
    refine j_iload CX 0 dL_law_33 rfl ?_
    refine j_aload_n CX 1 dL_law_35 rfl rfl ?_
    refine j_slen CX hXs hbl hbA dL_law_36 ?_
    refine j_iconst CX dL_law_37 (show _ = (nI 5 : Int32) by decide) ?_
    refine j_isub CX dL_law_38 ?_
    refine j_icmp_gt CX 984 dL_law_39 (by decide) (fun h => ?_) (fun h => ?_)
    · exact hend k i w hk
    · have hi5 : i + 5 ≤ L := by
        rcases Nat.lt_or_ge L (i + 5) with t | t
        · exact absurd ((lt5 hL (by omega)).mpr t) h
        · exact t
      refine j_aload_n CX 1 dL_law_42 rfl rfl ?_
      refine j_iload CX 0 dL_law_43 rfl ?_
      refine j_sld CX hXs hbl hbA i dL_law_45 rfl (by omega) (by omega) ?_
      refine j_bipush CX dL_law_46 (show _ = (nI 15 : Int32) by decide) ?_
      refine j_iand CX dL_law_48 ?_
      exact kk hi5
  intro d
  induction d with
  | zero =>
    intro k i ou wx wm hi hk hd hR
    exact head k i _ hi hk (fun h => by omega)
  | succ d ih =>
    intro k i ou wx wm hi hk hd hR
    refine head k i _ hi hk (fun h => ?_)
    refine law_case hl9 hL CX hX hZ hXs hbl k i hk h ou wx wm hR (fun ou2 wx2 wm2 hR2 => ?_)
    refine j_iinc CX 0 dL_law_978 rfl (v := nI (i + 5)) (show nI i + Int32.ofInt 5 = nI (i + 5) from nI_add _ _) (by decide) (lv' := [(4, .int (nI (i + 5))), (0, .ref b), (1, .ref x), (2, .ref a0), (3, .ref o)]) rfl ?_
    refine j_goto CX 33 dL_law_981 (by decide) ?_
    exact ih (k + 1) (i + 5) ou2 wx2 wm2 (by omega) (by omega) (by omega) hR2