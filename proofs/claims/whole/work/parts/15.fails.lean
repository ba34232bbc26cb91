theorem b2n_nar (p : Prop) [Decidable p] : narrow .boolean (.int (nI (b2n p))) = .int (nI (b2n p)) := by
  unfold b2n
  split <;> rfl
abbrev rmX2_isFull : Room := { frames := 0, cells := 0, slots := 0, locals := 0 }
set_option maxRecDepth 100000 in
set_option maxHeartbeats 4000000 in
theorem f_isFull (l : Launch) (D : va_G) (cI cZ cL : ClassId) (a : Nat → Nat) (F : Nat → Nat) (k : Nat) (hk : k ≤ 200) : Cg l D cI cZ cL yX2_isFull wsX2_isFull rmX2_isFull [.ref (a 0)] (fW a cI (nf F) (nI k)) (fun r0 w0 => r0 = some (.int (nI (b2n (200 ≤ k)))) ∧ w0 = fW a cI (nf F) (nI k)) := by
  refine Cg.ofJ (own := RX2) (cc := cX2_isFull) (maxL := 1) (ret := (some .boolean)) (by decide) rfl rfl (Nat.le_of_ble_eq_true rfl) ?_
  intro p e s m args below meth c A CX hr hlocks hname
  have hin2 : ∀ x ∈ u_ws RX2 TX2 2, x ∈ wsX2_isFull := by decide +kernel
  have hfl15 : Cond.fieldLink RX2 15 (TX2 1).1 (TX2 1).2.1 (TX2 1).2.2.1 ∈ wsX2_isFull := by decide +kernel
  show J p l e rmX2_isFull s m args below meth c D A 1 0 0 (MQ below (jQc D (fun r0 w0 => r0 = some (.int (nI (b2n (200 ≤ k)))) ∧ w0 = fW a cI (nf F) (nI k)) A) args s rmX2_isFull.cells rmX2_isFull.slots A) (fW a cI (nf F) (nI k)) 0 [(0, .ref (a 0))] []
  refine j_aload_n CX 0 dX2_isFull_0 rfl rfl ?_
  refine j_get CX 0 1 dX2_isFull_1 rfl rfl hin2 (by decide) hfl15 rfl ?_
  refine j_sipush CX dX2_isFull_4 (show _ = (nI 200 : Int32) by decide) ?_
  refine j_icmpN_lt CX (by first | assumption | omega) (by first | assumption | omega | exact b2n_lt _ | exact t2n_lt _) 14 dX2_isFull_7 (by decide) (fun h7 => ?_) (fun h7 => ?_)
  · refine j_iconst CX dX2_isFull_14 (show _ = (nI 0 : Int32) by decide) ?_
    exact j_zret CX hr hlocks dX2_isFull_15 (rfl) (⟨by rw [b2n_f (by omega)], rfl⟩)
  · refine j_iconst CX dX2_isFull_10 (show _ = (nI 1 : Int32) by decide) ?_
    refine j_goto CX 15 dX2_isFull_11 (by decide) ?_
    exact j_zret CX hr hlocks dX2_isFull_15 (rfl) (⟨by rw [b2n_t (by omega)], rfl⟩)

abbrev rmX2_keyOf : Room := { frames := 0, cells := 0, slots := 0, locals := 0 }
set_option maxRecDepth 100000 in
set_option maxHeartbeats 4000000 in
theorem f_keyOf (l : Launch) (D : va_G) (cI cZ cL : ClassId) (w z h : Nat)  : Cg l D cI cZ cL yX2_keyOf wsX2_keyOf rmX2_keyOf [.int (nI w), .int (nI z), .int (nI h)] (([] : va_W)) (fun r0 w0 => r0 = some (.int (nI (kyF w z h))) ∧ w0 = ([] : va_W)) := by
  refine Cg.ofJ (own := RX2) (cc := cX2_keyOf) (maxL := 3) (ret := (some .int)) (by decide) rfl rfl (Nat.le_of_ble_eq_true rfl) ?_
  intro p e s m args below meth c A CX hr hlocks hname
  show J p l e rmX2_keyOf s m args below meth c D A 3 0 0 (MQ below (jQc D (fun r0 w0 => r0 = some (.int (nI (kyF w z h))) ∧ w0 = ([] : va_W)) A) args s rmX2_keyOf.cells rmX2_keyOf.slots A) (([] : va_W)) 0 [(0, .int (nI w)), (1, .int (nI z)), (2, .int (nI h))] []
  refine j_iload_n CX 2 dX2_keyOf_0 rfl rfl ?_
  refine j_bipush CX dX2_keyOf_1 (show _ = (nI 24 : Int32) by decide) ?_
  refine j_imul CX dX2_keyOf_3 ?_
  refine j_top (show (nI h) * (nI 24) = nI (h * 24) from pk_mul _ _) ?_
  refine j_iload_n CX 1 dX2_keyOf_4 rfl rfl ?_
  refine j_iadd CX dX2_keyOf_5 ?_
  refine j_top (show (nI (h * 24)) + (nI z) = nI (h * 24 + z) from nI_add _ _) ?_
  refine j_bipush CX dX2_keyOf_6 (show _ = (nI 16 : Int32) by decide) ?_
  refine j_imul CX dX2_keyOf_8 ?_
  refine j_top (show (nI (h * 24 + z)) * (nI 16) = nI ((h * 24 + z) * 16) from pk_mul _ _) ?_
  refine j_iload_n CX 0 dX2_keyOf_9 rfl rfl ?_
  refine j_iadd CX dX2_keyOf_10 ?_
  refine j_top (show (nI ((h * 24 + z) * 16)) + (nI w) = nI ((h * 24 + z) * 16 + w) from nI_add _ _) ?_
  exact j_iret CX hr hlocks dX2_keyOf_11 (⟨rfl, rfl⟩)

abbrev rmX2_stands : Room := { frames := 0, cells := 0, slots := 0, locals := 0 }
set_option maxRecDepth 100000 in
set_option maxHeartbeats 4000000 in
theorem f_stands (l : Launch) (D : va_G) (cI cZ cL : ClassId) (a : Nat → Nat) (F : Nat → Nat) (k : Nat) (q key : Nat) (hk : k ≤ 200) (hq : q ≤ 200) (hF : ∀ j, j < k → F j < 2 ^ 31) (hkey : key < 2 ^ 31) : Cg l D cI cZ cL yX2_stands wsX2_stands rmX2_stands [.ref (a 0), .int (nI q), .int (nI key)] (fW a cI (nf F) (nI k)) (fun r0 w0 => r0 = some (.int (nI (b2n (q < k ∧ F q = key)))) ∧ w0 = fW a cI (nf F) (nI k)) := by
  refine Cg.ofJ (own := RX2) (cc := cX2_stands) (maxL := 3) (ret := (some .boolean)) (by decide) rfl rfl (Nat.le_of_ble_eq_true rfl) ?_
  intro p e s m args below meth c A CX hr hlocks hname
  have hin2 : ∀ x ∈ u_ws RX2 TX2 2, x ∈ wsX2_stands := by decide +kernel
  have hfl15 : Cond.fieldLink RX2 15 (TX2 1).1 (TX2 1).2.1 (TX2 1).2.2.1 ∈ wsX2_stands := by decide +kernel
  have hfl9 : Cond.fieldLink RX2 9 (TX2 0).1 (TX2 0).2.1 (TX2 0).2.2.1 ∈ wsX2_stands := by decide +kernel
  show J p l e rmX2_stands s m args below meth c D A 3 0 0 (MQ below (jQc D (fun r0 w0 => r0 = some (.int (nI (b2n (q < k ∧ F q = key)))) ∧ w0 = fW a cI (nf F) (nI k)) A) args s rmX2_stands.cells rmX2_stands.slots A) (fW a cI (nf F) (nI k)) 0 [(0, .ref (a 0)), (1, .int (nI q)), (2, .int (nI key))] []
  refine j_iload_n CX 1 dX2_stands_0 rfl rfl ?_
  refine j_aload_n CX 0 dX2_stands_1 rfl rfl ?_
  refine j_get CX 0 1 dX2_stands_2 rfl rfl hin2 (by decide) hfl15 rfl ?_
  refine j_icmpN_ge CX (by first | assumption | omega) (by first | assumption | omega | exact b2n_lt _ | exact t2n_lt _) 22 dX2_stands_5 (by decide) (fun h5 => ?_) (fun h5 => ?_)
  · refine j_iconst CX dX2_stands_22 (show _ = (nI 0 : Int32) by decide) ?_
    exact j_zret CX hr hlocks dX2_stands_23 (rfl) (⟨by rw [b2n_f (by rintro ⟨z1, z2⟩; omega)], rfl⟩)
  · have hFq := hF q (by omega)
    refine j_aload_n CX 0 dX2_stands_8 rfl rfl ?_
    refine j_get CX 0 0 dX2_stands_9 rfl rfl hin2 (by decide) hfl9 rfl ?_
    refine j_iload_n CX 1 dX2_stands_12 rfl rfl ?_
    refine j_iald CX 1 q dX2_stands_13 rfl (rfl) (by first | assumption | omega) (by decide) ?_
    refine j_iload_n CX 2 dX2_stands_14 rfl rfl ?_
    refine j_icmpN_ne CX (by first | assumption | omega) (by first | assumption | omega | exact b2n_lt _ | exact t2n_lt _) 22 dX2_stands_15 (by decide) (fun h15 => ?_) (fun h15 => ?_)
    · refine j_iconst CX dX2_stands_22 (show _ = (nI 0 : Int32) by decide) ?_
      exact j_zret CX hr hlocks dX2_stands_23 (rfl) (⟨by rw [b2n_f (by rintro ⟨z1, z2⟩; omega)], rfl⟩)
    · refine j_iconst CX dX2_stands_18 (show _ = (nI 1 : Int32) by decide) ?_
      refine j_goto CX 23 dX2_stands_19 (by decide) ?_
      exact j_zret CX hr hlocks dX2_stands_23 (rfl) (⟨by rw [b2n_t ⟨by assumption, by assumption⟩], rfl⟩)

abbrev rmX2_placeOf : Room := { frames := 0, cells := 0, slots := 0, locals := 0 }
set_option maxRecDepth 100000 in
set_option maxHeartbeats 4000000 in
theorem f_placeOf (l : Launch) (D : va_G) (cI cZ cL : ClassId) (a : Nat → Nat) (F : Nat → Nat) (k : Nat) (key : Nat) (hk : k ≤ 200) (hF : ∀ j, j < k → F j < 2 ^ 31) (hkey : key < 2 ^ 31) : Cg l D cI cZ cL yX2_placeOf wsX2_placeOf rmX2_placeOf [.ref (a 0), .int (nI key)] (fW a cI (nf F) (nI k)) (fun r0 w0 => r0 = some (.int (nI (bsF F key 200 0 k))) ∧ w0 = fW a cI (nf F) (nI k)) := by
  refine Cg.ofJ (own := RX2) (cc := cX2_placeOf) (maxL := 6) (ret := (some .int)) (by decide) rfl rfl (Nat.le_of_ble_eq_true rfl) ?_
  intro p e s m args below meth c A CX hr hlocks hname
  have hin2 : ∀ x ∈ u_ws RX2 TX2 2, x ∈ wsX2_placeOf := by decide +kernel
  have hfl9 : Cond.fieldLink RX2 9 (TX2 0).1 (TX2 0).2.1 (TX2 0).2.2.1 ∈ wsX2_placeOf := by decide +kernel
  have hfl15 : Cond.fieldLink RX2 15 (TX2 1).1 (TX2 1).2.1 (TX2 1).2.2.1 ∈ wsX2_placeOf := by decide +kernel
  have L10 : ∀ (d10 : Nat) (h9 lo hi : Nat), 200 - h9 = d10 → h9 ≤ 200 → lo ≤ hi → hi ≤ k → bsF F key (200 - h9) lo hi = bsF F key 200 0 k → J p l e rmX2_placeOf s m args below meth c D A 6 0 0 (MQ below (jQc D (fun r0 w0 => r0 = some (.int (nI (bsF F key 200 0 k))) ∧ w0 = fW a cI (nf F) (nI k)) A) args s rmX2_placeOf.cells rmX2_placeOf.slots A) (fW a cI (nf F) (nI k)) 10 [(4, .int (nI h9)), (3, .int (nI hi)), (2, .int (nI lo)), (0, .ref (a 0)), (1, .int (nI key))] [] := by
    intro d10
    induction d10 using Nat.strongRecOn with
    | _ d10 ih10 =>
      intro h9 lo hi hd hh hlh hhk he
      refine j_iload CX 0 dX2_placeOf_10 rfl ?_
      refine j_sipush CX dX2_placeOf_12 (show _ = (nI 200 : Int32) by decide) ?_
      refine j_icmpN_ge CX (by first | assumption | omega) (by first | assumption | omega | exact b2n_lt _ | exact t2n_lt _) 58 dX2_placeOf_15 (by decide) (fun h15 => ?_) (fun h15 => ?_)
      · refine j_iload_n CX 2 dX2_placeOf_58 rfl rfl ?_
        exact j_iret CX hr hlocks dX2_placeOf_59 (⟨by rw [← he]; first | (rw [show 200 - h9 = 0 by omega]; rfl) | (rw [bsF_end (by omega)]), rfl⟩)
      · refine j_iload_n CX 2 dX2_placeOf_18 rfl rfl ?_
        refine j_iload_n CX 1 dX2_placeOf_19 rfl rfl ?_
        refine j_icmpN_ge CX (by first | assumption | omega) (by first | assumption | omega | exact b2n_lt _ | exact t2n_lt _) 58 dX2_placeOf_20 (by decide) (fun h20 => ?_) (fun h20 => ?_)
        · refine j_iload_n CX 2 dX2_placeOf_58 rfl rfl ?_
          exact j_iret CX hr hlocks dX2_placeOf_59 (⟨by rw [← he]; first | (rw [show 200 - h9 = 0 by omega]; rfl) | (rw [bsF_end (by omega)]), rfl⟩)
        · refine j_iload_n CX 2 dX2_placeOf_23 rfl rfl ?_
          refine j_iload_n CX 1 dX2_placeOf_24 rfl rfl ?_
          refine j_iadd CX dX2_placeOf_25 ?_
          refine j_top (show (nI lo) + (nI hi) = nI (lo + hi) from nI_add _ _) ?_
          refine j_iconst CX dX2_placeOf_26 (show _ = (nI 2 : Int32) by decide) ?_
          refine j_idiv CX dX2_placeOf_27 (by decide) ?_
          refine j_top (show ((nI (lo + hi)) / (nI 2)) = nI ((lo + hi) / 2) from pk_div (by omega) (by decide) (by decide)) ?_
          refine j_istore CX (lv' := [(5, .int (nI ((lo + hi) / 2))), (4, .int (nI h9)), (3, .int (nI hi)), (2, .int (nI lo)), (0, .ref (a 0)), (1, .int (nI key))]) dX2_placeOf_28 (by decide) rfl ?_
          have hFm := hF ((lo + hi) / 2) (by omega)
          obtain ⟨d8, hd8⟩ : ∃ d8, 200 - h9 = d8 + 1 := ⟨200 - h9 - 1, by omega⟩
          refine j_aload_n CX 4 dX2_placeOf_30 rfl rfl ?_
          refine j_get CX 0 0 dX2_placeOf_31 rfl rfl hin2 (by decide) hfl9 rfl ?_
          refine j_iload CX 0 dX2_placeOf_34 rfl ?_
          refine j_iald CX 1 ((lo + hi) / 2) dX2_placeOf_36 rfl (rfl) (by first | assumption | omega) (by decide) ?_
          refine j_iload_n CX 5 dX2_placeOf_37 rfl rfl ?_
          refine j_icmpN_ge CX (by first | assumption | omega) (by first | assumption | omega | exact b2n_lt _ | exact t2n_lt _) 49 dX2_placeOf_38 (by decide) (fun h38 => ?_) (fun h38 => ?_)
          · refine j_iload CX 0 dX2_placeOf_49 rfl ?_
            refine j_istore_n CX (lv' := [(3, .int (nI ((lo + hi) / 2))), (5, .int (nI ((lo + hi) / 2))), (4, .int (nI h9)), (2, .int (nI lo)), (0, .ref (a 0)), (1, .int (nI key))]) dX2_placeOf_51 rfl (by decide) rfl ?_
            refine j_iinc CX (v := nI (h9 + 1)) (lv' := [(4, .int (nI (h9 + 1))), (3, .int (nI ((lo + hi) / 2))), (5, .int (nI ((lo + hi) / 2))), (2, .int (nI lo)), (0, .ref (a 0)), (1, .int (nI key))]) 2 dX2_placeOf_52 rfl (nI_1 _) (by decide) rfl ?_
            refine j_goto CX 10 dX2_placeOf_55 (by decide) ?_
            refine j_lv (lv' := [(4, .int (nI (h9 + 1))), (3, .int (nI ((lo + hi) / 2))), (2, .int (nI lo)), (0, .ref (a 0)), (1, .int (nI key))]) [0, 1, 3, 4, 5] rfl ?_
            exact ih10 _ (by omega) (h9 + 1) lo ((lo + hi) / 2) rfl (by omega) (by omega) (by omega) (by rw [← he, hd8, bsF_ge h20 h38, show 200 - (h9 + 1) = d8 by omega])
          · refine j_iload CX 0 dX2_placeOf_41 rfl ?_
            refine j_iconst CX dX2_placeOf_43 (show _ = (nI 1 : Int32) by decide) ?_
            refine j_iadd CX dX2_placeOf_44 ?_
            refine j_top (show (nI ((lo + hi) / 2)) + (nI 1) = nI ((lo + hi) / 2 + 1) from nI_add _ _) ?_
            refine j_istore_n CX (lv' := [(2, .int (nI ((lo + hi) / 2 + 1))), (5, .int (nI ((lo + hi) / 2))), (4, .int (nI h9)), (3, .int (nI hi)), (0, .ref (a 0)), (1, .int (nI key))]) dX2_placeOf_45 rfl (by decide) rfl ?_
            refine j_goto CX 52 dX2_placeOf_46 (by decide) ?_
            refine j_iinc CX (v := nI (h9 + 1)) (lv' := [(4, .int (nI (h9 + 1))), (2, .int (nI ((lo + hi) / 2 + 1))), (5, .int (nI ((lo + hi) / 2))), (3, .int (nI hi)), (0, .ref (a 0)), (1, .int (nI key))]) 2 dX2_placeOf_52 rfl (nI_1 _) (by decide) rfl ?_
            refine j_goto CX 10 dX2_placeOf_55 (by decide) ?_
            refine j_lv (lv' := [(4, .int (nI (h9 + 1))), (3, .int (nI hi)), (2, .int (nI ((lo + hi) / 2 + 1))), (0, .ref (a 0)), (1, .int (nI key))]) [0, 3, 1, 4, 5] rfl ?_
            exact ih10 _ (by omega) (h9 + 1) ((lo + hi) / 2 + 1) hi rfl (by omega) (by omega) hhk (by rw [← he, hd8, bsF_lt h20 h38, show 200 - (h9 + 1) = d8 by omega])
  show J p l e rmX2_placeOf s m args below meth c D A 6 0 0 (MQ below (jQc D (fun r0 w0 => r0 = some (.int (nI (bsF F key 200 0 k))) ∧ w0 = fW a cI (nf F) (nI k)) A) args s rmX2_placeOf.cells rmX2_placeOf.slots A) (fW a cI (nf F) (nI k)) 0 [(0, .ref (a 0)), (1, .int (nI key))] []
  refine j_iconst CX dX2_placeOf_0 (show _ = (nI 0 : Int32) by decide) ?_
  refine j_istore_n CX (lv' := [(2, .int (nI 0)), (0, .ref (a 0)), (1, .int (nI key))]) dX2_placeOf_1 rfl (by decide) rfl ?_
  refine j_aload_n CX 1 dX2_placeOf_2 rfl rfl ?_
  refine j_get CX 0 1 dX2_placeOf_3 rfl rfl hin2 (by decide) hfl15 rfl ?_
  refine j_istore_n CX (lv' := [(3, .int (nI k)), (2, .int (nI 0)), (0, .ref (a 0)), (1, .int (nI key))]) dX2_placeOf_6 rfl (by decide) rfl ?_
  refine j_iconst CX dX2_placeOf_7 (show _ = (nI 0 : Int32) by decide) ?_
  refine j_istore CX (lv' := [(4, .int (nI 0)), (3, .int (nI k)), (2, .int (nI 0)), (0, .ref (a 0)), (1, .int (nI key))]) dX2_placeOf_8 (by decide) rfl ?_
  exact L10 _ 0 0 k rfl (by omega) (Nat.zero_le _) (Nat.le_refl _) rfl

abbrev rmX2_has : Room := { frames := 1, cells := 0, slots := 0, locals := 25 }
set_option maxRecDepth 100000 in
set_option maxHeartbeats 4000000 in
theorem f_has (l : Launch) (D : va_G) (cI cZ cL : ClassId) (a : Nat → Nat) (F : Nat → Nat) (k : Nat) (w z h : Nat) (hk : k ≤ 200) (hF : ∀ j, j < k → F j < 2 ^ 31) (hw : w < 16) (hz : z < 24) (hh : h < 1000) : Cg l D cI cZ cL yX2_has wsX2_has rmX2_has [.ref (a 0), .int (nI w), .int (nI z), .int (nI h)] (fW a cI (nf F) (nI k)) (fun r0 w0 => r0 = some (.int (nI (b2n (bsF F (kyF w z h) 200 0 k < k ∧ F (bsF F (kyF w z h) 200 0 k) = kyF w z h)))) ∧ w0 = fW a cI (nf F) (nI k)) := by
  refine Cg.ofJ (own := RX2) (cc := cX2_has) (maxL := 5) (ret := (some .boolean)) (by decide) rfl rfl (Nat.le_of_ble_eq_true rfl) ?_
  intro p e s m args below meth c A CX hr hlocks hname
  have hky : kyF w z h < 2 ^ 31 := by unfold kyF; omega
  have hrk : bsF F (kyF w z h) 200 0 k ≤ k := bsF_in _ _ _ _ _ (Nat.zero_le _)
  show J p l e rmX2_has s m args below meth c D A 5 0 0 (MQ below (jQc D (fun r0 w0 => r0 = some (.int (nI (b2n (bsF F (kyF w z h) 200 0 k < k ∧ F (bsF F (kyF w z h) 200 0 k) = kyF w z h)))) ∧ w0 = fW a cI (nf F) (nI k)) A) args s rmX2_has.cells rmX2_has.slots A) (fW a cI (nf F) (nI k)) 0 [(0, .ref (a 0)), (1, .int (nI w)), (2, .int (nI z)), (3, .int (nI h))] []
  refine j_iload_n CX 1 dX2_has_0 rfl rfl ?_
  refine j_iload_n CX 2 dX2_has_1 rfl rfl ?_
  refine j_iload_n CX 3 dX2_has_2 rfl rfl ?_
  refine j_callS CX (n := 3) (b := 0) (pre := []) (post := fW a cI (nf F) (nI k)) (rest := []) (f_keyOf l D cI cZ cL w z h) gX2_has_X2_keyOf rfl (by decide +kernel) ⟨Nat.le_of_ble_eq_true rfl, Nat.le_of_ble_eq_true rfl⟩ rfl rfl rfl (Nat.le_of_ble_eq_true rfl) dX2_has_3 ⟨Nat.le_refl _, Nat.le_refl _⟩ (fun r9 w9 h9 => ?_)
  obtain ⟨rfl, rfl⟩ := h9
  refine j_w (w' := fW a cI (nf F) (nI k)) rfl ?_
  refine j_st (st9 := [.int (nI (kyF w z h))]) rfl ?_
  refine j_istore CX (lv' := [(4, .int (nI (kyF w z h))), (0, .ref (a 0)), (1, .int (nI w)), (2, .int (nI z)), (3, .int (nI h))]) dX2_has_6 (by decide) rfl ?_
  refine j_aload_n CX 1 dX2_has_8 rfl rfl ?_
  refine j_aload_n CX 1 dX2_has_9 rfl rfl ?_
  refine j_iload CX 0 dX2_has_10 rfl ?_
  refine j_callV CX (n := 1) (pre := []) (post := []) (rest := [.ref (a 0)]) (qc := (RX2, TX2, 2)) (f_placeOf l D cI cZ cL a F k (kyF w z h) hk hF hky) gX2_has_X2_placeOf rfl (by decide +kernel) ⟨Nat.le_of_ble_eq_true rfl, Nat.le_of_ble_eq_true rfl⟩ rfl rfl rfl rfl rfl (Nat.le_of_ble_eq_true rfl) dX2_has_12 ⟨Nat.le_refl _, Nat.le_refl _⟩ (fun r9 w9 h9 => ?_)
  obtain ⟨rfl, rfl⟩ := h9
  refine j_w (w' := fW a cI (nf F) (nI k)) rfl ?_
  refine j_st (st9 := [.int (nI (bsF F (kyF w z h) 200 0 k)), .ref (a 0)]) rfl ?_
  refine j_iload CX 0 dX2_has_15 rfl ?_
  refine j_callV CX (n := 2) (pre := []) (post := []) (rest := []) (qc := (RX2, TX2, 2)) (f_stands l D cI cZ cL a F k (bsF F (kyF w z h) 200 0 k) (kyF w z h) hk (by omega) hF hky) gX2_has_X2_stands rfl (by decide +kernel) ⟨Nat.le_of_ble_eq_true rfl, Nat.le_of_ble_eq_true rfl⟩ rfl rfl rfl rfl rfl (Nat.le_of_ble_eq_true rfl) dX2_has_17 ⟨Nat.le_refl _, Nat.le_refl _⟩ (fun r9 w9 h9 => ?_)
  obtain ⟨rfl, rfl⟩ := h9
  refine j_w (w' := fW a cI (nf F) (nI k)) rfl ?_
  refine j_st (st9 := [.int (nI (b2n (bsF F (kyF w z h) 200 0 k < k ∧ F (bsF F (kyF w z h) 200 0 k) = kyF w z h)))]) rfl ?_
  exact j_zret CX hr hlocks dX2_has_20 (b2n_nar _) (⟨rfl, rfl⟩)

abbrev rmX2_add : Room := { frames := 1, cells := 0, slots := 0, locals := 64 }
set_option maxRecDepth 100000 in
set_option maxHeartbeats 4000000 in
theorem f_add (l : Launch) (D : va_G) (cI cZ cL : ClassId) (a : Nat → Nat) (F : Nat → Nat) (k : Nat) (w z h : Nat) (hk : k ≤ 200) (hF : ∀ j, j < k → F j < 2 ^ 31) (hw : w < 16) (hz : z < 24) (hh : h < 1000) (hk2 : k < 200) : Cg l D cI cZ cL yX2_add wsX2_add rmX2_add [.ref (a 0), .int (nI w), .int (nI z), .int (nI h)] (fW a cI (nf F) (nI k)) (fun r0 w0 => r0 = none ∧ w0 = fW a cI (nf (updN (cpyN F F (bsF F (kyF w z h) 200 0 k) (bsF F (kyF w z h) 200 0 k + 1) (k - (bsF F (kyF w z h) 200 0 k))) (bsF F (kyF w z h) 200 0 k) (kyF w z h))) (nI (k + 1))) := by
  refine Cg.ofJ (own := RX2) (cc := cX2_add) (maxL := 6) (ret := none) (by decide) rfl rfl (Nat.le_of_ble_eq_true rfl) ?_
  intro p e s m args below meth c A CX hr hlocks hname
  have hin2 : ∀ x ∈ u_ws RX2 TX2 2, x ∈ wsX2_add := by decide +kernel
  have hfl9 : Cond.fieldLink RX2 9 (TX2 0).1 (TX2 0).2.1 (TX2 0).2.2.1 ∈ wsX2_add := by decide +kernel
  have hfl15 : Cond.fieldLink RX2 15 (TX2 1).1 (TX2 1).2.1 (TX2 1).2.2.1 ∈ wsX2_add := by decide +kernel
  have hml35 : Cond.methodLink RX2 35 arraycopyName ∈ wsX2_add := by decide +kernel
  have hacn : Cond.native arraycopyName ∈ wsX2_add := by decide +kernel
  have hacs : Cond.static arraycopyName ∈ wsX2_add := by decide +kernel
  have hsys : Cond.initialized "java/lang/System" ∈ wsX2_add := by decide +kernel
  have hky : kyF w z h < 2 ^ 31 := by unfold kyF; omega
  have hrk : bsF F (kyF w z h) 200 0 k ≤ k := bsF_in _ _ _ _ _ (Nat.zero_le _)
  show J p l e rmX2_add s m args below meth c D A 6 0 0 (MQ below (jQc D (fun r0 w0 => r0 = none ∧ w0 = fW a cI (nf (updN (cpyN F F (bsF F (kyF w z h) 200 0 k) (bsF F (kyF w z h) 200 0 k + 1) (k - (bsF F (kyF w z h) 200 0 k))) (bsF F (kyF w z h) 200 0 k) (kyF w z h))) (nI (k + 1))) A) args s rmX2_add.cells rmX2_add.slots A) (fW a cI (nf F) (nI k)) 0 [(0, .ref (a 0)), (1, .int (nI w)), (2, .int (nI z)), (3, .int (nI h))] []
  refine j_aload_n CX 0 dX2_add_0 rfl rfl ?_
  refine j_callV CX (n := 0) (pre := []) (post := []) (rest := []) (qc := (RX2, TX2, 2)) (f_isFull l D cI cZ cL a F k hk) gX2_add_X2_isFull rfl (by decide +kernel) ⟨Nat.le_of_ble_eq_true rfl, Nat.le_of_ble_eq_true rfl⟩ rfl rfl rfl rfl rfl (Nat.le_of_ble_eq_true rfl) dX2_add_1 ⟨Nat.le_refl _, Nat.le_refl _⟩ (fun r9 w9 h9 => ?_)
  obtain ⟨rfl, rfl⟩ := h9
  refine j_w (w' := fW a cI (nf F) (nI k)) rfl ?_
  refine j_st (st9 := [.int (nI (b2n (200 ≤ k)))]) rfl ?_
  refine j_ifN_eq CX (by first | assumption | omega | exact b2n_lt _ | exact t2n_lt _) 8 dX2_add_4 (by decide) (fun h4 => ?_) (fun h4 => ?_)
  · refine j_iload_n CX 1 dX2_add_8 rfl rfl ?_
    refine j_iload_n CX 2 dX2_add_9 rfl rfl ?_
    refine j_iload_n CX 3 dX2_add_10 rfl rfl ?_
    refine j_callS CX (n := 3) (b := 0) (pre := []) (post := fW a cI (nf F) (nI k)) (rest := []) (f_keyOf l D cI cZ cL w z h) gX2_add_X2_keyOf rfl (by decide +kernel) ⟨Nat.le_of_ble_eq_true rfl, Nat.le_of_ble_eq_true rfl⟩ rfl rfl rfl (Nat.le_of_ble_eq_true rfl) dX2_add_11 ⟨Nat.le_refl _, Nat.le_refl _⟩ (fun r9 w9 h9 => ?_)
    obtain ⟨rfl, rfl⟩ := h9
    refine j_w (w' := fW a cI (nf F) (nI k)) rfl ?_
    refine j_st (st9 := [.int (nI (kyF w z h))]) rfl ?_
    refine j_istore CX (lv' := [(4, .int (nI (kyF w z h))), (0, .ref (a 0)), (1, .int (nI w)), (2, .int (nI z)), (3, .int (nI h))]) dX2_add_14 (by decide) rfl ?_
    refine j_aload_n CX 1 dX2_add_16 rfl rfl ?_
    refine j_iload CX 0 dX2_add_17 rfl ?_
    refine j_callV CX (n := 1) (pre := []) (post := []) (rest := []) (qc := (RX2, TX2, 2)) (f_placeOf l D cI cZ cL a F k (kyF w z h) hk hF hky) gX2_add_X2_placeOf rfl (by decide +kernel) ⟨Nat.le_of_ble_eq_true rfl, Nat.le_of_ble_eq_true rfl⟩ rfl rfl rfl rfl rfl (Nat.le_of_ble_eq_true rfl) dX2_add_19 ⟨Nat.le_refl _, Nat.le_refl _⟩ (fun r9 w9 h9 => ?_)
    obtain ⟨rfl, rfl⟩ := h9
    refine j_w (w' := fW a cI (nf F) (nI k)) rfl ?_
    refine j_st (st9 := [.int (nI (bsF F (kyF w z h) 200 0 k))]) rfl ?_
    refine j_istore CX (lv' := [(5, .int (nI (bsF F (kyF w z h) 200 0 k))), (4, .int (nI (kyF w z h))), (0, .ref (a 0)), (1, .int (nI w)), (2, .int (nI z)), (3, .int (nI h))]) dX2_add_22 (by decide) rfl ?_
    refine j_aload_n CX 2 dX2_add_24 rfl rfl ?_
    refine j_get CX 0 0 dX2_add_25 rfl rfl hin2 (by decide) hfl9 rfl ?_
    refine j_iload CX 0 dX2_add_28 rfl ?_
    refine j_aload_n CX 2 dX2_add_30 rfl rfl ?_
    refine j_get CX 0 0 dX2_add_31 rfl rfl hin2 (by decide) hfl9 rfl ?_
    refine j_iload CX 0 dX2_add_34 rfl ?_
    refine j_iconst CX dX2_add_36 (show _ = (nI 1 : Int32) by decide) ?_
    refine j_iadd CX dX2_add_37 ?_
    refine j_top (show (nI (bsF F (kyF w z h) 200 0 k)) + (nI 1) = nI (bsF F (kyF w z h) 200 0 k + 1) from nI_add _ _) ?_
    refine j_aload_n CX 2 dX2_add_38 rfl rfl ?_
    refine j_get CX 0 1 dX2_add_39 rfl rfl hin2 (by decide) hfl15 rfl ?_
    refine j_iload CX 0 dX2_add_42 rfl ?_
    refine j_isub CX dX2_add_44 ?_
    refine j_top (show ((nI k) - (nI (bsF F (kyF w z h) 200 0 k))) = nI (k - (bsF F (kyF w z h) 200 0 k)) from pk_sub hrk) ?_
    refine j_copyi CX (w' := fW a cI (va_cpy (nf F) (nf F) (bsF F (kyF w z h) 200 0 k) (bsF F (kyF w z h) 200 0 k + 1) (k - (bsF F (kyF w z h) 200 0 k))) (nI k)) 1 1 (bsF F (kyF w z h) 200 0 k) (bsF F (kyF w z h) 200 0 k + 1) (k - (bsF F (kyF w z h) 200 0 k)) dX2_add_45 hml35 hacn hacs hsys rfl rfl rfl rfl rfl (by omega) (by omega) (by decide) (by decide) (Nat.le_of_ble_eq_true rfl) (Nat.le_of_ble_eq_true rfl) rfl ?_
    refine j_aload_n CX 2 dX2_add_48 rfl rfl ?_
    refine j_get CX 0 0 dX2_add_49 rfl rfl hin2 (by decide) hfl9 rfl ?_
    refine j_iload CX 0 dX2_add_52 rfl ?_
    refine j_iload CX 1 dX2_add_54 rfl ?_
    refine j_iast CX (w' := fW a cI (upd (va_cpy (nf F) (nf F) (bsF F (kyF w z h) 200 0 k) (bsF F (kyF w z h) 200 0 k + 1) (k - (bsF F (kyF w z h) 200 0 k))) (bsF F (kyF w z h) 200 0 k) (nI (kyF w z h))) (nI k)) 1 (bsF F (kyF w z h) 200 0 k) dX2_add_56 rfl (rfl) (by first | assumption | omega) (by decide) rfl ?_
    refine j_w (show fW a cI (upd (va_cpy (nf F) (nf F) (bsF F (kyF w z h) 200 0 k) (bsF F (kyF w z h) 200 0 k + 1) (k - (bsF F (kyF w z h) 200 0 k))) (bsF F (kyF w z h) 200 0 k) (nI (kyF w z h))) (nI k) = fW a cI (nf (updN (cpyN F F (bsF F (kyF w z h) 200 0 k) (bsF F (kyF w z h) 200 0 k + 1) (k - (bsF F (kyF w z h) 200 0 k))) (bsF F (kyF w z h) 200 0 k) (kyF w z h))) (nI k) by rw [nf_cpy, nf_upd]) ?_
    refine j_aload_n CX 2 dX2_add_57 rfl rfl ?_
    refine j_dup CX dX2_add_58 rfl ?_
    refine j_get CX 0 1 dX2_add_59 rfl rfl hin2 (by decide) hfl15 rfl ?_
    refine j_iconst CX dX2_add_62 (show _ = (nI 1 : Int32) by decide) ?_
    refine j_iadd CX dX2_add_63 ?_
    refine j_top (show (nI k) + (nI 1) = nI (k + 1) from nI_add _ _) ?_
    refine j_put CX (w' := fW a cI (nf (updN (cpyN F F (bsF F (kyF w z h) 200 0 k) (bsF F (kyF w z h) 200 0 k + 1) (k - (bsF F (kyF w z h) 200 0 k))) (bsF F (kyF w z h) 200 0 k) (kyF w z h))) (nI (k + 1))) 0 1 dX2_add_64 rfl rfl hin2 tyX2 tyX2_ok nmX2 (by decide) hfl15 rfl rfl rfl rfl (Nat.le_of_ble_eq_true rfl) rfl ?_
    exact j_vret CX hr hlocks dX2_add_67 (⟨rfl, rfl⟩)
  · exact absurd h4 (by rw [b2n_f (by omega)]; decide)

abbrev rmX2_remove : Room := { frames := 1, cells := 0, slots := 0, locals := 64 }
set_option maxRecDepth 100000 in
set_option maxHeartbeats 4000000 in
theorem f_remove (l : Launch) (D : va_G) (cI cZ cL : ClassId) (a : Nat → Nat) (F : Nat → Nat) (k : Nat) (w z h : Nat) (hk : k ≤ 200) (hF : ∀ j, j < k → F j < 2 ^ 31) (hw : w < 16) (hz : z < 24) (hh : h < 1000) (hin : bsF F (kyF w z h) 200 0 k < k ∧ F (bsF F (kyF w z h) 200 0 k) = kyF w z h) : Cg l D cI cZ cL yX2_remove wsX2_remove rmX2_remove [.ref (a 0), .int (nI w), .int (nI z), .int (nI h)] (fW a cI (nf F) (nI k)) (fun r0 w0 => r0 = none ∧ w0 = fW a cI (nf (cpyN F F (bsF F (kyF w z h) 200 0 k + 1) (bsF F (kyF w z h) 200 0 k) (k - (bsF F (kyF w z h) 200 0 k) - 1))) (nI (k - 1))) := by
  refine Cg.ofJ (own := RX2) (cc := cX2_remove) (maxL := 6) (ret := none) (by decide) rfl rfl (Nat.le_of_ble_eq_true rfl) ?_
  intro p e s m args below meth c A CX hr hlocks hname
  have hin2 : ∀ x ∈ u_ws RX2 TX2 2, x ∈ wsX2_remove := by decide +kernel
  have hfl9 : Cond.fieldLink RX2 9 (TX2 0).1 (TX2 0).2.1 (TX2 0).2.2.1 ∈ wsX2_remove := by decide +kernel
  have hfl15 : Cond.fieldLink RX2 15 (TX2 1).1 (TX2 1).2.1 (TX2 1).2.2.1 ∈ wsX2_remove := by decide +kernel
  have hml35 : Cond.methodLink RX2 35 arraycopyName ∈ wsX2_remove := by decide +kernel
  have hacn : Cond.native arraycopyName ∈ wsX2_remove := by decide +kernel
  have hacs : Cond.static arraycopyName ∈ wsX2_remove := by decide +kernel
  have hsys : Cond.initialized "java/lang/System" ∈ wsX2_remove := by decide +kernel
  have hky : kyF w z h < 2 ^ 31 := by unfold kyF; omega
  have hrk : bsF F (kyF w z h) 200 0 k ≤ k := bsF_in _ _ _ _ _ (Nat.zero_le _)
  have hrk2 := hin.1
  show J p l e rmX2_remove s m args below meth c D A 6 0 0 (MQ below (jQc D (fun r0 w0 => r0 = none ∧ w0 = fW a cI (nf (cpyN F F (bsF F (kyF w z h) 200 0 k + 1) (bsF F (kyF w z h) 200 0 k) (k - (bsF F (kyF w z h) 200 0 k) - 1))) (nI (k - 1))) A) args s rmX2_remove.cells rmX2_remove.slots A) (fW a cI (nf F) (nI k)) 0 [(0, .ref (a 0)), (1, .int (nI w)), (2, .int (nI z)), (3, .int (nI h))] []
  refine j_iload_n CX 1 dX2_remove_0 rfl rfl ?_
  refine j_iload_n CX 2 dX2_remove_1 rfl rfl ?_
  refine j_iload_n CX 3 dX2_remove_2 rfl rfl ?_
  refine j_callS CX (n := 3) (b := 0) (pre := []) (post := fW a cI (nf F) (nI k)) (rest := []) (f_keyOf l D cI cZ cL w z h) gX2_remove_X2_keyOf rfl (by decide +kernel) ⟨Nat.le_of_ble_eq_true rfl, Nat.le_of_ble_eq_true rfl⟩ rfl rfl rfl (Nat.le_of_ble_eq_true rfl) dX2_remove_3 ⟨Nat.le_refl _, Nat.le_refl _⟩ (fun r9 w9 h9 => ?_)
  obtain ⟨rfl, rfl⟩ := h9
  refine j_w (w' := fW a cI (nf F) (nI k)) rfl ?_
  refine j_st (st9 := [.int (nI (kyF w z h))]) rfl ?_
  refine j_istore CX (lv' := [(4, .int (nI (kyF w z h))), (0, .ref (a 0)), (1, .int (nI w)), (2, .int (nI z)), (3, .int (nI h))]) dX2_remove_6 (by decide) rfl ?_
  refine j_aload_n CX 1 dX2_remove_8 rfl rfl ?_
  refine j_iload CX 0 dX2_remove_9 rfl ?_
  refine j_callV CX (n := 1) (pre := []) (post := []) (rest := []) (qc := (RX2, TX2, 2)) (f_placeOf l D cI cZ cL a F k (kyF w z h) hk hF hky) gX2_remove_X2_placeOf rfl (by decide +kernel) ⟨Nat.le_of_ble_eq_true rfl, Nat.le_of_ble_eq_true rfl⟩ rfl rfl rfl rfl rfl (Nat.le_of_ble_eq_true rfl) dX2_remove_11 ⟨Nat.le_refl _, Nat.le_refl _⟩ (fun r9 w9 h9 => ?_)
  obtain ⟨rfl, rfl⟩ := h9
  refine j_w (w' := fW a cI (nf F) (nI k)) rfl ?_
  refine j_st (st9 := [.int (nI (bsF F (kyF w z h) 200 0 k))]) rfl ?_
  refine j_istore CX (lv' := [(5, .int (nI (bsF F (kyF w z h) 200 0 k))), (4, .int (nI (kyF w z h))), (0, .ref (a 0)), (1, .int (nI w)), (2, .int (nI z)), (3, .int (nI h))]) dX2_remove_14 (by decide) rfl ?_
  refine j_aload_n CX 2 dX2_remove_16 rfl rfl ?_
  refine j_iload CX 0 dX2_remove_17 rfl ?_
  refine j_iload CX 1 dX2_remove_19 rfl ?_
  refine j_callV CX (n := 2) (pre := []) (post := []) (rest := []) (qc := (RX2, TX2, 2)) (f_stands l D cI cZ cL a F k (bsF F (kyF w z h) 200 0 k) (kyF w z h) hk (by omega) hF hky) gX2_remove_X2_stands rfl (by decide +kernel) ⟨Nat.le_of_ble_eq_true rfl, Nat.le_of_ble_eq_true rfl⟩ rfl rfl rfl rfl rfl (Nat.le_of_ble_eq_true rfl) dX2_remove_21 ⟨Nat.le_refl _, Nat.le_refl _⟩ (fun r9 w9 h9 => ?_)
  obtain ⟨rfl, rfl⟩ := h9
  refine j_w (w' := fW a cI (nf F) (nI k)) rfl ?_
  refine j_st (st9 := [.int (nI (b2n (bsF F (kyF w z h) 200 0 k < k ∧ F (bsF F (kyF w z h) 200 0 k) = kyF w z h)))]) rfl ?_
  refine j_ifN_eq CX (by first | assumption | omega | exact b2n_lt _ | exact t2n_lt _) 63 dX2_remove_24 (by decide) (fun h24 => ?_) (fun h24 => ?_)
  · exact absurd h24 (by rw [b2n_t hin]; decide)
  · refine j_aload_n CX 2 dX2_remove_27 rfl rfl ?_
    refine j_get CX 0 0 dX2_remove_28 rfl rfl hin2 (by decide) hfl9 rfl ?_
    refine j_iload CX 0 dX2_remove_31 rfl ?_
    refine j_iconst CX dX2_remove_33 (show _ = (nI 1 : Int32) by decide) ?_
    refine j_iadd CX dX2_remove_34 ?_
    refine j_top (show (nI (bsF F (kyF w z h) 200 0 k)) + (nI 1) = nI (bsF F (kyF w z h) 200 0 k + 1) from nI_add _ _) ?_
    refine j_aload_n CX 2 dX2_remove_35 rfl rfl ?_
    refine j_get CX 0 0 dX2_remove_36 rfl rfl hin2 (by decide) hfl9 rfl ?_
    refine j_iload CX 0 dX2_remove_39 rfl ?_
    refine j_aload_n CX 2 dX2_remove_41 rfl rfl ?_
    refine j_get CX 0 1 dX2_remove_42 rfl rfl hin2 (by decide) hfl15 rfl ?_
    refine j_iload CX 0 dX2_remove_45 rfl ?_
    refine j_isub CX dX2_remove_47 ?_
    refine j_top (show ((nI k) - (nI (bsF F (kyF w z h) 200 0 k))) = nI (k - (bsF F (kyF w z h) 200 0 k)) from pk_sub hrk) ?_
    refine j_iconst CX dX2_remove_48 (show _ = (nI 1 : Int32) by decide) ?_
    refine j_isub CX dX2_remove_49 ?_
    refine j_top (show ((nI (k - (bsF F (kyF w z h) 200 0 k))) - (nI 1)) = nI (k - (bsF F (kyF w z h) 200 0 k) - 1) from pk_sub (by omega)) ?_
    refine j_copyi CX (w' := fW a cI (va_cpy (nf F) (nf F) (bsF F (kyF w z h) 200 0 k + 1) (bsF F (kyF w z h) 200 0 k) (k - (bsF F (kyF w z h) 200 0 k) - 1)) (nI k)) 1 1 (bsF F (kyF w z h) 200 0 k + 1) (bsF F (kyF w z h) 200 0 k) (k - (bsF F (kyF w z h) 200 0 k) - 1) dX2_remove_50 hml35 hacn hacs hsys rfl rfl rfl rfl rfl (by omega) (by omega) (by decide) (by decide) (Nat.le_of_ble_eq_true rfl) (Nat.le_of_ble_eq_true rfl) rfl ?_
    refine j_aload_n CX 2 dX2_remove_53 rfl rfl ?_
    refine j_dup CX dX2_remove_54 rfl ?_
    refine j_get CX 0 1 dX2_remove_55 rfl rfl hin2 (by decide) hfl15 rfl ?_
    refine j_iconst CX dX2_remove_58 (show _ = (nI 1 : Int32) by decide) ?_
    refine j_isub CX dX2_remove_59 ?_
    refine j_top (show ((nI k) - (nI 1)) = nI (k - 1) from pk_sub (by omega)) ?_
    refine j_put CX (w' := fW a cI (va_cpy (nf F) (nf F) (bsF F (kyF w z h) 200 0 k + 1) (bsF F (kyF w z h) 200 0 k) (k - (bsF F (kyF w z h) 200 0 k) - 1)) (nI (k - 1))) 0 1 dX2_remove_60 rfl rfl hin2 tyX2 tyX2_ok nmX2 (by decide) hfl15 rfl rfl rfl rfl (Nat.le_of_ble_eq_true rfl) rfl ?_
    exact j_vret CX hr hlocks dX2_remove_63 (⟨rfl, by rw [nf_cpy]⟩)
