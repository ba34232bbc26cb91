def R_law : String := "ZoneThreadsLaw"
def lw_P (b : Addr) (xs : List Int32) (args : Array Value) (s : State) : Prop := args = #[.ref b] ∧ s.IntsAt b xs ∧ xs.length ≤ 2561 ∧ (Jvm.Cond.and given_1 narrow_1).before args s = true
def lw_Q (_ : Array Value) (s : State) (o : Outcome) (t : State) : Prop := o = .returned (some (.int 1)) ∧ Framed s o t [] 601024 7293000
def lw_Z (below : List Frame) (a : Array Value) (s : State) : State → Prop := fun t => ∃ o, t.status = .running ∧ Ended t below o ∧ lw_Q a s o t
/-- the law's own end, with 1 on the stack, nothing written that was there before, its room as the claim has it -/
theorem lw_ret {p : Program} {l : Launch} {e : Env} {s : State} {m : MethodId} {below : List Frame} {meth : Method} {c : Code} {b : Nat} (hx : p.tables.exec = Jvm.exec) (hb : c.code = code) (hr : meth.sig.returnType = ret) (hlocks : meth.locks = false) {pc : Nat} {H : Heap} {ls : Array Slot} (hdg : decode code pc = .ok (.ireturn, 1)) : W p l e room_1 s m #[Value.ref b] below meth c H [] 601024 7293000 (lw_Z below #[Value.ref b] s) (F0 m pc ls [.int 1]) := by
  intro T hT X
  obtain ⟨fs, hret, hrun, hended, hW, hframe⟩ := X.leave (v := some (.int 1)) (hlocks := hlocks) (fun h => by rw [hr] at h; cases h)
  have hmeth' : T.vm.method? m = some meth := X.method'
  refine ⟨T.setFrames fs, ?_, .returned (some (.int 1)), hrun, hended, rfl, ⟨_, rfl⟩, hW, hframe⟩
  jvm_step X.here [X.here.top, hx, hb, hdg, hmeth', hr, ret, narrow_b1]
  (try refine ⟨rfl, ?_⟩); (try refine ⟨rfl, ?_⟩)
  first | (intro acts; rw [hret _ acts rfl rfl rfl]) | rw [hret _ _ rfl rfl rfl]
  exact Steps.refl _
/-- what holds at the law's entry: the machine, the code, the tables' words (any of lw_tbl by 'hts w (by decide +kernel)'), the script of L ints xs at the cell b, what the Statement gives of the start (any of its parts by flat_of_before) -/
def lw_At (p : Program) (s : State) (m : MethodId) (meth : Method) (c : Code) (b L : Nat) (xs : Nat → Int32) : Prop :=
  p.tables.exec = Jvm.exec ∧ c.code = code ∧ meth.sig.returnType = ret ∧ c.maxLocals = 7 ∧ s.vm.findClass R_law = some m.cls ∧ (∀ w ∈ lw_tbl, w.before #[Value.ref b] s = true) ∧ va_X b L xs s s.heap ∧ b < s.heap.size ∧ meth.locks = false ∧ (Jvm.Cond.and given_1 narrow_1).before #[Value.ref b] s = true

theorem rp0 (C : Nat → Nat) : ∀ m k, k < m → rpC (fun _ => 0) C m k = 0 := by
  intro m
  induction m with
  | zero => intro k h; omega
  | succ m ih =>
    intro k h
    show updN _ _ _ k = 0
    by_cases e : k = m
    · subst e
      rw [updN_s]
      exact rcS_here (fun q => by obtain ⟨j, _, h2, _⟩ := (frF_iff _).mp q; exact h2 rfl)
    · rw [updN_n e]; exact ih k (by omega)
theorem miF_val : ∀ k j, j < k → miF k j = -1 := by
  intro k
  induction k with
  | zero => intro j h; omega
  | succ k ih =>
    intro j h
    show upd _ k _ j = _
    by_cases e : j = k
    · subst e; rw [pk_us]
    · rw [pk_un e]; exact ih j (by omega)
theorem inv0 {n : Nat} (h1 : 1 ≤ n) (h2 : n ≤ 24) : InvZ n (fun _ => 0) (fun _ => 0) (fun _ => 0) (fun _ => 0) (fun _ => 0) 1 := by
  refine ⟨h1, h2, fun z o _ _ => ⟨rfl, 0, by omega, nI_0.symm⟩, fun _ _ => rfl, fun _ _ => vB_0, fun z hz => (rp0 _ n z hz).symm, ?_, by omega, fun _ _ => (show (0 : Nat) < 2 ^ 31 by decide)⟩
  · rw [mxC_congr (C' := fun _ => 0) n (fun j hj => rp0 _ n j hj)]
    have := mxC_le (fun _ => 0) 0 n (fun j _ => Nat.le_refl _)
    omega
theorem rel0 {cI cZ : ClassId} {x a0 n : Nat} {az af ac ab aj a : Nat → Nat} (ha : a 0 = a0) (h1 : 1 ≤ n) (h2 : n ≤ 24) : RelW cI cZ x a0 0 (xW x az af ac ab aj (-1) ++ (zW az cI n (fun _ => 0) (fun _ => 0) (fun _ => 0) (fun _ => 0) (nf (fun _ => 0)) (nI 1) ++ (fW af cI (nf (fun _ => 0)) (nI 0) ++ (cW ac cI (miF 16) (nI 0) (nI 0) ++ (bW ab cI (fun _ => 0) (nI 0) ++ (jW aj cI (nf (fun _ => 0)) (fun _ => 0) (fun _ => 0) (nI 0) (nI 0)))))))
    (mW a cI cZ n 0 (nI 0) (-1) (nI 0) (nI 0) 0 (nI 0) (nI 0) (fun _ => 0) (fun _ => 0) (nf (fun _ => 0)) (nf (fun _ => 0)) (nf (fun _ => 0)) (nf (fun _ => 0)) (nf (fun _ => 0)) (fun _ => 0) (nf (fun _ => 0)) (fun _ => 0) (nf (fun _ => 0)) (nf (fun _ => 0)) (nf (fun _ => 0)) (nf (fun _ => 0)) (fun _ => 0) (nf (fun _ => 0)) (fun _ => 0) (fun _ => 0)) := by
  refine RelW.mk ha (inv0 h1 h2) ?_ ?_ ?_ ?_
  · exact ⟨rfl, by omega, fun i j _ h => by omega, fun k h => by omega, fun i j _ h => by omega, fun key => ⟨fun ⟨j, h, _⟩ => by omega, fun ⟨j, h, _⟩ => by omega⟩⟩
  · exact ⟨by omega, fun w hw => by rw [miF_val 16 w hw, if_neg (by omega)], fun _ _ => Nat.zero_le 1⟩
  · exact ⟨rfl, by omega, fun j h => by omega⟩
  · exact ⟨⟨rfl, rfl, by omega, fun p h => by omega, fun p q _ h => by omega, fun j h => by omega, fun j h => by omega, fun p h => by omega⟩, by omega⟩
theorem clampN (v : Int32) : ∃ N, 1 ≤ N ∧ N ≤ 24 ∧ (if nI 1 < (if v < nI 24 then v else nI 24) then (if v < nI 24 then v else nI 24) else nI 1) = nI N ∧ (v < nI 1 → N = 1) ∧ (nI 24 < v → N = 24) ∧ (¬ v < nI 1 → ¬ nI 24 < v → v = nI N) := by
  rcases sp_r v 1 24 (by decide) (by decide) with ⟨z, h1, h2, rfl⟩ | g
  · refine ⟨z, h1, h2, ?_, fun h => absurd ((nI_ltI (by omega) (by decide)).mp h) (by omega), fun h => absurd ((nI_ltI (by decide) (by omega)).mp h) (by omega), fun _ _ => rfl⟩
    have e : (if nI z < nI 24 then nI z else nI 24) = nI z := by
      by_cases q : z < 24
      · rw [if_pos ((nI_ltI (by omega) (by decide)).mpr q)]
      · rw [if_neg (fun t => q ((nI_ltI (by omega) (by decide)).mp t)), show z = 24 by omega]
    rw [e]
    by_cases q : 1 < z
    · rw [if_pos ((nI_ltI (by decide) (by omega)).mpr q)]
    · rw [if_neg (fun t => q ((nI_ltI (by decide) (by omega)).mp t)), show z = 1 by omega]
  · have a1 : (nI 1).toInt = 1 := by decide
    have a24 : (nI 24).toInt = 24 := by decide
    by_cases q : v < nI 1
    · refine ⟨1, by omega, by omega, ?_, fun _ => rfl, fun h => ?_, fun h => absurd q h⟩
      · rw [Int32.lt_iff_toInt_lt] at q
        rw [if_pos (show v < nI 24 by rw [Int32.lt_iff_toInt_lt]; omega), if_neg (show ¬ nI 1 < v by rw [Int32.lt_iff_toInt_lt]; omega)]
      · rw [Int32.lt_iff_toInt_lt] at q h
        omega
    · have q2 : nI 24 < v := by
        rcases g with g | g
        · exact absurd g q
        · exact g
      refine ⟨24, by omega, by omega, ?_, fun h => absurd h q, fun _ => rfl, fun _ h => absurd q2 h⟩
      rw [Int32.lt_iff_toInt_lt] at q2
      rw [if_neg (show ¬ v < nI 24 by rw [Int32.lt_iff_toInt_lt]; omega), if_pos (by decide)]

set_option maxRecDepth 100000 in
set_option maxHeartbeats 4000000 in
theorem start_tables {b : Nat} {s : State} (hts : ∀ w ∈ lw_tbl, w.before #[Value.ref b] s = true) (hgv : (Jvm.Cond.and given_1 narrow_1).before #[Value.ref b] s = true) : ∃ (D : va_G) (cI cZ cL : ClassId) (σ : Nat → Nat), jG D cI cZ cL s ∧ jX σ s ∧ jZ (fun q : Nat => s.heap.size ≤ q) s s.heap := by
  have hs := flat_of_before _ hgv
  obtain ⟨c0, i0, K0⟩ := u_known (C := RX0) (T := TX0) (N := 2) (n := 2) hts inX0 (hts (Cond.instantiable RX0 2) (by decide +kernel))
  obtain ⟨c1, i1, K1⟩ := u_known (C := RX1) (T := TX1) (N := 3) (n := 3) hts inX1 (hts (Cond.instantiable RX1 3) (by decide +kernel))
  obtain ⟨c2, i2, K2⟩ := u_known (C := RX2) (T := TX2) (N := 2) (n := 2) hts inX2 (hts (Cond.instantiable RX2 2) (by decide +kernel))
  obtain ⟨c3, i3, K3⟩ := u_known (C := RX3) (T := TX3) (N := 5) (n := 5) hts inX3 (hts (Cond.instantiable RX3 5) (by decide +kernel))
  obtain ⟨c4, i4, K4⟩ := u_known (C := RX4) (T := TX4) (N := 7) (n := 7) hts inX4 (hts (Cond.instantiable RX4 7) (by decide +kernel))
  obtain ⟨c5, i5, K5⟩ := u_known (C := RX5) (T := TX5) (N := 6) (n := 6) hts inX5 (hts (Cond.instantiable RX5 6) (by decide +kernel))
  obtain ⟨c6, i6, K6⟩ := u_known (C := RX6) (T := TX6) (N := 27) (n := 27) hts inX6 (hts (Cond.instantiable RX6 27) (by decide +kernel))
  obtain ⟨cI, kI, pI, aI1, aI2, aI3⟩ := Cond.arrayClass_spec (args := #[Value.ref b]) (first := s) (o := none) (s := s) (idx := []) (type := .int) (hts (Cond.arrayClass .int) (by decide +kernel))
  obtain ⟨cZ, kZ, pZ, aZ1, aZ2, aZ3⟩ := Cond.arrayClass_spec (args := #[Value.ref b]) (first := s) (o := none) (s := s) (idx := []) (type := .boolean) (hts (Cond.arrayClass .boolean) (by decide +kernel))
  obtain ⟨cL, kL, pL, aL1, aL2, aL3⟩ := Cond.arrayClass_spec (args := #[Value.ref b]) (first := s) (o := none) (s := s) (idx := []) (type := .long) (hts (Cond.arrayClass .long) (by decide +kernel))
  obtain ⟨s0, _, _, _, q0, _⟩ := Cond.exactly_spec (args := #[Value.ref b]) (first := s) (o := none) (s := s) (idx := []) (t := .string RX5 155) (cls := "java/lang/String") (hs _ (by decide +kernel))
  obtain ⟨s1, _, _, _, q1, _⟩ := Cond.exactly_spec (args := #[Value.ref b]) (first := s) (o := none) (s := s) (idx := []) (t := .string RX5 68) (cls := "java/lang/String") (hs _ (by decide +kernel))
  obtain ⟨s2, _, _, _, q2, _⟩ := Cond.exactly_spec (args := #[Value.ref b]) (first := s) (o := none) (s := s) (idx := []) (t := .string RX5 99) (cls := "java/lang/String") (hs _ (by decide +kernel))
  obtain ⟨s3, _, _, _, q3, _⟩ := Cond.exactly_spec (args := #[Value.ref b]) (first := s) (o := none) (s := s) (idx := []) (t := .string RX5 141) (cls := "java/lang/String") (hs _ (by decide +kernel))
  refine ⟨(fun c => match c with | 0 => c0 | 1 => c1 | 2 => c2 | 3 => c3 | 4 => c4 | 5 => c5 | _ => c6, fun c => match c with | 0 => i0 | 1 => i1 | 2 => i2 | 3 => i3 | 4 => i4 | 5 => i5 | _ => i6), cI, cZ, cL, (fun i => match i with | 0 => s0 | 1 => s1 | 2 => s2 | _ => s3), ⟨⟨fun c q hq => ?_, fun k q hk => ?_⟩, (va_Nw.of rfl (hts (jNest) (by decide +kernel)))⟩, ⟨⟨(va_Nw.of rfl (hts (Cond.castable jIAE jIAE) (by decide +kernel))), (va_Nw.of rfl (hts (Cond.castable jISE jISE) (by decide +kernel))), va_Nc.of (hs (Cond.not (.castable jISE jIAE)) (by decide +kernel)), (va_Nw.of rfl (hts (Cond.declares (Bundle.initS "java/lang/RuntimeException")) (by decide +kernel))), (va_Nw.of rfl (hts (Cond.declares (Bundle.initS "java/lang/Exception")) (by decide +kernel))), (va_Nw.of rfl (hts (Cond.declares (Bundle.initS Bundle.tN)) (by decide +kernel)))⟩, vk_R.of (hts (Cond.stringRef RX5 155 "a number is out of its bounds") (by decide +kernel)) q0, vk_R.of (hts (Cond.stringRef RX5 68 "a wall needs two zones") (by decide +kernel)) q1, vk_R.of (hts (Cond.stringRef RX5 99 "200 failures are told") (by decide +kernel)) q2, vk_R.of (hts (Cond.stringRef RX5 141 "100 jobs wait") (by decide +kernel)) q3⟩, vx_Zqof (hts (Cond.laysStatic Bundle.tN "UNASSIGNED_STACK" Bundle.steD) (by decide +kernel)) (hts (Cond.initialized Bundle.tN) (by decide +kernel)) (hs (Cond.isRef (.static Bundle.tN "UNASSIGNED_STACK" Bundle.steD)) (by decide +kernel)) (fun a h1 h2 => absurd h1 (Nat.not_lt.mpr h2)), vx_Zqof (hts (Cond.laysStatic Bundle.tN "SUPPRESSED_SENTINEL" Bundle.listD) (by decide +kernel)) (hts (Cond.initialized Bundle.tN) (by decide +kernel)) (hs (Cond.isRef (.static Bundle.tN "SUPPRESSED_SENTINEL" Bundle.listD)) (by decide +kernel)) (fun a h1 h2 => absurd h1 (Nat.not_lt.mpr h2))⟩
  · have hc : c < 7 := (List.getElem?_eq_some_iff.mp hq).1
    rcases (show c = 0 ∨ c = 1 ∨ c = 2 ∨ c = 3 ∨ c = 4 ∨ c = 5 ∨ c = 6 by omega) with rfl | rfl | rfl | rfl | rfl | rfl | rfl
    · have e : some (RX0, TX0, 2) = some q := hq
      cases e
      exact K0
    · have e : some (RX1, TX1, 3) = some q := hq
      cases e
      exact K1
    · have e : some (RX2, TX2, 2) = some q := hq
      cases e
      exact K2
    · have e : some (RX3, TX3, 5) = some q := hq
      cases e
      exact K3
    · have e : some (RX4, TX4, 7) = some q := hq
      cases e
      exact K4
    · have e : some (RX5, TX5, 6) = some q := hq
      cases e
      exact K5
    · have e : some (RX6, TX6, 27) = some q := hq
      cases e
      exact K6
  · have hc : k < 3 := (List.getElem?_eq_some_iff.mp hk).1
    rcases (show k = 0 ∨ k = 1 ∨ k = 2 by omega) with rfl | rfl | rfl
    · have e : some (cI, FieldType.int) = some q := hk
      cases e
      exact ⟨fun N z => ⟨(fun k h => by cases h), kI, aI2, pI, aI3⟩, aI1⟩
    · have e : some (cZ, FieldType.boolean) = some q := hk
      cases e
      exact ⟨fun N z => ⟨(fun k h => by cases h), kZ, aZ2, pZ, aZ3⟩, aZ1⟩
    · have e : some (cL, FieldType.long) = some q := hk
      cases e
      exact ⟨fun N z => ⟨(fun k h => by cases h), kL, aL2, pL, aL3⟩, aL1⟩