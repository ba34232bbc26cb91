
section JH
/-- a contract of a method with a table of its own that always returns -/
def CgX (l : Launch) (D : va_G) (cI cZ cL : ClassId) (σ : Nat → Nat) (y : MethodName) (ws : List Cond) (rm : Room) (av : List Value) (w : va_W) (Po : Option Value → va_W → Prop) : Prop :=
  ∀ sz : Nat, Met l y ws rm (jPx D cI cZ cL σ av w sz) (jQc D Po (va_A w sz)) rm.cells rm.slots (va_A w sz)
variable {p : Program} {l : Launch} {e : Env} {R : Room} {s : State} {m : MethodId} {args : Array Value} {below : List Frame} {meth : Method} {c : Code} {D : va_G} {cI cZ cL : ClassId} {A : Nat → Prop} {nL cells slots : Nat} {Q : State → Prop} {σ : Nat → Nat} {E : String}
variable {cc : ByteArray} {Ts : List Cond} {own : String} {w w' : va_W} {pc : Nat} {lv lv' : List (Nat × Value)} {st rest : List Value} {Po : Option Value → va_W → Prop}
theorem CgX.ofJ {y : MethodName} {ws ws' : List Cond} {rm : Room} {av : List Value} {maxL : Nat} {ret : Option FieldType} {hh : List (Nat × Nat × Nat × Nat)} (hy : plainName y.cls = true) (hown : y.cls = own) (hw : ws = Cond.codeWith y cc maxL ret hh :: ws') (hlen : (lg_sl av).length ≤ maxL)
    (body : ∀ (p : Program) (e : Env) (s : State) (m : MethodId) (args : Array Value) (below : List Frame) (meth : Method) (c : Code) (A : Nat → Prop), jC p s m args c cc maxL ws own D cI cZ cL A → meth.sig.returnType = ret → meth.locks = false → c.exceptionTable.toList = tableOf hh → jX σ s → jZ A s s.heap →
      J p l e rm s m args below meth c D A maxL 0 0 (MQ below (jQc D Po A) args s rm.cells rm.slots A) w 0 (lv_args 0 av) []) : CgX l D cI cZ cL σ y ws rm av w Po := by
  intro sz
  refine MetFree.of_bodyS (code := cc) (maxLocals := maxL) (ret := ret) hy ?_ ?_
  · intro args s m h hn
    obtain ⟨m9, meth, c, hn9, h1, h2, h3, h4, -, h5, h6, -⟩ := Cond.codeWith_spec (atoms_spec (ws := ws) h _ (by rw [hw]; exact List.mem_cons_self))
    cases hn.symm.trans hn9
    exact ⟨meth, c, h1, h2, h3, h4, h5, h6⟩
  · intro p e s m args below meth c s₁ B hml hv _
    obtain ⟨⟨rfl, hsz, hP, hK, hD0⟩, hX, hZ⟩ := hv
    have hown9 : s.vm.findClass own = some m.cls := by rw [← hown]; exact findClass_of_methodNamed B.named
    have htab : c.exceptionTable.toList = tableOf hh := vx_table (x := y) B (atoms_spec (ws := ws) B.pre _ (by rw [hw]; exact List.mem_cons_self))
    subst hsz
    have hl := lv_entry av (n := maxL) hlen
    have hh0 : s₁.heap = s.heap := by rw [B.state]; rfl
    have hW := body p e s m av.toArray below meth c (va_A w s.heap.size) ⟨⟨B.exec, B.bytes, hml, hown9, atoms_spec (ws := ws) B.pre⟩, hK, fun q h => Or.inr h⟩ B.returns B.notSynchronized htab hX hZ s.heap [] _ hP hD0.self va_S.rf hl
    rw [← lg_entry_eq] at hW
    obtain ⟨t, a1, o, b1, b2, b3⟩ := hW s₁ hh0 (Stand.of_body B)
    exact ⟨t, o, a1, b1, b2, ⟨b3.1, b3.2⟩⟩
/-- the call of such a method -/
theorem j_callSW (C : jC p s m args c cc nL Ts own D cI cZ cL A) (hX : jX σ s) (hZ : jZ A s s.heap) {y : MethodName} {ws ws' : List Cond} {rm : Room} {bytes : ByteArray} {maxL index n : Nat} {ret : Option FieldType} {hh : List (Nat × Nat × Nat × Nat)} {As : List Value} {pre wc post : va_W} (hct : CgX l D cI cZ cL σ y ws rm As wc Po) (hG : GoodIn Ts (va_wsS own index y ws)) (hw9 : ws = Cond.codeWith y bytes maxL ret hh :: ws') (hd : y.cls ≠ "java/lang/invoke/MethodHandle" ∧ y.cls ≠ "java/lang/invoke/VarHandle" ∧ (parseMethodDescriptor y.desc).map (fun d => d.parameters.length) = some n) (hR : rm.frames + 1 ≤ R.frames ∧ 8 + (maxL + 11) + rm.locals ≤ R.locals)
    (hw : w = pre ++ (wc ++ post)) (hn : As.length = n) (hst : st = As.reverse ++ rest) (hro : (rest.map fun v => v.category).sum ≤ 8) (d : decode cc pc = .ok (.invokestatic index, 3)) (hf : cells + rm.cells ≤ R.cells ∧ slots + rm.slots ≤ R.slots)
    (k : ∀ (r : Option Value) (wc' : va_W), Po r wc' → J p l e R s m args below meth c D A nL (cells + rm.cells) (slots + rm.slots) Q (pre ++ (wc' ++ post)) (pc + 3) lv (r.toList ++ rest)) : J p l e R s m args below meth c D A nL cells slots Q w pc lv st := by
  intro H locs ls hP hD hS hl
  subst hw
  have hF : ∀ q, va_A wc H.size q → A q := by
    intro q h
    rcases h with ⟨k, e, h⟩ | h
    · exact hD.right.left.2 k _ h
    · exact C.2.2 q (Nat.le_trans hS.1 h)
  intro T hT X
  have hpre : ∀ U : State, U.heap = H → s.WarmedH U.vm → jPx D cI cZ cL σ As wc H.size As.toArray U := fun U hU hW => ⟨⟨rfl, by rw [hU], by rw [hU]; exact hP.right.left, C.2.1.warm hW, hD.right.left.weaken (fun _ _ _ _ => trivial)⟩, hX.warm hW, hZ.at hS hU hW hF⟩
  obtain ⟨v, st₀, t, T', L, h0, X', hL, e1, e2, ⟨⟨r, wc', hv, hpo, hP1, hD1⟩, hF1⟩, stp⟩ := vx_runSW (g := F0 m pc ls st) (As := As) (rest := rest) C.1 (hct H.size) (vx_cwSW n C.1.2.2.2.2 hG hw9 rfl rfl hd hR) ⟨jPx.blind, hpre⟩ rfl hn hl.1 hst (lv_room hro) d hf T hT X
  cases hv
  have hk : ∀ q : Nat, q < H.size → ¬ va_A wc H.size q → T'.heap[q]? = H[q]? := fun q h1 h2 => by rw [e1, hF1.2 q (by rw [h0]; exact h1) h2, h0]
  rw [← e1] at hP1
  obtain ⟨hP2, hD2⟩ := j_frame hP hD hS C.2.2 hk hP1 hD1
  have hS2 : va_S A s.heap T'.heap (locs ++ L) := by
    refine ⟨Nat.le_trans hS.1 (by have := hF1.1; rw [h0] at this; rw [e1]; exact this), fun q h1 h2 => ?_, fun z hz => ?_⟩
    · rw [hk q (Nat.lt_of_lt_of_le h1 hS.1) (fun h => h2 (hF q h))]
      exact hS.2.1 q h1 h2
    · rcases List.mem_append.mp hz with h | h
      · exact hS.2.2 z h
      · exact hF _ (hL z h)
  obtain ⟨t2, a1, b1⟩ := k v wc' hpo T'.heap (locs ++ L) ls hP2 hD2 hS2 hl T' rfl X'
  exact ⟨t2, stp t2 a1, b1⟩
end JH

abbrev rmL_wall : Room := { frames := 9, cells := 0, slots := 0, locals := 267 }
abbrev rmxL_wall : Room := { frames := 9, cells := 1, slots := 6, locals := 267 }
set_option maxRecDepth 100000 in
set_option maxHeartbeats 4000000 in
theorem h_wall (l : Launch) (hl9 : l.stackTraces = false) (D : va_G) (cI cZ cL : ClassId) (σ : Nat → Nat) (x o : Nat) (ou : Nat → Int64) (wx wx2 : va_W) (fs : List Value) (hx0 : wx[0]? = some (x, .inr (5, fs))) (p0 p1 p2 : Int32) (v : Int32) (hct : Cg l D cI cZ cL yX5_wall wsX5_wall rmX5_wall [.ref x, .int p0, .int p1, .int p2] wx (fun r0 w0 => r0 = some (.int v) ∧ w0 = wx2)) : CgX l D cI cZ cL σ yL_wall wsL_wall rmL_wall [.ref x, .int p0, .int p1, .int p2, .ref o] (oW o cL ou ++ wx) (fun r0 w0 => r0 = some (.int (nI 0)) ∧ w0 = oW o cL (vp_updL ou 0 (v.toInt64)) ++ wx2) := by
  refine CgX.ofJ (own := RL) (cc := cL_wall) (maxL := 6) (ret := some .int) (hh := [(0, 12, 15, 13)]) (by decide) rfl rfl (Nat.le_of_ble_eq_true rfl) ?_
  intro p e s m args below meth c A CX hr hlocks htab hX hZ
  show J p l e rmL_wall s m args below meth c D A 6 0 0 (MQ below (jQc D (fun r0 w0 => r0 = some (.int (nI 0)) ∧ w0 = oW o cL (vp_updL ou 0 (v.toInt64)) ++ wx2) A) args s rmL_wall.cells rmL_wall.slots A) (oW o cL ou ++ wx) 0 [(0, .ref x), (1, .int p0), (2, .int p1), (3, .int p2), (4, .ref o)] []
  refine j_aload CX 4 dL_wall_0 rfl ?_
  refine j_iconst CX dL_wall_2 (show _ = (nI 0 : Int32) by decide) ?_
  refine j_aload_n CX 0 dL_wall_3 rfl rfl ?_
  refine j_iload_n CX 1 dL_wall_4 rfl rfl ?_
  refine j_iload_n CX 2 dL_wall_5 rfl rfl ?_
  refine j_iload_n CX 3 dL_wall_6 rfl rfl ?_
  refine j_callV CX (n := 3) (pre := oW o cL ou) (post := []) (rest := [.int (nI 0), .ref o]) (qc := (RX5, TX5, 6)) hct gL_wall_X5_wall rfl (by decide +kernel) ⟨(Nat.le_of_ble_eq_true rfl), (Nat.le_of_ble_eq_true rfl)⟩ (by rw [List.append_nil]) rfl hx0 rfl rfl (Nat.le_of_ble_eq_true rfl) dL_wall_7 ⟨(Nat.le_of_ble_eq_true rfl), (Nat.le_of_ble_eq_true rfl)⟩ (fun r9 w9 h9 => ?_)
  obtain ⟨rfl, e9⟩ := h9
  refine j_w (w' := oW o cL ou ++ wx2) (by rw [e9, List.append_nil]) ?_
  refine j_st (st9 := [.int v, .int (nI 0), .ref o]) rfl ?_
  refine j_i2l CX dL_wall_10 ?_
  refine j_last CX (w' := oW o cL (vp_updL ou 0 (v.toInt64)) ++ wx2) 0 0 dL_wall_11 rfl rfl (by decide) (by decide) rfl ?_
  refine j_goto CX 19 dL_wall_12 (by decide) ?_
  refine j_iconst CX dL_wall_19 (show _ = (nI 0 : Int32) by decide) ?_
  exact j_iret CX hr hlocks dL_wall_20 ⟨rfl, rfl⟩
set_option maxRecDepth 100000 in
set_option maxHeartbeats 4000000 in
theorem h_wall_x (l : Launch) (hl9 : l.stackTraces = false) (D : va_G) (cI cZ cL : ClassId) (σ : Nat → Nat) (x o : Nat) (ou : Nat → Int64) (wx : va_W) (fs : List Value) (hx0 : wx[0]? = some (x, .inr (5, fs))) (p0 p1 p2 : Int32) (hct : Cx l D cI cZ cL σ yX5_wall wsX5_wall rmxX5_wall [.ref x, .int p0, .int p1, .int p2] wx jIAE) : CgX l D cI cZ cL σ yL_wall wsL_wall rmxL_wall [.ref x, .int p0, .int p1, .int p2, .ref o] (oW o cL ou ++ wx) (fun r0 w0 => r0 = some (.int (nI 1)) ∧ w0 = oW o cL ou ++ wx) := by
  refine CgX.ofJ (own := RL) (cc := cL_wall) (maxL := 6) (ret := some .int) (hh := [(0, 12, 15, 13)]) (by decide) rfl rfl (Nat.le_of_ble_eq_true rfl) ?_
  intro p e s m args below meth c A CX hr hlocks htab hX hZ
  show J p l e rmxL_wall s m args below meth c D A 6 0 0 (MQ below (jQc D (fun r0 w0 => r0 = some (.int (nI 1)) ∧ w0 = oW o cL ou ++ wx) A) args s rmxL_wall.cells rmxL_wall.slots A) (oW o cL ou ++ wx) 0 [(0, .ref x), (1, .int p0), (2, .int p1), (3, .int p2), (4, .ref o)] []
  refine j_aload CX 4 dL_wall_0 rfl ?_
  refine j_iconst CX dL_wall_2 (show _ = (nI 0 : Int32) by decide) ?_
  refine j_aload_n CX 0 dL_wall_3 rfl rfl ?_
  refine j_iload_n CX 1 dL_wall_4 rfl rfl ?_
  refine j_iload_n CX 2 dL_wall_5 rfl rfl ?_
  refine j_iload_n CX 3 dL_wall_6 rfl rfl ?_
  refine j_callVC CX hX hZ (n := 3) (pre := oW o cL ou) (post := []) (rest := [.int (nI 0), .ref o]) (qc := (RX5, TX5, 6)) hct gL_wall_X5_wall rfl (by decide +kernel) ⟨(Nat.le_of_ble_eq_true rfl), (Nat.le_of_ble_eq_true rfl)⟩ (by rw [List.append_nil]) rfl hx0 rfl rfl (Nat.le_of_ble_eq_true rfl) dL_wall_7 ⟨(Nat.le_of_ble_eq_true rfl), (Nat.le_of_ble_eq_true rfl)⟩ (mc := 0) (ms := 0) (name := jIAE) [] ⟨0, 12, 15, 13⟩ [] (by rw [htab]; rfl) (fun z hz => nomatch hz) (by decide) (by decide) (by decide +kernel) hX.1.1 (fun q9 => ?_)
  refine j_astore CX (lv' := [(5, .ref q9), (0, .ref x), (1, .int p0), (2, .int p1), (3, .int p2), (4, .ref o)]) dL_wall_15 (by decide) rfl ?_
  refine j_iconst CX dL_wall_17 (show _ = (nI 1 : Int32) by decide) ?_
  exact j_iret CX hr hlocks dL_wall_18 ⟨rfl, rfl⟩
abbrev rmL_value : Room := { frames := 9, cells := 0, slots := 0, locals := 266 }
abbrev rmxL_value : Room := { frames := 9, cells := 1, slots := 6, locals := 266 }
set_option maxRecDepth 100000 in
set_option maxHeartbeats 4000000 in
theorem h_value (l : Launch) (hl9 : l.stackTraces = false) (D : va_G) (cI cZ cL : ClassId) (σ : Nat → Nat) (x o : Nat) (ou : Nat → Int64) (wx wx2 : va_W) (fs : List Value) (hx0 : wx[0]? = some (x, .inr (5, fs))) (p0 p1 : Int32) (v : Int32) (hct : Cg l D cI cZ cL yX5_value wsX5_value rmX5_value [.ref x, .int p0, .int p1] wx (fun r0 w0 => r0 = some (.int v) ∧ w0 = wx2)) : CgX l D cI cZ cL σ yL_value wsL_value rmL_value [.ref x, .int p0, .int p1, .ref o] (oW o cL ou ++ wx) (fun r0 w0 => r0 = some (.int (nI 0)) ∧ w0 = oW o cL (vp_updL ou 0 (v.toInt64)) ++ wx2) := by
  refine CgX.ofJ (own := RL) (cc := cL_value) (maxL := 5) (ret := some .int) (hh := [(0, 10, 13, 13)]) (by decide) rfl rfl (Nat.le_of_ble_eq_true rfl) ?_
  intro p e s m args below meth c A CX hr hlocks htab hX hZ
  show J p l e rmL_value s m args below meth c D A 5 0 0 (MQ below (jQc D (fun r0 w0 => r0 = some (.int (nI 0)) ∧ w0 = oW o cL (vp_updL ou 0 (v.toInt64)) ++ wx2) A) args s rmL_value.cells rmL_value.slots A) (oW o cL ou ++ wx) 0 [(0, .ref x), (1, .int p0), (2, .int p1), (3, .ref o)] []
  refine j_aload_n CX 3 dL_value_0 rfl rfl ?_
  refine j_iconst CX dL_value_1 (show _ = (nI 0 : Int32) by decide) ?_
  refine j_aload_n CX 0 dL_value_2 rfl rfl ?_
  refine j_iload_n CX 1 dL_value_3 rfl rfl ?_
  refine j_iload_n CX 2 dL_value_4 rfl rfl ?_
  refine j_callV CX (n := 2) (pre := oW o cL ou) (post := []) (rest := [.int (nI 0), .ref o]) (qc := (RX5, TX5, 6)) hct gL_value_X5_value rfl (by decide +kernel) ⟨(Nat.le_of_ble_eq_true rfl), (Nat.le_of_ble_eq_true rfl)⟩ (by rw [List.append_nil]) rfl hx0 rfl rfl (Nat.le_of_ble_eq_true rfl) dL_value_5 ⟨(Nat.le_of_ble_eq_true rfl), (Nat.le_of_ble_eq_true rfl)⟩ (fun r9 w9 h9 => ?_)
  obtain ⟨rfl, e9⟩ := h9
  refine j_w (w' := oW o cL ou ++ wx2) (by rw [e9, List.append_nil]) ?_
  refine j_st (st9 := [.int v, .int (nI 0), .ref o]) rfl ?_
  refine j_i2l CX dL_value_8 ?_
  refine j_last CX (w' := oW o cL (vp_updL ou 0 (v.toInt64)) ++ wx2) 0 0 dL_value_9 rfl rfl (by decide) (by decide) rfl ?_
  refine j_goto CX 17 dL_value_10 (by decide) ?_
  refine j_iconst CX dL_value_17 (show _ = (nI 0 : Int32) by decide) ?_
  exact j_iret CX hr hlocks dL_value_18 ⟨rfl, rfl⟩
set_option maxRecDepth 100000 in
set_option maxHeartbeats 4000000 in
theorem h_value_x (l : Launch) (hl9 : l.stackTraces = false) (D : va_G) (cI cZ cL : ClassId) (σ : Nat → Nat) (x o : Nat) (ou : Nat → Int64) (wx : va_W) (fs : List Value) (hx0 : wx[0]? = some (x, .inr (5, fs))) (p0 p1 : Int32) (hct : Cx l D cI cZ cL σ yX5_value wsX5_value rmxX5_value [.ref x, .int p0, .int p1] wx jIAE) : CgX l D cI cZ cL σ yL_value wsL_value rmxL_value [.ref x, .int p0, .int p1, .ref o] (oW o cL ou ++ wx) (fun r0 w0 => r0 = some (.int (nI 1)) ∧ w0 = oW o cL ou ++ wx) := by
  refine CgX.ofJ (own := RL) (cc := cL_value) (maxL := 5) (ret := some .int) (hh := [(0, 10, 13, 13)]) (by decide) rfl rfl (Nat.le_of_ble_eq_true rfl) ?_
  intro p e s m args below meth c A CX hr hlocks htab hX hZ
  show J p l e rmxL_value s m args below meth c D A 5 0 0 (MQ below (jQc D (fun r0 w0 => r0 = some (.int (nI 1)) ∧ w0 = oW o cL ou ++ wx) A) args s rmxL_value.cells rmxL_value.slots A) (oW o cL ou ++ wx) 0 [(0, .ref x), (1, .int p0), (2, .int p1), (3, .ref o)] []
  refine j_aload_n CX 3 dL_value_0 rfl rfl ?_
  refine j_iconst CX dL_value_1 (show _ = (nI 0 : Int32) by decide) ?_
  refine j_aload_n CX 0 dL_value_2 rfl rfl ?_
  refine j_iload_n CX 1 dL_value_3 rfl rfl ?_
  refine j_iload_n CX 2 dL_value_4 rfl rfl ?_
  refine j_callVC CX hX hZ (n := 2) (pre := oW o cL ou) (post := []) (rest := [.int (nI 0), .ref o]) (qc := (RX5, TX5, 6)) hct gL_value_X5_value rfl (by decide +kernel) ⟨(Nat.le_of_ble_eq_true rfl), (Nat.le_of_ble_eq_true rfl)⟩ (by rw [List.append_nil]) rfl hx0 rfl rfl (Nat.le_of_ble_eq_true rfl) dL_value_5 ⟨(Nat.le_of_ble_eq_true rfl), (Nat.le_of_ble_eq_true rfl)⟩ (mc := 0) (ms := 0) (name := jIAE) [] ⟨0, 10, 13, 13⟩ [] (by rw [htab]; rfl) (fun z hz => nomatch hz) (by decide) (by decide) (by decide +kernel) hX.1.1 (fun q9 => ?_)
  refine j_astore CX (lv' := [(4, .ref q9), (0, .ref x), (1, .int p0), (2, .int p1), (3, .ref o)]) dL_value_13 (by decide) rfl ?_
  refine j_iconst CX dL_value_15 (show _ = (nI 1 : Int32) by decide) ?_
  exact j_iret CX hr hlocks dL_value_16 ⟨rfl, rfl⟩
abbrev rmL_fails : Room := { frames := 9, cells := 0, slots := 0, locals := 268 }
abbrev rmxL_fails : Room := { frames := 9, cells := 1, slots := 6, locals := 268 }
set_option maxRecDepth 100000 in
set_option maxHeartbeats 4000000 in
theorem h_fails (l : Launch) (hl9 : l.stackTraces = false) (D : va_G) (cI cZ cL : ClassId) (σ : Nat → Nat) (x o : Nat) (ou : Nat → Int64) (wx wx2 : va_W) (fs : List Value) (hx0 : wx[0]? = some (x, .inr (5, fs))) (p0 p1 p2 p3 : Int32) (b : Nat) (hb9 : b ≤ 1) (hct : Cg l D cI cZ cL yX5_fails wsX5_fails rmX5_fails [.ref x, .int p0, .int p1, .int p2, .int p3] wx (fun r0 w0 => r0 = some (.int (nI b)) ∧ w0 = wx2)) : CgX l D cI cZ cL σ yL_fails wsL_fails rmL_fails [.ref x, .int p0, .int p1, .int p2, .int p3, .ref o] (oW o cL ou ++ wx) (fun r0 w0 => r0 = some (.int (nI 0)) ∧ w0 = oW o cL (vp_updL ou 0 (lN b)) ++ wx2) := by
  refine CgX.ofJ (own := RL) (cc := cL_fails) (maxL := 7) (ret := some .int) (hh := [(0, 21, 24, 13), (0, 21, 28, 23)]) (by decide) rfl rfl (Nat.le_of_ble_eq_true rfl) ?_
  intro p e s m args below meth c A CX hr hlocks htab hX hZ
  show J p l e rmL_fails s m args below meth c D A 7 0 0 (MQ below (jQc D (fun r0 w0 => r0 = some (.int (nI 0)) ∧ w0 = oW o cL (vp_updL ou 0 (lN b)) ++ wx2) A) args s rmL_fails.cells rmL_fails.slots A) (oW o cL ou ++ wx) 0 [(0, .ref x), (1, .int p0), (2, .int p1), (3, .int p2), (4, .int p3), (5, .ref o)] []
  refine j_aload CX 5 dL_fails_0 rfl ?_
  refine j_iconst CX dL_fails_2 (show _ = (nI 0 : Int32) by decide) ?_
  refine j_aload_n CX 0 dL_fails_3 rfl rfl ?_
  refine j_iload_n CX 1 dL_fails_4 rfl rfl ?_
  refine j_iload_n CX 2 dL_fails_5 rfl rfl ?_
  refine j_iload_n CX 3 dL_fails_6 rfl rfl ?_
  refine j_iload CX 4 dL_fails_7 rfl ?_
  refine j_callV CX (n := 4) (pre := oW o cL ou) (post := []) (rest := [.int (nI 0), .ref o]) (qc := (RX5, TX5, 6)) hct gL_fails_X5_fails rfl (by decide +kernel) ⟨(Nat.le_of_ble_eq_true rfl), (Nat.le_of_ble_eq_true rfl)⟩ (by rw [List.append_nil]) rfl hx0 rfl rfl (Nat.le_of_ble_eq_true rfl) dL_fails_9 ⟨(Nat.le_of_ble_eq_true rfl), (Nat.le_of_ble_eq_true rfl)⟩ (fun r9 w9 h9 => ?_)
  obtain ⟨rfl, e9⟩ := h9
  refine j_w (w' := oW o cL ou ++ wx2) (by rw [e9, List.append_nil]) ?_
  refine j_st (st9 := [.int (nI b), .int (nI 0), .ref o]) rfl ?_
  refine j_ifN_eq CX (by omega) 19 dL_fails_12 (by decide) (fun h12 => ?_) (fun h12 => ?_)
  · refine j_lconst CX dL_fails_19 (show _ = (lN b : Int64) by rw [h12]; decide) ?_
    refine j_last CX (w' := oW o cL (vp_updL ou 0 (lN b)) ++ wx2) 0 0 dL_fails_20 rfl rfl (by decide) (by decide) rfl ?_
    refine j_goto CX 32 dL_fails_21 (by decide) ?_
    refine j_iconst CX dL_fails_32 (show _ = (nI 0 : Int32) by decide) ?_
    exact j_iret CX hr hlocks dL_fails_33 ⟨rfl, rfl⟩
  · refine j_lconst CX dL_fails_15 (show _ = (lN b : Int64) by rw [show b = 1 by omega]; decide) ?_
    refine j_goto CX 20 dL_fails_16 (by decide) ?_
    refine j_last CX (w' := oW o cL (vp_updL ou 0 (lN b)) ++ wx2) 0 0 dL_fails_20 rfl rfl (by decide) (by decide) rfl ?_
    refine j_goto CX 32 dL_fails_21 (by decide) ?_
    refine j_iconst CX dL_fails_32 (show _ = (nI 0 : Int32) by decide) ?_
    exact j_iret CX hr hlocks dL_fails_33 ⟨rfl, rfl⟩
set_option maxRecDepth 100000 in
set_option maxHeartbeats 4000000 in
theorem h_fails_x (l : Launch) (hl9 : l.stackTraces = false) (D : va_G) (cI cZ cL : ClassId) (σ : Nat → Nat) (x o : Nat) (ou : Nat → Int64) (wx : va_W) (fs : List Value) (hx0 : wx[0]? = some (x, .inr (5, fs))) (p0 p1 p2 p3 : Int32) (hct : Cx l D cI cZ cL σ yX5_fails wsX5_fails rmxX5_fails [.ref x, .int p0, .int p1, .int p2, .int p3] wx jIAE) : CgX l D cI cZ cL σ yL_fails wsL_fails rmxL_fails [.ref x, .int p0, .int p1, .int p2, .int p3, .ref o] (oW o cL ou ++ wx) (fun r0 w0 => r0 = some (.int (nI 1)) ∧ w0 = oW o cL ou ++ wx) := by
  refine CgX.ofJ (own := RL) (cc := cL_fails) (maxL := 7) (ret := some .int) (hh := [(0, 21, 24, 13), (0, 21, 28, 23)]) (by decide) rfl rfl (Nat.le_of_ble_eq_true rfl) ?_
  intro p e s m args below meth c A CX hr hlocks htab hX hZ
  show J p l e rmxL_fails s m args below meth c D A 7 0 0 (MQ below (jQc D (fun r0 w0 => r0 = some (.int (nI 1)) ∧ w0 = oW o cL ou ++ wx) A) args s rmxL_fails.cells rmxL_fails.slots A) (oW o cL ou ++ wx) 0 [(0, .ref x), (1, .int p0), (2, .int p1), (3, .int p2), (4, .int p3), (5, .ref o)] []
  refine j_aload CX 5 dL_fails_0 rfl ?_
  refine j_iconst CX dL_fails_2 (show _ = (nI 0 : Int32) by decide) ?_
  refine j_aload_n CX 0 dL_fails_3 rfl rfl ?_
  refine j_iload_n CX 1 dL_fails_4 rfl rfl ?_
  refine j_iload_n CX 2 dL_fails_5 rfl rfl ?_
  refine j_iload_n CX 3 dL_fails_6 rfl rfl ?_
  refine j_iload CX 4 dL_fails_7 rfl ?_
  refine j_callVC CX hX hZ (n := 4) (pre := oW o cL ou) (post := []) (rest := [.int (nI 0), .ref o]) (qc := (RX5, TX5, 6)) hct gL_fails_X5_fails rfl (by decide +kernel) ⟨(Nat.le_of_ble_eq_true rfl), (Nat.le_of_ble_eq_true rfl)⟩ (by rw [List.append_nil]) rfl hx0 rfl rfl (Nat.le_of_ble_eq_true rfl) dL_fails_9 ⟨(Nat.le_of_ble_eq_true rfl), (Nat.le_of_ble_eq_true rfl)⟩ (mc := 0) (ms := 0) (name := jIAE) [] ⟨0, 21, 24, 13⟩ [⟨0, 21, 28, 23⟩] (by rw [htab]; rfl) (fun z hz => nomatch hz) (by decide) (by decide) (by decide +kernel) hX.1.1 (fun q9 => ?_)
  refine j_astore CX (lv' := [(6, .ref q9), (0, .ref x), (1, .int p0), (2, .int p1), (3, .int p2), (4, .int p3), (5, .ref o)]) dL_fails_24 (by decide) rfl ?_
  refine j_iconst CX dL_fails_26 (show _ = (nI 1 : Int32) by decide) ?_
  exact j_iret CX hr hlocks dL_fails_27 ⟨rfl, rfl⟩
set_option maxRecDepth 100000 in
set_option maxHeartbeats 4000000 in
theorem h_fails_xS (l : Launch) (hl9 : l.stackTraces = false) (D : va_G) (cI cZ cL : ClassId) (σ : Nat → Nat) (x o : Nat) (ou : Nat → Int64) (wx : va_W) (fs : List Value) (hx0 : wx[0]? = some (x, .inr (5, fs))) (p0 p1 p2 p3 : Int32) (hct : Cx l D cI cZ cL σ yX5_fails wsX5_fails rmxX5_fails [.ref x, .int p0, .int p1, .int p2, .int p3] wx jISE) : CgX l D cI cZ cL σ yL_fails wsL_fails rmxL_fails [.ref x, .int p0, .int p1, .int p2, .int p3, .ref o] (oW o cL ou ++ wx) (fun r0 w0 => r0 = some (.int (nI 2)) ∧ w0 = oW o cL ou ++ wx) := by
  refine CgX.ofJ (own := RL) (cc := cL_fails) (maxL := 7) (ret := some .int) (hh := [(0, 21, 24, 13), (0, 21, 28, 23)]) (by decide) rfl rfl (Nat.le_of_ble_eq_true rfl) ?_
  intro p e s m args below meth c A CX hr hlocks htab hX hZ
  show J p l e rmxL_fails s m args below meth c D A 7 0 0 (MQ below (jQc D (fun r0 w0 => r0 = some (.int (nI 2)) ∧ w0 = oW o cL ou ++ wx) A) args s rmxL_fails.cells rmxL_fails.slots A) (oW o cL ou ++ wx) 0 [(0, .ref x), (1, .int p0), (2, .int p1), (3, .int p2), (4, .int p3), (5, .ref o)] []
  refine j_aload CX 5 dL_fails_0 rfl ?_
  refine j_iconst CX dL_fails_2 (show _ = (nI 0 : Int32) by decide) ?_
  refine j_aload_n CX 0 dL_fails_3 rfl rfl ?_
  refine j_iload_n CX 1 dL_fails_4 rfl rfl ?_
  refine j_iload_n CX 2 dL_fails_5 rfl rfl ?_
  refine j_iload_n CX 3 dL_fails_6 rfl rfl ?_
  refine j_iload CX 4 dL_fails_7 rfl ?_
  refine j_callVC CX hX hZ (n := 4) (pre := oW o cL ou) (post := []) (rest := [.int (nI 0), .ref o]) (qc := (RX5, TX5, 6)) hct gL_fails_X5_fails rfl (by decide +kernel) ⟨(Nat.le_of_ble_eq_true rfl), (Nat.le_of_ble_eq_true rfl)⟩ (by rw [List.append_nil]) rfl hx0 rfl rfl (Nat.le_of_ble_eq_true rfl) dL_fails_9 ⟨(Nat.le_of_ble_eq_true rfl), (Nat.le_of_ble_eq_true rfl)⟩ (mc := 0) (ms := 0) (name := jISE) [⟨0, 21, 24, 13⟩] ⟨0, 21, 28, 23⟩ [] (by rw [htab]; rfl) (fun z hz => by rcases List.mem_cons.mp hz with h | h; (subst h; exact Or.inr ⟨by decide, jIAE, CX.1.2.2.2.2 (Cond.classLink RL 13 jIAE) (by decide +kernel), hX.1.2.2.1⟩); exact nomatch h) (by decide) (by decide) (by decide +kernel) hX.1.2.1 (fun q9 => ?_)
  refine j_astore CX (lv' := [(6, .ref q9), (0, .ref x), (1, .int p0), (2, .int p1), (3, .int p2), (4, .int p3), (5, .ref o)]) dL_fails_28 (by decide) rfl ?_
  refine j_iconst CX dL_fails_30 (show _ = (nI 2 : Int32) by decide) ?_
  exact j_iret CX hr hlocks dL_fails_31 ⟨rfl, rfl⟩
abbrev rmL_stops : Room := { frames := 8, cells := 0, slots := 0, locals := 244 }
abbrev rmxL_stops : Room := { frames := 8, cells := 1, slots := 6, locals := 244 }
set_option maxRecDepth 100000 in
set_option maxHeartbeats 4000000 in
theorem h_stops (l : Launch) (hl9 : l.stackTraces = false) (D : va_G) (cI cZ cL : ClassId) (σ : Nat → Nat) (x o : Nat) (ou : Nat → Int64) (wx wx2 : va_W) (fs : List Value) (hx0 : wx[0]? = some (x, .inr (5, fs))) (p0 : Int32) (v : Int32) (hct : Cg l D cI cZ cL yX5_stops wsX5_stops rmX5_stops [.ref x, .int p0] wx (fun r0 w0 => r0 = some (.int v) ∧ w0 = wx2)) : CgX l D cI cZ cL σ yL_stops wsL_stops rmL_stops [.ref x, .int p0, .ref o] (oW o cL ou ++ wx) (fun r0 w0 => r0 = some (.int (nI 0)) ∧ w0 = oW o cL (vp_updL ou 0 (v.toInt64)) ++ wx2) := by
  refine CgX.ofJ (own := RL) (cc := cL_stops) (maxL := 4) (ret := some .int) (hh := [(0, 9, 12, 13)]) (by decide) rfl rfl (Nat.le_of_ble_eq_true rfl) ?_
  intro p e s m args below meth c A CX hr hlocks htab hX hZ
  show J p l e rmL_stops s m args below meth c D A 4 0 0 (MQ below (jQc D (fun r0 w0 => r0 = some (.int (nI 0)) ∧ w0 = oW o cL (vp_updL ou 0 (v.toInt64)) ++ wx2) A) args s rmL_stops.cells rmL_stops.slots A) (oW o cL ou ++ wx) 0 [(0, .ref x), (1, .int p0), (2, .ref o)] []
  refine j_aload_n CX 2 dL_stops_0 rfl rfl ?_
  refine j_iconst CX dL_stops_1 (show _ = (nI 0 : Int32) by decide) ?_
  refine j_aload_n CX 0 dL_stops_2 rfl rfl ?_
  refine j_iload_n CX 1 dL_stops_3 rfl rfl ?_
  refine j_callV CX (n := 1) (pre := oW o cL ou) (post := []) (rest := [.int (nI 0), .ref o]) (qc := (RX5, TX5, 6)) hct gL_stops_X5_stops rfl (by decide +kernel) ⟨(Nat.le_of_ble_eq_true rfl), (Nat.le_of_ble_eq_true rfl)⟩ (by rw [List.append_nil]) rfl hx0 rfl rfl (Nat.le_of_ble_eq_true rfl) dL_stops_4 ⟨(Nat.le_of_ble_eq_true rfl), (Nat.le_of_ble_eq_true rfl)⟩ (fun r9 w9 h9 => ?_)
  obtain ⟨rfl, e9⟩ := h9
  refine j_w (w' := oW o cL ou ++ wx2) (by rw [e9, List.append_nil]) ?_
  refine j_st (st9 := [.int v, .int (nI 0), .ref o]) rfl ?_
  refine j_i2l CX dL_stops_7 ?_
  refine j_last CX (w' := oW o cL (vp_updL ou 0 (v.toInt64)) ++ wx2) 0 0 dL_stops_8 rfl rfl (by decide) (by decide) rfl ?_
  refine j_goto CX 15 dL_stops_9 (by decide) ?_
  refine j_iconst CX dL_stops_15 (show _ = (nI 0 : Int32) by decide) ?_
  exact j_iret CX hr hlocks dL_stops_16 ⟨rfl, rfl⟩
set_option maxRecDepth 100000 in
set_option maxHeartbeats 4000000 in
theorem h_stops_x (l : Launch) (hl9 : l.stackTraces = false) (D : va_G) (cI cZ cL : ClassId) (σ : Nat → Nat) (x o : Nat) (ou : Nat → Int64) (wx : va_W) (fs : List Value) (hx0 : wx[0]? = some (x, .inr (5, fs))) (p0 : Int32) (hct : Cx l D cI cZ cL σ yX5_stops wsX5_stops rmxX5_stops [.ref x, .int p0] wx jIAE) : CgX l D cI cZ cL σ yL_stops wsL_stops rmxL_stops [.ref x, .int p0, .ref o] (oW o cL ou ++ wx) (fun r0 w0 => r0 = some (.int (nI 1)) ∧ w0 = oW o cL ou ++ wx) := by
  refine CgX.ofJ (own := RL) (cc := cL_stops) (maxL := 4) (ret := some .int) (hh := [(0, 9, 12, 13)]) (by decide) rfl rfl (Nat.le_of_ble_eq_true rfl) ?_
  intro p e s m args below meth c A CX hr hlocks htab hX hZ
  show J p l e rmxL_stops s m args below meth c D A 4 0 0 (MQ below (jQc D (fun r0 w0 => r0 = some (.int (nI 1)) ∧ w0 = oW o cL ou ++ wx) A) args s rmxL_stops.cells rmxL_stops.slots A) (oW o cL ou ++ wx) 0 [(0, .ref x), (1, .int p0), (2, .ref o)] []
  refine j_aload_n CX 2 dL_stops_0 rfl rfl ?_
  refine j_iconst CX dL_stops_1 (show _ = (nI 0 : Int32) by decide) ?_
  refine j_aload_n CX 0 dL_stops_2 rfl rfl ?_
  refine j_iload_n CX 1 dL_stops_3 rfl rfl ?_
  refine j_callVC CX hX hZ (n := 1) (pre := oW o cL ou) (post := []) (rest := [.int (nI 0), .ref o]) (qc := (RX5, TX5, 6)) hct gL_stops_X5_stops rfl (by decide +kernel) ⟨(Nat.le_of_ble_eq_true rfl), (Nat.le_of_ble_eq_true rfl)⟩ (by rw [List.append_nil]) rfl hx0 rfl rfl (Nat.le_of_ble_eq_true rfl) dL_stops_4 ⟨(Nat.le_of_ble_eq_true rfl), (Nat.le_of_ble_eq_true rfl)⟩ (mc := 0) (ms := 0) (name := jIAE) [] ⟨0, 9, 12, 13⟩ [] (by rw [htab]; rfl) (fun z hz => nomatch hz) (by decide) (by decide) (by decide +kernel) hX.1.1 (fun q9 => ?_)
  refine j_astore_n CX (lv' := [(3, .ref q9), (0, .ref x), (1, .int p0), (2, .ref o)]) dL_stops_12 rfl (by decide) rfl ?_
  refine j_iconst CX dL_stops_13 (show _ = (nI 1 : Int32) by decide) ?_
  exact j_iret CX hr hlocks dL_stops_14 ⟨rfl, rfl⟩
abbrev rmL_run : Room := { frames := 8, cells := 0, slots := 0, locals := 246 }
abbrev rmxL_run : Room := { frames := 8, cells := 1, slots := 6, locals := 246 }
set_option maxRecDepth 100000 in
set_option maxHeartbeats 4000000 in
theorem h_run (l : Launch) (hl9 : l.stackTraces = false) (D : va_G) (cI cZ cL : ClassId) (σ : Nat → Nat) (x o : Nat) (ou : Nat → Int64) (wx wx2 : va_W) (fs : List Value) (hx0 : wx[0]? = some (x, .inr (5, fs))) (p0 p1 p2 : Int32) (v : Int32) (hct : Cg l D cI cZ cL yX5_run wsX5_run rmX5_run [.ref x, .int p0, .int p1, .int p2] wx (fun r0 w0 => r0 = some (.int v) ∧ w0 = wx2)) : CgX l D cI cZ cL σ yL_run wsL_run rmL_run [.ref x, .int p0, .int p1, .int p2, .ref o] (oW o cL ou ++ wx) (fun r0 w0 => r0 = some (.int (nI 0)) ∧ w0 = oW o cL (vp_updL ou 0 (v.toInt64)) ++ wx2) := by
  refine CgX.ofJ (own := RL) (cc := cL_run) (maxL := 6) (ret := some .int) (hh := [(0, 12, 15, 13)]) (by decide) rfl rfl (Nat.le_of_ble_eq_true rfl) ?_
  intro p e s m args below meth c A CX hr hlocks htab hX hZ
  show J p l e rmL_run s m args below meth c D A 6 0 0 (MQ below (jQc D (fun r0 w0 => r0 = some (.int (nI 0)) ∧ w0 = oW o cL (vp_updL ou 0 (v.toInt64)) ++ wx2) A) args s rmL_run.cells rmL_run.slots A) (oW o cL ou ++ wx) 0 [(0, .ref x), (1, .int p0), (2, .int p1), (3, .int p2), (4, .ref o)] []
  refine j_aload CX 4 dL_run_0 rfl ?_
  refine j_iconst CX dL_run_2 (show _ = (nI 0 : Int32) by decide) ?_
  refine j_aload_n CX 0 dL_run_3 rfl rfl ?_
  refine j_iload_n CX 1 dL_run_4 rfl rfl ?_
  refine j_iload_n CX 2 dL_run_5 rfl rfl ?_
  refine j_iload_n CX 3 dL_run_6 rfl rfl ?_
  refine j_callV CX (n := 3) (pre := oW o cL ou) (post := []) (rest := [.int (nI 0), .ref o]) (qc := (RX5, TX5, 6)) hct gL_run_X5_run rfl (by decide +kernel) ⟨(Nat.le_of_ble_eq_true rfl), (Nat.le_of_ble_eq_true rfl)⟩ (by rw [List.append_nil]) rfl hx0 rfl rfl (Nat.le_of_ble_eq_true rfl) dL_run_7 ⟨(Nat.le_of_ble_eq_true rfl), (Nat.le_of_ble_eq_true rfl)⟩ (fun r9 w9 h9 => ?_)
  obtain ⟨rfl, e9⟩ := h9
  refine j_w (w' := oW o cL ou ++ wx2) (by rw [e9, List.append_nil]) ?_
  refine j_st (st9 := [.int v, .int (nI 0), .ref o]) rfl ?_
  refine j_i2l CX dL_run_10 ?_
  refine j_last CX (w' := oW o cL (vp_updL ou 0 (v.toInt64)) ++ wx2) 0 0 dL_run_11 rfl rfl (by decide) (by decide) rfl ?_
  refine j_goto CX 19 dL_run_12 (by decide) ?_
  refine j_iconst CX dL_run_19 (show _ = (nI 0 : Int32) by decide) ?_
  exact j_iret CX hr hlocks dL_run_20 ⟨rfl, rfl⟩
set_option maxRecDepth 100000 in
set_option maxHeartbeats 4000000 in
theorem h_run_x (l : Launch) (hl9 : l.stackTraces = false) (D : va_G) (cI cZ cL : ClassId) (σ : Nat → Nat) (x o : Nat) (ou : Nat → Int64) (wx : va_W) (fs : List Value) (hx0 : wx[0]? = some (x, .inr (5, fs))) (p0 p1 p2 : Int32) (hct : Cx l D cI cZ cL σ yX5_run wsX5_run rmxX5_run [.ref x, .int p0, .int p1, .int p2] wx jIAE) : CgX l D cI cZ cL σ yL_run wsL_run rmxL_run [.ref x, .int p0, .int p1, .int p2, .ref o] (oW o cL ou ++ wx) (fun r0 w0 => r0 = some (.int (nI 1)) ∧ w0 = oW o cL ou ++ wx) := by
  refine CgX.ofJ (own := RL) (cc := cL_run) (maxL := 6) (ret := some .int) (hh := [(0, 12, 15, 13)]) (by decide) rfl rfl (Nat.le_of_ble_eq_true rfl) ?_
  intro p e s m args below meth c A CX hr hlocks htab hX hZ
  show J p l e rmxL_run s m args below meth c D A 6 0 0 (MQ below (jQc D (fun r0 w0 => r0 = some (.int (nI 1)) ∧ w0 = oW o cL ou ++ wx) A) args s rmxL_run.cells rmxL_run.slots A) (oW o cL ou ++ wx) 0 [(0, .ref x), (1, .int p0), (2, .int p1), (3, .int p2), (4, .ref o)] []
  refine j_aload CX 4 dL_run_0 rfl ?_
  refine j_iconst CX dL_run_2 (show _ = (nI 0 : Int32) by decide) ?_
  refine j_aload_n CX 0 dL_run_3 rfl rfl ?_
  refine j_iload_n CX 1 dL_run_4 rfl rfl ?_
  refine j_iload_n CX 2 dL_run_5 rfl rfl ?_
  refine j_iload_n CX 3 dL_run_6 rfl rfl ?_
  refine j_callVC CX hX hZ (n := 3) (pre := oW o cL ou) (post := []) (rest := [.int (nI 0), .ref o]) (qc := (RX5, TX5, 6)) hct gL_run_X5_run rfl (by decide +kernel) ⟨(Nat.le_of_ble_eq_true rfl), (Nat.le_of_ble_eq_true rfl)⟩ (by rw [List.append_nil]) rfl hx0 rfl rfl (Nat.le_of_ble_eq_true rfl) dL_run_7 ⟨(Nat.le_of_ble_eq_true rfl), (Nat.le_of_ble_eq_true rfl)⟩ (mc := 0) (ms := 0) (name := jIAE) [] ⟨0, 12, 15, 13⟩ [] (by rw [htab]; rfl) (fun z hz => nomatch hz) (by decide) (by decide) (by decide +kernel) hX.1.1 (fun q9 => ?_)
  refine j_astore CX (lv' := [(5, .ref q9), (0, .ref x), (1, .int p0), (2, .int p1), (3, .int p2), (4, .ref o)]) dL_run_15 (by decide) rfl ?_
  refine j_iconst CX dL_run_17 (show _ = (nI 1 : Int32) by decide) ?_
  exact j_iret CX hr hlocks dL_run_18 ⟨rfl, rfl⟩
abbrev rmL_colour : Room := { frames := 9, cells := 0, slots := 0, locals := 264 }
abbrev rmxL_colour : Room := { frames := 9, cells := 1, slots := 6, locals := 264 }
set_option maxRecDepth 100000 in
set_option maxHeartbeats 4000000 in
theorem h_colour (l : Launch) (hl9 : l.stackTraces = false) (D : va_G) (cI cZ cL : ClassId) (σ : Nat → Nat) (x o : Nat) (ou : Nat → Int64) (wx wx2 : va_W) (fs : List Value) (hx0 : wx[0]? = some (x, .inr (5, fs))) (p0 : Int32) (v : Int32) (hct : Cg l D cI cZ cL yX5_colour wsX5_colour rmX5_colour [.ref x, .int p0] wx (fun r0 w0 => r0 = some (.int v) ∧ w0 = wx2)) : CgX l D cI cZ cL σ yL_colour wsL_colour rmL_colour [.ref x, .int p0, .ref o] (oW o cL ou ++ wx) (fun r0 w0 => r0 = some (.int (nI 0)) ∧ w0 = oW o cL (vp_updL ou 0 (v.toInt64)) ++ wx2) := by
  refine CgX.ofJ (own := RL) (cc := cL_colour) (maxL := 4) (ret := some .int) (hh := [(0, 9, 12, 13)]) (by decide) rfl rfl (Nat.le_of_ble_eq_true rfl) ?_
  intro p e s m args below meth c A CX hr hlocks htab hX hZ
  show J p l e rmL_colour s m args below meth c D A 4 0 0 (MQ below (jQc D (fun r0 w0 => r0 = some (.int (nI 0)) ∧ w0 = oW o cL (vp_updL ou 0 (v.toInt64)) ++ wx2) A) args s rmL_colour.cells rmL_colour.slots A) (oW o cL ou ++ wx) 0 [(0, .ref x), (1, .int p0), (2, .ref o)] []
  refine j_aload_n CX 2 dL_colour_0 rfl rfl ?_
  refine j_iconst CX dL_colour_1 (show _ = (nI 0 : Int32) by decide) ?_
  refine j_aload_n CX 0 dL_colour_2 rfl rfl ?_
  refine j_iload_n CX 1 dL_colour_3 rfl rfl ?_
  refine j_callV CX (n := 1) (pre := oW o cL ou) (post := []) (rest := [.int (nI 0), .ref o]) (qc := (RX5, TX5, 6)) hct gL_colour_X5_colour rfl (by decide +kernel) ⟨(Nat.le_of_ble_eq_true rfl), (Nat.le_of_ble_eq_true rfl)⟩ (by rw [List.append_nil]) rfl hx0 rfl rfl (Nat.le_of_ble_eq_true rfl) dL_colour_4 ⟨(Nat.le_of_ble_eq_true rfl), (Nat.le_of_ble_eq_true rfl)⟩ (fun r9 w9 h9 => ?_)
  obtain ⟨rfl, e9⟩ := h9
  refine j_w (w' := oW o cL ou ++ wx2) (by rw [e9, List.append_nil]) ?_
  refine j_st (st9 := [.int v, .int (nI 0), .ref o]) rfl ?_
  refine j_i2l CX dL_colour_7 ?_
  refine j_last CX (w' := oW o cL (vp_updL ou 0 (v.toInt64)) ++ wx2) 0 0 dL_colour_8 rfl rfl (by decide) (by decide) rfl ?_
  refine j_goto CX 15 dL_colour_9 (by decide) ?_
  refine j_iconst CX dL_colour_15 (show _ = (nI 0 : Int32) by decide) ?_
  exact j_iret CX hr hlocks dL_colour_16 ⟨rfl, rfl⟩
set_option maxRecDepth 100000 in
set_option maxHeartbeats 4000000 in
theorem h_colour_x (l : Launch) (hl9 : l.stackTraces = false) (D : va_G) (cI cZ cL : ClassId) (σ : Nat → Nat) (x o : Nat) (ou : Nat → Int64) (wx : va_W) (fs : List Value) (hx0 : wx[0]? = some (x, .inr (5, fs))) (p0 : Int32) (hct : Cx l D cI cZ cL σ yX5_colour wsX5_colour rmxX5_colour [.ref x, .int p0] wx jIAE) : CgX l D cI cZ cL σ yL_colour wsL_colour rmxL_colour [.ref x, .int p0, .ref o] (oW o cL ou ++ wx) (fun r0 w0 => r0 = some (.int (nI 1)) ∧ w0 = oW o cL ou ++ wx) := by
  refine CgX.ofJ (own := RL) (cc := cL_colour) (maxL := 4) (ret := some .int) (hh := [(0, 9, 12, 13)]) (by decide) rfl rfl (Nat.le_of_ble_eq_true rfl) ?_
  intro p e s m args below meth c A CX hr hlocks htab hX hZ
  show J p l e rmxL_colour s m args below meth c D A 4 0 0 (MQ below (jQc D (fun r0 w0 => r0 = some (.int (nI 1)) ∧ w0 = oW o cL ou ++ wx) A) args s rmxL_colour.cells rmxL_colour.slots A) (oW o cL ou ++ wx) 0 [(0, .ref x), (1, .int p0), (2, .ref o)] []
  refine j_aload_n CX 2 dL_colour_0 rfl rfl ?_
  refine j_iconst CX dL_colour_1 (show _ = (nI 0 : Int32) by decide) ?_
  refine j_aload_n CX 0 dL_colour_2 rfl rfl ?_
  refine j_iload_n CX 1 dL_colour_3 rfl rfl ?_
  refine j_callVC CX hX hZ (n := 1) (pre := oW o cL ou) (post := []) (rest := [.int (nI 0), .ref o]) (qc := (RX5, TX5, 6)) hct gL_colour_X5_colour rfl (by decide +kernel) ⟨(Nat.le_of_ble_eq_true rfl), (Nat.le_of_ble_eq_true rfl)⟩ (by rw [List.append_nil]) rfl hx0 rfl rfl (Nat.le_of_ble_eq_true rfl) dL_colour_4 ⟨(Nat.le_of_ble_eq_true rfl), (Nat.le_of_ble_eq_true rfl)⟩ (mc := 0) (ms := 0) (name := jIAE) [] ⟨0, 9, 12, 13⟩ [] (by rw [htab]; rfl) (fun z hz => nomatch hz) (by decide) (by decide) (by decide +kernel) hX.1.1 (fun q9 => ?_)
  refine j_astore_n CX (lv' := [(3, .ref q9), (0, .ref x), (1, .int p0), (2, .ref o)]) dL_colour_12 rfl (by decide) rfl ?_
  refine j_iconst CX dL_colour_13 (show _ = (nI 1 : Int32) by decide) ?_
  exact j_iret CX hr hlocks dL_colour_14 ⟨rfl, rfl⟩
abbrev rmL_at : Room := { frames := 9, cells := 0, slots := 0, locals := 264 }
abbrev rmxL_at : Room := { frames := 9, cells := 1, slots := 6, locals := 264 }
set_option maxRecDepth 100000 in
set_option maxHeartbeats 4000000 in
theorem h_at (l : Launch) (hl9 : l.stackTraces = false) (D : va_G) (cI cZ cL : ClassId) (σ : Nat → Nat) (x o : Nat) (ou : Nat → Int64) (wx wx2 : va_W) (fs : List Value) (hx0 : wx[0]? = some (x, .inr (5, fs))) (p0 : Int32) (v : Int32) (hct : Cg l D cI cZ cL yX5_at wsX5_at rmX5_at [.ref x, .int p0] wx (fun r0 w0 => r0 = some (.int v) ∧ w0 = wx2)) : CgX l D cI cZ cL σ yL_at wsL_at rmL_at [.ref x, .int p0, .ref o] (oW o cL ou ++ wx) (fun r0 w0 => r0 = some (.int (nI 0)) ∧ w0 = oW o cL (vp_updL ou 0 (v.toInt64)) ++ wx2) := by
  refine CgX.ofJ (own := RL) (cc := cL_at) (maxL := 4) (ret := some .int) (hh := [(0, 9, 12, 13)]) (by decide) rfl rfl (Nat.le_of_ble_eq_true rfl) ?_
  intro p e s m args below meth c A CX hr hlocks htab hX hZ
  show J p l e rmL_at s m args below meth c D A 4 0 0 (MQ below (jQc D (fun r0 w0 => r0 = some (.int (nI 0)) ∧ w0 = oW o cL (vp_updL ou 0 (v.toInt64)) ++ wx2) A) args s rmL_at.cells rmL_at.slots A) (oW o cL ou ++ wx) 0 [(0, .ref x), (1, .int p0), (2, .ref o)] []
  refine j_aload_n CX 2 dL_at_0 rfl rfl ?_
  refine j_iconst CX dL_at_1 (show _ = (nI 0 : Int32) by decide) ?_
  refine j_aload_n CX 0 dL_at_2 rfl rfl ?_
  refine j_iload_n CX 1 dL_at_3 rfl rfl ?_
  refine j_callV CX (n := 1) (pre := oW o cL ou) (post := []) (rest := [.int (nI 0), .ref o]) (qc := (RX5, TX5, 6)) hct gL_at_X5_at rfl (by decide +kernel) ⟨(Nat.le_of_ble_eq_true rfl), (Nat.le_of_ble_eq_true rfl)⟩ (by rw [List.append_nil]) rfl hx0 rfl rfl (Nat.le_of_ble_eq_true rfl) dL_at_4 ⟨(Nat.le_of_ble_eq_true rfl), (Nat.le_of_ble_eq_true rfl)⟩ (fun r9 w9 h9 => ?_)
  obtain ⟨rfl, e9⟩ := h9
  refine j_w (w' := oW o cL ou ++ wx2) (by rw [e9, List.append_nil]) ?_
  refine j_st (st9 := [.int v, .int (nI 0), .ref o]) rfl ?_
  refine j_i2l CX dL_at_7 ?_
  refine j_last CX (w' := oW o cL (vp_updL ou 0 (v.toInt64)) ++ wx2) 0 0 dL_at_8 rfl rfl (by decide) (by decide) rfl ?_
  refine j_goto CX 15 dL_at_9 (by decide) ?_
  refine j_iconst CX dL_at_15 (show _ = (nI 0 : Int32) by decide) ?_
  exact j_iret CX hr hlocks dL_at_16 ⟨rfl, rfl⟩
set_option maxRecDepth 100000 in
set_option maxHeartbeats 4000000 in
theorem h_at_x (l : Launch) (hl9 : l.stackTraces = false) (D : va_G) (cI cZ cL : ClassId) (σ : Nat → Nat) (x o : Nat) (ou : Nat → Int64) (wx : va_W) (fs : List Value) (hx0 : wx[0]? = some (x, .inr (5, fs))) (p0 : Int32) (hct : Cx l D cI cZ cL σ yX5_at wsX5_at rmxX5_at [.ref x, .int p0] wx jIAE) : CgX l D cI cZ cL σ yL_at wsL_at rmxL_at [.ref x, .int p0, .ref o] (oW o cL ou ++ wx) (fun r0 w0 => r0 = some (.int (nI 1)) ∧ w0 = oW o cL ou ++ wx) := by
  refine CgX.ofJ (own := RL) (cc := cL_at) (maxL := 4) (ret := some .int) (hh := [(0, 9, 12, 13)]) (by decide) rfl rfl (Nat.le_of_ble_eq_true rfl) ?_
  intro p e s m args below meth c A CX hr hlocks htab hX hZ
  show J p l e rmxL_at s m args below meth c D A 4 0 0 (MQ below (jQc D (fun r0 w0 => r0 = some (.int (nI 1)) ∧ w0 = oW o cL ou ++ wx) A) args s rmxL_at.cells rmxL_at.slots A) (oW o cL ou ++ wx) 0 [(0, .ref x), (1, .int p0), (2, .ref o)] []
  refine j_aload_n CX 2 dL_at_0 rfl rfl ?_
  refine j_iconst CX dL_at_1 (show _ = (nI 0 : Int32) by decide) ?_
  refine j_aload_n CX 0 dL_at_2 rfl rfl ?_
  refine j_iload_n CX 1 dL_at_3 rfl rfl ?_
  refine j_callVC CX hX hZ (n := 1) (pre := oW o cL ou) (post := []) (rest := [.int (nI 0), .ref o]) (qc := (RX5, TX5, 6)) hct gL_at_X5_at rfl (by decide +kernel) ⟨(Nat.le_of_ble_eq_true rfl), (Nat.le_of_ble_eq_true rfl)⟩ (by rw [List.append_nil]) rfl hx0 rfl rfl (Nat.le_of_ble_eq_true rfl) dL_at_4 ⟨(Nat.le_of_ble_eq_true rfl), (Nat.le_of_ble_eq_true rfl)⟩ (mc := 0) (ms := 0) (name := jIAE) [] ⟨0, 9, 12, 13⟩ [] (by rw [htab]; rfl) (fun z hz => nomatch hz) (by decide) (by decide) (by decide +kernel) hX.1.1 (fun q9 => ?_)
  refine j_astore_n CX (lv' := [(3, .ref q9), (0, .ref x), (1, .int p0), (2, .ref o)]) dL_at_12 rfl (by decide) rfl ?_
  refine j_iconst CX dL_at_13 (show _ = (nI 1 : Int32) by decide) ?_
  exact j_iret CX hr hlocks dL_at_14 ⟨rfl, rfl⟩
abbrev rmL_book : Room := { frames := 8, cells := 0, slots := 0, locals := 244 }
abbrev rmxL_book : Room := { frames := 8, cells := 1, slots := 6, locals := 244 }
set_option maxRecDepth 100000 in
set_option maxHeartbeats 4000000 in
theorem h_book (l : Launch) (hl9 : l.stackTraces = false) (D : va_G) (cI cZ cL : ClassId) (σ : Nat → Nat) (x o : Nat) (ou : Nat → Int64) (wx wx2 : va_W) (fs : List Value) (hx0 : wx[0]? = some (x, .inr (5, fs))) (p0 p1 : Int32) (v : Int32) (hct : Cg l D cI cZ cL yX5_book wsX5_book rmX5_book [.ref x, .int p0, .int p1] wx (fun r0 w0 => r0 = some (.int v) ∧ w0 = wx2)) : CgX l D cI cZ cL σ yL_book wsL_book rmL_book [.ref x, .int p0, .int p1, .ref o] (oW o cL ou ++ wx) (fun r0 w0 => r0 = some (.int (nI 0)) ∧ w0 = oW o cL (vp_updL ou 0 (v.toInt64)) ++ wx2) := by
  refine CgX.ofJ (own := RL) (cc := cL_book) (maxL := 5) (ret := some .int) (hh := [(0, 10, 13, 13)]) (by decide) rfl rfl (Nat.le_of_ble_eq_true rfl) ?_
  intro p e s m args below meth c A CX hr hlocks htab hX hZ
  show J p l e rmL_book s m args below meth c D A 5 0 0 (MQ below (jQc D (fun r0 w0 => r0 = some (.int (nI 0)) ∧ w0 = oW o cL (vp_updL ou 0 (v.toInt64)) ++ wx2) A) args s rmL_book.cells rmL_book.slots A) (oW o cL ou ++ wx) 0 [(0, .ref x), (1, .int p0), (2, .int p1), (3, .ref o)] []
  refine j_aload_n CX 3 dL_book_0 rfl rfl ?_
  refine j_iconst CX dL_book_1 (show _ = (nI 0 : Int32) by decide) ?_
  refine j_aload_n CX 0 dL_book_2 rfl rfl ?_
  refine j_iload_n CX 1 dL_book_3 rfl rfl ?_
  refine j_iload_n CX 2 dL_book_4 rfl rfl ?_
  refine j_callV CX (n := 2) (pre := oW o cL ou) (post := []) (rest := [.int (nI 0), .ref o]) (qc := (RX5, TX5, 6)) hct gL_book_X5_book rfl (by decide +kernel) ⟨(Nat.le_of_ble_eq_true rfl), (Nat.le_of_ble_eq_true rfl)⟩ (by rw [List.append_nil]) rfl hx0 rfl rfl (Nat.le_of_ble_eq_true rfl) dL_book_5 ⟨(Nat.le_of_ble_eq_true rfl), (Nat.le_of_ble_eq_true rfl)⟩ (fun r9 w9 h9 => ?_)
  obtain ⟨rfl, e9⟩ := h9
  refine j_w (w' := oW o cL ou ++ wx2) (by rw [e9, List.append_nil]) ?_
  refine j_st (st9 := [.int v, .int (nI 0), .ref o]) rfl ?_
  refine j_i2l CX dL_book_8 ?_
  refine j_last CX (w' := oW o cL (vp_updL ou 0 (v.toInt64)) ++ wx2) 0 0 dL_book_9 rfl rfl (by decide) (by decide) rfl ?_
  refine j_goto CX 17 dL_book_10 (by decide) ?_
  refine j_iconst CX dL_book_17 (show _ = (nI 0 : Int32) by decide) ?_
  exact j_iret CX hr hlocks dL_book_18 ⟨rfl, rfl⟩
set_option maxRecDepth 100000 in
set_option maxHeartbeats 4000000 in
theorem h_book_x (l : Launch) (hl9 : l.stackTraces = false) (D : va_G) (cI cZ cL : ClassId) (σ : Nat → Nat) (x o : Nat) (ou : Nat → Int64) (wx : va_W) (fs : List Value) (hx0 : wx[0]? = some (x, .inr (5, fs))) (p0 p1 : Int32) (hct : Cx l D cI cZ cL σ yX5_book wsX5_book rmxX5_book [.ref x, .int p0, .int p1] wx jIAE) : CgX l D cI cZ cL σ yL_book wsL_book rmxL_book [.ref x, .int p0, .int p1, .ref o] (oW o cL ou ++ wx) (fun r0 w0 => r0 = some (.int (nI 1)) ∧ w0 = oW o cL ou ++ wx) := by
  refine CgX.ofJ (own := RL) (cc := cL_book) (maxL := 5) (ret := some .int) (hh := [(0, 10, 13, 13)]) (by decide) rfl rfl (Nat.le_of_ble_eq_true rfl) ?_
  intro p e s m args below meth c A CX hr hlocks htab hX hZ
  show J p l e rmxL_book s m args below meth c D A 5 0 0 (MQ below (jQc D (fun r0 w0 => r0 = some (.int (nI 1)) ∧ w0 = oW o cL ou ++ wx) A) args s rmxL_book.cells rmxL_book.slots A) (oW o cL ou ++ wx) 0 [(0, .ref x), (1, .int p0), (2, .int p1), (3, .ref o)] []
  refine j_aload_n CX 3 dL_book_0 rfl rfl ?_
  refine j_iconst CX dL_book_1 (show _ = (nI 0 : Int32) by decide) ?_
  refine j_aload_n CX 0 dL_book_2 rfl rfl ?_
  refine j_iload_n CX 1 dL_book_3 rfl rfl ?_
  refine j_iload_n CX 2 dL_book_4 rfl rfl ?_
  refine j_callVC CX hX hZ (n := 2) (pre := oW o cL ou) (post := []) (rest := [.int (nI 0), .ref o]) (qc := (RX5, TX5, 6)) hct gL_book_X5_book rfl (by decide +kernel) ⟨(Nat.le_of_ble_eq_true rfl), (Nat.le_of_ble_eq_true rfl)⟩ (by rw [List.append_nil]) rfl hx0 rfl rfl (Nat.le_of_ble_eq_true rfl) dL_book_5 ⟨(Nat.le_of_ble_eq_true rfl), (Nat.le_of_ble_eq_true rfl)⟩ (mc := 0) (ms := 0) (name := jIAE) [] ⟨0, 10, 13, 13⟩ [] (by rw [htab]; rfl) (fun z hz => nomatch hz) (by decide) (by decide) (by decide +kernel) hX.1.1 (fun q9 => ?_)
  refine j_astore CX (lv' := [(4, .ref q9), (0, .ref x), (1, .int p0), (2, .int p1), (3, .ref o)]) dL_book_13 (by decide) rfl ?_
  refine j_iconst CX dL_book_15 (show _ = (nI 1 : Int32) by decide) ?_
  exact j_iret CX hr hlocks dL_book_16 ⟨rfl, rfl⟩
abbrev rmL_did : Room := { frames := 8, cells := 0, slots := 0, locals := 243 }
abbrev rmxL_did : Room := { frames := 8, cells := 1, slots := 6, locals := 243 }
set_option maxRecDepth 100000 in
set_option maxHeartbeats 4000000 in
theorem h_did (l : Launch) (hl9 : l.stackTraces = false) (D : va_G) (cI cZ cL : ClassId) (σ : Nat → Nat) (x o : Nat) (ou : Nat → Int64) (wx wx2 : va_W) (fs : List Value) (hx0 : wx[0]? = some (x, .inr (5, fs))) (p0 : Int32) (v : Int32) (hct : Cg l D cI cZ cL yX5_did wsX5_did rmX5_did [.ref x, .int p0] wx (fun r0 w0 => r0 = some (.int v) ∧ w0 = wx2)) : CgX l D cI cZ cL σ yL_did wsL_did rmL_did [.ref x, .int p0, .ref o] (oW o cL ou ++ wx) (fun r0 w0 => r0 = some (.int (nI 0)) ∧ w0 = oW o cL (vp_updL ou 0 (v.toInt64)) ++ wx2) := by
  refine CgX.ofJ (own := RL) (cc := cL_did) (maxL := 4) (ret := some .int) (hh := [(0, 9, 12, 13)]) (by decide) rfl rfl (Nat.le_of_ble_eq_true rfl) ?_
  intro p e s m args below meth c A CX hr hlocks htab hX hZ
  show J p l e rmL_did s m args below meth c D A 4 0 0 (MQ below (jQc D (fun r0 w0 => r0 = some (.int (nI 0)) ∧ w0 = oW o cL (vp_updL ou 0 (v.toInt64)) ++ wx2) A) args s rmL_did.cells rmL_did.slots A) (oW o cL ou ++ wx) 0 [(0, .ref x), (1, .int p0), (2, .ref o)] []
  refine j_aload_n CX 2 dL_did_0 rfl rfl ?_
  refine j_iconst CX dL_did_1 (show _ = (nI 0 : Int32) by decide) ?_
  refine j_aload_n CX 0 dL_did_2 rfl rfl ?_
  refine j_iload_n CX 1 dL_did_3 rfl rfl ?_
  refine j_callV CX (n := 1) (pre := oW o cL ou) (post := []) (rest := [.int (nI 0), .ref o]) (qc := (RX5, TX5, 6)) hct gL_did_X5_did rfl (by decide +kernel) ⟨(Nat.le_of_ble_eq_true rfl), (Nat.le_of_ble_eq_true rfl)⟩ (by rw [List.append_nil]) rfl hx0 rfl rfl (Nat.le_of_ble_eq_true rfl) dL_did_4 ⟨(Nat.le_of_ble_eq_true rfl), (Nat.le_of_ble_eq_true rfl)⟩ (fun r9 w9 h9 => ?_)
  obtain ⟨rfl, e9⟩ := h9
  refine j_w (w' := oW o cL ou ++ wx2) (by rw [e9, List.append_nil]) ?_
  refine j_st (st9 := [.int v, .int (nI 0), .ref o]) rfl ?_
  refine j_i2l CX dL_did_7 ?_
  refine j_last CX (w' := oW o cL (vp_updL ou 0 (v.toInt64)) ++ wx2) 0 0 dL_did_8 rfl rfl (by decide) (by decide) rfl ?_
  refine j_goto CX 15 dL_did_9 (by decide) ?_
  refine j_iconst CX dL_did_15 (show _ = (nI 0 : Int32) by decide) ?_
  exact j_iret CX hr hlocks dL_did_16 ⟨rfl, rfl⟩
set_option maxRecDepth 100000 in
set_option maxHeartbeats 4000000 in
theorem h_did_x (l : Launch) (hl9 : l.stackTraces = false) (D : va_G) (cI cZ cL : ClassId) (σ : Nat → Nat) (x o : Nat) (ou : Nat → Int64) (wx : va_W) (fs : List Value) (hx0 : wx[0]? = some (x, .inr (5, fs))) (p0 : Int32) (hct : Cx l D cI cZ cL σ yX5_did wsX5_did rmxX5_did [.ref x, .int p0] wx jIAE) : CgX l D cI cZ cL σ yL_did wsL_did rmxL_did [.ref x, .int p0, .ref o] (oW o cL ou ++ wx) (fun r0 w0 => r0 = some (.int (nI 1)) ∧ w0 = oW o cL ou ++ wx) := by
  refine CgX.ofJ (own := RL) (cc := cL_did) (maxL := 4) (ret := some .int) (hh := [(0, 9, 12, 13)]) (by decide) rfl rfl (Nat.le_of_ble_eq_true rfl) ?_
  intro p e s m args below meth c A CX hr hlocks htab hX hZ
  show J p l e rmxL_did s m args below meth c D A 4 0 0 (MQ below (jQc D (fun r0 w0 => r0 = some (.int (nI 1)) ∧ w0 = oW o cL ou ++ wx) A) args s rmxL_did.cells rmxL_did.slots A) (oW o cL ou ++ wx) 0 [(0, .ref x), (1, .int p0), (2, .ref o)] []
  refine j_aload_n CX 2 dL_did_0 rfl rfl ?_
  refine j_iconst CX dL_did_1 (show _ = (nI 0 : Int32) by decide) ?_
  refine j_aload_n CX 0 dL_did_2 rfl rfl ?_
  refine j_iload_n CX 1 dL_did_3 rfl rfl ?_
  refine j_callVC CX hX hZ (n := 1) (pre := oW o cL ou) (post := []) (rest := [.int (nI 0), .ref o]) (qc := (RX5, TX5, 6)) hct gL_did_X5_did rfl (by decide +kernel) ⟨(Nat.le_of_ble_eq_true rfl), (Nat.le_of_ble_eq_true rfl)⟩ (by rw [List.append_nil]) rfl hx0 rfl rfl (Nat.le_of_ble_eq_true rfl) dL_did_4 ⟨(Nat.le_of_ble_eq_true rfl), (Nat.le_of_ble_eq_true rfl)⟩ (mc := 0) (ms := 0) (name := jIAE) [] ⟨0, 9, 12, 13⟩ [] (by rw [htab]; rfl) (fun z hz => nomatch hz) (by decide) (by decide) (by decide +kernel) hX.1.1 (fun q9 => ?_)
  refine j_astore_n CX (lv' := [(3, .ref q9), (0, .ref x), (1, .int p0), (2, .ref o)]) dL_did_12 rfl (by decide) rfl ?_
  refine j_iconst CX dL_did_13 (show _ = (nI 1 : Int32) by decide) ?_
  exact j_iret CX hr hlocks dL_did_14 ⟨rfl, rfl⟩
abbrev rmL_foretold : Room := { frames := 9, cells := 0, slots := 0, locals := 265 }
abbrev rmxL_foretold : Room := { frames := 9, cells := 1, slots := 6, locals := 265 }
set_option maxRecDepth 100000 in
set_option maxHeartbeats 4000000 in
theorem h_foretold (l : Launch) (hl9 : l.stackTraces = false) (D : va_G) (cI cZ cL : ClassId) (σ : Nat → Nat) (x o : Nat) (ou : Nat → Int64) (wx wx2 : va_W) (fs : List Value) (hx0 : wx[0]? = some (x, .inr (5, fs))) (p0 p1 : Int32) (v : Int32) (hct : Cg l D cI cZ cL yX5_foretold wsX5_foretold rmX5_foretold [.ref x, .int p0, .int p1] wx (fun r0 w0 => r0 = some (.int v) ∧ w0 = wx2)) : CgX l D cI cZ cL σ yL_foretold wsL_foretold rmL_foretold [.ref x, .int p0, .int p1, .ref o] (oW o cL ou ++ wx) (fun r0 w0 => r0 = some (.int (nI 0)) ∧ w0 = oW o cL (vp_updL ou 0 (v.toInt64)) ++ wx2) := by
  refine CgX.ofJ (own := RL) (cc := cL_foretold) (maxL := 5) (ret := some .int) (hh := [(0, 10, 13, 13)]) (by decide) rfl rfl (Nat.le_of_ble_eq_true rfl) ?_
  intro p e s m args below meth c A CX hr hlocks htab hX hZ
  show J p l e rmL_foretold s m args below meth c D A 5 0 0 (MQ below (jQc D (fun r0 w0 => r0 = some (.int (nI 0)) ∧ w0 = oW o cL (vp_updL ou 0 (v.toInt64)) ++ wx2) A) args s rmL_foretold.cells rmL_foretold.slots A) (oW o cL ou ++ wx) 0 [(0, .ref x), (1, .int p0), (2, .int p1), (3, .ref o)] []
  refine j_aload_n CX 3 dL_foretold_0 rfl rfl ?_
  refine j_iconst CX dL_foretold_1 (show _ = (nI 0 : Int32) by decide) ?_
  refine j_aload_n CX 0 dL_foretold_2 rfl rfl ?_
  refine j_iload_n CX 1 dL_foretold_3 rfl rfl ?_
  refine j_iload_n CX 2 dL_foretold_4 rfl rfl ?_
  refine j_callV CX (n := 2) (pre := oW o cL ou) (post := []) (rest := [.int (nI 0), .ref o]) (qc := (RX5, TX5, 6)) hct gL_foretold_X5_foretold rfl (by decide +kernel) ⟨(Nat.le_of_ble_eq_true rfl), (Nat.le_of_ble_eq_true rfl)⟩ (by rw [List.append_nil]) rfl hx0 rfl rfl (Nat.le_of_ble_eq_true rfl) dL_foretold_5 ⟨(Nat.le_of_ble_eq_true rfl), (Nat.le_of_ble_eq_true rfl)⟩ (fun r9 w9 h9 => ?_)
  obtain ⟨rfl, e9⟩ := h9
  refine j_w (w' := oW o cL ou ++ wx2) (by rw [e9, List.append_nil]) ?_
  refine j_st (st9 := [.int v, .int (nI 0), .ref o]) rfl ?_
  refine j_i2l CX dL_foretold_8 ?_
  refine j_last CX (w' := oW o cL (vp_updL ou 0 (v.toInt64)) ++ wx2) 0 0 dL_foretold_9 rfl rfl (by decide) (by decide) rfl ?_
  refine j_goto CX 17 dL_foretold_10 (by decide) ?_
  refine j_iconst CX dL_foretold_17 (show _ = (nI 0 : Int32) by decide) ?_
  exact j_iret CX hr hlocks dL_foretold_18 ⟨rfl, rfl⟩
set_option maxRecDepth 100000 in
set_option maxHeartbeats 4000000 in
theorem h_foretold_x (l : Launch) (hl9 : l.stackTraces = false) (D : va_G) (cI cZ cL : ClassId) (σ : Nat → Nat) (x o : Nat) (ou : Nat → Int64) (wx : va_W) (fs : List Value) (hx0 : wx[0]? = some (x, .inr (5, fs))) (p0 p1 : Int32) (hct : Cx l D cI cZ cL σ yX5_foretold wsX5_foretold rmxX5_foretold [.ref x, .int p0, .int p1] wx jIAE) : CgX l D cI cZ cL σ yL_foretold wsL_foretold rmxL_foretold [.ref x, .int p0, .int p1, .ref o] (oW o cL ou ++ wx) (fun r0 w0 => r0 = some (.int (nI 1)) ∧ w0 = oW o cL ou ++ wx) := by
  refine CgX.ofJ (own := RL) (cc := cL_foretold) (maxL := 5) (ret := some .int) (hh := [(0, 10, 13, 13)]) (by decide) rfl rfl (Nat.le_of_ble_eq_true rfl) ?_
  intro p e s m args below meth c A CX hr hlocks htab hX hZ
  show J p l e rmxL_foretold s m args below meth c D A 5 0 0 (MQ below (jQc D (fun r0 w0 => r0 = some (.int (nI 1)) ∧ w0 = oW o cL ou ++ wx) A) args s rmxL_foretold.cells rmxL_foretold.slots A) (oW o cL ou ++ wx) 0 [(0, .ref x), (1, .int p0), (2, .int p1), (3, .ref o)] []
  refine j_aload_n CX 3 dL_foretold_0 rfl rfl ?_
  refine j_iconst CX dL_foretold_1 (show _ = (nI 0 : Int32) by decide) ?_
  refine j_aload_n CX 0 dL_foretold_2 rfl rfl ?_
  refine j_iload_n CX 1 dL_foretold_3 rfl rfl ?_
  refine j_iload_n CX 2 dL_foretold_4 rfl rfl ?_
  refine j_callVC CX hX hZ (n := 2) (pre := oW o cL ou) (post := []) (rest := [.int (nI 0), .ref o]) (qc := (RX5, TX5, 6)) hct gL_foretold_X5_foretold rfl (by decide +kernel) ⟨(Nat.le_of_ble_eq_true rfl), (Nat.le_of_ble_eq_true rfl)⟩ (by rw [List.append_nil]) rfl hx0 rfl rfl (Nat.le_of_ble_eq_true rfl) dL_foretold_5 ⟨(Nat.le_of_ble_eq_true rfl), (Nat.le_of_ble_eq_true rfl)⟩ (mc := 0) (ms := 0) (name := jIAE) [] ⟨0, 10, 13, 13⟩ [] (by rw [htab]; rfl) (fun z hz => nomatch hz) (by decide) (by decide) (by decide +kernel) hX.1.1 (fun q9 => ?_)
  refine j_astore CX (lv' := [(4, .ref q9), (0, .ref x), (1, .int p0), (2, .int p1), (3, .ref o)]) dL_foretold_13 (by decide) rfl ?_
  refine j_iconst CX dL_foretold_15 (show _ = (nI 1 : Int32) by decide) ?_
  exact j_iret CX hr hlocks dL_foretold_16 ⟨rfl, rfl⟩
abbrev rmL_job : Room := { frames := 8, cells := 0, slots := 0, locals := 243 }
abbrev rmxL_job : Room := { frames := 8, cells := 1, slots := 6, locals := 243 }
set_option maxRecDepth 100000 in
set_option maxHeartbeats 4000000 in
theorem h_job (l : Launch) (hl9 : l.stackTraces = false) (D : va_G) (cI cZ cL : ClassId) (σ : Nat → Nat) (x o : Nat) (ou : Nat → Int64) (wx wx2 : va_W) (fs : List Value) (hx0 : wx[0]? = some (x, .inr (5, fs))) (p0 : Int32) (v : Int32) (hct : Cg l D cI cZ cL yX5_job wsX5_job rmX5_job [.ref x, .int p0] wx (fun r0 w0 => r0 = some (.int v) ∧ w0 = wx2)) : CgX l D cI cZ cL σ yL_job wsL_job rmL_job [.ref x, .int p0, .ref o] (oW o cL ou ++ wx) (fun r0 w0 => r0 = some (.int (nI 0)) ∧ w0 = oW o cL (vp_updL ou 0 (v.toInt64)) ++ wx2) := by
  refine CgX.ofJ (own := RL) (cc := cL_job) (maxL := 4) (ret := some .int) (hh := [(0, 9, 12, 13), (0, 9, 15, 23)]) (by decide) rfl rfl (Nat.le_of_ble_eq_true rfl) ?_
  intro p e s m args below meth c A CX hr hlocks htab hX hZ
  show J p l e rmL_job s m args below meth c D A 4 0 0 (MQ below (jQc D (fun r0 w0 => r0 = some (.int (nI 0)) ∧ w0 = oW o cL (vp_updL ou 0 (v.toInt64)) ++ wx2) A) args s rmL_job.cells rmL_job.slots A) (oW o cL ou ++ wx) 0 [(0, .ref x), (1, .int p0), (2, .ref o)] []
  refine j_aload_n CX 2 dL_job_0 rfl rfl ?_
  refine j_iconst CX dL_job_1 (show _ = (nI 0 : Int32) by decide) ?_
  refine j_aload_n CX 0 dL_job_2 rfl rfl ?_
  refine j_iload_n CX 1 dL_job_3 rfl rfl ?_
  refine j_callV CX (n := 1) (pre := oW o cL ou) (post := []) (rest := [.int (nI 0), .ref o]) (qc := (RX5, TX5, 6)) hct gL_job_X5_job rfl (by decide +kernel) ⟨(Nat.le_of_ble_eq_true rfl), (Nat.le_of_ble_eq_true rfl)⟩ (by rw [List.append_nil]) rfl hx0 rfl rfl (Nat.le_of_ble_eq_true rfl) dL_job_4 ⟨(Nat.le_of_ble_eq_true rfl), (Nat.le_of_ble_eq_true rfl)⟩ (fun r9 w9 h9 => ?_)
  obtain ⟨rfl, e9⟩ := h9
  refine j_w (w' := oW o cL ou ++ wx2) (by rw [e9, List.append_nil]) ?_
  refine j_st (st9 := [.int v, .int (nI 0), .ref o]) rfl ?_
  refine j_i2l CX dL_job_7 ?_
  refine j_last CX (w' := oW o cL (vp_updL ou 0 (v.toInt64)) ++ wx2) 0 0 dL_job_8 rfl rfl (by decide) (by decide) rfl ?_
  refine j_goto CX 18 dL_job_9 (by decide) ?_
  refine j_iconst CX dL_job_18 (show _ = (nI 0 : Int32) by decide) ?_
  exact j_iret CX hr hlocks dL_job_19 ⟨rfl, rfl⟩
set_option maxRecDepth 100000 in
set_option maxHeartbeats 4000000 in
theorem h_job_x (l : Launch) (hl9 : l.stackTraces = false) (D : va_G) (cI cZ cL : ClassId) (σ : Nat → Nat) (x o : Nat) (ou : Nat → Int64) (wx : va_W) (fs : List Value) (hx0 : wx[0]? = some (x, .inr (5, fs))) (p0 : Int32) (hct : Cx l D cI cZ cL σ yX5_job wsX5_job rmxX5_job [.ref x, .int p0] wx jIAE) : CgX l D cI cZ cL σ yL_job wsL_job rmxL_job [.ref x, .int p0, .ref o] (oW o cL ou ++ wx) (fun r0 w0 => r0 = some (.int (nI 1)) ∧ w0 = oW o cL ou ++ wx) := by
  refine CgX.ofJ (own := RL) (cc := cL_job) (maxL := 4) (ret := some .int) (hh := [(0, 9, 12, 13), (0, 9, 15, 23)]) (by decide) rfl rfl (Nat.le_of_ble_eq_true rfl) ?_
  intro p e s m args below meth c A CX hr hlocks htab hX hZ
  show J p l e rmxL_job s m args below meth c D A 4 0 0 (MQ below (jQc D (fun r0 w0 => r0 = some (.int (nI 1)) ∧ w0 = oW o cL ou ++ wx) A) args s rmxL_job.cells rmxL_job.slots A) (oW o cL ou ++ wx) 0 [(0, .ref x), (1, .int p0), (2, .ref o)] []
  refine j_aload_n CX 2 dL_job_0 rfl rfl ?_
  refine j_iconst CX dL_job_1 (show _ = (nI 0 : Int32) by decide) ?_
  refine j_aload_n CX 0 dL_job_2 rfl rfl ?_
  refine j_iload_n CX 1 dL_job_3 rfl rfl ?_
  refine j_callVC CX hX hZ (n := 1) (pre := oW o cL ou) (post := []) (rest := [.int (nI 0), .ref o]) (qc := (RX5, TX5, 6)) hct gL_job_X5_job rfl (by decide +kernel) ⟨(Nat.le_of_ble_eq_true rfl), (Nat.le_of_ble_eq_true rfl)⟩ (by rw [List.append_nil]) rfl hx0 rfl rfl (Nat.le_of_ble_eq_true rfl) dL_job_4 ⟨(Nat.le_of_ble_eq_true rfl), (Nat.le_of_ble_eq_true rfl)⟩ (mc := 0) (ms := 0) (name := jIAE) [] ⟨0, 9, 12, 13⟩ [⟨0, 9, 15, 23⟩] (by rw [htab]; rfl) (fun z hz => nomatch hz) (by decide) (by decide) (by decide +kernel) hX.1.1 (fun q9 => ?_)
  refine j_astore_n CX (lv' := [(3, .ref q9), (0, .ref x), (1, .int p0), (2, .ref o)]) dL_job_12 rfl (by decide) rfl ?_
  refine j_iconst CX dL_job_13 (show _ = (nI 1 : Int32) by decide) ?_
  exact j_iret CX hr hlocks dL_job_14 ⟨rfl, rfl⟩
set_option maxRecDepth 100000 in
set_option maxHeartbeats 4000000 in
theorem h_job_xS (l : Launch) (hl9 : l.stackTraces = false) (D : va_G) (cI cZ cL : ClassId) (σ : Nat → Nat) (x o : Nat) (ou : Nat → Int64) (wx : va_W) (fs : List Value) (hx0 : wx[0]? = some (x, .inr (5, fs))) (p0 : Int32) (hct : Cx l D cI cZ cL σ yX5_job wsX5_job rmxX5_job [.ref x, .int p0] wx jISE) : CgX l D cI cZ cL σ yL_job wsL_job rmxL_job [.ref x, .int p0, .ref o] (oW o cL ou ++ wx) (fun r0 w0 => r0 = some (.int (nI 2)) ∧ w0 = oW o cL ou ++ wx) := by
  refine CgX.ofJ (own := RL) (cc := cL_job) (maxL := 4) (ret := some .int) (hh := [(0, 9, 12, 13), (0, 9, 15, 23)]) (by decide) rfl rfl (Nat.le_of_ble_eq_true rfl) ?_
  intro p e s m args below meth c A CX hr hlocks htab hX hZ
  show J p l e rmxL_job s m args below meth c D A 4 0 0 (MQ below (jQc D (fun r0 w0 => r0 = some (.int (nI 2)) ∧ w0 = oW o cL ou ++ wx) A) args s rmxL_job.cells rmxL_job.slots A) (oW o cL ou ++ wx) 0 [(0, .ref x), (1, .int p0), (2, .ref o)] []
  refine j_aload_n CX 2 dL_job_0 rfl rfl ?_
  refine j_iconst CX dL_job_1 (show _ = (nI 0 : Int32) by decide) ?_
  refine j_aload_n CX 0 dL_job_2 rfl rfl ?_
  refine j_iload_n CX 1 dL_job_3 rfl rfl ?_
  refine j_callVC CX hX hZ (n := 1) (pre := oW o cL ou) (post := []) (rest := [.int (nI 0), .ref o]) (qc := (RX5, TX5, 6)) hct gL_job_X5_job rfl (by decide +kernel) ⟨(Nat.le_of_ble_eq_true rfl), (Nat.le_of_ble_eq_true rfl)⟩ (by rw [List.append_nil]) rfl hx0 rfl rfl (Nat.le_of_ble_eq_true rfl) dL_job_4 ⟨(Nat.le_of_ble_eq_true rfl), (Nat.le_of_ble_eq_true rfl)⟩ (mc := 0) (ms := 0) (name := jISE) [⟨0, 9, 12, 13⟩] ⟨0, 9, 15, 23⟩ [] (by rw [htab]; rfl) (fun z hz => by rcases List.mem_cons.mp hz with h | h; (subst h; exact Or.inr ⟨by decide, jIAE, CX.1.2.2.2.2 (Cond.classLink RL 13 jIAE) (by decide +kernel), hX.1.2.2.1⟩); exact nomatch h) (by decide) (by decide) (by decide +kernel) hX.1.2.1 (fun q9 => ?_)
  refine j_astore_n CX (lv' := [(3, .ref q9), (0, .ref x), (1, .int p0), (2, .ref o)]) dL_job_15 rfl (by decide) rfl ?_
  refine j_iconst CX dL_job_16 (show _ = (nI 2 : Int32) by decide) ?_
  exact j_iret CX hr hlocks dL_job_17 ⟨rfl, rfl⟩
abbrev rmL_age : Room := { frames := 8, cells := 0, slots := 0, locals := 243 }
abbrev rmxL_age : Room := { frames := 8, cells := 1, slots := 6, locals := 243 }
set_option maxRecDepth 100000 in
set_option maxHeartbeats 4000000 in
theorem h_age (l : Launch) (hl9 : l.stackTraces = false) (D : va_G) (cI cZ cL : ClassId) (σ : Nat → Nat) (x o : Nat) (ou : Nat → Int64) (wx wx2 : va_W) (fs : List Value) (hx0 : wx[0]? = some (x, .inr (5, fs))) (p0 : Int32) (v : Int32) (hct : Cg l D cI cZ cL yX5_age wsX5_age rmX5_age [.ref x, .int p0] wx (fun r0 w0 => r0 = some (.int v) ∧ w0 = wx2)) : CgX l D cI cZ cL σ yL_age wsL_age rmL_age [.ref x, .int p0, .ref o] (oW o cL ou ++ wx) (fun r0 w0 => r0 = some (.int (nI 0)) ∧ w0 = oW o cL (vp_updL ou 0 (v.toInt64)) ++ wx2) := by
  refine CgX.ofJ (own := RL) (cc := cL_age) (maxL := 4) (ret := some .int) (hh := [(0, 9, 12, 13)]) (by decide) rfl rfl (Nat.le_of_ble_eq_true rfl) ?_
  intro p e s m args below meth c A CX hr hlocks htab hX hZ
  show J p l e rmL_age s m args below meth c D A 4 0 0 (MQ below (jQc D (fun r0 w0 => r0 = some (.int (nI 0)) ∧ w0 = oW o cL (vp_updL ou 0 (v.toInt64)) ++ wx2) A) args s rmL_age.cells rmL_age.slots A) (oW o cL ou ++ wx) 0 [(0, .ref x), (1, .int p0), (2, .ref o)] []
  refine j_aload_n CX 2 dL_age_0 rfl rfl ?_
  refine j_iconst CX dL_age_1 (show _ = (nI 0 : Int32) by decide) ?_
  refine j_aload_n CX 0 dL_age_2 rfl rfl ?_
  refine j_iload_n CX 1 dL_age_3 rfl rfl ?_
  refine j_callV CX (n := 1) (pre := oW o cL ou) (post := []) (rest := [.int (nI 0), .ref o]) (qc := (RX5, TX5, 6)) hct gL_age_X5_age rfl (by decide +kernel) ⟨(Nat.le_of_ble_eq_true rfl), (Nat.le_of_ble_eq_true rfl)⟩ (by rw [List.append_nil]) rfl hx0 rfl rfl (Nat.le_of_ble_eq_true rfl) dL_age_4 ⟨(Nat.le_of_ble_eq_true rfl), (Nat.le_of_ble_eq_true rfl)⟩ (fun r9 w9 h9 => ?_)
  obtain ⟨rfl, e9⟩ := h9
  refine j_w (w' := oW o cL ou ++ wx2) (by rw [e9, List.append_nil]) ?_
  refine j_st (st9 := [.int v, .int (nI 0), .ref o]) rfl ?_
  refine j_i2l CX dL_age_7 ?_
  refine j_last CX (w' := oW o cL (vp_updL ou 0 (v.toInt64)) ++ wx2) 0 0 dL_age_8 rfl rfl (by decide) (by decide) rfl ?_
  refine j_goto CX 15 dL_age_9 (by decide) ?_
  refine j_iconst CX dL_age_15 (show _ = (nI 0 : Int32) by decide) ?_
  exact j_iret CX hr hlocks dL_age_16 ⟨rfl, rfl⟩
set_option maxRecDepth 100000 in
set_option maxHeartbeats 4000000 in
theorem h_age_x (l : Launch) (hl9 : l.stackTraces = false) (D : va_G) (cI cZ cL : ClassId) (σ : Nat → Nat) (x o : Nat) (ou : Nat → Int64) (wx : va_W) (fs : List Value) (hx0 : wx[0]? = some (x, .inr (5, fs))) (p0 : Int32) (hct : Cx l D cI cZ cL σ yX5_age wsX5_age rmxX5_age [.ref x, .int p0] wx jIAE) : CgX l D cI cZ cL σ yL_age wsL_age rmxL_age [.ref x, .int p0, .ref o] (oW o cL ou ++ wx) (fun r0 w0 => r0 = some (.int (nI 1)) ∧ w0 = oW o cL ou ++ wx) := by
  refine CgX.ofJ (own := RL) (cc := cL_age) (maxL := 4) (ret := some .int) (hh := [(0, 9, 12, 13)]) (by decide) rfl rfl (Nat.le_of_ble_eq_true rfl) ?_
  intro p e s m args below meth c A CX hr hlocks htab hX hZ
  show J p l e rmxL_age s m args below meth c D A 4 0 0 (MQ below (jQc D (fun r0 w0 => r0 = some (.int (nI 1)) ∧ w0 = oW o cL ou ++ wx) A) args s rmxL_age.cells rmxL_age.slots A) (oW o cL ou ++ wx) 0 [(0, .ref x), (1, .int p0), (2, .ref o)] []
  refine j_aload_n CX 2 dL_age_0 rfl rfl ?_
  refine j_iconst CX dL_age_1 (show _ = (nI 0 : Int32) by decide) ?_
  refine j_aload_n CX 0 dL_age_2 rfl rfl ?_
  refine j_iload_n CX 1 dL_age_3 rfl rfl ?_
  refine j_callVC CX hX hZ (n := 1) (pre := oW o cL ou) (post := []) (rest := [.int (nI 0), .ref o]) (qc := (RX5, TX5, 6)) hct gL_age_X5_age rfl (by decide +kernel) ⟨(Nat.le_of_ble_eq_true rfl), (Nat.le_of_ble_eq_true rfl)⟩ (by rw [List.append_nil]) rfl hx0 rfl rfl (Nat.le_of_ble_eq_true rfl) dL_age_4 ⟨(Nat.le_of_ble_eq_true rfl), (Nat.le_of_ble_eq_true rfl)⟩ (mc := 0) (ms := 0) (name := jIAE) [] ⟨0, 9, 12, 13⟩ [] (by rw [htab]; rfl) (fun z hz => nomatch hz) (by decide) (by decide) (by decide +kernel) hX.1.1 (fun q9 => ?_)
  refine j_astore_n CX (lv' := [(3, .ref q9), (0, .ref x), (1, .int p0), (2, .ref o)]) dL_age_12 rfl (by decide) rfl ?_
  refine j_iconst CX dL_age_13 (show _ = (nI 1 : Int32) by decide) ?_
  exact j_iret CX hr hlocks dL_age_14 ⟨rfl, rfl⟩