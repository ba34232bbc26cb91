
section JX
abbrev jIAE : String := "java/lang/IllegalArgumentException"
abbrev jISE : String := "java/lang/IllegalStateException"
abbrev jNM : List String := ["java/lang/RuntimeException", "java/lang/Exception"]
/-- what the tables and the constants say that a throw needs -/
def jDs (U : State) : Prop := va_Nw (.declares (Bundle.initS "java/lang/RuntimeException")) U ∧ va_Nw (.declares (Bundle.initS "java/lang/Exception")) U ∧ va_Nw (.declares (Bundle.initS Bundle.tN)) U
def jX (σ : Nat → Nat) (U : State) : Prop := (va_Nw (.castable jIAE jIAE) U ∧ va_Nw (.castable jISE jISE) U ∧ va_Nc jISE jIAE U ∧ jDs U) ∧ vk_R RX5 155 "a number is out of its bounds" (σ 0) U ∧ vk_R RX5 68 "a wall needs two zones" (σ 1) U ∧ vk_R RX5 99 "200 failures are told" (σ 2) U ∧ vk_R RX5 141 "100 jobs wait" (σ 3) U
theorem jX.warm {σ : Nat → Nat} {s U : State} (hW : s.WarmedH U.vm) (h : jX σ s) : jX σ U := ⟨⟨va_Nw.warmC hW h.1.1, va_Nw.warmC hW h.1.2.1, h.1.2.2.1.moved hW.alike, va_Nw.warmD hW h.1.2.2.2.1, va_Nw.warmD hW h.1.2.2.2.2.1, va_Nw.warmD hW h.1.2.2.2.2.2⟩, vk_R.warm hW h.2.1, vk_R.warm hW h.2.2.1, vk_R.warm hW h.2.2.2.1, vk_R.warm hW h.2.2.2.2⟩
theorem jX.calling {σ : Nat → Nat} {U : State} (g : JFrame) (mk : MethodId) (a : Array Value) (h : jX σ U) : jX σ (U.calling g mk a) :=
  ⟨⟨va_Nw.same rfl (u := U) rfl h.1.1, va_Nw.same rfl (u := U) rfl h.1.2.1, h.1.2.2.1.moved (Vm.Alike.refl U.vm), va_Nw.same rfl (u := U) rfl h.1.2.2.2.1, va_Nw.same rfl (u := U) rfl h.1.2.2.2.2.1, va_Nw.same rfl (u := U) rfl h.1.2.2.2.2.2⟩, vk_R.same (u := U) rfl h.2.1, vk_R.same (u := U) rfl h.2.2.1, vk_R.same (u := U) rfl h.2.2.2.1, vk_R.same (u := U) rfl h.2.2.2.2⟩
def jZ (A : Nat → Prop) (U : State) (H : Heap) : Prop := vx_Zq Bundle.tN "UNASSIGNED_STACK" Bundle.steD A U H ∧ vx_Zq Bundle.tN "SUPPRESSED_SENTINEL" Bundle.listD A U H
def jPx (D : va_G) (cI cZ cL : ClassId) (σ : Nat → Nat) (av : List Value) (w : va_W) (sz : Nat) : Array Value → State → Prop := fun a U => jPc D cI cZ cL av w sz a U ∧ jX σ U ∧ jZ (va_A w sz) U U.heap
theorem jPx.blind {D : va_G} {cI cZ cL : ClassId} {σ : Nat → Nat} {av : List Value} {w : va_W} {sz : Nat} : FrameBlind (jPx D cI cZ cL σ av w sz) := fun a U g mk q =>
  ⟨jPc.blind a U g mk q.1, q.2.1.calling g mk a, vx_Zq.moved (u := U) (U := U.calling g mk a) (Vm.Alike.refl U.vm) q.2.2.1, vx_Zq.moved (u := U) (U := U.calling g mk a) (Vm.Alike.refl U.vm) q.2.2.2⟩
def jXC (D : va_G) (E : String) (w : va_W) (A : Nat → Prop) : String → State → State → Prop := fun E' st t => E' = E ∧ va_P D vwCl w t.heap ∧ va_F A st t
def jNo : Array Value → State → Outcome → State → Prop := fun _ _ _ _ => False
/-- a contract of a throw: the method throws E, its world is as it was -/
def Cx (l : Launch) (D : va_G) (cI cZ cL : ClassId) (σ : Nat → Nat) (y : MethodName) (ws : List Cond) (rm : Room) (av : List Value) (w : va_W) (E : String) : Prop :=
  ∀ sz : Nat, vx_Met l y ws rm (jPx D cI cZ cL σ av w sz) jNo (jXC D E w (va_A w sz)) rm.cells rm.slots (va_A w sz)
variable {p : Program} {l : Launch} {e : Env} {R : Room} {s : State} {m : MethodId} {args : Array Value} {below : List Frame} {meth : Method} {c : Code} {D : va_G} {cI cZ cL : ClassId} {A : Nat → Prop} {nL cells slots : Nat} {Q : State → Prop} {σ : Nat → Nat} {E : String}
variable {cc : ByteArray} {Ts : List Cond} {own : String} {w w' : va_W} {pc : Nat} {lv lv' : List (Nat × Value)} {st rest : List Value} {Po : Option Value → va_W → Prop}
theorem Cx.ofJ {y : MethodName} {ws ws' : List Cond} {rm : Room} {av : List Value} {maxL : Nat} {ret : Option FieldType} (hy : plainName y.cls = true) (hown : y.cls = own) (hw : ws = Cond.code y cc maxL ret :: ws') (hlen : (lg_sl av).length ≤ maxL)
    (body : ∀ (p : Program) (e : Env) (s : State) (m : MethodId) (args : Array Value) (below : List Frame) (meth : Method) (c : Code) (A : Nat → Prop), jC p s m args c cc maxL ws own D cI cZ cL A → meth.locks = false → (∀ x ∈ c.exceptionTable.toList, False) → jX σ s → jZ A s s.heap →
      J p l e rm s m args below meth c D A maxL 0 0 (vx_MQ below jNo (jXC D E w A) args s rm.cells rm.slots A) w 0 (lv_args 0 av) []) : Cx l D cI cZ cL σ y ws rm av w E := by
  intro sz
  refine vx_ofW (cc := cc) (maxL := maxL) (ret := ret) hy hw ?_
  intro p e s m args below meth c s₁ B hml htab hv
  obtain ⟨⟨rfl, hsz, hP, hK, hD0⟩, hX, hZ⟩ := hv
  have hown9 : s.vm.findClass own = some m.cls := by rw [← hown]; exact findClass_of_methodNamed B.named
  subst hsz
  have hl := lv_entry av (n := maxL) hlen
  rw [lg_entry_eq]
  exact body p e s m av.toArray below meth c (va_A w s.heap.size) ⟨⟨B.exec, B.bytes, hml, hown9, atoms_spec (ws := ws) B.pre⟩, hK, fun q h => Or.inr h⟩ B.notSynchronized htab hX hZ s.heap [] _ hP hD0.self va_S.rf hl
/-- 'throw new E("text")' -/
theorem j_throwS (C : jC p s m args c cc nL Ts own D cI cZ cL A) (hl9 : l.stackTraces = false) (hlocks : meth.locks = false) (htab : ∀ x ∈ c.exceptionTable.toList, False) (hZ : jZ A s s.heap) {cls text : String} {ik is ic sa mc ms : Nat} (hcls : Bundle.fit cls = true) (hk : Cond.classLink own ik cls ∈ Ts) (hini : Cond.initialized cls ∈ Ts) (hstr : vk_R own is text sa s) (hcast : va_Nw (.castable cls cls) s) (hds : jDs s) (hat : ∀ x ∈ (vx_atS own ic cls jNM).filter goodWord, x ∈ Ts) (hat2 : ∀ x ∈ (vx_atS own ic cls jNM).filter (fun x => !goodWord x), x ∈ [Cond.castable cls cls, Cond.declares (Bundle.initS "java/lang/RuntimeException"), Cond.declares (Bundle.initS "java/lang/Exception"), Cond.declares (Bundle.initS Bundle.tN)])
    (hgood : ∀ x ∈ Cond.classLink own ik cls :: Cond.initialized cls :: vx_atS own ic cls jNM, vx_ot x = true)
    (d0 : decode cc pc = .ok (.new ik, 3)) (d3 : decode cc (pc + 3) = .ok (.dup, 1)) (d4 : decode cc (pc + 4) = .ok (.ldc is, 2)) (d6 : decode cc (pc + 6) = .ok (.invokespecial ic, 3)) (d9 : decode cc (pc + 9) = .ok (.athrow, 1)) (hfr : 5 < R.frames) (hlo : (st.map fun v => v.category).sum + 82 ≤ R.locals) (hRc : cells + 1 ≤ R.cells) (hRs : slots + 6 ≤ R.slots) (hc : cells + 1 ≤ mc) (hs : slots + 6 ≤ ms) :
    J p l e R s m args below meth c D A nL cells slots (vx_MQ below jNo (jXC D cls w A) args s mc ms A) w pc lv st := by
  intro H locs ls hP hD hS hl
  refine vx_throwS C.1.1 C.1.2.1 hl9 C.1.2.2.2.1 hcls (by decide +kernel : ∀ n ∈ jNM, Bundle.fit n = true) (C.1.2.2.2.2 _ hk) (C.1.2.2.2.2 _ hini) hstr (vx_hat (fun x hx => C.1.2.2.2.2 _ (hat x hx)) hat2 (vx_c (va_Nw.use rfl hcast) (vx_c (va_Nw.use rfl hds.1) (vx_c (va_Nw.use rfl hds.2.1) (vx_c (va_Nw.use rfl hds.2.2) vx_n))))) hgood hZ.1 hZ.2 hS (by rw [C.1.2.2.1]; exact hl.1) d0 d3 d4 d6 d9 (fun x hx => (htab x hx).elim) hfr hlo hRc hRs hlocks (fun t ht hsz hq => ⟨rfl, hP.kept (fun k q hk => hq q.1 (hP k q hk).lt), Nat.le_trans hS.1 hsz, fun q h1 h2 => (hq q (Nat.lt_of_lt_of_le h1 hS.1)).trans (hS.2.1 q h1 h2)⟩) hS.2.2 hc hs
theorem jZ.at {A1 : Nat → Prop} {H : Heap} {locs : List Loc} {U : State} (h : jZ A s s.heap) (hS : va_S A s.heap H locs) (hU : U.heap = H) (hW : s.WarmedH U.vm) (hA : ∀ q, A1 q → A q) : jZ A1 U U.heap := by
  have k : ∀ a : Nat, a < s.heap.size → ¬ A a → U.heap[a]? = s.heap[a]? := fun a h1 h2 => by rw [hU]; exact hS.2.1 a h1 h2
  exact ⟨((vx_Zq.moved hW.alike h.1).kept k).narrow hA, ((vx_Zq.moved hW.alike h.2).kept k).narrow hA⟩
theorem j_callVX (C : jC p s m args c cc nL Ts own D cI cZ cL A) (hX : jX σ s) (hZ : jZ A s s.heap) {y : MethodName} {ws ws' : List Cond} {rm : Room} {bytes : ByteArray} {maxL index n mc ms : Nat} {ret : Option FieldType} {b : Nat} {As : List Value} {pre wc post : va_W} (hct : Cx l D cI cZ cL σ y ws rm (.ref b :: As) wc E) {CN : String} (hG : GoodIn Ts (wsV own index CN y ws)) (hw9 : ws = Cond.code y bytes maxL ret :: ws') (hd : y.cls = CN ∧ y.cls ≠ "java/lang/invoke/MethodHandle" ∧ y.cls ≠ "java/lang/invoke/VarHandle" ∧ (parseMethodDescriptor y.desc).map (fun d => d.parameters.length) = some n) (hR : rm.frames + 1 ≤ R.frames ∧ 8 + (maxL + 11) + rm.locals ≤ R.locals)
    (hw : w = pre ++ (wc ++ post)) {ci : Nat} {qc : vw_C} {fs : List Value} (hc : vwCl[ci]? = some (CN, qc.2)) (he : wc[0]? = some (b, .inr (ci, fs))) (hn : As.length = n) (hst : st = As.reverse ++ .ref b :: rest) (hro : (rest.map fun v => v.category).sum ≤ 8) (d : decode cc pc = .ok (.invokevirtual index, 3)) (hf : cells + rm.cells ≤ R.cells ∧ slots + rm.slots ≤ R.slots) (htab : ∀ x ∈ c.exceptionTable.toList, False) (hlocks : meth.locks = false) (hmc : cells + rm.cells ≤ mc) (hms : slots + rm.slots ≤ ms) : J p l e R s m args below meth c D A nL cells slots (vx_MQ below jNo (jXC D E w A) args s mc ms A) w pc lv st := by
  intro H locs ls hP hD hS hl
  subst hw
  have hF : ∀ q, va_A wc H.size q → A q := by
    intro q h
    rcases h with ⟨k, e, h⟩ | h
    · exact hD.right.left.2 k _ h
    · exact C.2.2 q (Nat.le_trans hS.1 h)
  intro T hT X
  have hpre : ∀ U : State, U.heap = H → s.WarmedH U.vm → jPx D cI cZ cL σ (.ref b :: As) wc H.size (.ref b :: As).toArray U := fun U hU hW => ⟨⟨rfl, by rw [hU], by rw [hU]; exact hP.right.left, C.2.1.warm hW, hD.right.left.weaken (fun _ _ _ _ => trivial)⟩, hX.warm hW, hZ.at hS hU hW hF⟩
  rcases vx_runV (g := F0 m pc ls st) (As := As) (rest := rest) C.1 (hct H.size) (cwV n C.1.2.2.2.2 hG hw9 rfl rfl hd hR) ⟨jPx.blind, va_recv C.2.1.1 hP.right.left (q := (CN, qc.2)) hc he, hpre⟩ rfl hn hl.1 hst (lv_room hro) d hf T hT X with ⟨v, st₀, t, T', L, h0, X', hL, e1, e2, hno, stp⟩ | ⟨q9, st₀, t, T', L, E', ce, h0, X', hL, e1, e2, ⟨rfl, hP1, hF1⟩, hce, hcv, hcl, stp⟩
  · exact hno.elim
  have hk : ∀ q : Nat, q < H.size → ¬ va_A wc H.size q → T'.heap[q]? = H[q]? := fun q h1 h2 => by rw [e1, hF1.2 q (by rw [h0]; exact h1) h2, h0]
  rw [← e1] at hP1
  obtain ⟨hP2, hD2⟩ := j_frame hP hD hS C.2.2 hk hP1 hD.right.left.self
  have hce2 : T'.heap[q9]? = some ce := by rw [e1]; exact hce
  have hS2 : va_S A s.heap T'.heap (locs ++ L) := by
    refine ⟨Nat.le_trans hS.1 (by have := hF1.1; rw [h0] at this; rw [e1]; exact this), fun q h1 h2 => ?_, fun z hz => ?_⟩
    · rw [hk q (Nat.lt_of_lt_of_le h1 hS.1) (fun h => h2 (hF q h))]
      exact hS.2.1 q h1 h2
    · rcases List.mem_append.mp hz with h | h
      · exact hS.2.2 z h
      · exact hF _ (hL z h)
  obtain ⟨t2, a1, b1⟩ := vx_out (Qc := jNo) (XC := jXC D E' (pre ++ (wc ++ post)) A) (free := A) (mc := mc) (ms := ms) (pc := pc) (ls := ls) (rest := rest) (fun x hx => (htab x hx).elim) hlocks hce2 hcv hcl (fun t3 ht3 hal => ⟨rfl, by rw [ht3]; exact hP2, hS2.F ht3⟩) hS2.2.2 hmc hms T' rfl X'
  exact ⟨t2, stp.trans a1, b1⟩
theorem j_callSX (C : jC p s m args c cc nL Ts own D cI cZ cL A) (hX : jX σ s) (hZ : jZ A s s.heap) {y : MethodName} {ws ws' : List Cond} {rm : Room} {bytes : ByteArray} {maxL index n mc ms : Nat} {ret : Option FieldType} {b : Nat} {As : List Value} {pre wc post : va_W} (hct : Cx l D cI cZ cL σ y ws rm (As) wc E) (hG : GoodIn Ts (va_wsS own index y ws)) (hw9 : ws = Cond.code y bytes maxL ret :: ws') (hd : y.cls ≠ "java/lang/invoke/MethodHandle" ∧ y.cls ≠ "java/lang/invoke/VarHandle" ∧ (parseMethodDescriptor y.desc).map (fun d => d.parameters.length) = some n) (hR : rm.frames + 1 ≤ R.frames ∧ 8 + (maxL + 11) + rm.locals ≤ R.locals)
    (hw : w = pre ++ (wc ++ post))  (hn : As.length = n) (hst : st = As.reverse ++ rest) (hro : (rest.map fun v => v.category).sum ≤ 8) (d : decode cc pc = .ok (.invokestatic index, 3)) (hf : cells + rm.cells ≤ R.cells ∧ slots + rm.slots ≤ R.slots) (htab : ∀ x ∈ c.exceptionTable.toList, False) (hlocks : meth.locks = false) (hmc : cells + rm.cells ≤ mc) (hms : slots + rm.slots ≤ ms) : J p l e R s m args below meth c D A nL cells slots (vx_MQ below jNo (jXC D E w A) args s mc ms A) w pc lv st := by
  intro H locs ls hP hD hS hl
  subst hw
  have hF : ∀ q, va_A wc H.size q → A q := by
    intro q h
    rcases h with ⟨k, e, h⟩ | h
    · exact hD.right.left.2 k _ h
    · exact C.2.2 q (Nat.le_trans hS.1 h)
  intro T hT X
  have hpre : ∀ U : State, U.heap = H → s.WarmedH U.vm → jPx D cI cZ cL σ (As) wc H.size (As).toArray U := fun U hU hW => ⟨⟨rfl, by rw [hU], by rw [hU]; exact hP.right.left, C.2.1.warm hW, hD.right.left.weaken (fun _ _ _ _ => trivial)⟩, hX.warm hW, hZ.at hS hU hW hF⟩
  rcases vx_runS (g := F0 m pc ls st) (As := As) (rest := rest) C.1 (hct H.size) (va_cwS n C.1.2.2.2.2 hG hw9 rfl rfl hd hR) ⟨jPx.blind, hpre⟩ rfl hn hl.1 hst (lv_room hro) d hf T hT X with ⟨v, st₀, t, T', L, h0, X', hL, e1, e2, hno, stp⟩ | ⟨q9, st₀, t, T', L, E', ce, h0, X', hL, e1, e2, ⟨rfl, hP1, hF1⟩, hce, hcv, hcl, stp⟩
  · exact hno.elim
  have hk : ∀ q : Nat, q < H.size → ¬ va_A wc H.size q → T'.heap[q]? = H[q]? := fun q h1 h2 => by rw [e1, hF1.2 q (by rw [h0]; exact h1) h2, h0]
  rw [← e1] at hP1
  obtain ⟨hP2, hD2⟩ := j_frame hP hD hS C.2.2 hk hP1 hD.right.left.self
  have hce2 : T'.heap[q9]? = some ce := by rw [e1]; exact hce
  have hS2 : va_S A s.heap T'.heap (locs ++ L) := by
    refine ⟨Nat.le_trans hS.1 (by have := hF1.1; rw [h0] at this; rw [e1]; exact this), fun q h1 h2 => ?_, fun z hz => ?_⟩
    · rw [hk q (Nat.lt_of_lt_of_le h1 hS.1) (fun h => h2 (hF q h))]
      exact hS.2.1 q h1 h2
    · rcases List.mem_append.mp hz with h | h
      · exact hS.2.2 z h
      · exact hF _ (hL z h)
  obtain ⟨t2, a1, b1⟩ := vx_out (Qc := jNo) (XC := jXC D E' (pre ++ (wc ++ post)) A) (free := A) (mc := mc) (ms := ms) (pc := pc) (ls := ls) (rest := rest) (fun x hx => (htab x hx).elim) hlocks hce2 hcv hcl (fun t3 ht3 hal => ⟨rfl, by rw [ht3]; exact hP2, hS2.F ht3⟩) hS2.2.2 hmc hms T' rfl X'
  exact ⟨t2, stp.trans a1, b1⟩
theorem j_callVC (C : jC p s m args c cc nL Ts own D cI cZ cL A) (hX : jX σ s) (hZ : jZ A s s.heap) {y : MethodName} {ws ws' : List Cond} {rm : Room} {bytes : ByteArray} {maxL index n mc ms : Nat} {ret : Option FieldType} {b : Nat} {As : List Value} {pre wc post : va_W} (hct : Cx l D cI cZ cL σ y ws rm (.ref b :: As) wc E) {CN : String} (hG : GoodIn Ts (wsV own index CN y ws)) (hw9 : ws = Cond.code y bytes maxL ret :: ws') (hd : y.cls = CN ∧ y.cls ≠ "java/lang/invoke/MethodHandle" ∧ y.cls ≠ "java/lang/invoke/VarHandle" ∧ (parseMethodDescriptor y.desc).map (fun d => d.parameters.length) = some n) (hR : rm.frames + 1 ≤ R.frames ∧ 8 + (maxL + 11) + rm.locals ≤ R.locals)
    (hw : w = pre ++ (wc ++ post)) {ci : Nat} {qc : vw_C} {fs : List Value} (hc : vwCl[ci]? = some (CN, qc.2)) (he : wc[0]? = some (b, .inr (ci, fs))) (hn : As.length = n) (hst : st = As.reverse ++ .ref b :: rest) (hro : (rest.map fun v => v.category).sum ≤ 8) (d : decode cc pc = .ok (.invokevirtual index, 3)) (hf : cells + rm.cells ≤ R.cells ∧ slots + rm.slots ≤ R.slots) {name : String} (pre9 : List ExceptionTableEntry) (x9 : ExceptionTableEntry) (suf9 : List ExceptionTableEntry) (hsplit : c.exceptionTable.toList = pre9 ++ x9 :: suf9) (hpass : ∀ z ∈ pre9, covers z pc = false ∨ (z.catchType ≠ 0 ∧ ∃ nm : String, (Cond.classLink own z.catchType nm).before args s = true ∧ va_Nc E nm s)) (hcov : covers x9 pc = true) (h09 : x9.catchType ≠ 0) (hlink9 : Cond.classLink own x9.catchType name ∈ Ts) (hcast9 : va_Nw (.castable E name) s) (k : ∀ q : Nat, J p l e R s m args below meth c D A nL (cells + rm.cells) (slots + rm.slots) Q w x9.handlerPc lv [.ref q]) : J p l e R s m args below meth c D A nL cells slots Q w pc lv st := by
  intro H locs ls hP hD hS hl
  subst hw
  have hF : ∀ q, va_A wc H.size q → A q := by
    intro q h
    rcases h with ⟨k, e, h⟩ | h
    · exact hD.right.left.2 k _ h
    · exact C.2.2 q (Nat.le_trans hS.1 h)
  intro T hT X
  have hpre : ∀ U : State, U.heap = H → s.WarmedH U.vm → jPx D cI cZ cL σ (.ref b :: As) wc H.size (.ref b :: As).toArray U := fun U hU hW => ⟨⟨rfl, by rw [hU], by rw [hU]; exact hP.right.left, C.2.1.warm hW, hD.right.left.weaken (fun _ _ _ _ => trivial)⟩, hX.warm hW, hZ.at hS hU hW hF⟩
  rcases vx_runV (g := F0 m pc ls st) (As := As) (rest := rest) C.1 (hct H.size) (cwV n C.1.2.2.2.2 hG hw9 rfl rfl hd hR) ⟨jPx.blind, va_recv C.2.1.1 hP.right.left (q := (CN, qc.2)) hc he, hpre⟩ rfl hn hl.1 hst (lv_room hro) d hf T hT X with ⟨v, st₀, t, T', L, h0, X', hL, e1, e2, hno, stp⟩ | ⟨q9, st₀, t, T', L, E', ce, h0, X', hL, e1, e2, ⟨rfl, hP1, hF1⟩, hce, hcv, hcl, stp⟩
  · exact hno.elim
  have hk : ∀ q : Nat, q < H.size → ¬ va_A wc H.size q → T'.heap[q]? = H[q]? := fun q h1 h2 => by rw [e1, hF1.2 q (by rw [h0]; exact h1) h2, h0]
  rw [← e1] at hP1
  obtain ⟨hP2, hD2⟩ := j_frame hP hD hS C.2.2 hk hP1 hD.right.left.self
  have hce2 : T'.heap[q9]? = some ce := by rw [e1]; exact hce
  have hS2 : va_S A s.heap T'.heap (locs ++ L) := by
    refine ⟨Nat.le_trans hS.1 (by have := hF1.1; rw [h0] at this; rw [e1]; exact this), fun q h1 h2 => ?_, fun z hz => ?_⟩
    · rw [hk q (Nat.lt_of_lt_of_le h1 hS.1) (fun h => h2 (hF q h))]
      exact hS.2.1 q h1 h2
    · rcases List.mem_append.mp hz with h | h
      · exact hS.2.2 z h
      · exact hF _ (hL z h)
  obtain ⟨t2, a1, b1⟩ := vx_catch (pc := pc) (ls := ls) (rest := rest) C.1.2.2.2.1 pre9 x9 suf9 hsplit hpass hcov h09 (C.1.2.2.2.2 _ hlink9) (va_Nw.use rfl hcast9) hce2 hcv hcl (k q9 T'.heap (locs ++ L) ls hP2 hD2 hS2 hl) T' rfl X'
  exact ⟨t2, stp.trans a1, b1⟩
end JX
