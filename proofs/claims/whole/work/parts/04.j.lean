/-! ===== THE J LAYER: the machine at pc with world w, locals lv, stack st comes to Q ===== -/
section JL
abbrev jtys (cI cZ cL : ClassId) : List (ClassId × FieldType) := [(cI, .int), (cZ, .boolean), (cL, .long)]
abbrev jNest : Cond := .methodLinkNest RX4 70 yX5_keptWithin RX5
def jG (D : va_G) (cI cZ cL : ClassId) (U : State) : Prop := va_K D vwCl (jtys cI cZ cL) U ∧ va_Nw jNest U
theorem jG.warm {D : va_G} {cI cZ cL : ClassId} {s U : State} (hW : s.WarmedH U.vm) (h : jG D cI cZ cL s) : jG D cI cZ cL U := ⟨va_K.moved hW.alike h.1, va_Nw.warmM hW h.2⟩
theorem jG.calling {D : va_G} {cI cZ cL : ClassId} {U : State} (g : JFrame) (mk : MethodId) (a : Array Value) (h : jG D cI cZ cL U) : jG D cI cZ cL (U.calling g mk a) :=
  ⟨va_K.moved (u := U) (U := U.calling g mk a) (Vm.Alike.refl U.vm) h.1, va_Nw.same rfl (u := U) (U := U.calling g mk a) rfl h.2⟩
def J (p : Program) (l : Launch) (e : Env) (R : Room) (s : State) (m : MethodId) (args : Array Value) (below : List Frame) (meth : Method) (c : Code) (D : va_G) (A : Nat → Prop) (nL cells slots : Nat) (Q : State → Prop) (w : va_W) (pc : Nat) (lv : List (Nat × Value)) (st : List Value) : Prop :=
  ∀ (H : Heap) (locs : List Loc) (ls : Array Slot), va_P D vwCl w H → va_D A w → va_S A s.heap H locs → lv_has ls nL lv → W p l e R s m args below meth c H locs cells slots Q (F0 m pc ls st)
/-- what a method's walk stands on: the machine, its code, its words, the tables, what it may write -/
def jC (p : Program) (s : State) (m : MethodId) (args : Array Value) (c : Code) (cc : ByteArray) (nL : Nat) (Ts : List Cond) (own : String) (D : va_G) (cI cZ cL : ClassId) (A : Nat → Prop) : Prop :=
  CallFix p m c cc nL s args Ts own ∧ jG D cI cZ cL s ∧ ∀ q : Nat, s.heap.size ≤ q → A q
def jPc (D : va_G) (cI cZ cL : ClassId) (av : List Value) (w : va_W) (sz : Nat) : Array Value → State → Prop := va_Pc av (fun U => U.heap.size = sz ∧ va_P D vwCl w U.heap ∧ jG D cI cZ cL U ∧ va_D (fun _ => True) w)
def jQc (D : va_G) (Po : Option Value → va_W → Prop) (A : Nat → Prop) : Array Value → State → Outcome → State → Prop := fun _ st oc t => (∃ (r : Option Value) (w' : va_W), oc = .returned r ∧ Po r w' ∧ va_P D vwCl w' t.heap ∧ va_D A w') ∧ va_F A st t
/-- a contract: from world w, with arguments av, the method returns r and leaves w' with 'Po r w'' -/
def Cg (l : Launch) (D : va_G) (cI cZ cL : ClassId) (y : MethodName) (ws : List Cond) (rm : Room) (av : List Value) (w : va_W) (Po : Option Value → va_W → Prop) : Prop :=
  ∀ sz : Nat, Met l y ws rm (jPc D cI cZ cL av w sz) (jQc D Po (va_A w sz)) rm.cells rm.slots (va_A w sz)
abbrev Ct (l : Launch) (D : va_G) (cI cZ cL : ClassId) (y : MethodName) (ws : List Cond) (rm : Room) (av : List Value) (w : va_W) (r : Option Value) (w' : va_W) : Prop := Cg l D cI cZ cL y ws rm av w (fun r0 w0 => r0 = r ∧ w0 = w')
theorem jPc.blind {D : va_G} {cI cZ cL : ClassId} {av : List Value} {w : va_W} {sz : Nat} : FrameBlind (jPc D cI cZ cL av w sz) := fun a U g mk q => by
  obtain ⟨q0, q1, qP, qK, qD⟩ := q
  exact ⟨q0, q1, qP, qK.calling g mk a, qD⟩
theorem va_P.left {D : va_G} {cl : List vw_C} {a b : va_W} {H : Heap} (h : va_P D cl (a ++ b) H) : va_P D cl a H := fun k q hk => h k q (by rw [List.getElem?_append_left (by exact (List.getElem?_eq_some_iff.mp hk).1)]; exact hk)
theorem va_P.right {D : va_G} {cl : List vw_C} {a b : va_W} {H : Heap} (h : va_P D cl (a ++ b) H) : va_P D cl b H := fun k q hk => h (a.length + k) q (by rw [List.getElem?_append_right (by omega)]; simpa using hk)
theorem va_D.left {A : Nat → Prop} {a b : va_W} (h : va_D A (a ++ b)) : va_D A a := by
  have e : ∀ (k : Nat) (q : Nat × va_E), a[k]? = some q → (a ++ b)[k]? = some q := fun k q hk => by rw [List.getElem?_append_left (by exact (List.getElem?_eq_some_iff.mp hk).1)]; exact hk
  exact ⟨fun i j x y hi hj hxy => h.1 i j x y (e i x hi) (e j y hj) hxy, fun k q hk => h.2 k q (e k q hk)⟩
theorem va_D.right {A : Nat → Prop} {a b : va_W} (h : va_D A (a ++ b)) : va_D A b := by
  have e : ∀ (k : Nat) (q : Nat × va_E), b[k]? = some q → (a ++ b)[a.length + k]? = some q := fun k q hk => by rw [List.getElem?_append_right (by omega)]; simpa using hk
  exact ⟨fun i j x y hi hj hxy => by have := h.1 _ _ x y (e i x hi) (e j y hj) hxy; omega, fun k q hk => h.2 _ q (e k q hk)⟩
theorem va_D.cross {A : Nat → Prop} {a b : va_W} (h : va_D A (a ++ b)) (i j : Nat) (x y : Nat × va_E) (hi : a[i]? = some x) (hj : b[j]? = some y) : x.1 ≠ y.1 := by
  intro hxy
  have h1 : (a ++ b)[i]? = some x := by rw [List.getElem?_append_left (by exact (List.getElem?_eq_some_iff.mp hi).1)]; exact hi
  have h2 : (a ++ b)[a.length + j]? = some y := by rw [List.getElem?_append_right (by omega)]; simpa using hj
  have h3 := h.1 _ _ x y h1 h2 hxy
  have h4 := (List.getElem?_eq_some_iff.mp hi).1
  omega
/-- the frame rule: a part of the world was changed by a callee, the rest is as it was -/
theorem j_frame {A0 : Nat → Prop} {D : va_G} {pre wc post wc' : va_W} {H0 H H1 : Heap} {locs : List Loc} (hP : va_P D vwCl (pre ++ (wc ++ post)) H) (hD : va_D A0 (pre ++ (wc ++ post))) (hS : va_S A0 H0 H locs) (hA : ∀ q : Nat, H0.size ≤ q → A0 q)
    (hk : ∀ q : Nat, q < H.size → ¬ va_A wc H.size q → H1[q]? = H[q]?) (hP1 : va_P D vwCl wc' H1) (hD1 : va_D (va_A wc H.size) wc') : va_P D vwCl (pre ++ (wc' ++ post)) H1 ∧ va_D A0 (pre ++ (wc' ++ post)) := by
  have hF : ∀ q, va_A wc H.size q → A0 q := by
    intro q h
    rcases h with ⟨k, e, h⟩ | h
    · exact hD.right.left.2 k _ h
    · exact hA q (Nat.le_trans hS.1 h)
  have outA : ∀ (k : Nat) (q : Nat × va_E), pre[k]? = some q → q.1 < H.size ∧ ¬ va_A wc H.size q.1 := by
    intro k q hq
    have hl := (hP.left k q hq).lt
    refine ⟨hl, fun h => ?_⟩
    rcases h with ⟨j, e, h⟩ | h
    · exact hD.cross k j q (q.1, e) hq (by rw [List.getElem?_append_left (by exact (List.getElem?_eq_some_iff.mp h).1)]; exact h) rfl
    · omega
  have outB : ∀ (k : Nat) (q : Nat × va_E), post[k]? = some q → q.1 < H.size ∧ ¬ va_A wc H.size q.1 := by
    intro k q hq
    have hl := (hP.right.right k q hq).lt
    refine ⟨hl, fun h => ?_⟩
    rcases h with ⟨j, e, h⟩ | h
    · exact hD.right.cross j k (q.1, e) q h hq rfl
    · omega
  have inC : ∀ (k : Nat) (q : Nat × va_E), wc'[k]? = some q → va_A wc H.size q.1 := fun k q hq => hD1.2 k q hq
  refine ⟨va_P.app (fun k q hq => ?_) (va_P.app hP1 (fun k q hq => ?_)), va_D.app hD.left (va_D.app (hD1.weaken (fun k q _ h => hF q.1 h)) hD.right.right ?_) ?_⟩
  · exact (hP.left k q hq).kept (hk q.1 (outA k q hq).1 (outA k q hq).2)
  · exact (hP.right.right k q hq).kept (hk q.1 (outB k q hq).1 (outB k q hq).2)
  · intro i j x y hx hy hxy
    exact (outB j y hy).2 (by rw [← hxy]; exact inC i x hx)
  · intro i j x y hx hy hxy
    rcases Nat.lt_or_ge j wc'.length with hj | hj
    · rw [List.getElem?_append_left hj] at hy
      exact (outA i x hx).2 (by rw [hxy]; exact inC j y hy)
    · rw [List.getElem?_append_right hj] at hy
      exact hD.cross i (wc.length + (j - wc'.length)) x y hx (by rw [List.getElem?_append_right (by omega)]; simpa using hy) hxy
variable {p : Program} {l : Launch} {e : Env} {R : Room} {s : State} {m : MethodId} {args : Array Value} {below : List Frame} {meth : Method} {c : Code} {D : va_G} {cI cZ cL : ClassId} {A : Nat → Prop} {nL cells slots : Nat} {Q : State → Prop}
variable {cc : ByteArray} {Ts : List Cond} {own : String} {w w' : va_W} {pc : Nat} {lv lv' : List (Nat × Value)} {st rest : List Value}

theorem j_iconst (C : jC p s m args c cc nL Ts own D cI cZ cL A) {n : Int} {v : Int32} (d : decode cc pc = .ok (.iconst n, 1)) (hv : Int32.ofInt n = v) (k : J p l e R s m args below meth c D A nL cells slots Q w (pc + 1) lv (.int v :: rest)) : J p l e R s m args below meth c D A nL cells slots Q w pc lv rest := fun H locs ls hP hD hS hl => lv_iconst C.1.1 C.1.2.1 d hv (k H locs ls hP hD hS hl)
theorem j_bipush (C : jC p s m args c cc nL Ts own D cI cZ cL A) {n : Int} {v : Int32} (d : decode cc pc = .ok (.bipush n, 2)) (hv : (Int8.ofInt n).toInt32 = v) (k : J p l e R s m args below meth c D A nL cells slots Q w (pc + 2) lv (.int v :: rest)) : J p l e R s m args below meth c D A nL cells slots Q w pc lv rest := fun H locs ls hP hD hS hl => lv_bipush C.1.1 C.1.2.1 d hv (k H locs ls hP hD hS hl)
theorem j_sipush (C : jC p s m args c cc nL Ts own D cI cZ cL A) {n : Int} {v : Int32} (d : decode cc pc = .ok (.sipush n, 3)) (hv : (Int16.ofInt n).toInt32 = v) (k : J p l e R s m args below meth c D A nL cells slots Q w (pc + 3) lv (.int v :: rest)) : J p l e R s m args below meth c D A nL cells slots Q w pc lv rest := fun H locs ls hP hD hS hl => lv_sipush C.1.1 C.1.2.1 d hv (k H locs ls hP hD hS hl)
theorem j_lconst (C : jC p s m args c cc nL Ts own D cI cZ cL A) {n : Fin 2} {v : Int64} (d : decode cc pc = .ok (.lconst n, 1)) (hv : Int64.ofNat (n : Nat) = v) (k : J p l e R s m args below meth c D A nL cells slots Q w (pc + 1) lv (.long v :: rest)) : J p l e R s m args below meth c D A nL cells slots Q w pc lv rest := fun H locs ls hP hD hS hl => lv_lconst C.1.1 C.1.2.1 d hv (k H locs ls hP hD hS hl)
theorem j_ldc (C : jC p s m args c cc nL Ts own D cI cZ cL A) {index : Nat} {v : Int32} (d : decode cc pc = .ok (.ldc index, 2)) (hv : (Jvm.Cond.constant own index v) ∈ Ts) (k : J p l e R s m args below meth c D A nL cells slots Q w (pc + 2) lv (.int v :: rest)) : J p l e R s m args below meth c D A nL cells slots Q w pc lv rest := fun H locs ls hP hD hS hl => lv_ldc C.1.1 C.1.2.1 C.1.2.2.2.1 (C.1.2.2.2.2 _ hv) d (k H locs ls hP hD hS hl)
theorem j_ldc2 (C : jC p s m args c cc nL Ts own D cI cZ cL A) {index : Nat} {v : Int64} (d : decode cc pc = .ok (.ldc2_w index, 3)) (hv : (Jvm.Cond.constantLong own index v) ∈ Ts) (k : J p l e R s m args below meth c D A nL cells slots Q w (pc + 3) lv (.long v :: rest)) : J p l e R s m args below meth c D A nL cells slots Q w pc lv rest := fun H locs ls hP hD hS hl => lv_ldc2 C.1.1 C.1.2.1 C.1.2.2.2.1 (C.1.2.2.2.2 _ hv) d (k H locs ls hP hD hS hl)
theorem j_ldcw (C : jC p s m args c cc nL Ts own D cI cZ cL A) {index : Nat} {v : Int32} (d : decode cc pc = .ok (.ldc_w index, 3)) (hv : (Jvm.Cond.constant own index v) ∈ Ts) (k : J p l e R s m args below meth c D A nL cells slots Q w (pc + 3) lv (.int v :: rest)) : J p l e R s m args below meth c D A nL cells slots Q w pc lv rest := fun H locs ls hP hD hS hl => lv_ldcw C.1.1 C.1.2.1 C.1.2.2.2.1 (C.1.2.2.2.2 _ hv) d (k H locs ls hP hD hS hl)
theorem j_iload_n (C : jC p s m args c cc nL Ts own D cI cZ cL A) {n : Fin 4} {i : Nat} {x : Int32} (q0 : Nat) (d : decode cc pc = .ok (.iload_n n, 1)) (hq : lv[q0]? = some (i, .int x)) (hi : (n : Nat) = i) (k : J p l e R s m args below meth c D A nL cells slots Q w (pc + 1) lv (.int x :: rest)) : J p l e R s m args below meth c D A nL cells slots Q w pc lv rest := fun H locs ls hP hD hS hl => lv_iload_n C.1.1 C.1.2.1 d hi (lv_at hl q0 hq) (k H locs ls hP hD hS hl)
theorem j_iload (C : jC p s m args c cc nL Ts own D cI cZ cL A) {i : Nat} {x : Int32} (q0 : Nat) (d : decode cc pc = .ok (.iload i, 2)) (hq : lv[q0]? = some (i, .int x)) (k : J p l e R s m args below meth c D A nL cells slots Q w (pc + 2) lv (.int x :: rest)) : J p l e R s m args below meth c D A nL cells slots Q w pc lv rest := fun H locs ls hP hD hS hl => lv_iload C.1.1 C.1.2.1 d (lv_at hl q0 hq) (k H locs ls hP hD hS hl)
theorem j_lload_n (C : jC p s m args c cc nL Ts own D cI cZ cL A) {n : Fin 4} {i : Nat} {x : Int64} (q0 : Nat) (d : decode cc pc = .ok (.lload_n n, 1)) (hq : lv[q0]? = some (i, .long x)) (hi : (n : Nat) = i) (k : J p l e R s m args below meth c D A nL cells slots Q w (pc + 1) lv (.long x :: rest)) : J p l e R s m args below meth c D A nL cells slots Q w pc lv rest := fun H locs ls hP hD hS hl => lv_lload_n C.1.1 C.1.2.1 d hi (lv_at hl q0 hq) (k H locs ls hP hD hS hl)
theorem j_lload (C : jC p s m args c cc nL Ts own D cI cZ cL A) {i : Nat} {x : Int64} (q0 : Nat) (d : decode cc pc = .ok (.lload i, 2)) (hq : lv[q0]? = some (i, .long x)) (k : J p l e R s m args below meth c D A nL cells slots Q w (pc + 2) lv (.long x :: rest)) : J p l e R s m args below meth c D A nL cells slots Q w pc lv rest := fun H locs ls hP hD hS hl => lv_lload C.1.1 C.1.2.1 d (lv_at hl q0 hq) (k H locs ls hP hD hS hl)
theorem j_aload_n (C : jC p s m args c cc nL Ts own D cI cZ cL A) {n : Fin 4} {i : Nat} {x : Nat} (q0 : Nat) (d : decode cc pc = .ok (.aload_n n, 1)) (hq : lv[q0]? = some (i, .ref x)) (hi : (n : Nat) = i) (k : J p l e R s m args below meth c D A nL cells slots Q w (pc + 1) lv (.ref x :: rest)) : J p l e R s m args below meth c D A nL cells slots Q w pc lv rest := fun H locs ls hP hD hS hl => lv_aload_n C.1.1 C.1.2.1 d hi (lv_at hl q0 hq) (k H locs ls hP hD hS hl)
theorem j_aload (C : jC p s m args c cc nL Ts own D cI cZ cL A) {i : Nat} {x : Nat} (q0 : Nat) (d : decode cc pc = .ok (.aload i, 2)) (hq : lv[q0]? = some (i, .ref x)) (k : J p l e R s m args below meth c D A nL cells slots Q w (pc + 2) lv (.ref x :: rest)) : J p l e R s m args below meth c D A nL cells slots Q w pc lv rest := fun H locs ls hP hD hS hl => lv_aload C.1.1 C.1.2.1 d (lv_at hl q0 hq) (k H locs ls hP hD hS hl)
theorem j_istore_n (C : jC p s m args c cc nL Ts own D cI cZ cL A) {n : Fin 4} {i : Nat} {x : Int32} (d : decode cc pc = .ok (.istore_n n, 1)) (hi : (n : Nat) = i) (hn : i < nL) (hl9 : (i, Value.int x) :: lv.filter (fun q => !(q.1 == i) && !(q.1 + 1 == i && q.2.category == 2)) = lv') (k : J p l e R s m args below meth c D A nL cells slots Q w (pc + 1) lv' rest) : J p l e R s m args below meth c D A nL cells slots Q w pc lv (.int x :: rest) := fun H locs ls hP hD hS hl => lv_istore_n C.1.1 C.1.2.1 d hi hl hn hl9 (fun ls hl => (k H locs ls hP hD hS hl))
theorem j_istore (C : jC p s m args c cc nL Ts own D cI cZ cL A) {i : Nat} {x : Int32} (d : decode cc pc = .ok (.istore i, 2)) (hn : i < nL) (hl9 : (i, Value.int x) :: lv.filter (fun q => !(q.1 == i) && !(q.1 + 1 == i && q.2.category == 2)) = lv') (k : J p l e R s m args below meth c D A nL cells slots Q w (pc + 2) lv' rest) : J p l e R s m args below meth c D A nL cells slots Q w pc lv (.int x :: rest) := fun H locs ls hP hD hS hl => lv_istore C.1.1 C.1.2.1 d hl hn hl9 (fun ls hl => (k H locs ls hP hD hS hl))
theorem j_lstore_n (C : jC p s m args c cc nL Ts own D cI cZ cL A) {n : Fin 4} {i : Nat} {x : Int64} (d : decode cc pc = .ok (.lstore_n n, 1)) (hi : (n : Nat) = i) (hn : i + 1 < nL) (hl9 : (i, Value.long x) :: lv.filter (fun q => !(q.1 == i) && (!(q.1 == i + 1) && !(q.1 + 1 == i && q.2.category == 2))) = lv') (k : J p l e R s m args below meth c D A nL cells slots Q w (pc + 1) lv' rest) : J p l e R s m args below meth c D A nL cells slots Q w pc lv (.long x :: rest) := fun H locs ls hP hD hS hl => lv_lstore_n C.1.1 C.1.2.1 d hi hl hn hl9 (fun ls hl => (k H locs ls hP hD hS hl))
theorem j_lstore (C : jC p s m args c cc nL Ts own D cI cZ cL A) {i : Nat} {x : Int64} (d : decode cc pc = .ok (.lstore i, 2)) (hn : i + 1 < nL) (hl9 : (i, Value.long x) :: lv.filter (fun q => !(q.1 == i) && (!(q.1 == i + 1) && !(q.1 + 1 == i && q.2.category == 2))) = lv') (k : J p l e R s m args below meth c D A nL cells slots Q w (pc + 2) lv' rest) : J p l e R s m args below meth c D A nL cells slots Q w pc lv (.long x :: rest) := fun H locs ls hP hD hS hl => lv_lstore C.1.1 C.1.2.1 d hl hn hl9 (fun ls hl => (k H locs ls hP hD hS hl))
theorem j_astore_n (C : jC p s m args c cc nL Ts own D cI cZ cL A) {n : Fin 4} {i : Nat} {x : Nat} (d : decode cc pc = .ok (.astore_n n, 1)) (hi : (n : Nat) = i) (hn : i < nL) (hl9 : (i, Value.ref x) :: lv.filter (fun q => !(q.1 == i) && !(q.1 + 1 == i && q.2.category == 2)) = lv') (k : J p l e R s m args below meth c D A nL cells slots Q w (pc + 1) lv' rest) : J p l e R s m args below meth c D A nL cells slots Q w pc lv (.ref x :: rest) := fun H locs ls hP hD hS hl => lv_astore_n C.1.1 C.1.2.1 d hi hl hn hl9 (fun ls hl => (k H locs ls hP hD hS hl))
theorem j_astore (C : jC p s m args c cc nL Ts own D cI cZ cL A) {i : Nat} {x : Nat} (d : decode cc pc = .ok (.astore i, 2)) (hn : i < nL) (hl9 : (i, Value.ref x) :: lv.filter (fun q => !(q.1 == i) && !(q.1 + 1 == i && q.2.category == 2)) = lv') (k : J p l e R s m args below meth c D A nL cells slots Q w (pc + 2) lv' rest) : J p l e R s m args below meth c D A nL cells slots Q w pc lv (.ref x :: rest) := fun H locs ls hP hD hS hl => lv_astore C.1.1 C.1.2.1 d hl hn hl9 (fun ls hl => (k H locs ls hP hD hS hl))
theorem j_iinc (C : jC p s m args c cc nL Ts own D cI cZ cL A) {i : Nat} {n : Int} {x v : Int32} (q0 : Nat) (d : decode cc pc = .ok (.iinc i n, 3)) (hq : lv[q0]? = some (i, .int x)) (hv : x + Int32.ofInt n = v) (hn : i < nL) (hl9 : (i, Value.int v) :: lv.filter (fun q => !(q.1 == i) && !(q.1 + 1 == i && q.2.category == 2)) = lv') (k : J p l e R s m args below meth c D A nL cells slots Q w (pc + 3) lv' rest) : J p l e R s m args below meth c D A nL cells slots Q w pc lv rest := fun H locs ls hP hD hS hl => lv_iinc C.1.1 C.1.2.1 d hl hq hv hn hl9 (fun ls hl => (k H locs ls hP hD hS hl))
theorem j_iadd (C : jC p s m args c cc nL Ts own D cI cZ cL A) {x y : Int32} (d : decode cc pc = .ok (.iadd, 1))  (k : J p l e R s m args below meth c D A nL cells slots Q w (pc + 1) lv (.int (x + y) :: rest)) : J p l e R s m args below meth c D A nL cells slots Q w pc lv (.int y :: .int x :: rest) := fun H locs ls hP hD hS hl => lv_iadd C.1.1 C.1.2.1 d  (k H locs ls hP hD hS hl)
theorem j_isub (C : jC p s m args c cc nL Ts own D cI cZ cL A) {x y : Int32} (d : decode cc pc = .ok (.isub, 1))  (k : J p l e R s m args below meth c D A nL cells slots Q w (pc + 1) lv (.int (x - y) :: rest)) : J p l e R s m args below meth c D A nL cells slots Q w pc lv (.int y :: .int x :: rest) := fun H locs ls hP hD hS hl => lv_isub C.1.1 C.1.2.1 d  (k H locs ls hP hD hS hl)
theorem j_imul (C : jC p s m args c cc nL Ts own D cI cZ cL A) {x y : Int32} (d : decode cc pc = .ok (.imul, 1))  (k : J p l e R s m args below meth c D A nL cells slots Q w (pc + 1) lv (.int (x * y) :: rest)) : J p l e R s m args below meth c D A nL cells slots Q w pc lv (.int y :: .int x :: rest) := fun H locs ls hP hD hS hl => lv_imul C.1.1 C.1.2.1 d  (k H locs ls hP hD hS hl)
theorem j_iand (C : jC p s m args c cc nL Ts own D cI cZ cL A) {x y : Int32} (d : decode cc pc = .ok (.iand, 1))  (k : J p l e R s m args below meth c D A nL cells slots Q w (pc + 1) lv (.int (x &&& y) :: rest)) : J p l e R s m args below meth c D A nL cells slots Q w pc lv (.int y :: .int x :: rest) := fun H locs ls hP hD hS hl => lv_iand C.1.1 C.1.2.1 d  (k H locs ls hP hD hS hl)
theorem j_ior (C : jC p s m args c cc nL Ts own D cI cZ cL A) {x y : Int32} (d : decode cc pc = .ok (.ior, 1))  (k : J p l e R s m args below meth c D A nL cells slots Q w (pc + 1) lv (.int (x ||| y) :: rest)) : J p l e R s m args below meth c D A nL cells slots Q w pc lv (.int y :: .int x :: rest) := fun H locs ls hP hD hS hl => lv_ior C.1.1 C.1.2.1 d  (k H locs ls hP hD hS hl)
theorem j_ishl (C : jC p s m args c cc nL Ts own D cI cZ cL A) {x y : Int32} (d : decode cc pc = .ok (.ishl, 1))  (k : J p l e R s m args below meth c D A nL cells slots Q w (pc + 1) lv (.int (x <<< (y &&& 31)) :: rest)) : J p l e R s m args below meth c D A nL cells slots Q w pc lv (.int y :: .int x :: rest) := fun H locs ls hP hD hS hl => lv_ishl C.1.1 C.1.2.1 d  (k H locs ls hP hD hS hl)
theorem j_ishr (C : jC p s m args c cc nL Ts own D cI cZ cL A) {x y : Int32} (d : decode cc pc = .ok (.ishr, 1))  (k : J p l e R s m args below meth c D A nL cells slots Q w (pc + 1) lv (.int (x >>> (y &&& 31)) :: rest)) : J p l e R s m args below meth c D A nL cells slots Q w pc lv (.int y :: .int x :: rest) := fun H locs ls hP hD hS hl => lv_ishr C.1.1 C.1.2.1 d  (k H locs ls hP hD hS hl)
theorem j_idiv (C : jC p s m args c cc nL Ts own D cI cZ cL A) {x y : Int32} (d : decode cc pc = .ok (.idiv, 1)) (hne : ¬ y = 0) (k : J p l e R s m args below meth c D A nL cells slots Q w (pc + 1) lv (.int (x / y) :: rest)) : J p l e R s m args below meth c D A nL cells slots Q w pc lv (.int y :: .int x :: rest) := fun H locs ls hP hD hS hl => lv_idiv C.1.1 C.1.2.1 d hne (k H locs ls hP hD hS hl)
theorem j_irem (C : jC p s m args c cc nL Ts own D cI cZ cL A) {x y : Int32} (d : decode cc pc = .ok (.irem, 1)) (hne : ¬ y = 0) (k : J p l e R s m args below meth c D A nL cells slots Q w (pc + 1) lv (.int (x - x / y * y) :: rest)) : J p l e R s m args below meth c D A nL cells slots Q w pc lv (.int y :: .int x :: rest) := fun H locs ls hP hD hS hl => lv_irem C.1.1 C.1.2.1 d hne (k H locs ls hP hD hS hl)
theorem j_ladd (C : jC p s m args c cc nL Ts own D cI cZ cL A) {x y : Int64} (d : decode cc pc = .ok (.ladd, 1))  (k : J p l e R s m args below meth c D A nL cells slots Q w (pc + 1) lv (.long (x + y) :: rest)) : J p l e R s m args below meth c D A nL cells slots Q w pc lv (.long y :: .long x :: rest) := fun H locs ls hP hD hS hl => lv_ladd C.1.1 C.1.2.1 d  (k H locs ls hP hD hS hl)
theorem j_lmul (C : jC p s m args c cc nL Ts own D cI cZ cL A) {x y : Int64} (d : decode cc pc = .ok (.lmul, 1))  (k : J p l e R s m args below meth c D A nL cells slots Q w (pc + 1) lv (.long (x * y) :: rest)) : J p l e R s m args below meth c D A nL cells slots Q w pc lv (.long y :: .long x :: rest) := fun H locs ls hP hD hS hl => lv_lmul C.1.1 C.1.2.1 d  (k H locs ls hP hD hS hl)
theorem j_ldiv (C : jC p s m args c cc nL Ts own D cI cZ cL A) {x y : Int64} (d : decode cc pc = .ok (.ldiv, 1)) (hne : ¬ y = 0) (k : J p l e R s m args below meth c D A nL cells slots Q w (pc + 1) lv (.long (x / y) :: rest)) : J p l e R s m args below meth c D A nL cells slots Q w pc lv (.long y :: .long x :: rest) := fun H locs ls hP hD hS hl => lv_ldiv C.1.1 C.1.2.1 d hne (k H locs ls hP hD hS hl)
theorem j_i2l (C : jC p s m args c cc nL Ts own D cI cZ cL A) {x : Int32} (d : decode cc pc = .ok (.i2l, 1))  (k : J p l e R s m args below meth c D A nL cells slots Q w (pc + 1) lv (.long x.toInt64 :: rest)) : J p l e R s m args below meth c D A nL cells slots Q w pc lv (.int x :: rest) := fun H locs ls hP hD hS hl => lv_i2l C.1.1 C.1.2.1 d rfl (k H locs ls hP hD hS hl)
theorem j_l2i (C : jC p s m args c cc nL Ts own D cI cZ cL A) {x : Int64} (d : decode cc pc = .ok (.l2i, 1))  (k : J p l e R s m args below meth c D A nL cells slots Q w (pc + 1) lv (.int x.toInt32 :: rest)) : J p l e R s m args below meth c D A nL cells slots Q w pc lv (.long x :: rest) := fun H locs ls hP hD hS hl => lv_l2i C.1.1 C.1.2.1 d rfl (k H locs ls hP hD hS hl)
theorem j_iushr (C : jC p s m args c cc nL Ts own D cI cZ cL A) {x y : Int32} (d : decode cc pc = .ok (.iushr, 1))  (k : J p l e R s m args below meth c D A nL cells slots Q w (pc + 1) lv (.int (x.toUInt32 >>> (y.toUInt32 &&& Int32.toUInt32 31)).toInt32 :: rest)) : J p l e R s m args below meth c D A nL cells slots Q w pc lv (.int y :: .int x :: rest) := fun H locs ls hP hD hS hl => lv_iushr C.1.1 C.1.2.1 d rfl (k H locs ls hP hD hS hl)
theorem j_lcmp (C : jC p s m args c cc nL Ts own D cI cZ cL A) {x y : Int64} (d : decode cc pc = .ok (.lcmp, 1))  (k : J p l e R s m args below meth c D A nL cells slots Q w (pc + 1) lv (.int (lg_cmp x y) :: rest)) : J p l e R s m args below meth c D A nL cells slots Q w pc lv (.long y :: .long x :: rest) := fun H locs ls hP hD hS hl => W.lcmp C.1.1 C.1.2.1 d  (k H locs ls hP hD hS hl)
theorem j_dup (C : jC p s m args c cc nL Ts own D cI cZ cL A) {v : Value} (d : decode cc pc = .ok (.dup, 1)) (hv : v.category = 1) (k : J p l e R s m args below meth c D A nL cells slots Q w (pc + 1) lv (v :: v :: rest)) : J p l e R s m args below meth c D A nL cells slots Q w pc lv (v :: rest) := fun H locs ls hP hD hS hl => lv_dup C.1.1 C.1.2.1 d hv (k H locs ls hP hD hS hl)
theorem j_pop (C : jC p s m args c cc nL Ts own D cI cZ cL A) {v : Value} (d : decode cc pc = .ok (.pop, 1)) (hv : v.category = 1) (k : J p l e R s m args below meth c D A nL cells slots Q w (pc + 1) lv rest) : J p l e R s m args below meth c D A nL cells slots Q w pc lv (v :: rest) := fun H locs ls hP hD hS hl => lv_pop C.1.1 C.1.2.1 d hv (k H locs ls hP hD hS hl)
theorem j_if_eq (C : jC p s m args c cc nL Ts own D cI cZ cL A) {x : Int32} {off : Int} (tgt : Nat) (d : decode cc pc = .ok (.ifCond .eq off, 3)) (ht : (pc : Int) + off = (tgt : Int)) (kt : x = 0 → J p l e R s m args below meth c D A nL cells slots Q w tgt lv rest) (kf : ¬ x = 0 → J p l e R s m args below meth c D A nL cells slots Q w (pc + 3) lv rest) : J p l e R s m args below meth c D A nL cells slots Q w pc lv (.int x :: rest) := fun H locs ls hP hD hS hl => lv_if_eq C.1.1 C.1.2.1 d ht (fun h => kt h H locs ls hP hD hS hl) (fun h => kf h H locs ls hP hD hS hl)
theorem j_icmp_eq (C : jC p s m args c cc nL Ts own D cI cZ cL A) {x y : Int32} {off : Int} (tgt : Nat) (d : decode cc pc = .ok (.if_icmp .eq off, 3)) (ht : (pc : Int) + off = (tgt : Int)) (kt : x = y → J p l e R s m args below meth c D A nL cells slots Q w tgt lv rest) (kf : ¬ x = y → J p l e R s m args below meth c D A nL cells slots Q w (pc + 3) lv rest) : J p l e R s m args below meth c D A nL cells slots Q w pc lv (.int y :: .int x :: rest) := fun H locs ls hP hD hS hl => lv_icmp_eq C.1.1 C.1.2.1 d ht (fun h => kt h H locs ls hP hD hS hl) (fun h => kf h H locs ls hP hD hS hl)
theorem j_if_ne (C : jC p s m args c cc nL Ts own D cI cZ cL A) {x : Int32} {off : Int} (tgt : Nat) (d : decode cc pc = .ok (.ifCond .ne off, 3)) (ht : (pc : Int) + off = (tgt : Int)) (kt : ¬ x = 0 → J p l e R s m args below meth c D A nL cells slots Q w tgt lv rest) (kf : x = 0 → J p l e R s m args below meth c D A nL cells slots Q w (pc + 3) lv rest) : J p l e R s m args below meth c D A nL cells slots Q w pc lv (.int x :: rest) := fun H locs ls hP hD hS hl => lv_if_ne C.1.1 C.1.2.1 d ht (fun h => kt h H locs ls hP hD hS hl) (fun h => kf h H locs ls hP hD hS hl)
theorem j_icmp_ne (C : jC p s m args c cc nL Ts own D cI cZ cL A) {x y : Int32} {off : Int} (tgt : Nat) (d : decode cc pc = .ok (.if_icmp .ne off, 3)) (ht : (pc : Int) + off = (tgt : Int)) (kt : ¬ x = y → J p l e R s m args below meth c D A nL cells slots Q w tgt lv rest) (kf : x = y → J p l e R s m args below meth c D A nL cells slots Q w (pc + 3) lv rest) : J p l e R s m args below meth c D A nL cells slots Q w pc lv (.int y :: .int x :: rest) := fun H locs ls hP hD hS hl => lv_icmp_ne C.1.1 C.1.2.1 d ht (fun h => kt h H locs ls hP hD hS hl) (fun h => kf h H locs ls hP hD hS hl)
theorem j_if_lt (C : jC p s m args c cc nL Ts own D cI cZ cL A) {x : Int32} {off : Int} (tgt : Nat) (d : decode cc pc = .ok (.ifCond .lt off, 3)) (ht : (pc : Int) + off = (tgt : Int)) (kt : x < 0 → J p l e R s m args below meth c D A nL cells slots Q w tgt lv rest) (kf : ¬ x < 0 → J p l e R s m args below meth c D A nL cells slots Q w (pc + 3) lv rest) : J p l e R s m args below meth c D A nL cells slots Q w pc lv (.int x :: rest) := fun H locs ls hP hD hS hl => lv_if_lt C.1.1 C.1.2.1 d ht (fun h => kt h H locs ls hP hD hS hl) (fun h => kf h H locs ls hP hD hS hl)
theorem j_icmp_lt (C : jC p s m args c cc nL Ts own D cI cZ cL A) {x y : Int32} {off : Int} (tgt : Nat) (d : decode cc pc = .ok (.if_icmp .lt off, 3)) (ht : (pc : Int) + off = (tgt : Int)) (kt : x < y → J p l e R s m args below meth c D A nL cells slots Q w tgt lv rest) (kf : ¬ x < y → J p l e R s m args below meth c D A nL cells slots Q w (pc + 3) lv rest) : J p l e R s m args below meth c D A nL cells slots Q w pc lv (.int y :: .int x :: rest) := fun H locs ls hP hD hS hl => lv_icmp_lt C.1.1 C.1.2.1 d ht (fun h => kt h H locs ls hP hD hS hl) (fun h => kf h H locs ls hP hD hS hl)
theorem j_if_ge (C : jC p s m args c cc nL Ts own D cI cZ cL A) {x : Int32} {off : Int} (tgt : Nat) (d : decode cc pc = .ok (.ifCond .ge off, 3)) (ht : (pc : Int) + off = (tgt : Int)) (kt : 0 ≤ x → J p l e R s m args below meth c D A nL cells slots Q w tgt lv rest) (kf : ¬ 0 ≤ x → J p l e R s m args below meth c D A nL cells slots Q w (pc + 3) lv rest) : J p l e R s m args below meth c D A nL cells slots Q w pc lv (.int x :: rest) := fun H locs ls hP hD hS hl => lv_if_ge C.1.1 C.1.2.1 d ht (fun h => kt h H locs ls hP hD hS hl) (fun h => kf h H locs ls hP hD hS hl)
theorem j_icmp_ge (C : jC p s m args c cc nL Ts own D cI cZ cL A) {x y : Int32} {off : Int} (tgt : Nat) (d : decode cc pc = .ok (.if_icmp .ge off, 3)) (ht : (pc : Int) + off = (tgt : Int)) (kt : y ≤ x → J p l e R s m args below meth c D A nL cells slots Q w tgt lv rest) (kf : ¬ y ≤ x → J p l e R s m args below meth c D A nL cells slots Q w (pc + 3) lv rest) : J p l e R s m args below meth c D A nL cells slots Q w pc lv (.int y :: .int x :: rest) := fun H locs ls hP hD hS hl => lv_icmp_ge C.1.1 C.1.2.1 d ht (fun h => kt h H locs ls hP hD hS hl) (fun h => kf h H locs ls hP hD hS hl)
theorem j_if_gt (C : jC p s m args c cc nL Ts own D cI cZ cL A) {x : Int32} {off : Int} (tgt : Nat) (d : decode cc pc = .ok (.ifCond .gt off, 3)) (ht : (pc : Int) + off = (tgt : Int)) (kt : 0 < x → J p l e R s m args below meth c D A nL cells slots Q w tgt lv rest) (kf : ¬ 0 < x → J p l e R s m args below meth c D A nL cells slots Q w (pc + 3) lv rest) : J p l e R s m args below meth c D A nL cells slots Q w pc lv (.int x :: rest) := fun H locs ls hP hD hS hl => lv_if_gt C.1.1 C.1.2.1 d ht (fun h => kt h H locs ls hP hD hS hl) (fun h => kf h H locs ls hP hD hS hl)
theorem j_icmp_gt (C : jC p s m args c cc nL Ts own D cI cZ cL A) {x y : Int32} {off : Int} (tgt : Nat) (d : decode cc pc = .ok (.if_icmp .gt off, 3)) (ht : (pc : Int) + off = (tgt : Int)) (kt : y < x → J p l e R s m args below meth c D A nL cells slots Q w tgt lv rest) (kf : ¬ y < x → J p l e R s m args below meth c D A nL cells slots Q w (pc + 3) lv rest) : J p l e R s m args below meth c D A nL cells slots Q w pc lv (.int y :: .int x :: rest) := fun H locs ls hP hD hS hl => lv_icmp_gt C.1.1 C.1.2.1 d ht (fun h => kt h H locs ls hP hD hS hl) (fun h => kf h H locs ls hP hD hS hl)
theorem j_if_le (C : jC p s m args c cc nL Ts own D cI cZ cL A) {x : Int32} {off : Int} (tgt : Nat) (d : decode cc pc = .ok (.ifCond .le off, 3)) (ht : (pc : Int) + off = (tgt : Int)) (kt : x ≤ 0 → J p l e R s m args below meth c D A nL cells slots Q w tgt lv rest) (kf : ¬ x ≤ 0 → J p l e R s m args below meth c D A nL cells slots Q w (pc + 3) lv rest) : J p l e R s m args below meth c D A nL cells slots Q w pc lv (.int x :: rest) := fun H locs ls hP hD hS hl => lv_if_le C.1.1 C.1.2.1 d ht (fun h => kt h H locs ls hP hD hS hl) (fun h => kf h H locs ls hP hD hS hl)
theorem j_icmp_le (C : jC p s m args c cc nL Ts own D cI cZ cL A) {x y : Int32} {off : Int} (tgt : Nat) (d : decode cc pc = .ok (.if_icmp .le off, 3)) (ht : (pc : Int) + off = (tgt : Int)) (kt : x ≤ y → J p l e R s m args below meth c D A nL cells slots Q w tgt lv rest) (kf : ¬ x ≤ y → J p l e R s m args below meth c D A nL cells slots Q w (pc + 3) lv rest) : J p l e R s m args below meth c D A nL cells slots Q w pc lv (.int y :: .int x :: rest) := fun H locs ls hP hD hS hl => lv_icmp_le C.1.1 C.1.2.1 d ht (fun h => kt h H locs ls hP hD hS hl) (fun h => kf h H locs ls hP hD hS hl)
theorem j_icmpN_eq (C : jC p s m args c cc nL Ts own D cI cZ cL A) {a b : Nat} (ha : a < 2 ^ 31) (hb : b < 2 ^ 31) {off : Int} (tgt : Nat) (d : decode cc pc = .ok (.if_icmp .eq off, 3)) (ht : (pc : Int) + off = (tgt : Int)) (kt : a = b → J p l e R s m args below meth c D A nL cells slots Q w tgt lv rest) (kf : a ≠ b → J p l e R s m args below meth c D A nL cells slots Q w (pc + 3) lv rest) : J p l e R s m args below meth c D A nL cells slots Q w pc lv (.int (nI b) :: .int (nI a) :: rest) := j_icmp_eq C tgt d ht (fun h => kt ((nI_eq ha hb).mp h)) (fun h => kf (fun e => h (by rw [e])))
theorem j_ifN_eq (C : jC p s m args c cc nL Ts own D cI cZ cL A) {a : Nat} (ha : a < 2 ^ 31) {off : Int} (tgt : Nat) (d : decode cc pc = .ok (.ifCond .eq off, 3)) (ht : (pc : Int) + off = (tgt : Int)) (kt : a = 0 → J p l e R s m args below meth c D A nL cells slots Q w tgt lv rest) (kf : a ≠ 0 → J p l e R s m args below meth c D A nL cells slots Q w (pc + 3) lv rest) : J p l e R s m args below meth c D A nL cells slots Q w pc lv (.int (nI a) :: rest) := by
  have hz : (0 : Nat) < 2 ^ 31 := by decide
  refine j_if_eq C tgt d ht (fun h => kt ?_) (fun h => kf ?_) <;> rw [← nI_0] at h
  · exact (nI_eq ha hz).mp h
  · exact fun e => h (by rw [e])
theorem j_icmpN_ne (C : jC p s m args c cc nL Ts own D cI cZ cL A) {a b : Nat} (ha : a < 2 ^ 31) (hb : b < 2 ^ 31) {off : Int} (tgt : Nat) (d : decode cc pc = .ok (.if_icmp .ne off, 3)) (ht : (pc : Int) + off = (tgt : Int)) (kt : a ≠ b → J p l e R s m args below meth c D A nL cells slots Q w tgt lv rest) (kf : a = b → J p l e R s m args below meth c D A nL cells slots Q w (pc + 3) lv rest) : J p l e R s m args below meth c D A nL cells slots Q w pc lv (.int (nI b) :: .int (nI a) :: rest) := j_icmp_ne C tgt d ht (fun h => kt (fun e => h (by rw [e]))) (fun h => kf ((nI_eq ha hb).mp h))
theorem j_ifN_ne (C : jC p s m args c cc nL Ts own D cI cZ cL A) {a : Nat} (ha : a < 2 ^ 31) {off : Int} (tgt : Nat) (d : decode cc pc = .ok (.ifCond .ne off, 3)) (ht : (pc : Int) + off = (tgt : Int)) (kt : a ≠ 0 → J p l e R s m args below meth c D A nL cells slots Q w tgt lv rest) (kf : a = 0 → J p l e R s m args below meth c D A nL cells slots Q w (pc + 3) lv rest) : J p l e R s m args below meth c D A nL cells slots Q w pc lv (.int (nI a) :: rest) := by
  have hz : (0 : Nat) < 2 ^ 31 := by decide
  refine j_if_ne C tgt d ht (fun h => kt ?_) (fun h => kf ?_) <;> rw [← nI_0] at h
  · exact fun e => h (by rw [e])
  · exact (nI_eq ha hz).mp h
theorem j_icmpN_lt (C : jC p s m args c cc nL Ts own D cI cZ cL A) {a b : Nat} (ha : a < 2 ^ 31) (hb : b < 2 ^ 31) {off : Int} (tgt : Nat) (d : decode cc pc = .ok (.if_icmp .lt off, 3)) (ht : (pc : Int) + off = (tgt : Int)) (kt : a < b → J p l e R s m args below meth c D A nL cells slots Q w tgt lv rest) (kf : b ≤ a → J p l e R s m args below meth c D A nL cells slots Q w (pc + 3) lv rest) : J p l e R s m args below meth c D A nL cells slots Q w pc lv (.int (nI b) :: .int (nI a) :: rest) := j_icmp_lt C tgt d ht (fun h => kt ((nI_ltI ha hb).mp h)) (fun h => kf (Nat.le_of_not_lt (fun e => h ((nI_ltI ha hb).mpr e))))
theorem j_ifN_lt (C : jC p s m args c cc nL Ts own D cI cZ cL A) {a : Nat} (ha : a < 2 ^ 31) {off : Int} (tgt : Nat) (d : decode cc pc = .ok (.ifCond .lt off, 3)) (ht : (pc : Int) + off = (tgt : Int)) (kt : a < 0 → J p l e R s m args below meth c D A nL cells slots Q w tgt lv rest) (kf : 0 ≤ a → J p l e R s m args below meth c D A nL cells slots Q w (pc + 3) lv rest) : J p l e R s m args below meth c D A nL cells slots Q w pc lv (.int (nI a) :: rest) := by
  have hz : (0 : Nat) < 2 ^ 31 := by decide
  refine j_if_lt C tgt d ht (fun h => kt ?_) (fun h => kf ?_) <;> rw [← nI_0] at h
  · exact (nI_ltI ha hz).mp h
  · exact Nat.le_of_not_lt (fun e => h ((nI_ltI ha hz).mpr e))
theorem j_icmpN_ge (C : jC p s m args c cc nL Ts own D cI cZ cL A) {a b : Nat} (ha : a < 2 ^ 31) (hb : b < 2 ^ 31) {off : Int} (tgt : Nat) (d : decode cc pc = .ok (.if_icmp .ge off, 3)) (ht : (pc : Int) + off = (tgt : Int)) (kt : b ≤ a → J p l e R s m args below meth c D A nL cells slots Q w tgt lv rest) (kf : a < b → J p l e R s m args below meth c D A nL cells slots Q w (pc + 3) lv rest) : J p l e R s m args below meth c D A nL cells slots Q w pc lv (.int (nI b) :: .int (nI a) :: rest) := j_icmp_ge C tgt d ht (fun h => kt ((nI_leI hb ha).mp h)) (fun h => kf (Nat.lt_of_not_le (fun e => h ((nI_leI hb ha).mpr e))))
theorem j_ifN_ge (C : jC p s m args c cc nL Ts own D cI cZ cL A) {a : Nat} (ha : a < 2 ^ 31) {off : Int} (tgt : Nat) (d : decode cc pc = .ok (.ifCond .ge off, 3)) (ht : (pc : Int) + off = (tgt : Int)) (kt : 0 ≤ a → J p l e R s m args below meth c D A nL cells slots Q w tgt lv rest) (kf : a < 0 → J p l e R s m args below meth c D A nL cells slots Q w (pc + 3) lv rest) : J p l e R s m args below meth c D A nL cells slots Q w pc lv (.int (nI a) :: rest) := by
  have hz : (0 : Nat) < 2 ^ 31 := by decide
  refine j_if_ge C tgt d ht (fun h => kt ?_) (fun h => kf ?_) <;> rw [← nI_0] at h
  · exact (nI_leI hz ha).mp h
  · exact Nat.lt_of_not_le (fun e => h ((nI_leI hz ha).mpr e))
theorem j_icmpN_gt (C : jC p s m args c cc nL Ts own D cI cZ cL A) {a b : Nat} (ha : a < 2 ^ 31) (hb : b < 2 ^ 31) {off : Int} (tgt : Nat) (d : decode cc pc = .ok (.if_icmp .gt off, 3)) (ht : (pc : Int) + off = (tgt : Int)) (kt : b < a → J p l e R s m args below meth c D A nL cells slots Q w tgt lv rest) (kf : a ≤ b → J p l e R s m args below meth c D A nL cells slots Q w (pc + 3) lv rest) : J p l e R s m args below meth c D A nL cells slots Q w pc lv (.int (nI b) :: .int (nI a) :: rest) := j_icmp_gt C tgt d ht (fun h => kt ((nI_ltI hb ha).mp h)) (fun h => kf (Nat.le_of_not_lt (fun e => h ((nI_ltI hb ha).mpr e))))
theorem j_ifN_gt (C : jC p s m args c cc nL Ts own D cI cZ cL A) {a : Nat} (ha : a < 2 ^ 31) {off : Int} (tgt : Nat) (d : decode cc pc = .ok (.ifCond .gt off, 3)) (ht : (pc : Int) + off = (tgt : Int)) (kt : 0 < a → J p l e R s m args below meth c D A nL cells slots Q w tgt lv rest) (kf : a ≤ 0 → J p l e R s m args below meth c D A nL cells slots Q w (pc + 3) lv rest) : J p l e R s m args below meth c D A nL cells slots Q w pc lv (.int (nI a) :: rest) := by
  have hz : (0 : Nat) < 2 ^ 31 := by decide
  refine j_if_gt C tgt d ht (fun h => kt ?_) (fun h => kf ?_) <;> rw [← nI_0] at h
  · exact (nI_ltI hz ha).mp h
  · exact Nat.le_of_not_lt (fun e => h ((nI_ltI hz ha).mpr e))
theorem j_icmpN_le (C : jC p s m args c cc nL Ts own D cI cZ cL A) {a b : Nat} (ha : a < 2 ^ 31) (hb : b < 2 ^ 31) {off : Int} (tgt : Nat) (d : decode cc pc = .ok (.if_icmp .le off, 3)) (ht : (pc : Int) + off = (tgt : Int)) (kt : a ≤ b → J p l e R s m args below meth c D A nL cells slots Q w tgt lv rest) (kf : b < a → J p l e R s m args below meth c D A nL cells slots Q w (pc + 3) lv rest) : J p l e R s m args below meth c D A nL cells slots Q w pc lv (.int (nI b) :: .int (nI a) :: rest) := j_icmp_le C tgt d ht (fun h => kt ((nI_leI ha hb).mp h)) (fun h => kf (Nat.lt_of_not_le (fun e => h ((nI_leI ha hb).mpr e))))
theorem j_ifN_le (C : jC p s m args c cc nL Ts own D cI cZ cL A) {a : Nat} (ha : a < 2 ^ 31) {off : Int} (tgt : Nat) (d : decode cc pc = .ok (.ifCond .le off, 3)) (ht : (pc : Int) + off = (tgt : Int)) (kt : a ≤ 0 → J p l e R s m args below meth c D A nL cells slots Q w tgt lv rest) (kf : 0 < a → J p l e R s m args below meth c D A nL cells slots Q w (pc + 3) lv rest) : J p l e R s m args below meth c D A nL cells slots Q w pc lv (.int (nI a) :: rest) := by
  have hz : (0 : Nat) < 2 ^ 31 := by decide
  refine j_if_le C tgt d ht (fun h => kt ?_) (fun h => kf ?_) <;> rw [← nI_0] at h
  · exact (nI_leI ha hz).mp h
  · exact Nat.lt_of_not_le (fun e => h ((nI_leI ha hz).mpr e))
theorem j_goto (C : jC p s m args c cc nL Ts own D cI cZ cL A) {off : Int} (tgt : Nat) (d : decode cc pc = .ok (.goto off, 3)) (ht : (pc : Int) + off = (tgt : Int)) (k : J p l e R s m args below meth c D A nL cells slots Q w tgt lv rest) : J p l e R s m args below meth c D A nL cells slots Q w pc lv rest := fun H locs ls hP hD hS hl => lv_goto C.1.1 C.1.2.1 d ht (k H locs ls hP hD hS hl)
theorem j_top {x y : Int32} (h : x = y) (k : J p l e R s m args below meth c D A nL cells slots Q w pc lv (.int y :: rest)) : J p l e R s m args below meth c D A nL cells slots Q w pc lv (.int x :: rest) := h ▸ k
theorem j_topl {x y : Int64} (h : x = y) (k : J p l e R s m args below meth c D A nL cells slots Q w pc lv (.long y :: rest)) : J p l e R s m args below meth c D A nL cells slots Q w pc lv (.long x :: rest) := h ▸ k
theorem j_st {st9 : List Value} (h : st = st9) (k : J p l e R s m args below meth c D A nL cells slots Q w pc lv st9) : J p l e R s m args below meth c D A nL cells slots Q w pc lv st := h ▸ k
theorem j_w (h : w = w') (k : J p l e R s m args below meth c D A nL cells slots Q w' pc lv st) : J p l e R s m args below meth c D A nL cells slots Q w pc lv st := h ▸ k
theorem j_lve (h : lv = lv') (k : J p l e R s m args below meth c D A nL cells slots Q w pc lv' st) : J p l e R s m args below meth c D A nL cells slots Q w pc lv st := h ▸ k
theorem j_lv (ks : List Nat) (h : lv_pick lv ks = lv') (k : J p l e R s m args below meth c D A nL cells slots Q w pc lv' st) : J p l e R s m args below meth c D A nL cells slots Q w pc lv st := fun H locs ls hP hD hS hl => k H locs ls hP hD hS (lv_sub hl ks h)
theorem j_widen {k9 n9 : Nat} (h1 : cells ≤ k9) (h2 : slots ≤ n9) (k : J p l e R s m args below meth c D A nL k9 n9 Q w pc lv st) : J p l e R s m args below meth c D A nL cells slots Q w pc lv st := fun H locs ls hP hD hS hl => W.widen h1 h2 (k H locs ls hP hD hS hl)
theorem j_get (C : jC p s m args c cc nL Ts own D cI cZ cL A) {CN : String} {TF : u_T} {N ci index a : Nat} {fs : List Value} {v : Value} (q0 k9 : Nat) (d : decode cc pc = .ok (.getfield index, 3)) (he : w[q0]? = some (a, .inr (ci, fs))) (hc : vwCl[ci]? = some (CN, TF, N)) (hin : ∀ x ∈ u_ws CN TF N, x ∈ Ts) (hk : k9 < N) (hlink : Cond.fieldLink own index (TF k9).1 (TF k9).2.1 (TF k9).2.2.1 ∈ Ts) (hv : fs[k9]? = some v)
    (k : J p l e R s m args below meth c D A nL cells slots Q w (pc + 3) lv (v :: rest)) : J p l e R s m args below meth c D A nL cells slots Q w pc lv (.ref a :: rest) := fun H locs ls hP hD hS hl => va_get C.1.1 C.1.2.1 C.1.2.2.2.2 hin C.1.2.2.2.1 C.2.1.1 hP q0 he hc k9 hk (C.1.2.2.2.2 _ hlink) (fun _ h9 => h9) hv d (k H locs ls hP hD hS hl)
theorem j_put (C : jC p s m args c cc nL Ts own D cI cZ cL A) {CN : String} {TF : u_T} {N ci index a : Nat} {fs : List Value} {v : Value} {ty : FieldType} (q0 k9 : Nat) (d : decode cc pc = .ok (.putfield index, 3)) (he : w[q0]? = some (a, .inr (ci, fs))) (hc : vwCl[ci]? = some (CN, TF, N)) (hin : ∀ x ∈ u_ws CN TF N, x ∈ Ts) (ty0 : Nat → FieldType) (hty : ∀ k, k < N → parseFieldDescriptor (TF k).2.2.1 = some (ty0 k)) (hnm : ∀ a, a < N → ∀ b, b < N → a ≠ b → (TF a).2.1 ≠ (TF b).2.1) (hk : k9 < N) (hlink : Cond.fieldLink own index (TF k9).1 (TF k9).2.1 (TF k9).2.2.1 ∈ Ts) (hfin : (TF k9).2.2.2 = false) (hty9 : ty0 k9 = ty) (hn : narrow ty v = v) (hfit : fits ty v = true) (hl8 : k9 < fs.length) (hw : w.set q0 (a, .inr (ci, fs.set k9 v)) = w')
    (k : J p l e R s m args below meth c D A nL cells slots Q w' (pc + 3) lv rest) : J p l e R s m args below meth c D A nL cells slots Q w pc lv (v :: .ref a :: rest) := fun H locs ls hP hD hS hl => va_put C.1.1 C.1.2.1 C.1.2.2.2.2 hin ty0 hty hnm C.1.2.2.2.1 C.2.1.1 hP hD hS q0 he hc k9 hk (C.1.2.2.2.2 _ hlink) (fun _ h9 => h9) hfin (by rw [hty k9 hk, hty9]) hn hfit hl8 d (fun H locs hP hD hS => k H locs ls (hw ▸ hP) (hw ▸ hD) hS hl)
theorem j_putF (C : jC p s m args c cc nL Ts own D cI cZ cL A) {CN : String} {TF : u_T} {N ci index a : Nat} {fs : List Value} {v : Value} {ty : FieldType} (q0 k9 : Nat) (hin2 : meth.name = "<init>") (d : decode cc pc = .ok (.putfield index, 3)) (he : w[q0]? = some (a, .inr (ci, fs))) (hc : vwCl[ci]? = some (CN, TF, N)) (hin : ∀ x ∈ u_ws CN TF N, x ∈ Ts) (ty0 : Nat → FieldType) (hty : ∀ k, k < N → parseFieldDescriptor (TF k).2.2.1 = some (ty0 k)) (hnm : ∀ a, a < N → ∀ b, b < N → a ≠ b → (TF a).2.1 ≠ (TF b).2.1) (hk : k9 < N) (hlink : Cond.fieldLink own index (TF k9).1 (TF k9).2.1 (TF k9).2.2.1 ∈ Ts) (hfin : (TF k9).2.2.2 = true) (hdecl : (TF k9).1 = own) (hty9 : ty0 k9 = ty) (hn : narrow ty v = v) (hfit : fits ty v = true) (hl8 : k9 < fs.length) (hw : w.set q0 (a, .inr (ci, fs.set k9 v)) = w')
    (k : J p l e R s m args below meth c D A nL cells slots Q w' (pc + 3) lv rest) : J p l e R s m args below meth c D A nL cells slots Q w pc lv (v :: .ref a :: rest) := fun H locs ls hP hD hS hl => va_putF C.1.1 C.1.2.1 C.1.2.2.2.2 hin ty0 hty hnm C.1.2.2.2.1 C.2.1.1 hP hD hS q0 he hc k9 hk (C.1.2.2.2.2 _ hlink) (fun _ h9 => h9) hfin hin2 hdecl (by rw [hty k9 hk, hty9]) hn hfit hl8 d (fun H locs hP hD hS => k H locs ls (hw ▸ hP) (hw ▸ hD) hS hl)
theorem j_ix {i : Int32} {n k : Nat} (hi : i = nI k) (hk : k < n) (hn : n < 2 ^ 31) : vp_in i n ∧ i.toNatClampNeg = k := by rw [hi]; exact ⟨vp_in_nI hk hn, nI_clamp (by omega)⟩
theorem j_iald (C : jC p s m args c cc nL Ts own D cI cZ cL A) {a n : Nat} {f : Nat → Int32} {i : Int32} (q0 k9 : Nat) (d : decode cc pc = .ok (.iaload, 1)) (ha : w[q0]? = some (a, .inl (cI, n, .inl f))) (hi : i = nI k9) (hk : k9 < n) (hn : n < 2 ^ 31)
    (k : J p l e R s m args below meth c D A nL cells slots Q w (pc + 1) lv (.int (f k9) :: rest)) : J p l e R s m args below meth c D A nL cells slots Q w pc lv (.int i :: .ref a :: rest) := fun H locs ls hP hD hS hl => va_iald C.1.1 C.1.2.1 C.2.1.1 hP q0 0 ha rfl (j_ix hi hk hn).1 d (by rw [(j_ix hi hk hn).2]; exact (k H locs ls hP hD hS hl))
theorem j_zald (C : jC p s m args c cc nL Ts own D cI cZ cL A) {a n : Nat} {f : Nat → Int32} {i : Int32} (q0 k9 : Nat) (d : decode cc pc = .ok (.baload, 1)) (ha : w[q0]? = some (a, .inl (cZ, n, .inl f))) (hi : i = nI k9) (hk : k9 < n) (hn : n < 2 ^ 31)
    (k : J p l e R s m args below meth c D A nL cells slots Q w (pc + 1) lv (.int (f k9) :: rest)) : J p l e R s m args below meth c D A nL cells slots Q w pc lv (.int i :: .ref a :: rest) := fun H locs ls hP hD hS hl => va_zald C.1.1 C.1.2.1 C.2.1.1 hP q0 1 ha rfl (j_ix hi hk hn).1 d (by rw [(j_ix hi hk hn).2]; exact (k H locs ls hP hD hS hl))
theorem j_lald (C : jC p s m args c cc nL Ts own D cI cZ cL A) {a n : Nat} {f : Nat → Int64} {i : Int32} (q0 k9 : Nat) (d : decode cc pc = .ok (.laload, 1)) (ha : w[q0]? = some (a, .inl (cL, n, .inr (.inl f)))) (hi : i = nI k9) (hk : k9 < n) (hn : n < 2 ^ 31)
    (k : J p l e R s m args below meth c D A nL cells slots Q w (pc + 1) lv (.long (f k9) :: rest)) : J p l e R s m args below meth c D A nL cells slots Q w pc lv (.int i :: .ref a :: rest) := fun H locs ls hP hD hS hl => va_lald C.1.1 C.1.2.1 C.2.1.1 hP q0 2 ha rfl (j_ix hi hk hn).1 d (by rw [(j_ix hi hk hn).2]; exact (k H locs ls hP hD hS hl))
theorem j_iast (C : jC p s m args c cc nL Ts own D cI cZ cL A) {a n : Nat} {f : Nat → Int32} {i : Int32} {x : Int32} (q0 k9 : Nat) (d : decode cc pc = .ok (.iastore, 1)) (ha : w[q0]? = some (a, .inl (cI, n, .inl f))) (hi : i = nI k9) (hk : k9 < n) (hn : n < 2 ^ 31) (hw : w.set q0 (a, .inl (cI, n, .inl (upd f k9 x))) = w')
    (k : J p l e R s m args below meth c D A nL cells slots Q w' (pc + 1) lv rest) : J p l e R s m args below meth c D A nL cells slots Q w pc lv (.int x :: .int i :: .ref a :: rest) := fun H locs ls hP hD hS hl => va_iast C.1.1 C.1.2.1 C.2.1.1 hP hD hS q0 0 ha rfl (j_ix hi hk hn).1 d (fun H locs hP hD hS => k H locs ls (by rw [(j_ix hi hk hn).2] at hP; exact hw ▸ hP) (by rw [(j_ix hi hk hn).2] at hD; exact hw ▸ hD) hS hl)
theorem j_zast (C : jC p s m args c cc nL Ts own D cI cZ cL A) {a n : Nat} {f : Nat → Int32} {i : Int32} {x : Int32} (q0 k9 : Nat) (d : decode cc pc = .ok (.bastore, 1)) (ha : w[q0]? = some (a, .inl (cZ, n, .inl f))) (hi : i = nI k9) (hk : k9 < n) (hn : n < 2 ^ 31) (hw : w.set q0 (a, .inl (cZ, n, .inl (upd f k9 (vp_nar .boolean x)))) = w')
    (k : J p l e R s m args below meth c D A nL cells slots Q w' (pc + 1) lv rest) : J p l e R s m args below meth c D A nL cells slots Q w pc lv (.int x :: .int i :: .ref a :: rest) := fun H locs ls hP hD hS hl => va_zast C.1.1 C.1.2.1 C.2.1.1 hP hD hS q0 1 ha rfl (j_ix hi hk hn).1 d (fun H locs hP hD hS => k H locs ls (by rw [(j_ix hi hk hn).2] at hP; exact hw ▸ hP) (by rw [(j_ix hi hk hn).2] at hD; exact hw ▸ hD) hS hl)
theorem j_last (C : jC p s m args c cc nL Ts own D cI cZ cL A) {a n : Nat} {f : Nat → Int64} {i : Int32} {x : Int64} (q0 k9 : Nat) (d : decode cc pc = .ok (.lastore, 1)) (ha : w[q0]? = some (a, .inl (cL, n, .inr (.inl f)))) (hi : i = nI k9) (hk : k9 < n) (hn : n < 2 ^ 31) (hw : w.set q0 (a, .inl (cL, n, .inr (.inl (vp_updL f k9 x)))) = w')
    (k : J p l e R s m args below meth c D A nL cells slots Q w' (pc + 1) lv rest) : J p l e R s m args below meth c D A nL cells slots Q w pc lv (.long x :: .int i :: .ref a :: rest) := fun H locs ls hP hD hS hl => va_last C.1.1 C.1.2.1 C.2.1.1 hP hD hS q0 2 ha rfl (j_ix hi hk hn).1 d (fun H locs hP hD hS => k H locs ls (by rw [(j_ix hi hk hn).2] at hP; exact hw ▸ hP) (by rw [(j_ix hi hk hn).2] at hD; exact hw ▸ hD) hS hl)
theorem j_copyi (C : jC p s m args c cc nL Ts own D cI cZ cL A) {index a a0 : Nat} {n0 n1 : Nat} {f g : Nat → Int32} {sp dp n : Int32} (q0 q1 : Nat) (ks kd kn : Nat) (d : decode cc pc = .ok (.invokestatic index, 3)) (hlink : Cond.methodLink own index arraycopyName ∈ Ts) (hnat : Cond.native arraycopyName ∈ Ts) (hstat : Cond.static arraycopyName ∈ Ts) (hini : Cond.initialized "java/lang/System" ∈ Ts)
    (ha0 : w[q0]? = some (a0, .inl (cI, n0, .inl f))) (ha1 : w[q1]? = some (a, .inl (cI, n1, .inl g))) (h1 : sp = nI ks) (h2 : dp = nI kd) (h3 : n = nI kn) (h4 : ks + kn ≤ n0) (h5 : kd + kn ≤ n1) (hn0 : n0 < 2 ^ 31) (hn1 : n1 < 2 ^ 31) (hfr : 1 ≤ R.frames) (hlo : (rest.map fun v => v.category).sum + (nativeFrameWords "java/lang/System" "arraycopy" 5 + 11) ≤ R.locals) (hw : w.set q1 (a, .inl (cI, n1, .inl (va_cpy f g ks kd kn))) = w')
    (k : J p l e R s m args below meth c D A nL cells slots Q w' (pc + 3) lv rest) : J p l e R s m args below meth c D A nL cells slots Q w pc lv (.int n :: .int dp :: .ref a :: .int sp :: .ref a0 :: rest) := by
  subst h1; subst h2; subst h3
  intro H locs ls hP hD hS hl
  have e1 : (nI ks).toNatClampNeg = ks := nI_clamp (by omega)
  have e2 : (nI kd).toNatClampNeg = kd := nI_clamp (by omega)
  have e3 : (nI kn).toNatClampNeg = kn := nI_clamp (by omega)
  refine va_copyi C.1.1 C.1.2.1 (by rw [C.1.2.2.1]; exact hl.1.symm) C.1.2.2.2.1 (C.1.2.2.2.2 _ hlink) (C.1.2.2.2.2 _ hnat) (C.1.2.2.2.2 _ hstat) (C.1.2.2.2.2 _ hini) C.2.1.1 hP hD hS q0 q1 0 0 ha0 ha1 rfl rfl rfl (nI_pos (by omega)) (nI_pos (by omega)) (nI_pos (by omega)) (by rw [e1, e3]; exact h4) (by rw [e2, e3]; exact h5) (fun i _ => rfl) hfr hlo d (fun H locs hP hD hS => ?_)
  rw [e1, e2, e3] at hP hD
  exact k H locs ls (hw ▸ hP) (hw ▸ hD) hS hl
theorem j_mmax (C : jC p s m args c cc nL Ts own D cI cZ cL A) {index : Nat} {x y : Int32} (d : decode cc pc = .ok (.invokestatic index, 3)) (hlink : Cond.methodLink own index Lib.Math.max.name ∈ Ts) (hstat : Cond.static Lib.Math.max.name ∈ Ts) (hini : Cond.initialized "java/lang/Math" ∈ Ts) (hcode : Cond.code Lib.Math.max.name Lib.Math.max.code 2 (some .int) ∈ Ts) (hfr : 1 ≤ R.frames) (hlo : (rest.map fun v => v.category).sum + 13 ≤ R.locals) (hc9 : cells ≤ R.cells) (hs9 : slots ≤ R.slots)
    (k : J p l e R s m args below meth c D A nL cells slots Q w (pc + 3) lv (.int (if x < y then y else x) :: rest)) : J p l e R s m args below meth c D A nL cells slots Q w pc lv (.int y :: .int x :: rest) := fun H locs ls hP hD hS hl => va_mmax C.1.1 C.1.2.1 (by rw [C.1.2.2.1]; exact hl.1.symm) C.1.2.2.2.1 (C.1.2.2.2.2 _ hlink) (C.1.2.2.2.2 _ hstat) (C.1.2.2.2.2 _ hini) (C.1.2.2.2.2 _ hcode) hfr hlo hc9 hs9 d (k H locs ls hP hD hS hl)
theorem j_mmin (C : jC p s m args c cc nL Ts own D cI cZ cL A) {index : Nat} {x y : Int32} (d : decode cc pc = .ok (.invokestatic index, 3)) (hlink : Cond.methodLink own index Lib.Math.min.name ∈ Ts) (hstat : Cond.static Lib.Math.min.name ∈ Ts) (hini : Cond.initialized "java/lang/Math" ∈ Ts) (hcode : Cond.code Lib.Math.min.name Lib.Math.min.code 2 (some .int) ∈ Ts) (hfr : 1 ≤ R.frames) (hlo : (rest.map fun v => v.category).sum + 13 ≤ R.locals) (hc9 : cells ≤ R.cells) (hs9 : slots ≤ R.slots)
    (k : J p l e R s m args below meth c D A nL cells slots Q w (pc + 3) lv (.int (if y < x then y else x) :: rest)) : J p l e R s m args below meth c D A nL cells slots Q w pc lv (.int y :: .int x :: rest) := fun H locs ls hP hD hS hl => va_mmin C.1.1 C.1.2.1 (by rw [C.1.2.2.1]; exact hl.1.symm) C.1.2.2.2.1 (C.1.2.2.2.2 _ hlink) (C.1.2.2.2.2 _ hstat) (C.1.2.2.2.2 _ hini) (C.1.2.2.2.2 _ hcode) hfr hlo hc9 hs9 d (k H locs ls hP hD hS hl)
theorem j_mmaxl (C : jC p s m args c cc nL Ts own D cI cZ cL A) {index : Nat} {x y : Int64} (d : decode cc pc = .ok (.invokestatic index, 3)) (hlink : Cond.methodLink own index Lib.MathLoose.max_long.x ∈ Ts) (hstat : Cond.static Lib.MathLoose.max_long.x ∈ Ts) (hini : Cond.initialized "java/lang/Math" ∈ Ts) (hcode : Cond.code Lib.MathLoose.max_long.x Lib.MathLoose.max_long.code 4 (some .long) ∈ Ts) (hfr : 1 ≤ R.frames) (hlo : (rest.map fun v => v.category).sum + 15 ≤ R.locals) (hc9 : cells ≤ R.cells) (hs9 : slots ≤ R.slots)
    (k : J p l e R s m args below meth c D A nL cells slots Q w (pc + 3) lv (.long (if y < x then x else y) :: rest)) : J p l e R s m args below meth c D A nL cells slots Q w pc lv (.long y :: .long x :: rest) := fun H locs ls hP hD hS hl => va_mmax_long C.1.1 C.1.2.1 (by rw [C.1.2.2.1]; exact hl.1.symm) C.1.2.2.2.1 (C.1.2.2.2.2 _ hlink) (C.1.2.2.2.2 _ hstat) (C.1.2.2.2.2 _ hini) (C.1.2.2.2.2 _ hcode) hfr hlo hc9 hs9 d (k H locs ls hP hD hS hl)
theorem j_mminl (C : jC p s m args c cc nL Ts own D cI cZ cL A) {index : Nat} {x y : Int64} (d : decode cc pc = .ok (.invokestatic index, 3)) (hlink : Cond.methodLink own index Lib.MathLoose.min_long.x ∈ Ts) (hstat : Cond.static Lib.MathLoose.min_long.x ∈ Ts) (hini : Cond.initialized "java/lang/Math" ∈ Ts) (hcode : Cond.code Lib.MathLoose.min_long.x Lib.MathLoose.min_long.code 4 (some .long) ∈ Ts) (hfr : 1 ≤ R.frames) (hlo : (rest.map fun v => v.category).sum + 15 ≤ R.locals) (hc9 : cells ≤ R.cells) (hs9 : slots ≤ R.slots)
    (k : J p l e R s m args below meth c D A nL cells slots Q w (pc + 3) lv (.long (if y < x then y else x) :: rest)) : J p l e R s m args below meth c D A nL cells slots Q w pc lv (.long y :: .long x :: rest) := fun H locs ls hP hD hS hl => va_mmin_long C.1.1 C.1.2.1 (by rw [C.1.2.2.1]; exact hl.1.symm) C.1.2.2.2.1 (C.1.2.2.2.2 _ hlink) (C.1.2.2.2.2 _ hstat) (C.1.2.2.2.2 _ hini) (C.1.2.2.2.2 _ hcode) hfr hlo hc9 hs9 d (k H locs ls hP hD hS hl)
theorem j_dup2 (C : jC p s m args c cc nL Ts own D cI cZ cL A) {v v2 : Value} (d : decode cc pc = .ok (.dup2, 1)) (hv : v.category = 1) (hv2 : v2.category = 1) (k : J p l e R s m args below meth c D A nL cells slots Q w (pc + 1) lv (v :: v2 :: v :: v2 :: rest)) : J p l e R s m args below meth c D A nL cells slots Q w pc lv (v :: v2 :: rest) := fun H locs ls hP hD hS hl => lv_dup2_11 C.1.1 C.1.2.1 d hv hv2 (k H locs ls hP hD hS hl)
theorem j_tableIn (C : jC p s m args c cc nL Ts own D cI cZ cL A) {dflt lo hi : Int} {offs : Array Int} {len : Nat} {x : Int32} {off : Int} (tgt : Nat) (d : decode cc pc = .ok (.tableswitch dflt lo hi offs, len)) (h1 : ¬ x.toInt < lo) (h2 : ¬ hi < x.toInt) (ho : offs[(x.toInt - lo).toNat]? = some off) (ht : (pc : Int) + off = (tgt : Int)) (k : J p l e R s m args below meth c D A nL cells slots Q w tgt lv rest) : J p l e R s m args below meth c D A nL cells slots Q w pc lv (.int x :: rest) := fun H locs ls hP hD hS hl => lv_tableIn C.1.1 C.1.2.1 d h1 h2 ho ht (k H locs ls hP hD hS hl)
theorem j_tableOut (C : jC p s m args c cc nL Ts own D cI cZ cL A) {dflt lo hi : Int} {offs : Array Int} {len : Nat} {x : Int32} (tgt : Nat) (d : decode cc pc = .ok (.tableswitch dflt lo hi offs, len)) (h : x.toInt < lo ∨ hi < x.toInt) (ht : (pc : Int) + dflt = (tgt : Int)) (k : J p l e R s m args below meth c D A nL cells slots Q w tgt lv rest) : J p l e R s m args below meth c D A nL cells slots Q w pc lv (.int x :: rest) := fun H locs ls hP hD hS hl => lv_tableOut C.1.1 C.1.2.1 d h ht (k H locs ls hP hD hS hl)
theorem j_objInit (C : jC p s m args c cc nL Ts own D cI cZ cL A) {index a : Nat} (d : decode cc pc = .ok (.invokespecial index, 3)) (hlink : Cond.methodLink own index Lib.objectInit ∈ Ts) (hinst : Cond.instanceMethod Lib.objectInit ∈ Ts) (hcode : Cond.code Lib.objectInit ⟨#[0xb1]⟩ 1 none ∈ Ts) (hfr : 1 ≤ R.frames) (hlo : (rest.map fun v => v.category).sum + 12 ≤ R.locals)
    (k : J p l e R s m args below meth c D A nL cells slots Q w (pc + 3) lv rest) : J p l e R s m args below meth c D A nL cells slots Q w pc lv (.ref a :: rest) := fun H locs ls hP hD hS hl => W.objInit C.1.1 C.1.2.1 C.1.2.2.2.1 (C.1.2.2.2.2 _ hlink) (C.1.2.2.2.2 _ hinst) (C.1.2.2.2.2 _ hcode) (g := F0 m pc ls (.ref a :: rest)) rfl (hl.1.trans C.1.2.2.1.symm) rfl d hfr (by show 2 * 0 + _ + 12 ≤ _; omega) (k H locs ls hP hD hS hl)
theorem j_newI (C : jC p s m args c cc nL Ts own D cI cZ cL A) {n : Int32} (N : Nat) (d : decode cc pc = .ok (.newarray .int, 2)) (hN : n = nI N) (hb : N < 2 ^ 25) (harr : Cond.arrayClass .int ∈ Ts) (hcells : cells + 1 ≤ R.cells) (hslots : slots + N ≤ R.slots)
    (k : ∀ q : Nat, J p l e R s m args below meth c D A nL (cells + 1) (slots + N) Q (w ++ [(q, .inl (cI, N, .inl (fun _ => 0)))]) (pc + 2) lv (.ref q :: rest)) : J p l e R s m args below meth c D A nL cells slots Q w pc lv (.int n :: rest) := by
  subst hN
  intro H locs ls hP hD hS hl
  refine va_newa C.1.1 C.1.2.1 (atype := .int) (ty := .int) (a0 := (N, .inl (fun _ => 0))) (C.1.2.2.2.2 _ harr) rfl C.2.1.1 hP hD hS C.2.2 (fun _ => rfl) (nI_pos (by omega)) (nI_clamp (by omega)) (by show N * _ ≤ _; simp only [componentBytes]; omega) hcells hslots d (fun q cA H1 hK1 hP hD hS => ?_)
  have e1 := (hK1.2 3 (cA, .int) rfl).2
  have e2 := (C.2.1.1.2 0 (cI, .int) rfl).2
  have e3 : cA = cI := Option.some.inj (e1.symm.trans e2)
  subst e3
  exact k q H1 locs ls hP hD hS hl
theorem j_newZ (C : jC p s m args c cc nL Ts own D cI cZ cL A) {n : Int32} (N : Nat) (d : decode cc pc = .ok (.newarray .boolean, 2)) (hN : n = nI N) (hb : N < 2 ^ 25) (harr : Cond.arrayClass .boolean ∈ Ts) (hcells : cells + 1 ≤ R.cells) (hslots : slots + N ≤ R.slots)
    (k : ∀ q : Nat, J p l e R s m args below meth c D A nL (cells + 1) (slots + N) Q (w ++ [(q, .inl (cZ, N, .inl (fun _ => 0)))]) (pc + 2) lv (.ref q :: rest)) : J p l e R s m args below meth c D A nL cells slots Q w pc lv (.int n :: rest) := by
  subst hN
  intro H locs ls hP hD hS hl
  refine va_newa C.1.1 C.1.2.1 (atype := .boolean) (ty := .boolean) (a0 := (N, .inl (fun _ => 0))) (C.1.2.2.2.2 _ harr) rfl C.2.1.1 hP hD hS C.2.2 (fun _ => rfl) (nI_pos (by omega)) (nI_clamp (by omega)) (by show N * _ ≤ _; simp only [componentBytes]; omega) hcells hslots d (fun q cA H1 hK1 hP hD hS => ?_)
  have e1 := (hK1.2 3 (cA, .boolean) rfl).2
  have e2 := (C.2.1.1.2 1 (cZ, .boolean) rfl).2
  have e3 : cA = cZ := Option.some.inj (e1.symm.trans e2)
  subst e3
  exact k q H1 locs ls hP hD hS hl
theorem j_newL (C : jC p s m args c cc nL Ts own D cI cZ cL A) {n : Int32} (N : Nat) (d : decode cc pc = .ok (.newarray .long, 2)) (hN : n = nI N) (hb : N < 2 ^ 25) (harr : Cond.arrayClass .long ∈ Ts) (hcells : cells + 1 ≤ R.cells) (hslots : slots + N ≤ R.slots)
    (k : ∀ q : Nat, J p l e R s m args below meth c D A nL (cells + 1) (slots + N) Q (w ++ [(q, .inl (cL, N, .inr (.inl (fun _ => 0))))]) (pc + 2) lv (.ref q :: rest)) : J p l e R s m args below meth c D A nL cells slots Q w pc lv (.int n :: rest) := by
  subst hN
  intro H locs ls hP hD hS hl
  refine va_newa C.1.1 C.1.2.1 (atype := .long) (ty := .long) (a0 := (N, .inr (.inl (fun _ => 0)))) (C.1.2.2.2.2 _ harr) rfl C.2.1.1 hP hD hS C.2.2 (fun _ => rfl) (nI_pos (by omega)) (nI_clamp (by omega)) (by show N * _ ≤ _; simp only [componentBytes]; omega) hcells hslots d (fun q cA H1 hK1 hP hD hS => ?_)
  have e1 := (hK1.2 3 (cA, .long) rfl).2
  have e2 := (C.2.1.1.2 2 (cL, .long) rfl).2
  have e3 : cA = cL := Option.some.inj (e1.symm.trans e2)
  subst e3
  exact k q H1 locs ls hP hD hS hl
theorem j_new (C : jC p s m args c cc nL Ts own D cI cZ cL A) {CN : String} {TF : u_T} {N ci index : Nat} {fs : List Value} (d : decode cc pc = .ok (.new index, 3)) (hin : ∀ x ∈ u_ws CN TF N, x ∈ Ts) (ty0 : Nat → FieldType) (hty : ∀ k, k < N → parseFieldDescriptor (TF k).2.2.1 = some (ty0 k)) (hcl : Cond.classLink own index CN ∈ Ts) (hinst : Cond.instantiable CN N ∈ Ts) (hini : Cond.initialized CN ∈ Ts) (hc : vwCl[ci]? = some (CN, TF, N)) (hfs : ∀ j, j < N → defaultValue (ty0 j) = vp_V fs j) (hcells : cells + 1 ≤ R.cells) (hslots : slots + N ≤ R.slots)
    (k : ∀ q : Nat, J p l e R s m args below meth c D A nL (cells + 1) (slots + N) Q (w ++ [(q, .inr (ci, fs))]) (pc + 3) lv (.ref q :: rest)) : J p l e R s m args below meth c D A nL cells slots Q w pc lv rest := fun H locs ls hP hD hS hl => va_new C.1.1 C.1.2.1 C.1.2.2.2.2 hin ty0 hty C.1.2.2.2.1 (C.1.2.2.2.2 _ hcl) (C.1.2.2.2.2 _ hinst) (C.1.2.2.2.2 _ hini) C.2.1.1 hP hD hS C.2.2 hc hfs hcells hslots d (fun q H1 hP hD hS => k q H1 locs ls hP hD hS hl)
variable {Po : Option Value → va_W → Prop}
theorem j_iret (C : jC p s m args c cc nL Ts own D cI cZ cL A) {v : Int32} (hr : meth.sig.returnType = some .int) (hlocks : meth.locks = false) (d : decode cc pc = .ok (.ireturn, 1)) (hpo : Po (some (.int v)) w) : J p l e R s m args below meth c D A nL cells slots (MQ below (jQc D Po A) args s cells slots A) w pc lv [.int v] :=
  fun H locs ls hP hD hS hl => W.iret C.1.1 C.1.2.1 hr (fun t ht hW => ⟨⟨_, w, rfl, hpo, by rw [ht]; exact hP, hD⟩, hS.F ht⟩) hS.2.2 d hlocks
theorem j_zret (C : jC p s m args c cc nL Ts own D cI cZ cL A) {v : Int32} (hr : meth.sig.returnType = some .boolean) (hlocks : meth.locks = false) (d : decode cc pc = .ok (.ireturn, 1)) (hn : narrow .boolean (.int v) = .int v) (hpo : Po (some (.int v)) w) : J p l e R s m args below meth c D A nL cells slots (MQ below (jQc D Po A) args s cells slots A) w pc lv [.int v] :=
  fun H locs ls hP hD hS hl => W.zret C.1.1 C.1.2.1 hr hn (fun t ht hW => ⟨⟨_, w, rfl, hpo, by rw [ht]; exact hP, hD⟩, hS.F ht⟩) hS.2.2 d hlocks
theorem j_vret (C : jC p s m args c cc nL Ts own D cI cZ cL A) (hr : meth.sig.returnType = none) (hlocks : meth.locks = false) (d : decode cc pc = .ok (.return_, 1)) (hpo : Po none w) : J p l e R s m args below meth c D A nL cells slots (MQ below (jQc D Po A) args s cells slots A) w pc lv [] :=
  fun H locs ls hP hD hS hl => W.vret C.1.1 C.1.2.1 hr (fun t ht hW => ⟨⟨_, w, rfl, hpo, by rw [ht]; exact hP, hD⟩, hS.F ht⟩) hS.2.2 d hlocks

theorem Cg.ofJ {y : MethodName} {ws ws' : List Cond} {rm : Room} {av : List Value} {maxL : Nat} {ret : Option FieldType} (hy : plainName y.cls = true) (hown : y.cls = own) (hw : ws = Cond.code y cc maxL ret :: ws') (hlen : (lg_sl av).length ≤ maxL)
    (body : ∀ (p : Program) (e : Env) (s : State) (m : MethodId) (args : Array Value) (below : List Frame) (meth : Method) (c : Code) (A : Nat → Prop), jC p s m args c cc maxL ws own D cI cZ cL A → meth.sig.returnType = ret → meth.locks = false → meth.name = y.name →
      J p l e rm s m args below meth c D A maxL 0 0 (MQ below (jQc D Po A) args s rm.cells rm.slots A) w 0 (lv_args 0 av) []) : Cg l D cI cZ cL y ws rm av w Po := by
  intro sz
  refine Met.ofW (cc := cc) (maxL := maxL) (ret := ret) hy hw ?_
  intro p e s m args below meth c s₁ B hml hv
  obtain ⟨rfl, hsz, hP, hK, hD0⟩ := hv
  have hx := B.exec
  have hb := B.bytes
  have hr := B.returns
  have hts := atoms_spec (ws := ws) B.pre
  have hown9 : s.vm.findClass own = some m.cls := by rw [← hown]; exact findClass_of_methodNamed B.named
  have hlocks := B.notSynchronized
  have hin : meth.name = y.name := (name_of_methodNamed B.named B.method).1
  subst hsz
  have hl := lv_entry av (n := maxL) hlen
  rw [lg_entry_eq]
  exact body p e s m av.toArray below meth c (va_A w s.heap.size) ⟨⟨hx, hb, hml, hown9, hts⟩, hK, fun q h => Or.inr h⟩ hr hlocks hin s.heap [] _ hP hD0.self va_S.rf hl

variable {CN : String}
theorem j_callV (C : jC p s m args c cc nL Ts own D cI cZ cL A) {y : MethodName} {ws ws' : List Cond} {rm : Room} {bytes : ByteArray} {maxL index n : Nat} {ret : Option FieldType} {b : Nat} {As : List Value} {pre wc post : va_W} (hct : Cg l D cI cZ cL y ws rm (.ref b :: As) wc Po) (hG : GoodIn Ts (wsV own index CN y ws)) (hw9 : ws = Cond.code y bytes maxL ret :: ws') (hd : y.cls = CN ∧ y.cls ≠ "java/lang/invoke/MethodHandle" ∧ y.cls ≠ "java/lang/invoke/VarHandle" ∧ (parseMethodDescriptor y.desc).map (fun d => d.parameters.length) = some n) (hR : rm.frames + 1 ≤ R.frames ∧ 8 + (maxL + 11) + rm.locals ≤ R.locals)
    (hw : w = pre ++ (wc ++ post)) {ci : Nat} {qc : vw_C} {fs : List Value} (hc : vwCl[ci]? = some (CN, qc.2)) (he : wc[0]? = some (b, .inr (ci, fs))) (hn : As.length = n) (hst : st = As.reverse ++ .ref b :: rest) (hro : (rest.map fun v => v.category).sum ≤ 8) (d : decode cc pc = .ok (.invokevirtual index, 3)) (hf : cells + rm.cells ≤ R.cells ∧ slots + rm.slots ≤ R.slots)
    (k : ∀ (r : Option Value) (wc' : va_W), Po r wc' → J p l e R s m args below meth c D A nL (cells + rm.cells) (slots + rm.slots) Q (pre ++ (wc' ++ post)) (pc + 3) lv (r.toList ++ rest)) : J p l e R s m args below meth c D A nL cells slots Q w pc lv st := by
  intro H locs ls hP hD hS hl
  subst hw
  have hF : ∀ q, va_A wc H.size q → A q := by
    intro q h
    rcases h with ⟨k, e, h⟩ | h
    · exact hD.right.left.2 k _ h
    · exact C.2.2 q (Nat.le_trans hS.1 h)
  intro T hT X
  have hpre : ∀ U : State, U.heap = H → s.WarmedH U.vm → jPc D cI cZ cL (.ref b :: As) wc H.size (.ref b :: As).toArray U := fun U hU hW => ⟨rfl, by rw [hU], by rw [hU]; exact hP.right.left, C.2.1.warm hW, hD.right.left.weaken (fun _ _ _ _ => trivial)⟩
  obtain ⟨v, st₀, t, T', L, h0, X', hL, e1, e2, ⟨⟨r, wc', hv, hpo, hP1, hD1⟩, hF1⟩, stp⟩ := va_runV (g := F0 m pc ls st) (As := As) (rest := rest) C.1 (hct H.size) (cwV n C.1.2.2.2.2 hG hw9 rfl rfl hd hR) ⟨jPc.blind, va_recv C.2.1.1 hP.right.left (q := (CN, qc.2)) hc he, hpre⟩ rfl hn hl.1 hst (lv_room hro) d hf T hT X
  cases hv
  have hk : ∀ q : Nat, q < H.size → ¬ va_A wc H.size q → T'.heap[q]? = H[q]? := fun q h1 h2 => by rw [e1, hF1.2 q (by rw [h0]; exact h1) h2, h0]
  rw [← e1] at hP1
  obtain ⟨hP2, hD2⟩ := j_frame hP hD hS C.2.2 hk hP1 hD1
  have hS2 : va_S A s.heap T'.heap (locs ++ L) := by
    refine ⟨Nat.le_trans hS.1 (by have := hF1.1; rw [h0] at this; rw [e1]; exact this), fun q h1 h2 => ?_, fun z hz => ?_⟩
    · rw [hk q (Nat.lt_of_lt_of_le h1 hS.1) (fun h => h2 (hF q h))]
      exact hS.2.1 q h1 h2
    · rcases List.mem_append.mp hz with h | h
      · exact hS.2.2 z h
      · exact hF _ (hL z h)
  obtain ⟨t2, a1, b1⟩ := k v wc' hpo T'.heap (locs ++ L) ls hP2 hD2 hS2 hl T' rfl X'
  exact ⟨t2, stp t2 a1, b1⟩
theorem j_callS (C : jC p s m args c cc nL Ts own D cI cZ cL A) {y : MethodName} {ws ws' : List Cond} {rm : Room} {bytes : ByteArray} {maxL index n : Nat} {ret : Option FieldType} {b : Nat} {As : List Value} {pre wc post : va_W} (hct : Cg l D cI cZ cL y ws rm (As) wc Po) (hG : GoodIn Ts (va_wsS own index y ws)) (hw9 : ws = Cond.code y bytes maxL ret :: ws') (hd : y.cls ≠ "java/lang/invoke/MethodHandle" ∧ y.cls ≠ "java/lang/invoke/VarHandle" ∧ (parseMethodDescriptor y.desc).map (fun d => d.parameters.length) = some n) (hR : rm.frames + 1 ≤ R.frames ∧ 8 + (maxL + 11) + rm.locals ≤ R.locals)
    (hw : w = pre ++ (wc ++ post))  (hn : As.length = n) (hst : st = As.reverse ++ rest) (hro : (rest.map fun v => v.category).sum ≤ 8) (d : decode cc pc = .ok (.invokestatic index, 3)) (hf : cells + rm.cells ≤ R.cells ∧ slots + rm.slots ≤ R.slots)
    (k : ∀ (r : Option Value) (wc' : va_W), Po r wc' → J p l e R s m args below meth c D A nL (cells + rm.cells) (slots + rm.slots) Q (pre ++ (wc' ++ post)) (pc + 3) lv (r.toList ++ rest)) : J p l e R s m args below meth c D A nL cells slots Q w pc lv st := by
  intro H locs ls hP hD hS hl
  subst hw
  have hF : ∀ q, va_A wc H.size q → A q := by
    intro q h
    rcases h with ⟨k, e, h⟩ | h
    · exact hD.right.left.2 k _ h
    · exact C.2.2 q (Nat.le_trans hS.1 h)
  intro T hT X
  have hpre : ∀ U : State, U.heap = H → s.WarmedH U.vm → jPc D cI cZ cL (As) wc H.size (As).toArray U := fun U hU hW => ⟨rfl, by rw [hU], by rw [hU]; exact hP.right.left, C.2.1.warm hW, hD.right.left.weaken (fun _ _ _ _ => trivial)⟩
  obtain ⟨v, st₀, t, T', L, h0, X', hL, e1, e2, ⟨⟨r, wc', hv, hpo, hP1, hD1⟩, hF1⟩, stp⟩ := va_runS (g := F0 m pc ls st) (As := As) (rest := rest) C.1 (hct H.size) (va_cwS n C.1.2.2.2.2 hG hw9 rfl rfl hd hR) ⟨jPc.blind, hpre⟩ rfl hn hl.1 hst (lv_room hro) d hf T hT X
  cases hv
  have hk : ∀ q : Nat, q < H.size → ¬ va_A wc H.size q → T'.heap[q]? = H[q]? := fun q h1 h2 => by rw [e1, hF1.2 q (by rw [h0]; exact h1) h2, h0]
  rw [← e1] at hP1
  obtain ⟨hP2, hD2⟩ := j_frame hP hD hS C.2.2 hk hP1 hD1
  have hS2 : va_S A s.heap T'.heap (locs ++ L) := by
    refine ⟨Nat.le_trans hS.1 (by have := hF1.1; rw [h0] at this; rw [e1]; exact this), fun q h1 h2 => ?_, fun z hz => ?_⟩
    · rw [hk q (Nat.lt_of_lt_of_le h1 hS.1) (fun h => h2 (hF q h))]
      exact hS.2.1 q h1 h2
    · rcases List.mem_append.mp hz with h | h
      · exact hS.2.2 z h
      · exact hF _ (hL z h)
  obtain ⟨t2, a1, b1⟩ := k v wc' hpo T'.heap (locs ++ L) ls hP2 hD2 hS2 hl T' rfl X'
  exact ⟨t2, stp t2 a1, b1⟩
theorem j_callN (C : jC p s m args c cc nL Ts own D cI cZ cL A) {y : MethodName} {ws ws' : List Cond} {rm : Room} {bytes : ByteArray} {maxL index n : Nat} {ret : Option FieldType} {b : Nat} {As : List Value} {pre wc post : va_W} (hct : Cg l D cI cZ cL y ws rm (As) wc Po) {host : String} (hG : GoodIn Ts ws) (hw9 : ws = Cond.code y bytes maxL ret :: ws') (hl9 : va_Nw (.methodLinkNest own index y host) s) (hini : Cond.initialized y.cls ∈ Ts) (hstt : Cond.static y ∈ Ts) (hd : y.cls ≠ "java/lang/invoke/MethodHandle" ∧ y.cls ≠ "java/lang/invoke/VarHandle" ∧ (parseMethodDescriptor y.desc).map (fun d => d.parameters.length) = some n) (hR : rm.frames + 1 ≤ R.frames ∧ 8 + (maxL + 11) + rm.locals ≤ R.locals)
    (hw : w = pre ++ (wc ++ post))  (hn : As.length = n) (hst : st = As.reverse ++ rest) (hro : (rest.map fun v => v.category).sum ≤ 8) (d : decode cc pc = .ok (.invokestatic index, 3)) (hf : cells + rm.cells ≤ R.cells ∧ slots + rm.slots ≤ R.slots)
    (k : ∀ (r : Option Value) (wc' : va_W), Po r wc' → J p l e R s m args below meth c D A nL (cells + rm.cells) (slots + rm.slots) Q (pre ++ (wc' ++ post)) (pc + 3) lv (r.toList ++ rest)) : J p l e R s m args below meth c D A nL cells slots Q w pc lv st := by
  intro H locs ls hP hD hS hl
  subst hw
  have hF : ∀ q, va_A wc H.size q → A q := by
    intro q h
    rcases h with ⟨k, e, h⟩ | h
    · exact hD.right.left.2 k _ h
    · exact C.2.2 q (Nat.le_trans hS.1 h)
  intro T hT X
  have hpre : ∀ U : State, U.heap = H → s.WarmedH U.vm → jPc D cI cZ cL (As) wc H.size (As).toArray U := fun U hU hW => ⟨rfl, by rw [hU], by rw [hU]; exact hP.right.left, C.2.1.warm hW, hD.right.left.weaken (fun _ _ _ _ => trivial)⟩
  obtain ⟨v, st₀, t, T', L, h0, X', hL, e1, e2, ⟨⟨r, wc', hv, hpo, hP1, hD1⟩, hF1⟩, stp⟩ := va_runSN (g := F0 m pc ls st) (As := As) (rest := rest) C.1 (hct H.size) ⟨va_cnB n C.1.2.2.2.2 hG hw9 rfl rfl hl9 (C.1.2.2.2.2 _ hini) hd hR, C.1.2.2.2.2 _ hstt, trivial⟩ ⟨jPc.blind, hpre⟩ rfl hn hl.1 hst (lv_room hro) d hf T hT X
  cases hv
  have hk : ∀ q : Nat, q < H.size → ¬ va_A wc H.size q → T'.heap[q]? = H[q]? := fun q h1 h2 => by rw [e1, hF1.2 q (by rw [h0]; exact h1) h2, h0]
  rw [← e1] at hP1
  obtain ⟨hP2, hD2⟩ := j_frame hP hD hS C.2.2 hk hP1 hD1
  have hS2 : va_S A s.heap T'.heap (locs ++ L) := by
    refine ⟨Nat.le_trans hS.1 (by have := hF1.1; rw [h0] at this; rw [e1]; exact this), fun q h1 h2 => ?_, fun z hz => ?_⟩
    · rw [hk q (Nat.lt_of_lt_of_le h1 hS.1) (fun h => h2 (hF q h))]
      exact hS.2.1 q h1 h2
    · rcases List.mem_append.mp hz with h | h
      · exact hS.2.2 z h
      · exact hF _ (hL z h)
  obtain ⟨t2, a1, b1⟩ := k v wc' hpo T'.heap (locs ++ L) ls hP2 hD2 hS2 hl T' rfl X'
  exact ⟨t2, stp t2 a1, b1⟩
theorem j_callI (C : jC p s m args c cc nL Ts own D cI cZ cL A) {y : MethodName} {ws ws' : List Cond} {rm : Room} {bytes : ByteArray} {maxL index n : Nat} {ret : Option FieldType} {b : Nat} {As : List Value} {pre wc post : va_W} (hct : Cg l D cI cZ cL y ws rm (.ref b :: As) wc Po) (hG : GoodIn Ts ws) (hw9 : ws = Cond.code y bytes maxL none :: ws') (hini : Cond.initialized y.cls ∈ Ts) (hlk : Cond.methodLink own index y ∈ Ts) (him : Cond.instanceMethod y ∈ Ts) (hy1 : y.name = "<init>") (hd : y.cls ≠ "java/lang/invoke/MethodHandle" ∧ y.cls ≠ "java/lang/invoke/VarHandle" ∧ (parseMethodDescriptor y.desc).map (fun d => d.parameters.length) = some n) (hR : rm.frames + 1 ≤ R.frames ∧ 8 + (maxL + 11) + rm.locals ≤ R.locals)
    (hw : w = pre ++ (wc ++ post))  (hn : As.length = n) (hst : st = As.reverse ++ .ref b :: rest) (hro : (rest.map fun v => v.category).sum ≤ 8) (d : decode cc pc = .ok (.invokespecial index, 3)) (hf : cells + rm.cells ≤ R.cells ∧ slots + rm.slots ≤ R.slots)
    (k : ∀ (r : Option Value) (wc' : va_W), Po r wc' → J p l e R s m args below meth c D A nL (cells + rm.cells) (slots + rm.slots) Q (pre ++ (wc' ++ post)) (pc + 3) lv (r.toList ++ rest)) : J p l e R s m args below meth c D A nL cells slots Q w pc lv st := by
  intro H locs ls hP hD hS hl
  subst hw
  have hF : ∀ q, va_A wc H.size q → A q := by
    intro q h
    rcases h with ⟨k, e, h⟩ | h
    · exact hD.right.left.2 k _ h
    · exact C.2.2 q (Nat.le_trans hS.1 h)
  intro T hT X
  have hpre : ∀ U : State, U.heap = H → s.WarmedH U.vm → jPc D cI cZ cL (.ref b :: As) wc H.size (.ref b :: As).toArray U := fun U hU hW => ⟨rfl, by rw [hU], by rw [hU]; exact hP.right.left, C.2.1.warm hW, hD.right.left.weaken (fun _ _ _ _ => trivial)⟩
  obtain ⟨v, st₀, t, T', L, h0, X', hL, e1, e2, ⟨⟨r, wc', hv, hpo, hP1, hD1⟩, hF1⟩, stp⟩ := va_runI (g := F0 m pc ls st) (As := As) (rest := rest) C.1 (hct H.size) (cwI n C.1.2.2.2.2 hG hw9 rfl rfl (C.1.2.2.2.2 _ hini) (C.1.2.2.2.2 _ hlk) (C.1.2.2.2.2 _ him) hy1 hd hR) ⟨jPc.blind, hpre⟩ rfl hn hl.1 hst (lv_room hro) d hf T hT X
  cases hv
  have hk : ∀ q : Nat, q < H.size → ¬ va_A wc H.size q → T'.heap[q]? = H[q]? := fun q h1 h2 => by rw [e1, hF1.2 q (by rw [h0]; exact h1) h2, h0]
  rw [← e1] at hP1
  obtain ⟨hP2, hD2⟩ := j_frame hP hD hS C.2.2 hk hP1 hD1
  have hS2 : va_S A s.heap T'.heap (locs ++ L) := by
    refine ⟨Nat.le_trans hS.1 (by have := hF1.1; rw [h0] at this; rw [e1]; exact this), fun q h1 h2 => ?_, fun z hz => ?_⟩
    · rw [hk q (Nat.lt_of_lt_of_le h1 hS.1) (fun h => h2 (hF q h))]
      exact hS.2.1 q h1 h2
    · rcases List.mem_append.mp hz with h | h
      · exact hS.2.2 z h
      · exact hF _ (hL z h)
  obtain ⟨t2, a1, b1⟩ := k v wc' hpo T'.heap (locs ++ L) ls hP2 hD2 hS2 hl T' rfl X'
  exact ⟨t2, stp t2 a1, b1⟩
end JL
