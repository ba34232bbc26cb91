
section JScr
abbrev rmL_cell : Room := { frames := 0, cells := 0, slots := 0, locals := 0 }
def jPs (D : va_G) (cI cZ cL : ClassId) (b L : Nat) (xs : Nat → Int32) (av : List Value) (sz : Nat) : Array Value → State → Prop := fun a U => jPc D cI cZ cL av [] sz a U ∧ va_X b L xs U U.heap ∧ b < U.heap.size
/-- a contract of a method that reads the script -/
def CgS (l : Launch) (D : va_G) (cI cZ cL : ClassId) (b L : Nat) (xs : Nat → Int32) (y : MethodName) (ws : List Cond) (rm : Room) (av : List Value) (Po : Option Value → va_W → Prop) : Prop :=
  ∀ sz : Nat, Met l y ws rm (jPs D cI cZ cL b L xs av sz) (jQc D Po (va_A [] sz)) rm.cells rm.slots (va_A [] sz)
theorem jPs.blind {D : va_G} {cI cZ cL : ClassId} {b L : Nat} {xs : Nat → Int32} {av : List Value} {sz : Nat} : FrameBlind (jPs D cI cZ cL b L xs av sz) := fun a U g mk q =>
  ⟨jPc.blind a U g mk q.1, va_X.moved (u := U) (U := U.calling g mk a) (Vm.Alike.refl U.vm) q.2.1, q.2.2⟩
variable {p : Program} {l : Launch} {e : Env} {R : Room} {s : State} {m : MethodId} {args : Array Value} {below : List Frame} {meth : Method} {c : Code} {D : va_G} {cI cZ cL : ClassId} {A : Nat → Prop} {nL cells slots : Nat} {Q : State → Prop}
variable {cc : ByteArray} {Ts : List Cond} {own : String} {w w' : va_W} {pc : Nat} {lv lv' : List (Nat × Value)} {st rest : List Value} {Po : Option Value → va_W → Prop} {b L : Nat} {xs : Nat → Int32}
theorem CgS.ofJ {y : MethodName} {ws ws' : List Cond} {rm : Room} {av : List Value} {maxL : Nat} {ret : Option FieldType} (hy : plainName y.cls = true) (hown : y.cls = own) (hw : ws = Cond.code y cc maxL ret :: ws') (hlen : (lg_sl av).length ≤ maxL)
    (body : ∀ (p : Program) (e : Env) (s : State) (m : MethodId) (args : Array Value) (below : List Frame) (meth : Method) (c : Code) (A : Nat → Prop), jC p s m args c cc maxL ws own D cI cZ cL A → meth.sig.returnType = ret → meth.locks = false → va_X b L xs s s.heap → b < s.heap.size → ¬ A b →
      J p l e rm s m args below meth c D A maxL 0 0 (MQ below (jQc D Po A) args s rm.cells rm.slots A) [] 0 (lv_args 0 av) []) : CgS l D cI cZ cL b L xs y ws rm av Po := by
  intro sz
  refine Met.ofW (cc := cc) (maxL := maxL) (ret := ret) hy hw ?_
  intro p e s m args below meth c s₁ B hml hv
  obtain ⟨⟨rfl, hsz, hP, hK, hD0⟩, hX, hbl⟩ := hv
  have hown9 : s.vm.findClass own = some m.cls := by rw [← hown]; exact findClass_of_methodNamed B.named
  subst hsz
  have hl := lv_entry av (n := maxL) hlen
  rw [lg_entry_eq]
  refine body p e s m av.toArray below meth c (va_A [] s.heap.size) ⟨⟨B.exec, B.bytes, hml, hown9, atoms_spec (ws := ws) B.pre⟩, hK, fun q h => Or.inr h⟩ B.returns B.notSynchronized hX hbl ?_ s.heap [] _ hP hD0.self va_S.rf hl
  rintro (⟨k, e, h⟩ | h)
  · exact absurd h (by simp)
  · exact absurd hbl (Nat.not_lt.mpr h)
theorem j_callSS (C : jC p s m args c cc nL Ts own D cI cZ cL A) (hXs : va_X b L xs s s.heap) (hbl : b < s.heap.size) (hbA : ¬ A b) {y : MethodName} {ws ws' : List Cond} {rm : Room} {bytes : ByteArray} {maxL index n : Nat} {ret : Option FieldType} {As : List Value} (hct : CgS l D cI cZ cL b L xs y ws rm As Po) (hG : GoodIn Ts (va_wsS own index y ws)) (hw9 : ws = Cond.code y bytes maxL ret :: ws') (hd : y.cls ≠ "java/lang/invoke/MethodHandle" ∧ y.cls ≠ "java/lang/invoke/VarHandle" ∧ (parseMethodDescriptor y.desc).map (fun d => d.parameters.length) = some n) (hR : rm.frames + 1 ≤ R.frames ∧ 8 + (maxL + 11) + rm.locals ≤ R.locals)
    (hn : As.length = n) (hst : st = As.reverse ++ rest) (hro : (rest.map fun v => v.category).sum ≤ 8) (d : decode cc pc = .ok (.invokestatic index, 3)) (hf : cells + rm.cells ≤ R.cells ∧ slots + rm.slots ≤ R.slots)
    (k : ∀ (r : Option Value) (wc' : va_W), Po r wc' → J p l e R s m args below meth c D A nL (cells + rm.cells) (slots + rm.slots) Q (w ++ (wc' ++ [])) (pc + 3) lv (r.toList ++ rest)) : J p l e R s m args below meth c D A nL cells slots Q w pc lv st := by
  intro H locs ls hP hD hS hl
  have hF : ∀ q, va_A [] H.size q → A q := by
    intro q h
    rcases h with ⟨k, e, h⟩ | h
    · exact absurd h (by simp)
    · exact C.2.2 q (Nat.le_trans hS.1 h)
  intro T hT X
  have hpre : ∀ U : State, U.heap = H → s.WarmedH U.vm → jPs D cI cZ cL b L xs As H.size As.toArray U := fun U hU hW => ⟨⟨rfl, by rw [hU], fun k q hk => absurd hk (by simp), C.2.1.warm hW, ⟨fun i j x y hi => absurd hi (by simp), fun k q hk => trivial⟩⟩, by rw [hU]; exact va_X.moved hW.alike (hXs.kept (hS.2.1 b hbl hbA)), by rw [hU]; exact Nat.lt_of_lt_of_le hbl hS.1⟩
  obtain ⟨v, st₀, t, T', L, h0, X', hL, e1, e2, ⟨⟨r, wc', hv, hpo, hP1, hD1⟩, hF1⟩, stp⟩ := va_runS (g := F0 m pc ls st) (As := As) (rest := rest) C.1 (hct H.size) (va_cwS n C.1.2.2.2.2 hG hw9 rfl rfl hd hR) ⟨jPs.blind, hpre⟩ rfl hn hl.1 hst (lv_room hro) d hf T hT X
  cases hv
  have hk : ∀ q : Nat, q < H.size → ¬ va_A [] H.size q → T'.heap[q]? = H[q]? := fun q h1 h2 => by rw [e1, hF1.2 q (by rw [h0]; exact h1) h2, h0]
  rw [← e1] at hP1
  obtain ⟨hP2, hD2⟩ := j_frame (pre := w) (wc := []) (post := []) (by rw [List.append_nil, List.append_nil]; exact hP) (by rw [List.append_nil, List.append_nil]; exact hD) hS C.2.2 hk hP1 hD1
  have hS2 : va_S A s.heap T'.heap (locs ++ L) := by
    refine ⟨Nat.le_trans hS.1 (by have := hF1.1; rw [h0] at this; rw [e1]; exact this), fun q h1 h2 => ?_, fun z hz => ?_⟩
    · rw [hk q (Nat.lt_of_lt_of_le h1 hS.1) (fun h => h2 (hF q h))]
      exact hS.2.1 q h1 h2
    · rcases List.mem_append.mp hz with h | h
      · exact hS.2.2 z h
      · exact hF _ (hL z h)
  obtain ⟨t2, a1, b1⟩ := k v wc' hpo T'.heap (locs ++ L) ls hP2 hD2 hS2 hl T' rfl X'
  exact ⟨t2, stp t2 a1, b1⟩
theorem h_cell (l : Launch) (D : va_G) (cI cZ cL : ClassId) (b L : Nat) (xs : Nat → Int32) (hL : L ≤ 2561) : CgS l D cI cZ cL b L xs yL_cell wsL_cell rmL_cell [.ref b, .int (nI 0)] (fun r0 w0 => r0 = some (.int (if 0 < L then xs 0 else nI 0)) ∧ w0 = ([] : va_W)) := by
  refine CgS.ofJ (own := RL) (cc := cL_cell) (maxL := 2) (ret := some .int) (by decide) rfl rfl (Nat.le_of_ble_eq_true rfl) ?_
  intro p e s m args below meth c A CX hr hlocks hXs hbl hbA
  show J p l e rmL_cell s m args below meth c D A 2 0 0 (MQ below (jQc D (fun r0 w0 => r0 = some (.int (if 0 < L then xs 0 else nI 0)) ∧ w0 = ([] : va_W)) A) args s rmL_cell.cells rmL_cell.slots A) [] 0 [(0, .ref b), (1, .int (nI 0))] []
  refine j_iload_n CX 1 dL_cell_0 rfl rfl ?_
  refine j_aload_n CX 0 dL_cell_1 rfl rfl ?_
  refine j_slen CX hXs hbl hbA dL_cell_2 ?_
  refine j_icmpN_ge CX (by decide) (by omega) 12 dL_cell_3 (by decide) (fun h => ?_) (fun h => ?_)
  · refine j_iconst CX dL_cell_12 (show _ = (nI 0 : Int32) by decide) ?_
    exact j_iret CX hr hlocks dL_cell_13 ⟨by rw [if_neg (by omega)], rfl⟩
  · refine j_aload_n CX 0 dL_cell_6 rfl rfl ?_
    refine j_iload_n CX 1 dL_cell_7 rfl rfl ?_
    refine j_sld CX hXs hbl hbA 0 dL_cell_8 rfl h (by omega) ?_
    refine j_goto CX 13 dL_cell_9 (by decide) ?_
    exact j_iret CX hr hlocks dL_cell_13 ⟨by rw [if_pos h], rfl⟩
theorem j_rot {a b : va_W} (k : J p l e R s m args below meth c D A nL cells slots Q (b ++ a) pc lv st) : J p l e R s m args below meth c D A nL cells slots Q (a ++ b) pc lv st := by
  intro H locs ls hP hD hS hl
  refine k H locs ls (va_P.app hP.right hP.left) (va_D.app hD.right hD.left (fun i j x y hx hy e => ?_)) hS hl
  have h1 : (a ++ b)[a.length + i]? = some x := by rw [List.getElem?_append_right (by omega)]; simpa using hx
  have hj : j < a.length := (List.getElem?_eq_some_iff.mp hy).1
  have h2 : (a ++ b)[j]? = some y := by rw [List.getElem?_append_left hj]; exact hy
  have := hD.1 _ _ x y h1 h2 e
  omega
end JScr
theorem RelW.up {cI cZ : ClassId} {x a0 k : Nat} {wx wm : va_W} (h : RelW cI cZ x a0 k wx wm) : RelW cI cZ x a0 (k + 1) wx wm := by
  obtain ⟨az, af, ac, ab, aj, sp, n, va, re, tr, sh, C, K, F, fk, dn, ck, ch, bl, bk, U, jr, ja, jk, jq, a, thr, fc, cr, ln, cx, jo, wg, sr, vr, Cr, fw, fz, fh, G, di, B, ke, dO, fr, ma, st, hf, wa, ra, ag, rfl, rfl, rfl, hZ, hF, hC, hB, hJ⟩ := h
  exact RelW.mk rfl hZ hF hC hB hJ.up
