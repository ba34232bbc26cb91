
section JLaw
theorem j_sld {p : Program} {l : Launch} {e : Env} {R : Room} {s : State} {m : MethodId} {args : Array Value} {below : List Frame} {meth : Method} {c : Code} {D : va_G} {cI cZ cL : ClassId} {A : Nat → Prop} {nL cells slots : Nat} {Q : State → Prop} {cc : ByteArray} {Ts : List Cond} {own : String} {w : va_W} {pc : Nat} {lv : List (Nat × Value)} {rest : List Value} (C : jC p s m args c cc nL Ts own D cI cZ cL A) {b L : Nat} {xs : Nat → Int32} (hXs : va_X b L xs s s.heap) (hbl : b < s.heap.size) (hbA : ¬ A b) {i : Int32} (k9 : Nat) (d : decode cc pc = .ok (.iaload, 1)) (hi : i = nI k9) (hk : k9 < L) (hL : L < 2 ^ 31)
    (k : J p l e R s m args below meth c D A nL cells slots Q w (pc + 1) lv (.int (xs k9) :: rest)) : J p l e R s m args below meth c D A nL cells slots Q w pc lv (.int i :: .ref b :: rest) := fun H locs ls hP hD hS hl => va_sld C.1.1 C.1.2.1 hXs hbl hbA hS (j_ix hi hk hL).1 d (by rw [(j_ix hi hk hL).2]; exact (k H locs ls hP hD hS hl))
theorem j_slen {p : Program} {l : Launch} {e : Env} {R : Room} {s : State} {m : MethodId} {args : Array Value} {below : List Frame} {meth : Method} {c : Code} {D : va_G} {cI cZ cL : ClassId} {A : Nat → Prop} {nL cells slots : Nat} {Q : State → Prop} {cc : ByteArray} {Ts : List Cond} {own : String} {w : va_W} {pc : Nat} {lv : List (Nat × Value)} {rest : List Value} (C : jC p s m args c cc nL Ts own D cI cZ cL A) {b L : Nat} {xs : Nat → Int32} (hXs : va_X b L xs s s.heap) (hbl : b < s.heap.size) (hbA : ¬ A b) (d : decode cc pc = .ok (.arraylength, 1))
    (k : J p l e R s m args below meth c D A nL cells slots Q w (pc + 1) lv (.int (nI L) :: rest)) : J p l e R s m args below meth c D A nL cells slots Q w pc lv (.ref b :: rest) := fun H locs ls hP hD hS hl => va_slen C.1.1 C.1.2.1 hXs hbl hbA hS d (k H locs ls hP hD hS hl)
theorem mid_at {wm wx : va_W} {q : Nat × va_E} : (wm ++ ([q] ++ wx))[wm.length]? = some q := by
  rw [List.getElem?_append_right (Nat.le_refl _), Nat.sub_self]
  rfl
/-- what the reference says that it has thrown -/
def Thr (l : Launch) (D : va_G) (cI cZ cL : ClassId) (a0 c9 : Nat) (wm : va_W) : Prop := Cg l D cI cZ cL yX6_thrown wsX6_thrown rmX6_thrown [.ref a0] wm (fun r0 w0 => r0 = some (.int (nI c9)) ∧ w0 = wm)
def CgR (l : Launch) (D : va_G) (cI cZ cL : ClassId) (y : MethodName) (ws : List Cond) (rm : Room) (av : List Value) (w : va_W) (v : Value) (w' : va_W) : Prop := Cg l D cI cZ cL y ws rm av w (fun r0 w0 => r0 = some v ∧ w0 = w')
/-- a call that may throw, on both sides: the same answer, or the same exception; the worlds stay related -/
def StI (l : Launch) (D : va_G) (cI cZ cL : ClassId) (σ : Nat → Nat) (x a0 : Nat) (Rel : Nat → va_W → va_W → Prop) (k : Nat) (yX : MethodName) (wsX : List Cond) (rmX rmxX : Room) (yM : MethodName) (wsM : List Cond) (rmM : Room) (As : List Value) (wx wm : va_W) : Prop :=
  (∃ (v : Int32) (wx2 wm2 : va_W), CgR l D cI cZ cL yX wsX rmX (.ref x :: As) wx (.int v) wx2 ∧ CgR l D cI cZ cL yM wsM rmM (.ref a0 :: As) wm (.int v) wm2 ∧ Thr l D cI cZ cL a0 0 wm2 ∧ Rel (k + 1) wx2 wm2) ∨
  (∃ (u : Int32) (wm2 : va_W), Cx l D cI cZ cL σ yX wsX rmxX (.ref x :: As) wx jIAE ∧ CgR l D cI cZ cL yM wsM rmM (.ref a0 :: As) wm (.int u) wm2 ∧ Thr l D cI cZ cL a0 1 wm2 ∧ Rel (k + 1) wx wm2) ∨
  (∃ (u : Int32) (wm2 : va_W), Cx l D cI cZ cL σ yX wsX rmxX (.ref x :: As) wx jISE ∧ CgR l D cI cZ cL yM wsM rmM (.ref a0 :: As) wm (.int u) wm2 ∧ Thr l D cI cZ cL a0 2 wm2 ∧ Rel (k + 1) wx wm2)
/-- a call that throws one exception at most -/
def StA (l : Launch) (D : va_G) (cI cZ cL : ClassId) (σ : Nat → Nat) (x a0 : Nat) (Rel : Nat → va_W → va_W → Prop) (k : Nat) (yX : MethodName) (wsX : List Cond) (rmX rmxX : Room) (yM : MethodName) (wsM : List Cond) (rmM : Room) (As : List Value) (wx wm : va_W) : Prop :=
  (∃ (v : Int32) (wx2 wm2 : va_W), CgR l D cI cZ cL yX wsX rmX (.ref x :: As) wx (.int v) wx2 ∧ CgR l D cI cZ cL yM wsM rmM (.ref a0 :: As) wm (.int v) wm2 ∧ Thr l D cI cZ cL a0 0 wm2 ∧ Rel (k + 1) wx2 wm2) ∨
  (∃ (u : Int32) (wm2 : va_W), Cx l D cI cZ cL σ yX wsX rmxX (.ref x :: As) wx jIAE ∧ CgR l D cI cZ cL yM wsM rmM (.ref a0 :: As) wm (.int u) wm2 ∧ Thr l D cI cZ cL a0 1 wm2 ∧ Rel (k + 1) wx wm2)
/-- a call that throws nothing -/
def StN (l : Launch) (D : va_G) (cI cZ cL : ClassId) (x a0 : Nat) (Rel : Nat → va_W → va_W → Prop) (k : Nat) (yX : MethodName) (wsX : List Cond) (rmX : Room) (yM : MethodName) (wsM : List Cond) (rmM : Room) (wx wm : va_W) : Prop :=
  ∃ (v : Int32) (wx2 : va_W) (Po : Option Value → va_W → Prop), CgR l D cI cZ cL yX wsX rmX [.ref x] wx (.int v) wx2 ∧ Cg l D cI cZ cL yM wsM rmM [.ref a0] wm Po ∧ ∀ r0 w0, Po r0 w0 → r0 = some (.int v) ∧ Rel (k + 1) wx2 w0
end JLaw
