
theorem nxD_some {C dO : Nat → Nat} {c n : Nat} : ∀ d, d ≤ n → ¬ nxD C dO c n d = -1 → ∃ z, z < n ∧ nxD C dO c n d = nI z ∧ C z = c ∧ dO z = 0 := by
  intro d
  induction d with
  | zero => intro _ h; exact absurd rfl h
  | succ d ih =>
    intro hd h
    by_cases q : C (n - (d + 1)) = c ∧ dO (n - (d + 1)) = 0
    · exact ⟨n - (d + 1), by omega, if_pos q, q.1, q.2⟩
    · have e : nxD C dO c n (d + 1) = nxD C dO c n d := if_neg q
      rw [e] at h ⊢
      exact ih (by omega) h
theorem wkF_some {G : Nat → Nat} : ∀ d w b, b < cnF (fun k => G (w + k)) d → ∃ x, x < w + d ∧ wkF G d w b = nI x ∧ G x = 0 := by
  intro d
  induction d with
  | zero => intro w b h; exact absurd h (Nat.not_lt_zero _)
  | succ d ih =>
    intro w b h
    have sh : cnF (fun k => G (w + k)) (d + 1) = (if G w = 0 then 1 else 0) + cnF (fun k => G (w + 1 + k)) d := by
      clear ih h
      induction d with
      | zero => show (if G (w + 0) = 0 then _ else _) = _; simp only [Nat.add_zero, cnF]
      | succ d ih2 =>
        have e1 : cnF (fun k => G (w + k)) (d + 1 + 1) = if G (w + (d + 1)) = 0 then cnF (fun k => G (w + k)) (d + 1) + 1 else cnF (fun k => G (w + k)) (d + 1) := rfl
        have e2 : cnF (fun k => G (w + 1 + k)) (d + 1) = if G (w + 1 + d) = 0 then cnF (fun k => G (w + 1 + k)) d + 1 else cnF (fun k => G (w + 1 + k)) d := rfl
        rw [e1, e2, ih2, show w + (d + 1) = w + 1 + d by omega]
        split <;> omega
    rw [sh] at h
    by_cases g : G w = 0
    · rw [if_pos g] at h
      by_cases b0 : b = 0
      · exact ⟨w, by omega, wkF_h g b0, g⟩
      · rw [wkF_n g b0]
        obtain ⟨x, h1, h2, h3⟩ := ih (w + 1) (b - 1) (by omega)
        exact ⟨x, by omega, h2, h3⟩
    · rw [if_neg g] at h
      rw [wkF_g g]
      obtain ⟨x, h1, h2, h3⟩ := ih (w + 1) b (by omega)
      exact ⟨x, by omega, h2, h3⟩
theorem cnF_same {G H : Nat → Nat} : ∀ k, (∀ j, j < k → G j = H j) → cnF G k = cnF H k := by
  intro k
  induction k with
  | zero => intro _; rfl
  | succ k ih =>
    intro h
    unfold cnF
    rw [ih (fun j hj => h j (by omega)), h k (by omega)]
theorem cnF_upd {G : Nat → Nat} {w : Nat} (hg : G w = 0) : ∀ k, w < k → cnF (updN G w 1) k + 1 = cnF G k := by
  intro k
  induction k with
  | zero => intro h; omega
  | succ k ih =>
    intro h
    show (if updN G w 1 k = 0 then _ else _) + 1 = (if G k = 0 then _ else _)
    by_cases e : w = k
    · subst e
      rw [updN_s, if_neg (by decide), if_pos hg, cnF_same w (fun j hj => updN_n (by omega))]
    · rw [updN_n (fun q => e q.symm)]
      have := ih (by omega)
      split <;> omega
theorem wk1 {G : Nat → Nat} {cr : Nat} (h : cnF G cr ≠ 0) (v : Nat) : ∃ x, x < cr ∧ wkF G cr 0 (v % cnF G cr) = nI x ∧ G x = 0 := by
  obtain ⟨x, h1, h2, h3⟩ := wkF_some (G := G) cr 0 (v % cnF G cr) (by
    rw [show cnF (fun k => G (0 + k)) cr = cnF G cr from cnF_same cr (fun j _ => congrArg G (Nat.zero_add j))]
    exact Nat.mod_lt _ (Nat.pos_of_ne_zero h))
  exact ⟨x, by omega, h2, h3⟩
abbrev QS : Type := (Nat → Int32) × (Nat → Nat) × (Nat → Int32) × Int32 × (Nat → Nat) × Nat × (Nat → Nat)
/-- the takings of one colour, by the reference -/
noncomputable def rwF (sh : Nat → Int32) (n : Nat) (C fw fz fh : Nat → Nat) (fc cr h c : Nat) : Nat → QS → Bool × QS
  | 0, s => (false, s)
  | d + 1, (va, G, di, cx, B, ln, dO) =>
    if nxD C dO c n n = -1 then (true, (va, G, di, cx, B, ln, dO)) else
    if cnF G cr = 0 then (false, (va, G, di, cx, B, ln, dO)) else
    if fiF fw fz fh (wkF G cr 0 (dv (nxH cx) % cnF G cr)).toNatClampNeg (nxD C dO c n n).toNatClampNeg h fc 0 = -1 then
      rwF sh n C fw fz fh fc cr h c d (upd va (nxD C dO c n n).toNatClampNeg (ch24 sh n va (nxD C dO c n n).toNatClampNeg), G, upd di (wkF G cr 0 (dv (nxH cx) % cnF G cr)).toNatClampNeg (di (wkF G cr 0 (dv (nxH cx) % cnF G cr)).toNatClampNeg + nI 1), nxH cx, wrB B ln (wkF G cr 0 (dv (nxH cx) % cnF G cr)).toNatClampNeg (nxD C dO c n n).toNatClampNeg h 0, bkN ln, updN dO (nxD C dO c n n).toNatClampNeg 1)
    else rwF sh n C fw fz fh fc cr h c d (va, updN G (wkF G cr 0 (dv (nxH cx) % cnF G cr)).toNatClampNeg 1, di, nxH cx, wrB B ln (wkF G cr 0 (dv (nxH cx) % cnF G cr)).toNatClampNeg (nxD C dO c n n).toNatClampNeg h 1, bkN ln, dO)
variable {sh : Nat → Int32} {n : Nat} {C fw fz fh : Nat → Nat} {fc cr h c d : Nat} {va : Nat → Int32} {G : Nat → Nat} {di : Nat → Int32} {cx : Int32} {B : Nat → Nat} {ln : Nat} {dO : Nat → Nat} in
theorem rwF_e (h1 : nxD C dO c n n = -1) : rwF sh n C fw fz fh fc cr h c (d + 1) (va, G, di, cx, B, ln, dO) = (true, (va, G, di, cx, B, ln, dO)) := by
  rw [rwF, if_pos h1]
variable {sh : Nat → Int32} {n : Nat} {C fw fz fh : Nat → Nat} {fc cr h c d : Nat} {va : Nat → Int32} {G : Nat → Nat} {di : Nat → Int32} {cx : Int32} {B : Nat → Nat} {ln : Nat} {dO : Nat → Nat} in
theorem rwF_g {z : Nat} (h1 : nxD C dO c n n = nI z) (hz : z < 2 ^ 31) (h2 : cnF G cr = 0) : rwF sh n C fw fz fh fc cr h c (d + 1) (va, G, di, cx, B, ln, dO) = (false, (va, G, di, cx, B, ln, dO)) := by
  rw [rwF, if_neg (by rw [h1]; exact nI_nm1 hz), if_pos h2]
variable {sh : Nat → Int32} {n : Nat} {C fw fz fh : Nat → Nat} {fc cr h c d : Nat} {va : Nat → Int32} {G : Nat → Nat} {di : Nat → Int32} {cx : Int32} {B : Nat → Nat} {ln : Nat} {dO : Nat → Nat} in
theorem rwF_ok {z w : Nat} (h1 : nxD C dO c n n = nI z) (hz : z < 2 ^ 31) (h2 : cnF G cr ≠ 0) (h3 : wkF G cr 0 (dv (nxH cx) % cnF G cr) = nI w) (hw : w < 2 ^ 31) (h4 : fiF fw fz fh w z h fc 0 = -1) : rwF sh n C fw fz fh fc cr h c (d + 1) (va, G, di, cx, B, ln, dO) =
    rwF sh n C fw fz fh fc cr h c d (upd va z (ch24 sh n va z), G, upd di w (di w + nI 1), nxH cx, wrB B ln w z h 0, bkN ln, updN dO z 1) := by
  rw [rwF, if_neg (by rw [h1]; exact nI_nm1 hz), if_neg h2, h1, h3, nI_clamp hz, nI_clamp hw, if_pos h4]
variable {sh : Nat → Int32} {n : Nat} {C fw fz fh : Nat → Nat} {fc cr h c d : Nat} {va : Nat → Int32} {G : Nat → Nat} {di : Nat → Int32} {cx : Int32} {B : Nat → Nat} {ln : Nat} {dO : Nat → Nat} in
theorem rwF_no {z w : Nat} (h1 : nxD C dO c n n = nI z) (hz : z < 2 ^ 31) (h2 : cnF G cr ≠ 0) (h3 : wkF G cr 0 (dv (nxH cx) % cnF G cr) = nI w) (hw : w < 2 ^ 31) (h4 : ¬ fiF fw fz fh w z h fc 0 = -1) : rwF sh n C fw fz fh fc cr h c (d + 1) (va, G, di, cx, B, ln, dO) =
    rwF sh n C fw fz fh fc cr h c d (va, updN G w 1, di, nxH cx, wrB B ln w z h 1, bkN ln, dO) := by
  rw [rwF, if_neg (by rw [h1]; exact nI_nm1 hz), if_neg h2, h1, h3, nI_clamp hz, nI_clamp hw, if_neg h4]
noncomputable def roF (sh : Nat → Int32) (n : Nat) (C fw fz fh : Nat → Nat) (fc cr h : Nat) : Nat → Nat → QS → Bool × QS
  | 0, _, s => (true, s)
  | d + 1, c, s => if (rwF sh n C fw fz fh fc cr h c 41 s).1 = true then roF sh n C fw fz fh fc cr h d (c + 1) (rwF sh n C fw fz fh fc cr h c 41 s).2 else (false, (rwF sh n C fw fz fh fc cr h c 41 s).2)
theorem roF_t {sh : Nat → Int32} {n : Nat} {C fw fz fh : Nat → Nat} {fc cr h d c : Nat} {s s2 : QS} (q : rwF sh n C fw fz fh fc cr h c 41 s = (true, s2)) : roF sh n C fw fz fh fc cr h (d + 1) c s = roF sh n C fw fz fh fc cr h d (c + 1) s2 := by
  rw [roF, q, if_pos rfl]
theorem roF_f {sh : Nat → Int32} {n : Nat} {C fw fz fh : Nat → Nat} {fc cr h d c : Nat} {s s2 : QS} (q : rwF sh n C fw fz fh fc cr h c 41 s = (false, s2)) : roF sh n C fw fz fh fc cr h (d + 1) c s = (false, s2) := by
  rw [roF, q, if_neg Bool.false_ne_true]
def qsOk (n cr : Nat) (s : QS) : Prop := s.2.2.2.2.2.1 ≤ 2000 ∧ (∀ k, k < cr → s.2.1 k ≤ 1) ∧ (∀ k, k < n → s.2.2.2.2.2.2 k ≤ 1)
theorem updN_le {G : Nat → Nat} {k w : Nat} (h : ∀ j, j < k → G j ≤ 1) : ∀ j, j < k → updN G w 1 j ≤ 1 := by
  intro j hj
  unfold updN
  split
  · exact Nat.le_refl _
  · exact h j hj
def kcF (ke va : Nat → Int32) : Nat → Nat → Int32
  | 0 => ke
  | k + 1 => upd (kcF ke va k) k (va k)
def dzF (dO : Nat → Nat) : Nat → Nat → Nat
  | 0 => dO
  | k + 1 => updN (dzF dO k) k 0
theorem kcF_val (ke va : Nat → Int32) : ∀ k j, kcF ke va k j = if j < k then va j else ke j := by
  intro k
  induction k with
  | zero => intro j; rw [if_neg (by omega)]; rfl
  | succ k ih =>
    intro j
    show upd _ k _ j = _
    by_cases e : j = k
    · subst e; rw [pk_us, if_pos (by omega)]
    · rw [pk_un e, ih]
      by_cases q : j < k
      · rw [if_pos q, if_pos (by omega)]
      · rw [if_neg q, if_neg (by omega)]
theorem dzF_val (dO : Nat → Nat) : ∀ k j, dzF dO k j = if j < k then 0 else dO j := by
  intro k
  induction k with
  | zero => intro j; rw [if_neg (by omega)]; rfl
  | succ k ih =>
    intro j
    show updN _ k _ j = _
    by_cases e : j = k
    · subst e; rw [updN_s, if_pos (by omega)]
    · rw [updN_n e, ih]
      by_cases q : j < k
      · rw [if_pos q, if_pos (by omega)]
      · rw [if_neg q, if_neg (by omega)]
