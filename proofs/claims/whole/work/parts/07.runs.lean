
theorem pnC_le (sh : Nat → Int32) (n : Nat) (C : Nat → Nat) : ∀ m k, k < m → pnC sh n C m k ≤ k := by
  intro m
  induction m with
  | zero => intro k h; omega
  | succ m ih =>
    intro k h
    show updN _ _ _ k ≤ k
    by_cases e : k = m
    · subst e; rw [updN_s]; exact lfcN_le _ _ _ _
    · rw [updN_n e]; exact ih k (by omega)
theorem cpyN_lt {P : Nat → Nat} {k p N : Nat} (hP : ∀ j, j < k → P j < N) (hp : p < k) : ∀ j, j < k - 1 → cpyN P P (p + 1) p (k - p - 1) j < N := by
  intro j hj
  unfold cpyN
  split
  · exact hP _ (by omega)
  · exact hP _ (by omega)
def flF (F : Nat → Nat) (fk w z h : Nat) : Nat := b2n (bsF F (kyF w z h) 200 0 fk < fk ∧ F (bsF F (kyF w z h) 200 0 fk) = kyF w z h)
theorem flF_le (F : Nat → Nat) (fk w z h : Nat) : flF F fk w z h ≤ 1 := by
  unfold flF b2n
  split <;> omega
abbrev RS : Type := (Nat → Int32) × (Nat → Nat) × (Nat → Int32) × Nat × Int32 × (Nat → Int32) × Nat
def bkL (bl : Nat → Int32) (k : Nat) (x : Int32) : Nat → Int32 := if k < 2000 then upd bl k x else bl
def bkN (k : Nat) : Nat := if k < 2000 then k + 1 else k
theorem bkN_le {k : Nat} (h : k ≤ 2000) : bkN k ≤ 2000 := by
  unfold bkN
  split <;> omega
/-- the takings of a zone: values, those present, what they did, how many are present, the chance, the book's lines, how many -/
noncomputable def zdF (sh : Nat → Int32) (n : Nat) (F : Nat → Nat) (fk z h : Nat) : Nat → RS → Bool × RS
  | 0, s => (false, s)
  | d + 1, (va, P, dn, ck, ch, bl, bk) =>
    if ck ≤ 0 then (false, (va, P, dn, ck, ch, bl, bk)) else
    if flF F fk (P (dv (nxH ch) % ck)) z h = 0 then
      (true, (upd va z (chg sh n va z), P, upd dn (P (dv (nxH ch) % ck)) (dn (P (dv (nxH ch) % ck)) + nI 1), ck, nxH ch, bkL bl bk (packF (P (dv (nxH ch) % ck)) z h (flF F fk (P (dv (nxH ch) % ck)) z h)), bkN bk))
    else zdF sh n F fk z h d (va, cpyN P P (dv (nxH ch) % ck + 1) (dv (nxH ch) % ck) (ck - dv (nxH ch) % ck - 1), upd dn (P (dv (nxH ch) % ck)) (-1), ck - 1, nxH ch, bkL bl bk (packF (P (dv (nxH ch) % ck)) z h (flF F fk (P (dv (nxH ch) % ck)) z h)), bkN bk)
theorem zdF_0 {sh : Nat → Int32} {n : Nat} {F : Nat → Nat} {fk z h d : Nat} {va : Nat → Int32} {P : Nat → Nat} {dn : Nat → Int32} {ck : Nat} {ch : Int32} {bl : Nat → Int32} {bk : Nat} (h0 : ck ≤ 0) : zdF sh n F fk z h d (va, P, dn, ck, ch, bl, bk) = (false, (va, P, dn, ck, ch, bl, bk)) := by
  cases d with
  | zero => rfl
  | succ d => show (if _ then _ else _) = _; rw [if_pos h0]
theorem zdF_ok {sh : Nat → Int32} {n : Nat} {F : Nat → Nat} {fk z h d : Nat} {va : Nat → Int32} {P : Nat → Nat} {dn : Nat → Int32} {ck : Nat} {ch : Int32} {bl : Nat → Int32} {bk : Nat} (h0 : 0 < ck) (hf : flF F fk (P (dv (nxH ch) % ck)) z h = 0) : zdF sh n F fk z h (d + 1) (va, P, dn, ck, ch, bl, bk) =
      (true, (upd va z (chg sh n va z), P, upd dn (P (dv (nxH ch) % ck)) (dn (P (dv (nxH ch) % ck)) + nI 1), ck, nxH ch, bkL bl bk (packF (P (dv (nxH ch) % ck)) z h (flF F fk (P (dv (nxH ch) % ck)) z h)), bkN bk)) := by
  show (if _ then _ else (if _ then _ else _)) = _
  rw [if_neg (by omega), if_pos hf]
theorem zdF_no {sh : Nat → Int32} {n : Nat} {F : Nat → Nat} {fk z h d : Nat} {va : Nat → Int32} {P : Nat → Nat} {dn : Nat → Int32} {ck : Nat} {ch : Int32} {bl : Nat → Int32} {bk : Nat} (h0 : 0 < ck) (hf : flF F fk (P (dv (nxH ch) % ck)) z h ≠ 0) : zdF sh n F fk z h (d + 1) (va, P, dn, ck, ch, bl, bk) =
      zdF sh n F fk z h d (va, cpyN P P (dv (nxH ch) % ck + 1) (dv (nxH ch) % ck) (ck - dv (nxH ch) % ck - 1), upd dn (P (dv (nxH ch) % ck)) (-1), ck - 1, nxH ch, bkL bl bk (packF (P (dv (nxH ch) % ck)) z h (flF F fk (P (dv (nxH ch) % ck)) z h)), bkN bk) := by
  show (if _ then _ else (if _ then _ else _)) = _
  rw [if_neg (by omega), if_neg hf]
/-- what the runs keep -/
def rsOk (s : RS) : Prop := s.2.2.2.1 ≤ 16 ∧ (∀ j, j < s.2.2.2.1 → s.2.1 j < 16) ∧ s.2.2.2.2.2.2 ≤ 2000
theorem zdF_ok2 (sh : Nat → Int32) (n : Nat) (F : Nat → Nat) (fk z h : Nat) : ∀ d s, rsOk s → rsOk (zdF sh n F fk z h d s).2 := by
  intro d
  induction d with
  | zero => intro s hs; exact hs
  | succ d ih =>
    intro s hs
    obtain ⟨va, P, dn, ck, ch, bl, bk⟩ := s
    obtain ⟨h1, h2, h3⟩ := hs
    by_cases h0 : ck ≤ 0
    · rw [zdF_0 h0]; exact ⟨h1, h2, h3⟩
    · by_cases hf : flF F fk (P (dv (nxH ch) % ck)) z h = 0
      · rw [zdF_ok (by omega) hf]; exact ⟨h1, h2, bkN_le h3⟩
      · rw [zdF_no (by omega) hf]
        exact ih _ ⟨Nat.le_trans (Nat.sub_le _ _) h1, cpyN_lt h2 (Nat.mod_lt _ (by omega)), bkN_le h3⟩
noncomputable def hdF (sh : Nat → Int32) (n : Nat) (F : Nat → Nat) (fk : Nat) (T : Nat → Nat) (h : Nat) : Nat → Nat → RS → Bool × RS
  | 0, _, s => (true, s)
  | d + 1, t, s => if (zdF sh n F fk (T t) h 16 s).1 = true then hdF sh n F fk T h d (t + 1) (zdF sh n F fk (T t) h 16 s).2 else (false, (zdF sh n F fk (T t) h 16 s).2)
theorem hdF_ok2 (sh : Nat → Int32) (n : Nat) (F : Nat → Nat) (fk : Nat) (T : Nat → Nat) (h : Nat) : ∀ d t s, rsOk s → rsOk (hdF sh n F fk T h d t s).2 := by
  intro d
  induction d with
  | zero => intro t s hs; exact hs
  | succ d ih =>
    intro t s hs
    unfold hdF
    split
    · exact ih _ _ (zdF_ok2 _ _ _ _ _ _ _ _ hs)
    · exact zdF_ok2 _ _ _ _ _ _ _ _ hs
abbrev HS : Type := (Nat → Int32) × RS
noncomputable def hdR (sh : Nat → Int32) (n : Nat) (F : Nat → Nat) (fk : Nat) (T : Nat → Nat) (h : Nat) (s : HS) : Bool × HS :=
  if (hdF sh n F fk T h n 0 s.2).1 = true then (true, (va_cpy s.2.1 s.1 0 0 n, (hdF sh n F fk T h n 0 s.2).2))
  else (false, (va_cpy s.2.1 s.1 0 0 n, (va_cpy (va_cpy s.2.1 s.1 0 0 n) (hdF sh n F fk T h n 0 s.2).2.1 0 0 n, (hdF sh n F fk T h n 0 s.2).2.2)))
theorem hdR_ok2 (sh : Nat → Int32) (n : Nat) (F : Nat → Nat) (fk : Nat) (T : Nat → Nat) (h : Nat) (s : HS) (hs : rsOk s.2) : rsOk (hdR sh n F fk T h s).2.2 := by
  have := hdF_ok2 sh n F fk T h n 0 s.2 hs
  unfold hdR
  split <;> exact this
noncomputable def rnF (sh : Nat → Int32) (n : Nat) (F : Nat → Nat) (fk : Nat) (T : Nat → Nat) (sp : Int32) : Nat → Nat → HS → Nat × HS
  | 0, h, s => (h, s)
  | d + 1, h, s => if (hdR sh n F fk T h s).1 = true then (if nI h = sp then (h + 1, (hdR sh n F fk T h s).2) else rnF sh n F fk T sp d (h + 1) (hdR sh n F fk T h s).2) else (h, (hdR sh n F fk T h s).2)
def xW (x : Nat) (az af ac ab aj : Nat → Nat) (sp : Int32) : va_W := [(x, .inr (5, [.ref (az 0), .ref (af 0), .ref (ac 0), .ref (ab 0), .ref (aj 0), .int sp]))]
