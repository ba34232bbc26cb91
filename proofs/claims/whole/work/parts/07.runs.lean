
theorem pnC_le (sh : Nat → Int32) (n : Nat) (C : Nat → Nat) : ∀ m k, k < m → pnC sh n C m k ≤ k := by
  intro m
  induction m with
  | zero => intro k h; omega
  | succ m ih =>
    intro k h
    show updN _ _ _ k ≤ k
    by_cases e : k = m
    · subst e; rw [updN_s]; exact lfcN_le _ _ _ _
    · rw [updN_n e]; exact ih k (by omega)
def flF (F : Nat → Nat) (fk w z h : Nat) : Nat := b2n (bsF F (kyF w z h) 200 0 fk < fk ∧ F (bsF F (kyF w z h) 200 0 fk) = kyF w z h)
theorem flF_le (F : Nat → Nat) (fk w z h : Nat) : flF F fk w z h ≤ 1 := by
  unfold flF b2n
  split <;> omega
abbrev RS : Type := (Nat → Int32) × (Nat → Int32) × Nat × Int32 × (Nat → Int32) × Nat
def bkL (bl : Nat → Int32) (k : Nat) (x : Int32) : Nat → Int32 := if k < 2000 then upd bl k x else bl
def bkN (k : Nat) : Nat := if k < 2000 then k + 1 else k
theorem bkN_le {k : Nat} (h : k ≤ 2000) : bkN k ≤ 2000 := by
  unfold bkN
  split <;> omega
/-- the takings of a zone: values, what the workers did, how many are left, the chance, the book's lines, how many -/
noncomputable def zdF (sh : Nat → Int32) (n : Nat) (F : Nat → Nat) (fk z h : Nat) : Nat → RS → Bool × RS
  | 0, s => (false, s)
  | d + 1, (va, dn, ck, ch, bl, bk) =>
    if ck ≤ 0 then (false, (va, dn, ck, ch, bl, bk)) else
    if dwF dn ck ch < 16 then
      (if flF F fk (dwF dn ck ch) z h = 0 then (true, (upd va z (chg sh n va z), upd dn (dwF dn ck ch) (dn (dwF dn ck ch) + nI 1), ck, nxH ch, bkL bl bk (packF (dwF dn ck ch) z h (flF F fk (dwF dn ck ch) z h)), bkN bk))
      else zdF sh n F fk z h d (va, upd dn (dwF dn ck ch) (-1), ck - 1, nxH ch, bkL bl bk (packF (dwF dn ck ch) z h (flF F fk (dwF dn ck ch) z h)), bkN bk))
    else (false, (va, dn, ck, nxH ch, bl, bk))
theorem zdF_0 {sh : Nat → Int32} {n : Nat} {F : Nat → Nat} {fk z h d : Nat} {va dn : Nat → Int32} {ck : Nat} {ch : Int32} {bl : Nat → Int32} {bk : Nat} (h0 : ck ≤ 0) : zdF sh n F fk z h d (va, dn, ck, ch, bl, bk) = (false, (va, dn, ck, ch, bl, bk)) := by
  cases d with
  | zero => rfl
  | succ d => show (if _ then _ else _) = _; rw [if_pos h0]
theorem zdF_x {sh : Nat → Int32} {n : Nat} {F : Nat → Nat} {fk z h d : Nat} {va dn : Nat → Int32} {ck : Nat} {ch : Int32} {bl : Nat → Int32} {bk : Nat} (h0 : 0 < ck) (hw : ¬ dwF dn ck ch < 16) : zdF sh n F fk z h (d + 1) (va, dn, ck, ch, bl, bk) = (false, (va, dn, ck, nxH ch, bl, bk)) := by
  show (if _ then _ else (if _ then _ else _)) = _
  rw [if_neg (by omega), if_neg hw]
theorem zdF_ok {sh : Nat → Int32} {n : Nat} {F : Nat → Nat} {fk z h d : Nat} {va dn : Nat → Int32} {ck : Nat} {ch : Int32} {bl : Nat → Int32} {bk : Nat} {w : Nat} (h0 : 0 < ck) (hw : dwF dn ck ch = w) (h16 : w < 16) (hf : flF F fk w z h = 0) : zdF sh n F fk z h (d + 1) (va, dn, ck, ch, bl, bk) = (true, (upd va z (chg sh n va z), upd dn w (dn w + nI 1), ck, nxH ch, bkL bl bk (packF w z h (flF F fk w z h)), bkN bk)) := by
  subst hw
  show (if _ then _ else (if _ then (if _ then _ else _) else _)) = _
  rw [if_neg (by omega), if_pos h16, if_pos hf]
theorem zdF_no {sh : Nat → Int32} {n : Nat} {F : Nat → Nat} {fk z h d : Nat} {va dn : Nat → Int32} {ck : Nat} {ch : Int32} {bl : Nat → Int32} {bk : Nat} {w : Nat} (h0 : 0 < ck) (hw : dwF dn ck ch = w) (h16 : w < 16) (hf : flF F fk w z h ≠ 0) : zdF sh n F fk z h (d + 1) (va, dn, ck, ch, bl, bk) = zdF sh n F fk z h d (va, upd dn w (-1), ck - 1, nxH ch, bkL bl bk (packF w z h (flF F fk w z h)), bkN bk) := by
  subst hw
  show (if _ then _ else (if _ then (if _ then _ else _) else _)) = _
  rw [if_neg (by omega), if_pos h16, if_neg hf]
/-- what the runs keep -/
def rsOk (s : RS) : Prop := s.2.2.1 ≤ 16 ∧ s.2.2.2.2.2 ≤ 2000
theorem zdF_ok2 (sh : Nat → Int32) (n : Nat) (F : Nat → Nat) (fk z h : Nat) : ∀ d s, rsOk s → rsOk (zdF sh n F fk z h d s).2 := by
  intro d
  induction d with
  | zero => intro s hs; exact hs
  | succ d ih =>
    intro s hs
    obtain ⟨va, dn, ck, ch, bl, bk⟩ := s
    obtain ⟨h1, h2⟩ := hs
    by_cases h0 : ck ≤ 0
    · rw [zdF_0 h0]; exact ⟨h1, h2⟩
    · by_cases hw : dwF dn ck ch < 16
      · by_cases hf : flF F fk (dwF dn ck ch) z h = 0
        · rw [zdF_ok (by omega) rfl hw hf]; exact ⟨h1, bkN_le h2⟩
        · rw [zdF_no (by omega) rfl hw hf]
          exact ih _ ⟨Nat.le_trans (Nat.sub_le _ _) h1, bkN_le h2⟩
      · rw [zdF_x (by omega) hw]; exact ⟨h1, h2⟩
/-- a stage, from the zone k on -/
noncomputable def sdF (sh : Nat → Int32) (n : Nat) (F : Nat → Nat) (fk : Nat) (C : Nat → Nat) (h c : Nat) : Nat → Nat → RS → Bool × RS
  | 0, _, s => (true, s)
  | d + 1, k, s => if C k = c then (if (zdF sh n F fk k h 16 s).1 = true then sdF sh n F fk C h c d (k + 1) (zdF sh n F fk k h 16 s).2 else (false, (zdF sh n F fk k h 16 s).2)) else sdF sh n F fk C h c d (k + 1) s
theorem sdF_n {sh : Nat → Int32} {n : Nat} {F : Nat → Nat} {fk : Nat} {C : Nat → Nat} {h c d k : Nat} {s : RS} (q : C k ≠ c) : sdF sh n F fk C h c (d + 1) k s = sdF sh n F fk C h c d (k + 1) s := by
  rw [sdF, if_neg q]
theorem sdF_t {sh : Nat → Int32} {n : Nat} {F : Nat → Nat} {fk : Nat} {C : Nat → Nat} {h c d k : Nat} {s : RS} (q : C k = c) (q2 : (zdF sh n F fk k h 16 s).1 = true) : sdF sh n F fk C h c (d + 1) k s = sdF sh n F fk C h c d (k + 1) (zdF sh n F fk k h 16 s).2 := by
  rw [sdF, if_pos q, if_pos q2]
theorem sdF_f {sh : Nat → Int32} {n : Nat} {F : Nat → Nat} {fk : Nat} {C : Nat → Nat} {h c d k : Nat} {s : RS} (q : C k = c) (q2 : ¬ (zdF sh n F fk k h 16 s).1 = true) : sdF sh n F fk C h c (d + 1) k s = (false, (zdF sh n F fk k h 16 s).2) := by
  rw [sdF, if_pos q, if_neg q2]
theorem sdF_ok2 (sh : Nat → Int32) (n : Nat) (F : Nat → Nat) (fk : Nat) (C : Nat → Nat) (h c : Nat) : ∀ d k s, rsOk s → rsOk (sdF sh n F fk C h c d k s).2 := by
  intro d
  induction d with
  | zero => intro k s hs; exact hs
  | succ d ih =>
    intro k s hs
    by_cases q : C k = c
    · by_cases q2 : (zdF sh n F fk k h 16 s).1 = true
      · rw [sdF_t q q2]; exact ih _ _ (zdF_ok2 _ _ _ _ _ _ _ _ hs)
      · rw [sdF_f q q2]; exact zdF_ok2 _ _ _ _ _ _ _ _ hs
    · rw [sdF_n q]; exact ih _ _ hs
/-- an hour, from the stage c on -/
noncomputable def hdF (sh : Nat → Int32) (n : Nat) (F : Nat → Nat) (fk : Nat) (C : Nat → Nat) (h : Nat) : Nat → Nat → RS → Bool × RS
  | 0, _, s => (true, s)
  | d + 1, c, s => if (sdF sh n F fk C h c n 0 s).1 = true then hdF sh n F fk C h d (c + 1) (sdF sh n F fk C h c n 0 s).2 else (false, (sdF sh n F fk C h c n 0 s).2)
theorem hdF_ok2 (sh : Nat → Int32) (n : Nat) (F : Nat → Nat) (fk : Nat) (C : Nat → Nat) (h : Nat) : ∀ d c s, rsOk s → rsOk (hdF sh n F fk C h d c s).2 := by
  intro d
  induction d with
  | zero => intro c s hs; exact hs
  | succ d ih =>
    intro c s hs
    unfold hdF
    split
    · exact ih _ _ (sdF_ok2 _ _ _ _ _ _ _ _ _ _ hs)
    · exact sdF_ok2 _ _ _ _ _ _ _ _ _ _ hs
abbrev HS : Type := (Nat → Int32) × RS
noncomputable def hdR (sh : Nat → Int32) (n : Nat) (F : Nat → Nat) (fk : Nat) (C : Nat → Nat) (K h : Nat) (s : HS) : Bool × HS :=
  if (hdF sh n F fk C h K 0 s.2).1 = true then (true, (va_cpy s.2.1 s.1 0 0 n, (hdF sh n F fk C h K 0 s.2).2))
  else (false, (va_cpy s.2.1 s.1 0 0 n, (va_cpy (va_cpy s.2.1 s.1 0 0 n) (hdF sh n F fk C h K 0 s.2).2.1 0 0 n, (hdF sh n F fk C h K 0 s.2).2.2)))
theorem hdR_ok2 (sh : Nat → Int32) (n : Nat) (F : Nat → Nat) (fk : Nat) (C : Nat → Nat) (K h : Nat) (s : HS) (hs : rsOk s.2) : rsOk (hdR sh n F fk C K h s).2.2 := by
  have := hdF_ok2 sh n F fk C h K 0 s.2 hs
  unfold hdR
  split <;> exact this
noncomputable def rnF (sh : Nat → Int32) (n : Nat) (F : Nat → Nat) (fk : Nat) (C : Nat → Nat) (K : Nat) (sp : Int32) : Nat → Nat → HS → Nat × HS
  | 0, h, s => (h, s)
  | d + 1, h, s => if (hdR sh n F fk C K h s).1 = true then (if nI h = sp then (h + 1, (hdR sh n F fk C K h s).2) else rnF sh n F fk C K sp d (h + 1) (hdR sh n F fk C K h s).2) else (h, (hdR sh n F fk C K h s).2)
def xW (x : Nat) (az af ac ab aj : Nat → Nat) (sp : Int32) : va_W := [(x, .inr (5, [.ref (az 0), .ref (af 0), .ref (ac 0), .ref (ab 0), .ref (aj 0), .int sp]))]
