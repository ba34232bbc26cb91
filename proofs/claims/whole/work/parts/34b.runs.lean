
theorem rwF_ok2 (sh : Nat → Int32) (n : Nat) (C fw fz fh : Nat → Nat) (fc cr h c : Nat) : ∀ d s, qsOk n cr s → qsOk n cr (rwF sh n C fw fz fh fc cr h c d s).2 := by
  intro d
  induction d with
  | zero => intro s hs; exact hs
  | succ d ih =>
    intro s hs
    obtain ⟨va, G, di, cx, B, ln, dO⟩ := s
    obtain ⟨h1, h2, h3⟩ := hs
    rw [rwF]
    split
    · exact ⟨h1, h2, h3⟩
    · split
      · exact ⟨h1, h2, h3⟩
      · split
        · exact ih _ ⟨bkN_le h1, h2, updN_le h3⟩
        · exact ih _ ⟨bkN_le h1, updN_le h2, h3⟩
theorem roF_ok2 (sh : Nat → Int32) (n : Nat) (C fw fz fh : Nat → Nat) (fc cr h : Nat) : ∀ d c s, qsOk n cr s → qsOk n cr (roF sh n C fw fz fh fc cr h d c s).2 := by
  intro d
  induction d with
  | zero => intro c s hs; exact hs
  | succ d ih =>
    intro c s hs
    rw [roF]
    split
    · exact ih _ _ (rwF_ok2 _ _ _ _ _ _ _ _ _ _ _ _ hs)
    · exact rwF_ok2 _ _ _ _ _ _ _ _ _ _ _ _ hs
abbrev KQ : Type := (Nat → Int32) × QS
/-- an hour of the reference: what was kept, and the rest -/
noncomputable def rhR (sh : Nat → Int32) (n : Nat) (C fw fz fh : Nat → Nat) (fc cr K h : Nat) (s : KQ) : Bool × KQ :=
  ((roF sh n C fw fz fh fc cr h K 0 (s.2.1, s.2.2.1, s.2.2.2.1, s.2.2.2.2.1, s.2.2.2.2.2.1, s.2.2.2.2.2.2.1, dzF s.2.2.2.2.2.2.2 n)).1,
   (kcF s.1 s.2.1 n, (if (roF sh n C fw fz fh fc cr h K 0 (s.2.1, s.2.2.1, s.2.2.2.1, s.2.2.2.2.1, s.2.2.2.2.2.1, s.2.2.2.2.2.2.1, dzF s.2.2.2.2.2.2.2 n)).1 = true then (roF sh n C fw fz fh fc cr h K 0 (s.2.1, s.2.2.1, s.2.2.2.1, s.2.2.2.2.1, s.2.2.2.2.2.1, s.2.2.2.2.2.2.1, dzF s.2.2.2.2.2.2.2 n)).2.1 else kcF (roF sh n C fw fz fh fc cr h K 0 (s.2.1, s.2.2.1, s.2.2.2.1, s.2.2.2.2.1, s.2.2.2.2.2.1, s.2.2.2.2.2.2.1, dzF s.2.2.2.2.2.2.2 n)).2.1 (kcF s.1 s.2.1 n) n,
     (roF sh n C fw fz fh fc cr h K 0 (s.2.1, s.2.2.1, s.2.2.2.1, s.2.2.2.2.1, s.2.2.2.2.2.1, s.2.2.2.2.2.2.1, dzF s.2.2.2.2.2.2.2 n)).2.2)))
def rqOk (cr : Nat) (s : QS) : Prop := s.2.2.2.2.2.1 ≤ 2000 ∧ ∀ k, k < cr → s.2.1 k ≤ 1
theorem rqOk.q {n cr : Nat} {s : QS} (h : rqOk cr s) : qsOk n cr (s.1, s.2.1, s.2.2.1, s.2.2.2.1, s.2.2.2.2.1, s.2.2.2.2.2.1, dzF s.2.2.2.2.2.2 n) := ⟨h.1, h.2, fun k hk => by show dzF _ n k ≤ 1; rw [dzF_val, if_pos hk]; exact Nat.zero_le _⟩
theorem rhR_ok2 (sh : Nat → Int32) (n : Nat) (C fw fz fh : Nat → Nat) (fc cr K h : Nat) (s : KQ) (hs : rqOk cr s.2) : rqOk cr (rhR sh n C fw fz fh fc cr K h s).2.2 := by
  have := roF_ok2 sh n C fw fz fh fc cr h K 0 _ (hs.q (n := n))
  exact ⟨this.1, this.2.1⟩
noncomputable def rrF (sh : Nat → Int32) (n : Nat) (C fw fz fh : Nat → Nat) (fc cr K : Nat) (sp : Int32) : Nat → Nat → KQ → Nat × KQ
  | 0, h, s => (h, s)
  | d + 1, h, s => if (rhR sh n C fw fz fh fc cr K h s).1 = true then (if nI h = sp then (h + 1, (rhR sh n C fw fz fh fc cr K h s).2) else rrF sh n C fw fz fh fc cr K sp d (h + 1) (rhR sh n C fw fz fh fc cr K h s).2) else (h, (rhR sh n C fw fz fh fc cr K h s).2)
theorem rrF_f {sh : Nat → Int32} {n : Nat} {C fw fz fh : Nat → Nat} {fc cr K : Nat} {sp : Int32} {h d : Nat} {s : KQ} (q : ¬ (rhR sh n C fw fz fh fc cr K h s).1 = true) : rrF sh n C fw fz fh fc cr K sp (d + 1) h s = (h, (rhR sh n C fw fz fh fc cr K h s).2) := by
  rw [rrF, if_neg q]
theorem rrF_s {sh : Nat → Int32} {n : Nat} {C fw fz fh : Nat → Nat} {fc cr K : Nat} {sp : Int32} {h d : Nat} {s : KQ} (q : (rhR sh n C fw fz fh fc cr K h s).1 = true) (e : nI h = sp) : rrF sh n C fw fz fh fc cr K sp (d + 1) h s = (h + 1, (rhR sh n C fw fz fh fc cr K h s).2) := by
  rw [rrF, if_pos q, if_pos e]
theorem rrF_t {sh : Nat → Int32} {n : Nat} {C fw fz fh : Nat → Nat} {fc cr K : Nat} {sp : Int32} {h d : Nat} {s : KQ} (q : (rhR sh n C fw fz fh fc cr K h s).1 = true) (e : ¬ nI h = sp) : rrF sh n C fw fz fh fc cr K sp (d + 1) h s = rrF sh n C fw fz fh fc cr K sp d (h + 1) (rhR sh n C fw fz fh fc cr K h s).2 := by
  rw [rrF, if_pos q, if_neg e]
def dzI (di : Nat → Int32) : Nat → Nat → Int32
  | 0 => di
  | k + 1 => upd (dzI di k) k (nI 0)
/-- values changed stage by stage -/
def ftI (sh : Nat → Int32) (n : Nat) (C : Nat → Nat) (c : Nat) (va : Nat → Int32) : Nat → Nat → Int32
  | 0 => va
  | k + 1 => if C k = c then upd (ftI sh n C c va k) k (ch24 sh n (ftI sh n C c va k) k) else ftI sh n C c va k
def ftO (sh : Nat → Int32) (n : Nat) (C : Nat → Nat) (K : Nat) (va : Nat → Int32) : Nat → Nat → Int32
  | 0 => va
  | k + 1 => ftI sh n C (k % K) (ftO sh n C K va k) n
def tsR (va : Nat → Int32) : Nat → Nat → Nat → Int32
  | 0, f, _ => va f
  | d + 1, f, c => if c ≤ 1 then va f else kept ((tsR va d f ((c + 1) / 2)).toInt64 + (tsR va d (f + (c + 1) / 2) (c - (c + 1) / 2)).toInt64)
