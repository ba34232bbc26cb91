
def frF (sh : Nat → Int32) (C : Nat → Nat) (z c : Nat) : Nat → Nat
  | 0 => 1
  | o + 1 => if frF sh C z c o = 0 then 0 else if sh (24 * z + o) = 0 then 1 else if C o = c then 0 else 1
theorem frF_0 {sh : Nat → Int32} {C : Nat → Nat} {z c o : Nat} (h : frF sh C z c o = 0) : frF sh C z c (o + 1) = 0 := by
  show (if _ then _ else _) = _
  rw [if_pos h]
theorem frF_s {sh : Nat → Int32} {C : Nat → Nat} {z c o : Nat} (h : frF sh C z c o ≠ 0) (hs : sh (24 * z + o) = 0) : frF sh C z c (o + 1) = 1 := by
  show (if _ then _ else (if _ then _ else _)) = _
  rw [if_neg h, if_pos hs]
theorem frF_c {sh : Nat → Int32} {C : Nat → Nat} {z c o : Nat} (h : frF sh C z c o ≠ 0) (hs : ¬ sh (24 * z + o) = 0) (hc : C o = c) : frF sh C z c (o + 1) = 0 := by
  show (if _ then _ else (if _ then _ else (if _ then _ else _))) = _
  rw [if_neg h, if_neg hs, if_pos hc]
theorem frF_n {sh : Nat → Int32} {C : Nat → Nat} {z c o : Nat} (h : frF sh C z c o ≠ 0) (hs : ¬ sh (24 * z + o) = 0) (hc : C o ≠ c) : frF sh C z c (o + 1) = 1 := by
  show (if _ then _ else (if _ then _ else (if _ then _ else _))) = _
  rw [if_neg h, if_neg hs, if_neg hc]
theorem frF_le (sh : Nat → Int32) (C : Nat → Nat) (z c : Nat) : ∀ o, frF sh C z c o ≤ 1 := by
  intro o
  cases o with
  | zero => exact Nat.le_refl _
  | succ o => unfold frF; split <;> (try split) <;> (try split) <;> omega
theorem frF_top {sh : Nat → Int32} {C : Nat → Nat} {z c : Nat} : ∀ o, (∀ k, k < o → C k ≠ c) → frF sh C z c o ≠ 0 := by
  intro o
  induction o with
  | zero => intro _; exact (by decide : (1 : Nat) ≠ 0)
  | succ o ih =>
    intro h
    have h1 := ih (fun k hk => h k (by omega))
    by_cases hs : sh (24 * z + o) = 0
    · rw [frF_s h1 hs]; decide
    · rw [frF_n h1 hs (h o (by omega))]; decide
def rcS (sh : Nat → Int32) (C : Nat → Nat) (z : Nat) : Nat → Nat → Nat
  | 0, c => c
  | d + 1, c => if frF sh C z c z = 0 then rcS sh C z d (c + 1) else c
theorem rcS_here {sh : Nat → Int32} {C : Nat → Nat} {z d c : Nat} (h : frF sh C z c z ≠ 0) : rcS sh C z d c = c := by
  cases d with
  | zero => rfl
  | succ d => show (if _ then _ else _) = _; rw [if_neg h]
theorem rcS_next {sh : Nat → Int32} {C : Nat → Nat} {z d c : Nat} (h : frF sh C z c z = 0) : rcS sh C z (d + 1) c = rcS sh C z d (c + 1) := by
  show (if _ then _ else _) = _
  rw [if_pos h]
theorem rcS_le (sh : Nat → Int32) (C : Nat → Nat) (z : Nat) : ∀ d c, rcS sh C z d c ≤ c + d := by
  intro d
  induction d with
  | zero => intro c; exact Nat.le_refl _
  | succ d ih =>
    intro c
    unfold rcS
    split
    · have := ih (c + 1); omega
    · omega
/-- the colours that the reference has painted in the first k zones -/
def rpC (sh : Nat → Int32) (C : Nat → Nat) : Nat → Nat → Nat
  | 0 => C
  | k + 1 => updN (rpC sh C k) k (rcS sh (rpC sh C k) k k 0)
theorem rpC_le (sh : Nat → Int32) (C : Nat → Nat) : ∀ m k, k < m → rpC sh C m k ≤ k := by
  intro m
  induction m with
  | zero => intro k h; omega
  | succ m ih =>
    intro k h
    show updN _ _ _ k ≤ k
    by_cases e : k = m
    · subst e; rw [updN_s]; have := rcS_le sh (rpC sh C k) k k 0; omega
    · rw [updN_n e]; exact ih k (by omega)
def mxC (C : Nat → Nat) : Nat → Nat
  | 0 => 0
  | k + 1 => if C k ≤ mxC C k then mxC C k else C k
theorem mxC_le (C : Nat → Nat) (N : Nat) : ∀ k, (∀ j, j < k → C j ≤ N) → mxC C k ≤ N := by
  intro k
  induction k with
  | zero => intro _; exact Nat.zero_le _
  | succ k ih =>
    intro h
    have := ih (fun j hj => h j (by omega))
    have := h k (by omega)
    unfold mxC
    split <;> omega
/-- the job that is taken: 0 for none, else one more than its number -/
def tbN (wa : Nat → Nat) (ra ag : Nat → Int32) : Nat → Nat
  | 0 => 0
  | j + 1 => if wa j = 0 then tbN wa ra ag j else if tbN wa ra ag j = 0 then j + 1 else if ra j + ag j ≤ ra (tbN wa ra ag j - 1) + ag (tbN wa ra ag j - 1) then tbN wa ra ag j else j + 1
theorem tbN_w {wa : Nat → Nat} {ra ag : Nat → Int32} {j t : Nat} (e : tbN wa ra ag j = t) (h : wa j = 0) : tbN wa ra ag (j + 1) = t := by
  show (if _ then _ else _) = _
  rw [if_pos h, e]
theorem tbN_0 {wa : Nat → Nat} {ra ag : Nat → Int32} {j : Nat} (e : tbN wa ra ag j = 0) (h : wa j ≠ 0) : tbN wa ra ag (j + 1) = j + 1 := by
  show (if _ then _ else (if _ then _ else _)) = _
  rw [if_neg h, if_pos e]
theorem tbN_k {wa : Nat → Nat} {ra ag : Nat → Int32} {j t : Nat} (e : tbN wa ra ag j = t + 1) (h : wa j ≠ 0) (q : ra j + ag j ≤ ra t + ag t) : tbN wa ra ag (j + 1) = t + 1 := by
  show (if _ then _ else (if _ then _ else (if _ then _ else _))) = _
  rw [if_neg h, e, if_neg (by omega), Nat.add_sub_cancel, if_pos q]
theorem tbN_n {wa : Nat → Nat} {ra ag : Nat → Int32} {j t : Nat} (e : tbN wa ra ag j = t + 1) (h : wa j ≠ 0) (q : ¬ ra j + ag j ≤ ra t + ag t) : tbN wa ra ag (j + 1) = j + 1 := by
  show (if _ then _ else (if _ then _ else (if _ then _ else _))) = _
  rw [if_neg h, e, if_neg (by omega), Nat.add_sub_cancel, if_neg q]
theorem tbN_le (wa : Nat → Nat) (ra ag : Nat → Int32) : ∀ j, tbN wa ra ag j ≤ j := by
  intro j
  induction j with
  | zero => exact Nat.le_refl _
  | succ j ih => unfold tbN; split <;> (try split) <;> (try split) <;> omega
def taF (wa : Nat → Nat) (t : Nat) (ag : Nat → Int32) : Nat → Nat → Int32
  | 0 => ag
  | k + 1 => upd (taF wa t ag k) k (if wa k ≠ 0 ∧ k + 1 ≠ t then taF wa t ag k k + nI 1 else taF wa t ag k k)
theorem bI_m1 {t : Nat} (h : t < 2 ^ 30) : nI t - nI 1 = -1 ↔ t = 0 := by
  constructor
  · intro e
    cases t with
    | zero => rfl
    | succ t => rw [nI_m1] at e; exact absurd e (nI_nm1 (by omega))
  · intro e
    subst e
    decide
theorem bI_eq {j t : Nat} (hj : j < 2 ^ 30) (h : t < 2 ^ 30) : nI j = nI t - nI 1 ↔ j + 1 = t := by
  constructor
  · intro e
    cases t with
    | zero => exact absurd (e.trans (by decide : nI 0 - nI 1 = -1)) (nI_nm1 (by omega))
    | succ t => rw [nI_m1] at e; have := (nI_eq (by omega) (by omega)).mp e; omega
  · intro e
    subst e
    rw [nI_m1]
