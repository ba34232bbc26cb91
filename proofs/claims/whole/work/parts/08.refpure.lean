
def fl24 (sh : Nat → Int32) (row : Nat → Int32) (z : Nat) : Nat → Int64
  | 0 => 0
  | k + 1 => fl24 sh row z k + (sh (24 * z + k)).toInt64 * (row k - row z).toInt64
def ch24 (sh : Nat → Int32) (n : Nat) (row : Nat → Int32) (z : Nat) : Int32 := kept ((row z).toInt64 + fl24 sh row z n / 1000)
/-- the reference's book -/
def wrB (B : Nat → Nat) (L w z h f : Nat) : Nat → Nat := if L < 2000 then updN (updN (updN (updN B (4 * L) w) (4 * L + 1) z) (4 * L + 2) h) (4 * L + 3) f else B
def fiF (fw fz fh : Nat → Nat) (w z h : Nat) : Nat → Nat → Int32
  | 0, _ => -1
  | d + 1, k => if fw k = w ∧ fz k = z ∧ fh k = h then nI k else fiF fw fz fh w z h d (k + 1)
theorem fiF_eq {fw fz fh : Nat → Nat} {w z h d k : Nat} (q : fw k = w ∧ fz k = z ∧ fh k = h) : fiF fw fz fh w z h (d + 1) k = nI k := by
  show (if _ then _ else _) = _
  rw [if_pos q]
theorem fiF_ne {fw fz fh : Nat → Nat} {w z h d k : Nat} (q : ¬ (fw k = w ∧ fz k = z ∧ fh k = h)) : fiF fw fz fh w z h (d + 1) k = fiF fw fz fh w z h d (k + 1) := by
  show (if _ then _ else _) = _
  rw [if_neg q]
/-- the least zone of a colour that is not done, the last d zones looked at -/
def nxD (C dO : Nat → Nat) (c n : Nat) : Nat → Int32
  | 0 => -1
  | d + 1 => if C (n - (d + 1)) = c ∧ dO (n - (d + 1)) = 0 then nI (n - (d + 1)) else nxD C dO c n d
def cnF (G : Nat → Nat) : Nat → Nat
  | 0 => 0
  | k + 1 => if G k = 0 then cnF G k + 1 else cnF G k
theorem cnF_le (G : Nat → Nat) : ∀ k, cnF G k ≤ k := by
  intro k
  induction k with
  | zero => exact Nat.le_refl _
  | succ k ih => unfold cnF; split <;> omega
def wkF (G : Nat → Nat) : Nat → Nat → Nat → Int32
  | 0, _, _ => -1
  | d + 1, w, b => if G w = 0 then (if b = 0 then nI w else wkF G d (w + 1) (b - 1)) else wkF G d (w + 1) b
theorem sub_m1 (x : Int32) : x + Int32.ofInt (-1) = x - nI 1 := by
  rw [Int32.sub_eq_add_neg]
  rfl
theorem nI_m1 (k : Nat) : nI (k + 1) - nI 1 = nI k := by
  rw [pk_sub (by omega)]
  rfl
theorem nI_m1lt {k : Nat} (hk : k < 2 ^ 30) : nI k - nI 1 < 0 ↔ k = 0 := by
  constructor
  · intro h
    cases k with
    | zero => rfl
    | succ k => rw [nI_m1] at h; exact absurd h (nI_pos (by omega))
  · intro h
    subst h
    decide
