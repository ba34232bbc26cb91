def zW (a : Nat → Nat) (cI : ClassId) (n : Nat) (va : Nat → Int32) (re : Nat → Int32) (tr : Nat → Int32) (sh : Nat → Int32) (co : Nat → Int32) (cc : Int32) : va_W := [(a 0, .inr (4, [.int (nI n), .ref (a 1), .ref (a 2), .ref (a 3), .ref (a 4), .ref (a 5), .int cc])), (a 1, .inl (cI, n, .inl va)), (a 2, .inl (cI, n, .inl re)), (a 3, .inl (cI, n, .inl tr)), (a 4, .inl (cI, n * n, .inl sh)), (a 5, .inl (cI, n, .inl co))]
def fW (a : Nat → Nat) (cI : ClassId) (ks : Nat → Int32) (fc : Int32) : va_W := [(a 0, .inr (2, [.ref (a 1), .int fc])), (a 1, .inl (cI, 200, .inl ks))]
def cW (a : Nat → Nat) (cI : ClassId) (dn : Nat → Int32) (cs : Int32) (ch : Int32) : va_W := [(a 0, .inr (1, [.ref (a 1), .int cs, .int ch])), (a 1, .inl (cI, 16, .inl dn))]
def bW (a : Nat → Nat) (cI : ClassId) (bl : Nat → Int32) (bs : Int32) : va_W := [(a 0, .inr (0, [.ref (a 1), .int bs])), (a 1, .inl (cI, 2000, .inl bl))]
def jW (a : Nat → Nat) (cI : ClassId) (ju : Nat → Int32) (jr : Nat → Int32) (ja : Nat → Int32) (js : Int32) (jc : Int32) : va_W := [(a 0, .inr (3, [.ref (a 1), .ref (a 2), .ref (a 3), .int js, .int jc])), (a 1, .inl (cI, 100, .inl ju)), (a 2, .inl (cI, 100, .inl jr)), (a 3, .inl (cI, 100, .inl ja))]
def mW (a : Nat → Nat) (cI cZ : ClassId) (n : Nat) (thr : Int32) (fc : Int32) (sp : Int32) (cr : Int32) (ln : Int32) (hh : Int32) (jo : Int32) (wg : Int32) (sh : Nat → Int32) (va : Nat → Int32) (co : Nat → Int32) (fw : Nat → Int32) (fz : Nat → Int32) (fh : Nat → Int32) (go : Nat → Int32) (di : Nat → Int32) (bo : Nat → Int32) (ke : Nat → Int32) (do_ : Nat → Int32) (fr : Nat → Int32) (ma : Nat → Int32) (st : Nat → Int32) (hf : Nat → Int32) (wa : Nat → Int32) (ra : Nat → Int32) (ag : Nat → Int32) : va_W := [(a 0, .inr (6, [.int thr, .int (nI n), .ref (a 1), .ref (a 2), .ref (a 3), .int fc, .ref (a 4), .ref (a 5), .ref (a 6), .int sp, .int cr, .ref (a 7), .ref (a 8), .int ln, .ref (a 9), .ref (a 10), .ref (a 11), .int hh, .ref (a 12), .ref (a 13), .ref (a 14), .ref (a 15), .int jo, .int wg, .ref (a 16), .ref (a 17), .ref (a 18)])), (a 1, .inl (cI, 576, .inl sh)), (a 2, .inl (cI, 24, .inl va)), (a 3, .inl (cI, 24, .inl co)), (a 4, .inl (cI, 200, .inl fw)), (a 5, .inl (cI, 200, .inl fz)), (a 6, .inl (cI, 200, .inl fh)), (a 7, .inl (cZ, 16, .inl go)), (a 8, .inl (cI, 16, .inl di)), (a 9, .inl (cI, 8000, .inl bo)), (a 10, .inl (cI, 24, .inl ke)), (a 11, .inl (cZ, 24, .inl do_)), (a 12, .inl (cI, 16, .inl fr)), (a 13, .inl (cI, 16, .inl ma)), (a 14, .inl (cI, 16, .inl st)), (a 15, .inl (cI, 16, .inl hf)), (a 16, .inl (cZ, 4096, .inl wa)), (a 17, .inl (cI, 4096, .inl ra)), (a 18, .inl (cI, 4096, .inl ag))]
def oW (a : Nat) (cL : ClassId) (ou : Nat → Int64) : va_W := [(a, .inl (cL, 1, .inr (.inl ou)))]
theorem nn24 {n : Nat} (h : n ≤ 24) : n * n ≤ 576 := Nat.mul_le_mul h h
theorem ixlt {n z o : Nat} (hz : z < n) (ho : o < n) : z * n + o < n * n := by
  have h1 : (z + 1) * n ≤ n * n := Nat.mul_le_mul_right n hz
  rw [Nat.add_mul] at h1
  omega
def t2n (b : Bool) : Nat := if b = true then 1 else 0
theorem t2n_lt (b : Bool) : t2n b < 2 ^ 31 := by
  unfold t2n
  split <;> decide
theorem t2n_nar (b : Bool) : narrow .boolean (.int (nI (t2n b))) = .int (nI (t2n b)) := by
  unfold t2n
  split <;> rfl
def b2n (p : Prop) [Decidable p] : Nat := if p then 1 else 0
theorem b2n_t {p : Prop} [Decidable p] (h : p) : b2n p = 1 := if_pos h
theorem b2n_f {p : Prop} [Decidable p] (h : ¬ p) : b2n p = 0 := if_neg h
theorem b2n_lt (p : Prop) [Decidable p] : b2n p < 2 ^ 31 := by
  unfold b2n
  split <;> decide
theorem nI_neg1 (n : Nat) (h : 0 < n) : nI n - nI 1 = nI (n - 1) := pk_sub h

def nf (C : Nat → Nat) : Nat → Int32 := fun k => nI (C k)
theorem nar0 : vp_nar .boolean (nI 0) = nI 0 := by decide
theorem nar1 : vp_nar .boolean (nI 1) = nI 1 := by decide
theorem nI_nm1 {j : Nat} (h : j < 2 ^ 31) : ¬ nI j = -1 := by
  intro e
  have h1 := nI_toInt h
  rw [e] at h1
  have h2 : (-1 : Int32).toInt = -1 := by decide
  rw [h2] at h1
  omega
def updN (C : Nat → Nat) (k v : Nat) : Nat → Nat := fun j => if j = k then v else C j
theorem nf_upd (C : Nat → Nat) (k v : Nat) : upd (nf C) k (nI v) = nf (updN C k v) := by
  funext j
  simp only [upd, nf, updN]
  split <;> rfl
theorem updN_s (C : Nat → Nat) (k v : Nat) : updN C k v k = v := if_pos rfl
theorem updN_n {C : Nat → Nat} {k v j : Nat} (h : j ≠ k) : updN C k v j = C j := if_neg h
def mx (a b : Nat) : Nat := if a < b then b else a
theorem mx_nI {a b : Nat} (ha : a < 2 ^ 31) (hb : b < 2 ^ 31) : (if nI a < nI b then nI b else nI a) = nI (mx a b) := by
  unfold mx
  by_cases h : a < b
  · rw [if_pos h, if_pos ((nI_ltI ha hb).mpr h)]
  · rw [if_neg h, if_neg (fun e => h ((nI_ltI ha hb).mp e))]
def kept (x : Int64) : Int32 := (if (if x < 1000000 then x else 1000000) < (-1000000 : Int64) then -1000000 else (if x < 1000000 then x else 1000000)).toInt32
/-- which colours the lesser zones behind a wall have, as bits -/
def usedF (sh : Nat → Int32) (n : Nat) (C : Nat → Nat) (z : Nat) : Nat → Int32
  | 0 => nI 0
  | k + 1 => if sh (z * n + k) ≤ 0 then usedF sh n C z k else usedF sh n C z k ||| (nI 1 <<< (nI (C k) &&& 31))
def fcF (u : Int32) : Nat → Nat → Nat
  | 0, c => c
  | d + 1, c => if (u >>> (nI c &&& 31)) &&& nI 1 = 0 then c else fcF u d (c + 1)
def lfcN (sh : Nat → Int32) (n : Nat) (C : Nat → Nat) (z : Nat) : Nat := fcF (usedF sh n C z z) z 0
theorem fcF_le (u : Int32) : ∀ d c, fcF u d c ≤ c + d := by
  intro d
  induction d with
  | zero => intro c; exact Nat.le_refl _
  | succ d ih =>
    intro c
    unfold fcF
    split
    · omega
    · have := ih (c + 1); omega
theorem lfcN_le (sh : Nat → Int32) (n : Nat) (C : Nat → Nat) (z : Nat) : lfcN sh n C z ≤ z := by
  have := fcF_le (usedF sh n C z z) z 0
  unfold lfcN
  omega
theorem fcF_here {u : Int32} {z c : Nat} (hc : c < z) (h : (u >>> (nI c &&& 31)) &&& nI 1 = 0) : fcF u (z - c) c = c := by
  obtain ⟨d, hd⟩ : ∃ d, z - c = d + 1 := ⟨z - c - 1, by omega⟩
  rw [hd]
  show (if _ then _ else _) = _
  rw [if_pos h]
theorem fcF_next {u : Int32} {z c : Nat} (hc : c < z) (h : ¬ (u >>> (nI c &&& 31)) &&& nI 1 = 0) : fcF u (z - c) c = fcF u (z - (c + 1)) (c + 1) := by
  obtain ⟨d, hd⟩ : ∃ d, z - c = d + 1 := ⟨z - c - 1, by omega⟩
  rw [hd, show z - (c + 1) = d by omega]
  show (if _ then _ else _) = _
  rw [if_neg h]
/-- the colours painted in the first k zones -/
def pnC (sh : Nat → Int32) (n : Nat) (C : Nat → Nat) : Nat → Nat → Nat
  | 0 => C
  | k + 1 => updN (pnC sh n C k) k (lfcN sh n (pnC sh n C k) k)
def pnK (sh : Nat → Int32) (n : Nat) (C : Nat → Nat) : Nat → Nat
  | 0 => 0
  | k + 1 => mx (pnK sh n C k) (lfcN sh n (pnC sh n C k) k + 1)
theorem pnK_le (sh : Nat → Int32) (n : Nat) (C : Nat → Nat) : ∀ k, pnK sh n C k ≤ k := by
  intro k
  induction k with
  | zero => exact Nat.le_refl _
  | succ k ih =>
    have := lfcN_le sh n (pnC sh n C k) k
    show mx _ _ ≤ _
    unfold mx
    split <;> omega
/-- what flows to a zone, out of the first k zones -/
def flowF (sh : Nat → Int32) (n : Nat) (row : Nat → Int32) (z : Nat) : Nat → Int64
  | 0 => 0
  | k + 1 => flowF sh n row z k + (sh (z * n + k)).toInt64 * (row k - row z).toInt64
def chg (sh : Nat → Int32) (n : Nat) (row : Nat → Int32) (z : Nat) : Int32 := kept ((row z).toInt64 + flowF sh n row z n / 1000)
/-- a stage without failures, its first k zones -/
def ftS (sh : Nat → Int32) (n : Nat) (C : Nat → Nat) (c : Nat) (row : Nat → Int32) : Nat → Nat → Int32
  | 0 => row
  | k + 1 => if C k = c then upd (ftS sh n C c row k) k (chg sh n (ftS sh n C c row k) k) else ftS sh n C c row k
theorem ftS_y {sh : Nat → Int32} {n : Nat} {C : Nat → Nat} {c : Nat} {row : Nat → Int32} {k : Nat} (h : C k = c) : ftS sh n C c row (k + 1) = upd (ftS sh n C c row k) k (chg sh n (ftS sh n C c row k) k) := if_pos h
theorem ftS_n {sh : Nat → Int32} {n : Nat} {C : Nat → Nat} {c : Nat} {row : Nat → Int32} {k : Nat} (h : C k ≠ c) : ftS sh n C c row (k + 1) = ftS sh n C c row k := if_neg h
/-- an hour without failures, its first c stages -/
def hrF (sh : Nat → Int32) (n : Nat) (C : Nat → Nat) (row : Nat → Int32) : Nat → Nat → Int32
  | 0 => row
  | c + 1 => ftS sh n C c (hrF sh n C row c) n
def hrsF (sh : Nat → Int32) (n : Nat) (C : Nat → Nat) (K : Nat) (row : Nat → Int32) : Nat → Nat → Int32
  | 0 => row
  | h + 1 => hrF sh n C (hrsF sh n C K row h) K
def tsF (va : Nat → Int32) : Nat → Nat → Nat → Int32
  | 0, f, _ => va f
  | d + 1, f, c => if c ≤ 1 then va f else kept (tsF va d f ((c + 1) / 2) + tsF va d (f + (c + 1) / 2) (c - (c + 1) / 2)).toInt64
