
def cpyN (P Q : Nat → Nat) (s d n : Nat) : Nat → Nat := fun k => if d ≤ k ∧ k < d + n then P (s + (k - d)) else Q k
theorem nf_cpy (P Q : Nat → Nat) (s d n : Nat) : va_cpy (nf P) (nf Q) s d n = nf (cpyN P Q s d n) := by
  funext k
  simp only [va_cpy, nf, cpyN]
  split <;> rfl
theorem nf0 : (fun _ => (0 : Int32)) = nf (fun _ => 0) := by
  funext k
  exact nI_0.symm
/-- a line of the class's book -/
def packF (w z h f : Nat) : Int32 := ((nI w ||| (nI z <<< (nI 4 &&& 31))) ||| (nI h <<< (nI 9 &&& 31))) ||| (nI f <<< (nI 19 &&& 31))
/-- the crew at the start of a run, the first k workers -/
def gaD (dn : Nat → Int32) (W : Nat) : Nat → Nat → Int32
  | 0 => dn
  | k + 1 => upd (gaD dn W k) k (if k < W then nI 0 else -1)
theorem nxH_ex : ∃ f : Int32 → Int32, ∀ h, f h = h * 1103515245 + nI 12345 := ⟨_, fun _ => rfl⟩
noncomputable def nxH : Int32 → Int32 := Classical.choose nxH_ex
theorem nxH_eq (h : Int32) : nxH h = h * 1103515245 + nI 12345 := Classical.choose_spec nxH_ex h
theorem dv_ex : ∃ f : Int32 → Nat, ∀ h, f h = h.toBitVec.toNat / 65536 := ⟨_, fun _ => rfl⟩
noncomputable def dv : Int32 → Nat := Classical.choose dv_ex
theorem dv_eq (h : Int32) : dv h = h.toBitVec.toNat / 65536 := Classical.choose_spec dv_ex h
theorem dv_lt (h : Int32) : dv h < 65536 := by
  have := h.toBitVec.isLt
  rw [dv_eq]
  omega
theorem ush16 (h : Int32) : (h.toUInt32 >>> ((nI 16).toUInt32 &&& Int32.toUInt32 31)).toInt32 = nI (dv h) := by
  have e := pk_ushr h (nI 16) 16 (by decide)
  have e2 : (nI (dv h)).toBitVec.toNat = dv h := pk_tn (by have := dv_lt h; omega)
  apply Int32.toBitVec_inj.mp
  apply BitVec.eq_of_toNat_eq
  rw [e, e2, dv_eq]
/-- the worker drawn: so many that are not gone stand before; 16: none -/
def drN (dn : Nat → Int32) : Nat → Nat → Nat → Nat
  | 0, w, _ => w
  | d + 1, w, b => if dn w = -1 then drN dn d (w + 1) b else (if b = 0 then w else drN dn d (w + 1) (b - 1))
theorem drN_g {dn : Nat → Int32} {d w b : Nat} (h : dn w = -1) : drN dn (d + 1) w b = drN dn d (w + 1) b := if_pos h
theorem drN_h {dn : Nat → Int32} {d w b : Nat} (h : ¬ dn w = -1) (h2 : b = 0) : drN dn (d + 1) w b = w := (if_neg h).trans (if_pos h2)
theorem drN_n {dn : Nat → Int32} {d w b : Nat} (h : ¬ dn w = -1) (h2 : b ≠ 0) : drN dn (d + 1) w b = drN dn d (w + 1) (b - 1) := (if_neg h).trans (if_neg h2)
noncomputable def dwF (dn : Nat → Int32) (ck : Nat) (ch : Int32) : Nat := drN dn 16 0 (dv (nxH ch) % ck)
/-- a worker's number, or that there is none -/
def wI (m : Nat) : Int32 := if m < 16 then nI m else -1
/-- the search by halving -/
def bsF (F : Nat → Nat) (key : Nat) : Nat → Nat → Nat → Nat
  | 0, lo, _ => lo
  | d + 1, lo, hi => if lo < hi then (if F ((lo + hi) / 2) < key then bsF F key d ((lo + hi) / 2 + 1) hi else bsF F key d lo ((lo + hi) / 2)) else lo
theorem bsF_lt {F : Nat → Nat} {key d lo hi : Nat} (h : lo < hi) (h2 : F ((lo + hi) / 2) < key) : bsF F key (d + 1) lo hi = bsF F key d ((lo + hi) / 2 + 1) hi := by
  show (if _ then _ else _) = _
  rw [if_pos h, if_pos h2]
theorem bsF_ge {F : Nat → Nat} {key d lo hi : Nat} (h : lo < hi) (h2 : key ≤ F ((lo + hi) / 2)) : bsF F key (d + 1) lo hi = bsF F key d lo ((lo + hi) / 2) := by
  show (if _ then _ else _) = _
  rw [if_pos h, if_neg (Nat.not_lt.mpr h2)]
theorem bsF_end {F : Nat → Nat} {key d lo hi : Nat} (h : hi ≤ lo) : bsF F key d lo hi = lo := by
  cases d with
  | zero => rfl
  | succ d => show (if _ then _ else _) = _; rw [if_neg (Nat.not_lt.mpr h)]
theorem bsF_in (F : Nat → Nat) (key : Nat) : ∀ d lo hi, lo ≤ hi → bsF F key d lo hi ≤ hi := by
  intro d
  induction d with
  | zero => intro lo hi h; exact h
  | succ d ih =>
    intro lo hi h
    unfold bsF
    split
    · split
      · exact ih _ _ (by omega)
      · exact Nat.le_trans (ih _ _ (by omega)) (by omega)
    · exact h
def kyF (w z h : Nat) : Nat := (h * 24 + z) * 16 + w
/-- the foremost of the jobs in the places 0 .. p -/
def fmF (jr ja : Nat → Int32) : Nat → Nat
  | 0 => 0
  | p + 1 => if jr (p + 1) + ja (p + 1) ≤ jr (fmF jr ja p) + ja (fmF jr ja p) then fmF jr ja p else p + 1
theorem fmF_le (jr ja : Nat → Int32) : ∀ p, fmF jr ja p ≤ p := by
  intro p
  induction p with
  | zero => exact Nat.le_refl _
  | succ p ih => unfold fmF; split <;> omega
def agF (ja : Nat → Int32) : Nat → Nat → Int32
  | 0 => ja
  | k + 1 => upd (agF ja k) k (agF ja k k + nI 1)
def aoF (U : Nat → Nat) (ja : Nat → Int32) (j : Nat) : Nat → Nat → Int32
  | 0, _ => -1
  | d + 1, p => if U p = j then ja p else aoF U ja j d (p + 1)
theorem aoF_eq {U : Nat → Nat} {ja : Nat → Int32} {j d p : Nat} (h : U p = j) : aoF U ja j (d + 1) p = ja p := by
  show (if _ then _ else _) = _
  rw [if_pos h]
theorem aoF_ne {U : Nat → Nat} {ja : Nat → Int32} {j d p : Nat} (h : U p ≠ j) : aoF U ja j (d + 1) p = aoF U ja j d (p + 1) := by
  show (if _ then _ else _) = _
  rw [if_neg h]
