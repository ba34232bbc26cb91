def bt (x : Int32) (i : Nat) : Bool := x.toBitVec.getLsbD i
theorem b_ext {x y : Int32} (h : ∀ i, i < 32 → bt x i = bt y i) : x = y := Int32.toBitVec_inj.mp (BitVec.eq_of_getLsbD_eq (fun i hi => h i hi))
theorem b_or (x y : Int32) (i : Nat) : bt (x ||| y) i = (bt x i || bt y i) := by unfold bt; rw [Int32.toBitVec_or, BitVec.getLsbD_or]
theorem b_and (x y : Int32) (i : Nat) : bt (x &&& y) i = (bt x i && bt y i) := by unfold bt; rw [Int32.toBitVec_and, BitVec.getLsbD_and]
theorem b_big {x : Int32} {i : Nat} (h : 32 ≤ i) : bt x i = false := BitVec.getLsbD_of_ge _ _ h
theorem b_0 (i : Nat) : bt 0 i = false := BitVec.getLsbD_zero
theorem s_l : ∀ n, n < 32 → ((nI n &&& 31).toBitVec.smod 32).toNat = n := by decide +kernel
theorem b_shl (n : Nat) (hn : n < 32) (x : Int32) {i : Nat} (hi : i < 32) : bt (x <<< (nI n &&& 31)) i = (decide (n ≤ i) && bt x (i - n)) := by
  unfold bt
  rw [Int32.toBitVec_shiftLeft]
  show (x.toBitVec <<< ((nI n &&& 31).toBitVec.smod 32).toNat).getLsbD i = _
  rw [s_l n hn, BitVec.getLsbD_shiftLeft]
  rcases Nat.lt_or_ge i n with h | h
  · simp [h, Nat.not_le.mpr h]
  · simp [hi, h, Nat.not_lt.mpr h]
theorem b_sshr (n : Nat) (hn : n < 32) (x : Int32) {i : Nat} (hi : i < 32) : bt (x >>> (nI n &&& 31)) i = if n + i < 32 then bt x (n + i) else bt x 31 := by
  unfold bt
  rw [Int32.toBitVec_shiftRight]
  show (x.toBitVec.sshiftRight ((nI n &&& 31).toBitVec.smod 32).toNat).getLsbD i = _
  rw [s_l n hn, BitVec.getLsbD_sshiftRight, BitVec.msb_eq_getLsbD_last]
  simp [hi]
theorem bt_1 (i : Nat) : bt (nI 1) i = decide (i = 0) := by
  rcases Nat.lt_or_ge i 32 with h | h
  · exact (by decide +kernel : ∀ i, i < 32 → bt (nI 1) i = decide (i = 0)) i h
  · rw [b_big h, decide_eq_false (by omega)]
theorem bt_nI0 (i : Nat) : bt (nI 0) i = false := b_0 i
theorem bt_test {u : Int32} {c : Nat} (hc : c < 32) : (u >>> (nI c &&& 31)) &&& nI 1 = 0 ↔ bt u c = false := by
  constructor
  · intro h
    have h2 := congrArg (fun x => bt x 0) h
    have h3 : bt ((u >>> (nI c &&& 31)) &&& nI 1) 0 = bt 0 0 := h2
    rw [b_and, b_0, b_sshr c hc u (by omega : 0 < 32), if_pos (by omega), bt_1, Nat.add_zero] at h3
    simpa using h3
  · intro h
    apply b_ext
    intro i hi
    rw [b_and, b_sshr c hc u hi, bt_1, b_0]
    by_cases e : i = 0
    · subst e
      rw [if_pos (by omega), Nat.add_zero, h]
      rfl
    · rw [decide_eq_false e, Bool.and_false]
theorem bt_shl1 {c i : Nat} (hc : c < 32) (hi : i < 32) : bt (nI 1 <<< (nI c &&& 31)) i = decide (i = c) := by
  rw [b_shl c hc _ hi, bt_1, ← Bool.decide_and]
  exact decide_eq_decide.mpr (by omega)
theorem frF_iff {sh : Nat → Int32} {C : Nat → Nat} {z c : Nat} : ∀ o, frF sh C z c o = 0 ↔ ∃ k, k < o ∧ sh (24 * z + k) ≠ 0 ∧ C k = c := by
  intro o
  induction o with
  | zero =>
    constructor
    · intro h; exact absurd (show (1 : Nat) = 0 from h) (by decide)
    · rintro ⟨k, h, _⟩; omega
  | succ o ih =>
    by_cases h0 : frF sh C z c o = 0
    · rw [frF_0 h0]
      obtain ⟨k, h1, h2⟩ := ih.mp h0
      exact ⟨fun _ => ⟨k, by omega, h2⟩, fun _ => rfl⟩
    · by_cases hs : sh (24 * z + o) = 0
      · rw [frF_s h0 hs]
        constructor
        · intro h; exact absurd h (by decide)
        · rintro ⟨k, h1, h2, h3⟩
          by_cases e : k = o
          · subst e; exact absurd hs h2
          · exact absurd (ih.mpr ⟨k, by omega, h2, h3⟩) h0
      · by_cases hc : C o = c
        · rw [frF_c h0 hs hc]
          exact ⟨fun _ => ⟨o, by omega, hs, hc⟩, fun _ => rfl⟩
        · rw [frF_n h0 hs hc]
          constructor
          · intro h; exact absurd h (by decide)
          · rintro ⟨k, h1, h2, h3⟩
            by_cases e : k = o
            · subst e; exact absurd h3 hc
            · exact absurd (ih.mpr ⟨k, by omega, h2, h3⟩) h0
theorem frF_congr {sh : Nat → Int32} {C C' : Nat → Nat} {z c : Nat} (o : Nat) (h : ∀ j, j < o → C j = C' j) : frF sh C z c o = 0 ↔ frF sh C' z c o = 0 := by
  rw [frF_iff, frF_iff]
  constructor
  · rintro ⟨k, h1, h2, h3⟩; exact ⟨k, h1, h2, by rw [← h k h1]; exact h3⟩
  · rintro ⟨k, h1, h2, h3⟩; exact ⟨k, h1, h2, by rw [h k h1]; exact h3⟩
theorem rcS_congr {sh : Nat → Int32} {C C' : Nat → Nat} {z : Nat} (h : ∀ j, j < z → C j = C' j) : ∀ d c, rcS sh C z d c = rcS sh C' z d c := by
  intro d
  induction d with
  | zero => intro c; rfl
  | succ d ih =>
    intro c
    by_cases q : frF sh C z c z = 0
    · rw [rcS_next q, rcS_next ((frF_congr z h).mp q), ih]
    · rw [rcS_here q, rcS_here (fun e => q ((frF_congr z h).mpr e))]
theorem rpC_canon {sh : Nat → Int32} {C C' : Nat → Nat} : ∀ m k, k < m → rpC sh C m k = rpC sh C' m k := by
  intro m
  induction m with
  | zero => intro k h; omega
  | succ m ih =>
    intro k h
    show updN _ _ _ k = updN _ _ _ k
    by_cases e : k = m
    · subst e
      rw [updN_s, updN_s]
      exact rcS_congr (fun j hj => ih j hj) _ _
    · rw [updN_n e, updN_n e]
      exact ih k (by omega)
/-- the walls of both sides -/
def shR (n : Nat) (sh sr : Nat → Int32) : Prop := ∀ z o, z < n → o < n → sh (z * n + o) = sr (24 * z + o) ∧ ∃ v, v ≤ 100 ∧ sr (24 * z + o) = nI v
theorem shR.z {n : Nat} {sh sr : Nat → Int32} (h : shR n sh sr) {z o : Nat} (hz : z < n) (ho : o < n) : sh (z * n + o) ≤ 0 ↔ sr (24 * z + o) = 0 := by
  obtain ⟨h1, v, h2, h3⟩ := h z o hz ho
  rw [h1, h3, ← nI_0]
  rw [nI_leI (by omega) (by omega), nI_eq (by omega) (by omega)]
  omega
theorem used_bit {n : Nat} {sh sr : Nat → Int32} (h : shR n sh sr) {C : Nat → Nat} {z c : Nat} (hz : z < n) (hc : c < 32) : ∀ k, k ≤ n → (∀ j, j < k → C j < 32) → (bt (usedF sh n C z k) c = true ↔ ∃ j, j < k ∧ sr (24 * z + j) ≠ 0 ∧ C j = c) := by
  intro k
  induction k with
  | zero =>
    intro _ _
    constructor
    · intro e
      have e2 : bt (nI 0) c = true := e
      rw [bt_nI0] at e2
      exact absurd e2 (by decide)
    · rintro ⟨j, h1, _⟩; omega
  | succ k ih =>
    intro hk hC
    have ih := ih (by omega) (fun j hj => hC j (by omega))
    show bt (if _ then _ else _) c = true ↔ _
    by_cases hs : sh (z * n + k) ≤ 0
    · rw [if_pos hs, ih]
      have h0 := (h.z hz (show k < n by omega)).mp hs
      constructor
      · rintro ⟨j, h1, h2⟩; exact ⟨j, by omega, h2⟩
      · rintro ⟨j, h1, h2, h3⟩
        by_cases e : j = k
        · subst e; exact absurd h0 h2
        · exact ⟨j, by omega, h2, h3⟩
    · rw [if_neg hs, b_or, bt_shl1 (hC k (by omega)) hc, Bool.or_eq_true, ih, decide_eq_true_iff]
      have h0 : sr (24 * z + k) ≠ 0 := fun e => hs ((h.z hz (show k < n by omega)).mpr e)
      constructor
      · rintro (⟨j, h1, h2⟩ | e)
        · exact ⟨j, by omega, h2⟩
        · exact ⟨k, by omega, h0, e.symm⟩
      · rintro ⟨j, h1, h2, h3⟩
        by_cases e : j = k
        · subst e; exact .inr h3.symm
        · exact .inl ⟨j, by omega, h2, h3⟩
theorem fcF_rcS {u : Int32} {sr : Nat → Int32} {C : Nat → Nat} {z : Nat} (hu : ∀ c, c < 32 → (bt u c = true ↔ frF sr C z c z = 0)) : ∀ d c, c + d < 32 → fcF u d c = rcS sr C z d c := by
  intro d
  induction d with
  | zero => intro c _; rfl
  | succ d ih =>
    intro c hc
    show (if _ then _ else _) = _
    by_cases q : frF sr C z c z = 0
    · have hb := (hu c (by omega)).mpr q
      rw [rcS_next q, if_neg (fun e => by rw [bt_test (by omega)] at e; rw [e] at hb; exact absurd hb (by decide)), ih _ (by omega)]
    · have hb : bt u c = false := by
        cases e : bt u c with
        | false => rfl
        | true => exact absurd ((hu c (by omega)).mp e) q
      rw [rcS_here q, if_pos ((bt_test (by omega)).mpr hb)]
theorem lfc_eq {n : Nat} {sh sr : Nat → Int32} (h : shR n sh sr) {C : Nat → Nat} {z : Nat} (hn : n ≤ 24) (hz : z < n) (hC : ∀ j, j < z → C j ≤ j) : lfcN sh n C z = rcS sr C z z 0 := by
  unfold lfcN
  refine fcF_rcS (fun c hc => ?_) z 0 (by omega)
  rw [used_bit h hz hc z (by omega) (fun j hj => by have := hC j hj; omega), frF_iff]
theorem paint_eq {n : Nat} {sh sr : Nat → Int32} (h : shR n sh sr) (hn : n ≤ 24) (C C' : Nat → Nat) : ∀ m, m ≤ n → ∀ k, k < m → pnC sh n C m k = rpC sr C' m k := by
  intro m
  induction m with
  | zero => intro _ k h; omega
  | succ m ih =>
    intro hm k hk
    show updN _ _ _ k = updN _ _ _ k
    by_cases e : k = m
    · subst e
      rw [updN_s, updN_s, lfc_eq h hn (by omega) (fun j hj => pnC_le sh n C k j hj)]
      exact rcS_congr (fun j hj => ih (by omega) j hj) _ _
    · rw [updN_n e, updN_n e]
      exact ih (by omega) k (by omega)
theorem mxC_congr {C C' : Nat → Nat} : ∀ k, (∀ j, j < k → C j = C' j) → mxC C k = mxC C' k := by
  intro k
  induction k with
  | zero => intro _; rfl
  | succ k ih =>
    intro h
    unfold mxC
    rw [ih (fun j hj => h j (by omega)), h k (by omega)]
theorem pnC_keep {sh : Nat → Int32} {n : Nat} {C : Nat → Nat} {k j : Nat} (h : j < k) : pnC sh n C (k + 1) j = pnC sh n C k j := updN_n (by omega)
theorem pnK_eq (sh : Nat → Int32) (n : Nat) (C : Nat → Nat) : ∀ k, pnK sh n C (k + 1) = mxC (pnC sh n C (k + 1)) (k + 1) + 1 := by
  intro k
  have e0 : ∀ k, pnC sh n C (k + 1) k = lfcN sh n (pnC sh n C k) k := fun k => updN_s _ _ _
  induction k with
  | zero =>
    show mx 0 (lfcN sh n C 0 + 1) = (if _ then _ else _) + 1
    have h0 := lfcN_le sh n C 0
    have e1 : pnC sh n C 1 0 = lfcN sh n C 0 := e0 0
    rw [e1]
    unfold mx mxC
    split <;> omega
  | succ k ih =>
    show mx (pnK sh n C (k + 1)) (lfcN sh n (pnC sh n C (k + 1)) (k + 1) + 1) = (if pnC sh n C (k + 2) (k + 1) ≤ mxC (pnC sh n C (k + 2)) (k + 1) then _ else _) + 1
    rw [ih, mxC_congr (C := pnC sh n C (k + 2)) (C' := pnC sh n C (k + 1)) (k + 1) (fun j hj => pnC_keep hj), e0 (k + 1)]
    unfold mx
    split <;> split <;> omega
theorem mxC_ge (C : Nat → Nat) : ∀ k j, j < k → C j ≤ mxC C k := by
  intro k
  induction k with
  | zero => intro j h; omega
  | succ k ih =>
    intro j h
    unfold mxC
    by_cases e : j = k
    · subst e; split <;> omega
    · have := ih j (by omega); split <;> omega
