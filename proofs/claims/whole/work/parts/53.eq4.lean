theorem ky_inj {w z h w' z' h' : Nat} (hw : w < 16) (hz : z < 24) (hw' : w' < 16) (hz' : z' < 24) : kyF w z h = kyF w' z' h' ↔ w = w' ∧ z = z' ∧ h = h' := by
  unfold kyF
  omega
theorem ky_lt {w z h : Nat} (hw : w < 16) (hz : z < 24) (hh : h < 1000) : kyF w z h < 2 ^ 31 := by
  unfold kyF
  omega
theorem bs_spec {F : Nat → Nat} {key fk : Nat} (hF : ∀ i j, i < j → j < fk → F i < F j) : ∀ d lo hi, lo ≤ hi → hi ≤ fk → hi - lo ≤ d → lo ≤ bsF F key d lo hi ∧ bsF F key d lo hi ≤ hi ∧ (∀ j, lo ≤ j → j < bsF F key d lo hi → F j < key) ∧ (∀ j, bsF F key d lo hi ≤ j → j < hi → key ≤ F j) := by
  intro d
  induction d with
  | zero =>
    intro lo hi h1 h2 h3
    have e : bsF F key 0 lo hi = lo := rfl
    rw [e]
    exact ⟨Nat.le_refl _, h1, fun j a b => by omega, fun j a b => by omega⟩
  | succ d ih =>
    intro lo hi h1 h2 h3
    by_cases q : lo < hi
    · by_cases r : F ((lo + hi) / 2) < key
      · rw [bsF_lt q r]
        obtain ⟨a, b, c, e⟩ := ih ((lo + hi) / 2 + 1) hi (by omega) h2 (by omega)
        refine ⟨by omega, b, fun j j1 j2 => ?_, e⟩
        by_cases t : (lo + hi) / 2 + 1 ≤ j
        · exact c j t j2
        · by_cases u : j = (lo + hi) / 2
          · rw [u]; exact r
          · exact Nat.lt_trans (hF j ((lo + hi) / 2) (by omega) (by omega)) r
      · rw [bsF_ge q (Nat.not_lt.mp r)]
        obtain ⟨a, b, c, e⟩ := ih lo ((lo + hi) / 2) (by omega) (by omega) (by omega)
        refine ⟨a, by omega, c, fun j j1 j2 => ?_⟩
        by_cases t : j < (lo + hi) / 2
        · exact e j j1 t
        · by_cases u : j = (lo + hi) / 2
          · rw [u]; exact Nat.not_lt.mp r
          · exact Nat.le_trans (Nat.not_lt.mp r) (Nat.le_of_lt (hF ((lo + hi) / 2) j (by omega) (by omega)))
    · rw [bsF_end (by omega)]
      exact ⟨Nat.le_refl _, h1, fun j a b => by omega, fun j a b => by omega⟩
theorem bs_found {F : Nat → Nat} {key fk : Nat} (hfk : fk ≤ 200) (hF : ∀ i j, i < j → j < fk → F i < F j) : (bsF F key 200 0 fk < fk ∧ F (bsF F key 200 0 fk) = key) ↔ ∃ j, j < fk ∧ F j = key := by
  obtain ⟨a, b, c, e⟩ := bs_spec (key := key) hF 200 0 fk (by omega) (Nat.le_refl _) (by omega)
  constructor
  · rintro ⟨h1, h2⟩; exact ⟨_, h1, h2⟩
  · rintro ⟨j, h1, h2⟩
    have hj : bsF F key 200 0 fk ≤ j := by
      rcases Nat.lt_or_ge j (bsF F key 200 0 fk) with q | q
      · have := c j (by omega) q; omega
      · exact q
    have : j = bsF F key 200 0 fk := by
      by_cases q : j = bsF F key 200 0 fk
      · exact q
      · have x1 := hF _ j (show bsF F key 200 0 fk < j by omega) h1
        have x2 := e (bsF F key 200 0 fk) (Nat.le_refl _) (by omega)
        omega
    rw [← this]
    exact ⟨h1, h2⟩
theorem fi_spec {fw fz fh : Nat → Nat} {w z h : Nat} : ∀ d k, (fiF fw fz fh w z h d k = -1 ∧ ∀ i, k ≤ i → i < k + d → ¬ (fw i = w ∧ fz i = z ∧ fh i = h)) ∨ (∃ i, k ≤ i ∧ i < k + d ∧ fiF fw fz fh w z h d k = nI i ∧ fw i = w ∧ fz i = z ∧ fh i = h) := by
  intro d
  induction d with
  | zero => intro k; exact .inl ⟨rfl, fun i a b => by omega⟩
  | succ d ih =>
    intro k
    by_cases q : fw k = w ∧ fz k = z ∧ fh k = h
    · exact .inr ⟨k, Nat.le_refl _, by omega, fiF_eq q, q⟩
    · rw [fiF_ne q]
      rcases ih (k + 1) with ⟨a, b⟩ | ⟨i, a, b, c⟩
      · refine .inl ⟨a, fun i i1 i2 => ?_⟩
        by_cases e : i = k
        · rw [e]; exact q
        · exact b i (by omega) (by omega)
      · exact .inr ⟨i, by omega, by omega, c⟩
/-- the failures, on both sides -/
def flR (F : Nat → Nat) (fk : Nat) (fw fz fh : Nat → Nat) (fc : Nat) : Prop := fk = fc ∧ fc ≤ 200 ∧ (∀ i j, i < j → j < fk → F i < F j) ∧ (∀ k, k < fc → fw k < 16 ∧ fz k < 24 ∧ fh k < 1000) ∧ (∀ i j, i < j → j < fc → kyF (fw i) (fz i) (fh i) ≠ kyF (fw j) (fz j) (fh j)) ∧ ∀ key, (∃ j, j < fk ∧ F j = key) ↔ ∃ k, k < fc ∧ kyF (fw k) (fz k) (fh k) = key
theorem flR.lt {F : Nat → Nat} {fk : Nat} {fw fz fh : Nat → Nat} {fc : Nat} (h : flR F fk fw fz fh fc) : ∀ j, j < fk → F j < 2 ^ 31 := by
  intro j hj
  obtain ⟨k, h1, h2⟩ := (h.2.2.2.2.2 (F j)).mp ⟨j, hj, rfl⟩
  obtain ⟨a, b, c⟩ := h.2.2.2.1 k h1
  rw [← h2]
  exact ky_lt a b c
theorem flR.t {F : Nat → Nat} {fk : Nat} {fw fz fh : Nat → Nat} {fc : Nat} (hR : flR F fk fw fz fh fc) {w z h : Nat} (hw : w < 16) (hz : z < 24) (hin : bsF F (kyF w z h) 200 0 fk < fk ∧ F (bsF F (kyF w z h) 200 0 fk) = kyF w z h) : ∃ k, k < fc ∧ fiF fw fz fh w z h fc 0 = nI k ∧ fw k = w ∧ fz k = z ∧ fh k = h := by
  obtain ⟨h1, h2, h3, h4, h5, h6⟩ := hR
  obtain ⟨k, k1, k2⟩ := (h6 _).mp ⟨_, hin.1, hin.2⟩
  obtain ⟨a, b, c⟩ := h4 k k1
  rcases fi_spec (fw := fw) (fz := fz) (fh := fh) (w := w) (z := z) (h := h) fc 0 with ⟨e1, e2⟩ | ⟨i, e1, e2, e3, e4⟩
  · exact absurd ((ky_inj a b hw hz).mp k2) (e2 k (by omega) (by omega))
  · exact ⟨i, by omega, e3, e4⟩
theorem flR.f {F : Nat → Nat} {fk : Nat} {fw fz fh : Nat → Nat} {fc : Nat} (hR : flR F fk fw fz fh fc) {w z h : Nat} (hw : w < 16) (hz : z < 24) (hin : ¬ (bsF F (kyF w z h) 200 0 fk < fk ∧ F (bsF F (kyF w z h) 200 0 fk) = kyF w z h)) : fiF fw fz fh w z h fc 0 = -1 := by
  obtain ⟨h1, h2, h3, h4, h5, h6⟩ := hR
  rcases fi_spec (fw := fw) (fz := fz) (fh := fh) (w := w) (z := z) (h := h) fc 0 with ⟨e1, e2⟩ | ⟨i, e1, e2, e3, e4, e5, e6⟩
  · exact e1
  · refine absurd ((bs_found (by omega) h3).mpr ((h6 _).mpr ⟨i, by omega, ?_⟩)) hin
    rw [e4, e5, e6]
theorem flR.fa {F : Nat → Nat} {fk : Nat} {fw fz fh : Nat → Nat} {fc n : Nat} (hR : flR F fk fw fz fh fc) (hn : n ≤ 24) : faR n F fk fw fz fh fc := by
  intro w z h hw hz hh
  unfold flF
  by_cases q : bsF F (kyF w z h) 200 0 fk < fk ∧ F (bsF F (kyF w z h) 200 0 fk) = kyF w z h
  · obtain ⟨k, k1, k2, _⟩ := hR.t hw (by omega) q
    have := hR.2.1
    rw [b2n_t q, k2]
    exact ⟨fun e => absurd e (by decide), fun e => absurd e (nI_nm1 (by omega))⟩
  · rw [b2n_f q, hR.f hw (by omega) q]
    exact ⟨fun _ => rfl, fun _ => rfl⟩
theorem flR.ins {F : Nat → Nat} {fk : Nat} {fw fz fh : Nat → Nat} {fc : Nat} (hR : flR F fk fw fz fh fc) {w z h : Nat} (hw : w < 16) (hz : z < 24) (hh : h < 1000) (hl : fk < 200) (hin : ¬ (bsF F (kyF w z h) 200 0 fk < fk ∧ F (bsF F (kyF w z h) 200 0 fk) = kyF w z h)) :
    flR (updN (cpyN F F (bsF F (kyF w z h) 200 0 fk) (bsF F (kyF w z h) 200 0 fk + 1) (fk - (bsF F (kyF w z h) 200 0 fk))) (bsF F (kyF w z h) 200 0 fk) (kyF w z h)) (fk + 1) (updN fw fc w) (updN fz fc z) (updN fh fc h) (fc + 1) := by
  obtain ⟨h1, h2, h3, h4, h5, h6⟩ := hR
  obtain ⟨a, b, c, e⟩ := bs_spec (key := kyF w z h) h3 200 0 fk (by omega) (Nat.le_refl _) (by omega)
  have hno : ¬ ∃ j, j < fk ∧ F j = kyF w z h := fun q => hin ((bs_found (by omega) h3).mpr q)
  subst h1
  generalize bsF F (kyF w z h) 200 0 fk = r at *
  have v1 : ∀ j, j < r → updN (cpyN F F r (r + 1) (fk - r)) r (kyF w z h) j = F j := fun j hj => by
    rw [updN_n (by omega)]
    exact if_neg (by omega)
  have v2 : updN (cpyN F F r (r + 1) (fk - r)) r (kyF w z h) r = kyF w z h := updN_s _ _ _
  have v3 : ∀ j, r < j → j < fk + 1 → updN (cpyN F F r (r + 1) (fk - r)) r (kyF w z h) j = F (j - 1) := fun j hj hk => by
    rw [updN_n (by omega)]
    unfold cpyN
    rw [if_pos (by omega), show r + (j - (r + 1)) = j - 1 by omega]
  have hgt : ∀ j, r ≤ j → j < fk → kyF w z h < F j := fun j j1 j2 => by
    have := e j j1 j2
    have : F j ≠ kyF w z h := fun q => hno ⟨j, j2, q⟩
    omega
  generalize updN (cpyN F F r (r + 1) (fk - r)) r (kyF w z h) = F' at *
  have w1 : ∀ k, k < fk → kyF (updN fw fk w k) (updN fz fk z k) (updN fh fk h k) = kyF (fw k) (fz k) (fh k) := fun k hk => by rw [updN_n (by omega), updN_n (by omega), updN_n (by omega)]
  have w2 : kyF (updN fw fk w fk) (updN fz fk z fk) (updN fh fk h fk) = kyF w z h := by rw [updN_s, updN_s, updN_s]
  refine ⟨rfl, by omega, fun i j ij jk => ?_, fun k hk => ?_, fun i j ij jk => ?_, fun key => ?_⟩
  · rcases Nat.lt_trichotomy i r with i1 | i1 | i1
    · rw [v1 i i1]
      rcases Nat.lt_trichotomy j r with j1 | j1 | j1
      · rw [v1 j j1]; exact h3 i j ij (by omega)
      · rw [j1, v2]; exact c i (by omega) i1
      · rw [v3 j j1 jk]; exact Nat.lt_trans (c i (by omega) i1) (hgt (j - 1) (by omega) (by omega))
    · rw [i1, v2, v3 j (by omega) jk]; exact hgt (j - 1) (by omega) (by omega)
    · rw [v3 i i1 (by omega), v3 j (by omega) jk]; exact h3 _ _ (by omega) (by omega)
  · by_cases q : k = fk
    · rw [q, updN_s, updN_s, updN_s]; exact ⟨hw, hz, hh⟩
    · rw [updN_n q, updN_n q, updN_n q]; exact h4 k (by omega)
  · rw [w1 i (by omega)]
    by_cases q : j = fk
    · rw [q, w2]
      intro t
      exact hno ((h6 _).mpr ⟨i, by omega, t⟩)
    · rw [w1 j (by omega)]; exact h5 i j ij (by omega)
  · constructor
    · rintro ⟨j, j1, j2⟩
      rcases Nat.lt_trichotomy j r with q | q | q
      · rw [v1 j q] at j2
        obtain ⟨k, k1, k2⟩ := (h6 key).mp ⟨j, by omega, j2⟩
        exact ⟨k, by omega, by rw [w1 k k1]; exact k2⟩
      · rw [q, v2] at j2
        exact ⟨fk, by omega, by rw [w2]; exact j2⟩
      · rw [v3 j q j1] at j2
        obtain ⟨k, k1, k2⟩ := (h6 key).mp ⟨j - 1, by omega, j2⟩
        exact ⟨k, by omega, by rw [w1 k k1]; exact k2⟩
    · rintro ⟨k, k1, k2⟩
      by_cases q : k = fk
      · rw [q, w2] at k2
        exact ⟨r, by omega, by rw [v2]; exact k2⟩
      · rw [w1 k (by omega)] at k2
        obtain ⟨j, j1, j2⟩ := (h6 key).mpr ⟨k, by omega, k2⟩
        by_cases t : j < r
        · exact ⟨j, by omega, by rw [v1 j t]; exact j2⟩
        · exact ⟨j + 1, by omega, by rw [v3 (j + 1) (by omega) (by omega)]; exact j2⟩
theorem flR.del {F : Nat → Nat} {fk : Nat} {fw fz fh : Nat → Nat} {fc : Nat} (hR : flR F fk fw fz fh fc) {w z h : Nat} {k0 : Nat} (hk0 : k0 < fc) (hm : fw k0 = w ∧ fz k0 = z ∧ fh k0 = h) (hin : bsF F (kyF w z h) 200 0 fk < fk ∧ F (bsF F (kyF w z h) 200 0 fk) = kyF w z h) :
    flR (cpyN F F (bsF F (kyF w z h) 200 0 fk + 1) (bsF F (kyF w z h) 200 0 fk) (fk - (bsF F (kyF w z h) 200 0 fk) - 1)) (fk - 1) (updN fw k0 (fw (fc - 1))) (updN fz k0 (fz (fc - 1))) (updN fh k0 (fh (fc - 1))) (fc - 1) := by
  obtain ⟨h1, h2, h3, h4, h5, h6⟩ := hR
  subst h1
  obtain ⟨m1, m2, m3⟩ := hm
  obtain ⟨r1, r2⟩ := hin
  generalize bsF F (kyF w z h) 200 0 fk = r at *
  have v1 : ∀ j, j < r → cpyN F F (r + 1) r (fk - r - 1) j = F j := fun j hj => if_neg (by omega)
  have v2 : ∀ j, r ≤ j → j < fk - 1 → cpyN F F (r + 1) r (fk - r - 1) j = F (j + 1) := fun j hj hk => by
    unfold cpyN
    rw [if_pos (by omega), show r + 1 + (j - r) = j + 1 by omega]
  generalize cpyN F F (r + 1) r (fk - r - 1) = F' at *
  have hk : kyF (fw k0) (fz k0) (fh k0) = kyF w z h := by rw [m1, m2, m3]
  have w1 : ∀ k, k ≠ k0 → kyF (updN fw k0 (fw (fk - 1)) k) (updN fz k0 (fz (fk - 1)) k) (updN fh k0 (fh (fk - 1)) k) = kyF (fw k) (fz k) (fh k) := fun k hk => by rw [updN_n hk, updN_n hk, updN_n hk]
  have w2 : kyF (updN fw k0 (fw (fk - 1)) k0) (updN fz k0 (fz (fk - 1)) k0) (updN fh k0 (fh (fk - 1)) k0) = kyF (fw (fk - 1)) (fz (fk - 1)) (fh (fk - 1)) := by rw [updN_s, updN_s, updN_s]
  have inj : ∀ i j, i < fk → j < fk → i ≠ j → kyF (fw i) (fz i) (fh i) ≠ kyF (fw j) (fz j) (fh j) := fun i j a b c => by
    rcases Nat.lt_or_gt_of_ne c with q | q
    · exact h5 i j q b
    · exact fun t => h5 j i q a t.symm
  refine ⟨rfl, by omega, fun i j ij jk => ?_, fun k hk => ?_, fun i j ij jk => ?_, fun key => ?_⟩
  · by_cases i1 : i < r
    · rw [v1 i i1]
      by_cases j1 : j < r
      · rw [v1 j j1]; exact h3 i j ij (by omega)
      · rw [v2 j (by omega) jk]; exact h3 i (j + 1) (by omega) (by omega)
    · rw [v2 i (by omega) (by omega), v2 j (by omega) jk]; exact h3 _ _ (by omega) (by omega)
  · by_cases q : k = k0
    · rw [q, updN_s, updN_s, updN_s]; exact h4 _ (by omega)
    · rw [updN_n q, updN_n q, updN_n q]; exact h4 k (by omega)
  · by_cases qi : i = k0
    · rw [qi, w2]
      rw [w1 j (by omega)]
      exact inj _ _ (by omega) (by omega) (by omega)
    · rw [w1 i qi]
      by_cases qj : j = k0
      · rw [qj, w2]; exact inj _ _ (by omega) (by omega) (by omega)
      · rw [w1 j qj]; exact h5 i j ij (by omega)
  · constructor
    · rintro ⟨j, j1, j2⟩
      have : ∃ j', j' < fk ∧ j' ≠ r ∧ F j' = key := by
        by_cases q : j < r
        · exact ⟨j, by omega, by omega, by rw [← v1 j q]; exact j2⟩
        · exact ⟨j + 1, by omega, by omega, by rw [← v2 j (by omega) j1]; exact j2⟩
      obtain ⟨j', a, b, c⟩ := this
      have hne : key ≠ kyF w z h := by
        rw [← c, ← r2]
        intro t
        rcases Nat.lt_or_gt_of_ne b with q | q
        · have := h3 _ _ q r1; omega
        · have := h3 _ _ q a; omega
      obtain ⟨k, k1, k2⟩ := (h6 key).mp ⟨j', a, c⟩
      have hkk : k ≠ k0 := by
        rintro rfl
        exact hne (k2.symm.trans hk)
      by_cases q : k = fk - 1
      · exact ⟨k0, by omega, by rw [w2, ← q]; exact k2⟩
      · exact ⟨k, by omega, by rw [w1 k hkk]; exact k2⟩
    · rintro ⟨k, k1, k2⟩
      have : ∃ k', k' < fk ∧ k' ≠ k0 ∧ kyF (fw k') (fz k') (fh k') = key := by
        by_cases q : k = k0
        · rw [q, w2] at k2
          exact ⟨fk - 1, by omega, by omega, k2⟩
        · rw [w1 k q] at k2
          exact ⟨k, by omega, q, k2⟩
      obtain ⟨k', a, b, c⟩ := this
      have hne : key ≠ kyF w z h := by
        rw [← c, ← hk]
        exact inj _ _ a hk0 b
      obtain ⟨j, j1, j2⟩ := (h6 key).mpr ⟨k', a, c⟩
      have hj : j ≠ r := by
        rintro rfl
        exact hne (j2.symm.trans r2)
      by_cases q : j < r
      · exact ⟨j, by omega, by rw [v1 j q]; exact j2⟩
      · exact ⟨j - 1, by omega, by rw [v2 (j - 1) (by omega) (by omega), show j - 1 + 1 = j by omega]; exact j2⟩
theorem bt_hi {x k i : Nat} (hx : x < 2 ^ k) (h : k ≤ i) : bt (nI x) i = false := by
  unfold bt
  show (BitVec.ofNat 32 x).getLsbD i = false
  rw [BitVec.getLsbD_ofNat, Nat.testBit_lt_two_pow (Nat.lt_of_lt_of_le hx (Nat.pow_le_pow_right (by omega) h)), Bool.and_false]
theorem bt_ones (k : Nat) (hk : k ≤ 10) (i : Nat) (hi : i < 32) : bt (nI (2 ^ k - 1)) i = decide (i < k) :=
  (by decide +kernel : ∀ k, k ≤ 10 → ∀ i, i < 32 → bt (nI (2 ^ k - 1)) i = decide (i < k)) k hk i hi
theorem bt_pack {w z h f : Nat} {i : Nat} (hi : i < 32) : bt (packF w z h f) i = (((bt (nI w) i || (decide (4 ≤ i) && bt (nI z) (i - 4))) || (decide (9 ≤ i) && bt (nI h) (i - 9))) || (decide (19 ≤ i) && bt (nI f) (i - 19))) := by
  unfold packF
  rw [b_or, b_or, b_or, b_shl 4 (by omega) _ hi, b_shl 9 (by omega) _ hi, b_shl 19 (by omega) _ hi]
theorem un_pack {w z h f : Nat} (hw : w < 2 ^ 4) (hz : z < 2 ^ 5) (hh : h < 2 ^ 10) (hf : f < 2 ^ 1) : packF w z h f &&& nI 15 = nI w ∧ (packF w z h f >>> (nI 4 &&& 31)) &&& nI 31 = nI z ∧ (packF w z h f >>> (nI 9 &&& 31)) &&& nI 1023 = nI h ∧ (packF w z h f >>> (nI 19 &&& 31)) &&& nI 1 = nI f := by
  refine ⟨b_ext fun i hi => ?_, b_ext fun i hi => ?_, b_ext fun i hi => ?_, b_ext fun i hi => ?_⟩
  · rw [b_and, bt_ones 4 (by omega) i hi, bt_pack hi]
    by_cases q : i < 4
    · rw [decide_eq_true q, decide_eq_false (by omega), decide_eq_false (by omega), decide_eq_false (by omega)]
      simp
    · rw [decide_eq_false q, Bool.and_false, bt_hi hw (by omega)]
  · rw [b_and, bt_ones 5 (by omega) i hi, b_sshr 4 (by omega) _ hi]
    by_cases q : i < 5
    · rw [if_pos (by omega), bt_pack (by omega), decide_eq_true q, decide_eq_true (show 4 ≤ 4 + i by omega), decide_eq_false (by omega), decide_eq_false (by omega), bt_hi hw (by omega), show 4 + i - 4 = i by omega]
      simp
    · rw [decide_eq_false q, Bool.and_false, bt_hi hz (by omega)]
  · rw [b_and, bt_ones 10 (by omega) i hi, b_sshr 9 (by omega) _ hi]
    by_cases q : i < 10
    · rw [if_pos (by omega), bt_pack (by omega), decide_eq_true q, decide_eq_true (show 4 ≤ 9 + i by omega), decide_eq_true (show 9 ≤ 9 + i by omega), decide_eq_false (by omega), bt_hi hw (by omega), bt_hi hz (by omega), show 9 + i - 9 = i by omega]
      simp
    · rw [decide_eq_false q, Bool.and_false, bt_hi hh (by omega)]
  · rw [b_and, bt_ones 1 (by omega) i hi, b_sshr 19 (by omega) _ hi]
    by_cases q : i < 1
    · rw [if_pos (by omega), bt_pack (by omega), decide_eq_true q, decide_eq_true (show 4 ≤ 19 + i by omega), decide_eq_true (show 9 ≤ 19 + i by omega), decide_eq_true (show 19 ≤ 19 + i by omega), bt_hi hw (by omega), bt_hi hz (by omega), bt_hi hh (by omega), show 19 + i - 19 = i by omega]
      simp
    · rw [decide_eq_false q, Bool.and_false, bt_hi hf (by omega)]
/-- the jobs, on both sides -/
def jbR (U : Nat → Nat) (jr ja : Nat → Int32) (jk jq : Nat) (wa : Nat → Nat) (ra ag : Nat → Int32) (wg jo : Nat) : Prop := jk = wg ∧ jq = jo ∧ jk ≤ 100 ∧ (∀ p, p < jk → U p < jo) ∧ (∀ p q, p < q → q < jk → U p < U q) ∧ (∀ j, j < jo → (wa j ≠ 0 ↔ ∃ p, p < jk ∧ U p = j)) ∧ (∀ j, j < jo → wa j ≤ 1) ∧ ∀ p, p < jk → jr p = ra (U p) ∧ ja p = ag (U p)
theorem jbR.job {U : Nat → Nat} {jr ja : Nat → Int32} {jk jq : Nat} {wa : Nat → Nat} {ra ag : Nat → Int32} {wg jo : Nat} (h : jbR U jr ja jk jq wa ra ag wg jo) (hl : jk < 100) (v : Int32) : jbR (updN U jk jq) (upd jr jk v) (upd ja jk (nI 0)) (jk + 1) (jq + 1) (updN wa jo 1) (upd ra jo v) (upd ag jo (nI 0)) (wg + 1) (jo + 1) := by
  obtain ⟨h1, h2, h3, h4, h5, h6, h7, h8⟩ := h
  subst h1 h2
  have u1 : ∀ p, p < jk → updN U jk jq p = U p := fun p hp => updN_n (by omega)
  have u2 : updN U jk jq jk = jq := updN_s _ _ _
  refine ⟨rfl, rfl, by omega, fun p hp => ?_, fun p q pq qk => ?_, fun j hj => ?_, fun j hj => ?_, fun p hp => ?_⟩
  · by_cases e : p = jk
    · rw [e, u2]; omega
    · rw [u1 p (by omega)]; have := h4 p (by omega); omega
  · rw [u1 p (by omega)]
    by_cases e : q = jk
    · rw [e, u2]; exact h4 p (by omega)
    · rw [u1 q (by omega)]; exact h5 p q pq (by omega)
  · by_cases e : j = jq
    · rw [e, updN_s]
      exact ⟨fun _ => ⟨jk, by omega, u2⟩, fun _ => by decide⟩
    · rw [updN_n e, h6 j (by omega)]
      constructor
      · rintro ⟨p, p1, p2⟩; exact ⟨p, by omega, by rw [u1 p p1]; exact p2⟩
      · rintro ⟨p, p1, p2⟩
        by_cases t : p = jk
        · rw [t, u2] at p2; exact absurd p2.symm e
        · exact ⟨p, by omega, by rw [← u1 p (by omega)]; exact p2⟩
  · by_cases e : j = jq
    · rw [e, updN_s]; exact Nat.le_refl _
    · rw [updN_n e]; exact h7 j (by omega)
  · by_cases e : p = jk
    · rw [e, u2, pk_us, pk_us, pk_us, pk_us]; exact ⟨rfl, rfl⟩
    · have := h4 p (by omega)
      rw [u1 p (by omega), pk_un e, pk_un e, pk_un (by omega), pk_un (by omega)]
      exact h8 p (by omega)
theorem ao_none {U : Nat → Nat} {ja : Nat → Int32} {j : Nat} : ∀ d p, (∀ i, p ≤ i → i < p + d → U i ≠ j) → aoF U ja j d p = -1 := by
  intro d
  induction d with
  | zero => intro p _; rfl
  | succ d ih => intro p h; rw [aoF_ne (h p (Nat.le_refl _) (by omega))]; exact ih (p + 1) (fun i a b => h i (by omega) (by omega))
theorem ao_some {U : Nat → Nat} {ja : Nat → Int32} {j : Nat} {v : Int32} : ∀ d p, (∀ i, p ≤ i → i < p + d → U i = j → ja i = v) → (∃ i, p ≤ i ∧ i < p + d ∧ U i = j) → aoF U ja j d p = v := by
  intro d
  induction d with
  | zero => rintro p _ ⟨i, a, b, _⟩; omega
  | succ d ih =>
    rintro p h ⟨i, a, b, c⟩
    by_cases e : U p = j
    · rw [aoF_eq e]; exact h p (Nat.le_refl _) (by omega) e
    · rw [aoF_ne e]
      refine ih (p + 1) (fun i a b => h i (by omega) (by omega)) ⟨i, ?_, by omega, c⟩
      have : i ≠ p := by rintro rfl; exact e c
      omega
theorem jbR.age {U : Nat → Nat} {jr ja : Nat → Int32} {jk jq : Nat} {wa : Nat → Nat} {ra ag : Nat → Int32} {wg jo : Nat} (h : jbR U jr ja jk jq wa ra ag wg jo) {j : Nat} (hj : j < jo) : aoF U ja j jk 0 = if wa j = 0 then -1 else ag j := by
  obtain ⟨h1, h2, h3, h4, h5, h6, h7, h8⟩ := h
  by_cases q : wa j = 0
  · rw [if_pos q]
    exact ao_none jk 0 (fun i _ b c => (h6 j hj).mpr ⟨i, by omega, c⟩ q)
  · rw [if_neg q]
    obtain ⟨p, p1, p2⟩ := (h6 j hj).mp q
    exact ao_some jk 0 (fun i _ b c => by rw [← c]; exact (h8 i (by omega)).2) ⟨p, by omega, by omega, p2⟩
theorem tb_at {U : Nat → Nat} {jr ja : Nat → Int32} {jk jq : Nat} {wa : Nat → Nat} {ra ag : Nat → Int32} {wg jo : Nat} (h : jbR U jr ja jk jq wa ra ag wg jo) : ∀ j, j ≤ jo → ∃ p, p ≤ jk ∧ (∀ i, i < p → U i < j) ∧ (∀ i, p ≤ i → i < jk → j ≤ U i) ∧ tbN wa ra ag j = (if p = 0 then 0 else U (fmF jr ja (p - 1)) + 1) := by
  obtain ⟨h1, h2, h3, h4, h5, h6, h7, h8⟩ := h
  intro j
  induction j with
  | zero => intro _; exact ⟨0, by omega, fun i hi => by omega, fun i _ _ => by omega, rfl⟩
  | succ j ih =>
    intro hj
    obtain ⟨p, p1, p2, p3, p4⟩ := ih (by omega)
    by_cases q : wa j = 0
    · refine ⟨p, p1, fun i hi => by have := p2 i hi; omega, fun i a b => ?_, ?_⟩
      · have := p3 i a b
        have : U i ≠ j := fun e => (h6 j (by omega)).mpr ⟨i, b, e⟩ q
        omega
      · rw [tbN_w rfl q]; exact p4
    · obtain ⟨i, i1, i2⟩ := (h6 j (by omega)).mp q
      have hip : i = p := by
        rcases Nat.lt_trichotomy i p with a | a | a
        · have := p2 i a; omega
        · exact a
        · have := h5 p i a i1; have := p3 p (Nat.le_refl _) (by omega); omega
      subst hip
      refine ⟨i + 1, by omega, fun t ht => ?_, fun t a b => ?_, ?_⟩
      · by_cases e : t = i
        · rw [e]; omega
        · have := p2 t (by omega); omega
      · have := h5 i t (by omega) b; omega
      · rw [if_neg (by omega), Nat.add_sub_cancel]
        by_cases z : i = 0
        · rw [if_pos z] at p4
          rw [tbN_0 p4 q, z]
          show j + 1 = U 0 + 1
          rw [← z, i2]
        · rw [if_neg z] at p4
          have hf := fmF_le jr ja (i - 1)
          obtain ⟨k, rfl⟩ : ∃ k, i = k + 1 := ⟨i - 1, by omega⟩
          rw [Nat.add_sub_cancel] at p4 hf
          obtain ⟨a1, a2⟩ := h8 (k + 1) i1
          obtain ⟨b1, b2⟩ := h8 (fmF jr ja k) (by omega)
          have e : fmF jr ja (k + 1) = if jr (k + 1) + ja (k + 1) ≤ jr (fmF jr ja k) + ja (fmF jr ja k) then fmF jr ja k else k + 1 := rfl
          rw [e, a1, a2, b1, b2, i2]
          by_cases c : ra j + ag j ≤ ra (U (fmF jr ja k)) + ag (U (fmF jr ja k))
          · rw [tbN_k p4 q c, if_pos c]
          · rw [tbN_n p4 q c, if_neg c, i2]
theorem tb_all {U : Nat → Nat} {jr ja : Nat → Int32} {jk jq : Nat} {wa : Nat → Nat} {ra ag : Nat → Int32} {wg jo : Nat} (h : jbR U jr ja jk jq wa ra ag wg jo) : tbN wa ra ag jo = (if jk = 0 then 0 else U (fmF jr ja (jk - 1)) + 1) := by
  obtain ⟨p, p1, p2, p3, p4⟩ := tb_at h jo (Nat.le_refl _)
  have : p = jk := by
    by_cases q : p = jk
    · exact q
    · have := p3 p (Nat.le_refl _) (by omega)
      have := h.2.2.2.1 p (by omega)
      omega
  rw [p4, this]
theorem agF_val (ja : Nat → Int32) : ∀ k j, agF ja k j = if j < k then ja j + nI 1 else ja j := by
  intro k
  induction k with
  | zero => intro j; rw [if_neg (by omega)]; rfl
  | succ k ih =>
    intro j
    show upd _ k _ j = _
    by_cases e : j = k
    · subst e; rw [pk_us, if_pos (by omega), ih, if_neg (by omega)]
    · rw [pk_un e, ih]
      by_cases q : j < k
      · rw [if_pos q, if_pos (by omega)]
      · rw [if_neg q, if_neg (by omega)]
theorem taF_val (wa : Nat → Nat) (t : Nat) (ag : Nat → Int32) : ∀ k j, taF wa t ag k j = if j < k ∧ wa j ≠ 0 ∧ j + 1 ≠ t then ag j + nI 1 else ag j := by
  intro k
  induction k with
  | zero => intro j; rw [if_neg (by omega)]; rfl
  | succ k ih =>
    intro j
    show upd _ k _ j = _
    by_cases e : j = k
    · subst e
      rw [pk_us, ih, if_neg (show ¬ (j < j ∧ _) from fun q => absurd q.1 (by omega))]
      by_cases q : wa j ≠ 0 ∧ j + 1 ≠ t
      · rw [if_pos q, if_pos ⟨by omega, q⟩]
      · rw [if_neg q, if_neg (fun z => q z.2)]
    · rw [pk_un e, ih]
      by_cases q : j < k ∧ wa j ≠ 0 ∧ j + 1 ≠ t
      · rw [if_pos q, if_pos ⟨by omega, q.2⟩]
      · rw [if_neg q, if_neg (fun z => q ⟨by omega, z.2⟩)]
theorem jbR.take0 {U : Nat → Nat} {jr ja : Nat → Int32} {jq : Nat} {wa : Nat → Nat} {ra ag : Nat → Int32} {wg jo : Nat} (h : jbR U jr ja 0 jq wa ra ag wg jo) (ag' : Nat → Int32) : jbR U jr ja 0 jq wa ra ag' wg jo := by
  obtain ⟨h1, h2, h3, h4, h5, h6, h7, h8⟩ := h
  exact ⟨h1, h2, h3, h4, h5, h6, h7, fun p hp => by omega⟩
theorem jbR.take {U : Nat → Nat} {jr ja : Nat → Int32} {jk jq : Nat} {wa : Nat → Nat} {ra ag : Nat → Int32} {wg jo : Nat} (h : jbR U jr ja jk jq wa ra ag wg jo) {f : Nat} (hf : f < jk) : jbR (cpyN U U (f + 1) f (jk - f - 1)) (va_cpy jr jr (f + 1) f (jk - f - 1)) (agF (va_cpy ja ja (f + 1) f (jk - f - 1)) (jk - 1)) (jk - 1) jq (updN wa (U f) 0) ra (taF wa (U f + 1) ag jo) (wg - 1) jo := by
  obtain ⟨h1, h2, h3, h4, h5, h6, h7, h8⟩ := h
  subst h1 h2
  have v : ∀ j, j < jk - 1 → ∃ i, i < jk ∧ i ≠ f ∧ (i = if j < f then j else j + 1) ∧ cpyN U U (f + 1) f (jk - f - 1) j = U i ∧ va_cpy jr jr (f + 1) f (jk - f - 1) j = jr i ∧ va_cpy ja ja (f + 1) f (jk - f - 1) j = ja i := by
    intro j hj
    by_cases q : j < f
    · exact ⟨j, by omega, by omega, by rw [if_pos q], if_neg (by omega), if_neg (by omega), if_neg (by omega)⟩
    · have e : f + 1 + (j - f) = j + 1 := by omega
      exact ⟨j + 1, by omega, by omega, by rw [if_neg q], (if_pos (by omega)).trans (congrArg U e), (if_pos (by omega)).trans (congrArg jr e), (if_pos (by omega)).trans (congrArg ja e)⟩
  have inj : ∀ i j, i < jk → j < jk → U i = U j → i = j := fun i j a b c => by
    rcases Nat.lt_trichotomy i j with q | q | q
    · have := h5 i j q b; omega
    · exact q
    · have := h5 j i q a; omega
  refine ⟨rfl, rfl, by omega, fun p hp => ?_, fun p q pq qk => ?_, fun j hj => ?_, fun j hj => ?_, fun p hp => ?_⟩
  · obtain ⟨i, i1, i2, i3, i4, i5, i6⟩ := v p hp
    rw [i4]; exact h4 i i1
  · obtain ⟨i, i1, i2, i3, i4, i5, i6⟩ := v p (by omega)
    obtain ⟨k, k1, k2, k3, k4, k5, k6⟩ := v q qk
    rw [i4, k4]
    refine h5 i k ?_ k1
    split at i3 <;> split at k3 <;> omega
  · by_cases e : j = U f
    · rw [e, updN_s]
      constructor
      · intro z; exact absurd rfl z
      · rintro ⟨p, p1, p2⟩
        obtain ⟨i, i1, i2, i3, i4, i5, i6⟩ := v p p1
        rw [i4] at p2
        exact absurd (inj i f i1 hf p2) i2
    · rw [updN_n e, h6 j hj]
      constructor
      · rintro ⟨p, p1, p2⟩
        have hpf : p ≠ f := by rintro rfl; exact e p2.symm
        by_cases q : p < f
        · obtain ⟨i, i1, i2, i3, i4, i5, i6⟩ := v p (by omega)
          rw [if_pos q] at i3
          exact ⟨p, by omega, by rw [i4, i3]; exact p2⟩
        · obtain ⟨i, i1, i2, i3, i4, i5, i6⟩ := v (p - 1) (by omega)
          rw [if_neg (by omega)] at i3
          exact ⟨p - 1, by omega, by rw [i4, i3, show p - 1 + 1 = p by omega]; exact p2⟩
      · rintro ⟨p, p1, p2⟩
        obtain ⟨i, i1, i2, i3, i4, i5, i6⟩ := v p p1
        exact ⟨i, i1, by rw [← i4]; exact p2⟩
  · unfold updN
    split
    · omega
    · exact h7 j hj
  · obtain ⟨i, i1, i2, i3, i4, i5, i6⟩ := v p hp
    obtain ⟨a, b⟩ := h8 i i1
    rw [i4, i5, agF_val, if_pos hp, i6, taF_val, if_pos]
    · exact ⟨a, by rw [b]⟩
    · exact ⟨h4 i i1, (h6 _ (h4 i i1)).mpr ⟨i, i1, rfl⟩, fun t => i2 (inj i f i1 hf (by omega))⟩
