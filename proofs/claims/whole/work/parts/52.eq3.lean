theorem cn_mono {G : Nat → Nat} {a : Nat} : ∀ b, a ≤ b → cnF G a ≤ cnF G b := by
  intro b
  induction b with
  | zero => intro h; rw [show a = 0 by omega]; exact Nat.le_refl _
  | succ b ih =>
    intro h
    by_cases e : a = b + 1
    · rw [e]; exact Nat.le_refl _
    · have := ih (by omega)
      have e2 : cnF G (b + 1) = if G b = 0 then cnF G b + 1 else cnF G b := rfl
      rw [e2]
      split <;> omega
theorem cn_s {G : Nat → Nat} {a : Nat} (h : G a = 0) : cnF G (a + 1) = cnF G a + 1 := if_pos h
theorem cn_n {G : Nat → Nat} {a : Nat} (h : G a ≠ 0) : cnF G (a + 1) = cnF G a := if_neg h
theorem cn_lt {G : Nat → Nat} {a b : Nat} (h : a < b) (g : G a = 0) : cnF G a < cnF G b := by
  have := cn_mono (G := G) (a := a + 1) b (by omega)
  have := cn_s g
  omega
theorem wk_rank {G : Nat → Nat} {x : Nat} (hx : G x = 0) : ∀ d w b, w ≤ x → x < w + d → cnF G x = cnF G w + b → wkF G d w b = nI x := by
  intro d
  induction d with
  | zero => intro w b h1 h2; omega
  | succ d ih =>
    intro w b h1 h2 h3
    by_cases g : G w = 0
    · by_cases b0 : b = 0
      · have : w = x := by
          by_cases e : w = x
          · exact e
          · have := cn_lt (G := G) (show w < x by omega) g
            omega
        rw [wkF_h g b0, this]
      · have e1 := cn_s g
        have : w ≠ x := by rintro rfl; omega
        rw [wkF_n g b0]
        exact ih (w + 1) (b - 1) (by omega) (by omega) (by omega)
    · have e1 := cn_n g
      have : w ≠ x := by rintro rfl; exact g hx
      rw [wkF_g g]
      exact ih (w + 1) b (by omega) (by omega) (by omega)
theorem cn_ex {G : Nat → Nat} {j : Nat} : ∀ k, j < cnF G k → ∃ x, x < k ∧ G x = 0 ∧ cnF G x = j := by
  intro k
  induction k with
  | zero => intro h; exact absurd h (Nat.not_lt_zero _)
  | succ k ih =>
    intro h
    by_cases g : G k = 0
    · rw [cn_s g] at h
      by_cases q : j < cnF G k
      · obtain ⟨x, h1, h2⟩ := ih q
        exact ⟨x, by omega, h2⟩
      · exact ⟨k, by omega, g, by omega⟩
    · rw [cn_n g] at h
      obtain ⟨x, h1, h2⟩ := ih h
      exact ⟨x, by omega, h2⟩
def diR (cr : Nat) (G : Nat → Nat) (di dn : Nat → Int32) : Prop := ∀ w, w < 16 → dn w = if w < cr ∧ G w = 0 then di w else -1
theorem diR.ok {cr : Nat} {G : Nat → Nat} {di dn : Nat → Int32} (h : diR cr G di dn) {w : Nat} (hw : w < cr) (hc : cr ≤ 16) (g : G w = 0) : diR cr G (upd di w (di w + nI 1)) (upd dn w (dn w + nI 1)) := by
  intro v hv
  by_cases e : v = w
  · subst e
    rw [pk_us, pk_us, if_pos ⟨hw, g⟩, h v hv, if_pos ⟨hw, g⟩]
  · rw [pk_un e, pk_un e]
    exact h v hv
theorem diR.no {cr : Nat} {G : Nat → Nat} {di dn : Nat → Int32} (h : diR cr G di dn) (w : Nat) : diR cr (updN G w 1) di (upd dn w (-1)) := by
  intro v hv
  by_cases e : v = w
  · subst e
    rw [pk_us, updN_s, if_neg (fun q => absurd q.2 (by decide))]
  · rw [pk_un e, updN_n e]
    exact h v hv
/-- the worker drawn, on the class's side -/
theorem dr_rank {cr : Nat} {G : Nat → Nat} {di dn : Nat → Int32} (h : diR cr G di dn) (hd : ∀ w, w < cr → ¬ di w = -1) {x : Nat} (hx : G x = 0) (hc : x < cr) : ∀ d w b, w ≤ x → x < w + d → w + d ≤ 16 → cnF G x = cnF G w + b → drN dn d w b = x := by
  intro d
  induction d with
  | zero => intro w b h1 h2; omega
  | succ d ih =>
    intro w b h1 h2 h16 h3
    have hw := h w (by omega)
    by_cases g : G w = 0
    · rw [if_pos ⟨by omega, g⟩] at hw
      have hne : ¬ dn w = -1 := by rw [hw]; exact hd w (by omega)
      by_cases b0 : b = 0
      · have : w = x := by
          by_cases e : w = x
          · exact e
          · have := cn_lt (G := G) (show w < x by omega) g
            omega
        rw [drN_h hne b0, this]
      · have e1 := cn_s g
        have : w ≠ x := by rintro rfl; omega
        rw [drN_n hne b0]
        exact ih (w + 1) (b - 1) (by omega) (by omega) (by omega) (by omega)
    · rw [if_neg (fun q => g q.2)] at hw
      have e1 := cn_n g
      have : w ≠ x := by rintro rfl; exact g hx
      rw [drN_g hw]
      exact ih (w + 1) b (by omega) (by omega) (by omega) (by omega)
def boR (B : Nat → Nat) (bl : Nat → Int32) (k : Nat) : Prop := ∀ j, j < k → bl j = packF (B (4 * j)) (B (4 * j + 1)) (B (4 * j + 2)) (B (4 * j + 3)) ∧ B (4 * j) < 16 ∧ B (4 * j + 1) < 32 ∧ B (4 * j + 2) < 1024 ∧ B (4 * j + 3) ≤ 1
theorem boR.step {B : Nat → Nat} {bl : Nat → Int32} {k : Nat} (h : boR B bl k) {w z t f : Nat} (hw : w < 16) (hz : z < 32) (ht : t < 1024) (hf : f ≤ 1) : boR (wrB B k w z t f) (bkL bl k (packF w z t f)) (bkN k) := by
  unfold wrB bkL bkN
  by_cases q : k < 2000
  · rw [if_pos q, if_pos q, if_pos q]
    intro j hj
    by_cases e : j = k
    · subst e
      have e0 : updN (updN (updN (updN B (4 * j) w) (4 * j + 1) z) (4 * j + 2) t) (4 * j + 3) f (4 * j) = w := by rw [updN_n (by omega), updN_n (by omega), updN_n (by omega), updN_s]
      have e1 : updN (updN (updN (updN B (4 * j) w) (4 * j + 1) z) (4 * j + 2) t) (4 * j + 3) f (4 * j + 1) = z := by rw [updN_n (by omega), updN_n (by omega), updN_s]
      have e2 : updN (updN (updN (updN B (4 * j) w) (4 * j + 1) z) (4 * j + 2) t) (4 * j + 3) f (4 * j + 2) = t := by rw [updN_n (by omega), updN_s]
      rw [pk_us, e0, e1, e2, updN_s]
      exact ⟨rfl, hw, hz, ht, hf⟩
    · have e0 : ∀ i, i < 4 → updN (updN (updN (updN B (4 * k) w) (4 * k + 1) z) (4 * k + 2) t) (4 * k + 3) f (4 * j + i) = B (4 * j + i) := fun i hi => by rw [updN_n (by omega), updN_n (by omega), updN_n (by omega), updN_n (by omega)]
      have e1 : updN (updN (updN (updN B (4 * k) w) (4 * k + 1) z) (4 * k + 2) t) (4 * k + 3) f (4 * j) = B (4 * j) := e0 0 (by omega)
      rw [pk_un e, e1, e0 1 (by omega), e0 2 (by omega), e0 3 (by omega)]
      exact h j (by omega)
  · rw [if_neg q, if_neg q, if_neg q]
    exact h
/-- the states of a run, on both sides; no worker did more than N zones -/
def stR (n cr N : Nat) (s : RS) (q : QS) : Prop := (∀ k, k < n → s.1 k = q.1 k) ∧ (∀ k, k < n → vB (s.1 k)) ∧ cnF q.2.1 cr = s.2.2.1 ∧ diR cr q.2.1 q.2.2.1 s.2.1 ∧ s.2.2.2.1 = q.2.2.2.1 ∧ s.2.2.2.2.2 = q.2.2.2.2.2.1 ∧ s.2.2.2.2.2 ≤ 2000 ∧ boR q.2.2.2.2.1 s.2.2.2.2.1 s.2.2.2.2.2 ∧ (∀ k, k < 16 → q.2.1 k ≤ 1) ∧ ∀ w, w < cr → ∃ m, m ≤ N ∧ q.2.2.1 w = nI m
theorem stR.mono {n cr N N' : Nat} {s : RS} {q : QS} (h : stR n cr N s q) (hN : N ≤ N') : stR n cr N' s q := by
  obtain ⟨s1, s2, s3, s4, s5, s6, s7, s8, s9, s10⟩ := h
  refine ⟨s1, s2, s3, s4, s5, s6, s7, s8, s9, fun w hw => ?_⟩
  obtain ⟨m, m1, m2⟩ := s10 w hw
  exact ⟨m, Nat.le_trans m1 hN, m2⟩
def faR (n : Nat) (F : Nat → Nat) (fk : Nat) (fw fz fh : Nat → Nat) (fc : Nat) : Prop := ∀ w z h, w < 16 → z < n → h < 1000 → (flF F fk w z h = 0 ↔ fiF fw fz fh w z h fc 0 = -1)
theorem zone_sim {n : Nat} {sh sr : Nat → Int32} (hS : shR n sh sr) (hn : n ≤ 24) {cr : Nat} (hcr : cr ≤ 16) {F fw fz fh : Nat → Nat} {fk fc : Nat} (hf : faR n F fk fw fz fh fc) {h : Nat} (hh : h < 1000) {C : Nat → Nat} {c z : Nat} (hz : z < n) {N : Nat} (hN : N ≤ 40000) (m : Nat) : ∀ d1 (s : RS) (q : QS) d, stR n cr N s q → nxD C q.2.2.2.2.2.2 c n n = nI z → s.2.2.1 ≤ d1 → s.2.2.1 + m + 1 ≤ d →
    (((zdF sh n F fk z h d1 s).1 = true ∧ ∃ q' d', rwF sr n C fw fz fh fc cr h c d q = rwF sr n C fw fz fh fc cr h c d' q' ∧ stR n cr (N + 1) (zdF sh n F fk z h d1 s).2 q' ∧ q'.2.2.2.2.2.2 = updN q.2.2.2.2.2.2 z 1 ∧ (zdF sh n F fk z h d1 s).2.2.2.1 + m ≤ d') ∨
     ((zdF sh n F fk z h d1 s).1 = false ∧ ∃ q', rwF sr n C fw fz fh fc cr h c d q = (false, q') ∧ stR n cr (N + 1) (zdF sh n F fk z h d1 s).2 q')) := by
  intro d1
  induction d1 with
  | zero =>
    intro s q d hst hnx hck hd
    obtain ⟨va, dn, ck, ch, bl, bk⟩ := s
    obtain ⟨va', G, di, cx, B, ln, dO⟩ := q
    obtain ⟨d, rfl⟩ : ∃ e, d = e + 1 := ⟨d - 1, by omega⟩
    have h0 : ck = 0 := Nat.le_zero.mp hck
    refine .inr ⟨rfl, (va', G, di, cx, B, ln, dO), ?_, hst.mono (Nat.le_succ _)⟩
    exact rwF_g hnx (by omega) (hst.2.2.1.trans h0)
  | succ d1 ih =>
    intro s q d hst hnx hck hd
    obtain ⟨va, dn, ck, ch, bl, bk⟩ := s
    obtain ⟨va', G, di, cx, B, ln, dO⟩ := q
    obtain ⟨d, rfl⟩ : ∃ e, d = e + 1 := ⟨d - 1, by omega⟩
    obtain ⟨s1, s2, s3, s4, s5, s6, s7, s8, s9, s10⟩ := hst
    simp only at s1 s2 s3 s4 s5 s6 s7 s8 s9 s10 hnx hck hd
    subst s5 s6
    by_cases h0 : ck = 0
    · rw [zdF_0 (by omega)]
      have hst : stR n cr N (va, dn, ck, ch, bl, bk) (va', G, di, ch, B, bk, dO) := ⟨s1, s2, s3, s4, rfl, rfl, s7, s8, s9, s10⟩
      refine .inr ⟨rfl, (va', G, di, ch, B, bk, dO), ?_, hst.mono (Nat.le_succ _)⟩
      exact rwF_g hnx (by omega) (s3.trans h0)
    · have hp : dv (nxH ch) % ck < ck := Nat.mod_lt _ (by omega)
      obtain ⟨x, x1, x2, x3⟩ := cn_ex (G := G) (j := dv (nxH ch) % ck) cr (by rw [s3]; exact hp)
      have hcn0 : cnF G cr ≠ 0 := by omega
      have hx16 : x < 16 := by omega
      have hne : ∀ w, w < cr → ¬ di w = -1 := fun w hw => by
        obtain ⟨m, m1, m2⟩ := s10 w hw
        rw [m2]
        exact nI_nm1 (by omega)
      have hdw : dwF dn ck ch = x := by
        unfold dwF
        exact dr_rank s4 hne x2 x1 16 0 _ (by omega) (by omega) (by omega) (by rw [x3]; show _ = 0 + _; omega)
      have hwk : wkF G cr 0 (dv (nxH ch) % cnF G cr) = nI x := by
        rw [s3]
        exact wk_rank x2 cr 0 _ (by omega) (by omega) (by rw [x3]; show _ = 0 + _; omega)
      have hfl := hf x z h hx16 hz hh
      by_cases q : flF F fk x z h = 0
      · rw [zdF_ok (by omega) hdw hx16 q, rwF_ok hnx (by omega) hcn0 hwk (by omega) (hfl.mp q), q]
        refine .inl ⟨rfl, _, d, rfl, ⟨fun k hk => ?_, fun k hk => ?_, s3, s4.ok x1 hcr x2, rfl, rfl, bkN_le s7, s8.step (by omega) (by omega) (by omega) (by omega), s9, fun w hw => ?_⟩, rfl, by show ck + m ≤ d; omega⟩
        · show upd va z _ k = upd va' z _ k
          rw [chg_eq hS s1 hz]
          by_cases e : k = z
          · subst e; rw [pk_us, pk_us]
          · rw [pk_un e, pk_un e]; exact s1 k hk
        · show vB (upd va z _ k)
          by_cases e : k = z
          · subst e; rw [pk_us]; exact kept_B _
          · rw [pk_un e]; exact s2 k hk
        · show ∃ m, m ≤ N + 1 ∧ upd di x _ w = nI m
          obtain ⟨m, m1, m2⟩ := s10 w hw
          by_cases e : w = x
          · subst e; exact ⟨m + 1, by omega, by rw [pk_us, m2, nI_add]⟩
          · exact ⟨m, by omega, by rw [pk_un e]; exact m2⟩
      · have hf1 : flF F fk x z h = 1 := by have := flF_le F fk x z h; omega
        have hcu := cnF_upd x2 cr x1
        rw [zdF_no (by omega) hdw hx16 q, rwF_no hnx (by omega) hcn0 hwk (by omega) (fun e => q (hfl.mpr e)), hf1]
        refine ih _ _ d ⟨s1, s2, ?_, s4.no _, rfl, rfl, bkN_le s7, s8.step (by omega) (by omega) (by omega) (by omega), fun k hk => ?_, s10⟩ hnx ?_ ?_
        · show cnF (updN G x 1) cr = ck - 1; omega
        · show updN _ _ _ k ≤ 1
          unfold updN
          split
          · exact Nat.le_refl _
          · exact s9 k hk
        · show ck - 1 ≤ d1; omega
        · show ck - 1 + m + 1 ≤ d; omega
def doR (C dO : Nat → Nat) (n c k : Nat) : Prop := ∀ j, j < n → (dO j = 0 ↔ ¬ (C j < c ∨ (C j = c ∧ j < k)))
theorem nx_skip {C dO : Nat → Nat} {n c k : Nat} (h : doR C dO n c k) (hk : k ≤ n) : ∀ j, j ≤ k → nxD C dO c n n = nxD C dO c n (n - j) := by
  intro j
  induction j with
  | zero => intro _; rfl
  | succ j ih =>
    intro hj
    rw [ih (by omega), show n - j = (n - (j + 1)) + 1 by omega]
    show (if _ then _ else _) = _
    rw [show n - (n - (j + 1) + 1) = j by omega, if_neg]
    rintro ⟨h1, h2⟩
    exact ((h j (by omega)).mp h2) (.inr ⟨h1, by omega⟩)
theorem nx_here {C dO : Nat → Nat} {n c k : Nat} (h : doR C dO n c k) (hk : k < n) (hc : C k = c) : nxD C dO c n n = nI k := by
  rw [nx_skip h (by omega) k (Nat.le_refl _), show n - k = (n - (k + 1)) + 1 by omega]
  show (if _ then _ else _) = _
  rw [show n - (n - (k + 1) + 1) = k by omega, if_pos ⟨hc, (h k hk).mpr (by omega)⟩]
theorem nx_end {C dO : Nat → Nat} {n c : Nat} (h : doR C dO n c n) : nxD C dO c n n = -1 := by
  rw [nx_skip h (Nat.le_refl _) n (Nat.le_refl _), Nat.sub_self]
  rfl
theorem col_sim {n : Nat} {sh sr : Nat → Int32} (hS : shR n sh sr) (hn : n ≤ 24) {cr : Nat} (hcr : cr ≤ 16) {F fw fz fh : Nat → Nat} {fk fc : Nat} (hf : faR n F fk fw fz fh fc) {h : Nat} (hh : h < 1000) {C C' : Nat → Nat} (hC : ∀ j, j < n → C j = C' j) {c : Nat} : ∀ m k, k + m = n → ∀ N, N + m ≤ 40000 → ∀ (s : RS) (q : QS) d, stR n cr N s q → doR C' q.2.2.2.2.2.2 n c k → s.2.2.1 + m + 1 ≤ d →
    (((sdF sh n F fk C h c m k s).1 = true ∧ ∃ q', rwF sr n C' fw fz fh fc cr h c d q = (true, q') ∧ stR n cr (N + m) (sdF sh n F fk C h c m k s).2 q' ∧ doR C' q'.2.2.2.2.2.2 n (c + 1) 0) ∨
     ((sdF sh n F fk C h c m k s).1 = false ∧ ∃ q', rwF sr n C' fw fz fh fc cr h c d q = (false, q') ∧ stR n cr (N + m) (sdF sh n F fk C h c m k s).2 q')) := by
  intro m
  induction m with
  | zero =>
    intro k hk N hN s q d hst hdo hd
    obtain rfl : k = n := by omega
    obtain ⟨d, rfl⟩ : ∃ e, d = e + 1 := ⟨d - 1, by omega⟩
    refine .inl ⟨rfl, q, ?_, hst, ?_⟩
    · obtain ⟨va', G, di, cx, B, ln, dO⟩ := q
      exact rwF_e (nx_end hdo)
    · intro j hj
      rw [hdo j hj]
      omega
  | succ m ih =>
    intro k hk N hN s q d hst hdo hd
    by_cases hc : C' k = c
    · have hc2 : C k = c := (hC k (by omega)).trans hc
      have hck : s.2.2.1 ≤ 16 := by
        have := hst.2.2.1
        have := cnF_le q.2.1 cr
        omega
      rcases zone_sim hS hn hcr hf hh (show k < n by omega) (show N ≤ 40000 by omega) (m + 1) 16 s q d hst (nx_here hdo (by omega) hc) hck (by omega) with ⟨z1, q', d', z2, z3, z4, z5⟩ | ⟨z1, q', z2, z3⟩
      · rw [sdF_t hc2 z1, z2, show N + (m + 1) = N + 1 + m by omega]
        refine ih (k + 1) (by omega) (N + 1) (by omega) _ q' d' z3 ?_ z5
        rw [z4]
        intro j hj
        by_cases e : j = k
        · subst e
          rw [updN_s]
          exact ⟨fun e => absurd e (by decide), fun e => absurd (.inr ⟨hc, by omega⟩) e⟩
        · rw [updN_n e, hdo j hj]
          omega
      · rw [sdF_f hc2 (by rw [z1]; decide)]
        exact .inr ⟨rfl, q', z2, z3.mono (by omega)⟩
    · have hc2 : C k ≠ c := fun t => hc ((hC k (by omega)).symm.trans t)
      rw [sdF_n hc2, show N + (m + 1) = N + 1 + m by omega]
      exact ih (k + 1) (by omega) (N + 1) (by omega) s q d (hst.mono (Nat.le_succ _)) (fun j hj => by
        rw [hdo j hj]
        by_cases e : j = k
        · subst e; omega
        · omega) (by omega)
theorem hour_sim {n : Nat} {sh sr : Nat → Int32} (hS : shR n sh sr) (hn : n ≤ 24) {cr : Nat} (hcr : cr ≤ 16) {F fw fz fh : Nat → Nat} {fk fc : Nat} (hf : faR n F fk fw fz fh fc) {h : Nat} (hh : h < 1000) {C C' : Nat → Nat} (hC : ∀ j, j < n → C j = C' j) : ∀ e c N, N + 24 * e ≤ 40000 → ∀ (s : RS) (q : QS), stR n cr N s q → doR C' q.2.2.2.2.2.2 n c 0 →
    (hdF sh n F fk C h e c s).1 = (roF sr n C' fw fz fh fc cr h e c q).1 ∧ stR n cr (N + 24 * e) (hdF sh n F fk C h e c s).2 (roF sr n C' fw fz fh fc cr h e c q).2 := by
  intro e
  induction e with
  | zero => intro c N hN s q hst hdo; exact ⟨rfl, hst⟩
  | succ e ih =>
    intro c N hN s q hst hdo
    have hck : s.2.2.1 ≤ 16 := by
      have := hst.2.2.1
      have := cnF_le q.2.1 cr
      omega
    rcases col_sim hS hn hcr hf hh hC (c := c) n 0 (by omega) N (by omega) s q 41 hst hdo (by omega) with ⟨h2, q', h1, h3, h4⟩ | ⟨h2, q', h1, h3⟩
    · rw [roF_t h1, hdF_t h2, show N + 24 * (e + 1) = N + 24 + 24 * e by omega]
      exact ih (c + 1) (N + 24) (by omega) _ q' (h3.mono (by omega)) h4
    · rw [roF_f h1, hdF_f (by rw [h2]; decide)]
      exact ⟨rfl, h3.mono (by omega)⟩
theorem hr_sim {n : Nat} {sh sr : Nat → Int32} (hS : shR n sh sr) (hn : n ≤ 24) {cr : Nat} (hcr : cr ≤ 16) {F fw fz fh : Nat → Nat} {fk fc : Nat} (hf : faR n F fk fw fz fh fc) {h : Nat} (hh : h < 1000) {C C' : Nat → Nat} (hC : ∀ j, j < n → C j = C' j) {K : Nat} (hK : K ≤ 24) {N : Nat} (hN : N + 576 ≤ 40000) (s : HS) (q : KQ) (hst : stR n cr N s.2 q.2) :
    (hdR sh n F fk C K h s).1 = (rhR sr n C' fw fz fh fc cr K h q).1 ∧ stR n cr (N + 576) (hdR sh n F fk C K h s).2.2 (rhR sr n C' fw fz fh fc cr K h q).2.2 := by
  obtain ⟨re, va, dn, ck, ch, bl, bk⟩ := s
  obtain ⟨ke, va', G, di, cx, B, ln, dO⟩ := q
  obtain ⟨a1, a2⟩ := hour_sim hS hn hcr hf hh hC K 0 N (by omega) (va, dn, ck, ch, bl, bk) (va', G, di, cx, B, ln, dzF dO n) hst (fun j hj => by
    show dzF dO n j = 0 ↔ _
    rw [dzF_val, if_pos hj]
    omega)
  replace a2 := a2.mono (show N + 24 * K ≤ N + 576 by omega)
  have b1 : (rhR sr n C' fw fz fh fc cr K h (ke, va', G, di, cx, B, ln, dO)).1 = (roF sr n C' fw fz fh fc cr h K 0 (va', G, di, cx, B, ln, dzF dO n)).1 := rfl
  have b2 : (rhR sr n C' fw fz fh fc cr K h (ke, va', G, di, cx, B, ln, dO)).2.2 = (if (roF sr n C' fw fz fh fc cr h K 0 (va', G, di, cx, B, ln, dzF dO n)).1 = true then (roF sr n C' fw fz fh fc cr h K 0 (va', G, di, cx, B, ln, dzF dO n)).2.1 else kcF (roF sr n C' fw fz fh fc cr h K 0 (va', G, di, cx, B, ln, dzF dO n)).2.1 (kcF ke va' n) n, (roF sr n C' fw fz fh fc cr h K 0 (va', G, di, cx, B, ln, dzF dO n)).2.2) := rfl
  rw [b1, b2]
  unfold hdR
  simp only
  by_cases t : (hdF sh n F fk C h K 0 (va, dn, ck, ch, bl, bk)).1 = true
  · rw [if_pos t, if_pos (by rw [← a1]; exact t)]
    refine ⟨by rw [← a1, t], ?_⟩
    exact a2
  · rw [if_neg t, if_neg (by rw [← a1]; exact t)]
    have t2 : (hdF sh n F fk C h K 0 (va, dn, ck, ch, bl, bk)).1 = false := by
      cases e : (hdF sh n F fk C h K 0 (va, dn, ck, ch, bl, bk)).1 with
      | false => rfl
      | true => exact absurd e t
    obtain ⟨s1, s2, s3⟩ := hst
    have c1 : ∀ (X Y : Nat → Int32) k, k < n → va_cpy X Y 0 0 n k = X k := by
      intro X Y k hk
      unfold va_cpy
      rw [if_pos (by omega), show 0 + (k - 0) = k by omega]
    refine ⟨by rw [← a1, t2], fun k hk => ?_, fun k hk => ?_, a2.2.2⟩
    · show va_cpy (va_cpy va re 0 0 n) _ 0 0 n k = kcF _ (kcF ke va' n) n k
      rw [c1 _ _ k hk, c1 _ _ k hk, kcF_val, if_pos hk, kcF_val, if_pos hk]
      exact s1 k hk
    · show vB (va_cpy (va_cpy va re 0 0 n) _ 0 0 n k)
      rw [c1 _ _ k hk, c1 _ _ k hk]
      exact s2 k hk
set_option maxRecDepth 100000 in
theorem rn_sim {n : Nat} {sh sr : Nat → Int32} (hS : shR n sh sr) (hn : n ≤ 24) {cr : Nat} (hcr : cr ≤ 16) {F fw fz fh : Nat → Nat} {fk fc : Nat} (hf : faR n F fk fw fz fh fc) {C C' : Nat → Nat} (hC : ∀ j, j < n → C j = C' j) {K : Nat} (hK : K ≤ 24) (sp : Int32) : ∀ H h N, h + H ≤ 1000 → N + 576 * H ≤ 40000 → ∀ (s : HS) (q : KQ), stR n cr N s.2 q.2 →
    (rnF sh n F fk C K sp H h s).1 = (rrF sr n C' fw fz fh fc cr K sp H h q).1 ∧ stR n cr (N + 576 * H) (rnF sh n F fk C K sp H h s).2.2 (rrF sr n C' fw fz fh fc cr K sp H h q).2.2 := by
  intro H
  induction H with
  | zero => intro h N _ _ s q hst; exact ⟨rfl, hst⟩
  | succ H ih =>
    intro h N hh hN s q hst
    rw [Nat.mul_succ] at hN ⊢
    generalize 576 * H = M at ih hN ⊢
    obtain ⟨a1, a2⟩ := hr_sim hS hn hcr hf (show h < 1000 by omega) hC hK (show N + 576 ≤ 40000 by omega) s q hst
    rw [rnF]
    by_cases t : (rhR sr n C' fw fz fh fc cr K h q).1 = true
    · rw [if_pos (by rw [a1]; exact t)]
      by_cases e : nI h = sp
      · rw [if_pos e, rrF_s t e]
        exact ⟨rfl, a2.mono (by omega)⟩
      · rw [if_neg e, rrF_t t e, show N + (M + 576) = N + 576 + M by omega]
        exact ih (h + 1) (N + 576) (by omega) (by omega) _ _ a2
    · rw [if_neg (by rw [a1]; exact t), rrF_f t]
      exact ⟨rfl, a2.mono (by omega)⟩
theorem gaD_val (dn : Nat → Int32) (W : Nat) : ∀ k j, gaD dn W k j = if j < k then (if j < W then nI 0 else -1) else dn j := by
  intro k
  induction k with
  | zero => intro j; rw [if_neg (by omega)]; rfl
  | succ k ih =>
    intro j
    show upd _ k _ j = _
    by_cases e : j = k
    · subst e; rw [pk_us, if_pos (show j < j + 1 by omega)]
    · rw [pk_un e, ih]
      by_cases q : j < k
      · rw [if_pos q, if_pos (show j < k + 1 by omega)]
      · rw [if_neg q, if_neg (show ¬ j < k + 1 by omega)]
theorem dzI_val (di : Nat → Int32) : ∀ k j, dzI di k j = if j < k then nI 0 else di j := by
  intro k
  induction k with
  | zero => intro j; rw [if_neg (by omega)]; rfl
  | succ k ih =>
    intro j
    show upd _ k _ j = _
    by_cases e : j = k
    · subst e; rw [pk_us, if_pos (by omega)]
    · rw [pk_un e, ih]
      by_cases q : j < k
      · rw [if_pos q, if_pos (by omega)]
      · rw [if_neg q, if_neg (by omega)]
theorem cn_all {G : Nat → Nat} : ∀ k, (∀ j, j < k → G j = 0) → cnF G k = k := by
  intro k
  induction k with
  | zero => intro _; rfl
  | succ k ih => intro h; rw [cn_s (h k (by omega)), ih (fun j hj => h j (by omega))]
theorem st_start {n W : Nat} (hW : W ≤ 16) {va va' : Nat → Int32} (h1 : ∀ k, k < n → va k = va' k) (h2 : ∀ k, k < n → vB (va k)) (G : Nat → Nat) (dn di : Nat → Int32) (sd : Int32) (bl : Nat → Int32) (B dO : Nat → Nat) : stR n W 0 (va, gaD dn W 16, W, sd, bl, 0) (va', dzF G 16, dzI di 16, sd, B, 0, dO) := by
  have hz : ∀ j, j < 16 → dzF G 16 j = 0 := fun j hj => by rw [dzF_val, if_pos hj]
  refine ⟨h1, h2, cn_all W (fun j hj => hz j (by omega)), fun w hw => ?_, rfl, rfl, Nat.zero_le _, fun j hj => ?_, fun k hk => ?_, fun w hw => ⟨0, Nat.le_refl _, ?_⟩⟩
  · show gaD dn W 16 w = if w < W ∧ dzF G 16 w = 0 then dzI di 16 w else -1
    rw [gaD_val, if_pos hw, dzI_val, if_pos hw]
    by_cases q : w < W
    · rw [if_pos q, if_pos ⟨q, hz w hw⟩]
    · rw [if_neg q, if_neg (fun e => q e.1)]
  · exact absurd hj (Nat.not_lt_zero j)
  · show dzF G 16 k ≤ 1
    rw [hz k hk]
    omega
  · show dzI di 16 w = nI 0
    rw [dzI_val, if_pos (by omega)]
