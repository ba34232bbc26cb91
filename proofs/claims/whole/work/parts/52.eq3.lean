theorem cn_mono {G : Nat → Nat} {a : Nat} : ∀ b, a ≤ b → cnF G a ≤ cnF G b := by
  intro b
  induction b with
  | zero => intro h; rw [show a = 0 by omega]; exact Nat.le_refl _
  | succ b ih =>
    intro h
    by_cases e : a = b + 1
    · rw [e]; exact Nat.le_refl _
    · have := ih (by omega)
      have e2 : cnF G (b + 1) = if G b = 0 then cnF G b + 1 else cnF G b := rfl
      rw [e2]
      split <;> omega
theorem cn_s {G : Nat → Nat} {a : Nat} (h : G a = 0) : cnF G (a + 1) = cnF G a + 1 := if_pos h
theorem cn_n {G : Nat → Nat} {a : Nat} (h : G a ≠ 0) : cnF G (a + 1) = cnF G a := if_neg h
theorem cn_lt {G : Nat → Nat} {a b : Nat} (h : a < b) (g : G a = 0) : cnF G a < cnF G b := by
  have := cn_mono (G := G) (a := a + 1) b (by omega)
  have := cn_s g
  omega
theorem wk_rank {G : Nat → Nat} {x : Nat} (hx : G x = 0) : ∀ d w b, w ≤ x → x < w + d → cnF G x = cnF G w + b → wkF G d w b = nI x := by
  intro d
  induction d with
  | zero => intro w b h1 h2; omega
  | succ d ih =>
    intro w b h1 h2 h3
    by_cases g : G w = 0
    · by_cases b0 : b = 0
      · have : w = x := by
          by_cases e : w = x
          · exact e
          · have := cn_lt (G := G) (show w < x by omega) g
            omega
        rw [wkF_h g b0, this]
      · have e1 := cn_s g
        have : w ≠ x := by rintro rfl; omega
        rw [wkF_n g b0]
        exact ih (w + 1) (b - 1) (by omega) (by omega) (by omega)
    · have e1 := cn_n g
      have : w ≠ x := by rintro rfl; exact g hx
      rw [wkF_g g]
      exact ih (w + 1) b (by omega) (by omega) (by omega)
def crR (cr : Nat) (G P : Nat → Nat) (ck : Nat) : Prop := cnF G cr = ck ∧ ∀ j, j < ck → P j < cr ∧ G (P j) = 0 ∧ cnF G (P j) = j
theorem crR.pick {cr : Nat} {G P : Nat → Nat} {ck : Nat} (h : crR cr G P ck) {j : Nat} (hj : j < ck) : wkF G cr 0 j = nI (P j) := by
  obtain ⟨h1, h2, h3⟩ := h.2 j hj
  exact wk_rank h2 cr 0 j (by omega) (by omega) (by rw [h3]; show _ = 0 + _; omega)
theorem crR.rem {cr : Nat} {G P : Nat → Nat} {ck : Nat} (h : crR cr G P ck) {p : Nat} (hp : p < ck) : crR cr (updN G (P p) 1) (cpyN P P (p + 1) p (ck - p - 1)) (ck - 1) := by
  obtain ⟨p1, p2, p3⟩ := h.2 p hp
  have hi : ∀ v, P p < v → cnF (updN G (P p) 1) v + 1 = cnF G v := fun v hv => cnF_upd p2 v hv
  have lo : ∀ v, v ≤ P p → cnF (updN G (P p) 1) v = cnF G v := fun v hv => cnF_same v (fun j hj => updN_n (by omega))
  refine ⟨?_, fun j hj => ?_⟩
  · have := hi cr p1
    have := h.1
    omega
  · by_cases q : j < p
    · obtain ⟨j1, j2, j3⟩ := h.2 j (by omega)
      have e : cpyN P P (p + 1) p (ck - p - 1) j = P j := if_neg (by omega)
      have hlt : P j < P p := by
        rcases Nat.lt_or_ge (P j) (P p) with r | r
        · exact r
        · have := cn_mono (G := G) _ r
          omega
      rw [e]
      exact ⟨j1, by rw [updN_n (by omega)]; exact j2, by rw [lo _ (by omega)]; exact j3⟩
    · obtain ⟨j1, j2, j3⟩ := h.2 (j + 1) (by omega)
      have e : cpyN P P (p + 1) p (ck - p - 1) j = P (j + 1) := by
        unfold cpyN
        rw [if_pos (by omega), show p + 1 + (j - p) = j + 1 by omega]
      have hlt : P p < P (j + 1) := by
        rcases Nat.lt_or_ge (P p) (P (j + 1)) with r | r
        · exact r
        · have := cn_mono (G := G) _ r
          omega
      rw [e]
      refine ⟨j1, by rw [updN_n (by omega)]; exact j2, ?_⟩
      have := hi _ hlt
      omega
def diR (cr : Nat) (G : Nat → Nat) (di dn : Nat → Int32) : Prop := ∀ w, w < 16 → dn w = if w < cr ∧ G w = 0 then di w else -1
theorem diR.ok {cr : Nat} {G : Nat → Nat} {di dn : Nat → Int32} (h : diR cr G di dn) {w : Nat} (hw : w < cr) (hc : cr ≤ 16) (g : G w = 0) : diR cr G (upd di w (di w + nI 1)) (upd dn w (dn w + nI 1)) := by
  intro v hv
  by_cases e : v = w
  · subst e
    rw [pk_us, pk_us, if_pos ⟨hw, g⟩, h v hv, if_pos ⟨hw, g⟩]
  · rw [pk_un e, pk_un e]
    exact h v hv
theorem diR.no {cr : Nat} {G : Nat → Nat} {di dn : Nat → Int32} (h : diR cr G di dn) (w : Nat) : diR cr (updN G w 1) di (upd dn w (-1)) := by
  intro v hv
  by_cases e : v = w
  · subst e
    rw [pk_us, updN_s, if_neg (fun q => absurd q.2 (by decide))]
  · rw [pk_un e, updN_n e]
    exact h v hv
def boR (B : Nat → Nat) (bl : Nat → Int32) (k : Nat) : Prop := ∀ j, j < k → bl j = packF (B (4 * j)) (B (4 * j + 1)) (B (4 * j + 2)) (B (4 * j + 3)) ∧ B (4 * j) < 16 ∧ B (4 * j + 1) < 32 ∧ B (4 * j + 2) < 1024 ∧ B (4 * j + 3) ≤ 1
theorem boR.step {B : Nat → Nat} {bl : Nat → Int32} {k : Nat} (h : boR B bl k) {w z t f : Nat} (hw : w < 16) (hz : z < 32) (ht : t < 1024) (hf : f ≤ 1) : boR (wrB B k w z t f) (bkL bl k (packF w z t f)) (bkN k) := by
  unfold wrB bkL bkN
  by_cases q : k < 2000
  · rw [if_pos q, if_pos q, if_pos q]
    intro j hj
    by_cases e : j = k
    · subst e
      have e0 : updN (updN (updN (updN B (4 * j) w) (4 * j + 1) z) (4 * j + 2) t) (4 * j + 3) f (4 * j) = w := by rw [updN_n (by omega), updN_n (by omega), updN_n (by omega), updN_s]
      have e1 : updN (updN (updN (updN B (4 * j) w) (4 * j + 1) z) (4 * j + 2) t) (4 * j + 3) f (4 * j + 1) = z := by rw [updN_n (by omega), updN_n (by omega), updN_s]
      have e2 : updN (updN (updN (updN B (4 * j) w) (4 * j + 1) z) (4 * j + 2) t) (4 * j + 3) f (4 * j + 2) = t := by rw [updN_n (by omega), updN_s]
      rw [pk_us, e0, e1, e2, updN_s]
      exact ⟨rfl, hw, hz, ht, hf⟩
    · have e0 : ∀ i, i < 4 → updN (updN (updN (updN B (4 * k) w) (4 * k + 1) z) (4 * k + 2) t) (4 * k + 3) f (4 * j + i) = B (4 * j + i) := fun i hi => by rw [updN_n (by omega), updN_n (by omega), updN_n (by omega), updN_n (by omega)]
      have e1 : updN (updN (updN (updN B (4 * k) w) (4 * k + 1) z) (4 * k + 2) t) (4 * k + 3) f (4 * j) = B (4 * j) := e0 0 (by omega)
      rw [pk_un e, e1, e0 1 (by omega), e0 2 (by omega), e0 3 (by omega)]
      exact h j (by omega)
  · rw [if_neg q, if_neg q, if_neg q]
    exact h
/-- the states of a run, on both sides -/
def stR (n cr : Nat) (s : RS) (q : QS) : Prop := (∀ k, k < n → s.1 k = q.1 k) ∧ (∀ k, k < n → vB (s.1 k)) ∧ crR cr q.2.1 s.2.1 s.2.2.2.1 ∧ diR cr q.2.1 q.2.2.1 s.2.2.1 ∧ s.2.2.2.2.1 = q.2.2.2.1 ∧ s.2.2.2.2.2.2 = q.2.2.2.2.2.1 ∧ s.2.2.2.2.2.2 ≤ 2000 ∧ boR q.2.2.2.2.1 s.2.2.2.2.2.1 s.2.2.2.2.2.2 ∧ ∀ k, k < 16 → q.2.1 k ≤ 1
def faR (n : Nat) (F : Nat → Nat) (fk : Nat) (fw fz fh : Nat → Nat) (fc : Nat) : Prop := ∀ w z h, w < 16 → z < n → h < 1000 → (flF F fk w z h = 0 ↔ fiF fw fz fh w z h fc 0 = -1)
theorem zone_sim {n : Nat} {sh sr : Nat → Int32} (hS : shR n sh sr) (hn : n ≤ 24) {cr : Nat} (hcr : cr ≤ 16) {F fw fz fh : Nat → Nat} {fk fc : Nat} (hf : faR n F fk fw fz fh fc) {h : Nat} (hh : h < 1000) {C : Nat → Nat} {c z : Nat} (hz : z < n) (m : Nat) : ∀ d1 (s : RS) (q : QS) d, stR n cr s q → nxD C q.2.2.2.2.2.2 c n n = nI z → s.2.2.2.1 ≤ d1 → s.2.2.2.1 + m + 1 ≤ d →
    (((zdF sh n F fk z h d1 s).1 = true ∧ ∃ q' d', rwF sr n C fw fz fh fc cr h c d q = rwF sr n C fw fz fh fc cr h c d' q' ∧ stR n cr (zdF sh n F fk z h d1 s).2 q' ∧ q'.2.2.2.2.2.2 = updN q.2.2.2.2.2.2 z 1 ∧ (zdF sh n F fk z h d1 s).2.2.2.2.1 + m ≤ d') ∨
     ((zdF sh n F fk z h d1 s).1 = false ∧ ∃ q', rwF sr n C fw fz fh fc cr h c d q = (false, q') ∧ stR n cr (zdF sh n F fk z h d1 s).2 q')) := by
  intro d1
  induction d1 with
  | zero =>
    intro s q d hst hnx hck hd
    obtain ⟨va, P, dn, ck, ch, bl, bk⟩ := s
    obtain ⟨va', G, di, cx, B, ln, dO⟩ := q
    obtain ⟨d, rfl⟩ : ∃ e, d = e + 1 := ⟨d - 1, by omega⟩
    have h0 : ck = 0 := Nat.le_zero.mp hck
    refine .inr ⟨rfl, (va', G, di, cx, B, ln, dO), ?_, hst⟩
    exact rwF_g hnx (by omega) (by rw [hst.2.2.1.1]; exact h0)
  | succ d1 ih =>
    intro s q d hst hnx hck hd
    obtain ⟨va, P, dn, ck, ch, bl, bk⟩ := s
    obtain ⟨va', G, di, cx, B, ln, dO⟩ := q
    obtain ⟨d, rfl⟩ : ∃ e, d = e + 1 := ⟨d - 1, by omega⟩
    obtain ⟨s1, s2, s3, s4, s5, s6, s7, s8, s9⟩ := hst
    simp only at s1 s2 s3 s4 s5 s6 s7 s8 s9 hnx hck hd
    subst s5 s6
    by_cases h0 : ck = 0
    · rw [zdF_0 (by omega)]
      refine .inr ⟨rfl, (va', G, di, ch, B, bk, dO), ?_, ⟨s1, s2, s3, s4, rfl, rfl, s7, s8, s9⟩⟩
      exact rwF_g hnx (by omega) (by rw [s3.1]; exact h0)
    · have hp : dv (nxH ch) % ck < ck := Nat.mod_lt _ (by omega)
      obtain ⟨w1, w2, w3⟩ := s3.2 _ hp
      have hpk := s3.pick hp
      have hcn := s3.1
      have hcn0 : cnF G cr ≠ 0 := by omega
      have hfl := hf _ z h (show P (dv (nxH ch) % ck) < 16 by omega) hz hh
      have hwk : wkF G cr 0 (dv (nxH ch) % cnF G cr) = nI (P (dv (nxH ch) % ck)) := by rw [hcn]; exact hpk
      by_cases q : flF F fk (P (dv (nxH ch) % ck)) z h = 0
      · rw [zdF_ok (by omega) q, rwF_ok hnx (by omega) hcn0 hwk (by omega) (hfl.mp q), q]
        refine .inl ⟨rfl, _, d, rfl, ⟨fun k hk => ?_, fun k hk => ?_, s3, s4.ok w1 hcr w2, rfl, rfl, bkN_le s7, s8.step (by omega) (by omega) (by omega) (by omega), s9⟩, rfl, by show ck + m ≤ d; omega⟩
        · show upd va z _ k = upd va' z _ k
          rw [chg_eq hS s1 hz]
          by_cases e : k = z
          · subst e; rw [pk_us, pk_us]
          · rw [pk_un e, pk_un e]; exact s1 k hk
        · show vB (upd va z _ k)
          by_cases e : k = z
          · subst e; rw [pk_us]; exact kept_B _
          · rw [pk_un e]; exact s2 k hk
      · have hf1 : flF F fk (P (dv (nxH ch) % ck)) z h = 1 := by have := flF_le F fk (P (dv (nxH ch) % ck)) z h; omega
        rw [zdF_no (by omega) q, rwF_no hnx (by omega) hcn0 hwk (by omega) (fun e => q (hfl.mpr e)), hf1]
        refine ih _ _ d ⟨s1, s2, s3.rem hp, s4.no _, rfl, rfl, bkN_le s7, s8.step (by omega) (by omega) (by omega) (by omega), fun k hk => ?_⟩ hnx ?_ ?_
        · show updN _ _ _ k ≤ 1
          unfold updN
          split
          · exact Nat.le_refl _
          · exact s9 k hk
        · show ck - 1 ≤ d1; omega
        · show ck - 1 + m + 1 ≤ d; omega
def doR (C dO : Nat → Nat) (n c k : Nat) : Prop := ∀ j, j < n → (dO j = 0 ↔ ¬ (C j < c ∨ (C j = c ∧ j < k)))
theorem nx_skip {C dO : Nat → Nat} {n c k : Nat} (h : doR C dO n c k) (hk : k ≤ n) : ∀ j, j ≤ k → nxD C dO c n n = nxD C dO c n (n - j) := by
  intro j
  induction j with
  | zero => intro _; rfl
  | succ j ih =>
    intro hj
    rw [ih (by omega), show n - j = (n - (j + 1)) + 1 by omega]
    show (if _ then _ else _) = _
    rw [show n - (n - (j + 1) + 1) = j by omega, if_neg]
    rintro ⟨h1, h2⟩
    exact ((h j (by omega)).mp h2) (.inr ⟨h1, by omega⟩)
theorem nx_here {C dO : Nat → Nat} {n c k : Nat} (h : doR C dO n c k) (hk : k < n) (hc : C k = c) : nxD C dO c n n = nI k := by
  rw [nx_skip h (by omega) k (Nat.le_refl _), show n - k = (n - (k + 1)) + 1 by omega]
  show (if _ then _ else _) = _
  rw [show n - (n - (k + 1) + 1) = k by omega, if_pos ⟨hc, (h k hk).mpr (by omega)⟩]
theorem nx_end {C dO : Nat → Nat} {n c : Nat} (h : doR C dO n c n) : nxD C dO c n n = -1 := by
  rw [nx_skip h (Nat.le_refl _) n (Nat.le_refl _), Nat.sub_self]
  rfl
theorem col_sim {n : Nat} {sh sr : Nat → Int32} (hS : shR n sh sr) (hn : n ≤ 24) {cr : Nat} (hcr : cr ≤ 16) {F fw fz fh : Nat → Nat} {fk fc : Nat} (hf : faR n F fk fw fz fh fc) {h : Nat} (hh : h < 1000) {C T : Nat → Nat} (hT : OrdT C n T) {c : Nat} : ∀ m k, k + m = n → ∀ (s : RS) (q : QS) d, stR n cr s q → doR C q.2.2.2.2.2.2 n c k → s.2.2.2.1 + m + 1 ≤ d →
    ((∃ s' q', rwF sr n C fw fz fh fc cr h c d q = (true, q') ∧ hdF sh n F fk T h (n - (nlC C c n + neC C c k)) (nlC C c n + neC C c k) s = hdF sh n F fk T h (n - nlC C (c + 1) n) (nlC C (c + 1) n) s' ∧ stR n cr s' q' ∧ doR C q'.2.2.2.2.2.2 n (c + 1) 0) ∨
     (∃ s' q', rwF sr n C fw fz fh fc cr h c d q = (false, q') ∧ hdF sh n F fk T h (n - (nlC C c n + neC C c k)) (nlC C c n + neC C c k) s = (false, s') ∧ stR n cr s' q')) := by
  intro m
  induction m with
  | zero =>
    intro k hk s q d hst hdo hd
    obtain rfl : k = n := by omega
    obtain ⟨d, rfl⟩ : ∃ e, d = e + 1 := ⟨d - 1, by omega⟩
    refine .inl ⟨s, q, ?_, ?_, hst, ?_⟩
    · obtain ⟨va', G, di, cx, B, ln, dO⟩ := q
      exact rwF_e (nx_end hdo)
    · rw [nl_succ]
    · intro j hj
      rw [hdo j hj]
      omega
  | succ m ih =>
    intro k hk s q d hst hdo hd
    by_cases hc : C k = c
    · have hp : T (nlC C c n + neC C c k) = k := by
        have := hT.1 k (by omega)
        unfold poC at this
        rw [hc] at this
        exact this
      have hl : nlC C c n + neC C c k < n := by
        have a := po_lt (C := C) (n := n) (j := k) (by omega)
        have b := nl_le C (C k + 1) n
        unfold poC at a
        rw [hc] at a b
        omega
      have hck : s.2.2.2.1 ≤ 16 := by
        have := hst.2.2.1.1
        have := cnF_le q.2.1 cr
        omega
      have e1 : neC C c (k + 1) = neC C c k + 1 := if_pos hc
      have e2 : hdF sh n F fk T h (n - (nlC C c n + neC C c k)) (nlC C c n + neC C c k) s = if (zdF sh n F fk k h 16 s).1 = true then hdF sh n F fk T h (n - (nlC C c n + neC C c (k + 1))) (nlC C c n + neC C c (k + 1)) (zdF sh n F fk k h 16 s).2 else (false, (zdF sh n F fk k h 16 s).2) := by
        rw [show n - (nlC C c n + neC C c k) = (n - (nlC C c n + neC C c (k + 1))) + 1 by omega]
        show (if (zdF sh n F fk (T (nlC C c n + neC C c k)) h 16 s).1 = true then hdF sh n F fk T h (n - (nlC C c n + neC C c (k + 1))) (nlC C c n + neC C c k + 1) (zdF sh n F fk (T (nlC C c n + neC C c k)) h 16 s).2 else (false, (zdF sh n F fk (T (nlC C c n + neC C c k)) h 16 s).2)) = _
        rw [hp, e1]
        rfl
      rw [e2]
      rcases zone_sim hS hn hcr hf hh (show k < n by omega) (m + 1) 16 s q d hst (nx_here hdo (by omega) hc) hck (by omega) with ⟨z1, q', d', z2, z3, z4, z5⟩ | ⟨z1, q', z2, z3⟩
      · rw [if_pos z1, z2]
        refine ih (k + 1) (by omega) _ q' d' z3 ?_ z5
        rw [z4]
        intro j hj
        by_cases e : j = k
        · subst e
          rw [updN_s]
          exact ⟨fun e => absurd e (by decide), fun e => absurd (.inr ⟨hc, by omega⟩) e⟩
        · rw [updN_n e, hdo j hj]
          omega
      · rw [if_neg (by rw [z1]; decide)]
        exact .inr ⟨_, q', z2, rfl, z3⟩
    · have e1 : neC C c (k + 1) = neC C c k := if_neg hc
      have := ih (k + 1) (by omega) s q d hst (fun j hj => by
        rw [hdo j hj]
        by_cases e : j = k
        · subst e; omega
        · omega) (by omega)
      rw [e1] at this
      exact this
theorem hour_sim {n : Nat} {sh sr : Nat → Int32} (hS : shR n sh sr) (hn : n ≤ 24) {cr : Nat} (hcr : cr ≤ 16) {F fw fz fh : Nat → Nat} {fk fc : Nat} (hf : faR n F fk fw fz fh fc) {h : Nat} (hh : h < 1000) {C T : Nat → Nat} (hT : OrdT C n T) {K : Nat} (hK : ∀ j, j < n → C j < K) : ∀ e c, c + e = K → ∀ (s : RS) (q : QS), stR n cr s q → doR C q.2.2.2.2.2.2 n c 0 →
    (hdF sh n F fk T h (n - nlC C c n) (nlC C c n) s).1 = (roF sr n C fw fz fh fc cr h e c q).1 ∧ stR n cr (hdF sh n F fk T h (n - nlC C c n) (nlC C c n) s).2 (roF sr n C fw fz fh fc cr h e c q).2 := by
  intro e
  induction e with
  | zero =>
    intro c hc s q hst hdo
    obtain rfl : c = K := by omega
    rw [nl_top n hK, Nat.sub_self]
    exact ⟨rfl, hst⟩
  | succ e ih =>
    intro c hc s q hst hdo
    have hck : s.2.2.2.1 ≤ 16 := by
      have := hst.2.2.1.1
      have := cnF_le q.2.1 cr
      omega
    rcases col_sim hS hn hcr hf hh hT n 0 (by omega) s q 41 hst hdo (by omega) with ⟨s', q', h1, h2, h3, h4⟩ | ⟨s', q', h1, h2, h3⟩
    · have h2 : hdF sh n F fk T h (n - nlC C c n) (nlC C c n) s = hdF sh n F fk T h (n - nlC C (c + 1) n) (nlC C (c + 1) n) s' := h2
      rw [roF_t h1, h2]
      exact ih (c + 1) (by omega) s' q' h3 h4
    · have h2 : hdF sh n F fk T h (n - nlC C c n) (nlC C c n) s = (false, s') := h2
      rw [roF_f h1, h2]
      exact ⟨rfl, h3⟩
theorem hr_sim {n : Nat} {sh sr : Nat → Int32} (hS : shR n sh sr) (hn : n ≤ 24) {cr : Nat} (hcr : cr ≤ 16) {F fw fz fh : Nat → Nat} {fk fc : Nat} (hf : faR n F fk fw fz fh fc) {h : Nat} (hh : h < 1000) {C T : Nat → Nat} (hT : OrdT C n T) {K : Nat} (hK : ∀ j, j < n → C j < K) (s : HS) (q : KQ) (hst : stR n cr s.2 q.2) :
    (hdR sh n F fk T h s).1 = (rhR sr n C fw fz fh fc cr K h q).1 ∧ stR n cr (hdR sh n F fk T h s).2.2 (rhR sr n C fw fz fh fc cr K h q).2.2 := by
  obtain ⟨re, va, P, dn, ck, ch, bl, bk⟩ := s
  obtain ⟨ke, va', G, di, cx, B, ln, dO⟩ := q
  obtain ⟨a1, a2⟩ := hour_sim hS hn hcr hf hh hT hK K 0 (by omega) (va, P, dn, ck, ch, bl, bk) (va', G, di, cx, B, ln, dzF dO n) hst (fun j hj => by
    show dzF dO n j = 0 ↔ _
    rw [dzF_val, if_pos hj]
    omega)
  rw [nl_zero, Nat.sub_zero] at a1 a2
  have b1 : (rhR sr n C fw fz fh fc cr K h (ke, va', G, di, cx, B, ln, dO)).1 = (roF sr n C fw fz fh fc cr h K 0 (va', G, di, cx, B, ln, dzF dO n)).1 := rfl
  have b2 : (rhR sr n C fw fz fh fc cr K h (ke, va', G, di, cx, B, ln, dO)).2.2 = (if (roF sr n C fw fz fh fc cr h K 0 (va', G, di, cx, B, ln, dzF dO n)).1 = true then (roF sr n C fw fz fh fc cr h K 0 (va', G, di, cx, B, ln, dzF dO n)).2.1 else kcF (roF sr n C fw fz fh fc cr h K 0 (va', G, di, cx, B, ln, dzF dO n)).2.1 (kcF ke va' n) n, (roF sr n C fw fz fh fc cr h K 0 (va', G, di, cx, B, ln, dzF dO n)).2.2) := rfl
  rw [b1, b2]
  unfold hdR
  simp only
  by_cases t : (hdF sh n F fk T h n 0 (va, P, dn, ck, ch, bl, bk)).1 = true
  · rw [if_pos t, if_pos (by rw [← a1]; exact t)]
    refine ⟨by rw [← a1, t], ?_⟩
    exact a2
  · rw [if_neg t, if_neg (by rw [← a1]; exact t)]
    have t2 : (hdF sh n F fk T h n 0 (va, P, dn, ck, ch, bl, bk)).1 = false := by
      cases e : (hdF sh n F fk T h n 0 (va, P, dn, ck, ch, bl, bk)).1 with
      | false => rfl
      | true => exact absurd e t
    obtain ⟨s1, s2, s3⟩ := hst
    have c1 : ∀ (X Y : Nat → Int32) k, k < n → va_cpy X Y 0 0 n k = X k := by
      intro X Y k hk
      unfold va_cpy
      rw [if_pos (by omega), show 0 + (k - 0) = k by omega]
    refine ⟨by rw [← a1, t2], fun k hk => ?_, fun k hk => ?_, a2.2.2⟩
    · show va_cpy (va_cpy va re 0 0 n) _ 0 0 n k = kcF _ (kcF ke va' n) n k
      rw [c1 _ _ k hk, c1 _ _ k hk, kcF_val, if_pos hk, kcF_val, if_pos hk]
      exact s1 k hk
    · show vB (va_cpy (va_cpy va re 0 0 n) _ 0 0 n k)
      rw [c1 _ _ k hk, c1 _ _ k hk]
      exact s2 k hk
theorem rn_sim {n : Nat} {sh sr : Nat → Int32} (hS : shR n sh sr) (hn : n ≤ 24) {cr : Nat} (hcr : cr ≤ 16) {F fw fz fh : Nat → Nat} {fk fc : Nat} (hf : faR n F fk fw fz fh fc) {C T : Nat → Nat} (hT : OrdT C n T) {K : Nat} (hK : ∀ j, j < n → C j < K) (sp : Int32) : ∀ H h, h + H ≤ 1000 → ∀ (s : HS) (q : KQ), stR n cr s.2 q.2 →
    (rnF sh n F fk T sp H h s).1 = (rrF sr n C fw fz fh fc cr K sp H h q).1 ∧ stR n cr (rnF sh n F fk T sp H h s).2.2 (rrF sr n C fw fz fh fc cr K sp H h q).2.2 := by
  intro H
  induction H with
  | zero => intro h _ s q hst; exact ⟨rfl, hst⟩
  | succ H ih =>
    intro h hh s q hst
    obtain ⟨a1, a2⟩ := hr_sim hS hn hcr hf (show h < 1000 by omega) hT hK s q hst
    rw [rnF]
    by_cases t : (rhR sr n C fw fz fh fc cr K h q).1 = true
    · rw [if_pos (by rw [a1]; exact t)]
      by_cases e : nI h = sp
      · rw [if_pos e, rrF_s t e]
        exact ⟨rfl, a2⟩
      · rw [if_neg e, rrF_t t e]
        exact ih (h + 1) (by omega) _ _ a2
    · rw [if_neg (by rw [a1]; exact t), rrF_f t]
      exact ⟨rfl, a2⟩
theorem gaD_val (dn : Nat → Int32) (W : Nat) : ∀ k j, gaD dn W k j = if j < k then (if j < W then nI 0 else -1) else dn j := by
  intro k
  induction k with
  | zero => intro j; rw [if_neg (by omega)]; rfl
  | succ k ih =>
    intro j
    show upd _ k _ j = _
    by_cases e : j = k
    · subst e; rw [pk_us, if_pos (show j < j + 1 by omega)]
    · rw [pk_un e, ih]
      by_cases q : j < k
      · rw [if_pos q, if_pos (show j < k + 1 by omega)]
      · rw [if_neg q, if_neg (show ¬ j < k + 1 by omega)]
theorem dzI_val (di : Nat → Int32) : ∀ k j, dzI di k j = if j < k then nI 0 else di j := by
  intro k
  induction k with
  | zero => intro j; rw [if_neg (by omega)]; rfl
  | succ k ih =>
    intro j
    show upd _ k _ j = _
    by_cases e : j = k
    · subst e; rw [pk_us, if_pos (by omega)]
    · rw [pk_un e, ih]
      by_cases q : j < k
      · rw [if_pos q, if_pos (by omega)]
      · rw [if_neg q, if_neg (by omega)]
theorem cn_all {G : Nat → Nat} : ∀ k, (∀ j, j < k → G j = 0) → cnF G k = k := by
  intro k
  induction k with
  | zero => intro _; rfl
  | succ k ih => intro h; rw [cn_s (h k (by omega)), ih (fun j hj => h j (by omega))]
theorem st_start {n W : Nat} (hW : W ≤ 16) {va va' : Nat → Int32} (h1 : ∀ k, k < n → va k = va' k) (h2 : ∀ k, k < n → vB (va k)) (P G : Nat → Nat) (dn di : Nat → Int32) (sd : Int32) (bl : Nat → Int32) (B dO : Nat → Nat) : stR n W (va, gaP P 16, gaD dn W 16, W, sd, bl, 0) (va', dzF G 16, dzI di 16, sd, B, 0, dO) := by
  have hz : ∀ j, j < 16 → dzF G 16 j = 0 := fun j hj => by rw [dzF_val, if_pos hj]
  refine ⟨h1, h2, ⟨cn_all W (fun j hj => hz j (by omega)), fun j hj => ?_⟩, fun w hw => ?_, rfl, rfl, Nat.zero_le _, fun j hj => ?_, fun k hk => ?_⟩
  · have hj : j < W := hj
    show gaP P 16 j < W ∧ dzF G 16 (gaP P 16 j) = 0 ∧ cnF (dzF G 16) (gaP P 16 j) = j
    rw [gaP_val P 16 j (by omega)]
    exact ⟨hj, hz j (by omega), cn_all j (fun i hi => hz i (by omega))⟩
  · show gaD dn W 16 w = if w < W ∧ dzF G 16 w = 0 then dzI di 16 w else -1
    rw [gaD_val, if_pos hw, dzI_val, if_pos hw]
    by_cases q : w < W
    · rw [if_pos q, if_pos ⟨q, hz w hw⟩]
    · rw [if_neg q, if_neg (fun e => q e.1)]
  · exact absurd hj (Nat.not_lt_zero j)
  · show dzF G 16 k ≤ 1
    rw [hz k hk]
    omega
