theorem flow_eq {n : Nat} {sh sr : Nat → Int32} (h : shR n sh sr) {row row' : Nat → Int32} (hr : ∀ k, k < n → row k = row' k) {z : Nat} (hz : z < n) : ∀ m, m ≤ n → flowF sh n row z m = fl24 sr row' z m := by
  intro m
  induction m with
  | zero => intro _; rfl
  | succ m ih =>
    intro hm
    show flowF sh n row z m + _ = fl24 sr row' z m + _
    rw [ih (by omega), (h z m hz (by omega)).1, hr m (by omega), hr z hz]
theorem chg_eq {n : Nat} {sh sr : Nat → Int32} (h : shR n sh sr) {row row' : Nat → Int32} (hr : ∀ k, k < n → row k = row' k) {z : Nat} (hz : z < n) : chg sh n row z = ch24 sr n row' z := by
  unfold chg ch24
  rw [flow_eq h hr hz n (Nat.le_refl _), hr z hz]
def vB (v : Int32) : Prop := -1000000 ≤ v.toInt ∧ v.toInt ≤ 1000000
theorem vB_0 : vB 0 := by
  have : (0 : Int32).toInt = 0 := by decide
  unfold vB
  omega
theorem vB_of {v : Int32} (h1 : ¬ v < -1000000) (h2 : ¬ 1000000 < v) : vB v := by
  rw [Int32.lt_iff_toInt_lt] at h1 h2
  have a : (-1000000 : Int32).toInt = -1000000 := by decide
  have b : (1000000 : Int32).toInt = 1000000 := by decide
  unfold vB
  omega
theorem cut_B {x : Int64} (h1 : -1000000 ≤ x.toInt) (h2 : x.toInt ≤ 1000000) : vB x.toInt32 := by
  unfold vB
  rw [Int64.toInt_toInt32, Int.bmod_eq_of_le (by omega) (by omega)]
  exact ⟨h1, h2⟩
theorem kept_B (x : Int64) : vB (kept x) := by
  have a : (-1000000 : Int64).toInt = -1000000 := by decide
  have b : (1000000 : Int64).toInt = 1000000 := by decide
  unfold kept
  apply cut_B
  · by_cases q : x < 1000000
    · rw [if_pos q]
      by_cases r : x < -1000000
      · rw [if_pos r]; omega
      · rw [if_neg r]; rw [Int64.lt_iff_toInt_lt] at r; omega
    · rw [if_neg q]
      by_cases r : (1000000 : Int64) < -1000000
      · rw [if_pos r]; omega
      · rw [if_neg r]; omega
  · by_cases q : x < 1000000
    · rw [if_pos q]
      by_cases r : x < -1000000
      · rw [if_pos r]; omega
      · rw [if_neg r]; rw [Int64.lt_iff_toInt_lt] at q; omega
    · rw [if_neg q]
      by_cases r : (1000000 : Int64) < -1000000
      · rw [if_pos r]; omega
      · rw [if_neg r]; omega
theorem add_l {a b : Int32} (ha : vB a) (hb : vB b) : (a + b).toInt64 = a.toInt64 + b.toInt64 := by
  unfold vB at ha hb
  apply Int64.toInt_inj.mp
  rw [Int64.toInt_add, Int32.toInt_toInt64, Int32.toInt_toInt64, Int32.toInt_toInt64, Int32.toInt_add, Int.bmod_eq_of_le (by omega) (by omega), Int.bmod_eq_of_le (by omega) (by omega)]
theorem ts_eq {n : Nat} {va va' : Nat → Int32} (h : ∀ k, k < n → va k = va' k) (hB : ∀ k, k < n → vB (va k)) : ∀ d f c, 1 ≤ c → f + c ≤ n → tsF va d f c = tsR va' d f c ∧ vB (tsF va d f c) := by
  intro d
  induction d with
  | zero => intro f c h1 h2; exact ⟨h f (by omega), hB f (by omega)⟩
  | succ d ih =>
    intro f c h1 h2
    have e1 : tsF va (d + 1) f c = if c ≤ 1 then va f else kept (tsF va d f ((c + 1) / 2) + tsF va d (f + (c + 1) / 2) (c - (c + 1) / 2)).toInt64 := rfl
    have e2 : tsR va' (d + 1) f c = if c ≤ 1 then va' f else kept ((tsR va' d f ((c + 1) / 2)).toInt64 + (tsR va' d (f + (c + 1) / 2) (c - (c + 1) / 2)).toInt64) := rfl
    rw [e1, e2]
    by_cases q : c ≤ 1
    · rw [if_pos q, if_pos q]; exact ⟨h f (by omega), hB f (by omega)⟩
    · rw [if_neg q, if_neg q]
      obtain ⟨a1, a2⟩ := ih f ((c + 1) / 2) (by omega) (by omega)
      obtain ⟨b1, b2⟩ := ih (f + (c + 1) / 2) (c - (c + 1) / 2) (by omega) (by omega)
      refine ⟨?_, kept_B _⟩
      rw [add_l a2 b2, a1, b1]
theorem ft_in {n : Nat} {sh sr : Nat → Int32} (h : shR n sh sr) {C C' : Nat → Nat} (hC : ∀ j, j < n → C j = C' j) {row row' : Nat → Int32} {c : Nat} (hr : ∀ z, z < n → row z = row' z) : ∀ k, k ≤ n → ∀ z, z < n → ftS sh n C c row k z = ftI sr n C' c row' k z := by
  intro k
  induction k with
  | zero => intro _; exact hr
  | succ k ih =>
    intro hk z hz
    have ih := ih (by omega)
    have e2 : ftI sr n C' c row' (k + 1) = if C' k = c then upd (ftI sr n C' c row' k) k (ch24 sr n (ftI sr n C' c row' k) k) else ftI sr n C' c row' k := rfl
    rw [e2]
    by_cases q : C' k = c
    · rw [if_pos q, ftS_y ((hC k (by omega)).trans q), chg_eq h ih (by omega)]
      by_cases e : z = k
      · subst e; rw [pk_us, pk_us]
      · rw [pk_un e, pk_un e]; exact ih z hz
    · rw [if_neg q, ftS_n (fun t => q ((hC k (by omega)).symm.trans t))]
      exact ih z hz
theorem ft_out {n : Nat} {sh sr : Nat → Int32} (h : shR n sh sr) {C C' : Nat → Nat} (hC : ∀ j, j < n → C j = C' j) {K : Nat} {row0 va' : Nat → Int32} {H : Nat} (hr : ∀ z, z < n → row0 z = ftO sr n C' K va' (H * K) z) : ∀ c, c ≤ K → ∀ z, z < n → hrF sh n C row0 c z = ftO sr n C' K va' (H * K + c) z := by
  intro c
  induction c with
  | zero => intro _; exact hr
  | succ c ih =>
    intro hc z hz
    have e : ftO sr n C' K va' (H * K + c + 1) = ftI sr n C' ((H * K + c) % K) (ftO sr n C' K va' (H * K + c)) n := rfl
    have e2 : (H * K + c) % K = c := by rw [Nat.add_comm, Nat.add_mul_mod_self_right, Nat.mod_eq_of_lt (by omega)]
    rw [← Nat.add_assoc, e, e2]
    exact ft_in h hC (ih (by omega)) n (Nat.le_refl _) z hz
theorem ft_eq {n : Nat} {sh sr : Nat → Int32} (h : shR n sh sr) {C C' : Nat → Nat} (hC : ∀ j, j < n → C j = C' j) {K : Nat} {va va' : Nat → Int32} (hr : ∀ z, z < n → va z = va' z) : ∀ H z, z < n → hrsF sh n C K va H z = ftO sr n C' K va' (H * K) z := by
  intro H
  induction H with
  | zero => intro z hz; rw [Nat.zero_mul]; exact hr z hz
  | succ H ih =>
    intro z hz
    rw [Nat.succ_mul]
    exact ft_out h hC ih K (Nat.le_refl _) z hz
theorem ftI_congr {n : Nat} {sr : Nat → Int32} {C C' : Nat → Nat} {c : Nat} {va : Nat → Int32} : ∀ k, (∀ j, j < k → C j = C' j) → ftI sr n C c va k = ftI sr n C' c va k := by
  intro k
  induction k with
  | zero => intro _; rfl
  | succ k ih =>
    intro h
    have e : ∀ C, ftI sr n C c va (k + 1) = if C k = c then upd (ftI sr n C c va k) k (ch24 sr n (ftI sr n C c va k) k) else ftI sr n C c va k := fun _ => rfl
    rw [e, e, ih (fun j hj => h j (by omega)), h k (by omega)]
theorem ftO_congr {n : Nat} {sr : Nat → Int32} {C C' : Nat → Nat} {K : Nat} {va : Nat → Int32} (h : ∀ j, j < n → C j = C' j) : ∀ m, ftO sr n C K va m = ftO sr n C' K va m := by
  intro m
  induction m with
  | zero => rfl
  | succ m ih =>
    show ftI sr n C (m % K) (ftO sr n C K va m) n = ftI sr n C' (m % K) (ftO sr n C' K va m) n
    rw [ih, ftI_congr n h]
