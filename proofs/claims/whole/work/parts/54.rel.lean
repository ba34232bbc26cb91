
def InvZ (n : Nat) (va vr sh sr : Nat → Int32) (C : Nat → Nat) (K : Nat) : Prop := 1 ≤ n ∧ n ≤ 24 ∧ shR n sh sr ∧ (∀ k, k < n → va k = vr k) ∧ (∀ k, k < n → vB (va k)) ∧ (∀ z, z < n → C z = rpC sr (fun _ => 0) n z) ∧ K = mxC (rpC sr (fun _ => 0) n) n + 1 ∧ K ≤ 24 ∧ ∀ k, k < n → C k < 2 ^ 31
def InvC (cr : Nat) (G : Nat → Nat) (di dn : Nat → Int32) : Prop := cr ≤ 16 ∧ diR cr G di dn ∧ ∀ k, k < 16 → G k ≤ 1
def InvB (bk ln : Nat) (bl : Nat → Int32) (B : Nat → Nat) : Prop := bk = ln ∧ bk ≤ 2000 ∧ boR B bl bk
def InvJ (k : Nat) (U : Nat → Nat) (jr ja : Nat → Int32) (jk jq : Nat) (wa : Nat → Nat) (ra ag : Nat → Int32) (wg jo : Nat) : Prop := jbR U jr ja jk jq wa ra ag wg jo ∧ jo ≤ k
theorem InvJ.up {k : Nat} {U : Nat → Nat} {jr ja : Nat → Int32} {jk jq : Nat} {wa : Nat → Nat} {ra ag : Nat → Int32} {wg jo : Nat} (h : InvJ k U jr ja jk jq wa ra ag wg jo) : InvJ (k + 1) U jr ja jk jq wa ra ag wg jo := ⟨h.1, Nat.le_succ_of_le h.2⟩
/-- the two worlds, side by side -/
def RelW (cI cZ : ClassId) (x a0 k : Nat) (wx wm : va_W) : Prop := ∃ (az af ac ab aj : Nat → Nat) (sp : Int32) (n : Nat) (va re tr sh : Nat → Int32) (C : Nat → Nat) (K : Nat) (F : Nat → Nat) (fk : Nat) (dn : Nat → Int32) (ck : Nat) (ch : Int32) (bl : Nat → Int32) (bk : Nat) (U : Nat → Nat) (jr ja : Nat → Int32) (jk jq : Nat) (a : Nat → Nat) (thr : Int32) (fc cr ln : Nat) (cx : Int32) (jo wg : Nat) (sr vr : Nat → Int32) (Cr fw fz fh G : Nat → Nat) (di : Nat → Int32) (B : Nat → Nat) (ke : Nat → Int32) (dO fr ma st : Nat → Nat) (hf : Nat → Int32) (wa : Nat → Nat) (ra ag : Nat → Int32), wx = (xW x az af ac ab aj sp ++ (zW az cI n va re tr sh (nf C) (nI K) ++ (fW af cI (nf F) (nI fk) ++ (cW ac cI dn (nI ck) ch ++ (bW ab cI bl (nI bk) ++ (jW aj cI (nf U) jr ja (nI jk) (nI jq))))))) ∧ wm = (mW a cI cZ n thr (nI fc) sp (nI cr) (nI ln) cx (nI jo) (nI wg) sr vr (nf Cr) (nf fw) (nf fz) (nf fh) (nf G) di (nf B) ke (nf dO) (nf fr) (nf ma) (nf st) hf (nf wa) ra ag) ∧ a 0 = a0 ∧ InvZ n va vr sh sr C K ∧ flR F fk fw fz fh fc ∧ InvC cr G di dn ∧ InvB bk ln bl B ∧ InvJ k U jr ja jk jq wa ra ag wg jo
theorem RelW.mk {cI cZ : ClassId} {x a0 k : Nat} {az af ac ab aj : Nat → Nat} {sp : Int32} {n : Nat} {va re tr sh : Nat → Int32} {C : Nat → Nat} {K : Nat} {F : Nat → Nat} {fk : Nat} {dn : Nat → Int32} {ck : Nat} {ch : Int32} {bl : Nat → Int32} {bk : Nat} {U : Nat → Nat} {jr ja : Nat → Int32} {jk jq : Nat} {a : Nat → Nat} {thr : Int32} {fc cr ln : Nat} {cx : Int32} {jo wg : Nat} {sr vr : Nat → Int32} {Cr fw fz fh G : Nat → Nat} {di : Nat → Int32} {B : Nat → Nat} {ke : Nat → Int32} {dO fr ma st : Nat → Nat} {hf : Nat → Int32} {wa : Nat → Nat} {ra ag : Nat → Int32} (h0 : a 0 = a0) (hZ : InvZ n va vr sh sr C K) (hF : flR F fk fw fz fh fc) (hC : InvC cr G di dn) (hB : InvB bk ln bl B) (hJ : InvJ k U jr ja jk jq wa ra ag wg jo) : RelW cI cZ x a0 k (xW x az af ac ab aj sp ++ (zW az cI n va re tr sh (nf C) (nI K) ++ (fW af cI (nf F) (nI fk) ++ (cW ac cI dn (nI ck) ch ++ (bW ab cI bl (nI bk) ++ (jW aj cI (nf U) jr ja (nI jk) (nI jq))))))) (mW a cI cZ n thr (nI fc) sp (nI cr) (nI ln) cx (nI jo) (nI wg) sr vr (nf Cr) (nf fw) (nf fz) (nf fh) (nf G) di (nf B) ke (nf dO) (nf fr) (nf ma) (nf st) hf (nf wa) ra ag) := ⟨az, af, ac, ab, aj, sp, n, va, re, tr, sh, C, K, F, fk, dn, ck, ch, bl, bk, U, jr, ja, jk, jq, a, thr, fc, cr, ln, cx, jo, wg, sr, vr, Cr, fw, fz, fh, G, di, B, ke, dO, fr, ma, st, hf, wa, ra, ag, rfl, rfl, h0, hZ, hF, hC, hB, hJ⟩
theorem RelW.x0 {cI cZ : ClassId} {x a0 k : Nat} {wx wm : va_W} (h : RelW cI cZ x a0 k wx wm) : ∃ fs, wx[0]? = some (x, .inr (5, fs)) := by
  obtain ⟨az, af, ac, ab, aj, sp, n, va, re, tr, sh, C, K, F, fk, dn, ck, ch, bl, bk, U, jr, ja, jk, jq, a, thr, fc, cr, ln, cx, jo, wg, sr, vr, Cr, fw, fz, fh, G, di, B, ke, dO, fr, ma, st, hf, wa, ra, ag, rfl, rfl, rfl, h⟩ := h
  exact ⟨_, rfl⟩
theorem RelW.m0 {cI cZ : ClassId} {x a0 k : Nat} {wx wm : va_W} (h : RelW cI cZ x a0 k wx wm) : ∃ fs, wm[0]? = some (a0, .inr (6, fs)) := by
  obtain ⟨az, af, ac, ab, aj, sp, n, va, re, tr, sh, C, K, F, fk, dn, ck, ch, bl, bk, U, jr, ja, jk, jq, a, thr, fc, cr, ln, cx, jo, wg, sr, vr, Cr, fw, fz, fh, G, di, B, ke, dO, fr, ma, st, hf, wa, ra, ag, rfl, rfl, rfl, h⟩ := h
  exact ⟨_, rfl⟩
theorem sp_z (u : Int32) {n : Nat} (hn : n ≤ 24) : (∃ z, z < n ∧ u = nI z) ∨ (u < 0 ∨ nI n ≤ u) := by
  by_cases q : u < 0
  · exact .inr (.inl q)
  · obtain ⟨j, h1, rfl⟩ := nI_of q
    by_cases r : j < n
    · exact .inl ⟨j, r, rfl⟩
    · exact .inr (.inr ((nI_leI (by omega) h1).mpr (by omega)))
theorem sp_r (u : Int32) (a b : Nat) (hb : b < 2 ^ 31) (hab : a ≤ b) : (∃ z, a ≤ z ∧ z ≤ b ∧ u = nI z) ∨ (u < nI a ∨ nI b < u) := by
  by_cases q : u < 0
  · refine .inr (.inl ?_)
    rw [Int32.lt_iff_toInt_lt] at q ⊢
    rw [nI_toInt (by omega)]
    have : (0 : Int32).toInt = 0 := by decide
    omega
  · obtain ⟨j, h1, rfl⟩ := nI_of q
    by_cases r : j < a
    · exact .inr (.inl ((nI_ltI h1 (by omega)).mpr r))
    · by_cases t : b < j
      · exact .inr (.inr ((nI_ltI hb h1).mpr t))
      · exact .inl ⟨j, by omega, by omega, rfl⟩
theorem m1_iff (u : Int32) : u < 0 ∧ ¬ u = -1 ↔ u < -1 := by
  rw [Int32.lt_iff_toInt_lt, Int32.lt_iff_toInt_lt, ← Int32.toInt_inj]
  have a : (0 : Int32).toInt = 0 := by decide
  have b : (-1 : Int32).toInt = -1 := by decide
  omega
theorem sp_m (u : Int32) (b : Nat) (hb : b < 2 ^ 30) : u = -1 ∨ (∃ z, z < b ∧ u = nI z) ∨ (¬ u = -1 ∧ (u < -1 ∨ nI b - nI 1 < u) ∧ (u < nI 0 ∨ nI b - nI 1 < u)) := by
  by_cases e : u = -1
  · exact .inl e
  · by_cases q : u < 0
    · exact .inr (.inr ⟨e, .inl ((m1_iff u).mp ⟨q, e⟩), .inl q⟩)
    · obtain ⟨j, h1, rfl⟩ := nI_of q
      by_cases r : j < b
      · exact .inr (.inl ⟨j, r, rfl⟩)
      · have : nI b - nI 1 < nI j := by
          cases b with
          | zero =>
            have e0 : nI 0 - nI 1 = -1 := by decide
            rw [e0, Int32.lt_iff_toInt_lt, nI_toInt h1]
            have b : (-1 : Int32).toInt = -1 := by decide
            omega
          | succ b => rw [nI_m1]; exact (nI_ltI (by omega) h1).mpr (by omega)
        exact .inr (.inr ⟨e, .inr this, .inr this⟩)
theorem ix_inj {n z o z' o' : Nat} (ho : o < n) (ho' : o' < n) (h : z * n + o = z' * n + o') : z = z' ∧ o = o' := by
  rcases Nat.lt_trichotomy z z' with q | q | q
  · have := Nat.mul_le_mul_right n (show z + 1 ≤ z' by omega)
    rw [Nat.succ_mul] at this
    omega
  · subst q; omega
  · have := Nat.mul_le_mul_right n (show z' + 1 ≤ z by omega)
    rw [Nat.succ_mul] at this
    omega
theorem shR.upd {n : Nat} {sh sr : Nat → Int32} (h : shR n sh sr) (hn : n ≤ 24) {z o v : Nat} (ho : o < n) (hv : v ≤ 100) : shR n (upd sh (z * n + o) (nI v)) (upd sr (24 * z + o) (nI v)) := by
  intro z' o' hz' ho'
  by_cases e : z' = z ∧ o' = o
  · rw [e.1, e.2, pk_us, pk_us]
    exact ⟨rfl, v, hv, rfl⟩
  · rw [pk_un (fun t => e (ix_inj ho' ho t)), pk_un (by omega)]
    exact h z' o' hz' ho'
theorem InvZ.wall {n : Nat} {va vr sh sr : Nat → Int32} {C : Nat → Nat} {K : Nat} (h : InvZ n va vr sh sr C K) {sh2 sr2 : Nat → Int32} (h2 : shR n sh2 sr2) : InvZ n va vr sh2 sr2 (pnC sh2 n C n) (pnK sh2 n C n) := by
  obtain ⟨z1, z2, z3, z4, z5, z6, z7, z8⟩ := h
  have e : ∀ j, j < n → pnC sh2 n C n j = rpC sr2 (fun _ => 0) n j := fun j hj => paint_eq h2 z2 C _ n (Nat.le_refl _) j hj
  have eK : pnK sh2 n C n = mxC (pnC sh2 n C n) n + 1 := by
    obtain ⟨m, rfl⟩ : ∃ m, n = m + 1 := ⟨n - 1, by omega⟩
    exact pnK_eq sh2 (m + 1) C m
  refine ⟨z1, z2, h2, z4, z5, e, ?_, Nat.le_trans (pnK_le sh2 n C n) z2, fun k hk => ?_⟩
  · rw [eK, mxC_congr n e]
  · have := pnC_le sh2 n C n k hk
    omega
theorem InvZ.val {n : Nat} {va vr sh sr : Nat → Int32} {C : Nat → Nat} {K : Nat} (h : InvZ n va vr sh sr C K) {z : Nat} {v : Int32} (hv : vB v) : InvZ n (upd va z v) (upd vr z v) sh sr C K := by
  obtain ⟨z1, z2, z3, z4, z5, z6, z7, z8⟩ := h
  refine ⟨z1, z2, z3, fun k hk => ?_, fun k hk => ?_, z6, z7, z8⟩
  · by_cases e : k = z
    · rw [e, pk_us, pk_us]
    · rw [pk_un e, pk_un e]; exact z4 k hk
  · by_cases e : k = z
    · rw [e, pk_us]; exact hv
    · rw [pk_un e]; exact z5 k hk
