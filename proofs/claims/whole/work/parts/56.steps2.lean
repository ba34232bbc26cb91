theorem s_book (l : Launch) (hl9 : l.stackTraces = false) (D : va_G) (cI cZ cL : ClassId) (σ : Nat → Nat) (x a0 k : Nat) (hk : k ≤ 512) (wx wm : va_W) (hR : RelW cI cZ x a0 k wx wm) (u v : Int32) : StA l D cI cZ cL σ x a0 (RelW cI cZ x a0) k yX5_book wsX5_book rmX5_book rmxX5_book yX6_book wsX6_book rmX6_book [.int u, .int v] wx wm := by
  obtain ⟨az, af, ac, ab, aj, sp, n, va, re, tr, sh, C, K, F, fk, dn, ck, ch, bl, bk, U, jr, ja, jk, jq, a, thr, fc, cr, ln, cx, jo, wg, sr, vr, Cr, fw, fz, fh, G, di, B, ke, dO, fr, ma, st, hf, wa, ra, ag, rfl, rfl, rfl, hZ, hF, hC, hB, hJ⟩ := hR
  obtain ⟨h1n, hn, hsh, hva, hvB, hCo, hKK, hK24, hCl⟩ := id hZ
  obtain ⟨rfl, hb2, hbo⟩ := id hB
  rcases sp_r v 0 3 (by decide) (by decide) with ⟨q, _, hq, rfl⟩ | g
  · rcases sp_m u bk (by omega) with rfl | ⟨j, hj, rfl⟩ | ⟨e, g1, g2⟩
    · exact .inl ⟨_, _, _, x_bookN l D cI cZ cL x az af ac ab aj sp n va re tr sh C K F fk dn ck ch bl bk U jr ja jk jq q hq hb2, r_bookN l D cI cZ cL a n thr fc sp cr bk cx jo wg sr vr Cr fw fz fh G di B ke dO fr ma st hf wa ra ag q hq, r_thrown l D cI cZ cL _ _ _ _ _ _ _ _ _ _ _ _ _ _ _ _ _ _ _ _ _ _ _ _ _ _ _ _, RelW.mk rfl hZ hF hC hB hJ.up⟩
    · obtain ⟨b1, b2, b3, b4, b5⟩ := hbo j hj
      obtain ⟨u1, u2, u3, u4⟩ := un_pack (w := B (4 * j)) (z := B (4 * j + 1)) (h := B (4 * j + 2)) (f := B (4 * j + 3)) (by omega) (by omega) (by omega) (by omega)
      rw [← b1] at u1 u2 u3 u4
      have hm := fun q hq => r_book l D cI cZ cL a n thr fc sp cr bk cx jo wg sr vr Cr fw fz fh G di B ke dO fr ma st hf wa ra ag j q hj hb2 hq
      rcases (show q = 0 ∨ q = 1 ∨ q = 2 ∨ q = 3 by omega) with rfl | rfl | rfl | rfl
      · have hx := x_book0 l D cI cZ cL x az af ac ab aj sp n va re tr sh C K F fk dn ck ch bl bk U jr ja jk jq j hj hb2
        rw [u1] at hx
        exact .inl ⟨_, _, _, hx, hm 0 (by omega), r_thrown l D cI cZ cL _ _ _ _ _ _ _ _ _ _ _ _ _ _ _ _ _ _ _ _ _ _ _ _ _ _ _ _, RelW.mk rfl hZ hF hC hB hJ.up⟩
      · have hx := x_book1 l D cI cZ cL x az af ac ab aj sp n va re tr sh C K F fk dn ck ch bl bk U jr ja jk jq j hj hb2
        rw [u2] at hx
        exact .inl ⟨_, _, _, hx, hm 1 (by omega), r_thrown l D cI cZ cL _ _ _ _ _ _ _ _ _ _ _ _ _ _ _ _ _ _ _ _ _ _ _ _ _ _ _ _, RelW.mk rfl hZ hF hC hB hJ.up⟩
      · have hx := x_book2 l D cI cZ cL x az af ac ab aj sp n va re tr sh C K F fk dn ck ch bl bk U jr ja jk jq j hj hb2
        rw [u3] at hx
        exact .inl ⟨_, _, _, hx, hm 2 (by omega), r_thrown l D cI cZ cL _ _ _ _ _ _ _ _ _ _ _ _ _ _ _ _ _ _ _ _ _ _ _ _ _ _ _ _, RelW.mk rfl hZ hF hC hB hJ.up⟩
      · have hx := x_book3 l D cI cZ cL x az af ac ab aj sp n va re tr sh C K F fk dn ck ch bl bk U jr ja jk jq j hj hb2
        rw [u4] at hx
        exact .inl ⟨_, _, _, hx, hm 3 (by omega), r_thrown l D cI cZ cL _ _ _ _ _ _ _ _ _ _ _ _ _ _ _ _ _ _ _ _ _ _ _ _ _ _ _ _, RelW.mk rfl hZ hF hC hB hJ.up⟩
    · exact .inr ⟨nI 0, _, x_book_x2 l hl9 D cI cZ cL σ x az af ac ab aj sp n va re tr sh C K F fk dn ck ch bl bk U jr ja jk jq u q hq g1, r_book_x2 l D cI cZ cL a n thr fc sp cr bk cx jo wg sr vr Cr fw fz fh G di B ke dO fr ma st hf wa ra ag u q hq e g2, r_thrown l D cI cZ cL _ _ _ _ _ _ _ _ _ _ _ _ _ _ _ _ _ _ _ _ _ _ _ _ _ _ _ _, RelW.mk rfl hZ hF hC hB hJ.up⟩
  · exact .inr ⟨nI 0, _, x_book_x1 l hl9 D cI cZ cL σ x az af ac ab aj sp n va re tr sh C K F fk dn ck ch bl bk U jr ja jk jq u v g, r_book_x1 l D cI cZ cL a n thr fc sp cr bk cx jo wg sr vr Cr fw fz fh G di B ke dO fr ma st hf wa ra ag u v g, r_thrown l D cI cZ cL _ _ _ _ _ _ _ _ _ _ _ _ _ _ _ _ _ _ _ _ _ _ _ _ _ _ _ _, RelW.mk rfl hZ hF hC hB hJ.up⟩
theorem s_foretold (l : Launch) (hl9 : l.stackTraces = false) (D : va_G) (cI cZ cL : ClassId) (σ : Nat → Nat) (x a0 k : Nat) (hk : k ≤ 512) (wx wm : va_W) (hR : RelW cI cZ x a0 k wx wm) (u v : Int32) : StA l D cI cZ cL σ x a0 (RelW cI cZ x a0) k yX5_foretold wsX5_foretold rmX5_foretold rmxX5_foretold yX6_foretold wsX6_foretold rmX6_foretold [.int u, .int v] wx wm := by
  obtain ⟨az, af, ac, ab, aj, sp, n, va, re, tr, sh, C, K, F, fk, dn, ck, ch, bl, bk, U, jr, ja, jk, jq, a, thr, fc, cr, ln, cx, jo, wg, sr, vr, Cr, fw, fz, fh, G, di, B, ke, dO, fr, ma, st, hf, wa, ra, ag, rfl, rfl, rfl, hZ, hF, hC, hB, hJ⟩ := hR
  obtain ⟨h1n, hn, hsh, hva, hvB, hCo, hKK, hK24, hCl⟩ := id hZ
  have hcan : ∀ j, j < n → C j = rpC sr Cr n j := fun j hj => (hCo j hj).trans (rpC_canon n j hj)
  have eK : mxC (rpC sr Cr n) n + 1 = K := by rw [hKK, mxC_congr n (fun j hj => rpC_canon n j hj)]
  rcases sp_z u hn with ⟨z, hz, rfl⟩ | g
  · rcases sp_r v 0 50 (by decide) (by decide) with ⟨h, _, hh, rfl⟩ | g
    · have hm := r_foretold l D cI cZ cL a n thr fc sp cr ln cx jo wg sr vr Cr fw fz fh G di B ke dO fr ma st hf wa ra ag z h hn hz hh
      rw [eK] at hm
      have e := ft_eq hsh hcan (K := K) (va := va_cpy va tr 0 0 n) (va' := vr) (fun z hz => by
        rw [← hva z hz]
        exact (if_pos (by omega)).trans (congrArg va (by omega))) h z hz
      rw [← e] at hm
      exact .inl ⟨_, _, _, x_foretold l D cI cZ cL x az af ac ab aj sp n va re tr sh C K F fk dn ck ch bl bk U jr ja jk jq z h hn hz hh hK24 hCl, hm, r_thrown l D cI cZ cL _ _ _ _ _ _ _ _ _ _ _ _ _ _ _ _ _ _ _ _ _ _ _ _ _ _ _ _, RelW.mk rfl ⟨h1n, hn, hsh, fun j hj => by rw [kcF_val, if_pos hj, kcF_val, if_pos hj]; exact hva j hj, hvB, hCo, hKK, hK24, hCl⟩ hF hC hB hJ.up⟩
    · exact .inr ⟨nI 0, _, x_foretold_x2 l hl9 D cI cZ cL σ x az af ac ab aj sp n va re tr sh C K F fk dn ck ch bl bk U jr ja jk jq z v hn h1n hz g, r_foretold_x2 l D cI cZ cL a n thr fc sp cr ln cx jo wg sr vr Cr fw fz fh G di B ke dO fr ma st hf wa ra ag z v hn hz g, r_thrown l D cI cZ cL _ _ _ _ _ _ _ _ _ _ _ _ _ _ _ _ _ _ _ _ _ _ _ _ _ _ _ _, RelW.mk rfl hZ hF hC hB hJ.up⟩
  · exact .inr ⟨nI 0, _, x_foretold_x1 l hl9 D cI cZ cL σ x az af ac ab aj sp n va re tr sh C K F fk dn ck ch bl bk U jr ja jk jq u v hn h1n g, r_foretold_x1 l D cI cZ cL a n thr fc sp cr ln cx jo wg sr vr Cr fw fz fh G di B ke dO fr ma st hf wa ra ag u v g, r_thrown l D cI cZ cL _ _ _ _ _ _ _ _ _ _ _ _ _ _ _ _ _ _ _ _ _ _ _ _ _ _ _ _, RelW.mk rfl hZ hF hC hB hJ.up⟩
theorem s_run (l : Launch) (hl9 : l.stackTraces = false) (D : va_G) (cI cZ cL : ClassId) (σ : Nat → Nat) (x a0 k : Nat) (hk : k ≤ 512) (wx wm : va_W) (hR : RelW cI cZ x a0 k wx wm) (u v t : Int32) : StA l D cI cZ cL σ x a0 (RelW cI cZ x a0) k yX5_run wsX5_run rmX5_run rmxX5_run yX6_run wsX6_run rmX6_run [.int u, .int v, .int t] wx wm := by
  obtain ⟨az, af, ac, ab, aj, sp, n, va, re, tr, sh, C, K, F, fk, dn, ck, ch, bl, bk, U, jr, ja, jk, jq, a, thr, fc, cr, ln, cx, jo, wg, sr, vr, Cr, fw, fz, fh, G, di, B, ke, dO, fr, ma, st, hf, wa, ra, ag, rfl, rfl, rfl, hZ, hF, hC, hB, hJ⟩ := hR
  obtain ⟨h1n, hn, hsh, hva, hvB, hCo, hKK, hK24, hCl⟩ := id hZ
  have hcan : ∀ j, j < n → C j = rpC sr Cr n j := fun j hj => (hCo j hj).trans (rpC_canon n j hj)
  have eK : mxC (rpC sr Cr n) n + 1 = K := by rw [hKK, mxC_congr n (fun j hj => rpC_canon n j hj)]
  obtain ⟨rfl, f2, f3, f4, f5, f6⟩ := id hF
  rcases sp_r u 1 16 (by decide) (by decide) with ⟨W, hW1, hW, rfl⟩ | g
  · rcases sp_r t 1 50 (by decide) (by decide) with ⟨H, hH1, hH, rfl⟩ | g
    · have hm := r_run l D cI cZ cL a n thr fk sp cr ln cx jo wg sr vr Cr fw fz fh G di B ke dO fr ma st hf wa ra ag W v H hn hW1 hW hH1 hH f2 (fun j hj => by have := (f4 j hj).1; omega) (fun j hj => by have := (f4 j hj).2.1; omega) (fun j hj => by have := (f4 j hj).2.2; omega)
      rw [eK] at hm
      obtain ⟨e1, e2⟩ := rn_sim hsh hn hW (hF.fa hn) hcan hK24 sp H 0 0 (by omega) (by omega) (re, (va, gaD dn W 16, W, v, bl, 0)) (ke, (vr, dzF G 16, dzI di 16, v, B, 0, dO)) (st_start hW hva hvB G dn di v bl B dO)
      rw [← e1] at hm
      obtain ⟨s1, s2, s3, s4, s5, s6, s7, s8, s9, _⟩ := e2
      exact .inl ⟨_, _, _, x_run l D cI cZ cL x az af ac ab aj sp n va re tr sh C K F fk dn ck ch bl bk U jr ja jk jq W v H hK24 hn hCl f2 hF.lt hW1 hW hH1 hH, hm, r_thrown l D cI cZ cL _ _ _ _ _ _ _ _ _ _ _ _ _ _ _ _ _ _ _ _ _ _ _ _ _ _ _ _, RelW.mk rfl ⟨h1n, hn, hsh, s1, s2, hCo, hKK, hK24, hCl⟩ hF ⟨hW, s4, s9⟩ ⟨s6, s7, s8⟩ hJ.up⟩
    · exact .inr ⟨nI 0, _, x_run_x2 l hl9 D cI cZ cL σ x az af ac ab aj sp n va re tr sh C K F fk dn ck ch bl bk U jr ja jk jq W v t hW1 hW g, r_run_x2 l D cI cZ cL a n thr fk sp cr ln cx jo wg sr vr Cr fw fz fh G di B ke dO fr ma st hf wa ra ag W v t hW1 hW g, r_thrown l D cI cZ cL _ _ _ _ _ _ _ _ _ _ _ _ _ _ _ _ _ _ _ _ _ _ _ _ _ _ _ _, RelW.mk rfl hZ hF hC hB hJ.up⟩
  · exact .inr ⟨nI 0, _, x_run_x1 l hl9 D cI cZ cL σ x az af ac ab aj sp n va re tr sh C K F fk dn ck ch bl bk U jr ja jk jq u v t g, r_run_x1 l D cI cZ cL a n thr fk sp cr ln cx jo wg sr vr Cr fw fz fh G di B ke dO fr ma st hf wa ra ag u v t g, r_thrown l D cI cZ cL _ _ _ _ _ _ _ _ _ _ _ _ _ _ _ _ _ _ _ _ _ _ _ _ _ _ _ _, RelW.mk rfl hZ hF hC hB hJ.up⟩
theorem s_age (l : Launch) (hl9 : l.stackTraces = false) (D : va_G) (cI cZ cL : ClassId) (σ : Nat → Nat) (x a0 k : Nat) (hk : k ≤ 512) (wx wm : va_W) (hR : RelW cI cZ x a0 k wx wm) (u : Int32) : StA l D cI cZ cL σ x a0 (RelW cI cZ x a0) k yX5_age wsX5_age rmX5_age rmxX5_age yX6_age wsX6_age rmX6_age [.int u] wx wm := by
  obtain ⟨az, af, ac, ab, aj, sp, n, va, re, tr, sh, C, K, F, fk, dn, ck, ch, bl, bk, U, jr, ja, jk, jq, a, thr, fc, cr, ln, cx, jo, wg, sr, vr, Cr, fw, fz, fh, G, di, B, ke, dO, fr, ma, st, hf, wa, ra, ag, rfl, rfl, rfl, hZ, hF, hC, hB, hJ⟩ := hR
  obtain ⟨h1n, hn, hsh, hva, hvB, hCo, hKK, hK24, hCl⟩ := id hZ
  obtain ⟨j1, j2⟩ := id hJ
  obtain ⟨rfl, rfl, q3, q4, q5, q6, q7, q8⟩ := id j1
  have hu : (∃ j, j < jq ∧ u = nI j) ∨ (u < nI 0 ∨ nI jq - nI 1 < u) := by
    rcases sp_m u jq (by omega) with rfl | h | ⟨_, _, h⟩
    · exact .inr (.inl (by decide))
    · exact .inl h
    · exact .inr h
  rcases hu with ⟨j, hj, rfl⟩ | g
  · have hm := r_age l D cI cZ cL a n thr fc sp cr ln cx jq jk sr vr Cr fw fz fh G di B ke dO fr ma st hf wa ra ag j hj (by omega) (by have := q7 j hj; omega)
    rw [← j1.age hj] at hm
    exact .inl ⟨_, _, _, x_age l D cI cZ cL x az af ac ab aj sp n va re tr sh C K F fk dn ck ch bl bk U jr ja jk jq j hj (by omega) q3 (fun p hp => by have := q4 p hp; omega), hm, r_thrown l D cI cZ cL _ _ _ _ _ _ _ _ _ _ _ _ _ _ _ _ _ _ _ _ _ _ _ _ _ _ _ _, RelW.mk rfl hZ hF hC hB hJ.up⟩
  · exact .inr ⟨nI 0, _, x_age_x l hl9 D cI cZ cL σ x az af ac ab aj sp n va re tr sh C K F fk dn ck ch bl bk U jr ja jk jq u g, r_age_x l D cI cZ cL a n thr fc sp cr ln cx jq jk sr vr Cr fw fz fh G di B ke dO fr ma st hf wa ra ag u g, r_thrown l D cI cZ cL _ _ _ _ _ _ _ _ _ _ _ _ _ _ _ _ _ _ _ _ _ _ _ _ _ _ _ _, RelW.mk rfl hZ hF hC hB hJ.up⟩
theorem s_job (l : Launch) (hl9 : l.stackTraces = false) (D : va_G) (cI cZ cL : ClassId) (σ : Nat → Nat) (x a0 k : Nat) (hk : k ≤ 512) (wx wm : va_W) (hR : RelW cI cZ x a0 k wx wm) (u : Int32) : StI l D cI cZ cL σ x a0 (RelW cI cZ x a0) k yX5_job wsX5_job rmX5_job rmxX5_job yX6_job wsX6_job rmX6_job [.int u] wx wm := by
  obtain ⟨az, af, ac, ab, aj, sp, n, va, re, tr, sh, C, K, F, fk, dn, ck, ch, bl, bk, U, jr, ja, jk, jq, a, thr, fc, cr, ln, cx, jo, wg, sr, vr, Cr, fw, fz, fh, G, di, B, ke, dO, fr, ma, st, hf, wa, ra, ag, rfl, rfl, rfl, hZ, hF, hC, hB, hJ⟩ := hR
  obtain ⟨h1n, hn, hsh, hva, hvB, hCo, hKK, hK24, hCl⟩ := id hZ
  obtain ⟨j1, j2⟩ := id hJ
  obtain ⟨rfl, rfl, q3, q4, q5, q6, q7, q8⟩ := id j1
  rcases sp_r u 0 100 (by decide) (by decide) with ⟨v, _, hv, rfl⟩ | g
  · by_cases q : jk < 100
    · exact .inl ⟨_, _, _, x_job l D cI cZ cL x az af ac ab aj sp n va re tr sh C K F fk dn ck ch bl bk U jr ja jk jq v hv q, r_job l D cI cZ cL a n thr fc sp cr ln cx jq jk sr vr Cr fw fz fh G di B ke dO fr ma st hf wa ra ag v hv q (by omega), r_thrown l D cI cZ cL _ _ _ _ _ _ _ _ _ _ _ _ _ _ _ _ _ _ _ _ _ _ _ _ _ _ _ _, RelW.mk rfl hZ hF hC hB ⟨j1.job q (nI v), by omega⟩⟩
    · obtain rfl : jk = 100 := by omega
      exact .inr (.inr ⟨nI 0, _, x_job_x2 l hl9 D cI cZ cL σ x az af ac ab aj sp n va re tr sh C K F fk dn ck ch bl bk U jr ja 100 jq v hv rfl, r_job_x2 l D cI cZ cL a n thr fc sp cr ln cx jq sr vr Cr fw fz fh G di B ke dO fr ma st hf wa ra ag v hv, r_thrown l D cI cZ cL _ _ _ _ _ _ _ _ _ _ _ _ _ _ _ _ _ _ _ _ _ _ _ _ _ _ _ _, RelW.mk rfl hZ hF hC hB hJ.up⟩)
  · exact .inr (.inl ⟨nI 0, _, x_job_x1 l hl9 D cI cZ cL σ x az af ac ab aj sp n va re tr sh C K F fk dn ck ch bl bk U jr ja jk jq u g, r_job_x1 l D cI cZ cL a n thr fc sp cr ln cx jq jk sr vr Cr fw fz fh G di B ke dO fr ma st hf wa ra ag u g, r_thrown l D cI cZ cL _ _ _ _ _ _ _ _ _ _ _ _ _ _ _ _ _ _ _ _ _ _ _ _ _ _ _ _, RelW.mk rfl hZ hF hC hB hJ.up⟩)
theorem s_take (l : Launch) (hl9 : l.stackTraces = false) (D : va_G) (cI cZ cL : ClassId) (σ : Nat → Nat) (x a0 k : Nat) (hk : k ≤ 512) (wx wm : va_W) (hR : RelW cI cZ x a0 k wx wm) : StN l D cI cZ cL x a0 (RelW cI cZ x a0) k yX5_take wsX5_take rmX5_take yX6_take wsX6_take rmX6_take wx wm := by
  obtain ⟨az, af, ac, ab, aj, sp, n, va, re, tr, sh, C, K, F, fk, dn, ck, ch, bl, bk, U, jr, ja, jk, jq, a, thr, fc, cr, ln, cx, jo, wg, sr, vr, Cr, fw, fz, fh, G, di, B, ke, dO, fr, ma, st, hf, wa, ra, ag, rfl, rfl, rfl, hZ, hF, hC, hB, hJ⟩ := hR
  obtain ⟨h1n, hn, hsh, hva, hvB, hCo, hKK, hK24, hCl⟩ := id hZ
  obtain ⟨j1, j2⟩ := id hJ
  have ht := tb_all j1
  obtain ⟨rfl, rfl, q3, q4, q5, q6, q7, q8⟩ := id j1
  have hw : ∀ k, k < jq → wa k < 2 ^ 31 := fun k hk => by have := q7 k hk; omega
  by_cases q : jk = 0
  · subst q
    have hm := r_take0 l D cI cZ cL a n thr fc sp cr ln cx jq 0 sr vr Cr fw fz fh G di B ke dO fr ma st hf wa ra ag (by omega) hw ht
    exact ⟨_, _, _, x_take0 l D cI cZ cL x az af ac ab aj sp n va re tr sh C K F fk dn ck ch bl bk U jr ja jq , hm, fun r w h => ⟨h.1, by rw [h.2]; exact RelW.mk rfl hZ hF hC hB ⟨j1.take0 _, by omega⟩⟩⟩
  · rw [if_neg q] at ht
    have hfm := fmF_le jr ja (jk - 1)
    have hm := r_take l D cI cZ cL a n thr fc sp cr ln cx jq jk sr vr Cr fw fz fh G di B ke dO fr ma st hf wa ra ag (U (fmF jr ja (jk - 1))) (by omega) hw ht (by omega)
    exact ⟨_, _, _, x_take l D cI cZ cL x az af ac ab aj sp n va re tr sh C K F fk dn ck ch bl bk U jr ja jk jq q3 (by omega), hm, fun r w h => ⟨h.1, by rw [h.2]; exact RelW.mk rfl hZ hF hC hB ⟨j1.take (by omega), by omega⟩⟩⟩
theorem s_fails (l : Launch) (hl9 : l.stackTraces = false) (D : va_G) (cI cZ cL : ClassId) (σ : Nat → Nat) (x a0 k : Nat) (hk : k ≤ 512) (wx wm : va_W) (hR : RelW cI cZ x a0 k wx wm) (u1 u2 u3 : Int32) (on : Nat) (hon : on ≤ 1) : (∃ (v : Nat) (wx2 wm2 : va_W), v ≤ 1 ∧ CgR l D cI cZ cL yX5_fails wsX5_fails rmX5_fails (.ref x :: [.int u1, .int u2, .int u3, .int (nI on)]) wx (.int (nI v)) wx2 ∧ CgR l D cI cZ cL yX6_fails wsX6_fails rmX6_fails (.ref a0 :: [.int u1, .int u2, .int u3, .int (nI on)]) wm (.int (nI v)) wm2 ∧ Thr l D cI cZ cL a0 0 wm2 ∧ RelW cI cZ x a0 (k + 1) wx2 wm2) ∨
      (∃ (u : Int32) (wm2 : va_W), Cx l D cI cZ cL σ yX5_fails wsX5_fails rmxX5_fails (.ref x :: [.int u1, .int u2, .int u3, .int (nI on)]) wx jIAE ∧ CgR l D cI cZ cL yX6_fails wsX6_fails rmX6_fails (.ref a0 :: [.int u1, .int u2, .int u3, .int (nI on)]) wm (.int u) wm2 ∧ Thr l D cI cZ cL a0 1 wm2 ∧ RelW cI cZ x a0 (k + 1) wx wm2) ∨
      (∃ (u : Int32) (wm2 : va_W), Cx l D cI cZ cL σ yX5_fails wsX5_fails rmxX5_fails (.ref x :: [.int u1, .int u2, .int u3, .int (nI on)]) wx jISE ∧ CgR l D cI cZ cL yX6_fails wsX6_fails rmX6_fails (.ref a0 :: [.int u1, .int u2, .int u3, .int (nI on)]) wm (.int u) wm2 ∧ Thr l D cI cZ cL a0 2 wm2 ∧ RelW cI cZ x a0 (k + 1) wx wm2) := by
  obtain ⟨az, af, ac, ab, aj, sp, n, va, re, tr, sh, C, K, F, fk, dn, ck, ch, bl, bk, U, jr, ja, jk, jq, a, thr, fc, cr, ln, cx, jo, wg, sr, vr, Cr, fw, fz, fh, G, di, B, ke, dO, fr, ma, st, hf, wa, ra, ag, rfl, rfl, rfl, hZ, hF, hC, hB, hJ⟩ := hR
  obtain ⟨h1n, hn, hsh, hva, hvB, hCo, hKK, hK24, hCl⟩ := id hZ
  obtain ⟨rfl, f2, f3, f4, f5, f6⟩ := id hF
  have g1 : ∀ j, j < fk → fw j < 2 ^ 31 := fun j hj => by have := (f4 j hj).1; omega
  have g2 : ∀ j, j < fk → fz j < 2 ^ 31 := fun j hj => by have := (f4 j hj).2.1; omega
  have g3 : ∀ j, j < fk → fh j < 2 ^ 31 := fun j hj => by have := (f4 j hj).2.2; omega
  rcases sp_r u1 0 15 (by decide) (by decide) with ⟨w, _, hw, rfl⟩ | g
  · have hw : w < 16 := by omega
    rcases sp_z u2 hn with ⟨z, hz, rfl⟩ | g
    · have hz4 : z < 24 := by omega
      rcases sp_r u3 0 999 (by decide) (by decide) with ⟨h, _, hh, rfl⟩ | g
      · have hh : h < 1000 := by omega
        rcases (show on = 0 ∨ on = 1 by omega) with rfl | rfl
        · by_cases q : bsF F (kyF w z h) 200 0 fk < fk ∧ F (bsF F (kyF w z h) 200 0 fk) = kyF w z h
          · obtain ⟨j, k1, k2, k3⟩ := hF.t hw hz4 q
            exact .inl ⟨1, _, _, Nat.le_refl _, x_fails0t l D cI cZ cL x az af ac ab aj sp n va re tr sh C K F fk dn ck ch bl bk U jr ja jk jq w z h hn hw hz hh f2 hF.lt q, r_fails0t l D cI cZ cL a n thr fk sp cr ln cx jo wg sr vr Cr fw fz fh G di B ke dO fr ma st hf wa ra ag w z h hn hw hz hh f2 g1 g2 g3 j k1 k2, r_thrown l D cI cZ cL _ _ _ _ _ _ _ _ _ _ _ _ _ _ _ _ _ _ _ _ _ _ _ _ _ _ _ _, RelW.mk rfl hZ (hF.del k1 k3 q) hC hB hJ.up⟩
          · exact .inl ⟨0, _, _, Nat.zero_le _, x_fails0f l D cI cZ cL x az af ac ab aj sp n va re tr sh C K F fk dn ck ch bl bk U jr ja jk jq w z h hn hw hz hh f2 hF.lt q, r_fails0f l D cI cZ cL a n thr fk sp cr ln cx jo wg sr vr Cr fw fz fh G di B ke dO fr ma st hf wa ra ag w z h hn hw hz hh f2 g1 g2 g3 (hF.f hw hz4 q), r_thrown l D cI cZ cL _ _ _ _ _ _ _ _ _ _ _ _ _ _ _ _ _ _ _ _ _ _ _ _ _ _ _ _, RelW.mk rfl hZ hF hC hB hJ.up⟩
        · by_cases q : bsF F (kyF w z h) 200 0 fk < fk ∧ F (bsF F (kyF w z h) 200 0 fk) = kyF w z h
          · obtain ⟨j, k1, k2, k3⟩ := hF.t hw hz4 q
            exact .inl ⟨1, _, _, Nat.le_refl _, x_fails1t l D cI cZ cL x az af ac ab aj sp n va re tr sh C K F fk dn ck ch bl bk U jr ja jk jq w z h hn hw hz hh f2 hF.lt q, r_fails1t l D cI cZ cL a n thr fk sp cr ln cx jo wg sr vr Cr fw fz fh G di B ke dO fr ma st hf wa ra ag w z h hn hw hz hh f2 g1 g2 g3 j k1 k2, r_thrown l D cI cZ cL _ _ _ _ _ _ _ _ _ _ _ _ _ _ _ _ _ _ _ _ _ _ _ _ _ _ _ _, RelW.mk rfl hZ hF hC hB hJ.up⟩
          · by_cases full : fk < 200
            · exact .inl ⟨0, _, _, Nat.zero_le _, x_fails1f l D cI cZ cL x az af ac ab aj sp n va re tr sh C K F fk dn ck ch bl bk U jr ja jk jq w z h hn hw hz hh f2 hF.lt q full, r_fails1f l D cI cZ cL a n thr fk sp cr ln cx jo wg sr vr Cr fw fz fh G di B ke dO fr ma st hf wa ra ag w z h hn hw hz hh f2 g1 g2 g3 (hF.f hw hz4 q) full, r_thrown l D cI cZ cL _ _ _ _ _ _ _ _ _ _ _ _ _ _ _ _ _ _ _ _ _ _ _ _ _ _ _ _, RelW.mk rfl hZ (hF.ins hw hz4 hh full q) hC hB hJ.up⟩
            · exact .inr (.inr ⟨nI 0, _, x_fails_x4 l hl9 D cI cZ cL σ x az af ac ab aj sp n va re tr sh C K F fk dn ck ch bl bk U jr ja jk jq w z h hn hw hz hh (by omega) hF.lt q, r_fails1x l D cI cZ cL a n thr fk sp cr ln cx jo wg sr vr Cr fw fz fh G di B ke dO fr ma st hf wa ra ag w z h hn hw hz hh f2 g1 g2 g3 (hF.f hw hz4 q) (by omega), r_thrown l D cI cZ cL _ _ _ _ _ _ _ _ _ _ _ _ _ _ _ _ _ _ _ _ _ _ _ _ _ _ _ _, RelW.mk rfl hZ hF hC hB hJ.up⟩)
      · exact .inr (.inl ⟨nI 0, _, x_fails_x3 l hl9 D cI cZ cL σ x az af ac ab aj sp n va re tr sh C K F fk dn ck ch bl bk U jr ja jk jq w z u3 on hn h1n hw hz g, r_fails_x3 l D cI cZ cL a n thr fk sp cr ln cx jo wg sr vr Cr fw fz fh G di B ke dO fr ma st hf wa ra ag w z u3 on hn hw hz g, r_thrown l D cI cZ cL _ _ _ _ _ _ _ _ _ _ _ _ _ _ _ _ _ _ _ _ _ _ _ _ _ _ _ _, RelW.mk rfl hZ hF hC hB hJ.up⟩)
    · exact .inr (.inl ⟨nI 0, _, x_fails_x2 l hl9 D cI cZ cL σ x az af ac ab aj sp n va re tr sh C K F fk dn ck ch bl bk U jr ja jk jq w u2 u3 on hn h1n hw g, r_fails_x2 l D cI cZ cL a n thr fk sp cr ln cx jo wg sr vr Cr fw fz fh G di B ke dO fr ma st hf wa ra ag w u2 u3 on hw g, r_thrown l D cI cZ cL _ _ _ _ _ _ _ _ _ _ _ _ _ _ _ _ _ _ _ _ _ _ _ _ _ _ _ _, RelW.mk rfl hZ hF hC hB hJ.up⟩)
  · exact .inr (.inl ⟨nI 0, _, x_fails_x1 l hl9 D cI cZ cL σ x az af ac ab aj sp n va re tr sh C K F fk dn ck ch bl bk U jr ja jk jq u1 u2 u3 on g, r_fails_x1 l D cI cZ cL a n thr fk sp cr ln cx jo wg sr vr Cr fw fz fh G di B ke dO fr ma st hf wa ra ag u1 u2 u3 on g, r_thrown l D cI cZ cL _ _ _ _ _ _ _ _ _ _ _ _ _ _ _ _ _ _ _ _ _ _ _ _ _ _ _ _, RelW.mk rfl hZ hF hC hB hJ.up⟩)