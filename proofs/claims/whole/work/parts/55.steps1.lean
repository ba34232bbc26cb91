theorem s_at (l : Launch) (hl9 : l.stackTraces = false) (D : va_G) (cI cZ cL : ClassId) (σ : Nat → Nat) (x a0 k : Nat) (hk : k ≤ 512) (wx wm : va_W) (hR : RelW cI cZ x a0 k wx wm) (u : Int32) : StA l D cI cZ cL σ x a0 (RelW cI cZ x a0) k yX5_at wsX5_at rmX5_at rmxX5_at yX6_at wsX6_at rmX6_at [.int u] wx wm := by
  obtain ⟨az, af, ac, ab, aj, sp, n, va, re, tr, sh, C, K, F, fk, dn, ck, ch, bl, bk, U, jr, ja, jk, jq, a, thr, fc, cr, ln, cx, jo, wg, sr, vr, Cr, fw, fz, fh, G, di, B, ke, dO, fr, ma, st, hf, wa, ra, ag, rfl, rfl, rfl, hZ, hF, hC, hB, hJ⟩ := hR
  obtain ⟨h1n, hn, hsh, hva, hvB, hCo, hKK, hK24, hCl⟩ := id hZ
  rcases sp_z u hn with ⟨z, hz, rfl⟩ | g
  · have hm := r_at l D cI cZ cL a n thr fc sp cr ln cx jo wg sr vr Cr fw fz fh G di B ke dO fr ma st hf wa ra ag z hn hz
    rw [← hva z hz] at hm
    exact .inl ⟨_, _, _, x_at l D cI cZ cL x az af ac ab aj sp n va re tr sh C K F fk dn ck ch bl bk U jr ja jk jq z hn hz, hm, r_thrown l D cI cZ cL _ _ _ _ _ _ _ _ _ _ _ _ _ _ _ _ _ _ _ _ _ _ _ _ _ _ _ _, RelW.mk rfl hZ hF hC hB hJ.up⟩
  · exact .inr ⟨nI 0, _, x_at_x l hl9 D cI cZ cL σ x az af ac ab aj sp n va re tr sh C K F fk dn ck ch bl bk U jr ja jk jq u hn h1n g, r_at_x l D cI cZ cL a n thr fc sp cr ln cx jo wg sr vr Cr fw fz fh G di B ke dO fr ma st hf wa ra ag u g, r_thrown l D cI cZ cL _ _ _ _ _ _ _ _ _ _ _ _ _ _ _ _ _ _ _ _ _ _ _ _ _ _ _ _, RelW.mk rfl hZ hF hC hB hJ.up⟩
theorem s_value (l : Launch) (hl9 : l.stackTraces = false) (D : va_G) (cI cZ cL : ClassId) (σ : Nat → Nat) (x a0 k : Nat) (hk : k ≤ 512) (wx wm : va_W) (hR : RelW cI cZ x a0 k wx wm) (u v : Int32) : StA l D cI cZ cL σ x a0 (RelW cI cZ x a0) k yX5_value wsX5_value rmX5_value rmxX5_value yX6_value wsX6_value rmX6_value [.int u, .int v] wx wm := by
  obtain ⟨az, af, ac, ab, aj, sp, n, va, re, tr, sh, C, K, F, fk, dn, ck, ch, bl, bk, U, jr, ja, jk, jq, a, thr, fc, cr, ln, cx, jo, wg, sr, vr, Cr, fw, fz, fh, G, di, B, ke, dO, fr, ma, st, hf, wa, ra, ag, rfl, rfl, rfl, hZ, hF, hC, hB, hJ⟩ := hR
  obtain ⟨h1n, hn, hsh, hva, hvB, hCo, hKK, hK24, hCl⟩ := id hZ
  rcases sp_z u hn with ⟨z, hz, rfl⟩ | g
  · by_cases g1 : v < -1000000
    · exact .inr ⟨nI 0, _, x_value_x2 l hl9 D cI cZ cL σ x az af ac ab aj sp n va re tr sh C K F fk dn ck ch bl bk U jr ja jk jq z v hn h1n hz (.inl g1), r_value_x2 l D cI cZ cL a n thr fc sp cr ln cx jo wg sr vr Cr fw fz fh G di B ke dO fr ma st hf wa ra ag z v hn hz (.inl g1), r_thrown l D cI cZ cL _ _ _ _ _ _ _ _ _ _ _ _ _ _ _ _ _ _ _ _ _ _ _ _ _ _ _ _, RelW.mk rfl hZ hF hC hB hJ.up⟩
    · by_cases g2 : 1000000 < v
      · exact .inr ⟨nI 0, _, x_value_x2 l hl9 D cI cZ cL σ x az af ac ab aj sp n va re tr sh C K F fk dn ck ch bl bk U jr ja jk jq z v hn h1n hz (.inr g2), r_value_x2 l D cI cZ cL a n thr fc sp cr ln cx jo wg sr vr Cr fw fz fh G di B ke dO fr ma st hf wa ra ag z v hn hz (.inr g2), r_thrown l D cI cZ cL _ _ _ _ _ _ _ _ _ _ _ _ _ _ _ _ _ _ _ _ _ _ _ _ _ _ _ _, RelW.mk rfl hZ hF hC hB hJ.up⟩
      · have hm := r_value l D cI cZ cL a n thr fc sp cr ln cx jo wg sr vr Cr fw fz fh G di B ke dO fr ma st hf wa ra ag z v hn hz g1 g2
        rw [← hva z hz] at hm
        exact .inl ⟨_, _, _, x_value l D cI cZ cL x az af ac ab aj sp n va re tr sh C K F fk dn ck ch bl bk U jr ja jk jq z v hn hz g1 g2, hm, r_thrown l D cI cZ cL _ _ _ _ _ _ _ _ _ _ _ _ _ _ _ _ _ _ _ _ _ _ _ _ _ _ _ _, RelW.mk rfl (hZ.val (vB_of g1 g2)) hF hC hB hJ.up⟩
  · exact .inr ⟨nI 0, _, x_value_x1 l hl9 D cI cZ cL σ x az af ac ab aj sp n va re tr sh C K F fk dn ck ch bl bk U jr ja jk jq u v hn h1n g, r_value_x1 l D cI cZ cL a n thr fc sp cr ln cx jo wg sr vr Cr fw fz fh G di B ke dO fr ma st hf wa ra ag u v g, r_thrown l D cI cZ cL _ _ _ _ _ _ _ _ _ _ _ _ _ _ _ _ _ _ _ _ _ _ _ _ _ _ _ _, RelW.mk rfl hZ hF hC hB hJ.up⟩
theorem s_wall (l : Launch) (hl9 : l.stackTraces = false) (D : va_G) (cI cZ cL : ClassId) (σ : Nat → Nat) (x a0 k : Nat) (hk : k ≤ 512) (wx wm : va_W) (hR : RelW cI cZ x a0 k wx wm) (u v t : Int32) : StA l D cI cZ cL σ x a0 (RelW cI cZ x a0) k yX5_wall wsX5_wall rmX5_wall rmxX5_wall yX6_wall wsX6_wall rmX6_wall [.int u, .int v, .int t] wx wm := by
  obtain ⟨az, af, ac, ab, aj, sp, n, va, re, tr, sh, C, K, F, fk, dn, ck, ch, bl, bk, U, jr, ja, jk, jq, a, thr, fc, cr, ln, cx, jo, wg, sr, vr, Cr, fw, fz, fh, G, di, B, ke, dO, fr, ma, st, hf, wa, ra, ag, rfl, rfl, rfl, hZ, hF, hC, hB, hJ⟩ := hR
  obtain ⟨h1n, hn, hsh, hva, hvB, hCo, hKK, hK24, hCl⟩ := id hZ
  rcases sp_z u hn with ⟨z, hz, rfl⟩ | g
  · rcases sp_z v hn with ⟨o, ho, rfl⟩ | g
    · by_cases e : z = o
      · subst e
        have hc : Cx l D cI cZ cL σ yX5_wall wsX5_wall rmxX5_wall [.ref x, .int (nI z), .int (nI z), .int t] (xW x az af ac ab aj sp ++ (zW az cI n va re tr sh (nf C) (nI K) ++ (fW af cI (nf F) (nI fk) ++ (cW ac cI dn (nI ck) ch ++ (bW ab cI bl (nI bk) ++ (jW aj cI (nf U) jr ja (nI jk) (nI jq))))))) jIAE := by
          rcases sp_r t 0 100 (by decide) (by decide) with ⟨q, _, hq, rfl⟩ | g
          · exact x_wall_x3 l hl9 D cI cZ cL σ x az af ac ab aj sp n va re tr sh C K F fk dn ck ch bl bk U jr ja jk jq z q hn h1n hz hq
          · exact x_wall_x4 l hl9 D cI cZ cL σ x az af ac ab aj sp n va re tr sh C K F fk dn ck ch bl bk U jr ja jk jq z z t hn h1n hz hz g
        exact .inr ⟨nI 0, _, hc, r_wall_x3 l D cI cZ cL a n thr fc sp cr ln cx jo wg sr vr Cr fw fz fh G di B ke dO fr ma st hf wa ra ag z t hn hz, r_thrown l D cI cZ cL _ _ _ _ _ _ _ _ _ _ _ _ _ _ _ _ _ _ _ _ _ _ _ _ _ _ _ _, RelW.mk rfl hZ hF hC hB hJ.up⟩
      · rcases sp_r t 0 100 (by decide) (by decide) with ⟨q, _, hq, rfl⟩ | g
        · have hm := r_wall l D cI cZ cL a n thr fc sp cr ln cx jo wg sr vr Cr fw fz fh G di B ke dO fr ma st hf wa ra ag z o q hn hz ho e hq
          rw [← (hsh z o hz ho).1] at hm
          exact .inl ⟨_, _, _, x_wall l D cI cZ cL x az af ac ab aj sp n va re tr sh C K F fk dn ck ch bl bk U jr ja jk jq z o q hn hz ho hq e, hm, r_thrown l D cI cZ cL _ _ _ _ _ _ _ _ _ _ _ _ _ _ _ _ _ _ _ _ _ _ _ _ _ _ _ _, RelW.mk rfl (hZ.wall ((hsh.upd hn ho hq).upd hn hz hq)) hF hC hB hJ.up⟩
        · exact .inr ⟨nI 0, _, x_wall_x4 l hl9 D cI cZ cL σ x az af ac ab aj sp n va re tr sh C K F fk dn ck ch bl bk U jr ja jk jq z o t hn h1n hz ho g, r_wall_x4 l D cI cZ cL a n thr fc sp cr ln cx jo wg sr vr Cr fw fz fh G di B ke dO fr ma st hf wa ra ag z o t hn hz ho e g, r_thrown l D cI cZ cL _ _ _ _ _ _ _ _ _ _ _ _ _ _ _ _ _ _ _ _ _ _ _ _ _ _ _ _, RelW.mk rfl hZ hF hC hB hJ.up⟩
    · exact .inr ⟨nI 0, _, x_wall_x2 l hl9 D cI cZ cL σ x az af ac ab aj sp n va re tr sh C K F fk dn ck ch bl bk U jr ja jk jq z v t hn h1n hz g, r_wall_x2 l D cI cZ cL a n thr fc sp cr ln cx jo wg sr vr Cr fw fz fh G di B ke dO fr ma st hf wa ra ag z v t hn hz g, r_thrown l D cI cZ cL _ _ _ _ _ _ _ _ _ _ _ _ _ _ _ _ _ _ _ _ _ _ _ _ _ _ _ _, RelW.mk rfl hZ hF hC hB hJ.up⟩
  · exact .inr ⟨nI 0, _, x_wall_x1 l hl9 D cI cZ cL σ x az af ac ab aj sp n va re tr sh C K F fk dn ck ch bl bk U jr ja jk jq u v t hn h1n g, r_wall_x1 l D cI cZ cL a n thr fc sp cr ln cx jo wg sr vr Cr fw fz fh G di B ke dO fr ma st hf wa ra ag u v t g, r_thrown l D cI cZ cL _ _ _ _ _ _ _ _ _ _ _ _ _ _ _ _ _ _ _ _ _ _ _ _ _ _ _ _, RelW.mk rfl hZ hF hC hB hJ.up⟩
theorem s_stops (l : Launch) (hl9 : l.stackTraces = false) (D : va_G) (cI cZ cL : ClassId) (σ : Nat → Nat) (x a0 k : Nat) (hk : k ≤ 512) (wx wm : va_W) (hR : RelW cI cZ x a0 k wx wm) (u : Int32) : StA l D cI cZ cL σ x a0 (RelW cI cZ x a0) k yX5_stops wsX5_stops rmX5_stops rmxX5_stops yX6_stops wsX6_stops rmX6_stops [.int u] wx wm := by
  obtain ⟨az, af, ac, ab, aj, sp, n, va, re, tr, sh, C, K, F, fk, dn, ck, ch, bl, bk, U, jr, ja, jk, jq, a, thr, fc, cr, ln, cx, jo, wg, sr, vr, Cr, fw, fz, fh, G, di, B, ke, dO, fr, ma, st, hf, wa, ra, ag, rfl, rfl, rfl, hZ, hF, hC, hB, hJ⟩ := hR
  obtain ⟨h1n, hn, hsh, hva, hvB, hCo, hKK, hK24, hCl⟩ := id hZ
  rcases sp_m u 1000 (by decide) with rfl | ⟨z, hz, rfl⟩ | ⟨e, g1, g2⟩
  · exact .inl ⟨_, _, _, x_stops l D cI cZ cL x az af ac ab aj sp n va re tr sh C K F fk dn ck ch bl bk U jr ja jk jq (-1) (by decide) (by decide), r_stopsN l D cI cZ cL a n thr fc sp cr ln cx jo wg sr vr Cr fw fz fh G di B ke dO fr ma st hf wa ra ag , r_thrown l D cI cZ cL _ _ _ _ _ _ _ _ _ _ _ _ _ _ _ _ _ _ _ _ _ _ _ _ _ _ _ _, RelW.mk rfl hZ hF hC hB hJ.up⟩
  · exact .inl ⟨_, _, _, x_stops l D cI cZ cL x az af ac ab aj sp n va re tr sh C K F fk dn ck ch bl bk U jr ja jk jq (nI z) (fun q => absurd ((m1_iff _).mpr q).1 (nI_pos (by omega))) (fun q => absurd ((nI_ltI (by decide) (by omega)).mp q) (by omega)), r_stops l D cI cZ cL a n thr fc sp cr ln cx jo wg sr vr Cr fw fz fh G di B ke dO fr ma st hf wa ra ag z (by omega), r_thrown l D cI cZ cL _ _ _ _ _ _ _ _ _ _ _ _ _ _ _ _ _ _ _ _ _ _ _ _ _ _ _ _, RelW.mk rfl hZ hF hC hB hJ.up⟩
  · rw [show nI 1000 - nI 1 = nI 999 from nI_m1 999] at g1 g2
    exact .inr ⟨nI 0, _, x_stops_x l hl9 D cI cZ cL σ x az af ac ab aj sp n va re tr sh C K F fk dn ck ch bl bk U jr ja jk jq u g1, r_stops_x l D cI cZ cL a n thr fc sp cr ln cx jo wg sr vr Cr fw fz fh G di B ke dO fr ma st hf wa ra ag u e g2, r_thrown l D cI cZ cL _ _ _ _ _ _ _ _ _ _ _ _ _ _ _ _ _ _ _ _ _ _ _ _ _ _ _ _, RelW.mk rfl hZ hF hC hB hJ.up⟩
theorem s_did (l : Launch) (hl9 : l.stackTraces = false) (D : va_G) (cI cZ cL : ClassId) (σ : Nat → Nat) (x a0 k : Nat) (hk : k ≤ 512) (wx wm : va_W) (hR : RelW cI cZ x a0 k wx wm) (u : Int32) : StA l D cI cZ cL σ x a0 (RelW cI cZ x a0) k yX5_did wsX5_did rmX5_did rmxX5_did yX6_did wsX6_did rmX6_did [.int u] wx wm := by
  obtain ⟨az, af, ac, ab, aj, sp, n, va, re, tr, sh, C, K, F, fk, dn, ck, ch, bl, bk, U, jr, ja, jk, jq, a, thr, fc, cr, ln, cx, jo, wg, sr, vr, Cr, fw, fz, fh, G, di, B, ke, dO, fr, ma, st, hf, wa, ra, ag, rfl, rfl, rfl, hZ, hF, hC, hB, hJ⟩ := hR
  obtain ⟨h1n, hn, hsh, hva, hvB, hCo, hKK, hK24, hCl⟩ := id hZ
  rcases sp_r u 0 15 (by decide) (by decide) with ⟨w, _, hw, rfl⟩ | g
  · have hm := r_did l D cI cZ cL a n thr fc sp cr ln cx jo wg sr vr Cr fw fz fh G di B ke dO fr ma st hf wa ra ag w (by omega) hC.1 (by have := hC.2.2 w (by omega); omega)
    rw [← hC.2.1 w (by omega)] at hm
    exact .inl ⟨_, _, _, x_did l D cI cZ cL x az af ac ab aj sp n va re tr sh C K F fk dn ck ch bl bk U jr ja jk jq w (by omega), hm, r_thrown l D cI cZ cL _ _ _ _ _ _ _ _ _ _ _ _ _ _ _ _ _ _ _ _ _ _ _ _ _ _ _ _, RelW.mk rfl hZ hF hC hB hJ.up⟩
  · exact .inr ⟨nI 0, _, x_did_x l hl9 D cI cZ cL σ x az af ac ab aj sp n va re tr sh C K F fk dn ck ch bl bk U jr ja jk jq u g, r_did_x l D cI cZ cL a n thr fc sp cr ln cx jo wg sr vr Cr fw fz fh G di B ke dO fr ma st hf wa ra ag u g, r_thrown l D cI cZ cL _ _ _ _ _ _ _ _ _ _ _ _ _ _ _ _ _ _ _ _ _ _ _ _ _ _ _ _, RelW.mk rfl hZ hF hC hB hJ.up⟩
theorem s_colour (l : Launch) (hl9 : l.stackTraces = false) (D : va_G) (cI cZ cL : ClassId) (σ : Nat → Nat) (x a0 k : Nat) (hk : k ≤ 512) (wx wm : va_W) (hR : RelW cI cZ x a0 k wx wm) (u : Int32) : StA l D cI cZ cL σ x a0 (RelW cI cZ x a0) k yX5_colour wsX5_colour rmX5_colour rmxX5_colour yX6_colour wsX6_colour rmX6_colour [.int u] wx wm := by
  obtain ⟨az, af, ac, ab, aj, sp, n, va, re, tr, sh, C, K, F, fk, dn, ck, ch, bl, bk, U, jr, ja, jk, jq, a, thr, fc, cr, ln, cx, jo, wg, sr, vr, Cr, fw, fz, fh, G, di, B, ke, dO, fr, ma, st, hf, wa, ra, ag, rfl, rfl, rfl, hZ, hF, hC, hB, hJ⟩ := hR
  obtain ⟨h1n, hn, hsh, hva, hvB, hCo, hKK, hK24, hCl⟩ := id hZ
  rcases sp_z u hn with ⟨z, hz, rfl⟩ | g
  · have hm := r_colour l D cI cZ cL a n thr fc sp cr ln cx jo wg sr vr Cr fw fz fh G di B ke dO fr ma st hf wa ra ag z hn hz
    rw [show rpC sr Cr n z = C z from (rpC_canon n z hz).trans (hCo z hz).symm] at hm
    exact .inl ⟨_, _, _, x_colour l D cI cZ cL x az af ac ab aj sp n va re tr sh C K F fk dn ck ch bl bk U jr ja jk jq z hn hz, hm, r_thrown l D cI cZ cL _ _ _ _ _ _ _ _ _ _ _ _ _ _ _ _ _ _ _ _ _ _ _ _ _ _ _ _, RelW.mk rfl hZ hF hC hB hJ.up⟩
  · exact .inr ⟨nI 0, _, x_colour_x l hl9 D cI cZ cL σ x az af ac ab aj sp n va re tr sh C K F fk dn ck ch bl bk U jr ja jk jq u hn h1n g, r_colour_x l D cI cZ cL a n thr fc sp cr ln cx jo wg sr vr Cr fw fz fh G di B ke dO fr ma st hf wa ra ag u hn g, r_thrown l D cI cZ cL _ _ _ _ _ _ _ _ _ _ _ _ _ _ _ _ _ _ _ _ _ _ _ _ _ _ _ _, RelW.mk rfl hZ hF hC hB hJ.up⟩
theorem s_colours (l : Launch) (hl9 : l.stackTraces = false) (D : va_G) (cI cZ cL : ClassId) (σ : Nat → Nat) (x a0 k : Nat) (hk : k ≤ 512) (wx wm : va_W) (hR : RelW cI cZ x a0 k wx wm) : StN l D cI cZ cL x a0 (RelW cI cZ x a0) k yX5_colours wsX5_colours rmX5_colours yX6_colours wsX6_colours rmX6_colours wx wm := by
  obtain ⟨az, af, ac, ab, aj, sp, n, va, re, tr, sh, C, K, F, fk, dn, ck, ch, bl, bk, U, jr, ja, jk, jq, a, thr, fc, cr, ln, cx, jo, wg, sr, vr, Cr, fw, fz, fh, G, di, B, ke, dO, fr, ma, st, hf, wa, ra, ag, rfl, rfl, rfl, hZ, hF, hC, hB, hJ⟩ := hR
  obtain ⟨h1n, hn, hsh, hva, hvB, hCo, hKK, hK24, hCl⟩ := id hZ
  have e : mxC (rpC sr Cr n) n + 1 = K := by rw [hKK, mxC_congr n (fun j hj => rpC_canon n j hj)]
  have hm := r_colours l D cI cZ cL a n thr fc sp cr ln cx jo wg sr vr Cr fw fz fh G di B ke dO fr ma st hf wa ra ag hn
  rw [e] at hm
  exact ⟨_, _, _, x_colours l D cI cZ cL x az af ac ab aj sp n va re tr sh C K F fk dn ck ch bl bk U jr ja jk jq , hm, fun r w h => ⟨h.1, by rw [h.2]; exact RelW.mk rfl hZ hF hC hB hJ.up⟩⟩
theorem s_sum (l : Launch) (hl9 : l.stackTraces = false) (D : va_G) (cI cZ cL : ClassId) (σ : Nat → Nat) (x a0 k : Nat) (hk : k ≤ 512) (wx wm : va_W) (hR : RelW cI cZ x a0 k wx wm) : StN l D cI cZ cL x a0 (RelW cI cZ x a0) k yX5_sum wsX5_sum rmX5_sum yX6_sum wsX6_sum rmX6_sum wx wm := by
  obtain ⟨az, af, ac, ab, aj, sp, n, va, re, tr, sh, C, K, F, fk, dn, ck, ch, bl, bk, U, jr, ja, jk, jq, a, thr, fc, cr, ln, cx, jo, wg, sr, vr, Cr, fw, fz, fh, G, di, B, ke, dO, fr, ma, st, hf, wa, ra, ag, rfl, rfl, rfl, hZ, hF, hC, hB, hJ⟩ := hR
  obtain ⟨h1n, hn, hsh, hva, hvB, hCo, hKK, hK24, hCl⟩ := id hZ
  have hm := r_sum l D cI cZ cL a n thr fc sp cr ln cx jo wg sr vr Cr fw fz fh G di B ke dO fr ma st hf wa ra ag hn h1n
  rw [← (ts_eq hva hvB 5 0 n h1n (by omega)).1] at hm
  exact ⟨_, _, _, x_sum l D cI cZ cL x az af ac ab aj sp n va re tr sh C K F fk dn ck ch bl bk U jr ja jk jq hn h1n, hm, fun r w h => by
    obtain ⟨f1, f2, f3, f4, h1, h2⟩ := h
    exact ⟨h1, by rw [h2]; exact RelW.mk rfl hZ hF hC hB hJ.up⟩⟩