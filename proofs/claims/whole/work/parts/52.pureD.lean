/-! rows of a layer, on both sides -/
theorem code_row_M {k y a b a' b' : Nat} {bw bh pl gs nx ab : Int32} {bx wd hg qu gv : Nat → Int32} {rec : Int32 → (Nat → Int32) → (Nat → Int32) → (Nat → Int32) → Int32 → Int32 → Int32 → Int32 → (Nat → Int32) → Int32 → Int32 → Int32 → Int32 → Option ((Nat → Int32) × (Nat → Int32) × (Nat → Int32) × Int32 × Int32 × Int32 × Int32 × (Nat → Int32) × Int32 × Int32 × Int32 × Int32)} (hL : LZ k a b a' b' bw bh wd hg) (hq : RQ qu) (hy : y < b) : ∀ d x n n' px M st fv st' fv' sp dec dbl dg dg' dd, x + d = a → d < n → d < n' → LQ k a b a' b' px bx M → RC st fv st' fv' → 32768 ≤ sp → sp ≤ 65536 → dd + 9 * d ≤ 2464 → 1 ≤ dd → RD dg dg' dd → ∃ px2 M2 st2 fv2 st2' fv2' sp2 dec2 dbl2 g g' d2, q_Stk_codePixelsM_11 (nI k) (nI y) (nI a) (nI b) bx bw bh  n (nI x) px st fv (nI sp) dec dbl dg (nI dd) = some (px2, st2, fv2, nI sp2, dec2, dbl2, g, nI d2) ∧ q_Mod_codeLayer_92 (nI k) 0 wd hg qu gv gs rec n' (nI y) 0 (nI x) M st' fv' (nI sp) dec pl dbl dg' (nI dd) 0 nx ab = rec (nI (y + 1)) M2 st2' fv2' (nI sp2) dec2 pl dbl2 g' (nI d2) 0 nx ab ∧ LQ k a b a' b' px2 bx M2 ∧ Out k M M2 ∧ RC st2 fv2 st2' fv2' ∧ 32768 ≤ sp2 ∧ sp2 ≤ 65536 ∧ dd ≤ d2 ∧ d2 ≤ dd + 9 * d ∧ RD g g' d2 := by
  obtain ⟨k3, hw, hh, a1, a2, b1, b2, _⟩ := id hL
  intro d
  induction d with
  | zero =>
    intro x n n' px M st fv st' fv' sp dec dbl dg dg' dd hd hn hn' hR hC h1 h2 hB hB1 hD
    obtain ⟨n, rfl⟩ : ∃ m, n = m + 1 := ⟨n - 1, by omega⟩
    obtain ⟨n', rfl⟩ : ∃ m, n' = m + 1 := ⟨n' - 1, by omega⟩
    obtain rfl : x = a := by omega
    refine ⟨px, M, st, fv, st', fv', sp, dec, dbl, dg, dg', dd, ?_, ?_, hR, fun _ _ => rfl, hC, h1, h2, by omega, by omega, hD⟩
    · rw [q_Stk_codePixelsM_11, if_pos (nI_le (Nat.le_refl _) (by omega))]
    · rw [q_Mod_codeLayer_92, if_pos (vpb_nI k3 (by omega)), nI_clamp (by omega), hw, if_pos (nI_le (Nat.le_refl _) (by omega)), nI_1]
  | succ d ih =>
    intro x n n' px M st fv st' fv' sp dec dbl dg dg' dd hd hn hn' hR hC h1 h2 hB hB1 hD
    obtain ⟨n, rfl⟩ : ∃ m, n = m + 1 := ⟨n - 1, by omega⟩
    obtain ⟨n', rfl⟩ : ∃ m, n' = m + 1 := ⟨n' - 1, by omega⟩
    obtain ⟨c, hc, c1, c2⟩ := ctx (x := x) (y := y) hL hR (by omega) (by omega)
    have hb0 : M (256 * k + (16 * y + x)) = px (16 * y + x) := (hR.1.eq x y (by omega) hy).symm
    obtain ⟨s1, v1, s1', v1', m1, db1, g1, g1', d1, e1, e2, e3, e4, e5, e6, e7, e8⟩ := decide_M (w := px (16 * y + x)) (dec := dec) (dbl := dbl) (gs := gs) (nx := nx) (ab := ab) (gv := gv) hq hc hC (hR.1.bitc x y (by omega) hy) h1 h2 (by omega) hB1 hD
    obtain ⟨px2, M2, st2, fv2, st2', fv2', sp2, dec2, dbl2, g, g', d2, f1, f2, f3, f4, f5, f6, f7, f8, f9, f10⟩ := ih (x + 1) n n' (upd px (16 * y + x) (px (16 * y + x))) (upd M (256 * k + (16 * y + x)) (px (16 * y + x))) s1 v1 s1' v1' m1 (dec + 1) db1 g1 g1' d1 (by omega) (by omega) (by omega) (LQ_upd hR (hR.1.bitc x y (by omega) hy) hL.bnd) e3 e4 e5 (by omega) (by omega) e8
    refine ⟨px2, M2, st2, fv2, st2', fv2', sp2, dec2, dbl2, g, g', d2, ?_, ?_, f3, f4.upd (by omega), f5, f6, f7, by omega, by omega, f10⟩
    · rw [q_Stk_codePixelsM_11, if_neg (nI_ge (show x < a by omega) (by omega)), c1, q_Stk_codePixelsM_43, pix_n (by omega) hy a2 b2, ob_s, e1, ob_s, paint_in (by omega) hy a2 b2, ob_s, nI_1]
      exact f1
    · rw [q_Mod_codeLayer_92, if_pos (vpb_nI k3 (by omega)), nI_clamp (by omega), hw, if_neg (nI_ge (show x < a by omega) (by omega)), if_neg n01, c2, ob_s, ix256, if_pos (vpb_nI (by omega) (by omega)), nI_clamp (by omega), hb0, e2, ob_s, if_pos (vpb_nI (by omega) (by omega)), nI_1]
      exact f2
theorem rows_M {k a b a' b' S : Nat} {bw bh gs nx ab : Int32} {bx wd hg qu gv : Nat → Int32} (hL : LZ k a b a' b' bw bh wd hg) (hq : RQ qu) (hS : 9 * a + 9 ≤ S) : ∀ d y n n' pl px M st fv st' fv' sp dec dbl dg dg' dd, y + d = b → d < n → d < n' → LQ k a b a' b' px bx M → RC st fv st' fv' → 32768 ≤ sp → sp ≤ 65536 → dd + S * d ≤ 2464 → 1 ≤ dd → RD dg dg' dd → ∃ pl2 px2 M2 st2 fv2 st2' fv2' sp2 dec2 dbl2 g g' d2, q_Stk_codeLayerM_14 (nI k) (nI a) (nI b) bx bw bh  n (nI y) pl px st fv (nI sp) dec dbl dg (nI dd) = some (pl2, px2, st2, fv2, nI sp2, dec2, dbl2, g, nI d2) ∧ q_Mod_codeLayer_39 (nI k) 0 wd hg qu gv gs n' (nI y) M st' fv' (nI sp) dec pl dbl dg' (nI dd) 0 nx ab = some (M2, st2', fv2', nI sp2, dec2, pl2, dbl2, g', nI d2, 0, nx, ab) ∧ LQ k a b a' b' px2 bx M2 ∧ Out k M M2 ∧ dd ≤ d2 ∧ d2 ≤ dd + S * d ∧ RD g g' d2 := by
  obtain ⟨k3, hw, hh, a1, a2, b1, b2, _⟩ := id hL
  intro d
  induction d with
  | zero =>
    intro y n n' pl px M st fv st' fv' sp dec dbl dg dg' dd hd hn hn' hR hC h1 h2 hB hB1 hD
    obtain ⟨n, rfl⟩ : ∃ m, n = m + 1 := ⟨n - 1, by omega⟩
    obtain ⟨n', rfl⟩ : ∃ m, n' = m + 1 := ⟨n' - 1, by omega⟩
    obtain rfl : y = b := by omega
    refine ⟨pl, px, M, st, fv, st', fv', sp, dec, dbl, dg, dg', dd, ?_, ?_, hR, fun _ _ => rfl, by omega, by omega, hD⟩
    · rw [q_Stk_codeLayerM_14, if_pos (vpb_nI k3 (by omega)), if_pos (nI_le (Nat.le_refl _) (by omega))]
    · rw [q_Mod_codeLayer_39, if_pos (vpb_nI k3 (by omega)), nI_clamp (by omega), hh, if_pos (nI_le (Nat.le_refl _) (by omega))]
  | succ d ih =>
    intro y n n' pl px M st fv st' fv' sp dec dbl dg dg' dd hd hn hn' hR hC h1 h2 hB hB1 hD
    obtain ⟨n, rfl⟩ : ∃ m, n = m + 1 := ⟨n - 1, by omega⟩
    obtain ⟨n', rfl⟩ : ∃ m, n' = m + 1 := ⟨n' - 1, by omega⟩
    obtain ⟨r, hr, p1, p2⟩ := isP hL hR (show y < b by omega)
    have hSd : S * (d + 1) = S * d + S := Nat.mul_succ S d
    have hk : (2560 : Int32) + nI k = nI (2560 + k) := nI_add 2560 k
    obtain ⟨s1, v1, s1', v1', m1, db1, g1, g1', d1, e1, e2, e3, e4, e5, e6, e7, e8⟩ := decide_M (ci := 2560 + k) (w := r) (dec := dec) (dbl := dbl) (gs := gs) (nx := nx) (ab := ab) (gv := gv) hq (by omega) hC hr h1 h2 (by omega) hB1 hD
    have gc : q_Stk_codeLayerM_14 (nI k) (nI a) (nI b) bx bw bh  (n + 1) (nI y) pl px st fv (nI sp) dec dbl dg (nI dd) = q_Stk_codeLayerM_50 (nI k) (nI a) (nI b) bx bw bh  (q_Stk_codeLayerM_14 (nI k) (nI a) (nI b) bx bw bh  n) (nI y) (nI (2560 + k)) r pl px st fv (nI sp) dec dbl dg (nI dd) := by
      rw [q_Stk_codeLayerM_14, if_pos (vpb_nI k3 (by omega)), if_neg (nI_ge (show y < b by omega) (by omega)), p1, ob_s, hk]
      rcases hr with rfl | rfl
      · rw [if_pos rfl]
      · rw [if_neg n10]
    have gm : q_Mod_codeLayer_39 (nI k) 0 wd hg qu gv gs (n' + 1) (nI y) M st' fv' (nI sp) dec pl dbl dg' (nI dd) 0 nx ab = q_Mod_codeLayer_73 (nI k) 0 wd hg qu gv gs (q_Mod_codeLayer_39 (nI k) 0 wd hg qu gv gs n') (nI y) (nI (2560 + k)) r M st' fv' (nI sp) dec pl dbl dg' (nI dd) 0 nx ab := by
      rw [q_Mod_codeLayer_39, if_pos (vpb_nI k3 (by omega)), nI_clamp (by omega), hh, if_neg (nI_ge (show y < b by omega) (by omega)), if_pos rfl, p2, ob_s, hk]
      rcases hr with rfl | rfl
      · rw [if_pos rfl, q_Mod_codeLayer_72]
      · rw [if_neg n10]
    rw [gc, gm, q_Stk_codeLayerM_50, e1, ob_s, q_Mod_codeLayer_73, e2, ob_s]
    rcases hr with q | q
    · rw [if_neg (show ¬ r = 1 by rw [q]; exact n01)]
      obtain ⟨px2, M2, st2, fv2, st2', fv2', sp2, dec2, dbl2, g, g', d2, f1, f2, f3, f4, f5, f6, f7, f8, f9, f10⟩ := code_row_M (pl := pl) (rec := q_Mod_codeLayer_39 (nI k) 0 wd hg qu gv gs n')  hL hq (show y < b by omega)  a 0 5000 5000 px M s1 v1 s1' v1' m1 (dec + 1) db1 g1 g1' d1 (by omega) (by omega) (by omega) hR e3 e4 e5 (by omega) (by omega) e8
      obtain ⟨pl3, px3, M3, st3, fv3, st3', fv3', sp3, dec3, dbl3, g3, g3', d3, w1, w2, w3, w4, w5, w6, w7⟩ := ih (y + 1) n n' pl px2 M2 st2 fv2 st2' fv2' sp2 dec2 dbl2 g g' d2 (by omega) (by omega) (by omega) f3 f5 f6 f7 (by omega) (by omega) f10
      refine ⟨pl3, px3, M3, st3, fv3, st3', fv3', sp3, dec3, dbl3, g3, g3', d3, ?_, ?_, w3, f4.trans w4, by omega, by omega, w7⟩
      · rw [q_Stk_codePixelsM, if_pos (vpb_nI k3 (by omega)), show (0 : Int32) = nI 0 from rfl, f1, ob_s, nI_1]
        exact w1
      · rw [q, Int32.add_zero]
        refine Eq.trans f2 w2
    · rw [if_pos (show r = 1 from q)]
      obtain ⟨px2, M2, f1, f2, f3, f4⟩ := plain_row (tk := 0) (gs := gs) (qu := qu) (gv := gv) (rec := q_Mod_codeLayer_39 (nI k) 0 wd hg qu gv gs n') (st := s1') (fv := v1') (sp := nI m1) (dec := dec + 1) (pl := pl + 1) (dbl := db1) (dg := g1') (dc := nI d1) (tg := 0) (nx := nx) (ab := ab) hL (show y < b by omega) a 0 5000 5000 px M (by omega) (by omega) (by omega) hR
      obtain ⟨pl3, px3, M3, st3, fv3, st3', fv3', sp3, dec3, dbl3, g3, g3', d3, w1, w2, w3, w4, w5, w6, w7⟩ := ih (y + 1) n n' (pl + 1) px2 M2 s1 v1 s1' v1' m1 (dec + 1) db1 g1 g1' d1 (by omega) (by omega) (by omega) f3 e3 e4 e5 (by omega) (by omega) e8
      refine ⟨pl3, px3, M3, st3, fv3, st3', fv3', sp3, dec3, dbl3, g3, g3', d3, ?_, ?_, w3, f4.trans w4, by omega, by omega, w7⟩
      · rw [q_Stk_paintPlain, show (0 : Int32) = nI 0 from rfl, f1, ob_s, nI_1]
        exact w1
      · rw [q]
        refine Eq.trans f2 w2
theorem code_row_T {k y a b a' b' : Nat} {bw bh pl dc : Int32} {bx wd hg qu by_ gv dg : Nat → Int32} {N : Nat} {rec : Int32 → (Nat → Int32) → (Nat → Int32) → (Nat → Int32) → Int32 → Int32 → Int32 → Int32 → (Nat → Int32) → Int32 → Int32 → Int32 → Int32 → Option ((Nat → Int32) × (Nat → Int32) × (Nat → Int32) × Int32 × Int32 × Int32 × Int32 × (Nat → Int32) × Int32 × Int32 × Int32 × Int32)} (hL : LZ k a b a' b' bw bh wd hg) (hq : RQ qu) (hy : y < b) (hN : NB by_ gv N) : ∀ d x n n' px M st fv st' fv' sp dec dbl t re, x + d = a → d < n → d < n' → LQ k a b a' b' px bx M → RC st fv st' fv' → 32768 ≤ sp → sp ≤ 65536 → t + 9 * d < 100000 → ∃ px2 M2 st2 fv2 st2' fv2' sp2 dec2 dbl2 t2 r2, q_Stk_codePixelsT_11 (nI k) (nI y) (nI a) (nI b) bx bw bh by_ (nI N) n (nI x) px st fv (nI sp) dec dbl (nI t) re = some (px2, st2, fv2, nI sp2, dec2, dbl2, nI t2, r2) ∧ q_Mod_codeLayer_92 (nI k) 1 wd hg qu gv (nI N) rec n' (nI y) 0 (nI x) M st' fv' (nI sp) dec pl dbl dg dc 1 (nI t) re = rec (nI (y + 1)) M2 st2' fv2' (nI sp2) dec2 pl dbl2 dg dc 1 (nI t2) r2 ∧ LQ k a b a' b' px2 bx M2 ∧ Out k M M2 ∧ RC st2 fv2 st2' fv2' ∧ 32768 ≤ sp2 ∧ sp2 ≤ 65536 ∧ t ≤ t2 ∧ t2 ≤ t + 9 * d := by
  obtain ⟨k3, hw, hh, a1, a2, b1, b2, _⟩ := id hL
  intro d
  induction d with
  | zero =>
    intro x n n' px M st fv st' fv' sp dec dbl t re hd hn hn' hR hC h1 h2 hB
    obtain ⟨n, rfl⟩ : ∃ m, n = m + 1 := ⟨n - 1, by omega⟩
    obtain ⟨n', rfl⟩ : ∃ m, n' = m + 1 := ⟨n' - 1, by omega⟩
    obtain rfl : x = a := by omega
    refine ⟨px, M, st, fv, st', fv', sp, dec, dbl, t, re, ?_, ?_, hR, fun _ _ => rfl, hC, h1, h2, by omega, by omega⟩
    · rw [q_Stk_codePixelsT_11, if_pos (nI_le (Nat.le_refl _) (by omega))]
    · rw [q_Mod_codeLayer_92, if_pos (vpb_nI k3 (by omega)), nI_clamp (by omega), hw, if_pos (nI_le (Nat.le_refl _) (by omega)), nI_1]
  | succ d ih =>
    intro x n n' px M st fv st' fv' sp dec dbl t re hd hn hn' hR hC h1 h2 hB
    obtain ⟨n, rfl⟩ : ∃ m, n = m + 1 := ⟨n - 1, by omega⟩
    obtain ⟨n', rfl⟩ : ∃ m, n' = m + 1 := ⟨n' - 1, by omega⟩
    obtain ⟨c, hc, c1, c2⟩ := ctx (x := x) (y := y) hL hR (by omega) (by omega)
    have hb0 : M (256 * k + (16 * y + x)) = px (16 * y + x) := (hR.1.eq x y (by omega) hy).symm
    obtain ⟨bb, s1, v1, s1', v1', m1, db1, t1, r1, hbb, e1, e2, e3, e4, e5, e6, e7⟩ := decide_T (w := px (16 * y + x)) (b0 := px (16 * y + x)) (re := re) (dec := dec) (dbl := dbl) (dg := dg) (dc := dc) hq hc hC h1 h2 (show t + 9 < 100000 by omega) hN
    obtain ⟨px2, M2, st2, fv2, st2', fv2', sp2, dec2, dbl2, t2, r2, f1, f2, f3, f4, f5, f6, f7, f8, f9⟩ := ih (x + 1) n n' (upd px (16 * y + x) bb) (upd M (256 * k + (16 * y + x)) bb) s1 v1 s1' v1' m1 (dec + 1) db1 t1 r1 (by omega) (by omega) (by omega) (LQ_upd hR hbb hL.bnd) e3 e4 e5 (by omega)
    refine ⟨px2, M2, st2, fv2, st2', fv2', sp2, dec2, dbl2, t2, r2, ?_, ?_, f3, f4.upd (by omega), f5, f6, f7, by omega, by omega⟩
    · rw [q_Stk_codePixelsT_11, if_neg (nI_ge (show x < a by omega) (by omega)), c1, q_Stk_codePixelsT_43, pix_n (by omega) hy a2 b2, ob_s, e1, ob_s, paint_in (by omega) hy a2 b2, ob_s, nI_1]
      exact f1
    · rw [q_Mod_codeLayer_92, if_pos (vpb_nI k3 (by omega)), nI_clamp (by omega), hw, if_neg (nI_ge (show x < a by omega) (by omega)), if_neg n01, c2, ob_s, ix256, if_pos (vpb_nI (by omega) (by omega)), nI_clamp (by omega), hb0, e2, ob_s, if_pos (vpb_nI (by omega) (by omega)), nI_1]
      exact f2
theorem rows_T {k a b a' b' : Nat} {bw bh dc : Int32} {bx wd hg qu by_ gv dg : Nat → Int32} {N : Nat} (hL : LZ k a b a' b' bw bh wd hg) (hq : RQ qu) (hN : NB by_ gv N) : ∀ d y n n' pl px M st fv st' fv' sp dec dbl t re, y + d = b → d < n → d < n' → LQ k a b a' b' px bx M → RC st fv st' fv' → 32768 ≤ sp → sp ≤ 65536 → t + 153 * d < 100000 → ∃ pl2 px2 M2 st2 fv2 st2' fv2' sp2 dec2 dbl2 t2 r2, q_Stk_codeLayerT_14 (nI k) (nI a) (nI b) bx bw bh by_ (nI N) n (nI y) pl px st fv (nI sp) dec dbl (nI t) re = some (pl2, px2, st2, fv2, nI sp2, dec2, dbl2, nI t2, r2) ∧ q_Mod_codeLayer_39 (nI k) 1 wd hg qu gv (nI N) n' (nI y) M st' fv' (nI sp) dec pl dbl dg dc 1 (nI t) re = some (M2, st2', fv2', nI sp2, dec2, pl2, dbl2, dg, dc, 1, nI t2, r2) ∧ LQ k a b a' b' px2 bx M2 ∧ Out k M M2 ∧ t ≤ t2 ∧ t2 ≤ t + 153 * d := by
  obtain ⟨k3, hw, hh, a1, a2, b1, b2, _⟩ := id hL
  intro d
  induction d with
  | zero =>
    intro y n n' pl px M st fv st' fv' sp dec dbl t re hd hn hn' hR hC h1 h2 hB
    obtain ⟨n, rfl⟩ : ∃ m, n = m + 1 := ⟨n - 1, by omega⟩
    obtain ⟨n', rfl⟩ : ∃ m, n' = m + 1 := ⟨n' - 1, by omega⟩
    obtain rfl : y = b := by omega
    refine ⟨pl, px, M, st, fv, st', fv', sp, dec, dbl, t, re, ?_, ?_, hR, fun _ _ => rfl, by omega, by omega⟩
    · rw [q_Stk_codeLayerT_14, if_pos (vpb_nI k3 (by omega)), if_pos (nI_le (Nat.le_refl _) (by omega))]
    · rw [q_Mod_codeLayer_39, if_pos (vpb_nI k3 (by omega)), nI_clamp (by omega), hh, if_pos (nI_le (Nat.le_refl _) (by omega))]
  | succ d ih =>
    intro y n n' pl px M st fv st' fv' sp dec dbl t re hd hn hn' hR hC h1 h2 hB
    obtain ⟨n, rfl⟩ : ∃ m, n = m + 1 := ⟨n - 1, by omega⟩
    obtain ⟨n', rfl⟩ : ∃ m, n' = m + 1 := ⟨n' - 1, by omega⟩
    obtain ⟨r, hr, p1, p2⟩ := isP hL hR (show y < b by omega)
    have hk : (2560 : Int32) + nI k = nI (2560 + k) := nI_add 2560 k
    obtain ⟨bb, s1, v1, s1', v1', m1, db1, t1, r1, hbb, e1, e2, e3, e4, e5, e6, e7⟩ := decide_T (ci := 2560 + k) (w := r) (b0 := 0) (re := re) (dec := dec) (dbl := dbl) (dg := dg) (dc := dc) hq (by omega) hC h1 h2 (show t + 9 < 100000 by omega) hN
    have gc : q_Stk_codeLayerT_14 (nI k) (nI a) (nI b) bx bw bh by_ (nI N) (n + 1) (nI y) pl px st fv (nI sp) dec dbl (nI t) re = q_Stk_codeLayerT_50 (nI k) (nI a) (nI b) bx bw bh by_ (nI N) (q_Stk_codeLayerT_14 (nI k) (nI a) (nI b) bx bw bh by_ (nI N) n) (nI y) (nI (2560 + k)) r pl px st fv (nI sp) dec dbl (nI t) re := by
      rw [q_Stk_codeLayerT_14, if_pos (vpb_nI k3 (by omega)), if_neg (nI_ge (show y < b by omega) (by omega)), p1, ob_s, hk]
      rcases hr with rfl | rfl
      · rw [if_pos rfl]
      · rw [if_neg n10]
    have gm : q_Mod_codeLayer_39 (nI k) 1 wd hg qu gv (nI N) (n' + 1) (nI y) M st' fv' (nI sp) dec pl dbl dg dc 1 (nI t) re = q_Mod_codeLayer_73 (nI k) 1 wd hg qu gv (nI N) (q_Mod_codeLayer_39 (nI k) 1 wd hg qu gv (nI N) n') (nI y) (nI (2560 + k)) 0 M st' fv' (nI sp) dec pl dbl dg dc 1 (nI t) re := by
      rw [q_Mod_codeLayer_39, if_pos (vpb_nI k3 (by omega)), nI_clamp (by omega), hh, if_neg (nI_ge (show y < b by omega) (by omega)), if_neg n10, hk, q_Mod_codeLayer_72]
    rw [gc, gm, q_Stk_codeLayerT_50, e1, ob_s, q_Mod_codeLayer_73, e2, ob_s]
    rcases hbb with q | q
    · rw [if_neg (show ¬ bb = 1 by rw [q]; exact n01)]
      obtain ⟨px2, M2, st2, fv2, st2', fv2', sp2, dec2, dbl2, t2, r2, f1, f2, f3, f4, f5, f6, f7, f8, f9⟩ := code_row_T (pl := pl) (rec := q_Mod_codeLayer_39 (nI k) 1 wd hg qu gv (nI N) n') (dg := dg) (dc := dc) hL hq (show y < b by omega) hN a 0 5000 5000 px M s1 v1 s1' v1' m1 (dec + 1) db1 t1 r1 (by omega) (by omega) (by omega) hR e3 e4 e5 (by omega)
      obtain ⟨pl3, px3, M3, st3, fv3, st3', fv3', sp3, dec3, dbl3, t3, r3, w1, w2, w3, w4, w5, w6⟩ := ih (y + 1) n n' pl px2 M2 st2 fv2 st2' fv2' sp2 dec2 dbl2 t2 r2 (by omega) (by omega) (by omega) f3 f5 f6 f7 (by omega)
      refine ⟨pl3, px3, M3, st3, fv3, st3', fv3', sp3, dec3, dbl3, t3, r3, ?_, ?_, w3, f4.trans w4, by omega, by omega⟩
      · rw [q_Stk_codePixelsT, if_pos (vpb_nI k3 (by omega)), show (0 : Int32) = nI 0 from rfl, f1, ob_s, nI_1]
        exact w1
      · rw [q, Int32.add_zero]
        refine Eq.trans f2 w2
    · rw [if_pos (show bb = 1 from q)]
      obtain ⟨px2, M2, f1, f2, f3, f4⟩ := plain_row (tk := 1) (gs := (nI N)) (qu := qu) (gv := gv) (rec := q_Mod_codeLayer_39 (nI k) 1 wd hg qu gv (nI N) n') (st := s1') (fv := v1') (sp := nI m1) (dec := dec + 1) (pl := pl + 1) (dbl := db1) (dg := dg) (dc := dc) (tg := 1) (nx := nI t1) (ab := r1) hL (show y < b by omega) a 0 5000 5000 px M (by omega) (by omega) (by omega) hR
      obtain ⟨pl3, px3, M3, st3, fv3, st3', fv3', sp3, dec3, dbl3, t3, r3, w1, w2, w3, w4, w5, w6⟩ := ih (y + 1) n n' (pl + 1) px2 M2 s1 v1 s1' v1' m1 (dec + 1) db1 t1 r1 (by omega) (by omega) (by omega) f3 e3 e4 e5 (by omega)
      refine ⟨pl3, px3, M3, st3, fv3, st3', fv3', sp3, dec3, dbl3, t3, r3, ?_, ?_, w3, f4.trans w4, by omega, by omega⟩
      · rw [q_Stk_paintPlain, show (0 : Int32) = nI 0 from rfl, f1, ob_s, nI_1]
        exact w1
      · rw [q]
        refine Eq.trans f2 w2
