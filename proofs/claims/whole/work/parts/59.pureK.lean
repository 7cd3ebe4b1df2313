/-! a layer's bytes collected, and a layer taken from them -/
theorem col_go {by_ file st en bg : Nat → Int32} {n e : Nat} {B : Nat → Int} {ly ly' : Int32} (h : BB by_ file n B) : ∀ u p c F F' kb gv nd re, Seg B u p e → c ≤ p → u < F → u < F' → NB kb gv c → ∃ kb2 gv2, q_Tak_begin_20 ly by_ st en (nI n) F (nI e) (nI p) kb (nI c) nd re = q_Tak_begin_82 ly by_ st en (nI n) kb2 (nI (c + u)) nd re ∧ q_Mod_collect_12 ly' file bg F' (nI p) gv (nI c) = some (gv2, nI (c + u)) ∧ NB kb2 gv2 (c + u) := by
  have hn := h.1
  intro u
  induction u with
  | zero =>
    intro p c F F' kb gv nd re hS hcp hF hF' hN
    obtain ⟨F, rfl⟩ : ∃ m, F = m + 1 := ⟨F - 1, by omega⟩
    obtain ⟨F', rfl⟩ : ∃ m, F' = m + 1 := ⟨F' - 1, by omega⟩
    obtain ⟨rfl, s1, s2⟩ := hS
    have p1 := h.lt (p := p + 1) (by omega)
    have f0 := (h.2 p).1 (by omega)
    have f1 := (h.2 (p + 1)).1 p1
    refine ⟨kb, gv, ?_, ?_, hN⟩
    · rw [q_Tak_begin_20, if_pos (Int32.le_refl _)]
      rfl
    · rw [q_Mod_collect_12, if_pos (vpb_nI (by omega) (by omega)), nI_clamp (by omega), f0.2.1, s1, if_pos (show zI 255 = 255 from rfl), nI_1, if_pos (vpb_nI (by omega) (by omega)), nI_clamp (by omega), f1.2.1, s2, if_neg (by decide)]
      rfl
  | succ u ih =>
    intro p c F F' kb gv nd re hS hcp hF hF' hN
    obtain ⟨F, rfl⟩ : ∃ m, F = m + 1 := ⟨F - 1, by omega⟩
    obtain ⟨F', rfl⟩ : ∃ m, F' = m + 1 := ⟨F' - 1, by omega⟩
    obtain ⟨g1, g2, g3⟩ := Seg_le _ _ _ hS
    have e1 := h.lt (p := e + 1) (by omega)
    have plt : p < n := by omega
    have f0 := (h.2 p).1 plt
    have i1 := (isv h p (v := 255) (V := 255) rfl (by omega) (by omega)).1
    have c9 : ¬ (900 : Int32) ≤ nI c := nI_ge (b := 900) (by omega) (by omega)
    have hN2 : NB (upd kb c (zI (B p))) (upd gv c (zI (B p))) (c + 1) := by
      refine ⟨by omega, fun i hi => ?_⟩
      by_cases q : i = c
      · subst q
        rw [upd_same, upd_same]
      · rw [upd_other _ _ q, upd_other _ _ q]
        exact hN.2 i (by omega)
    have at1 : q_Fil_at (nI p) by_ (nI n) = some (zI (B p)) := by rw [at_b h p (by omega), if_pos plt]
    rw [q_Tak_begin_20, if_neg (nI_ge (show p < e by omega) (by omega)), if_neg c9, at1, ob_s, if_pos (vpb_nI (show c < 900 by omega) (by omega)), ob_s, nI_clamp (show c < 2 ^ 31 by omega), nI_1, nI_1, nI_1]
    rw [q_Mod_collect_12, q_Mod_collect_35, if_pos (vpb_nI (show p < 900 by omega) (by omega)), if_pos (vpb_nI (show p < 900 by omega) (by omega)), if_pos (vpb_nI (show p < 900 by omega) (by omega)), if_pos (vpb_nI (show c < 900 by omega) (by omega)), nI_clamp (show p < 2 ^ 31 by omega), nI_clamp (show c < 2 ^ 31 by omega), f0.2.1, nI_1, nI_1, show nI p + (2 : Int32) = nI (p + 2) from nI_add p 2]
    rw [show c + (u + 1) = (c + 1) + u by omega]
    rcases hS with ⟨s1, s2, s3⟩ | ⟨s1, s2, s3⟩
    · have p1 := h.lt (p := p + 1) (by omega)
      have f1 := (h.2 (p + 1)).1 p1
      rw [if_pos (i1.mpr s1), if_pos (i1.mpr s1), if_pos (i1.mpr s1), if_pos (vpb_nI (show p + 1 < 900 by omega) (by omega)), nI_clamp (show p + 1 < 2 ^ 31 by omega), f1.2.1, s2, if_pos (show zI 0 = 0 from rfl)]
      exact ih (p + 2) (c + 1) F F' _ _ nd re s3 (by omega) (by omega) (by omega) hN2
    · rw [if_neg (fun q => s2 (i1.mp q)), if_neg (fun q => s2 (i1.mp q)), if_neg (fun q => s2 (i1.mp q))]
      exact ih (p + 1) (c + 1) F F' _ _ nd re s3 (by omega) (by omega) (by omega) hN2
theorem beg16 {by_ st en kb gv st' fv' dg : Nat → Int32} {N : Nat} {ly len sp d p db dc tk : Int32} (hN : NB kb gv N) : ∀ e j F F' t re, j + e = 16 → e < F → e < F' → t + e < 1000 → ∃ r, q_Tak_begin_95 ly by_ st en len F (nI j) kb (nI N) (nI t) re = some (kb, nI N, nI (t + e), r) ∧ q_Mod_begin_94 1 gv (nI N) F' (nI j) st' fv' sp d p db dg dc tk (nI t) re = some (st', fv', sp, d, p, db, dg, dc, tk, nI (t + e), r) := by
  intro e
  induction e with
  | zero =>
    intro j F F' t re hj hF hF' ht
    obtain ⟨F, rfl⟩ : ∃ m, F = m + 1 := ⟨F - 1, by omega⟩
    obtain ⟨F', rfl⟩ : ∃ m, F' = m + 1 := ⟨F' - 1, by omega⟩
    obtain rfl : j = 16 := by omega
    refine ⟨re, ?_, ?_⟩
    · rw [q_Tak_begin_95, if_pos (show (16 : Int32) ≤ nI 16 from nI_le (Nat.le_refl 16) (by omega))]
      rfl
    · rw [q_Mod_begin_94, if_pos (show (16 : Int32) ≤ nI 16 from nI_le (Nat.le_refl 16) (by omega))]
      rfl
  | succ e ih =>
    intro j F F' t re hj hF hF' ht
    obtain ⟨F, rfl⟩ : ∃ m, F = m + 1 := ⟨F - 1, by omega⟩
    obtain ⟨F', rfl⟩ : ∃ m, F' = m + 1 := ⟨F' - 1, by omega⟩
    obtain ⟨bt, q1, q2⟩ := mkd_t (re := re) hN (show t < 1000000 by omega)
    obtain ⟨r, e1, e2⟩ := ih (j + 1) F F' (t + 1) ((2 : Int32) * re + bt) (by omega) (by omega) (by omega) (by omega)
    refine ⟨r, ?_, ?_⟩
    · rw [q_Tak_begin_95, if_neg (show ¬ (16 : Int32) ≤ nI j from nI_ge (b := 16) (by omega) (by omega)), q1, ob_s, nI_1, show t + (e + 1) = t + 1 + e by omega]
      exact e1
    · rw [q_Mod_begin_94, if_neg (show ¬ (16 : Int32) ≤ nI j from nI_ge (b := 16) (by omega) (by omega)), if_neg n10, q2, ob_s, nI_1, show t + (e + 1) = t + 1 + e by omega]
      exact e2
theorem clr11 {k : Nat} {tke gs sp nd np ndb dc tk nx ab : Int32} {wd hg qu gv st fv dg : Nat → Int32} (hk : k < 3) : ∀ e j F M, j + e = 256 → e < F → q_Mod_codeLayer_11 (nI k) tke wd hg qu gv gs F (nI j) M st fv sp nd np ndb dg dc tk nx ab = q_Mod_codeLayer_39 (nI k) tke wd hg qu gv gs 5000 0 (fl M (256 * k) j 256 (fun _ => 0)) st fv sp nd np ndb dg dc tk nx ab := by
  intro e
  induction e with
  | zero =>
    intro j F M hj hF
    obtain ⟨F, rfl⟩ : ∃ m, F = m + 1 := ⟨F - 1, by omega⟩
    obtain rfl : j = 256 := by omega
    rw [q_Mod_codeLayer_11, if_pos (show (256 : Int32) ≤ nI 256 from nI_le (Nat.le_refl 256) (by omega)), fl_nil]
  | succ e ih =>
    intro j F M hj hF
    obtain ⟨F, rfl⟩ : ∃ m, F = m + 1 := ⟨F - 1, by omega⟩
    have st1 := fl_step M (256 * k) j 256 (fun _ => (0 : Int32)) (by omega)
    rw [q_Mod_codeLayer_11, if_neg (show ¬ (256 : Int32) ≤ nI j from nI_ge (b := 256) (by omega) (by omega)), show (256 : Int32) * nI k + nI j = nI (256 * k + j) by rw [show (256 : Int32) = nI 256 from rfl, pk_mul, nI_add], if_pos (vpb_nI (show 256 * k + j < 768 by omega) (by omega)), nI_1, nI_clamp (by omega), ih (j + 1) F _ (by omega) (by omega), st1]
theorem layer_T {by_ file fs fe bg : Nat → Int32} {n : Nat} {B : Nat → Int} {k a b a' b' lc : Nat} {bw bh gs nx ab pr pr' dec dec' dbl dbl' sp sp' dc' tk' kc kn kr : Int32} {bx wd hg qu gv kb px M st fv st' fv' dg' : Nat → Int32} (h : BB by_ file n B) (hS : SI B lc fs fe bg) (hk : k < lc) (hL : LZ k a b a' b' bw bh wd hg) (hq : RQ qu) (hz : ∀ j, j < 256 → px j = 0) (hR : k = 0 ∨ RL bx M (k - 1) a' b') : ∃ kb2 gv2 N r pl2 px2 M2 st2 fv2 st2' fv2' sp2 dec2 dbl2 t2 r2, q_Tak_begin (nI k) kb kc kn kr by_ fs fe (nI n) = some (kb2, nI N, nI 16, r) ∧ q_Stk_codeLayerT (nI k) pr px (nI a) (nI b) bx bw bh st fv sp dec dbl kb2 (nI N) (nI 16) r = some (pl2, px2, st2, fv2, sp2, dec2, dbl2, t2, r2) ∧ q_Mod_collect (nI k) file gv gs bg = some (gv2, nI N) ∧ q_Mod_codeLayer (nI k) 1 M wd hg st' fv' qu sp' dec' pr' dbl' dg' dc' tk' gv2 (nI N) nx ab = some (M2, st2', fv2', sp2, dec2, pl2, dbl2, fl dg' 0 0 16 (fun _ => 0), 16, 1, t2, r2) ∧ LQ k a b a' b' px2 bx M2 := by
  have hn := h.1
  obtain ⟨k3, hw, hh, a1, a2, b1, b2, _⟩ := id hL
  obtain ⟨u, s, e, s1, s2, s3, s4, s5⟩ := hS k hk
  obtain ⟨g1, g2, g3⟩ := Seg_le _ _ _ s4
  have e1 := h.lt (p := e + 1) (by omega)
  obtain ⟨kb2, gv2, c1, c2, c3⟩ := col_go (st := fs) (en := fe) (bg := bg) (ly := nI k) (ly' := nI k) h u s 0 5000 5000 kb gv kn kr s4 (by omega) (by omega) (by omega) ⟨by omega, fun i hi => absurd hi (by omega)⟩
  obtain ⟨r, d1, d2⟩ := beg16 (by_ := by_) (st := fs) (en := fe) (ly := nI k) (len := nI n) (st' := fl st' 0 0 2563 (fun _ => 0)) (fv' := fl fv' 0 0 2563 (fun _ => 0)) (sp := 65536) (d := 0) (p := 0) (db := 0) (dg := fl dg' 0 0 16 (fun _ => 0)) (dc := 16) (tk := 1) c3 16 0 5000 5000 0 0 (by omega) (by omega) (by omega) (by omega)
  have hR1 : RL px (fl M (256 * k) 0 256 (fun _ => 0)) k a b := by
    intro i j hi hj
    rw [lyr_fl (by omega), hz _ (by omega)]
    exact ⟨rfl, Or.inl rfl⟩
  have hR2 : LQ k a b a' b' px bx (fl M (256 * k) 0 256 (fun _ => 0)) := by
    refine ⟨hR1, ?_⟩
    rcases hR with q | q
    · exact Or.inl q
    · by_cases k0 : k = 0
      · exact Or.inl k0
      · have := hL.bnd
        exact Or.inr (RL_out q (Out_fl M _ k) (by omega) (by omega) (by omega))
  obtain ⟨pl2, px2, M2, st2, fv2, st2', fv2', sp2, dec2, dbl2, t2, r2, f1, f2, f3, f4, f5, f6⟩ := rows_T (dc := 16) (dg := fl dg' 0 0 16 (fun _ => 0)) hL hq c3 b 0 5000 5000 0 px (fl M (256 * k) 0 256 (fun _ => 0)) _ _ _ _ 65536 0 0 16 r (by omega) (by omega) (by omega) hR2 (RC_0 st fv st' fv') (by omega) (by omega) (by omega)
  refine ⟨kb2, gv2, 0 + u, r, pl2, px2, M2, st2, fv2, st2', fv2', nI sp2, dec2, dbl2, nI t2, r2, ?_, ?_, ?_, ?_, f3⟩
  · rw [q_Tak_begin, if_pos (vpb_nI k3 (by omega)), if_pos (vpb_nI k3 (by omega)), nI_clamp (by omega), s1, s2, show (0 : Int32) = nI 0 from rfl, c1, q_Tak_begin_82, show (0 : Int32) = nI 0 from rfl]
    exact d1
  · rw [q_Stk_codeLayerT, q_Cod_begin, fill2563, ob_s, fill2563, ob_s, ob_s]
    exact f1
  · rw [q_Mod_collect, if_pos (vpb_nI k3 (by omega)), nI_clamp (by omega), s3, show (0 : Int32) = nI 0 from rfl, c2]
  · rw [q_Mod_codeLayer, mbegin (Or.inr rfl), show q_Mod_begin_94 1 gv2 (nI (0 + u)) 5000 0 (fl st' 0 0 2563 (fun _ => 0)) (fl fv' 0 0 2563 (fun _ => 0)) 65536 0 0 0 (fl dg' 0 0 16 (fun _ => 0)) 16 1 0 0 = _ from d2, ob_s, if_neg n10, show (0 : Int32) = nI 0 from rfl, clr11 k3 256 0 5000 M rfl (by omega)]
    exact f2
