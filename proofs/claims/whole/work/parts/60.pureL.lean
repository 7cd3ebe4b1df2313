/-! read: its steps -/
def hs : Nat → Nat → Nat
  | 0, a => a
  | j + 1, a => hs j ((a + 1) / 2)
theorem side_go {k : Nat} {la lcI : Int32} : ∀ j a F, a < 1000 → j < F → k + j < 1000 → q_Mod_sideOf_10 la (nI k) lcI F (nI a) (nI (k + j)) = some (nI (hs j a)) := by
  intro j
  induction j with
  | zero =>
    intro a F ha hF hk
    obtain ⟨F, rfl⟩ : ∃ m, F = m + 1 := ⟨F - 1, by omega⟩
    rw [q_Mod_sideOf_10, Nat.add_zero, if_pos (Int32.le_refl _)]
    rfl
  | succ j ih =>
    intro a F ha hF hk
    obtain ⟨F, rfl⟩ : ∃ m, F = m + 1 := ⟨F - 1, by omega⟩
    rw [q_Mod_sideOf_10, if_neg (nI_ge (show k < k + (j + 1) by omega) (by omega)), half_nI ha, show k + (j + 1) = k + j + 1 by omega, pk_m1]
    exact ih ((a + 1) / 2) F (by omega) (by omega) (by omega)
theorem side_eq {k j a lc : Nat} (ha : a < 1000) (hl : lc = k + j + 1) (hk : k + j < 100) : q_Mod_sideOf (nI a) (nI k) (nI lc) = some (nI (hs j a)) := by
  subst hl
  rw [q_Mod_sideOf, nI_pred]
  exact side_go j a 5000 ha (by omega) (by omega)
theorem r133 {ly n : Nat} {code W H any' d p db sp' nd np ndb dc' tk gs nx ab lcm nw nh : Int32} {file qu M wd hg st' fv' dg' gv bg : Nat → Int32} (hl : ly < 3) : ∀ e j F pic, j + e = 256 → e < F → q_Mod_read_133 (nI ly) (nI n) file qu F (nI j) code W H pic any' d p db M wd hg st' fv' sp' nd np ndb dg' dc' tk gv gs nx ab bg lcm nw nh = some (-1, code, W, H, fl pic 0 j 256 (lyr M ly), any', d, p, db, M, wd, hg, st', fv', sp', nd, np, ndb, dg', dc', tk, gv, gs, nx, ab, bg, lcm, nw, nh) := by
  intro e
  induction e with
  | zero =>
    intro j F pic hj hF
    obtain ⟨F, rfl⟩ : ∃ m, F = m + 1 := ⟨F - 1, by omega⟩
    obtain rfl : j = 256 := by omega
    rw [q_Mod_read_133, if_pos (show (256 : Int32) ≤ nI 256 from nI_le (Nat.le_refl 256) (by omega)), fl_nil]
  | succ e ih =>
    intro j F pic hj hF
    obtain ⟨F, rfl⟩ : ∃ m, F = m + 1 := ⟨F - 1, by omega⟩
    rw [q_Mod_read_133, if_neg (show ¬ (256 : Int32) ≤ nI j from nI_ge (b := 256) (by omega) (by omega)), show (256 : Int32) * nI ly + nI j = nI (256 * ly + j) by rw [show (256 : Int32) = nI 256 from rfl, pk_mul, nI_add], if_pos (vpb_nI (show 256 * ly + j < 768 by omega) (by omega)), if_pos (vpb_nI (show j < 256 by omega) (by omega)), nI_1, nI_clamp (by omega), nI_clamp (by omega), show M (256 * ly + j) = lyr M ly j from rfl, ih (j + 1) F _ (by omega) (by omega)]
    have := fl_step pic 0 j 256 (lyr M ly) (by omega)
    rw [Nat.zero_add] at this
    rw [this]
theorem rend_m {ly n m F : Nat} {code W H any' d p db sp' nd np ndb dc' tk gs nx ab lcm nw nh : Int32} {file qu pic M wd hg st' fv' dg' gv bg : Nat → Int32} {a b : Nat} (hF : F = m + 1) (hl : ly < 3) (hw : wd ly = nI a) (hh : hg ly = nI b) : q_Mod_read_62 (nI ly) (nI n) file qu F (nI (ly + 1)) code W H pic any' d p db M wd hg st' fv' sp' nd np ndb dg' dc' tk gv gs nx ab bg lcm nw nh = some (-1, code, nI a, nI b, fl pic 0 0 256 (lyr M ly), 1, nd, np, ndb, M, wd, hg, st', fv', sp', nd, np, ndb, dg', dc', tk, gv, gs, nx, ab, bg, lcm, nw, nh) := by
  subst hF
  rw [q_Mod_read_62, if_pos (nI_lt (Nat.lt_succ_self _) (by omega)), q_Mod_note, ob_s, if_pos (vpb_nI hl (by omega)), if_pos (vpb_nI hl (by omega)), nI_clamp (by omega), hw, hh]
  exact r133 hl 256 0 5000 pic rfl (by omega)
theorem rend_c0 {n m F : Nat} {any pw ph fw fh fc fp pr uw uh vw vh ww wh sp dec dbl kc kn kr : Int32} {by_ px fs fe u v w st fv kb : Nat → Int32} (hF : F = m + 1) : q_Top_read_76 (nI 0) by_ (nI n) F (1 : Int32) any px pw ph fs fe fw fh fc fp pr u uw uh v vw vh w ww wh st fv sp dec dbl kb kc kn kr = some (-1, 1, cpy u px, uw, uh, fs, fe, fw, fh, fc, fp, pr, u, uw, uh, v, vw, vh, w, ww, wh, st, fv, sp, dec, dbl, kb, kc, kn, kr) := by
  subst hF
  rw [q_Top_read_76, if_pos (by decide), if_pos (by decide), become_eq, ob_s]
theorem rst_0 {n ly lc NW NH a b a' b' m m' F F' : Nat} {B : Nat → Int} {any pw ph fw fh fc fp pr vw vh ww wh sp dec dbl kc kn kr : Int32} {by_ px fs fe u v w st fv kb : Nat → Int32} {code W H any' d p db sp' nd np ndb dc' tk gs nx ab : Int32} {file qu pic M wd hg st' fv' dg' gv bg : Nat → Int32} (hF : F = m + 1) (hF' : F' = m' + 1) (h : BB by_ file n B) (hS : SI B lc fs fe bg) (hk : 0 < lc) (hly : 0 ≤ ly) (hl3 : ly < 3) (hs1 : q_Mod_sideOf (nI NW) (nI 0) (nI lc) = some (nI a)) (hs2 : q_Mod_sideOf (nI NH) (nI 0) (nI lc) = some (nI b)) (hL : LZ 0 a b a' b' vw vh (upd wd 0 (nI a)) (upd hg 0 (nI b))) (hq : RQ qu) (hz : ∀ j, j < 256 → u j = 0) (hR : 0 = 0 ∨ RL v M (0 - 1) a' b') : ∃ kb2 gv2 N pl2 px2 M2 st2 fv2 st2' fv2' sp2 dec2 dbl2 t2 r2, q_Top_read_76 (nI ly) by_ (nI n) F (0 : Int32) any px pw ph fs fe fw fh fc fp pr u (nI a) (nI b) v vw vh w ww wh st fv sp dec dbl kb kc kn kr = q_Top_read_76 (nI ly) by_ (nI n) m (1 : Int32) any px pw ph fs fe fw fh fc fp pl2 px2 (nI a) (nI b) v vw vh w ww wh st2 fv2 sp2 dec2 dbl2 kb2 (nI N) t2 r2 ∧ q_Mod_read_62 (nI ly) (nI n) file qu F' (nI 0) code W H pic any' d p db M wd hg st' fv' sp' nd np ndb dg' dc' tk gv gs nx ab bg (nI lc) (nI NW) (nI NH) = q_Mod_read_62 (nI ly) (nI n) file qu m' (nI 1) code W H pic any' d p db M2 (upd wd 0 (nI a)) (upd hg 0 (nI b)) st2' fv2' sp2 dec2 pl2 dbl2 (fl dg' 0 0 16 (fun _ => 0)) 16 1 gv2 (nI N) t2 r2 bg (nI lc) (nI NW) (nI NH) ∧ LQ 0 a b a' b' px2 v M2 := by
  subst hF hF'
  obtain ⟨kb2, gv2, N, r, pl2, px2, M2, st2, fv2, st2', fv2', sp2, dec2, dbl2, t2, r2, e1, e2, e3, e4, e5⟩ := layer_T (k := 0) (gs := gs) (nx := nx) (ab := ab) (pr := pr) (pr' := np) (dec := dec) (dec' := nd) (dbl := dbl) (dbl' := ndb) (sp := sp) (sp' := sp') (dc' := dc') (tk' := tk) (kc := kc) (kn := kn) (kr := kr) (gv := gv) (kb := kb) (st := st) (fv := fv) (st' := st') (fv' := fv') (dg' := dg') h hS hk hL hq hz hR
  refine ⟨kb2, gv2, N, pl2, px2, M2, st2, fv2, st2', fv2', sp2, dec2, dbl2, t2, r2, ?_, ?_, e5⟩
  · rw [show nI 0 = (0 : Int32) from rfl] at e1 e2
    rw [q_Top_read_76, if_neg (show ¬ nI ly < (0 : Int32) from nI_nlt (b := 0) hly (by omega)), if_pos rfl, e1, ob_s, e2, ob_s]
  · rw [q_Mod_read_62, if_neg (nI_nlt hly (by omega)), hs1, ob_s, hs2, ob_s, q_Mod_become, if_pos (vpb_nI (show 0 < 3 by omega) (by omega)), if_pos (vpb_nI (show 0 < 3 by omega) (by omega)), ob_s, nI_clamp (by omega), e3, ob_s, e4, ob_s, nI_1]
theorem rend_c1 {n m F : Nat} {any pw ph fw fh fc fp pr uw uh vw vh ww wh sp dec dbl kc kn kr : Int32} {by_ px fs fe u v w st fv kb : Nat → Int32} (hF : F = m + 1) : q_Top_read_76 (nI 1) by_ (nI n) F (2 : Int32) any px pw ph fs fe fw fh fc fp pr u uw uh v vw vh w ww wh st fv sp dec dbl kb kc kn kr = some (-1, 1, cpy v px, vw, vh, fs, fe, fw, fh, fc, fp, pr, u, uw, uh, v, vw, vh, w, ww, wh, st, fv, sp, dec, dbl, kb, kc, kn, kr) := by
  subst hF
  rw [q_Top_read_76, if_pos (by decide), if_neg (by decide), if_pos (by decide), become_eq, ob_s]
theorem rst_1 {n ly lc NW NH a b a' b' m m' F F' : Nat} {B : Nat → Int} {any pw ph fw fh fc fp pr uw uh ww wh sp dec dbl kc kn kr : Int32} {by_ px fs fe u v w st fv kb : Nat → Int32} {code W H any' d p db sp' nd np ndb dc' tk gs nx ab : Int32} {file qu pic M wd hg st' fv' dg' gv bg : Nat → Int32} (hF : F = m + 1) (hF' : F' = m' + 1) (h : BB by_ file n B) (hS : SI B lc fs fe bg) (hk : 1 < lc) (hly : 1 ≤ ly) (hl3 : ly < 3) (hs1 : q_Mod_sideOf (nI NW) (nI 1) (nI lc) = some (nI a)) (hs2 : q_Mod_sideOf (nI NH) (nI 1) (nI lc) = some (nI b)) (hL : LZ 1 a b a' b' uw uh (upd wd 1 (nI a)) (upd hg 1 (nI b))) (hq : RQ qu) (hz : ∀ j, j < 256 → v j = 0) (hR : 1 = 0 ∨ RL u M (1 - 1) a' b') : ∃ kb2 gv2 N pl2 px2 M2 st2 fv2 st2' fv2' sp2 dec2 dbl2 t2 r2, q_Top_read_76 (nI ly) by_ (nI n) F (1 : Int32) any px pw ph fs fe fw fh fc fp pr u uw uh v (nI a) (nI b) w ww wh st fv sp dec dbl kb kc kn kr = q_Top_read_76 (nI ly) by_ (nI n) m (2 : Int32) any px pw ph fs fe fw fh fc fp pl2 u uw uh px2 (nI a) (nI b) w ww wh st2 fv2 sp2 dec2 dbl2 kb2 (nI N) t2 r2 ∧ q_Mod_read_62 (nI ly) (nI n) file qu F' (nI 1) code W H pic any' d p db M wd hg st' fv' sp' nd np ndb dg' dc' tk gv gs nx ab bg (nI lc) (nI NW) (nI NH) = q_Mod_read_62 (nI ly) (nI n) file qu m' (nI 2) code W H pic any' d p db M2 (upd wd 1 (nI a)) (upd hg 1 (nI b)) st2' fv2' sp2 dec2 pl2 dbl2 (fl dg' 0 0 16 (fun _ => 0)) 16 1 gv2 (nI N) t2 r2 bg (nI lc) (nI NW) (nI NH) ∧ LQ 1 a b a' b' px2 u M2 := by
  subst hF hF'
  obtain ⟨kb2, gv2, N, r, pl2, px2, M2, st2, fv2, st2', fv2', sp2, dec2, dbl2, t2, r2, e1, e2, e3, e4, e5⟩ := layer_T (k := 1) (gs := gs) (nx := nx) (ab := ab) (pr := pr) (pr' := np) (dec := dec) (dec' := nd) (dbl := dbl) (dbl' := ndb) (sp := sp) (sp' := sp') (dc' := dc') (tk' := tk) (kc := kc) (kn := kn) (kr := kr) (gv := gv) (kb := kb) (st := st) (fv := fv) (st' := st') (fv' := fv') (dg' := dg') h hS hk hL hq hz hR
  refine ⟨kb2, gv2, N, pl2, px2, M2, st2, fv2, st2', fv2', sp2, dec2, dbl2, t2, r2, ?_, ?_, e5⟩
  · rw [show nI 1 = (1 : Int32) from rfl] at e1 e2
    rw [q_Top_read_76, if_neg (show ¬ nI ly < (1 : Int32) from nI_nlt (b := 1) hly (by omega)), if_neg n10, if_pos rfl, e1, ob_s, e2, ob_s]
  · rw [q_Mod_read_62, if_neg (nI_nlt hly (by omega)), hs1, ob_s, hs2, ob_s, q_Mod_become, if_pos (vpb_nI (show 1 < 3 by omega) (by omega)), if_pos (vpb_nI (show 1 < 3 by omega) (by omega)), ob_s, nI_clamp (by omega), e3, ob_s, e4, ob_s, nI_1]
theorem rend_c2 {n m F : Nat} {any pw ph fw fh fc fp pr uw uh vw vh ww wh sp dec dbl kc kn kr : Int32} {by_ px fs fe u v w st fv kb : Nat → Int32} (hF : F = m + 1) : q_Top_read_76 (nI 2) by_ (nI n) F (3 : Int32) any px pw ph fs fe fw fh fc fp pr u uw uh v vw vh w ww wh st fv sp dec dbl kb kc kn kr = some (-1, 1, cpy w px, ww, wh, fs, fe, fw, fh, fc, fp, pr, u, uw, uh, v, vw, vh, w, ww, wh, st, fv, sp, dec, dbl, kb, kc, kn, kr) := by
  subst hF
  rw [q_Top_read_76, if_pos (by decide), if_neg (by decide), if_neg (by decide), if_pos (by decide), become_eq, ob_s]
theorem rst_2 {n ly lc NW NH a b a' b' m m' F F' : Nat} {B : Nat → Int} {any pw ph fw fh fc fp pr uw uh vw vh sp dec dbl kc kn kr : Int32} {by_ px fs fe u v w st fv kb : Nat → Int32} {code W H any' d p db sp' nd np ndb dc' tk gs nx ab : Int32} {file qu pic M wd hg st' fv' dg' gv bg : Nat → Int32} (hF : F = m + 1) (hF' : F' = m' + 1) (h : BB by_ file n B) (hS : SI B lc fs fe bg) (hk : 2 < lc) (hly : 2 ≤ ly) (hl3 : ly < 3) (hs1 : q_Mod_sideOf (nI NW) (nI 2) (nI lc) = some (nI a)) (hs2 : q_Mod_sideOf (nI NH) (nI 2) (nI lc) = some (nI b)) (hL : LZ 2 a b a' b' vw vh (upd wd 2 (nI a)) (upd hg 2 (nI b))) (hq : RQ qu) (hz : ∀ j, j < 256 → w j = 0) (hR : 2 = 0 ∨ RL v M (2 - 1) a' b') : ∃ kb2 gv2 N pl2 px2 M2 st2 fv2 st2' fv2' sp2 dec2 dbl2 t2 r2, q_Top_read_76 (nI ly) by_ (nI n) F (2 : Int32) any px pw ph fs fe fw fh fc fp pr u uw uh v vw vh w (nI a) (nI b) st fv sp dec dbl kb kc kn kr = q_Top_read_76 (nI ly) by_ (nI n) m (3 : Int32) any px pw ph fs fe fw fh fc fp pl2 u uw uh v vw vh px2 (nI a) (nI b) st2 fv2 sp2 dec2 dbl2 kb2 (nI N) t2 r2 ∧ q_Mod_read_62 (nI ly) (nI n) file qu F' (nI 2) code W H pic any' d p db M wd hg st' fv' sp' nd np ndb dg' dc' tk gv gs nx ab bg (nI lc) (nI NW) (nI NH) = q_Mod_read_62 (nI ly) (nI n) file qu m' (nI 3) code W H pic any' d p db M2 (upd wd 2 (nI a)) (upd hg 2 (nI b)) st2' fv2' sp2 dec2 pl2 dbl2 (fl dg' 0 0 16 (fun _ => 0)) 16 1 gv2 (nI N) t2 r2 bg (nI lc) (nI NW) (nI NH) ∧ LQ 2 a b a' b' px2 v M2 := by
  subst hF hF'
  obtain ⟨kb2, gv2, N, r, pl2, px2, M2, st2, fv2, st2', fv2', sp2, dec2, dbl2, t2, r2, e1, e2, e3, e4, e5⟩ := layer_T (k := 2) (gs := gs) (nx := nx) (ab := ab) (pr := pr) (pr' := np) (dec := dec) (dec' := nd) (dbl := dbl) (dbl' := ndb) (sp := sp) (sp' := sp') (dc' := dc') (tk' := tk) (kc := kc) (kn := kn) (kr := kr) (gv := gv) (kb := kb) (st := st) (fv := fv) (st' := st') (fv' := fv') (dg' := dg') h hS hk hL hq hz hR
  refine ⟨kb2, gv2, N, pl2, px2, M2, st2, fv2, st2', fv2', sp2, dec2, dbl2, t2, r2, ?_, ?_, e5⟩
  · rw [show nI 2 = (2 : Int32) from rfl] at e1 e2
    rw [q_Top_read_76, if_neg (show ¬ nI ly < (2 : Int32) from nI_nlt (b := 2) hly (by omega)), if_neg n20, if_neg n21, if_pos rfl, e1, ob_s, e2, ob_s]
  · rw [q_Mod_read_62, if_neg (nI_nlt hly (by omega)), hs1, ob_s, hs2, ob_s, q_Mod_become, if_pos (vpb_nI (show 2 < 3 by omega) (by omega)), if_pos (vpb_nI (show 2 < 3 by omega) (by omega)), ob_s, nI_clamp (by omega), e3, ob_s, e4, ob_s, nI_1]
theorem blank_1 {a b : Nat} {uw uh vw vh ww wh : Int32} {u v w : Nat → Int32} (ha : a ≤ 16) (hb : b ≤ 16) : q_Stk_blank (nI 1) (nI a) (nI b) u uw uh v vw vh w ww wh = some (fl u 0 0 256 (fun _ => 0), nI a, nI b, v, vw, vh, w, ww, wh) := by
  rw [q_Stk_blank, q_Stk_blank_11, if_neg (by decide), if_pos (by decide), q_Pic_blank, fill256, ob_s, ob_s, q_halfSide, ob_s, q_halfSide, ob_s, half_nI (by omega), half_nI (by omega), q_Stk_blank_11, if_pos (by decide)]
theorem blank_2 {a b : Nat} {uw uh vw vh ww wh : Int32} {u v w : Nat → Int32} (ha : a ≤ 16) (hb : b ≤ 16) : q_Stk_blank (nI 2) (nI a) (nI b) u uw uh v vw vh w ww wh = some (fl u 0 0 256 (fun _ => 0), nI ((a + 1) / 2), nI ((b + 1) / 2), fl v 0 0 256 (fun _ => 0), nI a, nI b, w, ww, wh) := by
  rw [q_Stk_blank, q_Stk_blank_11, if_neg (by decide), if_neg (by decide), if_pos (by decide), q_Pic_blank, fill256, ob_s, ob_s, q_halfSide, ob_s, q_halfSide, ob_s, half_nI (by omega), half_nI (by omega), q_Stk_blank_11, if_neg (by decide), if_pos (by decide), q_Pic_blank, fill256, ob_s, ob_s, q_halfSide, ob_s, q_halfSide, ob_s, half_nI (by omega), half_nI (by omega), q_Stk_blank_11, if_pos (by decide)]
theorem blank_3 {a b : Nat} {uw uh vw vh ww wh : Int32} {u v w : Nat → Int32} (ha : a ≤ 16) (hb : b ≤ 16) : q_Stk_blank (nI 3) (nI a) (nI b) u uw uh v vw vh w ww wh = some (fl u 0 0 256 (fun _ => 0), nI ((((a + 1) / 2) + 1) / 2), nI ((((b + 1) / 2) + 1) / 2), fl v 0 0 256 (fun _ => 0), nI ((a + 1) / 2), nI ((b + 1) / 2), fl w 0 0 256 (fun _ => 0), nI a, nI b) := by
  rw [q_Stk_blank, q_Stk_blank_11, if_neg (by decide), if_neg (by decide), if_neg (by decide), if_pos (by decide), q_Pic_blank, fill256, ob_s, ob_s, q_halfSide, ob_s, q_halfSide, ob_s, half_nI (by omega), half_nI (by omega), q_Stk_blank_11, if_neg (by decide), if_neg (by decide), if_pos (by decide), q_Pic_blank, fill256, ob_s, ob_s, q_halfSide, ob_s, q_halfSide, ob_s, half_nI (by omega), half_nI (by omega), q_Stk_blank_11, if_neg (by decide), if_pos (by decide), q_Pic_blank, fill256, ob_s, ob_s, q_halfSide, ob_s, q_halfSide, ob_s, half_nI (by omega), half_nI (by omega), q_Stk_blank_11, if_pos (by decide)]
