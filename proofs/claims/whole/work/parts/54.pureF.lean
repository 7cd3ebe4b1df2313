/-! write -/
theorem Out_fl (M F : Nat → Int32) (k : Nat) : Out k M (fl M (256 * k) 0 256 F) := fun j hj => fl_out M (256 * k) 0 256 F (by omega)
theorem RL_out {px M M2 : Nat → Int32} {k k' a b : Nat} (h : RL px M k a b) (hO : Out k' M M2) (hk : k ≠ k') (ha : a ≤ 16) (hb : b ≤ 16) : RL px M2 k a b := by
  intro i j hi hj
  have := h i j hi hj
  unfold lyr at *
  rw [hO _ (by omega)]
  exact this
theorem RL_half {ox M g g2 : Nat → Int32} {k a b : Nat} (hR : RL ox M (k + 1) a b) (ha : a ≤ 16) (hb : b ≤ 16) (e2 : ∀ x' y', x' < (a + 1) / 2 → y' < (b + 1) / 2 → g (16 * y' + x') = hl ox a b y' x') (f2 : ∀ x' y', x' < (a + 1) / 2 → y' < (b + 1) / 2 → g2 (16 * y' + x') = hl (lyr M (k + 1)) a b y' x') : RL g (fl M (256 * k) 0 256 g2) k ((a + 1) / 2) ((b + 1) / 2) := by
  intro i j hi hj
  rw [lyr_fl (by omega), e2 i j hi hj, f2 i j hi hj]
  exact ⟨hl_eq hR.eq j i, hl_bit _ _ _ _ _⟩
theorem w192 {N m : Nat} {W H gs code any' d p db sp' nd np ndb dc' ds tk nx ab : Int32} {pic qu gv M wd hg hf st' fv' dg' dr : Nat → Int32} (hm : m ≤ 900) : ∀ e j n file, j + e = m → e < n → q_Mod_write_192 (nI N) W H pic qu gv gs n (nI j) code (nI m) file any' d p db M wd hg hf st' fv' sp' nd np ndb dg' dc' dr ds tk nx ab = some (nI m, code, nI m, fl file 0 j m dr, any', d, p, db, M, wd, hg, hf, st', fv', sp', nd, np, ndb, dg', dc', dr, ds, tk, nx, ab) := by
  intro e
  induction e with
  | zero =>
    intro j n file hj hn
    obtain ⟨n, rfl⟩ : ∃ m, n = m + 1 := ⟨n - 1, by omega⟩
    obtain rfl : j = m := by omega
    rw [q_Mod_write_192, if_pos (nI_le (Nat.le_refl _) (by omega)), fl_nil]
  | succ e ih =>
    intro j n file hj hn
    obtain ⟨n, rfl⟩ : ∃ m, n = m + 1 := ⟨n - 1, by omega⟩
    rw [q_Mod_write_192, if_neg (nI_ge (show j < m by omega) (by omega)), if_pos (vpb_nI (show j < 900 by omega) (by omega)), if_pos (vpb_nI (show j < 900 by omega) (by omega)), nI_1, nI_clamp (by omega), ih (j + 1) n _ (by omega) (by omega)]
    have := fl_step file 0 j m dr (by omega)
    rw [Nat.zero_add] at this
    rw [this]
theorem w76 {N k : Nat} {W H gs code len any' d p db sp' nd np ndb dc' ds tk nx ab : Int32} {pic qu gv file wd hg hf st' fv' dg' dr : Nat → Int32} {rec : Int32 → Int32 → Int32 → (Nat → Int32) → Int32 → Int32 → Int32 → Int32 → (Nat → Int32) → (Nat → Int32) → (Nat → Int32) → (Nat → Int32) → (Nat → Int32) → (Nat → Int32) → Int32 → Int32 → Int32 → Int32 → (Nat → Int32) → Int32 → (Nat → Int32) → Int32 → Int32 → Int32 → Int32 → Option (Int32 × Int32 × Int32 × (Nat → Int32) × Int32 × Int32 × Int32 × Int32 × (Nat → Int32) × (Nat → Int32) × (Nat → Int32) × (Nat → Int32) × (Nat → Int32) × (Nat → Int32) × Int32 × Int32 × Int32 × Int32 × (Nat → Int32) × Int32 × (Nat → Int32) × Int32 × Int32 × Int32 × Int32)} (hk : k < 2) : ∀ e j n M, j + e = 256 → e < n → q_Mod_write_76 (nI N) W H pic qu gv gs rec n (nI (k + 1)) (nI j) code len file any' d p db M wd hg hf st' fv' sp' nd np ndb dg' dc' dr ds tk nx ab = rec (nI k) code len file any' d p db (fl M (256 * k) j 256 hf) wd hg hf st' fv' sp' nd np ndb dg' dc' dr ds tk nx ab := by
  intro e
  induction e with
  | zero =>
    intro j n M hj hn
    obtain ⟨n, rfl⟩ : ∃ m, n = m + 1 := ⟨n - 1, by omega⟩
    obtain rfl : j = 256 := by omega
    rw [q_Mod_write_76, if_pos (show (256 : Int32) ≤ nI 256 from nI_le (Nat.le_refl 256) (by omega)), fl_nil, pk_m1]
  | succ e ih =>
    intro j n M hj hn
    obtain ⟨n, rfl⟩ : ∃ m, n = m + 1 := ⟨n - 1, by omega⟩
    have hix : (((256 : Int32) * nI (k + 1)) - (256 : Int32)) + nI j = nI (256 * k + j) := by
      rw [show (256 : Int32) = nI 256 from rfl, pk_mul, pk_sub (by omega), nI_add, show 256 * (k + 1) - 256 + j = 256 * k + j by omega]
    rw [q_Mod_write_76, if_neg (show ¬ (256 : Int32) ≤ nI j from nI_ge (b := 256) (by omega) (by omega)), if_pos (vpb_nI (show j < 256 by omega) (by omega)), hix, if_pos (vpb_nI (show 256 * k + j < 768 by omega) (by omega)), nI_1, nI_clamp (by omega), nI_clamp (by omega), ih (j + 1) n _ (by omega) (by omega), fl_step _ _ _ _ _ (by omega)]
theorem wred {N k a b n : Nat} {W H gs code len any' d p db sp' nd np ndb dc' ds tk nx ab : Int32} {pic qu gv file M wd hg hf st' fv' dg' dr : Nat → Int32} {F : Nat} (hF : F = n + 1) (hk : k < 2) (hw : wd (k + 1) = nI a) (hh : hg (k + 1) = nI b) (a1 : 1 ≤ a) (b1 : 1 ≤ b) (ha : a ≤ 16) (hb : b ≤ 16) (hbit : ∀ i j, i < a → j < b → lyr M (k + 1) (16 * j + i) = 0 ∨ lyr M (k + 1) (16 * j + i) = 1) : ∃ g2, q_Mod_write_38 (nI N) W H pic qu gv gs F (nI (k + 1)) code len file any' d p db M wd hg hf st' fv' sp' nd np ndb dg' dc' dr ds tk nx ab = q_Mod_write_38 (nI N) W H pic qu gv gs n (nI k) code len file any' d p db (fl M (256 * k) 0 256 g2) (upd wd k (nI ((a + 1) / 2))) (upd hg k (nI ((b + 1) / 2))) g2 st' fv' sp' nd np ndb dg' dc' dr ds tk nx ab ∧ ∀ x' y', x' < (a + 1) / 2 → y' < (b + 1) / 2 → g2 (16 * y' + x') = hl (lyr M (k + 1)) a b y' x' := by
  subst hF
  obtain ⟨g2, f1, f2⟩ := half_m (hf := hf) (show k + 1 < 3 by omega) hw hh a1 b1 ha hb hbit
  refine ⟨g2, ?_, f2⟩
  rw [q_Mod_write_38, if_neg (nI_nle (by omega) (by omega)), f1, ob_s, if_pos (vpb_nI (show k + 1 < 3 by omega) (by omega)), if_pos (vpb_nI (show k + 1 < 3 by omega) (by omega)), nI_clamp (by omega), hw, hh, half_nI (by omega), half_nI (by omega), nI_pred, q_Mod_become, if_pos (vpb_nI (show k < 3 by omega) (by omega)), if_pos (vpb_nI (show k < 3 by omega) (by omega)), ob_s, nI_clamp (by omega), show (0 : Int32) = nI 0 from rfl]
  exact w76 hk 256 0 5000 M rfl (by omega)
def five (f : Nat → Int32) (x y n : Int32) : Nat → Int32 := upd (upd (upd (upd (upd f 0 74) 1 66) 2 x) 3 y) 4 n
theorem wput {N n : Nat} {W H gs code len any' d p db sp' nd np ndb dc' ds tk nx ab : Int32} {pic qu gv file M wd hg hf st' fv' dg' dr : Nat → Int32} {F : Nat} (hF : F = n + 1) : q_Mod_write_38 (nI N) W H pic qu gv gs F (nI 0) code len file any' d p db M wd hg hf st' fv' sp' nd np ndb dg' dc' dr ds tk nx ab = q_Mod_write_157 (nI N) W H pic qu gv gs 5000 (nI 0) code len file any' d p db M wd hg hf st' fv' sp' nd np ndb dg' dc' (five dr W H (nI N)) (nI 5) tk nx ab := by
  subst hF
  rw [q_Mod_write_38, if_pos (show nI 0 ≤ 0 from p00), show (0 : Int32) = nI 0 from rfl, put_in (by omega), ob_s, put_in (by omega), ob_s, put_in (by omega), ob_s, put_in (by omega), ob_s, put_in (by omega), ob_s]
  rfl
theorem RW_five {f dr : Nat → Int32} {x y n : Nat} (hx : x < 256) (hy : y < 256) (hn : n < 256) : RW (five f (nI x) (nI y) (nI n)) (five dr (nI x) (nI y) (nI n)) 5 :=
  RW_app (RW_app (RW_app (RW_app (m := 1) (b := 66) (RW_app (m := 0) (b := 74) (fun i hi => absurd hi (by omega)) (by omega)) (by omega)) hx) hy) hn
theorem cput {α : Type} {f : Nat → Int32} {len x y n : Int32} {G : (Nat → Int32) × Int32 → Option α} : ((q_Fil_keep (0 : Int32) len).bind fun z17 => ((q_Fil_append (74 : Int32) f z17).bind fun z18 => ((q_Fil_append (66 : Int32) z18.1 z18.2).bind fun z19 => ((q_Fil_append x z19.1 z19.2).bind fun z20 => ((q_Fil_append y z20.1 z20.2).bind fun z21 => ((q_Fil_append n z21.1 z21.2).bind G)))))) = G (five f x y n, nI 5) := by
  rw [q_Fil_keep, ob_s, show (0 : Int32) = nI 0 from rfl, app_in (by omega), ob_s, app_in (by omega), ob_s, app_in (by omega), ob_s, app_in (by omega), ob_s, app_in (by omega), ob_s]
  rfl
theorem wst_0 {N a b a' b' A T m n n' F F' : Nat} {pw ph any pr vw vh ww wh sp dec dbl dc : Int32} {pp f u v w st fv dg : Nat → Int32} {W H gs code len any' d p db sp' nd np ndb dc' tk nx ab : Int32} {pic qu gv file M wd hg hf st' fv' dg' dr : Nat → Int32} (hF : F = n + 1) (hF' : F' = n' + 1) (hN : 0 < N) (hN3 : N ≤ 3) (hL : LZ 0 a b a' b' vw vh wd hg) (hq : RQ qu) (hR : LQ 0 a b a' b' u v M) (hA : a ≤ A) (hB : b ≤ A) (hT : 16 + (9 * A + 9) * A ≤ 8 * T) (hT2 : T ≤ 308) (hm : m + 2 * T + 2 ≤ 900) (hW : RW f dr m) : ∃ pl2 px2 M2 st2 fv2 st2' fv2' sp2 dec2 dbl2 g g' d2 f2 dr2 m2, q_Top_write_94 (nI N) pp pw ph F (0 : Int32) any f (nI m) pr u (nI a) (nI b) v vw vh w ww wh st fv sp dec dbl dg dc = q_Top_write_94 (nI N) pp pw ph n (1 : Int32) any f2 (nI m2) pl2 px2 (nI a) (nI b) v vw vh w ww wh st2 fv2 sp2 dec2 dbl2 g (nI d2) ∧ q_Mod_write_157 (nI N) W H pic qu gv gs F' (nI 0) code len file any' d p db M wd hg hf st' fv' sp' nd np ndb dg' dc' dr (nI m) tk nx ab = q_Mod_write_157 (nI N) W H pic qu gv gs n' (nI 1) code len file any' d p db M2 wd hg hf st2' fv2' sp2 dec2 pl2 dbl2 g' (nI d2) dr2 (nI m2) 0 0 0 ∧ LQ 0 a b a' b' px2 v M2 ∧ Out 0 M M2 ∧ RW f2 dr2 m2 ∧ m2 ≤ m + 2 * T + 2 := by
  subst hF hF'
  obtain ⟨pl2, px2, M2, st2, fv2, st2', fv2', sp2, dec2, dbl2, g, g', d2, e1, e2, e3, e4, e5, e6, e7⟩ := layer_M (A := A) (gs := gs) (nx := nx) (ab := ab) (pr := pr) (pr' := np) (dec := dec) (dec' := nd) (dbl := dbl) (dbl' := ndb) (sp := sp) (sp' := sp') (dc' := dc') (tk' := tk) (gv := gv) (st := st) (fv := fv) (st' := st') (fv' := fv') (dg := dg) (dg' := dg') hL hq hR hA hB (by omega)
  obtain ⟨f2, dr2, m2, o1, o2, o3, o4⟩ := out_eq (T := T) e7 (by omega) (by omega) (by omega) hm hW
  refine ⟨pl2, px2, M2, st2, fv2, st2', fv2', sp2, dec2, dbl2, g, g', d2, f2, dr2, m2, ?_, ?_, e3, e4, o3, o4⟩
  · rw [show nI 0 = (0 : Int32) from rfl] at e1
    rw [q_Top_write_94, if_neg (show ¬ nI N ≤ (0 : Int32) from nI_ge (a := 0) hN (by omega)), if_pos rfl, mad_begin, ob_s, e1, ob_s, o1]
  · rw [q_Mod_write_157, if_neg (nI_ge hN (by omega)), e2, ob_s, o2, ob_s, nI_1]
theorem wst_1 {N a b a' b' A T m n n' F F' : Nat} {pw ph any pr uw uh ww wh sp dec dbl dc : Int32} {pp f u v w st fv dg : Nat → Int32} {W H gs code len any' d p db sp' nd np ndb dc' tk nx ab : Int32} {pic qu gv file M wd hg hf st' fv' dg' dr : Nat → Int32} (hF : F = n + 1) (hF' : F' = n' + 1) (hN : 1 < N) (hN3 : N ≤ 3) (hL : LZ 1 a b a' b' uw uh wd hg) (hq : RQ qu) (hR : LQ 1 a b a' b' v u M) (hA : a ≤ A) (hB : b ≤ A) (hT : 16 + (9 * A + 9) * A ≤ 8 * T) (hT2 : T ≤ 308) (hm : m + 2 * T + 2 ≤ 900) (hW : RW f dr m) : ∃ pl2 px2 M2 st2 fv2 st2' fv2' sp2 dec2 dbl2 g g' d2 f2 dr2 m2, q_Top_write_94 (nI N) pp pw ph F (1 : Int32) any f (nI m) pr u uw uh v (nI a) (nI b) w ww wh st fv sp dec dbl dg dc = q_Top_write_94 (nI N) pp pw ph n (2 : Int32) any f2 (nI m2) pl2 u uw uh px2 (nI a) (nI b) w ww wh st2 fv2 sp2 dec2 dbl2 g (nI d2) ∧ q_Mod_write_157 (nI N) W H pic qu gv gs F' (nI 1) code len file any' d p db M wd hg hf st' fv' sp' nd np ndb dg' dc' dr (nI m) tk nx ab = q_Mod_write_157 (nI N) W H pic qu gv gs n' (nI 2) code len file any' d p db M2 wd hg hf st2' fv2' sp2 dec2 pl2 dbl2 g' (nI d2) dr2 (nI m2) 0 0 0 ∧ LQ 1 a b a' b' px2 u M2 ∧ Out 1 M M2 ∧ RW f2 dr2 m2 ∧ m2 ≤ m + 2 * T + 2 := by
  subst hF hF'
  obtain ⟨pl2, px2, M2, st2, fv2, st2', fv2', sp2, dec2, dbl2, g, g', d2, e1, e2, e3, e4, e5, e6, e7⟩ := layer_M (A := A) (gs := gs) (nx := nx) (ab := ab) (pr := pr) (pr' := np) (dec := dec) (dec' := nd) (dbl := dbl) (dbl' := ndb) (sp := sp) (sp' := sp') (dc' := dc') (tk' := tk) (gv := gv) (st := st) (fv := fv) (st' := st') (fv' := fv') (dg := dg) (dg' := dg') hL hq hR hA hB (by omega)
  obtain ⟨f2, dr2, m2, o1, o2, o3, o4⟩ := out_eq (T := T) e7 (by omega) (by omega) (by omega) hm hW
  refine ⟨pl2, px2, M2, st2, fv2, st2', fv2', sp2, dec2, dbl2, g, g', d2, f2, dr2, m2, ?_, ?_, e3, e4, o3, o4⟩
  · rw [show nI 1 = (1 : Int32) from rfl] at e1
    rw [q_Top_write_94, if_neg (show ¬ nI N ≤ (1 : Int32) from nI_ge (a := 1) hN (by omega)), if_neg n10, if_pos rfl, mad_begin, ob_s, e1, ob_s, o1]
  · rw [q_Mod_write_157, if_neg (nI_ge hN (by omega)), e2, ob_s, o2, ob_s, nI_1]
theorem n21 : ¬ ((2 : Int32) = 1) := by decide
theorem wst_2 {N a b a' b' A T m n n' F F' : Nat} {pw ph any pr uw uh vw vh sp dec dbl dc : Int32} {pp f u v w st fv dg : Nat → Int32} {W H gs code len any' d p db sp' nd np ndb dc' tk nx ab : Int32} {pic qu gv file M wd hg hf st' fv' dg' dr : Nat → Int32} (hF : F = n + 1) (hF' : F' = n' + 1) (hN : 2 < N) (hN3 : N ≤ 3) (hL : LZ 2 a b a' b' vw vh wd hg) (hq : RQ qu) (hR : LQ 2 a b a' b' w v M) (hA : a ≤ A) (hB : b ≤ A) (hT : 16 + (9 * A + 9) * A ≤ 8 * T) (hT2 : T ≤ 308) (hm : m + 2 * T + 2 ≤ 900) (hW : RW f dr m) : ∃ pl2 px2 M2 st2 fv2 st2' fv2' sp2 dec2 dbl2 g g' d2 f2 dr2 m2, q_Top_write_94 (nI N) pp pw ph F (2 : Int32) any f (nI m) pr u uw uh v vw vh w (nI a) (nI b) st fv sp dec dbl dg dc = q_Top_write_94 (nI N) pp pw ph n (3 : Int32) any f2 (nI m2) pl2 u uw uh v vw vh px2 (nI a) (nI b) st2 fv2 sp2 dec2 dbl2 g (nI d2) ∧ q_Mod_write_157 (nI N) W H pic qu gv gs F' (nI 2) code len file any' d p db M wd hg hf st' fv' sp' nd np ndb dg' dc' dr (nI m) tk nx ab = q_Mod_write_157 (nI N) W H pic qu gv gs n' (nI 3) code len file any' d p db M2 wd hg hf st2' fv2' sp2 dec2 pl2 dbl2 g' (nI d2) dr2 (nI m2) 0 0 0 ∧ LQ 2 a b a' b' px2 v M2 ∧ Out 2 M M2 ∧ RW f2 dr2 m2 ∧ m2 ≤ m + 2 * T + 2 := by
  subst hF hF'
  obtain ⟨pl2, px2, M2, st2, fv2, st2', fv2', sp2, dec2, dbl2, g, g', d2, e1, e2, e3, e4, e5, e6, e7⟩ := layer_M (A := A) (gs := gs) (nx := nx) (ab := ab) (pr := pr) (pr' := np) (dec := dec) (dec' := nd) (dbl := dbl) (dbl' := ndb) (sp := sp) (sp' := sp') (dc' := dc') (tk' := tk) (gv := gv) (st := st) (fv := fv) (st' := st') (fv' := fv') (dg := dg) (dg' := dg') hL hq hR hA hB (by omega)
  obtain ⟨f2, dr2, m2, o1, o2, o3, o4⟩ := out_eq (T := T) e7 (by omega) (by omega) (by omega) hm hW
  refine ⟨pl2, px2, M2, st2, fv2, st2', fv2', sp2, dec2, dbl2, g, g', d2, f2, dr2, m2, ?_, ?_, e3, e4, o3, o4⟩
  · rw [show nI 2 = (2 : Int32) from rfl] at e1
    rw [q_Top_write_94, if_neg (show ¬ nI N ≤ (2 : Int32) from nI_ge (a := 2) hN (by omega)), if_neg n20, if_neg n21, if_pos rfl, mad_begin, ob_s, e1, ob_s, o1]
  · rw [q_Mod_write_157, if_neg (nI_ge hN (by omega)), e2, ob_s, o2, ob_s, nI_1]
theorem wend_c {N m n F : Nat} {x2 pw ph any pr uw uh vw vh ww wh sp dec dbl dc : Int32} {pp f u v w st fv dg : Nat → Int32} (hF : F = n + 1) (h : x2 = nI N) : q_Top_write_94 (nI N) pp pw ph F x2 any f (nI m) pr u uw uh v vw vh w ww wh st fv sp dec dbl dg dc = some (nI m, 1, f, nI m, pr, u, uw, uh, v, vw, vh, w, ww, wh, st, fv, sp, dec, dbl, dg, dc) := by
  subst hF h
  rw [q_Top_write_94, if_pos (Int32.le_refl _)]
theorem wend_m {N m n F : Nat} {W H gs code len any' d p db sp' nd np ndb dc' tk nx ab : Int32} {pic qu gv file M wd hg hf st' fv' dg' dr : Nat → Int32} (hF : F = n + 1) (hm : m ≤ 900) : q_Mod_write_157 (nI N) W H pic qu gv gs F (nI N) code len file any' d p db M wd hg hf st' fv' sp' nd np ndb dg' dc' dr (nI m) tk nx ab = some (nI m, code, nI m, fl file 0 0 m dr, 1, nd, np, ndb, M, wd, hg, hf, st', fv', sp', nd, np, ndb, dg', dc', dr, nI m, tk, nx, ab) := by
  subst hF
  rw [q_Mod_write_157, if_pos (Int32.le_refl _), q_Mod_note, ob_s]
  exact w192 hm m 0 5000 file (by omega) (by omega)
theorem RF_end {f dr file : Nat → Int32} {m : Nat} (hm : m ≤ 900) (h : RW f dr m) : RF f (nI m) (fl file 0 0 m dr) (nI m) := ⟨m, hm, rfl, rfl, fun i hi => by
  rw [fl_in0 _ _ _ _ (by omega) hi]
  exact h i hi⟩
