/-! read, as the law calls it; the loop -/
abbrev RQT : Type := Int32 × Int32 × (Nat → Int32) × Int32 × Int32 × (Nat → Int32) × (Nat → Int32) × Int32 × Int32 × Int32 × Int32 × Int32 × (Nat → Int32) × Int32 × Int32 × (Nat → Int32) × Int32 × Int32 × (Nat → Int32) × Int32 × Int32 × (Nat → Int32) × (Nat → Int32) × Int32 × Int32 × Int32 × (Nat → Int32) × Int32 × Int32 × Int32 × (Nat → Int64)
theorem lr_ok {ly len_ any pw ph fw fh fc fp pr uw uh vw vh ww wh sp dec dbl kc kn kr : Int32} {by_ px fs fe u v w st fv kb : Nat → Int32} {o : Nat → Int64} {z : RCT} (h : q_Top_read ly any px pw ph by_ fs fe len_ fw fh fc fp pr u uw uh v vw vh w ww wh st fv sp dec dbl kb kc kn kr = some z) : qq_Law_read ly any px pw ph by_ fs fe len_ fw fh fc fp pr u uw uh v vw vh w ww wh st fv sp dec dbl kb kc kn kr o = some (0, z.2.1, z.2.2.1, z.2.2.2.1, z.2.2.2.2.1, z.2.2.2.2.2.1, z.2.2.2.2.2.2.1, z.2.2.2.2.2.2.2.1, z.2.2.2.2.2.2.2.2.1, z.2.2.2.2.2.2.2.2.2.1, z.2.2.2.2.2.2.2.2.2.2.1, z.2.2.2.2.2.2.2.2.2.2.2.1, z.2.2.2.2.2.2.2.2.2.2.2.2.1, z.2.2.2.2.2.2.2.2.2.2.2.2.2.1, z.2.2.2.2.2.2.2.2.2.2.2.2.2.2.1, z.2.2.2.2.2.2.2.2.2.2.2.2.2.2.2.1, z.2.2.2.2.2.2.2.2.2.2.2.2.2.2.2.2.1, z.2.2.2.2.2.2.2.2.2.2.2.2.2.2.2.2.2.1, z.2.2.2.2.2.2.2.2.2.2.2.2.2.2.2.2.2.2.1, z.2.2.2.2.2.2.2.2.2.2.2.2.2.2.2.2.2.2.2.1, z.2.2.2.2.2.2.2.2.2.2.2.2.2.2.2.2.2.2.2.2.1, z.2.2.2.2.2.2.2.2.2.2.2.2.2.2.2.2.2.2.2.2.2.1, z.2.2.2.2.2.2.2.2.2.2.2.2.2.2.2.2.2.2.2.2.2.2.1, z.2.2.2.2.2.2.2.2.2.2.2.2.2.2.2.2.2.2.2.2.2.2.2.1, z.2.2.2.2.2.2.2.2.2.2.2.2.2.2.2.2.2.2.2.2.2.2.2.2.1, z.2.2.2.2.2.2.2.2.2.2.2.2.2.2.2.2.2.2.2.2.2.2.2.2.2.1, z.2.2.2.2.2.2.2.2.2.2.2.2.2.2.2.2.2.2.2.2.2.2.2.2.2.2.1, z.2.2.2.2.2.2.2.2.2.2.2.2.2.2.2.2.2.2.2.2.2.2.2.2.2.2.2.1, z.2.2.2.2.2.2.2.2.2.2.2.2.2.2.2.2.2.2.2.2.2.2.2.2.2.2.2.2.1, z.2.2.2.2.2.2.2.2.2.2.2.2.2.2.2.2.2.2.2.2.2.2.2.2.2.2.2.2.2, vp_updL o 0 z.1.toInt64) := by
  rw [qq_Law_read, q_Law_read, h, ob_s, or_s]
  rfl
theorem read_eq (ly : Int32) {len_ any pw ph fw fh fc fp pr uw uh vw vh ww wh sp dec dbl kc kn kr : Int32} {by_ px fs fe u v w st fv kb : Nat → Int32} {mlen code W H any' d p db sp' nd np ndb dc' tk gs nx ab lcm nw nh : Int32} {file qu pic M wd hg st' fv' dg' gv bg : Nat → Int32} {o : Nat → Int64} (hr : RP px pw ph pic W H) (hq : RQ qu) (hf : RF by_ len_ file mlen) (ht : RT any pr dec dbl any' d p db) : ∃ (z : RQT) (y : RMT), qq_Law_read ly any px pw ph by_ fs fe len_ fw fh fc fp pr u uw uh v vw vh w ww wh st fv sp dec dbl kb kc kn kr o = some z ∧ q_Mod_read ly code W H pic mlen file any' d p db M wd hg st' fv' qu sp' nd np ndb dg' dc' tk gv gs nx ab bg lcm nw nh = some y ∧ y.2.1 = z.1 ∧ (z.1 = 0 → z.2.2.2.2.2.2.2.2.2.2.2.2.2.2.2.2.2.2.2.2.2.2.2.2.2.2.2.2.2.2 0 = y.1.toInt64) ∧ RP z.2.2.1 z.2.2.2.1 z.2.2.2.2.1 y.2.2.2.2.1 y.2.2.1 y.2.2.2.1 ∧ RT z.2.1 z.2.2.2.2.2.2.2.2.2.2.2.1 z.2.2.2.2.2.2.2.2.2.2.2.2.2.2.2.2.2.2.2.2.2.2.2.2.1 z.2.2.2.2.2.2.2.2.2.2.2.2.2.2.2.2.2.2.2.2.2.2.2.2.2.1 y.2.2.2.2.2.1 y.2.2.2.2.2.2.1 y.2.2.2.2.2.2.2.1 y.2.2.2.2.2.2.2.2.1 := by
  obtain ⟨n, hn, rfl, rfl, hb⟩ := hf
  obtain ⟨B, hB⟩ := BB_of hn hb
  have go : ∀ (z : RCT) (y : RMT), q_Top_read ly any px pw ph by_ fs fe (nI n) fw fh fc fp pr u uw uh v vw vh w ww wh st fv sp dec dbl kb kc kn kr = some z → q_Mod_read ly code W H pic (nI n) file any' d p db M wd hg st' fv' qu sp' nd np ndb dg' dc' tk gv gs nx ab bg lcm nw nh = some y → ROK z y → ∃ (z : RQT) (y : RMT), qq_Law_read ly any px pw ph by_ fs fe (nI n) fw fh fc fp pr u uw uh v vw vh w ww wh st fv sp dec dbl kb kc kn kr o = some z ∧ q_Mod_read ly code W H pic (nI n) file any' d p db M wd hg st' fv' qu sp' nd np ndb dg' dc' tk gv gs nx ab bg lcm nw nh = some y ∧ y.2.1 = z.1 ∧ (z.1 = 0 → z.2.2.2.2.2.2.2.2.2.2.2.2.2.2.2.2.2.2.2.2.2.2.2.2.2.2.2.2.2.2 0 = y.1.toInt64) ∧ RP z.2.2.1 z.2.2.2.1 z.2.2.2.2.1 y.2.2.2.2.1 y.2.2.1 y.2.2.2.1 ∧ RT z.2.1 z.2.2.2.2.2.2.2.2.2.2.2.1 z.2.2.2.2.2.2.2.2.2.2.2.2.2.2.2.2.2.2.2.2.2.2.2.2.1 z.2.2.2.2.2.2.2.2.2.2.2.2.2.2.2.2.2.2.2.2.2.2.2.2.2.1 y.2.2.2.2.2.1 y.2.2.2.2.2.2.1 y.2.2.2.2.2.2.2.1 y.2.2.2.2.2.2.2.2.1 := by
    intro z y h1 h2 ⟨k1, k2, k3, k4⟩
    exact ⟨_, _, lr_ok h1, h2, k1, fun _ => by rw [← k2]; exact vpL_same o 0 z.1.toInt64, k3, k4⟩
  by_cases h0 : 0 ≤ ly
  · rcases look_eq (st := fs) (en := fe) (bg := bg) (fw := fw) (fh := fh) (fc := fc) (fp := fp) (lcm := lcm) (nw := nw) (nh := nh) hB with ⟨j, fs2, fe2, w2, h2, l2, p2, bg2, l3, w3, h3, hj, e1, e2⟩ | ⟨NW, NH, lc, fs2, fe2, bg2, p2, a1, a2, b1, b2, c1, c2, e1, e2, hS⟩
    · have hne : ¬ nI j = (-1 : Int32) := fun e => nI_pos (n := j) (by omega) (by rw [e]; decide)
      refine go (nI j, any, px, pw, ph, fs2, fe2, w2, h2, l2, p2, pr, u, uw, uh, v, vw, vh, w, ww, wh, st, fv, sp, dec, dbl, kb, kc, kn, kr) (nI j, 0, W, H, pic, any', d, p, db, M, wd, hg, st', fv', sp', nd, np, ndb, dg', dc', tk, gv, gs, nx, ab, bg2, l3, w3, h3) ?_ ?_ ⟨rfl, rfl, hr, ht⟩
      · rw [q_Top_read, if_pos h0, e1, ob_s, if_neg (show ¬ (nI j, fs2, fe2, w2, h2, l2, p2).1 = (-1 : Int32) from hne)]
      · rw [q_Mod_read, if_pos h0, q_Mod_read_10, if_pos p00, e2, ob_s, if_neg (show ¬ (nI j, bg2, l3, w3, h3).1 = (-1 : Int32) from hne)]
    · obtain ⟨l, hl, rfl⟩ := nI_of (x := ly) (Int32.not_lt.mpr h0)
      by_cases hlc : l < lc
      · have hlt : nI l < nI lc := nI_lt hlc (by omega)
        rcases (show (lc = 1 ∧ l = 0) ∨ (lc = 2 ∧ l = 0) ∨ (lc = 2 ∧ l = 1) ∨ (lc = 3 ∧ l = 0) ∨ (lc = 3 ∧ l = 1) ∨ (lc = 3 ∧ l = 2) by omega) with ⟨rfl, rfl⟩ | ⟨rfl, rfl⟩ | ⟨rfl, rfl⟩ | ⟨rfl, rfl⟩ | ⟨rfl, rfl⟩ | ⟨rfl, rfl⟩
        · obtain ⟨z, y, r1, r2, r3⟩ := rd_1_0 (NW := NW) (NH := NH) (any := any) (px := px) (pw := pw) (ph := ph) (fw := nI NW) (fh := nI NH) (fc := nI 1) (fp := p2) (pr := pr) (u := u) (uw := uw) (uh := uh) (v := v) (vw := vw) (vh := vh) (w := w) (ww := ww) (wh := wh) (st := st) (fv := fv) (sp := sp) (dec := dec) (dbl := dbl) (kb := kb) (kc := kc) (kn := kn) (kr := kr) (W := W) (H := H) (pic := pic) (any' := any') (d := d) (p := p) (db := db) (M := M) (wd := wd) (hg := hg) (st' := st') (fv' := fv') (sp' := sp') (nd := nd) (np := np) (ndb := ndb) (dg' := dg') (dc' := dc') (tk := tk) (gv := gv) (gs := gs) (nx := nx) (ab := ab) hB hS a1 a2 b1 b2 hq
          refine go z y ?_ ?_ r3
          · rw [q_Top_read, if_pos h0, e1, ob_s, if_pos (show ((-1 : Int32), fs2, fe2, nI NW, nI NH, nI 1, p2).1 = (-1 : Int32) from rfl), if_pos (show nI 0 < ((-1 : Int32), fs2, fe2, nI NW, nI NH, nI 1, p2).2.2.2.2.2.1 from hlt), blank_1 a2 b2, ob_s]
            exact r1
          · rw [q_Mod_read, if_pos h0, q_Mod_read_10, if_pos p00, e2, ob_s, if_pos (show ((-1 : Int32), bg2, nI 1, nI NW, nI NH).1 = (-1 : Int32) from rfl), if_pos (show nI 0 < ((-1 : Int32), bg2, nI 1, nI NW, nI NH).2.2.1 from hlt), q_Mod_read_48, if_pos p00]
            exact r2
        · obtain ⟨z, y, r1, r2, r3⟩ := rd_2_0 (NW := NW) (NH := NH) (any := any) (px := px) (pw := pw) (ph := ph) (fw := nI NW) (fh := nI NH) (fc := nI 2) (fp := p2) (pr := pr) (u := u) (uw := uw) (uh := uh) (v := v) (vw := vw) (vh := vh) (w := w) (ww := ww) (wh := wh) (st := st) (fv := fv) (sp := sp) (dec := dec) (dbl := dbl) (kb := kb) (kc := kc) (kn := kn) (kr := kr) (W := W) (H := H) (pic := pic) (any' := any') (d := d) (p := p) (db := db) (M := M) (wd := wd) (hg := hg) (st' := st') (fv' := fv') (sp' := sp') (nd := nd) (np := np) (ndb := ndb) (dg' := dg') (dc' := dc') (tk := tk) (gv := gv) (gs := gs) (nx := nx) (ab := ab) hB hS a1 a2 b1 b2 hq
          refine go z y ?_ ?_ r3
          · rw [q_Top_read, if_pos h0, e1, ob_s, if_pos (show ((-1 : Int32), fs2, fe2, nI NW, nI NH, nI 2, p2).1 = (-1 : Int32) from rfl), if_pos (show nI 0 < ((-1 : Int32), fs2, fe2, nI NW, nI NH, nI 2, p2).2.2.2.2.2.1 from hlt), blank_2 a2 b2, ob_s]
            exact r1
          · rw [q_Mod_read, if_pos h0, q_Mod_read_10, if_pos p00, e2, ob_s, if_pos (show ((-1 : Int32), bg2, nI 2, nI NW, nI NH).1 = (-1 : Int32) from rfl), if_pos (show nI 0 < ((-1 : Int32), bg2, nI 2, nI NW, nI NH).2.2.1 from hlt), q_Mod_read_48, if_pos p00]
            exact r2
        · obtain ⟨z, y, r1, r2, r3⟩ := rd_2_1 (NW := NW) (NH := NH) (any := any) (px := px) (pw := pw) (ph := ph) (fw := nI NW) (fh := nI NH) (fc := nI 2) (fp := p2) (pr := pr) (u := u) (uw := uw) (uh := uh) (v := v) (vw := vw) (vh := vh) (w := w) (ww := ww) (wh := wh) (st := st) (fv := fv) (sp := sp) (dec := dec) (dbl := dbl) (kb := kb) (kc := kc) (kn := kn) (kr := kr) (W := W) (H := H) (pic := pic) (any' := any') (d := d) (p := p) (db := db) (M := M) (wd := wd) (hg := hg) (st' := st') (fv' := fv') (sp' := sp') (nd := nd) (np := np) (ndb := ndb) (dg' := dg') (dc' := dc') (tk := tk) (gv := gv) (gs := gs) (nx := nx) (ab := ab) hB hS a1 a2 b1 b2 hq
          refine go z y ?_ ?_ r3
          · rw [q_Top_read, if_pos h0, e1, ob_s, if_pos (show ((-1 : Int32), fs2, fe2, nI NW, nI NH, nI 2, p2).1 = (-1 : Int32) from rfl), if_pos (show nI 1 < ((-1 : Int32), fs2, fe2, nI NW, nI NH, nI 2, p2).2.2.2.2.2.1 from hlt), blank_2 a2 b2, ob_s]
            exact r1
          · rw [q_Mod_read, if_pos h0, q_Mod_read_10, if_pos p00, e2, ob_s, if_pos (show ((-1 : Int32), bg2, nI 2, nI NW, nI NH).1 = (-1 : Int32) from rfl), if_pos (show nI 1 < ((-1 : Int32), bg2, nI 2, nI NW, nI NH).2.2.1 from hlt), q_Mod_read_48, if_pos p00]
            exact r2
        · obtain ⟨z, y, r1, r2, r3⟩ := rd_3_0 (NW := NW) (NH := NH) (any := any) (px := px) (pw := pw) (ph := ph) (fw := nI NW) (fh := nI NH) (fc := nI 3) (fp := p2) (pr := pr) (u := u) (uw := uw) (uh := uh) (v := v) (vw := vw) (vh := vh) (w := w) (ww := ww) (wh := wh) (st := st) (fv := fv) (sp := sp) (dec := dec) (dbl := dbl) (kb := kb) (kc := kc) (kn := kn) (kr := kr) (W := W) (H := H) (pic := pic) (any' := any') (d := d) (p := p) (db := db) (M := M) (wd := wd) (hg := hg) (st' := st') (fv' := fv') (sp' := sp') (nd := nd) (np := np) (ndb := ndb) (dg' := dg') (dc' := dc') (tk := tk) (gv := gv) (gs := gs) (nx := nx) (ab := ab) hB hS a1 a2 b1 b2 hq
          refine go z y ?_ ?_ r3
          · rw [q_Top_read, if_pos h0, e1, ob_s, if_pos (show ((-1 : Int32), fs2, fe2, nI NW, nI NH, nI 3, p2).1 = (-1 : Int32) from rfl), if_pos (show nI 0 < ((-1 : Int32), fs2, fe2, nI NW, nI NH, nI 3, p2).2.2.2.2.2.1 from hlt), blank_3 a2 b2, ob_s]
            exact r1
          · rw [q_Mod_read, if_pos h0, q_Mod_read_10, if_pos p00, e2, ob_s, if_pos (show ((-1 : Int32), bg2, nI 3, nI NW, nI NH).1 = (-1 : Int32) from rfl), if_pos (show nI 0 < ((-1 : Int32), bg2, nI 3, nI NW, nI NH).2.2.1 from hlt), q_Mod_read_48, if_pos p00]
            exact r2
        · obtain ⟨z, y, r1, r2, r3⟩ := rd_3_1 (NW := NW) (NH := NH) (any := any) (px := px) (pw := pw) (ph := ph) (fw := nI NW) (fh := nI NH) (fc := nI 3) (fp := p2) (pr := pr) (u := u) (uw := uw) (uh := uh) (v := v) (vw := vw) (vh := vh) (w := w) (ww := ww) (wh := wh) (st := st) (fv := fv) (sp := sp) (dec := dec) (dbl := dbl) (kb := kb) (kc := kc) (kn := kn) (kr := kr) (W := W) (H := H) (pic := pic) (any' := any') (d := d) (p := p) (db := db) (M := M) (wd := wd) (hg := hg) (st' := st') (fv' := fv') (sp' := sp') (nd := nd) (np := np) (ndb := ndb) (dg' := dg') (dc' := dc') (tk := tk) (gv := gv) (gs := gs) (nx := nx) (ab := ab) hB hS a1 a2 b1 b2 hq
          refine go z y ?_ ?_ r3
          · rw [q_Top_read, if_pos h0, e1, ob_s, if_pos (show ((-1 : Int32), fs2, fe2, nI NW, nI NH, nI 3, p2).1 = (-1 : Int32) from rfl), if_pos (show nI 1 < ((-1 : Int32), fs2, fe2, nI NW, nI NH, nI 3, p2).2.2.2.2.2.1 from hlt), blank_3 a2 b2, ob_s]
            exact r1
          · rw [q_Mod_read, if_pos h0, q_Mod_read_10, if_pos p00, e2, ob_s, if_pos (show ((-1 : Int32), bg2, nI 3, nI NW, nI NH).1 = (-1 : Int32) from rfl), if_pos (show nI 1 < ((-1 : Int32), bg2, nI 3, nI NW, nI NH).2.2.1 from hlt), q_Mod_read_48, if_pos p00]
            exact r2
        · obtain ⟨z, y, r1, r2, r3⟩ := rd_3_2 (NW := NW) (NH := NH) (any := any) (px := px) (pw := pw) (ph := ph) (fw := nI NW) (fh := nI NH) (fc := nI 3) (fp := p2) (pr := pr) (u := u) (uw := uw) (uh := uh) (v := v) (vw := vw) (vh := vh) (w := w) (ww := ww) (wh := wh) (st := st) (fv := fv) (sp := sp) (dec := dec) (dbl := dbl) (kb := kb) (kc := kc) (kn := kn) (kr := kr) (W := W) (H := H) (pic := pic) (any' := any') (d := d) (p := p) (db := db) (M := M) (wd := wd) (hg := hg) (st' := st') (fv' := fv') (sp' := sp') (nd := nd) (np := np) (ndb := ndb) (dg' := dg') (dc' := dc') (tk := tk) (gv := gv) (gs := gs) (nx := nx) (ab := ab) hB hS a1 a2 b1 b2 hq
          refine go z y ?_ ?_ r3
          · rw [q_Top_read, if_pos h0, e1, ob_s, if_pos (show ((-1 : Int32), fs2, fe2, nI NW, nI NH, nI 3, p2).1 = (-1 : Int32) from rfl), if_pos (show nI 2 < ((-1 : Int32), fs2, fe2, nI NW, nI NH, nI 3, p2).2.2.2.2.2.1 from hlt), blank_3 a2 b2, ob_s]
            exact r1
          · rw [q_Mod_read, if_pos h0, q_Mod_read_10, if_pos p00, e2, ob_s, if_pos (show ((-1 : Int32), bg2, nI 3, nI NW, nI NH).1 = (-1 : Int32) from rfl), if_pos (show nI 2 < ((-1 : Int32), bg2, nI 3, nI NW, nI NH).2.2.1 from hlt), q_Mod_read_48, if_pos p00]
            exact r2
      · have hlt : ¬ nI l < nI lc := nI_nlt (by omega) (by omega)
        have g1 : ((-1 : Int32), fs2, fe2, nI NW, nI NH, nI lc, p2).1 = (-1 : Int32) := rfl
        have g2 : ¬ nI l < ((-1 : Int32), fs2, fe2, nI NW, nI NH, nI lc, p2).2.2.2.2.2.1 := hlt
        refine ⟨(2, any, px, pw, ph, fs2, fe2, nI NW, nI NH, nI lc, p2, pr, u, uw, uh, v, vw, vh, w, ww, wh, st, fv, sp, dec, dbl, kb, kc, kn, kr, o), (0, 2, W, H, pic, any', d, p, db, M, wd, hg, st', fv', sp', nd, np, ndb, dg', dc', tk, gv, gs, nx, ab, bg2, nI lc, nI NW, nI NH), ?_, ?_, rfl, fun h => absurd h n20, hr, ht⟩
        · rw [qq_Law_read, q_Law_read, q_Top_read, if_pos h0, e1, ob_s, if_pos g1, if_neg g2, bn, or_n, q_Law_read_A, q_Top_read_A, if_pos h0, e1, ob_s, if_pos g1, if_neg g2, bn, or_n, q_Law_read_S, q_Top_read_S, if_pos h0, e1, ob_s, if_pos g1, if_neg g2, ob_s]
        · rw [q_Mod_read, if_pos h0, q_Mod_read_10, if_pos p00, e2, ob_s, if_pos (show ((-1 : Int32), bg2, nI lc, nI NW, nI NH).1 = (-1 : Int32) from rfl), if_neg (show ¬ nI l < ((-1 : Int32), bg2, nI lc, nI NW, nI NH).2.2.1 from hlt), q_Mod_read_48, if_neg n2l]
  · refine ⟨(1, any, px, pw, ph, fs, fe, fw, fh, fc, fp, pr, u, uw, uh, v, vw, vh, w, ww, wh, st, fv, sp, dec, dbl, kb, kc, kn, kr, o), (0, 1, W, H, pic, any', d, p, db, M, wd, hg, st', fv', sp', nd, np, ndb, dg', dc', tk, gv, gs, nx, ab, bg, lcm, nw, nh), ?_, ?_, rfl, fun h => absurd h n10, hr, ht⟩
    · rw [qq_Law_read, q_Law_read, q_Top_read, if_neg h0, bn, or_n, q_Law_read_A, q_Top_read_A, if_neg h0, ob_s, or_s]
    · rw [q_Mod_read, if_neg h0, q_Mod_read_10, if_neg n1l]
theorem case_8 {xs : Nat → Int32} {L : Nat} {x4 : Int32} {x : XS} {y : MS} {o : Nat → Int64} (h : Rel x y) (i1 : vpb (x4 + (1 : Int32)) L = true) : Keeps1 (q_lawcase_8 xs L x4 x y o) := by
  obtain ⟨hp, hf, ht, hq⟩ := h
  obtain ⟨z, w, e1, e2, e3, e4, e5, e6⟩ := read_eq (xs (x4 + (1 : Int32)).toNatClampNeg) (any := x.1) (px := x.2.1) (pw := x.2.2.1) (ph := x.2.2.2.1) (by_ := x.2.2.2.2.1) (fs := x.2.2.2.2.2.1) (fe := x.2.2.2.2.2.2.1) (len_ := x.2.2.2.2.2.2.2.1) (fw := x.2.2.2.2.2.2.2.2.1) (fh := x.2.2.2.2.2.2.2.2.2.1) (fc := x.2.2.2.2.2.2.2.2.2.2.1) (fp := x.2.2.2.2.2.2.2.2.2.2.2.1) (pr := x.2.2.2.2.2.2.2.2.2.2.2.2.1) (u := x.2.2.2.2.2.2.2.2.2.2.2.2.2.1) (uw := x.2.2.2.2.2.2.2.2.2.2.2.2.2.2.1) (uh := x.2.2.2.2.2.2.2.2.2.2.2.2.2.2.2.1) (v := x.2.2.2.2.2.2.2.2.2.2.2.2.2.2.2.2.1) (vw := x.2.2.2.2.2.2.2.2.2.2.2.2.2.2.2.2.2.1) (vh := x.2.2.2.2.2.2.2.2.2.2.2.2.2.2.2.2.2.2.1) (w := x.2.2.2.2.2.2.2.2.2.2.2.2.2.2.2.2.2.2.2.1) (ww := x.2.2.2.2.2.2.2.2.2.2.2.2.2.2.2.2.2.2.2.2.1) (wh := x.2.2.2.2.2.2.2.2.2.2.2.2.2.2.2.2.2.2.2.2.2.1) (st := x.2.2.2.2.2.2.2.2.2.2.2.2.2.2.2.2.2.2.2.2.2.2.1) (fv := x.2.2.2.2.2.2.2.2.2.2.2.2.2.2.2.2.2.2.2.2.2.2.2.1) (sp := x.2.2.2.2.2.2.2.2.2.2.2.2.2.2.2.2.2.2.2.2.2.2.2.2.1) (dec := x.2.2.2.2.2.2.2.2.2.2.2.2.2.2.2.2.2.2.2.2.2.2.2.2.2.1) (dbl := x.2.2.2.2.2.2.2.2.2.2.2.2.2.2.2.2.2.2.2.2.2.2.2.2.2.2.1) (kb := x.2.2.2.2.2.2.2.2.2.2.2.2.2.2.2.2.2.2.2.2.2.2.2.2.2.2.2.2.2.1) (kc := x.2.2.2.2.2.2.2.2.2.2.2.2.2.2.2.2.2.2.2.2.2.2.2.2.2.2.2.2.2.2.1) (kn := x.2.2.2.2.2.2.2.2.2.2.2.2.2.2.2.2.2.2.2.2.2.2.2.2.2.2.2.2.2.2.2.1) (kr := x.2.2.2.2.2.2.2.2.2.2.2.2.2.2.2.2.2.2.2.2.2.2.2.2.2.2.2.2.2.2.2.2) (code := y.1) (W := y.2.1) (H := y.2.2.1) (pic := y.2.2.2.1) (mlen := y.2.2.2.2.1) (file := y.2.2.2.2.2.1) (any' := y.2.2.2.2.2.2.1) (d := y.2.2.2.2.2.2.2.1) (p := y.2.2.2.2.2.2.2.2.1) (db := y.2.2.2.2.2.2.2.2.2.1) (M := y.2.2.2.2.2.2.2.2.2.2.1) (wd := y.2.2.2.2.2.2.2.2.2.2.2.1) (hg := y.2.2.2.2.2.2.2.2.2.2.2.2.1) (st' := y.2.2.2.2.2.2.2.2.2.2.2.2.2.2.1) (fv' := y.2.2.2.2.2.2.2.2.2.2.2.2.2.2.2.1) (qu := y.2.2.2.2.2.2.2.2.2.2.2.2.2.2.2.2.1) (sp' := y.2.2.2.2.2.2.2.2.2.2.2.2.2.2.2.2.2.1) (nd := y.2.2.2.2.2.2.2.2.2.2.2.2.2.2.2.2.2.2.1) (np := y.2.2.2.2.2.2.2.2.2.2.2.2.2.2.2.2.2.2.2.1) (ndb := y.2.2.2.2.2.2.2.2.2.2.2.2.2.2.2.2.2.2.2.2.1) (dg' := y.2.2.2.2.2.2.2.2.2.2.2.2.2.2.2.2.2.2.2.2.2.1) (dc' := y.2.2.2.2.2.2.2.2.2.2.2.2.2.2.2.2.2.2.2.2.2.2.1) (tk := y.2.2.2.2.2.2.2.2.2.2.2.2.2.2.2.2.2.2.2.2.2.2.2.2.2.1) (gv := y.2.2.2.2.2.2.2.2.2.2.2.2.2.2.2.2.2.2.2.2.2.2.2.2.2.2.1) (gs := y.2.2.2.2.2.2.2.2.2.2.2.2.2.2.2.2.2.2.2.2.2.2.2.2.2.2.2.1) (nx := y.2.2.2.2.2.2.2.2.2.2.2.2.2.2.2.2.2.2.2.2.2.2.2.2.2.2.2.2.1) (ab := y.2.2.2.2.2.2.2.2.2.2.2.2.2.2.2.2.2.2.2.2.2.2.2.2.2.2.2.2.2.1) (bg := y.2.2.2.2.2.2.2.2.2.2.2.2.2.2.2.2.2.2.2.2.2.2.2.2.2.2.2.2.2.2.1) (lcm := y.2.2.2.2.2.2.2.2.2.2.2.2.2.2.2.2.2.2.2.2.2.2.2.2.2.2.2.2.2.2.2.1) (nw := y.2.2.2.2.2.2.2.2.2.2.2.2.2.2.2.2.2.2.2.2.2.2.2.2.2.2.2.2.2.2.2.2.1) (nh := y.2.2.2.2.2.2.2.2.2.2.2.2.2.2.2.2.2.2.2.2.2.2.2.2.2.2.2.2.2.2.2.2.2) (o := o) hp hq hf ht
  by_cases hk : z.1 = 0
  · apply Keeps1.mk
    · intro rec
      unfold q_lawcase_8
      rw [if_pos i1, e1, ob_s, if_pos i1, e2, ob_s, show q_Mod_thrown w.2.1 = some z.1 by rw [e3]; rfl, ob_s, if_pos rfl, if_pos hk, if_pos (by rw [z0, e4 hk]; exact lg_same _)]
    · exact ⟨e5, hf, e6, hq⟩
  · apply Keeps1.mk
    · intro rec
      unfold q_lawcase_8
      rw [if_pos i1, e1, ob_s, if_pos i1, e2, ob_s, show q_Mod_thrown w.2.1 = some z.1 by rw [e3]; rfl, ob_s, if_pos rfl, if_neg hk]
    · exact ⟨e5, hf, e6, hq⟩
theorem rel0 : Rel x0 y0 := by
  refine ⟨⟨1, 1, by omega, by omega, by omega, by omega, rfl, rfl, rfl, rfl, fun i j _ _ => ⟨rfl, Or.inl rfl⟩⟩, ⟨0, by omega, rfl, rfl, fun i hi => absurd hi (by omega)⟩, ⟨rfl, Or.inl rfl⟩, ?_⟩
  unfold RQ
  decide +kernel
theorem loop_go (xs : Nat → Int32) (L : Nat) (hL : L ≤ 2048) : ∀ n i x y o, L + 4 ≤ 4 * (i + n) → 1 ≤ n → i ≤ 1000 → Rel x y → q_law_23 xs L n (nI (4 * i)) x y o = some 1 := by
  intro n
  induction n with
  | zero =>
    intro i x y o _ h
    omega
  | succ n ih =>
    intro i x y o hn _ hi hR
    have hst : (Int32.ofNat L - (4 : Int32)) = zI ((L : Int) - 4) := zs4 L
    rw [q_law_23, hst]
    by_cases c : (L : Int) - 4 < ((4 * i : Nat) : Int)
    · rw [if_pos (by rw [nI_zI]; exact (zI_lt (by omega) (by omega) (by omega) (by omega)).mpr c)]
    · rw [if_neg (fun q => c (by rw [nI_zI] at q; exact (zI_lt (by omega) (by omega) (by omega) (by omega)).mp q)), if_pos (vpb_nI (by omega) (by omega))]
      have i1 : vpb (nI (4 * i) + (1 : Int32)) L = true := by rw [nI_1]; exact vpb_nI (by omega) (by omega)
      have i2 : vpb (nI (4 * i) + (2 : Int32)) L = true := by rw [show nI (4 * i) + (2 : Int32) = nI (4 * i + 2) from nI_add _ 2]; exact vpb_nI (by omega) (by omega)
      have i3 : vpb (nI (4 * i) + (3 : Int32)) L = true := by rw [show nI (4 * i) + (3 : Int32) = nI (4 * i + 3) from nI_add _ 3]; exact vpb_nI (by omega) (by omega)
      have e4 : nI (4 * i) + (4 : Int32) = nI (4 * (i + 1)) := nI_add _ 4
      have go : ∀ x y o, Rel x y → q_law_23 xs L n (nI (4 * i) + (4 : Int32)) x y o = some 1 := fun x y o hR => by
        rw [e4]
        exact ih (i + 1) x y o (by omega) (by omega) (by omega) hR
      have key : ∀ q, Keeps1 q → q (q_law_23 xs L n (nI (4 * i) + (4 : Int32))) = some 1 := by
        intro q hq
        obtain ⟨x', y', o', h1, h2⟩ := hq
        rw [h2]
        exact go x' y' o' h1
      by_cases h0 : (xs (nI (4 * i)).toNatClampNeg &&& (15 : Int32)) = (0 : Int32)
      · rw [if_pos h0]
        exact key _ (case_0 hR i1 i2)
      rw [if_neg h0]
      by_cases h1 : (xs (nI (4 * i)).toNatClampNeg &&& (15 : Int32)) = (1 : Int32)
      · rw [if_pos h1]
        exact key _ (case_1 hR i1 i2 i3)
      rw [if_neg h1]
      by_cases h2 : (xs (nI (4 * i)).toNatClampNeg &&& (15 : Int32)) = (2 : Int32)
      · rw [if_pos h2]
        exact key _ (case_2 hR i1 i2)
      rw [if_neg h2]
      by_cases h3 : (xs (nI (4 * i)).toNatClampNeg &&& (15 : Int32)) = (3 : Int32)
      · rw [if_pos h3]
        exact key _ (case_3 hR i1 i2)
      rw [if_neg h3]
      by_cases h4 : (xs (nI (4 * i)).toNatClampNeg &&& (15 : Int32)) = (4 : Int32)
      · rw [if_pos h4]
        exact key _ (case_4 hR)
      rw [if_neg h4]
      by_cases h5 : (xs (nI (4 * i)).toNatClampNeg &&& (15 : Int32)) = (5 : Int32)
      · rw [if_pos h5]
        exact key _ (case_5 hR)
      rw [if_neg h5]
      by_cases h6 : (xs (nI (4 * i)).toNatClampNeg &&& (15 : Int32)) = (6 : Int32)
      · rw [if_pos h6]
        exact key _ (case_6 hR)
      rw [if_neg h6]
      by_cases h7 : (xs (nI (4 * i)).toNatClampNeg &&& (15 : Int32)) = (7 : Int32)
      · rw [if_pos h7]
        exact key _ (case_7 hR i1)
      rw [if_neg h7]
      by_cases h8 : (xs (nI (4 * i)).toNatClampNeg &&& (15 : Int32)) = (8 : Int32)
      · rw [if_pos h8]
        exact key _ (case_8 hR i1)
      rw [if_neg h8]
      by_cases h9 : (xs (nI (4 * i)).toNatClampNeg &&& (15 : Int32)) = (9 : Int32)
      · rw [if_pos h9]
        exact key _ (case_9 hR i1)
      rw [if_neg h9]
      by_cases h10 : (xs (nI (4 * i)).toNatClampNeg &&& (15 : Int32)) = (10 : Int32)
      · rw [if_pos h10]
        exact key _ (case_10 hR)
      rw [if_neg h10]
      by_cases h11 : (xs (nI (4 * i)).toNatClampNeg &&& (15 : Int32)) = (11 : Int32)
      · rw [if_pos h11]
        exact key _ (case_11 hR i1)
      rw [if_neg h11]
      by_cases h12 : (xs (nI (4 * i)).toNatClampNeg &&& (15 : Int32)) = (12 : Int32)
      · rw [if_pos h12]
        exact key _ (case_12 hR i1 i2)
      rw [if_neg h12]
      by_cases h13 : (xs (nI (4 * i)).toNatClampNeg &&& (15 : Int32)) = (13 : Int32)
      · rw [if_pos h13]
        exact key _ (case_13 hR i1 i2 i3)
      rw [if_neg h13]
      by_cases h14 : (xs (nI (4 * i)).toNatClampNeg &&& (15 : Int32)) = (14 : Int32)
      · rw [if_pos h14]
        exact key _ (case_14 hR i1)
      rw [if_neg h14]
      exact go x y o hR
