/-! write, as the law calls it -/
theorem three_cases (B : Int32) : B = nI 1 ∨ B = nI 2 ∨ B = nI 3 ∨ (¬ (∃ b : Nat, 1 ≤ b ∧ b ≤ 3 ∧ B = nI b) ∧ (B < 1 ∨ (¬ B < 1 ∧ ¬ B ≤ (3 : Int32)))) := by
  by_cases h : ∃ b : Nat, 1 ≤ b ∧ b ≤ 3 ∧ B = nI b
  · obtain ⟨b, h1, h2, rfl⟩ := h
    rcases (show b = 1 ∨ b = 2 ∨ b = 3 by omega) with rfl | rfl | rfl
    · exact Or.inl rfl
    · exact Or.inr (Or.inl rfl)
    · exact Or.inr (Or.inr (Or.inl rfl))
  · refine Or.inr (Or.inr (Or.inr ⟨h, ?_⟩))
    by_cases h1 : B < 1
    · exact Or.inl h1
    · refine Or.inr ⟨h1, fun h2 => ?_⟩
      have q0 : ¬ B < 0 := by
        intro q
        apply h1
        rw [Int32.lt_iff_toInt_lt, Int32.toInt_zero] at q
        rw [Int32.lt_iff_toInt_lt, show (1 : Int32).toInt = 1 from rfl]
        omega
      obtain ⟨j, hj, rfl⟩ := nI_of2 (M := 3) (n := 3) rfl q0 h2
      refine h ⟨j, ?_, hj, rfl⟩
      by_cases h5 : 1 ≤ j
      · exact h5
      · exact absurd (nI_lt (show j < 1 by omega) (by omega)) h1
abbrev WQT : Type := Int32 × Int32 × (Nat → Int32) × Int32 × Int32 × (Nat → Int32) × Int32 × Int32 × (Nat → Int32) × Int32 × Int32 × (Nat → Int32) × Int32 × Int32 × (Nat → Int32) × (Nat → Int32) × Int32 × Int32 × Int32 × (Nat → Int32) × Int32 × (Nat → Int64)
theorem lw_ok {N pw ph any len_ pr uw uh vw vh ww wh sp dec dbl dc : Int32} {px f u v w st fv dg : Nat → Int32} {o : Nat → Int64} {z : WCT} (h : q_Top_write N any px pw ph f len_ pr u uw uh v vw vh w ww wh st fv sp dec dbl dg dc = some z) : qq_Law_write N any px pw ph f len_ pr u uw uh v vw vh w ww wh st fv sp dec dbl dg dc o = some (0, z.2.1, z.2.2.1, z.2.2.2.1, z.2.2.2.2.1, z.2.2.2.2.2.1, z.2.2.2.2.2.2.1, z.2.2.2.2.2.2.2.1, z.2.2.2.2.2.2.2.2.1, z.2.2.2.2.2.2.2.2.2.1, z.2.2.2.2.2.2.2.2.2.2.1, z.2.2.2.2.2.2.2.2.2.2.2.1, z.2.2.2.2.2.2.2.2.2.2.2.2.1, z.2.2.2.2.2.2.2.2.2.2.2.2.2.1, z.2.2.2.2.2.2.2.2.2.2.2.2.2.2.1, z.2.2.2.2.2.2.2.2.2.2.2.2.2.2.2.1, z.2.2.2.2.2.2.2.2.2.2.2.2.2.2.2.2.1, z.2.2.2.2.2.2.2.2.2.2.2.2.2.2.2.2.2.1, z.2.2.2.2.2.2.2.2.2.2.2.2.2.2.2.2.2.2.1, z.2.2.2.2.2.2.2.2.2.2.2.2.2.2.2.2.2.2.2.1, z.2.2.2.2.2.2.2.2.2.2.2.2.2.2.2.2.2.2.2.2, vp_updL o 0 z.1.toInt64) := by
  rw [qq_Law_write, q_Law_write, h, ob_s, or_s]
  rfl
theorem write_eq (N : Int32) {pw ph any len_ pr uw uh vw vh ww wh sp dec dbl dc : Int32} {px f u v w st fv dg : Nat → Int32} {W H gs code len any' d p db sp' nd np ndb dc' ds tk nx ab : Int32} {pic qu gv file M wd hg hf st' fv' dg' dr : Nat → Int32} {o : Nat → Int64} (hr : RP px pw ph pic W H) (hq : RQ qu) (hf2 : RF f len_ file len) (ht : RT any pr dec dbl any' d p db) : ∃ (z : WQT) (y : WMT), qq_Law_write N any px pw ph f len_ pr u uw uh v vw vh w ww wh st fv sp dec dbl dg dc o = some z ∧ q_Mod_write N code W H pic len file any' d p db M wd hg hf st' fv' qu sp' nd np ndb dg' dc' dr ds tk gv gs nx ab = some y ∧ y.2.1 = z.1 ∧ (z.1 = 0 → z.2.2.2.2.2.2.2.2.2.2.2.2.2.2.2.2.2.2.2.2.2 0 = y.1.toInt64) ∧ RF z.2.2.1 z.2.2.2.1 y.2.2.2.1 y.2.2.1 ∧ RT z.2.1 z.2.2.2.2.1 z.2.2.2.2.2.2.2.2.2.2.2.2.2.2.2.2.2.1 z.2.2.2.2.2.2.2.2.2.2.2.2.2.2.2.2.2.2.1 y.2.2.2.2.1 y.2.2.2.2.2.1 y.2.2.2.2.2.2.1 y.2.2.2.2.2.2.2.1 := by
  obtain ⟨a, b, a1, a2, b1, b2, rfl, rfl, rfl, rfl, hp⟩ := hr
  have go : ∀ (z : WCT) (y : WMT), q_Top_write N any px (nI a) (nI b) f len_ pr u uw uh v vw vh w ww wh st fv sp dec dbl dg dc = some z → q_Mod_write N code (nI a) (nI b) pic len file any' d p db M wd hg hf st' fv' qu sp' nd np ndb dg' dc' dr ds tk gv gs nx ab = some y → WOK z y → ∃ (z : WQT) (y : WMT), qq_Law_write N any px (nI a) (nI b) f len_ pr u uw uh v vw vh w ww wh st fv sp dec dbl dg dc o = some z ∧ q_Mod_write N code (nI a) (nI b) pic len file any' d p db M wd hg hf st' fv' qu sp' nd np ndb dg' dc' dr ds tk gv gs nx ab = some y ∧ y.2.1 = z.1 ∧ (z.1 = 0 → z.2.2.2.2.2.2.2.2.2.2.2.2.2.2.2.2.2.2.2.2.2 0 = y.1.toInt64) ∧ RF z.2.2.1 z.2.2.2.1 y.2.2.2.1 y.2.2.1 ∧ RT z.2.1 z.2.2.2.2.1 z.2.2.2.2.2.2.2.2.2.2.2.2.2.2.2.2.2.1 z.2.2.2.2.2.2.2.2.2.2.2.2.2.2.2.2.2.2.1 y.2.2.2.2.1 y.2.2.2.2.2.1 y.2.2.2.2.2.2.1 y.2.2.2.2.2.2.2.1 := by
    intro z y h1 h2 ⟨k1, k2, k3, k4⟩
    exact ⟨_, _, lw_ok h1, h2, k1, fun _ => by rw [← k2]; exact vpL_same o 0 z.1.toInt64, k3, k4⟩
  rcases three_cases N with rfl | rfl | rfl | ⟨hN, hc⟩
  · obtain ⟨z, y, h1, h2, h3⟩ := write_1 a1 a2 b1 b2 hq hp
    exact go z y h1 h2 h3
  · obtain ⟨z, y, h1, h2, h3⟩ := write_2 a1 a2 b1 b2 hq hp
    exact go z y h1 h2 h3
  · obtain ⟨z, y, h1, h2, h3⟩ := write_3 a1 a2 b1 b2 hq hp
    exact go z y h1 h2 h3
  · refine ⟨(1, any, f, len_, pr, u, uw, uh, v, vw, vh, w, ww, wh, st, fv, sp, dec, dbl, dg, dc, o), (0, 1, len, file, any', d, p, db, M, wd, hg, hf, st', fv', sp', nd, np, ndb, dg', dc', dr, ds, tk, nx, ab), ?_, ?_, rfl, fun h => absurd h n10, hf2, ht⟩
    · rcases hc with hc | ⟨hc, hc2⟩
      · rw [qq_Law_write, q_Law_write, q_Top_write, if_pos hc, q_Top_write_10, bn, or_n, q_Law_write_A, q_Top_write_A, if_pos hc, q_Top_write_A_10, ob_s]
      · rw [qq_Law_write, q_Law_write, q_Top_write, if_neg hc, if_neg hc2, q_Top_write_10, bn, or_n, q_Law_write_A, q_Top_write_A, if_neg hc, if_neg hc2, q_Top_write_A_10, ob_s]
    · have gw : q_Mod_within N (1 : Int32) (3 : Int32) = some 0 := wi_out (lo := 1) (hi := 3) hN (by omega) (by omega)
      rw [q_Mod_write, gw, ob_s, if_pos rfl, q_Mod_write_15, if_neg n1l]
theorem case_7 {xs : Nat → Int32} {L : Nat} {x4 : Int32} {x : XS} {y : MS} {o : Nat → Int64} (h : Rel x y) (i1 : vpb (x4 + (1 : Int32)) L = true) : Keeps1 (q_lawcase_7 xs L x4 x y o) := by
  obtain ⟨hp, hf, ht, hq⟩ := h
  obtain ⟨z, w, e1, e2, e3, e4, e5, e6⟩ := write_eq (xs (x4 + (1 : Int32)).toNatClampNeg) (pw := x.2.2.1) (ph := x.2.2.2.1) (any := x.1) (len_ := x.2.2.2.2.2.2.2.1) (pr := x.2.2.2.2.2.2.2.2.2.2.2.2.1) (uw := x.2.2.2.2.2.2.2.2.2.2.2.2.2.2.1) (uh := x.2.2.2.2.2.2.2.2.2.2.2.2.2.2.2.1) (vw := x.2.2.2.2.2.2.2.2.2.2.2.2.2.2.2.2.2.1) (vh := x.2.2.2.2.2.2.2.2.2.2.2.2.2.2.2.2.2.2.1) (ww := x.2.2.2.2.2.2.2.2.2.2.2.2.2.2.2.2.2.2.2.2.1) (wh := x.2.2.2.2.2.2.2.2.2.2.2.2.2.2.2.2.2.2.2.2.2.1) (sp := x.2.2.2.2.2.2.2.2.2.2.2.2.2.2.2.2.2.2.2.2.2.2.2.2.1) (dec := x.2.2.2.2.2.2.2.2.2.2.2.2.2.2.2.2.2.2.2.2.2.2.2.2.2.1) (dbl := x.2.2.2.2.2.2.2.2.2.2.2.2.2.2.2.2.2.2.2.2.2.2.2.2.2.2.1) (dc := x.2.2.2.2.2.2.2.2.2.2.2.2.2.2.2.2.2.2.2.2.2.2.2.2.2.2.2.2.1) (px := x.2.1) (f := x.2.2.2.2.1) (u := x.2.2.2.2.2.2.2.2.2.2.2.2.2.1) (v := x.2.2.2.2.2.2.2.2.2.2.2.2.2.2.2.2.1) (w := x.2.2.2.2.2.2.2.2.2.2.2.2.2.2.2.2.2.2.2.1) (st := x.2.2.2.2.2.2.2.2.2.2.2.2.2.2.2.2.2.2.2.2.2.2.1) (fv := x.2.2.2.2.2.2.2.2.2.2.2.2.2.2.2.2.2.2.2.2.2.2.2.1) (dg := x.2.2.2.2.2.2.2.2.2.2.2.2.2.2.2.2.2.2.2.2.2.2.2.2.2.2.2.1) (code := y.1) (W := y.2.1) (H := y.2.2.1) (pic := y.2.2.2.1) (len := y.2.2.2.2.1) (file := y.2.2.2.2.2.1) (any' := y.2.2.2.2.2.2.1) (d := y.2.2.2.2.2.2.2.1) (p := y.2.2.2.2.2.2.2.2.1) (db := y.2.2.2.2.2.2.2.2.2.1) (M := y.2.2.2.2.2.2.2.2.2.2.1) (wd := y.2.2.2.2.2.2.2.2.2.2.2.1) (hg := y.2.2.2.2.2.2.2.2.2.2.2.2.1) (hf := y.2.2.2.2.2.2.2.2.2.2.2.2.2.1) (st' := y.2.2.2.2.2.2.2.2.2.2.2.2.2.2.1) (fv' := y.2.2.2.2.2.2.2.2.2.2.2.2.2.2.2.1) (qu := y.2.2.2.2.2.2.2.2.2.2.2.2.2.2.2.2.1) (sp' := y.2.2.2.2.2.2.2.2.2.2.2.2.2.2.2.2.2.1) (nd := y.2.2.2.2.2.2.2.2.2.2.2.2.2.2.2.2.2.2.1) (np := y.2.2.2.2.2.2.2.2.2.2.2.2.2.2.2.2.2.2.2.1) (ndb := y.2.2.2.2.2.2.2.2.2.2.2.2.2.2.2.2.2.2.2.2.1) (dg' := y.2.2.2.2.2.2.2.2.2.2.2.2.2.2.2.2.2.2.2.2.2.1) (dc' := y.2.2.2.2.2.2.2.2.2.2.2.2.2.2.2.2.2.2.2.2.2.2.1) (dr := y.2.2.2.2.2.2.2.2.2.2.2.2.2.2.2.2.2.2.2.2.2.2.2.1) (ds := y.2.2.2.2.2.2.2.2.2.2.2.2.2.2.2.2.2.2.2.2.2.2.2.2.1) (tk := y.2.2.2.2.2.2.2.2.2.2.2.2.2.2.2.2.2.2.2.2.2.2.2.2.2.1) (gv := y.2.2.2.2.2.2.2.2.2.2.2.2.2.2.2.2.2.2.2.2.2.2.2.2.2.2.1) (gs := y.2.2.2.2.2.2.2.2.2.2.2.2.2.2.2.2.2.2.2.2.2.2.2.2.2.2.2.1) (nx := y.2.2.2.2.2.2.2.2.2.2.2.2.2.2.2.2.2.2.2.2.2.2.2.2.2.2.2.2.1) (ab := y.2.2.2.2.2.2.2.2.2.2.2.2.2.2.2.2.2.2.2.2.2.2.2.2.2.2.2.2.2.1) (o := o) hp hq hf ht
  by_cases hk : z.1 = 0
  · apply Keeps1.mk
    · intro rec
      unfold q_lawcase_7
      rw [if_pos i1, e1, ob_s, if_pos i1, e2, ob_s, show q_Mod_thrown w.2.1 = some z.1 by rw [e3]; rfl, ob_s, if_pos rfl, if_pos hk, if_pos (by rw [z0, e4 hk]; exact lg_same _)]
    · exact ⟨hp, e5, e6, hq⟩
  · apply Keeps1.mk
    · intro rec
      unfold q_lawcase_7
      rw [if_pos i1, e1, ob_s, if_pos i1, e2, ob_s, show q_Mod_thrown w.2.1 = some z.1 by rw [e3]; rfl, ob_s, if_pos rfl, if_neg hk]
    · exact ⟨hp, e5, e6, hq⟩
