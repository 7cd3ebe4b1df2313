/-! a decision, on both sides -/
theorem sfn (s : Nat) (hs : s < 24) : (if nI s + (1 : Int32) < (23 : Int32) then nI s + (1 : Int32) else (23 : Int32)) = nI (if s + 1 < 23 then s + 1 else 23) := by
  rw [nI_1, show (23 : Int32) = nI 23 from rfl]
  by_cases h : s + 1 < 23
  · rw [if_pos (nI_lt h (by omega)), if_pos h]
  · rw [if_neg (nI_nlt (by omega) (by omega)), if_neg h]
theorem adapt_F {ci s : Nat} {st fv st' fv' : Nat → Int32} (hc : ci < 2563) (hs : s < 24) (h : RC st fv st' fv') (e : st ci = nI s) : ∃ st2 st2', q_Cod_adapt (nI ci) 1 st fv = some (st2, fv) ∧ (∀ b0 qu tk gv gs x5 f2 sp dec dbl dg dc nx ab, q_Mod_decide_137 (nI ci) b0 qu tk gv gs x5 st' f2 sp dec dbl dg dc nx ab = q_Mod_decide_231 (nI ci) b0 qu tk gv gs 5000 x5 st2' f2 sp dec dbl dg dc nx ab) ∧ RC st2 fv st2' fv' := by
  have e' : st' ci = nI s := (h ci hc).1.trans e
  have hv := vpb_nI hc (show 2563 < 2 ^ 31 by omega)
  have hcl := nI_clamp (show ci < 2 ^ 31 by omega)
  refine ⟨upd st ci (nI (if s + 1 < 23 then s + 1 else 23)), upd st' ci (nI (if s + 1 < 23 then s + 1 else 23)), ?_, ?_, RC_st h (by split <;> omega)⟩
  · rw [q_Cod_adapt, if_pos hv, if_neg n10, if_pos hv, hcl, e, sfn s hs]
  · intro b0 qu tk gv gs x5 f2 sp dec dbl dg dc nx ab
    rw [q_Mod_decide_137, if_pos hv, hcl, e', nI_1]
    by_cases c : 23 ≤ s
    · rw [if_pos (show (23 : Int32) ≤ nI s from nI_le (a := 23) c (by omega)), if_pos hv, if_neg (by omega)]
      rfl
    · rw [if_neg (show ¬ (23 : Int32) ≤ nI s from nI_ge (b := 23) (by omega) (by omega)), if_pos hv, if_pos hv]
      by_cases c2 : s + 1 < 23
      · rw [if_pos c2]
      · rw [if_neg c2, show s + 1 = 23 by omega]
theorem adapt_N {ci s : Nat} {w : Int32} {st fv st' fv' : Nat → Int32} (hc : ci < 2563) (hs : s < 24) (h : RC st fv st' fv') (e : st ci = nI s) (hw : w = 0 ∨ w = 1) (hne : ¬ w = fv ci) : ∃ st2 st2' fv2 fv2', q_Cod_adapt (nI ci) 0 st fv = some (st2, fv2) ∧ (∀ b0 qu tk gv gs sp dec dbl dg dc nx ab, q_Mod_decide_183 (nI ci) b0 qu tk gv gs w st' fv' sp dec dbl dg dc nx ab = q_Mod_decide_231 (nI ci) b0 qu tk gv gs 5000 w st2' fv2' sp dec dbl dg dc nx ab) ∧ RC st2 fv2 st2' fv2' := by
  have e' : st' ci = nI s := (h ci hc).1.trans e
  have hv := vpb_nI hc (show 2563 < 2 ^ 31 by omega)
  have hcl := nI_clamp (show ci < 2 ^ 31 by omega)
  by_cases s0 : s = 0
  · subst s0
    have hw2 : (1 : Int32) - fv ci = w := by
      rcases (h ci hc).2.2.2 with q | q <;> rcases hw with r | r <;> first | exact absurd (r.trans q.symm) hne | (rw [q, r]; rfl)
    refine ⟨st, st', upd fv ci w, upd fv' ci w, ?_, ?_, RC_fv h hw⟩
    · rw [q_Cod_adapt, if_pos hv, if_pos rfl, hcl, e, if_pos (show nI 0 = 0 from rfl), if_pos hv, if_pos hv, hw2]
    · intro b0 qu tk gv gs sp dec dbl dg dc nx ab
      rw [q_Mod_decide_183, if_pos hv, hcl, e', if_pos (show nI 0 = 0 from rfl), if_pos hv]
  · refine ⟨upd st ci (nI (s - 2)), upd st' ci (nI (s - 2)), fv, fv', ?_, ?_, RC_st h (by omega)⟩
    · rw [q_Cod_adapt, if_pos hv, if_pos rfl, hcl, e, if_neg (nI_ne0 (by omega) (by omega)), if_pos hv]
      by_cases c : 2 ≤ s
      · rw [show nI s - (2 : Int32) = nI (s - 2) from pk_sub (b := 2) c]
        by_cases c2 : s = 2
        · subst c2; rfl
        · rw [if_pos (show (0 : Int32) < nI (s - 2) from nI_lt (a := 0) (by omega) (by omega))]
      · obtain rfl : s = 1 := by omega
        rfl
    · intro b0 qu tk gv gs sp dec dbl dg dc nx ab
      rw [q_Mod_decide_183, if_pos hv, hcl, e', if_neg (nI_ne0 (by omega) (by omega)), if_pos hv]
      by_cases c : 2 ≤ s
      · rw [if_pos (show (2 : Int32) ≤ nI s from nI_le (a := 2) c (by omega)), if_pos hv, if_pos hv, show nI s - (2 : Int32) = nI (s - 2) from pk_sub (b := 2) c]
      · obtain rfl : s = 1 := by omega
        rw [if_neg (by decide), if_pos hv]
        rfl
theorem n01 : ¬ ((0 : Int32) = 1) := by decide
theorem core_M {ci s sp : Nat} {b w b0 dec dbl gs nx ab : Int32} {qu st fv st' fv' gv dg dg' : Nat → Int32} {d : Nat} (hc : ci < 2563) (hs : s < 24) (h : RC st fv st' fv') (e : st ci = nI s) (hb : b = 0 ∨ b = 1) (h1 : 32768 ≤ sp) (h2 : sp ≤ 65536) (hd : d + 9 ≤ 2464) (hd1 : 1 ≤ d) (hR : RD dg dg' d) :
  ∃ st2 fv2 st2' fv2' m2 dbl2 g g' d2, (if nI sp - nI (qn s) < nI (qn s) then (if b = fv ci then q_Cod_decideM_74 (nI ci) w  (nI (qn s)) 0 b 1 st fv (nI sp - nI (qn s)) dec dbl dg (nI d) else q_Cod_decideM_74 (nI ci) w  (nI (qn s)) 0 b 0 st fv (nI sp - nI (qn s)) dec dbl dg (nI d)) else (if b = fv ci then q_Cod_decideM_74 (nI ci) w  (nI (qn s)) 1 b 1 st fv (nI sp - nI (qn s)) dec dbl dg (nI d) else q_Cod_decideM_74 (nI ci) w  (nI (qn s)) 1 b 0 st fv (nI sp - nI (qn s)) dec dbl dg (nI d))) = some (b, st2, fv2, nI m2, dec + 1, dbl2, g, nI d2) ∧ q_Mod_decide_105 (nI ci) b0 qu 0 gv gs (nI (qn s)) (fv' ci) b st' fv' (nI sp - nI (qn s)) (dec + 1) dbl dg' (nI d) nx ab = some (b, st2', fv2', nI m2, dec + 1, dbl2, g', nI d2, nx, ab) ∧ RC st2 fv2 st2' fv2' ∧ 32768 ≤ m2 ∧ m2 ≤ 65536 ∧ d ≤ d2 ∧ d2 ≤ d + 9 ∧ RD g g' d2 := by
  obtain ⟨hq, q1, q2⟩ := qn_ok s hs
  rw [pk_sub (by omega), (h ci hc).2.1]
  by_cases hlow : sp - qn s < qn s
  · rw [if_pos (nI_lt hlow (by omega))]
    by_cases hw : b = fv ci
    · rw [if_pos hw, q_Mod_decide_105, if_pos hw, if_pos (show nI (sp - qn s) < (32768 : Int32) from nI_lt (b := 32768) (by omega) (by omega)), if_neg (nI_ge hlow (by omega))]
      obtain ⟨st2, st2', a1, a2, a3⟩ := adapt_F hc hs h e
      obtain ⟨g0, g0', r1, r2, r3⟩ := grow_eq (v := sp - qn s) (by omega) hd1 (by omega) hR
      obtain ⟨m2, d2, dbl2, g, g', e1, e2, e3, e4, e5, e6, e7⟩ := widen_M (c := nI ci) (b0 := b0) (gs := gs) (x5 := b) (dec := dec + 1) (nx := nx) (ab := ab) (qu := qu) (gv := gv) (st := st2') (fv := fv') 9 (qn s) 0 5000 5000 d dbl g0 g0' (by omega) (by omega) (by omega) (by omega) (by omega) (by omega) r3
      refine ⟨st2, fv, st2', fv', m2, dbl2, g, g', d2, ?_, ?_, a3, e4, e5, by omega, by omega, e3⟩
      · rw [q_Cod_decideM_74, if_neg n10, if_neg (show ¬ (32768 : Int32) ≤ nI (sp - qn s) from nI_ge (b := 32768) (by omega) (by omega)), q_Cod_decideM_90, q_Cod_decideM_95, if_neg n10, r1, ob_s, q_Cod_decideM_118, if_neg n10, a1, ob_s, q_Cod_decideM_130, q_Cod_widenM, show (0 : Int32) = nI 0 from rfl, e1, ob_s]
      · rw [q_Mod_pass, if_pos rfl, r2, ob_s, ob_s, a2, e2]
    · rw [if_neg hw, q_Mod_decide_105, if_neg hw, if_pos (nI_lt hlow (by omega))]
      obtain ⟨st2, st2', fv2, fv2', a1, a2, a3⟩ := adapt_N hc hs h e hb hw
      obtain ⟨m2, d2, dbl2, g, g', e1, e2, e3, e4, e5, e6, e7⟩ := widen_M (c := nI ci) (b0 := b0) (gs := gs) (x5 := b) (dec := dec + 1) (nx := nx) (ab := ab) (qu := qu) (gv := gv) (st := st2') (fv := fv2') 9 (sp - qn s) 0 5000 5000 d dbl dg dg' (by omega) (by omega) (by omega) (by omega) (by omega) (by omega) hR
      refine ⟨st2, fv2, st2', fv2', m2, dbl2, g, g', d2, ?_, ?_, a3, e4, e5, by omega, by omega, e3⟩
      · rw [q_Cod_decideM_74, if_pos rfl, q_Cod_decideM_90, q_Cod_decideM_95, if_pos rfl, q_Cod_decideM_118, if_neg n10, a1, ob_s, q_Cod_decideM_130, q_Cod_widenM, show (0 : Int32) = nI 0 from rfl, e1, ob_s]
      · rw [a2, e2]
  · rw [if_neg (nI_nlt (by omega) (by omega))]
    by_cases hw : b = fv ci
    · by_cases hbig : 32768 ≤ sp - qn s
      · refine ⟨st, fv, st', fv', sp - qn s, dbl, dg, dg', d, ?_, ?_, h, hbig, by omega, by omega, by omega, hR⟩
        · rw [if_pos hw, q_Cod_decideM_74, if_neg n10, if_pos (show (32768 : Int32) ≤ nI (sp - qn s) from nI_le (a := 32768) hbig (by omega)), q_Cod_decideM_95, if_pos rfl, q_Cod_decideM_118, if_pos rfl, q_Cod_decideM_130, q_Cod_widenM, q_Cod_widenM_2, if_neg (by decide), if_pos (show (32768 : Int32) ≤ nI (sp - qn s) from nI_le (a := 32768) hbig (by omega)), ob_s]
        · rw [q_Mod_decide_105, if_pos hw, if_neg (show ¬ nI (sp - qn s) < (32768 : Int32) from nI_nlt (b := 32768) hbig (by omega))]
      · rw [if_pos hw, q_Mod_decide_105, if_pos hw, if_pos (show nI (sp - qn s) < (32768 : Int32) from nI_lt (b := 32768) (by omega) (by omega)), if_pos (nI_le (show qn s ≤ sp - qn s by omega) (by omega))]
        obtain ⟨st2, st2', a1, a2, a3⟩ := adapt_F hc hs h e
        obtain ⟨m2, d2, dbl2, g, g', e1, e2, e3, e4, e5, e6, e7⟩ := widen_M (c := nI ci) (b0 := b0) (gs := gs) (x5 := b) (dec := dec + 1) (nx := nx) (ab := ab) (qu := qu) (gv := gv) (st := st2') (fv := fv') 9 (sp - qn s) 0 5000 5000 d dbl dg dg' (by omega) (by omega) (by omega) (by omega) (by omega) (by omega) hR
        refine ⟨st2, fv, st2', fv', m2, dbl2, g, g', d2, ?_, ?_, a3, e4, e5, by omega, by omega, e3⟩
        · rw [q_Cod_decideM_74, if_neg n10, if_neg (show ¬ (32768 : Int32) ≤ nI (sp - qn s) from nI_ge (b := 32768) (by omega) (by omega)), q_Cod_decideM_90, q_Cod_decideM_95, if_pos rfl, q_Cod_decideM_118, if_neg n10, a1, ob_s, q_Cod_decideM_130, q_Cod_widenM, show (0 : Int32) = nI 0 from rfl, e1, ob_s]
        · rw [a2, e2]
    · rw [if_neg hw, q_Mod_decide_105, if_neg hw, if_neg (nI_nlt (show qn s ≤ sp - qn s by omega) (by omega))]
      obtain ⟨st2, st2', fv2, fv2', a1, a2, a3⟩ := adapt_N hc hs h e hb hw
      obtain ⟨g0, g0', r1, r2, r3⟩ := grow_eq (v := sp - qn s) (by omega) hd1 (by omega) hR
      obtain ⟨m2, d2, dbl2, g, g', e1, e2, e3, e4, e5, e6, e7⟩ := widen_M (c := nI ci) (b0 := b0) (gs := gs) (x5 := b) (dec := dec + 1) (nx := nx) (ab := ab) (qu := qu) (gv := gv) (st := st2') (fv := fv2') 9 (qn s) 0 5000 5000 d dbl g0 g0' (by omega) (by omega) (by omega) (by omega) (by omega) (by omega) r3
      refine ⟨st2, fv2, st2', fv2', m2, dbl2, g, g', d2, ?_, ?_, a3, e4, e5, by omega, by omega, e3⟩
      · rw [q_Cod_decideM_74, if_pos rfl, q_Cod_decideM_90, q_Cod_decideM_95, if_neg n01, r1, ob_s, q_Cod_decideM_118, if_neg n10, a1, ob_s, q_Cod_decideM_130, q_Cod_widenM, show (0 : Int32) = nI 0 from rfl, e1, ob_s]
      · rw [q_Mod_pass, if_pos rfl, r2, ob_s, ob_s, a2, e2]
theorem core_T {ci s sp : Nat} {b w b0 dec dbl dc : Int32} {qu st fv st' fv' by_ gv dg : Nat → Int32} {N t : Nat} {re : Int32} (hc : ci < 2563) (hs : s < 24) (h : RC st fv st' fv') (e : st ci = nI s) (hb : b = 0 ∨ b = 1) (h1 : 32768 ≤ sp) (h2 : sp ≤ 65536) (ht : t + 9 < 100000) (hN : NB by_ gv N) :
  ∃ st2 fv2 st2' fv2' m2 dbl2 t2 r2, (if nI sp - nI (qn s) < nI (qn s) then (if b = fv ci then q_Cod_decideT_74 (nI ci) w by_ (nI N) (nI (qn s)) 0 b 1 st fv (nI sp - nI (qn s)) dec dbl (nI t) re else q_Cod_decideT_74 (nI ci) w by_ (nI N) (nI (qn s)) 0 b 0 st fv (nI sp - nI (qn s)) dec dbl (nI t) re) else (if b = fv ci then q_Cod_decideT_74 (nI ci) w by_ (nI N) (nI (qn s)) 1 b 1 st fv (nI sp - nI (qn s)) dec dbl (nI t) re else q_Cod_decideT_74 (nI ci) w by_ (nI N) (nI (qn s)) 1 b 0 st fv (nI sp - nI (qn s)) dec dbl (nI t) re)) = some (b, st2, fv2, nI m2, dec + 1, dbl2, nI t2, r2) ∧ q_Mod_decide_105 (nI ci) b0 qu 1 gv (nI N) (nI (qn s)) (fv' ci) b st' fv' (nI sp - nI (qn s)) (dec + 1) dbl dg dc (nI t) re = some (b, st2', fv2', nI m2, dec + 1, dbl2, dg, dc, nI t2, r2) ∧ RC st2 fv2 st2' fv2' ∧ 32768 ≤ m2 ∧ m2 ≤ 65536 ∧ t ≤ t2 ∧ t2 ≤ t + 9 := by
  obtain ⟨hq, q1, q2⟩ := qn_ok s hs
  rw [pk_sub (by omega), (h ci hc).2.1]
  by_cases hlow : sp - qn s < qn s
  · rw [if_pos (nI_lt hlow (by omega))]
    by_cases hw : b = fv ci
    · rw [if_pos hw, q_Mod_decide_105, if_pos hw, if_pos (show nI (sp - qn s) < (32768 : Int32) from nI_lt (b := 32768) (by omega) (by omega)), if_neg (nI_ge hlow (by omega))]
      obtain ⟨st2, st2', a1, a2, a3⟩ := adapt_F hc hs h e
      obtain ⟨m2, t2, dbl2, r2, e1, e2, e4, e5, e6, e7⟩ := widen_T (c := nI ci) (b0 := b0) (x5 := b) (dec := dec + 1) (dc := dc) (qu := qu) (st := st2') (fv := fv') (dg := dg) hN 9 (qn s) 0 5000 5000 t dbl (re - nI (sp - qn s)) (by omega) (by omega) (by omega) (by omega) (by omega) (by omega)
      refine ⟨st2, fv, st2', fv', m2, dbl2, t2, r2, ?_, ?_, a3, e4, e5, by omega, by omega⟩
      · rw [q_Cod_decideT_74, if_neg n10, if_neg (show ¬ (32768 : Int32) ≤ nI (sp - qn s) from nI_ge (b := 32768) (by omega) (by omega)), q_Cod_decideT_90, q_Cod_decideT_95, if_neg n10, q_Tak_grow, ob_s, q_Cod_decideT_118, if_neg n10, a1, ob_s, q_Cod_decideT_130, q_Cod_widenT, show (0 : Int32) = nI 0 from rfl, e1, ob_s]
      · rw [q_Mod_pass, if_neg n10, ob_s, a2, e2]
    · rw [if_neg hw, q_Mod_decide_105, if_neg hw, if_pos (nI_lt hlow (by omega))]
      obtain ⟨st2, st2', fv2, fv2', a1, a2, a3⟩ := adapt_N hc hs h e hb hw
      obtain ⟨m2, t2, dbl2, r2, e1, e2, e4, e5, e6, e7⟩ := widen_T (c := nI ci) (b0 := b0) (x5 := b) (dec := dec + 1) (dc := dc) (qu := qu) (st := st2') (fv := fv2') (dg := dg) hN 9 (sp - qn s) 0 5000 5000 t dbl re (by omega) (by omega) (by omega) (by omega) (by omega) (by omega)
      refine ⟨st2, fv2, st2', fv2', m2, dbl2, t2, r2, ?_, ?_, a3, e4, e5, by omega, by omega⟩
      · rw [q_Cod_decideT_74, if_pos rfl, q_Cod_decideT_90, q_Cod_decideT_95, if_pos rfl, q_Cod_decideT_118, if_neg n10, a1, ob_s, q_Cod_decideT_130, q_Cod_widenT, show (0 : Int32) = nI 0 from rfl, e1, ob_s]
      · rw [a2, e2]
  · rw [if_neg (nI_nlt (by omega) (by omega))]
    by_cases hw : b = fv ci
    · by_cases hbig : 32768 ≤ sp - qn s
      · refine ⟨st, fv, st', fv', sp - qn s, dbl, t, re, ?_, ?_, h, hbig, by omega, by omega, by omega⟩
        · rw [if_pos hw, q_Cod_decideT_74, if_neg n10, if_pos (show (32768 : Int32) ≤ nI (sp - qn s) from nI_le (a := 32768) hbig (by omega)), q_Cod_decideT_95, if_pos rfl, q_Cod_decideT_118, if_pos rfl, q_Cod_decideT_130, q_Cod_widenT, q_Cod_widenT_2, if_neg (by decide), if_pos (show (32768 : Int32) ≤ nI (sp - qn s) from nI_le (a := 32768) hbig (by omega)), ob_s]
        · rw [q_Mod_decide_105, if_pos hw, if_neg (show ¬ nI (sp - qn s) < (32768 : Int32) from nI_nlt (b := 32768) hbig (by omega))]
      · rw [if_pos hw, q_Mod_decide_105, if_pos hw, if_pos (show nI (sp - qn s) < (32768 : Int32) from nI_lt (b := 32768) (by omega) (by omega)), if_pos (nI_le (show qn s ≤ sp - qn s by omega) (by omega))]
        obtain ⟨st2, st2', a1, a2, a3⟩ := adapt_F hc hs h e
        obtain ⟨m2, t2, dbl2, r2, e1, e2, e4, e5, e6, e7⟩ := widen_T (c := nI ci) (b0 := b0) (x5 := b) (dec := dec + 1) (dc := dc) (qu := qu) (st := st2') (fv := fv') (dg := dg) hN 9 (sp - qn s) 0 5000 5000 t dbl re (by omega) (by omega) (by omega) (by omega) (by omega) (by omega)
        refine ⟨st2, fv, st2', fv', m2, dbl2, t2, r2, ?_, ?_, a3, e4, e5, by omega, by omega⟩
        · rw [q_Cod_decideT_74, if_neg n10, if_neg (show ¬ (32768 : Int32) ≤ nI (sp - qn s) from nI_ge (b := 32768) (by omega) (by omega)), q_Cod_decideT_90, q_Cod_decideT_95, if_pos rfl, q_Cod_decideT_118, if_neg n10, a1, ob_s, q_Cod_decideT_130, q_Cod_widenT, show (0 : Int32) = nI 0 from rfl, e1, ob_s]
        · rw [a2, e2]
    · rw [if_neg hw, q_Mod_decide_105, if_neg hw, if_neg (nI_nlt (show qn s ≤ sp - qn s by omega) (by omega))]
      obtain ⟨st2, st2', fv2, fv2', a1, a2, a3⟩ := adapt_N hc hs h e hb hw
      obtain ⟨m2, t2, dbl2, r2, e1, e2, e4, e5, e6, e7⟩ := widen_T (c := nI ci) (b0 := b0) (x5 := b) (dec := dec + 1) (dc := dc) (qu := qu) (st := st2') (fv := fv2') (dg := dg) hN 9 (qn s) 0 5000 5000 t dbl (re - nI (sp - qn s)) (by omega) (by omega) (by omega) (by omega) (by omega) (by omega)
      refine ⟨st2, fv2, st2', fv2', m2, dbl2, t2, r2, ?_, ?_, a3, e4, e5, by omega, by omega⟩
      · rw [q_Cod_decideT_74, if_pos rfl, q_Cod_decideT_90, q_Cod_decideT_95, if_neg n01, q_Tak_grow, ob_s, q_Cod_decideT_118, if_neg n10, a1, ob_s, q_Cod_decideT_130, q_Cod_widenT, show (0 : Int32) = nI 0 from rfl, e1, ob_s]
      · rw [q_Mod_pass, if_neg n10, ob_s, a2, e2]
theorem decide_M {ci sp d : Nat} {w dec dbl gs nx ab : Int32} {qu st fv st' fv' gv dg dg' : Nat → Int32} (hq : RQ qu) (hc : ci < 2563) (h : RC st fv st' fv') (hb : w = 0 ∨ w = 1) (h1 : 32768 ≤ sp) (h2 : sp ≤ 65536) (hd : d + 9 ≤ 2464) (hd1 : 1 ≤ d) (hR : RD dg dg' d) :
  ∃ st2 fv2 st2' fv2' m2 dbl2 g g' d2, q_Cod_decideM (nI ci) w st fv (nI sp) dec dbl dg (nI d) = some (w, st2, fv2, nI m2, dec + 1, dbl2, g, nI d2) ∧ q_Mod_decide (nI ci) w st' fv' qu (nI sp) dec dbl dg' (nI d) 0 gv gs nx ab = some (w, st2', fv2', nI m2, dec + 1, dbl2, g', nI d2, nx, ab) ∧ RC st2 fv2 st2' fv2' ∧ 32768 ≤ m2 ∧ m2 ≤ 65536 ∧ d ≤ d2 ∧ d2 ≤ d + 9 ∧ RD g g' d2 := by
  obtain ⟨h3, h4, ⟨s, hs, e⟩, h5⟩ := h ci hc
  have hv := vpb_nI hc (show 2563 < 2 ^ 31 by omega)
  have hcl := nI_clamp (show ci < 2 ^ 31 by omega)
  have hvs := vpb_nI hs (show 24 < 2 ^ 31 by omega)
  have hcs := nI_clamp (show s < 2 ^ 31 by omega)
  obtain ⟨st2, fv2, st2', fv2', m2, dbl2, g, g', d2, e1, e2, e3⟩ := core_M (w := w) (b0 := w) (dec := dec) (dbl := dbl) (gs := gs) (nx := nx) (ab := ab) (qu := qu) (gv := gv) hc hs h e hb h1 h2 hd hd1 hR
  refine ⟨st2, fv2, st2', fv2', m2, dbl2, g, g', d2, ?_, ?_, e3⟩
  · rw [q_Cod_decideM, if_pos hv, hcl, e, if_pos hvs, hcs, (qn_ok s hs).1, q_Cod_decideM_37, q_Cod_decideM_37, if_pos hv, if_pos hv, q_Mad_decision, q_Mad_decision, ob_s, ob_s, if_pos hv, if_pos hv, hcl]
    exact e1
  · rw [q_Mod_decide, if_pos hv, hcl, h3, e, if_pos hvs, if_pos hv, if_pos rfl, hcs, hq s hs, (qn_ok s hs).1]
    exact e2
theorem tak_dec {s sp ci : Nat} {w b0 re dec dbl dc gs : Int32} {qu gv st' fv' dg : Nat → Int32} {nx : Int32} (hb : fv' ci = 0 ∨ fv' ci = 1) : ∃ b : Int32, (b = 0 ∨ b = 1) ∧ q_Tak_decision w (fv' ci) (if nI sp - nI (qn s) < nI (qn s) then 0 else 1) (nI sp - nI (qn s)) re = some b ∧ (if (nI sp - nI (qn s)) ≤ re then (q_Mod_decide_66 (nI ci) b0 qu 1 gv gs (nI (qn s)) (fv' ci) 0 st' fv' (nI sp - nI (qn s)) dec dbl dg dc nx re) else (q_Mod_decide_66 (nI ci) b0 qu 1 gv gs (nI (qn s)) (fv' ci) 1 st' fv' (nI sp - nI (qn s)) dec dbl dg dc nx re)) = q_Mod_decide_105 (nI ci) b0 qu 1 gv gs (nI (qn s)) (fv' ci) b st' fv' (nI sp - nI (qn s)) dec dbl dg dc nx re := by
  have hn : (1 : Int32) - fv' ci = 0 ∨ (1 : Int32) - fv' ci = 1 := by
    rcases hb with q | q <;> rw [q]
    · exact Or.inr rfl
    · exact Or.inl rfl
  unfold q_Tak_decision
  by_cases c1 : nI sp - nI (qn s) ≤ re <;> by_cases c2 : nI sp - nI (qn s) < nI (qn s)
  · exact ⟨fv' ci, hb, by rw [if_pos c1, if_pos c2, q_Tak_decision_14, if_pos rfl], by rw [if_pos c1, q_Mod_decide_66, if_pos c2, q_Mod_decide_79, if_pos rfl, q_Mod_decide_87, if_neg n10, q_Mod_decide_103]⟩
  · exact ⟨1 - fv' ci, hn, by rw [if_pos c1, if_neg c2, q_Tak_decision_14, if_neg n01], by rw [if_pos c1, q_Mod_decide_66, if_neg c2, q_Mod_decide_79, if_neg n01, q_Mod_decide_87, if_pos rfl, q_Mod_decide_103]⟩
  · exact ⟨1 - fv' ci, hn, by rw [if_neg c1, if_pos c2, q_Tak_decision_14, if_neg n10], by rw [if_neg c1, q_Mod_decide_66, if_pos c2, q_Mod_decide_79, if_neg n10, q_Mod_decide_87, if_pos rfl, q_Mod_decide_103]⟩
  · exact ⟨fv' ci, hb, by rw [if_neg c1, if_neg c2, q_Tak_decision_14, if_pos rfl], by rw [if_neg c1, q_Mod_decide_66, if_neg c2, q_Mod_decide_79, if_pos rfl, q_Mod_decide_87, if_neg n10, q_Mod_decide_103]⟩
theorem decide_T {ci sp N t : Nat} {w b0 re dec dbl dc : Int32} {qu st fv st' fv' by_ gv dg : Nat → Int32} (hq : RQ qu) (hc : ci < 2563) (h : RC st fv st' fv') (h1 : 32768 ≤ sp) (h2 : sp ≤ 65536) (ht : t + 9 < 100000) (hN : NB by_ gv N) :
  ∃ b st2 fv2 st2' fv2' m2 dbl2 t2 r2, (b = 0 ∨ b = 1) ∧ q_Cod_decideT (nI ci) w st fv (nI sp) dec dbl by_ (nI N) (nI t) re = some (b, st2, fv2, nI m2, dec + 1, dbl2, nI t2, r2) ∧ q_Mod_decide (nI ci) b0 st' fv' qu (nI sp) dec dbl dg dc 1 gv (nI N) (nI t) re = some (b, st2', fv2', nI m2, dec + 1, dbl2, dg, dc, nI t2, r2) ∧ RC st2 fv2 st2' fv2' ∧ 32768 ≤ m2 ∧ m2 ≤ 65536 ∧ t ≤ t2 ∧ t2 ≤ t + 9 := by
  obtain ⟨h3, h4, ⟨s, hs, e⟩, h5⟩ := h ci hc
  have hv := vpb_nI hc (show 2563 < 2 ^ 31 by omega)
  have hcl := nI_clamp (show ci < 2 ^ 31 by omega)
  have hvs := vpb_nI hs (show 24 < 2 ^ 31 by omega)
  have hcs := nI_clamp (show s < 2 ^ 31 by omega)
  obtain ⟨b, hb, k1, k2⟩ := tak_dec (s := s) (sp := sp) (ci := ci) (w := w) (b0 := b0) (re := re) (dec := dec + 1) (dbl := dbl) (dc := dc) (gs := nI N) (qu := qu) (gv := gv) (st' := st') (fv' := fv') (dg := dg) (nx := nI t) (by rw [h4]; exact h5)
  obtain ⟨st2, fv2, st2', fv2', m2, dbl2, t2, r2, e1, e2, e3⟩ := core_T (w := w) (b0 := b0) (dec := dec) (dbl := dbl) (dc := dc) (dg := dg) (re := re) (qu := qu) hc hs h e hb h1 h2 ht hN
  refine ⟨b, st2, fv2, st2', fv2', m2, dbl2, t2, r2, hb, ?_, ?_, e3⟩
  · rw [h4] at k1
    rw [← e1, q_Cod_decideT, if_pos hv, hcl, e, if_pos hvs, hcs, (qn_ok s hs).1]
    by_cases c : nI sp - nI (qn s) < nI (qn s)
    · rw [if_pos c] at k1
      rw [if_pos c, if_pos c, q_Cod_decideT_37, if_pos hv, hcl, k1, ob_s, if_pos hv]
    · rw [if_neg c] at k1
      rw [if_neg c, if_neg c, q_Cod_decideT_37, if_pos hv, hcl, k1, ob_s, if_pos hv]
  · rw [q_Mod_decide, if_pos hv, hcl, h3, e, if_pos hvs, if_pos hv, if_neg n10, hcs, hq s hs, (qn_ok s hs).1, k2]
    exact e2
