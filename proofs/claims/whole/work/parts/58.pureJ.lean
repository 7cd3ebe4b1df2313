/-! the whole look through the file; a layer's bytes collected -/
def SI (B : Nat → Int) (k : Nat) (st en bg : Nat → Int32) : Prop := ∀ i, i < k → ∃ u s e : Nat, st i = nI s ∧ en i = nI e ∧ bg i = nI s ∧ Seg B u s e ∧ s < 2000
theorem SI_upd {B : Nat → Int} {k u s e : Nat} {st en bg : Nat → Int32} (h : SI B k st en bg) (hS : Seg B u s e) (hs : s < 2000) : SI B (k + 1) (upd st k (nI s)) (upd en k (nI e)) (upd bg k (nI s)) := by
  intro i hi
  by_cases c : i = k
  · subst c
    exact ⟨u, s, e, upd_same _ _ _, upd_same _ _ _, upd_same _ _ _, hS, hs⟩
  · rw [upd_other _ _ c, upd_other _ _ c, upd_other _ _ c]
    exact h i (by omega)
theorem pos_n (n : Nat) (h : n < 2 ^ 31) : (0 : Int32) ≤ nI n := nI_pos' h
theorem npos_n (n : Nat) (h : n < 10000) : ¬ (0 : Int32) ≤ zI (-1 - n) := fun q => absurd ((zI_le (a := 0) (by omega) (by omega) (by omega) (by omega)).mp q) (by omega)
theorem scan_go {by_ file : Nat → Int32} {n lc : Nat} {B : Nat → Int} {W H W' H' : Int32} (h : BB by_ file n B) (hlc : lc ≤ 3) : ∀ d k F F' p st en bg, k + d = lc → d < F → d < F' → p ≤ n → SI B k st en bg → (∃ j st2 en2 bg2 p2, j ≤ n ∧ q_Fil_failure_19 by_ (nI n) F (nI k) st en W H (nI lc) (nI p) = some (nI j, st2, en2, W, H, nI lc, p2) ∧ q_Mod_look_141 (nI n) file F' (nI p) (nI k) bg (nI lc) W' H' = some (nI j, bg2, nI lc, W', H')) ∨ (∃ st2 en2 bg2 p2, q_Fil_failure_19 by_ (nI n) F (nI k) st en W H (nI lc) (nI p) = some (-1, st2, en2, W, H, nI lc, p2) ∧ q_Mod_look_141 (nI n) file F' (nI p) (nI k) bg (nI lc) W' H' = some (-1, bg2, nI lc, W', H') ∧ SI B lc st2 en2 bg2) := by
  have hn := h.1
  intro d
  induction d with
  | zero =>
    intro k F F' p st en bg hk hF hF' hp hS
    obtain ⟨F, rfl⟩ : ∃ m, F = m + 1 := ⟨F - 1, by omega⟩
    obtain ⟨F', rfl⟩ : ∃ m, F' = m + 1 := ⟨F' - 1, by omega⟩
    obtain rfl : k = lc := by omega
    by_cases c : p < n
    · refine Or.inl ⟨p, st, en, bg, nI p, hp, ?_, ?_⟩
      · rw [q_Fil_failure_19, if_pos (Int32.le_refl _), has_b hn (by omega), if_pos c, ob_s, if_neg n10]
      · rw [q_Mod_look_141, if_pos (Int32.le_refl _), if_neg (nI_ge c (by omega))]
    · refine Or.inr ⟨st, en, bg, nI p, ?_, ?_, hS⟩
      · rw [q_Fil_failure_19, if_pos (Int32.le_refl _), has_b hn (by omega), if_neg c, ob_s, if_pos rfl]
      · rw [q_Mod_look_141, if_pos (Int32.le_refl _), if_pos (nI_le (by omega) (by omega))]
  | succ d ih =>
    intro k F F' p st en bg hk hF hF' hp hS
    obtain ⟨F, rfl⟩ : ∃ m, F = m + 1 := ⟨F - 1, by omega⟩
    obtain ⟨F', rfl⟩ : ∃ m, F' = m + 1 := ⟨F' - 1, by omega⟩
    have k3 : k < 3 := by omega
    have gk : ¬ nI lc ≤ nI k := nI_ge (by omega) (by omega)
    rw [q_Fil_failure_19, if_neg gk, q_Mod_look_141, if_neg gk, q_Fil_passLayer, q_Fil_passAllRemarks, q_Mod_behindRemarks, show (0 : Int32) = nI 0 from rfl]
    rcases rem_go (fr := nI p) h n p 0 5000 5000 (by omega) (by omega) (by omega) hp (by omega) with ⟨q, q1, q2, q3, q4⟩ | ⟨q3, q4⟩
    · rw [q3, q4, ob_s, ob_s, if_neg (show ¬ ((1 : Int32), nI q).1 = nI 0 from n10), if_pos (vpb_nI k3 (by omega)), if_pos (show nI 0 ≤ nI q from pos_n q (by omega)), if_pos (vpb_nI k3 (by omega)), nI_clamp (by omega), q_Mod_behindLayer]
      rcases lay_go (en := en) (st := upd st k (nI q)) (fr := nI q) h k3 n q 0 5000 5000 (by omega) (by omega) (by omega) q2 (by omega) with ⟨u, e, r1, r2, r3, r4⟩ | ⟨j, r1, r2, r3⟩
      · rw [r3, r4, ob_s, ob_s, if_neg (show ¬ ((1 : Int32), upd st k (nI q), upd en k (nI e), nI (e + 2)).1 = nI 0 from n10), if_pos (show nI 0 ≤ nI (e + 2) from pos_n (e + 2) (by omega)), nI_1]
        exact ih (k + 1) F F' (e + 2) _ _ _ (by omega) (by omega) (by omega) r2 (SI_upd hS r1 (by omega))
      · rw [r2, r3, ob_s, ob_s, if_pos (show ((0 : Int32), upd st k (nI q), en, nI j).1 = nI 0 from rfl), if_neg (show ¬ nI 0 ≤ zI (-1 - j) from npos_n j (by omega)), negneg]
        exact Or.inl ⟨j, _, _, _, _, r1, rfl, rfl⟩
    · rw [q3, q4, ob_s, ob_s, if_pos (show ((0 : Int32), nI n).1 = nI 0 from rfl), ob_s, if_pos (show (nI 0, st, en, ((0 : Int32), nI n).2).1 = nI 0 from rfl), if_neg (show ¬ nI 0 ≤ zI (-1 - n) from npos_n n (by omega)), negneg]
      exact Or.inl ⟨n, _, _, _, _, Nat.le_refl _, rfl, rfl⟩
theorem pB_y {by_ file : Nat → Int32} {n p lo hi : Nat} {B : Nat → Int} (h : BB by_ file n B) (hp : p < 100000) (hl : lo < 1000) (hh : hi < 1000) (c : (lo : Int) ≤ B p ∧ B p ≤ hi) : q_Fil_passByte (nI lo) (nI hi) by_ (nI n) (nI p) = some (1, nI (p + 1)) := by
  rw [passB h hp hl hh, if_pos c]
theorem pB_n {by_ file : Nat → Int32} {n p lo hi : Nat} {B : Nat → Int} (h : BB by_ file n B) (hp : p < 100000) (hl : lo < 1000) (hh : hi < 1000) (c : ¬ ((lo : Int) ≤ B p ∧ B p ≤ hi)) : q_Fil_passByte (nI lo) (nI hi) by_ (nI n) (nI p) = some (0, nI p) := by
  rw [passB h hp hl hh, if_neg c]
theorem look_eq {by_ file st en bg : Nat → Int32} {n : Nat} {B : Nat → Int} {fw fh fc fp lcm nw nh : Int32} (h : BB by_ file n B) : (∃ (j : Nat) (st2 en2 : Nat → Int32) (w2 h2 l2 p2 : Int32) (bg2 : Nat → Int32) (l3 w3 h3 : Int32), j ≤ 900 ∧ q_Fil_failure by_ st en (nI n) fw fh fc fp = some (nI j, st2, en2, w2, h2, l2, p2) ∧ q_Mod_look (nI n) file bg lcm nw nh = some (nI j, bg2, l3, w3, h3)) ∨ (∃ (W H lc : Nat) (st2 en2 bg2 : Nat → Int32) (p2 : Int32), 1 ≤ W ∧ W ≤ 16 ∧ 1 ≤ H ∧ H ≤ 16 ∧ 1 ≤ lc ∧ lc ≤ 3 ∧ q_Fil_failure by_ st en (nI n) fw fh fc fp = some (-1, st2, en2, nI W, nI H, nI lc, p2) ∧ q_Mod_look (nI n) file bg lcm nw nh = some (-1, bg2, nI lc, nI W, nI H) ∧ SI B lc st2 en2 bg2) := by
  have hn := h.1
  have m0 : q_Mod_byteIn (0 : Int32) (nI n) file = some (zI (B 0)) := byIn h 0 (by omega)
  have m1 : q_Mod_byteIn (1 : Int32) (nI n) file = some (zI (B 1)) := byIn h 1 (by omega)
  have m2 : q_Mod_byteIn (2 : Int32) (nI n) file = some (zI (B 2)) := byIn h 2 (by omega)
  have m3 : q_Mod_byteIn (3 : Int32) (nI n) file = some (zI (B 3)) := byIn h 3 (by omega)
  have m4 : q_Mod_byteIn (4 : Int32) (nI n) file = some (zI (B 4)) := byIn h 4 (by omega)
  have l2 := h.lo 2
  have l3 := h.lo 3
  have l4 := h.lo 4
  have w2 : q_Mod_within (zI (B 2)) (1 : Int32) (16 : Int32) = some (if ((1 : Nat) : Int) ≤ B 2 ∧ B 2 ≤ ((16 : Nat) : Int) then 1 else 0) := within_z (lo := 1) (hi := 16) (by omega) (by omega) (by omega) (by omega)
  have w3 : q_Mod_within (zI (B 3)) (1 : Int32) (16 : Int32) = some (if ((1 : Nat) : Int) ≤ B 3 ∧ B 3 ≤ ((16 : Nat) : Int) then 1 else 0) := within_z (lo := 1) (hi := 16) (by omega) (by omega) (by omega) (by omega)
  have w4 : q_Mod_within (zI (B 4)) (1 : Int32) (3 : Int32) = some (if ((1 : Nat) : Int) ≤ B 4 ∧ B 4 ≤ ((3 : Nat) : Int) then 1 else 0) := within_z (lo := 1) (hi := 3) (by omega) (by omega) (by omega) (by omega)
  have i0 := (isv h 0 (v := 74) (V := 74) rfl (by omega) (by omega)).1
  have i1 := (isv h 1 (v := 66) (V := 66) rfl (by omega) (by omega)).1
  by_cases c0 : B 0 = 74
  · have q0 : q_Fil_passByte (74 : Int32) (74 : Int32) by_ (nI n) (0 : Int32) = some (1, nI 1) := pB_y (lo := 74) (hi := 74) (p := 0) h (by omega) (by omega) (by omega) (by omega)
    by_cases c1 : B 1 = 66
    · have q1 : q_Fil_passByte (66 : Int32) (66 : Int32) by_ (nI n) (nI 1) = some (1, nI 2) := pB_y (lo := 66) (hi := 66) (p := 1) h (by omega) (by omega) (by omega) (by omega)
      by_cases c2 : 1 ≤ B 2 ∧ B 2 ≤ 16
      · have q2 : q_Fil_passByte (1 : Int32) (16 : Int32) by_ (nI n) (nI 2) = some (1, nI 3) := pB_y (lo := 1) (hi := 16) (p := 2) h (by omega) (by omega) (by omega) (by omega)
        rw [if_pos (show ((1 : Nat) : Int) ≤ B 2 ∧ B 2 ≤ ((16 : Nat) : Int) by omega)] at w2
        by_cases c3 : 1 ≤ B 3 ∧ B 3 ≤ 16
        · have q3 : q_Fil_passByte (1 : Int32) (16 : Int32) by_ (nI n) (nI 3) = some (1, nI 4) := pB_y (lo := 1) (hi := 16) (p := 3) h (by omega) (by omega) (by omega) (by omega)
          rw [if_pos (show ((1 : Nat) : Int) ≤ B 3 ∧ B 3 ≤ ((16 : Nat) : Int) by omega)] at w3
          by_cases c4 : 1 ≤ B 4 ∧ B 4 ≤ 3
          · have q4 : q_Fil_passByte (1 : Int32) (3 : Int32) by_ (nI n) (nI 4) = some (1, nI 5) := pB_y (lo := 1) (hi := 3) (p := 4) h (by omega) (by omega) (by omega) (by omega)
            rw [if_pos (show ((1 : Nat) : Int) ≤ B 4 ∧ B 4 ≤ ((3 : Nat) : Int) by omega)] at w4
            have n4 : 4 < n := h.lt (by omega)
            obtain ⟨W, eW⟩ := Int.eq_ofNat_of_zero_le (show 0 ≤ B 2 by omega)
            obtain ⟨H, eH⟩ := Int.eq_ofNat_of_zero_le (show 0 ≤ B 3 by omega)
            obtain ⟨lc, eC⟩ := Int.eq_ofNat_of_zero_le (show 0 ≤ B 4 by omega)
            have a2 : q_Fil_at (2 : Int32) by_ (nI n) = some (nI W) := by
              rw [show q_Fil_at (2 : Int32) by_ (nI n) = _ from at_b h 2 (by omega), if_pos (by omega), eW, zI_nat]
            have a3 : q_Fil_at (3 : Int32) by_ (nI n) = some (nI H) := by
              rw [show q_Fil_at (3 : Int32) by_ (nI n) = _ from at_b h 3 (by omega), if_pos (by omega), eH, zI_nat]
            have a4 : q_Fil_at (4 : Int32) by_ (nI n) = some (nI lc) := by
              rw [show q_Fil_at (4 : Int32) by_ (nI n) = _ from at_b h 4 (by omega), if_pos (by omega), eC, zI_nat]
            have hc : q_Fil_failure by_ st en (nI n) fw fh fc fp = q_Fil_failure_19 by_ (nI n) 5000 (nI 0) st en (nI W) (nI H) (nI lc) (nI 5) := by
              rw [q_Fil_failure, q_Fil_passHead, q0, ob_s, if_neg (show ¬ ((1 : Int32), nI 1).1 = 0 from n10), q1, ob_s, if_neg (show ¬ ((1 : Int32), nI 2).1 = 0 from n10), q2, ob_s, if_neg (show ¬ ((1 : Int32), nI 3).1 = 0 from n10), q3, ob_s, if_neg (show ¬ ((1 : Int32), nI 4).1 = 0 from n10), q4, ob_s, if_neg (show ¬ ((1 : Int32), nI 5).1 = 0 from n10), q_Fil_passHead_56, if_neg n10, a2, ob_s, a3, ob_s, a4, ob_s, if_pos (Or.inr rfl), ob_s, if_neg (show ¬ ((1 : Int32), nI W, nI H, nI lc, nI 5).1 = 0 from n10)]
              rfl
            have hm : q_Mod_look (nI n) file bg lcm nw nh = q_Mod_look_141 (nI n) file 5000 (nI 5) (nI 0) bg (nI lc) (nI W) (nI H) := by
              rw [q_Mod_look, m2, ob_s, m3, ob_s, m4, ob_s, m0, ob_s, if_pos (i0.mpr c0), m1, ob_s, if_pos (i1.mpr c1), w2, ob_s, if_neg n10, w3, ob_s, if_neg n10, w4, ob_s, if_neg n10, eW, eH, eC, zI_nat, zI_nat, zI_nat]
              rfl
            rw [hc, hm]
            rcases scan_go (W := nI W) (H := nI H) (W' := nI W) (H' := nI H) h (show lc ≤ 3 by omega) lc 0 5000 5000 5 st en bg (by omega) (by omega) (by omega) (by omega) (fun i hi => absurd hi (by omega)) with ⟨j, s2, e2, b2, p2, r1, r2, r3⟩ | ⟨s2, e2, b2, p2, r1, r2, r3⟩
            · exact Or.inl ⟨j, s2, e2, _, _, _, p2, b2, _, _, _, by omega, r2, r3⟩
            · exact Or.inr ⟨W, H, lc, s2, e2, b2, p2, by omega, by omega, by omega, by omega, by omega, by omega, r1, r2, r3⟩
          · have q4 : q_Fil_passByte (1 : Int32) (3 : Int32) by_ (nI n) (nI 4) = some (0, nI 4) := pB_n (lo := 1) (hi := 3) (p := 4) h (by omega) (by omega) (by omega) (by omega)
            rw [if_neg (show ¬ (((1 : Nat) : Int) ≤ B 4 ∧ B 4 ≤ ((3 : Nat) : Int)) by omega)] at w4
            refine Or.inl ⟨4, st, en, fw, fh, fc, nI 4, bg, zI (B 4), zI (B 2), zI (B 3), by omega, ?_, ?_⟩
            · rw [q_Fil_failure, q_Fil_passHead, q0, ob_s, if_neg (show ¬ ((1 : Int32), nI 1).1 = 0 from n10), q1, ob_s, if_neg (show ¬ ((1 : Int32), nI 2).1 = 0 from n10), q2, ob_s, if_neg (show ¬ ((1 : Int32), nI 3).1 = 0 from n10), q3, ob_s, if_neg (show ¬ ((1 : Int32), nI 4).1 = 0 from n10), q4, ob_s, if_pos (show ((0 : Int32), nI 4).1 = 0 from rfl), q_Fil_passHead_55, q_Fil_passHead_56, if_pos rfl, if_pos (Or.inl rfl), ob_s, if_pos (show ((0 : Int32), fw, fh, fc, nI 4).1 = 0 from rfl)]
            · rw [q_Mod_look, m2, ob_s, m3, ob_s, m4, ob_s, m0, ob_s, if_pos (i0.mpr c0), m1, ob_s, if_pos (i1.mpr c1), w2, ob_s, if_neg n10, w3, ob_s, if_neg n10, w4, ob_s, if_pos rfl, q_Mod_look_101, w2, ob_s, if_neg n10, w3, ob_s, if_neg n10]
              rfl
        · have q3 : q_Fil_passByte (1 : Int32) (16 : Int32) by_ (nI n) (nI 3) = some (0, nI 3) := pB_n (lo := 1) (hi := 16) (p := 3) h (by omega) (by omega) (by omega) (by omega)
          rw [if_neg (show ¬ (((1 : Nat) : Int) ≤ B 3 ∧ B 3 ≤ ((16 : Nat) : Int)) by omega)] at w3
          refine Or.inl ⟨3, st, en, fw, fh, fc, nI 3, bg, zI (B 4), zI (B 2), zI (B 3), by omega, ?_, ?_⟩
          · rw [q_Fil_failure, q_Fil_passHead, q0, ob_s, if_neg (show ¬ ((1 : Int32), nI 1).1 = 0 from n10), q1, ob_s, if_neg (show ¬ ((1 : Int32), nI 2).1 = 0 from n10), q2, ob_s, if_neg (show ¬ ((1 : Int32), nI 3).1 = 0 from n10), q3, ob_s, if_pos (show ((0 : Int32), nI 3).1 = 0 from rfl), q_Fil_passHead_55, q_Fil_passHead_56, if_pos rfl, if_pos (Or.inl rfl), ob_s, if_pos (show ((0 : Int32), fw, fh, fc, nI 3).1 = 0 from rfl)]
          · rw [q_Mod_look, m2, ob_s, m3, ob_s, m4, ob_s, m0, ob_s, if_pos (i0.mpr c0), m1, ob_s, if_pos (i1.mpr c1), w2, ob_s, if_neg n10, w3, ob_s, if_pos rfl, q_Mod_look_101, w2, ob_s, if_neg n10, w3, ob_s, if_pos rfl]
            rfl
      · have q2 : q_Fil_passByte (1 : Int32) (16 : Int32) by_ (nI n) (nI 2) = some (0, nI 2) := pB_n (lo := 1) (hi := 16) (p := 2) h (by omega) (by omega) (by omega) (by omega)
        rw [if_neg (show ¬ (((1 : Nat) : Int) ≤ B 2 ∧ B 2 ≤ ((16 : Nat) : Int)) by omega)] at w2
        refine Or.inl ⟨2, st, en, fw, fh, fc, nI 2, bg, zI (B 4), zI (B 2), zI (B 3), by omega, ?_, ?_⟩
        · rw [q_Fil_failure, q_Fil_passHead, q0, ob_s, if_neg (show ¬ ((1 : Int32), nI 1).1 = 0 from n10), q1, ob_s, if_neg (show ¬ ((1 : Int32), nI 2).1 = 0 from n10), q2, ob_s, if_pos (show ((0 : Int32), nI 2).1 = 0 from rfl), q_Fil_passHead_55, q_Fil_passHead_56, if_pos rfl, if_pos (Or.inl rfl), ob_s, if_pos (show ((0 : Int32), fw, fh, fc, nI 2).1 = 0 from rfl)]
        · rw [q_Mod_look, m2, ob_s, m3, ob_s, m4, ob_s, m0, ob_s, if_pos (i0.mpr c0), m1, ob_s, if_pos (i1.mpr c1), w2, ob_s, if_pos rfl, q_Mod_look_101, w2, ob_s, if_pos rfl]
          rfl
    · have q1 : q_Fil_passByte (66 : Int32) (66 : Int32) by_ (nI n) (nI 1) = some (0, nI 1) := pB_n (lo := 66) (hi := 66) (p := 1) h (by omega) (by omega) (by omega) (by omega)
      refine Or.inl ⟨1, st, en, fw, fh, fc, nI 1, bg, zI (B 4), zI (B 2), zI (B 3), by omega, ?_, ?_⟩
      · rw [q_Fil_failure, q_Fil_passHead, q0, ob_s, if_neg (show ¬ ((1 : Int32), nI 1).1 = 0 from n10), q1, ob_s, if_pos (show ((0 : Int32), nI 1).1 = 0 from rfl), q_Fil_passHead_55, q_Fil_passHead_56, if_pos rfl, if_pos (Or.inl rfl), ob_s, if_pos (show ((0 : Int32), fw, fh, fc, nI 1).1 = 0 from rfl)]
      · rw [q_Mod_look, m2, ob_s, m3, ob_s, m4, ob_s, m0, ob_s, if_pos (i0.mpr c0), m1, ob_s, if_neg (fun q => c1 (i1.mp q)), q_Mod_look_47, m0, ob_s, if_pos (i0.mpr c0)]
        rfl
  · have q0 : q_Fil_passByte (74 : Int32) (74 : Int32) by_ (nI n) (0 : Int32) = some (0, nI 0) := pB_n (lo := 74) (hi := 74) (p := 0) h (by omega) (by omega) (by omega) (by omega)
    refine Or.inl ⟨0, st, en, fw, fh, fc, nI 0, bg, zI (B 4), zI (B 2), zI (B 3), by omega, ?_, ?_⟩
    · rw [q_Fil_failure, q_Fil_passHead, q0, ob_s, if_pos (show ((0 : Int32), nI 0).1 = 0 from rfl), q_Fil_passHead_55, q_Fil_passHead_56, if_pos rfl, if_pos (Or.inl rfl), ob_s, if_pos (show ((0 : Int32), fw, fh, fc, nI 0).1 = 0 from rfl)]
    · rw [q_Mod_look, m2, ob_s, m3, ob_s, m4, ob_s, m0, ob_s, if_neg (fun q => c0 (i0.mp q)), q_Mod_look_47, m0, ob_s, if_neg (fun q => c0 (i0.mp q))]
      rfl
