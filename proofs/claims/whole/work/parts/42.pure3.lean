/-! operations that answer a number: told, byteAt, poke, cut -/
theorem n10 : ¬ ((1 : Int32) = 0) := by decide
theorem n20 : ¬ ((2 : Int32) = 0) := by decide
theorem p00 : (0 : Int32) ≤ 0 := by decide
theorem n1l : ¬ ((1 : Int32) ≤ 0) := by decide
theorem n2l : ¬ ((2 : Int32) ≤ 0) := by decide
theorem e00 : (0 : Int32) = 0 := rfl
theorem z0 : (0 : Int32).toNatClampNeg = 0 := rfl
theorem nle_lt {a b : Int32} (h : ¬ a ≤ b) : b < a := Int32.not_le.mp h
theorem le_nlt {a b : Int32} (h : a ≤ b) : ¬ b < a := Int32.not_lt.mpr h
theorem told_eq (W any pr dc db cd any' d' p' b' : Int32) (o : Nat → Int64) (h : RT any pr dc db any' d' p' b') : ∃ (k r : Int32) (o' : Nat → Int64), qq_Law_told W any pr dc db o = some (k, o') ∧ q_Mod_told W cd any' d' p' b' = some (r, k) ∧ (k = 0 → o' 0 = r.toInt64) := by
  obtain ⟨rfl, h⟩ := h
  by_cases h1 : W < 0
  · refine ⟨1, 0, o, ?_, ?_, fun h => absurd h n10⟩
    · simp only [qq_Law_told, q_Law_told, q_Law_told_A, q_Top_told, q_Top_told_9, q_Top_told_A, q_Top_told_A_9, if_pos h1, bn, or_n, or_s, ob_s]
    · simp only [q_Mod_told, q_Mod_within, if_pos h1, ob_s, if_true, q_Mod_told_26, if_neg n1l]
  · by_cases h2 : W ≤ 2
    · rcases h with rfl | ⟨rfl, rfl, rfl, rfl⟩
      · refine ⟨2, 0, o, ?_, ?_, fun h => absurd h n20⟩
        · simp only [qq_Law_told, q_Law_told, q_Law_told_A, q_Law_told_S, q_Top_told, q_Top_told_A, q_Top_told_S, if_neg h1, if_pos h2, if_true, bn, or_n, or_s, ob_s]
        · simp only [q_Mod_told, q_Mod_within, if_neg h1, if_neg (le_nlt h2), ob_s, if_neg n10, if_true, q_Mod_told_26, if_neg n2l]
      · by_cases h4 : W = 0
        · refine ⟨0, dc, vp_updL o 0 dc.toInt64, ?_, ?_, fun _ => ?_⟩
          rotate_left 2
          · exact vpL_same o 0 dc.toInt64
          · simp only [qq_Law_told, q_Law_told, q_Top_told, if_neg h1, if_pos h2, if_neg n10, if_pos h4, or_s, ob_s, z0]
          · simp only [q_Mod_told, q_Mod_within, if_neg h1, if_neg (le_nlt h2), ob_s, if_neg n10, if_pos h4, q_Mod_told_26, if_pos p00]
        · by_cases h5 : W = 1
          · refine ⟨0, pr, vp_updL o 0 pr.toInt64, ?_, ?_, fun _ => ?_⟩
            rotate_left 2
            · exact vpL_same o 0 pr.toInt64
            · simp only [qq_Law_told, q_Law_told, q_Top_told, if_neg h1, if_pos h2, if_neg n10, if_neg h4, if_pos h5, or_s, ob_s, z0]
            · simp only [q_Mod_told, q_Mod_within, if_neg h1, if_neg (le_nlt h2), ob_s, if_neg n10, if_neg h4, if_pos h5, q_Mod_told_26, if_pos p00]
          · refine ⟨0, db, vp_updL o 0 db.toInt64, ?_, ?_, fun _ => ?_⟩
            rotate_left 2
            · exact vpL_same o 0 db.toInt64
            · simp only [qq_Law_told, q_Law_told, q_Top_told, if_neg h1, if_pos h2, if_neg n10, if_neg h4, if_neg h5, or_s, ob_s, z0]
            · simp only [q_Mod_told, q_Mod_within, if_neg h1, if_neg (le_nlt h2), ob_s, if_neg n10, if_neg h4, if_neg h5, q_Mod_told_26, if_pos p00]
    · refine ⟨1, 0, o, ?_, ?_, fun h => absurd h n10⟩
      · simp only [qq_Law_told, q_Law_told, q_Law_told_A, q_Top_told, q_Top_told_9, q_Top_told_A, q_Top_told_A_9, if_neg h1, if_neg h2, bn, or_n, or_s, ob_s]
      · simp only [q_Mod_told, q_Mod_within, if_neg h1, if_pos (nle_lt h2), ob_s, if_true, q_Mod_told_26, if_neg n1l]
theorem case_9 {xs : Nat → Int32} {L : Nat} {x4 : Int32} {x : XS} {y : MS} {o : Nat → Int64} (h : Rel x y) (i1 : vpb (x4 + (1 : Int32)) L = true) : Keeps1 (q_lawcase_9 xs L x4 x y o) := by
  obtain ⟨hp, hf, ht, hq⟩ := h
  obtain ⟨k, r, o', e1, e2, e3⟩ := told_eq (xs (x4 + (1 : Int32)).toNatClampNeg) _ _ _ _ y.1 _ _ _ _ o ht
  by_cases hk : k = 0
  · apply Keeps1.mk
    · intro rec
      unfold q_lawcase_9
      rw [if_pos i1, e1, ob_s, if_pos i1, e2, ob_s, show q_Mod_thrown (r, k).2 = some k from rfl, ob_s, if_pos rfl, if_pos hk, if_pos (by show lg_cmp (o' 0) r.toInt64 = 0; rw [e3 hk]; exact lg_same _)]
    · exact ⟨hp, hf, ht, hq⟩
  · apply Keeps1.mk
    · intro rec
      unfold q_lawcase_9
      rw [if_pos i1, e1, ob_s, if_pos i1, e2, ob_s, show q_Mod_thrown (r, k).2 = some k from rfl, ob_s, if_pos rfl, if_neg hk]
    · exact ⟨hp, hf, ht, hq⟩
/-- an index of the file -/
theorem has_in {i n : Nat} (h : i < n) (hn : n ≤ 900) : q_Fil_has (nI i) (nI n) = some 1 := by
  unfold q_Fil_has
  rw [if_neg (nI_pos (by omega)), if_neg (nI_ge h (by omega))]
theorem has_out {X : Int32} {n : Nat} (h : ¬ ∃ i : Nat, i < n ∧ X = nI i) (hn : n ≤ 900) : q_Fil_has X (nI n) = some 0 := by
  unfold q_Fil_has
  rcases pk_ix X (n := n) (by omega) with q | q | ⟨i, hi, hX⟩
  · rw [if_pos q]
  · by_cases h1 : X < 0
    · rw [if_pos h1]
    · rw [if_neg h1, if_pos q]
  · exact absurd ⟨i, hi, hX⟩ h
theorem at_in {i n : Nat} {by_ : Nat → Int32} (h : i < n) (hn : n ≤ 900) : q_Fil_at (nI i) by_ (nI n) = some (by_ i) := by
  unfold q_Fil_at
  rw [has_in h hn, ob_s, if_neg n10, if_pos (vpb_nI (by omega) (by omega)), nI_clamp (by omega)]
theorem at_out {X : Int32} {n : Nat} {by_ : Nat → Int32} (h : ¬ ∃ i : Nat, i < n ∧ X = nI i) (hn : n ≤ 900) : q_Fil_at X by_ (nI n) = some 0 := by
  unfold q_Fil_at
  rw [has_out h hn, ob_s, if_pos rfl]
/-- within the file, as the reference asks it: also where it is empty -/
theorem wf_in {i n : Nat} (h : i < n) (hn : n ≤ 900) : q_Mod_within (nI i) (0 : Int32) (nI n - (1 : Int32)) = some 1 := by
  rw [pred_nI (by omega)]
  exact wi0_in (by omega) (by omega)
theorem wf_out {X : Int32} {n : Nat} (h : ¬ ∃ i : Nat, i < n ∧ X = nI i) (hn : n ≤ 900) : q_Mod_within X (0 : Int32) (nI n - (1 : Int32)) = some 0 := by
  by_cases h0 : n = 0
  · subst h0
    unfold q_Mod_within
    by_cases h1 : X < 0
    · rw [if_pos h1]
    · rw [if_neg h1, if_pos]
      rw [Int32.lt_iff_toInt_lt, Int32.toInt_zero] at h1
      rw [Int32.lt_iff_toInt_lt, show (nI 0 - (1 : Int32)).toInt = -1 from rfl]
      omega
  · rw [pred_nI (by omega)]
    exact wi0_out (fun ⟨i, h1, h2⟩ => h ⟨i, by omega, h2⟩) (by omega)
theorem byteAt_eq (X : Int32) (by_ file : Nat → Int32) (len length cd : Int32) (o : Nat → Int64) (h : RF by_ len file length) : ∃ (k r : Int32) (o' : Nat → Int64), qq_Law_byteAt X by_ len o = some (k, o') ∧ q_Mod_byteAt X cd length file = some (r, k) ∧ (k = 0 → o' 0 = r.toInt64) := by
  obtain ⟨n, hn, rfl, rfl, hb⟩ := h
  by_cases h1 : ∃ i : Nat, i < n ∧ X = nI i
  · obtain ⟨i, hi, rfl⟩ := h1
    refine ⟨0, file i, vp_updL o 0 (file i).toInt64, ?_, ?_, fun _ => ?_⟩
    rotate_left 2
    · exact vpL_same o 0 (file i).toInt64
    · simp only [qq_Law_byteAt, q_Law_byteAt, q_Top_byteAt, has_in hi hn, at_in hi hn, ob_s, if_neg n10, or_s, z0, (hb i hi).1]
    · simp only [q_Mod_byteAt, wf_in hi hn, ob_s, if_neg n10, q_Mod_byteAt_20, if_pos p00, vpb_nI (show i < 900 by omega) (by omega), if_true, nI_clamp (show i < 2 ^ 31 by omega)]
  · refine ⟨1, 0, o, ?_, ?_, fun h => absurd h n10⟩
    · simp only [qq_Law_byteAt, q_Law_byteAt, q_Law_byteAt_O, q_Top_byteAt, q_Top_byteAt_O, has_out h1 hn, ob_s, if_true, bn, or_n]
    · simp only [q_Mod_byteAt, wf_out h1 hn, ob_s, if_true, q_Mod_byteAt_20, if_neg n1l]
theorem case_11 {xs : Nat → Int32} {L : Nat} {x4 : Int32} {x : XS} {y : MS} {o : Nat → Int64} (h : Rel x y) (i1 : vpb (x4 + (1 : Int32)) L = true) : Keeps1 (q_lawcase_11 xs L x4 x y o) := by
  obtain ⟨hp, hf, ht, hq⟩ := h
  obtain ⟨k, r, o', e1, e2, e3⟩ := byteAt_eq (xs (x4 + (1 : Int32)).toNatClampNeg) _ _ _ _ y.1 o hf
  by_cases hk : k = 0
  · apply Keeps1.mk
    · intro rec
      unfold q_lawcase_11
      rw [if_pos i1, e1, ob_s, if_pos i1, e2, ob_s, show q_Mod_thrown (r, k).2 = some k from rfl, ob_s, if_pos rfl, if_pos hk, if_pos (by show lg_cmp (o' 0) r.toInt64 = 0; rw [e3 hk]; exact lg_same _)]
    · exact ⟨hp, hf, ht, hq⟩
  · apply Keeps1.mk
    · intro rec
      unfold q_lawcase_11
      rw [if_pos i1, e1, ob_s, if_pos i1, e2, ob_s, show q_Mod_thrown (r, k).2 = some k from rfl, ob_s, if_pos rfl, if_neg hk]
    · exact ⟨hp, hf, ht, hq⟩
