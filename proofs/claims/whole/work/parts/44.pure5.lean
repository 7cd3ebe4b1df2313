/-! set, row, type -/
theorem paint_in {i j a b : Nat} {v : Int32} {px : Nat → Int32} (hi : i < a) (hj : j < b) (ha : a ≤ 16) (hb : b ≤ 16) : q_Pic_paint (nI i) (nI j) v px (nI a) (nI b) = some (upd px (16 * j + i) v) := by
  unfold q_Pic_paint
  rw [cov_in hi hj ha hb, ob_s, if_neg (by decide), ix16, if_pos (vpb_nI (by omega) (by omega)), nI_clamp (by omega)]
theorem cell_inj {i j i' j' : Nat} (h1 : i < 16) (h2 : i' < 16) (h : 16 * j + i = 16 * j' + i') : i = i' ∧ j = j' := by omega
theorem RP_upd {px pic : Nat → Int32} {a b i j : Nat} {v : Int32} (a1 : 1 ≤ a) (a2 : a ≤ 16) (b1 : 1 ≤ b) (b2 : b ≤ 16) (h : ∀ i j, i < a → j < b → px (16 * j + i) = pic (16 * j + i) ∧ (px (16 * j + i) = 0 ∨ px (16 * j + i) = 1)) (hv : v = 0 ∨ v = 1) : RP (upd px (16 * j + i) v) (nI a) (nI b) (upd pic (16 * j + i) v) (nI a) (nI b) := by
  refine ⟨a, b, a1, a2, b1, b2, rfl, rfl, rfl, rfl, fun i' j' hi' hj' => ?_⟩
  by_cases e : 16 * j' + i' = 16 * j + i
  · rw [e, upd_same, upd_same]
    exact ⟨rfl, hv⟩
  · rw [upd_other _ _ e, upd_other _ _ e]
    exact h i' j' hi' hj'
theorem bit_cases (B : Int32) : (B = 0 ∨ B = 1) ∨ (¬ B = 0 ∧ ¬ B = 1 ∧ ¬ ∃ b : Nat, b ≤ 1 ∧ B = nI b) := by
  by_cases h0 : B = 0
  · exact Or.inl (Or.inl h0)
  · by_cases h1 : B = 1
    · exact Or.inl (Or.inr h1)
    · refine Or.inr ⟨h0, h1, fun ⟨b, hb, e⟩ => ?_⟩
      rcases (show b = 0 ∨ b = 1 by omega) with rfl | rfl
      · exact h0 e
      · exact h1 e
theorem set_eq (X Y B : Int32) (px : Nat → Int32) (w h : Int32) (pic : Nat → Int32) (w' h' cd : Int32) (o : Nat → Int64) (hr : RP px w h pic w' h') : ∃ (k r : Int32) (px2 pic2 : Nat → Int32) (o2 : Nat → Int64), qq_Law_set X Y B px w h o = some (k, px2, o2) ∧ q_Mod_set X Y B cd w' h' pic = some (r, k, pic2) ∧ RP px2 w h pic2 w' h' ∧ (k = 0 → o2 0 = r.toInt64) := by
  obtain ⟨a, b, a1, a2, b1, b2, rfl, rfl, rfl, rfl, hp⟩ := hr
  rcases ins_em X Y a b with ⟨i, j, hi, hj, rfl, rfl⟩ | hO
  · rcases bit_cases B with hB | ⟨hB0, hB1, hB⟩
    · refine ⟨0, pic (16 * j + i), upd px (16 * j + i) B, upd pic (16 * j + i) B, vp_updL o 0 (pic (16 * j + i)).toInt64, ?_, ?_, RP_upd a1 a2 b1 b2 hp hB, fun _ => vpL_same _ _ _⟩
      · rcases hB with rfl | rfl
        · simp only [qq_Law_set, q_Law_set, q_Top_set, q_Top_set_37, cov_in hi hj a2 b2, ob_s, if_neg n10, if_true, pix a2 b2, pv_in hi hj a2 b2, paint_in hi hj a2 b2, or_s, z0, (hp i j hi hj).1]
        · simp only [qq_Law_set, q_Law_set, q_Top_set, q_Top_set_37, cov_in hi hj a2 b2, ob_s, if_neg n10, if_true, pix a2 b2, pv_in hi hj a2 b2, paint_in hi hj a2 b2, or_s, z0, (hp i j hi hj).1]
      · have hw : q_Mod_within B (0 : Int32) (1 : Int32) = some 1 := by
          rcases hB with rfl | rfl <;> rfl
        simp only [q_Mod_set, q_Mod_set_28, pl_in hi hj a2 b2, ob_s, if_neg n10, hw, if_pos p00, ix16, vpb_nI (show 16 * j + i < 256 by omega) (by omega), if_true, nI_clamp (show 16 * j + i < 2 ^ 31 by omega)]
    · refine ⟨2, 0, px, pic, o, ?_, ?_, ⟨a, b, a1, a2, b1, b2, rfl, rfl, rfl, rfl, hp⟩, fun h => absurd h n20⟩
      · simp only [qq_Law_set, q_Law_set, q_Law_set_O, q_Law_set_A, q_Top_set, q_Top_set_O, q_Top_set_A, cov_in hi hj a2 b2, ob_s, if_neg n10, if_neg hB0, if_neg hB1, bn, or_n]
      · have hw : q_Mod_within B (0 : Int32) (1 : Int32) = some 0 := wi0_out (hi := 1) hB (by omega)
        simp only [q_Mod_set, q_Mod_set_28, pl_in hi hj a2 b2, ob_s, if_neg n10, hw, if_true, if_neg n2l]
  · refine ⟨1, 0, px, pic, o, ?_, ?_, ⟨a, b, a1, a2, b1, b2, rfl, rfl, rfl, rfl, hp⟩, fun h => absurd h n10⟩
    · simp only [qq_Law_set, q_Law_set, q_Law_set_O, q_Top_set, q_Top_set_O, cov_out hO a2 b2, ob_s, if_true, bn, or_n, or_s]
    · simp only [q_Mod_set, q_Mod_set_28, pl_out hO a1 b1 a2 b2, ob_s, if_true, if_neg n1l]
theorem case_1 {xs : Nat → Int32} {L : Nat} {x4 : Int32} {x : XS} {y : MS} {o : Nat → Int64} (h : Rel x y) (i1 : vpb (x4 + (1 : Int32)) L = true) (i2 : vpb (x4 + (2 : Int32)) L = true) (i3 : vpb (x4 + (3 : Int32)) L = true) : Keeps1 (q_lawcase_1 xs L x4 x y o) := by
  obtain ⟨hp, hf, ht, hq⟩ := h
  obtain ⟨k, r, px2, pic2, o2, e1, e2, e3, e4⟩ := set_eq (xs (x4 + (1 : Int32)).toNatClampNeg) (xs (x4 + (2 : Int32)).toNatClampNeg) (xs (x4 + (3 : Int32)).toNatClampNeg) _ _ _ _ _ _ y.1 o hp
  by_cases hk : k = 0
  · apply Keeps1.mk
    · intro rec
      unfold q_lawcase_1
      rw [if_pos i1, if_pos i2, if_pos i3, e1, ob_s, if_pos i1, if_pos i2, if_pos i3, e2, ob_s, show q_Mod_thrown (r, k, pic2).2.1 = some k from rfl, ob_s, if_pos rfl, if_pos hk, if_pos (by show lg_cmp (o2 0) r.toInt64 = 0; rw [e4 hk]; exact lg_same _)]
    · exact ⟨e3, hf, ht, hq⟩
  · apply Keeps1.mk
    · intro rec
      unfold q_lawcase_1
      rw [if_pos i1, if_pos i2, if_pos i3, e1, ob_s, if_pos i1, if_pos i2, if_pos i3, e2, ob_s, show q_Mod_thrown (r, k, pic2).2.1 = some k from rfl, ob_s, if_pos rfl, if_neg hk]
    · exact ⟨e3, hf, ht, hq⟩
theorem and1 (x : Int32) : x &&& (1 : Int32) = 0 ∨ x &&& (1 : Int32) = 1 := by
  obtain ⟨j, hj, e⟩ := pk_andE x (m := 1) 1 rfl
  rcases (show j = 0 ∨ j = 1 by omega) with rfl | rfl
  · exact Or.inl e
  · exact Or.inr e
theorem row_go {a b j : Nat} {bits : Int32} (a1 : 1 ≤ a) (a2 : a ≤ 16) (b1 : 1 ≤ b) (b2 : b ≤ 16) (hj : j < b) : ∀ d x n px pic, x + d = a → d < n → (∀ i j, i < a → j < b → px (16 * j + i) = pic (16 * j + i) ∧ (px (16 * j + i) = 0 ∨ px (16 * j + i) = 1)) → ∃ px2 pic2, q_Top_row_22 (nI j) bits (nI a) (nI b) n (nI x) px = some px2 ∧ q_Mod_row_25 (nI j) bits (nI a) (nI b) n (nI x) 0 pic = some (0, pic2) ∧ RP px2 (nI a) (nI b) pic2 (nI a) (nI b) := by
  intro d
  induction d with
  | zero =>
    intro x n px pic hk hn hp
    obtain ⟨n, rfl⟩ : ∃ m, n = m + 1 := ⟨n - 1, by omega⟩
    obtain rfl : x = a := by omega
    refine ⟨px, pic, ?_, ?_, _, b, a1, a2, b1, b2, rfl, rfl, rfl, rfl, hp⟩
    · rw [q_Top_row_22, if_pos (nI_le (Nat.le_refl _) (by omega))]
    · rw [q_Mod_row_25, if_pos (nI_le (Nat.le_refl _) (by omega))]
  | succ d ih =>
    intro x n px pic hk hn hp
    obtain ⟨n, rfl⟩ : ∃ m, n = m + 1 := ⟨n - 1, by omega⟩
    rw [q_Top_row_22, if_neg (nI_ge (show x < a by omega) (by omega)), paint_in (by omega) hj a2 b2, ob_s, nI_1]
    rw [q_Mod_row_25, if_neg (nI_ge (show x < a by omega) (by omega)), if_pos rfl, ix16, if_pos (vpb_nI (show 16 * j + x < 256 by omega) (by omega)), nI_1, nI_clamp (by omega)]
    obtain ⟨_, _, _, _, _, _, e1, e2, e3, e4, hp2⟩ := RP_upd (i := x) (j := j) a1 a2 b1 b2 hp (and1 (bits >>> (((nI a - (1 : Int32)) - nI x) &&& 31)))
    have q1 := (nI_eq (by omega) (by omega)).mp e1
    have q2 := (nI_eq (by omega) (by omega)).mp e2
    subst q1 q2
    exact ih (x + 1) n _ _ (by omega) (by omega) hp2
theorem row_eq (Y B : Int32) (px : Nat → Int32) (w h : Int32) (pic : Nat → Int32) (w' h' cd : Int32) (hr : RP px w h pic w' h') : ∃ (k : Int32) (px2 pic2 : Nat → Int32), qq_Law_row Y B px w h = some (k, px2) ∧ q_Mod_row Y B cd w' h' pic = some (k, pic2) ∧ RP px2 w h pic2 w' h' := by
  obtain ⟨a, b, a1, a2, b1, b2, rfl, rfl, rfl, rfl, hp⟩ := hr
  by_cases hY : ∃ j : Nat, j < b ∧ Y = nI j
  · obtain ⟨j, hj, rfl⟩ := hY
    obtain ⟨px2, pic2, e1, e2, e3⟩ := row_go (bits := B) a1 a2 b1 b2 hj a 0 5000 px pic (by omega) (by omega) hp
    refine ⟨0, px2, pic2, ?_, ?_, e3⟩
    · have hc : q_Pic_covers (0 : Int32) (nI j) (nI a) (nI b) = some 1 := cov_in (i := 0) (by omega) hj a2 b2
      have e1' : q_Top_row_22 (nI j) B (nI a) (nI b) 5000 (0 : Int32) px = some px2 := e1
      simp only [qq_Law_row, q_Law_row, q_Top_row, hc, ob_s, if_neg n10, e1', or_s]
    · have e2' : q_Mod_row_25 (nI j) B (nI a) (nI b) 5000 (0 : Int32) (0 : Int32) pic = some (0, pic2) := e2
      rw [q_Mod_row, pred_nI (by omega), wi0_in (by omega) (by omega), ob_s, if_neg n10, e2']
  · refine ⟨1, px, pic, ?_, ?_, a, b, a1, a2, b1, b2, rfl, rfl, rfl, rfl, hp⟩
    · have hc : q_Pic_covers (0 : Int32) Y (nI a) (nI b) = some 0 := cov_out (fun ⟨i, j, _, hj, _, e⟩ => hY ⟨j, hj, e⟩) a2 b2
      simp only [qq_Law_row, q_Law_row, q_Law_row_O, q_Top_row, q_Top_row_O, hc, ob_s, if_true, bn, or_n]
    · rw [q_Mod_row, pred_nI (by omega), wi0_out (fun ⟨j, hj, e⟩ => hY ⟨j, by omega, e⟩) (by omega), ob_s, if_pos rfl, q_Mod_row_25, if_neg (show ¬ nI a ≤ (0 : Int32) from nI_nle (by omega) (by omega)), if_neg n10]
theorem case_2 {xs : Nat → Int32} {L : Nat} {x4 : Int32} {x : XS} {y : MS} {o : Nat → Int64} (h : Rel x y) (i1 : vpb (x4 + (1 : Int32)) L = true) (i2 : vpb (x4 + (2 : Int32)) L = true) : Keeps1 (q_lawcase_2 xs L x4 x y o) := by
  obtain ⟨hp, hf, ht, hq⟩ := h
  obtain ⟨k, px2, pic2, e1, e2, e3⟩ := row_eq (xs (x4 + (1 : Int32)).toNatClampNeg) (xs (x4 + (2 : Int32)).toNatClampNeg) _ _ _ _ _ _ y.1 hp
  apply Keeps1.mk
  · intro rec
    unfold q_lawcase_2
    rw [if_pos i1, if_pos i2, e1, ob_s, if_pos i1, if_pos i2, e2, ob_s, show q_Mod_thrown (k, pic2).1 = some k from rfl, ob_s, if_pos rfl]
  · exact ⟨e3, hf, ht, hq⟩
theorem app_in {n : Nat} {v : Int32} {f : Nat → Int32} (h : n < 900) : q_Fil_append v f (nI n) = some (upd f n v, nI (n + 1)) := by
  rw [q_Fil_append, if_neg (show ¬ (900 : Int32) ≤ nI n from nI_ge (b := 900) h (by omega)), if_pos (vpb_nI h (by omega)), nI_1, nI_clamp (by omega)]
theorem and255 (x : Int32) : ∃ b : Nat, b < 256 ∧ x &&& (255 : Int32) = nI b := pk_andE x (m := 255) 8 rfl
theorem RF_app {by_ file : Nat → Int32} {n : Nat} {v : Int32} (h : ∀ i, i < n → by_ i = file i ∧ ∃ b : Nat, b < 256 ∧ file i = nI b) (hv : ∃ b : Nat, b < 256 ∧ v = nI b) : ∀ i, i < n + 1 → upd by_ n v i = upd file n v i ∧ ∃ b : Nat, b < 256 ∧ upd file n v i = nI b := by
  intro i hi
  by_cases e : i = n
  · subst e
    rw [upd_same, upd_same]
    exact ⟨rfl, hv⟩
  · rw [upd_other _ _ e, upd_other _ _ e]
    exact h i (by omega)
theorem type_go {bytes : Int64} {N : Int32} : ∀ m n k by_ file, k + m ≤ 900 → m < n → (∀ i, i < k → by_ i = file i ∧ ∃ b : Nat, b < 256 ∧ file i = nI b) → ∃ b2 f2, q_Top_type_47 bytes N n (nI m + (-1)) by_ (nI k) = some (nI (k + m), b2, nI (k + m)) ∧ q_Mod_type_40 bytes N n (nI m + (-1)) 0 (nI k) file = some (nI (k + m), 0, nI (k + m), f2) ∧ RF b2 (nI (k + m)) f2 (nI (k + m)) := by
  intro m
  induction m with
  | zero =>
    intro n k by_ file hk hn hb
    obtain ⟨n, rfl⟩ : ∃ m, n = m + 1 := ⟨n - 1, by omega⟩
    refine ⟨by_, file, ?_, ?_, k, by omega, rfl, rfl, hb⟩
    · rw [q_Top_type_47, if_pos (by decide)]
      rfl
    · rw [q_Mod_type_40, if_pos (by decide), q_Mod_type_89, if_pos p00]
      rfl
  | succ m ih =>
    intro n k by_ file hk hn hb
    obtain ⟨n, rfl⟩ : ∃ m, n = m + 1 := ⟨n - 1, by omega⟩
    rw [pk_m1, q_Top_type_47, if_neg (nI_pos (by omega)), app_in (by omega), ob_s, q_Mod_type_40, if_neg (nI_pos (by omega)), if_pos rfl, if_pos (vpb_nI (show k < 900 by omega) (by omega)), nI_1, nI_clamp (by omega)]
    rw [show k + (m + 1) = (k + 1) + m by omega]
    exact ih n (k + 1) _ _ (by omega) (by omega) (RF_app hb (and255 _))
theorem n_cases (B : Int32) : (∃ b : Nat, 1 ≤ b ∧ b ≤ 8 ∧ B = nI b) ∨ (¬ (∃ b : Nat, 1 ≤ b ∧ b ≤ 8 ∧ B = nI b) ∧ (B < 1 ∨ (¬ B < 1 ∧ ¬ B ≤ (8 : Int32)))) := by
  by_cases h : ∃ b : Nat, 1 ≤ b ∧ b ≤ 8 ∧ B = nI b
  · exact Or.inl h
  · refine Or.inr ⟨h, ?_⟩
    by_cases h1 : B < 1
    · exact Or.inl h1
    · refine Or.inr ⟨h1, fun h2 => ?_⟩
      have q0 : ¬ B < 0 := by
        intro q
        apply h1
        rw [Int32.lt_iff_toInt_lt, Int32.toInt_zero] at q
        rw [Int32.lt_iff_toInt_lt, show (1 : Int32).toInt = 1 from rfl]
        omega
      obtain ⟨j, hj, rfl⟩ := nI_of2 (M := 8) (n := 8) rfl q0 h2
      refine h ⟨j, ?_, hj, rfl⟩
      by_cases h5 : 1 ≤ j
      · exact h5
      · exact absurd (nI_lt (show j < 1 by omega) (by omega)) h1
theorem type_no {bytes : Int64} {N m c len : Int32} {file : Nat → Int32} {n : Nat} (hc : ¬ c ≤ 0) (hc2 : ¬ c = 0) : q_Mod_type_40 bytes N (n + 1) m c len file = some (0, c, len, file) := by
  rw [q_Mod_type_40]
  by_cases h : m < 0
  · rw [if_pos h, q_Mod_type_89, if_neg hc]
  · rw [if_neg h, if_neg hc2, q_Mod_type_89, if_neg hc]
theorem type_eq (B : Int64) (N : Int32) (by_ file : Nat → Int32) (len length cd : Int32) (o : Nat → Int64) (h : RF by_ len file length) : ∃ (k r : Int32) (b2 f2 : Nat → Int32) (l2 l3 : Int32) (o2 : Nat → Int64), qq_Law_type B N by_ len o = some (k, b2, l2, o2) ∧ q_Mod_type B N cd length file = some (r, k, l3, f2) ∧ RF b2 l2 f2 l3 ∧ (k = 0 → o2 0 = r.toInt64) := by
  obtain ⟨n, hn, rfl, rfl, hb⟩ := h
  rcases n_cases N with ⟨m, m1, m2, rfl⟩ | ⟨hN, hc⟩
  · have g1 : ¬ nI m < (1 : Int32) := nI_nlt (b := 1) m1 (by omega)
    have g2 : nI m ≤ (8 : Int32) := nI_le (b := 8) m2 (by omega)
    have gw : q_Mod_within (nI m) (1 : Int32) (8 : Int32) = some 1 := wi_in (lo := 1) (hi := 8) m1 m2 (by omega)
    have gs : nI m - (1 : Int32) = nI m + (-1) := Int32.sub_eq_add_neg _ _
    by_cases hs : n + m ≤ 900
    · have g3 : nI (n + m) ≤ (900 : Int32) := nI_le (b := 900) hs (by omega)
      obtain ⟨b2, f2, e1, e2, e3⟩ := type_go (bytes := B) (N := nI m) m 5000 n by_ file hs (by omega) hb
      refine ⟨0, nI (n + m), b2, f2, nI (n + m), nI (n + m), vp_updL o 0 (nI (n + m)).toInt64, ?_, ?_, e3, fun _ => vpL_same _ _ _⟩
      · simp only [qq_Law_type, q_Law_type, q_Top_type, if_neg g1, if_pos g2, nI_add, if_pos g3, gs, e1, ob_s, or_s, z0]
      · simp only [q_Mod_type, gw, ob_s, if_neg n10, nI_add, if_pos g3, gs, e2]
    · have g3 : ¬ nI (n + m) ≤ (900 : Int32) := nI_ge (a := 900) (by omega) (by omega)
      refine ⟨2, 0, by_, file, nI n, nI n, o, ?_, ?_, ⟨n, hn, rfl, rfl, hb⟩, fun h => absurd h n20⟩
      · simp only [qq_Law_type, q_Law_type, q_Law_type_A, q_Law_type_S, q_Top_type, q_Top_type_A, q_Top_type_S, if_neg g1, if_pos g2, nI_add, if_neg g3, ob_s, bn, or_n]
      · simp only [q_Mod_type, gw, ob_s, if_neg n10, nI_add, if_neg g3]
        exact type_no n2l n20
  · refine ⟨1, 0, by_, file, nI n, nI n, o, ?_, ?_, ⟨n, hn, rfl, rfl, hb⟩, fun h => absurd h n10⟩
    · rcases hc with hc | ⟨hc, hc2⟩
      · simp only [qq_Law_type, q_Law_type, q_Law_type_A, q_Top_type, q_Top_type_A, q_Top_type_11, q_Top_type_A_11, if_pos hc, ob_s, bn, or_n, or_s]
      · simp only [qq_Law_type, q_Law_type, q_Law_type_A, q_Top_type, q_Top_type_A, q_Top_type_11, q_Top_type_A_11, if_neg hc, if_neg hc2, ob_s, bn, or_n, or_s]
    · have gw : q_Mod_within N (1 : Int32) (8 : Int32) = some 0 := wi_out (lo := 1) (hi := 8) hN (by omega) (by omega)
      rw [q_Mod_type, gw, ob_s, if_pos rfl]
      exact type_no n1l n10
theorem case_13 {xs : Nat → Int32} {L : Nat} {x4 : Int32} {x : XS} {y : MS} {o : Nat → Int64} (h : Rel x y) (i1 : vpb (x4 + (1 : Int32)) L = true) (i2 : vpb (x4 + (2 : Int32)) L = true) (i3 : vpb (x4 + (3 : Int32)) L = true) : Keeps1 (q_lawcase_13 xs L x4 x y o) := by
  obtain ⟨hp, hf, ht, hq⟩ := h
  obtain ⟨k, r, b2, f2, l2, l3, o2, e1, e2, e3, e4⟩ := type_eq ((((xs (x4 + (1 : Int32)).toNatClampNeg).toInt64) <<< ((32 : Int32).toInt64 &&& 63)) ||| (((xs (x4 + (2 : Int32)).toNatClampNeg).toInt64) &&& (4294967295 : Int64))) (xs (x4 + (3 : Int32)).toNatClampNeg) _ _ _ _ y.1 o hf
  by_cases hk : k = 0
  · apply Keeps1.mk
    · intro rec
      unfold q_lawcase_13
      rw [if_pos i1, if_pos i2, if_pos i3, e1, ob_s, if_pos i1, if_pos i2, if_pos i3, e2, ob_s, show q_Mod_thrown (r, k, l3, f2).2.1 = some k from rfl, ob_s, if_pos rfl, if_pos hk, if_pos (by show lg_cmp (o2 0) r.toInt64 = 0; rw [e4 hk]; exact lg_same _)]
    · exact ⟨hp, e3, ht, hq⟩
  · apply Keeps1.mk
    · intro rec
      unfold q_lawcase_13
      rw [if_pos i1, if_pos i2, if_pos i3, e1, ob_s, if_pos i1, if_pos i2, if_pos i3, e2, ob_s, show q_Mod_thrown (r, k, l3, f2).2.1 = some k from rfl, ob_s, if_pos rfl, if_neg hk]
    · exact ⟨hp, e3, ht, hq⟩
