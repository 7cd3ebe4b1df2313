/-! loops that fill a piece of a row; poke, cut, clear, set -/
def fl (f : Nat → Int32) (b lo hi : Nat) (F : Nat → Int32) : Nat → Int32 := fun j => if b + lo ≤ j ∧ j < b + hi then F (j - b) else f j
theorem fl_nil (f : Nat → Int32) (b N : Nat) (F : Nat → Int32) : fl f b N N F = f := by
  funext j
  unfold fl
  rw [if_neg (by omega)]
theorem fl_step (f : Nat → Int32) (b k N : Nat) (F : Nat → Int32) (h : k < N) : fl (upd f (b + k) (F k)) b (k + 1) N F = fl f b k N F := by
  funext j
  unfold fl upd
  by_cases h1 : j = b + k
  · subst h1
    rw [if_neg (by omega), if_pos rfl, if_pos (by omega), show b + k - b = k by omega]
  · by_cases h2 : b + (k + 1) ≤ j ∧ j < b + N
    · rw [if_pos h2, if_pos (by omega)]
    · rw [if_neg h2, if_neg h1, if_neg (by omega)]
theorem fl_in (f : Nat → Int32) (b lo hi : Nat) (F : Nat → Int32) {j : Nat} (h1 : lo ≤ j) (h2 : j < hi) : fl f b lo hi F (b + j) = F j := by
  unfold fl
  rw [if_pos (by omega), show b + j - b = j by omega]
theorem fl_in0 (f : Nat → Int32) (lo hi : Nat) (F : Nat → Int32) {j : Nat} (h1 : lo ≤ j) (h2 : j < hi) : fl f 0 lo hi F j = F j := by
  have := fl_in f 0 lo hi F h1 h2
  rwa [Nat.zero_add] at this
theorem fl_out (f : Nat → Int32) (b lo hi : Nat) (F : Nat → Int32) {j : Nat} (h : j < b + lo ∨ b + hi ≤ j) : fl f b lo hi F j = f j := by
  unfold fl
  rw [if_neg (by omega)]
theorem RF_upd {by_ file : Nat → Int32} {n i b : Nat} (hn : n ≤ 900) (h : ∀ i, i < n → by_ i = file i ∧ ∃ b : Nat, b < 256 ∧ file i = nI b) (hb : b < 256) : RF (upd by_ i (nI b)) (nI n) (upd file i (nI b)) (nI n) := by
  refine ⟨n, hn, rfl, rfl, fun j hj => ?_⟩
  by_cases e : j = i
  · subst e
    rw [upd_same, upd_same]
    exact ⟨rfl, b, hb, rfl⟩
  · rw [upd_other _ _ e, upd_other _ _ e]
    exact h j hj
theorem byte_cases (B : Int32) (M : Nat) (hM : M < 2 ^ 30) : (∃ b : Nat, b ≤ M ∧ B = nI b) ∨ (¬ (∃ b : Nat, b ≤ M ∧ B = nI b) ∧ (B < 0 ∨ (¬ B < 0 ∧ ¬ B ≤ nI M))) := by
  by_cases h : ∃ b : Nat, b ≤ M ∧ B = nI b
  · exact Or.inl h
  · refine Or.inr ⟨h, ?_⟩
    by_cases h1 : B < 0
    · exact Or.inl h1
    · refine Or.inr ⟨h1, fun h2 => h ?_⟩
      exact nI_of2 (nI_toInt (by omega)) h1 h2
theorem poke_eq (K B : Int32) (by_ file : Nat → Int32) (len length cd : Int32) (h : RF by_ len file length) : ∃ (k : Int32) (b2 f2 : Nat → Int32), qq_Law_poke K B by_ len = some (k, b2) ∧ q_Mod_poke K B cd length file = some (k, f2) ∧ RF b2 len f2 length := by
  obtain ⟨n, hn, rfl, rfl, hb⟩ := h
  by_cases h1 : ∃ i : Nat, i < n ∧ K = nI i
  · obtain ⟨i, hi, rfl⟩ := h1
    rcases byte_cases B 255 (by omega) with ⟨b, hb2, rfl⟩ | ⟨hB, hc⟩
    · refine ⟨0, upd by_ i (nI b), upd file i (nI b), ?_, ?_, RF_upd hn hb (by omega)⟩
      · simp only [qq_Law_poke, q_Law_poke, q_Top_poke, q_Fil_change, has_in hi hn, ob_s, if_neg n10, if_neg (nI_pos (show b < 2 ^ 31 by omega)), show (255 : Int32) = nI 255 from rfl, if_pos (nI_le hb2 (by omega)), vpb_nI (show i < 900 by omega) (by omega), if_true, nI_clamp (show i < 2 ^ 31 by omega), or_s]
      · simp only [q_Mod_poke, wf_in hi hn, ob_s, if_neg n10, show (255 : Int32) = nI 255 from rfl, wi0_in hb2 (by omega), q_Mod_poke_35, if_true, vpb_nI (show i < 900 by omega) (by omega), nI_clamp (show i < 2 ^ 31 by omega)]
    · refine ⟨2, by_, file, ?_, ?_, n, hn, rfl, rfl, hb⟩
      · rcases hc with hc | ⟨hc, hc2⟩
        · simp only [qq_Law_poke, q_Law_poke, q_Law_poke_O, q_Law_poke_A, q_Top_poke, q_Top_poke_O, q_Top_poke_A, q_Top_poke_30, q_Top_poke_O_30, q_Top_poke_A_30, has_in hi hn, ob_s, if_neg n10, if_pos hc, bn, or_n]
        · simp only [show nI 255 = (255 : Int32) from rfl] at hc2
          simp only [qq_Law_poke, q_Law_poke, q_Law_poke_O, q_Law_poke_A, q_Top_poke, q_Top_poke_O, q_Top_poke_A, q_Top_poke_30, q_Top_poke_O_30, q_Top_poke_A_30, has_in hi hn, ob_s, if_neg n10, if_neg hc, if_neg hc2, bn, or_n]
      · simp only [q_Mod_poke, wf_in hi hn, ob_s, if_neg n10, show (255 : Int32) = nI 255 from rfl, wi0_out hB (by omega), if_true, q_Mod_poke_35, if_neg n20]
  · refine ⟨1, by_, file, ?_, ?_, n, hn, rfl, rfl, hb⟩
    · simp only [qq_Law_poke, q_Law_poke, q_Law_poke_O, q_Top_poke, q_Top_poke_O, has_out h1 hn, ob_s, if_true, bn, or_n, or_s]
    · simp only [q_Mod_poke, wf_out h1 hn, ob_s, if_true, q_Mod_poke_35, if_neg n10]
theorem case_12 {xs : Nat → Int32} {L : Nat} {x4 : Int32} {x : XS} {y : MS} {o : Nat → Int64} (h : Rel x y) (i1 : vpb (x4 + (1 : Int32)) L = true) (i2 : vpb (x4 + (2 : Int32)) L = true) : Keeps1 (q_lawcase_12 xs L x4 x y o) := by
  obtain ⟨hp, hf, ht, hq⟩ := h
  obtain ⟨k, b2, f2, e1, e2, e3⟩ := poke_eq (xs (x4 + (1 : Int32)).toNatClampNeg) (xs (x4 + (2 : Int32)).toNatClampNeg) _ _ _ _ y.1 hf
  apply Keeps1.mk
  · intro rec
    unfold q_lawcase_12
    rw [if_pos i1, if_pos i2, e1, ob_s, if_pos i1, if_pos i2, e2, ob_s, show q_Mod_thrown (k, f2).1 = some k from rfl, ob_s, if_pos rfl]
  · exact ⟨hp, e3, ht, hq⟩
theorem cut_eq (K : Int32) (by_ file : Nat → Int32) (len length cd : Int32) (h : RF by_ len file length) : ∃ (k l2 l3 : Int32), qq_Law_cut K len = some (k, l2) ∧ q_Mod_cut K cd length = some (k, l3) ∧ RF by_ l2 file l3 := by
  obtain ⟨n, hn, rfl, rfl, hb⟩ := h
  rcases byte_cases K n (by omega) with ⟨b, hb2, rfl⟩ | ⟨hB, hc⟩
  · refine ⟨0, nI b, nI b, ?_, ?_, b, by omega, rfl, rfl, fun i hi => hb i (by omega)⟩
    · simp only [qq_Law_cut, q_Law_cut, q_Top_cut, q_Fil_keep, if_neg (nI_pos (show b < 2 ^ 31 by omega)), if_pos (nI_le hb2 (show n < 2 ^ 31 by omega)), ob_s, or_s]
    · simp only [q_Mod_cut, wi0_in hb2 (show n < 2 ^ 31 by omega), ob_s, if_neg n10, q_Mod_cut_18, if_pos p00]
  · refine ⟨1, nI n, nI n, ?_, ?_, n, hn, rfl, rfl, hb⟩
    · rcases hc with hc | ⟨hc, hc2⟩
      · simp only [qq_Law_cut, q_Law_cut, q_Law_cut_A, q_Top_cut, q_Top_cut_A, q_Top_cut_15, q_Top_cut_A_15, if_pos hc, ob_s, bn, or_n]
      · simp only [qq_Law_cut, q_Law_cut, q_Law_cut_A, q_Top_cut, q_Top_cut_A, q_Top_cut_15, q_Top_cut_A_15, if_neg hc, if_neg hc2, ob_s, bn, or_n]
    · simp only [q_Mod_cut, wi0_out hB (show n < 2 ^ 30 by omega), ob_s, if_true, q_Mod_cut_18, if_neg n1l]
theorem case_14 {xs : Nat → Int32} {L : Nat} {x4 : Int32} {x : XS} {y : MS} {o : Nat → Int64} (h : Rel x y) (i1 : vpb (x4 + (1 : Int32)) L = true) : Keeps1 (q_lawcase_14 xs L x4 x y o) := by
  obtain ⟨hp, hf, ht, hq⟩ := h
  obtain ⟨k, l2, l3, e1, e2, e3⟩ := cut_eq (xs (x4 + (1 : Int32)).toNatClampNeg) _ _ _ _ y.1 hf
  apply Keeps1.mk
  · intro rec
    unfold q_lawcase_14
    rw [if_pos i1, e1, ob_s, if_pos i1, e2, ob_s, show q_Mod_thrown (k, l3).1 = some k from rfl, ob_s, if_pos rfl]
  · exact ⟨hp, e3, ht, hq⟩
theorem fill256_go (v : Int32) : ∀ d k n f, k + d = 256 → d < n → q_fill256_5 v n (nI k) (nI 256) f = some (fl f 0 k 256 (fun _ => v)) := by
  intro d
  induction d with
  | zero =>
    intro k n f hk hn
    obtain ⟨n, rfl⟩ : ∃ m, n = m + 1 := ⟨n - 1, by omega⟩
    obtain rfl : k = 256 := by omega
    rw [q_fill256_5, if_pos (nI_le (Nat.le_refl _) (by omega)), fl_nil]
  | succ d ih =>
    intro k n f hk hn
    obtain ⟨n, rfl⟩ : ∃ m, n = m + 1 := ⟨n - 1, by omega⟩
    rw [q_fill256_5, if_neg (nI_ge (show k < 256 by omega) (by omega)), if_pos (vpb_nI (show k < 256 by omega) (by omega)), nI_1, nI_clamp (by omega), ih (k + 1) n _ (by omega) (by omega)]
    have := fl_step f 0 k 256 (fun _ => v) (by omega)
    rw [Nat.zero_add] at this
    rw [this]
theorem fill256 (v : Int32) (f : Nat → Int32) : q_fill256 v f = some (fl f 0 0 256 (fun _ => v)) := fill256_go v 256 0 5000 f rfl (by omega)
theorem clear48_go (w h cd W H : Int32) : ∀ d k n f, k + d = 256 → d < n → q_Mod_clear_48 w h n (nI k) cd W H f = some (cd, W, H, fl f 0 k 256 (fun _ => 0)) := by
  intro d
  induction d with
  | zero =>
    intro k n f hk hn
    obtain ⟨n, rfl⟩ : ∃ m, n = m + 1 := ⟨n - 1, by omega⟩
    obtain rfl : k = 256 := by omega
    rw [q_Mod_clear_48, if_pos (show (256 : Int32) ≤ nI 256 from nI_le (Nat.le_refl 256) (by omega)), fl_nil]
  | succ d ih =>
    intro k n f hk hn
    obtain ⟨n, rfl⟩ : ∃ m, n = m + 1 := ⟨n - 1, by omega⟩
    rw [q_Mod_clear_48, if_neg (show ¬ (256 : Int32) ≤ nI k from nI_ge (b := 256) (by omega) (by omega)), if_pos (vpb_nI (show k < 256 by omega) (by omega)), nI_1, nI_clamp (by omega), ih (k + 1) n _ (by omega) (by omega)]
    have := fl_step f 0 k 256 (fun _ => (0 : Int32)) (by omega)
    rw [Nat.zero_add] at this
    rw [this]
theorem side_cases (B : Int32) : (∃ b : Nat, 1 ≤ b ∧ b ≤ 16 ∧ B = nI b) ∨ (¬ (∃ b : Nat, 1 ≤ b ∧ b ≤ 16 ∧ B = nI b) ∧ (B < 1 ∨ (¬ B < 1 ∧ (16 : Int32) < B))) := by
  by_cases h : ∃ b : Nat, 1 ≤ b ∧ b ≤ 16 ∧ B = nI b
  · exact Or.inl h
  · refine Or.inr ⟨h, ?_⟩
    by_cases h1 : B < 1
    · exact Or.inl h1
    · refine Or.inr ⟨h1, ?_⟩
      by_cases h2 : (16 : Int32) < B
      · exact h2
      · exfalso
        have q0 : ¬ B < 0 := by
          intro q
          apply h1
          rw [Int32.lt_iff_toInt_lt, Int32.toInt_zero] at q
          rw [Int32.lt_iff_toInt_lt, show (1 : Int32).toInt = 1 from rfl]
          omega
        obtain ⟨j, hj, rfl⟩ := nI_of2 (M := 16) (n := 16) rfl q0 (Int32.not_lt.mp h2)
        refine h ⟨j, ?_, hj, rfl⟩
        by_cases h5 : 1 ≤ j
        · exact h5
        · exact absurd (nI_lt (show j < 1 by omega) (by omega)) h1
theorem clear_eq (W H : Int32) (px : Nat → Int32) (w h : Int32) (pic : Nat → Int32) (w' h' cd : Int32) (hr : RP px w h pic w' h') : ∃ (k : Int32) (px2 : Nat → Int32) (w2 h2 : Int32) (pic2 : Nat → Int32) (w3 h3 : Int32), qq_Law_clear W H px w h = some (k, px2, w2, h2) ∧ q_Mod_clear W H cd w' h' pic = some (k, w3, h3, pic2) ∧ RP px2 w2 h2 pic2 w3 h3 := by
  have c16 : (16 : Int32) = nI 16 := rfl
  have c1 : (1 : Int32) = nI 1 := rfl
  rcases side_cases W with ⟨a, a1, a2, rfl⟩ | ⟨hW, hc⟩
  · rcases side_cases H with ⟨b, b1, b2, rfl⟩ | ⟨hH, hc⟩
    · refine ⟨0, fl px 0 0 256 (fun _ => 0), nI a, nI b, fl pic 0 0 256 (fun _ => 0), nI a, nI b, ?_, ?_, a, b, a1, a2, b1, b2, rfl, rfl, rfl, rfl, fun i j hi hj => ?_⟩
      · simp only [qq_Law_clear, q_Law_clear, q_Top_clear, q_Pic_blank, fill256, if_neg (show ¬ nI a < (1 : Int32) from nI_nlt (b := 1) a1 (by omega)), if_neg (show ¬ (16 : Int32) < nI a from nI_nlt (a := 16) a2 (by omega)), if_neg (show ¬ nI b < (1 : Int32) from nI_nlt (b := 1) b1 (by omega)), if_pos (show nI b ≤ (16 : Int32) from nI_le (b := 16) b2 (by omega)), ob_s, or_s]
      · simp only [q_Mod_clear, c1, c16, wi_in a1 a2 (show 16 < 2 ^ 31 by omega), wi_in b1 b2 (show 16 < 2 ^ 31 by omega), ob_s]
        rw [if_neg (by decide), if_neg (by decide)]
        simp only [q_Mod_clear_26, if_true]
        exact clear48_go _ _ _ _ _ 256 0 5000 pic rfl (by omega)
      · rw [fl_in0 _ _ _ _ (by omega) (by omega), fl_in0 _ _ _ _ (by omega) (by omega)]
        exact ⟨rfl, Or.inl rfl⟩
    · refine ⟨1, px, w, h, pic, w', h', ?_, ?_, hr⟩
      · rcases hc with hc | ⟨hc, hc2⟩
        · simp only [qq_Law_clear, q_Law_clear, q_Law_clear_A, q_Top_clear, q_Top_clear_22, q_Top_clear_A, q_Top_clear_A_22, if_neg (show ¬ nI a < (1 : Int32) from nI_nlt (b := 1) a1 (by omega)), if_neg (show ¬ (16 : Int32) < nI a from nI_nlt (a := 16) a2 (by omega)), if_pos hc, bn, ob_s, or_n]
        · simp only [qq_Law_clear, q_Law_clear, q_Law_clear_A, q_Top_clear, q_Top_clear_22, q_Top_clear_A, q_Top_clear_A_22, if_neg (show ¬ nI a < (1 : Int32) from nI_nlt (b := 1) a1 (by omega)), if_neg (show ¬ (16 : Int32) < nI a from nI_nlt (a := 16) a2 (by omega)), if_neg hc, if_neg (Int32.not_le.mpr hc2), bn, ob_s, or_n]
      · simp only [q_Mod_clear, c1, c16, wi_in a1 a2 (show 16 < 2 ^ 31 by omega), wi_out hH (by omega) (by omega), ob_s]
        rw [if_neg (by decide), if_pos trivial]
        simp only [q_Mod_clear_25, q_Mod_clear_26, if_neg n10]
        rfl
  · refine ⟨1, px, w, h, pic, w', h', ?_, ?_, hr⟩
    · rcases hc with hc | ⟨hc, hc2⟩
      · simp only [qq_Law_clear, q_Law_clear, q_Law_clear_A, q_Top_clear, q_Top_clear_22, q_Top_clear_A, q_Top_clear_A_22, if_pos hc, bn, ob_s, or_n]
      · simp only [qq_Law_clear, q_Law_clear, q_Law_clear_A, q_Top_clear, q_Top_clear_22, q_Top_clear_A, q_Top_clear_A_22, if_neg hc, if_pos hc2, bn, ob_s, or_n]
    · simp only [q_Mod_clear, c1, c16, wi_out hW (show 16 < 2 ^ 30 by omega) (by omega), ob_s]
      rw [if_pos trivial]
      simp only [q_Mod_clear_25, q_Mod_clear_26]
      rfl
theorem case_0 {xs : Nat → Int32} {L : Nat} {x4 : Int32} {x : XS} {y : MS} {o : Nat → Int64} (h : Rel x y) (i1 : vpb (x4 + (1 : Int32)) L = true) (i2 : vpb (x4 + (2 : Int32)) L = true) : Keeps1 (q_lawcase_0 xs L x4 x y o) := by
  obtain ⟨hp, hf, ht, hq⟩ := h
  obtain ⟨k, px2, w2, h2, pic2, w3, h3, e1, e2, e3⟩ := clear_eq (xs (x4 + (1 : Int32)).toNatClampNeg) (xs (x4 + (2 : Int32)).toNatClampNeg) _ _ _ _ _ _ y.1 hp
  apply Keeps1.mk
  · intro rec
    unfold q_lawcase_0
    rw [if_pos i1, if_pos i2, e1, ob_s, if_pos i1, if_pos i2, e2, ob_s, show q_Mod_thrown (k, w3, h3, pic2).1 = some k from rfl, ob_s, if_pos rfl]
  · exact ⟨e3, hf, ht, hq⟩
