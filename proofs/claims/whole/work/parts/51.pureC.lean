/-! plain pixels, plain rows, writing a pixel, on both sides -/
theorem ctx {k x y a b a' b' : Nat} {bw bh : Int32} {px bx M wd hg : Nat → Int32} (hL : LZ k a b a' b' bw bh wd hg) (hR : LQ k a b a' b' px bx M) (hx : x < 16) (hy : y < 16) : ∃ c : Nat, c < 2563 ∧ (∀ (α : Type) (f : Int32 → Option α), (if nI k = 0 then (q_Stk_lowestContext (nI x) (nI y) px (nI a) (nI b)).bind f else (q_Stk_upperContext (nI k) (nI x) (nI y) px (nI a) (nI b) bx bw bh).bind f) = f (nI c)) ∧ q_Mod_contextOf (nI k) (nI x) (nI y) M wd hg = some (nI c) := by
  obtain ⟨k3, hw, hh, a1, a2, b1, b2, h⟩ := hL
  obtain ⟨r1, r2⟩ := hR
  rcases h with rfl | ⟨k1, hw', hh', rfl, rfl, c1, c2, d1, d2⟩
  · obtain ⟨c, hc, e1, e2⟩ := ctx_0 hw hh a1 b1 a2 b2 hx hy r1
    refine ⟨c, hc, fun α f => ?_, e2⟩
    rw [if_pos (show nI 0 = 0 from rfl), e1, ob_s]
  · rcases r2 with r2 | r2
    · omega
    · obtain ⟨c, hc, e1, e2⟩ := ctx_1 k1 k3 hw hh a1 b1 a2 b2 hw' hh' c1 d1 c2 d2 hx hy r1 r2
      refine ⟨c, hc, fun α f => ?_, e2⟩
      rw [if_neg (nI_ne0 (by omega) (by omega)), e1, ob_s]
theorem plainP {k x y a b a' b' : Nat} {bw bh : Int32} {px bx M wd hg : Nat → Int32} (hL : LZ k a b a' b' bw bh wd hg) (hR : LQ k a b a' b' px bx M) (hx : x < 16) (hy : y < 16) : ∃ v : Int32, (v = 0 ∨ v = 1) ∧ q_Stk_plainPixel (nI k) (nI x) (nI y) px (nI a) (nI b) bx bw bh = some v ∧ q_Mod_plainAt (nI k) (nI x) (nI y) M wd hg = some v := by
  obtain ⟨k3, hw, hh, a1, a2, b1, b2, h⟩ := hL
  obtain ⟨r1, r2⟩ := hR
  rcases h with rfl | ⟨k1, hw', hh', rfl, rfl, c1, c2, d1, d2⟩
  · refine ⟨pz px a b x (y - 1), pz_bit r1.bitc _ _, ?_, ?_⟩
    · rw [q_Stk_plainPixel, if_pos (show nI 0 = 0 from rfl), zs1, nI_zI x, pix_z a2 b2 (by omega) (by omega) (by omega) (by omega), ob_s]
    · rw [q_Mod_plainAt, if_pos (show nI 0 = 0 from rfl), zs1, nI_zI x, show (0 : Int32) = nI 0 from rfl, at_z k3 hw hh a1 b1 a2 b2 (by omega) (by omega) (by omega) (by omega), ob_s, pz_eq r1.eq]
  · rcases r2 with r2 | r2
    · omega
    · refine ⟨pz bx a' b' (x / 2 : Nat) (y / 2 : Nat), pz_bit r2.bitc _ _, ?_, ?_⟩
      · rw [q_Stk_plainPixel, if_neg (nI_ne0 (by omega) (by omega)), pred_nI k1, if_pos (vpb_nI (by omega) (by omega)), half2 (by omega), half2 (by omega), nI_zI (x / 2), nI_zI (y / 2), pix_z c2 d2 (by omega) (by omega) (by omega) (by omega), ob_s]
      · rw [q_Mod_plainAt, if_neg (nI_ne0 (by omega) (by omega)), pred_nI k1, half2 (by omega), half2 (by omega), nI_zI (x / 2), nI_zI (y / 2), at_z (by omega) hw' hh' c1 d1 c2 d2 (by omega) (by omega) (by omega) (by omega), ob_s, pz_eq r2.eq]
theorem RL_upd {px M : Nat → Int32} {k a b x y : Nat} {v : Int32} (h : RL px M k a b) (hv : v = 0 ∨ v = 1) : RL (upd px (16 * y + x) v) (upd M (256 * k + (16 * y + x)) v) k a b := by
  intro i j hi hj
  unfold lyr
  by_cases e : 16 * j + i = 16 * y + x
  · rw [e, upd_same, upd_same]
    exact ⟨rfl, hv⟩
  · rw [upd_other _ _ e, upd_other _ _ (by omega)]
    exact h i j hi hj
theorem LQ_upd {k x y a b a' b' : Nat} {px bx M : Nat → Int32} {v : Int32} (h : LQ k a b a' b' px bx M) (hv : v = 0 ∨ v = 1) (ha' : k = 0 ∨ a' ≤ 16 ∧ b' ≤ 16) : LQ k a b a' b' (upd px (16 * y + x) v) bx (upd M (256 * k + (16 * y + x)) v) := by
  obtain ⟨h1, h2⟩ := h
  refine ⟨RL_upd h1 hv, ?_⟩
  rcases h2 with h2 | h2
  · exact Or.inl h2
  · by_cases k0 : k = 0
    · exact Or.inl k0
    · refine Or.inr (fun i j hi hj => ?_)
      have := h2 i j hi hj
      unfold lyr at *
      rw [upd_other _ _ (by omega)]
      exact this
theorem LZ.bnd {k a b a' b' : Nat} {bw bh : Int32} {wd hg : Nat → Int32} (hL : LZ k a b a' b' bw bh wd hg) : k = 0 ∨ a' ≤ 16 ∧ b' ≤ 16 := by
  obtain ⟨k3, hw, hh, a1, a2, b1, b2, h⟩ := hL
  rcases h with h | h
  · exact Or.inl h
  · exact Or.inr ⟨h.2.2.2.2.2.2.1, h.2.2.2.2.2.2.2.2⟩
theorem pix_n {px : Nat → Int32} {a b i j : Nat} (hi : i < a) (hj : j < b) (ha : a ≤ 16) (hb : b ≤ 16) : q_Pic_pixel (nI i) (nI j) px (nI a) (nI b) = some (px (16 * j + i)) := by
  rw [pix ha hb, pv_in hi hj ha hb]
theorem at_n {M wd hg : Nat → Int32} {k a b i j : Nat} (hk : k < 3) (hw : wd k = nI a) (hh : hg k = nI b) (hi : i < a) (hj : j < b) (ha : a ≤ 16) (hb : b ≤ 16) : q_Mod_at (nI k) (nI i) (nI j) M wd hg = some (lyr M k (16 * j + i)) := by
  rw [nI_zI i, nI_zI j, at_z hk hw hh (by omega) (by omega) ha hb (by omega) (by omega) (by omega) (by omega), pz_in hi hj]
theorem isP_0 {k y a b a' b' : Nat} {bw bh : Int32} {M wd hg : Nat → Int32} (hL : LZ k a b a' b' bw bh wd hg) : ∀ d x n, x + d = a → d < n → q_Mod_isPlain_5 (nI k) (nI y) M wd hg n 0 (nI x) = some 0 := by
  obtain ⟨k3, hw, hh, a1, a2, b1, b2, h⟩ := hL
  intro d
  induction d with
  | zero =>
    intro x n hd hn
    obtain ⟨n, rfl⟩ : ∃ m, n = m + 1 := ⟨n - 1, by omega⟩
    obtain rfl : x = a := by omega
    rw [q_Mod_isPlain_5, if_pos (vpb_nI k3 (by omega)), nI_clamp (by omega), hw, if_pos (nI_le (Nat.le_refl _) (by omega)), if_pos (Or.inl rfl)]
  | succ d ih =>
    intro x n hd hn
    obtain ⟨n, rfl⟩ : ∃ m, n = m + 1 := ⟨n - 1, by omega⟩
    rw [q_Mod_isPlain_5, if_pos (vpb_nI k3 (by omega)), nI_clamp (by omega), hw, if_neg (nI_ge (show x < a by omega) (by omega)), if_pos rfl, nI_1]
    exact ih (x + 1) n (by omega) (by omega)
theorem isP_go {k y a b a' b' : Nat} {bw bh : Int32} {px bx M wd hg : Nat → Int32} (hL : LZ k a b a' b' bw bh wd hg) (hR : LQ k a b a' b' px bx M) (hy : y < b) : ∀ d x n n', x + d = a → d < n → d < n' → ∃ r : Int32, (r = 0 ∨ r = 1) ∧ q_Stk_isPlain_2 (nI k) (nI y) px (nI a) (nI b) bx bw bh n (nI x) = some r ∧ q_Mod_isPlain_5 (nI k) (nI y) M wd hg n' 1 (nI x) = some r := by
  obtain ⟨k3, hw, hh, a1, a2, b1, b2, _⟩ := id hL
  intro d
  induction d with
  | zero =>
    intro x n n' hd hn hn'
    obtain ⟨n, rfl⟩ : ∃ m, n = m + 1 := ⟨n - 1, by omega⟩
    obtain ⟨n', rfl⟩ : ∃ m, n' = m + 1 := ⟨n' - 1, by omega⟩
    obtain rfl : x = a := by omega
    refine ⟨1, Or.inr rfl, ?_, ?_⟩
    · rw [q_Stk_isPlain_2, if_pos (vpb_nI k3 (by omega)), if_pos (nI_le (Nat.le_refl _) (by omega))]
    · rw [q_Mod_isPlain_5, if_pos (vpb_nI k3 (by omega)), nI_clamp (by omega), hw, if_pos (nI_le (Nat.le_refl _) (by omega)), if_pos (Or.inr rfl)]
  | succ d ih =>
    intro x n n' hd hn hn'
    obtain ⟨n, rfl⟩ : ∃ m, n = m + 1 := ⟨n - 1, by omega⟩
    obtain ⟨n', rfl⟩ : ∃ m, n' = m + 1 := ⟨n' - 1, by omega⟩
    obtain ⟨v, hv, e1, e2⟩ := plainP (x := x) (y := y) hL hR (by omega) (by omega)
    have hc : q_Stk_isPlain_2 (nI k) (nI y) px (nI a) (nI b) bx bw bh (n + 1) (nI x) = if px (16 * y + x) = v then q_Stk_isPlain_2 (nI k) (nI y) px (nI a) (nI b) bx bw bh n (nI (x + 1)) else some 0 := by
      rw [q_Stk_isPlain_2, if_pos (vpb_nI k3 (by omega)), if_neg (nI_ge (show x < a by omega) (by omega)), if_pos (vpb_nI k3 (by omega)), pix_n (by omega) hy a2 b2, ob_s, e1, ob_s, nI_1]
    have hm : q_Mod_isPlain_5 (nI k) (nI y) M wd hg (n' + 1) 1 (nI x) = if px (16 * y + x) = v then q_Mod_isPlain_5 (nI k) (nI y) M wd hg n' 1 (nI (x + 1)) else q_Mod_isPlain_5 (nI k) (nI y) M wd hg n' 0 (nI (x + 1)) := by
      rw [q_Mod_isPlain_5, if_pos (vpb_nI k3 (by omega)), nI_clamp (by omega), hw, if_neg (nI_ge (show x < a by omega) (by omega)), if_neg n10, at_n k3 hw hh (by omega) hy a2 b2, ob_s, e2, ob_s, nI_1, ← hR.1.eq x y (by omega) hy]
    rw [hc, hm]
    by_cases c : px (16 * y + x) = v
    · rw [if_pos c, if_pos c]
      exact ih (x + 1) n n' (by omega) (by omega) (by omega)
    · rw [if_neg c, if_neg c]
      exact ⟨0, Or.inl rfl, rfl, isP_0 hL d (x + 1) n' (by omega) (by omega)⟩
theorem isP {k y a b a' b' : Nat} {bw bh : Int32} {px bx M wd hg : Nat → Int32} (hL : LZ k a b a' b' bw bh wd hg) (hR : LQ k a b a' b' px bx M) (hy : y < b) : ∃ r : Int32, (r = 0 ∨ r = 1) ∧ q_Stk_isPlain (nI k) (nI y) px (nI a) (nI b) bx bw bh = some r ∧ q_Mod_isPlain (nI k) (nI y) M wd hg = some r := by
  have := hL.2.2.2.2.1
  exact isP_go hL hR hy a 0 5000 5000 (by omega) (by omega) (by omega)
def Out (k : Nat) (M M2 : Nat → Int32) : Prop := ∀ j, j < 256 * k ∨ 256 * (k + 1) ≤ j → M2 j = M j
theorem Out.upd {k j : Nat} {M M2 : Nat → Int32} {v : Int32} (h : Out k (upd M (256 * k + j) v) M2) (hj : j < 256) : Out k M M2 := fun i hi => by
  rw [h i hi, upd_other _ _ (by omega)]
theorem Out.trans {k : Nat} {M M1 M2 : Nat → Int32} (h : Out k M M1) (h2 : Out k M1 M2) : Out k M M2 := fun i hi => by
  rw [h2 i hi, h i hi]
theorem plain_row {k y a b a' b' : Nat} {bw bh tk gs : Int32} {bx wd hg qu gv : Nat → Int32} {rec : Int32 → (Nat → Int32) → (Nat → Int32) → (Nat → Int32) → Int32 → Int32 → Int32 → Int32 → (Nat → Int32) → Int32 → Int32 → Int32 → Int32 → Option ((Nat → Int32) × (Nat → Int32) × (Nat → Int32) × Int32 × Int32 × Int32 × Int32 × (Nat → Int32) × Int32 × Int32 × Int32 × Int32)} {st fv dg : Nat → Int32} {sp dec pl dbl dc tg nx ab : Int32} (hL : LZ k a b a' b' bw bh wd hg) (hy : y < b) : ∀ d x n n' px M, x + d = a → d < n → d < n' → LQ k a b a' b' px bx M → ∃ px2 M2, q_Stk_paintPlain_2 (nI k) (nI y) (nI a) (nI b) bx bw bh n (nI x) px = some px2 ∧ q_Mod_codeLayer_92 (nI k) tk wd hg qu gv gs rec n' (nI y) 1 (nI x) M st fv sp dec pl dbl dg dc tg nx ab = rec (nI (y + 1)) M2 st fv sp dec pl dbl dg dc tg nx ab ∧ LQ k a b a' b' px2 bx M2 ∧ Out k M M2 := by
  obtain ⟨k3, hw, hh, a1, a2, b1, b2, _⟩ := id hL
  intro d
  induction d with
  | zero =>
    intro x n n' px M hd hn hn' hR
    obtain ⟨n, rfl⟩ : ∃ m, n = m + 1 := ⟨n - 1, by omega⟩
    obtain ⟨n', rfl⟩ : ∃ m, n' = m + 1 := ⟨n' - 1, by omega⟩
    obtain rfl : x = a := by omega
    refine ⟨px, M, ?_, ?_, hR, fun _ _ => rfl⟩
    · rw [q_Stk_paintPlain_2, if_pos (vpb_nI k3 (by omega)), if_pos (nI_le (Nat.le_refl _) (by omega))]
    · rw [q_Mod_codeLayer_92, if_pos (vpb_nI k3 (by omega)), nI_clamp (by omega), hw, if_pos (nI_le (Nat.le_refl _) (by omega)), nI_1]
  | succ d ih =>
    intro x n n' px M hd hn hn' hR
    obtain ⟨n, rfl⟩ : ∃ m, n = m + 1 := ⟨n - 1, by omega⟩
    obtain ⟨n', rfl⟩ : ∃ m, n' = m + 1 := ⟨n' - 1, by omega⟩
    obtain ⟨v, hv, e1, e2⟩ := plainP (x := x) (y := y) hL hR (by omega) (by omega)
    obtain ⟨px2, M2, f1, f2, f3, f4⟩ := ih (x + 1) n n' (upd px (16 * y + x) v) (upd M (256 * k + (16 * y + x)) v) (by omega) (by omega) (by omega) (LQ_upd hR hv hL.bnd)
    refine ⟨px2, M2, ?_, ?_, f3, f4.upd (by omega)⟩
    · rw [q_Stk_paintPlain_2, if_pos (vpb_nI k3 (by omega)), if_neg (nI_ge (show x < a by omega) (by omega)), if_pos (vpb_nI k3 (by omega)), e1, ob_s, paint_in (by omega) hy a2 b2, ob_s, nI_1]
      exact f1
    · rw [q_Mod_codeLayer_92, if_pos (vpb_nI k3 (by omega)), nI_clamp (by omega), hw, if_neg (nI_ge (show x < a by omega) (by omega)), if_pos rfl, e2, ob_s, ix256, if_pos (vpb_nI (by omega) (by omega)), nI_clamp (by omega), nI_1]
      exact f2
