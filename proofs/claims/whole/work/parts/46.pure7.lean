/-! the half of a picture, on both sides -/
theorem r15_stop {k x y : Nat} {left : Int32} {M wd hg : Nat → Int32} {rec : Int32 → Int32 → Option Int32} {n : Nat} {acc : Int32} {I : Int32} : q_Mod_reduced_15 (nI k) (nI x) (nI y) left M wd hg rec (n + 1) acc I (zI 3) = rec acc (I + (1 : Int32)) := by
  rw [q_Mod_reduced_15, if_pos (by decide)]
theorem r15_step {k x y a b : Nat} {left : Int32} {M wd hg : Nat → Int32} {rec : Int32 → Int32 → Option Int32} {n : Nat} {acc : Int32} {I J J' X Y : Int} (hk : k < 3) (hw : wd k = nI a) (hh : hg k = nI b) (a1 : 1 ≤ a) (b1 : 1 ≤ b) (ha : a ≤ 16) (hb : b ≤ 16) (hx : x < 16) (hy : y < 16) (i1 : -1 ≤ I) (i2 : I ≤ 2) (j1 : -1 ≤ J) (j2 : J ≤ 2) (eX : X = 2 * x + I) (eY : Y = 2 * y + J) (eJ : J' = J + 1) : q_Mod_reduced_15 (nI k) (nI x) (nI y) left M wd hg rec (n + 1) acc (zI I) (zI J) = q_Mod_reduced_15 (nI k) (nI x) (nI y) left M wd hg rec n (acc + pz (lyr M k) a b X Y * (if 0 ≤ I ∧ I ≤ 1 ∧ 0 ≤ J ∧ J ≤ 1 then 4 else 1)) (zI I) (zI J') := by
  have hat : q_Mod_at (nI k) (((2 : Int32) * nI x) + zI I) (((2 : Int32) * nI y) + zI J) M wd hg = some (pz (lyr M k) a b X Y) := by
    rw [two_z, two_z, zI_add, zI_add, ← eX, ← eY]
    exact at_z hk hw hh a1 b1 ha hb (by omega) (by omega) (by omega) (by omega)
  rw [q_Mod_reduced_15, if_neg (show ¬ (3 : Int32) ≤ zI J from fun q => absurd ((zI_le (a := 3) (by omega) (by omega) (by omega) (by omega)).mp q) (by omega)), show (0 : Int32) = nI 0 from rfl, show q_Mod_within (zI I) (nI 0) (1 : Int32) = _ from within_z (lo := 0) (hi := 1) (by omega) (by omega) (by omega) (by omega), ob_s, show q_Mod_within (zI J) (nI 0) (1 : Int32) = _ from within_z (lo := 0) (hi := 1) (by omega) (by omega) (by omega) (by omega), ob_s]
  by_cases c1 : 0 ≤ I ∧ I ≤ 1
  · rw [if_pos (show ((0 : Nat) : Int) ≤ I ∧ I ≤ ((1 : Nat) : Int) by omega), if_neg (by decide)]
    by_cases c2 : 0 ≤ J ∧ J ≤ 1
    · rw [if_pos (show ((0 : Nat) : Int) ≤ J ∧ J ≤ ((1 : Nat) : Int) by omega), if_neg (by decide), q_Mod_reduced_46, hat, ob_s, if_neg n10, zI_1, ← eJ, if_pos (by omega)]
    · rw [if_neg (show ¬ (((0 : Nat) : Int) ≤ J ∧ J ≤ ((1 : Nat) : Int)) by omega), if_pos (show (0 : Int32) = nI 0 from rfl), q_Mod_reduced_45, q_Mod_reduced_46, hat, ob_s, if_pos rfl, zI_1, ← eJ, if_neg (by omega)]
  · rw [if_neg (show ¬ (((0 : Nat) : Int) ≤ I ∧ I ≤ ((1 : Nat) : Int)) by omega), if_pos (show (0 : Int32) = nI 0 from rfl), q_Mod_reduced_45, q_Mod_reduced_46, hat, ob_s, if_pos rfl, zI_1, ← eJ, if_neg (by omega)]
def hv (t left : Int32) : Int32 := if t = 14 then left else if t ≤ 14 then 0 else 1
theorem hv_m (t left : Int32) : (if t ≤ (14 : Int32) then (if (14 : Int32) ≤ t then some left else some (0 : Int32)) else some (1 : Int32)) = some (hv t left) := by
  unfold hv
  by_cases h : t ≤ 14
  · rw [if_pos h]
    by_cases h2 : (14 : Int32) ≤ t
    · rw [if_pos h2, if_pos (Int32.le_antisymm h h2)]
    · rw [if_neg h2, if_neg (fun e => h2 (by rw [e]; exact Int32.le_refl _)), if_pos h]
  · rw [if_neg h, if_neg (fun e => h (by rw [e]; exact Int32.le_refl _)), if_neg h]
theorem wt_m {f : Int → Int → Int32} {n : Int → Int → Nat} (hf : ∀ X Y, f X Y = nI (n X Y)) (p0 p1 p2 p3 q0 q1 q2 q3 : Int) :
  0 + f p0 q0 * 1 + f p0 q1 * 1 + f p0 q2 * 1 + f p0 q3 * 1 + f p1 q0 * 1 + f p1 q1 * 4 + f p1 q2 * 4 + f p1 q3 * 1 + f p2 q0 * 1 + f p2 q1 * 4 + f p2 q2 * 4 + f p2 q3 * 1 + f p3 q0 * 1 + f p3 q1 * 1 + f p3 q2 * 1 + f p3 q3 * 1 =
  (3 : Int32) * (0 + f p1 q1 + f p2 q1 + f p1 q2 + f p2 q2) + (0 + f p0 q0 + f p1 q0 + f p2 q0 + f p3 q0 + f p0 q1 + f p1 q1 + f p2 q1 + f p3 q1 + f p0 q2 + f p1 q2 + f p2 q2 + f p3 q2 + f p0 q3 + f p1 q3 + f p2 q3 + f p3 q3) := by
  simp only [hf, show (0 : Int32) = nI 0 from rfl, show (1 : Int32) = nI 1 from rfl, show (3 : Int32) = nI 3 from rfl, show (4 : Int32) = nI 4 from rfl, nI_add, pk_mul]
  congr 1
  omega
theorem reduced {k x y a b : Nat} {left : Int32} {M wd hg : Nat → Int32} (hk : k < 3) (hw : wd k = nI a) (hh : hg k = nI b) (a1 : 1 ≤ a) (b1 : 1 ≤ b) (ha : a ≤ 16) (hb : b ≤ 16) (hx : x < 16) (hy : y < 16) (hbit : ∀ i j, i < a → j < b → lyr M k (16 * j + i) = 0 ∨ lyr M k (16 * j + i) = 1) : q_Mod_reduced (nI k) (nI x) (nI y) left M wd hg = some (hv (wt (lyr M k) a b x y) left) := by
  have row : ∀ (I X : Int) (rec : Int32 → Int32 → Option Int32) (acc : Int32), -1 ≤ I → I ≤ 2 → X = 2 * x + I → q_Mod_reduced_15 (nI k) (nI x) (nI y) left M wd hg rec 5000 acc (zI I) (-1 : Int32) = rec (acc + pz (lyr M k) a b X (2 * y - 1) * 1 + pz (lyr M k) a b X (2 * y) * (if 0 ≤ I ∧ I ≤ 1 then 4 else 1) + pz (lyr M k) a b X (2 * y + 1) * (if 0 ≤ I ∧ I ≤ 1 then 4 else 1) + pz (lyr M k) a b X (2 * y + 2) * 1) (zI (I + 1)) := by
    intro I X rec acc i1 i2 eX
    rw [show (-1 : Int32) = zI (-1) from rfl]
    rw [r15_step (J' := 0) (X := X) (Y := 2 * y - 1) hk hw hh a1 b1 ha hb hx hy i1 i2 (by omega) (by omega) eX (by omega) (by omega), if_neg (show ¬ (0 ≤ I ∧ I ≤ 1 ∧ (0 : Int) ≤ -1 ∧ (-1 : Int) ≤ 1) by omega)]
    rw [r15_step (J' := 1) (X := X) (Y := 2 * y) hk hw hh a1 b1 ha hb hx hy i1 i2 (by omega) (by omega) eX (by omega) (by omega)]
    rw [r15_step (J' := 2) (X := X) (Y := 2 * y + 1) hk hw hh a1 b1 ha hb hx hy i1 i2 (by omega) (by omega) eX (by omega) (by omega)]
    rw [r15_step (J' := 3) (X := X) (Y := 2 * y + 2) hk hw hh a1 b1 ha hb hx hy i1 i2 (by omega) (by omega) eX (by omega) (by omega), if_neg (show ¬ (0 ≤ I ∧ I ≤ 1 ∧ (0 : Int) ≤ 2 ∧ (2 : Int) ≤ 1) by omega)]
    rw [r15_stop, zI_1]
    by_cases c : 0 ≤ I ∧ I ≤ 1
    · rw [if_pos (show 0 ≤ I ∧ I ≤ 1 ∧ (0 : Int) ≤ 0 ∧ (0 : Int) ≤ 1 by omega), if_pos (show 0 ≤ I ∧ I ≤ 1 ∧ (0 : Int) ≤ 1 ∧ (1 : Int) ≤ 1 by omega), if_pos c]
    · rw [if_neg (show ¬ (0 ≤ I ∧ I ≤ 1 ∧ (0 : Int) ≤ 0 ∧ (0 : Int) ≤ 1) by omega), if_neg (show ¬ (0 ≤ I ∧ I ≤ 1 ∧ (0 : Int) ≤ 1 ∧ (1 : Int) ≤ 1) by omega), if_neg c]
  have r6 : ∀ (I : Int) (n : Nat) (acc : Int32), -1 ≤ I → I ≤ 2 → q_Mod_reduced_6 (nI k) (nI x) (nI y) left M wd hg (n + 1) acc (zI I) = q_Mod_reduced_15 (nI k) (nI x) (nI y) left M wd hg (q_Mod_reduced_6 (nI k) (nI x) (nI y) left M wd hg n) 5000 acc (zI I) (-1 : Int32) := by
    intro I n acc i1 i2
    rw [q_Mod_reduced_6, if_neg (show ¬ (3 : Int32) ≤ zI I from fun q => absurd ((zI_le (a := 3) (by omega) (by omega) (by omega) (by omega)).mp q) (by omega))]
  rw [q_Mod_reduced, show q_Mod_reduced_6 (nI k) (nI x) (nI y) left M wd hg 5000 (0 : Int32) (-1 : Int32) = q_Mod_reduced_6 (nI k) (nI x) (nI y) left M wd hg 5000 (0 : Int32) (zI (-1)) from rfl]
  rw [r6 (-1) _ _ (by omega) (by omega), row (-1) (2 * x - 1) _ _ (by omega) (by omega) (by omega), if_neg (by omega)]
  rw [show (-1 : Int) + 1 = 0 from rfl, r6 0 _ _ (by omega) (by omega), row 0 (2 * x) _ _ (by omega) (by omega) (by omega), if_pos (by omega)]
  rw [show (0 : Int) + 1 = 1 from rfl, r6 1 _ _ (by omega) (by omega), row 1 (2 * x + 1) _ _ (by omega) (by omega) (by omega), if_pos (by omega)]
  rw [show (1 : Int) + 1 = 2 from rfl, r6 2 _ _ (by omega) (by omega), row 2 (2 * x + 2) _ _ (by omega) (by omega) (by omega), if_neg (by omega)]
  rw [show (2 : Int) + 1 = 3 from rfl, q_Mod_reduced_6, if_pos (by decide), hv_m]
  have hn : ∀ X Y, pz (lyr M k) a b X Y = nI ((fun X Y => Classical.choose (bit_n (pz_bit hbit X Y))) X Y) := fun X Y => (Classical.choose_spec (bit_n (pz_bit hbit X Y))).2
  rw [wt_m hn]
  rfl
/-- the half's pixels, left to right -/
def hl (px : Nat → Int32) (a b y : Nat) : Nat → Int32
  | 0 => hv (wt px a b 0 y) 0
  | x + 1 => hv (wt px a b (x + 1) y) (hl px a b y x)
def lf (px : Nat → Int32) (a b y : Nat) : Nat → Int32
  | 0 => 0
  | x + 1 => hl px a b y x
theorem hl_lf (px : Nat → Int32) (a b y x : Nat) : hl px a b y x = hv (wt px a b x y) (lf px a b y x) := by
  cases x <;> rfl
theorem hl_bit (px : Nat → Int32) (a b y x : Nat) : hl px a b y x = 0 ∨ hl px a b y x = 1 := by
  induction x with
  | zero =>
    rw [hl_lf]
    unfold hv lf
    split
    · exact Or.inl rfl
    · split
      · exact Or.inl rfl
      · exact Or.inr rfl
  | succ x ih =>
    rw [hl_lf]
    unfold hv lf
    split
    · exact ih
    · split
      · exact Or.inl rfl
      · exact Or.inr rfl
theorem wt_eq {px px' : Nat → Int32} {a b : Nat} (h : ∀ i j, i < a → j < b → px (16 * j + i) = px' (16 * j + i)) (x y : Nat) : wt px a b x y = wt px' a b x y := by
  unfold wt
  simp only [pz_eq h]
theorem hl_eq {px px' : Nat → Int32} {a b : Nat} (h : ∀ i j, i < a → j < b → px (16 * j + i) = px' (16 * j + i)) (y x : Nat) : hl px a b y x = hl px' a b y x := by
  induction x with
  | zero =>
    unfold hl
    rw [wt_eq h]
  | succ x ih =>
    unfold hl
    rw [wt_eq h, ih]
theorem hc_row {ox : Nat → Int32} {a b a2 b2 y : Nat} {rec : Int32 → (Nat → Int32) → Int32 → Int32 → Option ((Nat → Int32) × Int32 × Int32)} (ha : a ≤ 16) (hb : b ≤ 16) (ha2 : a2 ≤ 16) (hb2 : b2 ≤ 16) (hy : y < b2) : ∀ d x n px, x + d = a2 → d < n → (∀ x', x' < x → px (16 * y + x') = hl ox a b y x') → ∃ g, q_Pic_becomeHalfOf_30 ox (nI a) (nI b) rec n (nI y) (nI x) px (nI a2) (nI b2) = rec (nI (y + 1)) g (nI a2) (nI b2) ∧ (∀ x', x' < a2 → g (16 * y + x') = hl ox a b y x') ∧ (∀ j, j < 16 * y → g j = px j) := by
  intro d
  induction d with
  | zero =>
    intro x n px hk hn hp
    obtain ⟨n, rfl⟩ : ∃ m, n = m + 1 := ⟨n - 1, by omega⟩
    obtain rfl : x = a2 := by omega
    refine ⟨px, ?_, hp, fun j _ => rfl⟩
    rw [q_Pic_becomeHalfOf_30, if_pos (nI_le (Nat.le_refl _) (by omega)), nI_1]
  | succ d ih =>
    intro x n px hk hn hp
    obtain ⟨n, rfl⟩ : ∃ m, n = m + 1 := ⟨n - 1, by omega⟩
    have hpix : q_Pic_pixel (nI x - (1 : Int32)) (nI y) px (nI a2) (nI b2) = some (lf ox a b y x) := by
      rw [nI_zI x, nI_zI y, zI_m1, pix_z ha2 hb2 (by omega) (by omega) (by omega) (by omega)]
      cases x with
      | zero => rw [pz_out (by omega)]; rfl
      | succ x =>
        rw [show ((x + 1 : Nat) : Int) - 1 = (x : Int) by omega, pz_in (by omega) hy, hp x (by omega)]
        rfl
    have hpt : ∀ v, q_Pic_becomeHalfOf_87 ox (nI a) (nI b) (q_Pic_becomeHalfOf_30 ox (nI a) (nI b) rec n) (nI y) (nI x) (nI x) (nI y) v px (nI a2) (nI b2) = q_Pic_becomeHalfOf_30 ox (nI a) (nI b) rec n (nI y) (nI (x + 1)) (upd px (16 * y + x) v) (nI a2) (nI b2) := by
      intro v
      rw [q_Pic_becomeHalfOf_87, paint_in (by omega) hy ha2 hb2, ob_s, nI_1]
    have hgo : q_Pic_becomeHalfOf_30 ox (nI a) (nI b) rec (n + 1) (nI y) (nI x) px (nI a2) (nI b2) = q_Pic_becomeHalfOf_30 ox (nI a) (nI b) rec n (nI y) (nI (x + 1)) (upd px (16 * y + x) (hl ox a b y x)) (nI a2) (nI b2) := by
      rw [q_Pic_becomeHalfOf_30, if_neg (nI_ge (show x < a2 by omega) (by omega)), weight ha hb (by omega) (by omega), ob_s, hpix, ob_s, hpt, hpt, hpt, hl_lf]
      unfold hv
      split
      · rfl
      · split <;> rfl
    rw [hgo]
    obtain ⟨g, e1, e2, e3⟩ := ih (x + 1) n (upd px (16 * y + x) (hl ox a b y x)) (by omega) (by omega) (fun x' hx' => by
      by_cases e : x' = x
      · subst e; rw [upd_same]
      · rw [upd_other _ _ (by omega), hp x' (by omega)])
    exact ⟨g, e1, e2, fun j hj => by rw [e3 j hj, upd_other _ _ (by omega)]⟩
theorem hc_all {ox : Nat → Int32} {a b a2 b2 : Nat} (ha : a ≤ 16) (hb : b ≤ 16) (ha2 : a2 ≤ 16) (hb2 : b2 ≤ 16) : ∀ d y n px, y + d = b2 → d < n → (∀ x' y', x' < a2 → y' < y → px (16 * y' + x') = hl ox a b y' x') → ∃ g, q_Pic_becomeHalfOf_20 ox (nI a) (nI b) n (nI y) px (nI a2) (nI b2) = some (g, nI a2, nI b2) ∧ (∀ x' y', x' < a2 → y' < b2 → g (16 * y' + x') = hl ox a b y' x') := by
  intro d
  induction d with
  | zero =>
    intro y n px hk hn hp
    obtain ⟨n, rfl⟩ : ∃ m, n = m + 1 := ⟨n - 1, by omega⟩
    obtain rfl : y = b2 := by omega
    refine ⟨px, ?_, hp⟩
    rw [q_Pic_becomeHalfOf_20, if_pos (nI_le (Nat.le_refl _) (by omega))]
  | succ d ih =>
    intro y n px hk hn hp
    obtain ⟨n, rfl⟩ : ∃ m, n = m + 1 := ⟨n - 1, by omega⟩
    obtain ⟨g, e1, e2, e3⟩ := hc_row (ox := ox) (a := a) (b := b) (a2 := a2) (b2 := b2) (y := y) (rec := q_Pic_becomeHalfOf_20 ox (nI a) (nI b) n) ha hb ha2 hb2 (by omega) a2 0 5000 px (by omega) (by omega) (fun x' h => absurd h (by omega))
    obtain ⟨g2, f1, f2⟩ := ih (y + 1) n g (by omega) (by omega) (fun x' y' hx' hy' => by
      by_cases e : y' = y
      · subst e; exact e2 x' hx'
      · rw [e3 _ (by omega)]; exact hp x' y' hx' (by omega))
    refine ⟨g2, ?_, f2⟩
    rw [q_Pic_becomeHalfOf_20, if_neg (nI_ge (show y < b2 by omega) (by omega))]
    exact e1.trans f1
theorem half_c {px ox : Nat → Int32} {w h : Int32} {a b : Nat} (a1 : 1 ≤ a) (b1 : 1 ≤ b) (ha : a ≤ 16) (hb : b ≤ 16) : ∃ g, q_Pic_becomeHalfOf px w h ox (nI a) (nI b) = some (g, nI ((a + 1) / 2), nI ((b + 1) / 2)) ∧ (∀ x' y', x' < (a + 1) / 2 → y' < (b + 1) / 2 → g (16 * y' + x') = hl ox a b y' x') := by
  obtain ⟨g, e1, e2⟩ := hc_all (ox := ox) (a := a) (b := b) (a2 := (a + 1) / 2) (b2 := (b + 1) / 2) ha hb (by omega) (by omega) ((b + 1) / 2) 0 5000 (fl px 0 0 256 (fun _ => 0)) (by omega) (by omega) (fun x' y' _ h => absurd h (by omega))
  refine ⟨g, ?_, e2⟩
  rw [q_Pic_becomeHalfOf, q_halfSide, q_halfSide, ob_s, ob_s, q_Pic_blank, fill256, ob_s, ob_s, half_nI (by omega), half_nI (by omega)]
  exact e1
theorem hm_row {M wd hg : Nat → Int32} {k a b y : Nat} {rec : Int32 → (Nat → Int32) → Option (Nat → Int32)} (hk : k < 3) (hw : wd k = nI a) (hh : hg k = nI b) (a1 : 1 ≤ a) (b1 : 1 ≤ b) (ha : a ≤ 16) (hb : b ≤ 16) (hbit : ∀ i j, i < a → j < b → lyr M k (16 * j + i) = 0 ∨ lyr M k (16 * j + i) = 1) (hy : y < (b + 1) / 2) : ∀ d x n hf, x + d = (a + 1) / 2 → d < n → (∀ x', x' < x → hf (16 * y + x') = hl (lyr M k) a b y x') → ∃ g, q_Mod_reduce_21 (nI k) M wd hg rec n (nI y) (lf (lyr M k) a b y x) (nI x) hf = rec (nI (y + 1)) g ∧ (∀ x', x' < (a + 1) / 2 → g (16 * y + x') = hl (lyr M k) a b y x') ∧ (∀ j, j < 16 * y → g j = hf j) := by
  intro d
  induction d with
  | zero =>
    intro x n hf hd hn hp
    obtain ⟨n, rfl⟩ : ∃ m, n = m + 1 := ⟨n - 1, by omega⟩
    obtain rfl : x = (a + 1) / 2 := by omega
    refine ⟨hf, ?_, hp, fun j _ => rfl⟩
    rw [q_Mod_reduce_21, if_pos (vpb_nI hk (by omega)), nI_clamp (by omega), hw, half_nI (by omega), if_pos (nI_le (Nat.le_refl _) (by omega)), nI_1]
  | succ d ih =>
    intro x n hf hd hn hp
    obtain ⟨n, rfl⟩ : ∃ m, n = m + 1 := ⟨n - 1, by omega⟩
    obtain ⟨g, e1, e2, e3⟩ := ih (x + 1) n (upd hf (16 * y + x) (hl (lyr M k) a b y x)) (by omega) (by omega) (fun x' hx' => by
      by_cases e : x' = x
      · subst e; rw [upd_same]
      · rw [upd_other _ _ (by omega), hp x' (by omega)])
    refine ⟨g, ?_, e2, fun j hj => by rw [e3 j hj, upd_other _ _ (by omega)]⟩
    rw [q_Mod_reduce_21, if_pos (vpb_nI hk (by omega)), nI_clamp (by omega), hw, half_nI (by omega), if_neg (nI_ge (show x < (a + 1) / 2 by omega) (by omega)), reduced hk hw hh a1 b1 ha hb (by omega) (by omega) hbit, ob_s, ix16, if_pos (vpb_nI (show 16 * y + x < 256 by omega) (by omega)), nI_1, nI_clamp (by omega), ← hl_lf]
    exact e1
theorem hm_all {M wd hg : Nat → Int32} {k a b : Nat} (hk : k < 3) (hw : wd k = nI a) (hh : hg k = nI b) (a1 : 1 ≤ a) (b1 : 1 ≤ b) (ha : a ≤ 16) (hb : b ≤ 16) (hbit : ∀ i j, i < a → j < b → lyr M k (16 * j + i) = 0 ∨ lyr M k (16 * j + i) = 1) : ∀ d y n hf, y + d = (b + 1) / 2 → d < n → (∀ x' y', x' < (a + 1) / 2 → y' < y → hf (16 * y' + x') = hl (lyr M k) a b y' x') → ∃ g, q_Mod_reduce_2 (nI k) M wd hg n (nI y) hf = some g ∧ (∀ x' y', x' < (a + 1) / 2 → y' < (b + 1) / 2 → g (16 * y' + x') = hl (lyr M k) a b y' x') := by
  intro d
  induction d with
  | zero =>
    intro y n hf hd hn hp
    obtain ⟨n, rfl⟩ : ∃ m, n = m + 1 := ⟨n - 1, by omega⟩
    obtain rfl : y = (b + 1) / 2 := by omega
    refine ⟨hf, ?_, hp⟩
    rw [q_Mod_reduce_2, if_pos (vpb_nI hk (by omega)), nI_clamp (by omega), hh, half_nI (by omega), if_pos (nI_le (Nat.le_refl _) (by omega))]
  | succ d ih =>
    intro y n hf hd hn hp
    obtain ⟨n, rfl⟩ : ∃ m, n = m + 1 := ⟨n - 1, by omega⟩
    obtain ⟨g, e1, e2, e3⟩ := hm_row (rec := q_Mod_reduce_2 (nI k) M wd hg n) (y := y) hk hw hh a1 b1 ha hb hbit (by omega) ((a + 1) / 2) 0 5000 hf (by omega) (by omega) (fun x' h => absurd h (by omega))
    obtain ⟨g2, f1, f2⟩ := ih (y + 1) n g (by omega) (by omega) (fun x' y' hx' hy' => by
      by_cases e : y' = y
      · subst e; exact e2 x' hx'
      · rw [e3 _ (by omega)]; exact hp x' y' hx' (by omega))
    refine ⟨g2, ?_, f2⟩
    rw [q_Mod_reduce_2, if_pos (vpb_nI hk (by omega)), nI_clamp (by omega), hh, half_nI (by omega), if_neg (nI_ge (show y < (b + 1) / 2 by omega) (by omega))]
    exact e1.trans f1
theorem half_m {M wd hg hf : Nat → Int32} {k a b : Nat} (hk : k < 3) (hw : wd k = nI a) (hh : hg k = nI b) (a1 : 1 ≤ a) (b1 : 1 ≤ b) (ha : a ≤ 16) (hb : b ≤ 16) (hbit : ∀ i j, i < a → j < b → lyr M k (16 * j + i) = 0 ∨ lyr M k (16 * j + i) = 1) : ∃ g, q_Mod_reduce (nI k) M wd hg hf = some g ∧ (∀ x' y', x' < (a + 1) / 2 → y' < (b + 1) / 2 → g (16 * y' + x') = hl (lyr M k) a b y' x') :=
  hm_all hk hw hh a1 b1 ha hb hbit ((b + 1) / 2) 0 5000 hf (by omega) (by omega) (fun x' y' _ h => absurd h (by omega))
