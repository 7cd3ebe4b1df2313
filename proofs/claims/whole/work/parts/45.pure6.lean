/-! whole numbers as machine numbers; what a picture shows at a place -/
def zI (z : Int) : Int32 := Int32.ofInt z
theorem zI_toInt {z : Int} (h1 : -1000000 < z) (h2 : z < 1000000) : (zI z).toInt = z := Int32.toInt_ofInt_of_le (by omega) (by omega)
theorem zI_add (a b : Int) : zI a + zI b = zI (a + b) := (Int32.ofInt_add a b).symm
theorem zI_mul (a b : Int) : zI a * zI b = zI (a * b) := (Int32.ofInt_mul a b).symm
theorem zI_sub (a b : Int) : zI a - zI b = zI (a - b) := (Int32.ofInt_sub a b).symm
theorem zI_nat (n : Nat) : zI (n : Int) = nI n := by
  unfold zI nI
  first
    | exact Int32.ofInt_eq_ofNat
    | exact Int32.ofInt_natCast n
    | exact (Int32.ofNat_eq_ofInt n).symm
    | (apply Int32.toBitVec_inj.mp; simp)
    | (apply Int32.toBitVec_inj.mp; exact BitVec.ofInt_natCast 32 n)
theorem zI_le {a b : Int} (h1 : -1000000 < a) (h2 : a < 1000000) (h3 : -1000000 < b) (h4 : b < 1000000) : zI a ≤ zI b ↔ a ≤ b := by
  rw [Int32.le_iff_toInt_le, zI_toInt h1 h2, zI_toInt h3 h4]
theorem zI_lt {a b : Int} (h1 : -1000000 < a) (h2 : a < 1000000) (h3 : -1000000 < b) (h4 : b < 1000000) : zI a < zI b ↔ a < b := by
  rw [Int32.lt_iff_toInt_lt, zI_toInt h1 h2, zI_toInt h3 h4]
theorem zI_eq {a b : Int} (h1 : -1000000 < a) (h2 : a < 1000000) (h3 : -1000000 < b) (h4 : b < 1000000) (h : zI a = zI b) : a = b := by
  rw [← zI_toInt h1 h2, h, zI_toInt h3 h4]
theorem nI_zI (n : Nat) : nI n = zI (n : Int) := (zI_nat n).symm
theorem zI_1 (a : Int) : zI a + (1 : Int32) = zI (a + 1) := zI_add a 1
theorem zI_m1 (a : Int) : zI a - (1 : Int32) = zI (a - 1) := zI_sub a 1
def pz (px : Nat → Int32) (a b : Nat) (X Y : Int) : Int32 := if 0 ≤ X ∧ X < a ∧ 0 ≤ Y ∧ Y < b then px (16 * Y.toNat + X.toNat) else 0
theorem pix_z {px : Nat → Int32} {a b : Nat} {X Y : Int} (ha : a ≤ 16) (hb : b ≤ 16) (h1 : -1000000 < X) (h2 : X < 1000000) (h3 : -1000000 < Y) (h4 : Y < 1000000) : q_Pic_pixel (zI X) (zI Y) px (nI a) (nI b) = some (pz px a b X Y) := by
  rw [pix ha hb]
  unfold pv pz
  rw [zI_toInt h1 h2, zI_toInt h3 h4]
theorem pz_in {px : Nat → Int32} {a b i j : Nat} (hi : i < a) (hj : j < b) : pz px a b i j = px (16 * j + i) := by
  unfold pz
  rw [if_pos (by omega)]
  rfl
theorem pz_out {px : Nat → Int32} {a b : Nat} {X Y : Int} (h : X < 0 ∨ (a : Int) ≤ X ∨ Y < 0 ∨ (b : Int) ≤ Y) : pz px a b X Y = 0 := by
  unfold pz
  rw [if_neg (by omega)]
theorem pz_eq {px px' : Nat → Int32} {a b : Nat} (h : ∀ i j, i < a → j < b → px (16 * j + i) = px' (16 * j + i)) (X Y : Int) : pz px a b X Y = pz px' a b X Y := by
  unfold pz
  by_cases c : 0 ≤ X ∧ X < a ∧ 0 ≤ Y ∧ Y < b
  · rw [if_pos c, if_pos c]
    exact h _ _ (by omega) (by omega)
  · rw [if_neg c, if_neg c]
theorem pz_bit {px : Nat → Int32} {a b : Nat} (h : ∀ i j, i < a → j < b → px (16 * j + i) = 0 ∨ px (16 * j + i) = 1) (X Y : Int) : pz px a b X Y = 0 ∨ pz px a b X Y = 1 := by
  unfold pz
  by_cases c : 0 ≤ X ∧ X < a ∧ 0 ≤ Y ∧ Y < b
  · rw [if_pos c]
    exact h _ _ (by omega) (by omega)
  · rw [if_neg c]
    exact Or.inl rfl
theorem bit_n {x : Int32} (h : x = 0 ∨ x = 1) : ∃ n : Nat, n ≤ 1 ∧ x = nI n := by
  rcases h with rfl | rfl
  · exact ⟨0, by omega, rfl⟩
  · exact ⟨1, by omega, rfl⟩
theorem within_z {X : Int} {lo hi : Nat} (h1 : -1000000 < X) (h2 : X < 1000000) (hl : lo < 1000000) (hh : hi < 1000000) : q_Mod_within (zI X) (nI lo) (nI hi) = some (if (lo : Int) ≤ X ∧ X ≤ hi then 1 else 0) := by
  unfold q_Mod_within
  rw [nI_zI, nI_zI]
  by_cases c1 : X < lo
  · rw [if_pos ((zI_lt h1 h2 (by omega) (by omega)).mpr c1), if_neg (by omega)]
  · rw [if_neg (fun q => c1 ((zI_lt h1 h2 (by omega) (by omega)).mp q))]
    by_cases c2 : (hi : Int) < X
    · rw [if_pos ((zI_lt (by omega) (by omega) h1 h2).mpr c2), if_neg (by omega)]
    · rw [if_neg (fun q => c2 ((zI_lt (by omega) (by omega) h1 h2).mp q)), if_pos (by omega)]
theorem ix256 (k i j : Nat) : (((256 : Int32) * nI k) + ((16 : Int32) * nI j)) + nI i = nI (256 * k + (16 * j + i)) := by
  rw [show (16 : Int32) = nI 16 from rfl, show (256 : Int32) = nI 256 from rfl, pk_mul, pk_mul, nI_add, nI_add, Nat.add_assoc]
/-- the cells of a layer of the reference -/
def lyr (M : Nat → Int32) (k : Nat) : Nat → Int32 := fun j => M (256 * k + j)
theorem at_z {M wd hg : Nat → Int32} {k a b : Nat} {X Y : Int} (hk : k < 3) (hw : wd k = nI a) (hh : hg k = nI b) (a1 : 1 ≤ a) (b1 : 1 ≤ b) (ha : a ≤ 16) (hb : b ≤ 16) (h1 : -1000000 < X) (h2 : X < 1000000) (h3 : -1000000 < Y) (h4 : Y < 1000000) : q_Mod_at (nI k) (zI X) (zI Y) M wd hg = some (pz (lyr M k) a b X Y) := by
  unfold q_Mod_at
  have hv := vpb_nI hk (by omega)
  have hc := nI_clamp (show k < 2 ^ 31 by omega)
  rw [if_pos hv, hc, hw, pred_nI a1, show (0 : Int32) = nI 0 from rfl, within_z h1 h2 (by omega) (by omega), ob_s]
  by_cases c1 : 0 ≤ X ∧ X < a
  · rw [if_pos (show ((0 : Nat) : Int) ≤ X ∧ X ≤ ((a - 1 : Nat) : Int) by omega), if_neg (by decide), if_pos hv, hh, pred_nI b1, within_z h3 h4 (by omega) (by omega), ob_s]
    by_cases c2 : 0 ≤ Y ∧ Y < b
    · rw [if_pos (show ((0 : Nat) : Int) ≤ Y ∧ Y ≤ ((b - 1 : Nat) : Int) by omega), if_neg (by decide)]
      obtain ⟨i, rfl⟩ := Int.eq_ofNat_of_zero_le c1.1
      obtain ⟨j, rfl⟩ := Int.eq_ofNat_of_zero_le c2.1
      rw [zI_nat, zI_nat, ix256, if_pos (vpb_nI (by omega) (by omega)), nI_clamp (by omega), pz_in (by omega) (by omega)]
      rfl
    · rw [if_neg (show ¬ (((0 : Nat) : Int) ≤ Y ∧ Y ≤ ((b - 1 : Nat) : Int)) by omega), if_pos (show (0 : Int32) = nI 0 from rfl), pz_out (by omega)]
      rfl
  · rw [if_neg (show ¬ (((0 : Nat) : Int) ≤ X ∧ X ≤ ((a - 1 : Nat) : Int)) by omega), if_pos (show (0 : Int32) = nI 0 from rfl), pz_out (by omega)]
    rfl
/-! the weight around a place -/
theorem s17_stop {P Q s X X' : Int} {px : Nat → Int32} {a b n : Nat} {rec : Int32 → Int32 → Option Int32} {acc Y : Int32} (e : X' = P + s) (b1 : -1000 < P) (b2 : P < 1000) (b3 : 0 ≤ s) (b4 : s < 1000) (e2 : X = X') : q_Pic_sumOfSquare_17 (zI P) (zI Q) (zI s) px (nI a) (nI b) rec (n + 1) acc Y (zI X) = rec acc (Y + (1 : Int32)) := by
  rw [q_Pic_sumOfSquare_17, zI_add, if_pos ((zI_le (by omega) (by omega) (by omega) (by omega)).mpr (by omega))]
theorem s17_step {P Q s X X' Y : Int} {px : Nat → Int32} {a b n : Nat} {rec : Int32 → Int32 → Option Int32} {acc : Int32} (ha : a ≤ 16) (hb : b ≤ 16) (e : X' = X + 1) (h : X < P + s) (b1 : -1000 < P) (b2 : P < 1000) (b3 : 0 ≤ s) (b4 : s < 1000) (b5 : -1000 < Y) (b6 : Y < 1000) (b7 : P ≤ X) : q_Pic_sumOfSquare_17 (zI P) (zI Q) (zI s) px (nI a) (nI b) rec (n + 1) acc (zI Y) (zI X) = q_Pic_sumOfSquare_17 (zI P) (zI Q) (zI s) px (nI a) (nI b) rec n (acc + pz px a b X Y) (zI Y) (zI X') := by
  rw [q_Pic_sumOfSquare_17, zI_add, if_neg (fun q => absurd ((zI_le (by omega) (by omega) (by omega) (by omega)).mp q) (by omega)), pix_z ha hb (by omega) (by omega) (by omega) (by omega), ob_s, zI_1, e]
theorem s6_stop {P Q s Y : Int} {px : Nat → Int32} {a b n : Nat} {acc : Int32} (e : Y = Q + s) (b1 : -1000 < Q) (b2 : Q < 1000) (b3 : 0 ≤ s) (b4 : s < 1000) : q_Pic_sumOfSquare_6 (zI P) (zI Q) (zI s) px (nI a) (nI b) (n + 1) acc (zI Y) = some acc := by
  rw [q_Pic_sumOfSquare_6, zI_add, if_pos ((zI_le (by omega) (by omega) (by omega) (by omega)).mpr (by omega))]
theorem s6_step {P Q s Y : Int} {px : Nat → Int32} {a b n : Nat} {acc : Int32} (h : Y < Q + s) (b1 : -1000 < Q) (b2 : Q < 1000) (b3 : 0 ≤ s) (b4 : s < 1000) (b7 : Q ≤ Y) : q_Pic_sumOfSquare_6 (zI P) (zI Q) (zI s) px (nI a) (nI b) (n + 1) acc (zI Y) = q_Pic_sumOfSquare_17 (zI P) (zI Q) (zI s) px (nI a) (nI b) (q_Pic_sumOfSquare_6 (zI P) (zI Q) (zI s) px (nI a) (nI b) n) 5000 acc (zI Y) (zI P) := by
  rw [q_Pic_sumOfSquare_6, zI_add, if_neg (fun q => absurd ((zI_le (by omega) (by omega) (by omega) (by omega)).mp q) (by omega))]
theorem sum2 {P P1 Q Q1 : Int} {px : Nat → Int32} {a b : Nat} (ha : a ≤ 16) (hb : b ≤ 16) (e1 : P1 = P + 1) (e2 : Q1 = Q + 1) (b1 : -100 < P) (b2 : P < 100) (b3 : -100 < Q) (b4 : Q < 100) : q_Pic_sumOfSquare (zI P) (zI Q) (2 : Int32) px (nI a) (nI b) = some (0 + pz px a b P Q + pz px a b P1 Q + pz px a b P Q1 + pz px a b P1 Q1) := by
  rw [q_Pic_sumOfSquare, show (2 : Int32) = zI 2 from rfl]
  rw [s6_step (by omega) (by omega) (by omega) (by omega) (by omega) (by omega)]
  rw [s17_step ha hb e1 (by omega) (by omega) (by omega) (by omega) (by omega) (by omega) (by omega) (by omega), s17_step (X' := P + 2) ha hb (by omega) (by omega) (by omega) (by omega) (by omega) (by omega) (by omega) (by omega) (by omega), s17_stop rfl (by omega) (by omega) (by omega) (by omega) (by omega), zI_1, ← e2]
  rw [s6_step (by omega) (by omega) (by omega) (by omega) (by omega) (by omega)]
  rw [s17_step ha hb e1 (by omega) (by omega) (by omega) (by omega) (by omega) (by omega) (by omega) (by omega), s17_step (X' := P + 2) ha hb (by omega) (by omega) (by omega) (by omega) (by omega) (by omega) (by omega) (by omega) (by omega), s17_stop rfl (by omega) (by omega) (by omega) (by omega) (by omega), zI_1]
  rw [s6_stop (by omega) (by omega) (by omega) (by omega) (by omega)]
theorem srow4 {P P1 P2 P3 Q Y Y' : Int} {px : Nat → Int32} {a b : Nat} {rec : Int32 → Int32 → Option Int32} {acc : Int32} (ha : a ≤ 16) (hb : b ≤ 16) (e1 : P1 = P + 1) (e2 : P2 = P + 2) (e3 : P3 = P + 3) (eY : Y' = Y + 1) (b1 : -100 < P) (b2 : P < 100) (b3 : -200 < Y) (b4 : Y < 200) : q_Pic_sumOfSquare_17 (zI P) (zI Q) (zI 4) px (nI a) (nI b) rec 5000 acc (zI Y) (zI P) = rec (acc + pz px a b P Y + pz px a b P1 Y + pz px a b P2 Y + pz px a b P3 Y) (zI Y') := by
  rw [s17_step ha hb e1 (by omega) (by omega) (by omega) (by omega) (by omega) (by omega) (by omega) (by omega), s17_step (X' := P2) ha hb (by omega) (by omega) (by omega) (by omega) (by omega) (by omega) (by omega) (by omega) (by omega), s17_step (X' := P3) ha hb (by omega) (by omega) (by omega) (by omega) (by omega) (by omega) (by omega) (by omega) (by omega), s17_step (X' := P + 4) ha hb (by omega) (by omega) (by omega) (by omega) (by omega) (by omega) (by omega) (by omega) (by omega), s17_stop rfl (by omega) (by omega) (by omega) (by omega) (by omega), zI_1, eY]
theorem sum4 {P P1 P2 P3 Q Q1 Q2 Q3 : Int} {px : Nat → Int32} {a b : Nat} (ha : a ≤ 16) (hb : b ≤ 16) (e1 : P1 = P + 1) (e2 : P2 = P + 2) (e3 : P3 = P + 3) (f1 : Q1 = Q + 1) (f2 : Q2 = Q + 2) (f3 : Q3 = Q + 3) (b1 : -100 < P) (b2 : P < 100) (b3 : -100 < Q) (b4 : Q < 100) : q_Pic_sumOfSquare (zI P) (zI Q) (4 : Int32) px (nI a) (nI b) = some (0 + pz px a b P Q + pz px a b P1 Q + pz px a b P2 Q + pz px a b P3 Q + pz px a b P Q1 + pz px a b P1 Q1 + pz px a b P2 Q1 + pz px a b P3 Q1 + pz px a b P Q2 + pz px a b P1 Q2 + pz px a b P2 Q2 + pz px a b P3 Q2 + pz px a b P Q3 + pz px a b P1 Q3 + pz px a b P2 Q3 + pz px a b P3 Q3) := by
  rw [q_Pic_sumOfSquare, show (4 : Int32) = zI 4 from rfl]
  rw [s6_step (by omega) (by omega) (by omega) (by omega) (by omega) (by omega), srow4 ha hb e1 e2 e3 f1 b1 b2 (by omega) (by omega)]
  rw [s6_step (by omega) (by omega) (by omega) (by omega) (by omega) (by omega), srow4 (Y' := Q2) ha hb e1 e2 e3 (by omega) b1 b2 (by omega) (by omega)]
  rw [s6_step (by omega) (by omega) (by omega) (by omega) (by omega) (by omega), srow4 (Y' := Q3) ha hb e1 e2 e3 (by omega) b1 b2 (by omega) (by omega)]
  rw [s6_step (by omega) (by omega) (by omega) (by omega) (by omega) (by omega), srow4 (Y' := Q + 4) ha hb e1 e2 e3 (by omega) b1 b2 (by omega) (by omega)]
  rw [s6_stop (by omega) (by omega) (by omega) (by omega) (by omega)]
def wt (px : Nat → Int32) (a b x y : Nat) : Int32 :=
  (3 : Int32) * (0 + pz px a b (2 * x) (2 * y) + pz px a b (2 * x + 1) (2 * y) + pz px a b (2 * x) (2 * y + 1) + pz px a b (2 * x + 1) (2 * y + 1)) +
  (0 + pz px a b (2 * x - 1) (2 * y - 1) + pz px a b (2 * x) (2 * y - 1) + pz px a b (2 * x + 1) (2 * y - 1) + pz px a b (2 * x + 2) (2 * y - 1) + pz px a b (2 * x - 1) (2 * y) + pz px a b (2 * x) (2 * y) + pz px a b (2 * x + 1) (2 * y) + pz px a b (2 * x + 2) (2 * y) + pz px a b (2 * x - 1) (2 * y + 1) + pz px a b (2 * x) (2 * y + 1) + pz px a b (2 * x + 1) (2 * y + 1) + pz px a b (2 * x + 2) (2 * y + 1) + pz px a b (2 * x - 1) (2 * y + 2) + pz px a b (2 * x) (2 * y + 2) + pz px a b (2 * x + 1) (2 * y + 2) + pz px a b (2 * x + 2) (2 * y + 2))
theorem two_z (x : Nat) : (2 : Int32) * nI x = zI (2 * (x : Int)) := by
  rw [nI_zI, show (2 : Int32) = zI 2 from rfl, zI_mul]
theorem weight {px : Nat → Int32} {a b x y : Nat} (ha : a ≤ 16) (hb : b ≤ 16) (hx : x < 16) (hy : y < 16) : q_Pic_weightAround ((2 : Int32) * nI x) ((2 : Int32) * nI y) px (nI a) (nI b) = some (wt px a b x y) := by
  rw [q_Pic_weightAround, two_z, two_z, sum2 (P1 := 2 * x + 1) (Q1 := 2 * y + 1) ha hb rfl rfl (by omega) (by omega) (by omega) (by omega), ob_s, zI_m1, zI_m1]
  rw [sum4 (P1 := 2 * x) (P2 := 2 * x + 1) (P3 := 2 * x + 2) (Q1 := 2 * y) (Q2 := 2 * y + 1) (Q3 := 2 * y + 2) ha hb (by omega) (by omega) (by omega) (by omega) (by omega) (by omega) (by omega) (by omega) (by omega) (by omega), ob_s]
  rfl
