/-! contexts and plain rows, on both sides -/
def LZ (k a b a' b' : Nat) (bw bh : Int32) (wd hg : Nat → Int32) : Prop := k < 3 ∧ wd k = nI a ∧ hg k = nI b ∧ 1 ≤ a ∧ a ≤ 16 ∧ 1 ≤ b ∧ b ≤ 16 ∧ (k = 0 ∨ (1 ≤ k ∧ wd (k - 1) = nI a' ∧ hg (k - 1) = nI b' ∧ bw = nI a' ∧ bh = nI b' ∧ 1 ≤ a' ∧ a' ≤ 16 ∧ 1 ≤ b' ∧ b' ≤ 16))
def LQ (k a b a' b' : Nat) (px bx M : Nat → Int32) : Prop := RL px M k a b ∧ (k = 0 ∨ RL bx M (k - 1) a' b')
theorem zs (x : Nat) (c : Int) {C : Int32} (h : C = zI c) : nI x - C = zI (x - c) := by rw [h, nI_zI, zI_sub]
theorem zp (x : Nat) (c : Int) {C : Int32} (h : C = zI c) : nI x + C = zI (x + c) := by rw [h, nI_zI, zI_add]
theorem zs1 (x : Nat) : nI x - (1 : Int32) = zI (x - 1) := zs x 1 rfl
theorem zs2 (x : Nat) : nI x - (2 : Int32) = zI (x - 2) := zs x 2 rfl
theorem zs3 (x : Nat) : nI x - (3 : Int32) = zI (x - 3) := zs x 3 rfl
theorem zs4 (x : Nat) : nI x - (4 : Int32) = zI (x - 4) := zs x 4 rfl
theorem zp1 (x : Nat) : nI x + (1 : Int32) = zI (x + 1) := zp x 1 rfl
theorem zp2 (x : Nat) : nI x + (2 : Int32) = zI (x + 2) := zp x 2 rfl
theorem l15_step {x y a b n : Nat} {px : Nat → Int32} {bits : Int32} {X X' : Int} (ha : a ≤ 16) (hb : b ≤ 16) (hx : x < 16) (hy : y < 16) (h1 : -100 < X) (h2 : X < x) (e : X' = X + 1) : q_Stk_lowestContext_15 (nI x) (nI y) px (nI a) (nI b) (n + 1) bits (zI X) = q_Stk_lowestContext_15 (nI x) (nI y) px (nI a) (nI b) n ((2 : Int32) * bits + pz px a b X y) (zI X') := by
  rw [q_Stk_lowestContext_15, nI_zI x, if_neg (fun q => absurd ((zI_le (by omega) (by omega) (by omega) (by omega)).mp q) (by omega)), nI_zI y, pix_z ha hb (by omega) (by omega) (by omega) (by omega), ob_s, zI_1, e]
theorem l15_stop {x y a b n : Nat} {px : Nat → Int32} {bits : Int32} : q_Stk_lowestContext_15 (nI x) (nI y) px (nI a) (nI b) (n + 1) bits (zI x) = q_Stk_lowestContext_46 (nI x) (nI y) px (nI a) (nI b) 5000 bits (zI (x - 2)) := by
  rw [q_Stk_lowestContext_15, zI_nat, if_pos (Int32.le_refl _), zs2 x]
theorem l46_step {x y a b n : Nat} {px : Nat → Int32} {bits : Int32} {X X' : Int} (ha : a ≤ 16) (hb : b ≤ 16) (hx : x < 16) (hy : y < 16) (h1 : -100 < X) (h2 : X ≤ x + 2) (e : X' = X + 1) : q_Stk_lowestContext_46 (nI x) (nI y) px (nI a) (nI b) (n + 1) bits (zI X) = q_Stk_lowestContext_46 (nI x) (nI y) px (nI a) (nI b) n ((2 : Int32) * bits + pz px a b X (y - 1)) (zI X') := by
  rw [q_Stk_lowestContext_46, zp2 x, if_neg (fun q => absurd ((zI_lt (by omega) (by omega) (by omega) (by omega)).mp q) (by omega)), zs1 y, pix_z ha hb (by omega) (by omega) (by omega) (by omega), ob_s, zI_1, e]
theorem l46_stop {x y a b n : Nat} {px : Nat → Int32} {bits : Int32} {X : Int} (ha : a ≤ 16) (hb : b ≤ 16) (hx : x < 16) (hy : y < 16) (e : X = x + 3) : q_Stk_lowestContext_46 (nI x) (nI y) px (nI a) (nI b) (n + 1) bits (zI X) = some ((2 : Int32) * bits + pz px a b x (y - 2)) := by
  rw [q_Stk_lowestContext_46, zp2 x, if_pos ((zI_lt (by omega) (by omega) (by omega) (by omega)).mpr (by omega)), zs2 y, nI_zI x, pix_z ha hb (by omega) (by omega) (by omega) (by omega), ob_s]
theorem low_c {x y a b : Nat} {px : Nat → Int32} (ha : a ≤ 16) (hb : b ≤ 16) (hx : x < 16) (hy : y < 16) : q_Stk_lowestContext (nI x) (nI y) px (nI a) (nI b) = some ((2 : Int32) * ((2 : Int32) * ((2 : Int32) * ((2 : Int32) * ((2 : Int32) * ((2 : Int32) * ((2 : Int32) * ((2 : Int32) * ((2 : Int32) * ((2 : Int32) * 0 + pz px a b (x - 4) y) + pz px a b (x - 3) y) + pz px a b (x - 2) y) + pz px a b (x - 1) y) + pz px a b (x - 2) (y - 1)) + pz px a b (x - 1) (y - 1)) + pz px a b x (y - 1)) + pz px a b (x + 1) (y - 1)) + pz px a b (x + 2) (y - 1)) + pz px a b x (y - 2)) := by
  rw [q_Stk_lowestContext, zs4 x]
  rw [l15_step (X' := x - 3) ha hb hx hy (by omega) (by omega) (by omega), l15_step (X' := x - 2) ha hb hx hy (by omega) (by omega) (by omega), l15_step (X' := x - 1) ha hb hx hy (by omega) (by omega) (by omega), l15_step (X' := x) ha hb hx hy (by omega) (by omega) (by omega), l15_stop]
  rw [l46_step (X' := x - 1) ha hb hx hy (by omega) (by omega) (by omega), l46_step (X' := x) ha hb hx hy (by omega) (by omega) (by omega), l46_step (X' := x + 1) ha hb hx hy (by omega) (by omega) (by omega), l46_step (X' := x + 2) ha hb hx hy (by omega) (by omega) (by omega), l46_step (X' := x + 3) ha hb hx hy (by omega) (by omega) (by omega), l46_stop ha hb hx hy (by omega)]
theorem chN {px : Nat → Int32} {a b : Nat} (h : ∀ i j, i < a → j < b → px (16 * j + i) = 0 ∨ px (16 * j + i) = 1) : ∃ n : Int → Int → Nat, ∀ X Y, n X Y ≤ 1 ∧ pz px a b X Y = nI (n X Y) := ⟨fun X Y => Classical.choose (bit_n (pz_bit h X Y)), fun X Y => Classical.choose_spec (bit_n (pz_bit h X Y))⟩
theorem ctx_0 {x y a b : Nat} {px M wd hg : Nat → Int32} (hw : wd 0 = nI a) (hh : hg 0 = nI b) (a1 : 1 ≤ a) (b1 : 1 ≤ b) (ha : a ≤ 16) (hb : b ≤ 16) (hx : x < 16) (hy : y < 16) (hR : RL px M 0 a b) : ∃ c : Nat, c < 2563 ∧ q_Stk_lowestContext (nI x) (nI y) px (nI a) (nI b) = some (nI c) ∧ q_Mod_contextOf (0 : Int32) (nI x) (nI y) M wd hg = some (nI c) := by
  obtain ⟨n, hn⟩ := chN hR.bitc
  have ha0 : ∀ X Y : Int, -1000 < X → X < 1000 → -1000 < Y → Y < 1000 → q_Mod_at (0 : Int32) (zI X) (zI Y) M wd hg = some (nI (n X Y)) := by
    intro X Y x1 x2 y1 y2
    rw [← (hn X Y).2, pz_eq hR.eq]
    exact at_z (k := 0) (by omega) hw hh a1 b1 ha hb (by omega) (by omega) (by omega) (by omega)
  have b1 := (hn (x - 4) y).1
  have b2 := (hn (x - 3) y).1
  have b3 := (hn (x - 2) y).1
  have b4 := (hn (x - 1) y).1
  have b5 := (hn (x - 2) (y - 1)).1
  have b6 := (hn (x - 1) (y - 1)).1
  have b7 := (hn x (y - 1)).1
  have b8 := (hn (x + 1) (y - 1)).1
  have b9 := (hn (x + 2) (y - 1)).1
  have b10 := (hn x (y - 2)).1
  refine ⟨n (x - 4) y * 512 + n (x - 3) y * 256 + n (x - 2) y * 128 + n (x - 1) y * 64 + n (x - 2) (y - 1) * 32 + n (x - 1) (y - 1) * 16 + n x (y - 1) * 8 + n (x + 1) (y - 1) * 4 + n (x + 2) (y - 1) * 2 + n x (y - 2), by omega, ?_, ?_⟩
  · rw [low_c ha hb hx hy]
    simp only [(hn _ _).2, show (2 : Int32) = nI 2 from rfl, show (0 : Int32) = nI 0 from rfl, nI_add, pk_mul]
    congr 2
    omega
  · rw [q_Mod_contextOf, if_pos rfl, zs4 x, zs3 x, zs2 x, zs1 x, zs1 y, zs2 y, zp1 x, zp2 x, nI_zI x, nI_zI y]
    rw [ha0 _ _ (by omega) (by omega) (by omega) (by omega), ob_s, ha0 _ _ (by omega) (by omega) (by omega) (by omega), ob_s, ha0 _ _ (by omega) (by omega) (by omega) (by omega), ob_s, ha0 _ _ (by omega) (by omega) (by omega) (by omega), ob_s, ha0 _ _ (by omega) (by omega) (by omega) (by omega), ob_s, ha0 _ _ (by omega) (by omega) (by omega) (by omega), ob_s, ha0 _ _ (by omega) (by omega) (by omega) (by omega), ob_s, ha0 _ _ (by omega) (by omega) (by omega) (by omega), ob_s, ha0 _ _ (by omega) (by omega) (by omega) (by omega), ob_s, ha0 _ _ (by omega) (by omega) (by omega) (by omega), ob_s]
    simp only [show (512 : Int32) = nI 512 from rfl, show (256 : Int32) = nI 256 from rfl, show (128 : Int32) = nI 128 from rfl, show (64 : Int32) = nI 64 from rfl, show (32 : Int32) = nI 32 from rfl, show (16 : Int32) = nI 16 from rfl, show (8 : Int32) = nI 8 from rfl, show (4 : Int32) = nI 4 from rfl, show (2 : Int32) = nI 2 from rfl, nI_add, pk_mul]
theorem half2 {x : Nat} (h : x < 1000) : nI x / (2 : Int32) = nI (x / 2) := pk_div (d := 2) (by omega) (by omega) (by omega)
theorem rem2 {x : Nat} (h : x < 1000) : nI x - nI x / (2 : Int32) * (2 : Int32) = nI (x % 2) := pk_rem (d := 2) (by omega) (by omega) (by omega)
def sd (x : Nat) : Int := if x % 2 = 0 then ((x / 2 : Nat) : Int) - 1 else ((x / 2 : Nat) : Int) + 1
theorem sd_b {x : Nat} (h : x < 16) : -2 < sd x ∧ sd x < 20 := by
  unfold sd
  split <;> omega
theorem u138_step {k x y a b n : Nat} {px bx : Nat → Int32} {bits bw bh : Int32} {X X' : Int} (ha : a ≤ 16) (hb : b ≤ 16) (hx : x < 16) (hy : y < 16) (h1 : -100 < X) (h2 : X ≤ x + 1) (e : X' = X + 1) : q_Stk_upperContext_138 (nI k) (nI x) (nI y) px (nI a) (nI b) bx bw bh (n + 1) bits (zI X) = q_Stk_upperContext_138 (nI k) (nI x) (nI y) px (nI a) (nI b) bx bw bh n ((2 : Int32) * bits + pz px a b X (y - 1)) (zI X') := by
  rw [q_Stk_upperContext_138, zp1 x, if_neg (fun q => absurd ((zI_lt (by omega) (by omega) (by omega) (by omega)).mp q) (by omega)), zs1 y, pix_z ha hb (by omega) (by omega) (by omega) (by omega), ob_s, zI_1, e]
theorem u138_stop {k x y a b n : Nat} {px bx : Nat → Int32} {bits bw bh : Int32} {X : Int} (hx : x < 16) (e : X = x + 2) : q_Stk_upperContext_138 (nI k) (nI x) (nI y) px (nI a) (nI b) bx bw bh (n + 1) bits (zI X) = some ((((512 : Int32) * nI k) + (512 : Int32)) + bits) := by
  rw [q_Stk_upperContext_138, zp1 x, if_pos ((zI_lt (by omega) (by omega) (by omega) (by omega)).mpr (by omega))]
theorem up_c {k x y a b a' b' : Nat} {px bx : Nat → Int32} (hk : 1 ≤ k) (hk3 : k < 3) (ha : a ≤ 16) (hb : b ≤ 16) (ha' : a' ≤ 16) (hb' : b' ≤ 16) (hx : x < 16) (hy : y < 16) : q_Stk_upperContext (nI k) (nI x) (nI y) px (nI a) (nI b) bx (nI a') (nI b') = some ((((512 : Int32) * nI k) + (512 : Int32)) + ((2 : Int32) * ((2 : Int32) * ((2 : Int32) * ((2 : Int32) * ((2 : Int32) * ((2 : Int32) * ((2 : Int32) * ((2 : Int32) * nI (x % 2) + nI (y % 2)) + pz bx a' b' (x / 2 : Nat) (y / 2 : Nat)) + pz bx a' b' (sd x) (y / 2 : Nat)) + pz bx a' b' (x / 2 : Nat) (sd y)) + pz px a b (x - 1) y) + pz px a b (x - 1) (y - 1)) + pz px a b x (y - 1)) + pz px a b (x + 1) (y - 1))) := by
  have s1 := sd_b hx
  have s2 := sd_b hy
  have t111 : ∀ (k0 : Int32) (K2 K3 : Int), -100 < K2 → K2 < 100 → -100 < K3 → K3 < 100 → q_Stk_upperContext_111 (nI k) (nI x) (nI y) px (nI a) (nI b) bx (nI a') (nI b') k0 (zI K2) (zI K3) = some ((((512 : Int32) * nI k) + (512 : Int32)) + ((2 : Int32) * ((2 : Int32) * ((2 : Int32) * ((2 : Int32) * (k0 + pz bx a' b' K2 K3) + pz px a b (x - 1) y) + pz px a b (x - 1) (y - 1)) + pz px a b x (y - 1)) + pz px a b (x + 1) (y - 1))) := by
    intro k0 K2 K3 h1 h2 h3 h4
    rw [q_Stk_upperContext_111, pix_z ha' hb' (by omega) (by omega) (by omega) (by omega), ob_s, zs1 x, show q_Pic_pixel (zI (x - 1)) (nI y) px (nI a) (nI b) = some (pz px a b (x - 1) y) by rw [nI_zI y]; exact pix_z ha hb (by omega) (by omega) (by omega) (by omega), ob_s]
    rw [u138_step (X' := x) ha hb hx hy (by omega) (by omega) (by omega), u138_step (X' := x + 1) ha hb hx hy (by omega) (by omega) (by omega), u138_step (X' := x + 2) ha hb hx hy (by omega) (by omega) (by omega), u138_stop hx rfl]
  have t78 : ∀ (k0 : Int32) (K2 : Int), -100 < K2 → K2 < 100 → q_Stk_upperContext_78 (nI k) (nI x) (nI y) px (nI a) (nI b) bx (nI a') (nI b') (nI (x / 2)) (nI (y / 2)) k0 (zI K2) = some ((((512 : Int32) * nI k) + (512 : Int32)) + ((2 : Int32) * ((2 : Int32) * ((2 : Int32) * ((2 : Int32) * ((2 : Int32) * (k0 + pz bx a' b' K2 (y / 2 : Nat)) + pz bx a' b' (x / 2 : Nat) (sd y)) + pz px a b (x - 1) y) + pz px a b (x - 1) (y - 1)) + pz px a b x (y - 1)) + pz px a b (x + 1) (y - 1))) := by
    intro k0 K2 h1 h2
    rw [q_Stk_upperContext_78, rem2 (by omega), zs1 (y / 2), zp1 (y / 2), nI_zI (y / 2), pix_z ha' hb' (by omega) (by omega) (by omega) (by omega), ob_s, nI_zI (x / 2)]
    by_cases c : y % 2 = 0
    · rw [if_pos (by rw [c]; rfl), t111 _ _ _ (by omega) (by omega) (by omega) (by omega), show sd y = ((y / 2 : Nat) : Int) - 1 from if_pos c]
    · rw [if_neg (nI_ne0 (by omega) (by omega)), t111 _ _ _ (by omega) (by omega) (by omega) (by omega), show sd y = ((y / 2 : Nat) : Int) + 1 from if_neg c]
  rw [q_Stk_upperContext, if_pos (vpb_nI hk3 (by omega)), pred_nI hk, if_pos (vpb_nI (by omega) (by omega)), rem2 (by omega), rem2 (by omega), half2 (by omega), half2 (by omega), show q_Pic_pixel (nI (x / 2)) (nI (y / 2)) bx (nI a') (nI b') = some (pz bx a' b' (x / 2 : Nat) (y / 2 : Nat)) by rw [nI_zI, nI_zI]; exact pix_z ha' hb' (by omega) (by omega) (by omega) (by omega), ob_s]
  by_cases c : x % 2 = 0
  · rw [if_pos (by rw [c]; rfl), zs1 (x / 2), t78 _ _ (by omega) (by omega), show sd x = ((x / 2 : Nat) : Int) - 1 from if_pos c]
  · rw [if_neg (nI_ne0 (by omega) (by omega)), zp1 (x / 2), t78 _ _ (by omega) (by omega), show sd x = ((x / 2 : Nat) : Int) + 1 from if_neg c]
theorem ctx_1 {k x y a b a' b' : Nat} {px bx M wd hg : Nat → Int32} (hk : 1 ≤ k) (hk3 : k < 3) (hw : wd k = nI a) (hh : hg k = nI b) (a1 : 1 ≤ a) (b1 : 1 ≤ b) (ha : a ≤ 16) (hb : b ≤ 16) (hw' : wd (k - 1) = nI a') (hh' : hg (k - 1) = nI b') (a1' : 1 ≤ a') (b1' : 1 ≤ b') (ha' : a' ≤ 16) (hb' : b' ≤ 16) (hx : x < 16) (hy : y < 16) (hR : RL px M k a b) (hR' : RL bx M (k - 1) a' b') : ∃ c : Nat, c < 2563 ∧ q_Stk_upperContext (nI k) (nI x) (nI y) px (nI a) (nI b) bx (nI a') (nI b') = some (nI c) ∧ q_Mod_contextOf (nI k) (nI x) (nI y) M wd hg = some (nI c) := by
  obtain ⟨n, hn⟩ := chN hR.bitc
  obtain ⟨m, hm⟩ := chN hR'.bitc
  have s1 := sd_b hx
  have s2 := sd_b hy
  have hat : ∀ X Y : Int, -1000 < X → X < 1000 → -1000 < Y → Y < 1000 → q_Mod_at (nI k) (zI X) (zI Y) M wd hg = some (nI (n X Y)) := by
    intro X Y x1 x2 y1 y2
    rw [← (hn X Y).2, pz_eq hR.eq]
    exact at_z hk3 hw hh a1 b1 ha hb (by omega) (by omega) (by omega) (by omega)
  have hbt : ∀ X Y : Int, -1000 < X → X < 1000 → -1000 < Y → Y < 1000 → q_Mod_at (nI (k - 1)) (zI X) (zI Y) M wd hg = some (nI (m X Y)) := by
    intro X Y x1 x2 y1 y2
    rw [← (hm X Y).2, pz_eq hR'.eq]
    exact at_z (by omega) hw' hh' a1' b1' ha' hb' (by omega) (by omega) (by omega) (by omega)
  have c1 := (hm (x / 2 : Nat) (y / 2 : Nat)).1
  have c2 := (hm (sd x) (y / 2 : Nat)).1
  have c3 := (hm (x / 2 : Nat) (sd y)).1
  have c4 := (hn (x - 1) y).1
  have c5 := (hn (x - 1) (y - 1)).1
  have c6 := (hn x (y - 1)).1
  have c7 := (hn (x + 1) (y - 1)).1
  have t205 : ∀ (z7 : Int32) (K3 : Int), -100 < K3 → K3 < 100 → q_Mod_contextOf_205 (nI k) (nI x) (nI y) M wd hg (nI (x / 2)) (nI (y / 2)) z7 (nI (k - 1)) (nI (x / 2)) (zI K3) = some (((((((((512 : Int32) * nI k) + (512 : Int32)) + (((((((256 : Int32) * nI (x % 2)) + ((128 : Int32) * nI (y % 2))) + ((64 : Int32) * nI (m (x / 2 : Nat) (y / 2 : Nat)))) + ((32 : Int32) * z7)) + ((16 : Int32) * nI (m (x / 2 : Nat) K3))))) + ((8 : Int32) * nI (n (x - 1) y))) + ((4 : Int32) * nI (n (x - 1) (y - 1)))) + ((2 : Int32) * nI (n x (y - 1)))) + nI (n (x + 1) (y - 1)))) := by
    intro z7 K3 h1 h2
    rw [q_Mod_contextOf_205, rem2 (by omega), rem2 (by omega), pred_nI hk, zs1 x, zs1 y, zp1 x, nI_zI (x / 2), nI_zI (y / 2), nI_zI x, nI_zI y, hbt _ _ (by omega) (by omega) (by omega) (by omega), ob_s, hbt _ _ (by omega) (by omega) (by omega) (by omega), ob_s, hat _ _ (by omega) (by omega) (by omega) (by omega), ob_s, hat _ _ (by omega) (by omega) (by omega) (by omega), ob_s, hat _ _ (by omega) (by omega) (by omega) (by omega), ob_s, hat _ _ (by omega) (by omega) (by omega) (by omega), ob_s]
  have t175 : ∀ K2 : Int, -100 < K2 → K2 < 100 → q_Mod_contextOf_175 (nI k) (nI x) (nI y) M wd hg (nI (x / 2)) (nI (y / 2)) (nI (k - 1)) (zI K2) = some (((((((((512 : Int32) * nI k) + (512 : Int32)) + (((((((256 : Int32) * nI (x % 2)) + ((128 : Int32) * nI (y % 2))) + ((64 : Int32) * nI (m (x / 2 : Nat) (y / 2 : Nat)))) + ((32 : Int32) * nI (m K2 (y / 2 : Nat)))) + ((16 : Int32) * nI (m (x / 2 : Nat) (sd y)))))) + ((8 : Int32) * nI (n (x - 1) y))) + ((4 : Int32) * nI (n (x - 1) (y - 1)))) + ((2 : Int32) * nI (n x (y - 1)))) + nI (n (x + 1) (y - 1)))) := by
    intro K2 h1 h2
    rw [q_Mod_contextOf_175, show q_Mod_at (nI (k - 1)) (zI K2) (nI (y / 2)) M wd hg = some (nI (m K2 (y / 2 : Nat))) by rw [nI_zI (y / 2)]; exact hbt _ _ (by omega) (by omega) (by omega) (by omega), ob_s, rem2 (by omega), pred_nI hk, zs1 (y / 2), zp1 (y / 2)]
    by_cases c : y % 2 = 0
    · rw [if_pos (by rw [c]; rfl), t205 _ _ (by omega) (by omega), show sd y = ((y / 2 : Nat) : Int) - 1 from if_pos c]
    · rw [if_neg (nI_ne0 (by omega) (by omega)), t205 _ _ (by omega) (by omega), show sd y = ((y / 2 : Nat) : Int) + 1 from if_neg c]
  refine ⟨512 * k + 512 + (256 * (x % 2) + 128 * (y % 2) + 64 * m (x / 2 : Nat) (y / 2 : Nat) + 32 * m (sd x) (y / 2 : Nat) + 16 * m (x / 2 : Nat) (sd y)) + 8 * n (x - 1) y + 4 * n (x - 1) (y - 1) + 2 * n x (y - 1) + n (x + 1) (y - 1), by omega, ?_, ?_⟩
  · rw [up_c hk hk3 ha hb ha' hb' hx hy]
    simp only [(hn _ _).2, (hm _ _).2, show (2 : Int32) = nI 2 from rfl, show (512 : Int32) = nI 512 from rfl, nI_add, pk_mul]
    congr 2
    omega
  · have hfin : q_Mod_contextOf (nI k) (nI x) (nI y) M wd hg = q_Mod_contextOf_175 (nI k) (nI x) (nI y) M wd hg (nI (x / 2)) (nI (y / 2)) (nI (k - 1)) (zI (sd x)) := by
      rw [q_Mod_contextOf, if_neg (nI_ne0 (by omega) (by omega)), rem2 (by omega), half2 (by omega), half2 (by omega), pred_nI hk, zs1 (x / 2), zp1 (x / 2)]
      by_cases c : x % 2 = 0
      · rw [if_pos (by rw [c]; rfl), show sd x = ((x / 2 : Nat) : Int) - 1 from if_pos c]
      · rw [if_neg (nI_ne0 (by omega) (by omega)), show sd x = ((x / 2 : Nat) : Int) + 1 from if_neg c]
    rw [hfin, t175 _ (by omega) (by omega)]
    simp only [show (512 : Int32) = nI 512 from rfl, show (256 : Int32) = nI 256 from rfl, show (128 : Int32) = nI 128 from rfl, show (64 : Int32) = nI 64 from rfl, show (32 : Int32) = nI 32 from rfl, show (16 : Int32) = nI 16 from rfl, show (8 : Int32) = nI 8 from rfl, show (4 : Int32) = nI 4 from rfl, show (2 : Int32) = nI 2 from rfl, nI_add, pk_mul]
