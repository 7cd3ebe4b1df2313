/-! halve -/
theorem take15_go (k : Nat) (W H : Int32) (pic : Nat → Int32) (hk : k < 3) (wd hg : Nat → Int32) : ∀ d j n M, j + d = 256 → d < n → q_Mod_takePicture_15 (nI k) W H pic n (nI j) M wd hg = some (fl M (256 * k) j 256 pic, wd, hg) := by
  intro d
  induction d with
  | zero =>
    intro j n M hj hn
    obtain ⟨n, rfl⟩ : ∃ m, n = m + 1 := ⟨n - 1, by omega⟩
    obtain rfl : j = 256 := by omega
    rw [q_Mod_takePicture_15, if_pos (show (256 : Int32) ≤ nI 256 from nI_le (Nat.le_refl 256) (by omega)), fl_nil]
  | succ d ih =>
    intro j n M hj hn
    obtain ⟨n, rfl⟩ : ∃ m, n = m + 1 := ⟨n - 1, by omega⟩
    rw [q_Mod_takePicture_15, if_neg (show ¬ (256 : Int32) ≤ nI j from nI_ge (b := 256) (by omega) (by omega)), if_pos (vpb_nI (show j < 256 by omega) (by omega)), show (256 : Int32) * nI k + nI j = nI (256 * k + j) by rw [show (256 : Int32) = nI 256 from rfl, pk_mul, nI_add], if_pos (vpb_nI (show 256 * k + j < 768 by omega) (by omega)), nI_1, nI_clamp (by omega), nI_clamp (by omega), ih (j + 1) n _ (by omega) (by omega), fl_step _ _ _ _ _ (by omega)]
theorem takePic (k : Nat) (W H : Int32) (pic M wd hg : Nat → Int32) (hk : k < 3) : q_Mod_takePicture (nI k) W H pic M wd hg = some (fl M (256 * k) 0 256 pic, upd wd k W, upd hg k H) := by
  rw [q_Mod_takePicture, q_Mod_become, if_pos (vpb_nI hk (by omega)), if_pos (vpb_nI hk (by omega)), ob_s, nI_clamp (by omega)]
  exact take15_go k W H pic hk _ _ 256 0 5000 M rfl (by omega)
theorem halve41_go (cd W H : Int32) (M wd hg hf : Nat → Int32) : ∀ d j n pic, j + d = 256 → d < n → q_Mod_halve_41 n (nI j) cd W H pic M wd hg hf = some (cd, W, H, fl pic 0 j 256 hf, M, wd, hg, hf) := by
  intro d
  induction d with
  | zero =>
    intro j n pic hj hn
    obtain ⟨n, rfl⟩ : ∃ m, n = m + 1 := ⟨n - 1, by omega⟩
    obtain rfl : j = 256 := by omega
    rw [q_Mod_halve_41, if_pos (show (256 : Int32) ≤ nI 256 from nI_le (Nat.le_refl 256) (by omega)), fl_nil]
  | succ d ih =>
    intro j n pic hj hn
    obtain ⟨n, rfl⟩ : ∃ m, n = m + 1 := ⟨n - 1, by omega⟩
    rw [q_Mod_halve_41, if_neg (show ¬ (256 : Int32) ≤ nI j from nI_ge (b := 256) (by omega) (by omega)), if_pos (vpb_nI (show j < 256 by omega) (by omega)), if_pos (vpb_nI (show j < 256 by omega) (by omega)), nI_1, nI_clamp (by omega), ih (j + 1) n _ (by omega) (by omega)]
    have := fl_step pic 0 j 256 hf (by omega)
    rw [Nat.zero_add] at this
    rw [this]
def cpy (o p : Nat → Int32) : Nat → Int32 := va_cpy o p 0 0 256
theorem cpy_in {o p : Nat → Int32} {j : Nat} (h : j < 256) : cpy o p j = o j := by
  unfold cpy
  rw [pk_cpy_in (by omega) (by omega)]
  congr 1
  omega
theorem become_eq (p o : Nat → Int32) (w h ow oh : Int32) : q_Pic_become p w h o ow oh = some (cpy o p, ow, oh) := rfl
/-- the layers of the two sides show the same -/
def RL (px : Nat → Int32) (M : Nat → Int32) (k a b : Nat) : Prop := ∀ i j, i < a → j < b → px (16 * j + i) = lyr M k (16 * j + i) ∧ (px (16 * j + i) = 0 ∨ px (16 * j + i) = 1)
theorem RL.bit {px M : Nat → Int32} {k a b : Nat} (h : RL px M k a b) : ∀ i j, i < a → j < b → lyr M k (16 * j + i) = 0 ∨ lyr M k (16 * j + i) = 1 := fun i j hi hj => by
  rw [← (h i j hi hj).1]; exact (h i j hi hj).2
theorem RL.bitc {px M : Nat → Int32} {k a b : Nat} (h : RL px M k a b) : ∀ i j, i < a → j < b → px (16 * j + i) = 0 ∨ px (16 * j + i) = 1 := fun i j hi hj => (h i j hi hj).2
theorem RL.eq {px M : Nat → Int32} {k a b : Nat} (h : RL px M k a b) : ∀ i j, i < a → j < b → px (16 * j + i) = lyr M k (16 * j + i) := fun i j hi hj => (h i j hi hj).1
theorem lyr_fl {M F : Nat → Int32} {k j : Nat} (h : j < 256) : lyr (fl M (256 * k) 0 256 F) k j = F j := fl_in M (256 * k) 0 256 F (Nat.zero_le _) h
theorem RL_take {px pic M : Nat → Int32} {q : Nat → Int32} {k a b : Nat} (a2 : a ≤ 16) (b2 : b ≤ 16) (hp : ∀ i j, i < a → j < b → px (16 * j + i) = pic (16 * j + i) ∧ (px (16 * j + i) = 0 ∨ px (16 * j + i) = 1)) : RL (cpy px q) (fl M (256 * k) 0 256 pic) k a b := fun i j hi hj => by
  rw [cpy_in (by omega), lyr_fl (by omega)]
  exact hp i j hi hj
theorem halve_eq (px pic : Nat → Int32) (w h w' h' cd : Int32) (u v : Nat → Int32) (uw uh vw vh : Int32) (wx : Nat → Int32) (ww wh : Int32) (M wd hg hf : Nat → Int32) (hr : RP px w h pic w' h') : ∃ (px2 : Nat → Int32) (w2 h2 : Int32) (u2 : Nat → Int32) (uw2 uh2 : Int32) (v2 : Nat → Int32) (vw2 vh2 : Int32) (pic2 : Nat → Int32) (w3 h3 : Int32) (M2 wd2 hg2 hf2 : Nat → Int32), q_Top_halve px w h u uw uh v vw vh wx ww wh = some (px2, w2, h2, u2, uw2, uh2, v2, vw2, vh2, wx, ww, wh) ∧ q_Mod_halve cd w' h' pic M wd hg hf = some (0, w3, h3, pic2, M2, wd2, hg2, hf2) ∧ RP px2 w2 h2 pic2 w3 h3 := by
  obtain ⟨a, b, a1, a2, b1, b2, rfl, rfl, rfl, rfl, hp⟩ := hr
  have hR : RL (cpy px v) (fl M (256 * 0) 0 256 pic) 0 a b := RL_take a2 b2 hp
  obtain ⟨g, e1, e2⟩ := half_c (px := u) (ox := cpy px v) (w := uw) (h := uh) a1 b1 a2 b2
  obtain ⟨g2, f1, f2⟩ := half_m (hf := hf) (M := fl M (256 * 0) 0 256 pic) (wd := upd wd 0 (nI a)) (hg := upd hg 0 (nI b)) (k := 0) (by omega) (upd_same _ _ _) (upd_same _ _ _) a1 b1 a2 b2 hR.bit
  refine ⟨cpy g px, nI ((a + 1) / 2), nI ((b + 1) / 2), g, nI ((a + 1) / 2), nI ((b + 1) / 2), cpy px v, nI a, nI b, fl pic 0 0 256 g2, nI ((a + 1) / 2), nI ((b + 1) / 2), fl M (256 * 0) 0 256 pic, upd wd 0 (nI a), upd hg 0 (nI b), g2, ?_, ?_, (a + 1) / 2, (b + 1) / 2, by omega, by omega, by omega, by omega, rfl, rfl, rfl, rfl, fun i j hi hj => ?_⟩
  rotate_left 1
  · rw [q_Mod_halve, show (0 : Int32) = nI 0 from rfl, takePic 0 _ _ _ _ _ _ (by omega), ob_s]
    rw [f1, ob_s, half_nI (by omega), half_nI (by omega)]
    exact halve41_go _ _ _ _ _ _ _ 256 0 5000 pic rfl (by omega)
  · rw [cpy_in (by omega), fl_in0 _ _ _ _ (by omega) (by omega), e2 i j hi hj, f2 i j hi hj]
    exact ⟨hl_eq hR.eq j i, hl_bit _ _ _ _ _⟩
  · rw [q_Top_halve, q_Stk_split2, become_eq, ob_s, e1, ob_s, ob_s, become_eq, ob_s]
theorem case_6 {xs : Nat → Int32} {L : Nat} {x4 : Int32} {x : XS} {y : MS} {o : Nat → Int64} (h : Rel x y) : Keeps1 (q_lawcase_6 xs L x4 x y o) := by
  obtain ⟨hp, hf, ht, hq⟩ := h
  obtain ⟨px2, w2, h2, u2, uw2, uh2, v2, vw2, vh2, pic2, w3, h3, M2, wd2, hg2, hf2, e1, e2, e3⟩ := halve_eq x.2.1 y.2.2.2.1 x.2.2.1 x.2.2.2.1 y.2.1 y.2.2.1 y.1 x.2.2.2.2.2.2.2.2.2.2.2.2.2.1 x.2.2.2.2.2.2.2.2.2.2.2.2.2.2.2.2.1 x.2.2.2.2.2.2.2.2.2.2.2.2.2.2.1 x.2.2.2.2.2.2.2.2.2.2.2.2.2.2.2.1 x.2.2.2.2.2.2.2.2.2.2.2.2.2.2.2.2.2.1 x.2.2.2.2.2.2.2.2.2.2.2.2.2.2.2.2.2.2.1 x.2.2.2.2.2.2.2.2.2.2.2.2.2.2.2.2.2.2.2.1 x.2.2.2.2.2.2.2.2.2.2.2.2.2.2.2.2.2.2.2.2.1 x.2.2.2.2.2.2.2.2.2.2.2.2.2.2.2.2.2.2.2.2.2.1 y.2.2.2.2.2.2.2.2.2.2.1 y.2.2.2.2.2.2.2.2.2.2.2.1 y.2.2.2.2.2.2.2.2.2.2.2.2.1 y.2.2.2.2.2.2.2.2.2.2.2.2.2.1 hp
  apply Keeps1.mk
  · intro rec
    unfold q_lawcase_6
    rw [e1, ob_s, e2, ob_s]
  · exact ⟨e3, hf, ht, hq⟩
