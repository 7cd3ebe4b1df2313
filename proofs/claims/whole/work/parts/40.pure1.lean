/-! the two programs, as programs over numbers: basic rows -/
theorem ob_s {α β : Type} {a : α} {f : α → Option β} : (some a).bind f = f a := rfl
theorem or_s {α : Type} {a : α} {f : Unit → Option α} : (some a).orElse f = some a := rfl
theorem or_n {α : Type} {f : Unit → Option α} : (none : Option α).orElse f = f () := rfl
theorem bn {α β : Type} {f : α → Option β} : (none : Option α).bind f = none := rfl
theorem upd_same (f : Nat → Int32) (k : Nat) (x : Int32) : upd f k x k = x := pk_us
theorem upd_other (f : Nat → Int32) {k j : Nat} (x : Int32) (h : j ≠ k) : upd f k x j = f j := pk_un h
theorem ix16 (i j : Nat) : ((16 : Int32) * nI j) + nI i = nI (16 * j + i) := by
  rw [show (16 : Int32) = nI 16 from rfl, pk_mul, nI_add]
theorem vpb_nI {n N : Nat} (h : n < N) (hN : N < 2 ^ 31) : vpb (nI n) N = true := by
  unfold vpb
  rw [decide_eq_false (nI_pos (by omega)), decide_eq_false (by rw [nI_clamp (by omega)]; omega)]
  rfl
theorem pred_nI {a : Nat} (h : 1 ≤ a) : nI a - (1 : Int32) = nI (a - 1) := by
  rw [show (1 : Int32) = nI 1 from rfl, pk_sub h]
theorem half_nI {a : Nat} (h : a < 1000) : (nI a + (1 : Int32)) / (2 : Int32) = nI ((a + 1) / 2) := by
  rw [show (1 : Int32) = nI 1 from rfl, show (2 : Int32) = nI 2 from rfl, nI_add, pk_div (by omega) (by omega) (by omega)]
/-- a place inside of a by b -/
def Ins (X Y : Int32) (a b : Nat) : Prop := ∃ i j : Nat, i < a ∧ j < b ∧ X = nI i ∧ Y = nI j
theorem cov_in {i j a b : Nat} (hi : i < a) (hj : j < b) (ha : a ≤ 16) (hb : b ≤ 16) : q_Pic_covers (nI i) (nI j) (nI a) (nI b) = some 1 := by
  unfold q_Pic_covers
  rw [if_neg (nI_pos (by omega)), if_neg (nI_ge hi (by omega)), if_neg (nI_pos (by omega)), if_neg (nI_ge hj (by omega))]
theorem cov_out {X Y : Int32} {a b : Nat} (h : ¬ Ins X Y a b) (ha : a ≤ 16) (hb : b ≤ 16) : q_Pic_covers X Y (nI a) (nI b) = some 0 := by
  unfold q_Pic_covers
  by_cases h1 : X < 0
  · rw [if_pos h1]
  · rw [if_neg h1]
    by_cases h2 : nI a ≤ X
    · rw [if_pos h2]
    · rw [if_neg h2]
      by_cases h3 : Y < 0
      · rw [if_pos h3]
      · rw [if_neg h3]
        by_cases h4 : nI b ≤ Y
        · rw [if_pos h4]
        · exfalso
          rcases pk_ix X (n := a) (by omega) with q | q | ⟨i, hi, hX⟩
          · exact h1 q
          · exact h2 q
          · rcases pk_ix Y (n := b) (by omega) with q | q | ⟨j, hj, hY⟩
            · exact h3 q
            · exact h4 q
            · exact h ⟨i, j, hi, hj, hX, hY⟩
theorem wi_in {i lo hi : Nat} (h1 : lo ≤ i) (h2 : i ≤ hi) (hh : hi < 2 ^ 31) : q_Mod_within (nI i) (nI lo) (nI hi) = some 1 := by
  unfold q_Mod_within
  rw [if_neg (nI_nlt h1 (by omega)), if_neg (nI_nlt h2 (by omega))]
theorem wi_out {X : Int32} {lo hi : Nat} (h : ¬ ∃ i : Nat, lo ≤ i ∧ i ≤ hi ∧ X = nI i) (hh : hi < 2 ^ 30) (hl : lo < 2 ^ 30) : q_Mod_within X (nI lo) (nI hi) = some 0 := by
  unfold q_Mod_within
  by_cases h1 : X < nI lo
  · rw [if_pos h1]
  · rw [if_neg h1]
    by_cases h2 : nI hi < X
    · rw [if_pos h2]
    · exfalso
      rcases pk_ix X (n := hi + 1) (by omega) with q | q | ⟨i, hi2, hX⟩
      · apply h1
        rw [Int32.lt_iff_toInt_lt, Int32.toInt_zero] at q
        rw [Int32.lt_iff_toInt_lt, nI_toInt (by omega)]
        omega
      · apply h2
        rw [Int32.le_iff_toInt_le, nI_toInt (by omega)] at q
        rw [Int32.lt_iff_toInt_lt, nI_toInt (by omega)]
        omega
      · refine h ⟨i, ?_, by omega, hX⟩
        rw [hX] at h1
        by_cases h5 : lo ≤ i
        · exact h5
        · exact absurd (nI_lt (by omega) (by omega)) h1
theorem wi0_in {i hi : Nat} (h2 : i ≤ hi) (hh : hi < 2 ^ 31) : q_Mod_within (nI i) (0 : Int32) (nI hi) = some 1 := wi_in (lo := 0) (Nat.zero_le _) h2 hh
theorem wi0_out {X : Int32} {hi : Nat} (h : ¬ ∃ i : Nat, i ≤ hi ∧ X = nI i) (hh : hi < 2 ^ 30) : q_Mod_within X (0 : Int32) (nI hi) = some 0 := wi_out (lo := 0) (fun ⟨i, _, h1, h2⟩ => h ⟨i, h1, h2⟩) hh (by omega)
theorem pl_in {i j a b : Nat} (hi : i < a) (hj : j < b) (ha : a ≤ 16) (hb : b ≤ 16) : q_Mod_isPlace (nI i) (nI j) (nI a) (nI b) = some 1 := by
  unfold q_Mod_isPlace
  rw [pred_nI (by omega), pred_nI (by omega), wi0_in (by omega) (by omega), ob_s, if_neg (by decide), wi0_in (by omega) (by omega), ob_s, if_neg (by decide)]
theorem pl_out {X Y : Int32} {a b : Nat} (h : ¬ Ins X Y a b) (ha1 : 1 ≤ a) (hb1 : 1 ≤ b) (ha : a ≤ 16) (hb : b ≤ 16) : q_Mod_isPlace X Y (nI a) (nI b) = some 0 := by
  unfold q_Mod_isPlace
  rw [pred_nI (by omega), pred_nI (by omega)]
  by_cases h1 : ∃ i : Nat, i ≤ a - 1 ∧ X = nI i
  · obtain ⟨i, hi, rfl⟩ := h1
    rw [wi0_in hi (by omega), ob_s, if_neg (by decide)]
    rw [wi0_out (fun ⟨j, hj, hY⟩ => h ⟨i, j, by omega, by omega, rfl, hY⟩) (by omega), ob_s, if_pos rfl]
  · rw [wi0_out h1 (by omega), ob_s, if_pos rfl]
/-- what a picture shows at X, Y: 0 outside -/
def pv (px : Nat → Int32) (a b : Nat) (X Y : Int32) : Int32 := if 0 ≤ X.toInt ∧ X.toInt < a ∧ 0 ≤ Y.toInt ∧ Y.toInt < b then px (16 * Y.toInt.toNat + X.toInt.toNat) else 0
theorem pv_in {px : Nat → Int32} {i j a b : Nat} (hi : i < a) (hj : j < b) (ha : a ≤ 16) (hb : b ≤ 16) : pv px a b (nI i) (nI j) = px (16 * j + i) := by
  unfold pv
  rw [nI_toInt (by omega), nI_toInt (by omega), if_pos (by omega)]
  rfl
theorem pv_out {px : Nat → Int32} {X Y : Int32} {a b : Nat} (h : ¬ Ins X Y a b) (ha : a ≤ 16) (hb : b ≤ 16) : pv px a b X Y = 0 := by
  unfold pv
  by_cases hc : 0 ≤ X.toInt ∧ X.toInt < a ∧ 0 ≤ Y.toInt ∧ Y.toInt < b
  · exfalso
    apply h
    refine ⟨X.toInt.toNat, Y.toInt.toNat, by omega, by omega, ?_, ?_⟩
    · apply Int32.toInt_inj.mp; rw [nI_toInt (by omega)]; omega
    · apply Int32.toInt_inj.mp; rw [nI_toInt (by omega)]; omega
  · rw [if_neg hc]
theorem ins_em (X Y : Int32) (a b : Nat) : Ins X Y a b ∨ ¬ Ins X Y a b := Classical.em _
theorem pix {X Y : Int32} {px : Nat → Int32} {a b : Nat} (ha : a ≤ 16) (hb : b ≤ 16) : q_Pic_pixel X Y px (nI a) (nI b) = some (pv px a b X Y) := by
  unfold q_Pic_pixel
  rcases ins_em X Y a b with ⟨i, j, hi, hj, rfl, rfl⟩ | h
  · rw [cov_in hi hj ha hb, ob_s, if_neg (by decide), ix16, if_pos (vpb_nI (by omega) (by omega)), nI_clamp (by omega), pv_in hi hj ha hb]
  · rw [cov_out h ha hb, ob_s, if_pos rfl, pv_out h ha hb]
theorem mget {X Y : Int32} {px : Nat → Int32} {a b : Nat} {cd : Int32} (ha1 : 1 ≤ a) (hb1 : 1 ≤ b) (ha : a ≤ 16) (hb : b ≤ 16) : q_Mod_get X Y cd (nI a) (nI b) px = some (pv px a b X Y, 0) := by
  unfold q_Mod_get
  rcases ins_em X Y a b with ⟨i, j, hi, hj, rfl, rfl⟩ | h
  · rw [pl_in hi hj ha hb, ob_s, if_neg (by decide), ix16, if_pos (vpb_nI (by omega) (by omega)), nI_clamp (by omega), pv_in hi hj ha hb]
  · rw [pl_out h ha1 hb1 ha hb, ob_s, if_pos rfl, pv_out h ha hb]
/-- two pictures of one size that show the same -/
def RP (px : Nat → Int32) (w h : Int32) (pic : Nat → Int32) (W H : Int32) : Prop := ∃ a b : Nat, 1 ≤ a ∧ a ≤ 16 ∧ 1 ≤ b ∧ b ≤ 16 ∧ w = nI a ∧ h = nI b ∧ W = nI a ∧ H = nI b ∧ ∀ i j, i < a → j < b → px (16 * j + i) = pic (16 * j + i) ∧ (px (16 * j + i) = 0 ∨ px (16 * j + i) = 1)
def RF (by_ : Nat → Int32) (len : Int32) (file : Nat → Int32) (length : Int32) : Prop := ∃ n : Nat, n ≤ 900 ∧ len = nI n ∧ length = nI n ∧ ∀ i, i < n → by_ i = file i ∧ ∃ b : Nat, b < 256 ∧ file i = nI b
def RT (any pr dc db any' d' p' b' : Int32) : Prop := any = any' ∧ (any = 0 ∨ (any = 1 ∧ dc = d' ∧ pr = p' ∧ db = b'))
def RQ (qu : Nat → Int32) : Prop := ∀ i, i < 24 → qu i = qtab i
theorem pv_eq {px pic : Nat → Int32} {a b : Nat} (ha : a ≤ 16) (hb : b ≤ 16) (h : ∀ i j, i < a → j < b → px (16 * j + i) = pic (16 * j + i)) (X Y : Int32) : pv px a b X Y = pv pic a b X Y := by
  rcases ins_em X Y a b with ⟨i, j, hi, hj, rfl, rfl⟩ | h2
  · rw [pv_in hi hj ha hb, pv_in hi hj ha hb, h i j hi hj]
  · rw [pv_out h2 ha hb, pv_out h2 ha hb]
theorem lg_same (z : Int64) : lg_cmp z z = 0 := by
  unfold lg_cmp
  simp
theorem vpL_same (f : Nat → Int64) (k : Nat) (x : Int64) : vp_updL f k x k = x := pk_uLs
