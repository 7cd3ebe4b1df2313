/-! looking through the file, on both sides -/
def BB (by_ file : Nat → Int32) (n : Nat) (B : Nat → Int) : Prop := n ≤ 900 ∧ ∀ p, (p < n → by_ p = zI (B p) ∧ file p = zI (B p) ∧ 0 ≤ B p ∧ B p < 256) ∧ (n ≤ p → B p = -1)
theorem BB_of {by_ file : Nat → Int32} {n : Nat} (hn : n ≤ 900) (h : ∀ i, i < n → by_ i = file i ∧ ∃ b : Nat, b < 256 ∧ file i = nI b) : ∃ B, BB by_ file n B := by
  refine ⟨fun p => if p < n then (file p).toInt else -1, hn, fun p => ⟨fun hp => ?_, fun hp => ?_⟩⟩
  · obtain ⟨e, b, hb, e2⟩ := h p hp
    show by_ p = zI (if p < n then (file p).toInt else -1) ∧ file p = zI (if p < n then (file p).toInt else -1) ∧ 0 ≤ (if p < n then (file p).toInt else -1) ∧ (if p < n then (file p).toInt else -1) < 256
    rw [if_pos hp, e, e2, nI_toInt (by omega), zI_nat]
    exact ⟨rfl, rfl, by omega, by omega⟩
  · show (if p < n then (file p).toInt else -1) = -1
    rw [if_neg (by omega)]
theorem BB.lo {by_ file : Nat → Int32} {n : Nat} {B : Nat → Int} (h : BB by_ file n B) (p : Nat) : -1 ≤ B p ∧ B p < 256 := by
  obtain ⟨h1, h2⟩ := h
  by_cases c : p < n
  · have := (h2 p).1 c
    omega
  · have := (h2 p).2 (by omega)
    omega
theorem BB.lt {by_ file : Nat → Int32} {n : Nat} {B : Nat → Int} (h : BB by_ file n B) {p : Nat} (hp : 0 ≤ B p) : p < n := by
  by_cases c : p < n
  · exact c
  · have := (h.2 p).2 (by omega)
    omega
theorem byIn {by_ file : Nat → Int32} {n : Nat} {B : Nat → Int} (h : BB by_ file n B) (p : Nat) (hp : p < 100000) : q_Mod_byteIn (nI p) (nI n) file = some (zI (B p)) := by
  have hn := h.1
  rw [q_Mod_byteIn]
  by_cases c : p < n
  · rw [if_neg (nI_ge c (by omega)), if_pos (vpb_nI (by omega) (by omega)), nI_clamp (by omega), ((h.2 p).1 c).2.1]
  · rw [if_pos (nI_le (by omega) (by omega)), (h.2 p).2 (by omega)]
    rfl
theorem has_b {n p : Nat} (hn : n ≤ 900) (hp : p < 100000) : q_Fil_has (nI p) (nI n) = some (if p < n then 1 else 0) := by
  by_cases c : p < n
  · rw [has_in c hn, if_pos c]
  · rw [if_neg c, q_Fil_has, if_neg (nI_pos (by omega)), if_pos (nI_le (by omega) (by omega))]
theorem at_b {by_ file : Nat → Int32} {n : Nat} {B : Nat → Int} (h : BB by_ file n B) (p : Nat) (hp : p < 100000) : q_Fil_at (nI p) by_ (nI n) = some (zI (if p < n then B p else 0)) := by
  have hn := h.1
  by_cases c : p < n
  · rw [at_in c hn, if_pos c, ((h.2 p).1 c).1]
  · rw [q_Fil_at, has_b hn hp, if_neg c, ob_s, if_pos rfl, if_neg c]
    rfl
theorem zI_ne {a : Int} {b : Int} (h1 : -1000000 < a) (h2 : a < 1000000) (h3 : -1000000 < b) (h4 : b < 1000000) (h : a ≠ b) : ¬ zI a = zI b := fun q => h (zI_eq h1 h2 h3 h4 q)
theorem isv {by_ file : Nat → Int32} {n : Nat} {B : Nat → Int} (h : BB by_ file n B) (p : Nat) {v : Int} {V : Int32} (hV : V = zI v) (hv : 0 < v) (hv2 : v < 1000) : (zI (B p) = V ↔ B p = v) ∧ (zI (if p < n then B p else 0) = V ↔ B p = v) := by
  have h1 := h.lo p
  subst hV
  refine ⟨⟨fun q => zI_eq (by omega) (by omega) (by omega) (by omega) q, fun q => by rw [q]⟩, ⟨fun q => ?_, fun q => ?_⟩⟩
  · by_cases c : p < n
    · rw [if_pos c] at q
      exact zI_eq (by omega) (by omega) (by omega) (by omega) q
    · rw [if_neg c] at q
      have := zI_eq (by omega) (by omega) (by omega) (by omega) q
      omega
  · rw [if_pos (h.lt (by omega)), q]
theorem passB {by_ file : Nat → Int32} {n p lo hi : Nat} {B : Nat → Int} (h : BB by_ file n B) (hp : p < 100000) (hl : lo < 1000) (hh : hi < 1000) : q_Fil_passByte (nI lo) (nI hi) by_ (nI n) (nI p) = if (lo : Int) ≤ B p ∧ B p ≤ hi then some (1, nI (p + 1)) else some (0, nI p) := by
  have hn := h.1
  have h1 := h.lo p
  rw [q_Fil_passByte, has_b hn hp, ob_s, at_b h p hp, ob_s, ob_s, nI_1]
  by_cases c : p < n
  · have h2 := (h.2 p).1 c
    rw [if_pos c, if_neg n10, if_pos c, nI_zI lo, nI_zI hi]
    by_cases c1 : B p < lo
    · rw [if_pos ((zI_lt (by omega) (by omega) (by omega) (by omega)).mpr c1), if_neg (by omega)]
    · rw [if_neg (fun q => c1 ((zI_lt (by omega) (by omega) (by omega) (by omega)).mp q))]
      by_cases c2 : B p ≤ hi
      · rw [if_pos ((zI_le (by omega) (by omega) (by omega) (by omega)).mpr c2), if_pos (by omega)]
      · rw [if_neg (fun q => c2 ((zI_le (by omega) (by omega) (by omega) (by omega)).mp q)), if_neg (by omega)]
  · have h2 := (h.2 p).2 (by omega)
    rw [if_neg c, if_pos rfl, if_neg (by omega)]
theorem neg1 (n : Nat) : (-1 : Int32) - nI n = zI (-1 - n) := by
  rw [nI_zI, show (-1 : Int32) = zI (-1) from rfl, zI_sub]
theorem neg2 (n : Nat) : (-2 : Int32) - nI n = zI (-1 - (n + 1 : Nat)) := by
  rw [nI_zI, show (-2 : Int32) = zI (-2) from rfl, zI_sub]
  congr 1
  omega
theorem negneg {n : Nat} : (-1 : Int32) - zI (-1 - n) = nI n := by
  rw [nI_zI, show (-1 : Int32) = zI (-1) from rfl, zI_sub]
  congr 1
  omega
theorem remN {by_ file : Nat → Int32} {n p : Nat} {B : Nat → Int} (h : BB by_ file n B) (hp : p < 10000) : q_Fil_remarksAreNext by_ (nI n) (nI p) = some (if B p = 255 ∧ B (p + 1) = 7 then 1 else 0) := by
  have i1 := (isv h p (v := 255) (V := 255) rfl (by omega) (by omega)).2
  have i2 := (isv h (p + 1) (v := 7) (V := 7) rfl (by omega) (by omega)).2
  rw [q_Fil_remarksAreNext, at_b h p (by omega), ob_s, nI_1, at_b h (p + 1) (by omega), ob_s]
  by_cases c1 : B p = 255
  · rw [if_pos (i1.mpr c1)]
    by_cases c2 : B (p + 1) = 7
    · rw [if_pos (i2.mpr c2), if_pos ⟨c1, c2⟩]
    · rw [if_neg (fun q => c2 (i2.mp q)), if_neg (fun q => c2 q.2)]
  · rw [if_neg (fun q => c1 (i1.mp q)), if_neg (fun q => c1 q.1)]
theorem rem_go {by_ file : Nat → Int32} {n : Nat} {B : Nat → Int} {fr : Int32} (h : BB by_ file n B) : ∀ d p i F F', n ≤ p + d → d < F → d < F' → p ≤ n → 3 * i ≤ p → (∃ q, p ≤ q ∧ q ≤ n ∧ q_Fil_passAllRemarks_2 by_ (nI n) F (nI i) (nI p) = some (1, nI q) ∧ q_Mod_behindRemarks_2 fr (nI n) file F' (nI p) = some (nI q)) ∨ (q_Fil_passAllRemarks_2 by_ (nI n) F (nI i) (nI p) = some (0, nI n) ∧ q_Mod_behindRemarks_2 fr (nI n) file F' (nI p) = some (zI (-1 - n))) := by
  have hn := h.1
  have lit2 : ∀ x : Nat, nI x + (2 : Int32) = nI (x + 2) := fun x => nI_add x 2
  have lit3 : ∀ x : Nat, nI x + (3 : Int32) = nI (x + 3) := fun x => nI_add x 3
  intro d
  induction d with
  | zero =>
    intro p i F F' hd hF hF' hp hi
    obtain ⟨F, rfl⟩ : ∃ m, F = m + 1 := ⟨F - 1, by omega⟩
    obtain ⟨F', rfl⟩ : ∃ m, F' = m + 1 := ⟨F' - 1, by omega⟩
    have hB := (h.2 p).2 (by omega)
    refine Or.inl ⟨p, by omega, by omega, ?_, ?_⟩
    · rw [q_Fil_passAllRemarks_2, if_neg (show ¬ (900 : Int32) ≤ nI i from nI_ge (b := 900) (by omega) (by omega)), remN h (by omega), if_neg (by omega), ob_s, if_pos rfl]
    · rw [q_Mod_behindRemarks_2, byIn h p (by omega), ob_s, if_neg (fun q => absurd ((isv h p (v := 255) (V := 255) rfl (by omega) (by omega)).1.mp q) (by omega))]
  | succ d ih =>
    intro p i F F' hd hF hF' hp hi
    obtain ⟨F, rfl⟩ : ∃ m, F = m + 1 := ⟨F - 1, by omega⟩
    obtain ⟨F', rfl⟩ : ∃ m, F' = m + 1 := ⟨F' - 1, by omega⟩
    have i1 := (isv h p (v := 255) (V := 255) rfl (by omega) (by omega)).1
    have i2 := (isv h (p + 1) (v := 7) (V := 7) rfl (by omega) (by omega)).1
    have hi9 : ¬ (900 : Int32) ≤ nI i := nI_ge (b := 900) (by omega) (by omega)
    by_cases c : B p = 255 ∧ B (p + 1) = 7
    · have p1 := h.lt (p := p + 1) (by omega)
      by_cases c3 : p + 2 < n
      · have hb := (h.2 (p + 2)).1 c3
        obtain ⟨b, hb2⟩ := Int.eq_ofNat_of_zero_le hb.2.2.1
        have hz : zI (B (p + 2)) = nI b := by rw [hb2, zI_nat]
        have hc : q_Fil_passAllRemarks_2 by_ (nI n) (F + 1) (nI i) (nI p) = if p + 3 + b ≤ n then q_Fil_passAllRemarks_2 by_ (nI n) F (nI (i + 1)) (nI (p + 3 + b)) else some (0, nI n) := by
          rw [q_Fil_passAllRemarks_2, if_neg hi9, remN h (by omega), if_pos c, ob_s, if_neg n10, lit2, has_b hn (by omega), if_pos c3, ob_s, if_neg n10, at_b h (p + 2) (by omega), if_pos c3, ob_s, hz, nI_1, nI_1, nI_add, show p + 2 + 1 + b = p + 3 + b by omega]
          by_cases c4 : p + 3 + b ≤ n
          · rw [if_neg (nI_nlt c4 (by omega)), if_pos (Int32.le_refl _), if_pos c4]
          · rw [if_pos (nI_lt (show n < p + 3 + b by omega) (by omega)), if_neg (nI_ge (show n < p + 3 + b by omega) (by omega)), if_neg c4]
        have hm : q_Mod_behindRemarks_2 fr (nI n) file (F' + 1) (nI p) = if p + 3 + b ≤ n then q_Mod_behindRemarks_2 fr (nI n) file F' (nI (p + 3 + b)) else some (zI (-1 - n)) := by
          rw [q_Mod_behindRemarks_2, byIn h p (by omega), ob_s, if_pos (i1.mpr c.1), nI_1, byIn h (p + 1) (by omega), ob_s, if_pos (i2.mpr c.2), lit2, byIn h (p + 2) (by omega), ob_s, hz, if_neg (nI_pos (by omega)), lit3, nI_add, neg1]
          by_cases c4 : p + 3 + b ≤ n
          · rw [if_pos (nI_le c4 (by omega)), if_pos c4]
          · rw [if_neg (nI_ge (show n < p + 3 + b by omega) (by omega)), if_neg c4]
        rw [hc, hm]
        by_cases c4 : p + 3 + b ≤ n
        · rw [if_pos c4, if_pos c4]
          rcases ih (p + 3 + b) (i + 1) F F' (by omega) (by omega) (by omega) c4 (by omega) with ⟨q, q1, q2, q3, q4⟩ | q
          · exact Or.inl ⟨q, by omega, q2, q3, q4⟩
          · exact Or.inr q
        · rw [if_neg c4, if_neg c4]
          exact Or.inr ⟨rfl, rfl⟩
      · obtain rfl : n = p + 2 := by omega
        have hb := (h.2 (p + 2)).2 (by omega)
        refine Or.inr ⟨?_, ?_⟩
        · rw [q_Fil_passAllRemarks_2, if_neg hi9, remN h (by omega), if_pos c, ob_s, if_neg n10, lit2, has_b hn (by omega), if_neg c3, ob_s, if_pos rfl]
        · rw [q_Mod_behindRemarks_2, byIn h p (by omega), ob_s, if_pos (i1.mpr c.1), nI_1, byIn h (p + 1) (by omega), ob_s, if_pos (i2.mpr c.2), lit2, byIn h (p + 2) (by omega), ob_s, hb, if_pos (by decide), neg1]
    · refine Or.inl ⟨p, by omega, by omega, ?_, ?_⟩
      · rw [q_Fil_passAllRemarks_2, if_neg hi9, remN h (by omega), if_neg c, ob_s, if_pos rfl]
      · rw [q_Mod_behindRemarks_2, byIn h p (by omega), ob_s]
        by_cases c1 : B p = 255
        · rw [if_pos (i1.mpr c1), nI_1, byIn h (p + 1) (by omega), ob_s, if_neg (fun q => c ⟨c1, i2.mp q⟩)]
        · rw [if_neg (fun q => c1 (i1.mp q))]
/-- a layer's bytes, u of them, from p to e -/
def Seg (B : Nat → Int) : Nat → Nat → Nat → Prop
  | 0, p, e => p = e ∧ B e = 255 ∧ B (e + 1) = 2
  | u + 1, p, e => (B p = 255 ∧ B (p + 1) = 0 ∧ Seg B u (p + 2) e) ∨ (0 ≤ B p ∧ B p ≠ 255 ∧ Seg B u (p + 1) e)
theorem Seg_le {B : Nat → Int} : ∀ u p e, Seg B u p e → p + u ≤ e ∧ B e = 255 ∧ B (e + 1) = 2 := by
  intro u
  induction u with
  | zero =>
    intro p e h
    obtain ⟨h1, h2, h3⟩ := h
    exact ⟨by omega, h2, h3⟩
  | succ u ih =>
    intro p e h
    rcases h with ⟨_, _, h⟩ | ⟨_, _, h⟩
    · obtain ⟨h1, h2⟩ := ih _ _ h
      exact ⟨by omega, h2⟩
    · obtain ⟨h1, h2⟩ := ih _ _ h
      exact ⟨by omega, h2⟩
theorem lay_go {by_ file en st : Nat → Int32} {n k : Nat} {B : Nat → Int} {fr : Int32} (h : BB by_ file n B) (hk : k < 3) : ∀ d p i F F', n ≤ p + d → d < F → d < F' → p ≤ n → i ≤ p → (∃ u e, Seg B u p e ∧ e + 2 ≤ n ∧ q_Fil_passLayer_21 (nI k) by_ (nI n) F (nI i) st en (nI p) = some (1, st, upd en k (nI e), nI (e + 2)) ∧ q_Mod_behindLayer_2 fr (nI n) file F' (nI p) = some (nI (e + 2))) ∨ (∃ j, j ≤ n ∧ q_Fil_passLayer_21 (nI k) by_ (nI n) F (nI i) st en (nI p) = some (0, st, en, nI j) ∧ q_Mod_behindLayer_2 fr (nI n) file F' (nI p) = some (zI (-1 - j))) := by
  have hn := h.1
  have lit2 : ∀ x : Nat, nI x + (2 : Int32) = nI (x + 2) := fun x => nI_add x 2
  have stop : ∀ p i F F', p = n → (∃ j, j ≤ n ∧ q_Fil_passLayer_21 (nI k) by_ (nI n) (F + 1) (nI i) st en (nI p) = some (0, st, en, nI j) ∧ q_Mod_behindLayer_2 fr (nI n) file (F' + 1) (nI p) = some (zI (-1 - j))) := by
    intro p i F F' hp
    subst hp
    refine ⟨p, by omega, ?_, ?_⟩
    · rw [q_Fil_passLayer_21]
      by_cases c : (900 : Int32) ≤ nI i
      · rw [if_pos c]
      · rw [if_neg c, has_b hn (by omega), if_neg (by omega), ob_s, if_pos rfl]
    · rw [q_Mod_behindLayer_2, if_pos (Int32.le_refl _), neg1]
  intro d
  induction d with
  | zero =>
    intro p i F F' hd hF hF' hp hi
    obtain ⟨F, rfl⟩ : ∃ m, F = m + 1 := ⟨F - 1, by omega⟩
    obtain ⟨F', rfl⟩ : ∃ m, F' = m + 1 := ⟨F' - 1, by omega⟩
    exact Or.inr (stop p i F F' (by omega))
  | succ d ih =>
    intro p i F F' hd hF hF' hp hi
    obtain ⟨F, rfl⟩ : ∃ m, F = m + 1 := ⟨F - 1, by omega⟩
    obtain ⟨F', rfl⟩ : ∃ m, F' = m + 1 := ⟨F' - 1, by omega⟩
    by_cases hpn : p = n
    · exact Or.inr (stop p i F F' hpn)
    have plt : p < n := by omega
    have hb := (h.2 p).1 plt
    have i1 := (isv h p (v := 255) (V := 255) rfl (by omega) (by omega))
    have i2 := (isv h (p + 1) (v := 2) (V := 2) rfl (by omega) (by omega)).1
    have b1 := h.lo (p + 1)
    have hi9 : ¬ (900 : Int32) ≤ nI i := nI_ge (b := 900) (by omega) (by omega)
    have pb2 : q_Fil_passByte (2 : Int32) (2 : Int32) by_ (nI n) (nI (p + 1)) = if ((2 : Nat) : Int) ≤ B (p + 1) ∧ B (p + 1) ≤ ((2 : Nat) : Int) then some (1, nI (p + 1 + 1)) else some (0, nI (p + 1)) := passB (lo := 2) (hi := 2) h (by omega) (by omega) (by omega)
    have pb0 : q_Fil_passByte (0 : Int32) (0 : Int32) by_ (nI n) (nI (p + 1)) = if ((0 : Nat) : Int) ≤ B (p + 1) ∧ B (p + 1) ≤ ((0 : Nat) : Int) then some (1, nI (p + 1 + 1)) else some (0, nI (p + 1)) := passB (lo := 0) (hi := 0) h (by omega) (by omega) (by omega)
    have hc0 : q_Fil_passLayer_21 (nI k) by_ (nI n) (F + 1) (nI i) st en (nI p) = if B p = 255 then q_Fil_passLayer_58 (nI k) by_ (nI n) (q_Fil_passLayer_21 (nI k) by_ (nI n) F) (nI i) 1 st en (nI p) else q_Fil_passLayer_58 (nI k) by_ (nI n) (q_Fil_passLayer_21 (nI k) by_ (nI n) F) (nI i) 0 st en (nI p) := by
      rw [q_Fil_passLayer_21, if_neg hi9, has_b hn (by omega), if_pos plt, ob_s, if_neg n10, at_b h p (by omega), ob_s]
      by_cases c : B p = 255
      · rw [if_pos (i1.2.mpr c), if_pos c]
      · rw [if_neg (fun q => c (i1.2.mp q)), if_neg c]
    have hm0 : q_Mod_behindLayer_2 fr (nI n) file (F' + 1) (nI p) = if B p = 255 then (if B (p + 1) = 0 then q_Mod_behindLayer_2 fr (nI n) file F' (nI (p + 2)) else if B (p + 1) = 2 then some (nI (p + 2)) else some (zI (-1 - (p + 1 : Nat)))) else q_Mod_behindLayer_2 fr (nI n) file F' (nI (p + 1)) := by
      rw [q_Mod_behindLayer_2, if_neg (nI_ge plt (by omega)), byIn h p (by omega), ob_s, nI_1, byIn h (p + 1) (by omega), ob_s, q_Mod_behindLayer_54, lit2, neg2, nI_1]
      by_cases c : B p = 255
      · rw [if_pos (i1.1.mpr c), if_pos (i1.1.mpr c), if_pos c]
        by_cases c0 : B (p + 1) = 0
        · rw [if_pos (show zI (B (p + 1)) = 0 by rw [c0]; rfl), if_pos c0]
        · rw [if_neg (show ¬ zI (B (p + 1)) = (0 : Int32) from zI_ne (b := 0) (by omega) (by omega) (by omega) (by omega) c0), if_neg c0]
          by_cases c2 : B (p + 1) = 2
          · rw [if_pos (i2.mpr c2), if_pos c2]
          · rw [if_neg (fun q => c2 (i2.mp q)), if_neg c2]
      · rw [if_neg (fun q => c (i1.1.mp q)), if_neg (fun q => c (i1.1.mp q)), if_neg c]
    rw [hc0, hm0]
    by_cases c : B p = 255
    · rw [if_pos c, if_pos c, q_Fil_passLayer_58, if_neg n10, nI_1, pb2]
      by_cases c2 : B (p + 1) = 2
      · have p1 := h.lt (p := p + 1) (by omega)
        rw [if_pos (by omega), ob_s, if_neg (show ¬ ((1 : Int32), nI (p + 1 + 1)).1 = 0 from n10), if_pos (vpb_nI hk (by omega)), nI_clamp (by omega), if_neg (by omega), if_pos c2]
        refine Or.inl ⟨0, p, ⟨rfl, c, c2⟩, by omega, ?_, rfl⟩
        rw [show nI (p + 1 + 1) - (2 : Int32) = nI p from pk_sub (a := p + 1 + 1) (b := 2) (by omega)]
      · rw [if_neg (by omega), ob_s, if_pos (show ((0 : Int32), nI (p + 1)).1 = 0 from rfl), q_Fil_passLayer_96, if_neg n10]
        by_cases c0 : B (p + 1) = 0
        · have p1 := h.lt (p := p + 1) (by omega)
          rw [if_pos (show ((0 : Nat) : Int) ≤ B (p + 1) ∧ B (p + 1) ≤ ((0 : Nat) : Int) by omega)] at pb0
          rw [show q_Fil_passByte (0 : Int32) (0 : Int32) by_ (nI n) ((0 : Int32), nI (p + 1)).2 = some (1, nI (p + 1 + 1)) from pb0, ob_s, if_neg (show ¬ ((1 : Int32), nI (p + 1 + 1)).1 = 0 from n10), if_pos c0, nI_1]
          rcases ih (p + 2) (i + 1) F F' (by omega) (by omega) (by omega) (by omega) (by omega) with ⟨u, e, q1, q2, q3, q4⟩ | ⟨j, q1, q2, q3⟩
          · exact Or.inl ⟨u + 1, e, Or.inl ⟨c, c0, q1⟩, q2, q3, q4⟩
          · exact Or.inr ⟨j, q1, q2, q3⟩
        · rw [if_neg (show ¬ (((0 : Nat) : Int) ≤ B (p + 1) ∧ B (p + 1) ≤ ((0 : Nat) : Int)) by omega)] at pb0
          rw [show q_Fil_passByte (0 : Int32) (0 : Int32) by_ (nI n) ((0 : Int32), nI (p + 1)).2 = some (0, nI (p + 1)) from pb0, ob_s, if_pos (show ((0 : Int32), nI (p + 1)).1 = 0 from rfl), if_neg c0, if_neg c2]
          exact Or.inr ⟨p + 1, by omega, rfl, rfl⟩
    · rw [if_neg c, if_neg c, q_Fil_passLayer_58, if_pos rfl, q_Fil_passLayer_96, if_pos rfl, nI_1, nI_1]
      rcases ih (p + 1) (i + 1) F F' (by omega) (by omega) (by omega) (by omega) (by omega) with ⟨u, e, q1, q2, q3, q4⟩ | ⟨j, q1, q2, q3⟩
      · exact Or.inl ⟨u + 1, e, Or.inr ⟨hb.2.2.1, c, q1⟩, q2, q3, q4⟩
      · exact Or.inr ⟨j, q1, q2, q3⟩
