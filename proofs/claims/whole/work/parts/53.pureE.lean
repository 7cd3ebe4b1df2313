/-! a layer's beginning; a layer put into a number -/
theorem fill2563_go (v : Int32) : ∀ d k n f, k + d = 2563 → d < n → q_fill2563_5 v n (nI k) (nI 2563) f = some (fl f 0 k 2563 (fun _ => v)) := by
  intro d
  induction d with
  | zero =>
    intro k n f hk hn
    obtain ⟨n, rfl⟩ : ∃ m, n = m + 1 := ⟨n - 1, by omega⟩
    obtain rfl : k = 2563 := by omega
    rw [q_fill2563_5, if_pos (nI_le (Nat.le_refl _) (by omega)), fl_nil]
  | succ d ih =>
    intro k n f hk hn
    obtain ⟨n, rfl⟩ : ∃ m, n = m + 1 := ⟨n - 1, by omega⟩
    rw [q_fill2563_5, if_neg (nI_ge (show k < 2563 by omega) (by omega)), if_pos (vpb_nI (show k < 2563 by omega) (by omega)), nI_1, nI_clamp (by omega), ih (k + 1) n _ (by omega) (by omega)]
    have := fl_step f 0 k 2563 (fun _ => v) (by omega)
    rw [Nat.zero_add] at this
    rw [this]
theorem fill2563 (v : Int32) (f : Nat → Int32) : q_fill2563 v f = some (fl f 0 0 2563 (fun _ => v)) := fill2563_go v 2563 0 5000 f rfl (by omega)
theorem fill2464_go (fr v : Int32) : ∀ d k n f, k + d = 16 → d < n → q_fill2464_10 fr (nI 16) v n (nI k) f = some (fl f 0 k 16 (fun _ => v)) := by
  intro d
  induction d with
  | zero =>
    intro k n f hk hn
    obtain ⟨n, rfl⟩ : ∃ m, n = m + 1 := ⟨n - 1, by omega⟩
    obtain rfl : k = 16 := by omega
    rw [q_fill2464_10, if_pos (nI_le (Nat.le_refl _) (by omega)), fl_nil]
  | succ d ih =>
    intro k n f hk hn
    obtain ⟨n, rfl⟩ : ∃ m, n = m + 1 := ⟨n - 1, by omega⟩
    rw [q_fill2464_10, if_neg (nI_ge (show k < 16 by omega) (by omega)), if_pos (vpb_nI (show k < 2464 by omega) (by omega)), nI_1, nI_clamp (by omega), ih (k + 1) n _ (by omega) (by omega)]
    have := fl_step f 0 k 16 (fun _ => v) (by omega)
    rw [Nat.zero_add] at this
    rw [this]
theorem mad_begin (dg : Nat → Int32) (dc : Int32) : q_Mad_begin dg dc = some (fl dg 0 0 16 (fun _ => 0), nI 16) := by
  have h : q_fill2464 (0 : Int32) (16 : Int32) (0 : Int32) dg = some (fl dg 0 0 16 (fun _ => 0)) := by
    rw [q_fill2464, show q_rangeCheck (2464 : Int32) (0 : Int32) (16 : Int32) = some () from by decide, ob_s]
    exact fill2464_go 0 0 16 0 5000 dg rfl (by omega)
  rw [q_Mad_begin, h, ob_s]
  rfl
theorem mbeg94_0 {gv st fv dg : Nat → Int32} {gs sp d p db dc tk nx ab : Int32} {n : Nat} : q_Mod_begin_94 0 gv gs (n + 1) 0 st fv sp d p db dg dc tk nx ab = some (st, fv, sp, d, p, db, dg, dc, tk, nx, ab) := by
  rw [q_Mod_begin_94, if_neg (by decide), if_pos rfl]
theorem mbeg63 {tke : Int32} {gv st fv : Nat → Int32} {gs sp d p db dc tk nx ab : Int32} : ∀ e k n dg, k + e = 16 → e < n → q_Mod_begin_63 tke gv gs n (nI k) st fv sp d p db dg dc tk nx ab = q_Mod_begin_94 tke gv gs 5000 0 st fv sp d p db (fl dg 0 k 16 (fun _ => 0)) dc tk 0 0 := by
  intro e
  induction e with
  | zero =>
    intro k n dg hk hn
    obtain ⟨n, rfl⟩ : ∃ m, n = m + 1 := ⟨n - 1, by omega⟩
    obtain rfl : k = 16 := by omega
    rw [q_Mod_begin_63, if_pos (show (16 : Int32) ≤ nI 16 from nI_le (Nat.le_refl 16) (by omega)), fl_nil]
  | succ e ih =>
    intro k n dg hk hn
    obtain ⟨n, rfl⟩ : ∃ m, n = m + 1 := ⟨n - 1, by omega⟩
    rw [q_Mod_begin_63, if_neg (show ¬ (16 : Int32) ≤ nI k from nI_ge (b := 16) (by omega) (by omega)), if_pos (vpb_nI (show k < 4000 by omega) (by omega)), nI_1, nI_clamp (by omega), ih (k + 1) n _ (by omega) (by omega)]
    have := fl_step dg 0 k 16 (fun _ => (0 : Int32)) (by omega)
    rw [Nat.zero_add] at this
    rw [this]
theorem mbeg7 {tke : Int32} {gv dg : Nat → Int32} {gs sp d p db dc tk nx ab : Int32} : ∀ e k n st fv, k + e = 2563 → e < n → q_Mod_begin_7 tke gv gs n (nI k) st fv sp d p db dg dc tk nx ab = q_Mod_begin_63 tke gv gs 5000 0 (fl st 0 k 2563 (fun _ => 0)) (fl fv 0 k 2563 (fun _ => 0)) 65536 0 0 0 dg 16 tk nx ab := by
  intro e
  induction e with
  | zero =>
    intro k n st fv hk hn
    obtain ⟨n, rfl⟩ : ∃ m, n = m + 1 := ⟨n - 1, by omega⟩
    obtain rfl : k = 2563 := by omega
    rw [q_Mod_begin_7, if_pos (show (2563 : Int32) ≤ nI 2563 from nI_le (Nat.le_refl 2563) (by omega)), fl_nil, fl_nil]
  | succ e ih =>
    intro k n st fv hk hn
    obtain ⟨n, rfl⟩ : ∃ m, n = m + 1 := ⟨n - 1, by omega⟩
    rw [q_Mod_begin_7, if_neg (show ¬ (2563 : Int32) ≤ nI k from nI_ge (b := 2563) (by omega) (by omega)), if_pos (vpb_nI (show k < 2563 by omega) (by omega)), if_pos (vpb_nI (show k < 2563 by omega) (by omega)), nI_1, nI_clamp (by omega), ih (k + 1) n _ _ (by omega) (by omega)]
    have h1 := fl_step st 0 k 2563 (fun _ => (0 : Int32)) (by omega)
    have h2 := fl_step fv 0 k 2563 (fun _ => (0 : Int32)) (by omega)
    rw [Nat.zero_add] at h1 h2
    rw [h1, h2]
theorem mbegin {tke : Int32} {st fv gv dg : Nat → Int32} {gs sp d p db dc tk nx ab : Int32} (h : tke = 0 ∨ tke = 1) : q_Mod_begin tke st fv sp d p db dg dc tk gv gs nx ab = q_Mod_begin_94 tke gv gs 5000 0 (fl st 0 0 2563 (fun _ => 0)) (fl fv 0 0 2563 (fun _ => 0)) 65536 0 0 0 (fl dg 0 0 16 (fun _ => 0)) 16 tke 0 0 := by
  rw [q_Mod_begin, if_pos h, show (0 : Int32) = nI 0 from rfl, mbeg7 2563 0 5000 _ _ rfl (by omega), show (0 : Int32) = nI 0 from rfl, mbeg63 16 0 5000 _ rfl (by omega)]
  rfl
theorem RC_0 (st fv st' fv' : Nat → Int32) : RC (fl st 0 0 2563 (fun _ => 0)) (fl fv 0 0 2563 (fun _ => 0)) (fl st' 0 0 2563 (fun _ => 0)) (fl fv' 0 0 2563 (fun _ => 0)) := by
  intro i hi
  rw [fl_in0 _ _ _ _ (by omega) hi, fl_in0 _ _ _ _ (by omega) hi, fl_in0 _ _ _ _ (by omega) hi, fl_in0 _ _ _ _ (by omega) hi]
  exact ⟨rfl, rfl, ⟨0, by omega, rfl⟩, Or.inl rfl⟩
theorem RD_0 (dg dg' : Nat → Int32) : RD (fl dg 0 0 16 (fun _ => 0)) (fl dg' 0 0 16 (fun _ => 0)) 16 := by
  intro i hi
  rw [fl_in0 _ _ _ _ (by omega) hi, fl_in0 _ _ _ _ (by omega) hi]
  exact ⟨rfl, Or.inl rfl⟩
theorem layer_M {k a b a' b' A : Nat} {bw bh gs nx ab pr pr' dec dec' dbl dbl' sp sp' dc' tk' : Int32} {bx wd hg qu gv px M st fv st' fv' dg dg' : Nat → Int32} (hL : LZ k a b a' b' bw bh wd hg) (hq : RQ qu) (hR : LQ k a b a' b' px bx M) (hA : a ≤ A) (hB : b ≤ A) (hT : 16 + (9 * A + 9) * A ≤ 2464) : ∃ pl2 px2 M2 st2 fv2 st2' fv2' sp2 dec2 dbl2 g g' d2, q_Stk_codeLayerM (nI k) pr px (nI a) (nI b) bx bw bh st fv sp dec dbl (fl dg 0 0 16 (fun _ => 0)) (nI 16) = some (pl2, px2, st2, fv2, sp2, dec2, dbl2, g, nI d2) ∧ q_Mod_codeLayer (nI k) 0 M wd hg st' fv' qu sp' dec' pr' dbl' dg' dc' tk' gv gs nx ab = some (M2, st2', fv2', sp2, dec2, pl2, dbl2, g', nI d2, 0, 0, 0) ∧ LQ k a b a' b' px2 bx M2 ∧ Out k M M2 ∧ 16 ≤ d2 ∧ d2 ≤ 16 + (9 * A + 9) * A ∧ RD g g' d2 := by
  have hm : (9 * A + 9) * b ≤ (9 * A + 9) * A := Nat.mul_le_mul_left _ hB
  obtain ⟨pl2, px2, M2, st2, fv2, st2', fv2', sp2, dec2, dbl2, g, g', d2, e1, e2, e3, e4, e5, e6, e7⟩ := rows_M (S := 9 * A + 9) (gs := gs) (nx := 0) (ab := 0) (gv := gv) hL hq (by omega) b 0 5000 5000 0 px M _ _ _ _ 65536 0 0 _ _ 16 (by omega) (by have := hL.2.2.2.2.2.2.1; omega) (by have := hL.2.2.2.2.2.2.1; omega) hR (RC_0 st fv st' fv') (by omega) (by omega) (by omega) (by omega) (RD_0 dg dg')
  refine ⟨pl2, px2, M2, st2, fv2, st2', fv2', nI sp2, dec2, dbl2, g, g', d2, ?_, ?_, e3, e4, e5, by omega, e7⟩
  · rw [q_Stk_codeLayerM, q_Cod_begin, fill2563, ob_s, fill2563, ob_s, ob_s]
    exact e1
  · rw [q_Mod_codeLayer, mbegin (Or.inl rfl), mbeg94_0, ob_s, if_pos rfl]
    exact e2
/-! the bytes of a number -/
def dn (dg : Nat → Int32) (d : Nat) (j : Nat) : Nat := if j < d then (dg j).toNatClampNeg else 0
theorem dn_in {dg dg' : Nat → Int32} {d j : Nat} (h : RD dg dg' d) (hj : j < d) : dg j = nI (dn dg d j) ∧ dg' j = nI (dn dg d j) ∧ dn dg d j ≤ 1 := by
  unfold dn
  rw [if_pos hj]
  obtain ⟨h1, h2⟩ := h j hj
  rw [h1]
  rcases h2 with q | q <;> rw [q]
  · exact ⟨rfl, rfl, by decide⟩
  · exact ⟨rfl, rfl, by decide⟩
theorem dn_out {dg : Nat → Int32} {d j : Nat} (hj : d ≤ j) : dn dg d j = 0 := by
  unfold dn
  rw [if_neg (by omega)]
theorem dn_le {dg dg' : Nat → Int32} {d : Nat} (h : RD dg dg' d) (j : Nat) : dn dg d j ≤ 1 := by
  by_cases c : j < d
  · exact (dn_in h c).2.2
  · rw [dn_out (by omega)]; omega
def bv (f : Nat → Nat) (i : Nat) : Nat := 2 * (2 * (2 * (2 * (2 * (2 * (2 * (2 * 0 + f (8 * i)) + f (8 * i + 1)) + f (8 * i + 2)) + f (8 * i + 3)) + f (8 * i + 4)) + f (8 * i + 5)) + f (8 * i + 6)) + f (8 * i + 7)
theorem bc_step {dg dg' : Nat → Int32} {d i X X' n v : Nat} (h : RD dg dg' d) (hd : d ≤ 2464) (hX : X < 8 * i + 8) (hi : i < 10000) (e : X' = X + 1) : q_Mad_byteOfDigits_7 (nI i) dg (nI d) (n + 1) (nI v) (nI X) = q_Mad_byteOfDigits_7 (nI i) dg (nI d) n (nI (2 * v + dn dg d X)) (nI X') := by
  have h8 : (8 : Int32) * nI i + (8 : Int32) = nI (8 * i + 8) := by rw [show (8 : Int32) = nI 8 from rfl, pk_mul, nI_add]
  have h2 : ∀ w, (2 : Int32) * nI v + nI w = nI (2 * v + w) := fun w => by rw [show (2 : Int32) = nI 2 from rfl, pk_mul, nI_add]
  rw [q_Mad_byteOfDigits_7, h8, if_neg (nI_ge hX (by omega)), nI_1, e]
  by_cases c : d ≤ X
  · rw [if_pos (nI_le c (by omega)), show (0 : Int32) = nI 0 from rfl, h2, dn_out c]
  · rw [if_neg (nI_ge (by omega) (by omega)), if_pos (vpb_nI (by omega) (by omega)), nI_clamp (by omega), (dn_in h (by omega)).1, h2]
theorem bm_step {dg dg' : Nat → Int32} {d i X X' n v : Nat} (h : RD dg dg' d) (hd : d ≤ 2464) (hX : X < 8 * i + 8) (hi : i < 10000) (e : X' = X + 1) : q_Mod_byteOf_7 (nI i) dg' (nI d) (n + 1) (nI v) (nI X) = q_Mod_byteOf_7 (nI i) dg' (nI d) n (nI (2 * v + dn dg d X)) (nI X') := by
  have h8 : (8 : Int32) * nI i + (8 : Int32) = nI (8 * i + 8) := by rw [show (8 : Int32) = nI 8 from rfl, pk_mul, nI_add]
  have h2 : ∀ w, (2 : Int32) * nI v + nI w = nI (2 * v + w) := fun w => by rw [show (2 : Int32) = nI 2 from rfl, pk_mul, nI_add]
  rw [q_Mod_byteOf_7, h8, if_neg (nI_ge hX (by omega)), nI_1, e]
  by_cases c : d ≤ X
  · rw [if_pos (nI_le c (by omega)), show (0 : Int32) = nI 0 from rfl, h2, dn_out c]
  · rw [if_neg (nI_ge (by omega) (by omega)), if_pos (vpb_nI (by omega) (by omega)), nI_clamp (by omega), (dn_in h (by omega)).2.1, h2]
theorem byte_c {dg dg' : Nat → Int32} {d i : Nat} (h : RD dg dg' d) (hd : d ≤ 2464) (hi : i < 10000) : q_Mad_byteOfDigits (nI i) dg (nI d) = some (nI (bv (dn dg d) i)) := by
  have h8 : (8 : Int32) * nI i = nI (8 * i) := by rw [show (8 : Int32) = nI 8 from rfl, pk_mul]
  have h88 : (8 : Int32) * nI i + (8 : Int32) = nI (8 * i + 8) := by rw [show (8 : Int32) = nI 8 from rfl, pk_mul, nI_add]
  rw [q_Mad_byteOfDigits, h8, show (0 : Int32) = nI 0 from rfl]
  rw [bc_step (X' := 8 * i + 1) h hd (by omega) hi (by omega), bc_step (X' := 8 * i + 2) h hd (by omega) hi (by omega), bc_step (X' := 8 * i + 3) h hd (by omega) hi (by omega), bc_step (X' := 8 * i + 4) h hd (by omega) hi (by omega), bc_step (X' := 8 * i + 5) h hd (by omega) hi (by omega), bc_step (X' := 8 * i + 6) h hd (by omega) hi (by omega), bc_step (X' := 8 * i + 7) h hd (by omega) hi (by omega), bc_step (X' := 8 * i + 8) h hd (by omega) hi (by omega)]
  rw [q_Mad_byteOfDigits_7, h88, if_pos (nI_le (Nat.le_refl _) (by omega))]
  rfl
theorem byte_m {dg dg' : Nat → Int32} {d i : Nat} (h : RD dg dg' d) (hd : d ≤ 2464) (hi : i < 10000) : q_Mod_byteOf (nI i) dg' (nI d) = some (nI (bv (dn dg d) i)) := by
  have h8 : (8 : Int32) * nI i = nI (8 * i) := by rw [show (8 : Int32) = nI 8 from rfl, pk_mul]
  have h88 : (8 : Int32) * nI i + (8 : Int32) = nI (8 * i + 8) := by rw [show (8 : Int32) = nI 8 from rfl, pk_mul, nI_add]
  rw [q_Mod_byteOf, h8, show (0 : Int32) = nI 0 from rfl]
  rw [bm_step (X' := 8 * i + 1) h hd (by omega) hi (by omega), bm_step (X' := 8 * i + 2) h hd (by omega) hi (by omega), bm_step (X' := 8 * i + 3) h hd (by omega) hi (by omega), bm_step (X' := 8 * i + 4) h hd (by omega) hi (by omega), bm_step (X' := 8 * i + 5) h hd (by omega) hi (by omega), bm_step (X' := 8 * i + 6) h hd (by omega) hi (by omega), bm_step (X' := 8 * i + 7) h hd (by omega) hi (by omega), bm_step (X' := 8 * i + 8) h hd (by omega) hi (by omega)]
  rw [q_Mod_byteOf_7, h88, if_pos (nI_le (Nat.le_refl _) (by omega))]
  rfl
theorem bv_lt {f : Nat → Nat} (h : ∀ j, f j ≤ 1) (i : Nat) : bv f i < 256 := by
  have h0 := h (8 * i)
  have h1 := h (8 * i + 1)
  have h2 := h (8 * i + 2)
  have h3 := h (8 * i + 3)
  have h4 := h (8 * i + 4)
  have h5 := h (8 * i + 5)
  have h6 := h (8 * i + 6)
  have h7 := h (8 * i + 7)
  unfold bv
  omega
theorem bv_0 {f : Nat → Nat} {i : Nat} (h : bv f i = 0) : ∀ j, 8 * i ≤ j → j < 8 * i + 8 → f j = 0 := by
  intro j h1 h2
  unfold bv at h
  rcases (show j = 8 * i ∨ j = 8 * i + 1 ∨ j = 8 * i + 2 ∨ j = 8 * i + 3 ∨ j = 8 * i + 4 ∨ j = 8 * i + 5 ∨ j = 8 * i + 6 ∨ j = 8 * i + 7 by omega) with q | q | q | q | q | q | q | q <;> rw [q] <;> omega
theorem bv_n0 {f : Nat → Nat} {i : Nat} (h : ¬ bv f i = 0) : ∃ j, 8 * i ≤ j ∧ j < 8 * i + 8 ∧ ¬ f j = 0 := by
  apply Classical.byContradiction
  intro q
  apply h
  have hz : ∀ j, 8 * i ≤ j → j < 8 * i + 8 → f j = 0 := fun j h1 h2 => Classical.byContradiction fun h3 => q ⟨j, h1, h2, h3⟩
  unfold bv
  rw [hz _ (by omega) (by omega), hz _ (by omega) (by omega), hz _ (by omega) (by omega), hz _ (by omega) (by omega), hz _ (by omega) (by omega), hz _ (by omega) (by omega), hz _ (by omega) (by omega), hz _ (by omega) (by omega)]
/-- how many bytes of the digits are to be kept -/
def CS (f : Nat → Nat) (c : Nat) : Prop := (∀ j, 8 * c ≤ j → f j = 0) ∧ (c = 0 ∨ ∃ j, 8 * (c - 1) ≤ j ∧ j < 8 * c ∧ ¬ f j = 0)
theorem CS_uniq {f : Nat → Nat} {c c' : Nat} (h : CS f c) (h' : CS f c') : c = c' := by
  obtain ⟨h1, h2⟩ := h
  obtain ⟨h1', h2'⟩ := h'
  rcases Nat.lt_trichotomy c c' with q | q | q
  · rcases h2' with r | ⟨j, j1, j2, j3⟩
    · omega
    · exact absurd (h1 j (by omega)) j3
  · exact q
  · rcases h2 with r | ⟨j, j1, j2, j3⟩
    · omega
    · exact absurd (h1' j (by omega)) j3
theorem cnt_go {dg dg' : Nat → Int32} {d : Nat} (h : RD dg dg' d) (hd : d ≤ 2464) : ∀ i n, i < d → i + 1 < n → (∀ j, i < j → dn dg d j = 0) → ∃ c : Nat, c ≤ 308 ∧ q_Mad_byteCount_7 dg (nI d) n (nI i) = some (nI c) ∧ CS (dn dg d) c := by
  have h8 : ∀ i : Nat, i < 10000 → (nI i + (8 : Int32)) / (8 : Int32) = nI ((i + 8) / 8) := fun i hi => by rw [show (8 : Int32) = nI 8 from rfl, nI_add, pk_div (by omega) (by omega) (by omega)]
  intro i
  induction i with
  | zero =>
    intro n hi hn hz
    obtain ⟨n, rfl⟩ : ∃ m, n = m + 2 := ⟨n - 2, by omega⟩
    obtain ⟨q1, q2, q3⟩ := dn_in h hi
    by_cases c : dn dg d 0 = 0
    · refine ⟨0, by omega, ?_, fun j _ => ?_, Or.inl rfl⟩
      · rw [q_Mad_byteCount_7, if_neg (nI_pos (by omega)), if_pos (vpb_nI (by omega) (by omega)), nI_clamp (by omega), q1, c, if_pos (show nI 0 = 0 from rfl), q_Mad_byteCount_7, if_pos (by decide)]
        rfl
      · by_cases j0 : j = 0
        · rw [j0]; exact c
        · exact hz j (by omega)
    · refine ⟨1, by omega, ?_, fun j hj => hz j (by omega), Or.inr ⟨0, by omega, by omega, c⟩⟩
      rw [q_Mad_byteCount_7, if_neg (nI_pos (by omega)), if_pos (vpb_nI (by omega) (by omega)), nI_clamp (by omega), q1, if_neg (nI_ne0 (by omega) (by omega)), h8 0 (by omega)]
  | succ i ih =>
    intro n hi hn hz
    obtain ⟨n, rfl⟩ : ∃ m, n = m + 1 := ⟨n - 1, by omega⟩
    obtain ⟨q1, q2, q3⟩ := dn_in h hi
    by_cases c : dn dg d (i + 1) = 0
    · rw [q_Mad_byteCount_7, if_neg (nI_pos (by omega)), if_pos (vpb_nI (by omega) (by omega)), nI_clamp (by omega), q1, c, if_pos (show nI 0 = 0 from rfl), pk_m1]
      refine ih n (by omega) (by omega) (fun j hj => ?_)
      by_cases j0 : j = i + 1
      · rw [j0]; exact c
      · exact hz j (by omega)
    · refine ⟨(i + 1 + 8) / 8, by omega, ?_, fun j hj => hz j (by omega), Or.inr ⟨i + 1, by omega, by omega, c⟩⟩
      rw [q_Mad_byteCount_7, if_neg (nI_pos (by omega)), if_pos (vpb_nI (by omega) (by omega)), nI_clamp (by omega), q1, if_neg (nI_ne0 (by omega) (by omega)), h8 (i + 1) (by omega)]
theorem cnt_c {dg dg' : Nat → Int32} {d : Nat} (h : RD dg dg' d) (hd : d ≤ 2464) (h1 : 1 ≤ d) : ∃ c : Nat, c ≤ 308 ∧ q_Mad_byteCount dg (nI d) = some (nI c) ∧ CS (dn dg d) c := by
  rw [q_Mad_byteCount, pred_nI h1]
  exact cnt_go h hd (d - 1) 5000 (by omega) (by omega) (fun j hj => dn_out (by omega))
theorem cnt_m {dg dg' dr : Nat → Int32} {ds : Int32} {d : Nat} (h : RD dg dg' d) (hd : d ≤ 2464) : ∀ c n, c < 1000 → c < n → (∀ j, 8 * c ≤ j → dn dg d j = 0) → ∃ c2 : Nat, c2 ≤ c ∧ q_Mod_putLayer_11 dg' (nI d) n (nI c) dr ds = q_Mod_putLayer_33 dg' (nI d) 5000 (nI c2) 0 dr ds ∧ CS (dn dg d) c2 := by
  intro c
  induction c with
  | zero =>
    intro n _ hn hz
    obtain ⟨n, rfl⟩ : ∃ m, n = m + 1 := ⟨n - 1, by omega⟩
    refine ⟨0, by omega, ?_, hz, Or.inl rfl⟩
    rw [q_Mod_putLayer_11, if_pos (show nI 0 ≤ 0 from p00)]
  | succ c ih =>
    intro n hc hn hz
    obtain ⟨n, rfl⟩ : ∃ m, n = m + 1 := ⟨n - 1, by omega⟩
    have hb := byte_m h hd (show c < 10000 by omega)
    have hlt := bv_lt (dn_le h) c
    by_cases q : bv (dn dg d) c = 0
    · obtain ⟨c2, e1, e2, e3⟩ := ih n (by omega) (by omega) (fun j hj => by
        by_cases r : j < 8 * c + 8
        · exact bv_0 q j hj r
        · exact hz j (by omega))
      refine ⟨c2, by omega, ?_, e3⟩
      rw [q_Mod_putLayer_11, if_neg (nI_nle (by omega) (by omega)), nI_pred, hb, ob_s, q, if_pos (show nI 0 = 0 from rfl), pk_m1]
      exact e2
    · refine ⟨c + 1, by omega, ?_, hz, Or.inr ?_⟩
      · rw [q_Mod_putLayer_11, if_neg (nI_nle (by omega) (by omega)), nI_pred, hb, ob_s, if_neg (nI_ne0 (by omega) (by omega))]
      · obtain ⟨j, j1, j2, j3⟩ := bv_n0 q
        exact ⟨j, by omega, by omega, j3⟩
/-- the class's file and the reference's draft -/
def RW (f dr : Nat → Int32) (m : Nat) : Prop := ∀ i, i < m → f i = dr i ∧ ∃ b : Nat, b < 256 ∧ dr i = nI b
theorem put_in {m : Nat} {v : Int32} {dr : Nat → Int32} (h : m < 900) : q_Mod_put v dr (nI m) = some (upd dr m v, nI (m + 1)) := by
  rw [q_Mod_put, if_pos (vpb_nI h (by omega)), nI_clamp (by omega), nI_1]
theorem RW_app {f dr : Nat → Int32} {m b : Nat} (h : RW f dr m) (hb : b < 256) : RW (upd f m (nI b)) (upd dr m (nI b)) (m + 1) := RF_app h ⟨b, hb, rfl⟩
theorem out_go {dg dg' : Nat → Int32} {d c : Nat} (h : RD dg dg' d) (hd : d ≤ 2464) (hc : c ≤ 308) : ∀ e i n n' f dr m, i + e = c → e < n → e < n' → m + 2 * e + 2 ≤ 900 → RW f dr m → ∃ f2 dr2 m2, q_Mad_appendTo_7 dg (nI d) n (nI c) (nI i) f (nI m) = some (f2, nI m2) ∧ q_Mod_putLayer_33 dg' (nI d) n' (nI c) (nI i) dr (nI m) = some (upd (upd dr2 m2 (nI 255)) (m2 + 1) (nI 2), nI (m2 + 2)) ∧ RW f2 dr2 m2 ∧ m2 ≤ m + 2 * e := by
  intro e
  induction e with
  | zero =>
    intro i n n' f dr m hi hn hn' hm hW
    obtain ⟨n, rfl⟩ : ∃ m, n = m + 1 := ⟨n - 1, by omega⟩
    obtain ⟨n', rfl⟩ : ∃ m, n' = m + 1 := ⟨n' - 1, by omega⟩
    obtain rfl : i = c := by omega
    refine ⟨f, dr, m, ?_, ?_, hW, by omega⟩
    · rw [q_Mad_appendTo_7, if_pos (nI_le (Nat.le_refl _) (by omega))]
    · rw [q_Mod_putLayer_33, if_pos (nI_le (Nat.le_refl _) (by omega)), put_in (by omega), ob_s, put_in (by omega), ob_s]
      rfl
  | succ e ih =>
    intro i n n' f dr m hi hn hn' hm hW
    obtain ⟨n, rfl⟩ : ∃ m, n = m + 1 := ⟨n - 1, by omega⟩
    obtain ⟨n', rfl⟩ : ∃ m, n' = m + 1 := ⟨n' - 1, by omega⟩
    have hlt := bv_lt (dn_le h) i
    have hW1 := RW_app hW hlt
    rw [q_Mad_appendTo_7, if_neg (nI_ge (show i < c by omega) (by omega)), byte_c h hd (by omega), ob_s, app_in (by omega), ob_s]
    rw [q_Mod_putLayer_33, if_neg (nI_ge (show i < c by omega) (by omega)), byte_m h hd (by omega), ob_s, put_in (by omega), ob_s, ob_s]
    by_cases q : bv (dn dg d) i = 255
    · rw [if_pos (show nI (bv (dn dg d) i) = 255 by rw [q]; rfl), if_pos (show nI (bv (dn dg d) i) = 255 by rw [q]; rfl), app_in (by omega), ob_s, put_in (by omega), ob_s, nI_1]
      obtain ⟨f2, dr2, m2, e1, e2, e3, e4⟩ := ih (i + 1) n n' _ _ (m + 2) (by omega) (by omega) (by omega) (by omega) (RW_app (b := 0) hW1 (by omega))
      exact ⟨f2, dr2, m2, e1, e2, e3, by omega⟩
    · have q2 : ¬ nI (bv (dn dg d) i) = 255 := fun r => q ((nI_eq (b := 255) (by omega) (by omega)).mp r)
      rw [if_neg q2, if_neg q2, nI_1]
      obtain ⟨f2, dr2, m2, e1, e2, e3, e4⟩ := ih (i + 1) n n' _ _ (m + 1) (by omega) (by omega) (by omega) (by omega) hW1
      exact ⟨f2, dr2, m2, e1, e2, e3, by omega⟩
theorem out_eq {dg dg' f dr : Nat → Int32} {d m T : Nat} (h : RD dg dg' d) (hd : d ≤ 2464) (h1 : 1 ≤ d) (hT : d ≤ 8 * T) (hm : m + 2 * T + 2 ≤ 900) (hW : RW f dr m) : ∃ f2 dr2 m2, (∀ (α : Type) (F : (Nat → Int32) × Int32 → Option α), ((q_Mad_appendTo dg (nI d) f (nI m)).bind fun z3 => ((q_Fil_append (255 : Int32) z3.1 z3.2).bind fun z4 => ((q_Fil_append (2 : Int32) z4.1 z4.2).bind F))) = F (f2, nI m2)) ∧ q_Mod_putLayer dg' (nI d) dr (nI m) = some (dr2, nI m2) ∧ RW f2 dr2 m2 ∧ m2 ≤ m + 2 * T + 2 := by
  obtain ⟨c, hc, c1, c2⟩ := cnt_c h hd h1
  have hn : (nI d + (7 : Int32)) / (8 : Int32) = nI ((d + 7) / 8) := by rw [show (8 : Int32) = nI 8 from rfl, show (7 : Int32) = nI 7 from rfl, nI_add, pk_div (by omega) (by omega) (by omega)]
  obtain ⟨c', hc', c3, c4⟩ := cnt_m (dr := dr) (ds := nI m) h hd ((d + 7) / 8) 5000 (by omega) (by omega) (fun j hj => dn_out (by omega))
  obtain rfl := CS_uniq c2 c4
  obtain ⟨f2, dr2, m2, e1, e2, e3, e4⟩ := out_go h hd hc c 0 5000 5000 f dr m (by omega) (by omega) (by omega) (by omega) hW
  refine ⟨upd (upd f2 m2 (nI 255)) (m2 + 1) (nI 2), upd (upd dr2 m2 (nI 255)) (m2 + 1) (nI 2), m2 + 2, fun α F => ?_, ?_, RW_app (RW_app e3 (by omega)) (by omega), by omega⟩
  · rw [q_Mad_appendTo, c1, ob_s, show (0 : Int32) = nI 0 from rfl, e1, ob_s, app_in (by omega), ob_s, app_in (by omega), ob_s]
    rfl
  · rw [q_Mod_putLayer, hn, c3, show (0 : Int32) = nI 0 from rfl, e2]
