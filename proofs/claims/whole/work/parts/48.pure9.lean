/-! the coder's parts on both sides -/
def qn (i : Nat) : Nat := ([23068, 19000, 15000, 12000, 9600, 7600, 6000, 4800, 3800, 3000, 2400, 1900, 1500, 1200, 950, 750, 600, 480, 380, 300, 240, 190, 150, 120] : List Nat).getD i 0
theorem qn_ok : ∀ s, s < 24 → qtab s = nI (qn s) ∧ 120 ≤ qn s ∧ qn s ≤ 23068 := by decide +kernel
def RC (st fv st' fv' : Nat → Int32) : Prop := ∀ i, i < 2563 → st' i = st i ∧ fv' i = fv i ∧ (∃ n : Nat, n < 24 ∧ st i = nI n) ∧ (fv i = 0 ∨ fv i = 1)
def RD (dg dg' : Nat → Int32) (d : Nat) : Prop := ∀ i, i < d → dg' i = dg i ∧ (dg i = 0 ∨ dg i = 1)
theorem RC_st {st fv st' fv' : Nat → Int32} {ci n : Nat} (h : RC st fv st' fv') (hn : n < 24) : RC (upd st ci (nI n)) fv (upd st' ci (nI n)) fv' := by
  intro i hi
  obtain ⟨h1, h2, h3, h4⟩ := h i hi
  by_cases e : i = ci
  · subst e
    rw [upd_same, upd_same]
    exact ⟨rfl, h2, ⟨n, hn, rfl⟩, h4⟩
  · rw [upd_other _ _ e, upd_other _ _ e]
    exact ⟨h1, h2, h3, h4⟩
theorem RC_fv {st fv st' fv' : Nat → Int32} {ci : Nat} {v : Int32} (h : RC st fv st' fv') (hv : v = 0 ∨ v = 1) : RC st (upd fv ci v) st' (upd fv' ci v) := by
  intro i hi
  obtain ⟨h1, h2, h3, h4⟩ := h i hi
  by_cases e : i = ci
  · subst e
    rw [upd_same, upd_same]
    exact ⟨h1, rfl, h3, hv⟩
  · rw [upd_other _ _ e, upd_other _ _ e]
    exact ⟨h1, h2, h3, h4⟩
theorem RD_upd {dg dg' : Nat → Int32} {d i : Nat} {v : Int32} (h : RD dg dg' d) (hv : v = 0 ∨ v = 1) : RD (upd dg i v) (upd dg' i v) d := by
  intro j hj
  by_cases e : j = i
  · subst e
    rw [upd_same, upd_same]
    exact ⟨rfl, hv⟩
  · rw [upd_other _ _ e, upd_other _ _ e]
    exact h j hj
theorem RD_app {dg dg' : Nat → Int32} {d : Nat} {v : Int32} (h : RD dg dg' d) (hv : v = 0 ∨ v = 1) : RD (upd dg d v) (upd dg' d v) (d + 1) := by
  intro j hj
  by_cases e : j = d
  · subst e
    rw [upd_same, upd_same]
    exact ⟨rfl, hv⟩
  · rw [upd_other _ _ e, upd_other _ _ e]
    exact h j (by omega)
theorem shr1 {n : Nat} (h : n < 2 ^ 31) : nI n >>> ((1 : Int32) &&& 31) = nI (n / 2) := pk_shrN h _ 1 rfl
theorem and1n {n : Nat} (h : n < 2 ^ 32) : nI n &&& (1 : Int32) = nI (n % 2) := pk_andN h 1 rfl
theorem nbit (n : Nat) : nI (n % 2) = 0 ∨ nI (n % 2) = 1 := by
  rcases Nat.mod_two_eq_zero_or_one n with h | h
  · rw [h]; exact Or.inl rfl
  · rw [h]; exact Or.inr rfl
theorem grow_c {A DC : Int32} {n v i e : Nat} {dg : Nat → Int32} (hi : i < 2464) (hv : 1 ≤ v) (hv2 : v ≤ 65536) (he : e ≤ 1) (h : dg i = nI e) : q_Mad_grow_9 A DC (n + 1) (nI v) (nI i) dg = q_Mad_grow_9 A DC n (nI ((e + v) / 2)) (nI i + (-1)) (upd dg i (nI ((e + v) % 2))) := by
  rw [q_Mad_grow_9, if_neg (nI_pos (by omega)), if_neg (nI_nle (by omega) (by omega)), if_pos (vpb_nI hi (by omega)), if_pos (vpb_nI hi (by omega)), nI_clamp (by omega), h, nI_add, shr1 (by omega), and1n (by omega)]
theorem grow_m {A DC : Int32} {n v i e : Nat} {dg : Nat → Int32} (hi : i < 4000) (hv : 1 ≤ v) (hv2 : v ≤ 65536) (he : e ≤ 1) (h : dg i = nI e) : q_Mod_grow_12 A DC (n + 1) (nI v) (nI i) dg = q_Mod_grow_12 A DC n (nI ((e + v) / 2)) (nI i + (-1)) (upd dg i (nI ((e + v) % 2))) := by
  rw [q_Mod_grow_12, if_neg (nI_pos (by omega)), if_neg (nI_nle (by omega) (by omega)), if_pos (vpb_nI hi (by omega)), if_pos (vpb_nI hi (by omega)), nI_clamp (by omega), h, and1n (by omega), nI_add, shr1 (by omega), shr1 (by omega), nI_add, and1n (by omega)]
  rw [show v / 2 + (e + v % 2) / 2 = (e + v) / 2 by omega, show (e + v % 2) % 2 = (e + v) % 2 by omega]
theorem grow_go {A DC A' DC' : Int32} {d : Nat} (hd : d ≤ 2464) : ∀ i n v dg dg', i < d → i + 1 < n → v ≤ 65536 → RD dg dg' d → ∃ g g', q_Mad_grow_9 A DC n (nI v) (nI i) dg = some g ∧ q_Mod_grow_12 A' DC' n (nI v) (nI i) dg' = some g' ∧ RD g g' d := by
  intro i
  induction i with
  | zero =>
    intro n v dg dg' hi hn hv hR
    obtain ⟨n, rfl⟩ : ∃ m, n = m + 2 := ⟨n - 2, by omega⟩
    by_cases h0 : v = 0
    · subst h0
      refine ⟨dg, dg', ?_, ?_, hR⟩
      · rw [q_Mad_grow_9, if_neg (nI_pos (by omega)), if_pos (show nI 0 ≤ 0 from p00)]
      · rw [q_Mod_grow_12, if_neg (nI_pos (by omega)), if_pos (show nI 0 ≤ 0 from p00)]
    · obtain ⟨r1, r2⟩ := hR 0 hi
      obtain ⟨e, he, e1⟩ := bit_n r2
      rw [grow_c (by omega) (by omega) hv he e1, grow_m (by omega) (by omega) hv he (r1.trans e1)]
      refine ⟨_, _, by rw [q_Mad_grow_9, if_pos (by decide)], by rw [q_Mod_grow_12, if_pos (by decide)], RD_upd hR (nbit _)⟩
  | succ i ih =>
    intro n v dg dg' hi hn hv hR
    obtain ⟨n, rfl⟩ : ∃ m, n = m + 1 := ⟨n - 1, by omega⟩
    by_cases h0 : v = 0
    · subst h0
      refine ⟨dg, dg', ?_, ?_, hR⟩
      · rw [q_Mad_grow_9, if_neg (nI_pos (by omega)), if_pos (show nI 0 ≤ 0 from p00)]
      · rw [q_Mod_grow_12, if_neg (nI_pos (by omega)), if_pos (show nI 0 ≤ 0 from p00)]
    · obtain ⟨r1, r2⟩ := hR (i + 1) hi
      obtain ⟨e, he, e1⟩ := bit_n r2
      rw [grow_c (by omega) (by omega) hv he e1, grow_m (by omega) (by omega) hv he (r1.trans e1), pk_m1]
      exact ih n _ _ _ (by omega) (by omega) (by omega) (RD_upd hR (nbit _))
theorem grow_eq {d v : Nat} {dg dg' : Nat → Int32} (hd : d ≤ 2464) (h1 : 1 ≤ d) (hv : v ≤ 65536) (hR : RD dg dg' d) : ∃ g g', q_Mad_grow (nI v) dg (nI d) = some g ∧ q_Mod_grow (nI v) dg' (nI d) = some g' ∧ RD g g' d := by
  unfold q_Mad_grow q_Mod_grow
  rw [pred_nI h1]
  exact grow_go hd (d - 1) 5000 v dg dg' (by omega) (by omega) hv hR
theorem mkd_c {d : Nat} {dg : Nat → Int32} (h : d < 2464) : q_Mad_makeDouble dg (nI d) = some (upd dg d 0, nI (d + 1)) := by
  rw [q_Mad_makeDouble, if_neg (show ¬ (2464 : Int32) ≤ nI d from nI_ge (b := 2464) h (by omega)), if_pos (vpb_nI h (by omega)), nI_clamp (by omega), nI_1]
theorem pow_step (m j : Nat) : m * 2 ^ (j + 1) = (2 * m) * 2 ^ j := by
  rw [Nat.pow_succ, Nat.mul_comm 2 m, Nat.mul_assoc, Nat.mul_comm (2 ^ j) 2]
theorem widen_M {c b0 gs x5 dec nx ab : Int32} {qu gv st fv : Nat → Int32} : ∀ j m i n n' d dbl dg dg', 32768 ≤ m * 2 ^ j → m ≤ 65536 → i + j ≤ 15 → d + j ≤ 2464 → j < n → j < n' → RD dg dg' d → ∃ m2 d2 dbl2 g g', q_Cod_widenM_2 n (nI i) (nI m) dbl dg (nI d) = some (nI m2, dbl2, g, nI d2) ∧ q_Mod_decide_231 c b0 qu 0 gv gs n' x5 st fv (nI m) dec dbl dg' (nI d) nx ab = some (x5, st, fv, nI m2, dec, dbl2, g', nI d2, nx, ab) ∧ RD g g' d2 ∧ 32768 ≤ m2 ∧ m2 ≤ 65536 ∧ d ≤ d2 ∧ d2 ≤ d + j := by
  intro j
  induction j with
  | zero =>
    intro m i n n' d dbl dg dg' hm hm2 hi hd hn hn' hR
    obtain ⟨n, rfl⟩ : ∃ m, n = m + 1 := ⟨n - 1, by omega⟩
    obtain ⟨n', rfl⟩ : ∃ m, n' = m + 1 := ⟨n' - 1, by omega⟩
    have hm' : 32768 ≤ m := by omega
    have c1 : (32768 : Int32) ≤ nI m := nI_le (a := 32768) hm' (by omega)
    refine ⟨m, d, dbl, dg, dg', ?_, ?_, hR, hm', hm2, by omega, by omega⟩
    · rw [q_Cod_widenM_2, if_neg (show ¬ (16 : Int32) ≤ nI i from nI_ge (b := 16) (by omega) (by omega)), if_pos c1]
    · rw [q_Mod_decide_231, if_pos c1]
  | succ j ih =>
    intro m i n n' d dbl dg dg' hm hm2 hi hd hn hn' hR
    obtain ⟨n, rfl⟩ : ∃ m, n = m + 1 := ⟨n - 1, by omega⟩
    obtain ⟨n', rfl⟩ : ∃ m, n' = m + 1 := ⟨n' - 1, by omega⟩
    by_cases hm' : 32768 ≤ m
    · have c1 : (32768 : Int32) ≤ nI m := nI_le (a := 32768) hm' (by omega)
      refine ⟨m, d, dbl, dg, dg', ?_, ?_, hR, hm', hm2, by omega, by omega⟩
      · rw [q_Cod_widenM_2, if_neg (show ¬ (16 : Int32) ≤ nI i from nI_ge (b := 16) (by omega) (by omega)), if_pos c1]
      · rw [q_Mod_decide_231, if_pos c1]
    · have c1 : ¬ (32768 : Int32) ≤ nI m := nI_ge (b := 32768) (by omega) (by omega)
      have p1 : nI m * (2 : Int32) = nI (2 * m) := by rw [show (2 : Int32) = nI 2 from rfl, pk_mul, Nat.mul_comm]
      have p2 : (2 : Int32) * nI m = nI (2 * m) := by rw [show (2 : Int32) = nI 2 from rfl, pk_mul]
      rw [pow_step] at hm
      obtain ⟨m2, d2, dbl2, g, g', e1, e2, e3, e4, e5, e6, e7⟩ := ih (2 * m) (i + 1) n n' (d + 1) (dbl + 1) (upd dg d 0) (upd dg' d 0) hm (by omega) (by omega) (by omega) (by omega) (by omega) (RD_app hR (Or.inl rfl))
      refine ⟨m2, d2, dbl2, g, g', ?_, ?_, e3, e4, e5, by omega, by omega⟩
      · rw [q_Cod_widenM_2, if_neg (show ¬ (16 : Int32) ≤ nI i from nI_ge (b := 16) (by omega) (by omega)), if_neg c1, mkd_c (by omega), ob_s, nI_1, p1]
        exact e1
      · rw [q_Mod_decide_231, if_neg c1, q_Mod_twice, if_pos rfl, if_pos (vpb_nI (show d < 4000 by omega) (by omega)), ob_s, nI_clamp (by omega), nI_1, p2]
        exact e2
/-- the bytes that a number is taken from -/
def NB (by_ gv : Nat → Int32) (n : Nat) : Prop := n ≤ 900 ∧ ∀ i, i < n → by_ i = gv i
theorem mkd_t {by_ gv : Nat → Int32} {n t : Nat} {re : Int32} (h : NB by_ gv n) (ht : t < 1000000) : ∃ bt : Int32, q_Tak_makeDouble by_ (nI n) (nI t) re = some (nI (t + 1), (2 : Int32) * re + bt) ∧ q_Mod_nextDigit gv (nI n) (nI t) = some (bt, nI (t + 1)) := by
  have hd : nI t / (8 : Int32) = nI (t / 8) := pk_div (d := 8) (by omega) (by omega) (by omega)
  have h8 : (8 : Int32) * nI n = nI (8 * n) := pk_mul 8 n
  obtain ⟨h1, h2⟩ := h
  by_cases c : n ≤ t / 8
  · refine ⟨0, ?_, ?_⟩
    · rw [q_Tak_makeDouble, hd, if_pos (nI_le c (by omega)), q_Tak_makeDouble_26, nI_1]
      have : ((0 : Int32) >>> (((7 : Int32) - (nI t - nI t / (8 : Int32) * (8 : Int32))) &&& 31)) &&& (1 : Int32) = 0 := by
        rw [show (0 : Int32) = nI 0 from rfl, pk_shrN (n := 0) (by omega) _ _ rfl, Nat.zero_div]
        rfl
      rw [this]
    · rw [q_Mod_nextDigit, h8, if_pos (nI_le (by omega) (by omega)), q_Mod_nextDigit_43, nI_1]
  · refine ⟨(by_ (t / 8) >>> (((7 : Int32) - (nI t - nI t / (8 : Int32) * (8 : Int32))) &&& 31)) &&& (1 : Int32), ?_, ?_⟩
    · rw [q_Tak_makeDouble, hd, if_neg (nI_ge (by omega) (by omega)), if_pos (vpb_nI (by omega) (by omega)), nI_clamp (by omega), q_Tak_makeDouble_26, nI_1, hd]
    · rw [q_Mod_nextDigit, h8, if_neg (nI_ge (by omega) (by omega)), hd, if_pos (vpb_nI (by omega) (by omega)), nI_clamp (by omega), q_Mod_nextDigit_43, nI_1, h2 _ (by omega), ← hd]
theorem widen_T {c b0 x5 dec dc : Int32} {qu st fv by_ gv dg : Nat → Int32} {N : Nat} (hN : NB by_ gv N) : ∀ j m i n n' t dbl re, 32768 ≤ m * 2 ^ j → m ≤ 65536 → i + j ≤ 15 → t + j < 100000 → j < n → j < n' → ∃ m2 t2 dbl2 r2, q_Cod_widenT_2 by_ (nI N) n (nI i) (nI m) dbl (nI t) re = some (nI m2, dbl2, nI t2, r2) ∧ q_Mod_decide_231 c b0 qu 1 gv (nI N) n' x5 st fv (nI m) dec dbl dg dc (nI t) re = some (x5, st, fv, nI m2, dec, dbl2, dg, dc, nI t2, r2) ∧ 32768 ≤ m2 ∧ m2 ≤ 65536 ∧ t ≤ t2 ∧ t2 ≤ t + j := by
  intro j
  induction j with
  | zero =>
    intro m i n n' t dbl re hm hm2 hi hd hn hn'
    obtain ⟨n, rfl⟩ : ∃ m, n = m + 1 := ⟨n - 1, by omega⟩
    obtain ⟨n', rfl⟩ : ∃ m, n' = m + 1 := ⟨n' - 1, by omega⟩
    have hm' : 32768 ≤ m := by omega
    have c1 : (32768 : Int32) ≤ nI m := nI_le (a := 32768) hm' (by omega)
    refine ⟨m, t, dbl, re, ?_, ?_, hm', hm2, by omega, by omega⟩
    · rw [q_Cod_widenT_2, if_neg (show ¬ (16 : Int32) ≤ nI i from nI_ge (b := 16) (by omega) (by omega)), if_pos c1]
    · rw [q_Mod_decide_231, if_pos c1]
  | succ j ih =>
    intro m i n n' t dbl re hm hm2 hi hd hn hn'
    obtain ⟨n, rfl⟩ : ∃ m, n = m + 1 := ⟨n - 1, by omega⟩
    obtain ⟨n', rfl⟩ : ∃ m, n' = m + 1 := ⟨n' - 1, by omega⟩
    by_cases hm' : 32768 ≤ m
    · have c1 : (32768 : Int32) ≤ nI m := nI_le (a := 32768) hm' (by omega)
      refine ⟨m, t, dbl, re, ?_, ?_, hm', hm2, by omega, by omega⟩
      · rw [q_Cod_widenT_2, if_neg (show ¬ (16 : Int32) ≤ nI i from nI_ge (b := 16) (by omega) (by omega)), if_pos c1]
      · rw [q_Mod_decide_231, if_pos c1]
    · have c1 : ¬ (32768 : Int32) ≤ nI m := nI_ge (b := 32768) (by omega) (by omega)
      have p1 : nI m * (2 : Int32) = nI (2 * m) := by rw [show (2 : Int32) = nI 2 from rfl, pk_mul, Nat.mul_comm]
      have p2 : (2 : Int32) * nI m = nI (2 * m) := by rw [show (2 : Int32) = nI 2 from rfl, pk_mul]
      rw [pow_step] at hm
      obtain ⟨bt, q1, q2⟩ := mkd_t (re := re) hN (show t < 1000000 by omega)
      obtain ⟨m2, t2, dbl2, r2, e1, e2, e4, e5, e6, e7⟩ := ih (2 * m) (i + 1) n n' (t + 1) (dbl + 1) ((2 : Int32) * re + bt) hm (by omega) (by omega) (by omega) (by omega) (by omega)
      refine ⟨m2, t2, dbl2, r2, ?_, ?_, e4, e5, by omega, by omega⟩
      · rw [q_Cod_widenT_2, if_neg (show ¬ (16 : Int32) ≤ nI i from nI_ge (b := 16) (by omega) (by omega)), if_neg c1, q1, ob_s, nI_1, p1]
        exact e1
      · rw [q_Mod_decide_231, if_neg c1, q_Mod_twice, if_neg n10, q2, ob_s, ob_s, p2]
        exact e2
