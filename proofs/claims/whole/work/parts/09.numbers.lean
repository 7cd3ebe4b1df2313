def W_M (n_0 n_digits_a : Nat) (n_digits_k : ClassId) (n_digits : Nat → Int32) (n_digitCount : Int32) : va_W := [(n_0, .inr (3, [.ref n_digits_a, .int n_digitCount])), (n_digits_a, .inl (n_digits_k, 2464, .inl n_digits))]
def W_MF (n_0 n_digits_a f_0 f_bytes_a f_starts_a f_ends_a : Nat) (n_digits_k f_bytes_k f_starts_k f_ends_k : ClassId) (n_digits : Nat → Int32) (n_digitCount : Int32) (f_bytes : Nat → Int32) (f_starts : Nat → Int32) (f_ends : Nat → Int32) (f_length : Int32) (f_wide : Int32) (f_high : Int32) (f_layerCount : Int32) (f_place : Int32) : va_W := [(n_0, .inr (3, [.ref n_digits_a, .int n_digitCount])), (n_digits_a, .inl (n_digits_k, 2464, .inl n_digits)), (f_0, .inr (2, [.ref f_bytes_a, .ref f_starts_a, .ref f_ends_a, .int f_length, .int f_wide, .int f_high, .int f_layerCount, .int f_place])), (f_bytes_a, .inl (f_bytes_k, 900, .inl f_bytes)), (f_starts_a, .inl (f_starts_k, 3, .inl f_starts)), (f_ends_a, .inl (f_ends_k, 3, .inl f_ends))]
def W_T (n_0 n_bytes_a : Nat) (n_bytes_k : ClassId) (n_bytes : Nat → Int32) (n_byteCount : Int32) (n_nextDigit : Int32) (n_rest : Int32) : va_W := [(n_0, .inr (5, [.ref n_bytes_a, .int n_byteCount, .int n_nextDigit, .int n_rest])), (n_bytes_a, .inl (n_bytes_k, 900, .inl n_bytes))]
def W_TF (n_0 n_bytes_a f_0 f_bytes_a f_starts_a f_ends_a : Nat) (n_bytes_k f_bytes_k f_starts_k f_ends_k : ClassId) (n_bytes : Nat → Int32) (n_byteCount : Int32) (n_nextDigit : Int32) (n_rest : Int32) (f_bytes : Nat → Int32) (f_starts : Nat → Int32) (f_ends : Nat → Int32) (f_length : Int32) (f_wide : Int32) (f_high : Int32) (f_layerCount : Int32) (f_place : Int32) : va_W := [(n_0, .inr (5, [.ref n_bytes_a, .int n_byteCount, .int n_nextDigit, .int n_rest])), (n_bytes_a, .inl (n_bytes_k, 900, .inl n_bytes)), (f_0, .inr (2, [.ref f_bytes_a, .ref f_starts_a, .ref f_ends_a, .int f_length, .int f_wide, .int f_high, .int f_layerCount, .int f_place])), (f_bytes_a, .inl (f_bytes_k, 900, .inl f_bytes)), (f_starts_a, .inl (f_starts_k, 3, .inl f_starts)), (f_ends_a, .inl (f_ends_k, 3, .inl f_ends))]
theorem d_Mad_decision_0 : decode b_Mad_decision 0 = .ok (.iload_n 1, 1) := by decide +kernel
theorem d_Mad_decision_1 : decode b_Mad_decision 1 = .ok (.ireturn, 1) := by decide +kernel
def q_Mad_decision (i_wanted : Int32) (i_favourite : Int32) (i_lower : Int32) (i_span : Int32)  : Option (Int32) := some (i_wanted)
abbrev rm_Mad_decision : Room := { frames := 0, cells := 0, slots := 0, locals := 0 }
set_option maxHeartbeats 4000000 in
set_option maxRecDepth 100000 in
theorem c_Mad_decision (l : Launch) (dC : Nat → ClassId) (dI : Nat → Nat → Nat) (n_0 n_digits_a : Nat) (n_digits_k : ClassId) (i_wanted : Int32) (i_favourite : Int32) (i_lower : Int32) (i_span : Int32) (n_digits : Nat → Int32) (n_digitCount : Int32) (z : Int32)  (hq : q_Mad_decision i_wanted i_favourite i_lower i_span = some z) (sz : Nat) : MetI l y_Mad_decision b_Mad_decision 5 .int TT rm_Mad_decision (dC, dI) vcl [(n_digits_k, .int)] (W_M n_0 n_digits_a n_digits_k n_digits n_digitCount) (W_M n_0 n_digits_a n_digits_k n_digits n_digitCount) [.ref n_0, .int i_wanted, .int i_favourite, .int i_lower, .int i_span] z sz := by
  refine x_ofI (by decide) (Nat.le_of_ble_eq_true rfl) ?_ sz
  intro p e s m args below meth c A Q ls hx hb hml hown hts hA hG hK hP hD hS hl hret
  have hown : s.vm.findClass R_Mad = some m.cls := hown
  have hl : lv_has ls 5 [(0, .ref n_0), (1, .int i_wanted), (2, .int i_favourite), (3, .int i_lower), (4, .int i_span)] := hl
  obtain ⟨⟨tq, hZ, hTq⟩, hN⟩ := id hG
  obtain ⟨H, hH⟩ : ∃ H, H = s.heap := ⟨_, rfl⟩
  obtain ⟨locs, hlocs⟩ : ∃ locs : List Loc, locs = [] := ⟨_, rfl⟩
  rw [← hH] at hP
  have hS : va_S A s.heap H locs := by rw [hH, hlocs]; exact hS
  suffices hgo : W p l e rm_Mad_decision s m args below meth c H locs 0 0 Q (F0 m 0 ls []) by rw [hH, hlocs] at hgo; exact hgo
  unfold q_Mad_decision at hq
  have h := hq
  refine lv_iload_n hx hb d_Mad_decision_0 rfl (lv_at hl 1 rfl) ?_
  obtain rfl := Option.some.inj h
  exact hret H locs 1 ls d_Mad_decision_1 (vp_nar_int _) hP hD hS
theorem d_Mad_grow_0 : decode b_Mad_grow 0 = .ok (.iload_n 1, 1) := by decide +kernel
theorem d_Mad_grow_1 : decode b_Mad_grow 1 = .ok (.istore_n 2, 1) := by decide +kernel
theorem d_Mad_grow_2 : decode b_Mad_grow 2 = .ok (.aload_n 0, 1) := by decide +kernel
theorem d_Mad_grow_3 : decode b_Mad_grow 3 = .ok (.getfield 15, 3) := by decide +kernel
theorem d_Mad_grow_6 : decode b_Mad_grow 6 = .ok (.iconst (1), 1) := by decide +kernel
theorem d_Mad_grow_7 : decode b_Mad_grow 7 = .ok (.isub, 1) := by decide +kernel
theorem d_Mad_grow_8 : decode b_Mad_grow 8 = .ok (.istore_n 3, 1) := by decide +kernel
theorem d_Mad_grow_9 : decode b_Mad_grow 9 = .ok (.iload_n 3, 1) := by decide +kernel
theorem d_Mad_grow_10 : decode b_Mad_grow 10 = .ok (.ifCond .lt (38), 3) := by decide +kernel
theorem d_Mad_grow_13 : decode b_Mad_grow 13 = .ok (.iload_n 2, 1) := by decide +kernel
theorem d_Mad_grow_14 : decode b_Mad_grow 14 = .ok (.ifCond .le (34), 3) := by decide +kernel
theorem d_Mad_grow_17 : decode b_Mad_grow 17 = .ok (.aload_n 0, 1) := by decide +kernel
theorem d_Mad_grow_18 : decode b_Mad_grow 18 = .ok (.getfield 9, 3) := by decide +kernel
theorem d_Mad_grow_21 : decode b_Mad_grow 21 = .ok (.iload_n 3, 1) := by decide +kernel
theorem d_Mad_grow_22 : decode b_Mad_grow 22 = .ok (.iaload, 1) := by decide +kernel
theorem d_Mad_grow_23 : decode b_Mad_grow 23 = .ok (.iload_n 2, 1) := by decide +kernel
theorem d_Mad_grow_24 : decode b_Mad_grow 24 = .ok (.iadd, 1) := by decide +kernel
theorem d_Mad_grow_25 : decode b_Mad_grow 25 = .ok (.istore 4, 2) := by decide +kernel
theorem d_Mad_grow_27 : decode b_Mad_grow 27 = .ok (.aload_n 0, 1) := by decide +kernel
theorem d_Mad_grow_28 : decode b_Mad_grow 28 = .ok (.getfield 9, 3) := by decide +kernel
theorem d_Mad_grow_31 : decode b_Mad_grow 31 = .ok (.iload_n 3, 1) := by decide +kernel
theorem d_Mad_grow_32 : decode b_Mad_grow 32 = .ok (.iload 4, 2) := by decide +kernel
theorem d_Mad_grow_34 : decode b_Mad_grow 34 = .ok (.iconst (1), 1) := by decide +kernel
theorem d_Mad_grow_35 : decode b_Mad_grow 35 = .ok (.iand, 1) := by decide +kernel
theorem d_Mad_grow_36 : decode b_Mad_grow 36 = .ok (.iastore, 1) := by decide +kernel
theorem d_Mad_grow_37 : decode b_Mad_grow 37 = .ok (.iload 4, 2) := by decide +kernel
theorem d_Mad_grow_39 : decode b_Mad_grow 39 = .ok (.iconst (1), 1) := by decide +kernel
theorem d_Mad_grow_40 : decode b_Mad_grow 40 = .ok (.ishr, 1) := by decide +kernel
theorem d_Mad_grow_41 : decode b_Mad_grow 41 = .ok (.istore_n 2, 1) := by decide +kernel
theorem d_Mad_grow_42 : decode b_Mad_grow 42 = .ok (.iinc 3 (-1), 3) := by decide +kernel
theorem d_Mad_grow_45 : decode b_Mad_grow 45 = .ok (.goto (-36), 3) := by decide +kernel
theorem d_Mad_grow_48 : decode b_Mad_grow 48 = .ok (.return_, 1) := by decide +kernel
def q_Mad_grow_9 (i_amount : Int32) (n_digitCount : Int32)  : Nat → Int32 → Int32 → (Nat → Int32) → Option ((Nat → Int32))
  | 0, _, _, _ => none
  | n + 1, x2_9, x3_9, n_digits_9 => (if x3_9 < 0 then some (n_digits_9) else (if x2_9 ≤ 0 then some (n_digits_9) else (if vpb x3_9 2464 = true then (if vpb x3_9 2464 = true then (q_Mad_grow_9 i_amount n_digitCount n (((n_digits_9 x3_9.toNatClampNeg) + x2_9) >>> ((1 : Int32) &&& 31)) (x3_9 + (-1 : Int32)) (upd n_digits_9 x3_9.toNatClampNeg (((n_digits_9 x3_9.toNatClampNeg) + x2_9) &&& (1 : Int32)))) else none) else none)))
def q_Mad_grow (i_amount : Int32) (n_digits : Nat → Int32) (n_digitCount : Int32) : Option ((Nat → Int32)) := (q_Mad_grow_9 i_amount n_digitCount  5000 i_amount (n_digitCount - (1 : Int32)) n_digits)
abbrev rm_Mad_grow : Room := { frames := 0, cells := 0, slots := 0, locals := 0 }
set_option maxHeartbeats 4000000 in
set_option maxRecDepth 100000 in
theorem c_Mad_grow (l : Launch) (dC : Nat → ClassId) (dI : Nat → Nat → Nat) (n_0 n_digits_a : Nat) (n_digits_k : ClassId) (i_amount : Int32) (n_digits : Nat → Int32) (n_digitCount : Int32) (z : (Nat → Int32))  (hq : q_Mad_grow i_amount n_digits n_digitCount = some z) (sz : Nat) : MetV l y_Mad_grow b_Mad_grow 5 TT rm_Mad_grow (dC, dI) vcl [(n_digits_k, .int)] (W_M n_0 n_digits_a n_digits_k n_digits n_digitCount) (W_M n_0 n_digits_a n_digits_k z n_digitCount) [.ref n_0, .int i_amount] sz := by
  refine x_ofV (by decide) (Nat.le_of_ble_eq_true rfl) ?_ sz
  intro p e s m args below meth c A Q ls hx hb hml hown hts hA hG hK hP hD hS hl hret
  have hown : s.vm.findClass R_Mad = some m.cls := hown
  have hl : lv_has ls 5 [(0, .ref n_0), (1, .int i_amount)] := hl
  obtain ⟨⟨tq, hZ, hTq⟩, hN⟩ := id hG
  obtain ⟨H, hH⟩ : ∃ H, H = s.heap := ⟨_, rfl⟩
  obtain ⟨locs, hlocs⟩ : ∃ locs : List Loc, locs = [] := ⟨_, rfl⟩
  rw [← hH] at hP
  have hS : va_S A s.heap H locs := by rw [hH, hlocs]; exact hS
  suffices hgo : W p l e rm_Mad_grow s m args below meth c H locs 0 0 Q (F0 m 0 ls []) by rw [hH, hlocs] at hgo; exact hgo
  unfold q_Mad_grow at hq
  have L9 : ∀ (n9 : Nat) (x2_9 : Int32) (x3_9 : Int32) (n_digits_9 : Nat → Int32) (H : Heap) (locs : List Loc) (ls : Array Slot), lv_has ls 5 [(0, .ref n_0), (2, .int x2_9), (3, .int x3_9)] → va_P (dC, dI) vcl (W_M n_0 n_digits_a n_digits_k n_digits_9 n_digitCount) H → va_D A (W_M n_0 n_digits_a n_digits_k n_digits_9 n_digitCount) → va_S A s.heap H locs → q_Mad_grow_9 i_amount n_digitCount  n9 x2_9 x3_9 n_digits_9 = some z → W p l e rm_Mad_grow s m args below meth c H locs 0 0 Q (F0 m 9 ls []) := by
    intro n9
    induction n9 with
    | zero =>
      intro x2_9 x3_9 n_digits_9 H locs ls hl hP hD hS hq
      rw [q_Mad_grow_9] at hq
      cases hq
    | succ n9 ih9 =>
      intro x2_9 x3_9 n_digits_9 H locs ls hl hP hD hS hq9
      rw [q_Mad_grow_9] at hq9
      have h := hq9
      refine lv_iload_n hx hb d_Mad_grow_9 rfl (lv_at hl 2 rfl) ?_
      refine lv_if_lt (tgt := 48) hx hb d_Mad_grow_10 rfl (fun hc => ?_) (fun hc => ?_)
      · replace h := ot hc h
        obtain rfl := Option.some.inj h
        exact hret H locs 48 ls d_Mad_grow_48 hP hD hS
      · replace h := of hc h
        refine lv_iload_n hx hb d_Mad_grow_13 rfl (lv_at hl 1 rfl) ?_
        refine lv_if_le (tgt := 48) hx hb d_Mad_grow_14 rfl (fun hc => ?_) (fun hc => ?_)
        · replace h := ot hc h
          obtain rfl := Option.some.inj h
          exact hret H locs 48 ls d_Mad_grow_48 hP hD hS
        · replace h := of hc h
          refine lv_aload_n hx hb d_Mad_grow_17 rfl (lv_at hl 0 rfl) ?_
          refine va_get (D := (dC, dI)) (ci := 3) (v := .ref n_digits_a) (C := R_Mad) (T := F_Mad) (N := 2) hx hb hts in_Mad hown hK hP 0 rfl rfl 0 (by decide) (hts _ tt185) (fun _ h9 => h9) rfl d_Mad_grow_18 ?_
          refine lv_iload_n hx hb d_Mad_grow_21 rfl (lv_at hl 2 rfl) ?_
          obtain ⟨hin, h⟩ := og h
          refine va_iald hx hb hK hP 1 0 rfl rfl (vpb_in hin) d_Mad_grow_22 ?_
          refine lv_iload_n hx hb d_Mad_grow_23 rfl (lv_at hl 1 rfl) ?_
          refine lv_iadd hx hb d_Mad_grow_24 ?_
          refine lv_istore (lv' := [(4, .int ((n_digits_9 x3_9.toNatClampNeg) + x2_9)), (0, .ref n_0), (2, .int x2_9), (3, .int x3_9)]) hx hb d_Mad_grow_25 hl (by decide) rfl (fun ls hl => ?_)
          refine lv_aload_n hx hb d_Mad_grow_27 rfl (lv_at hl 1 rfl) ?_
          refine va_get (D := (dC, dI)) (ci := 3) (v := .ref n_digits_a) (C := R_Mad) (T := F_Mad) (N := 2) hx hb hts in_Mad hown hK hP 0 rfl rfl 0 (by decide) (hts _ tt185) (fun _ h9 => h9) rfl d_Mad_grow_28 ?_
          refine lv_iload_n hx hb d_Mad_grow_31 rfl (lv_at hl 3 rfl) ?_
          refine lv_iload hx hb d_Mad_grow_32 (lv_at hl 0 rfl) ?_
          refine lv_iconst (v := (1 : Int32)) hx hb d_Mad_grow_34 (by decide) ?_
          refine lv_iand hx hb d_Mad_grow_35 ?_
          obtain ⟨hin, h⟩ := og h
          refine va_iast hx hb hK hP hD hS 1 0 rfl rfl (vpb_in hin) d_Mad_grow_36 (fun H locs hP hD hS => ?_)
          have hP : va_P (dC, dI) vcl (W_M n_0 n_digits_a n_digits_k (upd n_digits_9 x3_9.toNatClampNeg (((n_digits_9 x3_9.toNatClampNeg) + x2_9) &&& (1 : Int32))) n_digitCount) H := hP
          have hD : va_D A (W_M n_0 n_digits_a n_digits_k (upd n_digits_9 x3_9.toNatClampNeg (((n_digits_9 x3_9.toNatClampNeg) + x2_9) &&& (1 : Int32))) n_digitCount) := hD
          refine lv_iload hx hb d_Mad_grow_37 (lv_at hl 0 rfl) ?_
          refine lv_iconst (v := (1 : Int32)) hx hb d_Mad_grow_39 (by decide) ?_
          refine lv_ishr hx hb d_Mad_grow_40 ?_
          refine lv_istore_n (lv' := [(2, .int (((n_digits_9 x3_9.toNatClampNeg) + x2_9) >>> ((1 : Int32) &&& 31))), (4, .int ((n_digits_9 x3_9.toNatClampNeg) + x2_9)), (0, .ref n_0), (3, .int x3_9)]) hx hb d_Mad_grow_41 rfl hl (by decide) rfl (fun ls hl => ?_)
          refine lv_iinc (k := 3) (v := x3_9 + (-1 : Int32)) (lv' := [(3, .int (x3_9 + (-1 : Int32))), (2, .int (((n_digits_9 x3_9.toNatClampNeg) + x2_9) >>> ((1 : Int32) &&& 31))), (4, .int ((n_digits_9 x3_9.toNatClampNeg) + x2_9)), (0, .ref n_0)]) hx hb d_Mad_grow_42 hl rfl rfl (by decide) rfl (fun ls hl => ?_)
          refine lv_goto (tgt := 9) hx hb d_Mad_grow_45 rfl ?_
          exact ih9 (((n_digits_9 x3_9.toNatClampNeg) + x2_9) >>> ((1 : Int32) &&& 31)) (x3_9 + (-1 : Int32)) (upd n_digits_9 x3_9.toNatClampNeg (((n_digits_9 x3_9.toNatClampNeg) + x2_9) &&& (1 : Int32))) H locs ls (lv_sub hl [3, 1, 0] rfl) hP hD hS h
  have h := hq
  refine lv_iload_n hx hb d_Mad_grow_0 rfl (lv_at hl 1 rfl) ?_
  refine lv_istore_n (lv' := [(2, .int i_amount), (0, .ref n_0), (1, .int i_amount)]) hx hb d_Mad_grow_1 rfl hl (by decide) rfl (fun ls hl => ?_)
  refine lv_aload_n hx hb d_Mad_grow_2 rfl (lv_at hl 1 rfl) ?_
  refine va_get (D := (dC, dI)) (ci := 3) (v := .int n_digitCount) (C := R_Mad) (T := F_Mad) (N := 2) hx hb hts in_Mad hown hK hP 0 rfl rfl 1 (by decide) (hts _ tt186) (fun _ h9 => h9) rfl d_Mad_grow_3 ?_
  refine lv_iconst (v := (1 : Int32)) hx hb d_Mad_grow_6 (by decide) ?_
  refine lv_isub hx hb d_Mad_grow_7 ?_
  refine lv_istore_n (lv' := [(3, .int (n_digitCount - (1 : Int32))), (2, .int i_amount), (0, .ref n_0), (1, .int i_amount)]) hx hb d_Mad_grow_8 rfl hl (by decide) rfl (fun ls hl => ?_)
  exact L9 5000 i_amount (n_digitCount - (1 : Int32)) n_digits H locs ls (lv_sub hl [2, 1, 0] rfl) hP hD hS h
theorem d_Mad_makeDouble_0 : decode b_Mad_makeDouble 0 = .ok (.aload_n 0, 1) := by decide +kernel
theorem d_Mad_makeDouble_1 : decode b_Mad_makeDouble 1 = .ok (.getfield 15, 3) := by decide +kernel
theorem d_Mad_makeDouble_4 : decode b_Mad_makeDouble 4 = .ok (.sipush (2464), 3) := by decide +kernel
theorem d_Mad_makeDouble_7 : decode b_Mad_makeDouble 7 = .ok (.if_icmp .ge (23), 3) := by decide +kernel
theorem d_Mad_makeDouble_10 : decode b_Mad_makeDouble 10 = .ok (.aload_n 0, 1) := by decide +kernel
theorem d_Mad_makeDouble_11 : decode b_Mad_makeDouble 11 = .ok (.getfield 9, 3) := by decide +kernel
theorem d_Mad_makeDouble_14 : decode b_Mad_makeDouble 14 = .ok (.aload_n 0, 1) := by decide +kernel
theorem d_Mad_makeDouble_15 : decode b_Mad_makeDouble 15 = .ok (.getfield 15, 3) := by decide +kernel
theorem d_Mad_makeDouble_18 : decode b_Mad_makeDouble 18 = .ok (.iconst (0), 1) := by decide +kernel
theorem d_Mad_makeDouble_19 : decode b_Mad_makeDouble 19 = .ok (.iastore, 1) := by decide +kernel
theorem d_Mad_makeDouble_20 : decode b_Mad_makeDouble 20 = .ok (.aload_n 0, 1) := by decide +kernel
theorem d_Mad_makeDouble_21 : decode b_Mad_makeDouble 21 = .ok (.dup, 1) := by decide +kernel
theorem d_Mad_makeDouble_22 : decode b_Mad_makeDouble 22 = .ok (.getfield 15, 3) := by decide +kernel
theorem d_Mad_makeDouble_25 : decode b_Mad_makeDouble 25 = .ok (.iconst (1), 1) := by decide +kernel
theorem d_Mad_makeDouble_26 : decode b_Mad_makeDouble 26 = .ok (.iadd, 1) := by decide +kernel
theorem d_Mad_makeDouble_27 : decode b_Mad_makeDouble 27 = .ok (.putfield 15, 3) := by decide +kernel
theorem d_Mad_makeDouble_30 : decode b_Mad_makeDouble 30 = .ok (.return_, 1) := by decide +kernel
def q_Mad_makeDouble  (n_digits : Nat → Int32) (n_digitCount : Int32) : Option ((Nat → Int32) × Int32) := (if (2464 : Int32) ≤ n_digitCount then some (n_digits, n_digitCount) else (if vpb n_digitCount 2464 = true then some (upd n_digits n_digitCount.toNatClampNeg (0 : Int32), n_digitCount + (1 : Int32)) else none))
abbrev rm_Mad_makeDouble : Room := { frames := 0, cells := 0, slots := 0, locals := 0 }
set_option maxHeartbeats 4000000 in
set_option maxRecDepth 100000 in
theorem c_Mad_makeDouble (l : Launch) (dC : Nat → ClassId) (dI : Nat → Nat → Nat) (n_0 n_digits_a : Nat) (n_digits_k : ClassId)  (n_digits : Nat → Int32) (n_digitCount : Int32) (z : (Nat → Int32) × Int32)  (hq : q_Mad_makeDouble n_digits n_digitCount = some z) (sz : Nat) : MetV l y_Mad_makeDouble b_Mad_makeDouble 1 TT rm_Mad_makeDouble (dC, dI) vcl [(n_digits_k, .int)] (W_M n_0 n_digits_a n_digits_k n_digits n_digitCount) (W_M n_0 n_digits_a n_digits_k z.1 z.2) [.ref n_0] sz := by
  refine x_ofV (by decide) (Nat.le_of_ble_eq_true rfl) ?_ sz
  intro p e s m args below meth c A Q ls hx hb hml hown hts hA hG hK hP hD hS hl hret
  have hown : s.vm.findClass R_Mad = some m.cls := hown
  have hl : lv_has ls 1 [(0, .ref n_0)] := hl
  obtain ⟨⟨tq, hZ, hTq⟩, hN⟩ := id hG
  obtain ⟨H, hH⟩ : ∃ H, H = s.heap := ⟨_, rfl⟩
  obtain ⟨locs, hlocs⟩ : ∃ locs : List Loc, locs = [] := ⟨_, rfl⟩
  rw [← hH] at hP
  have hS : va_S A s.heap H locs := by rw [hH, hlocs]; exact hS
  suffices hgo : W p l e rm_Mad_makeDouble s m args below meth c H locs 0 0 Q (F0 m 0 ls []) by rw [hH, hlocs] at hgo; exact hgo
  unfold q_Mad_makeDouble at hq
  have h := hq
  refine lv_aload_n hx hb d_Mad_makeDouble_0 rfl (lv_at hl 0 rfl) ?_
  refine va_get (D := (dC, dI)) (ci := 3) (v := .int n_digitCount) (C := R_Mad) (T := F_Mad) (N := 2) hx hb hts in_Mad hown hK hP 0 rfl rfl 1 (by decide) (hts _ tt186) (fun _ h9 => h9) rfl d_Mad_makeDouble_1 ?_
  refine lv_sipush (v := (2464 : Int32)) hx hb d_Mad_makeDouble_4 (by decide) ?_
  refine lv_icmp_ge (tgt := 30) hx hb d_Mad_makeDouble_7 rfl (fun hc => ?_) (fun hc => ?_)
  · replace h := ot hc h
    obtain rfl := Option.some.inj h
    exact hret H locs 30 ls d_Mad_makeDouble_30 hP hD hS
  · replace h := of hc h
    refine lv_aload_n hx hb d_Mad_makeDouble_10 rfl (lv_at hl 0 rfl) ?_
    refine va_get (D := (dC, dI)) (ci := 3) (v := .ref n_digits_a) (C := R_Mad) (T := F_Mad) (N := 2) hx hb hts in_Mad hown hK hP 0 rfl rfl 0 (by decide) (hts _ tt185) (fun _ h9 => h9) rfl d_Mad_makeDouble_11 ?_
    refine lv_aload_n hx hb d_Mad_makeDouble_14 rfl (lv_at hl 0 rfl) ?_
    refine va_get (D := (dC, dI)) (ci := 3) (v := .int n_digitCount) (C := R_Mad) (T := F_Mad) (N := 2) hx hb hts in_Mad hown hK hP 0 rfl rfl 1 (by decide) (hts _ tt186) (fun _ h9 => h9) rfl d_Mad_makeDouble_15 ?_
    refine lv_iconst (v := (0 : Int32)) hx hb d_Mad_makeDouble_18 (by decide) ?_
    obtain ⟨hin, h⟩ := og h
    refine va_iast hx hb hK hP hD hS 1 0 rfl rfl (vpb_in hin) d_Mad_makeDouble_19 (fun H locs hP hD hS => ?_)
    have hP : va_P (dC, dI) vcl (W_M n_0 n_digits_a n_digits_k (upd n_digits n_digitCount.toNatClampNeg (0 : Int32)) n_digitCount) H := hP
    have hD : va_D A (W_M n_0 n_digits_a n_digits_k (upd n_digits n_digitCount.toNatClampNeg (0 : Int32)) n_digitCount) := hD
    refine lv_aload_n hx hb d_Mad_makeDouble_20 rfl (lv_at hl 0 rfl) ?_
    refine lv_dup hx hb d_Mad_makeDouble_21 rfl ?_
    refine va_get (D := (dC, dI)) (ci := 3) (v := .int n_digitCount) (C := R_Mad) (T := F_Mad) (N := 2) hx hb hts in_Mad hown hK hP 0 rfl rfl 1 (by decide) (hts _ tt186) (fun _ h9 => h9) rfl d_Mad_makeDouble_22 ?_
    refine lv_iconst (v := (1 : Int32)) hx hb d_Mad_makeDouble_25 (by decide) ?_
    refine lv_iadd hx hb d_Mad_makeDouble_26 ?_
    refine va_put (D := (dC, dI)) (ci := 3) (v := .int (n_digitCount + (1 : Int32))) (ty := .int) (C := R_Mad) (T := F_Mad) (N := 2) hx hb hts in_Mad t_Mad t_Mad_ok n_Mad hown hK hP hD hS 0 rfl rfl 1 (by decide) (hts _ tt186) (fun _ h9 => h9) rfl (by decide +kernel) rfl rfl (Nat.le_of_ble_eq_true rfl) d_Mad_makeDouble_27 (fun H locs hP hD hS => ?_)
    have hP : va_P (dC, dI) vcl (W_M n_0 n_digits_a n_digits_k (upd n_digits n_digitCount.toNatClampNeg (0 : Int32)) (n_digitCount + (1 : Int32))) H := hP
    have hD : va_D A (W_M n_0 n_digits_a n_digits_k (upd n_digits n_digitCount.toNatClampNeg (0 : Int32)) (n_digitCount + (1 : Int32))) := hD
    obtain rfl := Option.some.inj h
    exact hret H locs 30 ls d_Mad_makeDouble_30 hP hD hS
theorem d_Mad_byteCount_0 : decode b_Mad_byteCount 0 = .ok (.aload_n 0, 1) := by decide +kernel
theorem d_Mad_byteCount_1 : decode b_Mad_byteCount 1 = .ok (.getfield 15, 3) := by decide +kernel
theorem d_Mad_byteCount_4 : decode b_Mad_byteCount 4 = .ok (.iconst (1), 1) := by decide +kernel
theorem d_Mad_byteCount_5 : decode b_Mad_byteCount 5 = .ok (.isub, 1) := by decide +kernel
theorem d_Mad_byteCount_6 : decode b_Mad_byteCount 6 = .ok (.istore_n 1, 1) := by decide +kernel
theorem d_Mad_byteCount_7 : decode b_Mad_byteCount 7 = .ok (.iload_n 1, 1) := by decide +kernel
theorem d_Mad_byteCount_8 : decode b_Mad_byteCount 8 = .ok (.ifCond .lt (18), 3) := by decide +kernel
theorem d_Mad_byteCount_11 : decode b_Mad_byteCount 11 = .ok (.aload_n 0, 1) := by decide +kernel
theorem d_Mad_byteCount_12 : decode b_Mad_byteCount 12 = .ok (.getfield 9, 3) := by decide +kernel
theorem d_Mad_byteCount_15 : decode b_Mad_byteCount 15 = .ok (.iload_n 1, 1) := by decide +kernel
theorem d_Mad_byteCount_16 : decode b_Mad_byteCount 16 = .ok (.iaload, 1) := by decide +kernel
theorem d_Mad_byteCount_17 : decode b_Mad_byteCount 17 = .ok (.ifCond .ne (9), 3) := by decide +kernel
theorem d_Mad_byteCount_20 : decode b_Mad_byteCount 20 = .ok (.iinc 1 (-1), 3) := by decide +kernel
theorem d_Mad_byteCount_23 : decode b_Mad_byteCount 23 = .ok (.goto (-16), 3) := by decide +kernel
theorem d_Mad_byteCount_26 : decode b_Mad_byteCount 26 = .ok (.iload_n 1, 1) := by decide +kernel
theorem d_Mad_byteCount_27 : decode b_Mad_byteCount 27 = .ok (.bipush (8), 2) := by decide +kernel
theorem d_Mad_byteCount_29 : decode b_Mad_byteCount 29 = .ok (.iadd, 1) := by decide +kernel
theorem d_Mad_byteCount_30 : decode b_Mad_byteCount 30 = .ok (.bipush (8), 2) := by decide +kernel
theorem d_Mad_byteCount_32 : decode b_Mad_byteCount 32 = .ok (.idiv, 1) := by decide +kernel
theorem d_Mad_byteCount_33 : decode b_Mad_byteCount 33 = .ok (.ireturn, 1) := by decide +kernel
def q_Mad_byteCount_7 (n_digits : Nat → Int32) (n_digitCount : Int32)  : Nat → Int32 → Option (Int32)
  | 0, _ => none
  | n + 1, x1_7 => (if x1_7 < 0 then some ((x1_7 + (8 : Int32)) / (8 : Int32)) else (if vpb x1_7 2464 = true then (if (n_digits x1_7.toNatClampNeg) = 0 then (q_Mad_byteCount_7 n_digits n_digitCount n (x1_7 + (-1 : Int32))) else some ((x1_7 + (8 : Int32)) / (8 : Int32))) else none))
def q_Mad_byteCount  (n_digits : Nat → Int32) (n_digitCount : Int32) : Option (Int32) := (q_Mad_byteCount_7 n_digits n_digitCount  5000 (n_digitCount - (1 : Int32)))
abbrev rm_Mad_byteCount : Room := { frames := 0, cells := 0, slots := 0, locals := 0 }
set_option maxHeartbeats 4000000 in
set_option maxRecDepth 100000 in
theorem c_Mad_byteCount (l : Launch) (dC : Nat → ClassId) (dI : Nat → Nat → Nat) (n_0 n_digits_a : Nat) (n_digits_k : ClassId)  (n_digits : Nat → Int32) (n_digitCount : Int32) (z : Int32)  (hq : q_Mad_byteCount n_digits n_digitCount = some z) (sz : Nat) : MetI l y_Mad_byteCount b_Mad_byteCount 2 .int TT rm_Mad_byteCount (dC, dI) vcl [(n_digits_k, .int)] (W_M n_0 n_digits_a n_digits_k n_digits n_digitCount) (W_M n_0 n_digits_a n_digits_k n_digits n_digitCount) [.ref n_0] z sz := by
  refine x_ofI (by decide) (Nat.le_of_ble_eq_true rfl) ?_ sz
  intro p e s m args below meth c A Q ls hx hb hml hown hts hA hG hK hP hD hS hl hret
  have hown : s.vm.findClass R_Mad = some m.cls := hown
  have hl : lv_has ls 2 [(0, .ref n_0)] := hl
  obtain ⟨⟨tq, hZ, hTq⟩, hN⟩ := id hG
  obtain ⟨H, hH⟩ : ∃ H, H = s.heap := ⟨_, rfl⟩
  obtain ⟨locs, hlocs⟩ : ∃ locs : List Loc, locs = [] := ⟨_, rfl⟩
  rw [← hH] at hP
  have hS : va_S A s.heap H locs := by rw [hH, hlocs]; exact hS
  suffices hgo : W p l e rm_Mad_byteCount s m args below meth c H locs 0 0 Q (F0 m 0 ls []) by rw [hH, hlocs] at hgo; exact hgo
  unfold q_Mad_byteCount at hq
  have L7 : ∀ (n7 : Nat) (x1_7 : Int32) (H : Heap) (locs : List Loc) (ls : Array Slot), lv_has ls 2 [(0, .ref n_0), (1, .int x1_7)] → va_P (dC, dI) vcl (W_M n_0 n_digits_a n_digits_k n_digits n_digitCount) H → va_D A (W_M n_0 n_digits_a n_digits_k n_digits n_digitCount) → va_S A s.heap H locs → q_Mad_byteCount_7 n_digits n_digitCount  n7 x1_7 = some z → W p l e rm_Mad_byteCount s m args below meth c H locs 0 0 Q (F0 m 7 ls []) := by
    intro n7
    induction n7 with
    | zero =>
      intro x1_7 H locs ls hl hP hD hS hq
      rw [q_Mad_byteCount_7] at hq
      cases hq
    | succ n7 ih7 =>
      intro x1_7 H locs ls hl hP hD hS hq7
      rw [q_Mad_byteCount_7] at hq7
      have h := hq7
      refine lv_iload_n hx hb d_Mad_byteCount_7 rfl (lv_at hl 1 rfl) ?_
      refine lv_if_lt (tgt := 26) hx hb d_Mad_byteCount_8 rfl (fun hc => ?_) (fun hc => ?_)
      · replace h := ot hc h
        refine lv_iload_n hx hb d_Mad_byteCount_26 rfl (lv_at hl 1 rfl) ?_
        refine lv_bipush (v := (8 : Int32)) hx hb d_Mad_byteCount_27 (by decide) ?_
        refine lv_iadd hx hb d_Mad_byteCount_29 ?_
        refine lv_bipush (v := (8 : Int32)) hx hb d_Mad_byteCount_30 (by decide) ?_
        refine lv_idiv hx hb d_Mad_byteCount_32 (by decide) ?_
        obtain rfl := Option.some.inj h
        exact hret H locs 33 ls d_Mad_byteCount_33 (vp_nar_int _) hP hD hS
      · replace h := of hc h
        refine lv_aload_n hx hb d_Mad_byteCount_11 rfl (lv_at hl 0 rfl) ?_
        refine va_get (D := (dC, dI)) (ci := 3) (v := .ref n_digits_a) (C := R_Mad) (T := F_Mad) (N := 2) hx hb hts in_Mad hown hK hP 0 rfl rfl 0 (by decide) (hts _ tt185) (fun _ h9 => h9) rfl d_Mad_byteCount_12 ?_
        refine lv_iload_n hx hb d_Mad_byteCount_15 rfl (lv_at hl 1 rfl) ?_
        obtain ⟨hin, h⟩ := og h
        refine va_iald hx hb hK hP 1 0 rfl rfl (vpb_in hin) d_Mad_byteCount_16 ?_
        refine lv_if_ne (tgt := 26) hx hb d_Mad_byteCount_17 rfl (fun hc => ?_) (fun hc => ?_)
        · replace h := of hc h
          refine lv_iload_n hx hb d_Mad_byteCount_26 rfl (lv_at hl 1 rfl) ?_
          refine lv_bipush (v := (8 : Int32)) hx hb d_Mad_byteCount_27 (by decide) ?_
          refine lv_iadd hx hb d_Mad_byteCount_29 ?_
          refine lv_bipush (v := (8 : Int32)) hx hb d_Mad_byteCount_30 (by decide) ?_
          refine lv_idiv hx hb d_Mad_byteCount_32 (by decide) ?_
          obtain rfl := Option.some.inj h
          exact hret H locs 33 ls d_Mad_byteCount_33 (vp_nar_int _) hP hD hS
        · replace h := ot hc h
          refine lv_iinc (k := 1) (v := x1_7 + (-1 : Int32)) (lv' := [(1, .int (x1_7 + (-1 : Int32))), (0, .ref n_0)]) hx hb d_Mad_byteCount_20 hl rfl rfl (by decide) rfl (fun ls hl => ?_)
          refine lv_goto (tgt := 7) hx hb d_Mad_byteCount_23 rfl ?_
          exact ih7 (x1_7 + (-1 : Int32)) H locs ls (lv_sub hl [1, 0] rfl) hP hD hS h
  have h := hq
  refine lv_aload_n hx hb d_Mad_byteCount_0 rfl (lv_at hl 0 rfl) ?_
  refine va_get (D := (dC, dI)) (ci := 3) (v := .int n_digitCount) (C := R_Mad) (T := F_Mad) (N := 2) hx hb hts in_Mad hown hK hP 0 rfl rfl 1 (by decide) (hts _ tt186) (fun _ h9 => h9) rfl d_Mad_byteCount_1 ?_
  refine lv_iconst (v := (1 : Int32)) hx hb d_Mad_byteCount_4 (by decide) ?_
  refine lv_isub hx hb d_Mad_byteCount_5 ?_
  refine lv_istore_n (lv' := [(1, .int (n_digitCount - (1 : Int32))), (0, .ref n_0)]) hx hb d_Mad_byteCount_6 rfl hl (by decide) rfl (fun ls hl => ?_)
  exact L7 5000 (n_digitCount - (1 : Int32)) H locs ls (lv_sub hl [1, 0] rfl) hP hD hS h
theorem d_Mad_byteOfDigits_0 : decode b_Mad_byteOfDigits 0 = .ok (.iconst (0), 1) := by decide +kernel
theorem d_Mad_byteOfDigits_1 : decode b_Mad_byteOfDigits 1 = .ok (.istore_n 2, 1) := by decide +kernel
theorem d_Mad_byteOfDigits_2 : decode b_Mad_byteOfDigits 2 = .ok (.bipush (8), 2) := by decide +kernel
theorem d_Mad_byteOfDigits_4 : decode b_Mad_byteOfDigits 4 = .ok (.iload_n 1, 1) := by decide +kernel
theorem d_Mad_byteOfDigits_5 : decode b_Mad_byteOfDigits 5 = .ok (.imul, 1) := by decide +kernel
theorem d_Mad_byteOfDigits_6 : decode b_Mad_byteOfDigits 6 = .ok (.istore_n 3, 1) := by decide +kernel
theorem d_Mad_byteOfDigits_7 : decode b_Mad_byteOfDigits 7 = .ok (.iload_n 3, 1) := by decide +kernel
theorem d_Mad_byteOfDigits_8 : decode b_Mad_byteOfDigits 8 = .ok (.bipush (8), 2) := by decide +kernel
theorem d_Mad_byteOfDigits_10 : decode b_Mad_byteOfDigits 10 = .ok (.iload_n 1, 1) := by decide +kernel
theorem d_Mad_byteOfDigits_11 : decode b_Mad_byteOfDigits 11 = .ok (.imul, 1) := by decide +kernel
theorem d_Mad_byteOfDigits_12 : decode b_Mad_byteOfDigits 12 = .ok (.bipush (8), 2) := by decide +kernel
theorem d_Mad_byteOfDigits_14 : decode b_Mad_byteOfDigits 14 = .ok (.iadd, 1) := by decide +kernel
theorem d_Mad_byteOfDigits_15 : decode b_Mad_byteOfDigits 15 = .ok (.if_icmp .ge (32), 3) := by decide +kernel
theorem d_Mad_byteOfDigits_18 : decode b_Mad_byteOfDigits 18 = .ok (.iconst (2), 1) := by decide +kernel
theorem d_Mad_byteOfDigits_19 : decode b_Mad_byteOfDigits 19 = .ok (.iload_n 2, 1) := by decide +kernel
theorem d_Mad_byteOfDigits_20 : decode b_Mad_byteOfDigits 20 = .ok (.imul, 1) := by decide +kernel
theorem d_Mad_byteOfDigits_21 : decode b_Mad_byteOfDigits 21 = .ok (.iload_n 3, 1) := by decide +kernel
theorem d_Mad_byteOfDigits_22 : decode b_Mad_byteOfDigits 22 = .ok (.aload_n 0, 1) := by decide +kernel
theorem d_Mad_byteOfDigits_23 : decode b_Mad_byteOfDigits 23 = .ok (.getfield 15, 3) := by decide +kernel
theorem d_Mad_byteOfDigits_26 : decode b_Mad_byteOfDigits 26 = .ok (.if_icmp .ge (12), 3) := by decide +kernel
theorem d_Mad_byteOfDigits_29 : decode b_Mad_byteOfDigits 29 = .ok (.aload_n 0, 1) := by decide +kernel
theorem d_Mad_byteOfDigits_30 : decode b_Mad_byteOfDigits 30 = .ok (.getfield 9, 3) := by decide +kernel
theorem d_Mad_byteOfDigits_33 : decode b_Mad_byteOfDigits 33 = .ok (.iload_n 3, 1) := by decide +kernel
theorem d_Mad_byteOfDigits_34 : decode b_Mad_byteOfDigits 34 = .ok (.iaload, 1) := by decide +kernel
theorem d_Mad_byteOfDigits_35 : decode b_Mad_byteOfDigits 35 = .ok (.goto (4), 3) := by decide +kernel
theorem d_Mad_byteOfDigits_38 : decode b_Mad_byteOfDigits 38 = .ok (.iconst (0), 1) := by decide +kernel
theorem d_Mad_byteOfDigits_39 : decode b_Mad_byteOfDigits 39 = .ok (.iadd, 1) := by decide +kernel
theorem d_Mad_byteOfDigits_40 : decode b_Mad_byteOfDigits 40 = .ok (.istore_n 2, 1) := by decide +kernel
theorem d_Mad_byteOfDigits_41 : decode b_Mad_byteOfDigits 41 = .ok (.iinc 3 (1), 3) := by decide +kernel
theorem d_Mad_byteOfDigits_44 : decode b_Mad_byteOfDigits 44 = .ok (.goto (-37), 3) := by decide +kernel
theorem d_Mad_byteOfDigits_47 : decode b_Mad_byteOfDigits 47 = .ok (.iload_n 2, 1) := by decide +kernel
theorem d_Mad_byteOfDigits_48 : decode b_Mad_byteOfDigits 48 = .ok (.ireturn, 1) := by decide +kernel
def q_Mad_byteOfDigits_7 (i_index : Int32) (n_digits : Nat → Int32) (n_digitCount : Int32)  : Nat → Int32 → Int32 → Option (Int32)
  | 0, _, _ => none
  | n + 1, x2_7, x3_7 => (if (((8 : Int32) * i_index) + (8 : Int32)) ≤ x3_7 then some (x2_7) else (if n_digitCount ≤ x3_7 then (q_Mad_byteOfDigits_7 i_index n_digits n_digitCount n (((2 : Int32) * x2_7) + (0 : Int32)) (x3_7 + (1 : Int32))) else (if vpb x3_7 2464 = true then (q_Mad_byteOfDigits_7 i_index n_digits n_digitCount n (((2 : Int32) * x2_7) + (n_digits x3_7.toNatClampNeg)) (x3_7 + (1 : Int32))) else none)))
def q_Mad_byteOfDigits (i_index : Int32) (n_digits : Nat → Int32) (n_digitCount : Int32) : Option (Int32) := (q_Mad_byteOfDigits_7 i_index n_digits n_digitCount  5000 (0 : Int32) ((8 : Int32) * i_index))
abbrev rm_Mad_byteOfDigits : Room := { frames := 0, cells := 0, slots := 0, locals := 0 }
set_option maxHeartbeats 4000000 in
set_option maxRecDepth 100000 in
theorem c_Mad_byteOfDigits (l : Launch) (dC : Nat → ClassId) (dI : Nat → Nat → Nat) (n_0 n_digits_a : Nat) (n_digits_k : ClassId) (i_index : Int32) (n_digits : Nat → Int32) (n_digitCount : Int32) (z : Int32)  (hq : q_Mad_byteOfDigits i_index n_digits n_digitCount = some z) (sz : Nat) : MetI l y_Mad_byteOfDigits b_Mad_byteOfDigits 4 .int TT rm_Mad_byteOfDigits (dC, dI) vcl [(n_digits_k, .int)] (W_M n_0 n_digits_a n_digits_k n_digits n_digitCount) (W_M n_0 n_digits_a n_digits_k n_digits n_digitCount) [.ref n_0, .int i_index] z sz := by
  refine x_ofI (by decide) (Nat.le_of_ble_eq_true rfl) ?_ sz
  intro p e s m args below meth c A Q ls hx hb hml hown hts hA hG hK hP hD hS hl hret
  have hown : s.vm.findClass R_Mad = some m.cls := hown
  have hl : lv_has ls 4 [(0, .ref n_0), (1, .int i_index)] := hl
  obtain ⟨⟨tq, hZ, hTq⟩, hN⟩ := id hG
  obtain ⟨H, hH⟩ : ∃ H, H = s.heap := ⟨_, rfl⟩
  obtain ⟨locs, hlocs⟩ : ∃ locs : List Loc, locs = [] := ⟨_, rfl⟩
  rw [← hH] at hP
  have hS : va_S A s.heap H locs := by rw [hH, hlocs]; exact hS
  suffices hgo : W p l e rm_Mad_byteOfDigits s m args below meth c H locs 0 0 Q (F0 m 0 ls []) by rw [hH, hlocs] at hgo; exact hgo
  unfold q_Mad_byteOfDigits at hq
  have L7 : ∀ (n7 : Nat) (x2_7 : Int32) (x3_7 : Int32) (H : Heap) (locs : List Loc) (ls : Array Slot), lv_has ls 4 [(0, .ref n_0), (1, .int i_index), (2, .int x2_7), (3, .int x3_7)] → va_P (dC, dI) vcl (W_M n_0 n_digits_a n_digits_k n_digits n_digitCount) H → va_D A (W_M n_0 n_digits_a n_digits_k n_digits n_digitCount) → va_S A s.heap H locs → q_Mad_byteOfDigits_7 i_index n_digits n_digitCount  n7 x2_7 x3_7 = some z → W p l e rm_Mad_byteOfDigits s m args below meth c H locs 0 0 Q (F0 m 7 ls []) := by
    intro n7
    induction n7 with
    | zero =>
      intro x2_7 x3_7 H locs ls hl hP hD hS hq
      rw [q_Mad_byteOfDigits_7] at hq
      cases hq
    | succ n7 ih7 =>
      intro x2_7 x3_7 H locs ls hl hP hD hS hq7
      rw [q_Mad_byteOfDigits_7] at hq7
      have h := hq7
      refine lv_iload_n hx hb d_Mad_byteOfDigits_7 rfl (lv_at hl 3 rfl) ?_
      refine lv_bipush (v := (8 : Int32)) hx hb d_Mad_byteOfDigits_8 (by decide) ?_
      refine lv_iload_n hx hb d_Mad_byteOfDigits_10 rfl (lv_at hl 1 rfl) ?_
      refine lv_imul hx hb d_Mad_byteOfDigits_11 ?_
      refine lv_bipush (v := (8 : Int32)) hx hb d_Mad_byteOfDigits_12 (by decide) ?_
      refine lv_iadd hx hb d_Mad_byteOfDigits_14 ?_
      refine lv_icmp_ge (tgt := 47) hx hb d_Mad_byteOfDigits_15 rfl (fun hc => ?_) (fun hc => ?_)
      · replace h := ot hc h
        refine lv_iload_n hx hb d_Mad_byteOfDigits_47 rfl (lv_at hl 2 rfl) ?_
        obtain rfl := Option.some.inj h
        exact hret H locs 48 ls d_Mad_byteOfDigits_48 (vp_nar_int _) hP hD hS
      · replace h := of hc h
        refine lv_iconst (v := (2 : Int32)) hx hb d_Mad_byteOfDigits_18 (by decide) ?_
        refine lv_iload_n hx hb d_Mad_byteOfDigits_19 rfl (lv_at hl 2 rfl) ?_
        refine lv_imul hx hb d_Mad_byteOfDigits_20 ?_
        refine lv_iload_n hx hb d_Mad_byteOfDigits_21 rfl (lv_at hl 3 rfl) ?_
        refine lv_aload_n hx hb d_Mad_byteOfDigits_22 rfl (lv_at hl 0 rfl) ?_
        refine va_get (D := (dC, dI)) (ci := 3) (v := .int n_digitCount) (C := R_Mad) (T := F_Mad) (N := 2) hx hb hts in_Mad hown hK hP 0 rfl rfl 1 (by decide) (hts _ tt186) (fun _ h9 => h9) rfl d_Mad_byteOfDigits_23 ?_
        refine lv_icmp_ge (tgt := 38) hx hb d_Mad_byteOfDigits_26 rfl (fun hc => ?_) (fun hc => ?_)
        · replace h := ot hc h
          refine lv_iconst (v := (0 : Int32)) hx hb d_Mad_byteOfDigits_38 (by decide) ?_
          refine lv_iadd hx hb d_Mad_byteOfDigits_39 ?_
          refine lv_istore_n (lv' := [(2, .int (((2 : Int32) * x2_7) + (0 : Int32))), (0, .ref n_0), (1, .int i_index), (3, .int x3_7)]) hx hb d_Mad_byteOfDigits_40 rfl hl (by decide) rfl (fun ls hl => ?_)
          refine lv_iinc (k := 3) (v := x3_7 + (1 : Int32)) (lv' := [(3, .int (x3_7 + (1 : Int32))), (2, .int (((2 : Int32) * x2_7) + (0 : Int32))), (0, .ref n_0), (1, .int i_index)]) hx hb d_Mad_byteOfDigits_41 hl rfl rfl (by decide) rfl (fun ls hl => ?_)
          refine lv_goto (tgt := 7) hx hb d_Mad_byteOfDigits_44 rfl ?_
          exact ih7 (((2 : Int32) * x2_7) + (0 : Int32)) (x3_7 + (1 : Int32)) H locs ls (lv_sub hl [2, 3, 1, 0] rfl) hP hD hS h
        · replace h := of hc h
          refine lv_aload_n hx hb d_Mad_byteOfDigits_29 rfl (lv_at hl 0 rfl) ?_
          refine va_get (D := (dC, dI)) (ci := 3) (v := .ref n_digits_a) (C := R_Mad) (T := F_Mad) (N := 2) hx hb hts in_Mad hown hK hP 0 rfl rfl 0 (by decide) (hts _ tt185) (fun _ h9 => h9) rfl d_Mad_byteOfDigits_30 ?_
          refine lv_iload_n hx hb d_Mad_byteOfDigits_33 rfl (lv_at hl 3 rfl) ?_
          obtain ⟨hin, h⟩ := og h
          refine va_iald hx hb hK hP 1 0 rfl rfl (vpb_in hin) d_Mad_byteOfDigits_34 ?_
          refine lv_goto (tgt := 39) hx hb d_Mad_byteOfDigits_35 rfl ?_
          refine lv_iadd hx hb d_Mad_byteOfDigits_39 ?_
          refine lv_istore_n (lv' := [(2, .int (((2 : Int32) * x2_7) + (n_digits x3_7.toNatClampNeg))), (0, .ref n_0), (1, .int i_index), (3, .int x3_7)]) hx hb d_Mad_byteOfDigits_40 rfl hl (by decide) rfl (fun ls hl => ?_)
          refine lv_iinc (k := 3) (v := x3_7 + (1 : Int32)) (lv' := [(3, .int (x3_7 + (1 : Int32))), (2, .int (((2 : Int32) * x2_7) + (n_digits x3_7.toNatClampNeg))), (0, .ref n_0), (1, .int i_index)]) hx hb d_Mad_byteOfDigits_41 hl rfl rfl (by decide) rfl (fun ls hl => ?_)
          refine lv_goto (tgt := 7) hx hb d_Mad_byteOfDigits_44 rfl ?_
          exact ih7 (((2 : Int32) * x2_7) + (n_digits x3_7.toNatClampNeg)) (x3_7 + (1 : Int32)) H locs ls (lv_sub hl [2, 3, 1, 0] rfl) hP hD hS h
  have h := hq
  refine lv_iconst (v := (0 : Int32)) hx hb d_Mad_byteOfDigits_0 (by decide) ?_
  refine lv_istore_n (lv' := [(2, .int (0 : Int32)), (0, .ref n_0), (1, .int i_index)]) hx hb d_Mad_byteOfDigits_1 rfl hl (by decide) rfl (fun ls hl => ?_)
  refine lv_bipush (v := (8 : Int32)) hx hb d_Mad_byteOfDigits_2 (by decide) ?_
  refine lv_iload_n hx hb d_Mad_byteOfDigits_4 rfl (lv_at hl 2 rfl) ?_
  refine lv_imul hx hb d_Mad_byteOfDigits_5 ?_
  refine lv_istore_n (lv' := [(3, .int ((8 : Int32) * i_index)), (2, .int (0 : Int32)), (0, .ref n_0), (1, .int i_index)]) hx hb d_Mad_byteOfDigits_6 rfl hl (by decide) rfl (fun ls hl => ?_)
  exact L7 5000 (0 : Int32) ((8 : Int32) * i_index) H locs ls (lv_sub hl [2, 3, 1, 0] rfl) hP hD hS h
theorem d_Mad_appendTo_0 : decode b_Mad_appendTo 0 = .ok (.aload_n 0, 1) := by decide +kernel
theorem d_Mad_appendTo_1 : decode b_Mad_appendTo 1 = .ok (.invokevirtual 25, 3) := by decide +kernel
theorem d_Mad_appendTo_4 : decode b_Mad_appendTo 4 = .ok (.istore_n 2, 1) := by decide +kernel
theorem d_Mad_appendTo_5 : decode b_Mad_appendTo 5 = .ok (.iconst (0), 1) := by decide +kernel
theorem d_Mad_appendTo_6 : decode b_Mad_appendTo 6 = .ok (.istore_n 3, 1) := by decide +kernel
theorem d_Mad_appendTo_7 : decode b_Mad_appendTo 7 = .ok (.iload_n 3, 1) := by decide +kernel
theorem d_Mad_appendTo_8 : decode b_Mad_appendTo 8 = .ok (.iload_n 2, 1) := by decide +kernel
theorem d_Mad_appendTo_9 : decode b_Mad_appendTo 9 = .ok (.if_icmp .ge (35), 3) := by decide +kernel
theorem d_Mad_appendTo_12 : decode b_Mad_appendTo 12 = .ok (.aload_n 0, 1) := by decide +kernel
theorem d_Mad_appendTo_13 : decode b_Mad_appendTo 13 = .ok (.iload_n 3, 1) := by decide +kernel
theorem d_Mad_appendTo_14 : decode b_Mad_appendTo 14 = .ok (.invokevirtual 29, 3) := by decide +kernel
theorem d_Mad_appendTo_17 : decode b_Mad_appendTo 17 = .ok (.istore 4, 2) := by decide +kernel
theorem d_Mad_appendTo_19 : decode b_Mad_appendTo 19 = .ok (.aload_n 1, 1) := by decide +kernel
theorem d_Mad_appendTo_20 : decode b_Mad_appendTo 20 = .ok (.iload 4, 2) := by decide +kernel
theorem d_Mad_appendTo_22 : decode b_Mad_appendTo 22 = .ok (.invokevirtual 33, 3) := by decide +kernel
theorem d_Mad_appendTo_25 : decode b_Mad_appendTo 25 = .ok (.iload 4, 2) := by decide +kernel
theorem d_Mad_appendTo_27 : decode b_Mad_appendTo 27 = .ok (.sipush (255), 3) := by decide +kernel
theorem d_Mad_appendTo_30 : decode b_Mad_appendTo 30 = .ok (.if_icmp .ne (8), 3) := by decide +kernel
theorem d_Mad_appendTo_33 : decode b_Mad_appendTo 33 = .ok (.aload_n 1, 1) := by decide +kernel
theorem d_Mad_appendTo_34 : decode b_Mad_appendTo 34 = .ok (.iconst (0), 1) := by decide +kernel
theorem d_Mad_appendTo_35 : decode b_Mad_appendTo 35 = .ok (.invokevirtual 33, 3) := by decide +kernel
theorem d_Mad_appendTo_38 : decode b_Mad_appendTo 38 = .ok (.iinc 3 (1), 3) := by decide +kernel
theorem d_Mad_appendTo_41 : decode b_Mad_appendTo 41 = .ok (.goto (-34), 3) := by decide +kernel
theorem d_Mad_appendTo_44 : decode b_Mad_appendTo 44 = .ok (.return_, 1) := by decide +kernel
def q_Mad_appendTo_7 (n_digits : Nat → Int32) (n_digitCount : Int32)  : Nat → Int32 → Int32 → (Nat → Int32) → Int32 → Option ((Nat → Int32) × Int32)
  | 0, _, _, _, _ => none
  | n + 1, x2_7, x3_7, f_bytes_7, f_length_7 => (if x2_7 ≤ x3_7 then some (f_bytes_7, f_length_7) else ((q_Mad_byteOfDigits x3_7 n_digits n_digitCount).bind fun z1 => ((q_Fil_append z1 f_bytes_7 f_length_7).bind fun z2 => (if z1 = (255 : Int32) then ((q_Fil_append (0 : Int32) z2.1 z2.2).bind fun z3 => (q_Mad_appendTo_7 n_digits n_digitCount n x2_7 (x3_7 + (1 : Int32)) z3.1 z3.2)) else (q_Mad_appendTo_7 n_digits n_digitCount n x2_7 (x3_7 + (1 : Int32)) z2.1 z2.2)))))
def q_Mad_appendTo  (n_digits : Nat → Int32) (n_digitCount : Int32) (f_bytes : Nat → Int32) (f_length : Int32) : Option ((Nat → Int32) × Int32) := ((q_Mad_byteCount n_digits n_digitCount).bind fun z4 => (q_Mad_appendTo_7 n_digits n_digitCount  5000 z4 (0 : Int32) f_bytes f_length))
abbrev rm_Mad_appendTo : Room := { frames := 1, cells := 0, slots := 0, locals := 23 }
set_option maxHeartbeats 4000000 in
set_option maxRecDepth 100000 in
theorem c_Mad_appendTo (l : Launch) (dC : Nat → ClassId) (dI : Nat → Nat → Nat) (n_0 n_digits_a f_0 f_bytes_a f_starts_a f_ends_a : Nat) (n_digits_k f_bytes_k f_starts_k f_ends_k : ClassId)  (n_digits : Nat → Int32) (n_digitCount : Int32) (f_bytes : Nat → Int32) (f_starts : Nat → Int32) (f_ends : Nat → Int32) (f_length : Int32) (f_wide : Int32) (f_high : Int32) (f_layerCount : Int32) (f_place : Int32) (z : (Nat → Int32) × Int32)  (hq : q_Mad_appendTo n_digits n_digitCount f_bytes f_length = some z) (sz : Nat) : MetV l y_Mad_appendTo b_Mad_appendTo 5 TT rm_Mad_appendTo (dC, dI) vcl [(n_digits_k, .int), (f_bytes_k, .int), (f_starts_k, .int), (f_ends_k, .int)] (W_MF n_0 n_digits_a f_0 f_bytes_a f_starts_a f_ends_a n_digits_k f_bytes_k f_starts_k f_ends_k n_digits n_digitCount f_bytes f_starts f_ends f_length f_wide f_high f_layerCount f_place) (W_MF n_0 n_digits_a f_0 f_bytes_a f_starts_a f_ends_a n_digits_k f_bytes_k f_starts_k f_ends_k n_digits n_digitCount z.1 f_starts f_ends z.2 f_wide f_high f_layerCount f_place) [.ref n_0, .ref f_0] sz := by
  refine x_ofV (by decide) (Nat.le_of_ble_eq_true rfl) ?_ sz
  intro p e s m args below meth c A Q ls hx hb hml hown hts hA hG hK hP hD hS hl hret
  have hown : s.vm.findClass R_Mad = some m.cls := hown
  have hl : lv_has ls 5 [(0, .ref n_0), (1, .ref f_0)] := hl
  obtain ⟨⟨tq, hZ, hTq⟩, hN⟩ := id hG
  obtain ⟨H, hH⟩ : ∃ H, H = s.heap := ⟨_, rfl⟩
  obtain ⟨locs, hlocs⟩ : ∃ locs : List Loc, locs = [] := ⟨_, rfl⟩
  rw [← hH] at hP
  have hS : va_S A s.heap H locs := by rw [hH, hlocs]; exact hS
  suffices hgo : W p l e rm_Mad_appendTo s m args below meth c H locs 0 0 Q (F0 m 0 ls []) by rw [hH, hlocs] at hgo; exact hgo
  unfold q_Mad_appendTo at hq
  have L7 : ∀ (n7 : Nat) (x2_7 : Int32) (x3_7 : Int32) (f_bytes_7 : Nat → Int32) (f_length_7 : Int32) (H : Heap) (locs : List Loc) (ls : Array Slot), lv_has ls 5 [(0, .ref n_0), (1, .ref f_0), (2, .int x2_7), (3, .int x3_7)] → va_P (dC, dI) vcl (W_MF n_0 n_digits_a f_0 f_bytes_a f_starts_a f_ends_a n_digits_k f_bytes_k f_starts_k f_ends_k n_digits n_digitCount f_bytes_7 f_starts f_ends f_length_7 f_wide f_high f_layerCount f_place) H → va_D A (W_MF n_0 n_digits_a f_0 f_bytes_a f_starts_a f_ends_a n_digits_k f_bytes_k f_starts_k f_ends_k n_digits n_digitCount f_bytes_7 f_starts f_ends f_length_7 f_wide f_high f_layerCount f_place) → va_S A s.heap H locs → q_Mad_appendTo_7 n_digits n_digitCount  n7 x2_7 x3_7 f_bytes_7 f_length_7 = some z → W p l e rm_Mad_appendTo s m args below meth c H locs 0 0 Q (F0 m 7 ls []) := by
    intro n7
    induction n7 with
    | zero =>
      intro x2_7 x3_7 f_bytes_7 f_length_7 H locs ls hl hP hD hS hq
      rw [q_Mad_appendTo_7] at hq
      cases hq
    | succ n7 ih7 =>
      intro x2_7 x3_7 f_bytes_7 f_length_7 H locs ls hl hP hD hS hq7
      rw [q_Mad_appendTo_7] at hq7
      have h := hq7
      refine lv_iload_n hx hb d_Mad_appendTo_7 rfl (lv_at hl 3 rfl) ?_
      refine lv_iload_n hx hb d_Mad_appendTo_8 rfl (lv_at hl 2 rfl) ?_
      refine lv_icmp_ge (tgt := 44) hx hb d_Mad_appendTo_9 rfl (fun hc => ?_) (fun hc => ?_)
      · replace h := ot hc h
        obtain rfl := Option.some.inj h
        exact hret H locs 44 ls d_Mad_appendTo_44 hP hD hS
      · replace h := of hc h
        refine lv_aload_n hx hb d_Mad_appendTo_12 rfl (lv_at hl 0 rfl) ?_
        refine lv_iload_n hx hb d_Mad_appendTo_13 rfl (lv_at hl 3 rfl) ?_
        obtain ⟨z1, hz1, h⟩ := ob h
        refine x_goI (res := z1) (w1 := (W_M n_0 n_digits_a n_digits_k n_digits n_digitCount)) (ws' := (W_MF n_0 n_digits_a f_0 f_bytes_a f_starts_a f_ends_a n_digits_k f_bytes_k f_starts_k f_ends_k n_digits n_digitCount f_bytes_7 f_starts f_ends f_length_7 f_wide f_high f_layerCount f_place)) (wr := List.filterMap (fun (i : Nat) => (W_MF n_0 n_digits_a f_0 f_bytes_a f_starts_a f_ends_a n_digits_k f_bytes_k f_starts_k f_ends_k n_digits n_digitCount f_bytes_7 f_starts f_ends f_length_7 f_wide f_high f_layerCount f_place)[i]?) ([2, 3, 4, 5] : List Nat)) (va_runV (As := [.int x3_7]) (rest := []) ⟨hx, hb, hml, hown, hts⟩ (c_Mad_byteOfDigits l dC dI n_0 n_digits_a n_digits_k x3_7 n_digits n_digitCount z1  hz1 H.size) ⟨callB_of 1 hts (gT tt520 TT_good) rfl rfl rfl (hts _ tt51) (hts _ tt517) (by decide +kernel) ⟨Nat.le_of_ble_eq_true rfl, Nat.le_of_ble_eq_true rfl⟩, hts _ tt519, hts _ tt12⟩ (x_preV (q := (R_Mad, F_Mad, 2)) (As := [.int x3_7]) (x_pre (wc := (W_M n_0 n_digits_a n_digits_k n_digits n_digitCount)) (av := (.ref n_0 :: [.int x3_7])) hK hP hD hS hA hG [0] [0, 1] rfl rfl (by decide)) hK hP (q0 := 0) rfl rfl) rfl rfl hl.1 rfl (lv_room (Nat.le_of_ble_eq_true rfl)) d_Mad_appendTo_14 ⟨Nat.zero_le _, Nat.zero_le _⟩) hP hD hS hA [0, 1] [2, 3, 4, 5] [4, 5, 0, 1, 2, 3] rfl rfl (by decide) (by decide) (by decide) rfl (fun H locs hP hD hS => ?_)
        refine lv_istore (lv' := [(4, .int z1), (0, .ref n_0), (1, .ref f_0), (2, .int x2_7), (3, .int x3_7)]) hx hb d_Mad_appendTo_17 hl (by decide) rfl (fun ls hl => ?_)
        refine lv_aload_n hx hb d_Mad_appendTo_19 rfl (lv_at hl 2 rfl) ?_
        refine lv_iload hx hb d_Mad_appendTo_20 (lv_at hl 0 rfl) ?_
        obtain ⟨z2, hz2, h⟩ := ob h
        refine x_goV (w1 := (W_F f_0 f_bytes_a f_starts_a f_ends_a f_bytes_k f_starts_k f_ends_k z2.1 f_starts f_ends z2.2 f_wide f_high f_layerCount f_place)) (ws' := (W_MF n_0 n_digits_a f_0 f_bytes_a f_starts_a f_ends_a n_digits_k f_bytes_k f_starts_k f_ends_k n_digits n_digitCount z2.1 f_starts f_ends z2.2 f_wide f_high f_layerCount f_place)) (wr := List.filterMap (fun (i : Nat) => (W_MF n_0 n_digits_a f_0 f_bytes_a f_starts_a f_ends_a n_digits_k f_bytes_k f_starts_k f_ends_k n_digits n_digitCount f_bytes_7 f_starts f_ends f_length_7 f_wide f_high f_layerCount f_place)[i]?) ([0, 1] : List Nat)) (va_runV (As := [.int z1]) (rest := []) ⟨hx, hb, hml, hown, hts⟩ (c_Fil_append l dC dI f_0 f_bytes_a f_starts_a f_ends_a f_bytes_k f_starts_k f_ends_k z1 f_bytes_7 f_starts f_ends f_length_7 f_wide f_high f_layerCount f_place z2  hz2 H.size) ⟨callB_of 1 hts (gT tt415 TT_good) rfl rfl rfl (hts _ tt47) (hts _ tt521) (by decide +kernel) ⟨Nat.le_of_ble_eq_true rfl, Nat.le_of_ble_eq_true rfl⟩, hts _ tt413, hts _ tt414⟩ (x_preV (q := (R_Fil, F_Fil, 8)) (As := [.int z1]) (x_pre (wc := (W_F f_0 f_bytes_a f_starts_a f_ends_a f_bytes_k f_starts_k f_ends_k f_bytes_7 f_starts f_ends f_length_7 f_wide f_high f_layerCount f_place)) (av := (.ref f_0 :: [.int z1])) hK hP hD hS hA hG [1, 2, 3] [2, 3, 4, 5] rfl rfl (by decide)) hK hP (q0 := 2) rfl rfl) rfl rfl hl.1 rfl (lv_room (Nat.le_of_ble_eq_true rfl)) d_Mad_appendTo_22 ⟨Nat.zero_le _, Nat.zero_le _⟩) hP hD hS hA [2, 3, 4, 5] [0, 1] [0, 1, 2, 3, 4, 5] rfl rfl (by decide) (by decide) (by decide) rfl (fun H locs hP hD hS => ?_)
        refine lv_iload hx hb d_Mad_appendTo_25 (lv_at hl 0 rfl) ?_
        refine lv_sipush (v := (255 : Int32)) hx hb d_Mad_appendTo_27 (by decide) ?_
        refine lv_icmp_ne (tgt := 38) hx hb d_Mad_appendTo_30 rfl (fun hc => ?_) (fun hc => ?_)
        · replace h := of hc h
          refine lv_iinc (k := 4) (v := x3_7 + (1 : Int32)) (lv' := [(3, .int (x3_7 + (1 : Int32))), (4, .int z1), (0, .ref n_0), (1, .ref f_0), (2, .int x2_7)]) hx hb d_Mad_appendTo_38 hl rfl rfl (by decide) rfl (fun ls hl => ?_)
          refine lv_goto (tgt := 7) hx hb d_Mad_appendTo_41 rfl ?_
          exact ih7 x2_7 (x3_7 + (1 : Int32)) z2.1 z2.2 H locs ls (lv_sub hl [2, 3, 4, 0] rfl) hP hD hS h
        · replace h := ot hc h
          refine lv_aload_n hx hb d_Mad_appendTo_33 rfl (lv_at hl 2 rfl) ?_
          refine lv_iconst (v := (0 : Int32)) hx hb d_Mad_appendTo_34 (by decide) ?_
          obtain ⟨z3, hz3, h⟩ := ob h
          refine x_goV (w1 := (W_F f_0 f_bytes_a f_starts_a f_ends_a f_bytes_k f_starts_k f_ends_k z3.1 f_starts f_ends z3.2 f_wide f_high f_layerCount f_place)) (ws' := (W_MF n_0 n_digits_a f_0 f_bytes_a f_starts_a f_ends_a n_digits_k f_bytes_k f_starts_k f_ends_k n_digits n_digitCount z3.1 f_starts f_ends z3.2 f_wide f_high f_layerCount f_place)) (wr := List.filterMap (fun (i : Nat) => (W_MF n_0 n_digits_a f_0 f_bytes_a f_starts_a f_ends_a n_digits_k f_bytes_k f_starts_k f_ends_k n_digits n_digitCount z2.1 f_starts f_ends z2.2 f_wide f_high f_layerCount f_place)[i]?) ([0, 1] : List Nat)) (va_runV (As := [.int (0 : Int32)]) (rest := []) ⟨hx, hb, hml, hown, hts⟩ (c_Fil_append l dC dI f_0 f_bytes_a f_starts_a f_ends_a f_bytes_k f_starts_k f_ends_k (0 : Int32) z2.1 f_starts f_ends z2.2 f_wide f_high f_layerCount f_place z3  hz3 H.size) ⟨callB_of 1 hts (gT tt415 TT_good) rfl rfl rfl (hts _ tt47) (hts _ tt521) (by decide +kernel) ⟨Nat.le_of_ble_eq_true rfl, Nat.le_of_ble_eq_true rfl⟩, hts _ tt413, hts _ tt414⟩ (x_preV (q := (R_Fil, F_Fil, 8)) (As := [.int (0 : Int32)]) (x_pre (wc := (W_F f_0 f_bytes_a f_starts_a f_ends_a f_bytes_k f_starts_k f_ends_k z2.1 f_starts f_ends z2.2 f_wide f_high f_layerCount f_place)) (av := (.ref f_0 :: [.int (0 : Int32)])) hK hP hD hS hA hG [1, 2, 3] [2, 3, 4, 5] rfl rfl (by decide)) hK hP (q0 := 2) rfl rfl) rfl rfl hl.1 rfl (lv_room (Nat.le_of_ble_eq_true rfl)) d_Mad_appendTo_35 ⟨Nat.zero_le _, Nat.zero_le _⟩) hP hD hS hA [2, 3, 4, 5] [0, 1] [0, 1, 2, 3, 4, 5] rfl rfl (by decide) (by decide) (by decide) rfl (fun H locs hP hD hS => ?_)
          refine lv_iinc (k := 4) (v := x3_7 + (1 : Int32)) (lv' := [(3, .int (x3_7 + (1 : Int32))), (4, .int z1), (0, .ref n_0), (1, .ref f_0), (2, .int x2_7)]) hx hb d_Mad_appendTo_38 hl rfl rfl (by decide) rfl (fun ls hl => ?_)
          refine lv_goto (tgt := 7) hx hb d_Mad_appendTo_41 rfl ?_
          exact ih7 x2_7 (x3_7 + (1 : Int32)) z3.1 z3.2 H locs ls (lv_sub hl [2, 3, 4, 0] rfl) hP hD hS h
  have h := hq
  refine lv_aload_n hx hb d_Mad_appendTo_0 rfl (lv_at hl 0 rfl) ?_
  obtain ⟨z4, hz4, h⟩ := ob h
  refine x_goI (res := z4) (w1 := (W_M n_0 n_digits_a n_digits_k n_digits n_digitCount)) (ws' := (W_MF n_0 n_digits_a f_0 f_bytes_a f_starts_a f_ends_a n_digits_k f_bytes_k f_starts_k f_ends_k n_digits n_digitCount f_bytes f_starts f_ends f_length f_wide f_high f_layerCount f_place)) (wr := List.filterMap (fun (i : Nat) => (W_MF n_0 n_digits_a f_0 f_bytes_a f_starts_a f_ends_a n_digits_k f_bytes_k f_starts_k f_ends_k n_digits n_digitCount f_bytes f_starts f_ends f_length f_wide f_high f_layerCount f_place)[i]?) ([2, 3, 4, 5] : List Nat)) (va_runV (As := []) (rest := []) ⟨hx, hb, hml, hown, hts⟩ (c_Mad_byteCount l dC dI n_0 n_digits_a n_digits_k  n_digits n_digitCount z4  hz4 H.size) ⟨callB_of 0 hts (gT tt516 TT_good) rfl rfl rfl (hts _ tt51) (hts _ tt513) (by decide +kernel) ⟨Nat.le_of_ble_eq_true rfl, Nat.le_of_ble_eq_true rfl⟩, hts _ tt515, hts _ tt11⟩ (x_preV (q := (R_Mad, F_Mad, 2)) (As := []) (x_pre (wc := (W_M n_0 n_digits_a n_digits_k n_digits n_digitCount)) (av := (.ref n_0 :: [])) hK hP hD hS hA hG [0] [0, 1] rfl rfl (by decide)) hK hP (q0 := 0) rfl rfl) rfl rfl hl.1 rfl (lv_room (Nat.le_of_ble_eq_true rfl)) d_Mad_appendTo_1 ⟨Nat.zero_le _, Nat.zero_le _⟩) hP hD hS hA [0, 1] [2, 3, 4, 5] [4, 5, 0, 1, 2, 3] rfl rfl (by decide) (by decide) (by decide) rfl (fun H locs hP hD hS => ?_)
  refine lv_istore_n (lv' := [(2, .int z4), (0, .ref n_0), (1, .ref f_0)]) hx hb d_Mad_appendTo_4 rfl hl (by decide) rfl (fun ls hl => ?_)
  refine lv_iconst (v := (0 : Int32)) hx hb d_Mad_appendTo_5 (by decide) ?_
  refine lv_istore_n (lv' := [(3, .int (0 : Int32)), (2, .int z4), (0, .ref n_0), (1, .ref f_0)]) hx hb d_Mad_appendTo_6 rfl hl (by decide) rfl (fun ls hl => ?_)
  exact L7 5000 z4 (0 : Int32) f_bytes f_length H locs ls (lv_sub hl [2, 3, 1, 0] rfl) hP hD hS h
theorem d_Tak_decision_0 : decode b_Tak_decision 0 = .ok (.aload_n 0, 1) := by decide +kernel
theorem d_Tak_decision_1 : decode b_Tak_decision 1 = .ok (.getfield 22, 3) := by decide +kernel
theorem d_Tak_decision_4 : decode b_Tak_decision 4 = .ok (.iload 4, 2) := by decide +kernel
theorem d_Tak_decision_6 : decode b_Tak_decision 6 = .ok (.if_icmp .ge (7), 3) := by decide +kernel
theorem d_Tak_decision_9 : decode b_Tak_decision 9 = .ok (.iconst (1), 1) := by decide +kernel
theorem d_Tak_decision_10 : decode b_Tak_decision 10 = .ok (.goto (4), 3) := by decide +kernel
theorem d_Tak_decision_13 : decode b_Tak_decision 13 = .ok (.iconst (0), 1) := by decide +kernel
theorem d_Tak_decision_14 : decode b_Tak_decision 14 = .ok (.istore 5, 2) := by decide +kernel
theorem d_Tak_decision_16 : decode b_Tak_decision 16 = .ok (.iload 5, 2) := by decide +kernel
theorem d_Tak_decision_18 : decode b_Tak_decision 18 = .ok (.iload_n 3, 1) := by decide +kernel
theorem d_Tak_decision_19 : decode b_Tak_decision 19 = .ok (.if_icmp .ne (7), 3) := by decide +kernel
theorem d_Tak_decision_22 : decode b_Tak_decision 22 = .ok (.iload_n 2, 1) := by decide +kernel
theorem d_Tak_decision_23 : decode b_Tak_decision 23 = .ok (.goto (6), 3) := by decide +kernel
theorem d_Tak_decision_26 : decode b_Tak_decision 26 = .ok (.iconst (1), 1) := by decide +kernel
theorem d_Tak_decision_27 : decode b_Tak_decision 27 = .ok (.iload_n 2, 1) := by decide +kernel
theorem d_Tak_decision_28 : decode b_Tak_decision 28 = .ok (.isub, 1) := by decide +kernel
theorem d_Tak_decision_29 : decode b_Tak_decision 29 = .ok (.ireturn, 1) := by decide +kernel
def q_Tak_decision_14 (i_wanted : Int32) (i_favourite : Int32) (i_lower : Int32) (i_span : Int32) (n_rest : Int32)  (k0_14 : Int32) : Option (Int32) := (if k0_14 = i_lower then some (i_favourite) else some ((1 : Int32) - i_favourite))
def q_Tak_decision (i_wanted : Int32) (i_favourite : Int32) (i_lower : Int32) (i_span : Int32) (n_rest : Int32) : Option (Int32) := (if i_span ≤ n_rest then (q_Tak_decision_14 i_wanted i_favourite i_lower i_span n_rest  (0 : Int32)) else (q_Tak_decision_14 i_wanted i_favourite i_lower i_span n_rest  (1 : Int32)))
abbrev rm_Tak_decision : Room := { frames := 0, cells := 0, slots := 0, locals := 0 }
set_option maxHeartbeats 4000000 in
set_option maxRecDepth 100000 in
theorem c_Tak_decision (l : Launch) (dC : Nat → ClassId) (dI : Nat → Nat → Nat) (n_0 n_bytes_a : Nat) (n_bytes_k : ClassId) (i_wanted : Int32) (i_favourite : Int32) (i_lower : Int32) (i_span : Int32) (n_bytes : Nat → Int32) (n_byteCount : Int32) (n_nextDigit : Int32) (n_rest : Int32) (z : Int32)  (hq : q_Tak_decision i_wanted i_favourite i_lower i_span n_rest = some z) (sz : Nat) : MetI l y_Tak_decision b_Tak_decision 6 .int TT rm_Tak_decision (dC, dI) vcl [(n_bytes_k, .int)] (W_T n_0 n_bytes_a n_bytes_k n_bytes n_byteCount n_nextDigit n_rest) (W_T n_0 n_bytes_a n_bytes_k n_bytes n_byteCount n_nextDigit n_rest) [.ref n_0, .int i_wanted, .int i_favourite, .int i_lower, .int i_span] z sz := by
  refine x_ofI (by decide) (Nat.le_of_ble_eq_true rfl) ?_ sz
  intro p e s m args below meth c A Q ls hx hb hml hown hts hA hG hK hP hD hS hl hret
  have hown : s.vm.findClass R_Tak = some m.cls := hown
  have hl : lv_has ls 6 [(0, .ref n_0), (1, .int i_wanted), (2, .int i_favourite), (3, .int i_lower), (4, .int i_span)] := hl
  obtain ⟨⟨tq, hZ, hTq⟩, hN⟩ := id hG
  obtain ⟨H, hH⟩ : ∃ H, H = s.heap := ⟨_, rfl⟩
  obtain ⟨locs, hlocs⟩ : ∃ locs : List Loc, locs = [] := ⟨_, rfl⟩
  rw [← hH] at hP
  have hS : va_S A s.heap H locs := by rw [hH, hlocs]; exact hS
  suffices hgo : W p l e rm_Tak_decision s m args below meth c H locs 0 0 Q (F0 m 0 ls []) by rw [hH, hlocs] at hgo; exact hgo
  unfold q_Tak_decision at hq
  have L14 : ∀ (k0_14 : Int32) (H : Heap) (locs : List Loc) (ls : Array Slot), lv_has ls 6 [(2, .int i_favourite), (3, .int i_lower)] → va_P (dC, dI) vcl (W_T n_0 n_bytes_a n_bytes_k n_bytes n_byteCount n_nextDigit n_rest) H → va_D A (W_T n_0 n_bytes_a n_bytes_k n_bytes n_byteCount n_nextDigit n_rest) → va_S A s.heap H locs → q_Tak_decision_14 i_wanted i_favourite i_lower i_span n_rest  k0_14 = some z → W p l e rm_Tak_decision s m args below meth c H locs 0 0 Q (F0 m 14 ls [.int k0_14]) := by
    intro k0_14 H locs ls hl hP hD hS hq14
    unfold q_Tak_decision_14 at hq14
    have h := hq14
    refine lv_istore (lv' := [(5, .int k0_14), (2, .int i_favourite), (3, .int i_lower)]) hx hb d_Tak_decision_14 hl (by decide) rfl (fun ls hl => ?_)
    refine lv_iload hx hb d_Tak_decision_16 (lv_at hl 0 rfl) ?_
    refine lv_iload_n hx hb d_Tak_decision_18 rfl (lv_at hl 2 rfl) ?_
    refine lv_icmp_ne (tgt := 26) hx hb d_Tak_decision_19 rfl (fun hc => ?_) (fun hc => ?_)
    · replace h := of hc h
      refine lv_iconst (v := (1 : Int32)) hx hb d_Tak_decision_26 (by decide) ?_
      refine lv_iload_n hx hb d_Tak_decision_27 rfl (lv_at hl 1 rfl) ?_
      refine lv_isub hx hb d_Tak_decision_28 ?_
      obtain rfl := Option.some.inj h
      exact hret H locs 29 ls d_Tak_decision_29 (vp_nar_int _) hP hD hS
    · replace h := ot hc h
      refine lv_iload_n hx hb d_Tak_decision_22 rfl (lv_at hl 1 rfl) ?_
      refine lv_goto (tgt := 29) hx hb d_Tak_decision_23 rfl ?_
      obtain rfl := Option.some.inj h
      exact hret H locs 29 ls d_Tak_decision_29 (vp_nar_int _) hP hD hS
  have h := hq
  refine lv_aload_n hx hb d_Tak_decision_0 rfl (lv_at hl 0 rfl) ?_
  refine va_get (D := (dC, dI)) (ci := 5) (v := .int n_rest) (C := R_Tak) (T := F_Tak) (N := 4) hx hb hts in_Tak hown hK hP 0 rfl rfl 3 (by decide) (hts _ tt201) (fun _ h9 => h9) rfl d_Tak_decision_1 ?_
  refine lv_iload hx hb d_Tak_decision_4 (lv_at hl 4 rfl) ?_
  refine lv_icmp_ge (tgt := 13) hx hb d_Tak_decision_6 rfl (fun hc => ?_) (fun hc => ?_)
  · replace h := ot hc h
    refine lv_iconst (v := (0 : Int32)) hx hb d_Tak_decision_13 (by decide) ?_
    exact L14 (0 : Int32) H locs ls (lv_sub hl [2, 3] rfl) hP hD hS h
  · replace h := of hc h
    refine lv_iconst (v := (1 : Int32)) hx hb d_Tak_decision_9 (by decide) ?_
    refine lv_goto (tgt := 14) hx hb d_Tak_decision_10 rfl ?_
    exact L14 (1 : Int32) H locs ls (lv_sub hl [2, 3] rfl) hP hD hS h
theorem d_Tak_grow_0 : decode b_Tak_grow 0 = .ok (.aload_n 0, 1) := by decide +kernel
theorem d_Tak_grow_1 : decode b_Tak_grow 1 = .ok (.dup, 1) := by decide +kernel
theorem d_Tak_grow_2 : decode b_Tak_grow 2 = .ok (.getfield 22, 3) := by decide +kernel
theorem d_Tak_grow_5 : decode b_Tak_grow 5 = .ok (.iload_n 1, 1) := by decide +kernel
theorem d_Tak_grow_6 : decode b_Tak_grow 6 = .ok (.isub, 1) := by decide +kernel
theorem d_Tak_grow_7 : decode b_Tak_grow 7 = .ok (.putfield 22, 3) := by decide +kernel
theorem d_Tak_grow_10 : decode b_Tak_grow 10 = .ok (.return_, 1) := by decide +kernel
def q_Tak_grow (i_amount : Int32) (n_rest : Int32) : Option (Int32) := some (n_rest - i_amount)
abbrev rm_Tak_grow : Room := { frames := 0, cells := 0, slots := 0, locals := 0 }
set_option maxHeartbeats 4000000 in
set_option maxRecDepth 100000 in
theorem c_Tak_grow (l : Launch) (dC : Nat → ClassId) (dI : Nat → Nat → Nat) (n_0 n_bytes_a : Nat) (n_bytes_k : ClassId) (i_amount : Int32) (n_bytes : Nat → Int32) (n_byteCount : Int32) (n_nextDigit : Int32) (n_rest : Int32) (z : Int32)  (hq : q_Tak_grow i_amount n_rest = some z) (sz : Nat) : MetV l y_Tak_grow b_Tak_grow 2 TT rm_Tak_grow (dC, dI) vcl [(n_bytes_k, .int)] (W_T n_0 n_bytes_a n_bytes_k n_bytes n_byteCount n_nextDigit n_rest) (W_T n_0 n_bytes_a n_bytes_k n_bytes n_byteCount n_nextDigit z) [.ref n_0, .int i_amount] sz := by
  refine x_ofV (by decide) (Nat.le_of_ble_eq_true rfl) ?_ sz
  intro p e s m args below meth c A Q ls hx hb hml hown hts hA hG hK hP hD hS hl hret
  have hown : s.vm.findClass R_Tak = some m.cls := hown
  have hl : lv_has ls 2 [(0, .ref n_0), (1, .int i_amount)] := hl
  obtain ⟨⟨tq, hZ, hTq⟩, hN⟩ := id hG
  obtain ⟨H, hH⟩ : ∃ H, H = s.heap := ⟨_, rfl⟩
  obtain ⟨locs, hlocs⟩ : ∃ locs : List Loc, locs = [] := ⟨_, rfl⟩
  rw [← hH] at hP
  have hS : va_S A s.heap H locs := by rw [hH, hlocs]; exact hS
  suffices hgo : W p l e rm_Tak_grow s m args below meth c H locs 0 0 Q (F0 m 0 ls []) by rw [hH, hlocs] at hgo; exact hgo
  unfold q_Tak_grow at hq
  have h := hq
  refine lv_aload_n hx hb d_Tak_grow_0 rfl (lv_at hl 0 rfl) ?_
  refine lv_dup hx hb d_Tak_grow_1 rfl ?_
  refine va_get (D := (dC, dI)) (ci := 5) (v := .int n_rest) (C := R_Tak) (T := F_Tak) (N := 4) hx hb hts in_Tak hown hK hP 0 rfl rfl 3 (by decide) (hts _ tt201) (fun _ h9 => h9) rfl d_Tak_grow_2 ?_
  refine lv_iload_n hx hb d_Tak_grow_5 rfl (lv_at hl 1 rfl) ?_
  refine lv_isub hx hb d_Tak_grow_6 ?_
  refine va_put (D := (dC, dI)) (ci := 5) (v := .int (n_rest - i_amount)) (ty := .int) (C := R_Tak) (T := F_Tak) (N := 4) hx hb hts in_Tak t_Tak t_Tak_ok n_Tak hown hK hP hD hS 0 rfl rfl 3 (by decide) (hts _ tt201) (fun _ h9 => h9) rfl (by decide +kernel) rfl rfl (Nat.le_of_ble_eq_true rfl) d_Tak_grow_7 (fun H locs hP hD hS => ?_)
  have hP : va_P (dC, dI) vcl (W_T n_0 n_bytes_a n_bytes_k n_bytes n_byteCount n_nextDigit (n_rest - i_amount)) H := hP
  have hD : va_D A (W_T n_0 n_bytes_a n_bytes_k n_bytes n_byteCount n_nextDigit (n_rest - i_amount)) := hD
  obtain rfl := Option.some.inj h
  exact hret H locs 10 ls d_Tak_grow_10 hP hD hS
theorem d_Tak_makeDouble_0 : decode b_Tak_makeDouble 0 = .ok (.aload_n 0, 1) := by decide +kernel
theorem d_Tak_makeDouble_1 : decode b_Tak_makeDouble 1 = .ok (.getfield 19, 3) := by decide +kernel
theorem d_Tak_makeDouble_4 : decode b_Tak_makeDouble 4 = .ok (.bipush (8), 2) := by decide +kernel
theorem d_Tak_makeDouble_6 : decode b_Tak_makeDouble 6 = .ok (.idiv, 1) := by decide +kernel
theorem d_Tak_makeDouble_7 : decode b_Tak_makeDouble 7 = .ok (.istore_n 1, 1) := by decide +kernel
theorem d_Tak_makeDouble_8 : decode b_Tak_makeDouble 8 = .ok (.iload_n 1, 1) := by decide +kernel
theorem d_Tak_makeDouble_9 : decode b_Tak_makeDouble 9 = .ok (.aload_n 0, 1) := by decide +kernel
theorem d_Tak_makeDouble_10 : decode b_Tak_makeDouble 10 = .ok (.getfield 15, 3) := by decide +kernel
theorem d_Tak_makeDouble_13 : decode b_Tak_makeDouble 13 = .ok (.if_icmp .ge (12), 3) := by decide +kernel
theorem d_Tak_makeDouble_16 : decode b_Tak_makeDouble 16 = .ok (.aload_n 0, 1) := by decide +kernel
theorem d_Tak_makeDouble_17 : decode b_Tak_makeDouble 17 = .ok (.getfield 9, 3) := by decide +kernel
theorem d_Tak_makeDouble_20 : decode b_Tak_makeDouble 20 = .ok (.iload_n 1, 1) := by decide +kernel
theorem d_Tak_makeDouble_21 : decode b_Tak_makeDouble 21 = .ok (.iaload, 1) := by decide +kernel
theorem d_Tak_makeDouble_22 : decode b_Tak_makeDouble 22 = .ok (.goto (4), 3) := by decide +kernel
theorem d_Tak_makeDouble_25 : decode b_Tak_makeDouble 25 = .ok (.iconst (0), 1) := by decide +kernel
theorem d_Tak_makeDouble_26 : decode b_Tak_makeDouble 26 = .ok (.istore_n 2, 1) := by decide +kernel
theorem d_Tak_makeDouble_27 : decode b_Tak_makeDouble 27 = .ok (.aload_n 0, 1) := by decide +kernel
theorem d_Tak_makeDouble_28 : decode b_Tak_makeDouble 28 = .ok (.iconst (2), 1) := by decide +kernel
theorem d_Tak_makeDouble_29 : decode b_Tak_makeDouble 29 = .ok (.aload_n 0, 1) := by decide +kernel
theorem d_Tak_makeDouble_30 : decode b_Tak_makeDouble 30 = .ok (.getfield 22, 3) := by decide +kernel
theorem d_Tak_makeDouble_33 : decode b_Tak_makeDouble 33 = .ok (.imul, 1) := by decide +kernel
theorem d_Tak_makeDouble_34 : decode b_Tak_makeDouble 34 = .ok (.iload_n 2, 1) := by decide +kernel
theorem d_Tak_makeDouble_35 : decode b_Tak_makeDouble 35 = .ok (.bipush (7), 2) := by decide +kernel
theorem d_Tak_makeDouble_37 : decode b_Tak_makeDouble 37 = .ok (.aload_n 0, 1) := by decide +kernel
theorem d_Tak_makeDouble_38 : decode b_Tak_makeDouble 38 = .ok (.getfield 19, 3) := by decide +kernel
theorem d_Tak_makeDouble_41 : decode b_Tak_makeDouble 41 = .ok (.bipush (8), 2) := by decide +kernel
theorem d_Tak_makeDouble_43 : decode b_Tak_makeDouble 43 = .ok (.irem, 1) := by decide +kernel
theorem d_Tak_makeDouble_44 : decode b_Tak_makeDouble 44 = .ok (.isub, 1) := by decide +kernel
theorem d_Tak_makeDouble_45 : decode b_Tak_makeDouble 45 = .ok (.ishr, 1) := by decide +kernel
theorem d_Tak_makeDouble_46 : decode b_Tak_makeDouble 46 = .ok (.iconst (1), 1) := by decide +kernel
theorem d_Tak_makeDouble_47 : decode b_Tak_makeDouble 47 = .ok (.iand, 1) := by decide +kernel
theorem d_Tak_makeDouble_48 : decode b_Tak_makeDouble 48 = .ok (.iadd, 1) := by decide +kernel
theorem d_Tak_makeDouble_49 : decode b_Tak_makeDouble 49 = .ok (.putfield 22, 3) := by decide +kernel
theorem d_Tak_makeDouble_52 : decode b_Tak_makeDouble 52 = .ok (.aload_n 0, 1) := by decide +kernel
theorem d_Tak_makeDouble_53 : decode b_Tak_makeDouble 53 = .ok (.dup, 1) := by decide +kernel
theorem d_Tak_makeDouble_54 : decode b_Tak_makeDouble 54 = .ok (.getfield 19, 3) := by decide +kernel
theorem d_Tak_makeDouble_57 : decode b_Tak_makeDouble 57 = .ok (.iconst (1), 1) := by decide +kernel
theorem d_Tak_makeDouble_58 : decode b_Tak_makeDouble 58 = .ok (.iadd, 1) := by decide +kernel
theorem d_Tak_makeDouble_59 : decode b_Tak_makeDouble 59 = .ok (.putfield 19, 3) := by decide +kernel
theorem d_Tak_makeDouble_62 : decode b_Tak_makeDouble 62 = .ok (.return_, 1) := by decide +kernel
def q_Tak_makeDouble_26 (n_bytes : Nat → Int32) (n_byteCount : Int32)  (k0_26 : Int32) (n_nextDigit_26 : Int32) (n_rest_26 : Int32) : Option (Int32 × Int32) := some (n_nextDigit_26 + (1 : Int32), ((2 : Int32) * n_rest_26) + ((k0_26 >>> (((7 : Int32) - (n_nextDigit_26 - n_nextDigit_26 / (8 : Int32) * (8 : Int32))) &&& 31)) &&& (1 : Int32)))
def q_Tak_makeDouble  (n_bytes : Nat → Int32) (n_byteCount : Int32) (n_nextDigit : Int32) (n_rest : Int32) : Option (Int32 × Int32) := (if n_byteCount ≤ (n_nextDigit / (8 : Int32)) then (q_Tak_makeDouble_26 n_bytes n_byteCount  (0 : Int32) n_nextDigit n_rest) else (if vpb (n_nextDigit / (8 : Int32)) 900 = true then (q_Tak_makeDouble_26 n_bytes n_byteCount  (n_bytes (n_nextDigit / (8 : Int32)).toNatClampNeg) n_nextDigit n_rest) else none))
abbrev rm_Tak_makeDouble : Room := { frames := 0, cells := 0, slots := 0, locals := 0 }
set_option maxHeartbeats 4000000 in
set_option maxRecDepth 100000 in
theorem c_Tak_makeDouble (l : Launch) (dC : Nat → ClassId) (dI : Nat → Nat → Nat) (n_0 n_bytes_a : Nat) (n_bytes_k : ClassId)  (n_bytes : Nat → Int32) (n_byteCount : Int32) (n_nextDigit : Int32) (n_rest : Int32) (z : Int32 × Int32)  (hq : q_Tak_makeDouble n_bytes n_byteCount n_nextDigit n_rest = some z) (sz : Nat) : MetV l y_Tak_makeDouble b_Tak_makeDouble 3 TT rm_Tak_makeDouble (dC, dI) vcl [(n_bytes_k, .int)] (W_T n_0 n_bytes_a n_bytes_k n_bytes n_byteCount n_nextDigit n_rest) (W_T n_0 n_bytes_a n_bytes_k n_bytes n_byteCount z.1 z.2) [.ref n_0] sz := by
  refine x_ofV (by decide) (Nat.le_of_ble_eq_true rfl) ?_ sz
  intro p e s m args below meth c A Q ls hx hb hml hown hts hA hG hK hP hD hS hl hret
  have hown : s.vm.findClass R_Tak = some m.cls := hown
  have hl : lv_has ls 3 [(0, .ref n_0)] := hl
  obtain ⟨⟨tq, hZ, hTq⟩, hN⟩ := id hG
  obtain ⟨H, hH⟩ : ∃ H, H = s.heap := ⟨_, rfl⟩
  obtain ⟨locs, hlocs⟩ : ∃ locs : List Loc, locs = [] := ⟨_, rfl⟩
  rw [← hH] at hP
  have hS : va_S A s.heap H locs := by rw [hH, hlocs]; exact hS
  suffices hgo : W p l e rm_Tak_makeDouble s m args below meth c H locs 0 0 Q (F0 m 0 ls []) by rw [hH, hlocs] at hgo; exact hgo
  unfold q_Tak_makeDouble at hq
  have L26 : ∀ (k0_26 : Int32) (n_nextDigit_26 : Int32) (n_rest_26 : Int32) (H : Heap) (locs : List Loc) (ls : Array Slot), lv_has ls 3 [(0, .ref n_0)] → va_P (dC, dI) vcl (W_T n_0 n_bytes_a n_bytes_k n_bytes n_byteCount n_nextDigit_26 n_rest_26) H → va_D A (W_T n_0 n_bytes_a n_bytes_k n_bytes n_byteCount n_nextDigit_26 n_rest_26) → va_S A s.heap H locs → q_Tak_makeDouble_26 n_bytes n_byteCount  k0_26 n_nextDigit_26 n_rest_26 = some z → W p l e rm_Tak_makeDouble s m args below meth c H locs 0 0 Q (F0 m 26 ls [.int k0_26]) := by
    intro k0_26 n_nextDigit_26 n_rest_26 H locs ls hl hP hD hS hq26
    unfold q_Tak_makeDouble_26 at hq26
    have h := hq26
    refine lv_istore_n (lv' := [(2, .int k0_26), (0, .ref n_0)]) hx hb d_Tak_makeDouble_26 rfl hl (by decide) rfl (fun ls hl => ?_)
    refine lv_aload_n hx hb d_Tak_makeDouble_27 rfl (lv_at hl 1 rfl) ?_
    refine lv_iconst (v := (2 : Int32)) hx hb d_Tak_makeDouble_28 (by decide) ?_
    refine lv_aload_n hx hb d_Tak_makeDouble_29 rfl (lv_at hl 1 rfl) ?_
    refine va_get (D := (dC, dI)) (ci := 5) (v := .int n_rest_26) (C := R_Tak) (T := F_Tak) (N := 4) hx hb hts in_Tak hown hK hP 0 rfl rfl 3 (by decide) (hts _ tt201) (fun _ h9 => h9) rfl d_Tak_makeDouble_30 ?_
    refine lv_imul hx hb d_Tak_makeDouble_33 ?_
    refine lv_iload_n hx hb d_Tak_makeDouble_34 rfl (lv_at hl 0 rfl) ?_
    refine lv_bipush (v := (7 : Int32)) hx hb d_Tak_makeDouble_35 (by decide) ?_
    refine lv_aload_n hx hb d_Tak_makeDouble_37 rfl (lv_at hl 1 rfl) ?_
    refine va_get (D := (dC, dI)) (ci := 5) (v := .int n_nextDigit_26) (C := R_Tak) (T := F_Tak) (N := 4) hx hb hts in_Tak hown hK hP 0 rfl rfl 2 (by decide) (hts _ tt200) (fun _ h9 => h9) rfl d_Tak_makeDouble_38 ?_
    refine lv_bipush (v := (8 : Int32)) hx hb d_Tak_makeDouble_41 (by decide) ?_
    refine lv_irem hx hb d_Tak_makeDouble_43 (by decide) ?_
    refine lv_isub hx hb d_Tak_makeDouble_44 ?_
    refine lv_ishr hx hb d_Tak_makeDouble_45 ?_
    refine lv_iconst (v := (1 : Int32)) hx hb d_Tak_makeDouble_46 (by decide) ?_
    refine lv_iand hx hb d_Tak_makeDouble_47 ?_
    refine lv_iadd hx hb d_Tak_makeDouble_48 ?_
    refine va_put (D := (dC, dI)) (ci := 5) (v := .int (((2 : Int32) * n_rest_26) + ((k0_26 >>> (((7 : Int32) - (n_nextDigit_26 - n_nextDigit_26 / (8 : Int32) * (8 : Int32))) &&& 31)) &&& (1 : Int32)))) (ty := .int) (C := R_Tak) (T := F_Tak) (N := 4) hx hb hts in_Tak t_Tak t_Tak_ok n_Tak hown hK hP hD hS 0 rfl rfl 3 (by decide) (hts _ tt201) (fun _ h9 => h9) rfl (by decide +kernel) rfl rfl (Nat.le_of_ble_eq_true rfl) d_Tak_makeDouble_49 (fun H locs hP hD hS => ?_)
    have hP : va_P (dC, dI) vcl (W_T n_0 n_bytes_a n_bytes_k n_bytes n_byteCount n_nextDigit_26 (((2 : Int32) * n_rest_26) + ((k0_26 >>> (((7 : Int32) - (n_nextDigit_26 - n_nextDigit_26 / (8 : Int32) * (8 : Int32))) &&& 31)) &&& (1 : Int32)))) H := hP
    have hD : va_D A (W_T n_0 n_bytes_a n_bytes_k n_bytes n_byteCount n_nextDigit_26 (((2 : Int32) * n_rest_26) + ((k0_26 >>> (((7 : Int32) - (n_nextDigit_26 - n_nextDigit_26 / (8 : Int32) * (8 : Int32))) &&& 31)) &&& (1 : Int32)))) := hD
    refine lv_aload_n hx hb d_Tak_makeDouble_52 rfl (lv_at hl 1 rfl) ?_
    refine lv_dup hx hb d_Tak_makeDouble_53 rfl ?_
    refine va_get (D := (dC, dI)) (ci := 5) (v := .int n_nextDigit_26) (C := R_Tak) (T := F_Tak) (N := 4) hx hb hts in_Tak hown hK hP 0 rfl rfl 2 (by decide) (hts _ tt200) (fun _ h9 => h9) rfl d_Tak_makeDouble_54 ?_
    refine lv_iconst (v := (1 : Int32)) hx hb d_Tak_makeDouble_57 (by decide) ?_
    refine lv_iadd hx hb d_Tak_makeDouble_58 ?_
    refine va_put (D := (dC, dI)) (ci := 5) (v := .int (n_nextDigit_26 + (1 : Int32))) (ty := .int) (C := R_Tak) (T := F_Tak) (N := 4) hx hb hts in_Tak t_Tak t_Tak_ok n_Tak hown hK hP hD hS 0 rfl rfl 2 (by decide) (hts _ tt200) (fun _ h9 => h9) rfl (by decide +kernel) rfl rfl (Nat.le_of_ble_eq_true rfl) d_Tak_makeDouble_59 (fun H locs hP hD hS => ?_)
    have hP : va_P (dC, dI) vcl (W_T n_0 n_bytes_a n_bytes_k n_bytes n_byteCount (n_nextDigit_26 + (1 : Int32)) (((2 : Int32) * n_rest_26) + ((k0_26 >>> (((7 : Int32) - (n_nextDigit_26 - n_nextDigit_26 / (8 : Int32) * (8 : Int32))) &&& 31)) &&& (1 : Int32)))) H := hP
    have hD : va_D A (W_T n_0 n_bytes_a n_bytes_k n_bytes n_byteCount (n_nextDigit_26 + (1 : Int32)) (((2 : Int32) * n_rest_26) + ((k0_26 >>> (((7 : Int32) - (n_nextDigit_26 - n_nextDigit_26 / (8 : Int32) * (8 : Int32))) &&& 31)) &&& (1 : Int32)))) := hD
    obtain rfl := Option.some.inj h
    exact hret H locs 62 ls d_Tak_makeDouble_62 hP hD hS
  have h := hq
  refine lv_aload_n hx hb d_Tak_makeDouble_0 rfl (lv_at hl 0 rfl) ?_
  refine va_get (D := (dC, dI)) (ci := 5) (v := .int n_nextDigit) (C := R_Tak) (T := F_Tak) (N := 4) hx hb hts in_Tak hown hK hP 0 rfl rfl 2 (by decide) (hts _ tt200) (fun _ h9 => h9) rfl d_Tak_makeDouble_1 ?_
  refine lv_bipush (v := (8 : Int32)) hx hb d_Tak_makeDouble_4 (by decide) ?_
  refine lv_idiv hx hb d_Tak_makeDouble_6 (by decide) ?_
  refine lv_istore_n (lv' := [(1, .int (n_nextDigit / (8 : Int32))), (0, .ref n_0)]) hx hb d_Tak_makeDouble_7 rfl hl (by decide) rfl (fun ls hl => ?_)
  refine lv_iload_n hx hb d_Tak_makeDouble_8 rfl (lv_at hl 0 rfl) ?_
  refine lv_aload_n hx hb d_Tak_makeDouble_9 rfl (lv_at hl 1 rfl) ?_
  refine va_get (D := (dC, dI)) (ci := 5) (v := .int n_byteCount) (C := R_Tak) (T := F_Tak) (N := 4) hx hb hts in_Tak hown hK hP 0 rfl rfl 1 (by decide) (hts _ tt199) (fun _ h9 => h9) rfl d_Tak_makeDouble_10 ?_
  refine lv_icmp_ge (tgt := 25) hx hb d_Tak_makeDouble_13 rfl (fun hc => ?_) (fun hc => ?_)
  · replace h := ot hc h
    refine lv_iconst (v := (0 : Int32)) hx hb d_Tak_makeDouble_25 (by decide) ?_
    exact L26 (0 : Int32) n_nextDigit n_rest H locs ls (lv_sub hl [1] rfl) hP hD hS h
  · replace h := of hc h
    refine lv_aload_n hx hb d_Tak_makeDouble_16 rfl (lv_at hl 1 rfl) ?_
    refine va_get (D := (dC, dI)) (ci := 5) (v := .ref n_bytes_a) (C := R_Tak) (T := F_Tak) (N := 4) hx hb hts in_Tak hown hK hP 0 rfl rfl 0 (by decide) (hts _ tt198) (fun _ h9 => h9) rfl d_Tak_makeDouble_17 ?_
    refine lv_iload_n hx hb d_Tak_makeDouble_20 rfl (lv_at hl 0 rfl) ?_
    obtain ⟨hin, h⟩ := og h
    refine va_iald hx hb hK hP 1 0 rfl rfl (vpb_in hin) d_Tak_makeDouble_21 ?_
    refine lv_goto (tgt := 26) hx hb d_Tak_makeDouble_22 rfl ?_
    exact L26 (n_bytes (n_nextDigit / (8 : Int32)).toNatClampNeg) n_nextDigit n_rest H locs ls (lv_sub hl [1] rfl) hP hD hS h
theorem d_Tak_begin_0 : decode b_Tak_begin 0 = .ok (.aload_n 1, 1) := by decide +kernel
theorem d_Tak_begin_1 : decode b_Tak_begin 1 = .ok (.getfield 25, 3) := by decide +kernel
theorem d_Tak_begin_4 : decode b_Tak_begin 4 = .ok (.iload_n 2, 1) := by decide +kernel
theorem d_Tak_begin_5 : decode b_Tak_begin 5 = .ok (.iaload, 1) := by decide +kernel
theorem d_Tak_begin_6 : decode b_Tak_begin 6 = .ok (.istore_n 3, 1) := by decide +kernel
theorem d_Tak_begin_7 : decode b_Tak_begin 7 = .ok (.aload_n 0, 1) := by decide +kernel
theorem d_Tak_begin_8 : decode b_Tak_begin 8 = .ok (.iconst (0), 1) := by decide +kernel
theorem d_Tak_begin_9 : decode b_Tak_begin 9 = .ok (.putfield 15, 3) := by decide +kernel
theorem d_Tak_begin_12 : decode b_Tak_begin 12 = .ok (.aload_n 1, 1) := by decide +kernel
theorem d_Tak_begin_13 : decode b_Tak_begin 13 = .ok (.getfield 30, 3) := by decide +kernel
theorem d_Tak_begin_16 : decode b_Tak_begin 16 = .ok (.iload_n 2, 1) := by decide +kernel
theorem d_Tak_begin_17 : decode b_Tak_begin 17 = .ok (.iaload, 1) := by decide +kernel
theorem d_Tak_begin_18 : decode b_Tak_begin 18 = .ok (.istore 4, 2) := by decide +kernel
theorem d_Tak_begin_20 : decode b_Tak_begin 20 = .ok (.iload 4, 2) := by decide +kernel
theorem d_Tak_begin_22 : decode b_Tak_begin 22 = .ok (.iload_n 3, 1) := by decide +kernel
theorem d_Tak_begin_23 : decode b_Tak_begin 23 = .ok (.if_icmp .ge (59), 3) := by decide +kernel
theorem d_Tak_begin_26 : decode b_Tak_begin 26 = .ok (.aload_n 0, 1) := by decide +kernel
theorem d_Tak_begin_27 : decode b_Tak_begin 27 = .ok (.getfield 15, 3) := by decide +kernel
theorem d_Tak_begin_30 : decode b_Tak_begin 30 = .ok (.sipush (900), 3) := by decide +kernel
theorem d_Tak_begin_33 : decode b_Tak_begin 33 = .ok (.if_icmp .ge (49), 3) := by decide +kernel
theorem d_Tak_begin_36 : decode b_Tak_begin 36 = .ok (.aload_n 0, 1) := by decide +kernel
theorem d_Tak_begin_37 : decode b_Tak_begin 37 = .ok (.getfield 9, 3) := by decide +kernel
theorem d_Tak_begin_40 : decode b_Tak_begin 40 = .ok (.aload_n 0, 1) := by decide +kernel
theorem d_Tak_begin_41 : decode b_Tak_begin 41 = .ok (.getfield 15, 3) := by decide +kernel
theorem d_Tak_begin_44 : decode b_Tak_begin 44 = .ok (.aload_n 1, 1) := by decide +kernel
theorem d_Tak_begin_45 : decode b_Tak_begin 45 = .ok (.iload 4, 2) := by decide +kernel
theorem d_Tak_begin_47 : decode b_Tak_begin 47 = .ok (.invokevirtual 33, 3) := by decide +kernel
theorem d_Tak_begin_50 : decode b_Tak_begin 50 = .ok (.iastore, 1) := by decide +kernel
theorem d_Tak_begin_51 : decode b_Tak_begin 51 = .ok (.aload_n 0, 1) := by decide +kernel
theorem d_Tak_begin_52 : decode b_Tak_begin 52 = .ok (.dup, 1) := by decide +kernel
theorem d_Tak_begin_53 : decode b_Tak_begin 53 = .ok (.getfield 15, 3) := by decide +kernel
theorem d_Tak_begin_56 : decode b_Tak_begin 56 = .ok (.iconst (1), 1) := by decide +kernel
theorem d_Tak_begin_57 : decode b_Tak_begin 57 = .ok (.iadd, 1) := by decide +kernel
theorem d_Tak_begin_58 : decode b_Tak_begin 58 = .ok (.putfield 15, 3) := by decide +kernel
theorem d_Tak_begin_61 : decode b_Tak_begin 61 = .ok (.aload_n 1, 1) := by decide +kernel
theorem d_Tak_begin_62 : decode b_Tak_begin 62 = .ok (.iload 4, 2) := by decide +kernel
theorem d_Tak_begin_64 : decode b_Tak_begin 64 = .ok (.invokevirtual 33, 3) := by decide +kernel
theorem d_Tak_begin_67 : decode b_Tak_begin 67 = .ok (.sipush (255), 3) := by decide +kernel
theorem d_Tak_begin_70 : decode b_Tak_begin 70 = .ok (.if_icmp .ne (6), 3) := by decide +kernel
theorem d_Tak_begin_73 : decode b_Tak_begin 73 = .ok (.iinc 4 (1), 3) := by decide +kernel
theorem d_Tak_begin_76 : decode b_Tak_begin 76 = .ok (.iinc 4 (1), 3) := by decide +kernel
theorem d_Tak_begin_79 : decode b_Tak_begin 79 = .ok (.goto (-59), 3) := by decide +kernel
theorem d_Tak_begin_82 : decode b_Tak_begin 82 = .ok (.aload_n 0, 1) := by decide +kernel
theorem d_Tak_begin_83 : decode b_Tak_begin 83 = .ok (.iconst (0), 1) := by decide +kernel
theorem d_Tak_begin_84 : decode b_Tak_begin 84 = .ok (.putfield 19, 3) := by decide +kernel
theorem d_Tak_begin_87 : decode b_Tak_begin 87 = .ok (.aload_n 0, 1) := by decide +kernel
theorem d_Tak_begin_88 : decode b_Tak_begin 88 = .ok (.iconst (0), 1) := by decide +kernel
theorem d_Tak_begin_89 : decode b_Tak_begin 89 = .ok (.putfield 22, 3) := by decide +kernel
theorem d_Tak_begin_92 : decode b_Tak_begin 92 = .ok (.iconst (0), 1) := by decide +kernel
theorem d_Tak_begin_93 : decode b_Tak_begin 93 = .ok (.istore 4, 2) := by decide +kernel
theorem d_Tak_begin_95 : decode b_Tak_begin 95 = .ok (.iload 4, 2) := by decide +kernel
theorem d_Tak_begin_97 : decode b_Tak_begin 97 = .ok (.bipush (16), 2) := by decide +kernel
theorem d_Tak_begin_99 : decode b_Tak_begin 99 = .ok (.if_icmp .ge (13), 3) := by decide +kernel
theorem d_Tak_begin_102 : decode b_Tak_begin 102 = .ok (.aload_n 0, 1) := by decide +kernel
theorem d_Tak_begin_103 : decode b_Tak_begin 103 = .ok (.invokevirtual 37, 3) := by decide +kernel
theorem d_Tak_begin_106 : decode b_Tak_begin 106 = .ok (.iinc 4 (1), 3) := by decide +kernel
theorem d_Tak_begin_109 : decode b_Tak_begin 109 = .ok (.goto (-14), 3) := by decide +kernel
theorem d_Tak_begin_112 : decode b_Tak_begin 112 = .ok (.return_, 1) := by decide +kernel
def q_Tak_begin_95 (i_layer : Int32) (f_bytes : Nat → Int32) (f_starts : Nat → Int32) (f_ends : Nat → Int32) (f_length : Int32)  : Nat → Int32 → (Nat → Int32) → Int32 → Int32 → Int32 → Option ((Nat → Int32) × Int32 × Int32 × Int32)
  | 0, _, _, _, _, _ => none
  | n + 1, x4_95, n_bytes_95, n_byteCount_95, n_nextDigit_95, n_rest_95 => (if (16 : Int32) ≤ x4_95 then some (n_bytes_95, n_byteCount_95, n_nextDigit_95, n_rest_95) else ((q_Tak_makeDouble n_bytes_95 n_byteCount_95 n_nextDigit_95 n_rest_95).bind fun z1 => (q_Tak_begin_95 i_layer f_bytes f_starts f_ends f_length n (x4_95 + (1 : Int32)) n_bytes_95 n_byteCount_95 z1.1 z1.2)))
def q_Tak_begin_82 (i_layer : Int32) (f_bytes : Nat → Int32) (f_starts : Nat → Int32) (f_ends : Nat → Int32) (f_length : Int32)  (n_bytes_82 : Nat → Int32) (n_byteCount_82 : Int32) (n_nextDigit_82 : Int32) (n_rest_82 : Int32) : Option ((Nat → Int32) × Int32 × Int32 × Int32) := (q_Tak_begin_95 i_layer f_bytes f_starts f_ends f_length  5000 (0 : Int32) n_bytes_82 n_byteCount_82 (0 : Int32) (0 : Int32))
def q_Tak_begin_20 (i_layer : Int32) (f_bytes : Nat → Int32) (f_starts : Nat → Int32) (f_ends : Nat → Int32) (f_length : Int32)  : Nat → Int32 → Int32 → (Nat → Int32) → Int32 → Int32 → Int32 → Option ((Nat → Int32) × Int32 × Int32 × Int32)
  | 0, _, _, _, _, _, _ => none
  | n + 1, x3_20, x4_20, n_bytes_20, n_byteCount_20, n_nextDigit_20, n_rest_20 => (if x3_20 ≤ x4_20 then (q_Tak_begin_82 i_layer f_bytes f_starts f_ends f_length  n_bytes_20 n_byteCount_20 n_nextDigit_20 n_rest_20) else (if (900 : Int32) ≤ n_byteCount_20 then (q_Tak_begin_82 i_layer f_bytes f_starts f_ends f_length  n_bytes_20 n_byteCount_20 n_nextDigit_20 n_rest_20) else ((q_Fil_at x4_20 f_bytes f_length).bind fun z2 => (if vpb n_byteCount_20 900 = true then ((q_Fil_at x4_20 f_bytes f_length).bind fun z3 => (if z3 = (255 : Int32) then (q_Tak_begin_20 i_layer f_bytes f_starts f_ends f_length n x3_20 (x4_20 + (1 : Int32) + (1 : Int32)) (upd n_bytes_20 n_byteCount_20.toNatClampNeg z2) (n_byteCount_20 + (1 : Int32)) n_nextDigit_20 n_rest_20) else (q_Tak_begin_20 i_layer f_bytes f_starts f_ends f_length n x3_20 (x4_20 + (1 : Int32)) (upd n_bytes_20 n_byteCount_20.toNatClampNeg z2) (n_byteCount_20 + (1 : Int32)) n_nextDigit_20 n_rest_20))) else none))))
def q_Tak_begin (i_layer : Int32) (n_bytes : Nat → Int32) (n_byteCount : Int32) (n_nextDigit : Int32) (n_rest : Int32) (f_bytes : Nat → Int32) (f_starts : Nat → Int32) (f_ends : Nat → Int32) (f_length : Int32) : Option ((Nat → Int32) × Int32 × Int32 × Int32) := (if vpb i_layer 3 = true then (if vpb i_layer 3 = true then (q_Tak_begin_20 i_layer f_bytes f_starts f_ends f_length  5000 (f_ends i_layer.toNatClampNeg) (f_starts i_layer.toNatClampNeg) n_bytes (0 : Int32) n_nextDigit n_rest) else none) else none)
abbrev rm_Tak_begin : Room := { frames := 2, cells := 0, slots := 0, locals := 42 }
set_option maxHeartbeats 4000000 in
set_option maxRecDepth 100000 in
theorem c_Tak_begin (l : Launch) (dC : Nat → ClassId) (dI : Nat → Nat → Nat) (n_0 n_bytes_a f_0 f_bytes_a f_starts_a f_ends_a : Nat) (n_bytes_k f_bytes_k f_starts_k f_ends_k : ClassId) (i_layer : Int32) (n_bytes : Nat → Int32) (n_byteCount : Int32) (n_nextDigit : Int32) (n_rest : Int32) (f_bytes : Nat → Int32) (f_starts : Nat → Int32) (f_ends : Nat → Int32) (f_length : Int32) (f_wide : Int32) (f_high : Int32) (f_layerCount : Int32) (f_place : Int32) (z : (Nat → Int32) × Int32 × Int32 × Int32)  (hq : q_Tak_begin i_layer n_bytes n_byteCount n_nextDigit n_rest f_bytes f_starts f_ends f_length = some z) (sz : Nat) : MetV l y_Tak_begin b_Tak_begin 5 TT rm_Tak_begin (dC, dI) vcl [(n_bytes_k, .int), (f_bytes_k, .int), (f_starts_k, .int), (f_ends_k, .int)] (W_TF n_0 n_bytes_a f_0 f_bytes_a f_starts_a f_ends_a n_bytes_k f_bytes_k f_starts_k f_ends_k n_bytes n_byteCount n_nextDigit n_rest f_bytes f_starts f_ends f_length f_wide f_high f_layerCount f_place) (W_TF n_0 n_bytes_a f_0 f_bytes_a f_starts_a f_ends_a n_bytes_k f_bytes_k f_starts_k f_ends_k z.1 z.2.1 z.2.2.1 z.2.2.2 f_bytes f_starts f_ends f_length f_wide f_high f_layerCount f_place) [.ref n_0, .ref f_0, .int i_layer] sz := by
  refine x_ofV (by decide) (Nat.le_of_ble_eq_true rfl) ?_ sz
  intro p e s m args below meth c A Q ls hx hb hml hown hts hA hG hK hP hD hS hl hret
  have hown : s.vm.findClass R_Tak = some m.cls := hown
  have hl : lv_has ls 5 [(0, .ref n_0), (1, .ref f_0), (2, .int i_layer)] := hl
  obtain ⟨⟨tq, hZ, hTq⟩, hN⟩ := id hG
  obtain ⟨H, hH⟩ : ∃ H, H = s.heap := ⟨_, rfl⟩
  obtain ⟨locs, hlocs⟩ : ∃ locs : List Loc, locs = [] := ⟨_, rfl⟩
  rw [← hH] at hP
  have hS : va_S A s.heap H locs := by rw [hH, hlocs]; exact hS
  suffices hgo : W p l e rm_Tak_begin s m args below meth c H locs 0 0 Q (F0 m 0 ls []) by rw [hH, hlocs] at hgo; exact hgo
  unfold q_Tak_begin at hq
  have L20 : ∀ (n20 : Nat) (x3_20 : Int32) (x4_20 : Int32) (n_bytes_20 : Nat → Int32) (n_byteCount_20 : Int32) (n_nextDigit_20 : Int32) (n_rest_20 : Int32) (H : Heap) (locs : List Loc) (ls : Array Slot), lv_has ls 5 [(0, .ref n_0), (1, .ref f_0), (3, .int x3_20), (4, .int x4_20)] → va_P (dC, dI) vcl (W_TF n_0 n_bytes_a f_0 f_bytes_a f_starts_a f_ends_a n_bytes_k f_bytes_k f_starts_k f_ends_k n_bytes_20 n_byteCount_20 n_nextDigit_20 n_rest_20 f_bytes f_starts f_ends f_length f_wide f_high f_layerCount f_place) H → va_D A (W_TF n_0 n_bytes_a f_0 f_bytes_a f_starts_a f_ends_a n_bytes_k f_bytes_k f_starts_k f_ends_k n_bytes_20 n_byteCount_20 n_nextDigit_20 n_rest_20 f_bytes f_starts f_ends f_length f_wide f_high f_layerCount f_place) → va_S A s.heap H locs → q_Tak_begin_20 i_layer f_bytes f_starts f_ends f_length  n20 x3_20 x4_20 n_bytes_20 n_byteCount_20 n_nextDigit_20 n_rest_20 = some z → W p l e rm_Tak_begin s m args below meth c H locs 0 0 Q (F0 m 20 ls []) := by
    intro n20
    induction n20 with
    | zero =>
      intro x3_20 x4_20 n_bytes_20 n_byteCount_20 n_nextDigit_20 n_rest_20 H locs ls hl hP hD hS hq
      rw [q_Tak_begin_20] at hq
      cases hq
    | succ n20 ih20 =>
      intro x3_20 x4_20 n_bytes_20 n_byteCount_20 n_nextDigit_20 n_rest_20 H locs ls hl hP hD hS hq20
      rw [q_Tak_begin_20] at hq20
      have L82 : ∀ (n_bytes_82 : Nat → Int32) (n_byteCount_82 : Int32) (n_nextDigit_82 : Int32) (n_rest_82 : Int32) (H : Heap) (locs : List Loc) (ls : Array Slot), lv_has ls 5 [(0, .ref n_0)] → va_P (dC, dI) vcl (W_TF n_0 n_bytes_a f_0 f_bytes_a f_starts_a f_ends_a n_bytes_k f_bytes_k f_starts_k f_ends_k n_bytes_82 n_byteCount_82 n_nextDigit_82 n_rest_82 f_bytes f_starts f_ends f_length f_wide f_high f_layerCount f_place) H → va_D A (W_TF n_0 n_bytes_a f_0 f_bytes_a f_starts_a f_ends_a n_bytes_k f_bytes_k f_starts_k f_ends_k n_bytes_82 n_byteCount_82 n_nextDigit_82 n_rest_82 f_bytes f_starts f_ends f_length f_wide f_high f_layerCount f_place) → va_S A s.heap H locs → q_Tak_begin_82 i_layer f_bytes f_starts f_ends f_length  n_bytes_82 n_byteCount_82 n_nextDigit_82 n_rest_82 = some z → W p l e rm_Tak_begin s m args below meth c H locs 0 0 Q (F0 m 82 ls []) := by
        intro n_bytes_82 n_byteCount_82 n_nextDigit_82 n_rest_82 H locs ls hl hP hD hS hq82
        unfold q_Tak_begin_82 at hq82
        have L95 : ∀ (n95 : Nat) (x4_95 : Int32) (n_bytes_95 : Nat → Int32) (n_byteCount_95 : Int32) (n_nextDigit_95 : Int32) (n_rest_95 : Int32) (H : Heap) (locs : List Loc) (ls : Array Slot), lv_has ls 5 [(0, .ref n_0), (4, .int x4_95)] → va_P (dC, dI) vcl (W_TF n_0 n_bytes_a f_0 f_bytes_a f_starts_a f_ends_a n_bytes_k f_bytes_k f_starts_k f_ends_k n_bytes_95 n_byteCount_95 n_nextDigit_95 n_rest_95 f_bytes f_starts f_ends f_length f_wide f_high f_layerCount f_place) H → va_D A (W_TF n_0 n_bytes_a f_0 f_bytes_a f_starts_a f_ends_a n_bytes_k f_bytes_k f_starts_k f_ends_k n_bytes_95 n_byteCount_95 n_nextDigit_95 n_rest_95 f_bytes f_starts f_ends f_length f_wide f_high f_layerCount f_place) → va_S A s.heap H locs → q_Tak_begin_95 i_layer f_bytes f_starts f_ends f_length  n95 x4_95 n_bytes_95 n_byteCount_95 n_nextDigit_95 n_rest_95 = some z → W p l e rm_Tak_begin s m args below meth c H locs 0 0 Q (F0 m 95 ls []) := by
          intro n95
          induction n95 with
          | zero =>
            intro x4_95 n_bytes_95 n_byteCount_95 n_nextDigit_95 n_rest_95 H locs ls hl hP hD hS hq
            rw [q_Tak_begin_95] at hq
            cases hq
          | succ n95 ih95 =>
            intro x4_95 n_bytes_95 n_byteCount_95 n_nextDigit_95 n_rest_95 H locs ls hl hP hD hS hq95
            rw [q_Tak_begin_95] at hq95
            have h := hq95
            refine lv_iload hx hb d_Tak_begin_95 (lv_at hl 1 rfl) ?_
            refine lv_bipush (v := (16 : Int32)) hx hb d_Tak_begin_97 (by decide) ?_
            refine lv_icmp_ge (tgt := 112) hx hb d_Tak_begin_99 rfl (fun hc => ?_) (fun hc => ?_)
            · replace h := ot hc h
              obtain rfl := Option.some.inj h
              exact hret H locs 112 ls d_Tak_begin_112 hP hD hS
            · replace h := of hc h
              refine lv_aload_n hx hb d_Tak_begin_102 rfl (lv_at hl 0 rfl) ?_
              obtain ⟨z1, hz1, h⟩ := ob h
              refine x_goV (w1 := (W_T n_0 n_bytes_a n_bytes_k n_bytes_95 n_byteCount_95 z1.1 z1.2)) (ws' := (W_TF n_0 n_bytes_a f_0 f_bytes_a f_starts_a f_ends_a n_bytes_k f_bytes_k f_starts_k f_ends_k n_bytes_95 n_byteCount_95 z1.1 z1.2 f_bytes f_starts f_ends f_length f_wide f_high f_layerCount f_place)) (wr := List.filterMap (fun (i : Nat) => (W_TF n_0 n_bytes_a f_0 f_bytes_a f_starts_a f_ends_a n_bytes_k f_bytes_k f_starts_k f_ends_k n_bytes_95 n_byteCount_95 n_nextDigit_95 n_rest_95 f_bytes f_starts f_ends f_length f_wide f_high f_layerCount f_place)[i]?) ([2, 3, 4, 5] : List Nat)) (va_runV (As := []) (rest := []) ⟨hx, hb, hml, hown, hts⟩ (c_Tak_makeDouble l dC dI n_0 n_bytes_a n_bytes_k  n_bytes_95 n_byteCount_95 n_nextDigit_95 n_rest_95 z1  hz1 H.size) ⟨callB_of 0 hts (gT tt491 TT_good) rfl rfl rfl (hts _ tt52) (hts _ tt589) (by decide +kernel) ⟨Nat.le_of_ble_eq_true rfl, Nat.le_of_ble_eq_true rfl⟩, hts _ tt490, hts _ tt916⟩ (x_preV (q := (R_Tak, F_Tak, 4)) (As := []) (x_pre (wc := (W_T n_0 n_bytes_a n_bytes_k n_bytes_95 n_byteCount_95 n_nextDigit_95 n_rest_95)) (av := (.ref n_0 :: [])) hK hP hD hS hA hG [0] [0, 1] rfl rfl (by decide)) hK hP (q0 := 0) rfl rfl) rfl rfl hl.1 rfl (lv_room (Nat.le_of_ble_eq_true rfl)) d_Tak_begin_103 ⟨Nat.zero_le _, Nat.zero_le _⟩) hP hD hS hA [0, 1] [2, 3, 4, 5] [4, 5, 0, 1, 2, 3] rfl rfl (by decide) (by decide) (by decide) rfl (fun H locs hP hD hS => ?_)
              refine lv_iinc (k := 1) (v := x4_95 + (1 : Int32)) (lv' := [(4, .int (x4_95 + (1 : Int32))), (0, .ref n_0)]) hx hb d_Tak_begin_106 hl rfl rfl (by decide) rfl (fun ls hl => ?_)
              refine lv_goto (tgt := 95) hx hb d_Tak_begin_109 rfl ?_
              exact ih95 (x4_95 + (1 : Int32)) n_bytes_95 n_byteCount_95 z1.1 z1.2 H locs ls (lv_sub hl [1, 0] rfl) hP hD hS h
        have h := hq82
        refine lv_aload_n hx hb d_Tak_begin_82 rfl (lv_at hl 0 rfl) ?_
        refine lv_iconst (v := (0 : Int32)) hx hb d_Tak_begin_83 (by decide) ?_
        refine va_put (D := (dC, dI)) (ci := 5) (v := .int (0 : Int32)) (ty := .int) (C := R_Tak) (T := F_Tak) (N := 4) hx hb hts in_Tak t_Tak t_Tak_ok n_Tak hown hK hP hD hS 0 rfl rfl 2 (by decide) (hts _ tt200) (fun _ h9 => h9) rfl (by decide +kernel) rfl rfl (Nat.le_of_ble_eq_true rfl) d_Tak_begin_84 (fun H locs hP hD hS => ?_)
        have hP : va_P (dC, dI) vcl (W_TF n_0 n_bytes_a f_0 f_bytes_a f_starts_a f_ends_a n_bytes_k f_bytes_k f_starts_k f_ends_k n_bytes_82 n_byteCount_82 (0 : Int32) n_rest_82 f_bytes f_starts f_ends f_length f_wide f_high f_layerCount f_place) H := hP
        have hD : va_D A (W_TF n_0 n_bytes_a f_0 f_bytes_a f_starts_a f_ends_a n_bytes_k f_bytes_k f_starts_k f_ends_k n_bytes_82 n_byteCount_82 (0 : Int32) n_rest_82 f_bytes f_starts f_ends f_length f_wide f_high f_layerCount f_place) := hD
        refine lv_aload_n hx hb d_Tak_begin_87 rfl (lv_at hl 0 rfl) ?_
        refine lv_iconst (v := (0 : Int32)) hx hb d_Tak_begin_88 (by decide) ?_
        refine va_put (D := (dC, dI)) (ci := 5) (v := .int (0 : Int32)) (ty := .int) (C := R_Tak) (T := F_Tak) (N := 4) hx hb hts in_Tak t_Tak t_Tak_ok n_Tak hown hK hP hD hS 0 rfl rfl 3 (by decide) (hts _ tt201) (fun _ h9 => h9) rfl (by decide +kernel) rfl rfl (Nat.le_of_ble_eq_true rfl) d_Tak_begin_89 (fun H locs hP hD hS => ?_)
        have hP : va_P (dC, dI) vcl (W_TF n_0 n_bytes_a f_0 f_bytes_a f_starts_a f_ends_a n_bytes_k f_bytes_k f_starts_k f_ends_k n_bytes_82 n_byteCount_82 (0 : Int32) (0 : Int32) f_bytes f_starts f_ends f_length f_wide f_high f_layerCount f_place) H := hP
        have hD : va_D A (W_TF n_0 n_bytes_a f_0 f_bytes_a f_starts_a f_ends_a n_bytes_k f_bytes_k f_starts_k f_ends_k n_bytes_82 n_byteCount_82 (0 : Int32) (0 : Int32) f_bytes f_starts f_ends f_length f_wide f_high f_layerCount f_place) := hD
        refine lv_iconst (v := (0 : Int32)) hx hb d_Tak_begin_92 (by decide) ?_
        refine lv_istore (lv' := [(4, .int (0 : Int32)), (0, .ref n_0)]) hx hb d_Tak_begin_93 hl (by decide) rfl (fun ls hl => ?_)
        exact L95 5000 (0 : Int32) n_bytes_82 n_byteCount_82 (0 : Int32) (0 : Int32) H locs ls (lv_sub hl [1, 0] rfl) hP hD hS h
      have h := hq20
      refine lv_iload hx hb d_Tak_begin_20 (lv_at hl 3 rfl) ?_
      refine lv_iload_n hx hb d_Tak_begin_22 rfl (lv_at hl 2 rfl) ?_
      refine lv_icmp_ge (tgt := 82) hx hb d_Tak_begin_23 rfl (fun hc => ?_) (fun hc => ?_)
      · replace h := ot hc h
        exact L82 n_bytes_20 n_byteCount_20 n_nextDigit_20 n_rest_20 H locs ls (lv_sub hl [0] rfl) hP hD hS h
      · replace h := of hc h
        refine lv_aload_n hx hb d_Tak_begin_26 rfl (lv_at hl 0 rfl) ?_
        refine va_get (D := (dC, dI)) (ci := 5) (v := .int n_byteCount_20) (C := R_Tak) (T := F_Tak) (N := 4) hx hb hts in_Tak hown hK hP 0 rfl rfl 1 (by decide) (hts _ tt199) (fun _ h9 => h9) rfl d_Tak_begin_27 ?_
        refine lv_sipush (v := (900 : Int32)) hx hb d_Tak_begin_30 (by decide) ?_
        refine lv_icmp_ge (tgt := 82) hx hb d_Tak_begin_33 rfl (fun hc => ?_) (fun hc => ?_)
        · replace h := ot hc h
          exact L82 n_bytes_20 n_byteCount_20 n_nextDigit_20 n_rest_20 H locs ls (lv_sub hl [0] rfl) hP hD hS h
        · replace h := of hc h
          refine lv_aload_n hx hb d_Tak_begin_36 rfl (lv_at hl 0 rfl) ?_
          refine va_get (D := (dC, dI)) (ci := 5) (v := .ref n_bytes_a) (C := R_Tak) (T := F_Tak) (N := 4) hx hb hts in_Tak hown hK hP 0 rfl rfl 0 (by decide) (hts _ tt198) (fun _ h9 => h9) rfl d_Tak_begin_37 ?_
          refine lv_aload_n hx hb d_Tak_begin_40 rfl (lv_at hl 0 rfl) ?_
          refine va_get (D := (dC, dI)) (ci := 5) (v := .int n_byteCount_20) (C := R_Tak) (T := F_Tak) (N := 4) hx hb hts in_Tak hown hK hP 0 rfl rfl 1 (by decide) (hts _ tt199) (fun _ h9 => h9) rfl d_Tak_begin_41 ?_
          refine lv_aload_n hx hb d_Tak_begin_44 rfl (lv_at hl 1 rfl) ?_
          refine lv_iload hx hb d_Tak_begin_45 (lv_at hl 3 rfl) ?_
          obtain ⟨z2, hz2, h⟩ := ob h
          refine x_goI (res := z2) (w1 := (W_F f_0 f_bytes_a f_starts_a f_ends_a f_bytes_k f_starts_k f_ends_k f_bytes f_starts f_ends f_length f_wide f_high f_layerCount f_place)) (ws' := (W_TF n_0 n_bytes_a f_0 f_bytes_a f_starts_a f_ends_a n_bytes_k f_bytes_k f_starts_k f_ends_k n_bytes_20 n_byteCount_20 n_nextDigit_20 n_rest_20 f_bytes f_starts f_ends f_length f_wide f_high f_layerCount f_place)) (wr := List.filterMap (fun (i : Nat) => (W_TF n_0 n_bytes_a f_0 f_bytes_a f_starts_a f_ends_a n_bytes_k f_bytes_k f_starts_k f_ends_k n_bytes_20 n_byteCount_20 n_nextDigit_20 n_rest_20 f_bytes f_starts f_ends f_length f_wide f_high f_layerCount f_place)[i]?) ([0, 1] : List Nat)) (va_runV (As := [.int x4_20]) (rest := [.int n_byteCount_20, .ref n_bytes_a]) ⟨hx, hb, hml, hown, hts⟩ (c_Fil_at l dC dI f_0 f_bytes_a f_starts_a f_ends_a f_bytes_k f_starts_k f_ends_k x4_20 f_bytes f_starts f_ends f_length f_wide f_high f_layerCount f_place z2  hz2 H.size) ⟨callB_of 1 hts (gT tt549 TT_good) rfl rfl rfl (hts _ tt47) (hts _ tt588) (by decide +kernel) ⟨Nat.le_of_ble_eq_true rfl, Nat.le_of_ble_eq_true rfl⟩, hts _ tt547, hts _ tt548⟩ (x_preV (q := (R_Fil, F_Fil, 8)) (As := [.int x4_20]) (x_pre (wc := (W_F f_0 f_bytes_a f_starts_a f_ends_a f_bytes_k f_starts_k f_ends_k f_bytes f_starts f_ends f_length f_wide f_high f_layerCount f_place)) (av := (.ref f_0 :: [.int x4_20])) hK hP hD hS hA hG [1, 2, 3] [2, 3, 4, 5] rfl rfl (by decide)) hK hP (q0 := 2) rfl rfl) rfl rfl hl.1 rfl (lv_room (Nat.le_of_ble_eq_true rfl)) d_Tak_begin_47 ⟨Nat.zero_le _, Nat.zero_le _⟩) hP hD hS hA [2, 3, 4, 5] [0, 1] [0, 1, 2, 3, 4, 5] rfl rfl (by decide) (by decide) (by decide) rfl (fun H locs hP hD hS => ?_)
          obtain ⟨hin, h⟩ := og h
          refine va_iast hx hb hK hP hD hS 1 0 rfl rfl (vpb_in hin) d_Tak_begin_50 (fun H locs hP hD hS => ?_)
          have hP : va_P (dC, dI) vcl (W_TF n_0 n_bytes_a f_0 f_bytes_a f_starts_a f_ends_a n_bytes_k f_bytes_k f_starts_k f_ends_k (upd n_bytes_20 n_byteCount_20.toNatClampNeg z2) n_byteCount_20 n_nextDigit_20 n_rest_20 f_bytes f_starts f_ends f_length f_wide f_high f_layerCount f_place) H := hP
          have hD : va_D A (W_TF n_0 n_bytes_a f_0 f_bytes_a f_starts_a f_ends_a n_bytes_k f_bytes_k f_starts_k f_ends_k (upd n_bytes_20 n_byteCount_20.toNatClampNeg z2) n_byteCount_20 n_nextDigit_20 n_rest_20 f_bytes f_starts f_ends f_length f_wide f_high f_layerCount f_place) := hD
          refine lv_aload_n hx hb d_Tak_begin_51 rfl (lv_at hl 0 rfl) ?_
          refine lv_dup hx hb d_Tak_begin_52 rfl ?_
          refine va_get (D := (dC, dI)) (ci := 5) (v := .int n_byteCount_20) (C := R_Tak) (T := F_Tak) (N := 4) hx hb hts in_Tak hown hK hP 0 rfl rfl 1 (by decide) (hts _ tt199) (fun _ h9 => h9) rfl d_Tak_begin_53 ?_
          refine lv_iconst (v := (1 : Int32)) hx hb d_Tak_begin_56 (by decide) ?_
          refine lv_iadd hx hb d_Tak_begin_57 ?_
          refine va_put (D := (dC, dI)) (ci := 5) (v := .int (n_byteCount_20 + (1 : Int32))) (ty := .int) (C := R_Tak) (T := F_Tak) (N := 4) hx hb hts in_Tak t_Tak t_Tak_ok n_Tak hown hK hP hD hS 0 rfl rfl 1 (by decide) (hts _ tt199) (fun _ h9 => h9) rfl (by decide +kernel) rfl rfl (Nat.le_of_ble_eq_true rfl) d_Tak_begin_58 (fun H locs hP hD hS => ?_)
          have hP : va_P (dC, dI) vcl (W_TF n_0 n_bytes_a f_0 f_bytes_a f_starts_a f_ends_a n_bytes_k f_bytes_k f_starts_k f_ends_k (upd n_bytes_20 n_byteCount_20.toNatClampNeg z2) (n_byteCount_20 + (1 : Int32)) n_nextDigit_20 n_rest_20 f_bytes f_starts f_ends f_length f_wide f_high f_layerCount f_place) H := hP
          have hD : va_D A (W_TF n_0 n_bytes_a f_0 f_bytes_a f_starts_a f_ends_a n_bytes_k f_bytes_k f_starts_k f_ends_k (upd n_bytes_20 n_byteCount_20.toNatClampNeg z2) (n_byteCount_20 + (1 : Int32)) n_nextDigit_20 n_rest_20 f_bytes f_starts f_ends f_length f_wide f_high f_layerCount f_place) := hD
          refine lv_aload_n hx hb d_Tak_begin_61 rfl (lv_at hl 1 rfl) ?_
          refine lv_iload hx hb d_Tak_begin_62 (lv_at hl 3 rfl) ?_
          obtain ⟨z3, hz3, h⟩ := ob h
          refine x_goI (res := z3) (w1 := (W_F f_0 f_bytes_a f_starts_a f_ends_a f_bytes_k f_starts_k f_ends_k f_bytes f_starts f_ends f_length f_wide f_high f_layerCount f_place)) (ws' := (W_TF n_0 n_bytes_a f_0 f_bytes_a f_starts_a f_ends_a n_bytes_k f_bytes_k f_starts_k f_ends_k (upd n_bytes_20 n_byteCount_20.toNatClampNeg z2) (n_byteCount_20 + (1 : Int32)) n_nextDigit_20 n_rest_20 f_bytes f_starts f_ends f_length f_wide f_high f_layerCount f_place)) (wr := List.filterMap (fun (i : Nat) => (W_TF n_0 n_bytes_a f_0 f_bytes_a f_starts_a f_ends_a n_bytes_k f_bytes_k f_starts_k f_ends_k (upd n_bytes_20 n_byteCount_20.toNatClampNeg z2) (n_byteCount_20 + (1 : Int32)) n_nextDigit_20 n_rest_20 f_bytes f_starts f_ends f_length f_wide f_high f_layerCount f_place)[i]?) ([0, 1] : List Nat)) (va_runV (As := [.int x4_20]) (rest := []) ⟨hx, hb, hml, hown, hts⟩ (c_Fil_at l dC dI f_0 f_bytes_a f_starts_a f_ends_a f_bytes_k f_starts_k f_ends_k x4_20 f_bytes f_starts f_ends f_length f_wide f_high f_layerCount f_place z3  hz3 H.size) ⟨callB_of 1 hts (gT tt549 TT_good) rfl rfl rfl (hts _ tt47) (hts _ tt588) (by decide +kernel) ⟨Nat.le_of_ble_eq_true rfl, Nat.le_of_ble_eq_true rfl⟩, hts _ tt547, hts _ tt548⟩ (x_preV (q := (R_Fil, F_Fil, 8)) (As := [.int x4_20]) (x_pre (wc := (W_F f_0 f_bytes_a f_starts_a f_ends_a f_bytes_k f_starts_k f_ends_k f_bytes f_starts f_ends f_length f_wide f_high f_layerCount f_place)) (av := (.ref f_0 :: [.int x4_20])) hK hP hD hS hA hG [1, 2, 3] [2, 3, 4, 5] rfl rfl (by decide)) hK hP (q0 := 2) rfl rfl) rfl rfl hl.1 rfl (lv_room (Nat.le_of_ble_eq_true rfl)) d_Tak_begin_64 ⟨Nat.zero_le _, Nat.zero_le _⟩) hP hD hS hA [2, 3, 4, 5] [0, 1] [0, 1, 2, 3, 4, 5] rfl rfl (by decide) (by decide) (by decide) rfl (fun H locs hP hD hS => ?_)
          refine lv_sipush (v := (255 : Int32)) hx hb d_Tak_begin_67 (by decide) ?_
          refine lv_icmp_ne (tgt := 76) hx hb d_Tak_begin_70 rfl (fun hc => ?_) (fun hc => ?_)
          · replace h := of hc h
            refine lv_iinc (k := 3) (v := x4_20 + (1 : Int32)) (lv' := [(4, .int (x4_20 + (1 : Int32))), (0, .ref n_0), (1, .ref f_0), (3, .int x3_20)]) hx hb d_Tak_begin_76 hl rfl rfl (by decide) rfl (fun ls hl => ?_)
            refine lv_goto (tgt := 20) hx hb d_Tak_begin_79 rfl ?_
            exact ih20 x3_20 (x4_20 + (1 : Int32)) (upd n_bytes_20 n_byteCount_20.toNatClampNeg z2) (n_byteCount_20 + (1 : Int32)) n_nextDigit_20 n_rest_20 H locs ls (lv_sub hl [1, 2, 3, 0] rfl) hP hD hS h
          · replace h := ot hc h
            refine lv_iinc (k := 3) (v := x4_20 + (1 : Int32)) (lv' := [(4, .int (x4_20 + (1 : Int32))), (0, .ref n_0), (1, .ref f_0), (3, .int x3_20)]) hx hb d_Tak_begin_73 hl rfl rfl (by decide) rfl (fun ls hl => ?_)
            refine lv_iinc (k := 0) (v := x4_20 + (1 : Int32) + (1 : Int32)) (lv' := [(4, .int (x4_20 + (1 : Int32) + (1 : Int32))), (0, .ref n_0), (1, .ref f_0), (3, .int x3_20)]) hx hb d_Tak_begin_76 hl rfl rfl (by decide) rfl (fun ls hl => ?_)
            refine lv_goto (tgt := 20) hx hb d_Tak_begin_79 rfl ?_
            exact ih20 x3_20 (x4_20 + (1 : Int32) + (1 : Int32)) (upd n_bytes_20 n_byteCount_20.toNatClampNeg z2) (n_byteCount_20 + (1 : Int32)) n_nextDigit_20 n_rest_20 H locs ls (lv_sub hl [1, 2, 3, 0] rfl) hP hD hS h
  have h := hq
  refine lv_aload_n hx hb d_Tak_begin_0 rfl (lv_at hl 1 rfl) ?_
  refine va_getN (D := (dC, dI)) (ci := 2) (v := .ref f_ends_a) (C := R_Fil) (T := F_Fil) (N := 8) hx hb hts in_Fil hown hK hP 2 rfl rfl 2 (by decide) (va_Nw.use rfl (hN _ nn102)) (fun _ h9 => h9) rfl d_Tak_begin_1 ?_
  refine lv_iload_n hx hb d_Tak_begin_4 rfl (lv_at hl 2 rfl) ?_
  obtain ⟨hin, h⟩ := og h
  refine va_iald hx hb hK hP 5 3 rfl rfl (vpb_in hin) d_Tak_begin_5 ?_
  refine lv_istore_n (lv' := [(3, .int (f_ends i_layer.toNatClampNeg)), (0, .ref n_0), (1, .ref f_0), (2, .int i_layer)]) hx hb d_Tak_begin_6 rfl hl (by decide) rfl (fun ls hl => ?_)
  refine lv_aload_n hx hb d_Tak_begin_7 rfl (lv_at hl 1 rfl) ?_
  refine lv_iconst (v := (0 : Int32)) hx hb d_Tak_begin_8 (by decide) ?_
  refine va_put (D := (dC, dI)) (ci := 5) (v := .int (0 : Int32)) (ty := .int) (C := R_Tak) (T := F_Tak) (N := 4) hx hb hts in_Tak t_Tak t_Tak_ok n_Tak hown hK hP hD hS 0 rfl rfl 1 (by decide) (hts _ tt199) (fun _ h9 => h9) rfl (by decide +kernel) rfl rfl (Nat.le_of_ble_eq_true rfl) d_Tak_begin_9 (fun H locs hP hD hS => ?_)
  have hP : va_P (dC, dI) vcl (W_TF n_0 n_bytes_a f_0 f_bytes_a f_starts_a f_ends_a n_bytes_k f_bytes_k f_starts_k f_ends_k n_bytes (0 : Int32) n_nextDigit n_rest f_bytes f_starts f_ends f_length f_wide f_high f_layerCount f_place) H := hP
  have hD : va_D A (W_TF n_0 n_bytes_a f_0 f_bytes_a f_starts_a f_ends_a n_bytes_k f_bytes_k f_starts_k f_ends_k n_bytes (0 : Int32) n_nextDigit n_rest f_bytes f_starts f_ends f_length f_wide f_high f_layerCount f_place) := hD
  refine lv_aload_n hx hb d_Tak_begin_12 rfl (lv_at hl 2 rfl) ?_
  refine va_getN (D := (dC, dI)) (ci := 2) (v := .ref f_starts_a) (C := R_Fil) (T := F_Fil) (N := 8) hx hb hts in_Fil hown hK hP 2 rfl rfl 1 (by decide) (va_Nw.use rfl (hN _ nn100)) (fun _ h9 => h9) rfl d_Tak_begin_13 ?_
  refine lv_iload_n hx hb d_Tak_begin_16 rfl (lv_at hl 3 rfl) ?_
  obtain ⟨hin, h⟩ := og h
  refine va_iald hx hb hK hP 4 2 rfl rfl (vpb_in hin) d_Tak_begin_17 ?_
  refine lv_istore (lv' := [(4, .int (f_starts i_layer.toNatClampNeg)), (3, .int (f_ends i_layer.toNatClampNeg)), (0, .ref n_0), (1, .ref f_0), (2, .int i_layer)]) hx hb d_Tak_begin_18 hl (by decide) rfl (fun ls hl => ?_)
  exact L20 5000 (f_ends i_layer.toNatClampNeg) (f_starts i_layer.toNatClampNeg) n_bytes (0 : Int32) n_nextDigit n_rest H locs ls (lv_sub hl [2, 3, 1, 0] rfl) hP hD hS h
