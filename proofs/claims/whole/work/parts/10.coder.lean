def W_C (c_0 c_states_a c_favourites_a : Nat) (c_states_k c_favourites_k : ClassId) (c_states : Nat → Int32) (c_favourites : Nat → Int32) (c_span : Int32) (c_decisions : Int32) (c_doublings : Int32) : va_W := [(c_0, .inr (0, [.ref c_states_a, .ref c_favourites_a, .int c_span, .int c_decisions, .int c_doublings])), (c_states_a, .inl (c_states_k, 2563, .inl c_states)), (c_favourites_a, .inl (c_favourites_k, 2563, .inl c_favourites))]
def W_CM (c_0 c_states_a c_favourites_a n_0 n_digits_a : Nat) (c_states_k c_favourites_k n_digits_k : ClassId) (c_states : Nat → Int32) (c_favourites : Nat → Int32) (c_span : Int32) (c_decisions : Int32) (c_doublings : Int32) (n_digits : Nat → Int32) (n_digitCount : Int32) : va_W := [(c_0, .inr (0, [.ref c_states_a, .ref c_favourites_a, .int c_span, .int c_decisions, .int c_doublings])), (c_states_a, .inl (c_states_k, 2563, .inl c_states)), (c_favourites_a, .inl (c_favourites_k, 2563, .inl c_favourites)), (n_0, .inr (3, [.ref n_digits_a, .int n_digitCount])), (n_digits_a, .inl (n_digits_k, 2464, .inl n_digits))]
def W_CT (c_0 c_states_a c_favourites_a n_0 n_bytes_a : Nat) (c_states_k c_favourites_k n_bytes_k : ClassId) (c_states : Nat → Int32) (c_favourites : Nat → Int32) (c_span : Int32) (c_decisions : Int32) (c_doublings : Int32) (n_bytes : Nat → Int32) (n_byteCount : Int32) (n_nextDigit : Int32) (n_rest : Int32) : va_W := [(c_0, .inr (0, [.ref c_states_a, .ref c_favourites_a, .int c_span, .int c_decisions, .int c_doublings])), (c_states_a, .inl (c_states_k, 2563, .inl c_states)), (c_favourites_a, .inl (c_favourites_k, 2563, .inl c_favourites)), (n_0, .inr (5, [.ref n_bytes_a, .int n_byteCount, .int n_nextDigit, .int n_rest])), (n_bytes_a, .inl (n_bytes_k, 900, .inl n_bytes))]
def q_fill2563_5 (i_v : Int32)  : Nat → Int32 → Int32 → (Nat → Int32) → Option ((Nat → Int32))
  | 0, _, _, _ => none
  | n + 1, x2_5, x3_5, a_arr_5 => (if x3_5 ≤ x2_5 then some (a_arr_5) else (if vpb x2_5 2563 = true then (q_fill2563_5 i_v n (x2_5 + (1 : Int32)) x3_5 (upd a_arr_5 x2_5.toNatClampNeg i_v)) else none))
def q_fill2563 (i_v : Int32) (a_arr : Nat → Int32) : Option ((Nat → Int32)) := (q_fill2563_5 i_v  5000 (0 : Int32) (2563 : Int32) a_arr)
abbrev rm_fill2563 : Room := { frames := 0, cells := 0, slots := 0, locals := 0 }
set_option maxHeartbeats 4000000 in
set_option maxRecDepth 100000 in
theorem c_fill2563 (l : Launch) (dC : Nat → ClassId) (dI : Nat → Nat → Nat) (a_arr_a : Nat) (a_arr_k : ClassId) (i_v : Int32) (a_arr : Nat → Int32) (z : (Nat → Int32))  (hq : q_fill2563 i_v a_arr = some z) (sz : Nat) : MetV l y_Arr_fill2 b_Arr_fill2 4 TT rm_fill2563 (dC, dI) vcl [(a_arr_k, .int)] (W_A2563 a_arr_a a_arr_k a_arr) (W_A2563 a_arr_a a_arr_k z) [.ref a_arr_a, .int i_v] sz := by
  refine x_ofV (by decide) (Nat.le_of_ble_eq_true rfl) ?_ sz
  intro p e s m args below meth c A Q ls hx hb hml hown hts hA hG hK hP hD hS hl hret
  have hown : s.vm.findClass R_Arr = some m.cls := hown
  have hl : lv_has ls 4 [(0, .ref a_arr_a), (1, .int i_v)] := hl
  obtain ⟨⟨tq, hZ, hTq⟩, hN⟩ := id hG
  obtain ⟨H, hH⟩ : ∃ H, H = s.heap := ⟨_, rfl⟩
  obtain ⟨locs, hlocs⟩ : ∃ locs : List Loc, locs = [] := ⟨_, rfl⟩
  rw [← hH] at hP
  have hS : va_S A s.heap H locs := by rw [hH, hlocs]; exact hS
  suffices hgo : W p l e rm_fill2563 s m args below meth c H locs 0 0 Q (F0 m 0 ls []) by rw [hH, hlocs] at hgo; exact hgo
  unfold q_fill2563 at hq
  have L5 : ∀ (n5 : Nat) (x2_5 : Int32) (x3_5 : Int32) (a_arr_5 : Nat → Int32) (H : Heap) (locs : List Loc) (ls : Array Slot), lv_has ls 4 [(0, .ref a_arr_a), (1, .int i_v), (2, .int x2_5), (3, .int x3_5)] → va_P (dC, dI) vcl (W_A2563 a_arr_a a_arr_k a_arr_5) H → va_D A (W_A2563 a_arr_a a_arr_k a_arr_5) → va_S A s.heap H locs → q_fill2563_5 i_v  n5 x2_5 x3_5 a_arr_5 = some z → W p l e rm_fill2563 s m args below meth c H locs 0 0 Q (F0 m 5 ls []) := by
    intro n5
    induction n5 with
    | zero =>
      intro x2_5 x3_5 a_arr_5 H locs ls hl hP hD hS hq
      rw [q_fill2563_5] at hq
      cases hq
    | succ n5 ih5 =>
      intro x2_5 x3_5 a_arr_5 H locs ls hl hP hD hS hq5
      rw [q_fill2563_5] at hq5
      have h := hq5
      refine lv_iload_n hx hb d_Arr_fill2_5 rfl (lv_at hl 2 rfl) ?_
      refine lv_iload_n hx hb d_Arr_fill2_6 rfl (lv_at hl 3 rfl) ?_
      refine lv_icmp_ge (tgt := 20) hx hb d_Arr_fill2_7 rfl (fun hc => ?_) (fun hc => ?_)
      · replace h := ot hc h
        obtain rfl := Option.some.inj h
        exact hret H locs 20 ls d_Arr_fill2_20 hP hD hS
      · replace h := of hc h
        refine lv_aload_n hx hb d_Arr_fill2_10 rfl (lv_at hl 0 rfl) ?_
        refine lv_iload_n hx hb d_Arr_fill2_11 rfl (lv_at hl 2 rfl) ?_
        refine lv_iload_n hx hb d_Arr_fill2_12 rfl (lv_at hl 1 rfl) ?_
        obtain ⟨hin, h⟩ := og h
        refine va_iast hx hb hK hP hD hS 0 0 rfl rfl (vpb_in hin) d_Arr_fill2_13 (fun H locs hP hD hS => ?_)
        have hP : va_P (dC, dI) vcl (W_A2563 a_arr_a a_arr_k (upd a_arr_5 x2_5.toNatClampNeg i_v)) H := hP
        have hD : va_D A (W_A2563 a_arr_a a_arr_k (upd a_arr_5 x2_5.toNatClampNeg i_v)) := hD
        refine lv_iinc (k := 2) (v := x2_5 + (1 : Int32)) (lv' := [(2, .int (x2_5 + (1 : Int32))), (0, .ref a_arr_a), (1, .int i_v), (3, .int x3_5)]) hx hb d_Arr_fill2_14 hl rfl rfl (by decide) rfl (fun ls hl => ?_)
        refine lv_goto (tgt := 5) hx hb d_Arr_fill2_17 rfl ?_
        exact ih5 (x2_5 + (1 : Int32)) x3_5 (upd a_arr_5 x2_5.toNatClampNeg i_v) H locs ls (lv_sub hl [1, 2, 0, 3] rfl) hP hD hS h
  have h := hq
  refine lv_iconst (v := (0 : Int32)) hx hb d_Arr_fill2_0 (by decide) ?_
  refine lv_istore_n (lv' := [(2, .int (0 : Int32)), (0, .ref a_arr_a), (1, .int i_v)]) hx hb d_Arr_fill2_1 rfl hl (by decide) rfl (fun ls hl => ?_)
  refine lv_aload_n hx hb d_Arr_fill2_2 rfl (lv_at hl 1 rfl) ?_
  refine va_alen (v := (2563 : Int32)) hx hb hK hP 0 0 rfl rfl rfl d_Arr_fill2_3 ?_
  refine lv_istore_n (lv' := [(3, .int (2563 : Int32)), (2, .int (0 : Int32)), (0, .ref a_arr_a), (1, .int i_v)]) hx hb d_Arr_fill2_4 rfl hl (by decide) rfl (fun ls hl => ?_)
  exact L5 5000 (0 : Int32) (2563 : Int32) a_arr H locs ls (lv_sub hl [2, 3, 1, 0] rfl) hP hD hS h
theorem d_Cod_begin_0 : decode b_Cod_begin 0 = .ok (.aload_n 0, 1) := by decide +kernel
theorem d_Cod_begin_1 : decode b_Cod_begin 1 = .ok (.getfield 9, 3) := by decide +kernel
theorem d_Cod_begin_4 : decode b_Cod_begin 4 = .ok (.iconst (0), 1) := by decide +kernel
theorem d_Cod_begin_5 : decode b_Cod_begin 5 = .ok (.invokestatic 29, 3) := by decide +kernel
theorem d_Cod_begin_8 : decode b_Cod_begin 8 = .ok (.aload_n 0, 1) := by decide +kernel
theorem d_Cod_begin_9 : decode b_Cod_begin 9 = .ok (.getfield 15, 3) := by decide +kernel
theorem d_Cod_begin_12 : decode b_Cod_begin 12 = .ok (.iconst (0), 1) := by decide +kernel
theorem d_Cod_begin_13 : decode b_Cod_begin 13 = .ok (.invokestatic 29, 3) := by decide +kernel
theorem d_Cod_begin_16 : decode b_Cod_begin 16 = .ok (.aload_n 0, 1) := by decide +kernel
theorem d_Cod_begin_17 : decode b_Cod_begin 17 = .ok (.ldc 18, 2) := by decide +kernel
theorem d_Cod_begin_19 : decode b_Cod_begin 19 = .ok (.putfield 19, 3) := by decide +kernel
theorem d_Cod_begin_22 : decode b_Cod_begin 22 = .ok (.aload_n 0, 1) := by decide +kernel
theorem d_Cod_begin_23 : decode b_Cod_begin 23 = .ok (.iconst (0), 1) := by decide +kernel
theorem d_Cod_begin_24 : decode b_Cod_begin 24 = .ok (.putfield 23, 3) := by decide +kernel
theorem d_Cod_begin_27 : decode b_Cod_begin 27 = .ok (.aload_n 0, 1) := by decide +kernel
theorem d_Cod_begin_28 : decode b_Cod_begin 28 = .ok (.iconst (0), 1) := by decide +kernel
theorem d_Cod_begin_29 : decode b_Cod_begin 29 = .ok (.putfield 26, 3) := by decide +kernel
theorem d_Cod_begin_32 : decode b_Cod_begin 32 = .ok (.return_, 1) := by decide +kernel
def q_Cod_begin  (c_states : Nat → Int32) (c_favourites : Nat → Int32) (c_span : Int32) (c_decisions : Int32) (c_doublings : Int32) : Option ((Nat → Int32) × (Nat → Int32) × Int32 × Int32 × Int32) := ((q_fill2563 (0 : Int32) c_states).bind fun z1 => ((q_fill2563 (0 : Int32) c_favourites).bind fun z2 => some (z1, z2, (65536 : Int32), (0 : Int32), (0 : Int32))))
abbrev rm_Cod_begin : Room := { frames := 1, cells := 0, slots := 0, locals := 23 }
set_option maxHeartbeats 4000000 in
set_option maxRecDepth 100000 in
theorem c_Cod_begin (l : Launch) (dC : Nat → ClassId) (dI : Nat → Nat → Nat) (c_0 c_states_a c_favourites_a : Nat) (c_states_k c_favourites_k : ClassId)  (c_states : Nat → Int32) (c_favourites : Nat → Int32) (c_span : Int32) (c_decisions : Int32) (c_doublings : Int32) (z : (Nat → Int32) × (Nat → Int32) × Int32 × Int32 × Int32)  (hq : q_Cod_begin c_states c_favourites c_span c_decisions c_doublings = some z) (sz : Nat) : MetV l y_Cod_begin b_Cod_begin 1 TT rm_Cod_begin (dC, dI) vcl [(c_states_k, .int), (c_favourites_k, .int)] (W_C c_0 c_states_a c_favourites_a c_states_k c_favourites_k c_states c_favourites c_span c_decisions c_doublings) (W_C c_0 c_states_a c_favourites_a c_states_k c_favourites_k z.1 z.2.1 z.2.2.1 z.2.2.2.1 z.2.2.2.2) [.ref c_0] sz := by
  refine x_ofV (by decide) (Nat.le_of_ble_eq_true rfl) ?_ sz
  intro p e s m args below meth c A Q ls hx hb hml hown hts hA hG hK hP hD hS hl hret
  have hown : s.vm.findClass R_Cod = some m.cls := hown
  have hl : lv_has ls 1 [(0, .ref c_0)] := hl
  obtain ⟨⟨tq, hZ, hTq⟩, hN⟩ := id hG
  obtain ⟨H, hH⟩ : ∃ H, H = s.heap := ⟨_, rfl⟩
  obtain ⟨locs, hlocs⟩ : ∃ locs : List Loc, locs = [] := ⟨_, rfl⟩
  rw [← hH] at hP
  have hS : va_S A s.heap H locs := by rw [hH, hlocs]; exact hS
  suffices hgo : W p l e rm_Cod_begin s m args below meth c H locs 0 0 Q (F0 m 0 ls []) by rw [hH, hlocs] at hgo; exact hgo
  unfold q_Cod_begin at hq
  have h := hq
  refine lv_aload_n hx hb d_Cod_begin_0 rfl (lv_at hl 0 rfl) ?_
  refine va_get (D := (dC, dI)) (ci := 0) (v := .ref c_states_a) (C := R_Cod) (T := F_Cod) (N := 5) hx hb hts in_Cod hown hK hP 0 rfl rfl 0 (by decide) (hts _ tt145) (fun _ h9 => h9) rfl d_Cod_begin_1 ?_
  refine lv_iconst (v := (0 : Int32)) hx hb d_Cod_begin_4 (by decide) ?_
  obtain ⟨z1, hz1, h⟩ := ob h
  refine x_goV (w1 := (W_A2563 c_states_a c_states_k z1)) (ws' := (W_C c_0 c_states_a c_favourites_a c_states_k c_favourites_k z1 c_favourites c_span c_decisions c_doublings)) (wr := List.filterMap (fun (i : Nat) => (W_C c_0 c_states_a c_favourites_a c_states_k c_favourites_k c_states c_favourites c_span c_decisions c_doublings)[i]?) ([0, 2] : List Nat)) (va_runS (As := [.ref c_states_a, .int (0 : Int32)]) (rest := []) ⟨hx, hb, hml, hown, hts⟩ (c_fill2563 l dC dI c_states_a c_states_k (0 : Int32) c_states z1  hz1 H.size) ⟨callB_of 2 hts (gT tt278 TT_good) rfl rfl rfl (hts _ tt58) (hts _ tt434) (by decide +kernel) ⟨Nat.le_of_ble_eq_true rfl, Nat.le_of_ble_eq_true rfl⟩, hts _ tt277⟩ (x_pre (wc := (W_A2563 c_states_a c_states_k c_states)) (av := [.ref c_states_a, .int (0 : Int32)]) hK hP hD hS hA hG [0] [1] rfl rfl (by decide)) rfl rfl hl.1 rfl (lv_room (Nat.le_of_ble_eq_true rfl)) d_Cod_begin_5 ⟨Nat.zero_le _, Nat.zero_le _⟩) hP hD hS hA [1] [0, 2] [0, 2, 1] rfl rfl (by decide) (by decide) (by decide) rfl (fun H locs hP hD hS => ?_)
  refine lv_aload_n hx hb d_Cod_begin_8 rfl (lv_at hl 0 rfl) ?_
  refine va_get (D := (dC, dI)) (ci := 0) (v := .ref c_favourites_a) (C := R_Cod) (T := F_Cod) (N := 5) hx hb hts in_Cod hown hK hP 0 rfl rfl 1 (by decide) (hts _ tt146) (fun _ h9 => h9) rfl d_Cod_begin_9 ?_
  refine lv_iconst (v := (0 : Int32)) hx hb d_Cod_begin_12 (by decide) ?_
  obtain ⟨z2, hz2, h⟩ := ob h
  refine x_goV (w1 := (W_A2563 c_favourites_a c_favourites_k z2)) (ws' := (W_C c_0 c_states_a c_favourites_a c_states_k c_favourites_k z1 z2 c_span c_decisions c_doublings)) (wr := List.filterMap (fun (i : Nat) => (W_C c_0 c_states_a c_favourites_a c_states_k c_favourites_k z1 c_favourites c_span c_decisions c_doublings)[i]?) ([0, 1] : List Nat)) (va_runS (As := [.ref c_favourites_a, .int (0 : Int32)]) (rest := []) ⟨hx, hb, hml, hown, hts⟩ (c_fill2563 l dC dI c_favourites_a c_favourites_k (0 : Int32) c_favourites z2  hz2 H.size) ⟨callB_of 2 hts (gT tt278 TT_good) rfl rfl rfl (hts _ tt58) (hts _ tt434) (by decide +kernel) ⟨Nat.le_of_ble_eq_true rfl, Nat.le_of_ble_eq_true rfl⟩, hts _ tt277⟩ (x_pre (wc := (W_A2563 c_favourites_a c_favourites_k c_favourites)) (av := [.ref c_favourites_a, .int (0 : Int32)]) hK hP hD hS hA hG [1] [2] rfl rfl (by decide)) rfl rfl hl.1 rfl (lv_room (Nat.le_of_ble_eq_true rfl)) d_Cod_begin_13 ⟨Nat.zero_le _, Nat.zero_le _⟩) hP hD hS hA [2] [0, 1] [0, 1, 2] rfl rfl (by decide) (by decide) (by decide) rfl (fun H locs hP hD hS => ?_)
  refine lv_aload_n hx hb d_Cod_begin_16 rfl (lv_at hl 0 rfl) ?_
  refine lv_ldc (own := R_Cod) (v := (65536 : Int32)) hx hb hown (hts _ tt144) d_Cod_begin_17 ?_
  refine va_put (D := (dC, dI)) (ci := 0) (v := .int (65536 : Int32)) (ty := .int) (C := R_Cod) (T := F_Cod) (N := 5) hx hb hts in_Cod t_Cod t_Cod_ok n_Cod hown hK hP hD hS 0 rfl rfl 2 (by decide) (hts _ tt147) (fun _ h9 => h9) rfl (by decide +kernel) rfl rfl (Nat.le_of_ble_eq_true rfl) d_Cod_begin_19 (fun H locs hP hD hS => ?_)
  have hP : va_P (dC, dI) vcl (W_C c_0 c_states_a c_favourites_a c_states_k c_favourites_k z1 z2 (65536 : Int32) c_decisions c_doublings) H := hP
  have hD : va_D A (W_C c_0 c_states_a c_favourites_a c_states_k c_favourites_k z1 z2 (65536 : Int32) c_decisions c_doublings) := hD
  refine lv_aload_n hx hb d_Cod_begin_22 rfl (lv_at hl 0 rfl) ?_
  refine lv_iconst (v := (0 : Int32)) hx hb d_Cod_begin_23 (by decide) ?_
  refine va_put (D := (dC, dI)) (ci := 0) (v := .int (0 : Int32)) (ty := .int) (C := R_Cod) (T := F_Cod) (N := 5) hx hb hts in_Cod t_Cod t_Cod_ok n_Cod hown hK hP hD hS 0 rfl rfl 3 (by decide) (hts _ tt148) (fun _ h9 => h9) rfl (by decide +kernel) rfl rfl (Nat.le_of_ble_eq_true rfl) d_Cod_begin_24 (fun H locs hP hD hS => ?_)
  have hP : va_P (dC, dI) vcl (W_C c_0 c_states_a c_favourites_a c_states_k c_favourites_k z1 z2 (65536 : Int32) (0 : Int32) c_doublings) H := hP
  have hD : va_D A (W_C c_0 c_states_a c_favourites_a c_states_k c_favourites_k z1 z2 (65536 : Int32) (0 : Int32) c_doublings) := hD
  refine lv_aload_n hx hb d_Cod_begin_27 rfl (lv_at hl 0 rfl) ?_
  refine lv_iconst (v := (0 : Int32)) hx hb d_Cod_begin_28 (by decide) ?_
  refine va_put (D := (dC, dI)) (ci := 0) (v := .int (0 : Int32)) (ty := .int) (C := R_Cod) (T := F_Cod) (N := 5) hx hb hts in_Cod t_Cod t_Cod_ok n_Cod hown hK hP hD hS 0 rfl rfl 4 (by decide) (hts _ tt150) (fun _ h9 => h9) rfl (by decide +kernel) rfl rfl (Nat.le_of_ble_eq_true rfl) d_Cod_begin_29 (fun H locs hP hD hS => ?_)
  have hP : va_P (dC, dI) vcl (W_C c_0 c_states_a c_favourites_a c_states_k c_favourites_k z1 z2 (65536 : Int32) (0 : Int32) (0 : Int32)) H := hP
  have hD : va_D A (W_C c_0 c_states_a c_favourites_a c_states_k c_favourites_k z1 z2 (65536 : Int32) (0 : Int32) (0 : Int32)) := hD
  obtain rfl := Option.some.inj h
  exact hret H locs 32 ls d_Cod_begin_32 hP hD hS
theorem d_Cod_adapt_0 : decode b_Cod_adapt 0 = .ok (.aload_n 0, 1) := by decide +kernel
theorem d_Cod_adapt_1 : decode b_Cod_adapt 1 = .ok (.getfield 9, 3) := by decide +kernel
theorem d_Cod_adapt_4 : decode b_Cod_adapt 4 = .ok (.iload_n 1, 1) := by decide +kernel
theorem d_Cod_adapt_5 : decode b_Cod_adapt 5 = .ok (.iaload, 1) := by decide +kernel
theorem d_Cod_adapt_6 : decode b_Cod_adapt 6 = .ok (.istore_n 3, 1) := by decide +kernel
theorem d_Cod_adapt_7 : decode b_Cod_adapt 7 = .ok (.iload_n 2, 1) := by decide +kernel
theorem d_Cod_adapt_8 : decode b_Cod_adapt 8 = .ok (.ifCond .eq (20), 3) := by decide +kernel
theorem d_Cod_adapt_11 : decode b_Cod_adapt 11 = .ok (.aload_n 0, 1) := by decide +kernel
theorem d_Cod_adapt_12 : decode b_Cod_adapt 12 = .ok (.getfield 9, 3) := by decide +kernel
theorem d_Cod_adapt_15 : decode b_Cod_adapt 15 = .ok (.iload_n 1, 1) := by decide +kernel
theorem d_Cod_adapt_16 : decode b_Cod_adapt 16 = .ok (.bipush (23), 2) := by decide +kernel
theorem d_Cod_adapt_18 : decode b_Cod_adapt 18 = .ok (.iload_n 3, 1) := by decide +kernel
theorem d_Cod_adapt_19 : decode b_Cod_adapt 19 = .ok (.iconst (1), 1) := by decide +kernel
theorem d_Cod_adapt_20 : decode b_Cod_adapt 20 = .ok (.iadd, 1) := by decide +kernel
theorem d_Cod_adapt_21 : decode b_Cod_adapt 21 = .ok (.invokestatic 57, 3) := by decide +kernel
theorem d_Cod_adapt_24 : decode b_Cod_adapt 24 = .ok (.iastore, 1) := by decide +kernel
theorem d_Cod_adapt_25 : decode b_Cod_adapt 25 = .ok (.goto (37), 3) := by decide +kernel
theorem d_Cod_adapt_28 : decode b_Cod_adapt 28 = .ok (.iload_n 3, 1) := by decide +kernel
theorem d_Cod_adapt_29 : decode b_Cod_adapt 29 = .ok (.ifCond .ne (20), 3) := by decide +kernel
theorem d_Cod_adapt_32 : decode b_Cod_adapt 32 = .ok (.aload_n 0, 1) := by decide +kernel
theorem d_Cod_adapt_33 : decode b_Cod_adapt 33 = .ok (.getfield 15, 3) := by decide +kernel
theorem d_Cod_adapt_36 : decode b_Cod_adapt 36 = .ok (.iload_n 1, 1) := by decide +kernel
theorem d_Cod_adapt_37 : decode b_Cod_adapt 37 = .ok (.iconst (1), 1) := by decide +kernel
theorem d_Cod_adapt_38 : decode b_Cod_adapt 38 = .ok (.aload_n 0, 1) := by decide +kernel
theorem d_Cod_adapt_39 : decode b_Cod_adapt 39 = .ok (.getfield 15, 3) := by decide +kernel
theorem d_Cod_adapt_42 : decode b_Cod_adapt 42 = .ok (.iload_n 1, 1) := by decide +kernel
theorem d_Cod_adapt_43 : decode b_Cod_adapt 43 = .ok (.iaload, 1) := by decide +kernel
theorem d_Cod_adapt_44 : decode b_Cod_adapt 44 = .ok (.isub, 1) := by decide +kernel
theorem d_Cod_adapt_45 : decode b_Cod_adapt 45 = .ok (.iastore, 1) := by decide +kernel
theorem d_Cod_adapt_46 : decode b_Cod_adapt 46 = .ok (.goto (16), 3) := by decide +kernel
theorem d_Cod_adapt_49 : decode b_Cod_adapt 49 = .ok (.aload_n 0, 1) := by decide +kernel
theorem d_Cod_adapt_50 : decode b_Cod_adapt 50 = .ok (.getfield 9, 3) := by decide +kernel
theorem d_Cod_adapt_53 : decode b_Cod_adapt 53 = .ok (.iload_n 1, 1) := by decide +kernel
theorem d_Cod_adapt_54 : decode b_Cod_adapt 54 = .ok (.iconst (0), 1) := by decide +kernel
theorem d_Cod_adapt_55 : decode b_Cod_adapt 55 = .ok (.iload_n 3, 1) := by decide +kernel
theorem d_Cod_adapt_56 : decode b_Cod_adapt 56 = .ok (.iconst (2), 1) := by decide +kernel
theorem d_Cod_adapt_57 : decode b_Cod_adapt 57 = .ok (.isub, 1) := by decide +kernel
theorem d_Cod_adapt_58 : decode b_Cod_adapt 58 = .ok (.invokestatic 63, 3) := by decide +kernel
theorem d_Cod_adapt_61 : decode b_Cod_adapt 61 = .ok (.iastore, 1) := by decide +kernel
theorem d_Cod_adapt_62 : decode b_Cod_adapt 62 = .ok (.return_, 1) := by decide +kernel
def q_Cod_adapt (i_context : Int32) (i_favoured : Int32) (c_states : Nat → Int32) (c_favourites : Nat → Int32) : Option ((Nat → Int32) × (Nat → Int32)) := (if vpb i_context 2563 = true then (if i_favoured = 0 then (if (c_states i_context.toNatClampNeg) = 0 then (if vpb i_context 2563 = true then (if vpb i_context 2563 = true then some (c_states, upd c_favourites i_context.toNatClampNeg ((1 : Int32) - (c_favourites i_context.toNatClampNeg))) else none) else none) else (if vpb i_context 2563 = true then some (upd c_states i_context.toNatClampNeg (if (0 : Int32) < (c_states i_context.toNatClampNeg) - (2 : Int32) then (c_states i_context.toNatClampNeg) - (2 : Int32) else (0 : Int32)), c_favourites) else none)) else (if vpb i_context 2563 = true then some (upd c_states i_context.toNatClampNeg (if (c_states i_context.toNatClampNeg) + (1 : Int32) < (23 : Int32) then (c_states i_context.toNatClampNeg) + (1 : Int32) else (23 : Int32)), c_favourites) else none)) else none)
abbrev rm_Cod_adapt : Room := { frames := 1, cells := 0, slots := 0, locals := 21 }
set_option maxHeartbeats 4000000 in
set_option maxRecDepth 100000 in
theorem c_Cod_adapt (l : Launch) (dC : Nat → ClassId) (dI : Nat → Nat → Nat) (c_0 c_states_a c_favourites_a : Nat) (c_states_k c_favourites_k : ClassId) (i_context : Int32) (i_favoured : Int32) (c_states : Nat → Int32) (c_favourites : Nat → Int32) (c_span : Int32) (c_decisions : Int32) (c_doublings : Int32) (z : (Nat → Int32) × (Nat → Int32))  (hq : q_Cod_adapt i_context i_favoured c_states c_favourites = some z) (sz : Nat) : MetV l y_Cod_adapt b_Cod_adapt 4 TT rm_Cod_adapt (dC, dI) vcl [(c_states_k, .int), (c_favourites_k, .int)] (W_C c_0 c_states_a c_favourites_a c_states_k c_favourites_k c_states c_favourites c_span c_decisions c_doublings) (W_C c_0 c_states_a c_favourites_a c_states_k c_favourites_k z.1 z.2 c_span c_decisions c_doublings) [.ref c_0, .int i_context, .int i_favoured] sz := by
  refine x_ofV (by decide) (Nat.le_of_ble_eq_true rfl) ?_ sz
  intro p e s m args below meth c A Q ls hx hb hml hown hts hA hG hK hP hD hS hl hret
  have hown : s.vm.findClass R_Cod = some m.cls := hown
  have hl : lv_has ls 4 [(0, .ref c_0), (1, .int i_context), (2, .int i_favoured)] := hl
  obtain ⟨⟨tq, hZ, hTq⟩, hN⟩ := id hG
  obtain ⟨H, hH⟩ : ∃ H, H = s.heap := ⟨_, rfl⟩
  obtain ⟨locs, hlocs⟩ : ∃ locs : List Loc, locs = [] := ⟨_, rfl⟩
  rw [← hH] at hP
  have hS : va_S A s.heap H locs := by rw [hH, hlocs]; exact hS
  suffices hgo : W p l e rm_Cod_adapt s m args below meth c H locs 0 0 Q (F0 m 0 ls []) by rw [hH, hlocs] at hgo; exact hgo
  unfold q_Cod_adapt at hq
  have h := hq
  refine lv_aload_n hx hb d_Cod_adapt_0 rfl (lv_at hl 0 rfl) ?_
  refine va_get (D := (dC, dI)) (ci := 0) (v := .ref c_states_a) (C := R_Cod) (T := F_Cod) (N := 5) hx hb hts in_Cod hown hK hP 0 rfl rfl 0 (by decide) (hts _ tt145) (fun _ h9 => h9) rfl d_Cod_adapt_1 ?_
  refine lv_iload_n hx hb d_Cod_adapt_4 rfl (lv_at hl 1 rfl) ?_
  obtain ⟨hin, h⟩ := og h
  refine va_iald hx hb hK hP 1 0 rfl rfl (vpb_in hin) d_Cod_adapt_5 ?_
  refine lv_istore_n (lv' := [(3, .int (c_states i_context.toNatClampNeg)), (0, .ref c_0), (1, .int i_context), (2, .int i_favoured)]) hx hb d_Cod_adapt_6 rfl hl (by decide) rfl (fun ls hl => ?_)
  refine lv_iload_n hx hb d_Cod_adapt_7 rfl (lv_at hl 3 rfl) ?_
  refine lv_if_eq (tgt := 28) hx hb d_Cod_adapt_8 rfl (fun hc => ?_) (fun hc => ?_)
  · replace h := ot hc h
    refine lv_iload_n hx hb d_Cod_adapt_28 rfl (lv_at hl 0 rfl) ?_
    refine lv_if_ne (tgt := 49) hx hb d_Cod_adapt_29 rfl (fun hc => ?_) (fun hc => ?_)
    · replace h := of hc h
      refine lv_aload_n hx hb d_Cod_adapt_49 rfl (lv_at hl 1 rfl) ?_
      refine va_get (D := (dC, dI)) (ci := 0) (v := .ref c_states_a) (C := R_Cod) (T := F_Cod) (N := 5) hx hb hts in_Cod hown hK hP 0 rfl rfl 0 (by decide) (hts _ tt145) (fun _ h9 => h9) rfl d_Cod_adapt_50 ?_
      refine lv_iload_n hx hb d_Cod_adapt_53 rfl (lv_at hl 2 rfl) ?_
      refine lv_iconst (v := (0 : Int32)) hx hb d_Cod_adapt_54 (by decide) ?_
      refine lv_iload_n hx hb d_Cod_adapt_55 rfl (lv_at hl 0 rfl) ?_
      refine lv_iconst (v := (2 : Int32)) hx hb d_Cod_adapt_56 (by decide) ?_
      refine lv_isub hx hb d_Cod_adapt_57 ?_
      refine va_mmax hx hb (hml.trans hl.1.symm) hown (hts _ tt476) (hts _ tt477) (hts _ tt61) (hts _ tt478) (Nat.le_of_ble_eq_true rfl) (Nat.le_of_ble_eq_true rfl) (Nat.zero_le _) (Nat.zero_le _) d_Cod_adapt_58 ?_
      obtain ⟨hin, h⟩ := og h
      refine va_iast hx hb hK hP hD hS 1 0 rfl rfl (vpb_in hin) d_Cod_adapt_61 (fun H locs hP hD hS => ?_)
      have hP : va_P (dC, dI) vcl (W_C c_0 c_states_a c_favourites_a c_states_k c_favourites_k (upd c_states i_context.toNatClampNeg (if (0 : Int32) < (c_states i_context.toNatClampNeg) - (2 : Int32) then (c_states i_context.toNatClampNeg) - (2 : Int32) else (0 : Int32))) c_favourites c_span c_decisions c_doublings) H := hP
      have hD : va_D A (W_C c_0 c_states_a c_favourites_a c_states_k c_favourites_k (upd c_states i_context.toNatClampNeg (if (0 : Int32) < (c_states i_context.toNatClampNeg) - (2 : Int32) then (c_states i_context.toNatClampNeg) - (2 : Int32) else (0 : Int32))) c_favourites c_span c_decisions c_doublings) := hD
      obtain rfl := Option.some.inj h
      exact hret H locs 62 ls d_Cod_adapt_62 hP hD hS
    · replace h := ot hc h
      refine lv_aload_n hx hb d_Cod_adapt_32 rfl (lv_at hl 1 rfl) ?_
      refine va_get (D := (dC, dI)) (ci := 0) (v := .ref c_favourites_a) (C := R_Cod) (T := F_Cod) (N := 5) hx hb hts in_Cod hown hK hP 0 rfl rfl 1 (by decide) (hts _ tt146) (fun _ h9 => h9) rfl d_Cod_adapt_33 ?_
      refine lv_iload_n hx hb d_Cod_adapt_36 rfl (lv_at hl 2 rfl) ?_
      refine lv_iconst (v := (1 : Int32)) hx hb d_Cod_adapt_37 (by decide) ?_
      refine lv_aload_n hx hb d_Cod_adapt_38 rfl (lv_at hl 1 rfl) ?_
      refine va_get (D := (dC, dI)) (ci := 0) (v := .ref c_favourites_a) (C := R_Cod) (T := F_Cod) (N := 5) hx hb hts in_Cod hown hK hP 0 rfl rfl 1 (by decide) (hts _ tt146) (fun _ h9 => h9) rfl d_Cod_adapt_39 ?_
      refine lv_iload_n hx hb d_Cod_adapt_42 rfl (lv_at hl 2 rfl) ?_
      obtain ⟨hin, h⟩ := og h
      refine va_iald hx hb hK hP 2 1 rfl rfl (vpb_in hin) d_Cod_adapt_43 ?_
      refine lv_isub hx hb d_Cod_adapt_44 ?_
      obtain ⟨hin, h⟩ := og h
      refine va_iast hx hb hK hP hD hS 2 1 rfl rfl (vpb_in hin) d_Cod_adapt_45 (fun H locs hP hD hS => ?_)
      have hP : va_P (dC, dI) vcl (W_C c_0 c_states_a c_favourites_a c_states_k c_favourites_k c_states (upd c_favourites i_context.toNatClampNeg ((1 : Int32) - (c_favourites i_context.toNatClampNeg))) c_span c_decisions c_doublings) H := hP
      have hD : va_D A (W_C c_0 c_states_a c_favourites_a c_states_k c_favourites_k c_states (upd c_favourites i_context.toNatClampNeg ((1 : Int32) - (c_favourites i_context.toNatClampNeg))) c_span c_decisions c_doublings) := hD
      refine lv_goto (tgt := 62) hx hb d_Cod_adapt_46 rfl ?_
      obtain rfl := Option.some.inj h
      exact hret H locs 62 ls d_Cod_adapt_62 hP hD hS
  · replace h := of hc h
    refine lv_aload_n hx hb d_Cod_adapt_11 rfl (lv_at hl 1 rfl) ?_
    refine va_get (D := (dC, dI)) (ci := 0) (v := .ref c_states_a) (C := R_Cod) (T := F_Cod) (N := 5) hx hb hts in_Cod hown hK hP 0 rfl rfl 0 (by decide) (hts _ tt145) (fun _ h9 => h9) rfl d_Cod_adapt_12 ?_
    refine lv_iload_n hx hb d_Cod_adapt_15 rfl (lv_at hl 2 rfl) ?_
    refine lv_bipush (v := (23 : Int32)) hx hb d_Cod_adapt_16 (by decide) ?_
    refine lv_iload_n hx hb d_Cod_adapt_18 rfl (lv_at hl 0 rfl) ?_
    refine lv_iconst (v := (1 : Int32)) hx hb d_Cod_adapt_19 (by decide) ?_
    refine lv_iadd hx hb d_Cod_adapt_20 ?_
    refine va_mmin hx hb (hml.trans hl.1.symm) hown (hts _ tt473) (hts _ tt474) (hts _ tt61) (hts _ tt475) (Nat.le_of_ble_eq_true rfl) (Nat.le_of_ble_eq_true rfl) (Nat.zero_le _) (Nat.zero_le _) d_Cod_adapt_21 ?_
    obtain ⟨hin, h⟩ := og h
    refine va_iast hx hb hK hP hD hS 1 0 rfl rfl (vpb_in hin) d_Cod_adapt_24 (fun H locs hP hD hS => ?_)
    have hP : va_P (dC, dI) vcl (W_C c_0 c_states_a c_favourites_a c_states_k c_favourites_k (upd c_states i_context.toNatClampNeg (if (c_states i_context.toNatClampNeg) + (1 : Int32) < (23 : Int32) then (c_states i_context.toNatClampNeg) + (1 : Int32) else (23 : Int32))) c_favourites c_span c_decisions c_doublings) H := hP
    have hD : va_D A (W_C c_0 c_states_a c_favourites_a c_states_k c_favourites_k (upd c_states i_context.toNatClampNeg (if (c_states i_context.toNatClampNeg) + (1 : Int32) < (23 : Int32) then (c_states i_context.toNatClampNeg) + (1 : Int32) else (23 : Int32))) c_favourites c_span c_decisions c_doublings) := hD
    refine lv_goto (tgt := 62) hx hb d_Cod_adapt_25 rfl ?_
    obtain rfl := Option.some.inj h
    exact hret H locs 62 ls d_Cod_adapt_62 hP hD hS
theorem d_Cod_widen_0 : decode b_Cod_widen 0 = .ok (.iconst (0), 1) := by decide +kernel
theorem d_Cod_widen_1 : decode b_Cod_widen 1 = .ok (.istore_n 2, 1) := by decide +kernel
theorem d_Cod_widen_2 : decode b_Cod_widen 2 = .ok (.iload_n 2, 1) := by decide +kernel
theorem d_Cod_widen_3 : decode b_Cod_widen 3 = .ok (.bipush (16), 2) := by decide +kernel
theorem d_Cod_widen_5 : decode b_Cod_widen 5 = .ok (.if_icmp .ge (42), 3) := by decide +kernel
theorem d_Cod_widen_8 : decode b_Cod_widen 8 = .ok (.aload_n 0, 1) := by decide +kernel
theorem d_Cod_widen_9 : decode b_Cod_widen 9 = .ok (.getfield 19, 3) := by decide +kernel
theorem d_Cod_widen_12 : decode b_Cod_widen 12 = .ok (.ldc 44, 2) := by decide +kernel
theorem d_Cod_widen_14 : decode b_Cod_widen 14 = .ok (.if_icmp .ge (33), 3) := by decide +kernel
theorem d_Cod_widen_17 : decode b_Cod_widen 17 = .ok (.aload_n 0, 1) := by decide +kernel
theorem d_Cod_widen_18 : decode b_Cod_widen 18 = .ok (.dup, 1) := by decide +kernel
theorem d_Cod_widen_19 : decode b_Cod_widen 19 = .ok (.getfield 19, 3) := by decide +kernel
theorem d_Cod_widen_22 : decode b_Cod_widen 22 = .ok (.iconst (2), 1) := by decide +kernel
theorem d_Cod_widen_23 : decode b_Cod_widen 23 = .ok (.imul, 1) := by decide +kernel
theorem d_Cod_widen_24 : decode b_Cod_widen 24 = .ok (.putfield 19, 3) := by decide +kernel
theorem d_Cod_widen_27 : decode b_Cod_widen 27 = .ok (.aload_n 1, 1) := by decide +kernel
theorem d_Cod_widen_28 : decode b_Cod_widen 28 = .ok (.invokevirtual 66, 3) := by decide +kernel
theorem d_Cod_widen_31 : decode b_Cod_widen 31 = .ok (.aload_n 0, 1) := by decide +kernel
theorem d_Cod_widen_32 : decode b_Cod_widen 32 = .ok (.dup, 1) := by decide +kernel
theorem d_Cod_widen_33 : decode b_Cod_widen 33 = .ok (.getfield 26, 3) := by decide +kernel
theorem d_Cod_widen_36 : decode b_Cod_widen 36 = .ok (.iconst (1), 1) := by decide +kernel
theorem d_Cod_widen_37 : decode b_Cod_widen 37 = .ok (.iadd, 1) := by decide +kernel
theorem d_Cod_widen_38 : decode b_Cod_widen 38 = .ok (.putfield 26, 3) := by decide +kernel
theorem d_Cod_widen_41 : decode b_Cod_widen 41 = .ok (.iinc 2 (1), 3) := by decide +kernel
theorem d_Cod_widen_44 : decode b_Cod_widen 44 = .ok (.goto (-42), 3) := by decide +kernel
theorem d_Cod_widen_47 : decode b_Cod_widen 47 = .ok (.return_, 1) := by decide +kernel
def q_Cod_widenM_2   : Nat → Int32 → Int32 → Int32 → (Nat → Int32) → Int32 → Option (Int32 × Int32 × (Nat → Int32) × Int32)
  | 0, _, _, _, _, _ => none
  | n + 1, x2_2, c_span_2, c_doublings_2, n_digits_2, n_digitCount_2 => (if (16 : Int32) ≤ x2_2 then some (c_span_2, c_doublings_2, n_digits_2, n_digitCount_2) else (if (32768 : Int32) ≤ c_span_2 then some (c_span_2, c_doublings_2, n_digits_2, n_digitCount_2) else ((q_Mad_makeDouble n_digits_2 n_digitCount_2).bind fun z1 => (q_Cod_widenM_2  n (x2_2 + (1 : Int32)) (c_span_2 * (2 : Int32)) (c_doublings_2 + (1 : Int32)) z1.1 z1.2))))
def q_Cod_widenM  (c_span : Int32) (c_doublings : Int32) (n_digits : Nat → Int32) (n_digitCount : Int32) : Option (Int32 × Int32 × (Nat → Int32) × Int32) := (q_Cod_widenM_2   5000 (0 : Int32) c_span c_doublings n_digits n_digitCount)
abbrev rm_Cod_widenM : Room := { frames := 1, cells := 0, slots := 0, locals := 20 }
set_option maxHeartbeats 4000000 in
set_option maxRecDepth 100000 in
theorem c_Cod_widenM (l : Launch) (dC : Nat → ClassId) (dI : Nat → Nat → Nat) (c_0 c_states_a c_favourites_a n_0 n_digits_a : Nat) (c_states_k c_favourites_k n_digits_k : ClassId)  (c_states : Nat → Int32) (c_favourites : Nat → Int32) (c_span : Int32) (c_decisions : Int32) (c_doublings : Int32) (n_digits : Nat → Int32) (n_digitCount : Int32) (z : Int32 × Int32 × (Nat → Int32) × Int32)  (hq : q_Cod_widenM c_span c_doublings n_digits n_digitCount = some z) (sz : Nat) : MetV l y_Cod_widen b_Cod_widen 3 TT rm_Cod_widenM (dC, dI) vcl [(c_states_k, .int), (c_favourites_k, .int), (n_digits_k, .int)] (W_CM c_0 c_states_a c_favourites_a n_0 n_digits_a c_states_k c_favourites_k n_digits_k c_states c_favourites c_span c_decisions c_doublings n_digits n_digitCount) (W_CM c_0 c_states_a c_favourites_a n_0 n_digits_a c_states_k c_favourites_k n_digits_k c_states c_favourites z.1 c_decisions z.2.1 z.2.2.1 z.2.2.2) [.ref c_0, .ref n_0] sz := by
  refine x_ofV (by decide) (Nat.le_of_ble_eq_true rfl) ?_ sz
  intro p e s m args below meth c A Q ls hx hb hml hown hts hA hG hK hP hD hS hl hret
  have hown : s.vm.findClass R_Cod = some m.cls := hown
  have hl : lv_has ls 3 [(0, .ref c_0), (1, .ref n_0)] := hl
  obtain ⟨⟨tq, hZ, hTq⟩, hN⟩ := id hG
  obtain ⟨H, hH⟩ : ∃ H, H = s.heap := ⟨_, rfl⟩
  obtain ⟨locs, hlocs⟩ : ∃ locs : List Loc, locs = [] := ⟨_, rfl⟩
  rw [← hH] at hP
  have hS : va_S A s.heap H locs := by rw [hH, hlocs]; exact hS
  suffices hgo : W p l e rm_Cod_widenM s m args below meth c H locs 0 0 Q (F0 m 0 ls []) by rw [hH, hlocs] at hgo; exact hgo
  unfold q_Cod_widenM at hq
  have L2 : ∀ (n2 : Nat) (x2_2 : Int32) (c_span_2 : Int32) (c_doublings_2 : Int32) (n_digits_2 : Nat → Int32) (n_digitCount_2 : Int32) (H : Heap) (locs : List Loc) (ls : Array Slot), lv_has ls 3 [(0, .ref c_0), (1, .ref n_0), (2, .int x2_2)] → va_P (dC, dI) vcl (W_CM c_0 c_states_a c_favourites_a n_0 n_digits_a c_states_k c_favourites_k n_digits_k c_states c_favourites c_span_2 c_decisions c_doublings_2 n_digits_2 n_digitCount_2) H → va_D A (W_CM c_0 c_states_a c_favourites_a n_0 n_digits_a c_states_k c_favourites_k n_digits_k c_states c_favourites c_span_2 c_decisions c_doublings_2 n_digits_2 n_digitCount_2) → va_S A s.heap H locs → q_Cod_widenM_2   n2 x2_2 c_span_2 c_doublings_2 n_digits_2 n_digitCount_2 = some z → W p l e rm_Cod_widenM s m args below meth c H locs 0 0 Q (F0 m 2 ls []) := by
    intro n2
    induction n2 with
    | zero =>
      intro x2_2 c_span_2 c_doublings_2 n_digits_2 n_digitCount_2 H locs ls hl hP hD hS hq
      rw [q_Cod_widenM_2] at hq
      cases hq
    | succ n2 ih2 =>
      intro x2_2 c_span_2 c_doublings_2 n_digits_2 n_digitCount_2 H locs ls hl hP hD hS hq2
      rw [q_Cod_widenM_2] at hq2
      have h := hq2
      refine lv_iload_n hx hb d_Cod_widen_2 rfl (lv_at hl 2 rfl) ?_
      refine lv_bipush (v := (16 : Int32)) hx hb d_Cod_widen_3 (by decide) ?_
      refine lv_icmp_ge (tgt := 47) hx hb d_Cod_widen_5 rfl (fun hc => ?_) (fun hc => ?_)
      · replace h := ot hc h
        obtain rfl := Option.some.inj h
        exact hret H locs 47 ls d_Cod_widen_47 hP hD hS
      · replace h := of hc h
        refine lv_aload_n hx hb d_Cod_widen_8 rfl (lv_at hl 0 rfl) ?_
        refine va_get (D := (dC, dI)) (ci := 0) (v := .int c_span_2) (C := R_Cod) (T := F_Cod) (N := 5) hx hb hts in_Cod hown hK hP 0 rfl rfl 2 (by decide) (hts _ tt147) (fun _ h9 => h9) rfl d_Cod_widen_9 ?_
        refine lv_ldc (own := R_Cod) (v := (32768 : Int32)) hx hb hown (hts _ tt459) d_Cod_widen_12 ?_
        refine lv_icmp_ge (tgt := 47) hx hb d_Cod_widen_14 rfl (fun hc => ?_) (fun hc => ?_)
        · replace h := ot hc h
          obtain rfl := Option.some.inj h
          exact hret H locs 47 ls d_Cod_widen_47 hP hD hS
        · replace h := of hc h
          refine lv_aload_n hx hb d_Cod_widen_17 rfl (lv_at hl 0 rfl) ?_
          refine lv_dup hx hb d_Cod_widen_18 rfl ?_
          refine va_get (D := (dC, dI)) (ci := 0) (v := .int c_span_2) (C := R_Cod) (T := F_Cod) (N := 5) hx hb hts in_Cod hown hK hP 0 rfl rfl 2 (by decide) (hts _ tt147) (fun _ h9 => h9) rfl d_Cod_widen_19 ?_
          refine lv_iconst (v := (2 : Int32)) hx hb d_Cod_widen_22 (by decide) ?_
          refine lv_imul hx hb d_Cod_widen_23 ?_
          refine va_put (D := (dC, dI)) (ci := 0) (v := .int (c_span_2 * (2 : Int32))) (ty := .int) (C := R_Cod) (T := F_Cod) (N := 5) hx hb hts in_Cod t_Cod t_Cod_ok n_Cod hown hK hP hD hS 0 rfl rfl 2 (by decide) (hts _ tt147) (fun _ h9 => h9) rfl (by decide +kernel) rfl rfl (Nat.le_of_ble_eq_true rfl) d_Cod_widen_24 (fun H locs hP hD hS => ?_)
          have hP : va_P (dC, dI) vcl (W_CM c_0 c_states_a c_favourites_a n_0 n_digits_a c_states_k c_favourites_k n_digits_k c_states c_favourites (c_span_2 * (2 : Int32)) c_decisions c_doublings_2 n_digits_2 n_digitCount_2) H := hP
          have hD : va_D A (W_CM c_0 c_states_a c_favourites_a n_0 n_digits_a c_states_k c_favourites_k n_digits_k c_states c_favourites (c_span_2 * (2 : Int32)) c_decisions c_doublings_2 n_digits_2 n_digitCount_2) := hD
          refine lv_aload_n hx hb d_Cod_widen_27 rfl (lv_at hl 1 rfl) ?_
          obtain ⟨z1, hz1, h⟩ := ob h
          refine x_goV (w1 := (W_M n_0 n_digits_a n_digits_k z1.1 z1.2)) (ws' := (W_CM c_0 c_states_a c_favourites_a n_0 n_digits_a c_states_k c_favourites_k n_digits_k c_states c_favourites (c_span_2 * (2 : Int32)) c_decisions c_doublings_2 z1.1 z1.2)) (wr := List.filterMap (fun (i : Nat) => (W_CM c_0 c_states_a c_favourites_a n_0 n_digits_a c_states_k c_favourites_k n_digits_k c_states c_favourites (c_span_2 * (2 : Int32)) c_decisions c_doublings_2 n_digits_2 n_digitCount_2)[i]?) ([0, 1, 2] : List Nat)) (va_runU (As := []) (rest := []) ⟨hx, hb, hml, hown, hts⟩ (c_Mad_makeDouble l dC dI n_0 n_digits_a n_digits_k  n_digits_2 n_digitCount_2 z1  hz1 H.size) (va_cwA (own := "LayeredBits$DecisionCoder") (C := "LayeredBits$MadeNumber") (owner := "LayeredBits$CodeNumber") (x := ⟨"LayeredBits$CodeNumber", "makeDouble", "()V"⟩) 0 hts (gTa (a := [.methodLink "LayeredBits$DecisionCoder" 66 ⟨"LayeredBits$CodeNumber", "makeDouble", "()V"⟩, .sameMethod "LayeredBits$CodeNumber" "LayeredBits$CodeNumber" "makeDouble" "()V", .selects "LayeredBits$MadeNumber" ⟨"LayeredBits$CodeNumber", "makeDouble", "()V"⟩ ⟨"LayeredBits$MadeNumber", "makeDouble", "()V"⟩, .instanceMethod ⟨"LayeredBits$MadeNumber", "makeDouble", "()V"⟩, .initialized "LayeredBits$MadeNumber"]) (x_m5 tt483 tt485 tt486 tt487 tt51) TT_good (gT tt488 TT_good)) rfl rfl rfl (hN _ nn484) (by decide +kernel) ⟨Nat.le_of_ble_eq_true rfl, Nat.le_of_ble_eq_true rfl⟩) (x_preV (q := (R_Mad, F_Mad, 2)) (As := []) (x_pre (wc := (W_M n_0 n_digits_a n_digits_k n_digits_2 n_digitCount_2)) (av := (.ref n_0 :: [])) hK hP hD hS hA hG [2] [3, 4] rfl rfl (by decide)) hK hP (q0 := 3) rfl rfl) rfl rfl hl.1 rfl (lv_room (Nat.le_of_ble_eq_true rfl)) d_Cod_widen_28 ⟨Nat.zero_le _, Nat.zero_le _⟩) hP hD hS hA [3, 4] [0, 1, 2] [0, 1, 2, 3, 4] rfl rfl (by decide) (by decide) (by decide) rfl (fun H locs hP hD hS => ?_)
          refine lv_aload_n hx hb d_Cod_widen_31 rfl (lv_at hl 0 rfl) ?_
          refine lv_dup hx hb d_Cod_widen_32 rfl ?_
          refine va_get (D := (dC, dI)) (ci := 0) (v := .int c_doublings_2) (C := R_Cod) (T := F_Cod) (N := 5) hx hb hts in_Cod hown hK hP 0 rfl rfl 4 (by decide) (hts _ tt150) (fun _ h9 => h9) rfl d_Cod_widen_33 ?_
          refine lv_iconst (v := (1 : Int32)) hx hb d_Cod_widen_36 (by decide) ?_
          refine lv_iadd hx hb d_Cod_widen_37 ?_
          refine va_put (D := (dC, dI)) (ci := 0) (v := .int (c_doublings_2 + (1 : Int32))) (ty := .int) (C := R_Cod) (T := F_Cod) (N := 5) hx hb hts in_Cod t_Cod t_Cod_ok n_Cod hown hK hP hD hS 0 rfl rfl 4 (by decide) (hts _ tt150) (fun _ h9 => h9) rfl (by decide +kernel) rfl rfl (Nat.le_of_ble_eq_true rfl) d_Cod_widen_38 (fun H locs hP hD hS => ?_)
          have hP : va_P (dC, dI) vcl (W_CM c_0 c_states_a c_favourites_a n_0 n_digits_a c_states_k c_favourites_k n_digits_k c_states c_favourites (c_span_2 * (2 : Int32)) c_decisions (c_doublings_2 + (1 : Int32)) z1.1 z1.2) H := hP
          have hD : va_D A (W_CM c_0 c_states_a c_favourites_a n_0 n_digits_a c_states_k c_favourites_k n_digits_k c_states c_favourites (c_span_2 * (2 : Int32)) c_decisions (c_doublings_2 + (1 : Int32)) z1.1 z1.2) := hD
          refine lv_iinc (k := 2) (v := x2_2 + (1 : Int32)) (lv' := [(2, .int (x2_2 + (1 : Int32))), (0, .ref c_0), (1, .ref n_0)]) hx hb d_Cod_widen_41 hl rfl rfl (by decide) rfl (fun ls hl => ?_)
          refine lv_goto (tgt := 2) hx hb d_Cod_widen_44 rfl ?_
          exact ih2 (x2_2 + (1 : Int32)) (c_span_2 * (2 : Int32)) (c_doublings_2 + (1 : Int32)) z1.1 z1.2 H locs ls (lv_sub hl [1, 2, 0] rfl) hP hD hS h
  have h := hq
  refine lv_iconst (v := (0 : Int32)) hx hb d_Cod_widen_0 (by decide) ?_
  refine lv_istore_n (lv' := [(2, .int (0 : Int32)), (0, .ref c_0), (1, .ref n_0)]) hx hb d_Cod_widen_1 rfl hl (by decide) rfl (fun ls hl => ?_)
  exact L2 5000 (0 : Int32) c_span c_doublings n_digits n_digitCount H locs ls (lv_sub hl [1, 2, 0] rfl) hP hD hS h
theorem d_Cod_decide_0 : decode b_Cod_decide 0 = .ok (.getstatic 35, 3) := by decide +kernel
theorem d_Cod_decide_3 : decode b_Cod_decide 3 = .ok (.aload_n 0, 1) := by decide +kernel
theorem d_Cod_decide_4 : decode b_Cod_decide 4 = .ok (.getfield 9, 3) := by decide +kernel
theorem d_Cod_decide_7 : decode b_Cod_decide 7 = .ok (.iload_n 1, 1) := by decide +kernel
theorem d_Cod_decide_8 : decode b_Cod_decide 8 = .ok (.iaload, 1) := by decide +kernel
theorem d_Cod_decide_9 : decode b_Cod_decide 9 = .ok (.iaload, 1) := by decide +kernel
theorem d_Cod_decide_10 : decode b_Cod_decide 10 = .ok (.istore 4, 2) := by decide +kernel
theorem d_Cod_decide_12 : decode b_Cod_decide 12 = .ok (.aload_n 0, 1) := by decide +kernel
theorem d_Cod_decide_13 : decode b_Cod_decide 13 = .ok (.dup, 1) := by decide +kernel
theorem d_Cod_decide_14 : decode b_Cod_decide 14 = .ok (.getfield 19, 3) := by decide +kernel
theorem d_Cod_decide_17 : decode b_Cod_decide 17 = .ok (.iload 4, 2) := by decide +kernel
theorem d_Cod_decide_19 : decode b_Cod_decide 19 = .ok (.isub, 1) := by decide +kernel
theorem d_Cod_decide_20 : decode b_Cod_decide 20 = .ok (.putfield 19, 3) := by decide +kernel
theorem d_Cod_decide_23 : decode b_Cod_decide 23 = .ok (.aload_n 0, 1) := by decide +kernel
theorem d_Cod_decide_24 : decode b_Cod_decide 24 = .ok (.getfield 19, 3) := by decide +kernel
theorem d_Cod_decide_27 : decode b_Cod_decide 27 = .ok (.iload 4, 2) := by decide +kernel
theorem d_Cod_decide_29 : decode b_Cod_decide 29 = .ok (.if_icmp .lt (7), 3) := by decide +kernel
theorem d_Cod_decide_32 : decode b_Cod_decide 32 = .ok (.iconst (1), 1) := by decide +kernel
theorem d_Cod_decide_33 : decode b_Cod_decide 33 = .ok (.goto (4), 3) := by decide +kernel
theorem d_Cod_decide_36 : decode b_Cod_decide 36 = .ok (.iconst (0), 1) := by decide +kernel
theorem d_Cod_decide_37 : decode b_Cod_decide 37 = .ok (.istore 5, 2) := by decide +kernel
theorem d_Cod_decide_39 : decode b_Cod_decide 39 = .ok (.aload_n 3, 1) := by decide +kernel
theorem d_Cod_decide_40 : decode b_Cod_decide 40 = .ok (.iload_n 2, 1) := by decide +kernel
theorem d_Cod_decide_41 : decode b_Cod_decide 41 = .ok (.aload_n 0, 1) := by decide +kernel
theorem d_Cod_decide_42 : decode b_Cod_decide 42 = .ok (.getfield 15, 3) := by decide +kernel
theorem d_Cod_decide_45 : decode b_Cod_decide 45 = .ok (.iload_n 1, 1) := by decide +kernel
theorem d_Cod_decide_46 : decode b_Cod_decide 46 = .ok (.iaload, 1) := by decide +kernel
theorem d_Cod_decide_47 : decode b_Cod_decide 47 = .ok (.iload 5, 2) := by decide +kernel
theorem d_Cod_decide_49 : decode b_Cod_decide 49 = .ok (.aload_n 0, 1) := by decide +kernel
theorem d_Cod_decide_50 : decode b_Cod_decide 50 = .ok (.getfield 19, 3) := by decide +kernel
theorem d_Cod_decide_53 : decode b_Cod_decide 53 = .ok (.invokevirtual 38, 3) := by decide +kernel
theorem d_Cod_decide_56 : decode b_Cod_decide 56 = .ok (.istore 6, 2) := by decide +kernel
theorem d_Cod_decide_58 : decode b_Cod_decide 58 = .ok (.iload 6, 2) := by decide +kernel
theorem d_Cod_decide_60 : decode b_Cod_decide 60 = .ok (.aload_n 0, 1) := by decide +kernel
theorem d_Cod_decide_61 : decode b_Cod_decide 61 = .ok (.getfield 15, 3) := by decide +kernel
theorem d_Cod_decide_64 : decode b_Cod_decide 64 = .ok (.iload_n 1, 1) := by decide +kernel
theorem d_Cod_decide_65 : decode b_Cod_decide 65 = .ok (.iaload, 1) := by decide +kernel
theorem d_Cod_decide_66 : decode b_Cod_decide 66 = .ok (.if_icmp .ne (7), 3) := by decide +kernel
theorem d_Cod_decide_69 : decode b_Cod_decide 69 = .ok (.iconst (1), 1) := by decide +kernel
theorem d_Cod_decide_70 : decode b_Cod_decide 70 = .ok (.goto (4), 3) := by decide +kernel
theorem d_Cod_decide_73 : decode b_Cod_decide 73 = .ok (.iconst (0), 1) := by decide +kernel
theorem d_Cod_decide_74 : decode b_Cod_decide 74 = .ok (.istore 7, 2) := by decide +kernel
theorem d_Cod_decide_76 : decode b_Cod_decide 76 = .ok (.iload 7, 2) := by decide +kernel
theorem d_Cod_decide_78 : decode b_Cod_decide 78 = .ok (.ifCond .eq (12), 3) := by decide +kernel
theorem d_Cod_decide_81 : decode b_Cod_decide 81 = .ok (.aload_n 0, 1) := by decide +kernel
theorem d_Cod_decide_82 : decode b_Cod_decide 82 = .ok (.getfield 19, 3) := by decide +kernel
theorem d_Cod_decide_85 : decode b_Cod_decide 85 = .ok (.ldc 44, 2) := by decide +kernel
theorem d_Cod_decide_87 : decode b_Cod_decide 87 = .ok (.if_icmp .ge (7), 3) := by decide +kernel
theorem d_Cod_decide_90 : decode b_Cod_decide 90 = .ok (.iconst (1), 1) := by decide +kernel
theorem d_Cod_decide_91 : decode b_Cod_decide 91 = .ok (.goto (4), 3) := by decide +kernel
theorem d_Cod_decide_94 : decode b_Cod_decide 94 = .ok (.iconst (0), 1) := by decide +kernel
theorem d_Cod_decide_95 : decode b_Cod_decide 95 = .ok (.istore 8, 2) := by decide +kernel
theorem d_Cod_decide_97 : decode b_Cod_decide 97 = .ok (.iload 7, 2) := by decide +kernel
theorem d_Cod_decide_99 : decode b_Cod_decide 99 = .ok (.iload 5, 2) := by decide +kernel
theorem d_Cod_decide_101 : decode b_Cod_decide 101 = .ok (.if_icmp .eq (17), 3) := by decide +kernel
theorem d_Cod_decide_104 : decode b_Cod_decide 104 = .ok (.aload_n 3, 1) := by decide +kernel
theorem d_Cod_decide_105 : decode b_Cod_decide 105 = .ok (.aload_n 0, 1) := by decide +kernel
theorem d_Cod_decide_106 : decode b_Cod_decide 106 = .ok (.getfield 19, 3) := by decide +kernel
theorem d_Cod_decide_109 : decode b_Cod_decide 109 = .ok (.invokevirtual 45, 3) := by decide +kernel
theorem d_Cod_decide_112 : decode b_Cod_decide 112 = .ok (.aload_n 0, 1) := by decide +kernel
theorem d_Cod_decide_113 : decode b_Cod_decide 113 = .ok (.iload 4, 2) := by decide +kernel
theorem d_Cod_decide_115 : decode b_Cod_decide 115 = .ok (.putfield 19, 3) := by decide +kernel
theorem d_Cod_decide_118 : decode b_Cod_decide 118 = .ok (.iload 8, 2) := by decide +kernel
theorem d_Cod_decide_120 : decode b_Cod_decide 120 = .ok (.ifCond .eq (10), 3) := by decide +kernel
theorem d_Cod_decide_123 : decode b_Cod_decide 123 = .ok (.aload_n 0, 1) := by decide +kernel
theorem d_Cod_decide_124 : decode b_Cod_decide 124 = .ok (.iload_n 1, 1) := by decide +kernel
theorem d_Cod_decide_125 : decode b_Cod_decide 125 = .ok (.iload 7, 2) := by decide +kernel
theorem d_Cod_decide_127 : decode b_Cod_decide 127 = .ok (.invokevirtual 49, 3) := by decide +kernel
theorem d_Cod_decide_130 : decode b_Cod_decide 130 = .ok (.aload_n 0, 1) := by decide +kernel
theorem d_Cod_decide_131 : decode b_Cod_decide 131 = .ok (.aload_n 3, 1) := by decide +kernel
theorem d_Cod_decide_132 : decode b_Cod_decide 132 = .ok (.invokevirtual 53, 3) := by decide +kernel
theorem d_Cod_decide_135 : decode b_Cod_decide 135 = .ok (.aload_n 0, 1) := by decide +kernel
theorem d_Cod_decide_136 : decode b_Cod_decide 136 = .ok (.dup, 1) := by decide +kernel
theorem d_Cod_decide_137 : decode b_Cod_decide 137 = .ok (.getfield 23, 3) := by decide +kernel
theorem d_Cod_decide_140 : decode b_Cod_decide 140 = .ok (.iconst (1), 1) := by decide +kernel
theorem d_Cod_decide_141 : decode b_Cod_decide 141 = .ok (.iadd, 1) := by decide +kernel
theorem d_Cod_decide_142 : decode b_Cod_decide 142 = .ok (.putfield 23, 3) := by decide +kernel
theorem d_Cod_decide_145 : decode b_Cod_decide 145 = .ok (.iload 6, 2) := by decide +kernel
theorem d_Cod_decide_147 : decode b_Cod_decide 147 = .ok (.ireturn, 1) := by decide +kernel
def q_Cod_decideM_130 (i_context : Int32) (i_wanted : Int32)  (x6_130 : Int32) (c_states_130 : Nat → Int32) (c_favourites_130 : Nat → Int32) (c_span_130 : Int32) (c_decisions_130 : Int32) (c_doublings_130 : Int32) (n_digits_130 : Nat → Int32) (n_digitCount_130 : Int32) : Option (Int32 × (Nat → Int32) × (Nat → Int32) × Int32 × Int32 × Int32 × (Nat → Int32) × Int32) := ((q_Cod_widenM c_span_130 c_doublings_130 n_digits_130 n_digitCount_130).bind fun z1 => some (x6_130, c_states_130, c_favourites_130, z1.1, c_decisions_130 + (1 : Int32), z1.2.1, z1.2.2.1, z1.2.2.2))
def q_Cod_decideM_118 (i_context : Int32) (i_wanted : Int32)  (x6_118 : Int32) (x7_118 : Int32) (x8_118 : Int32) (c_states_118 : Nat → Int32) (c_favourites_118 : Nat → Int32) (c_span_118 : Int32) (c_decisions_118 : Int32) (c_doublings_118 : Int32) (n_digits_118 : Nat → Int32) (n_digitCount_118 : Int32) : Option (Int32 × (Nat → Int32) × (Nat → Int32) × Int32 × Int32 × Int32 × (Nat → Int32) × Int32) := (if x8_118 = 0 then (q_Cod_decideM_130 i_context i_wanted  x6_118 c_states_118 c_favourites_118 c_span_118 c_decisions_118 c_doublings_118 n_digits_118 n_digitCount_118) else ((q_Cod_adapt i_context x7_118 c_states_118 c_favourites_118).bind fun z2 => (q_Cod_decideM_130 i_context i_wanted  x6_118 z2.1 z2.2 c_span_118 c_decisions_118 c_doublings_118 n_digits_118 n_digitCount_118)))
def q_Cod_decideM_95 (i_context : Int32) (i_wanted : Int32)  (x4_95 : Int32) (x5_95 : Int32) (x6_95 : Int32) (x7_95 : Int32) (k0_95 : Int32) (c_states_95 : Nat → Int32) (c_favourites_95 : Nat → Int32) (c_span_95 : Int32) (c_decisions_95 : Int32) (c_doublings_95 : Int32) (n_digits_95 : Nat → Int32) (n_digitCount_95 : Int32) : Option (Int32 × (Nat → Int32) × (Nat → Int32) × Int32 × Int32 × Int32 × (Nat → Int32) × Int32) := (if x7_95 = x5_95 then (q_Cod_decideM_118 i_context i_wanted  x6_95 x7_95 k0_95 c_states_95 c_favourites_95 c_span_95 c_decisions_95 c_doublings_95 n_digits_95 n_digitCount_95) else ((q_Mad_grow c_span_95 n_digits_95 n_digitCount_95).bind fun z3 => (q_Cod_decideM_118 i_context i_wanted  x6_95 x7_95 k0_95 c_states_95 c_favourites_95 x4_95 c_decisions_95 c_doublings_95 z3 n_digitCount_95)))
def q_Cod_decideM_90 (i_context : Int32) (i_wanted : Int32)  (x4_90 : Int32) (x5_90 : Int32) (x6_90 : Int32) (x7_90 : Int32) (c_states_90 : Nat → Int32) (c_favourites_90 : Nat → Int32) (c_span_90 : Int32) (c_decisions_90 : Int32) (c_doublings_90 : Int32) (n_digits_90 : Nat → Int32) (n_digitCount_90 : Int32) : Option (Int32 × (Nat → Int32) × (Nat → Int32) × Int32 × Int32 × Int32 × (Nat → Int32) × Int32) := (q_Cod_decideM_95 i_context i_wanted  x4_90 x5_90 x6_90 x7_90 (1 : Int32) c_states_90 c_favourites_90 c_span_90 c_decisions_90 c_doublings_90 n_digits_90 n_digitCount_90)
def q_Cod_decideM_74 (i_context : Int32) (i_wanted : Int32)  (x4_74 : Int32) (x5_74 : Int32) (x6_74 : Int32) (k0_74 : Int32) (c_states_74 : Nat → Int32) (c_favourites_74 : Nat → Int32) (c_span_74 : Int32) (c_decisions_74 : Int32) (c_doublings_74 : Int32) (n_digits_74 : Nat → Int32) (n_digitCount_74 : Int32) : Option (Int32 × (Nat → Int32) × (Nat → Int32) × Int32 × Int32 × Int32 × (Nat → Int32) × Int32) := (if k0_74 = 0 then (q_Cod_decideM_90 i_context i_wanted  x4_74 x5_74 x6_74 k0_74 c_states_74 c_favourites_74 c_span_74 c_decisions_74 c_doublings_74 n_digits_74 n_digitCount_74) else (if (32768 : Int32) ≤ c_span_74 then (q_Cod_decideM_95 i_context i_wanted  x4_74 x5_74 x6_74 k0_74 (0 : Int32) c_states_74 c_favourites_74 c_span_74 c_decisions_74 c_doublings_74 n_digits_74 n_digitCount_74) else (q_Cod_decideM_90 i_context i_wanted  x4_74 x5_74 x6_74 k0_74 c_states_74 c_favourites_74 c_span_74 c_decisions_74 c_doublings_74 n_digits_74 n_digitCount_74)))
def q_Cod_decideM_37 (i_context : Int32) (i_wanted : Int32)  (x4_37 : Int32) (k0_37 : Int32) (c_states_37 : Nat → Int32) (c_favourites_37 : Nat → Int32) (c_span_37 : Int32) (c_decisions_37 : Int32) (c_doublings_37 : Int32) (n_digits_37 : Nat → Int32) (n_digitCount_37 : Int32) : Option (Int32 × (Nat → Int32) × (Nat → Int32) × Int32 × Int32 × Int32 × (Nat → Int32) × Int32) := (if vpb i_context 2563 = true then ((q_Mad_decision i_wanted (c_favourites_37 i_context.toNatClampNeg) k0_37 c_span_37).bind fun z4 => (if vpb i_context 2563 = true then (if z4 = (c_favourites_37 i_context.toNatClampNeg) then (q_Cod_decideM_74 i_context i_wanted  x4_37 k0_37 z4 (1 : Int32) c_states_37 c_favourites_37 c_span_37 c_decisions_37 c_doublings_37 n_digits_37 n_digitCount_37) else (q_Cod_decideM_74 i_context i_wanted  x4_37 k0_37 z4 (0 : Int32) c_states_37 c_favourites_37 c_span_37 c_decisions_37 c_doublings_37 n_digits_37 n_digitCount_37)) else none)) else none)
def q_Cod_decideM (i_context : Int32) (i_wanted : Int32) (c_states : Nat → Int32) (c_favourites : Nat → Int32) (c_span : Int32) (c_decisions : Int32) (c_doublings : Int32) (n_digits : Nat → Int32) (n_digitCount : Int32) : Option (Int32 × (Nat → Int32) × (Nat → Int32) × Int32 × Int32 × Int32 × (Nat → Int32) × Int32) := (if vpb i_context 2563 = true then (if vpb (c_states i_context.toNatClampNeg) 24 = true then (if (c_span - (qtab (c_states i_context.toNatClampNeg).toNatClampNeg)) < (qtab (c_states i_context.toNatClampNeg).toNatClampNeg) then (q_Cod_decideM_37 i_context i_wanted  (qtab (c_states i_context.toNatClampNeg).toNatClampNeg) (0 : Int32) c_states c_favourites (c_span - (qtab (c_states i_context.toNatClampNeg).toNatClampNeg)) c_decisions c_doublings n_digits n_digitCount) else (q_Cod_decideM_37 i_context i_wanted  (qtab (c_states i_context.toNatClampNeg).toNatClampNeg) (1 : Int32) c_states c_favourites (c_span - (qtab (c_states i_context.toNatClampNeg).toNatClampNeg)) c_decisions c_doublings n_digits n_digitCount)) else none) else none)
abbrev rm_Cod_decideM : Room := { frames := 2, cells := 0, slots := 0, locals := 44 }
set_option maxHeartbeats 4000000 in
set_option maxRecDepth 100000 in
theorem c_Cod_decideM (l : Launch) (dC : Nat → ClassId) (dI : Nat → Nat → Nat) (c_0 c_states_a c_favourites_a n_0 n_digits_a : Nat) (c_states_k c_favourites_k n_digits_k : ClassId) (i_context : Int32) (i_wanted : Int32) (c_states : Nat → Int32) (c_favourites : Nat → Int32) (c_span : Int32) (c_decisions : Int32) (c_doublings : Int32) (n_digits : Nat → Int32) (n_digitCount : Int32) (z : Int32 × (Nat → Int32) × (Nat → Int32) × Int32 × Int32 × Int32 × (Nat → Int32) × Int32)  (hq : q_Cod_decideM i_context i_wanted c_states c_favourites c_span c_decisions c_doublings n_digits n_digitCount = some z) (sz : Nat) : MetI l y_Cod_decide b_Cod_decide 9 .int TT rm_Cod_decideM (dC, dI) vcl [(c_states_k, .int), (c_favourites_k, .int), (n_digits_k, .int)] (W_CM c_0 c_states_a c_favourites_a n_0 n_digits_a c_states_k c_favourites_k n_digits_k c_states c_favourites c_span c_decisions c_doublings n_digits n_digitCount) (W_CM c_0 c_states_a c_favourites_a n_0 n_digits_a c_states_k c_favourites_k n_digits_k z.2.1 z.2.2.1 z.2.2.2.1 z.2.2.2.2.1 z.2.2.2.2.2.1 z.2.2.2.2.2.2.1 z.2.2.2.2.2.2.2) [.ref c_0, .int i_context, .int i_wanted, .ref n_0] z.1 sz := by
  refine x_ofI (by decide) (Nat.le_of_ble_eq_true rfl) ?_ sz
  intro p e s m args below meth c A Q ls hx hb hml hown hts hA hG hK hP hD hS hl hret
  have hown : s.vm.findClass R_Cod = some m.cls := hown
  have hl : lv_has ls 9 [(0, .ref c_0), (1, .int i_context), (2, .int i_wanted), (3, .ref n_0)] := hl
  obtain ⟨⟨tq, hZ, hTq⟩, hN⟩ := id hG
  obtain ⟨H, hH⟩ : ∃ H, H = s.heap := ⟨_, rfl⟩
  obtain ⟨locs, hlocs⟩ : ∃ locs : List Loc, locs = [] := ⟨_, rfl⟩
  rw [← hH] at hP
  have hS : va_S A s.heap H locs := by rw [hH, hlocs]; exact hS
  suffices hgo : W p l e rm_Cod_decideM s m args below meth c H locs 0 0 Q (F0 m 0 ls []) by rw [hH, hlocs] at hgo; exact hgo
  unfold q_Cod_decideM at hq
  have L37 : ∀ (x4_37 : Int32) (k0_37 : Int32) (c_states_37 : Nat → Int32) (c_favourites_37 : Nat → Int32) (c_span_37 : Int32) (c_decisions_37 : Int32) (c_doublings_37 : Int32) (n_digits_37 : Nat → Int32) (n_digitCount_37 : Int32) (H : Heap) (locs : List Loc) (ls : Array Slot), lv_has ls 9 [(0, .ref c_0), (1, .int i_context), (2, .int i_wanted), (3, .ref n_0), (4, .int x4_37)] → va_P (dC, dI) vcl (W_CM c_0 c_states_a c_favourites_a n_0 n_digits_a c_states_k c_favourites_k n_digits_k c_states_37 c_favourites_37 c_span_37 c_decisions_37 c_doublings_37 n_digits_37 n_digitCount_37) H → va_D A (W_CM c_0 c_states_a c_favourites_a n_0 n_digits_a c_states_k c_favourites_k n_digits_k c_states_37 c_favourites_37 c_span_37 c_decisions_37 c_doublings_37 n_digits_37 n_digitCount_37) → va_S A s.heap H locs → q_Cod_decideM_37 i_context i_wanted  x4_37 k0_37 c_states_37 c_favourites_37 c_span_37 c_decisions_37 c_doublings_37 n_digits_37 n_digitCount_37 = some z → W p l e rm_Cod_decideM s m args below meth c H locs 0 0 Q (F0 m 37 ls [.int k0_37]) := by
    intro x4_37 k0_37 c_states_37 c_favourites_37 c_span_37 c_decisions_37 c_doublings_37 n_digits_37 n_digitCount_37 H locs ls hl hP hD hS hq37
    unfold q_Cod_decideM_37 at hq37
    have L74 : ∀ (x4_74 : Int32) (x5_74 : Int32) (x6_74 : Int32) (k0_74 : Int32) (c_states_74 : Nat → Int32) (c_favourites_74 : Nat → Int32) (c_span_74 : Int32) (c_decisions_74 : Int32) (c_doublings_74 : Int32) (n_digits_74 : Nat → Int32) (n_digitCount_74 : Int32) (H : Heap) (locs : List Loc) (ls : Array Slot), lv_has ls 9 [(0, .ref c_0), (1, .int i_context), (3, .ref n_0), (4, .int x4_74), (5, .int x5_74), (6, .int x6_74)] → va_P (dC, dI) vcl (W_CM c_0 c_states_a c_favourites_a n_0 n_digits_a c_states_k c_favourites_k n_digits_k c_states_74 c_favourites_74 c_span_74 c_decisions_74 c_doublings_74 n_digits_74 n_digitCount_74) H → va_D A (W_CM c_0 c_states_a c_favourites_a n_0 n_digits_a c_states_k c_favourites_k n_digits_k c_states_74 c_favourites_74 c_span_74 c_decisions_74 c_doublings_74 n_digits_74 n_digitCount_74) → va_S A s.heap H locs → q_Cod_decideM_74 i_context i_wanted  x4_74 x5_74 x6_74 k0_74 c_states_74 c_favourites_74 c_span_74 c_decisions_74 c_doublings_74 n_digits_74 n_digitCount_74 = some z → W p l e rm_Cod_decideM s m args below meth c H locs 0 0 Q (F0 m 74 ls [.int k0_74]) := by
      intro x4_74 x5_74 x6_74 k0_74 c_states_74 c_favourites_74 c_span_74 c_decisions_74 c_doublings_74 n_digits_74 n_digitCount_74 H locs ls hl hP hD hS hq74
      unfold q_Cod_decideM_74 at hq74
      have L95 : ∀ (x4_95 : Int32) (x5_95 : Int32) (x6_95 : Int32) (x7_95 : Int32) (k0_95 : Int32) (c_states_95 : Nat → Int32) (c_favourites_95 : Nat → Int32) (c_span_95 : Int32) (c_decisions_95 : Int32) (c_doublings_95 : Int32) (n_digits_95 : Nat → Int32) (n_digitCount_95 : Int32) (H : Heap) (locs : List Loc) (ls : Array Slot), lv_has ls 9 [(0, .ref c_0), (1, .int i_context), (3, .ref n_0), (4, .int x4_95), (5, .int x5_95), (6, .int x6_95), (7, .int x7_95)] → va_P (dC, dI) vcl (W_CM c_0 c_states_a c_favourites_a n_0 n_digits_a c_states_k c_favourites_k n_digits_k c_states_95 c_favourites_95 c_span_95 c_decisions_95 c_doublings_95 n_digits_95 n_digitCount_95) H → va_D A (W_CM c_0 c_states_a c_favourites_a n_0 n_digits_a c_states_k c_favourites_k n_digits_k c_states_95 c_favourites_95 c_span_95 c_decisions_95 c_doublings_95 n_digits_95 n_digitCount_95) → va_S A s.heap H locs → q_Cod_decideM_95 i_context i_wanted  x4_95 x5_95 x6_95 x7_95 k0_95 c_states_95 c_favourites_95 c_span_95 c_decisions_95 c_doublings_95 n_digits_95 n_digitCount_95 = some z → W p l e rm_Cod_decideM s m args below meth c H locs 0 0 Q (F0 m 95 ls [.int k0_95]) := by
        intro x4_95 x5_95 x6_95 x7_95 k0_95 c_states_95 c_favourites_95 c_span_95 c_decisions_95 c_doublings_95 n_digits_95 n_digitCount_95 H locs ls hl hP hD hS hq95
        unfold q_Cod_decideM_95 at hq95
        have L118 : ∀ (x6_118 : Int32) (x7_118 : Int32) (x8_118 : Int32) (c_states_118 : Nat → Int32) (c_favourites_118 : Nat → Int32) (c_span_118 : Int32) (c_decisions_118 : Int32) (c_doublings_118 : Int32) (n_digits_118 : Nat → Int32) (n_digitCount_118 : Int32) (H : Heap) (locs : List Loc) (ls : Array Slot), lv_has ls 9 [(0, .ref c_0), (1, .int i_context), (3, .ref n_0), (6, .int x6_118), (7, .int x7_118), (8, .int x8_118)] → va_P (dC, dI) vcl (W_CM c_0 c_states_a c_favourites_a n_0 n_digits_a c_states_k c_favourites_k n_digits_k c_states_118 c_favourites_118 c_span_118 c_decisions_118 c_doublings_118 n_digits_118 n_digitCount_118) H → va_D A (W_CM c_0 c_states_a c_favourites_a n_0 n_digits_a c_states_k c_favourites_k n_digits_k c_states_118 c_favourites_118 c_span_118 c_decisions_118 c_doublings_118 n_digits_118 n_digitCount_118) → va_S A s.heap H locs → q_Cod_decideM_118 i_context i_wanted  x6_118 x7_118 x8_118 c_states_118 c_favourites_118 c_span_118 c_decisions_118 c_doublings_118 n_digits_118 n_digitCount_118 = some z → W p l e rm_Cod_decideM s m args below meth c H locs 0 0 Q (F0 m 118 ls []) := by
          intro x6_118 x7_118 x8_118 c_states_118 c_favourites_118 c_span_118 c_decisions_118 c_doublings_118 n_digits_118 n_digitCount_118 H locs ls hl hP hD hS hq118
          unfold q_Cod_decideM_118 at hq118
          have L130 : ∀ (x6_130 : Int32) (c_states_130 : Nat → Int32) (c_favourites_130 : Nat → Int32) (c_span_130 : Int32) (c_decisions_130 : Int32) (c_doublings_130 : Int32) (n_digits_130 : Nat → Int32) (n_digitCount_130 : Int32) (H : Heap) (locs : List Loc) (ls : Array Slot), lv_has ls 9 [(0, .ref c_0), (3, .ref n_0), (6, .int x6_130)] → va_P (dC, dI) vcl (W_CM c_0 c_states_a c_favourites_a n_0 n_digits_a c_states_k c_favourites_k n_digits_k c_states_130 c_favourites_130 c_span_130 c_decisions_130 c_doublings_130 n_digits_130 n_digitCount_130) H → va_D A (W_CM c_0 c_states_a c_favourites_a n_0 n_digits_a c_states_k c_favourites_k n_digits_k c_states_130 c_favourites_130 c_span_130 c_decisions_130 c_doublings_130 n_digits_130 n_digitCount_130) → va_S A s.heap H locs → q_Cod_decideM_130 i_context i_wanted  x6_130 c_states_130 c_favourites_130 c_span_130 c_decisions_130 c_doublings_130 n_digits_130 n_digitCount_130 = some z → W p l e rm_Cod_decideM s m args below meth c H locs 0 0 Q (F0 m 130 ls []) := by
            intro x6_130 c_states_130 c_favourites_130 c_span_130 c_decisions_130 c_doublings_130 n_digits_130 n_digitCount_130 H locs ls hl hP hD hS hq130
            unfold q_Cod_decideM_130 at hq130
            have h := hq130
            refine lv_aload_n hx hb d_Cod_decide_130 rfl (lv_at hl 0 rfl) ?_
            refine lv_aload_n hx hb d_Cod_decide_131 rfl (lv_at hl 1 rfl) ?_
            obtain ⟨z1, hz1, h⟩ := ob h
            refine x_goV (w1 := (W_CM c_0 c_states_a c_favourites_a n_0 n_digits_a c_states_k c_favourites_k n_digits_k c_states_130 c_favourites_130 z1.1 c_decisions_130 z1.2.1 z1.2.2.1 z1.2.2.2)) (ws' := (W_CM c_0 c_states_a c_favourites_a n_0 n_digits_a c_states_k c_favourites_k n_digits_k c_states_130 c_favourites_130 z1.1 c_decisions_130 z1.2.1 z1.2.2.1 z1.2.2.2)) (wr := List.filterMap (fun (i : Nat) => (W_CM c_0 c_states_a c_favourites_a n_0 n_digits_a c_states_k c_favourites_k n_digits_k c_states_130 c_favourites_130 c_span_130 c_decisions_130 c_doublings_130 n_digits_130 n_digitCount_130)[i]?) ([] : List Nat)) (va_runV (As := [.ref n_0]) (rest := []) ⟨hx, hb, hml, hown, hts⟩ (c_Cod_widenM l dC dI c_0 c_states_a c_favourites_a n_0 n_digits_a c_states_k c_favourites_k n_digits_k  c_states_130 c_favourites_130 c_span_130 c_decisions_130 c_doublings_130 n_digits_130 n_digitCount_130 z1  hz1 H.size) ⟨callB_of 1 hts (gT tt482 TT_good) rfl rfl rfl (hts _ tt49) (hts _ tt479) (by decide +kernel) ⟨Nat.le_of_ble_eq_true rfl, Nat.le_of_ble_eq_true rfl⟩, hts _ tt481, hts _ tt6⟩ (x_preV (q := (R_Cod, F_Cod, 5)) (As := [.ref n_0]) (x_pre (wc := (W_CM c_0 c_states_a c_favourites_a n_0 n_digits_a c_states_k c_favourites_k n_digits_k c_states_130 c_favourites_130 c_span_130 c_decisions_130 c_doublings_130 n_digits_130 n_digitCount_130)) (av := (.ref c_0 :: [.ref n_0])) hK hP hD hS hA hG [0, 1, 2] [0, 1, 2, 3, 4] rfl rfl (by decide)) hK hP (q0 := 0) rfl rfl) rfl rfl hl.1 rfl (lv_room (Nat.le_of_ble_eq_true rfl)) d_Cod_decide_132 ⟨Nat.zero_le _, Nat.zero_le _⟩) hP hD hS hA [0, 1, 2, 3, 4] [] [0, 1, 2, 3, 4] rfl rfl (by decide) (by decide) (by decide) rfl (fun H locs hP hD hS => ?_)
            refine lv_aload_n hx hb d_Cod_decide_135 rfl (lv_at hl 0 rfl) ?_
            refine lv_dup hx hb d_Cod_decide_136 rfl ?_
            refine va_get (D := (dC, dI)) (ci := 0) (v := .int c_decisions_130) (C := R_Cod) (T := F_Cod) (N := 5) hx hb hts in_Cod hown hK hP 0 rfl rfl 3 (by decide) (hts _ tt148) (fun _ h9 => h9) rfl d_Cod_decide_137 ?_
            refine lv_iconst (v := (1 : Int32)) hx hb d_Cod_decide_140 (by decide) ?_
            refine lv_iadd hx hb d_Cod_decide_141 ?_
            refine va_put (D := (dC, dI)) (ci := 0) (v := .int (c_decisions_130 + (1 : Int32))) (ty := .int) (C := R_Cod) (T := F_Cod) (N := 5) hx hb hts in_Cod t_Cod t_Cod_ok n_Cod hown hK hP hD hS 0 rfl rfl 3 (by decide) (hts _ tt148) (fun _ h9 => h9) rfl (by decide +kernel) rfl rfl (Nat.le_of_ble_eq_true rfl) d_Cod_decide_142 (fun H locs hP hD hS => ?_)
            have hP : va_P (dC, dI) vcl (W_CM c_0 c_states_a c_favourites_a n_0 n_digits_a c_states_k c_favourites_k n_digits_k c_states_130 c_favourites_130 z1.1 (c_decisions_130 + (1 : Int32)) z1.2.1 z1.2.2.1 z1.2.2.2) H := hP
            have hD : va_D A (W_CM c_0 c_states_a c_favourites_a n_0 n_digits_a c_states_k c_favourites_k n_digits_k c_states_130 c_favourites_130 z1.1 (c_decisions_130 + (1 : Int32)) z1.2.1 z1.2.2.1 z1.2.2.2) := hD
            refine lv_iload hx hb d_Cod_decide_145 (lv_at hl 2 rfl) ?_
            obtain rfl := Option.some.inj h
            exact hret H locs 147 ls d_Cod_decide_147 (vp_nar_int _) hP hD hS
          have h := hq118
          refine lv_iload hx hb d_Cod_decide_118 (lv_at hl 5 rfl) ?_
          refine lv_if_eq (tgt := 130) hx hb d_Cod_decide_120 rfl (fun hc => ?_) (fun hc => ?_)
          · replace h := ot hc h
            exact L130 x6_118 c_states_118 c_favourites_118 c_span_118 c_decisions_118 c_doublings_118 n_digits_118 n_digitCount_118 H locs ls (lv_sub hl [0, 2, 3] rfl) hP hD hS h
          · replace h := of hc h
            refine lv_aload_n hx hb d_Cod_decide_123 rfl (lv_at hl 0 rfl) ?_
            refine lv_iload_n hx hb d_Cod_decide_124 rfl (lv_at hl 1 rfl) ?_
            refine lv_iload hx hb d_Cod_decide_125 (lv_at hl 4 rfl) ?_
            obtain ⟨z2, hz2, h⟩ := ob h
            refine x_goV (w1 := (W_C c_0 c_states_a c_favourites_a c_states_k c_favourites_k z2.1 z2.2 c_span_118 c_decisions_118 c_doublings_118)) (ws' := (W_CM c_0 c_states_a c_favourites_a n_0 n_digits_a c_states_k c_favourites_k n_digits_k z2.1 z2.2 c_span_118 c_decisions_118 c_doublings_118 n_digits_118 n_digitCount_118)) (wr := List.filterMap (fun (i : Nat) => (W_CM c_0 c_states_a c_favourites_a n_0 n_digits_a c_states_k c_favourites_k n_digits_k c_states_118 c_favourites_118 c_span_118 c_decisions_118 c_doublings_118 n_digits_118 n_digitCount_118)[i]?) ([3, 4] : List Nat)) (va_runV (As := [.int i_context, .int x7_118]) (rest := []) ⟨hx, hb, hml, hown, hts⟩ (c_Cod_adapt l dC dI c_0 c_states_a c_favourites_a c_states_k c_favourites_k i_context x7_118 c_states_118 c_favourites_118 c_span_118 c_decisions_118 c_doublings_118 z2  hz2 H.size) ⟨callB_of 2 hts (gT tt472 TT_good) rfl rfl rfl (hts _ tt49) (hts _ tt469) (by decide +kernel) ⟨Nat.le_of_ble_eq_true rfl, Nat.le_of_ble_eq_true rfl⟩, hts _ tt471, hts _ tt5⟩ (x_preV (q := (R_Cod, F_Cod, 5)) (As := [.int i_context, .int x7_118]) (x_pre (wc := (W_C c_0 c_states_a c_favourites_a c_states_k c_favourites_k c_states_118 c_favourites_118 c_span_118 c_decisions_118 c_doublings_118)) (av := (.ref c_0 :: [.int i_context, .int x7_118])) hK hP hD hS hA hG [0, 1] [0, 1, 2] rfl rfl (by decide)) hK hP (q0 := 0) rfl rfl) rfl rfl hl.1 rfl (lv_room (Nat.le_of_ble_eq_true rfl)) d_Cod_decide_127 ⟨Nat.zero_le _, Nat.zero_le _⟩) hP hD hS hA [0, 1, 2] [3, 4] [2, 3, 4, 0, 1] rfl rfl (by decide) (by decide) (by decide) rfl (fun H locs hP hD hS => ?_)
            exact L130 x6_118 z2.1 z2.2 c_span_118 c_decisions_118 c_doublings_118 n_digits_118 n_digitCount_118 H locs ls (lv_sub hl [0, 2, 3] rfl) hP hD hS h
        have h := hq95
        refine lv_istore (lv' := [(8, .int k0_95), (0, .ref c_0), (1, .int i_context), (3, .ref n_0), (4, .int x4_95), (5, .int x5_95), (6, .int x6_95), (7, .int x7_95)]) hx hb d_Cod_decide_95 hl (by decide) rfl (fun ls hl => ?_)
        refine lv_iload hx hb d_Cod_decide_97 (lv_at hl 7 rfl) ?_
        refine lv_iload hx hb d_Cod_decide_99 (lv_at hl 5 rfl) ?_
        refine lv_icmp_eq (tgt := 118) hx hb d_Cod_decide_101 rfl (fun hc => ?_) (fun hc => ?_)
        · replace h := ot hc h
          exact L118 x6_95 x7_95 k0_95 c_states_95 c_favourites_95 c_span_95 c_decisions_95 c_doublings_95 n_digits_95 n_digitCount_95 H locs ls (lv_sub hl [1, 2, 3, 6, 7, 0] rfl) hP hD hS h
        · replace h := of hc h
          refine lv_aload_n hx hb d_Cod_decide_104 rfl (lv_at hl 3 rfl) ?_
          refine lv_aload_n hx hb d_Cod_decide_105 rfl (lv_at hl 1 rfl) ?_
          refine va_get (D := (dC, dI)) (ci := 0) (v := .int c_span_95) (C := R_Cod) (T := F_Cod) (N := 5) hx hb hts in_Cod hown hK hP 0 rfl rfl 2 (by decide) (hts _ tt147) (fun _ h9 => h9) rfl d_Cod_decide_106 ?_
          obtain ⟨z3, hz3, h⟩ := ob h
          refine x_goV (w1 := (W_M n_0 n_digits_a n_digits_k z3 n_digitCount_95)) (ws' := (W_CM c_0 c_states_a c_favourites_a n_0 n_digits_a c_states_k c_favourites_k n_digits_k c_states_95 c_favourites_95 c_span_95 c_decisions_95 c_doublings_95 z3 n_digitCount_95)) (wr := List.filterMap (fun (i : Nat) => (W_CM c_0 c_states_a c_favourites_a n_0 n_digits_a c_states_k c_favourites_k n_digits_k c_states_95 c_favourites_95 c_span_95 c_decisions_95 c_doublings_95 n_digits_95 n_digitCount_95)[i]?) ([0, 1, 2] : List Nat)) (va_runU (As := [.int c_span_95]) (rest := []) ⟨hx, hb, hml, hown, hts⟩ (c_Mad_grow l dC dI n_0 n_digits_a n_digits_k c_span_95 n_digits_95 n_digitCount_95 z3  hz3 H.size) (va_cwA (own := "LayeredBits$DecisionCoder") (C := "LayeredBits$MadeNumber") (owner := "LayeredBits$CodeNumber") (x := ⟨"LayeredBits$CodeNumber", "grow", "(I)V"⟩) 1 hts (gTa (a := [.methodLink "LayeredBits$DecisionCoder" 45 ⟨"LayeredBits$CodeNumber", "grow", "(I)V"⟩, .sameMethod "LayeredBits$CodeNumber" "LayeredBits$CodeNumber" "grow" "(I)V", .selects "LayeredBits$MadeNumber" ⟨"LayeredBits$CodeNumber", "grow", "(I)V"⟩ ⟨"LayeredBits$MadeNumber", "grow", "(I)V"⟩, .instanceMethod ⟨"LayeredBits$MadeNumber", "grow", "(I)V"⟩, .initialized "LayeredBits$MadeNumber"]) (x_m5 tt460 tt462 tt463 tt464 tt51) TT_good (gT tt465 TT_good)) rfl rfl rfl (hN _ nn461) (by decide +kernel) ⟨Nat.le_of_ble_eq_true rfl, Nat.le_of_ble_eq_true rfl⟩) (x_preV (q := (R_Mad, F_Mad, 2)) (As := [.int c_span_95]) (x_pre (wc := (W_M n_0 n_digits_a n_digits_k n_digits_95 n_digitCount_95)) (av := (.ref n_0 :: [.int c_span_95])) hK hP hD hS hA hG [2] [3, 4] rfl rfl (by decide)) hK hP (q0 := 3) rfl rfl) rfl rfl hl.1 rfl (lv_room (Nat.le_of_ble_eq_true rfl)) d_Cod_decide_109 ⟨Nat.zero_le _, Nat.zero_le _⟩) hP hD hS hA [3, 4] [0, 1, 2] [0, 1, 2, 3, 4] rfl rfl (by decide) (by decide) (by decide) rfl (fun H locs hP hD hS => ?_)
          refine lv_aload_n hx hb d_Cod_decide_112 rfl (lv_at hl 1 rfl) ?_
          refine lv_iload hx hb d_Cod_decide_113 (lv_at hl 4 rfl) ?_
          refine va_put (D := (dC, dI)) (ci := 0) (v := .int x4_95) (ty := .int) (C := R_Cod) (T := F_Cod) (N := 5) hx hb hts in_Cod t_Cod t_Cod_ok n_Cod hown hK hP hD hS 0 rfl rfl 2 (by decide) (hts _ tt147) (fun _ h9 => h9) rfl (by decide +kernel) rfl rfl (Nat.le_of_ble_eq_true rfl) d_Cod_decide_115 (fun H locs hP hD hS => ?_)
          have hP : va_P (dC, dI) vcl (W_CM c_0 c_states_a c_favourites_a n_0 n_digits_a c_states_k c_favourites_k n_digits_k c_states_95 c_favourites_95 x4_95 c_decisions_95 c_doublings_95 z3 n_digitCount_95) H := hP
          have hD : va_D A (W_CM c_0 c_states_a c_favourites_a n_0 n_digits_a c_states_k c_favourites_k n_digits_k c_states_95 c_favourites_95 x4_95 c_decisions_95 c_doublings_95 z3 n_digitCount_95) := hD
          exact L118 x6_95 x7_95 k0_95 c_states_95 c_favourites_95 x4_95 c_decisions_95 c_doublings_95 z3 n_digitCount_95 H locs ls (lv_sub hl [1, 2, 3, 6, 7, 0] rfl) hP hD hS h
      have L90 : ∀ (x4_90 : Int32) (x5_90 : Int32) (x6_90 : Int32) (x7_90 : Int32) (c_states_90 : Nat → Int32) (c_favourites_90 : Nat → Int32) (c_span_90 : Int32) (c_decisions_90 : Int32) (c_doublings_90 : Int32) (n_digits_90 : Nat → Int32) (n_digitCount_90 : Int32) (H : Heap) (locs : List Loc) (ls : Array Slot), lv_has ls 9 [(0, .ref c_0), (1, .int i_context), (3, .ref n_0), (4, .int x4_90), (5, .int x5_90), (6, .int x6_90), (7, .int x7_90)] → va_P (dC, dI) vcl (W_CM c_0 c_states_a c_favourites_a n_0 n_digits_a c_states_k c_favourites_k n_digits_k c_states_90 c_favourites_90 c_span_90 c_decisions_90 c_doublings_90 n_digits_90 n_digitCount_90) H → va_D A (W_CM c_0 c_states_a c_favourites_a n_0 n_digits_a c_states_k c_favourites_k n_digits_k c_states_90 c_favourites_90 c_span_90 c_decisions_90 c_doublings_90 n_digits_90 n_digitCount_90) → va_S A s.heap H locs → q_Cod_decideM_90 i_context i_wanted  x4_90 x5_90 x6_90 x7_90 c_states_90 c_favourites_90 c_span_90 c_decisions_90 c_doublings_90 n_digits_90 n_digitCount_90 = some z → W p l e rm_Cod_decideM s m args below meth c H locs 0 0 Q (F0 m 90 ls []) := by
        intro x4_90 x5_90 x6_90 x7_90 c_states_90 c_favourites_90 c_span_90 c_decisions_90 c_doublings_90 n_digits_90 n_digitCount_90 H locs ls hl hP hD hS hq90
        unfold q_Cod_decideM_90 at hq90
        have h := hq90
        refine lv_iconst (v := (1 : Int32)) hx hb d_Cod_decide_90 (by decide) ?_
        refine lv_goto (tgt := 95) hx hb d_Cod_decide_91 rfl ?_
        exact L95 x4_90 x5_90 x6_90 x7_90 (1 : Int32) c_states_90 c_favourites_90 c_span_90 c_decisions_90 c_doublings_90 n_digits_90 n_digitCount_90 H locs ls (lv_sub hl [0, 1, 2, 3, 4, 5, 6] rfl) hP hD hS h
      have h := hq74
      refine lv_istore (lv' := [(7, .int k0_74), (0, .ref c_0), (1, .int i_context), (3, .ref n_0), (4, .int x4_74), (5, .int x5_74), (6, .int x6_74)]) hx hb d_Cod_decide_74 hl (by decide) rfl (fun ls hl => ?_)
      refine lv_iload hx hb d_Cod_decide_76 (lv_at hl 0 rfl) ?_
      refine lv_if_eq (tgt := 90) hx hb d_Cod_decide_78 rfl (fun hc => ?_) (fun hc => ?_)
      · replace h := ot hc h
        exact L90 x4_74 x5_74 x6_74 k0_74 c_states_74 c_favourites_74 c_span_74 c_decisions_74 c_doublings_74 n_digits_74 n_digitCount_74 H locs ls (lv_sub hl [1, 2, 3, 4, 5, 6, 0] rfl) hP hD hS h
      · replace h := of hc h
        refine lv_aload_n hx hb d_Cod_decide_81 rfl (lv_at hl 1 rfl) ?_
        refine va_get (D := (dC, dI)) (ci := 0) (v := .int c_span_74) (C := R_Cod) (T := F_Cod) (N := 5) hx hb hts in_Cod hown hK hP 0 rfl rfl 2 (by decide) (hts _ tt147) (fun _ h9 => h9) rfl d_Cod_decide_82 ?_
        refine lv_ldc (own := R_Cod) (v := (32768 : Int32)) hx hb hown (hts _ tt459) d_Cod_decide_85 ?_
        refine lv_icmp_ge (tgt := 94) hx hb d_Cod_decide_87 rfl (fun hc => ?_) (fun hc => ?_)
        · replace h := ot hc h
          refine lv_iconst (v := (0 : Int32)) hx hb d_Cod_decide_94 (by decide) ?_
          exact L95 x4_74 x5_74 x6_74 k0_74 (0 : Int32) c_states_74 c_favourites_74 c_span_74 c_decisions_74 c_doublings_74 n_digits_74 n_digitCount_74 H locs ls (lv_sub hl [1, 2, 3, 4, 5, 6, 0] rfl) hP hD hS h
        · replace h := of hc h
          exact L90 x4_74 x5_74 x6_74 k0_74 c_states_74 c_favourites_74 c_span_74 c_decisions_74 c_doublings_74 n_digits_74 n_digitCount_74 H locs ls (lv_sub hl [1, 2, 3, 4, 5, 6, 0] rfl) hP hD hS h
    have h := hq37
    refine lv_istore (lv' := [(5, .int k0_37), (0, .ref c_0), (1, .int i_context), (2, .int i_wanted), (3, .ref n_0), (4, .int x4_37)]) hx hb d_Cod_decide_37 hl (by decide) rfl (fun ls hl => ?_)
    refine lv_aload_n hx hb d_Cod_decide_39 rfl (lv_at hl 4 rfl) ?_
    refine lv_iload_n hx hb d_Cod_decide_40 rfl (lv_at hl 3 rfl) ?_
    refine lv_aload_n hx hb d_Cod_decide_41 rfl (lv_at hl 1 rfl) ?_
    refine va_get (D := (dC, dI)) (ci := 0) (v := .ref c_favourites_a) (C := R_Cod) (T := F_Cod) (N := 5) hx hb hts in_Cod hown hK hP 0 rfl rfl 1 (by decide) (hts _ tt146) (fun _ h9 => h9) rfl d_Cod_decide_42 ?_
    refine lv_iload_n hx hb d_Cod_decide_45 rfl (lv_at hl 2 rfl) ?_
    obtain ⟨hin, h⟩ := og h
    refine va_iald hx hb hK hP 2 1 rfl rfl (vpb_in hin) d_Cod_decide_46 ?_
    refine lv_iload hx hb d_Cod_decide_47 (lv_at hl 0 rfl) ?_
    refine lv_aload_n hx hb d_Cod_decide_49 rfl (lv_at hl 1 rfl) ?_
    refine va_get (D := (dC, dI)) (ci := 0) (v := .int c_span_37) (C := R_Cod) (T := F_Cod) (N := 5) hx hb hts in_Cod hown hK hP 0 rfl rfl 2 (by decide) (hts _ tt147) (fun _ h9 => h9) rfl d_Cod_decide_50 ?_
    obtain ⟨z4, hz4, h⟩ := ob h
    refine x_goI (res := z4) (w1 := (W_M n_0 n_digits_a n_digits_k n_digits_37 n_digitCount_37)) (ws' := (W_CM c_0 c_states_a c_favourites_a n_0 n_digits_a c_states_k c_favourites_k n_digits_k c_states_37 c_favourites_37 c_span_37 c_decisions_37 c_doublings_37 n_digits_37 n_digitCount_37)) (wr := List.filterMap (fun (i : Nat) => (W_CM c_0 c_states_a c_favourites_a n_0 n_digits_a c_states_k c_favourites_k n_digits_k c_states_37 c_favourites_37 c_span_37 c_decisions_37 c_doublings_37 n_digits_37 n_digitCount_37)[i]?) ([0, 1, 2] : List Nat)) (va_runU (As := [.int i_wanted, .int (c_favourites_37 i_context.toNatClampNeg), .int k0_37, .int c_span_37]) (rest := []) ⟨hx, hb, hml, hown, hts⟩ (c_Mad_decision l dC dI n_0 n_digits_a n_digits_k i_wanted (c_favourites_37 i_context.toNatClampNeg) k0_37 c_span_37 n_digits_37 n_digitCount_37 z4  hz4 H.size) (va_cwA (own := "LayeredBits$DecisionCoder") (C := "LayeredBits$MadeNumber") (owner := "LayeredBits$CodeNumber") (x := ⟨"LayeredBits$CodeNumber", "decision", "(IIZI)I"⟩) 4 hts (gTa (a := [.methodLink "LayeredBits$DecisionCoder" 38 ⟨"LayeredBits$CodeNumber", "decision", "(IIZI)I"⟩, .sameMethod "LayeredBits$CodeNumber" "LayeredBits$CodeNumber" "decision" "(IIZI)I", .selects "LayeredBits$MadeNumber" ⟨"LayeredBits$CodeNumber", "decision", "(IIZI)I"⟩ ⟨"LayeredBits$MadeNumber", "decision", "(IIZI)I"⟩, .instanceMethod ⟨"LayeredBits$MadeNumber", "decision", "(IIZI)I"⟩, .initialized "LayeredBits$MadeNumber"]) (x_m5 tt450 tt452 tt453 tt454 tt51) TT_good (gT tt455 TT_good)) rfl rfl rfl (hN _ nn451) (by decide +kernel) ⟨Nat.le_of_ble_eq_true rfl, Nat.le_of_ble_eq_true rfl⟩) (x_preV (q := (R_Mad, F_Mad, 2)) (As := [.int i_wanted, .int (c_favourites_37 i_context.toNatClampNeg), .int k0_37, .int c_span_37]) (x_pre (wc := (W_M n_0 n_digits_a n_digits_k n_digits_37 n_digitCount_37)) (av := (.ref n_0 :: [.int i_wanted, .int (c_favourites_37 i_context.toNatClampNeg), .int k0_37, .int c_span_37])) hK hP hD hS hA hG [2] [3, 4] rfl rfl (by decide)) hK hP (q0 := 3) rfl rfl) rfl rfl hl.1 rfl (lv_room (Nat.le_of_ble_eq_true rfl)) d_Cod_decide_53 ⟨Nat.zero_le _, Nat.zero_le _⟩) hP hD hS hA [3, 4] [0, 1, 2] [0, 1, 2, 3, 4] rfl rfl (by decide) (by decide) (by decide) rfl (fun H locs hP hD hS => ?_)
    refine lv_istore (lv' := [(6, .int z4), (5, .int k0_37), (0, .ref c_0), (1, .int i_context), (2, .int i_wanted), (3, .ref n_0), (4, .int x4_37)]) hx hb d_Cod_decide_56 hl (by decide) rfl (fun ls hl => ?_)
    refine lv_iload hx hb d_Cod_decide_58 (lv_at hl 0 rfl) ?_
    refine lv_aload_n hx hb d_Cod_decide_60 rfl (lv_at hl 2 rfl) ?_
    refine va_get (D := (dC, dI)) (ci := 0) (v := .ref c_favourites_a) (C := R_Cod) (T := F_Cod) (N := 5) hx hb hts in_Cod hown hK hP 0 rfl rfl 1 (by decide) (hts _ tt146) (fun _ h9 => h9) rfl d_Cod_decide_61 ?_
    refine lv_iload_n hx hb d_Cod_decide_64 rfl (lv_at hl 3 rfl) ?_
    obtain ⟨hin, h⟩ := og h
    refine va_iald hx hb hK hP 2 1 rfl rfl (vpb_in hin) d_Cod_decide_65 ?_
    refine lv_icmp_ne (tgt := 73) hx hb d_Cod_decide_66 rfl (fun hc => ?_) (fun hc => ?_)
    · replace h := of hc h
      refine lv_iconst (v := (0 : Int32)) hx hb d_Cod_decide_73 (by decide) ?_
      exact L74 x4_37 k0_37 z4 (0 : Int32) c_states_37 c_favourites_37 c_span_37 c_decisions_37 c_doublings_37 n_digits_37 n_digitCount_37 H locs ls (lv_sub hl [2, 3, 5, 6, 1, 0] rfl) hP hD hS h
    · replace h := ot hc h
      refine lv_iconst (v := (1 : Int32)) hx hb d_Cod_decide_69 (by decide) ?_
      refine lv_goto (tgt := 74) hx hb d_Cod_decide_70 rfl ?_
      exact L74 x4_37 k0_37 z4 (1 : Int32) c_states_37 c_favourites_37 c_span_37 c_decisions_37 c_doublings_37 n_digits_37 n_digitCount_37 H locs ls (lv_sub hl [2, 3, 5, 6, 1, 0] rfl) hP hD hS h
  have h := hq
  refine va_getsN hx hb hZ hS hown (va_Nw.use rfl (hN _ nn448)) (fun _ h9 => h9) d_Cod_decide_0 ?_
  refine lv_aload_n hx hb d_Cod_decide_3 rfl (lv_at hl 0 rfl) ?_
  refine va_get (D := (dC, dI)) (ci := 0) (v := .ref c_states_a) (C := R_Cod) (T := F_Cod) (N := 5) hx hb hts in_Cod hown hK hP 0 rfl rfl 0 (by decide) (hts _ tt145) (fun _ h9 => h9) rfl d_Cod_decide_4 ?_
  refine lv_iload_n hx hb d_Cod_decide_7 rfl (lv_at hl 1 rfl) ?_
  obtain ⟨hin, h⟩ := og h
  refine va_iald hx hb hK hP 1 0 rfl rfl (vpb_in hin) d_Cod_decide_8 ?_
  obtain ⟨hin, h⟩ := og h
  refine va_ti (v := .int (qtab (c_states i_context.toNatClampNeg).toNatClampNeg)) hx hb hTq hS (vpb_in hin) rfl d_Cod_decide_9 ?_
  refine lv_istore (lv' := [(4, .int (qtab (c_states i_context.toNatClampNeg).toNatClampNeg)), (0, .ref c_0), (1, .int i_context), (2, .int i_wanted), (3, .ref n_0)]) hx hb d_Cod_decide_10 hl (by decide) rfl (fun ls hl => ?_)
  refine lv_aload_n hx hb d_Cod_decide_12 rfl (lv_at hl 1 rfl) ?_
  refine lv_dup hx hb d_Cod_decide_13 rfl ?_
  refine va_get (D := (dC, dI)) (ci := 0) (v := .int c_span) (C := R_Cod) (T := F_Cod) (N := 5) hx hb hts in_Cod hown hK hP 0 rfl rfl 2 (by decide) (hts _ tt147) (fun _ h9 => h9) rfl d_Cod_decide_14 ?_
  refine lv_iload hx hb d_Cod_decide_17 (lv_at hl 0 rfl) ?_
  refine lv_isub hx hb d_Cod_decide_19 ?_
  refine va_put (D := (dC, dI)) (ci := 0) (v := .int (c_span - (qtab (c_states i_context.toNatClampNeg).toNatClampNeg))) (ty := .int) (C := R_Cod) (T := F_Cod) (N := 5) hx hb hts in_Cod t_Cod t_Cod_ok n_Cod hown hK hP hD hS 0 rfl rfl 2 (by decide) (hts _ tt147) (fun _ h9 => h9) rfl (by decide +kernel) rfl rfl (Nat.le_of_ble_eq_true rfl) d_Cod_decide_20 (fun H locs hP hD hS => ?_)
  have hP : va_P (dC, dI) vcl (W_CM c_0 c_states_a c_favourites_a n_0 n_digits_a c_states_k c_favourites_k n_digits_k c_states c_favourites (c_span - (qtab (c_states i_context.toNatClampNeg).toNatClampNeg)) c_decisions c_doublings n_digits n_digitCount) H := hP
  have hD : va_D A (W_CM c_0 c_states_a c_favourites_a n_0 n_digits_a c_states_k c_favourites_k n_digits_k c_states c_favourites (c_span - (qtab (c_states i_context.toNatClampNeg).toNatClampNeg)) c_decisions c_doublings n_digits n_digitCount) := hD
  refine lv_aload_n hx hb d_Cod_decide_23 rfl (lv_at hl 1 rfl) ?_
  refine va_get (D := (dC, dI)) (ci := 0) (v := .int (c_span - (qtab (c_states i_context.toNatClampNeg).toNatClampNeg))) (C := R_Cod) (T := F_Cod) (N := 5) hx hb hts in_Cod hown hK hP 0 rfl rfl 2 (by decide) (hts _ tt147) (fun _ h9 => h9) rfl d_Cod_decide_24 ?_
  refine lv_iload hx hb d_Cod_decide_27 (lv_at hl 0 rfl) ?_
  refine lv_icmp_lt (tgt := 36) hx hb d_Cod_decide_29 rfl (fun hc => ?_) (fun hc => ?_)
  · replace h := ot hc h
    refine lv_iconst (v := (0 : Int32)) hx hb d_Cod_decide_36 (by decide) ?_
    exact L37 (qtab (c_states i_context.toNatClampNeg).toNatClampNeg) (0 : Int32) c_states c_favourites (c_span - (qtab (c_states i_context.toNatClampNeg).toNatClampNeg)) c_decisions c_doublings n_digits n_digitCount H locs ls (lv_sub hl [1, 2, 3, 4, 0] rfl) hP hD hS h
  · replace h := of hc h
    refine lv_iconst (v := (1 : Int32)) hx hb d_Cod_decide_32 (by decide) ?_
    refine lv_goto (tgt := 37) hx hb d_Cod_decide_33 rfl ?_
    exact L37 (qtab (c_states i_context.toNatClampNeg).toNatClampNeg) (1 : Int32) c_states c_favourites (c_span - (qtab (c_states i_context.toNatClampNeg).toNatClampNeg)) c_decisions c_doublings n_digits n_digitCount H locs ls (lv_sub hl [1, 2, 3, 4, 0] rfl) hP hD hS h
def q_Cod_widenT_2 (n_bytes : Nat → Int32) (n_byteCount : Int32)  : Nat → Int32 → Int32 → Int32 → Int32 → Int32 → Option (Int32 × Int32 × Int32 × Int32)
  | 0, _, _, _, _, _ => none
  | n + 1, x2_2, c_span_2, c_doublings_2, n_nextDigit_2, n_rest_2 => (if (16 : Int32) ≤ x2_2 then some (c_span_2, c_doublings_2, n_nextDigit_2, n_rest_2) else (if (32768 : Int32) ≤ c_span_2 then some (c_span_2, c_doublings_2, n_nextDigit_2, n_rest_2) else ((q_Tak_makeDouble n_bytes n_byteCount n_nextDigit_2 n_rest_2).bind fun z1 => (q_Cod_widenT_2 n_bytes n_byteCount n (x2_2 + (1 : Int32)) (c_span_2 * (2 : Int32)) (c_doublings_2 + (1 : Int32)) z1.1 z1.2))))
def q_Cod_widenT  (c_span : Int32) (c_doublings : Int32) (n_bytes : Nat → Int32) (n_byteCount : Int32) (n_nextDigit : Int32) (n_rest : Int32) : Option (Int32 × Int32 × Int32 × Int32) := (q_Cod_widenT_2 n_bytes n_byteCount  5000 (0 : Int32) c_span c_doublings n_nextDigit n_rest)
abbrev rm_Cod_widenT : Room := { frames := 1, cells := 0, slots := 0, locals := 22 }
set_option maxHeartbeats 4000000 in
set_option maxRecDepth 100000 in
theorem c_Cod_widenT (l : Launch) (dC : Nat → ClassId) (dI : Nat → Nat → Nat) (c_0 c_states_a c_favourites_a n_0 n_bytes_a : Nat) (c_states_k c_favourites_k n_bytes_k : ClassId)  (c_states : Nat → Int32) (c_favourites : Nat → Int32) (c_span : Int32) (c_decisions : Int32) (c_doublings : Int32) (n_bytes : Nat → Int32) (n_byteCount : Int32) (n_nextDigit : Int32) (n_rest : Int32) (z : Int32 × Int32 × Int32 × Int32)  (hq : q_Cod_widenT c_span c_doublings n_bytes n_byteCount n_nextDigit n_rest = some z) (sz : Nat) : MetV l y_Cod_widen b_Cod_widen 3 TT rm_Cod_widenT (dC, dI) vcl [(c_states_k, .int), (c_favourites_k, .int), (n_bytes_k, .int)] (W_CT c_0 c_states_a c_favourites_a n_0 n_bytes_a c_states_k c_favourites_k n_bytes_k c_states c_favourites c_span c_decisions c_doublings n_bytes n_byteCount n_nextDigit n_rest) (W_CT c_0 c_states_a c_favourites_a n_0 n_bytes_a c_states_k c_favourites_k n_bytes_k c_states c_favourites z.1 c_decisions z.2.1 n_bytes n_byteCount z.2.2.1 z.2.2.2) [.ref c_0, .ref n_0] sz := by
  refine x_ofV (by decide) (Nat.le_of_ble_eq_true rfl) ?_ sz
  intro p e s m args below meth c A Q ls hx hb hml hown hts hA hG hK hP hD hS hl hret
  have hown : s.vm.findClass R_Cod = some m.cls := hown
  have hl : lv_has ls 3 [(0, .ref c_0), (1, .ref n_0)] := hl
  obtain ⟨⟨tq, hZ, hTq⟩, hN⟩ := id hG
  obtain ⟨H, hH⟩ : ∃ H, H = s.heap := ⟨_, rfl⟩
  obtain ⟨locs, hlocs⟩ : ∃ locs : List Loc, locs = [] := ⟨_, rfl⟩
  rw [← hH] at hP
  have hS : va_S A s.heap H locs := by rw [hH, hlocs]; exact hS
  suffices hgo : W p l e rm_Cod_widenT s m args below meth c H locs 0 0 Q (F0 m 0 ls []) by rw [hH, hlocs] at hgo; exact hgo
  unfold q_Cod_widenT at hq
  have L2 : ∀ (n2 : Nat) (x2_2 : Int32) (c_span_2 : Int32) (c_doublings_2 : Int32) (n_nextDigit_2 : Int32) (n_rest_2 : Int32) (H : Heap) (locs : List Loc) (ls : Array Slot), lv_has ls 3 [(0, .ref c_0), (1, .ref n_0), (2, .int x2_2)] → va_P (dC, dI) vcl (W_CT c_0 c_states_a c_favourites_a n_0 n_bytes_a c_states_k c_favourites_k n_bytes_k c_states c_favourites c_span_2 c_decisions c_doublings_2 n_bytes n_byteCount n_nextDigit_2 n_rest_2) H → va_D A (W_CT c_0 c_states_a c_favourites_a n_0 n_bytes_a c_states_k c_favourites_k n_bytes_k c_states c_favourites c_span_2 c_decisions c_doublings_2 n_bytes n_byteCount n_nextDigit_2 n_rest_2) → va_S A s.heap H locs → q_Cod_widenT_2 n_bytes n_byteCount  n2 x2_2 c_span_2 c_doublings_2 n_nextDigit_2 n_rest_2 = some z → W p l e rm_Cod_widenT s m args below meth c H locs 0 0 Q (F0 m 2 ls []) := by
    intro n2
    induction n2 with
    | zero =>
      intro x2_2 c_span_2 c_doublings_2 n_nextDigit_2 n_rest_2 H locs ls hl hP hD hS hq
      rw [q_Cod_widenT_2] at hq
      cases hq
    | succ n2 ih2 =>
      intro x2_2 c_span_2 c_doublings_2 n_nextDigit_2 n_rest_2 H locs ls hl hP hD hS hq2
      rw [q_Cod_widenT_2] at hq2
      have h := hq2
      refine lv_iload_n hx hb d_Cod_widen_2 rfl (lv_at hl 2 rfl) ?_
      refine lv_bipush (v := (16 : Int32)) hx hb d_Cod_widen_3 (by decide) ?_
      refine lv_icmp_ge (tgt := 47) hx hb d_Cod_widen_5 rfl (fun hc => ?_) (fun hc => ?_)
      · replace h := ot hc h
        obtain rfl := Option.some.inj h
        exact hret H locs 47 ls d_Cod_widen_47 hP hD hS
      · replace h := of hc h
        refine lv_aload_n hx hb d_Cod_widen_8 rfl (lv_at hl 0 rfl) ?_
        refine va_get (D := (dC, dI)) (ci := 0) (v := .int c_span_2) (C := R_Cod) (T := F_Cod) (N := 5) hx hb hts in_Cod hown hK hP 0 rfl rfl 2 (by decide) (hts _ tt147) (fun _ h9 => h9) rfl d_Cod_widen_9 ?_
        refine lv_ldc (own := R_Cod) (v := (32768 : Int32)) hx hb hown (hts _ tt459) d_Cod_widen_12 ?_
        refine lv_icmp_ge (tgt := 47) hx hb d_Cod_widen_14 rfl (fun hc => ?_) (fun hc => ?_)
        · replace h := ot hc h
          obtain rfl := Option.some.inj h
          exact hret H locs 47 ls d_Cod_widen_47 hP hD hS
        · replace h := of hc h
          refine lv_aload_n hx hb d_Cod_widen_17 rfl (lv_at hl 0 rfl) ?_
          refine lv_dup hx hb d_Cod_widen_18 rfl ?_
          refine va_get (D := (dC, dI)) (ci := 0) (v := .int c_span_2) (C := R_Cod) (T := F_Cod) (N := 5) hx hb hts in_Cod hown hK hP 0 rfl rfl 2 (by decide) (hts _ tt147) (fun _ h9 => h9) rfl d_Cod_widen_19 ?_
          refine lv_iconst (v := (2 : Int32)) hx hb d_Cod_widen_22 (by decide) ?_
          refine lv_imul hx hb d_Cod_widen_23 ?_
          refine va_put (D := (dC, dI)) (ci := 0) (v := .int (c_span_2 * (2 : Int32))) (ty := .int) (C := R_Cod) (T := F_Cod) (N := 5) hx hb hts in_Cod t_Cod t_Cod_ok n_Cod hown hK hP hD hS 0 rfl rfl 2 (by decide) (hts _ tt147) (fun _ h9 => h9) rfl (by decide +kernel) rfl rfl (Nat.le_of_ble_eq_true rfl) d_Cod_widen_24 (fun H locs hP hD hS => ?_)
          have hP : va_P (dC, dI) vcl (W_CT c_0 c_states_a c_favourites_a n_0 n_bytes_a c_states_k c_favourites_k n_bytes_k c_states c_favourites (c_span_2 * (2 : Int32)) c_decisions c_doublings_2 n_bytes n_byteCount n_nextDigit_2 n_rest_2) H := hP
          have hD : va_D A (W_CT c_0 c_states_a c_favourites_a n_0 n_bytes_a c_states_k c_favourites_k n_bytes_k c_states c_favourites (c_span_2 * (2 : Int32)) c_decisions c_doublings_2 n_bytes n_byteCount n_nextDigit_2 n_rest_2) := hD
          refine lv_aload_n hx hb d_Cod_widen_27 rfl (lv_at hl 1 rfl) ?_
          obtain ⟨z1, hz1, h⟩ := ob h
          refine x_goV (w1 := (W_T n_0 n_bytes_a n_bytes_k n_bytes n_byteCount z1.1 z1.2)) (ws' := (W_CT c_0 c_states_a c_favourites_a n_0 n_bytes_a c_states_k c_favourites_k n_bytes_k c_states c_favourites (c_span_2 * (2 : Int32)) c_decisions c_doublings_2 n_bytes n_byteCount z1.1 z1.2)) (wr := List.filterMap (fun (i : Nat) => (W_CT c_0 c_states_a c_favourites_a n_0 n_bytes_a c_states_k c_favourites_k n_bytes_k c_states c_favourites (c_span_2 * (2 : Int32)) c_decisions c_doublings_2 n_bytes n_byteCount n_nextDigit_2 n_rest_2)[i]?) ([0, 1, 2] : List Nat)) (va_runU (As := []) (rest := []) ⟨hx, hb, hml, hown, hts⟩ (c_Tak_makeDouble l dC dI n_0 n_bytes_a n_bytes_k  n_bytes n_byteCount n_nextDigit_2 n_rest_2 z1  hz1 H.size) (va_cwA (own := "LayeredBits$DecisionCoder") (C := "LayeredBits$TakenNumber") (owner := "LayeredBits$CodeNumber") (x := ⟨"LayeredBits$CodeNumber", "makeDouble", "()V"⟩) 0 hts (gTa (a := [.methodLink "LayeredBits$DecisionCoder" 66 ⟨"LayeredBits$CodeNumber", "makeDouble", "()V"⟩, .sameMethod "LayeredBits$CodeNumber" "LayeredBits$CodeNumber" "makeDouble" "()V", .selects "LayeredBits$TakenNumber" ⟨"LayeredBits$CodeNumber", "makeDouble", "()V"⟩ ⟨"LayeredBits$TakenNumber", "makeDouble", "()V"⟩, .instanceMethod ⟨"LayeredBits$TakenNumber", "makeDouble", "()V"⟩, .initialized "LayeredBits$TakenNumber"]) (x_m5 tt483 tt485 tt489 tt490 tt52) TT_good (gT tt491 TT_good)) rfl rfl rfl (hN _ nn484) (by decide +kernel) ⟨Nat.le_of_ble_eq_true rfl, Nat.le_of_ble_eq_true rfl⟩) (x_preV (q := (R_Tak, F_Tak, 4)) (As := []) (x_pre (wc := (W_T n_0 n_bytes_a n_bytes_k n_bytes n_byteCount n_nextDigit_2 n_rest_2)) (av := (.ref n_0 :: [])) hK hP hD hS hA hG [2] [3, 4] rfl rfl (by decide)) hK hP (q0 := 3) rfl rfl) rfl rfl hl.1 rfl (lv_room (Nat.le_of_ble_eq_true rfl)) d_Cod_widen_28 ⟨Nat.zero_le _, Nat.zero_le _⟩) hP hD hS hA [3, 4] [0, 1, 2] [0, 1, 2, 3, 4] rfl rfl (by decide) (by decide) (by decide) rfl (fun H locs hP hD hS => ?_)
          refine lv_aload_n hx hb d_Cod_widen_31 rfl (lv_at hl 0 rfl) ?_
          refine lv_dup hx hb d_Cod_widen_32 rfl ?_
          refine va_get (D := (dC, dI)) (ci := 0) (v := .int c_doublings_2) (C := R_Cod) (T := F_Cod) (N := 5) hx hb hts in_Cod hown hK hP 0 rfl rfl 4 (by decide) (hts _ tt150) (fun _ h9 => h9) rfl d_Cod_widen_33 ?_
          refine lv_iconst (v := (1 : Int32)) hx hb d_Cod_widen_36 (by decide) ?_
          refine lv_iadd hx hb d_Cod_widen_37 ?_
          refine va_put (D := (dC, dI)) (ci := 0) (v := .int (c_doublings_2 + (1 : Int32))) (ty := .int) (C := R_Cod) (T := F_Cod) (N := 5) hx hb hts in_Cod t_Cod t_Cod_ok n_Cod hown hK hP hD hS 0 rfl rfl 4 (by decide) (hts _ tt150) (fun _ h9 => h9) rfl (by decide +kernel) rfl rfl (Nat.le_of_ble_eq_true rfl) d_Cod_widen_38 (fun H locs hP hD hS => ?_)
          have hP : va_P (dC, dI) vcl (W_CT c_0 c_states_a c_favourites_a n_0 n_bytes_a c_states_k c_favourites_k n_bytes_k c_states c_favourites (c_span_2 * (2 : Int32)) c_decisions (c_doublings_2 + (1 : Int32)) n_bytes n_byteCount z1.1 z1.2) H := hP
          have hD : va_D A (W_CT c_0 c_states_a c_favourites_a n_0 n_bytes_a c_states_k c_favourites_k n_bytes_k c_states c_favourites (c_span_2 * (2 : Int32)) c_decisions (c_doublings_2 + (1 : Int32)) n_bytes n_byteCount z1.1 z1.2) := hD
          refine lv_iinc (k := 2) (v := x2_2 + (1 : Int32)) (lv' := [(2, .int (x2_2 + (1 : Int32))), (0, .ref c_0), (1, .ref n_0)]) hx hb d_Cod_widen_41 hl rfl rfl (by decide) rfl (fun ls hl => ?_)
          refine lv_goto (tgt := 2) hx hb d_Cod_widen_44 rfl ?_
          exact ih2 (x2_2 + (1 : Int32)) (c_span_2 * (2 : Int32)) (c_doublings_2 + (1 : Int32)) z1.1 z1.2 H locs ls (lv_sub hl [1, 2, 0] rfl) hP hD hS h
  have h := hq
  refine lv_iconst (v := (0 : Int32)) hx hb d_Cod_widen_0 (by decide) ?_
  refine lv_istore_n (lv' := [(2, .int (0 : Int32)), (0, .ref c_0), (1, .ref n_0)]) hx hb d_Cod_widen_1 rfl hl (by decide) rfl (fun ls hl => ?_)
  exact L2 5000 (0 : Int32) c_span c_doublings n_nextDigit n_rest H locs ls (lv_sub hl [1, 2, 0] rfl) hP hD hS h
def q_Cod_decideT_130 (i_context : Int32) (i_wanted : Int32) (n_bytes : Nat → Int32) (n_byteCount : Int32)  (x6_130 : Int32) (c_states_130 : Nat → Int32) (c_favourites_130 : Nat → Int32) (c_span_130 : Int32) (c_decisions_130 : Int32) (c_doublings_130 : Int32) (n_nextDigit_130 : Int32) (n_rest_130 : Int32) : Option (Int32 × (Nat → Int32) × (Nat → Int32) × Int32 × Int32 × Int32 × Int32 × Int32) := ((q_Cod_widenT c_span_130 c_doublings_130 n_bytes n_byteCount n_nextDigit_130 n_rest_130).bind fun z1 => some (x6_130, c_states_130, c_favourites_130, z1.1, c_decisions_130 + (1 : Int32), z1.2.1, z1.2.2.1, z1.2.2.2))
def q_Cod_decideT_118 (i_context : Int32) (i_wanted : Int32) (n_bytes : Nat → Int32) (n_byteCount : Int32)  (x6_118 : Int32) (x7_118 : Int32) (x8_118 : Int32) (c_states_118 : Nat → Int32) (c_favourites_118 : Nat → Int32) (c_span_118 : Int32) (c_decisions_118 : Int32) (c_doublings_118 : Int32) (n_nextDigit_118 : Int32) (n_rest_118 : Int32) : Option (Int32 × (Nat → Int32) × (Nat → Int32) × Int32 × Int32 × Int32 × Int32 × Int32) := (if x8_118 = 0 then (q_Cod_decideT_130 i_context i_wanted n_bytes n_byteCount  x6_118 c_states_118 c_favourites_118 c_span_118 c_decisions_118 c_doublings_118 n_nextDigit_118 n_rest_118) else ((q_Cod_adapt i_context x7_118 c_states_118 c_favourites_118).bind fun z2 => (q_Cod_decideT_130 i_context i_wanted n_bytes n_byteCount  x6_118 z2.1 z2.2 c_span_118 c_decisions_118 c_doublings_118 n_nextDigit_118 n_rest_118)))
def q_Cod_decideT_95 (i_context : Int32) (i_wanted : Int32) (n_bytes : Nat → Int32) (n_byteCount : Int32)  (x4_95 : Int32) (x5_95 : Int32) (x6_95 : Int32) (x7_95 : Int32) (k0_95 : Int32) (c_states_95 : Nat → Int32) (c_favourites_95 : Nat → Int32) (c_span_95 : Int32) (c_decisions_95 : Int32) (c_doublings_95 : Int32) (n_nextDigit_95 : Int32) (n_rest_95 : Int32) : Option (Int32 × (Nat → Int32) × (Nat → Int32) × Int32 × Int32 × Int32 × Int32 × Int32) := (if x7_95 = x5_95 then (q_Cod_decideT_118 i_context i_wanted n_bytes n_byteCount  x6_95 x7_95 k0_95 c_states_95 c_favourites_95 c_span_95 c_decisions_95 c_doublings_95 n_nextDigit_95 n_rest_95) else ((q_Tak_grow c_span_95 n_rest_95).bind fun z3 => (q_Cod_decideT_118 i_context i_wanted n_bytes n_byteCount  x6_95 x7_95 k0_95 c_states_95 c_favourites_95 x4_95 c_decisions_95 c_doublings_95 n_nextDigit_95 z3)))
def q_Cod_decideT_90 (i_context : Int32) (i_wanted : Int32) (n_bytes : Nat → Int32) (n_byteCount : Int32)  (x4_90 : Int32) (x5_90 : Int32) (x6_90 : Int32) (x7_90 : Int32) (c_states_90 : Nat → Int32) (c_favourites_90 : Nat → Int32) (c_span_90 : Int32) (c_decisions_90 : Int32) (c_doublings_90 : Int32) (n_nextDigit_90 : Int32) (n_rest_90 : Int32) : Option (Int32 × (Nat → Int32) × (Nat → Int32) × Int32 × Int32 × Int32 × Int32 × Int32) := (q_Cod_decideT_95 i_context i_wanted n_bytes n_byteCount  x4_90 x5_90 x6_90 x7_90 (1 : Int32) c_states_90 c_favourites_90 c_span_90 c_decisions_90 c_doublings_90 n_nextDigit_90 n_rest_90)
def q_Cod_decideT_74 (i_context : Int32) (i_wanted : Int32) (n_bytes : Nat → Int32) (n_byteCount : Int32)  (x4_74 : Int32) (x5_74 : Int32) (x6_74 : Int32) (k0_74 : Int32) (c_states_74 : Nat → Int32) (c_favourites_74 : Nat → Int32) (c_span_74 : Int32) (c_decisions_74 : Int32) (c_doublings_74 : Int32) (n_nextDigit_74 : Int32) (n_rest_74 : Int32) : Option (Int32 × (Nat → Int32) × (Nat → Int32) × Int32 × Int32 × Int32 × Int32 × Int32) := (if k0_74 = 0 then (q_Cod_decideT_90 i_context i_wanted n_bytes n_byteCount  x4_74 x5_74 x6_74 k0_74 c_states_74 c_favourites_74 c_span_74 c_decisions_74 c_doublings_74 n_nextDigit_74 n_rest_74) else (if (32768 : Int32) ≤ c_span_74 then (q_Cod_decideT_95 i_context i_wanted n_bytes n_byteCount  x4_74 x5_74 x6_74 k0_74 (0 : Int32) c_states_74 c_favourites_74 c_span_74 c_decisions_74 c_doublings_74 n_nextDigit_74 n_rest_74) else (q_Cod_decideT_90 i_context i_wanted n_bytes n_byteCount  x4_74 x5_74 x6_74 k0_74 c_states_74 c_favourites_74 c_span_74 c_decisions_74 c_doublings_74 n_nextDigit_74 n_rest_74)))
def q_Cod_decideT_37 (i_context : Int32) (i_wanted : Int32) (n_bytes : Nat → Int32) (n_byteCount : Int32)  (x4_37 : Int32) (k0_37 : Int32) (c_states_37 : Nat → Int32) (c_favourites_37 : Nat → Int32) (c_span_37 : Int32) (c_decisions_37 : Int32) (c_doublings_37 : Int32) (n_nextDigit_37 : Int32) (n_rest_37 : Int32) : Option (Int32 × (Nat → Int32) × (Nat → Int32) × Int32 × Int32 × Int32 × Int32 × Int32) := (if vpb i_context 2563 = true then ((q_Tak_decision i_wanted (c_favourites_37 i_context.toNatClampNeg) k0_37 c_span_37 n_rest_37).bind fun z4 => (if vpb i_context 2563 = true then (if z4 = (c_favourites_37 i_context.toNatClampNeg) then (q_Cod_decideT_74 i_context i_wanted n_bytes n_byteCount  x4_37 k0_37 z4 (1 : Int32) c_states_37 c_favourites_37 c_span_37 c_decisions_37 c_doublings_37 n_nextDigit_37 n_rest_37) else (q_Cod_decideT_74 i_context i_wanted n_bytes n_byteCount  x4_37 k0_37 z4 (0 : Int32) c_states_37 c_favourites_37 c_span_37 c_decisions_37 c_doublings_37 n_nextDigit_37 n_rest_37)) else none)) else none)
def q_Cod_decideT (i_context : Int32) (i_wanted : Int32) (c_states : Nat → Int32) (c_favourites : Nat → Int32) (c_span : Int32) (c_decisions : Int32) (c_doublings : Int32) (n_bytes : Nat → Int32) (n_byteCount : Int32) (n_nextDigit : Int32) (n_rest : Int32) : Option (Int32 × (Nat → Int32) × (Nat → Int32) × Int32 × Int32 × Int32 × Int32 × Int32) := (if vpb i_context 2563 = true then (if vpb (c_states i_context.toNatClampNeg) 24 = true then (if (c_span - (qtab (c_states i_context.toNatClampNeg).toNatClampNeg)) < (qtab (c_states i_context.toNatClampNeg).toNatClampNeg) then (q_Cod_decideT_37 i_context i_wanted n_bytes n_byteCount  (qtab (c_states i_context.toNatClampNeg).toNatClampNeg) (0 : Int32) c_states c_favourites (c_span - (qtab (c_states i_context.toNatClampNeg).toNatClampNeg)) c_decisions c_doublings n_nextDigit n_rest) else (q_Cod_decideT_37 i_context i_wanted n_bytes n_byteCount  (qtab (c_states i_context.toNatClampNeg).toNatClampNeg) (1 : Int32) c_states c_favourites (c_span - (qtab (c_states i_context.toNatClampNeg).toNatClampNeg)) c_decisions c_doublings n_nextDigit n_rest)) else none) else none)
abbrev rm_Cod_decideT : Room := { frames := 2, cells := 0, slots := 0, locals := 44 }
set_option maxHeartbeats 4000000 in
set_option maxRecDepth 100000 in
theorem c_Cod_decideT (l : Launch) (dC : Nat → ClassId) (dI : Nat → Nat → Nat) (c_0 c_states_a c_favourites_a n_0 n_bytes_a : Nat) (c_states_k c_favourites_k n_bytes_k : ClassId) (i_context : Int32) (i_wanted : Int32) (c_states : Nat → Int32) (c_favourites : Nat → Int32) (c_span : Int32) (c_decisions : Int32) (c_doublings : Int32) (n_bytes : Nat → Int32) (n_byteCount : Int32) (n_nextDigit : Int32) (n_rest : Int32) (z : Int32 × (Nat → Int32) × (Nat → Int32) × Int32 × Int32 × Int32 × Int32 × Int32)  (hq : q_Cod_decideT i_context i_wanted c_states c_favourites c_span c_decisions c_doublings n_bytes n_byteCount n_nextDigit n_rest = some z) (sz : Nat) : MetI l y_Cod_decide b_Cod_decide 9 .int TT rm_Cod_decideT (dC, dI) vcl [(c_states_k, .int), (c_favourites_k, .int), (n_bytes_k, .int)] (W_CT c_0 c_states_a c_favourites_a n_0 n_bytes_a c_states_k c_favourites_k n_bytes_k c_states c_favourites c_span c_decisions c_doublings n_bytes n_byteCount n_nextDigit n_rest) (W_CT c_0 c_states_a c_favourites_a n_0 n_bytes_a c_states_k c_favourites_k n_bytes_k z.2.1 z.2.2.1 z.2.2.2.1 z.2.2.2.2.1 z.2.2.2.2.2.1 n_bytes n_byteCount z.2.2.2.2.2.2.1 z.2.2.2.2.2.2.2) [.ref c_0, .int i_context, .int i_wanted, .ref n_0] z.1 sz := by
  refine x_ofI (by decide) (Nat.le_of_ble_eq_true rfl) ?_ sz
  intro p e s m args below meth c A Q ls hx hb hml hown hts hA hG hK hP hD hS hl hret
  have hown : s.vm.findClass R_Cod = some m.cls := hown
  have hl : lv_has ls 9 [(0, .ref c_0), (1, .int i_context), (2, .int i_wanted), (3, .ref n_0)] := hl
  obtain ⟨⟨tq, hZ, hTq⟩, hN⟩ := id hG
  obtain ⟨H, hH⟩ : ∃ H, H = s.heap := ⟨_, rfl⟩
  obtain ⟨locs, hlocs⟩ : ∃ locs : List Loc, locs = [] := ⟨_, rfl⟩
  rw [← hH] at hP
  have hS : va_S A s.heap H locs := by rw [hH, hlocs]; exact hS
  suffices hgo : W p l e rm_Cod_decideT s m args below meth c H locs 0 0 Q (F0 m 0 ls []) by rw [hH, hlocs] at hgo; exact hgo
  unfold q_Cod_decideT at hq
  have L37 : ∀ (x4_37 : Int32) (k0_37 : Int32) (c_states_37 : Nat → Int32) (c_favourites_37 : Nat → Int32) (c_span_37 : Int32) (c_decisions_37 : Int32) (c_doublings_37 : Int32) (n_nextDigit_37 : Int32) (n_rest_37 : Int32) (H : Heap) (locs : List Loc) (ls : Array Slot), lv_has ls 9 [(0, .ref c_0), (1, .int i_context), (2, .int i_wanted), (3, .ref n_0), (4, .int x4_37)] → va_P (dC, dI) vcl (W_CT c_0 c_states_a c_favourites_a n_0 n_bytes_a c_states_k c_favourites_k n_bytes_k c_states_37 c_favourites_37 c_span_37 c_decisions_37 c_doublings_37 n_bytes n_byteCount n_nextDigit_37 n_rest_37) H → va_D A (W_CT c_0 c_states_a c_favourites_a n_0 n_bytes_a c_states_k c_favourites_k n_bytes_k c_states_37 c_favourites_37 c_span_37 c_decisions_37 c_doublings_37 n_bytes n_byteCount n_nextDigit_37 n_rest_37) → va_S A s.heap H locs → q_Cod_decideT_37 i_context i_wanted n_bytes n_byteCount  x4_37 k0_37 c_states_37 c_favourites_37 c_span_37 c_decisions_37 c_doublings_37 n_nextDigit_37 n_rest_37 = some z → W p l e rm_Cod_decideT s m args below meth c H locs 0 0 Q (F0 m 37 ls [.int k0_37]) := by
    intro x4_37 k0_37 c_states_37 c_favourites_37 c_span_37 c_decisions_37 c_doublings_37 n_nextDigit_37 n_rest_37 H locs ls hl hP hD hS hq37
    unfold q_Cod_decideT_37 at hq37
    have L74 : ∀ (x4_74 : Int32) (x5_74 : Int32) (x6_74 : Int32) (k0_74 : Int32) (c_states_74 : Nat → Int32) (c_favourites_74 : Nat → Int32) (c_span_74 : Int32) (c_decisions_74 : Int32) (c_doublings_74 : Int32) (n_nextDigit_74 : Int32) (n_rest_74 : Int32) (H : Heap) (locs : List Loc) (ls : Array Slot), lv_has ls 9 [(0, .ref c_0), (1, .int i_context), (3, .ref n_0), (4, .int x4_74), (5, .int x5_74), (6, .int x6_74)] → va_P (dC, dI) vcl (W_CT c_0 c_states_a c_favourites_a n_0 n_bytes_a c_states_k c_favourites_k n_bytes_k c_states_74 c_favourites_74 c_span_74 c_decisions_74 c_doublings_74 n_bytes n_byteCount n_nextDigit_74 n_rest_74) H → va_D A (W_CT c_0 c_states_a c_favourites_a n_0 n_bytes_a c_states_k c_favourites_k n_bytes_k c_states_74 c_favourites_74 c_span_74 c_decisions_74 c_doublings_74 n_bytes n_byteCount n_nextDigit_74 n_rest_74) → va_S A s.heap H locs → q_Cod_decideT_74 i_context i_wanted n_bytes n_byteCount  x4_74 x5_74 x6_74 k0_74 c_states_74 c_favourites_74 c_span_74 c_decisions_74 c_doublings_74 n_nextDigit_74 n_rest_74 = some z → W p l e rm_Cod_decideT s m args below meth c H locs 0 0 Q (F0 m 74 ls [.int k0_74]) := by
      intro x4_74 x5_74 x6_74 k0_74 c_states_74 c_favourites_74 c_span_74 c_decisions_74 c_doublings_74 n_nextDigit_74 n_rest_74 H locs ls hl hP hD hS hq74
      unfold q_Cod_decideT_74 at hq74
      have L95 : ∀ (x4_95 : Int32) (x5_95 : Int32) (x6_95 : Int32) (x7_95 : Int32) (k0_95 : Int32) (c_states_95 : Nat → Int32) (c_favourites_95 : Nat → Int32) (c_span_95 : Int32) (c_decisions_95 : Int32) (c_doublings_95 : Int32) (n_nextDigit_95 : Int32) (n_rest_95 : Int32) (H : Heap) (locs : List Loc) (ls : Array Slot), lv_has ls 9 [(0, .ref c_0), (1, .int i_context), (3, .ref n_0), (4, .int x4_95), (5, .int x5_95), (6, .int x6_95), (7, .int x7_95)] → va_P (dC, dI) vcl (W_CT c_0 c_states_a c_favourites_a n_0 n_bytes_a c_states_k c_favourites_k n_bytes_k c_states_95 c_favourites_95 c_span_95 c_decisions_95 c_doublings_95 n_bytes n_byteCount n_nextDigit_95 n_rest_95) H → va_D A (W_CT c_0 c_states_a c_favourites_a n_0 n_bytes_a c_states_k c_favourites_k n_bytes_k c_states_95 c_favourites_95 c_span_95 c_decisions_95 c_doublings_95 n_bytes n_byteCount n_nextDigit_95 n_rest_95) → va_S A s.heap H locs → q_Cod_decideT_95 i_context i_wanted n_bytes n_byteCount  x4_95 x5_95 x6_95 x7_95 k0_95 c_states_95 c_favourites_95 c_span_95 c_decisions_95 c_doublings_95 n_nextDigit_95 n_rest_95 = some z → W p l e rm_Cod_decideT s m args below meth c H locs 0 0 Q (F0 m 95 ls [.int k0_95]) := by
        intro x4_95 x5_95 x6_95 x7_95 k0_95 c_states_95 c_favourites_95 c_span_95 c_decisions_95 c_doublings_95 n_nextDigit_95 n_rest_95 H locs ls hl hP hD hS hq95
        unfold q_Cod_decideT_95 at hq95
        have L118 : ∀ (x6_118 : Int32) (x7_118 : Int32) (x8_118 : Int32) (c_states_118 : Nat → Int32) (c_favourites_118 : Nat → Int32) (c_span_118 : Int32) (c_decisions_118 : Int32) (c_doublings_118 : Int32) (n_nextDigit_118 : Int32) (n_rest_118 : Int32) (H : Heap) (locs : List Loc) (ls : Array Slot), lv_has ls 9 [(0, .ref c_0), (1, .int i_context), (3, .ref n_0), (6, .int x6_118), (7, .int x7_118), (8, .int x8_118)] → va_P (dC, dI) vcl (W_CT c_0 c_states_a c_favourites_a n_0 n_bytes_a c_states_k c_favourites_k n_bytes_k c_states_118 c_favourites_118 c_span_118 c_decisions_118 c_doublings_118 n_bytes n_byteCount n_nextDigit_118 n_rest_118) H → va_D A (W_CT c_0 c_states_a c_favourites_a n_0 n_bytes_a c_states_k c_favourites_k n_bytes_k c_states_118 c_favourites_118 c_span_118 c_decisions_118 c_doublings_118 n_bytes n_byteCount n_nextDigit_118 n_rest_118) → va_S A s.heap H locs → q_Cod_decideT_118 i_context i_wanted n_bytes n_byteCount  x6_118 x7_118 x8_118 c_states_118 c_favourites_118 c_span_118 c_decisions_118 c_doublings_118 n_nextDigit_118 n_rest_118 = some z → W p l e rm_Cod_decideT s m args below meth c H locs 0 0 Q (F0 m 118 ls []) := by
          intro x6_118 x7_118 x8_118 c_states_118 c_favourites_118 c_span_118 c_decisions_118 c_doublings_118 n_nextDigit_118 n_rest_118 H locs ls hl hP hD hS hq118
          unfold q_Cod_decideT_118 at hq118
          have L130 : ∀ (x6_130 : Int32) (c_states_130 : Nat → Int32) (c_favourites_130 : Nat → Int32) (c_span_130 : Int32) (c_decisions_130 : Int32) (c_doublings_130 : Int32) (n_nextDigit_130 : Int32) (n_rest_130 : Int32) (H : Heap) (locs : List Loc) (ls : Array Slot), lv_has ls 9 [(0, .ref c_0), (3, .ref n_0), (6, .int x6_130)] → va_P (dC, dI) vcl (W_CT c_0 c_states_a c_favourites_a n_0 n_bytes_a c_states_k c_favourites_k n_bytes_k c_states_130 c_favourites_130 c_span_130 c_decisions_130 c_doublings_130 n_bytes n_byteCount n_nextDigit_130 n_rest_130) H → va_D A (W_CT c_0 c_states_a c_favourites_a n_0 n_bytes_a c_states_k c_favourites_k n_bytes_k c_states_130 c_favourites_130 c_span_130 c_decisions_130 c_doublings_130 n_bytes n_byteCount n_nextDigit_130 n_rest_130) → va_S A s.heap H locs → q_Cod_decideT_130 i_context i_wanted n_bytes n_byteCount  x6_130 c_states_130 c_favourites_130 c_span_130 c_decisions_130 c_doublings_130 n_nextDigit_130 n_rest_130 = some z → W p l e rm_Cod_decideT s m args below meth c H locs 0 0 Q (F0 m 130 ls []) := by
            intro x6_130 c_states_130 c_favourites_130 c_span_130 c_decisions_130 c_doublings_130 n_nextDigit_130 n_rest_130 H locs ls hl hP hD hS hq130
            unfold q_Cod_decideT_130 at hq130
            have h := hq130
            refine lv_aload_n hx hb d_Cod_decide_130 rfl (lv_at hl 0 rfl) ?_
            refine lv_aload_n hx hb d_Cod_decide_131 rfl (lv_at hl 1 rfl) ?_
            obtain ⟨z1, hz1, h⟩ := ob h
            refine x_goV (w1 := (W_CT c_0 c_states_a c_favourites_a n_0 n_bytes_a c_states_k c_favourites_k n_bytes_k c_states_130 c_favourites_130 z1.1 c_decisions_130 z1.2.1 n_bytes n_byteCount z1.2.2.1 z1.2.2.2)) (ws' := (W_CT c_0 c_states_a c_favourites_a n_0 n_bytes_a c_states_k c_favourites_k n_bytes_k c_states_130 c_favourites_130 z1.1 c_decisions_130 z1.2.1 n_bytes n_byteCount z1.2.2.1 z1.2.2.2)) (wr := List.filterMap (fun (i : Nat) => (W_CT c_0 c_states_a c_favourites_a n_0 n_bytes_a c_states_k c_favourites_k n_bytes_k c_states_130 c_favourites_130 c_span_130 c_decisions_130 c_doublings_130 n_bytes n_byteCount n_nextDigit_130 n_rest_130)[i]?) ([] : List Nat)) (va_runV (As := [.ref n_0]) (rest := []) ⟨hx, hb, hml, hown, hts⟩ (c_Cod_widenT l dC dI c_0 c_states_a c_favourites_a n_0 n_bytes_a c_states_k c_favourites_k n_bytes_k  c_states_130 c_favourites_130 c_span_130 c_decisions_130 c_doublings_130 n_bytes n_byteCount n_nextDigit_130 n_rest_130 z1  hz1 H.size) ⟨callB_of 1 hts (gT tt482 TT_good) rfl rfl rfl (hts _ tt49) (hts _ tt479) (by decide +kernel) ⟨Nat.le_of_ble_eq_true rfl, Nat.le_of_ble_eq_true rfl⟩, hts _ tt481, hts _ tt6⟩ (x_preV (q := (R_Cod, F_Cod, 5)) (As := [.ref n_0]) (x_pre (wc := (W_CT c_0 c_states_a c_favourites_a n_0 n_bytes_a c_states_k c_favourites_k n_bytes_k c_states_130 c_favourites_130 c_span_130 c_decisions_130 c_doublings_130 n_bytes n_byteCount n_nextDigit_130 n_rest_130)) (av := (.ref c_0 :: [.ref n_0])) hK hP hD hS hA hG [0, 1, 2] [0, 1, 2, 3, 4] rfl rfl (by decide)) hK hP (q0 := 0) rfl rfl) rfl rfl hl.1 rfl (lv_room (Nat.le_of_ble_eq_true rfl)) d_Cod_decide_132 ⟨Nat.zero_le _, Nat.zero_le _⟩) hP hD hS hA [0, 1, 2, 3, 4] [] [0, 1, 2, 3, 4] rfl rfl (by decide) (by decide) (by decide) rfl (fun H locs hP hD hS => ?_)
            refine lv_aload_n hx hb d_Cod_decide_135 rfl (lv_at hl 0 rfl) ?_
            refine lv_dup hx hb d_Cod_decide_136 rfl ?_
            refine va_get (D := (dC, dI)) (ci := 0) (v := .int c_decisions_130) (C := R_Cod) (T := F_Cod) (N := 5) hx hb hts in_Cod hown hK hP 0 rfl rfl 3 (by decide) (hts _ tt148) (fun _ h9 => h9) rfl d_Cod_decide_137 ?_
            refine lv_iconst (v := (1 : Int32)) hx hb d_Cod_decide_140 (by decide) ?_
            refine lv_iadd hx hb d_Cod_decide_141 ?_
            refine va_put (D := (dC, dI)) (ci := 0) (v := .int (c_decisions_130 + (1 : Int32))) (ty := .int) (C := R_Cod) (T := F_Cod) (N := 5) hx hb hts in_Cod t_Cod t_Cod_ok n_Cod hown hK hP hD hS 0 rfl rfl 3 (by decide) (hts _ tt148) (fun _ h9 => h9) rfl (by decide +kernel) rfl rfl (Nat.le_of_ble_eq_true rfl) d_Cod_decide_142 (fun H locs hP hD hS => ?_)
            have hP : va_P (dC, dI) vcl (W_CT c_0 c_states_a c_favourites_a n_0 n_bytes_a c_states_k c_favourites_k n_bytes_k c_states_130 c_favourites_130 z1.1 (c_decisions_130 + (1 : Int32)) z1.2.1 n_bytes n_byteCount z1.2.2.1 z1.2.2.2) H := hP
            have hD : va_D A (W_CT c_0 c_states_a c_favourites_a n_0 n_bytes_a c_states_k c_favourites_k n_bytes_k c_states_130 c_favourites_130 z1.1 (c_decisions_130 + (1 : Int32)) z1.2.1 n_bytes n_byteCount z1.2.2.1 z1.2.2.2) := hD
            refine lv_iload hx hb d_Cod_decide_145 (lv_at hl 2 rfl) ?_
            obtain rfl := Option.some.inj h
            exact hret H locs 147 ls d_Cod_decide_147 (vp_nar_int _) hP hD hS
          have h := hq118
          refine lv_iload hx hb d_Cod_decide_118 (lv_at hl 5 rfl) ?_
          refine lv_if_eq (tgt := 130) hx hb d_Cod_decide_120 rfl (fun hc => ?_) (fun hc => ?_)
          · replace h := ot hc h
            exact L130 x6_118 c_states_118 c_favourites_118 c_span_118 c_decisions_118 c_doublings_118 n_nextDigit_118 n_rest_118 H locs ls (lv_sub hl [0, 2, 3] rfl) hP hD hS h
          · replace h := of hc h
            refine lv_aload_n hx hb d_Cod_decide_123 rfl (lv_at hl 0 rfl) ?_
            refine lv_iload_n hx hb d_Cod_decide_124 rfl (lv_at hl 1 rfl) ?_
            refine lv_iload hx hb d_Cod_decide_125 (lv_at hl 4 rfl) ?_
            obtain ⟨z2, hz2, h⟩ := ob h
            refine x_goV (w1 := (W_C c_0 c_states_a c_favourites_a c_states_k c_favourites_k z2.1 z2.2 c_span_118 c_decisions_118 c_doublings_118)) (ws' := (W_CT c_0 c_states_a c_favourites_a n_0 n_bytes_a c_states_k c_favourites_k n_bytes_k z2.1 z2.2 c_span_118 c_decisions_118 c_doublings_118 n_bytes n_byteCount n_nextDigit_118 n_rest_118)) (wr := List.filterMap (fun (i : Nat) => (W_CT c_0 c_states_a c_favourites_a n_0 n_bytes_a c_states_k c_favourites_k n_bytes_k c_states_118 c_favourites_118 c_span_118 c_decisions_118 c_doublings_118 n_bytes n_byteCount n_nextDigit_118 n_rest_118)[i]?) ([3, 4] : List Nat)) (va_runV (As := [.int i_context, .int x7_118]) (rest := []) ⟨hx, hb, hml, hown, hts⟩ (c_Cod_adapt l dC dI c_0 c_states_a c_favourites_a c_states_k c_favourites_k i_context x7_118 c_states_118 c_favourites_118 c_span_118 c_decisions_118 c_doublings_118 z2  hz2 H.size) ⟨callB_of 2 hts (gT tt472 TT_good) rfl rfl rfl (hts _ tt49) (hts _ tt469) (by decide +kernel) ⟨Nat.le_of_ble_eq_true rfl, Nat.le_of_ble_eq_true rfl⟩, hts _ tt471, hts _ tt5⟩ (x_preV (q := (R_Cod, F_Cod, 5)) (As := [.int i_context, .int x7_118]) (x_pre (wc := (W_C c_0 c_states_a c_favourites_a c_states_k c_favourites_k c_states_118 c_favourites_118 c_span_118 c_decisions_118 c_doublings_118)) (av := (.ref c_0 :: [.int i_context, .int x7_118])) hK hP hD hS hA hG [0, 1] [0, 1, 2] rfl rfl (by decide)) hK hP (q0 := 0) rfl rfl) rfl rfl hl.1 rfl (lv_room (Nat.le_of_ble_eq_true rfl)) d_Cod_decide_127 ⟨Nat.zero_le _, Nat.zero_le _⟩) hP hD hS hA [0, 1, 2] [3, 4] [2, 3, 4, 0, 1] rfl rfl (by decide) (by decide) (by decide) rfl (fun H locs hP hD hS => ?_)
            exact L130 x6_118 z2.1 z2.2 c_span_118 c_decisions_118 c_doublings_118 n_nextDigit_118 n_rest_118 H locs ls (lv_sub hl [0, 2, 3] rfl) hP hD hS h
        have h := hq95
        refine lv_istore (lv' := [(8, .int k0_95), (0, .ref c_0), (1, .int i_context), (3, .ref n_0), (4, .int x4_95), (5, .int x5_95), (6, .int x6_95), (7, .int x7_95)]) hx hb d_Cod_decide_95 hl (by decide) rfl (fun ls hl => ?_)
        refine lv_iload hx hb d_Cod_decide_97 (lv_at hl 7 rfl) ?_
        refine lv_iload hx hb d_Cod_decide_99 (lv_at hl 5 rfl) ?_
        refine lv_icmp_eq (tgt := 118) hx hb d_Cod_decide_101 rfl (fun hc => ?_) (fun hc => ?_)
        · replace h := ot hc h
          exact L118 x6_95 x7_95 k0_95 c_states_95 c_favourites_95 c_span_95 c_decisions_95 c_doublings_95 n_nextDigit_95 n_rest_95 H locs ls (lv_sub hl [1, 2, 3, 6, 7, 0] rfl) hP hD hS h
        · replace h := of hc h
          refine lv_aload_n hx hb d_Cod_decide_104 rfl (lv_at hl 3 rfl) ?_
          refine lv_aload_n hx hb d_Cod_decide_105 rfl (lv_at hl 1 rfl) ?_
          refine va_get (D := (dC, dI)) (ci := 0) (v := .int c_span_95) (C := R_Cod) (T := F_Cod) (N := 5) hx hb hts in_Cod hown hK hP 0 rfl rfl 2 (by decide) (hts _ tt147) (fun _ h9 => h9) rfl d_Cod_decide_106 ?_
          obtain ⟨z3, hz3, h⟩ := ob h
          refine x_goV (w1 := (W_T n_0 n_bytes_a n_bytes_k n_bytes n_byteCount n_nextDigit_95 z3)) (ws' := (W_CT c_0 c_states_a c_favourites_a n_0 n_bytes_a c_states_k c_favourites_k n_bytes_k c_states_95 c_favourites_95 c_span_95 c_decisions_95 c_doublings_95 n_bytes n_byteCount n_nextDigit_95 z3)) (wr := List.filterMap (fun (i : Nat) => (W_CT c_0 c_states_a c_favourites_a n_0 n_bytes_a c_states_k c_favourites_k n_bytes_k c_states_95 c_favourites_95 c_span_95 c_decisions_95 c_doublings_95 n_bytes n_byteCount n_nextDigit_95 n_rest_95)[i]?) ([0, 1, 2] : List Nat)) (va_runU (As := [.int c_span_95]) (rest := []) ⟨hx, hb, hml, hown, hts⟩ (c_Tak_grow l dC dI n_0 n_bytes_a n_bytes_k c_span_95 n_bytes n_byteCount n_nextDigit_95 n_rest_95 z3  hz3 H.size) (va_cwA (own := "LayeredBits$DecisionCoder") (C := "LayeredBits$TakenNumber") (owner := "LayeredBits$CodeNumber") (x := ⟨"LayeredBits$CodeNumber", "grow", "(I)V"⟩) 1 hts (gTa (a := [.methodLink "LayeredBits$DecisionCoder" 45 ⟨"LayeredBits$CodeNumber", "grow", "(I)V"⟩, .sameMethod "LayeredBits$CodeNumber" "LayeredBits$CodeNumber" "grow" "(I)V", .selects "LayeredBits$TakenNumber" ⟨"LayeredBits$CodeNumber", "grow", "(I)V"⟩ ⟨"LayeredBits$TakenNumber", "grow", "(I)V"⟩, .instanceMethod ⟨"LayeredBits$TakenNumber", "grow", "(I)V"⟩, .initialized "LayeredBits$TakenNumber"]) (x_m5 tt460 tt462 tt466 tt467 tt52) TT_good (gT tt468 TT_good)) rfl rfl rfl (hN _ nn461) (by decide +kernel) ⟨Nat.le_of_ble_eq_true rfl, Nat.le_of_ble_eq_true rfl⟩) (x_preV (q := (R_Tak, F_Tak, 4)) (As := [.int c_span_95]) (x_pre (wc := (W_T n_0 n_bytes_a n_bytes_k n_bytes n_byteCount n_nextDigit_95 n_rest_95)) (av := (.ref n_0 :: [.int c_span_95])) hK hP hD hS hA hG [2] [3, 4] rfl rfl (by decide)) hK hP (q0 := 3) rfl rfl) rfl rfl hl.1 rfl (lv_room (Nat.le_of_ble_eq_true rfl)) d_Cod_decide_109 ⟨Nat.zero_le _, Nat.zero_le _⟩) hP hD hS hA [3, 4] [0, 1, 2] [0, 1, 2, 3, 4] rfl rfl (by decide) (by decide) (by decide) rfl (fun H locs hP hD hS => ?_)
          refine lv_aload_n hx hb d_Cod_decide_112 rfl (lv_at hl 1 rfl) ?_
          refine lv_iload hx hb d_Cod_decide_113 (lv_at hl 4 rfl) ?_
          refine va_put (D := (dC, dI)) (ci := 0) (v := .int x4_95) (ty := .int) (C := R_Cod) (T := F_Cod) (N := 5) hx hb hts in_Cod t_Cod t_Cod_ok n_Cod hown hK hP hD hS 0 rfl rfl 2 (by decide) (hts _ tt147) (fun _ h9 => h9) rfl (by decide +kernel) rfl rfl (Nat.le_of_ble_eq_true rfl) d_Cod_decide_115 (fun H locs hP hD hS => ?_)
          have hP : va_P (dC, dI) vcl (W_CT c_0 c_states_a c_favourites_a n_0 n_bytes_a c_states_k c_favourites_k n_bytes_k c_states_95 c_favourites_95 x4_95 c_decisions_95 c_doublings_95 n_bytes n_byteCount n_nextDigit_95 z3) H := hP
          have hD : va_D A (W_CT c_0 c_states_a c_favourites_a n_0 n_bytes_a c_states_k c_favourites_k n_bytes_k c_states_95 c_favourites_95 x4_95 c_decisions_95 c_doublings_95 n_bytes n_byteCount n_nextDigit_95 z3) := hD
          exact L118 x6_95 x7_95 k0_95 c_states_95 c_favourites_95 x4_95 c_decisions_95 c_doublings_95 n_nextDigit_95 z3 H locs ls (lv_sub hl [1, 2, 3, 6, 7, 0] rfl) hP hD hS h
      have L90 : ∀ (x4_90 : Int32) (x5_90 : Int32) (x6_90 : Int32) (x7_90 : Int32) (c_states_90 : Nat → Int32) (c_favourites_90 : Nat → Int32) (c_span_90 : Int32) (c_decisions_90 : Int32) (c_doublings_90 : Int32) (n_nextDigit_90 : Int32) (n_rest_90 : Int32) (H : Heap) (locs : List Loc) (ls : Array Slot), lv_has ls 9 [(0, .ref c_0), (1, .int i_context), (3, .ref n_0), (4, .int x4_90), (5, .int x5_90), (6, .int x6_90), (7, .int x7_90)] → va_P (dC, dI) vcl (W_CT c_0 c_states_a c_favourites_a n_0 n_bytes_a c_states_k c_favourites_k n_bytes_k c_states_90 c_favourites_90 c_span_90 c_decisions_90 c_doublings_90 n_bytes n_byteCount n_nextDigit_90 n_rest_90) H → va_D A (W_CT c_0 c_states_a c_favourites_a n_0 n_bytes_a c_states_k c_favourites_k n_bytes_k c_states_90 c_favourites_90 c_span_90 c_decisions_90 c_doublings_90 n_bytes n_byteCount n_nextDigit_90 n_rest_90) → va_S A s.heap H locs → q_Cod_decideT_90 i_context i_wanted n_bytes n_byteCount  x4_90 x5_90 x6_90 x7_90 c_states_90 c_favourites_90 c_span_90 c_decisions_90 c_doublings_90 n_nextDigit_90 n_rest_90 = some z → W p l e rm_Cod_decideT s m args below meth c H locs 0 0 Q (F0 m 90 ls []) := by
        intro x4_90 x5_90 x6_90 x7_90 c_states_90 c_favourites_90 c_span_90 c_decisions_90 c_doublings_90 n_nextDigit_90 n_rest_90 H locs ls hl hP hD hS hq90
        unfold q_Cod_decideT_90 at hq90
        have h := hq90
        refine lv_iconst (v := (1 : Int32)) hx hb d_Cod_decide_90 (by decide) ?_
        refine lv_goto (tgt := 95) hx hb d_Cod_decide_91 rfl ?_
        exact L95 x4_90 x5_90 x6_90 x7_90 (1 : Int32) c_states_90 c_favourites_90 c_span_90 c_decisions_90 c_doublings_90 n_nextDigit_90 n_rest_90 H locs ls (lv_sub hl [0, 1, 2, 3, 4, 5, 6] rfl) hP hD hS h
      have h := hq74
      refine lv_istore (lv' := [(7, .int k0_74), (0, .ref c_0), (1, .int i_context), (3, .ref n_0), (4, .int x4_74), (5, .int x5_74), (6, .int x6_74)]) hx hb d_Cod_decide_74 hl (by decide) rfl (fun ls hl => ?_)
      refine lv_iload hx hb d_Cod_decide_76 (lv_at hl 0 rfl) ?_
      refine lv_if_eq (tgt := 90) hx hb d_Cod_decide_78 rfl (fun hc => ?_) (fun hc => ?_)
      · replace h := ot hc h
        exact L90 x4_74 x5_74 x6_74 k0_74 c_states_74 c_favourites_74 c_span_74 c_decisions_74 c_doublings_74 n_nextDigit_74 n_rest_74 H locs ls (lv_sub hl [1, 2, 3, 4, 5, 6, 0] rfl) hP hD hS h
      · replace h := of hc h
        refine lv_aload_n hx hb d_Cod_decide_81 rfl (lv_at hl 1 rfl) ?_
        refine va_get (D := (dC, dI)) (ci := 0) (v := .int c_span_74) (C := R_Cod) (T := F_Cod) (N := 5) hx hb hts in_Cod hown hK hP 0 rfl rfl 2 (by decide) (hts _ tt147) (fun _ h9 => h9) rfl d_Cod_decide_82 ?_
        refine lv_ldc (own := R_Cod) (v := (32768 : Int32)) hx hb hown (hts _ tt459) d_Cod_decide_85 ?_
        refine lv_icmp_ge (tgt := 94) hx hb d_Cod_decide_87 rfl (fun hc => ?_) (fun hc => ?_)
        · replace h := ot hc h
          refine lv_iconst (v := (0 : Int32)) hx hb d_Cod_decide_94 (by decide) ?_
          exact L95 x4_74 x5_74 x6_74 k0_74 (0 : Int32) c_states_74 c_favourites_74 c_span_74 c_decisions_74 c_doublings_74 n_nextDigit_74 n_rest_74 H locs ls (lv_sub hl [1, 2, 3, 4, 5, 6, 0] rfl) hP hD hS h
        · replace h := of hc h
          exact L90 x4_74 x5_74 x6_74 k0_74 c_states_74 c_favourites_74 c_span_74 c_decisions_74 c_doublings_74 n_nextDigit_74 n_rest_74 H locs ls (lv_sub hl [1, 2, 3, 4, 5, 6, 0] rfl) hP hD hS h
    have h := hq37
    refine lv_istore (lv' := [(5, .int k0_37), (0, .ref c_0), (1, .int i_context), (2, .int i_wanted), (3, .ref n_0), (4, .int x4_37)]) hx hb d_Cod_decide_37 hl (by decide) rfl (fun ls hl => ?_)
    refine lv_aload_n hx hb d_Cod_decide_39 rfl (lv_at hl 4 rfl) ?_
    refine lv_iload_n hx hb d_Cod_decide_40 rfl (lv_at hl 3 rfl) ?_
    refine lv_aload_n hx hb d_Cod_decide_41 rfl (lv_at hl 1 rfl) ?_
    refine va_get (D := (dC, dI)) (ci := 0) (v := .ref c_favourites_a) (C := R_Cod) (T := F_Cod) (N := 5) hx hb hts in_Cod hown hK hP 0 rfl rfl 1 (by decide) (hts _ tt146) (fun _ h9 => h9) rfl d_Cod_decide_42 ?_
    refine lv_iload_n hx hb d_Cod_decide_45 rfl (lv_at hl 2 rfl) ?_
    obtain ⟨hin, h⟩ := og h
    refine va_iald hx hb hK hP 2 1 rfl rfl (vpb_in hin) d_Cod_decide_46 ?_
    refine lv_iload hx hb d_Cod_decide_47 (lv_at hl 0 rfl) ?_
    refine lv_aload_n hx hb d_Cod_decide_49 rfl (lv_at hl 1 rfl) ?_
    refine va_get (D := (dC, dI)) (ci := 0) (v := .int c_span_37) (C := R_Cod) (T := F_Cod) (N := 5) hx hb hts in_Cod hown hK hP 0 rfl rfl 2 (by decide) (hts _ tt147) (fun _ h9 => h9) rfl d_Cod_decide_50 ?_
    obtain ⟨z4, hz4, h⟩ := ob h
    refine x_goI (res := z4) (w1 := (W_T n_0 n_bytes_a n_bytes_k n_bytes n_byteCount n_nextDigit_37 n_rest_37)) (ws' := (W_CT c_0 c_states_a c_favourites_a n_0 n_bytes_a c_states_k c_favourites_k n_bytes_k c_states_37 c_favourites_37 c_span_37 c_decisions_37 c_doublings_37 n_bytes n_byteCount n_nextDigit_37 n_rest_37)) (wr := List.filterMap (fun (i : Nat) => (W_CT c_0 c_states_a c_favourites_a n_0 n_bytes_a c_states_k c_favourites_k n_bytes_k c_states_37 c_favourites_37 c_span_37 c_decisions_37 c_doublings_37 n_bytes n_byteCount n_nextDigit_37 n_rest_37)[i]?) ([0, 1, 2] : List Nat)) (va_runU (As := [.int i_wanted, .int (c_favourites_37 i_context.toNatClampNeg), .int k0_37, .int c_span_37]) (rest := []) ⟨hx, hb, hml, hown, hts⟩ (c_Tak_decision l dC dI n_0 n_bytes_a n_bytes_k i_wanted (c_favourites_37 i_context.toNatClampNeg) k0_37 c_span_37 n_bytes n_byteCount n_nextDigit_37 n_rest_37 z4  hz4 H.size) (va_cwA (own := "LayeredBits$DecisionCoder") (C := "LayeredBits$TakenNumber") (owner := "LayeredBits$CodeNumber") (x := ⟨"LayeredBits$CodeNumber", "decision", "(IIZI)I"⟩) 4 hts (gTa (a := [.methodLink "LayeredBits$DecisionCoder" 38 ⟨"LayeredBits$CodeNumber", "decision", "(IIZI)I"⟩, .sameMethod "LayeredBits$CodeNumber" "LayeredBits$CodeNumber" "decision" "(IIZI)I", .selects "LayeredBits$TakenNumber" ⟨"LayeredBits$CodeNumber", "decision", "(IIZI)I"⟩ ⟨"LayeredBits$TakenNumber", "decision", "(IIZI)I"⟩, .instanceMethod ⟨"LayeredBits$TakenNumber", "decision", "(IIZI)I"⟩, .initialized "LayeredBits$TakenNumber"]) (x_m5 tt450 tt452 tt456 tt457 tt52) TT_good (gT tt458 TT_good)) rfl rfl rfl (hN _ nn451) (by decide +kernel) ⟨Nat.le_of_ble_eq_true rfl, Nat.le_of_ble_eq_true rfl⟩) (x_preV (q := (R_Tak, F_Tak, 4)) (As := [.int i_wanted, .int (c_favourites_37 i_context.toNatClampNeg), .int k0_37, .int c_span_37]) (x_pre (wc := (W_T n_0 n_bytes_a n_bytes_k n_bytes n_byteCount n_nextDigit_37 n_rest_37)) (av := (.ref n_0 :: [.int i_wanted, .int (c_favourites_37 i_context.toNatClampNeg), .int k0_37, .int c_span_37])) hK hP hD hS hA hG [2] [3, 4] rfl rfl (by decide)) hK hP (q0 := 3) rfl rfl) rfl rfl hl.1 rfl (lv_room (Nat.le_of_ble_eq_true rfl)) d_Cod_decide_53 ⟨Nat.zero_le _, Nat.zero_le _⟩) hP hD hS hA [3, 4] [0, 1, 2] [0, 1, 2, 3, 4] rfl rfl (by decide) (by decide) (by decide) rfl (fun H locs hP hD hS => ?_)
    refine lv_istore (lv' := [(6, .int z4), (5, .int k0_37), (0, .ref c_0), (1, .int i_context), (2, .int i_wanted), (3, .ref n_0), (4, .int x4_37)]) hx hb d_Cod_decide_56 hl (by decide) rfl (fun ls hl => ?_)
    refine lv_iload hx hb d_Cod_decide_58 (lv_at hl 0 rfl) ?_
    refine lv_aload_n hx hb d_Cod_decide_60 rfl (lv_at hl 2 rfl) ?_
    refine va_get (D := (dC, dI)) (ci := 0) (v := .ref c_favourites_a) (C := R_Cod) (T := F_Cod) (N := 5) hx hb hts in_Cod hown hK hP 0 rfl rfl 1 (by decide) (hts _ tt146) (fun _ h9 => h9) rfl d_Cod_decide_61 ?_
    refine lv_iload_n hx hb d_Cod_decide_64 rfl (lv_at hl 3 rfl) ?_
    obtain ⟨hin, h⟩ := og h
    refine va_iald hx hb hK hP 2 1 rfl rfl (vpb_in hin) d_Cod_decide_65 ?_
    refine lv_icmp_ne (tgt := 73) hx hb d_Cod_decide_66 rfl (fun hc => ?_) (fun hc => ?_)
    · replace h := of hc h
      refine lv_iconst (v := (0 : Int32)) hx hb d_Cod_decide_73 (by decide) ?_
      exact L74 x4_37 k0_37 z4 (0 : Int32) c_states_37 c_favourites_37 c_span_37 c_decisions_37 c_doublings_37 n_nextDigit_37 n_rest_37 H locs ls (lv_sub hl [2, 3, 5, 6, 1, 0] rfl) hP hD hS h
    · replace h := ot hc h
      refine lv_iconst (v := (1 : Int32)) hx hb d_Cod_decide_69 (by decide) ?_
      refine lv_goto (tgt := 74) hx hb d_Cod_decide_70 rfl ?_
      exact L74 x4_37 k0_37 z4 (1 : Int32) c_states_37 c_favourites_37 c_span_37 c_decisions_37 c_doublings_37 n_nextDigit_37 n_rest_37 H locs ls (lv_sub hl [2, 3, 5, 6, 1, 0] rfl) hP hD hS h
  have h := hq
  refine va_getsN hx hb hZ hS hown (va_Nw.use rfl (hN _ nn448)) (fun _ h9 => h9) d_Cod_decide_0 ?_
  refine lv_aload_n hx hb d_Cod_decide_3 rfl (lv_at hl 0 rfl) ?_
  refine va_get (D := (dC, dI)) (ci := 0) (v := .ref c_states_a) (C := R_Cod) (T := F_Cod) (N := 5) hx hb hts in_Cod hown hK hP 0 rfl rfl 0 (by decide) (hts _ tt145) (fun _ h9 => h9) rfl d_Cod_decide_4 ?_
  refine lv_iload_n hx hb d_Cod_decide_7 rfl (lv_at hl 1 rfl) ?_
  obtain ⟨hin, h⟩ := og h
  refine va_iald hx hb hK hP 1 0 rfl rfl (vpb_in hin) d_Cod_decide_8 ?_
  obtain ⟨hin, h⟩ := og h
  refine va_ti (v := .int (qtab (c_states i_context.toNatClampNeg).toNatClampNeg)) hx hb hTq hS (vpb_in hin) rfl d_Cod_decide_9 ?_
  refine lv_istore (lv' := [(4, .int (qtab (c_states i_context.toNatClampNeg).toNatClampNeg)), (0, .ref c_0), (1, .int i_context), (2, .int i_wanted), (3, .ref n_0)]) hx hb d_Cod_decide_10 hl (by decide) rfl (fun ls hl => ?_)
  refine lv_aload_n hx hb d_Cod_decide_12 rfl (lv_at hl 1 rfl) ?_
  refine lv_dup hx hb d_Cod_decide_13 rfl ?_
  refine va_get (D := (dC, dI)) (ci := 0) (v := .int c_span) (C := R_Cod) (T := F_Cod) (N := 5) hx hb hts in_Cod hown hK hP 0 rfl rfl 2 (by decide) (hts _ tt147) (fun _ h9 => h9) rfl d_Cod_decide_14 ?_
  refine lv_iload hx hb d_Cod_decide_17 (lv_at hl 0 rfl) ?_
  refine lv_isub hx hb d_Cod_decide_19 ?_
  refine va_put (D := (dC, dI)) (ci := 0) (v := .int (c_span - (qtab (c_states i_context.toNatClampNeg).toNatClampNeg))) (ty := .int) (C := R_Cod) (T := F_Cod) (N := 5) hx hb hts in_Cod t_Cod t_Cod_ok n_Cod hown hK hP hD hS 0 rfl rfl 2 (by decide) (hts _ tt147) (fun _ h9 => h9) rfl (by decide +kernel) rfl rfl (Nat.le_of_ble_eq_true rfl) d_Cod_decide_20 (fun H locs hP hD hS => ?_)
  have hP : va_P (dC, dI) vcl (W_CT c_0 c_states_a c_favourites_a n_0 n_bytes_a c_states_k c_favourites_k n_bytes_k c_states c_favourites (c_span - (qtab (c_states i_context.toNatClampNeg).toNatClampNeg)) c_decisions c_doublings n_bytes n_byteCount n_nextDigit n_rest) H := hP
  have hD : va_D A (W_CT c_0 c_states_a c_favourites_a n_0 n_bytes_a c_states_k c_favourites_k n_bytes_k c_states c_favourites (c_span - (qtab (c_states i_context.toNatClampNeg).toNatClampNeg)) c_decisions c_doublings n_bytes n_byteCount n_nextDigit n_rest) := hD
  refine lv_aload_n hx hb d_Cod_decide_23 rfl (lv_at hl 1 rfl) ?_
  refine va_get (D := (dC, dI)) (ci := 0) (v := .int (c_span - (qtab (c_states i_context.toNatClampNeg).toNatClampNeg))) (C := R_Cod) (T := F_Cod) (N := 5) hx hb hts in_Cod hown hK hP 0 rfl rfl 2 (by decide) (hts _ tt147) (fun _ h9 => h9) rfl d_Cod_decide_24 ?_
  refine lv_iload hx hb d_Cod_decide_27 (lv_at hl 0 rfl) ?_
  refine lv_icmp_lt (tgt := 36) hx hb d_Cod_decide_29 rfl (fun hc => ?_) (fun hc => ?_)
  · replace h := ot hc h
    refine lv_iconst (v := (0 : Int32)) hx hb d_Cod_decide_36 (by decide) ?_
    exact L37 (qtab (c_states i_context.toNatClampNeg).toNatClampNeg) (0 : Int32) c_states c_favourites (c_span - (qtab (c_states i_context.toNatClampNeg).toNatClampNeg)) c_decisions c_doublings n_nextDigit n_rest H locs ls (lv_sub hl [1, 2, 3, 4, 0] rfl) hP hD hS h
  · replace h := of hc h
    refine lv_iconst (v := (1 : Int32)) hx hb d_Cod_decide_32 (by decide) ?_
    refine lv_goto (tgt := 37) hx hb d_Cod_decide_33 rfl ?_
    exact L37 (qtab (c_states i_context.toNatClampNeg).toNatClampNeg) (1 : Int32) c_states c_favourites (c_span - (qtab (c_states i_context.toNatClampNeg).toNatClampNeg)) c_decisions c_doublings n_nextDigit n_rest H locs ls (lv_sub hl [1, 2, 3, 4, 0] rfl) hP hD hS h
