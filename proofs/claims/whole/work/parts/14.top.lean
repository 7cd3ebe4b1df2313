def W_Top (t_0 p_0 p_pixels_a f_0 f_bytes_a f_starts_a f_ends_a s_0 s_layers_a u_0 u_pixels_a v_0 v_pixels_a w_0 w_pixels_a c_0 c_states_a c_favourites_a n_0 n_digits_a k_0 k_bytes_a : Nat) (p_pixels_k f_bytes_k f_starts_k f_ends_k s_layers_k u_pixels_k v_pixels_k w_pixels_k c_states_k c_favourites_k n_digits_k k_bytes_k : ClassId) (s_layers_r : Nat → Option Nat) (t_anyLayerCoded : Int32) (p_pixels : Nat → Int32) (p_wide : Int32) (p_high : Int32) (f_bytes : Nat → Int32) (f_starts : Nat → Int32) (f_ends : Nat → Int32) (f_length : Int32) (f_wide : Int32) (f_high : Int32) (f_layerCount : Int32) (f_place : Int32) (s_plainRows : Int32) (u_pixels : Nat → Int32) (u_wide : Int32) (u_high : Int32) (v_pixels : Nat → Int32) (v_wide : Int32) (v_high : Int32) (w_pixels : Nat → Int32) (w_wide : Int32) (w_high : Int32) (c_states : Nat → Int32) (c_favourites : Nat → Int32) (c_span : Int32) (c_decisions : Int32) (c_doublings : Int32) (n_digits : Nat → Int32) (n_digitCount : Int32) (k_bytes : Nat → Int32) (k_byteCount : Int32) (k_nextDigit : Int32) (k_rest : Int32) : va_W := [(t_0, .inr (6, [.ref p_0, .ref f_0, .ref s_0, .ref n_0, .ref k_0, .int t_anyLayerCoded])), (p_0, .inr (4, [.ref p_pixels_a, .int p_wide, .int p_high])), (p_pixels_a, .inl (p_pixels_k, 256, .inl p_pixels)), (f_0, .inr (2, [.ref f_bytes_a, .ref f_starts_a, .ref f_ends_a, .int f_length, .int f_wide, .int f_high, .int f_layerCount, .int f_place])), (f_bytes_a, .inl (f_bytes_k, 900, .inl f_bytes)), (f_starts_a, .inl (f_starts_k, 3, .inl f_starts)), (f_ends_a, .inl (f_ends_k, 3, .inl f_ends)), (s_0, .inr (1, [.ref s_layers_a, .ref c_0, .int s_plainRows])), (s_layers_a, .inl (s_layers_k, 3, .inr (.inr (.inr (.inr s_layers_r))))), (u_0, .inr (4, [.ref u_pixels_a, .int u_wide, .int u_high])), (u_pixels_a, .inl (u_pixels_k, 256, .inl u_pixels)), (v_0, .inr (4, [.ref v_pixels_a, .int v_wide, .int v_high])), (v_pixels_a, .inl (v_pixels_k, 256, .inl v_pixels)), (w_0, .inr (4, [.ref w_pixels_a, .int w_wide, .int w_high])), (w_pixels_a, .inl (w_pixels_k, 256, .inl w_pixels)), (c_0, .inr (0, [.ref c_states_a, .ref c_favourites_a, .int c_span, .int c_decisions, .int c_doublings])), (c_states_a, .inl (c_states_k, 2563, .inl c_states)), (c_favourites_a, .inl (c_favourites_k, 2563, .inl c_favourites)), (n_0, .inr (3, [.ref n_digits_a, .int n_digitCount])), (n_digits_a, .inl (n_digits_k, 2464, .inl n_digits)), (k_0, .inr (5, [.ref k_bytes_a, .int k_byteCount, .int k_nextDigit, .int k_rest])), (k_bytes_a, .inl (k_bytes_k, 900, .inl k_bytes))]
theorem d_Top_clear_0 : decode b_Top_clear 0 = .ok (.iload_n 1, 1) := by decide +kernel
theorem d_Top_clear_1 : decode b_Top_clear 1 = .ok (.iconst (1), 1) := by decide +kernel
theorem d_Top_clear_2 : decode b_Top_clear 2 = .ok (.if_icmp .lt (20), 3) := by decide +kernel
theorem d_Top_clear_5 : decode b_Top_clear 5 = .ok (.iload_n 1, 1) := by decide +kernel
theorem d_Top_clear_6 : decode b_Top_clear 6 = .ok (.bipush (16), 2) := by decide +kernel
theorem d_Top_clear_8 : decode b_Top_clear 8 = .ok (.if_icmp .gt (14), 3) := by decide +kernel
theorem d_Top_clear_11 : decode b_Top_clear 11 = .ok (.iload_n 2, 1) := by decide +kernel
theorem d_Top_clear_12 : decode b_Top_clear 12 = .ok (.iconst (1), 1) := by decide +kernel
theorem d_Top_clear_13 : decode b_Top_clear 13 = .ok (.if_icmp .lt (9), 3) := by decide +kernel
theorem d_Top_clear_16 : decode b_Top_clear 16 = .ok (.iload_n 2, 1) := by decide +kernel
theorem d_Top_clear_17 : decode b_Top_clear 17 = .ok (.bipush (16), 2) := by decide +kernel
theorem d_Top_clear_19 : decode b_Top_clear 19 = .ok (.if_icmp .le (11), 3) := by decide +kernel
theorem d_Top_clear_22 : decode b_Top_clear 22 = .ok (.new 48, 3) := by decide +kernel
theorem d_Top_clear_25 : decode b_Top_clear 25 = .ok (.dup, 1) := by decide +kernel
theorem d_Top_clear_26 : decode b_Top_clear 26 = .ok (.invokespecial 50, 3) := by decide +kernel
theorem d_Top_clear_29 : decode b_Top_clear 29 = .ok (.athrow, 1) := by decide +kernel
theorem d_Top_clear_30 : decode b_Top_clear 30 = .ok (.aload_n 0, 1) := by decide +kernel
theorem d_Top_clear_31 : decode b_Top_clear 31 = .ok (.getfield 12, 3) := by decide +kernel
theorem d_Top_clear_34 : decode b_Top_clear 34 = .ok (.iload_n 1, 1) := by decide +kernel
theorem d_Top_clear_35 : decode b_Top_clear 35 = .ok (.iload_n 2, 1) := by decide +kernel
theorem d_Top_clear_36 : decode b_Top_clear 36 = .ok (.invokevirtual 51, 3) := by decide +kernel
theorem d_Top_clear_39 : decode b_Top_clear 39 = .ok (.return_, 1) := by decide +kernel
def q_Top_clear_22 (i_w : Int32) (i_h : Int32)  (p_pixels_22 : Nat → Int32) (p_wide_22 : Int32) (p_high_22 : Int32) : Option ((Nat → Int32) × Int32 × Int32) := none
def q_Top_clear (i_w : Int32) (i_h : Int32) (p_pixels : Nat → Int32) (p_wide : Int32) (p_high : Int32) : Option ((Nat → Int32) × Int32 × Int32) := (if i_w < (1 : Int32) then (q_Top_clear_22 i_w i_h  p_pixels p_wide p_high) else (if (16 : Int32) < i_w then (q_Top_clear_22 i_w i_h  p_pixels p_wide p_high) else (if i_h < (1 : Int32) then (q_Top_clear_22 i_w i_h  p_pixels p_wide p_high) else (if i_h ≤ (16 : Int32) then ((q_Pic_blank i_w i_h p_pixels p_wide p_high).bind fun z1 => some (z1.1, z1.2.1, z1.2.2)) else (q_Top_clear_22 i_w i_h  p_pixels p_wide p_high)))))
abbrev rm_Top_clear : Room := { frames := 2, cells := 0, slots := 0, locals := 45 }
set_option maxHeartbeats 4000000 in
set_option maxRecDepth 100000 in
theorem c_Top_clear (l : Launch) (dC : Nat → ClassId) (dI : Nat → Nat → Nat) (t_0 p_0 p_pixels_a f_0 f_bytes_a f_starts_a f_ends_a s_0 s_layers_a u_0 u_pixels_a v_0 v_pixels_a w_0 w_pixels_a c_0 c_states_a c_favourites_a n_0 n_digits_a k_0 k_bytes_a : Nat) (p_pixels_k f_bytes_k f_starts_k f_ends_k s_layers_k u_pixels_k v_pixels_k w_pixels_k c_states_k c_favourites_k n_digits_k k_bytes_k : ClassId) (s_layers_r : Nat → Option Nat) (i_w : Int32) (i_h : Int32) (t_anyLayerCoded : Int32) (p_pixels : Nat → Int32) (p_wide : Int32) (p_high : Int32) (f_bytes : Nat → Int32) (f_starts : Nat → Int32) (f_ends : Nat → Int32) (f_length : Int32) (f_wide : Int32) (f_high : Int32) (f_layerCount : Int32) (f_place : Int32) (s_plainRows : Int32) (u_pixels : Nat → Int32) (u_wide : Int32) (u_high : Int32) (v_pixels : Nat → Int32) (v_wide : Int32) (v_high : Int32) (w_pixels : Nat → Int32) (w_wide : Int32) (w_high : Int32) (c_states : Nat → Int32) (c_favourites : Nat → Int32) (c_span : Int32) (c_decisions : Int32) (c_doublings : Int32) (n_digits : Nat → Int32) (n_digitCount : Int32) (k_bytes : Nat → Int32) (k_byteCount : Int32) (k_nextDigit : Int32) (k_rest : Int32) (z : (Nat → Int32) × Int32 × Int32) (hR0 : s_layers_r (0 : Int32).toNatClampNeg = some u_0) (hR1 : s_layers_r (1 : Int32).toNatClampNeg = some v_0) (hR2 : s_layers_r (2 : Int32).toNatClampNeg = some w_0) (hq : q_Top_clear i_w i_h p_pixels p_wide p_high = some z) (sz : Nat) : MetV l y_Top_clear b_Top_clear 3 TT rm_Top_clear (dC, dI) vcl [(p_pixels_k, .int), (f_bytes_k, .int), (f_starts_k, .int), (f_ends_k, .int), (s_layers_k, .object "LayeredBits$Picture"), (u_pixels_k, .int), (v_pixels_k, .int), (w_pixels_k, .int), (c_states_k, .int), (c_favourites_k, .int), (n_digits_k, .int), (k_bytes_k, .int)] (W_Top t_0 p_0 p_pixels_a f_0 f_bytes_a f_starts_a f_ends_a s_0 s_layers_a u_0 u_pixels_a v_0 v_pixels_a w_0 w_pixels_a c_0 c_states_a c_favourites_a n_0 n_digits_a k_0 k_bytes_a p_pixels_k f_bytes_k f_starts_k f_ends_k s_layers_k u_pixels_k v_pixels_k w_pixels_k c_states_k c_favourites_k n_digits_k k_bytes_k s_layers_r t_anyLayerCoded p_pixels p_wide p_high f_bytes f_starts f_ends f_length f_wide f_high f_layerCount f_place s_plainRows u_pixels u_wide u_high v_pixels v_wide v_high w_pixels w_wide w_high c_states c_favourites c_span c_decisions c_doublings n_digits n_digitCount k_bytes k_byteCount k_nextDigit k_rest) (W_Top t_0 p_0 p_pixels_a f_0 f_bytes_a f_starts_a f_ends_a s_0 s_layers_a u_0 u_pixels_a v_0 v_pixels_a w_0 w_pixels_a c_0 c_states_a c_favourites_a n_0 n_digits_a k_0 k_bytes_a p_pixels_k f_bytes_k f_starts_k f_ends_k s_layers_k u_pixels_k v_pixels_k w_pixels_k c_states_k c_favourites_k n_digits_k k_bytes_k s_layers_r t_anyLayerCoded z.1 z.2.1 z.2.2 f_bytes f_starts f_ends f_length f_wide f_high f_layerCount f_place s_plainRows u_pixels u_wide u_high v_pixels v_wide v_high w_pixels w_wide w_high c_states c_favourites c_span c_decisions c_doublings n_digits n_digitCount k_bytes k_byteCount k_nextDigit k_rest) [.ref t_0, .int i_w, .int i_h] sz := by
  refine x_ofV (by decide) (Nat.le_of_ble_eq_true rfl) ?_ sz
  intro p e s m args below meth c A Q ls hx hb hml hown hts hA hG hK hP hD hS hl hret
  have hown : s.vm.findClass R_Top = some m.cls := hown
  have hl : lv_has ls 3 [(0, .ref t_0), (1, .int i_w), (2, .int i_h)] := hl
  obtain ⟨⟨tq, hZ, hTq⟩, hN⟩ := id hG
  obtain ⟨H, hH⟩ : ∃ H, H = s.heap := ⟨_, rfl⟩
  obtain ⟨locs, hlocs⟩ : ∃ locs : List Loc, locs = [] := ⟨_, rfl⟩
  rw [← hH] at hP
  have hS : va_S A s.heap H locs := by rw [hH, hlocs]; exact hS
  suffices hgo : W p l e rm_Top_clear s m args below meth c H locs 0 0 Q (F0 m 0 ls []) by rw [hH, hlocs] at hgo; exact hgo
  unfold q_Top_clear at hq
  have L22 : ∀ (p_pixels_22 : Nat → Int32) (p_wide_22 : Int32) (p_high_22 : Int32) (H : Heap) (locs : List Loc) (ls : Array Slot), lv_has ls 3 [] → va_P (dC, dI) vcl (W_Top t_0 p_0 p_pixels_a f_0 f_bytes_a f_starts_a f_ends_a s_0 s_layers_a u_0 u_pixels_a v_0 v_pixels_a w_0 w_pixels_a c_0 c_states_a c_favourites_a n_0 n_digits_a k_0 k_bytes_a p_pixels_k f_bytes_k f_starts_k f_ends_k s_layers_k u_pixels_k v_pixels_k w_pixels_k c_states_k c_favourites_k n_digits_k k_bytes_k s_layers_r t_anyLayerCoded p_pixels_22 p_wide_22 p_high_22 f_bytes f_starts f_ends f_length f_wide f_high f_layerCount f_place s_plainRows u_pixels u_wide u_high v_pixels v_wide v_high w_pixels w_wide w_high c_states c_favourites c_span c_decisions c_doublings n_digits n_digitCount k_bytes k_byteCount k_nextDigit k_rest) H → va_D A (W_Top t_0 p_0 p_pixels_a f_0 f_bytes_a f_starts_a f_ends_a s_0 s_layers_a u_0 u_pixels_a v_0 v_pixels_a w_0 w_pixels_a c_0 c_states_a c_favourites_a n_0 n_digits_a k_0 k_bytes_a p_pixels_k f_bytes_k f_starts_k f_ends_k s_layers_k u_pixels_k v_pixels_k w_pixels_k c_states_k c_favourites_k n_digits_k k_bytes_k s_layers_r t_anyLayerCoded p_pixels_22 p_wide_22 p_high_22 f_bytes f_starts f_ends f_length f_wide f_high f_layerCount f_place s_plainRows u_pixels u_wide u_high v_pixels v_wide v_high w_pixels w_wide w_high c_states c_favourites c_span c_decisions c_doublings n_digits n_digitCount k_bytes k_byteCount k_nextDigit k_rest) → va_S A s.heap H locs → q_Top_clear_22 i_w i_h  p_pixels_22 p_wide_22 p_high_22 = some z → W p l e rm_Top_clear s m args below meth c H locs 0 0 Q (F0 m 22 ls []) := by
    intro p_pixels_22 p_wide_22 p_high_22 H locs ls hl hP hD hS hq22
    unfold q_Top_clear_22 at hq22
    have h := hq22
    cases h
  have h := hq
  refine lv_iload_n hx hb d_Top_clear_0 rfl (lv_at hl 1 rfl) ?_
  refine lv_iconst (v := (1 : Int32)) hx hb d_Top_clear_1 (by decide) ?_
  refine lv_icmp_lt (tgt := 22) hx hb d_Top_clear_2 rfl (fun hc => ?_) (fun hc => ?_)
  · replace h := ot hc h
    exact L22 p_pixels p_wide p_high H locs ls (lv_sub hl [] rfl) hP hD hS h
  · replace h := of hc h
    refine lv_iload_n hx hb d_Top_clear_5 rfl (lv_at hl 1 rfl) ?_
    refine lv_bipush (v := (16 : Int32)) hx hb d_Top_clear_6 (by decide) ?_
    refine lv_icmp_gt (tgt := 22) hx hb d_Top_clear_8 rfl (fun hc => ?_) (fun hc => ?_)
    · replace h := ot hc h
      exact L22 p_pixels p_wide p_high H locs ls (lv_sub hl [] rfl) hP hD hS h
    · replace h := of hc h
      refine lv_iload_n hx hb d_Top_clear_11 rfl (lv_at hl 2 rfl) ?_
      refine lv_iconst (v := (1 : Int32)) hx hb d_Top_clear_12 (by decide) ?_
      refine lv_icmp_lt (tgt := 22) hx hb d_Top_clear_13 rfl (fun hc => ?_) (fun hc => ?_)
      · replace h := ot hc h
        exact L22 p_pixels p_wide p_high H locs ls (lv_sub hl [] rfl) hP hD hS h
      · replace h := of hc h
        refine lv_iload_n hx hb d_Top_clear_16 rfl (lv_at hl 2 rfl) ?_
        refine lv_bipush (v := (16 : Int32)) hx hb d_Top_clear_17 (by decide) ?_
        refine lv_icmp_le (tgt := 30) hx hb d_Top_clear_19 rfl (fun hc => ?_) (fun hc => ?_)
        · replace h := ot hc h
          refine lv_aload_n hx hb d_Top_clear_30 rfl (lv_at hl 0 rfl) ?_
          refine va_get (D := (dC, dI)) (ci := 6) (v := .ref p_0) (C := R_Top) (T := F_Top) (N := 6) hx hb hts in_Top hown hK hP 0 rfl rfl 0 (by decide) (hts _ tt211) (fun _ h9 => h9) rfl d_Top_clear_31 ?_
          refine lv_iload_n hx hb d_Top_clear_34 rfl (lv_at hl 1 rfl) ?_
          refine lv_iload_n hx hb d_Top_clear_35 rfl (lv_at hl 2 rfl) ?_
          obtain ⟨z1, hz1, h⟩ := ob h
          refine x_goV (w1 := (W_P p_0 p_pixels_a p_pixels_k z1.1 z1.2.1 z1.2.2)) (ws' := (W_Top t_0 p_0 p_pixels_a f_0 f_bytes_a f_starts_a f_ends_a s_0 s_layers_a u_0 u_pixels_a v_0 v_pixels_a w_0 w_pixels_a c_0 c_states_a c_favourites_a n_0 n_digits_a k_0 k_bytes_a p_pixels_k f_bytes_k f_starts_k f_ends_k s_layers_k u_pixels_k v_pixels_k w_pixels_k c_states_k c_favourites_k n_digits_k k_bytes_k s_layers_r t_anyLayerCoded z1.1 z1.2.1 z1.2.2 f_bytes f_starts f_ends f_length f_wide f_high f_layerCount f_place s_plainRows u_pixels u_wide u_high v_pixels v_wide v_high w_pixels w_wide w_high c_states c_favourites c_span c_decisions c_doublings n_digits n_digitCount k_bytes k_byteCount k_nextDigit k_rest)) (wr := List.filterMap (fun (i : Nat) => (W_Top t_0 p_0 p_pixels_a f_0 f_bytes_a f_starts_a f_ends_a s_0 s_layers_a u_0 u_pixels_a v_0 v_pixels_a w_0 w_pixels_a c_0 c_states_a c_favourites_a n_0 n_digits_a k_0 k_bytes_a p_pixels_k f_bytes_k f_starts_k f_ends_k s_layers_k u_pixels_k v_pixels_k w_pixels_k c_states_k c_favourites_k n_digits_k k_bytes_k s_layers_r t_anyLayerCoded p_pixels p_wide p_high f_bytes f_starts f_ends f_length f_wide f_high f_layerCount f_place s_plainRows u_pixels u_wide u_high v_pixels v_wide v_high w_pixels w_wide w_high c_states c_favourites c_span c_decisions c_doublings n_digits n_digitCount k_bytes k_byteCount k_nextDigit k_rest)[i]?) ([0, 3, 4, 5, 6, 7, 8, 9, 10, 11, 12, 13, 14, 15, 16, 17, 18, 19, 20, 21] : List Nat)) (va_runV (As := [.int i_w, .int i_h]) (rest := []) ⟨hx, hb, hml, hown, hts⟩ (c_Pic_blank l dC dI p_0 p_pixels_a p_pixels_k i_w i_h p_pixels p_wide p_high z1  hz1 H.size) ⟨callB_of 2 hts (gT tt275 TT_good) rfl rfl rfl (hts _ tt46) (hts _ tt368) (by decide +kernel) ⟨Nat.le_of_ble_eq_true rfl, Nat.le_of_ble_eq_true rfl⟩, hts _ tt273, hts _ tt274⟩ (x_preV (q := (R_Pic, F_Pic, 3)) (As := [.int i_w, .int i_h]) (x_pre (wc := (W_P p_0 p_pixels_a p_pixels_k p_pixels p_wide p_high)) (av := (.ref p_0 :: [.int i_w, .int i_h])) hK hP hD hS hA hG [0] [1, 2] rfl rfl (by decide)) hK hP (q0 := 1) rfl rfl) rfl rfl hl.1 rfl (lv_room (Nat.le_of_ble_eq_true rfl)) d_Top_clear_36 ⟨Nat.zero_le _, Nat.zero_le _⟩) hP hD hS hA [1, 2] [0, 3, 4, 5, 6, 7, 8, 9, 10, 11, 12, 13, 14, 15, 16, 17, 18, 19, 20, 21] [0, 20, 21, 1, 2, 3, 4, 5, 6, 7, 8, 9, 10, 11, 12, 13, 14, 15, 16, 17, 18, 19] rfl rfl (by decide) (by decide) (by decide) rfl (fun H locs hP hD hS => ?_)
          obtain rfl := Option.some.inj h
          exact hret H locs 39 ls d_Top_clear_39 hP hD hS
        · replace h := of hc h
          exact L22 p_pixels p_wide p_high H locs ls (lv_sub hl [] rfl) hP hD hS h
theorem d_Top_set_0 : decode b_Top_set 0 = .ok (.aload_n 0, 1) := by decide +kernel
theorem d_Top_set_1 : decode b_Top_set 1 = .ok (.getfield 12, 3) := by decide +kernel
theorem d_Top_set_4 : decode b_Top_set 4 = .ok (.iload_n 1, 1) := by decide +kernel
theorem d_Top_set_5 : decode b_Top_set 5 = .ok (.iload_n 2, 1) := by decide +kernel
theorem d_Top_set_6 : decode b_Top_set 6 = .ok (.invokevirtual 55, 3) := by decide +kernel
theorem d_Top_set_9 : decode b_Top_set 9 = .ok (.ifCond .ne (11), 3) := by decide +kernel
theorem d_Top_set_12 : decode b_Top_set 12 = .ok (.new 59, 3) := by decide +kernel
theorem d_Top_set_15 : decode b_Top_set 15 = .ok (.dup, 1) := by decide +kernel
theorem d_Top_set_16 : decode b_Top_set 16 = .ok (.invokespecial 61, 3) := by decide +kernel
theorem d_Top_set_19 : decode b_Top_set 19 = .ok (.athrow, 1) := by decide +kernel
theorem d_Top_set_20 : decode b_Top_set 20 = .ok (.iload_n 3, 1) := by decide +kernel
theorem d_Top_set_21 : decode b_Top_set 21 = .ok (.ifCond .eq (16), 3) := by decide +kernel
theorem d_Top_set_24 : decode b_Top_set 24 = .ok (.iload_n 3, 1) := by decide +kernel
theorem d_Top_set_25 : decode b_Top_set 25 = .ok (.iconst (1), 1) := by decide +kernel
theorem d_Top_set_26 : decode b_Top_set 26 = .ok (.if_icmp .eq (11), 3) := by decide +kernel
theorem d_Top_set_29 : decode b_Top_set 29 = .ok (.new 48, 3) := by decide +kernel
theorem d_Top_set_32 : decode b_Top_set 32 = .ok (.dup, 1) := by decide +kernel
theorem d_Top_set_33 : decode b_Top_set 33 = .ok (.invokespecial 50, 3) := by decide +kernel
theorem d_Top_set_36 : decode b_Top_set 36 = .ok (.athrow, 1) := by decide +kernel
theorem d_Top_set_37 : decode b_Top_set 37 = .ok (.aload_n 0, 1) := by decide +kernel
theorem d_Top_set_38 : decode b_Top_set 38 = .ok (.getfield 12, 3) := by decide +kernel
theorem d_Top_set_41 : decode b_Top_set 41 = .ok (.iload_n 1, 1) := by decide +kernel
theorem d_Top_set_42 : decode b_Top_set 42 = .ok (.iload_n 2, 1) := by decide +kernel
theorem d_Top_set_43 : decode b_Top_set 43 = .ok (.invokevirtual 62, 3) := by decide +kernel
theorem d_Top_set_46 : decode b_Top_set 46 = .ok (.istore 4, 2) := by decide +kernel
theorem d_Top_set_48 : decode b_Top_set 48 = .ok (.aload_n 0, 1) := by decide +kernel
theorem d_Top_set_49 : decode b_Top_set 49 = .ok (.getfield 12, 3) := by decide +kernel
theorem d_Top_set_52 : decode b_Top_set 52 = .ok (.iload_n 1, 1) := by decide +kernel
theorem d_Top_set_53 : decode b_Top_set 53 = .ok (.iload_n 2, 1) := by decide +kernel
theorem d_Top_set_54 : decode b_Top_set 54 = .ok (.iload_n 3, 1) := by decide +kernel
theorem d_Top_set_55 : decode b_Top_set 55 = .ok (.invokevirtual 66, 3) := by decide +kernel
theorem d_Top_set_58 : decode b_Top_set 58 = .ok (.iload 4, 2) := by decide +kernel
theorem d_Top_set_60 : decode b_Top_set 60 = .ok (.ireturn, 1) := by decide +kernel
def q_Top_set_37 (i_x : Int32) (i_y : Int32) (i_b : Int32) (p_wide : Int32) (p_high : Int32)  (p_pixels_37 : Nat → Int32) : Option (Int32 × (Nat → Int32)) := ((q_Pic_pixel i_x i_y p_pixels_37 p_wide p_high).bind fun z1 => ((q_Pic_paint i_x i_y i_b p_pixels_37 p_wide p_high).bind fun z2 => some (z1, z2)))
def q_Top_set (i_x : Int32) (i_y : Int32) (i_b : Int32) (p_pixels : Nat → Int32) (p_wide : Int32) (p_high : Int32) : Option (Int32 × (Nat → Int32)) := ((q_Pic_covers i_x i_y p_wide p_high).bind fun z3 => (if z3 = 0 then none else (if i_b = 0 then (q_Top_set_37 i_x i_y i_b p_wide p_high  p_pixels) else (if i_b = (1 : Int32) then (q_Top_set_37 i_x i_y i_b p_wide p_high  p_pixels) else none))))
abbrev rm_Top_set : Room := { frames := 2, cells := 0, slots := 0, locals := 45 }
set_option maxHeartbeats 4000000 in
set_option maxRecDepth 100000 in
theorem c_Top_set (l : Launch) (dC : Nat → ClassId) (dI : Nat → Nat → Nat) (t_0 p_0 p_pixels_a f_0 f_bytes_a f_starts_a f_ends_a s_0 s_layers_a u_0 u_pixels_a v_0 v_pixels_a w_0 w_pixels_a c_0 c_states_a c_favourites_a n_0 n_digits_a k_0 k_bytes_a : Nat) (p_pixels_k f_bytes_k f_starts_k f_ends_k s_layers_k u_pixels_k v_pixels_k w_pixels_k c_states_k c_favourites_k n_digits_k k_bytes_k : ClassId) (s_layers_r : Nat → Option Nat) (i_x : Int32) (i_y : Int32) (i_b : Int32) (t_anyLayerCoded : Int32) (p_pixels : Nat → Int32) (p_wide : Int32) (p_high : Int32) (f_bytes : Nat → Int32) (f_starts : Nat → Int32) (f_ends : Nat → Int32) (f_length : Int32) (f_wide : Int32) (f_high : Int32) (f_layerCount : Int32) (f_place : Int32) (s_plainRows : Int32) (u_pixels : Nat → Int32) (u_wide : Int32) (u_high : Int32) (v_pixels : Nat → Int32) (v_wide : Int32) (v_high : Int32) (w_pixels : Nat → Int32) (w_wide : Int32) (w_high : Int32) (c_states : Nat → Int32) (c_favourites : Nat → Int32) (c_span : Int32) (c_decisions : Int32) (c_doublings : Int32) (n_digits : Nat → Int32) (n_digitCount : Int32) (k_bytes : Nat → Int32) (k_byteCount : Int32) (k_nextDigit : Int32) (k_rest : Int32) (z : Int32 × (Nat → Int32)) (hR0 : s_layers_r (0 : Int32).toNatClampNeg = some u_0) (hR1 : s_layers_r (1 : Int32).toNatClampNeg = some v_0) (hR2 : s_layers_r (2 : Int32).toNatClampNeg = some w_0) (hq : q_Top_set i_x i_y i_b p_pixels p_wide p_high = some z) (sz : Nat) : MetI l y_Top_set b_Top_set 5 .int TT rm_Top_set (dC, dI) vcl [(p_pixels_k, .int), (f_bytes_k, .int), (f_starts_k, .int), (f_ends_k, .int), (s_layers_k, .object "LayeredBits$Picture"), (u_pixels_k, .int), (v_pixels_k, .int), (w_pixels_k, .int), (c_states_k, .int), (c_favourites_k, .int), (n_digits_k, .int), (k_bytes_k, .int)] (W_Top t_0 p_0 p_pixels_a f_0 f_bytes_a f_starts_a f_ends_a s_0 s_layers_a u_0 u_pixels_a v_0 v_pixels_a w_0 w_pixels_a c_0 c_states_a c_favourites_a n_0 n_digits_a k_0 k_bytes_a p_pixels_k f_bytes_k f_starts_k f_ends_k s_layers_k u_pixels_k v_pixels_k w_pixels_k c_states_k c_favourites_k n_digits_k k_bytes_k s_layers_r t_anyLayerCoded p_pixels p_wide p_high f_bytes f_starts f_ends f_length f_wide f_high f_layerCount f_place s_plainRows u_pixels u_wide u_high v_pixels v_wide v_high w_pixels w_wide w_high c_states c_favourites c_span c_decisions c_doublings n_digits n_digitCount k_bytes k_byteCount k_nextDigit k_rest) (W_Top t_0 p_0 p_pixels_a f_0 f_bytes_a f_starts_a f_ends_a s_0 s_layers_a u_0 u_pixels_a v_0 v_pixels_a w_0 w_pixels_a c_0 c_states_a c_favourites_a n_0 n_digits_a k_0 k_bytes_a p_pixels_k f_bytes_k f_starts_k f_ends_k s_layers_k u_pixels_k v_pixels_k w_pixels_k c_states_k c_favourites_k n_digits_k k_bytes_k s_layers_r t_anyLayerCoded z.2 p_wide p_high f_bytes f_starts f_ends f_length f_wide f_high f_layerCount f_place s_plainRows u_pixels u_wide u_high v_pixels v_wide v_high w_pixels w_wide w_high c_states c_favourites c_span c_decisions c_doublings n_digits n_digitCount k_bytes k_byteCount k_nextDigit k_rest) [.ref t_0, .int i_x, .int i_y, .int i_b] z.1 sz := by
  refine x_ofI (by decide) (Nat.le_of_ble_eq_true rfl) ?_ sz
  intro p e s m args below meth c A Q ls hx hb hml hown hts hA hG hK hP hD hS hl hret
  have hown : s.vm.findClass R_Top = some m.cls := hown
  have hl : lv_has ls 5 [(0, .ref t_0), (1, .int i_x), (2, .int i_y), (3, .int i_b)] := hl
  obtain ⟨⟨tq, hZ, hTq⟩, hN⟩ := id hG
  obtain ⟨H, hH⟩ : ∃ H, H = s.heap := ⟨_, rfl⟩
  obtain ⟨locs, hlocs⟩ : ∃ locs : List Loc, locs = [] := ⟨_, rfl⟩
  rw [← hH] at hP
  have hS : va_S A s.heap H locs := by rw [hH, hlocs]; exact hS
  suffices hgo : W p l e rm_Top_set s m args below meth c H locs 0 0 Q (F0 m 0 ls []) by rw [hH, hlocs] at hgo; exact hgo
  unfold q_Top_set at hq
  have L37 : ∀ (p_pixels_37 : Nat → Int32) (H : Heap) (locs : List Loc) (ls : Array Slot), lv_has ls 5 [(0, .ref t_0), (1, .int i_x), (2, .int i_y), (3, .int i_b)] → va_P (dC, dI) vcl (W_Top t_0 p_0 p_pixels_a f_0 f_bytes_a f_starts_a f_ends_a s_0 s_layers_a u_0 u_pixels_a v_0 v_pixels_a w_0 w_pixels_a c_0 c_states_a c_favourites_a n_0 n_digits_a k_0 k_bytes_a p_pixels_k f_bytes_k f_starts_k f_ends_k s_layers_k u_pixels_k v_pixels_k w_pixels_k c_states_k c_favourites_k n_digits_k k_bytes_k s_layers_r t_anyLayerCoded p_pixels_37 p_wide p_high f_bytes f_starts f_ends f_length f_wide f_high f_layerCount f_place s_plainRows u_pixels u_wide u_high v_pixels v_wide v_high w_pixels w_wide w_high c_states c_favourites c_span c_decisions c_doublings n_digits n_digitCount k_bytes k_byteCount k_nextDigit k_rest) H → va_D A (W_Top t_0 p_0 p_pixels_a f_0 f_bytes_a f_starts_a f_ends_a s_0 s_layers_a u_0 u_pixels_a v_0 v_pixels_a w_0 w_pixels_a c_0 c_states_a c_favourites_a n_0 n_digits_a k_0 k_bytes_a p_pixels_k f_bytes_k f_starts_k f_ends_k s_layers_k u_pixels_k v_pixels_k w_pixels_k c_states_k c_favourites_k n_digits_k k_bytes_k s_layers_r t_anyLayerCoded p_pixels_37 p_wide p_high f_bytes f_starts f_ends f_length f_wide f_high f_layerCount f_place s_plainRows u_pixels u_wide u_high v_pixels v_wide v_high w_pixels w_wide w_high c_states c_favourites c_span c_decisions c_doublings n_digits n_digitCount k_bytes k_byteCount k_nextDigit k_rest) → va_S A s.heap H locs → q_Top_set_37 i_x i_y i_b p_wide p_high  p_pixels_37 = some z → W p l e rm_Top_set s m args below meth c H locs 0 0 Q (F0 m 37 ls []) := by
    intro p_pixels_37 H locs ls hl hP hD hS hq37
    unfold q_Top_set_37 at hq37
    have h := hq37
    refine lv_aload_n hx hb d_Top_set_37 rfl (lv_at hl 0 rfl) ?_
    refine va_get (D := (dC, dI)) (ci := 6) (v := .ref p_0) (C := R_Top) (T := F_Top) (N := 6) hx hb hts in_Top hown hK hP 0 rfl rfl 0 (by decide) (hts _ tt211) (fun _ h9 => h9) rfl d_Top_set_38 ?_
    refine lv_iload_n hx hb d_Top_set_41 rfl (lv_at hl 1 rfl) ?_
    refine lv_iload_n hx hb d_Top_set_42 rfl (lv_at hl 2 rfl) ?_
    obtain ⟨z1, hz1, h⟩ := ob h
    refine x_goI (res := z1) (w1 := (W_P p_0 p_pixels_a p_pixels_k p_pixels_37 p_wide p_high)) (ws' := (W_Top t_0 p_0 p_pixels_a f_0 f_bytes_a f_starts_a f_ends_a s_0 s_layers_a u_0 u_pixels_a v_0 v_pixels_a w_0 w_pixels_a c_0 c_states_a c_favourites_a n_0 n_digits_a k_0 k_bytes_a p_pixels_k f_bytes_k f_starts_k f_ends_k s_layers_k u_pixels_k v_pixels_k w_pixels_k c_states_k c_favourites_k n_digits_k k_bytes_k s_layers_r t_anyLayerCoded p_pixels_37 p_wide p_high f_bytes f_starts f_ends f_length f_wide f_high f_layerCount f_place s_plainRows u_pixels u_wide u_high v_pixels v_wide v_high w_pixels w_wide w_high c_states c_favourites c_span c_decisions c_doublings n_digits n_digitCount k_bytes k_byteCount k_nextDigit k_rest)) (wr := List.filterMap (fun (i : Nat) => (W_Top t_0 p_0 p_pixels_a f_0 f_bytes_a f_starts_a f_ends_a s_0 s_layers_a u_0 u_pixels_a v_0 v_pixels_a w_0 w_pixels_a c_0 c_states_a c_favourites_a n_0 n_digits_a k_0 k_bytes_a p_pixels_k f_bytes_k f_starts_k f_ends_k s_layers_k u_pixels_k v_pixels_k w_pixels_k c_states_k c_favourites_k n_digits_k k_bytes_k s_layers_r t_anyLayerCoded p_pixels_37 p_wide p_high f_bytes f_starts f_ends f_length f_wide f_high f_layerCount f_place s_plainRows u_pixels u_wide u_high v_pixels v_wide v_high w_pixels w_wide w_high c_states c_favourites c_span c_decisions c_doublings n_digits n_digitCount k_bytes k_byteCount k_nextDigit k_rest)[i]?) ([0, 3, 4, 5, 6, 7, 8, 9, 10, 11, 12, 13, 14, 15, 16, 17, 18, 19, 20, 21] : List Nat)) (va_runV (As := [.int i_x, .int i_y]) (rest := []) ⟨hx, hb, hml, hown, hts⟩ (c_Pic_pixel l dC dI p_0 p_pixels_a p_pixels_k i_x i_y p_pixels_37 p_wide p_high z1  hz1 H.size) ⟨callB_of 2 hts (gT tt237 TT_good) rfl rfl rfl (hts _ tt46) (hts _ tt234) (by decide +kernel) ⟨Nat.le_of_ble_eq_true rfl, Nat.le_of_ble_eq_true rfl⟩, hts _ tt235, hts _ tt236⟩ (x_preV (q := (R_Pic, F_Pic, 3)) (As := [.int i_x, .int i_y]) (x_pre (wc := (W_P p_0 p_pixels_a p_pixels_k p_pixels_37 p_wide p_high)) (av := (.ref p_0 :: [.int i_x, .int i_y])) hK hP hD hS hA hG [0] [1, 2] rfl rfl (by decide)) hK hP (q0 := 1) rfl rfl) rfl rfl hl.1 rfl (lv_room (Nat.le_of_ble_eq_true rfl)) d_Top_set_43 ⟨Nat.zero_le _, Nat.zero_le _⟩) hP hD hS hA [1, 2] [0, 3, 4, 5, 6, 7, 8, 9, 10, 11, 12, 13, 14, 15, 16, 17, 18, 19, 20, 21] [0, 20, 21, 1, 2, 3, 4, 5, 6, 7, 8, 9, 10, 11, 12, 13, 14, 15, 16, 17, 18, 19] rfl rfl (by decide) (by decide) (by decide) rfl (fun H locs hP hD hS => ?_)
    refine lv_istore (lv' := [(4, .int z1), (0, .ref t_0), (1, .int i_x), (2, .int i_y), (3, .int i_b)]) hx hb d_Top_set_46 hl (by decide) rfl (fun ls hl => ?_)
    refine lv_aload_n hx hb d_Top_set_48 rfl (lv_at hl 1 rfl) ?_
    refine va_get (D := (dC, dI)) (ci := 6) (v := .ref p_0) (C := R_Top) (T := F_Top) (N := 6) hx hb hts in_Top hown hK hP 0 rfl rfl 0 (by decide) (hts _ tt211) (fun _ h9 => h9) rfl d_Top_set_49 ?_
    refine lv_iload_n hx hb d_Top_set_52 rfl (lv_at hl 2 rfl) ?_
    refine lv_iload_n hx hb d_Top_set_53 rfl (lv_at hl 3 rfl) ?_
    refine lv_iload_n hx hb d_Top_set_54 rfl (lv_at hl 4 rfl) ?_
    obtain ⟨z2, hz2, h⟩ := ob h
    refine x_goV (w1 := (W_P p_0 p_pixels_a p_pixels_k z2 p_wide p_high)) (ws' := (W_Top t_0 p_0 p_pixels_a f_0 f_bytes_a f_starts_a f_ends_a s_0 s_layers_a u_0 u_pixels_a v_0 v_pixels_a w_0 w_pixels_a c_0 c_states_a c_favourites_a n_0 n_digits_a k_0 k_bytes_a p_pixels_k f_bytes_k f_starts_k f_ends_k s_layers_k u_pixels_k v_pixels_k w_pixels_k c_states_k c_favourites_k n_digits_k k_bytes_k s_layers_r t_anyLayerCoded z2 p_wide p_high f_bytes f_starts f_ends f_length f_wide f_high f_layerCount f_place s_plainRows u_pixels u_wide u_high v_pixels v_wide v_high w_pixels w_wide w_high c_states c_favourites c_span c_decisions c_doublings n_digits n_digitCount k_bytes k_byteCount k_nextDigit k_rest)) (wr := List.filterMap (fun (i : Nat) => (W_Top t_0 p_0 p_pixels_a f_0 f_bytes_a f_starts_a f_ends_a s_0 s_layers_a u_0 u_pixels_a v_0 v_pixels_a w_0 w_pixels_a c_0 c_states_a c_favourites_a n_0 n_digits_a k_0 k_bytes_a p_pixels_k f_bytes_k f_starts_k f_ends_k s_layers_k u_pixels_k v_pixels_k w_pixels_k c_states_k c_favourites_k n_digits_k k_bytes_k s_layers_r t_anyLayerCoded p_pixels_37 p_wide p_high f_bytes f_starts f_ends f_length f_wide f_high f_layerCount f_place s_plainRows u_pixels u_wide u_high v_pixels v_wide v_high w_pixels w_wide w_high c_states c_favourites c_span c_decisions c_doublings n_digits n_digitCount k_bytes k_byteCount k_nextDigit k_rest)[i]?) ([0, 3, 4, 5, 6, 7, 8, 9, 10, 11, 12, 13, 14, 15, 16, 17, 18, 19, 20, 21] : List Nat)) (va_runV (As := [.int i_x, .int i_y, .int i_b]) (rest := []) ⟨hx, hb, hml, hown, hts⟩ (c_Pic_paint l dC dI p_0 p_pixels_a p_pixels_k i_x i_y i_b p_pixels_37 p_wide p_high z2  hz2 H.size) ⟨callB_of 3 hts (gT tt291 TT_good) rfl rfl rfl (hts _ tt46) (hts _ tt393) (by decide +kernel) ⟨Nat.le_of_ble_eq_true rfl, Nat.le_of_ble_eq_true rfl⟩, hts _ tt289, hts _ tt290⟩ (x_preV (q := (R_Pic, F_Pic, 3)) (As := [.int i_x, .int i_y, .int i_b]) (x_pre (wc := (W_P p_0 p_pixels_a p_pixels_k p_pixels_37 p_wide p_high)) (av := (.ref p_0 :: [.int i_x, .int i_y, .int i_b])) hK hP hD hS hA hG [0] [1, 2] rfl rfl (by decide)) hK hP (q0 := 1) rfl rfl) rfl rfl hl.1 rfl (lv_room (Nat.le_of_ble_eq_true rfl)) d_Top_set_55 ⟨Nat.zero_le _, Nat.zero_le _⟩) hP hD hS hA [1, 2] [0, 3, 4, 5, 6, 7, 8, 9, 10, 11, 12, 13, 14, 15, 16, 17, 18, 19, 20, 21] [0, 20, 21, 1, 2, 3, 4, 5, 6, 7, 8, 9, 10, 11, 12, 13, 14, 15, 16, 17, 18, 19] rfl rfl (by decide) (by decide) (by decide) rfl (fun H locs hP hD hS => ?_)
    refine lv_iload hx hb d_Top_set_58 (lv_at hl 0 rfl) ?_
    obtain rfl := Option.some.inj h
    exact hret H locs 60 ls d_Top_set_60 (vp_nar_int _) hP hD hS
  have h := hq
  refine lv_aload_n hx hb d_Top_set_0 rfl (lv_at hl 0 rfl) ?_
  refine va_get (D := (dC, dI)) (ci := 6) (v := .ref p_0) (C := R_Top) (T := F_Top) (N := 6) hx hb hts in_Top hown hK hP 0 rfl rfl 0 (by decide) (hts _ tt211) (fun _ h9 => h9) rfl d_Top_set_1 ?_
  refine lv_iload_n hx hb d_Top_set_4 rfl (lv_at hl 1 rfl) ?_
  refine lv_iload_n hx hb d_Top_set_5 rfl (lv_at hl 2 rfl) ?_
  obtain ⟨z3, hz3, h⟩ := ob h
  refine x_goI (res := z3) (w1 := (W_P p_0 p_pixels_a p_pixels_k p_pixels p_wide p_high)) (ws' := (W_Top t_0 p_0 p_pixels_a f_0 f_bytes_a f_starts_a f_ends_a s_0 s_layers_a u_0 u_pixels_a v_0 v_pixels_a w_0 w_pixels_a c_0 c_states_a c_favourites_a n_0 n_digits_a k_0 k_bytes_a p_pixels_k f_bytes_k f_starts_k f_ends_k s_layers_k u_pixels_k v_pixels_k w_pixels_k c_states_k c_favourites_k n_digits_k k_bytes_k s_layers_r t_anyLayerCoded p_pixels p_wide p_high f_bytes f_starts f_ends f_length f_wide f_high f_layerCount f_place s_plainRows u_pixels u_wide u_high v_pixels v_wide v_high w_pixels w_wide w_high c_states c_favourites c_span c_decisions c_doublings n_digits n_digitCount k_bytes k_byteCount k_nextDigit k_rest)) (wr := List.filterMap (fun (i : Nat) => (W_Top t_0 p_0 p_pixels_a f_0 f_bytes_a f_starts_a f_ends_a s_0 s_layers_a u_0 u_pixels_a v_0 v_pixels_a w_0 w_pixels_a c_0 c_states_a c_favourites_a n_0 n_digits_a k_0 k_bytes_a p_pixels_k f_bytes_k f_starts_k f_ends_k s_layers_k u_pixels_k v_pixels_k w_pixels_k c_states_k c_favourites_k n_digits_k k_bytes_k s_layers_r t_anyLayerCoded p_pixels p_wide p_high f_bytes f_starts f_ends f_length f_wide f_high f_layerCount f_place s_plainRows u_pixels u_wide u_high v_pixels v_wide v_high w_pixels w_wide w_high c_states c_favourites c_span c_decisions c_doublings n_digits n_digitCount k_bytes k_byteCount k_nextDigit k_rest)[i]?) ([0, 3, 4, 5, 6, 7, 8, 9, 10, 11, 12, 13, 14, 15, 16, 17, 18, 19, 20, 21] : List Nat)) (va_runV (As := [.int i_x, .int i_y]) (rest := []) ⟨hx, hb, hml, hown, hts⟩ (c_Pic_covers l dC dI p_0 p_pixels_a p_pixels_k i_x i_y p_pixels p_wide p_high z3  hz3 H.size) ⟨callB_of 2 hts (gT tt241 TT_good) rfl rfl rfl (hts _ tt46) (hts _ tt377) (by decide +kernel) ⟨Nat.le_of_ble_eq_true rfl, Nat.le_of_ble_eq_true rfl⟩, hts _ tt239, hts _ tt240⟩ (x_preV (q := (R_Pic, F_Pic, 3)) (As := [.int i_x, .int i_y]) (x_pre (wc := (W_P p_0 p_pixels_a p_pixels_k p_pixels p_wide p_high)) (av := (.ref p_0 :: [.int i_x, .int i_y])) hK hP hD hS hA hG [0] [1, 2] rfl rfl (by decide)) hK hP (q0 := 1) rfl rfl) rfl rfl hl.1 rfl (lv_room (Nat.le_of_ble_eq_true rfl)) d_Top_set_6 ⟨Nat.zero_le _, Nat.zero_le _⟩) hP hD hS hA [1, 2] [0, 3, 4, 5, 6, 7, 8, 9, 10, 11, 12, 13, 14, 15, 16, 17, 18, 19, 20, 21] [0, 20, 21, 1, 2, 3, 4, 5, 6, 7, 8, 9, 10, 11, 12, 13, 14, 15, 16, 17, 18, 19] rfl rfl (by decide) (by decide) (by decide) rfl (fun H locs hP hD hS => ?_)
  refine lv_if_ne (tgt := 20) hx hb d_Top_set_9 rfl (fun hc => ?_) (fun hc => ?_)
  · replace h := of hc h
    refine lv_iload_n hx hb d_Top_set_20 rfl (lv_at hl 3 rfl) ?_
    refine lv_if_eq (tgt := 37) hx hb d_Top_set_21 rfl (fun hc => ?_) (fun hc => ?_)
    · replace h := ot hc h
      exact L37 p_pixels H locs ls (lv_sub hl [0, 1, 2, 3] rfl) hP hD hS h
    · replace h := of hc h
      refine lv_iload_n hx hb d_Top_set_24 rfl (lv_at hl 3 rfl) ?_
      refine lv_iconst (v := (1 : Int32)) hx hb d_Top_set_25 (by decide) ?_
      refine lv_icmp_eq (tgt := 37) hx hb d_Top_set_26 rfl (fun hc => ?_) (fun hc => ?_)
      · replace h := ot hc h
        exact L37 p_pixels H locs ls (lv_sub hl [0, 1, 2, 3] rfl) hP hD hS h
      · replace h := of hc h
        cases h
  · replace h := ot hc h
    cases h
theorem d_Top_row_0 : decode b_Top_row 0 = .ok (.aload_n 0, 1) := by decide +kernel
theorem d_Top_row_1 : decode b_Top_row 1 = .ok (.getfield 12, 3) := by decide +kernel
theorem d_Top_row_4 : decode b_Top_row 4 = .ok (.iconst (0), 1) := by decide +kernel
theorem d_Top_row_5 : decode b_Top_row 5 = .ok (.iload_n 1, 1) := by decide +kernel
theorem d_Top_row_6 : decode b_Top_row 6 = .ok (.invokevirtual 55, 3) := by decide +kernel
theorem d_Top_row_9 : decode b_Top_row 9 = .ok (.ifCond .ne (11), 3) := by decide +kernel
theorem d_Top_row_12 : decode b_Top_row 12 = .ok (.new 59, 3) := by decide +kernel
theorem d_Top_row_15 : decode b_Top_row 15 = .ok (.dup, 1) := by decide +kernel
theorem d_Top_row_16 : decode b_Top_row 16 = .ok (.invokespecial 61, 3) := by decide +kernel
theorem d_Top_row_19 : decode b_Top_row 19 = .ok (.athrow, 1) := by decide +kernel
theorem d_Top_row_20 : decode b_Top_row 20 = .ok (.iconst (0), 1) := by decide +kernel
theorem d_Top_row_21 : decode b_Top_row 21 = .ok (.istore_n 3, 1) := by decide +kernel
theorem d_Top_row_22 : decode b_Top_row 22 = .ok (.iload_n 3, 1) := by decide +kernel
theorem d_Top_row_23 : decode b_Top_row 23 = .ok (.aload_n 0, 1) := by decide +kernel
theorem d_Top_row_24 : decode b_Top_row 24 = .ok (.getfield 12, 3) := by decide +kernel
theorem d_Top_row_27 : decode b_Top_row 27 = .ok (.getfield 70, 3) := by decide +kernel
theorem d_Top_row_30 : decode b_Top_row 30 = .ok (.if_icmp .ge (33), 3) := by decide +kernel
theorem d_Top_row_33 : decode b_Top_row 33 = .ok (.aload_n 0, 1) := by decide +kernel
theorem d_Top_row_34 : decode b_Top_row 34 = .ok (.getfield 12, 3) := by decide +kernel
theorem d_Top_row_37 : decode b_Top_row 37 = .ok (.iload_n 3, 1) := by decide +kernel
theorem d_Top_row_38 : decode b_Top_row 38 = .ok (.iload_n 1, 1) := by decide +kernel
theorem d_Top_row_39 : decode b_Top_row 39 = .ok (.iload_n 2, 1) := by decide +kernel
theorem d_Top_row_40 : decode b_Top_row 40 = .ok (.aload_n 0, 1) := by decide +kernel
theorem d_Top_row_41 : decode b_Top_row 41 = .ok (.getfield 12, 3) := by decide +kernel
theorem d_Top_row_44 : decode b_Top_row 44 = .ok (.getfield 70, 3) := by decide +kernel
theorem d_Top_row_47 : decode b_Top_row 47 = .ok (.iconst (1), 1) := by decide +kernel
theorem d_Top_row_48 : decode b_Top_row 48 = .ok (.isub, 1) := by decide +kernel
theorem d_Top_row_49 : decode b_Top_row 49 = .ok (.iload_n 3, 1) := by decide +kernel
theorem d_Top_row_50 : decode b_Top_row 50 = .ok (.isub, 1) := by decide +kernel
theorem d_Top_row_51 : decode b_Top_row 51 = .ok (.ishr, 1) := by decide +kernel
theorem d_Top_row_52 : decode b_Top_row 52 = .ok (.iconst (1), 1) := by decide +kernel
theorem d_Top_row_53 : decode b_Top_row 53 = .ok (.iand, 1) := by decide +kernel
theorem d_Top_row_54 : decode b_Top_row 54 = .ok (.invokevirtual 66, 3) := by decide +kernel
theorem d_Top_row_57 : decode b_Top_row 57 = .ok (.iinc 3 (1), 3) := by decide +kernel
theorem d_Top_row_60 : decode b_Top_row 60 = .ok (.goto (-38), 3) := by decide +kernel
theorem d_Top_row_63 : decode b_Top_row 63 = .ok (.return_, 1) := by decide +kernel
def q_Top_row_22 (i_y : Int32) (i_bits : Int32) (p_wide : Int32) (p_high : Int32)  : Nat → Int32 → (Nat → Int32) → Option ((Nat → Int32))
  | 0, _, _ => none
  | n + 1, x3_22, p_pixels_22 => (if p_wide ≤ x3_22 then some (p_pixels_22) else ((q_Pic_paint x3_22 i_y ((i_bits >>> (((p_wide - (1 : Int32)) - x3_22) &&& 31)) &&& (1 : Int32)) p_pixels_22 p_wide p_high).bind fun z1 => (q_Top_row_22 i_y i_bits p_wide p_high n (x3_22 + (1 : Int32)) z1)))
def q_Top_row (i_y : Int32) (i_bits : Int32) (p_pixels : Nat → Int32) (p_wide : Int32) (p_high : Int32) : Option ((Nat → Int32)) := ((q_Pic_covers (0 : Int32) i_y p_wide p_high).bind fun z2 => (if z2 = 0 then none else (q_Top_row_22 i_y i_bits p_wide p_high  5000 (0 : Int32) p_pixels)))
abbrev rm_Top_row : Room := { frames := 2, cells := 0, slots := 0, locals := 45 }
set_option maxHeartbeats 4000000 in
set_option maxRecDepth 100000 in
theorem c_Top_row (l : Launch) (dC : Nat → ClassId) (dI : Nat → Nat → Nat) (t_0 p_0 p_pixels_a f_0 f_bytes_a f_starts_a f_ends_a s_0 s_layers_a u_0 u_pixels_a v_0 v_pixels_a w_0 w_pixels_a c_0 c_states_a c_favourites_a n_0 n_digits_a k_0 k_bytes_a : Nat) (p_pixels_k f_bytes_k f_starts_k f_ends_k s_layers_k u_pixels_k v_pixels_k w_pixels_k c_states_k c_favourites_k n_digits_k k_bytes_k : ClassId) (s_layers_r : Nat → Option Nat) (i_y : Int32) (i_bits : Int32) (t_anyLayerCoded : Int32) (p_pixels : Nat → Int32) (p_wide : Int32) (p_high : Int32) (f_bytes : Nat → Int32) (f_starts : Nat → Int32) (f_ends : Nat → Int32) (f_length : Int32) (f_wide : Int32) (f_high : Int32) (f_layerCount : Int32) (f_place : Int32) (s_plainRows : Int32) (u_pixels : Nat → Int32) (u_wide : Int32) (u_high : Int32) (v_pixels : Nat → Int32) (v_wide : Int32) (v_high : Int32) (w_pixels : Nat → Int32) (w_wide : Int32) (w_high : Int32) (c_states : Nat → Int32) (c_favourites : Nat → Int32) (c_span : Int32) (c_decisions : Int32) (c_doublings : Int32) (n_digits : Nat → Int32) (n_digitCount : Int32) (k_bytes : Nat → Int32) (k_byteCount : Int32) (k_nextDigit : Int32) (k_rest : Int32) (z : (Nat → Int32)) (hR0 : s_layers_r (0 : Int32).toNatClampNeg = some u_0) (hR1 : s_layers_r (1 : Int32).toNatClampNeg = some v_0) (hR2 : s_layers_r (2 : Int32).toNatClampNeg = some w_0) (hq : q_Top_row i_y i_bits p_pixels p_wide p_high = some z) (sz : Nat) : MetV l y_Top_row b_Top_row 4 TT rm_Top_row (dC, dI) vcl [(p_pixels_k, .int), (f_bytes_k, .int), (f_starts_k, .int), (f_ends_k, .int), (s_layers_k, .object "LayeredBits$Picture"), (u_pixels_k, .int), (v_pixels_k, .int), (w_pixels_k, .int), (c_states_k, .int), (c_favourites_k, .int), (n_digits_k, .int), (k_bytes_k, .int)] (W_Top t_0 p_0 p_pixels_a f_0 f_bytes_a f_starts_a f_ends_a s_0 s_layers_a u_0 u_pixels_a v_0 v_pixels_a w_0 w_pixels_a c_0 c_states_a c_favourites_a n_0 n_digits_a k_0 k_bytes_a p_pixels_k f_bytes_k f_starts_k f_ends_k s_layers_k u_pixels_k v_pixels_k w_pixels_k c_states_k c_favourites_k n_digits_k k_bytes_k s_layers_r t_anyLayerCoded p_pixels p_wide p_high f_bytes f_starts f_ends f_length f_wide f_high f_layerCount f_place s_plainRows u_pixels u_wide u_high v_pixels v_wide v_high w_pixels w_wide w_high c_states c_favourites c_span c_decisions c_doublings n_digits n_digitCount k_bytes k_byteCount k_nextDigit k_rest) (W_Top t_0 p_0 p_pixels_a f_0 f_bytes_a f_starts_a f_ends_a s_0 s_layers_a u_0 u_pixels_a v_0 v_pixels_a w_0 w_pixels_a c_0 c_states_a c_favourites_a n_0 n_digits_a k_0 k_bytes_a p_pixels_k f_bytes_k f_starts_k f_ends_k s_layers_k u_pixels_k v_pixels_k w_pixels_k c_states_k c_favourites_k n_digits_k k_bytes_k s_layers_r t_anyLayerCoded z p_wide p_high f_bytes f_starts f_ends f_length f_wide f_high f_layerCount f_place s_plainRows u_pixels u_wide u_high v_pixels v_wide v_high w_pixels w_wide w_high c_states c_favourites c_span c_decisions c_doublings n_digits n_digitCount k_bytes k_byteCount k_nextDigit k_rest) [.ref t_0, .int i_y, .int i_bits] sz := by
  refine x_ofV (by decide) (Nat.le_of_ble_eq_true rfl) ?_ sz
  intro p e s m args below meth c A Q ls hx hb hml hown hts hA hG hK hP hD hS hl hret
  have hown : s.vm.findClass R_Top = some m.cls := hown
  have hl : lv_has ls 4 [(0, .ref t_0), (1, .int i_y), (2, .int i_bits)] := hl
  obtain ⟨⟨tq, hZ, hTq⟩, hN⟩ := id hG
  obtain ⟨H, hH⟩ : ∃ H, H = s.heap := ⟨_, rfl⟩
  obtain ⟨locs, hlocs⟩ : ∃ locs : List Loc, locs = [] := ⟨_, rfl⟩
  rw [← hH] at hP
  have hS : va_S A s.heap H locs := by rw [hH, hlocs]; exact hS
  suffices hgo : W p l e rm_Top_row s m args below meth c H locs 0 0 Q (F0 m 0 ls []) by rw [hH, hlocs] at hgo; exact hgo
  unfold q_Top_row at hq
  have L22 : ∀ (n22 : Nat) (x3_22 : Int32) (p_pixels_22 : Nat → Int32) (H : Heap) (locs : List Loc) (ls : Array Slot), lv_has ls 4 [(0, .ref t_0), (1, .int i_y), (2, .int i_bits), (3, .int x3_22)] → va_P (dC, dI) vcl (W_Top t_0 p_0 p_pixels_a f_0 f_bytes_a f_starts_a f_ends_a s_0 s_layers_a u_0 u_pixels_a v_0 v_pixels_a w_0 w_pixels_a c_0 c_states_a c_favourites_a n_0 n_digits_a k_0 k_bytes_a p_pixels_k f_bytes_k f_starts_k f_ends_k s_layers_k u_pixels_k v_pixels_k w_pixels_k c_states_k c_favourites_k n_digits_k k_bytes_k s_layers_r t_anyLayerCoded p_pixels_22 p_wide p_high f_bytes f_starts f_ends f_length f_wide f_high f_layerCount f_place s_plainRows u_pixels u_wide u_high v_pixels v_wide v_high w_pixels w_wide w_high c_states c_favourites c_span c_decisions c_doublings n_digits n_digitCount k_bytes k_byteCount k_nextDigit k_rest) H → va_D A (W_Top t_0 p_0 p_pixels_a f_0 f_bytes_a f_starts_a f_ends_a s_0 s_layers_a u_0 u_pixels_a v_0 v_pixels_a w_0 w_pixels_a c_0 c_states_a c_favourites_a n_0 n_digits_a k_0 k_bytes_a p_pixels_k f_bytes_k f_starts_k f_ends_k s_layers_k u_pixels_k v_pixels_k w_pixels_k c_states_k c_favourites_k n_digits_k k_bytes_k s_layers_r t_anyLayerCoded p_pixels_22 p_wide p_high f_bytes f_starts f_ends f_length f_wide f_high f_layerCount f_place s_plainRows u_pixels u_wide u_high v_pixels v_wide v_high w_pixels w_wide w_high c_states c_favourites c_span c_decisions c_doublings n_digits n_digitCount k_bytes k_byteCount k_nextDigit k_rest) → va_S A s.heap H locs → q_Top_row_22 i_y i_bits p_wide p_high  n22 x3_22 p_pixels_22 = some z → W p l e rm_Top_row s m args below meth c H locs 0 0 Q (F0 m 22 ls []) := by
    intro n22
    induction n22 with
    | zero =>
      intro x3_22 p_pixels_22 H locs ls hl hP hD hS hq
      rw [q_Top_row_22] at hq
      cases hq
    | succ n22 ih22 =>
      intro x3_22 p_pixels_22 H locs ls hl hP hD hS hq22
      rw [q_Top_row_22] at hq22
      have h := hq22
      refine lv_iload_n hx hb d_Top_row_22 rfl (lv_at hl 3 rfl) ?_
      refine lv_aload_n hx hb d_Top_row_23 rfl (lv_at hl 0 rfl) ?_
      refine va_get (D := (dC, dI)) (ci := 6) (v := .ref p_0) (C := R_Top) (T := F_Top) (N := 6) hx hb hts in_Top hown hK hP 0 rfl rfl 0 (by decide) (hts _ tt211) (fun _ h9 => h9) rfl d_Top_row_24 ?_
      refine va_getN (D := (dC, dI)) (ci := 4) (v := .int p_wide) (C := R_Pic) (T := F_Pic) (N := 3) hx hb hts in_Pic hown hK hP 1 rfl rfl 1 (by decide) (va_Nw.use rfl (hN _ nn79)) (fun _ h9 => h9) rfl d_Top_row_27 ?_
      refine lv_icmp_ge (tgt := 63) hx hb d_Top_row_30 rfl (fun hc => ?_) (fun hc => ?_)
      · replace h := ot hc h
        obtain rfl := Option.some.inj h
        exact hret H locs 63 ls d_Top_row_63 hP hD hS
      · replace h := of hc h
        refine lv_aload_n hx hb d_Top_row_33 rfl (lv_at hl 0 rfl) ?_
        refine va_get (D := (dC, dI)) (ci := 6) (v := .ref p_0) (C := R_Top) (T := F_Top) (N := 6) hx hb hts in_Top hown hK hP 0 rfl rfl 0 (by decide) (hts _ tt211) (fun _ h9 => h9) rfl d_Top_row_34 ?_
        refine lv_iload_n hx hb d_Top_row_37 rfl (lv_at hl 3 rfl) ?_
        refine lv_iload_n hx hb d_Top_row_38 rfl (lv_at hl 1 rfl) ?_
        refine lv_iload_n hx hb d_Top_row_39 rfl (lv_at hl 2 rfl) ?_
        refine lv_aload_n hx hb d_Top_row_40 rfl (lv_at hl 0 rfl) ?_
        refine va_get (D := (dC, dI)) (ci := 6) (v := .ref p_0) (C := R_Top) (T := F_Top) (N := 6) hx hb hts in_Top hown hK hP 0 rfl rfl 0 (by decide) (hts _ tt211) (fun _ h9 => h9) rfl d_Top_row_41 ?_
        refine va_getN (D := (dC, dI)) (ci := 4) (v := .int p_wide) (C := R_Pic) (T := F_Pic) (N := 3) hx hb hts in_Pic hown hK hP 1 rfl rfl 1 (by decide) (va_Nw.use rfl (hN _ nn79)) (fun _ h9 => h9) rfl d_Top_row_44 ?_
        refine lv_iconst (v := (1 : Int32)) hx hb d_Top_row_47 (by decide) ?_
        refine lv_isub hx hb d_Top_row_48 ?_
        refine lv_iload_n hx hb d_Top_row_49 rfl (lv_at hl 3 rfl) ?_
        refine lv_isub hx hb d_Top_row_50 ?_
        refine lv_ishr hx hb d_Top_row_51 ?_
        refine lv_iconst (v := (1 : Int32)) hx hb d_Top_row_52 (by decide) ?_
        refine lv_iand hx hb d_Top_row_53 ?_
        obtain ⟨z1, hz1, h⟩ := ob h
        refine x_goV (w1 := (W_P p_0 p_pixels_a p_pixels_k z1 p_wide p_high)) (ws' := (W_Top t_0 p_0 p_pixels_a f_0 f_bytes_a f_starts_a f_ends_a s_0 s_layers_a u_0 u_pixels_a v_0 v_pixels_a w_0 w_pixels_a c_0 c_states_a c_favourites_a n_0 n_digits_a k_0 k_bytes_a p_pixels_k f_bytes_k f_starts_k f_ends_k s_layers_k u_pixels_k v_pixels_k w_pixels_k c_states_k c_favourites_k n_digits_k k_bytes_k s_layers_r t_anyLayerCoded z1 p_wide p_high f_bytes f_starts f_ends f_length f_wide f_high f_layerCount f_place s_plainRows u_pixels u_wide u_high v_pixels v_wide v_high w_pixels w_wide w_high c_states c_favourites c_span c_decisions c_doublings n_digits n_digitCount k_bytes k_byteCount k_nextDigit k_rest)) (wr := List.filterMap (fun (i : Nat) => (W_Top t_0 p_0 p_pixels_a f_0 f_bytes_a f_starts_a f_ends_a s_0 s_layers_a u_0 u_pixels_a v_0 v_pixels_a w_0 w_pixels_a c_0 c_states_a c_favourites_a n_0 n_digits_a k_0 k_bytes_a p_pixels_k f_bytes_k f_starts_k f_ends_k s_layers_k u_pixels_k v_pixels_k w_pixels_k c_states_k c_favourites_k n_digits_k k_bytes_k s_layers_r t_anyLayerCoded p_pixels_22 p_wide p_high f_bytes f_starts f_ends f_length f_wide f_high f_layerCount f_place s_plainRows u_pixels u_wide u_high v_pixels v_wide v_high w_pixels w_wide w_high c_states c_favourites c_span c_decisions c_doublings n_digits n_digitCount k_bytes k_byteCount k_nextDigit k_rest)[i]?) ([0, 3, 4, 5, 6, 7, 8, 9, 10, 11, 12, 13, 14, 15, 16, 17, 18, 19, 20, 21] : List Nat)) (va_runV (As := [.int x3_22, .int i_y, .int ((i_bits >>> (((p_wide - (1 : Int32)) - x3_22) &&& 31)) &&& (1 : Int32))]) (rest := []) ⟨hx, hb, hml, hown, hts⟩ (c_Pic_paint l dC dI p_0 p_pixels_a p_pixels_k x3_22 i_y ((i_bits >>> (((p_wide - (1 : Int32)) - x3_22) &&& 31)) &&& (1 : Int32)) p_pixels_22 p_wide p_high z1  hz1 H.size) ⟨callB_of 3 hts (gT tt291 TT_good) rfl rfl rfl (hts _ tt46) (hts _ tt393) (by decide +kernel) ⟨Nat.le_of_ble_eq_true rfl, Nat.le_of_ble_eq_true rfl⟩, hts _ tt289, hts _ tt290⟩ (x_preV (q := (R_Pic, F_Pic, 3)) (As := [.int x3_22, .int i_y, .int ((i_bits >>> (((p_wide - (1 : Int32)) - x3_22) &&& 31)) &&& (1 : Int32))]) (x_pre (wc := (W_P p_0 p_pixels_a p_pixels_k p_pixels_22 p_wide p_high)) (av := (.ref p_0 :: [.int x3_22, .int i_y, .int ((i_bits >>> (((p_wide - (1 : Int32)) - x3_22) &&& 31)) &&& (1 : Int32))])) hK hP hD hS hA hG [0] [1, 2] rfl rfl (by decide)) hK hP (q0 := 1) rfl rfl) rfl rfl hl.1 rfl (lv_room (Nat.le_of_ble_eq_true rfl)) d_Top_row_54 ⟨Nat.zero_le _, Nat.zero_le _⟩) hP hD hS hA [1, 2] [0, 3, 4, 5, 6, 7, 8, 9, 10, 11, 12, 13, 14, 15, 16, 17, 18, 19, 20, 21] [0, 20, 21, 1, 2, 3, 4, 5, 6, 7, 8, 9, 10, 11, 12, 13, 14, 15, 16, 17, 18, 19] rfl rfl (by decide) (by decide) (by decide) rfl (fun H locs hP hD hS => ?_)
        refine lv_iinc (k := 3) (v := x3_22 + (1 : Int32)) (lv' := [(3, .int (x3_22 + (1 : Int32))), (0, .ref t_0), (1, .int i_y), (2, .int i_bits)]) hx hb d_Top_row_57 hl rfl rfl (by decide) rfl (fun ls hl => ?_)
        refine lv_goto (tgt := 22) hx hb d_Top_row_60 rfl ?_
        exact ih22 (x3_22 + (1 : Int32)) z1 H locs ls (lv_sub hl [1, 2, 3, 0] rfl) hP hD hS h
  have h := hq
  refine lv_aload_n hx hb d_Top_row_0 rfl (lv_at hl 0 rfl) ?_
  refine va_get (D := (dC, dI)) (ci := 6) (v := .ref p_0) (C := R_Top) (T := F_Top) (N := 6) hx hb hts in_Top hown hK hP 0 rfl rfl 0 (by decide) (hts _ tt211) (fun _ h9 => h9) rfl d_Top_row_1 ?_
  refine lv_iconst (v := (0 : Int32)) hx hb d_Top_row_4 (by decide) ?_
  refine lv_iload_n hx hb d_Top_row_5 rfl (lv_at hl 1 rfl) ?_
  obtain ⟨z2, hz2, h⟩ := ob h
  refine x_goI (res := z2) (w1 := (W_P p_0 p_pixels_a p_pixels_k p_pixels p_wide p_high)) (ws' := (W_Top t_0 p_0 p_pixels_a f_0 f_bytes_a f_starts_a f_ends_a s_0 s_layers_a u_0 u_pixels_a v_0 v_pixels_a w_0 w_pixels_a c_0 c_states_a c_favourites_a n_0 n_digits_a k_0 k_bytes_a p_pixels_k f_bytes_k f_starts_k f_ends_k s_layers_k u_pixels_k v_pixels_k w_pixels_k c_states_k c_favourites_k n_digits_k k_bytes_k s_layers_r t_anyLayerCoded p_pixels p_wide p_high f_bytes f_starts f_ends f_length f_wide f_high f_layerCount f_place s_plainRows u_pixels u_wide u_high v_pixels v_wide v_high w_pixels w_wide w_high c_states c_favourites c_span c_decisions c_doublings n_digits n_digitCount k_bytes k_byteCount k_nextDigit k_rest)) (wr := List.filterMap (fun (i : Nat) => (W_Top t_0 p_0 p_pixels_a f_0 f_bytes_a f_starts_a f_ends_a s_0 s_layers_a u_0 u_pixels_a v_0 v_pixels_a w_0 w_pixels_a c_0 c_states_a c_favourites_a n_0 n_digits_a k_0 k_bytes_a p_pixels_k f_bytes_k f_starts_k f_ends_k s_layers_k u_pixels_k v_pixels_k w_pixels_k c_states_k c_favourites_k n_digits_k k_bytes_k s_layers_r t_anyLayerCoded p_pixels p_wide p_high f_bytes f_starts f_ends f_length f_wide f_high f_layerCount f_place s_plainRows u_pixels u_wide u_high v_pixels v_wide v_high w_pixels w_wide w_high c_states c_favourites c_span c_decisions c_doublings n_digits n_digitCount k_bytes k_byteCount k_nextDigit k_rest)[i]?) ([0, 3, 4, 5, 6, 7, 8, 9, 10, 11, 12, 13, 14, 15, 16, 17, 18, 19, 20, 21] : List Nat)) (va_runV (As := [.int (0 : Int32), .int i_y]) (rest := []) ⟨hx, hb, hml, hown, hts⟩ (c_Pic_covers l dC dI p_0 p_pixels_a p_pixels_k (0 : Int32) i_y p_pixels p_wide p_high z2  hz2 H.size) ⟨callB_of 2 hts (gT tt241 TT_good) rfl rfl rfl (hts _ tt46) (hts _ tt377) (by decide +kernel) ⟨Nat.le_of_ble_eq_true rfl, Nat.le_of_ble_eq_true rfl⟩, hts _ tt239, hts _ tt240⟩ (x_preV (q := (R_Pic, F_Pic, 3)) (As := [.int (0 : Int32), .int i_y]) (x_pre (wc := (W_P p_0 p_pixels_a p_pixels_k p_pixels p_wide p_high)) (av := (.ref p_0 :: [.int (0 : Int32), .int i_y])) hK hP hD hS hA hG [0] [1, 2] rfl rfl (by decide)) hK hP (q0 := 1) rfl rfl) rfl rfl hl.1 rfl (lv_room (Nat.le_of_ble_eq_true rfl)) d_Top_row_6 ⟨Nat.zero_le _, Nat.zero_le _⟩) hP hD hS hA [1, 2] [0, 3, 4, 5, 6, 7, 8, 9, 10, 11, 12, 13, 14, 15, 16, 17, 18, 19, 20, 21] [0, 20, 21, 1, 2, 3, 4, 5, 6, 7, 8, 9, 10, 11, 12, 13, 14, 15, 16, 17, 18, 19] rfl rfl (by decide) (by decide) (by decide) rfl (fun H locs hP hD hS => ?_)
  refine lv_if_ne (tgt := 20) hx hb d_Top_row_9 rfl (fun hc => ?_) (fun hc => ?_)
  · replace h := of hc h
    refine lv_iconst (v := (0 : Int32)) hx hb d_Top_row_20 (by decide) ?_
    refine lv_istore_n (lv' := [(3, .int (0 : Int32)), (0, .ref t_0), (1, .int i_y), (2, .int i_bits)]) hx hb d_Top_row_21 rfl hl (by decide) rfl (fun ls hl => ?_)
    exact L22 5000 (0 : Int32) p_pixels H locs ls (lv_sub hl [1, 2, 3, 0] rfl) hP hD hS h
  · replace h := ot hc h
    cases h
theorem d_Top_get_0 : decode b_Top_get 0 = .ok (.aload_n 0, 1) := by decide +kernel
theorem d_Top_get_1 : decode b_Top_get 1 = .ok (.getfield 12, 3) := by decide +kernel
theorem d_Top_get_4 : decode b_Top_get 4 = .ok (.iload_n 1, 1) := by decide +kernel
theorem d_Top_get_5 : decode b_Top_get 5 = .ok (.iload_n 2, 1) := by decide +kernel
theorem d_Top_get_6 : decode b_Top_get 6 = .ok (.invokevirtual 62, 3) := by decide +kernel
theorem d_Top_get_9 : decode b_Top_get 9 = .ok (.ireturn, 1) := by decide +kernel
def q_Top_get (i_x : Int32) (i_y : Int32) (p_pixels : Nat → Int32) (p_wide : Int32) (p_high : Int32) : Option (Int32) := ((q_Pic_pixel i_x i_y p_pixels p_wide p_high).bind fun z1 => some (z1))
abbrev rm_Top_get : Room := { frames := 2, cells := 0, slots := 0, locals := 44 }
set_option maxHeartbeats 4000000 in
set_option maxRecDepth 100000 in
theorem c_Top_get (l : Launch) (dC : Nat → ClassId) (dI : Nat → Nat → Nat) (t_0 p_0 p_pixels_a f_0 f_bytes_a f_starts_a f_ends_a s_0 s_layers_a u_0 u_pixels_a v_0 v_pixels_a w_0 w_pixels_a c_0 c_states_a c_favourites_a n_0 n_digits_a k_0 k_bytes_a : Nat) (p_pixels_k f_bytes_k f_starts_k f_ends_k s_layers_k u_pixels_k v_pixels_k w_pixels_k c_states_k c_favourites_k n_digits_k k_bytes_k : ClassId) (s_layers_r : Nat → Option Nat) (i_x : Int32) (i_y : Int32) (t_anyLayerCoded : Int32) (p_pixels : Nat → Int32) (p_wide : Int32) (p_high : Int32) (f_bytes : Nat → Int32) (f_starts : Nat → Int32) (f_ends : Nat → Int32) (f_length : Int32) (f_wide : Int32) (f_high : Int32) (f_layerCount : Int32) (f_place : Int32) (s_plainRows : Int32) (u_pixels : Nat → Int32) (u_wide : Int32) (u_high : Int32) (v_pixels : Nat → Int32) (v_wide : Int32) (v_high : Int32) (w_pixels : Nat → Int32) (w_wide : Int32) (w_high : Int32) (c_states : Nat → Int32) (c_favourites : Nat → Int32) (c_span : Int32) (c_decisions : Int32) (c_doublings : Int32) (n_digits : Nat → Int32) (n_digitCount : Int32) (k_bytes : Nat → Int32) (k_byteCount : Int32) (k_nextDigit : Int32) (k_rest : Int32) (z : Int32) (hR0 : s_layers_r (0 : Int32).toNatClampNeg = some u_0) (hR1 : s_layers_r (1 : Int32).toNatClampNeg = some v_0) (hR2 : s_layers_r (2 : Int32).toNatClampNeg = some w_0) (hq : q_Top_get i_x i_y p_pixels p_wide p_high = some z) (sz : Nat) : MetI l y_Top_get b_Top_get 3 .int TT rm_Top_get (dC, dI) vcl [(p_pixels_k, .int), (f_bytes_k, .int), (f_starts_k, .int), (f_ends_k, .int), (s_layers_k, .object "LayeredBits$Picture"), (u_pixels_k, .int), (v_pixels_k, .int), (w_pixels_k, .int), (c_states_k, .int), (c_favourites_k, .int), (n_digits_k, .int), (k_bytes_k, .int)] (W_Top t_0 p_0 p_pixels_a f_0 f_bytes_a f_starts_a f_ends_a s_0 s_layers_a u_0 u_pixels_a v_0 v_pixels_a w_0 w_pixels_a c_0 c_states_a c_favourites_a n_0 n_digits_a k_0 k_bytes_a p_pixels_k f_bytes_k f_starts_k f_ends_k s_layers_k u_pixels_k v_pixels_k w_pixels_k c_states_k c_favourites_k n_digits_k k_bytes_k s_layers_r t_anyLayerCoded p_pixels p_wide p_high f_bytes f_starts f_ends f_length f_wide f_high f_layerCount f_place s_plainRows u_pixels u_wide u_high v_pixels v_wide v_high w_pixels w_wide w_high c_states c_favourites c_span c_decisions c_doublings n_digits n_digitCount k_bytes k_byteCount k_nextDigit k_rest) (W_Top t_0 p_0 p_pixels_a f_0 f_bytes_a f_starts_a f_ends_a s_0 s_layers_a u_0 u_pixels_a v_0 v_pixels_a w_0 w_pixels_a c_0 c_states_a c_favourites_a n_0 n_digits_a k_0 k_bytes_a p_pixels_k f_bytes_k f_starts_k f_ends_k s_layers_k u_pixels_k v_pixels_k w_pixels_k c_states_k c_favourites_k n_digits_k k_bytes_k s_layers_r t_anyLayerCoded p_pixels p_wide p_high f_bytes f_starts f_ends f_length f_wide f_high f_layerCount f_place s_plainRows u_pixels u_wide u_high v_pixels v_wide v_high w_pixels w_wide w_high c_states c_favourites c_span c_decisions c_doublings n_digits n_digitCount k_bytes k_byteCount k_nextDigit k_rest) [.ref t_0, .int i_x, .int i_y] z sz := by
  refine x_ofI (by decide) (Nat.le_of_ble_eq_true rfl) ?_ sz
  intro p e s m args below meth c A Q ls hx hb hml hown hts hA hG hK hP hD hS hl hret
  have hown : s.vm.findClass R_Top = some m.cls := hown
  have hl : lv_has ls 3 [(0, .ref t_0), (1, .int i_x), (2, .int i_y)] := hl
  obtain ⟨⟨tq, hZ, hTq⟩, hN⟩ := id hG
  obtain ⟨H, hH⟩ : ∃ H, H = s.heap := ⟨_, rfl⟩
  obtain ⟨locs, hlocs⟩ : ∃ locs : List Loc, locs = [] := ⟨_, rfl⟩
  rw [← hH] at hP
  have hS : va_S A s.heap H locs := by rw [hH, hlocs]; exact hS
  suffices hgo : W p l e rm_Top_get s m args below meth c H locs 0 0 Q (F0 m 0 ls []) by rw [hH, hlocs] at hgo; exact hgo
  unfold q_Top_get at hq
  have h := hq
  refine lv_aload_n hx hb d_Top_get_0 rfl (lv_at hl 0 rfl) ?_
  refine va_get (D := (dC, dI)) (ci := 6) (v := .ref p_0) (C := R_Top) (T := F_Top) (N := 6) hx hb hts in_Top hown hK hP 0 rfl rfl 0 (by decide) (hts _ tt211) (fun _ h9 => h9) rfl d_Top_get_1 ?_
  refine lv_iload_n hx hb d_Top_get_4 rfl (lv_at hl 1 rfl) ?_
  refine lv_iload_n hx hb d_Top_get_5 rfl (lv_at hl 2 rfl) ?_
  obtain ⟨z1, hz1, h⟩ := ob h
  refine x_goI (res := z1) (w1 := (W_P p_0 p_pixels_a p_pixels_k p_pixels p_wide p_high)) (ws' := (W_Top t_0 p_0 p_pixels_a f_0 f_bytes_a f_starts_a f_ends_a s_0 s_layers_a u_0 u_pixels_a v_0 v_pixels_a w_0 w_pixels_a c_0 c_states_a c_favourites_a n_0 n_digits_a k_0 k_bytes_a p_pixels_k f_bytes_k f_starts_k f_ends_k s_layers_k u_pixels_k v_pixels_k w_pixels_k c_states_k c_favourites_k n_digits_k k_bytes_k s_layers_r t_anyLayerCoded p_pixels p_wide p_high f_bytes f_starts f_ends f_length f_wide f_high f_layerCount f_place s_plainRows u_pixels u_wide u_high v_pixels v_wide v_high w_pixels w_wide w_high c_states c_favourites c_span c_decisions c_doublings n_digits n_digitCount k_bytes k_byteCount k_nextDigit k_rest)) (wr := List.filterMap (fun (i : Nat) => (W_Top t_0 p_0 p_pixels_a f_0 f_bytes_a f_starts_a f_ends_a s_0 s_layers_a u_0 u_pixels_a v_0 v_pixels_a w_0 w_pixels_a c_0 c_states_a c_favourites_a n_0 n_digits_a k_0 k_bytes_a p_pixels_k f_bytes_k f_starts_k f_ends_k s_layers_k u_pixels_k v_pixels_k w_pixels_k c_states_k c_favourites_k n_digits_k k_bytes_k s_layers_r t_anyLayerCoded p_pixels p_wide p_high f_bytes f_starts f_ends f_length f_wide f_high f_layerCount f_place s_plainRows u_pixels u_wide u_high v_pixels v_wide v_high w_pixels w_wide w_high c_states c_favourites c_span c_decisions c_doublings n_digits n_digitCount k_bytes k_byteCount k_nextDigit k_rest)[i]?) ([0, 3, 4, 5, 6, 7, 8, 9, 10, 11, 12, 13, 14, 15, 16, 17, 18, 19, 20, 21] : List Nat)) (va_runV (As := [.int i_x, .int i_y]) (rest := []) ⟨hx, hb, hml, hown, hts⟩ (c_Pic_pixel l dC dI p_0 p_pixels_a p_pixels_k i_x i_y p_pixels p_wide p_high z1  hz1 H.size) ⟨callB_of 2 hts (gT tt237 TT_good) rfl rfl rfl (hts _ tt46) (hts _ tt234) (by decide +kernel) ⟨Nat.le_of_ble_eq_true rfl, Nat.le_of_ble_eq_true rfl⟩, hts _ tt235, hts _ tt236⟩ (x_preV (q := (R_Pic, F_Pic, 3)) (As := [.int i_x, .int i_y]) (x_pre (wc := (W_P p_0 p_pixels_a p_pixels_k p_pixels p_wide p_high)) (av := (.ref p_0 :: [.int i_x, .int i_y])) hK hP hD hS hA hG [0] [1, 2] rfl rfl (by decide)) hK hP (q0 := 1) rfl rfl) rfl rfl hl.1 rfl (lv_room (Nat.le_of_ble_eq_true rfl)) d_Top_get_6 ⟨Nat.zero_le _, Nat.zero_le _⟩) hP hD hS hA [1, 2] [0, 3, 4, 5, 6, 7, 8, 9, 10, 11, 12, 13, 14, 15, 16, 17, 18, 19, 20, 21] [0, 20, 21, 1, 2, 3, 4, 5, 6, 7, 8, 9, 10, 11, 12, 13, 14, 15, 16, 17, 18, 19] rfl rfl (by decide) (by decide) (by decide) rfl (fun H locs hP hD hS => ?_)
  obtain rfl := Option.some.inj h
  exact hret H locs 9 ls d_Top_get_9 (vp_nar_int _) hP hD hS
theorem d_Top_width_0 : decode b_Top_width 0 = .ok (.aload_n 0, 1) := by decide +kernel
theorem d_Top_width_1 : decode b_Top_width 1 = .ok (.getfield 12, 3) := by decide +kernel
theorem d_Top_width_4 : decode b_Top_width 4 = .ok (.getfield 70, 3) := by decide +kernel
theorem d_Top_width_7 : decode b_Top_width 7 = .ok (.ireturn, 1) := by decide +kernel
def q_Top_width  (p_wide : Int32) : Option (Int32) := some (p_wide)
abbrev rm_Top_width : Room := { frames := 0, cells := 0, slots := 0, locals := 0 }
set_option maxHeartbeats 4000000 in
set_option maxRecDepth 100000 in
theorem c_Top_width (l : Launch) (dC : Nat → ClassId) (dI : Nat → Nat → Nat) (t_0 p_0 p_pixels_a f_0 f_bytes_a f_starts_a f_ends_a s_0 s_layers_a u_0 u_pixels_a v_0 v_pixels_a w_0 w_pixels_a c_0 c_states_a c_favourites_a n_0 n_digits_a k_0 k_bytes_a : Nat) (p_pixels_k f_bytes_k f_starts_k f_ends_k s_layers_k u_pixels_k v_pixels_k w_pixels_k c_states_k c_favourites_k n_digits_k k_bytes_k : ClassId) (s_layers_r : Nat → Option Nat)  (t_anyLayerCoded : Int32) (p_pixels : Nat → Int32) (p_wide : Int32) (p_high : Int32) (f_bytes : Nat → Int32) (f_starts : Nat → Int32) (f_ends : Nat → Int32) (f_length : Int32) (f_wide : Int32) (f_high : Int32) (f_layerCount : Int32) (f_place : Int32) (s_plainRows : Int32) (u_pixels : Nat → Int32) (u_wide : Int32) (u_high : Int32) (v_pixels : Nat → Int32) (v_wide : Int32) (v_high : Int32) (w_pixels : Nat → Int32) (w_wide : Int32) (w_high : Int32) (c_states : Nat → Int32) (c_favourites : Nat → Int32) (c_span : Int32) (c_decisions : Int32) (c_doublings : Int32) (n_digits : Nat → Int32) (n_digitCount : Int32) (k_bytes : Nat → Int32) (k_byteCount : Int32) (k_nextDigit : Int32) (k_rest : Int32) (z : Int32) (hR0 : s_layers_r (0 : Int32).toNatClampNeg = some u_0) (hR1 : s_layers_r (1 : Int32).toNatClampNeg = some v_0) (hR2 : s_layers_r (2 : Int32).toNatClampNeg = some w_0) (hq : q_Top_width p_wide = some z) (sz : Nat) : MetI l y_Top_width b_Top_width 1 .int TT rm_Top_width (dC, dI) vcl [(p_pixels_k, .int), (f_bytes_k, .int), (f_starts_k, .int), (f_ends_k, .int), (s_layers_k, .object "LayeredBits$Picture"), (u_pixels_k, .int), (v_pixels_k, .int), (w_pixels_k, .int), (c_states_k, .int), (c_favourites_k, .int), (n_digits_k, .int), (k_bytes_k, .int)] (W_Top t_0 p_0 p_pixels_a f_0 f_bytes_a f_starts_a f_ends_a s_0 s_layers_a u_0 u_pixels_a v_0 v_pixels_a w_0 w_pixels_a c_0 c_states_a c_favourites_a n_0 n_digits_a k_0 k_bytes_a p_pixels_k f_bytes_k f_starts_k f_ends_k s_layers_k u_pixels_k v_pixels_k w_pixels_k c_states_k c_favourites_k n_digits_k k_bytes_k s_layers_r t_anyLayerCoded p_pixels p_wide p_high f_bytes f_starts f_ends f_length f_wide f_high f_layerCount f_place s_plainRows u_pixels u_wide u_high v_pixels v_wide v_high w_pixels w_wide w_high c_states c_favourites c_span c_decisions c_doublings n_digits n_digitCount k_bytes k_byteCount k_nextDigit k_rest) (W_Top t_0 p_0 p_pixels_a f_0 f_bytes_a f_starts_a f_ends_a s_0 s_layers_a u_0 u_pixels_a v_0 v_pixels_a w_0 w_pixels_a c_0 c_states_a c_favourites_a n_0 n_digits_a k_0 k_bytes_a p_pixels_k f_bytes_k f_starts_k f_ends_k s_layers_k u_pixels_k v_pixels_k w_pixels_k c_states_k c_favourites_k n_digits_k k_bytes_k s_layers_r t_anyLayerCoded p_pixels p_wide p_high f_bytes f_starts f_ends f_length f_wide f_high f_layerCount f_place s_plainRows u_pixels u_wide u_high v_pixels v_wide v_high w_pixels w_wide w_high c_states c_favourites c_span c_decisions c_doublings n_digits n_digitCount k_bytes k_byteCount k_nextDigit k_rest) [.ref t_0] z sz := by
  refine x_ofI (by decide) (Nat.le_of_ble_eq_true rfl) ?_ sz
  intro p e s m args below meth c A Q ls hx hb hml hown hts hA hG hK hP hD hS hl hret
  have hown : s.vm.findClass R_Top = some m.cls := hown
  have hl : lv_has ls 1 [(0, .ref t_0)] := hl
  obtain ⟨⟨tq, hZ, hTq⟩, hN⟩ := id hG
  obtain ⟨H, hH⟩ : ∃ H, H = s.heap := ⟨_, rfl⟩
  obtain ⟨locs, hlocs⟩ : ∃ locs : List Loc, locs = [] := ⟨_, rfl⟩
  rw [← hH] at hP
  have hS : va_S A s.heap H locs := by rw [hH, hlocs]; exact hS
  suffices hgo : W p l e rm_Top_width s m args below meth c H locs 0 0 Q (F0 m 0 ls []) by rw [hH, hlocs] at hgo; exact hgo
  unfold q_Top_width at hq
  have h := hq
  refine lv_aload_n hx hb d_Top_width_0 rfl (lv_at hl 0 rfl) ?_
  refine va_get (D := (dC, dI)) (ci := 6) (v := .ref p_0) (C := R_Top) (T := F_Top) (N := 6) hx hb hts in_Top hown hK hP 0 rfl rfl 0 (by decide) (hts _ tt211) (fun _ h9 => h9) rfl d_Top_width_1 ?_
  refine va_getN (D := (dC, dI)) (ci := 4) (v := .int p_wide) (C := R_Pic) (T := F_Pic) (N := 3) hx hb hts in_Pic hown hK hP 1 rfl rfl 1 (by decide) (va_Nw.use rfl (hN _ nn79)) (fun _ h9 => h9) rfl d_Top_width_4 ?_
  obtain rfl := Option.some.inj h
  exact hret H locs 7 ls d_Top_width_7 (vp_nar_int _) hP hD hS
theorem d_Top_height_0 : decode b_Top_height 0 = .ok (.aload_n 0, 1) := by decide +kernel
theorem d_Top_height_1 : decode b_Top_height 1 = .ok (.getfield 12, 3) := by decide +kernel
theorem d_Top_height_4 : decode b_Top_height 4 = .ok (.getfield 74, 3) := by decide +kernel
theorem d_Top_height_7 : decode b_Top_height 7 = .ok (.ireturn, 1) := by decide +kernel
def q_Top_height  (p_high : Int32) : Option (Int32) := some (p_high)
abbrev rm_Top_height : Room := { frames := 0, cells := 0, slots := 0, locals := 0 }
set_option maxHeartbeats 4000000 in
set_option maxRecDepth 100000 in
theorem c_Top_height (l : Launch) (dC : Nat → ClassId) (dI : Nat → Nat → Nat) (t_0 p_0 p_pixels_a f_0 f_bytes_a f_starts_a f_ends_a s_0 s_layers_a u_0 u_pixels_a v_0 v_pixels_a w_0 w_pixels_a c_0 c_states_a c_favourites_a n_0 n_digits_a k_0 k_bytes_a : Nat) (p_pixels_k f_bytes_k f_starts_k f_ends_k s_layers_k u_pixels_k v_pixels_k w_pixels_k c_states_k c_favourites_k n_digits_k k_bytes_k : ClassId) (s_layers_r : Nat → Option Nat)  (t_anyLayerCoded : Int32) (p_pixels : Nat → Int32) (p_wide : Int32) (p_high : Int32) (f_bytes : Nat → Int32) (f_starts : Nat → Int32) (f_ends : Nat → Int32) (f_length : Int32) (f_wide : Int32) (f_high : Int32) (f_layerCount : Int32) (f_place : Int32) (s_plainRows : Int32) (u_pixels : Nat → Int32) (u_wide : Int32) (u_high : Int32) (v_pixels : Nat → Int32) (v_wide : Int32) (v_high : Int32) (w_pixels : Nat → Int32) (w_wide : Int32) (w_high : Int32) (c_states : Nat → Int32) (c_favourites : Nat → Int32) (c_span : Int32) (c_decisions : Int32) (c_doublings : Int32) (n_digits : Nat → Int32) (n_digitCount : Int32) (k_bytes : Nat → Int32) (k_byteCount : Int32) (k_nextDigit : Int32) (k_rest : Int32) (z : Int32) (hR0 : s_layers_r (0 : Int32).toNatClampNeg = some u_0) (hR1 : s_layers_r (1 : Int32).toNatClampNeg = some v_0) (hR2 : s_layers_r (2 : Int32).toNatClampNeg = some w_0) (hq : q_Top_height p_high = some z) (sz : Nat) : MetI l y_Top_height b_Top_height 1 .int TT rm_Top_height (dC, dI) vcl [(p_pixels_k, .int), (f_bytes_k, .int), (f_starts_k, .int), (f_ends_k, .int), (s_layers_k, .object "LayeredBits$Picture"), (u_pixels_k, .int), (v_pixels_k, .int), (w_pixels_k, .int), (c_states_k, .int), (c_favourites_k, .int), (n_digits_k, .int), (k_bytes_k, .int)] (W_Top t_0 p_0 p_pixels_a f_0 f_bytes_a f_starts_a f_ends_a s_0 s_layers_a u_0 u_pixels_a v_0 v_pixels_a w_0 w_pixels_a c_0 c_states_a c_favourites_a n_0 n_digits_a k_0 k_bytes_a p_pixels_k f_bytes_k f_starts_k f_ends_k s_layers_k u_pixels_k v_pixels_k w_pixels_k c_states_k c_favourites_k n_digits_k k_bytes_k s_layers_r t_anyLayerCoded p_pixels p_wide p_high f_bytes f_starts f_ends f_length f_wide f_high f_layerCount f_place s_plainRows u_pixels u_wide u_high v_pixels v_wide v_high w_pixels w_wide w_high c_states c_favourites c_span c_decisions c_doublings n_digits n_digitCount k_bytes k_byteCount k_nextDigit k_rest) (W_Top t_0 p_0 p_pixels_a f_0 f_bytes_a f_starts_a f_ends_a s_0 s_layers_a u_0 u_pixels_a v_0 v_pixels_a w_0 w_pixels_a c_0 c_states_a c_favourites_a n_0 n_digits_a k_0 k_bytes_a p_pixels_k f_bytes_k f_starts_k f_ends_k s_layers_k u_pixels_k v_pixels_k w_pixels_k c_states_k c_favourites_k n_digits_k k_bytes_k s_layers_r t_anyLayerCoded p_pixels p_wide p_high f_bytes f_starts f_ends f_length f_wide f_high f_layerCount f_place s_plainRows u_pixels u_wide u_high v_pixels v_wide v_high w_pixels w_wide w_high c_states c_favourites c_span c_decisions c_doublings n_digits n_digitCount k_bytes k_byteCount k_nextDigit k_rest) [.ref t_0] z sz := by
  refine x_ofI (by decide) (Nat.le_of_ble_eq_true rfl) ?_ sz
  intro p e s m args below meth c A Q ls hx hb hml hown hts hA hG hK hP hD hS hl hret
  have hown : s.vm.findClass R_Top = some m.cls := hown
  have hl : lv_has ls 1 [(0, .ref t_0)] := hl
  obtain ⟨⟨tq, hZ, hTq⟩, hN⟩ := id hG
  obtain ⟨H, hH⟩ : ∃ H, H = s.heap := ⟨_, rfl⟩
  obtain ⟨locs, hlocs⟩ : ∃ locs : List Loc, locs = [] := ⟨_, rfl⟩
  rw [← hH] at hP
  have hS : va_S A s.heap H locs := by rw [hH, hlocs]; exact hS
  suffices hgo : W p l e rm_Top_height s m args below meth c H locs 0 0 Q (F0 m 0 ls []) by rw [hH, hlocs] at hgo; exact hgo
  unfold q_Top_height at hq
  have h := hq
  refine lv_aload_n hx hb d_Top_height_0 rfl (lv_at hl 0 rfl) ?_
  refine va_get (D := (dC, dI)) (ci := 6) (v := .ref p_0) (C := R_Top) (T := F_Top) (N := 6) hx hb hts in_Top hown hK hP 0 rfl rfl 0 (by decide) (hts _ tt211) (fun _ h9 => h9) rfl d_Top_height_1 ?_
  refine va_getN (D := (dC, dI)) (ci := 4) (v := .int p_high) (C := R_Pic) (T := F_Pic) (N := 3) hx hb hts in_Pic hown hK hP 1 rfl rfl 2 (by decide) (va_Nw.use rfl (hN _ nn83)) (fun _ h9 => h9) rfl d_Top_height_4 ?_
  obtain rfl := Option.some.inj h
  exact hret H locs 7 ls d_Top_height_7 (vp_nar_int _) hP hD hS
theorem d_Top_told_0 : decode b_Top_told 0 = .ok (.iload_n 1, 1) := by decide +kernel
theorem d_Top_told_1 : decode b_Top_told 1 = .ok (.ifCond .lt (8), 3) := by decide +kernel
theorem d_Top_told_4 : decode b_Top_told 4 = .ok (.iload_n 1, 1) := by decide +kernel
theorem d_Top_told_5 : decode b_Top_told 5 = .ok (.iconst (2), 1) := by decide +kernel
theorem d_Top_told_6 : decode b_Top_told 6 = .ok (.if_icmp .le (11), 3) := by decide +kernel
theorem d_Top_told_9 : decode b_Top_told 9 = .ok (.new 48, 3) := by decide +kernel
theorem d_Top_told_12 : decode b_Top_told 12 = .ok (.dup, 1) := by decide +kernel
theorem d_Top_told_13 : decode b_Top_told 13 = .ok (.invokespecial 50, 3) := by decide +kernel
theorem d_Top_told_16 : decode b_Top_told 16 = .ok (.athrow, 1) := by decide +kernel
theorem d_Top_told_17 : decode b_Top_told 17 = .ok (.aload_n 0, 1) := by decide +kernel
theorem d_Top_told_18 : decode b_Top_told 18 = .ok (.getfield 44, 3) := by decide +kernel
theorem d_Top_told_21 : decode b_Top_told 21 = .ok (.ifCond .ne (11), 3) := by decide +kernel
theorem d_Top_told_24 : decode b_Top_told 24 = .ok (.new 117, 3) := by decide +kernel
theorem d_Top_told_27 : decode b_Top_told 27 = .ok (.dup, 1) := by decide +kernel
theorem d_Top_told_28 : decode b_Top_told 28 = .ok (.invokespecial 119, 3) := by decide +kernel
theorem d_Top_told_31 : decode b_Top_told 31 = .ok (.athrow, 1) := by decide +kernel
theorem d_Top_told_32 : decode b_Top_told 32 = .ok (.iload_n 1, 1) := by decide +kernel
theorem d_Top_told_33 : decode b_Top_told 33 = .ok (.ifCond .ne (14), 3) := by decide +kernel
theorem d_Top_told_36 : decode b_Top_told 36 = .ok (.aload_n 0, 1) := by decide +kernel
theorem d_Top_told_37 : decode b_Top_told 37 = .ok (.getfield 26, 3) := by decide +kernel
theorem d_Top_told_40 : decode b_Top_told 40 = .ok (.getfield 127, 3) := by decide +kernel
theorem d_Top_told_43 : decode b_Top_told 43 = .ok (.getfield 131, 3) := by decide +kernel
theorem d_Top_told_46 : decode b_Top_told 46 = .ok (.ireturn, 1) := by decide +kernel
theorem d_Top_told_47 : decode b_Top_told 47 = .ok (.iload_n 1, 1) := by decide +kernel
theorem d_Top_told_48 : decode b_Top_told 48 = .ok (.iconst (1), 1) := by decide +kernel
theorem d_Top_told_49 : decode b_Top_told 49 = .ok (.if_icmp .ne (13), 3) := by decide +kernel
theorem d_Top_told_52 : decode b_Top_told 52 = .ok (.aload_n 0, 1) := by decide +kernel
theorem d_Top_told_53 : decode b_Top_told 53 = .ok (.getfield 26, 3) := by decide +kernel
theorem d_Top_told_56 : decode b_Top_told 56 = .ok (.getfield 136, 3) := by decide +kernel
theorem d_Top_told_59 : decode b_Top_told 59 = .ok (.goto (13), 3) := by decide +kernel
theorem d_Top_told_62 : decode b_Top_told 62 = .ok (.aload_n 0, 1) := by decide +kernel
theorem d_Top_told_63 : decode b_Top_told 63 = .ok (.getfield 26, 3) := by decide +kernel
theorem d_Top_told_66 : decode b_Top_told 66 = .ok (.getfield 127, 3) := by decide +kernel
theorem d_Top_told_69 : decode b_Top_told 69 = .ok (.getfield 139, 3) := by decide +kernel
theorem d_Top_told_72 : decode b_Top_told 72 = .ok (.ireturn, 1) := by decide +kernel
def q_Top_told_9 (i_what : Int32) (t_anyLayerCoded : Int32) (s_plainRows : Int32) (c_decisions : Int32) (c_doublings : Int32)   : Option (Int32) := none
def q_Top_told (i_what : Int32) (t_anyLayerCoded : Int32) (s_plainRows : Int32) (c_decisions : Int32) (c_doublings : Int32) : Option (Int32) := (if i_what < 0 then (q_Top_told_9 i_what t_anyLayerCoded s_plainRows c_decisions c_doublings  ) else (if i_what ≤ (2 : Int32) then (if t_anyLayerCoded = 0 then none else (if i_what = 0 then some (c_decisions) else (if i_what = (1 : Int32) then some (s_plainRows) else some (c_doublings)))) else (q_Top_told_9 i_what t_anyLayerCoded s_plainRows c_decisions c_doublings  )))
abbrev rm_Top_told : Room := { frames := 0, cells := 0, slots := 0, locals := 0 }
set_option maxHeartbeats 4000000 in
set_option maxRecDepth 100000 in
theorem c_Top_told (l : Launch) (dC : Nat → ClassId) (dI : Nat → Nat → Nat) (t_0 p_0 p_pixels_a f_0 f_bytes_a f_starts_a f_ends_a s_0 s_layers_a u_0 u_pixels_a v_0 v_pixels_a w_0 w_pixels_a c_0 c_states_a c_favourites_a n_0 n_digits_a k_0 k_bytes_a : Nat) (p_pixels_k f_bytes_k f_starts_k f_ends_k s_layers_k u_pixels_k v_pixels_k w_pixels_k c_states_k c_favourites_k n_digits_k k_bytes_k : ClassId) (s_layers_r : Nat → Option Nat) (i_what : Int32) (t_anyLayerCoded : Int32) (p_pixels : Nat → Int32) (p_wide : Int32) (p_high : Int32) (f_bytes : Nat → Int32) (f_starts : Nat → Int32) (f_ends : Nat → Int32) (f_length : Int32) (f_wide : Int32) (f_high : Int32) (f_layerCount : Int32) (f_place : Int32) (s_plainRows : Int32) (u_pixels : Nat → Int32) (u_wide : Int32) (u_high : Int32) (v_pixels : Nat → Int32) (v_wide : Int32) (v_high : Int32) (w_pixels : Nat → Int32) (w_wide : Int32) (w_high : Int32) (c_states : Nat → Int32) (c_favourites : Nat → Int32) (c_span : Int32) (c_decisions : Int32) (c_doublings : Int32) (n_digits : Nat → Int32) (n_digitCount : Int32) (k_bytes : Nat → Int32) (k_byteCount : Int32) (k_nextDigit : Int32) (k_rest : Int32) (z : Int32) (hR0 : s_layers_r (0 : Int32).toNatClampNeg = some u_0) (hR1 : s_layers_r (1 : Int32).toNatClampNeg = some v_0) (hR2 : s_layers_r (2 : Int32).toNatClampNeg = some w_0) (hq : q_Top_told i_what t_anyLayerCoded s_plainRows c_decisions c_doublings = some z) (sz : Nat) : MetI l y_Top_told b_Top_told 2 .int TT rm_Top_told (dC, dI) vcl [(p_pixels_k, .int), (f_bytes_k, .int), (f_starts_k, .int), (f_ends_k, .int), (s_layers_k, .object "LayeredBits$Picture"), (u_pixels_k, .int), (v_pixels_k, .int), (w_pixels_k, .int), (c_states_k, .int), (c_favourites_k, .int), (n_digits_k, .int), (k_bytes_k, .int)] (W_Top t_0 p_0 p_pixels_a f_0 f_bytes_a f_starts_a f_ends_a s_0 s_layers_a u_0 u_pixels_a v_0 v_pixels_a w_0 w_pixels_a c_0 c_states_a c_favourites_a n_0 n_digits_a k_0 k_bytes_a p_pixels_k f_bytes_k f_starts_k f_ends_k s_layers_k u_pixels_k v_pixels_k w_pixels_k c_states_k c_favourites_k n_digits_k k_bytes_k s_layers_r t_anyLayerCoded p_pixels p_wide p_high f_bytes f_starts f_ends f_length f_wide f_high f_layerCount f_place s_plainRows u_pixels u_wide u_high v_pixels v_wide v_high w_pixels w_wide w_high c_states c_favourites c_span c_decisions c_doublings n_digits n_digitCount k_bytes k_byteCount k_nextDigit k_rest) (W_Top t_0 p_0 p_pixels_a f_0 f_bytes_a f_starts_a f_ends_a s_0 s_layers_a u_0 u_pixels_a v_0 v_pixels_a w_0 w_pixels_a c_0 c_states_a c_favourites_a n_0 n_digits_a k_0 k_bytes_a p_pixels_k f_bytes_k f_starts_k f_ends_k s_layers_k u_pixels_k v_pixels_k w_pixels_k c_states_k c_favourites_k n_digits_k k_bytes_k s_layers_r t_anyLayerCoded p_pixels p_wide p_high f_bytes f_starts f_ends f_length f_wide f_high f_layerCount f_place s_plainRows u_pixels u_wide u_high v_pixels v_wide v_high w_pixels w_wide w_high c_states c_favourites c_span c_decisions c_doublings n_digits n_digitCount k_bytes k_byteCount k_nextDigit k_rest) [.ref t_0, .int i_what] z sz := by
  refine x_ofI (by decide) (Nat.le_of_ble_eq_true rfl) ?_ sz
  intro p e s m args below meth c A Q ls hx hb hml hown hts hA hG hK hP hD hS hl hret
  have hown : s.vm.findClass R_Top = some m.cls := hown
  have hl : lv_has ls 2 [(0, .ref t_0), (1, .int i_what)] := hl
  obtain ⟨⟨tq, hZ, hTq⟩, hN⟩ := id hG
  obtain ⟨H, hH⟩ : ∃ H, H = s.heap := ⟨_, rfl⟩
  obtain ⟨locs, hlocs⟩ : ∃ locs : List Loc, locs = [] := ⟨_, rfl⟩
  rw [← hH] at hP
  have hS : va_S A s.heap H locs := by rw [hH, hlocs]; exact hS
  suffices hgo : W p l e rm_Top_told s m args below meth c H locs 0 0 Q (F0 m 0 ls []) by rw [hH, hlocs] at hgo; exact hgo
  unfold q_Top_told at hq
  have L9 : ∀  (H : Heap) (locs : List Loc) (ls : Array Slot), lv_has ls 2 [] → va_P (dC, dI) vcl (W_Top t_0 p_0 p_pixels_a f_0 f_bytes_a f_starts_a f_ends_a s_0 s_layers_a u_0 u_pixels_a v_0 v_pixels_a w_0 w_pixels_a c_0 c_states_a c_favourites_a n_0 n_digits_a k_0 k_bytes_a p_pixels_k f_bytes_k f_starts_k f_ends_k s_layers_k u_pixels_k v_pixels_k w_pixels_k c_states_k c_favourites_k n_digits_k k_bytes_k s_layers_r t_anyLayerCoded p_pixels p_wide p_high f_bytes f_starts f_ends f_length f_wide f_high f_layerCount f_place s_plainRows u_pixels u_wide u_high v_pixels v_wide v_high w_pixels w_wide w_high c_states c_favourites c_span c_decisions c_doublings n_digits n_digitCount k_bytes k_byteCount k_nextDigit k_rest) H → va_D A (W_Top t_0 p_0 p_pixels_a f_0 f_bytes_a f_starts_a f_ends_a s_0 s_layers_a u_0 u_pixels_a v_0 v_pixels_a w_0 w_pixels_a c_0 c_states_a c_favourites_a n_0 n_digits_a k_0 k_bytes_a p_pixels_k f_bytes_k f_starts_k f_ends_k s_layers_k u_pixels_k v_pixels_k w_pixels_k c_states_k c_favourites_k n_digits_k k_bytes_k s_layers_r t_anyLayerCoded p_pixels p_wide p_high f_bytes f_starts f_ends f_length f_wide f_high f_layerCount f_place s_plainRows u_pixels u_wide u_high v_pixels v_wide v_high w_pixels w_wide w_high c_states c_favourites c_span c_decisions c_doublings n_digits n_digitCount k_bytes k_byteCount k_nextDigit k_rest) → va_S A s.heap H locs → q_Top_told_9 i_what t_anyLayerCoded s_plainRows c_decisions c_doublings   = some z → W p l e rm_Top_told s m args below meth c H locs 0 0 Q (F0 m 9 ls []) := by
    intro  H locs ls hl hP hD hS hq9
    unfold q_Top_told_9 at hq9
    have h := hq9
    cases h
  have h := hq
  refine lv_iload_n hx hb d_Top_told_0 rfl (lv_at hl 1 rfl) ?_
  refine lv_if_lt (tgt := 9) hx hb d_Top_told_1 rfl (fun hc => ?_) (fun hc => ?_)
  · replace h := ot hc h
    exact L9  H locs ls (lv_sub hl [] rfl) hP hD hS h
  · replace h := of hc h
    refine lv_iload_n hx hb d_Top_told_4 rfl (lv_at hl 1 rfl) ?_
    refine lv_iconst (v := (2 : Int32)) hx hb d_Top_told_5 (by decide) ?_
    refine lv_icmp_le (tgt := 17) hx hb d_Top_told_6 rfl (fun hc => ?_) (fun hc => ?_)
    · replace h := ot hc h
      refine lv_aload_n hx hb d_Top_told_17 rfl (lv_at hl 0 rfl) ?_
      refine va_get (D := (dC, dI)) (ci := 6) (v := .int t_anyLayerCoded) (C := R_Top) (T := F_Top) (N := 6) hx hb hts in_Top hown hK hP 0 rfl rfl 5 (by decide) (hts _ tt216) (fun _ h9 => h9) rfl d_Top_told_18 ?_
      refine lv_if_ne (tgt := 32) hx hb d_Top_told_21 rfl (fun hc => ?_) (fun hc => ?_)
      · replace h := of hc h
        refine lv_iload_n hx hb d_Top_told_32 rfl (lv_at hl 1 rfl) ?_
        refine lv_if_ne (tgt := 47) hx hb d_Top_told_33 rfl (fun hc => ?_) (fun hc => ?_)
        · replace h := of hc h
          refine lv_iload_n hx hb d_Top_told_47 rfl (lv_at hl 1 rfl) ?_
          refine lv_iconst (v := (1 : Int32)) hx hb d_Top_told_48 (by decide) ?_
          refine lv_icmp_ne (tgt := 62) hx hb d_Top_told_49 rfl (fun hc => ?_) (fun hc => ?_)
          · replace h := of hc h
            refine lv_aload_n hx hb d_Top_told_62 rfl (lv_at hl 0 rfl) ?_
            refine va_get (D := (dC, dI)) (ci := 6) (v := .ref s_0) (C := R_Top) (T := F_Top) (N := 6) hx hb hts in_Top hown hK hP 0 rfl rfl 2 (by decide) (hts _ tt213) (fun _ h9 => h9) rfl d_Top_told_63 ?_
            refine va_getN (D := (dC, dI)) (ci := 1) (v := .ref c_0) (C := R_Stk) (T := F_Stk) (N := 3) hx hb hts in_Stk hown hK hP 7 rfl rfl 1 (by decide) (va_Nw.use rfl (hN _ nn166)) (fun _ h9 => h9) rfl d_Top_told_66 ?_
            refine va_getN (D := (dC, dI)) (ci := 0) (v := .int c_doublings) (C := R_Cod) (T := F_Cod) (N := 5) hx hb hts in_Cod hown hK hP 15 rfl rfl 4 (by decide) (va_Nw.use rfl (hN _ nn151)) (fun _ h9 => h9) rfl d_Top_told_69 ?_
            obtain rfl := Option.some.inj h
            exact hret H locs 72 ls d_Top_told_72 (vp_nar_int _) hP hD hS
          · replace h := ot hc h
            refine lv_aload_n hx hb d_Top_told_52 rfl (lv_at hl 0 rfl) ?_
            refine va_get (D := (dC, dI)) (ci := 6) (v := .ref s_0) (C := R_Top) (T := F_Top) (N := 6) hx hb hts in_Top hown hK hP 0 rfl rfl 2 (by decide) (hts _ tt213) (fun _ h9 => h9) rfl d_Top_told_53 ?_
            refine va_getN (D := (dC, dI)) (ci := 1) (v := .int s_plainRows) (C := R_Stk) (T := F_Stk) (N := 3) hx hb hts in_Stk hown hK hP 7 rfl rfl 2 (by decide) (va_Nw.use rfl (hN _ nn168)) (fun _ h9 => h9) rfl d_Top_told_56 ?_
            refine lv_goto (tgt := 72) hx hb d_Top_told_59 rfl ?_
            obtain rfl := Option.some.inj h
            exact hret H locs 72 ls d_Top_told_72 (vp_nar_int _) hP hD hS
        · replace h := ot hc h
          refine lv_aload_n hx hb d_Top_told_36 rfl (lv_at hl 0 rfl) ?_
          refine va_get (D := (dC, dI)) (ci := 6) (v := .ref s_0) (C := R_Top) (T := F_Top) (N := 6) hx hb hts in_Top hown hK hP 0 rfl rfl 2 (by decide) (hts _ tt213) (fun _ h9 => h9) rfl d_Top_told_37 ?_
          refine va_getN (D := (dC, dI)) (ci := 1) (v := .ref c_0) (C := R_Stk) (T := F_Stk) (N := 3) hx hb hts in_Stk hown hK hP 7 rfl rfl 1 (by decide) (va_Nw.use rfl (hN _ nn166)) (fun _ h9 => h9) rfl d_Top_told_40 ?_
          refine va_getN (D := (dC, dI)) (ci := 0) (v := .int c_decisions) (C := R_Cod) (T := F_Cod) (N := 5) hx hb hts in_Cod hown hK hP 15 rfl rfl 3 (by decide) (va_Nw.use rfl (hN _ nn149)) (fun _ h9 => h9) rfl d_Top_told_43 ?_
          obtain rfl := Option.some.inj h
          exact hret H locs 46 ls d_Top_told_46 (vp_nar_int _) hP hD hS
      · replace h := ot hc h
        cases h
    · replace h := of hc h
      exact L9  H locs ls (lv_sub hl [] rfl) hP hD hS h
theorem d_Top_size_0 : decode b_Top_size 0 = .ok (.aload_n 0, 1) := by decide +kernel
theorem d_Top_size_1 : decode b_Top_size 1 = .ok (.getfield 19, 3) := by decide +kernel
theorem d_Top_size_4 : decode b_Top_size 4 = .ok (.getfield 107, 3) := by decide +kernel
theorem d_Top_size_7 : decode b_Top_size 7 = .ok (.ireturn, 1) := by decide +kernel
def q_Top_size  (f_length : Int32) : Option (Int32) := some (f_length)
abbrev rm_Top_size : Room := { frames := 0, cells := 0, slots := 0, locals := 0 }
set_option maxHeartbeats 4000000 in
set_option maxRecDepth 100000 in
theorem c_Top_size (l : Launch) (dC : Nat → ClassId) (dI : Nat → Nat → Nat) (t_0 p_0 p_pixels_a f_0 f_bytes_a f_starts_a f_ends_a s_0 s_layers_a u_0 u_pixels_a v_0 v_pixels_a w_0 w_pixels_a c_0 c_states_a c_favourites_a n_0 n_digits_a k_0 k_bytes_a : Nat) (p_pixels_k f_bytes_k f_starts_k f_ends_k s_layers_k u_pixels_k v_pixels_k w_pixels_k c_states_k c_favourites_k n_digits_k k_bytes_k : ClassId) (s_layers_r : Nat → Option Nat)  (t_anyLayerCoded : Int32) (p_pixels : Nat → Int32) (p_wide : Int32) (p_high : Int32) (f_bytes : Nat → Int32) (f_starts : Nat → Int32) (f_ends : Nat → Int32) (f_length : Int32) (f_wide : Int32) (f_high : Int32) (f_layerCount : Int32) (f_place : Int32) (s_plainRows : Int32) (u_pixels : Nat → Int32) (u_wide : Int32) (u_high : Int32) (v_pixels : Nat → Int32) (v_wide : Int32) (v_high : Int32) (w_pixels : Nat → Int32) (w_wide : Int32) (w_high : Int32) (c_states : Nat → Int32) (c_favourites : Nat → Int32) (c_span : Int32) (c_decisions : Int32) (c_doublings : Int32) (n_digits : Nat → Int32) (n_digitCount : Int32) (k_bytes : Nat → Int32) (k_byteCount : Int32) (k_nextDigit : Int32) (k_rest : Int32) (z : Int32) (hR0 : s_layers_r (0 : Int32).toNatClampNeg = some u_0) (hR1 : s_layers_r (1 : Int32).toNatClampNeg = some v_0) (hR2 : s_layers_r (2 : Int32).toNatClampNeg = some w_0) (hq : q_Top_size f_length = some z) (sz : Nat) : MetI l y_Top_size b_Top_size 1 .int TT rm_Top_size (dC, dI) vcl [(p_pixels_k, .int), (f_bytes_k, .int), (f_starts_k, .int), (f_ends_k, .int), (s_layers_k, .object "LayeredBits$Picture"), (u_pixels_k, .int), (v_pixels_k, .int), (w_pixels_k, .int), (c_states_k, .int), (c_favourites_k, .int), (n_digits_k, .int), (k_bytes_k, .int)] (W_Top t_0 p_0 p_pixels_a f_0 f_bytes_a f_starts_a f_ends_a s_0 s_layers_a u_0 u_pixels_a v_0 v_pixels_a w_0 w_pixels_a c_0 c_states_a c_favourites_a n_0 n_digits_a k_0 k_bytes_a p_pixels_k f_bytes_k f_starts_k f_ends_k s_layers_k u_pixels_k v_pixels_k w_pixels_k c_states_k c_favourites_k n_digits_k k_bytes_k s_layers_r t_anyLayerCoded p_pixels p_wide p_high f_bytes f_starts f_ends f_length f_wide f_high f_layerCount f_place s_plainRows u_pixels u_wide u_high v_pixels v_wide v_high w_pixels w_wide w_high c_states c_favourites c_span c_decisions c_doublings n_digits n_digitCount k_bytes k_byteCount k_nextDigit k_rest) (W_Top t_0 p_0 p_pixels_a f_0 f_bytes_a f_starts_a f_ends_a s_0 s_layers_a u_0 u_pixels_a v_0 v_pixels_a w_0 w_pixels_a c_0 c_states_a c_favourites_a n_0 n_digits_a k_0 k_bytes_a p_pixels_k f_bytes_k f_starts_k f_ends_k s_layers_k u_pixels_k v_pixels_k w_pixels_k c_states_k c_favourites_k n_digits_k k_bytes_k s_layers_r t_anyLayerCoded p_pixels p_wide p_high f_bytes f_starts f_ends f_length f_wide f_high f_layerCount f_place s_plainRows u_pixels u_wide u_high v_pixels v_wide v_high w_pixels w_wide w_high c_states c_favourites c_span c_decisions c_doublings n_digits n_digitCount k_bytes k_byteCount k_nextDigit k_rest) [.ref t_0] z sz := by
  refine x_ofI (by decide) (Nat.le_of_ble_eq_true rfl) ?_ sz
  intro p e s m args below meth c A Q ls hx hb hml hown hts hA hG hK hP hD hS hl hret
  have hown : s.vm.findClass R_Top = some m.cls := hown
  have hl : lv_has ls 1 [(0, .ref t_0)] := hl
  obtain ⟨⟨tq, hZ, hTq⟩, hN⟩ := id hG
  obtain ⟨H, hH⟩ : ∃ H, H = s.heap := ⟨_, rfl⟩
  obtain ⟨locs, hlocs⟩ : ∃ locs : List Loc, locs = [] := ⟨_, rfl⟩
  rw [← hH] at hP
  have hS : va_S A s.heap H locs := by rw [hH, hlocs]; exact hS
  suffices hgo : W p l e rm_Top_size s m args below meth c H locs 0 0 Q (F0 m 0 ls []) by rw [hH, hlocs] at hgo; exact hgo
  unfold q_Top_size at hq
  have h := hq
  refine lv_aload_n hx hb d_Top_size_0 rfl (lv_at hl 0 rfl) ?_
  refine va_get (D := (dC, dI)) (ci := 6) (v := .ref f_0) (C := R_Top) (T := F_Top) (N := 6) hx hb hts in_Top hown hK hP 0 rfl rfl 1 (by decide) (hts _ tt212) (fun _ h9 => h9) rfl d_Top_size_1 ?_
  refine va_getN (D := (dC, dI)) (ci := 2) (v := .int f_length) (C := R_Fil) (T := F_Fil) (N := 8) hx hb hts in_Fil hown hK hP 3 rfl rfl 3 (by decide) (va_Nw.use rfl (hN _ nn104)) (fun _ h9 => h9) rfl d_Top_size_4 ?_
  obtain rfl := Option.some.inj h
  exact hret H locs 7 ls d_Top_size_7 (vp_nar_int _) hP hD hS
theorem d_Top_byteAt_0 : decode b_Top_byteAt 0 = .ok (.aload_n 0, 1) := by decide +kernel
theorem d_Top_byteAt_1 : decode b_Top_byteAt 1 = .ok (.getfield 19, 3) := by decide +kernel
theorem d_Top_byteAt_4 : decode b_Top_byteAt 4 = .ok (.iload_n 1, 1) := by decide +kernel
theorem d_Top_byteAt_5 : decode b_Top_byteAt 5 = .ok (.invokevirtual 142, 3) := by decide +kernel
theorem d_Top_byteAt_8 : decode b_Top_byteAt 8 = .ok (.ifCond .ne (11), 3) := by decide +kernel
theorem d_Top_byteAt_11 : decode b_Top_byteAt 11 = .ok (.new 59, 3) := by decide +kernel
theorem d_Top_byteAt_14 : decode b_Top_byteAt 14 = .ok (.dup, 1) := by decide +kernel
theorem d_Top_byteAt_15 : decode b_Top_byteAt 15 = .ok (.invokespecial 61, 3) := by decide +kernel
theorem d_Top_byteAt_18 : decode b_Top_byteAt 18 = .ok (.athrow, 1) := by decide +kernel
theorem d_Top_byteAt_19 : decode b_Top_byteAt 19 = .ok (.aload_n 0, 1) := by decide +kernel
theorem d_Top_byteAt_20 : decode b_Top_byteAt 20 = .ok (.getfield 19, 3) := by decide +kernel
theorem d_Top_byteAt_23 : decode b_Top_byteAt 23 = .ok (.iload_n 1, 1) := by decide +kernel
theorem d_Top_byteAt_24 : decode b_Top_byteAt 24 = .ok (.invokevirtual 146, 3) := by decide +kernel
theorem d_Top_byteAt_27 : decode b_Top_byteAt 27 = .ok (.ireturn, 1) := by decide +kernel
def q_Top_byteAt (i_k : Int32) (f_bytes : Nat → Int32) (f_length : Int32) : Option (Int32) := ((q_Fil_has i_k f_length).bind fun z1 => (if z1 = 0 then none else ((q_Fil_at i_k f_bytes f_length).bind fun z2 => some (z2))))
abbrev rm_Top_byteAt : Room := { frames := 2, cells := 0, slots := 0, locals := 42 }
set_option maxHeartbeats 4000000 in
set_option maxRecDepth 100000 in
theorem c_Top_byteAt (l : Launch) (dC : Nat → ClassId) (dI : Nat → Nat → Nat) (t_0 p_0 p_pixels_a f_0 f_bytes_a f_starts_a f_ends_a s_0 s_layers_a u_0 u_pixels_a v_0 v_pixels_a w_0 w_pixels_a c_0 c_states_a c_favourites_a n_0 n_digits_a k_0 k_bytes_a : Nat) (p_pixels_k f_bytes_k f_starts_k f_ends_k s_layers_k u_pixels_k v_pixels_k w_pixels_k c_states_k c_favourites_k n_digits_k k_bytes_k : ClassId) (s_layers_r : Nat → Option Nat) (i_k : Int32) (t_anyLayerCoded : Int32) (p_pixels : Nat → Int32) (p_wide : Int32) (p_high : Int32) (f_bytes : Nat → Int32) (f_starts : Nat → Int32) (f_ends : Nat → Int32) (f_length : Int32) (f_wide : Int32) (f_high : Int32) (f_layerCount : Int32) (f_place : Int32) (s_plainRows : Int32) (u_pixels : Nat → Int32) (u_wide : Int32) (u_high : Int32) (v_pixels : Nat → Int32) (v_wide : Int32) (v_high : Int32) (w_pixels : Nat → Int32) (w_wide : Int32) (w_high : Int32) (c_states : Nat → Int32) (c_favourites : Nat → Int32) (c_span : Int32) (c_decisions : Int32) (c_doublings : Int32) (n_digits : Nat → Int32) (n_digitCount : Int32) (k_bytes : Nat → Int32) (k_byteCount : Int32) (k_nextDigit : Int32) (k_rest : Int32) (z : Int32) (hR0 : s_layers_r (0 : Int32).toNatClampNeg = some u_0) (hR1 : s_layers_r (1 : Int32).toNatClampNeg = some v_0) (hR2 : s_layers_r (2 : Int32).toNatClampNeg = some w_0) (hq : q_Top_byteAt i_k f_bytes f_length = some z) (sz : Nat) : MetI l y_Top_byteAt b_Top_byteAt 2 .int TT rm_Top_byteAt (dC, dI) vcl [(p_pixels_k, .int), (f_bytes_k, .int), (f_starts_k, .int), (f_ends_k, .int), (s_layers_k, .object "LayeredBits$Picture"), (u_pixels_k, .int), (v_pixels_k, .int), (w_pixels_k, .int), (c_states_k, .int), (c_favourites_k, .int), (n_digits_k, .int), (k_bytes_k, .int)] (W_Top t_0 p_0 p_pixels_a f_0 f_bytes_a f_starts_a f_ends_a s_0 s_layers_a u_0 u_pixels_a v_0 v_pixels_a w_0 w_pixels_a c_0 c_states_a c_favourites_a n_0 n_digits_a k_0 k_bytes_a p_pixels_k f_bytes_k f_starts_k f_ends_k s_layers_k u_pixels_k v_pixels_k w_pixels_k c_states_k c_favourites_k n_digits_k k_bytes_k s_layers_r t_anyLayerCoded p_pixels p_wide p_high f_bytes f_starts f_ends f_length f_wide f_high f_layerCount f_place s_plainRows u_pixels u_wide u_high v_pixels v_wide v_high w_pixels w_wide w_high c_states c_favourites c_span c_decisions c_doublings n_digits n_digitCount k_bytes k_byteCount k_nextDigit k_rest) (W_Top t_0 p_0 p_pixels_a f_0 f_bytes_a f_starts_a f_ends_a s_0 s_layers_a u_0 u_pixels_a v_0 v_pixels_a w_0 w_pixels_a c_0 c_states_a c_favourites_a n_0 n_digits_a k_0 k_bytes_a p_pixels_k f_bytes_k f_starts_k f_ends_k s_layers_k u_pixels_k v_pixels_k w_pixels_k c_states_k c_favourites_k n_digits_k k_bytes_k s_layers_r t_anyLayerCoded p_pixels p_wide p_high f_bytes f_starts f_ends f_length f_wide f_high f_layerCount f_place s_plainRows u_pixels u_wide u_high v_pixels v_wide v_high w_pixels w_wide w_high c_states c_favourites c_span c_decisions c_doublings n_digits n_digitCount k_bytes k_byteCount k_nextDigit k_rest) [.ref t_0, .int i_k] z sz := by
  refine x_ofI (by decide) (Nat.le_of_ble_eq_true rfl) ?_ sz
  intro p e s m args below meth c A Q ls hx hb hml hown hts hA hG hK hP hD hS hl hret
  have hown : s.vm.findClass R_Top = some m.cls := hown
  have hl : lv_has ls 2 [(0, .ref t_0), (1, .int i_k)] := hl
  obtain ⟨⟨tq, hZ, hTq⟩, hN⟩ := id hG
  obtain ⟨H, hH⟩ : ∃ H, H = s.heap := ⟨_, rfl⟩
  obtain ⟨locs, hlocs⟩ : ∃ locs : List Loc, locs = [] := ⟨_, rfl⟩
  rw [← hH] at hP
  have hS : va_S A s.heap H locs := by rw [hH, hlocs]; exact hS
  suffices hgo : W p l e rm_Top_byteAt s m args below meth c H locs 0 0 Q (F0 m 0 ls []) by rw [hH, hlocs] at hgo; exact hgo
  unfold q_Top_byteAt at hq
  have h := hq
  refine lv_aload_n hx hb d_Top_byteAt_0 rfl (lv_at hl 0 rfl) ?_
  refine va_get (D := (dC, dI)) (ci := 6) (v := .ref f_0) (C := R_Top) (T := F_Top) (N := 6) hx hb hts in_Top hown hK hP 0 rfl rfl 1 (by decide) (hts _ tt212) (fun _ h9 => h9) rfl d_Top_byteAt_1 ?_
  refine lv_iload_n hx hb d_Top_byteAt_4 rfl (lv_at hl 1 rfl) ?_
  obtain ⟨z1, hz1, h⟩ := ob h
  refine x_goI (res := z1) (w1 := (W_F f_0 f_bytes_a f_starts_a f_ends_a f_bytes_k f_starts_k f_ends_k f_bytes f_starts f_ends f_length f_wide f_high f_layerCount f_place)) (ws' := (W_Top t_0 p_0 p_pixels_a f_0 f_bytes_a f_starts_a f_ends_a s_0 s_layers_a u_0 u_pixels_a v_0 v_pixels_a w_0 w_pixels_a c_0 c_states_a c_favourites_a n_0 n_digits_a k_0 k_bytes_a p_pixels_k f_bytes_k f_starts_k f_ends_k s_layers_k u_pixels_k v_pixels_k w_pixels_k c_states_k c_favourites_k n_digits_k k_bytes_k s_layers_r t_anyLayerCoded p_pixels p_wide p_high f_bytes f_starts f_ends f_length f_wide f_high f_layerCount f_place s_plainRows u_pixels u_wide u_high v_pixels v_wide v_high w_pixels w_wide w_high c_states c_favourites c_span c_decisions c_doublings n_digits n_digitCount k_bytes k_byteCount k_nextDigit k_rest)) (wr := List.filterMap (fun (i : Nat) => (W_Top t_0 p_0 p_pixels_a f_0 f_bytes_a f_starts_a f_ends_a s_0 s_layers_a u_0 u_pixels_a v_0 v_pixels_a w_0 w_pixels_a c_0 c_states_a c_favourites_a n_0 n_digits_a k_0 k_bytes_a p_pixels_k f_bytes_k f_starts_k f_ends_k s_layers_k u_pixels_k v_pixels_k w_pixels_k c_states_k c_favourites_k n_digits_k k_bytes_k s_layers_r t_anyLayerCoded p_pixels p_wide p_high f_bytes f_starts f_ends f_length f_wide f_high f_layerCount f_place s_plainRows u_pixels u_wide u_high v_pixels v_wide v_high w_pixels w_wide w_high c_states c_favourites c_span c_decisions c_doublings n_digits n_digitCount k_bytes k_byteCount k_nextDigit k_rest)[i]?) ([0, 1, 2, 7, 8, 9, 10, 11, 12, 13, 14, 15, 16, 17, 18, 19, 20, 21] : List Nat)) (va_runV (As := [.int i_k]) (rest := []) ⟨hx, hb, hml, hown, hts⟩ (c_Fil_has l dC dI f_0 f_bytes_a f_starts_a f_ends_a f_bytes_k f_starts_k f_ends_k i_k f_bytes f_starts f_ends f_length f_wide f_high f_layerCount f_place z1  hz1 H.size) ⟨callB_of 1 hts (gT tt545 TT_good) rfl rfl rfl (hts _ tt47) (hts _ tt604) (by decide +kernel) ⟨Nat.le_of_ble_eq_true rfl, Nat.le_of_ble_eq_true rfl⟩, hts _ tt543, hts _ tt544⟩ (x_preV (q := (R_Fil, F_Fil, 8)) (As := [.int i_k]) (x_pre (wc := (W_F f_0 f_bytes_a f_starts_a f_ends_a f_bytes_k f_starts_k f_ends_k f_bytes f_starts f_ends f_length f_wide f_high f_layerCount f_place)) (av := (.ref f_0 :: [.int i_k])) hK hP hD hS hA hG [1, 2, 3] [3, 4, 5, 6] rfl rfl (by decide)) hK hP (q0 := 3) rfl rfl) rfl rfl hl.1 rfl (lv_room (Nat.le_of_ble_eq_true rfl)) d_Top_byteAt_5 ⟨Nat.zero_le _, Nat.zero_le _⟩) hP hD hS hA [3, 4, 5, 6] [0, 1, 2, 7, 8, 9, 10, 11, 12, 13, 14, 15, 16, 17, 18, 19, 20, 21] [0, 1, 2, 18, 19, 20, 21, 3, 4, 5, 6, 7, 8, 9, 10, 11, 12, 13, 14, 15, 16, 17] rfl rfl (by decide) (by decide) (by decide) rfl (fun H locs hP hD hS => ?_)
  refine lv_if_ne (tgt := 19) hx hb d_Top_byteAt_8 rfl (fun hc => ?_) (fun hc => ?_)
  · replace h := of hc h
    refine lv_aload_n hx hb d_Top_byteAt_19 rfl (lv_at hl 0 rfl) ?_
    refine va_get (D := (dC, dI)) (ci := 6) (v := .ref f_0) (C := R_Top) (T := F_Top) (N := 6) hx hb hts in_Top hown hK hP 0 rfl rfl 1 (by decide) (hts _ tt212) (fun _ h9 => h9) rfl d_Top_byteAt_20 ?_
    refine lv_iload_n hx hb d_Top_byteAt_23 rfl (lv_at hl 1 rfl) ?_
    obtain ⟨z2, hz2, h⟩ := ob h
    refine x_goI (res := z2) (w1 := (W_F f_0 f_bytes_a f_starts_a f_ends_a f_bytes_k f_starts_k f_ends_k f_bytes f_starts f_ends f_length f_wide f_high f_layerCount f_place)) (ws' := (W_Top t_0 p_0 p_pixels_a f_0 f_bytes_a f_starts_a f_ends_a s_0 s_layers_a u_0 u_pixels_a v_0 v_pixels_a w_0 w_pixels_a c_0 c_states_a c_favourites_a n_0 n_digits_a k_0 k_bytes_a p_pixels_k f_bytes_k f_starts_k f_ends_k s_layers_k u_pixels_k v_pixels_k w_pixels_k c_states_k c_favourites_k n_digits_k k_bytes_k s_layers_r t_anyLayerCoded p_pixels p_wide p_high f_bytes f_starts f_ends f_length f_wide f_high f_layerCount f_place s_plainRows u_pixels u_wide u_high v_pixels v_wide v_high w_pixels w_wide w_high c_states c_favourites c_span c_decisions c_doublings n_digits n_digitCount k_bytes k_byteCount k_nextDigit k_rest)) (wr := List.filterMap (fun (i : Nat) => (W_Top t_0 p_0 p_pixels_a f_0 f_bytes_a f_starts_a f_ends_a s_0 s_layers_a u_0 u_pixels_a v_0 v_pixels_a w_0 w_pixels_a c_0 c_states_a c_favourites_a n_0 n_digits_a k_0 k_bytes_a p_pixels_k f_bytes_k f_starts_k f_ends_k s_layers_k u_pixels_k v_pixels_k w_pixels_k c_states_k c_favourites_k n_digits_k k_bytes_k s_layers_r t_anyLayerCoded p_pixels p_wide p_high f_bytes f_starts f_ends f_length f_wide f_high f_layerCount f_place s_plainRows u_pixels u_wide u_high v_pixels v_wide v_high w_pixels w_wide w_high c_states c_favourites c_span c_decisions c_doublings n_digits n_digitCount k_bytes k_byteCount k_nextDigit k_rest)[i]?) ([0, 1, 2, 7, 8, 9, 10, 11, 12, 13, 14, 15, 16, 17, 18, 19, 20, 21] : List Nat)) (va_runV (As := [.int i_k]) (rest := []) ⟨hx, hb, hml, hown, hts⟩ (c_Fil_at l dC dI f_0 f_bytes_a f_starts_a f_ends_a f_bytes_k f_starts_k f_ends_k i_k f_bytes f_starts f_ends f_length f_wide f_high f_layerCount f_place z2  hz2 H.size) ⟨callB_of 1 hts (gT tt549 TT_good) rfl rfl rfl (hts _ tt47) (hts _ tt605) (by decide +kernel) ⟨Nat.le_of_ble_eq_true rfl, Nat.le_of_ble_eq_true rfl⟩, hts _ tt547, hts _ tt548⟩ (x_preV (q := (R_Fil, F_Fil, 8)) (As := [.int i_k]) (x_pre (wc := (W_F f_0 f_bytes_a f_starts_a f_ends_a f_bytes_k f_starts_k f_ends_k f_bytes f_starts f_ends f_length f_wide f_high f_layerCount f_place)) (av := (.ref f_0 :: [.int i_k])) hK hP hD hS hA hG [1, 2, 3] [3, 4, 5, 6] rfl rfl (by decide)) hK hP (q0 := 3) rfl rfl) rfl rfl hl.1 rfl (lv_room (Nat.le_of_ble_eq_true rfl)) d_Top_byteAt_24 ⟨Nat.zero_le _, Nat.zero_le _⟩) hP hD hS hA [3, 4, 5, 6] [0, 1, 2, 7, 8, 9, 10, 11, 12, 13, 14, 15, 16, 17, 18, 19, 20, 21] [0, 1, 2, 18, 19, 20, 21, 3, 4, 5, 6, 7, 8, 9, 10, 11, 12, 13, 14, 15, 16, 17] rfl rfl (by decide) (by decide) (by decide) rfl (fun H locs hP hD hS => ?_)
    obtain rfl := Option.some.inj h
    exact hret H locs 27 ls d_Top_byteAt_27 (vp_nar_int _) hP hD hS
  · replace h := ot hc h
    cases h
theorem d_Top_poke_0 : decode b_Top_poke 0 = .ok (.aload_n 0, 1) := by decide +kernel
theorem d_Top_poke_1 : decode b_Top_poke 1 = .ok (.getfield 19, 3) := by decide +kernel
theorem d_Top_poke_4 : decode b_Top_poke 4 = .ok (.iload_n 1, 1) := by decide +kernel
theorem d_Top_poke_5 : decode b_Top_poke 5 = .ok (.invokevirtual 142, 3) := by decide +kernel
theorem d_Top_poke_8 : decode b_Top_poke 8 = .ok (.ifCond .ne (11), 3) := by decide +kernel
theorem d_Top_poke_11 : decode b_Top_poke 11 = .ok (.new 59, 3) := by decide +kernel
theorem d_Top_poke_14 : decode b_Top_poke 14 = .ok (.dup, 1) := by decide +kernel
theorem d_Top_poke_15 : decode b_Top_poke 15 = .ok (.invokespecial 61, 3) := by decide +kernel
theorem d_Top_poke_18 : decode b_Top_poke 18 = .ok (.athrow, 1) := by decide +kernel
theorem d_Top_poke_19 : decode b_Top_poke 19 = .ok (.iload_n 2, 1) := by decide +kernel
theorem d_Top_poke_20 : decode b_Top_poke 20 = .ok (.ifCond .lt (10), 3) := by decide +kernel
theorem d_Top_poke_23 : decode b_Top_poke 23 = .ok (.iload_n 2, 1) := by decide +kernel
theorem d_Top_poke_24 : decode b_Top_poke 24 = .ok (.sipush (255), 3) := by decide +kernel
theorem d_Top_poke_27 : decode b_Top_poke 27 = .ok (.if_icmp .le (11), 3) := by decide +kernel
theorem d_Top_poke_30 : decode b_Top_poke 30 = .ok (.new 48, 3) := by decide +kernel
theorem d_Top_poke_33 : decode b_Top_poke 33 = .ok (.dup, 1) := by decide +kernel
theorem d_Top_poke_34 : decode b_Top_poke 34 = .ok (.invokespecial 50, 3) := by decide +kernel
theorem d_Top_poke_37 : decode b_Top_poke 37 = .ok (.athrow, 1) := by decide +kernel
theorem d_Top_poke_38 : decode b_Top_poke 38 = .ok (.aload_n 0, 1) := by decide +kernel
theorem d_Top_poke_39 : decode b_Top_poke 39 = .ok (.getfield 19, 3) := by decide +kernel
theorem d_Top_poke_42 : decode b_Top_poke 42 = .ok (.iload_n 1, 1) := by decide +kernel
theorem d_Top_poke_43 : decode b_Top_poke 43 = .ok (.iload_n 2, 1) := by decide +kernel
theorem d_Top_poke_44 : decode b_Top_poke 44 = .ok (.invokevirtual 150, 3) := by decide +kernel
theorem d_Top_poke_47 : decode b_Top_poke 47 = .ok (.return_, 1) := by decide +kernel
def q_Top_poke_30 (i_k : Int32) (i_b : Int32) (f_length : Int32)  (f_bytes_30 : Nat → Int32) : Option ((Nat → Int32)) := none
def q_Top_poke (i_k : Int32) (i_b : Int32) (f_bytes : Nat → Int32) (f_length : Int32) : Option ((Nat → Int32)) := ((q_Fil_has i_k f_length).bind fun z1 => (if z1 = 0 then none else (if i_b < 0 then (q_Top_poke_30 i_k i_b f_length  f_bytes) else (if i_b ≤ (255 : Int32) then ((q_Fil_change i_k i_b f_bytes f_length).bind fun z2 => some (z2)) else (q_Top_poke_30 i_k i_b f_length  f_bytes)))))
abbrev rm_Top_poke : Room := { frames := 2, cells := 0, slots := 0, locals := 43 }
set_option maxHeartbeats 4000000 in
set_option maxRecDepth 100000 in
theorem c_Top_poke (l : Launch) (dC : Nat → ClassId) (dI : Nat → Nat → Nat) (t_0 p_0 p_pixels_a f_0 f_bytes_a f_starts_a f_ends_a s_0 s_layers_a u_0 u_pixels_a v_0 v_pixels_a w_0 w_pixels_a c_0 c_states_a c_favourites_a n_0 n_digits_a k_0 k_bytes_a : Nat) (p_pixels_k f_bytes_k f_starts_k f_ends_k s_layers_k u_pixels_k v_pixels_k w_pixels_k c_states_k c_favourites_k n_digits_k k_bytes_k : ClassId) (s_layers_r : Nat → Option Nat) (i_k : Int32) (i_b : Int32) (t_anyLayerCoded : Int32) (p_pixels : Nat → Int32) (p_wide : Int32) (p_high : Int32) (f_bytes : Nat → Int32) (f_starts : Nat → Int32) (f_ends : Nat → Int32) (f_length : Int32) (f_wide : Int32) (f_high : Int32) (f_layerCount : Int32) (f_place : Int32) (s_plainRows : Int32) (u_pixels : Nat → Int32) (u_wide : Int32) (u_high : Int32) (v_pixels : Nat → Int32) (v_wide : Int32) (v_high : Int32) (w_pixels : Nat → Int32) (w_wide : Int32) (w_high : Int32) (c_states : Nat → Int32) (c_favourites : Nat → Int32) (c_span : Int32) (c_decisions : Int32) (c_doublings : Int32) (n_digits : Nat → Int32) (n_digitCount : Int32) (k_bytes : Nat → Int32) (k_byteCount : Int32) (k_nextDigit : Int32) (k_rest : Int32) (z : (Nat → Int32)) (hR0 : s_layers_r (0 : Int32).toNatClampNeg = some u_0) (hR1 : s_layers_r (1 : Int32).toNatClampNeg = some v_0) (hR2 : s_layers_r (2 : Int32).toNatClampNeg = some w_0) (hq : q_Top_poke i_k i_b f_bytes f_length = some z) (sz : Nat) : MetV l y_Top_poke b_Top_poke 3 TT rm_Top_poke (dC, dI) vcl [(p_pixels_k, .int), (f_bytes_k, .int), (f_starts_k, .int), (f_ends_k, .int), (s_layers_k, .object "LayeredBits$Picture"), (u_pixels_k, .int), (v_pixels_k, .int), (w_pixels_k, .int), (c_states_k, .int), (c_favourites_k, .int), (n_digits_k, .int), (k_bytes_k, .int)] (W_Top t_0 p_0 p_pixels_a f_0 f_bytes_a f_starts_a f_ends_a s_0 s_layers_a u_0 u_pixels_a v_0 v_pixels_a w_0 w_pixels_a c_0 c_states_a c_favourites_a n_0 n_digits_a k_0 k_bytes_a p_pixels_k f_bytes_k f_starts_k f_ends_k s_layers_k u_pixels_k v_pixels_k w_pixels_k c_states_k c_favourites_k n_digits_k k_bytes_k s_layers_r t_anyLayerCoded p_pixels p_wide p_high f_bytes f_starts f_ends f_length f_wide f_high f_layerCount f_place s_plainRows u_pixels u_wide u_high v_pixels v_wide v_high w_pixels w_wide w_high c_states c_favourites c_span c_decisions c_doublings n_digits n_digitCount k_bytes k_byteCount k_nextDigit k_rest) (W_Top t_0 p_0 p_pixels_a f_0 f_bytes_a f_starts_a f_ends_a s_0 s_layers_a u_0 u_pixels_a v_0 v_pixels_a w_0 w_pixels_a c_0 c_states_a c_favourites_a n_0 n_digits_a k_0 k_bytes_a p_pixels_k f_bytes_k f_starts_k f_ends_k s_layers_k u_pixels_k v_pixels_k w_pixels_k c_states_k c_favourites_k n_digits_k k_bytes_k s_layers_r t_anyLayerCoded p_pixels p_wide p_high z f_starts f_ends f_length f_wide f_high f_layerCount f_place s_plainRows u_pixels u_wide u_high v_pixels v_wide v_high w_pixels w_wide w_high c_states c_favourites c_span c_decisions c_doublings n_digits n_digitCount k_bytes k_byteCount k_nextDigit k_rest) [.ref t_0, .int i_k, .int i_b] sz := by
  refine x_ofV (by decide) (Nat.le_of_ble_eq_true rfl) ?_ sz
  intro p e s m args below meth c A Q ls hx hb hml hown hts hA hG hK hP hD hS hl hret
  have hown : s.vm.findClass R_Top = some m.cls := hown
  have hl : lv_has ls 3 [(0, .ref t_0), (1, .int i_k), (2, .int i_b)] := hl
  obtain ⟨⟨tq, hZ, hTq⟩, hN⟩ := id hG
  obtain ⟨H, hH⟩ : ∃ H, H = s.heap := ⟨_, rfl⟩
  obtain ⟨locs, hlocs⟩ : ∃ locs : List Loc, locs = [] := ⟨_, rfl⟩
  rw [← hH] at hP
  have hS : va_S A s.heap H locs := by rw [hH, hlocs]; exact hS
  suffices hgo : W p l e rm_Top_poke s m args below meth c H locs 0 0 Q (F0 m 0 ls []) by rw [hH, hlocs] at hgo; exact hgo
  unfold q_Top_poke at hq
  have L30 : ∀ (f_bytes_30 : Nat → Int32) (H : Heap) (locs : List Loc) (ls : Array Slot), lv_has ls 3 [] → va_P (dC, dI) vcl (W_Top t_0 p_0 p_pixels_a f_0 f_bytes_a f_starts_a f_ends_a s_0 s_layers_a u_0 u_pixels_a v_0 v_pixels_a w_0 w_pixels_a c_0 c_states_a c_favourites_a n_0 n_digits_a k_0 k_bytes_a p_pixels_k f_bytes_k f_starts_k f_ends_k s_layers_k u_pixels_k v_pixels_k w_pixels_k c_states_k c_favourites_k n_digits_k k_bytes_k s_layers_r t_anyLayerCoded p_pixels p_wide p_high f_bytes_30 f_starts f_ends f_length f_wide f_high f_layerCount f_place s_plainRows u_pixels u_wide u_high v_pixels v_wide v_high w_pixels w_wide w_high c_states c_favourites c_span c_decisions c_doublings n_digits n_digitCount k_bytes k_byteCount k_nextDigit k_rest) H → va_D A (W_Top t_0 p_0 p_pixels_a f_0 f_bytes_a f_starts_a f_ends_a s_0 s_layers_a u_0 u_pixels_a v_0 v_pixels_a w_0 w_pixels_a c_0 c_states_a c_favourites_a n_0 n_digits_a k_0 k_bytes_a p_pixels_k f_bytes_k f_starts_k f_ends_k s_layers_k u_pixels_k v_pixels_k w_pixels_k c_states_k c_favourites_k n_digits_k k_bytes_k s_layers_r t_anyLayerCoded p_pixels p_wide p_high f_bytes_30 f_starts f_ends f_length f_wide f_high f_layerCount f_place s_plainRows u_pixels u_wide u_high v_pixels v_wide v_high w_pixels w_wide w_high c_states c_favourites c_span c_decisions c_doublings n_digits n_digitCount k_bytes k_byteCount k_nextDigit k_rest) → va_S A s.heap H locs → q_Top_poke_30 i_k i_b f_length  f_bytes_30 = some z → W p l e rm_Top_poke s m args below meth c H locs 0 0 Q (F0 m 30 ls []) := by
    intro f_bytes_30 H locs ls hl hP hD hS hq30
    unfold q_Top_poke_30 at hq30
    have h := hq30
    cases h
  have h := hq
  refine lv_aload_n hx hb d_Top_poke_0 rfl (lv_at hl 0 rfl) ?_
  refine va_get (D := (dC, dI)) (ci := 6) (v := .ref f_0) (C := R_Top) (T := F_Top) (N := 6) hx hb hts in_Top hown hK hP 0 rfl rfl 1 (by decide) (hts _ tt212) (fun _ h9 => h9) rfl d_Top_poke_1 ?_
  refine lv_iload_n hx hb d_Top_poke_4 rfl (lv_at hl 1 rfl) ?_
  obtain ⟨z1, hz1, h⟩ := ob h
  refine x_goI (res := z1) (w1 := (W_F f_0 f_bytes_a f_starts_a f_ends_a f_bytes_k f_starts_k f_ends_k f_bytes f_starts f_ends f_length f_wide f_high f_layerCount f_place)) (ws' := (W_Top t_0 p_0 p_pixels_a f_0 f_bytes_a f_starts_a f_ends_a s_0 s_layers_a u_0 u_pixels_a v_0 v_pixels_a w_0 w_pixels_a c_0 c_states_a c_favourites_a n_0 n_digits_a k_0 k_bytes_a p_pixels_k f_bytes_k f_starts_k f_ends_k s_layers_k u_pixels_k v_pixels_k w_pixels_k c_states_k c_favourites_k n_digits_k k_bytes_k s_layers_r t_anyLayerCoded p_pixels p_wide p_high f_bytes f_starts f_ends f_length f_wide f_high f_layerCount f_place s_plainRows u_pixels u_wide u_high v_pixels v_wide v_high w_pixels w_wide w_high c_states c_favourites c_span c_decisions c_doublings n_digits n_digitCount k_bytes k_byteCount k_nextDigit k_rest)) (wr := List.filterMap (fun (i : Nat) => (W_Top t_0 p_0 p_pixels_a f_0 f_bytes_a f_starts_a f_ends_a s_0 s_layers_a u_0 u_pixels_a v_0 v_pixels_a w_0 w_pixels_a c_0 c_states_a c_favourites_a n_0 n_digits_a k_0 k_bytes_a p_pixels_k f_bytes_k f_starts_k f_ends_k s_layers_k u_pixels_k v_pixels_k w_pixels_k c_states_k c_favourites_k n_digits_k k_bytes_k s_layers_r t_anyLayerCoded p_pixels p_wide p_high f_bytes f_starts f_ends f_length f_wide f_high f_layerCount f_place s_plainRows u_pixels u_wide u_high v_pixels v_wide v_high w_pixels w_wide w_high c_states c_favourites c_span c_decisions c_doublings n_digits n_digitCount k_bytes k_byteCount k_nextDigit k_rest)[i]?) ([0, 1, 2, 7, 8, 9, 10, 11, 12, 13, 14, 15, 16, 17, 18, 19, 20, 21] : List Nat)) (va_runV (As := [.int i_k]) (rest := []) ⟨hx, hb, hml, hown, hts⟩ (c_Fil_has l dC dI f_0 f_bytes_a f_starts_a f_ends_a f_bytes_k f_starts_k f_ends_k i_k f_bytes f_starts f_ends f_length f_wide f_high f_layerCount f_place z1  hz1 H.size) ⟨callB_of 1 hts (gT tt545 TT_good) rfl rfl rfl (hts _ tt47) (hts _ tt604) (by decide +kernel) ⟨Nat.le_of_ble_eq_true rfl, Nat.le_of_ble_eq_true rfl⟩, hts _ tt543, hts _ tt544⟩ (x_preV (q := (R_Fil, F_Fil, 8)) (As := [.int i_k]) (x_pre (wc := (W_F f_0 f_bytes_a f_starts_a f_ends_a f_bytes_k f_starts_k f_ends_k f_bytes f_starts f_ends f_length f_wide f_high f_layerCount f_place)) (av := (.ref f_0 :: [.int i_k])) hK hP hD hS hA hG [1, 2, 3] [3, 4, 5, 6] rfl rfl (by decide)) hK hP (q0 := 3) rfl rfl) rfl rfl hl.1 rfl (lv_room (Nat.le_of_ble_eq_true rfl)) d_Top_poke_5 ⟨Nat.zero_le _, Nat.zero_le _⟩) hP hD hS hA [3, 4, 5, 6] [0, 1, 2, 7, 8, 9, 10, 11, 12, 13, 14, 15, 16, 17, 18, 19, 20, 21] [0, 1, 2, 18, 19, 20, 21, 3, 4, 5, 6, 7, 8, 9, 10, 11, 12, 13, 14, 15, 16, 17] rfl rfl (by decide) (by decide) (by decide) rfl (fun H locs hP hD hS => ?_)
  refine lv_if_ne (tgt := 19) hx hb d_Top_poke_8 rfl (fun hc => ?_) (fun hc => ?_)
  · replace h := of hc h
    refine lv_iload_n hx hb d_Top_poke_19 rfl (lv_at hl 2 rfl) ?_
    refine lv_if_lt (tgt := 30) hx hb d_Top_poke_20 rfl (fun hc => ?_) (fun hc => ?_)
    · replace h := ot hc h
      exact L30 f_bytes H locs ls (lv_sub hl [] rfl) hP hD hS h
    · replace h := of hc h
      refine lv_iload_n hx hb d_Top_poke_23 rfl (lv_at hl 2 rfl) ?_
      refine lv_sipush (v := (255 : Int32)) hx hb d_Top_poke_24 (by decide) ?_
      refine lv_icmp_le (tgt := 38) hx hb d_Top_poke_27 rfl (fun hc => ?_) (fun hc => ?_)
      · replace h := ot hc h
        refine lv_aload_n hx hb d_Top_poke_38 rfl (lv_at hl 0 rfl) ?_
        refine va_get (D := (dC, dI)) (ci := 6) (v := .ref f_0) (C := R_Top) (T := F_Top) (N := 6) hx hb hts in_Top hown hK hP 0 rfl rfl 1 (by decide) (hts _ tt212) (fun _ h9 => h9) rfl d_Top_poke_39 ?_
        refine lv_iload_n hx hb d_Top_poke_42 rfl (lv_at hl 1 rfl) ?_
        refine lv_iload_n hx hb d_Top_poke_43 rfl (lv_at hl 2 rfl) ?_
        obtain ⟨z2, hz2, h⟩ := ob h
        refine x_goV (w1 := (W_F f_0 f_bytes_a f_starts_a f_ends_a f_bytes_k f_starts_k f_ends_k z2 f_starts f_ends f_length f_wide f_high f_layerCount f_place)) (ws' := (W_Top t_0 p_0 p_pixels_a f_0 f_bytes_a f_starts_a f_ends_a s_0 s_layers_a u_0 u_pixels_a v_0 v_pixels_a w_0 w_pixels_a c_0 c_states_a c_favourites_a n_0 n_digits_a k_0 k_bytes_a p_pixels_k f_bytes_k f_starts_k f_ends_k s_layers_k u_pixels_k v_pixels_k w_pixels_k c_states_k c_favourites_k n_digits_k k_bytes_k s_layers_r t_anyLayerCoded p_pixels p_wide p_high z2 f_starts f_ends f_length f_wide f_high f_layerCount f_place s_plainRows u_pixels u_wide u_high v_pixels v_wide v_high w_pixels w_wide w_high c_states c_favourites c_span c_decisions c_doublings n_digits n_digitCount k_bytes k_byteCount k_nextDigit k_rest)) (wr := List.filterMap (fun (i : Nat) => (W_Top t_0 p_0 p_pixels_a f_0 f_bytes_a f_starts_a f_ends_a s_0 s_layers_a u_0 u_pixels_a v_0 v_pixels_a w_0 w_pixels_a c_0 c_states_a c_favourites_a n_0 n_digits_a k_0 k_bytes_a p_pixels_k f_bytes_k f_starts_k f_ends_k s_layers_k u_pixels_k v_pixels_k w_pixels_k c_states_k c_favourites_k n_digits_k k_bytes_k s_layers_r t_anyLayerCoded p_pixels p_wide p_high f_bytes f_starts f_ends f_length f_wide f_high f_layerCount f_place s_plainRows u_pixels u_wide u_high v_pixels v_wide v_high w_pixels w_wide w_high c_states c_favourites c_span c_decisions c_doublings n_digits n_digitCount k_bytes k_byteCount k_nextDigit k_rest)[i]?) ([0, 1, 2, 7, 8, 9, 10, 11, 12, 13, 14, 15, 16, 17, 18, 19, 20, 21] : List Nat)) (va_runV (As := [.int i_k, .int i_b]) (rest := []) ⟨hx, hb, hml, hown, hts⟩ (c_Fil_change l dC dI f_0 f_bytes_a f_starts_a f_ends_a f_bytes_k f_starts_k f_ends_k i_k i_b f_bytes f_starts f_ends f_length f_wide f_high f_layerCount f_place z2  hz2 H.size) ⟨callB_of 2 hts (gT tt616 TT_good) rfl rfl rfl (hts _ tt47) (hts _ tt613) (by decide +kernel) ⟨Nat.le_of_ble_eq_true rfl, Nat.le_of_ble_eq_true rfl⟩, hts _ tt614, hts _ tt615⟩ (x_preV (q := (R_Fil, F_Fil, 8)) (As := [.int i_k, .int i_b]) (x_pre (wc := (W_F f_0 f_bytes_a f_starts_a f_ends_a f_bytes_k f_starts_k f_ends_k f_bytes f_starts f_ends f_length f_wide f_high f_layerCount f_place)) (av := (.ref f_0 :: [.int i_k, .int i_b])) hK hP hD hS hA hG [1, 2, 3] [3, 4, 5, 6] rfl rfl (by decide)) hK hP (q0 := 3) rfl rfl) rfl rfl hl.1 rfl (lv_room (Nat.le_of_ble_eq_true rfl)) d_Top_poke_44 ⟨Nat.zero_le _, Nat.zero_le _⟩) hP hD hS hA [3, 4, 5, 6] [0, 1, 2, 7, 8, 9, 10, 11, 12, 13, 14, 15, 16, 17, 18, 19, 20, 21] [0, 1, 2, 18, 19, 20, 21, 3, 4, 5, 6, 7, 8, 9, 10, 11, 12, 13, 14, 15, 16, 17] rfl rfl (by decide) (by decide) (by decide) rfl (fun H locs hP hD hS => ?_)
        obtain rfl := Option.some.inj h
        exact hret H locs 47 ls d_Top_poke_47 hP hD hS
      · replace h := of hc h
        exact L30 f_bytes H locs ls (lv_sub hl [] rfl) hP hD hS h
  · replace h := ot hc h
    cases h
theorem d_Top_type_0 : decode b_Top_type 0 = .ok (.iload_n 3, 1) := by decide +kernel
theorem d_Top_type_1 : decode b_Top_type 1 = .ok (.iconst (1), 1) := by decide +kernel
theorem d_Top_type_2 : decode b_Top_type 2 = .ok (.if_icmp .lt (9), 3) := by decide +kernel
theorem d_Top_type_5 : decode b_Top_type 5 = .ok (.iload_n 3, 1) := by decide +kernel
theorem d_Top_type_6 : decode b_Top_type 6 = .ok (.bipush (8), 2) := by decide +kernel
theorem d_Top_type_8 : decode b_Top_type 8 = .ok (.if_icmp .le (11), 3) := by decide +kernel
theorem d_Top_type_11 : decode b_Top_type 11 = .ok (.new 48, 3) := by decide +kernel
theorem d_Top_type_14 : decode b_Top_type 14 = .ok (.dup, 1) := by decide +kernel
theorem d_Top_type_15 : decode b_Top_type 15 = .ok (.invokespecial 50, 3) := by decide +kernel
theorem d_Top_type_18 : decode b_Top_type 18 = .ok (.athrow, 1) := by decide +kernel
theorem d_Top_type_19 : decode b_Top_type 19 = .ok (.aload_n 0, 1) := by decide +kernel
theorem d_Top_type_20 : decode b_Top_type 20 = .ok (.getfield 19, 3) := by decide +kernel
theorem d_Top_type_23 : decode b_Top_type 23 = .ok (.getfield 107, 3) := by decide +kernel
theorem d_Top_type_26 : decode b_Top_type 26 = .ok (.iload_n 3, 1) := by decide +kernel
theorem d_Top_type_27 : decode b_Top_type 27 = .ok (.iadd, 1) := by decide +kernel
theorem d_Top_type_28 : decode b_Top_type 28 = .ok (.sipush (900), 3) := by decide +kernel
theorem d_Top_type_31 : decode b_Top_type 31 = .ok (.if_icmp .le (11), 3) := by decide +kernel
theorem d_Top_type_34 : decode b_Top_type 34 = .ok (.new 117, 3) := by decide +kernel
theorem d_Top_type_37 : decode b_Top_type 37 = .ok (.dup, 1) := by decide +kernel
theorem d_Top_type_38 : decode b_Top_type 38 = .ok (.invokespecial 119, 3) := by decide +kernel
theorem d_Top_type_41 : decode b_Top_type 41 = .ok (.athrow, 1) := by decide +kernel
theorem d_Top_type_42 : decode b_Top_type 42 = .ok (.iload_n 3, 1) := by decide +kernel
theorem d_Top_type_43 : decode b_Top_type 43 = .ok (.iconst (1), 1) := by decide +kernel
theorem d_Top_type_44 : decode b_Top_type 44 = .ok (.isub, 1) := by decide +kernel
theorem d_Top_type_45 : decode b_Top_type 45 = .ok (.istore 4, 2) := by decide +kernel
theorem d_Top_type_47 : decode b_Top_type 47 = .ok (.iload 4, 2) := by decide +kernel
theorem d_Top_type_49 : decode b_Top_type 49 = .ok (.ifCond .lt (28), 3) := by decide +kernel
theorem d_Top_type_52 : decode b_Top_type 52 = .ok (.aload_n 0, 1) := by decide +kernel
theorem d_Top_type_53 : decode b_Top_type 53 = .ok (.getfield 19, 3) := by decide +kernel
theorem d_Top_type_56 : decode b_Top_type 56 = .ok (.lload_n 1, 1) := by decide +kernel
theorem d_Top_type_57 : decode b_Top_type 57 = .ok (.bipush (8), 2) := by decide +kernel
theorem d_Top_type_59 : decode b_Top_type 59 = .ok (.iload 4, 2) := by decide +kernel
theorem d_Top_type_61 : decode b_Top_type 61 = .ok (.imul, 1) := by decide +kernel
theorem d_Top_type_62 : decode b_Top_type 62 = .ok (.lshr, 1) := by decide +kernel
theorem d_Top_type_63 : decode b_Top_type 63 = .ok (.l2i, 1) := by decide +kernel
theorem d_Top_type_64 : decode b_Top_type 64 = .ok (.sipush (255), 3) := by decide +kernel
theorem d_Top_type_67 : decode b_Top_type 67 = .ok (.iand, 1) := by decide +kernel
theorem d_Top_type_68 : decode b_Top_type 68 = .ok (.invokevirtual 93, 3) := by decide +kernel
theorem d_Top_type_71 : decode b_Top_type 71 = .ok (.iinc 4 (-1), 3) := by decide +kernel
theorem d_Top_type_74 : decode b_Top_type 74 = .ok (.goto (-27), 3) := by decide +kernel
theorem d_Top_type_77 : decode b_Top_type 77 = .ok (.aload_n 0, 1) := by decide +kernel
theorem d_Top_type_78 : decode b_Top_type 78 = .ok (.getfield 19, 3) := by decide +kernel
theorem d_Top_type_81 : decode b_Top_type 81 = .ok (.getfield 107, 3) := by decide +kernel
theorem d_Top_type_84 : decode b_Top_type 84 = .ok (.ireturn, 1) := by decide +kernel
def q_Top_type_47 (i_bytes : Int64) (i_n : Int32)  : Nat → Int32 → (Nat → Int32) → Int32 → Option (Int32 × (Nat → Int32) × Int32)
  | 0, _, _, _ => none
  | n + 1, x4_47, f_bytes_47, f_length_47 => (if x4_47 < 0 then some (f_length_47, f_bytes_47, f_length_47) else ((q_Fil_append (((i_bytes >>> (((8 : Int32) * x4_47).toInt64 &&& 63)).toInt32) &&& (255 : Int32)) f_bytes_47 f_length_47).bind fun z1 => (q_Top_type_47 i_bytes i_n n (x4_47 + (-1 : Int32)) z1.1 z1.2)))
def q_Top_type_11 (i_bytes : Int64) (i_n : Int32)  (f_bytes_11 : Nat → Int32) (f_length_11 : Int32) : Option (Int32 × (Nat → Int32) × Int32) := none
def q_Top_type (i_bytes : Int64) (i_n : Int32) (f_bytes : Nat → Int32) (f_length : Int32) : Option (Int32 × (Nat → Int32) × Int32) := (if i_n < (1 : Int32) then (q_Top_type_11 i_bytes i_n  f_bytes f_length) else (if i_n ≤ (8 : Int32) then (if (f_length + i_n) ≤ (900 : Int32) then (q_Top_type_47 i_bytes i_n  5000 (i_n - (1 : Int32)) f_bytes f_length) else none) else (q_Top_type_11 i_bytes i_n  f_bytes f_length)))
abbrev rm_Top_type : Room := { frames := 1, cells := 0, slots := 0, locals := 21 }
set_option maxHeartbeats 4000000 in
set_option maxRecDepth 100000 in
theorem c_Top_type (l : Launch) (dC : Nat → ClassId) (dI : Nat → Nat → Nat) (t_0 p_0 p_pixels_a f_0 f_bytes_a f_starts_a f_ends_a s_0 s_layers_a u_0 u_pixels_a v_0 v_pixels_a w_0 w_pixels_a c_0 c_states_a c_favourites_a n_0 n_digits_a k_0 k_bytes_a : Nat) (p_pixels_k f_bytes_k f_starts_k f_ends_k s_layers_k u_pixels_k v_pixels_k w_pixels_k c_states_k c_favourites_k n_digits_k k_bytes_k : ClassId) (s_layers_r : Nat → Option Nat) (i_bytes : Int64) (i_n : Int32) (t_anyLayerCoded : Int32) (p_pixels : Nat → Int32) (p_wide : Int32) (p_high : Int32) (f_bytes : Nat → Int32) (f_starts : Nat → Int32) (f_ends : Nat → Int32) (f_length : Int32) (f_wide : Int32) (f_high : Int32) (f_layerCount : Int32) (f_place : Int32) (s_plainRows : Int32) (u_pixels : Nat → Int32) (u_wide : Int32) (u_high : Int32) (v_pixels : Nat → Int32) (v_wide : Int32) (v_high : Int32) (w_pixels : Nat → Int32) (w_wide : Int32) (w_high : Int32) (c_states : Nat → Int32) (c_favourites : Nat → Int32) (c_span : Int32) (c_decisions : Int32) (c_doublings : Int32) (n_digits : Nat → Int32) (n_digitCount : Int32) (k_bytes : Nat → Int32) (k_byteCount : Int32) (k_nextDigit : Int32) (k_rest : Int32) (z : Int32 × (Nat → Int32) × Int32) (hR0 : s_layers_r (0 : Int32).toNatClampNeg = some u_0) (hR1 : s_layers_r (1 : Int32).toNatClampNeg = some v_0) (hR2 : s_layers_r (2 : Int32).toNatClampNeg = some w_0) (hq : q_Top_type i_bytes i_n f_bytes f_length = some z) (sz : Nat) : MetI l y_Top_type b_Top_type 5 .int TT rm_Top_type (dC, dI) vcl [(p_pixels_k, .int), (f_bytes_k, .int), (f_starts_k, .int), (f_ends_k, .int), (s_layers_k, .object "LayeredBits$Picture"), (u_pixels_k, .int), (v_pixels_k, .int), (w_pixels_k, .int), (c_states_k, .int), (c_favourites_k, .int), (n_digits_k, .int), (k_bytes_k, .int)] (W_Top t_0 p_0 p_pixels_a f_0 f_bytes_a f_starts_a f_ends_a s_0 s_layers_a u_0 u_pixels_a v_0 v_pixels_a w_0 w_pixels_a c_0 c_states_a c_favourites_a n_0 n_digits_a k_0 k_bytes_a p_pixels_k f_bytes_k f_starts_k f_ends_k s_layers_k u_pixels_k v_pixels_k w_pixels_k c_states_k c_favourites_k n_digits_k k_bytes_k s_layers_r t_anyLayerCoded p_pixels p_wide p_high f_bytes f_starts f_ends f_length f_wide f_high f_layerCount f_place s_plainRows u_pixels u_wide u_high v_pixels v_wide v_high w_pixels w_wide w_high c_states c_favourites c_span c_decisions c_doublings n_digits n_digitCount k_bytes k_byteCount k_nextDigit k_rest) (W_Top t_0 p_0 p_pixels_a f_0 f_bytes_a f_starts_a f_ends_a s_0 s_layers_a u_0 u_pixels_a v_0 v_pixels_a w_0 w_pixels_a c_0 c_states_a c_favourites_a n_0 n_digits_a k_0 k_bytes_a p_pixels_k f_bytes_k f_starts_k f_ends_k s_layers_k u_pixels_k v_pixels_k w_pixels_k c_states_k c_favourites_k n_digits_k k_bytes_k s_layers_r t_anyLayerCoded p_pixels p_wide p_high z.2.1 f_starts f_ends z.2.2 f_wide f_high f_layerCount f_place s_plainRows u_pixels u_wide u_high v_pixels v_wide v_high w_pixels w_wide w_high c_states c_favourites c_span c_decisions c_doublings n_digits n_digitCount k_bytes k_byteCount k_nextDigit k_rest) [.ref t_0, .long i_bytes, .int i_n] z.1 sz := by
  refine x_ofI (by decide) (Nat.le_of_ble_eq_true rfl) ?_ sz
  intro p e s m args below meth c A Q ls hx hb hml hown hts hA hG hK hP hD hS hl hret
  have hown : s.vm.findClass R_Top = some m.cls := hown
  have hl : lv_has ls 5 [(0, .ref t_0), (1, .long i_bytes), (3, .int i_n)] := hl
  obtain ⟨⟨tq, hZ, hTq⟩, hN⟩ := id hG
  obtain ⟨H, hH⟩ : ∃ H, H = s.heap := ⟨_, rfl⟩
  obtain ⟨locs, hlocs⟩ : ∃ locs : List Loc, locs = [] := ⟨_, rfl⟩
  rw [← hH] at hP
  have hS : va_S A s.heap H locs := by rw [hH, hlocs]; exact hS
  suffices hgo : W p l e rm_Top_type s m args below meth c H locs 0 0 Q (F0 m 0 ls []) by rw [hH, hlocs] at hgo; exact hgo
  unfold q_Top_type at hq
  have L47 : ∀ (n47 : Nat) (x4_47 : Int32) (f_bytes_47 : Nat → Int32) (f_length_47 : Int32) (H : Heap) (locs : List Loc) (ls : Array Slot), lv_has ls 5 [(0, .ref t_0), (1, .long i_bytes), (4, .int x4_47)] → va_P (dC, dI) vcl (W_Top t_0 p_0 p_pixels_a f_0 f_bytes_a f_starts_a f_ends_a s_0 s_layers_a u_0 u_pixels_a v_0 v_pixels_a w_0 w_pixels_a c_0 c_states_a c_favourites_a n_0 n_digits_a k_0 k_bytes_a p_pixels_k f_bytes_k f_starts_k f_ends_k s_layers_k u_pixels_k v_pixels_k w_pixels_k c_states_k c_favourites_k n_digits_k k_bytes_k s_layers_r t_anyLayerCoded p_pixels p_wide p_high f_bytes_47 f_starts f_ends f_length_47 f_wide f_high f_layerCount f_place s_plainRows u_pixels u_wide u_high v_pixels v_wide v_high w_pixels w_wide w_high c_states c_favourites c_span c_decisions c_doublings n_digits n_digitCount k_bytes k_byteCount k_nextDigit k_rest) H → va_D A (W_Top t_0 p_0 p_pixels_a f_0 f_bytes_a f_starts_a f_ends_a s_0 s_layers_a u_0 u_pixels_a v_0 v_pixels_a w_0 w_pixels_a c_0 c_states_a c_favourites_a n_0 n_digits_a k_0 k_bytes_a p_pixels_k f_bytes_k f_starts_k f_ends_k s_layers_k u_pixels_k v_pixels_k w_pixels_k c_states_k c_favourites_k n_digits_k k_bytes_k s_layers_r t_anyLayerCoded p_pixels p_wide p_high f_bytes_47 f_starts f_ends f_length_47 f_wide f_high f_layerCount f_place s_plainRows u_pixels u_wide u_high v_pixels v_wide v_high w_pixels w_wide w_high c_states c_favourites c_span c_decisions c_doublings n_digits n_digitCount k_bytes k_byteCount k_nextDigit k_rest) → va_S A s.heap H locs → q_Top_type_47 i_bytes i_n  n47 x4_47 f_bytes_47 f_length_47 = some z → W p l e rm_Top_type s m args below meth c H locs 0 0 Q (F0 m 47 ls []) := by
    intro n47
    induction n47 with
    | zero =>
      intro x4_47 f_bytes_47 f_length_47 H locs ls hl hP hD hS hq
      rw [q_Top_type_47] at hq
      cases hq
    | succ n47 ih47 =>
      intro x4_47 f_bytes_47 f_length_47 H locs ls hl hP hD hS hq47
      rw [q_Top_type_47] at hq47
      have h := hq47
      refine lv_iload hx hb d_Top_type_47 (lv_at hl 2 rfl) ?_
      refine lv_if_lt (tgt := 77) hx hb d_Top_type_49 rfl (fun hc => ?_) (fun hc => ?_)
      · replace h := ot hc h
        refine lv_aload_n hx hb d_Top_type_77 rfl (lv_at hl 0 rfl) ?_
        refine va_get (D := (dC, dI)) (ci := 6) (v := .ref f_0) (C := R_Top) (T := F_Top) (N := 6) hx hb hts in_Top hown hK hP 0 rfl rfl 1 (by decide) (hts _ tt212) (fun _ h9 => h9) rfl d_Top_type_78 ?_
        refine va_getN (D := (dC, dI)) (ci := 2) (v := .int f_length_47) (C := R_Fil) (T := F_Fil) (N := 8) hx hb hts in_Fil hown hK hP 3 rfl rfl 3 (by decide) (va_Nw.use rfl (hN _ nn104)) (fun _ h9 => h9) rfl d_Top_type_81 ?_
        obtain rfl := Option.some.inj h
        exact hret H locs 84 ls d_Top_type_84 (vp_nar_int _) hP hD hS
      · replace h := of hc h
        refine lv_aload_n hx hb d_Top_type_52 rfl (lv_at hl 0 rfl) ?_
        refine va_get (D := (dC, dI)) (ci := 6) (v := .ref f_0) (C := R_Top) (T := F_Top) (N := 6) hx hb hts in_Top hown hK hP 0 rfl rfl 1 (by decide) (hts _ tt212) (fun _ h9 => h9) rfl d_Top_type_53 ?_
        refine lv_lload_n hx hb d_Top_type_56 rfl (lv_at hl 1 rfl) ?_
        refine lv_bipush (v := (8 : Int32)) hx hb d_Top_type_57 (by decide) ?_
        refine lv_iload hx hb d_Top_type_59 (lv_at hl 2 rfl) ?_
        refine lv_imul hx hb d_Top_type_61 ?_
        refine lv_lshr (v := i_bytes >>> (((8 : Int32) * x4_47).toInt64 &&& 63)) hx hb d_Top_type_62 rfl ?_
        refine lv_l2i (v := (i_bytes >>> (((8 : Int32) * x4_47).toInt64 &&& 63)).toInt32) hx hb d_Top_type_63 rfl ?_
        refine lv_sipush (v := (255 : Int32)) hx hb d_Top_type_64 (by decide) ?_
        refine lv_iand hx hb d_Top_type_67 ?_
        obtain ⟨z1, hz1, h⟩ := ob h
        refine x_goV (w1 := (W_F f_0 f_bytes_a f_starts_a f_ends_a f_bytes_k f_starts_k f_ends_k z1.1 f_starts f_ends z1.2 f_wide f_high f_layerCount f_place)) (ws' := (W_Top t_0 p_0 p_pixels_a f_0 f_bytes_a f_starts_a f_ends_a s_0 s_layers_a u_0 u_pixels_a v_0 v_pixels_a w_0 w_pixels_a c_0 c_states_a c_favourites_a n_0 n_digits_a k_0 k_bytes_a p_pixels_k f_bytes_k f_starts_k f_ends_k s_layers_k u_pixels_k v_pixels_k w_pixels_k c_states_k c_favourites_k n_digits_k k_bytes_k s_layers_r t_anyLayerCoded p_pixels p_wide p_high z1.1 f_starts f_ends z1.2 f_wide f_high f_layerCount f_place s_plainRows u_pixels u_wide u_high v_pixels v_wide v_high w_pixels w_wide w_high c_states c_favourites c_span c_decisions c_doublings n_digits n_digitCount k_bytes k_byteCount k_nextDigit k_rest)) (wr := List.filterMap (fun (i : Nat) => (W_Top t_0 p_0 p_pixels_a f_0 f_bytes_a f_starts_a f_ends_a s_0 s_layers_a u_0 u_pixels_a v_0 v_pixels_a w_0 w_pixels_a c_0 c_states_a c_favourites_a n_0 n_digits_a k_0 k_bytes_a p_pixels_k f_bytes_k f_starts_k f_ends_k s_layers_k u_pixels_k v_pixels_k w_pixels_k c_states_k c_favourites_k n_digits_k k_bytes_k s_layers_r t_anyLayerCoded p_pixels p_wide p_high f_bytes_47 f_starts f_ends f_length_47 f_wide f_high f_layerCount f_place s_plainRows u_pixels u_wide u_high v_pixels v_wide v_high w_pixels w_wide w_high c_states c_favourites c_span c_decisions c_doublings n_digits n_digitCount k_bytes k_byteCount k_nextDigit k_rest)[i]?) ([0, 1, 2, 7, 8, 9, 10, 11, 12, 13, 14, 15, 16, 17, 18, 19, 20, 21] : List Nat)) (va_runV (As := [.int (((i_bytes >>> (((8 : Int32) * x4_47).toInt64 &&& 63)).toInt32) &&& (255 : Int32))]) (rest := []) ⟨hx, hb, hml, hown, hts⟩ (c_Fil_append l dC dI f_0 f_bytes_a f_starts_a f_ends_a f_bytes_k f_starts_k f_ends_k (((i_bytes >>> (((8 : Int32) * x4_47).toInt64 &&& 63)).toInt32) &&& (255 : Int32)) f_bytes_47 f_starts f_ends f_length_47 f_wide f_high f_layerCount f_place z1  hz1 H.size) ⟨callB_of 1 hts (gT tt415 TT_good) rfl rfl rfl (hts _ tt47) (hts _ tt412) (by decide +kernel) ⟨Nat.le_of_ble_eq_true rfl, Nat.le_of_ble_eq_true rfl⟩, hts _ tt413, hts _ tt414⟩ (x_preV (q := (R_Fil, F_Fil, 8)) (As := [.int (((i_bytes >>> (((8 : Int32) * x4_47).toInt64 &&& 63)).toInt32) &&& (255 : Int32))]) (x_pre (wc := (W_F f_0 f_bytes_a f_starts_a f_ends_a f_bytes_k f_starts_k f_ends_k f_bytes_47 f_starts f_ends f_length_47 f_wide f_high f_layerCount f_place)) (av := (.ref f_0 :: [.int (((i_bytes >>> (((8 : Int32) * x4_47).toInt64 &&& 63)).toInt32) &&& (255 : Int32))])) hK hP hD hS hA hG [1, 2, 3] [3, 4, 5, 6] rfl rfl (by decide)) hK hP (q0 := 3) rfl rfl) rfl rfl hl.1 rfl (lv_room (Nat.le_of_ble_eq_true rfl)) d_Top_type_68 ⟨Nat.zero_le _, Nat.zero_le _⟩) hP hD hS hA [3, 4, 5, 6] [0, 1, 2, 7, 8, 9, 10, 11, 12, 13, 14, 15, 16, 17, 18, 19, 20, 21] [0, 1, 2, 18, 19, 20, 21, 3, 4, 5, 6, 7, 8, 9, 10, 11, 12, 13, 14, 15, 16, 17] rfl rfl (by decide) (by decide) (by decide) rfl (fun H locs hP hD hS => ?_)
        refine lv_iinc (k := 2) (v := x4_47 + (-1 : Int32)) (lv' := [(4, .int (x4_47 + (-1 : Int32))), (0, .ref t_0), (1, .long i_bytes)]) hx hb d_Top_type_71 hl rfl rfl (by decide) rfl (fun ls hl => ?_)
        refine lv_goto (tgt := 47) hx hb d_Top_type_74 rfl ?_
        exact ih47 (x4_47 + (-1 : Int32)) z1.1 z1.2 H locs ls (lv_sub hl [1, 2, 0] rfl) hP hD hS h
  have L11 : ∀ (f_bytes_11 : Nat → Int32) (f_length_11 : Int32) (H : Heap) (locs : List Loc) (ls : Array Slot), lv_has ls 5 [] → va_P (dC, dI) vcl (W_Top t_0 p_0 p_pixels_a f_0 f_bytes_a f_starts_a f_ends_a s_0 s_layers_a u_0 u_pixels_a v_0 v_pixels_a w_0 w_pixels_a c_0 c_states_a c_favourites_a n_0 n_digits_a k_0 k_bytes_a p_pixels_k f_bytes_k f_starts_k f_ends_k s_layers_k u_pixels_k v_pixels_k w_pixels_k c_states_k c_favourites_k n_digits_k k_bytes_k s_layers_r t_anyLayerCoded p_pixels p_wide p_high f_bytes_11 f_starts f_ends f_length_11 f_wide f_high f_layerCount f_place s_plainRows u_pixels u_wide u_high v_pixels v_wide v_high w_pixels w_wide w_high c_states c_favourites c_span c_decisions c_doublings n_digits n_digitCount k_bytes k_byteCount k_nextDigit k_rest) H → va_D A (W_Top t_0 p_0 p_pixels_a f_0 f_bytes_a f_starts_a f_ends_a s_0 s_layers_a u_0 u_pixels_a v_0 v_pixels_a w_0 w_pixels_a c_0 c_states_a c_favourites_a n_0 n_digits_a k_0 k_bytes_a p_pixels_k f_bytes_k f_starts_k f_ends_k s_layers_k u_pixels_k v_pixels_k w_pixels_k c_states_k c_favourites_k n_digits_k k_bytes_k s_layers_r t_anyLayerCoded p_pixels p_wide p_high f_bytes_11 f_starts f_ends f_length_11 f_wide f_high f_layerCount f_place s_plainRows u_pixels u_wide u_high v_pixels v_wide v_high w_pixels w_wide w_high c_states c_favourites c_span c_decisions c_doublings n_digits n_digitCount k_bytes k_byteCount k_nextDigit k_rest) → va_S A s.heap H locs → q_Top_type_11 i_bytes i_n  f_bytes_11 f_length_11 = some z → W p l e rm_Top_type s m args below meth c H locs 0 0 Q (F0 m 11 ls []) := by
    intro f_bytes_11 f_length_11 H locs ls hl hP hD hS hq11
    unfold q_Top_type_11 at hq11
    have h := hq11
    cases h
  have h := hq
  refine lv_iload_n hx hb d_Top_type_0 rfl (lv_at hl 2 rfl) ?_
  refine lv_iconst (v := (1 : Int32)) hx hb d_Top_type_1 (by decide) ?_
  refine lv_icmp_lt (tgt := 11) hx hb d_Top_type_2 rfl (fun hc => ?_) (fun hc => ?_)
  · replace h := ot hc h
    exact L11 f_bytes f_length H locs ls (lv_sub hl [] rfl) hP hD hS h
  · replace h := of hc h
    refine lv_iload_n hx hb d_Top_type_5 rfl (lv_at hl 2 rfl) ?_
    refine lv_bipush (v := (8 : Int32)) hx hb d_Top_type_6 (by decide) ?_
    refine lv_icmp_le (tgt := 19) hx hb d_Top_type_8 rfl (fun hc => ?_) (fun hc => ?_)
    · replace h := ot hc h
      refine lv_aload_n hx hb d_Top_type_19 rfl (lv_at hl 0 rfl) ?_
      refine va_get (D := (dC, dI)) (ci := 6) (v := .ref f_0) (C := R_Top) (T := F_Top) (N := 6) hx hb hts in_Top hown hK hP 0 rfl rfl 1 (by decide) (hts _ tt212) (fun _ h9 => h9) rfl d_Top_type_20 ?_
      refine va_getN (D := (dC, dI)) (ci := 2) (v := .int f_length) (C := R_Fil) (T := F_Fil) (N := 8) hx hb hts in_Fil hown hK hP 3 rfl rfl 3 (by decide) (va_Nw.use rfl (hN _ nn104)) (fun _ h9 => h9) rfl d_Top_type_23 ?_
      refine lv_iload_n hx hb d_Top_type_26 rfl (lv_at hl 2 rfl) ?_
      refine lv_iadd hx hb d_Top_type_27 ?_
      refine lv_sipush (v := (900 : Int32)) hx hb d_Top_type_28 (by decide) ?_
      refine lv_icmp_le (tgt := 42) hx hb d_Top_type_31 rfl (fun hc => ?_) (fun hc => ?_)
      · replace h := ot hc h
        refine lv_iload_n hx hb d_Top_type_42 rfl (lv_at hl 2 rfl) ?_
        refine lv_iconst (v := (1 : Int32)) hx hb d_Top_type_43 (by decide) ?_
        refine lv_isub hx hb d_Top_type_44 ?_
        refine lv_istore (lv' := [(4, .int (i_n - (1 : Int32))), (0, .ref t_0), (1, .long i_bytes), (3, .int i_n)]) hx hb d_Top_type_45 hl (by decide) rfl (fun ls hl => ?_)
        exact L47 5000 (i_n - (1 : Int32)) f_bytes f_length H locs ls (lv_sub hl [1, 2, 0] rfl) hP hD hS h
      · replace h := of hc h
        cases h
    · replace h := of hc h
      exact L11 f_bytes f_length H locs ls (lv_sub hl [] rfl) hP hD hS h
theorem d_Top_cut_0 : decode b_Top_cut 0 = .ok (.iload_n 1, 1) := by decide +kernel
theorem d_Top_cut_1 : decode b_Top_cut 1 = .ok (.ifCond .lt (14), 3) := by decide +kernel
theorem d_Top_cut_4 : decode b_Top_cut 4 = .ok (.iload_n 1, 1) := by decide +kernel
theorem d_Top_cut_5 : decode b_Top_cut 5 = .ok (.aload_n 0, 1) := by decide +kernel
theorem d_Top_cut_6 : decode b_Top_cut 6 = .ok (.getfield 19, 3) := by decide +kernel
theorem d_Top_cut_9 : decode b_Top_cut 9 = .ok (.getfield 107, 3) := by decide +kernel
theorem d_Top_cut_12 : decode b_Top_cut 12 = .ok (.if_icmp .le (11), 3) := by decide +kernel
theorem d_Top_cut_15 : decode b_Top_cut 15 = .ok (.new 48, 3) := by decide +kernel
theorem d_Top_cut_18 : decode b_Top_cut 18 = .ok (.dup, 1) := by decide +kernel
theorem d_Top_cut_19 : decode b_Top_cut 19 = .ok (.invokespecial 50, 3) := by decide +kernel
theorem d_Top_cut_22 : decode b_Top_cut 22 = .ok (.athrow, 1) := by decide +kernel
theorem d_Top_cut_23 : decode b_Top_cut 23 = .ok (.aload_n 0, 1) := by decide +kernel
theorem d_Top_cut_24 : decode b_Top_cut 24 = .ok (.getfield 19, 3) := by decide +kernel
theorem d_Top_cut_27 : decode b_Top_cut 27 = .ok (.iload_n 1, 1) := by decide +kernel
theorem d_Top_cut_28 : decode b_Top_cut 28 = .ok (.invokevirtual 89, 3) := by decide +kernel
theorem d_Top_cut_31 : decode b_Top_cut 31 = .ok (.return_, 1) := by decide +kernel
def q_Top_cut_15 (i_n : Int32)  (f_length_15 : Int32) : Option (Int32) := none
def q_Top_cut (i_n : Int32) (f_length : Int32) : Option (Int32) := (if i_n < 0 then (q_Top_cut_15 i_n  f_length) else (if i_n ≤ f_length then ((q_Fil_keep i_n f_length).bind fun z1 => some (z1)) else (q_Top_cut_15 i_n  f_length)))
abbrev rm_Top_cut : Room := { frames := 1, cells := 0, slots := 0, locals := 21 }
set_option maxHeartbeats 4000000 in
set_option maxRecDepth 100000 in
theorem c_Top_cut (l : Launch) (dC : Nat → ClassId) (dI : Nat → Nat → Nat) (t_0 p_0 p_pixels_a f_0 f_bytes_a f_starts_a f_ends_a s_0 s_layers_a u_0 u_pixels_a v_0 v_pixels_a w_0 w_pixels_a c_0 c_states_a c_favourites_a n_0 n_digits_a k_0 k_bytes_a : Nat) (p_pixels_k f_bytes_k f_starts_k f_ends_k s_layers_k u_pixels_k v_pixels_k w_pixels_k c_states_k c_favourites_k n_digits_k k_bytes_k : ClassId) (s_layers_r : Nat → Option Nat) (i_n : Int32) (t_anyLayerCoded : Int32) (p_pixels : Nat → Int32) (p_wide : Int32) (p_high : Int32) (f_bytes : Nat → Int32) (f_starts : Nat → Int32) (f_ends : Nat → Int32) (f_length : Int32) (f_wide : Int32) (f_high : Int32) (f_layerCount : Int32) (f_place : Int32) (s_plainRows : Int32) (u_pixels : Nat → Int32) (u_wide : Int32) (u_high : Int32) (v_pixels : Nat → Int32) (v_wide : Int32) (v_high : Int32) (w_pixels : Nat → Int32) (w_wide : Int32) (w_high : Int32) (c_states : Nat → Int32) (c_favourites : Nat → Int32) (c_span : Int32) (c_decisions : Int32) (c_doublings : Int32) (n_digits : Nat → Int32) (n_digitCount : Int32) (k_bytes : Nat → Int32) (k_byteCount : Int32) (k_nextDigit : Int32) (k_rest : Int32) (z : Int32) (hR0 : s_layers_r (0 : Int32).toNatClampNeg = some u_0) (hR1 : s_layers_r (1 : Int32).toNatClampNeg = some v_0) (hR2 : s_layers_r (2 : Int32).toNatClampNeg = some w_0) (hq : q_Top_cut i_n f_length = some z) (sz : Nat) : MetV l y_Top_cut b_Top_cut 2 TT rm_Top_cut (dC, dI) vcl [(p_pixels_k, .int), (f_bytes_k, .int), (f_starts_k, .int), (f_ends_k, .int), (s_layers_k, .object "LayeredBits$Picture"), (u_pixels_k, .int), (v_pixels_k, .int), (w_pixels_k, .int), (c_states_k, .int), (c_favourites_k, .int), (n_digits_k, .int), (k_bytes_k, .int)] (W_Top t_0 p_0 p_pixels_a f_0 f_bytes_a f_starts_a f_ends_a s_0 s_layers_a u_0 u_pixels_a v_0 v_pixels_a w_0 w_pixels_a c_0 c_states_a c_favourites_a n_0 n_digits_a k_0 k_bytes_a p_pixels_k f_bytes_k f_starts_k f_ends_k s_layers_k u_pixels_k v_pixels_k w_pixels_k c_states_k c_favourites_k n_digits_k k_bytes_k s_layers_r t_anyLayerCoded p_pixels p_wide p_high f_bytes f_starts f_ends f_length f_wide f_high f_layerCount f_place s_plainRows u_pixels u_wide u_high v_pixels v_wide v_high w_pixels w_wide w_high c_states c_favourites c_span c_decisions c_doublings n_digits n_digitCount k_bytes k_byteCount k_nextDigit k_rest) (W_Top t_0 p_0 p_pixels_a f_0 f_bytes_a f_starts_a f_ends_a s_0 s_layers_a u_0 u_pixels_a v_0 v_pixels_a w_0 w_pixels_a c_0 c_states_a c_favourites_a n_0 n_digits_a k_0 k_bytes_a p_pixels_k f_bytes_k f_starts_k f_ends_k s_layers_k u_pixels_k v_pixels_k w_pixels_k c_states_k c_favourites_k n_digits_k k_bytes_k s_layers_r t_anyLayerCoded p_pixels p_wide p_high f_bytes f_starts f_ends z f_wide f_high f_layerCount f_place s_plainRows u_pixels u_wide u_high v_pixels v_wide v_high w_pixels w_wide w_high c_states c_favourites c_span c_decisions c_doublings n_digits n_digitCount k_bytes k_byteCount k_nextDigit k_rest) [.ref t_0, .int i_n] sz := by
  refine x_ofV (by decide) (Nat.le_of_ble_eq_true rfl) ?_ sz
  intro p e s m args below meth c A Q ls hx hb hml hown hts hA hG hK hP hD hS hl hret
  have hown : s.vm.findClass R_Top = some m.cls := hown
  have hl : lv_has ls 2 [(0, .ref t_0), (1, .int i_n)] := hl
  obtain ⟨⟨tq, hZ, hTq⟩, hN⟩ := id hG
  obtain ⟨H, hH⟩ : ∃ H, H = s.heap := ⟨_, rfl⟩
  obtain ⟨locs, hlocs⟩ : ∃ locs : List Loc, locs = [] := ⟨_, rfl⟩
  rw [← hH] at hP
  have hS : va_S A s.heap H locs := by rw [hH, hlocs]; exact hS
  suffices hgo : W p l e rm_Top_cut s m args below meth c H locs 0 0 Q (F0 m 0 ls []) by rw [hH, hlocs] at hgo; exact hgo
  unfold q_Top_cut at hq
  have L15 : ∀ (f_length_15 : Int32) (H : Heap) (locs : List Loc) (ls : Array Slot), lv_has ls 2 [] → va_P (dC, dI) vcl (W_Top t_0 p_0 p_pixels_a f_0 f_bytes_a f_starts_a f_ends_a s_0 s_layers_a u_0 u_pixels_a v_0 v_pixels_a w_0 w_pixels_a c_0 c_states_a c_favourites_a n_0 n_digits_a k_0 k_bytes_a p_pixels_k f_bytes_k f_starts_k f_ends_k s_layers_k u_pixels_k v_pixels_k w_pixels_k c_states_k c_favourites_k n_digits_k k_bytes_k s_layers_r t_anyLayerCoded p_pixels p_wide p_high f_bytes f_starts f_ends f_length_15 f_wide f_high f_layerCount f_place s_plainRows u_pixels u_wide u_high v_pixels v_wide v_high w_pixels w_wide w_high c_states c_favourites c_span c_decisions c_doublings n_digits n_digitCount k_bytes k_byteCount k_nextDigit k_rest) H → va_D A (W_Top t_0 p_0 p_pixels_a f_0 f_bytes_a f_starts_a f_ends_a s_0 s_layers_a u_0 u_pixels_a v_0 v_pixels_a w_0 w_pixels_a c_0 c_states_a c_favourites_a n_0 n_digits_a k_0 k_bytes_a p_pixels_k f_bytes_k f_starts_k f_ends_k s_layers_k u_pixels_k v_pixels_k w_pixels_k c_states_k c_favourites_k n_digits_k k_bytes_k s_layers_r t_anyLayerCoded p_pixels p_wide p_high f_bytes f_starts f_ends f_length_15 f_wide f_high f_layerCount f_place s_plainRows u_pixels u_wide u_high v_pixels v_wide v_high w_pixels w_wide w_high c_states c_favourites c_span c_decisions c_doublings n_digits n_digitCount k_bytes k_byteCount k_nextDigit k_rest) → va_S A s.heap H locs → q_Top_cut_15 i_n  f_length_15 = some z → W p l e rm_Top_cut s m args below meth c H locs 0 0 Q (F0 m 15 ls []) := by
    intro f_length_15 H locs ls hl hP hD hS hq15
    unfold q_Top_cut_15 at hq15
    have h := hq15
    cases h
  have h := hq
  refine lv_iload_n hx hb d_Top_cut_0 rfl (lv_at hl 1 rfl) ?_
  refine lv_if_lt (tgt := 15) hx hb d_Top_cut_1 rfl (fun hc => ?_) (fun hc => ?_)
  · replace h := ot hc h
    exact L15 f_length H locs ls (lv_sub hl [] rfl) hP hD hS h
  · replace h := of hc h
    refine lv_iload_n hx hb d_Top_cut_4 rfl (lv_at hl 1 rfl) ?_
    refine lv_aload_n hx hb d_Top_cut_5 rfl (lv_at hl 0 rfl) ?_
    refine va_get (D := (dC, dI)) (ci := 6) (v := .ref f_0) (C := R_Top) (T := F_Top) (N := 6) hx hb hts in_Top hown hK hP 0 rfl rfl 1 (by decide) (hts _ tt212) (fun _ h9 => h9) rfl d_Top_cut_6 ?_
    refine va_getN (D := (dC, dI)) (ci := 2) (v := .int f_length) (C := R_Fil) (T := F_Fil) (N := 8) hx hb hts in_Fil hown hK hP 3 rfl rfl 3 (by decide) (va_Nw.use rfl (hN _ nn104)) (fun _ h9 => h9) rfl d_Top_cut_9 ?_
    refine lv_icmp_le (tgt := 23) hx hb d_Top_cut_12 rfl (fun hc => ?_) (fun hc => ?_)
    · replace h := ot hc h
      refine lv_aload_n hx hb d_Top_cut_23 rfl (lv_at hl 0 rfl) ?_
      refine va_get (D := (dC, dI)) (ci := 6) (v := .ref f_0) (C := R_Top) (T := F_Top) (N := 6) hx hb hts in_Top hown hK hP 0 rfl rfl 1 (by decide) (hts _ tt212) (fun _ h9 => h9) rfl d_Top_cut_24 ?_
      refine lv_iload_n hx hb d_Top_cut_27 rfl (lv_at hl 1 rfl) ?_
      obtain ⟨z1, hz1, h⟩ := ob h
      refine x_goV (w1 := (W_F f_0 f_bytes_a f_starts_a f_ends_a f_bytes_k f_starts_k f_ends_k f_bytes f_starts f_ends z1 f_wide f_high f_layerCount f_place)) (ws' := (W_Top t_0 p_0 p_pixels_a f_0 f_bytes_a f_starts_a f_ends_a s_0 s_layers_a u_0 u_pixels_a v_0 v_pixels_a w_0 w_pixels_a c_0 c_states_a c_favourites_a n_0 n_digits_a k_0 k_bytes_a p_pixels_k f_bytes_k f_starts_k f_ends_k s_layers_k u_pixels_k v_pixels_k w_pixels_k c_states_k c_favourites_k n_digits_k k_bytes_k s_layers_r t_anyLayerCoded p_pixels p_wide p_high f_bytes f_starts f_ends z1 f_wide f_high f_layerCount f_place s_plainRows u_pixels u_wide u_high v_pixels v_wide v_high w_pixels w_wide w_high c_states c_favourites c_span c_decisions c_doublings n_digits n_digitCount k_bytes k_byteCount k_nextDigit k_rest)) (wr := List.filterMap (fun (i : Nat) => (W_Top t_0 p_0 p_pixels_a f_0 f_bytes_a f_starts_a f_ends_a s_0 s_layers_a u_0 u_pixels_a v_0 v_pixels_a w_0 w_pixels_a c_0 c_states_a c_favourites_a n_0 n_digits_a k_0 k_bytes_a p_pixels_k f_bytes_k f_starts_k f_ends_k s_layers_k u_pixels_k v_pixels_k w_pixels_k c_states_k c_favourites_k n_digits_k k_bytes_k s_layers_r t_anyLayerCoded p_pixels p_wide p_high f_bytes f_starts f_ends f_length f_wide f_high f_layerCount f_place s_plainRows u_pixels u_wide u_high v_pixels v_wide v_high w_pixels w_wide w_high c_states c_favourites c_span c_decisions c_doublings n_digits n_digitCount k_bytes k_byteCount k_nextDigit k_rest)[i]?) ([0, 1, 2, 7, 8, 9, 10, 11, 12, 13, 14, 15, 16, 17, 18, 19, 20, 21] : List Nat)) (va_runV (As := [.int i_n]) (rest := []) ⟨hx, hb, hml, hown, hts⟩ (c_Fil_keep l dC dI f_0 f_bytes_a f_starts_a f_ends_a f_bytes_k f_starts_k f_ends_k i_n f_bytes f_starts f_ends f_length f_wide f_high f_layerCount f_place z1  hz1 H.size) ⟨callB_of 1 hts (gT tt411 TT_good) rfl rfl rfl (hts _ tt47) (hts _ tt408) (by decide +kernel) ⟨Nat.le_of_ble_eq_true rfl, Nat.le_of_ble_eq_true rfl⟩, hts _ tt409, hts _ tt410⟩ (x_preV (q := (R_Fil, F_Fil, 8)) (As := [.int i_n]) (x_pre (wc := (W_F f_0 f_bytes_a f_starts_a f_ends_a f_bytes_k f_starts_k f_ends_k f_bytes f_starts f_ends f_length f_wide f_high f_layerCount f_place)) (av := (.ref f_0 :: [.int i_n])) hK hP hD hS hA hG [1, 2, 3] [3, 4, 5, 6] rfl rfl (by decide)) hK hP (q0 := 3) rfl rfl) rfl rfl hl.1 rfl (lv_room (Nat.le_of_ble_eq_true rfl)) d_Top_cut_28 ⟨Nat.zero_le _, Nat.zero_le _⟩) hP hD hS hA [3, 4, 5, 6] [0, 1, 2, 7, 8, 9, 10, 11, 12, 13, 14, 15, 16, 17, 18, 19, 20, 21] [0, 1, 2, 18, 19, 20, 21, 3, 4, 5, 6, 7, 8, 9, 10, 11, 12, 13, 14, 15, 16, 17] rfl rfl (by decide) (by decide) (by decide) rfl (fun H locs hP hD hS => ?_)
      obtain rfl := Option.some.inj h
      exact hret H locs 31 ls d_Top_cut_31 hP hD hS
    · replace h := of hc h
      exact L15 f_length H locs ls (lv_sub hl [] rfl) hP hD hS h
