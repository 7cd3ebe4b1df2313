def W_U (s_0 s_layers_a u_0 u_pixels_a v_0 v_pixels_a w_0 w_pixels_a : Nat) (s_layers_k u_pixels_k v_pixels_k w_pixels_k : ClassId) (s_coder_p : Nat) (s_layers_r : Nat → Option Nat) (s_plainRows : Int32) (u_pixels : Nat → Int32) (u_wide : Int32) (u_high : Int32) (v_pixels : Nat → Int32) (v_wide : Int32) (v_high : Int32) (w_pixels : Nat → Int32) (w_wide : Int32) (w_high : Int32) : va_W := [(s_0, .inr (1, [.ref s_layers_a, .ref s_coder_p, .int s_plainRows])), (s_layers_a, .inl (s_layers_k, 3, .inr (.inr (.inr (.inr s_layers_r))))), (u_0, .inr (4, [.ref u_pixels_a, .int u_wide, .int u_high])), (u_pixels_a, .inl (u_pixels_k, 256, .inl u_pixels)), (v_0, .inr (4, [.ref v_pixels_a, .int v_wide, .int v_high])), (v_pixels_a, .inl (v_pixels_k, 256, .inl v_pixels)), (w_0, .inr (4, [.ref w_pixels_a, .int w_wide, .int w_high])), (w_pixels_a, .inl (w_pixels_k, 256, .inl w_pixels))]
def W_UP (s_0 s_layers_a u_0 u_pixels_a v_0 v_pixels_a w_0 w_pixels_a p_0 p_pixels_a : Nat) (s_layers_k u_pixels_k v_pixels_k w_pixels_k p_pixels_k : ClassId) (s_coder_p : Nat) (s_layers_r : Nat → Option Nat) (s_plainRows : Int32) (u_pixels : Nat → Int32) (u_wide : Int32) (u_high : Int32) (v_pixels : Nat → Int32) (v_wide : Int32) (v_high : Int32) (w_pixels : Nat → Int32) (w_wide : Int32) (w_high : Int32) (p_pixels : Nat → Int32) (p_wide : Int32) (p_high : Int32) : va_W := [(s_0, .inr (1, [.ref s_layers_a, .ref s_coder_p, .int s_plainRows])), (s_layers_a, .inl (s_layers_k, 3, .inr (.inr (.inr (.inr s_layers_r))))), (u_0, .inr (4, [.ref u_pixels_a, .int u_wide, .int u_high])), (u_pixels_a, .inl (u_pixels_k, 256, .inl u_pixels)), (v_0, .inr (4, [.ref v_pixels_a, .int v_wide, .int v_high])), (v_pixels_a, .inl (v_pixels_k, 256, .inl v_pixels)), (w_0, .inr (4, [.ref w_pixels_a, .int w_wide, .int w_high])), (w_pixels_a, .inl (w_pixels_k, 256, .inl w_pixels)), (p_0, .inr (4, [.ref p_pixels_a, .int p_wide, .int p_high])), (p_pixels_a, .inl (p_pixels_k, 256, .inl p_pixels))]
theorem d_Arr_rangeCheck_0 : decode b_Arr_rangeCheck 0 = .ok (.iload_n 1, 1) := by decide +kernel
theorem d_Arr_rangeCheck_1 : decode b_Arr_rangeCheck 1 = .ok (.iload_n 2, 1) := by decide +kernel
theorem d_Arr_rangeCheck_2 : decode b_Arr_rangeCheck 2 = .ok (.if_icmp .le (44), 3) := by decide +kernel
theorem d_Arr_rangeCheck_5 : decode b_Arr_rangeCheck 5 = .ok (.new 43, 3) := by decide +kernel
theorem d_Arr_rangeCheck_8 : decode b_Arr_rangeCheck 8 = .ok (.dup, 1) := by decide +kernel
theorem d_Arr_rangeCheck_9 : decode b_Arr_rangeCheck 9 = .ok (.new 45, 3) := by decide +kernel
theorem d_Arr_rangeCheck_12 : decode b_Arr_rangeCheck 12 = .ok (.dup, 1) := by decide +kernel
theorem d_Arr_rangeCheck_13 : decode b_Arr_rangeCheck 13 = .ok (.invokespecial 47, 3) := by decide +kernel
theorem d_Arr_rangeCheck_16 : decode b_Arr_rangeCheck 16 = .ok (.ldc 48, 2) := by decide +kernel
theorem d_Arr_rangeCheck_18 : decode b_Arr_rangeCheck 18 = .ok (.invokevirtual 50, 3) := by decide +kernel
theorem d_Arr_rangeCheck_21 : decode b_Arr_rangeCheck 21 = .ok (.iload_n 1, 1) := by decide +kernel
theorem d_Arr_rangeCheck_22 : decode b_Arr_rangeCheck 22 = .ok (.invokevirtual 54, 3) := by decide +kernel
theorem d_Arr_rangeCheck_25 : decode b_Arr_rangeCheck 25 = .ok (.ldc 57, 2) := by decide +kernel
theorem d_Arr_rangeCheck_27 : decode b_Arr_rangeCheck 27 = .ok (.invokevirtual 50, 3) := by decide +kernel
theorem d_Arr_rangeCheck_30 : decode b_Arr_rangeCheck 30 = .ok (.iload_n 2, 1) := by decide +kernel
theorem d_Arr_rangeCheck_31 : decode b_Arr_rangeCheck 31 = .ok (.invokevirtual 54, 3) := by decide +kernel
theorem d_Arr_rangeCheck_34 : decode b_Arr_rangeCheck 34 = .ok (.ldc 59, 2) := by decide +kernel
theorem d_Arr_rangeCheck_36 : decode b_Arr_rangeCheck 36 = .ok (.invokevirtual 50, 3) := by decide +kernel
theorem d_Arr_rangeCheck_39 : decode b_Arr_rangeCheck 39 = .ok (.invokevirtual 61, 3) := by decide +kernel
theorem d_Arr_rangeCheck_42 : decode b_Arr_rangeCheck 42 = .ok (.invokespecial 65, 3) := by decide +kernel
theorem d_Arr_rangeCheck_45 : decode b_Arr_rangeCheck 45 = .ok (.athrow, 1) := by decide +kernel
theorem d_Arr_rangeCheck_46 : decode b_Arr_rangeCheck 46 = .ok (.iload_n 1, 1) := by decide +kernel
theorem d_Arr_rangeCheck_47 : decode b_Arr_rangeCheck 47 = .ok (.ifCond .ge (12), 3) := by decide +kernel
theorem d_Arr_rangeCheck_50 : decode b_Arr_rangeCheck 50 = .ok (.new 68, 3) := by decide +kernel
theorem d_Arr_rangeCheck_53 : decode b_Arr_rangeCheck 53 = .ok (.dup, 1) := by decide +kernel
theorem d_Arr_rangeCheck_54 : decode b_Arr_rangeCheck 54 = .ok (.iload_n 1, 1) := by decide +kernel
theorem d_Arr_rangeCheck_55 : decode b_Arr_rangeCheck 55 = .ok (.invokespecial 70, 3) := by decide +kernel
theorem d_Arr_rangeCheck_58 : decode b_Arr_rangeCheck 58 = .ok (.athrow, 1) := by decide +kernel
theorem d_Arr_rangeCheck_59 : decode b_Arr_rangeCheck 59 = .ok (.iload_n 2, 1) := by decide +kernel
theorem d_Arr_rangeCheck_60 : decode b_Arr_rangeCheck 60 = .ok (.iload_n 0, 1) := by decide +kernel
theorem d_Arr_rangeCheck_61 : decode b_Arr_rangeCheck 61 = .ok (.if_icmp .le (12), 3) := by decide +kernel
theorem d_Arr_rangeCheck_64 : decode b_Arr_rangeCheck 64 = .ok (.new 68, 3) := by decide +kernel
theorem d_Arr_rangeCheck_67 : decode b_Arr_rangeCheck 67 = .ok (.dup, 1) := by decide +kernel
theorem d_Arr_rangeCheck_68 : decode b_Arr_rangeCheck 68 = .ok (.iload_n 2, 1) := by decide +kernel
theorem d_Arr_rangeCheck_69 : decode b_Arr_rangeCheck 69 = .ok (.invokespecial 70, 3) := by decide +kernel
theorem d_Arr_rangeCheck_72 : decode b_Arr_rangeCheck 72 = .ok (.athrow, 1) := by decide +kernel
theorem d_Arr_rangeCheck_73 : decode b_Arr_rangeCheck 73 = .ok (.return_, 1) := by decide +kernel
def q_rangeCheck (i_n : Int32) (i_from : Int32) (i_to : Int32)  : Option (Unit) := (if i_from ≤ i_to then (if 0 ≤ i_from then (if i_to ≤ i_n then some () else none) else none) else none)
abbrev rm_rangeCheck : Room := { frames := 0, cells := 0, slots := 0, locals := 0 }
set_option maxHeartbeats 4000000 in
set_option maxRecDepth 100000 in
theorem c_rangeCheck (l : Launch) (dC : Nat → ClassId) (dI : Nat → Nat → Nat)  (i_n : Int32) (i_from : Int32) (i_to : Int32)  (z : Unit)  (hq : q_rangeCheck i_n i_from i_to = some z) (sz : Nat) : MetV l y_Arr_rangeCheck b_Arr_rangeCheck 3 TT rm_rangeCheck (dC, dI) vcl [] (W_0  ) (W_0  ) [.int i_n, .int i_from, .int i_to] sz := by
  refine x_ofV (by decide) (Nat.le_of_ble_eq_true rfl) ?_ sz
  intro p e s m args below meth c A Q ls hx hb hml hown hts hA hG hK hP hD hS hl hret
  have hown : s.vm.findClass R_Arr = some m.cls := hown
  have hl : lv_has ls 3 [(0, .int i_n), (1, .int i_from), (2, .int i_to)] := hl
  obtain ⟨⟨tq, hZ, hTq⟩, hN⟩ := id hG
  obtain ⟨H, hH⟩ : ∃ H, H = s.heap := ⟨_, rfl⟩
  obtain ⟨locs, hlocs⟩ : ∃ locs : List Loc, locs = [] := ⟨_, rfl⟩
  rw [← hH] at hP
  have hS : va_S A s.heap H locs := by rw [hH, hlocs]; exact hS
  suffices hgo : W p l e rm_rangeCheck s m args below meth c H locs 0 0 Q (F0 m 0 ls []) by rw [hH, hlocs] at hgo; exact hgo
  unfold q_rangeCheck at hq
  have h := hq
  refine lv_iload_n hx hb d_Arr_rangeCheck_0 rfl (lv_at hl 1 rfl) ?_
  refine lv_iload_n hx hb d_Arr_rangeCheck_1 rfl (lv_at hl 2 rfl) ?_
  refine lv_icmp_le (tgt := 46) hx hb d_Arr_rangeCheck_2 rfl (fun hc => ?_) (fun hc => ?_)
  · replace h := ot hc h
    refine lv_iload_n hx hb d_Arr_rangeCheck_46 rfl (lv_at hl 1 rfl) ?_
    refine lv_if_ge (tgt := 59) hx hb d_Arr_rangeCheck_47 rfl (fun hc => ?_) (fun hc => ?_)
    · replace h := ot hc h
      refine lv_iload_n hx hb d_Arr_rangeCheck_59 rfl (lv_at hl 2 rfl) ?_
      refine lv_iload_n hx hb d_Arr_rangeCheck_60 rfl (lv_at hl 0 rfl) ?_
      refine lv_icmp_le (tgt := 73) hx hb d_Arr_rangeCheck_61 rfl (fun hc => ?_) (fun hc => ?_)
      · replace h := ot hc h
        obtain rfl := Option.some.inj h
        exact hret H locs 73 ls d_Arr_rangeCheck_73 hP hD hS
      · replace h := of hc h
        cases h
    · replace h := of hc h
      cases h
  · replace h := of hc h
    cases h
theorem d_Arr_fill4_0 : decode b_Arr_fill4 0 = .ok (.aload_n 0, 1) := by decide +kernel
theorem d_Arr_fill4_1 : decode b_Arr_fill4 1 = .ok (.arraylength, 1) := by decide +kernel
theorem d_Arr_fill4_2 : decode b_Arr_fill4 2 = .ok (.iload_n 1, 1) := by decide +kernel
theorem d_Arr_fill4_3 : decode b_Arr_fill4 3 = .ok (.iload_n 2, 1) := by decide +kernel
theorem d_Arr_fill4_4 : decode b_Arr_fill4 4 = .ok (.invokestatic 13, 3) := by decide +kernel
theorem d_Arr_fill4_7 : decode b_Arr_fill4 7 = .ok (.iload_n 1, 1) := by decide +kernel
theorem d_Arr_fill4_8 : decode b_Arr_fill4 8 = .ok (.istore 4, 2) := by decide +kernel
theorem d_Arr_fill4_10 : decode b_Arr_fill4 10 = .ok (.iload 4, 2) := by decide +kernel
theorem d_Arr_fill4_12 : decode b_Arr_fill4 12 = .ok (.iload_n 2, 1) := by decide +kernel
theorem d_Arr_fill4_13 : decode b_Arr_fill4 13 = .ok (.if_icmp .ge (14), 3) := by decide +kernel
theorem d_Arr_fill4_16 : decode b_Arr_fill4 16 = .ok (.aload_n 0, 1) := by decide +kernel
theorem d_Arr_fill4_17 : decode b_Arr_fill4 17 = .ok (.iload 4, 2) := by decide +kernel
theorem d_Arr_fill4_19 : decode b_Arr_fill4 19 = .ok (.iload_n 3, 1) := by decide +kernel
theorem d_Arr_fill4_20 : decode b_Arr_fill4 20 = .ok (.iastore, 1) := by decide +kernel
theorem d_Arr_fill4_21 : decode b_Arr_fill4 21 = .ok (.iinc 4 (1), 3) := by decide +kernel
theorem d_Arr_fill4_24 : decode b_Arr_fill4 24 = .ok (.goto (-14), 3) := by decide +kernel
theorem d_Arr_fill4_27 : decode b_Arr_fill4 27 = .ok (.return_, 1) := by decide +kernel
def q_fill2464_10 (i_from : Int32) (i_to : Int32) (i_v : Int32)  : Nat → Int32 → (Nat → Int32) → Option ((Nat → Int32))
  | 0, _, _ => none
  | n + 1, x4_10, a_arr_10 => (if i_to ≤ x4_10 then some (a_arr_10) else (if vpb x4_10 2464 = true then (q_fill2464_10 i_from i_to i_v n (x4_10 + (1 : Int32)) (upd a_arr_10 x4_10.toNatClampNeg i_v)) else none))
def q_fill2464 (i_from : Int32) (i_to : Int32) (i_v : Int32) (a_arr : Nat → Int32) : Option ((Nat → Int32)) := ((q_rangeCheck (2464 : Int32) i_from i_to).bind fun z1 => (q_fill2464_10 i_from i_to i_v  5000 i_from a_arr))
abbrev rm_fill2464 : Room := { frames := 1, cells := 0, slots := 0, locals := 22 }
set_option maxHeartbeats 4000000 in
set_option maxRecDepth 100000 in
theorem c_fill2464 (l : Launch) (dC : Nat → ClassId) (dI : Nat → Nat → Nat) (a_arr_a : Nat) (a_arr_k : ClassId) (i_from : Int32) (i_to : Int32) (i_v : Int32) (a_arr : Nat → Int32) (z : (Nat → Int32))  (hq : q_fill2464 i_from i_to i_v a_arr = some z) (sz : Nat) : MetV l y_Arr_fill4 b_Arr_fill4 5 TT rm_fill2464 (dC, dI) vcl [(a_arr_k, .int)] (W_A2464 a_arr_a a_arr_k a_arr) (W_A2464 a_arr_a a_arr_k z) [.ref a_arr_a, .int i_from, .int i_to, .int i_v] sz := by
  refine x_ofV (by decide) (Nat.le_of_ble_eq_true rfl) ?_ sz
  intro p e s m args below meth c A Q ls hx hb hml hown hts hA hG hK hP hD hS hl hret
  have hown : s.vm.findClass R_Arr = some m.cls := hown
  have hl : lv_has ls 5 [(0, .ref a_arr_a), (1, .int i_from), (2, .int i_to), (3, .int i_v)] := hl
  obtain ⟨⟨tq, hZ, hTq⟩, hN⟩ := id hG
  obtain ⟨H, hH⟩ : ∃ H, H = s.heap := ⟨_, rfl⟩
  obtain ⟨locs, hlocs⟩ : ∃ locs : List Loc, locs = [] := ⟨_, rfl⟩
  rw [← hH] at hP
  have hS : va_S A s.heap H locs := by rw [hH, hlocs]; exact hS
  suffices hgo : W p l e rm_fill2464 s m args below meth c H locs 0 0 Q (F0 m 0 ls []) by rw [hH, hlocs] at hgo; exact hgo
  unfold q_fill2464 at hq
  have L10 : ∀ (n10 : Nat) (x4_10 : Int32) (a_arr_10 : Nat → Int32) (H : Heap) (locs : List Loc) (ls : Array Slot), lv_has ls 5 [(0, .ref a_arr_a), (2, .int i_to), (3, .int i_v), (4, .int x4_10)] → va_P (dC, dI) vcl (W_A2464 a_arr_a a_arr_k a_arr_10) H → va_D A (W_A2464 a_arr_a a_arr_k a_arr_10) → va_S A s.heap H locs → q_fill2464_10 i_from i_to i_v  n10 x4_10 a_arr_10 = some z → W p l e rm_fill2464 s m args below meth c H locs 0 0 Q (F0 m 10 ls []) := by
    intro n10
    induction n10 with
    | zero =>
      intro x4_10 a_arr_10 H locs ls hl hP hD hS hq
      rw [q_fill2464_10] at hq
      cases hq
    | succ n10 ih10 =>
      intro x4_10 a_arr_10 H locs ls hl hP hD hS hq10
      rw [q_fill2464_10] at hq10
      have h := hq10
      refine lv_iload hx hb d_Arr_fill4_10 (lv_at hl 3 rfl) ?_
      refine lv_iload_n hx hb d_Arr_fill4_12 rfl (lv_at hl 1 rfl) ?_
      refine lv_icmp_ge (tgt := 27) hx hb d_Arr_fill4_13 rfl (fun hc => ?_) (fun hc => ?_)
      · replace h := ot hc h
        obtain rfl := Option.some.inj h
        exact hret H locs 27 ls d_Arr_fill4_27 hP hD hS
      · replace h := of hc h
        refine lv_aload_n hx hb d_Arr_fill4_16 rfl (lv_at hl 0 rfl) ?_
        refine lv_iload hx hb d_Arr_fill4_17 (lv_at hl 3 rfl) ?_
        refine lv_iload_n hx hb d_Arr_fill4_19 rfl (lv_at hl 2 rfl) ?_
        obtain ⟨hin, h⟩ := og h
        refine va_iast hx hb hK hP hD hS 0 0 rfl rfl (vpb_in hin) d_Arr_fill4_20 (fun H locs hP hD hS => ?_)
        have hP : va_P (dC, dI) vcl (W_A2464 a_arr_a a_arr_k (upd a_arr_10 x4_10.toNatClampNeg i_v)) H := hP
        have hD : va_D A (W_A2464 a_arr_a a_arr_k (upd a_arr_10 x4_10.toNatClampNeg i_v)) := hD
        refine lv_iinc (k := 3) (v := x4_10 + (1 : Int32)) (lv' := [(4, .int (x4_10 + (1 : Int32))), (0, .ref a_arr_a), (2, .int i_to), (3, .int i_v)]) hx hb d_Arr_fill4_21 hl rfl rfl (by decide) rfl (fun ls hl => ?_)
        refine lv_goto (tgt := 10) hx hb d_Arr_fill4_24 rfl ?_
        exact ih10 (x4_10 + (1 : Int32)) (upd a_arr_10 x4_10.toNatClampNeg i_v) H locs ls (lv_sub hl [1, 2, 3, 0] rfl) hP hD hS h
  have h := hq
  refine lv_aload_n hx hb d_Arr_fill4_0 rfl (lv_at hl 0 rfl) ?_
  refine va_alen (v := (2464 : Int32)) hx hb hK hP 0 0 rfl rfl rfl d_Arr_fill4_1 ?_
  refine lv_iload_n hx hb d_Arr_fill4_2 rfl (lv_at hl 1 rfl) ?_
  refine lv_iload_n hx hb d_Arr_fill4_3 rfl (lv_at hl 2 rfl) ?_
  obtain ⟨z1, hz1, h⟩ := ob h
  refine x_goV (w1 := (W_0  )) (ws' := (W_A2464 a_arr_a a_arr_k a_arr)) (wr := List.filterMap (fun (i : Nat) => (W_A2464 a_arr_a a_arr_k a_arr)[i]?) ([0] : List Nat)) (va_runS (As := [.int (2464 : Int32), .int i_from, .int i_to]) (rest := []) ⟨hx, hb, hml, hown, hts⟩ (c_rangeCheck l dC dI  (2464 : Int32) i_from i_to  z1  hz1 H.size) ⟨callB_of 3 hts (gT tt425 TT_good) rfl rfl rfl (hts _ tt58) (hts _ tt423) (by decide +kernel) ⟨Nat.le_of_ble_eq_true rfl, Nat.le_of_ble_eq_true rfl⟩, hts _ tt424⟩ (x_pre (wc := (W_0  )) (av := [.int (2464 : Int32), .int i_from, .int i_to]) hK hP hD hS hA hG [] [] rfl rfl (by decide)) rfl rfl hl.1 rfl (lv_room (Nat.le_of_ble_eq_true rfl)) d_Arr_fill4_4 ⟨Nat.zero_le _, Nat.zero_le _⟩) hP hD hS hA [] [0] [0] rfl rfl (by decide) (by decide) (by decide) rfl (fun H locs hP hD hS => ?_)
  refine lv_iload_n hx hb d_Arr_fill4_7 rfl (lv_at hl 1 rfl) ?_
  refine lv_istore (lv' := [(4, .int i_from), (0, .ref a_arr_a), (1, .int i_from), (2, .int i_to), (3, .int i_v)]) hx hb d_Arr_fill4_8 hl (by decide) rfl (fun ls hl => ?_)
  exact L10 5000 i_from a_arr H locs ls (lv_sub hl [1, 3, 4, 0] rfl) hP hD hS h
theorem d_Mad_begin_0 : decode b_Mad_begin 0 = .ok (.aload_n 0, 1) := by decide +kernel
theorem d_Mad_begin_1 : decode b_Mad_begin 1 = .ok (.bipush (16), 2) := by decide +kernel
theorem d_Mad_begin_3 : decode b_Mad_begin 3 = .ok (.putfield 15, 3) := by decide +kernel
theorem d_Mad_begin_6 : decode b_Mad_begin 6 = .ok (.aload_n 0, 1) := by decide +kernel
theorem d_Mad_begin_7 : decode b_Mad_begin 7 = .ok (.getfield 9, 3) := by decide +kernel
theorem d_Mad_begin_10 : decode b_Mad_begin 10 = .ok (.iconst (0), 1) := by decide +kernel
theorem d_Mad_begin_11 : decode b_Mad_begin 11 = .ok (.bipush (16), 2) := by decide +kernel
theorem d_Mad_begin_13 : decode b_Mad_begin 13 = .ok (.iconst (0), 1) := by decide +kernel
theorem d_Mad_begin_14 : decode b_Mad_begin 14 = .ok (.invokestatic 19, 3) := by decide +kernel
theorem d_Mad_begin_17 : decode b_Mad_begin 17 = .ok (.return_, 1) := by decide +kernel
def q_Mad_begin  (n_digits : Nat → Int32) (n_digitCount : Int32) : Option ((Nat → Int32) × Int32) := ((q_fill2464 (0 : Int32) (16 : Int32) (0 : Int32) n_digits).bind fun z1 => some (z1, (16 : Int32)))
abbrev rm_Mad_begin : Room := { frames := 2, cells := 0, slots := 0, locals := 46 }
set_option maxHeartbeats 4000000 in
set_option maxRecDepth 100000 in
theorem c_Mad_begin (l : Launch) (dC : Nat → ClassId) (dI : Nat → Nat → Nat) (n_0 n_digits_a : Nat) (n_digits_k : ClassId)  (n_digits : Nat → Int32) (n_digitCount : Int32) (z : (Nat → Int32) × Int32)  (hq : q_Mad_begin n_digits n_digitCount = some z) (sz : Nat) : MetV l y_Mad_begin b_Mad_begin 1 TT rm_Mad_begin (dC, dI) vcl [(n_digits_k, .int)] (W_M n_0 n_digits_a n_digits_k n_digits n_digitCount) (W_M n_0 n_digits_a n_digits_k z.1 z.2) [.ref n_0] sz := by
  refine x_ofV (by decide) (Nat.le_of_ble_eq_true rfl) ?_ sz
  intro p e s m args below meth c A Q ls hx hb hml hown hts hA hG hK hP hD hS hl hret
  have hown : s.vm.findClass R_Mad = some m.cls := hown
  have hl : lv_has ls 1 [(0, .ref n_0)] := hl
  obtain ⟨⟨tq, hZ, hTq⟩, hN⟩ := id hG
  obtain ⟨H, hH⟩ : ∃ H, H = s.heap := ⟨_, rfl⟩
  obtain ⟨locs, hlocs⟩ : ∃ locs : List Loc, locs = [] := ⟨_, rfl⟩
  rw [← hH] at hP
  have hS : va_S A s.heap H locs := by rw [hH, hlocs]; exact hS
  suffices hgo : W p l e rm_Mad_begin s m args below meth c H locs 0 0 Q (F0 m 0 ls []) by rw [hH, hlocs] at hgo; exact hgo
  unfold q_Mad_begin at hq
  have h := hq
  refine lv_aload_n hx hb d_Mad_begin_0 rfl (lv_at hl 0 rfl) ?_
  refine lv_bipush (v := (16 : Int32)) hx hb d_Mad_begin_1 (by decide) ?_
  refine va_put (D := (dC, dI)) (ci := 3) (v := .int (16 : Int32)) (ty := .int) (C := R_Mad) (T := F_Mad) (N := 2) hx hb hts in_Mad t_Mad t_Mad_ok n_Mad hown hK hP hD hS 0 rfl rfl 1 (by decide) (hts _ tt186) (fun _ h9 => h9) rfl (by decide +kernel) rfl rfl (Nat.le_of_ble_eq_true rfl) d_Mad_begin_3 (fun H locs hP hD hS => ?_)
  have hP : va_P (dC, dI) vcl (W_M n_0 n_digits_a n_digits_k n_digits (16 : Int32)) H := hP
  have hD : va_D A (W_M n_0 n_digits_a n_digits_k n_digits (16 : Int32)) := hD
  refine lv_aload_n hx hb d_Mad_begin_6 rfl (lv_at hl 0 rfl) ?_
  refine va_get (D := (dC, dI)) (ci := 3) (v := .ref n_digits_a) (C := R_Mad) (T := F_Mad) (N := 2) hx hb hts in_Mad hown hK hP 0 rfl rfl 0 (by decide) (hts _ tt185) (fun _ h9 => h9) rfl d_Mad_begin_7 ?_
  refine lv_iconst (v := (0 : Int32)) hx hb d_Mad_begin_10 (by decide) ?_
  refine lv_bipush (v := (16 : Int32)) hx hb d_Mad_begin_11 (by decide) ?_
  refine lv_iconst (v := (0 : Int32)) hx hb d_Mad_begin_13 (by decide) ?_
  obtain ⟨z1, hz1, h⟩ := ob h
  refine x_goV (w1 := (W_A2464 n_digits_a n_digits_k z1)) (ws' := (W_M n_0 n_digits_a n_digits_k z1 (16 : Int32))) (wr := List.filterMap (fun (i : Nat) => (W_M n_0 n_digits_a n_digits_k n_digits (16 : Int32))[i]?) ([0] : List Nat)) (va_runS (As := [.ref n_digits_a, .int (0 : Int32), .int (16 : Int32), .int (0 : Int32)]) (rest := []) ⟨hx, hb, hml, hown, hts⟩ (c_fill2464 l dC dI n_digits_a n_digits_k (0 : Int32) (16 : Int32) (0 : Int32) n_digits z1  hz1 H.size) ⟨callB_of 4 hts (gT tt422 TT_good) rfl rfl rfl (hts _ tt58) (hts _ tt420) (by decide +kernel) ⟨Nat.le_of_ble_eq_true rfl, Nat.le_of_ble_eq_true rfl⟩, hts _ tt421⟩ (x_pre (wc := (W_A2464 n_digits_a n_digits_k n_digits)) (av := [.ref n_digits_a, .int (0 : Int32), .int (16 : Int32), .int (0 : Int32)]) hK hP hD hS hA hG [0] [1] rfl rfl (by decide)) rfl rfl hl.1 rfl (lv_room (Nat.le_of_ble_eq_true rfl)) d_Mad_begin_14 ⟨Nat.zero_le _, Nat.zero_le _⟩) hP hD hS hA [1] [0] [0, 1] rfl rfl (by decide) (by decide) (by decide) rfl (fun H locs hP hD hS => ?_)
  obtain rfl := Option.some.inj h
  exact hret H locs 17 ls d_Mad_begin_17 hP hD hS
theorem d_Stk_split_0 : decode b_Stk_split 0 = .ok (.aload_n 0, 1) := by decide +kernel
theorem d_Stk_split_1 : decode b_Stk_split 1 = .ok (.getfield 12, 3) := by decide +kernel
theorem d_Stk_split_4 : decode b_Stk_split 4 = .ok (.iload_n 2, 1) := by decide +kernel
theorem d_Stk_split_5 : decode b_Stk_split 5 = .ok (.iconst (1), 1) := by decide +kernel
theorem d_Stk_split_6 : decode b_Stk_split 6 = .ok (.isub, 1) := by decide +kernel
theorem d_Stk_split_7 : decode b_Stk_split 7 = .ok (.aaload, 1) := by decide +kernel
theorem d_Stk_split_8 : decode b_Stk_split 8 = .ok (.aload_n 1, 1) := by decide +kernel
theorem d_Stk_split_9 : decode b_Stk_split 9 = .ok (.invokevirtual 29, 3) := by decide +kernel
theorem d_Stk_split_12 : decode b_Stk_split 12 = .ok (.iload_n 2, 1) := by decide +kernel
theorem d_Stk_split_13 : decode b_Stk_split 13 = .ok (.iconst (2), 1) := by decide +kernel
theorem d_Stk_split_14 : decode b_Stk_split 14 = .ok (.isub, 1) := by decide +kernel
theorem d_Stk_split_15 : decode b_Stk_split 15 = .ok (.istore_n 3, 1) := by decide +kernel
theorem d_Stk_split_16 : decode b_Stk_split 16 = .ok (.iload_n 3, 1) := by decide +kernel
theorem d_Stk_split_17 : decode b_Stk_split 17 = .ok (.ifCond .lt (26), 3) := by decide +kernel
theorem d_Stk_split_20 : decode b_Stk_split 20 = .ok (.aload_n 0, 1) := by decide +kernel
theorem d_Stk_split_21 : decode b_Stk_split 21 = .ok (.getfield 12, 3) := by decide +kernel
theorem d_Stk_split_24 : decode b_Stk_split 24 = .ok (.iload_n 3, 1) := by decide +kernel
theorem d_Stk_split_25 : decode b_Stk_split 25 = .ok (.aaload, 1) := by decide +kernel
theorem d_Stk_split_26 : decode b_Stk_split 26 = .ok (.aload_n 0, 1) := by decide +kernel
theorem d_Stk_split_27 : decode b_Stk_split 27 = .ok (.getfield 12, 3) := by decide +kernel
theorem d_Stk_split_30 : decode b_Stk_split 30 = .ok (.iload_n 3, 1) := by decide +kernel
theorem d_Stk_split_31 : decode b_Stk_split 31 = .ok (.iconst (1), 1) := by decide +kernel
theorem d_Stk_split_32 : decode b_Stk_split 32 = .ok (.iadd, 1) := by decide +kernel
theorem d_Stk_split_33 : decode b_Stk_split 33 = .ok (.aaload, 1) := by decide +kernel
theorem d_Stk_split_34 : decode b_Stk_split 34 = .ok (.invokevirtual 33, 3) := by decide +kernel
theorem d_Stk_split_37 : decode b_Stk_split 37 = .ok (.iinc 3 (-1), 3) := by decide +kernel
theorem d_Stk_split_40 : decode b_Stk_split 40 = .ok (.goto (-24), 3) := by decide +kernel
theorem d_Stk_split_43 : decode b_Stk_split 43 = .ok (.return_, 1) := by decide +kernel
def q_Stk_split1  (u_pixels : Nat → Int32) (u_wide : Int32) (u_high : Int32) (v_pixels : Nat → Int32) (v_wide : Int32) (v_high : Int32) (w_pixels : Nat → Int32) (w_wide : Int32) (w_high : Int32) (p_pixels : Nat → Int32) (p_wide : Int32) (p_high : Int32) : Option ((Nat → Int32) × Int32 × Int32 × (Nat → Int32) × Int32 × Int32 × (Nat → Int32) × Int32 × Int32) := ((q_Pic_become u_pixels u_wide u_high p_pixels p_wide p_high).bind fun z1 => some (z1.1, z1.2.1, z1.2.2, v_pixels, v_wide, v_high, w_pixels, w_wide, w_high))
abbrev rm_Stk_split1 : Room := { frames := 5, cells := 0, slots := 0, locals := 117 }
set_option maxHeartbeats 4000000 in
set_option maxRecDepth 100000 in
theorem c_Stk_split1 (l : Launch) (dC : Nat → ClassId) (dI : Nat → Nat → Nat) (s_0 s_layers_a u_0 u_pixels_a v_0 v_pixels_a w_0 w_pixels_a p_0 p_pixels_a : Nat) (s_layers_k u_pixels_k v_pixels_k w_pixels_k p_pixels_k : ClassId) (s_coder_p : Nat) (s_layers_r : Nat → Option Nat)  (s_plainRows : Int32) (u_pixels : Nat → Int32) (u_wide : Int32) (u_high : Int32) (v_pixels : Nat → Int32) (v_wide : Int32) (v_high : Int32) (w_pixels : Nat → Int32) (w_wide : Int32) (w_high : Int32) (p_pixels : Nat → Int32) (p_wide : Int32) (p_high : Int32) (z : (Nat → Int32) × Int32 × Int32 × (Nat → Int32) × Int32 × Int32 × (Nat → Int32) × Int32 × Int32) (hR0 : s_layers_r (0 : Int32).toNatClampNeg = some u_0) (hR1 : s_layers_r (1 : Int32).toNatClampNeg = some v_0) (hR2 : s_layers_r (2 : Int32).toNatClampNeg = some w_0) (hq : q_Stk_split1 u_pixels u_wide u_high v_pixels v_wide v_high w_pixels w_wide w_high p_pixels p_wide p_high = some z) (sz : Nat) : MetV l y_Stk_split b_Stk_split 4 TT rm_Stk_split1 (dC, dI) vcl [(s_layers_k, .object "LayeredBits$Picture"), (u_pixels_k, .int), (v_pixels_k, .int), (w_pixels_k, .int), (p_pixels_k, .int)] (W_UP s_0 s_layers_a u_0 u_pixels_a v_0 v_pixels_a w_0 w_pixels_a p_0 p_pixels_a s_layers_k u_pixels_k v_pixels_k w_pixels_k p_pixels_k s_coder_p s_layers_r s_plainRows u_pixels u_wide u_high v_pixels v_wide v_high w_pixels w_wide w_high p_pixels p_wide p_high) (W_UP s_0 s_layers_a u_0 u_pixels_a v_0 v_pixels_a w_0 w_pixels_a p_0 p_pixels_a s_layers_k u_pixels_k v_pixels_k w_pixels_k p_pixels_k s_coder_p s_layers_r s_plainRows z.1 z.2.1 z.2.2.1 z.2.2.2.1 z.2.2.2.2.1 z.2.2.2.2.2.1 z.2.2.2.2.2.2.1 z.2.2.2.2.2.2.2.1 z.2.2.2.2.2.2.2.2 p_pixels p_wide p_high) [.ref s_0, .ref p_0, .int (1 : Int32)] sz := by
  refine x_ofV (by decide) (Nat.le_of_ble_eq_true rfl) ?_ sz
  intro p e s m args below meth c A Q ls hx hb hml hown hts hA hG hK hP hD hS hl hret
  have hown : s.vm.findClass R_Stk = some m.cls := hown
  have hl : lv_has ls 4 [(0, .ref s_0), (1, .ref p_0), (2, .int (1 : Int32))] := hl
  obtain ⟨⟨tq, hZ, hTq⟩, hN⟩ := id hG
  obtain ⟨H, hH⟩ : ∃ H, H = s.heap := ⟨_, rfl⟩
  obtain ⟨locs, hlocs⟩ : ∃ locs : List Loc, locs = [] := ⟨_, rfl⟩
  rw [← hH] at hP
  have hS : va_S A s.heap H locs := by rw [hH, hlocs]; exact hS
  suffices hgo : W p l e rm_Stk_split1 s m args below meth c H locs 0 0 Q (F0 m 0 ls []) by rw [hH, hlocs] at hgo; exact hgo
  unfold q_Stk_split1 at hq
  have h := hq
  refine lv_aload_n hx hb d_Stk_split_0 rfl (lv_at hl 0 rfl) ?_
  refine va_get (D := (dC, dI)) (ci := 1) (v := .ref s_layers_a) (C := R_Stk) (T := F_Stk) (N := 3) hx hb hts in_Stk hown hK hP 0 rfl rfl 0 (by decide) (hts _ tt163) (fun _ h9 => h9) rfl d_Stk_split_1 ?_
  refine lv_iload_n hx hb d_Stk_split_4 rfl (lv_at hl 2 rfl) ?_
  refine lv_iconst (v := (1 : Int32)) hx hb d_Stk_split_5 (by decide) ?_
  refine lv_isub hx hb d_Stk_split_6 ?_
  refine x_ci (y := (0 : Int32)) (by decide) ?_
  refine va_aldq hx hb hK hP 1 0 rfl rfl (vpb_in (by decide)) d_Stk_split_7 ?_
  refine x_cv (y := .ref u_0) (by rw [hR0]; rfl) ?_
  refine lv_aload_n hx hb d_Stk_split_8 rfl (lv_at hl 1 rfl) ?_
  obtain ⟨z1, hz1, h⟩ := ob h
  refine x_goV (w1 := (W_PO u_0 u_pixels_a p_0 p_pixels_a u_pixels_k p_pixels_k z1.1 z1.2.1 z1.2.2 p_pixels p_wide p_high)) (ws' := (W_UP s_0 s_layers_a u_0 u_pixels_a v_0 v_pixels_a w_0 w_pixels_a p_0 p_pixels_a s_layers_k u_pixels_k v_pixels_k w_pixels_k p_pixels_k s_coder_p s_layers_r s_plainRows z1.1 z1.2.1 z1.2.2 v_pixels v_wide v_high w_pixels w_wide w_high p_pixels p_wide p_high)) (wr := List.filterMap (fun (i : Nat) => (W_UP s_0 s_layers_a u_0 u_pixels_a v_0 v_pixels_a w_0 w_pixels_a p_0 p_pixels_a s_layers_k u_pixels_k v_pixels_k w_pixels_k p_pixels_k s_coder_p s_layers_r s_plainRows u_pixels u_wide u_high v_pixels v_wide v_high w_pixels w_wide w_high p_pixels p_wide p_high)[i]?) ([0, 1, 4, 5, 6, 7] : List Nat)) (va_runV (As := [.ref p_0]) (rest := []) ⟨hx, hb, hml, hown, hts⟩ (c_Pic_become l dC dI u_0 u_pixels_a p_0 p_pixels_a u_pixels_k p_pixels_k  u_pixels u_wide u_high p_pixels p_wide p_high z1  hz1 H.size) ⟨callB_of 1 hts (gT tt261 TT_good) rfl rfl rfl (hts _ tt46) (hts _ tt258) (by decide +kernel) ⟨Nat.le_of_ble_eq_true rfl, Nat.le_of_ble_eq_true rfl⟩, hts _ tt259, hts _ tt260⟩ (x_preV (q := (R_Pic, F_Pic, 3)) (As := [.ref p_0]) (x_pre (wc := (W_PO u_0 u_pixels_a p_0 p_pixels_a u_pixels_k p_pixels_k u_pixels u_wide u_high p_pixels p_wide p_high)) (av := (.ref u_0 :: [.ref p_0])) hK hP hD hS hA hG [1, 4] [2, 3, 8, 9] rfl rfl (by decide)) hK hP (q0 := 2) rfl rfl) rfl rfl hl.1 rfl (lv_room (Nat.le_of_ble_eq_true rfl)) d_Stk_split_9 ⟨Nat.zero_le _, Nat.zero_le _⟩) hP hD hS hA [2, 3, 8, 9] [0, 1, 4, 5, 6, 7] [0, 1, 6, 7, 2, 3, 4, 5, 8, 9] rfl rfl (by decide) (by decide) (by decide) rfl (fun H locs hP hD hS => ?_)
  refine lv_iload_n hx hb d_Stk_split_12 rfl (lv_at hl 2 rfl) ?_
  refine lv_iconst (v := (2 : Int32)) hx hb d_Stk_split_13 (by decide) ?_
  refine lv_isub hx hb d_Stk_split_14 ?_
  refine x_ci (y := (-1 : Int32)) (by decide) ?_
  refine lv_istore_n (lv' := [(3, .int (-1 : Int32)), (0, .ref s_0), (1, .ref p_0), (2, .int (1 : Int32))]) hx hb d_Stk_split_15 rfl hl (by decide) rfl (fun ls hl => ?_)
  refine lv_iload_n hx hb d_Stk_split_16 rfl (lv_at hl 0 rfl) ?_
  refine lv_if_lt (tgt := 43) hx hb d_Stk_split_17 rfl (fun _ => ?_) (fun hc => absurd hc (by decide))
  obtain rfl := Option.some.inj h
  exact hret H locs 43 ls d_Stk_split_43 hP hD hS
def q_Stk_split2  (u_pixels : Nat → Int32) (u_wide : Int32) (u_high : Int32) (v_pixels : Nat → Int32) (v_wide : Int32) (v_high : Int32) (w_pixels : Nat → Int32) (w_wide : Int32) (w_high : Int32) (p_pixels : Nat → Int32) (p_wide : Int32) (p_high : Int32) : Option ((Nat → Int32) × Int32 × Int32 × (Nat → Int32) × Int32 × Int32 × (Nat → Int32) × Int32 × Int32) := ((q_Pic_become v_pixels v_wide v_high p_pixels p_wide p_high).bind fun z1 => ((q_Pic_becomeHalfOf u_pixels u_wide u_high z1.1 z1.2.1 z1.2.2).bind fun z2 => some (z2.1, z2.2.1, z2.2.2, z1.1, z1.2.1, z1.2.2, w_pixels, w_wide, w_high)))
abbrev rm_Stk_split2 : Room := { frames := 5, cells := 0, slots := 0, locals := 117 }
set_option maxHeartbeats 4000000 in
set_option maxRecDepth 100000 in
theorem c_Stk_split2 (l : Launch) (dC : Nat → ClassId) (dI : Nat → Nat → Nat) (s_0 s_layers_a u_0 u_pixels_a v_0 v_pixels_a w_0 w_pixels_a p_0 p_pixels_a : Nat) (s_layers_k u_pixels_k v_pixels_k w_pixels_k p_pixels_k : ClassId) (s_coder_p : Nat) (s_layers_r : Nat → Option Nat)  (s_plainRows : Int32) (u_pixels : Nat → Int32) (u_wide : Int32) (u_high : Int32) (v_pixels : Nat → Int32) (v_wide : Int32) (v_high : Int32) (w_pixels : Nat → Int32) (w_wide : Int32) (w_high : Int32) (p_pixels : Nat → Int32) (p_wide : Int32) (p_high : Int32) (z : (Nat → Int32) × Int32 × Int32 × (Nat → Int32) × Int32 × Int32 × (Nat → Int32) × Int32 × Int32) (hR0 : s_layers_r (0 : Int32).toNatClampNeg = some u_0) (hR1 : s_layers_r (1 : Int32).toNatClampNeg = some v_0) (hR2 : s_layers_r (2 : Int32).toNatClampNeg = some w_0) (hq : q_Stk_split2 u_pixels u_wide u_high v_pixels v_wide v_high w_pixels w_wide w_high p_pixels p_wide p_high = some z) (sz : Nat) : MetV l y_Stk_split b_Stk_split 4 TT rm_Stk_split2 (dC, dI) vcl [(s_layers_k, .object "LayeredBits$Picture"), (u_pixels_k, .int), (v_pixels_k, .int), (w_pixels_k, .int), (p_pixels_k, .int)] (W_UP s_0 s_layers_a u_0 u_pixels_a v_0 v_pixels_a w_0 w_pixels_a p_0 p_pixels_a s_layers_k u_pixels_k v_pixels_k w_pixels_k p_pixels_k s_coder_p s_layers_r s_plainRows u_pixels u_wide u_high v_pixels v_wide v_high w_pixels w_wide w_high p_pixels p_wide p_high) (W_UP s_0 s_layers_a u_0 u_pixels_a v_0 v_pixels_a w_0 w_pixels_a p_0 p_pixels_a s_layers_k u_pixels_k v_pixels_k w_pixels_k p_pixels_k s_coder_p s_layers_r s_plainRows z.1 z.2.1 z.2.2.1 z.2.2.2.1 z.2.2.2.2.1 z.2.2.2.2.2.1 z.2.2.2.2.2.2.1 z.2.2.2.2.2.2.2.1 z.2.2.2.2.2.2.2.2 p_pixels p_wide p_high) [.ref s_0, .ref p_0, .int (2 : Int32)] sz := by
  refine x_ofV (by decide) (Nat.le_of_ble_eq_true rfl) ?_ sz
  intro p e s m args below meth c A Q ls hx hb hml hown hts hA hG hK hP hD hS hl hret
  have hown : s.vm.findClass R_Stk = some m.cls := hown
  have hl : lv_has ls 4 [(0, .ref s_0), (1, .ref p_0), (2, .int (2 : Int32))] := hl
  obtain ⟨⟨tq, hZ, hTq⟩, hN⟩ := id hG
  obtain ⟨H, hH⟩ : ∃ H, H = s.heap := ⟨_, rfl⟩
  obtain ⟨locs, hlocs⟩ : ∃ locs : List Loc, locs = [] := ⟨_, rfl⟩
  rw [← hH] at hP
  have hS : va_S A s.heap H locs := by rw [hH, hlocs]; exact hS
  suffices hgo : W p l e rm_Stk_split2 s m args below meth c H locs 0 0 Q (F0 m 0 ls []) by rw [hH, hlocs] at hgo; exact hgo
  unfold q_Stk_split2 at hq
  have h := hq
  refine lv_aload_n hx hb d_Stk_split_0 rfl (lv_at hl 0 rfl) ?_
  refine va_get (D := (dC, dI)) (ci := 1) (v := .ref s_layers_a) (C := R_Stk) (T := F_Stk) (N := 3) hx hb hts in_Stk hown hK hP 0 rfl rfl 0 (by decide) (hts _ tt163) (fun _ h9 => h9) rfl d_Stk_split_1 ?_
  refine lv_iload_n hx hb d_Stk_split_4 rfl (lv_at hl 2 rfl) ?_
  refine lv_iconst (v := (1 : Int32)) hx hb d_Stk_split_5 (by decide) ?_
  refine lv_isub hx hb d_Stk_split_6 ?_
  refine x_ci (y := (1 : Int32)) (by decide) ?_
  refine va_aldq hx hb hK hP 1 0 rfl rfl (vpb_in (by decide)) d_Stk_split_7 ?_
  refine x_cv (y := .ref v_0) (by rw [hR1]; rfl) ?_
  refine lv_aload_n hx hb d_Stk_split_8 rfl (lv_at hl 1 rfl) ?_
  obtain ⟨z1, hz1, h⟩ := ob h
  refine x_goV (w1 := (W_PO v_0 v_pixels_a p_0 p_pixels_a v_pixels_k p_pixels_k z1.1 z1.2.1 z1.2.2 p_pixels p_wide p_high)) (ws' := (W_UP s_0 s_layers_a u_0 u_pixels_a v_0 v_pixels_a w_0 w_pixels_a p_0 p_pixels_a s_layers_k u_pixels_k v_pixels_k w_pixels_k p_pixels_k s_coder_p s_layers_r s_plainRows u_pixels u_wide u_high z1.1 z1.2.1 z1.2.2 w_pixels w_wide w_high p_pixels p_wide p_high)) (wr := List.filterMap (fun (i : Nat) => (W_UP s_0 s_layers_a u_0 u_pixels_a v_0 v_pixels_a w_0 w_pixels_a p_0 p_pixels_a s_layers_k u_pixels_k v_pixels_k w_pixels_k p_pixels_k s_coder_p s_layers_r s_plainRows u_pixels u_wide u_high v_pixels v_wide v_high w_pixels w_wide w_high p_pixels p_wide p_high)[i]?) ([0, 1, 2, 3, 6, 7] : List Nat)) (va_runV (As := [.ref p_0]) (rest := []) ⟨hx, hb, hml, hown, hts⟩ (c_Pic_become l dC dI v_0 v_pixels_a p_0 p_pixels_a v_pixels_k p_pixels_k  v_pixels v_wide v_high p_pixels p_wide p_high z1  hz1 H.size) ⟨callB_of 1 hts (gT tt261 TT_good) rfl rfl rfl (hts _ tt46) (hts _ tt258) (by decide +kernel) ⟨Nat.le_of_ble_eq_true rfl, Nat.le_of_ble_eq_true rfl⟩, hts _ tt259, hts _ tt260⟩ (x_preV (q := (R_Pic, F_Pic, 3)) (As := [.ref p_0]) (x_pre (wc := (W_PO v_0 v_pixels_a p_0 p_pixels_a v_pixels_k p_pixels_k v_pixels v_wide v_high p_pixels p_wide p_high)) (av := (.ref v_0 :: [.ref p_0])) hK hP hD hS hA hG [2, 4] [4, 5, 8, 9] rfl rfl (by decide)) hK hP (q0 := 4) rfl rfl) rfl rfl hl.1 rfl (lv_room (Nat.le_of_ble_eq_true rfl)) d_Stk_split_9 ⟨Nat.zero_le _, Nat.zero_le _⟩) hP hD hS hA [4, 5, 8, 9] [0, 1, 2, 3, 6, 7] [0, 1, 2, 3, 6, 7, 4, 5, 8, 9] rfl rfl (by decide) (by decide) (by decide) rfl (fun H locs hP hD hS => ?_)
  refine lv_iload_n hx hb d_Stk_split_12 rfl (lv_at hl 2 rfl) ?_
  refine lv_iconst (v := (2 : Int32)) hx hb d_Stk_split_13 (by decide) ?_
  refine lv_isub hx hb d_Stk_split_14 ?_
  refine x_ci (y := (0 : Int32)) (by decide) ?_
  refine lv_istore_n (lv' := [(3, .int (0 : Int32)), (0, .ref s_0), (1, .ref p_0), (2, .int (2 : Int32))]) hx hb d_Stk_split_15 rfl hl (by decide) rfl (fun ls hl => ?_)
  refine lv_iload_n hx hb d_Stk_split_16 rfl (lv_at hl 0 rfl) ?_
  refine lv_if_lt (tgt := 43) hx hb d_Stk_split_17 rfl (fun hc => absurd hc (by decide)) (fun _ => ?_)
  refine lv_aload_n hx hb d_Stk_split_20 rfl (lv_at hl 1 rfl) ?_
  refine va_get (D := (dC, dI)) (ci := 1) (v := .ref s_layers_a) (C := R_Stk) (T := F_Stk) (N := 3) hx hb hts in_Stk hown hK hP 0 rfl rfl 0 (by decide) (hts _ tt163) (fun _ h9 => h9) rfl d_Stk_split_21 ?_
  refine lv_iload_n hx hb d_Stk_split_24 rfl (lv_at hl 0 rfl) ?_
  refine va_aldq hx hb hK hP 1 0 rfl rfl (vpb_in (by decide)) d_Stk_split_25 ?_
  refine x_cv (y := .ref u_0) (by rw [hR0]; rfl) ?_
  refine lv_aload_n hx hb d_Stk_split_26 rfl (lv_at hl 1 rfl) ?_
  refine va_get (D := (dC, dI)) (ci := 1) (v := .ref s_layers_a) (C := R_Stk) (T := F_Stk) (N := 3) hx hb hts in_Stk hown hK hP 0 rfl rfl 0 (by decide) (hts _ tt163) (fun _ h9 => h9) rfl d_Stk_split_27 ?_
  refine lv_iload_n hx hb d_Stk_split_30 rfl (lv_at hl 0 rfl) ?_
  refine lv_iconst (v := (1 : Int32)) hx hb d_Stk_split_31 (by decide) ?_
  refine lv_iadd hx hb d_Stk_split_32 ?_
  refine x_ci (y := (1 : Int32)) (by decide) ?_
  refine va_aldq hx hb hK hP 1 0 rfl rfl (vpb_in (by decide)) d_Stk_split_33 ?_
  refine x_cv (y := .ref v_0) (by rw [hR1]; rfl) ?_
  obtain ⟨z2, hz2, h⟩ := ob h
  refine x_goV (w1 := (W_PO u_0 u_pixels_a v_0 v_pixels_a u_pixels_k v_pixels_k z2.1 z2.2.1 z2.2.2 z1.1 z1.2.1 z1.2.2)) (ws' := (W_UP s_0 s_layers_a u_0 u_pixels_a v_0 v_pixels_a w_0 w_pixels_a p_0 p_pixels_a s_layers_k u_pixels_k v_pixels_k w_pixels_k p_pixels_k s_coder_p s_layers_r s_plainRows z2.1 z2.2.1 z2.2.2 z1.1 z1.2.1 z1.2.2 w_pixels w_wide w_high p_pixels p_wide p_high)) (wr := List.filterMap (fun (i : Nat) => (W_UP s_0 s_layers_a u_0 u_pixels_a v_0 v_pixels_a w_0 w_pixels_a p_0 p_pixels_a s_layers_k u_pixels_k v_pixels_k w_pixels_k p_pixels_k s_coder_p s_layers_r s_plainRows u_pixels u_wide u_high z1.1 z1.2.1 z1.2.2 w_pixels w_wide w_high p_pixels p_wide p_high)[i]?) ([0, 1, 6, 7, 8, 9] : List Nat)) (va_runV (As := [.ref v_0]) (rest := []) ⟨hx, hb, hml, hown, hts⟩ (c_Pic_becomeHalfOf l dC dI u_0 u_pixels_a v_0 v_pixels_a u_pixels_k v_pixels_k  u_pixels u_wide u_high z1.1 z1.2.1 z1.2.2 z2  hz2 H.size) ⟨callB_of 1 hts (gT tt268 TT_good) rfl rfl rfl (hts _ tt46) (hts _ tt265) (by decide +kernel) ⟨Nat.le_of_ble_eq_true rfl, Nat.le_of_ble_eq_true rfl⟩, hts _ tt266, hts _ tt267⟩ (x_preV (q := (R_Pic, F_Pic, 3)) (As := [.ref v_0]) (x_pre (wc := (W_PO u_0 u_pixels_a v_0 v_pixels_a u_pixels_k v_pixels_k u_pixels u_wide u_high z1.1 z1.2.1 z1.2.2)) (av := (.ref u_0 :: [.ref v_0])) hK hP hD hS hA hG [1, 2] [2, 3, 4, 5] rfl rfl (by decide)) hK hP (q0 := 2) rfl rfl) rfl rfl hl.1 rfl (lv_room (Nat.le_of_ble_eq_true rfl)) d_Stk_split_34 ⟨Nat.zero_le _, Nat.zero_le _⟩) hP hD hS hA [2, 3, 4, 5] [0, 1, 6, 7, 8, 9] [0, 1, 6, 7, 8, 9, 2, 3, 4, 5] rfl rfl (by decide) (by decide) (by decide) rfl (fun H locs hP hD hS => ?_)
  refine lv_iinc (k := 0) (v := (-1 : Int32)) (lv' := [(3, .int (-1 : Int32)), (0, .ref s_0), (1, .ref p_0), (2, .int (2 : Int32))]) hx hb d_Stk_split_37 hl rfl (by decide) (by decide) rfl (fun ls hl => ?_)
  refine lv_goto (tgt := 16) hx hb d_Stk_split_40 rfl ?_
  refine lv_iload_n hx hb d_Stk_split_16 rfl (lv_at hl 0 rfl) ?_
  refine lv_if_lt (tgt := 43) hx hb d_Stk_split_17 rfl (fun _ => ?_) (fun hc => absurd hc (by decide))
  obtain rfl := Option.some.inj h
  exact hret H locs 43 ls d_Stk_split_43 hP hD hS
def q_Stk_split3  (u_pixels : Nat → Int32) (u_wide : Int32) (u_high : Int32) (v_pixels : Nat → Int32) (v_wide : Int32) (v_high : Int32) (w_pixels : Nat → Int32) (w_wide : Int32) (w_high : Int32) (p_pixels : Nat → Int32) (p_wide : Int32) (p_high : Int32) : Option ((Nat → Int32) × Int32 × Int32 × (Nat → Int32) × Int32 × Int32 × (Nat → Int32) × Int32 × Int32) := ((q_Pic_become w_pixels w_wide w_high p_pixels p_wide p_high).bind fun z1 => ((q_Pic_becomeHalfOf v_pixels v_wide v_high z1.1 z1.2.1 z1.2.2).bind fun z2 => ((q_Pic_becomeHalfOf u_pixels u_wide u_high z2.1 z2.2.1 z2.2.2).bind fun z3 => some (z3.1, z3.2.1, z3.2.2, z2.1, z2.2.1, z2.2.2, z1.1, z1.2.1, z1.2.2))))
abbrev rm_Stk_split3 : Room := { frames := 5, cells := 0, slots := 0, locals := 117 }
set_option maxHeartbeats 4000000 in
set_option maxRecDepth 100000 in
theorem c_Stk_split3 (l : Launch) (dC : Nat → ClassId) (dI : Nat → Nat → Nat) (s_0 s_layers_a u_0 u_pixels_a v_0 v_pixels_a w_0 w_pixels_a p_0 p_pixels_a : Nat) (s_layers_k u_pixels_k v_pixels_k w_pixels_k p_pixels_k : ClassId) (s_coder_p : Nat) (s_layers_r : Nat → Option Nat)  (s_plainRows : Int32) (u_pixels : Nat → Int32) (u_wide : Int32) (u_high : Int32) (v_pixels : Nat → Int32) (v_wide : Int32) (v_high : Int32) (w_pixels : Nat → Int32) (w_wide : Int32) (w_high : Int32) (p_pixels : Nat → Int32) (p_wide : Int32) (p_high : Int32) (z : (Nat → Int32) × Int32 × Int32 × (Nat → Int32) × Int32 × Int32 × (Nat → Int32) × Int32 × Int32) (hR0 : s_layers_r (0 : Int32).toNatClampNeg = some u_0) (hR1 : s_layers_r (1 : Int32).toNatClampNeg = some v_0) (hR2 : s_layers_r (2 : Int32).toNatClampNeg = some w_0) (hq : q_Stk_split3 u_pixels u_wide u_high v_pixels v_wide v_high w_pixels w_wide w_high p_pixels p_wide p_high = some z) (sz : Nat) : MetV l y_Stk_split b_Stk_split 4 TT rm_Stk_split3 (dC, dI) vcl [(s_layers_k, .object "LayeredBits$Picture"), (u_pixels_k, .int), (v_pixels_k, .int), (w_pixels_k, .int), (p_pixels_k, .int)] (W_UP s_0 s_layers_a u_0 u_pixels_a v_0 v_pixels_a w_0 w_pixels_a p_0 p_pixels_a s_layers_k u_pixels_k v_pixels_k w_pixels_k p_pixels_k s_coder_p s_layers_r s_plainRows u_pixels u_wide u_high v_pixels v_wide v_high w_pixels w_wide w_high p_pixels p_wide p_high) (W_UP s_0 s_layers_a u_0 u_pixels_a v_0 v_pixels_a w_0 w_pixels_a p_0 p_pixels_a s_layers_k u_pixels_k v_pixels_k w_pixels_k p_pixels_k s_coder_p s_layers_r s_plainRows z.1 z.2.1 z.2.2.1 z.2.2.2.1 z.2.2.2.2.1 z.2.2.2.2.2.1 z.2.2.2.2.2.2.1 z.2.2.2.2.2.2.2.1 z.2.2.2.2.2.2.2.2 p_pixels p_wide p_high) [.ref s_0, .ref p_0, .int (3 : Int32)] sz := by
  refine x_ofV (by decide) (Nat.le_of_ble_eq_true rfl) ?_ sz
  intro p e s m args below meth c A Q ls hx hb hml hown hts hA hG hK hP hD hS hl hret
  have hown : s.vm.findClass R_Stk = some m.cls := hown
  have hl : lv_has ls 4 [(0, .ref s_0), (1, .ref p_0), (2, .int (3 : Int32))] := hl
  obtain ⟨⟨tq, hZ, hTq⟩, hN⟩ := id hG
  obtain ⟨H, hH⟩ : ∃ H, H = s.heap := ⟨_, rfl⟩
  obtain ⟨locs, hlocs⟩ : ∃ locs : List Loc, locs = [] := ⟨_, rfl⟩
  rw [← hH] at hP
  have hS : va_S A s.heap H locs := by rw [hH, hlocs]; exact hS
  suffices hgo : W p l e rm_Stk_split3 s m args below meth c H locs 0 0 Q (F0 m 0 ls []) by rw [hH, hlocs] at hgo; exact hgo
  unfold q_Stk_split3 at hq
  have h := hq
  refine lv_aload_n hx hb d_Stk_split_0 rfl (lv_at hl 0 rfl) ?_
  refine va_get (D := (dC, dI)) (ci := 1) (v := .ref s_layers_a) (C := R_Stk) (T := F_Stk) (N := 3) hx hb hts in_Stk hown hK hP 0 rfl rfl 0 (by decide) (hts _ tt163) (fun _ h9 => h9) rfl d_Stk_split_1 ?_
  refine lv_iload_n hx hb d_Stk_split_4 rfl (lv_at hl 2 rfl) ?_
  refine lv_iconst (v := (1 : Int32)) hx hb d_Stk_split_5 (by decide) ?_
  refine lv_isub hx hb d_Stk_split_6 ?_
  refine x_ci (y := (2 : Int32)) (by decide) ?_
  refine va_aldq hx hb hK hP 1 0 rfl rfl (vpb_in (by decide)) d_Stk_split_7 ?_
  refine x_cv (y := .ref w_0) (by rw [hR2]; rfl) ?_
  refine lv_aload_n hx hb d_Stk_split_8 rfl (lv_at hl 1 rfl) ?_
  obtain ⟨z1, hz1, h⟩ := ob h
  refine x_goV (w1 := (W_PO w_0 w_pixels_a p_0 p_pixels_a w_pixels_k p_pixels_k z1.1 z1.2.1 z1.2.2 p_pixels p_wide p_high)) (ws' := (W_UP s_0 s_layers_a u_0 u_pixels_a v_0 v_pixels_a w_0 w_pixels_a p_0 p_pixels_a s_layers_k u_pixels_k v_pixels_k w_pixels_k p_pixels_k s_coder_p s_layers_r s_plainRows u_pixels u_wide u_high v_pixels v_wide v_high z1.1 z1.2.1 z1.2.2 p_pixels p_wide p_high)) (wr := List.filterMap (fun (i : Nat) => (W_UP s_0 s_layers_a u_0 u_pixels_a v_0 v_pixels_a w_0 w_pixels_a p_0 p_pixels_a s_layers_k u_pixels_k v_pixels_k w_pixels_k p_pixels_k s_coder_p s_layers_r s_plainRows u_pixels u_wide u_high v_pixels v_wide v_high w_pixels w_wide w_high p_pixels p_wide p_high)[i]?) ([0, 1, 2, 3, 4, 5] : List Nat)) (va_runV (As := [.ref p_0]) (rest := []) ⟨hx, hb, hml, hown, hts⟩ (c_Pic_become l dC dI w_0 w_pixels_a p_0 p_pixels_a w_pixels_k p_pixels_k  w_pixels w_wide w_high p_pixels p_wide p_high z1  hz1 H.size) ⟨callB_of 1 hts (gT tt261 TT_good) rfl rfl rfl (hts _ tt46) (hts _ tt258) (by decide +kernel) ⟨Nat.le_of_ble_eq_true rfl, Nat.le_of_ble_eq_true rfl⟩, hts _ tt259, hts _ tt260⟩ (x_preV (q := (R_Pic, F_Pic, 3)) (As := [.ref p_0]) (x_pre (wc := (W_PO w_0 w_pixels_a p_0 p_pixels_a w_pixels_k p_pixels_k w_pixels w_wide w_high p_pixels p_wide p_high)) (av := (.ref w_0 :: [.ref p_0])) hK hP hD hS hA hG [3, 4] [6, 7, 8, 9] rfl rfl (by decide)) hK hP (q0 := 6) rfl rfl) rfl rfl hl.1 rfl (lv_room (Nat.le_of_ble_eq_true rfl)) d_Stk_split_9 ⟨Nat.zero_le _, Nat.zero_le _⟩) hP hD hS hA [6, 7, 8, 9] [0, 1, 2, 3, 4, 5] [0, 1, 2, 3, 4, 5, 6, 7, 8, 9] rfl rfl (by decide) (by decide) (by decide) rfl (fun H locs hP hD hS => ?_)
  refine lv_iload_n hx hb d_Stk_split_12 rfl (lv_at hl 2 rfl) ?_
  refine lv_iconst (v := (2 : Int32)) hx hb d_Stk_split_13 (by decide) ?_
  refine lv_isub hx hb d_Stk_split_14 ?_
  refine x_ci (y := (1 : Int32)) (by decide) ?_
  refine lv_istore_n (lv' := [(3, .int (1 : Int32)), (0, .ref s_0), (1, .ref p_0), (2, .int (3 : Int32))]) hx hb d_Stk_split_15 rfl hl (by decide) rfl (fun ls hl => ?_)
  refine lv_iload_n hx hb d_Stk_split_16 rfl (lv_at hl 0 rfl) ?_
  refine lv_if_lt (tgt := 43) hx hb d_Stk_split_17 rfl (fun hc => absurd hc (by decide)) (fun _ => ?_)
  refine lv_aload_n hx hb d_Stk_split_20 rfl (lv_at hl 1 rfl) ?_
  refine va_get (D := (dC, dI)) (ci := 1) (v := .ref s_layers_a) (C := R_Stk) (T := F_Stk) (N := 3) hx hb hts in_Stk hown hK hP 0 rfl rfl 0 (by decide) (hts _ tt163) (fun _ h9 => h9) rfl d_Stk_split_21 ?_
  refine lv_iload_n hx hb d_Stk_split_24 rfl (lv_at hl 0 rfl) ?_
  refine va_aldq hx hb hK hP 1 0 rfl rfl (vpb_in (by decide)) d_Stk_split_25 ?_
  refine x_cv (y := .ref v_0) (by rw [hR1]; rfl) ?_
  refine lv_aload_n hx hb d_Stk_split_26 rfl (lv_at hl 1 rfl) ?_
  refine va_get (D := (dC, dI)) (ci := 1) (v := .ref s_layers_a) (C := R_Stk) (T := F_Stk) (N := 3) hx hb hts in_Stk hown hK hP 0 rfl rfl 0 (by decide) (hts _ tt163) (fun _ h9 => h9) rfl d_Stk_split_27 ?_
  refine lv_iload_n hx hb d_Stk_split_30 rfl (lv_at hl 0 rfl) ?_
  refine lv_iconst (v := (1 : Int32)) hx hb d_Stk_split_31 (by decide) ?_
  refine lv_iadd hx hb d_Stk_split_32 ?_
  refine x_ci (y := (2 : Int32)) (by decide) ?_
  refine va_aldq hx hb hK hP 1 0 rfl rfl (vpb_in (by decide)) d_Stk_split_33 ?_
  refine x_cv (y := .ref w_0) (by rw [hR2]; rfl) ?_
  obtain ⟨z2, hz2, h⟩ := ob h
  refine x_goV (w1 := (W_PO v_0 v_pixels_a w_0 w_pixels_a v_pixels_k w_pixels_k z2.1 z2.2.1 z2.2.2 z1.1 z1.2.1 z1.2.2)) (ws' := (W_UP s_0 s_layers_a u_0 u_pixels_a v_0 v_pixels_a w_0 w_pixels_a p_0 p_pixels_a s_layers_k u_pixels_k v_pixels_k w_pixels_k p_pixels_k s_coder_p s_layers_r s_plainRows u_pixels u_wide u_high z2.1 z2.2.1 z2.2.2 z1.1 z1.2.1 z1.2.2 p_pixels p_wide p_high)) (wr := List.filterMap (fun (i : Nat) => (W_UP s_0 s_layers_a u_0 u_pixels_a v_0 v_pixels_a w_0 w_pixels_a p_0 p_pixels_a s_layers_k u_pixels_k v_pixels_k w_pixels_k p_pixels_k s_coder_p s_layers_r s_plainRows u_pixels u_wide u_high v_pixels v_wide v_high z1.1 z1.2.1 z1.2.2 p_pixels p_wide p_high)[i]?) ([0, 1, 2, 3, 8, 9] : List Nat)) (va_runV (As := [.ref w_0]) (rest := []) ⟨hx, hb, hml, hown, hts⟩ (c_Pic_becomeHalfOf l dC dI v_0 v_pixels_a w_0 w_pixels_a v_pixels_k w_pixels_k  v_pixels v_wide v_high z1.1 z1.2.1 z1.2.2 z2  hz2 H.size) ⟨callB_of 1 hts (gT tt268 TT_good) rfl rfl rfl (hts _ tt46) (hts _ tt265) (by decide +kernel) ⟨Nat.le_of_ble_eq_true rfl, Nat.le_of_ble_eq_true rfl⟩, hts _ tt266, hts _ tt267⟩ (x_preV (q := (R_Pic, F_Pic, 3)) (As := [.ref w_0]) (x_pre (wc := (W_PO v_0 v_pixels_a w_0 w_pixels_a v_pixels_k w_pixels_k v_pixels v_wide v_high z1.1 z1.2.1 z1.2.2)) (av := (.ref v_0 :: [.ref w_0])) hK hP hD hS hA hG [2, 3] [4, 5, 6, 7] rfl rfl (by decide)) hK hP (q0 := 4) rfl rfl) rfl rfl hl.1 rfl (lv_room (Nat.le_of_ble_eq_true rfl)) d_Stk_split_34 ⟨Nat.zero_le _, Nat.zero_le _⟩) hP hD hS hA [4, 5, 6, 7] [0, 1, 2, 3, 8, 9] [0, 1, 2, 3, 6, 7, 8, 9, 4, 5] rfl rfl (by decide) (by decide) (by decide) rfl (fun H locs hP hD hS => ?_)
  refine lv_iinc (k := 0) (v := (0 : Int32)) (lv' := [(3, .int (0 : Int32)), (0, .ref s_0), (1, .ref p_0), (2, .int (3 : Int32))]) hx hb d_Stk_split_37 hl rfl (by decide) (by decide) rfl (fun ls hl => ?_)
  refine lv_goto (tgt := 16) hx hb d_Stk_split_40 rfl ?_
  refine lv_iload_n hx hb d_Stk_split_16 rfl (lv_at hl 0 rfl) ?_
  refine lv_if_lt (tgt := 43) hx hb d_Stk_split_17 rfl (fun hc => absurd hc (by decide)) (fun _ => ?_)
  refine lv_aload_n hx hb d_Stk_split_20 rfl (lv_at hl 1 rfl) ?_
  refine va_get (D := (dC, dI)) (ci := 1) (v := .ref s_layers_a) (C := R_Stk) (T := F_Stk) (N := 3) hx hb hts in_Stk hown hK hP 0 rfl rfl 0 (by decide) (hts _ tt163) (fun _ h9 => h9) rfl d_Stk_split_21 ?_
  refine lv_iload_n hx hb d_Stk_split_24 rfl (lv_at hl 0 rfl) ?_
  refine va_aldq hx hb hK hP 1 0 rfl rfl (vpb_in (by decide)) d_Stk_split_25 ?_
  refine x_cv (y := .ref u_0) (by rw [hR0]; rfl) ?_
  refine lv_aload_n hx hb d_Stk_split_26 rfl (lv_at hl 1 rfl) ?_
  refine va_get (D := (dC, dI)) (ci := 1) (v := .ref s_layers_a) (C := R_Stk) (T := F_Stk) (N := 3) hx hb hts in_Stk hown hK hP 0 rfl rfl 0 (by decide) (hts _ tt163) (fun _ h9 => h9) rfl d_Stk_split_27 ?_
  refine lv_iload_n hx hb d_Stk_split_30 rfl (lv_at hl 0 rfl) ?_
  refine lv_iconst (v := (1 : Int32)) hx hb d_Stk_split_31 (by decide) ?_
  refine lv_iadd hx hb d_Stk_split_32 ?_
  refine x_ci (y := (1 : Int32)) (by decide) ?_
  refine va_aldq hx hb hK hP 1 0 rfl rfl (vpb_in (by decide)) d_Stk_split_33 ?_
  refine x_cv (y := .ref v_0) (by rw [hR1]; rfl) ?_
  obtain ⟨z3, hz3, h⟩ := ob h
  refine x_goV (w1 := (W_PO u_0 u_pixels_a v_0 v_pixels_a u_pixels_k v_pixels_k z3.1 z3.2.1 z3.2.2 z2.1 z2.2.1 z2.2.2)) (ws' := (W_UP s_0 s_layers_a u_0 u_pixels_a v_0 v_pixels_a w_0 w_pixels_a p_0 p_pixels_a s_layers_k u_pixels_k v_pixels_k w_pixels_k p_pixels_k s_coder_p s_layers_r s_plainRows z3.1 z3.2.1 z3.2.2 z2.1 z2.2.1 z2.2.2 z1.1 z1.2.1 z1.2.2 p_pixels p_wide p_high)) (wr := List.filterMap (fun (i : Nat) => (W_UP s_0 s_layers_a u_0 u_pixels_a v_0 v_pixels_a w_0 w_pixels_a p_0 p_pixels_a s_layers_k u_pixels_k v_pixels_k w_pixels_k p_pixels_k s_coder_p s_layers_r s_plainRows u_pixels u_wide u_high z2.1 z2.2.1 z2.2.2 z1.1 z1.2.1 z1.2.2 p_pixels p_wide p_high)[i]?) ([0, 1, 6, 7, 8, 9] : List Nat)) (va_runV (As := [.ref v_0]) (rest := []) ⟨hx, hb, hml, hown, hts⟩ (c_Pic_becomeHalfOf l dC dI u_0 u_pixels_a v_0 v_pixels_a u_pixels_k v_pixels_k  u_pixels u_wide u_high z2.1 z2.2.1 z2.2.2 z3  hz3 H.size) ⟨callB_of 1 hts (gT tt268 TT_good) rfl rfl rfl (hts _ tt46) (hts _ tt265) (by decide +kernel) ⟨Nat.le_of_ble_eq_true rfl, Nat.le_of_ble_eq_true rfl⟩, hts _ tt266, hts _ tt267⟩ (x_preV (q := (R_Pic, F_Pic, 3)) (As := [.ref v_0]) (x_pre (wc := (W_PO u_0 u_pixels_a v_0 v_pixels_a u_pixels_k v_pixels_k u_pixels u_wide u_high z2.1 z2.2.1 z2.2.2)) (av := (.ref u_0 :: [.ref v_0])) hK hP hD hS hA hG [1, 2] [2, 3, 4, 5] rfl rfl (by decide)) hK hP (q0 := 2) rfl rfl) rfl rfl hl.1 rfl (lv_room (Nat.le_of_ble_eq_true rfl)) d_Stk_split_34 ⟨Nat.zero_le _, Nat.zero_le _⟩) hP hD hS hA [2, 3, 4, 5] [0, 1, 6, 7, 8, 9] [0, 1, 6, 7, 8, 9, 2, 3, 4, 5] rfl rfl (by decide) (by decide) (by decide) rfl (fun H locs hP hD hS => ?_)
  refine lv_iinc (k := 0) (v := (-1 : Int32)) (lv' := [(3, .int (-1 : Int32)), (0, .ref s_0), (1, .ref p_0), (2, .int (3 : Int32))]) hx hb d_Stk_split_37 hl rfl (by decide) (by decide) rfl (fun ls hl => ?_)
  refine lv_goto (tgt := 16) hx hb d_Stk_split_40 rfl ?_
  refine lv_iload_n hx hb d_Stk_split_16 rfl (lv_at hl 0 rfl) ?_
  refine lv_if_lt (tgt := 43) hx hb d_Stk_split_17 rfl (fun _ => ?_) (fun hc => absurd hc (by decide))
  obtain rfl := Option.some.inj h
  exact hret H locs 43 ls d_Stk_split_43 hP hD hS
theorem d_Stk_blank_0 : decode b_Stk_blank 0 = .ok (.iload_n 2, 1) := by decide +kernel
theorem d_Stk_blank_1 : decode b_Stk_blank 1 = .ok (.istore 4, 2) := by decide +kernel
theorem d_Stk_blank_3 : decode b_Stk_blank 3 = .ok (.iload_n 3, 1) := by decide +kernel
theorem d_Stk_blank_4 : decode b_Stk_blank 4 = .ok (.istore 5, 2) := by decide +kernel
theorem d_Stk_blank_6 : decode b_Stk_blank 6 = .ok (.iload_n 1, 1) := by decide +kernel
theorem d_Stk_blank_7 : decode b_Stk_blank 7 = .ok (.iconst (1), 1) := by decide +kernel
theorem d_Stk_blank_8 : decode b_Stk_blank 8 = .ok (.isub, 1) := by decide +kernel
theorem d_Stk_blank_9 : decode b_Stk_blank 9 = .ok (.istore 6, 2) := by decide +kernel
theorem d_Stk_blank_11 : decode b_Stk_blank 11 = .ok (.iload 6, 2) := by decide +kernel
theorem d_Stk_blank_13 : decode b_Stk_blank 13 = .ok (.ifCond .lt (37), 3) := by decide +kernel
theorem d_Stk_blank_16 : decode b_Stk_blank 16 = .ok (.aload_n 0, 1) := by decide +kernel
theorem d_Stk_blank_17 : decode b_Stk_blank 17 = .ok (.getfield 12, 3) := by decide +kernel
theorem d_Stk_blank_20 : decode b_Stk_blank 20 = .ok (.iload 6, 2) := by decide +kernel
theorem d_Stk_blank_22 : decode b_Stk_blank 22 = .ok (.aaload, 1) := by decide +kernel
theorem d_Stk_blank_23 : decode b_Stk_blank 23 = .ok (.iload 4, 2) := by decide +kernel
theorem d_Stk_blank_25 : decode b_Stk_blank 25 = .ok (.iload 5, 2) := by decide +kernel
theorem d_Stk_blank_27 : decode b_Stk_blank 27 = .ok (.invokevirtual 36, 3) := by decide +kernel
theorem d_Stk_blank_30 : decode b_Stk_blank 30 = .ok (.iload 4, 2) := by decide +kernel
theorem d_Stk_blank_32 : decode b_Stk_blank 32 = .ok (.invokestatic 40, 3) := by decide +kernel
theorem d_Stk_blank_35 : decode b_Stk_blank 35 = .ok (.istore 4, 2) := by decide +kernel
theorem d_Stk_blank_37 : decode b_Stk_blank 37 = .ok (.iload 5, 2) := by decide +kernel
theorem d_Stk_blank_39 : decode b_Stk_blank 39 = .ok (.invokestatic 40, 3) := by decide +kernel
theorem d_Stk_blank_42 : decode b_Stk_blank 42 = .ok (.istore 5, 2) := by decide +kernel
theorem d_Stk_blank_44 : decode b_Stk_blank 44 = .ok (.iinc 6 (-1), 3) := by decide +kernel
theorem d_Stk_blank_47 : decode b_Stk_blank 47 = .ok (.goto (-36), 3) := by decide +kernel
theorem d_Stk_blank_50 : decode b_Stk_blank 50 = .ok (.return_, 1) := by decide +kernel
def q_Stk_blank_11 (i_count : Int32) (i_wide : Int32) (i_high : Int32)  : Nat → Int32 → Int32 → Int32 → (Nat → Int32) → Int32 → Int32 → (Nat → Int32) → Int32 → Int32 → (Nat → Int32) → Int32 → Int32 → Option ((Nat → Int32) × Int32 × Int32 × (Nat → Int32) × Int32 × Int32 × (Nat → Int32) × Int32 × Int32)
  | 0, _, _, _, _, _, _, _, _, _, _, _, _ => none
  | n + 1, x4_11, x5_11, x6_11, u_pixels_11, u_wide_11, u_high_11, v_pixels_11, v_wide_11, v_high_11, w_pixels_11, w_wide_11, w_high_11 => (if x6_11 < 0 then some (u_pixels_11, u_wide_11, u_high_11, v_pixels_11, v_wide_11, v_high_11, w_pixels_11, w_wide_11, w_high_11) else (if x6_11 = (0 : Int32) then ((q_Pic_blank x4_11 x5_11 u_pixels_11 u_wide_11 u_high_11).bind fun z1 => ((q_halfSide x4_11).bind fun z2 => ((q_halfSide x5_11).bind fun z3 => (q_Stk_blank_11 i_count i_wide i_high n z2 z3 (-1 : Int32) z1.1 z1.2.1 z1.2.2 v_pixels_11 v_wide_11 v_high_11 w_pixels_11 w_wide_11 w_high_11)))) else (if x6_11 = (1 : Int32) then ((q_Pic_blank x4_11 x5_11 v_pixels_11 v_wide_11 v_high_11).bind fun z4 => ((q_halfSide x4_11).bind fun z5 => ((q_halfSide x5_11).bind fun z6 => (q_Stk_blank_11 i_count i_wide i_high n z5 z6 (0 : Int32) u_pixels_11 u_wide_11 u_high_11 z4.1 z4.2.1 z4.2.2 w_pixels_11 w_wide_11 w_high_11)))) else (if x6_11 = (2 : Int32) then ((q_Pic_blank x4_11 x5_11 w_pixels_11 w_wide_11 w_high_11).bind fun z7 => ((q_halfSide x4_11).bind fun z8 => ((q_halfSide x5_11).bind fun z9 => (q_Stk_blank_11 i_count i_wide i_high n z8 z9 (1 : Int32) u_pixels_11 u_wide_11 u_high_11 v_pixels_11 v_wide_11 v_high_11 z7.1 z7.2.1 z7.2.2)))) else none))))
def q_Stk_blank (i_count : Int32) (i_wide : Int32) (i_high : Int32) (u_pixels : Nat → Int32) (u_wide : Int32) (u_high : Int32) (v_pixels : Nat → Int32) (v_wide : Int32) (v_high : Int32) (w_pixels : Nat → Int32) (w_wide : Int32) (w_high : Int32) : Option ((Nat → Int32) × Int32 × Int32 × (Nat → Int32) × Int32 × Int32 × (Nat → Int32) × Int32 × Int32) := (q_Stk_blank_11 i_count i_wide i_high  5000 i_wide i_high (i_count - (1 : Int32)) u_pixels u_wide u_high v_pixels v_wide v_high w_pixels w_wide w_high)
abbrev rm_Stk_blank : Room := { frames := 2, cells := 0, slots := 0, locals := 45 }
set_option maxHeartbeats 4000000 in
set_option maxRecDepth 100000 in
theorem c_Stk_blank (l : Launch) (dC : Nat → ClassId) (dI : Nat → Nat → Nat) (s_0 s_layers_a u_0 u_pixels_a v_0 v_pixels_a w_0 w_pixels_a : Nat) (s_layers_k u_pixels_k v_pixels_k w_pixels_k : ClassId) (s_coder_p : Nat) (s_layers_r : Nat → Option Nat) (i_count : Int32) (i_wide : Int32) (i_high : Int32) (s_plainRows : Int32) (u_pixels : Nat → Int32) (u_wide : Int32) (u_high : Int32) (v_pixels : Nat → Int32) (v_wide : Int32) (v_high : Int32) (w_pixels : Nat → Int32) (w_wide : Int32) (w_high : Int32) (z : (Nat → Int32) × Int32 × Int32 × (Nat → Int32) × Int32 × Int32 × (Nat → Int32) × Int32 × Int32) (hR0 : s_layers_r (0 : Int32).toNatClampNeg = some u_0) (hR1 : s_layers_r (1 : Int32).toNatClampNeg = some v_0) (hR2 : s_layers_r (2 : Int32).toNatClampNeg = some w_0) (hq : q_Stk_blank i_count i_wide i_high u_pixels u_wide u_high v_pixels v_wide v_high w_pixels w_wide w_high = some z) (sz : Nat) : MetV l y_Stk_blank b_Stk_blank 7 TT rm_Stk_blank (dC, dI) vcl [(s_layers_k, .object "LayeredBits$Picture"), (u_pixels_k, .int), (v_pixels_k, .int), (w_pixels_k, .int)] (W_U s_0 s_layers_a u_0 u_pixels_a v_0 v_pixels_a w_0 w_pixels_a s_layers_k u_pixels_k v_pixels_k w_pixels_k s_coder_p s_layers_r s_plainRows u_pixels u_wide u_high v_pixels v_wide v_high w_pixels w_wide w_high) (W_U s_0 s_layers_a u_0 u_pixels_a v_0 v_pixels_a w_0 w_pixels_a s_layers_k u_pixels_k v_pixels_k w_pixels_k s_coder_p s_layers_r s_plainRows z.1 z.2.1 z.2.2.1 z.2.2.2.1 z.2.2.2.2.1 z.2.2.2.2.2.1 z.2.2.2.2.2.2.1 z.2.2.2.2.2.2.2.1 z.2.2.2.2.2.2.2.2) [.ref s_0, .int i_count, .int i_wide, .int i_high] sz := by
  refine x_ofV (by decide) (Nat.le_of_ble_eq_true rfl) ?_ sz
  intro p e s m args below meth c A Q ls hx hb hml hown hts hA hG hK hP hD hS hl hret
  have hown : s.vm.findClass R_Stk = some m.cls := hown
  have hl : lv_has ls 7 [(0, .ref s_0), (1, .int i_count), (2, .int i_wide), (3, .int i_high)] := hl
  obtain ⟨⟨tq, hZ, hTq⟩, hN⟩ := id hG
  obtain ⟨H, hH⟩ : ∃ H, H = s.heap := ⟨_, rfl⟩
  obtain ⟨locs, hlocs⟩ : ∃ locs : List Loc, locs = [] := ⟨_, rfl⟩
  rw [← hH] at hP
  have hS : va_S A s.heap H locs := by rw [hH, hlocs]; exact hS
  suffices hgo : W p l e rm_Stk_blank s m args below meth c H locs 0 0 Q (F0 m 0 ls []) by rw [hH, hlocs] at hgo; exact hgo
  unfold q_Stk_blank at hq
  have L11 : ∀ (n11 : Nat) (x4_11 : Int32) (x5_11 : Int32) (x6_11 : Int32) (u_pixels_11 : Nat → Int32) (u_wide_11 : Int32) (u_high_11 : Int32) (v_pixels_11 : Nat → Int32) (v_wide_11 : Int32) (v_high_11 : Int32) (w_pixels_11 : Nat → Int32) (w_wide_11 : Int32) (w_high_11 : Int32) (H : Heap) (locs : List Loc) (ls : Array Slot), lv_has ls 7 [(0, .ref s_0), (4, .int x4_11), (5, .int x5_11), (6, .int x6_11)] → va_P (dC, dI) vcl (W_U s_0 s_layers_a u_0 u_pixels_a v_0 v_pixels_a w_0 w_pixels_a s_layers_k u_pixels_k v_pixels_k w_pixels_k s_coder_p s_layers_r s_plainRows u_pixels_11 u_wide_11 u_high_11 v_pixels_11 v_wide_11 v_high_11 w_pixels_11 w_wide_11 w_high_11) H → va_D A (W_U s_0 s_layers_a u_0 u_pixels_a v_0 v_pixels_a w_0 w_pixels_a s_layers_k u_pixels_k v_pixels_k w_pixels_k s_coder_p s_layers_r s_plainRows u_pixels_11 u_wide_11 u_high_11 v_pixels_11 v_wide_11 v_high_11 w_pixels_11 w_wide_11 w_high_11) → va_S A s.heap H locs → q_Stk_blank_11 i_count i_wide i_high  n11 x4_11 x5_11 x6_11 u_pixels_11 u_wide_11 u_high_11 v_pixels_11 v_wide_11 v_high_11 w_pixels_11 w_wide_11 w_high_11 = some z → W p l e rm_Stk_blank s m args below meth c H locs 0 0 Q (F0 m 11 ls []) := by
    intro n11
    induction n11 with
    | zero =>
      intro x4_11 x5_11 x6_11 u_pixels_11 u_wide_11 u_high_11 v_pixels_11 v_wide_11 v_high_11 w_pixels_11 w_wide_11 w_high_11 H locs ls hl hP hD hS hq
      rw [q_Stk_blank_11] at hq
      cases hq
    | succ n11 ih11 =>
      intro x4_11 x5_11 x6_11 u_pixels_11 u_wide_11 u_high_11 v_pixels_11 v_wide_11 v_high_11 w_pixels_11 w_wide_11 w_high_11 H locs ls hl hP hD hS hq11
      rw [q_Stk_blank_11] at hq11
      have h := hq11
      refine lv_iload hx hb d_Stk_blank_11 (lv_at hl 3 rfl) ?_
      refine lv_if_lt (tgt := 50) hx hb d_Stk_blank_13 rfl (fun hc => ?_) (fun hc => ?_)
      · replace h := ot hc h
        obtain rfl := Option.some.inj h
        exact hret H locs 50 ls d_Stk_blank_50 hP hD hS
      · replace h := of hc h
        by_cases hsp : x6_11 = (0 : Int32)
        · replace h := ot hsp h
          subst hsp
          refine lv_aload_n hx hb d_Stk_blank_16 rfl (lv_at hl 0 rfl) ?_
          refine va_get (D := (dC, dI)) (ci := 1) (v := .ref s_layers_a) (C := R_Stk) (T := F_Stk) (N := 3) hx hb hts in_Stk hown hK hP 0 rfl rfl 0 (by decide) (hts _ tt163) (fun _ h9 => h9) rfl d_Stk_blank_17 ?_
          refine lv_iload hx hb d_Stk_blank_20 (lv_at hl 3 rfl) ?_
          refine va_aldq hx hb hK hP 1 0 rfl rfl (vpb_in (by decide)) d_Stk_blank_22 ?_
          refine x_cv (y := .ref u_0) (by rw [hR0]; rfl) ?_
          refine lv_iload hx hb d_Stk_blank_23 (lv_at hl 1 rfl) ?_
          refine lv_iload hx hb d_Stk_blank_25 (lv_at hl 2 rfl) ?_
          obtain ⟨z1, hz1, h⟩ := ob h
          refine x_goV (w1 := (W_P u_0 u_pixels_a u_pixels_k z1.1 z1.2.1 z1.2.2)) (ws' := (W_U s_0 s_layers_a u_0 u_pixels_a v_0 v_pixels_a w_0 w_pixels_a s_layers_k u_pixels_k v_pixels_k w_pixels_k s_coder_p s_layers_r s_plainRows z1.1 z1.2.1 z1.2.2 v_pixels_11 v_wide_11 v_high_11 w_pixels_11 w_wide_11 w_high_11)) (wr := List.filterMap (fun (i : Nat) => (W_U s_0 s_layers_a u_0 u_pixels_a v_0 v_pixels_a w_0 w_pixels_a s_layers_k u_pixels_k v_pixels_k w_pixels_k s_coder_p s_layers_r s_plainRows u_pixels_11 u_wide_11 u_high_11 v_pixels_11 v_wide_11 v_high_11 w_pixels_11 w_wide_11 w_high_11)[i]?) ([0, 1, 4, 5, 6, 7] : List Nat)) (va_runV (As := [.int x4_11, .int x5_11]) (rest := []) ⟨hx, hb, hml, hown, hts⟩ (c_Pic_blank l dC dI u_0 u_pixels_a u_pixels_k x4_11 x5_11 u_pixels_11 u_wide_11 u_high_11 z1  hz1 H.size) ⟨callB_of 2 hts (gT tt275 TT_good) rfl rfl rfl (hts _ tt46) (hts _ tt582) (by decide +kernel) ⟨Nat.le_of_ble_eq_true rfl, Nat.le_of_ble_eq_true rfl⟩, hts _ tt273, hts _ tt274⟩ (x_preV (q := (R_Pic, F_Pic, 3)) (As := [.int x4_11, .int x5_11]) (x_pre (wc := (W_P u_0 u_pixels_a u_pixels_k u_pixels_11 u_wide_11 u_high_11)) (av := (.ref u_0 :: [.int x4_11, .int x5_11])) hK hP hD hS hA hG [1] [2, 3] rfl rfl (by decide)) hK hP (q0 := 2) rfl rfl) rfl rfl hl.1 rfl (lv_room (Nat.le_of_ble_eq_true rfl)) d_Stk_blank_27 ⟨Nat.zero_le _, Nat.zero_le _⟩) hP hD hS hA [2, 3] [0, 1, 4, 5, 6, 7] [0, 1, 6, 7, 2, 3, 4, 5] rfl rfl (by decide) (by decide) (by decide) rfl (fun H locs hP hD hS => ?_)
          refine lv_iload hx hb d_Stk_blank_30 (lv_at hl 1 rfl) ?_
          obtain ⟨z2, hz2, h⟩ := ob h
          refine x_goI (res := z2) (w1 := (W_0  )) (ws' := (W_U s_0 s_layers_a u_0 u_pixels_a v_0 v_pixels_a w_0 w_pixels_a s_layers_k u_pixels_k v_pixels_k w_pixels_k s_coder_p s_layers_r s_plainRows z1.1 z1.2.1 z1.2.2 v_pixels_11 v_wide_11 v_high_11 w_pixels_11 w_wide_11 w_high_11)) (wr := List.filterMap (fun (i : Nat) => (W_U s_0 s_layers_a u_0 u_pixels_a v_0 v_pixels_a w_0 w_pixels_a s_layers_k u_pixels_k v_pixels_k w_pixels_k s_coder_p s_layers_r s_plainRows z1.1 z1.2.1 z1.2.2 v_pixels_11 v_wide_11 v_high_11 w_pixels_11 w_wide_11 w_high_11)[i]?) ([0, 1, 2, 3, 4, 5, 6, 7] : List Nat)) (va_runSN (As := [.int x4_11]) (rest := []) ⟨hx, hb, hml, hown, hts⟩ (c_halfSide l dC dI  x4_11  z2  hz2 H.size) ⟨va_cnB 1 hts (gT tt271 TT_good) rfl rfl rfl (hN _ nn583) (hts _ tt45) (by decide +kernel) ⟨Nat.le_of_ble_eq_true rfl, Nat.le_of_ble_eq_true rfl⟩, hts _ tt270, trivial⟩ (x_pre (wc := (W_0  )) (av := [.int x4_11]) hK hP hD hS hA hG [] [] rfl rfl (by decide)) rfl rfl hl.1 rfl (lv_room (Nat.le_of_ble_eq_true rfl)) d_Stk_blank_32 ⟨Nat.zero_le _, Nat.zero_le _⟩) hP hD hS hA [] [0, 1, 2, 3, 4, 5, 6, 7] [0, 1, 2, 3, 4, 5, 6, 7] rfl rfl (by decide) (by decide) (by decide) rfl (fun H locs hP hD hS => ?_)
          refine lv_istore (lv' := [(4, .int z2), (0, .ref s_0), (5, .int x5_11), (6, .int (0 : Int32))]) hx hb d_Stk_blank_35 hl (by decide) rfl (fun ls hl => ?_)
          refine lv_iload hx hb d_Stk_blank_37 (lv_at hl 2 rfl) ?_
          obtain ⟨z3, hz3, h⟩ := ob h
          refine x_goI (res := z3) (w1 := (W_0  )) (ws' := (W_U s_0 s_layers_a u_0 u_pixels_a v_0 v_pixels_a w_0 w_pixels_a s_layers_k u_pixels_k v_pixels_k w_pixels_k s_coder_p s_layers_r s_plainRows z1.1 z1.2.1 z1.2.2 v_pixels_11 v_wide_11 v_high_11 w_pixels_11 w_wide_11 w_high_11)) (wr := List.filterMap (fun (i : Nat) => (W_U s_0 s_layers_a u_0 u_pixels_a v_0 v_pixels_a w_0 w_pixels_a s_layers_k u_pixels_k v_pixels_k w_pixels_k s_coder_p s_layers_r s_plainRows z1.1 z1.2.1 z1.2.2 v_pixels_11 v_wide_11 v_high_11 w_pixels_11 w_wide_11 w_high_11)[i]?) ([0, 1, 2, 3, 4, 5, 6, 7] : List Nat)) (va_runSN (As := [.int x5_11]) (rest := []) ⟨hx, hb, hml, hown, hts⟩ (c_halfSide l dC dI  x5_11  z3  hz3 H.size) ⟨va_cnB 1 hts (gT tt271 TT_good) rfl rfl rfl (hN _ nn583) (hts _ tt45) (by decide +kernel) ⟨Nat.le_of_ble_eq_true rfl, Nat.le_of_ble_eq_true rfl⟩, hts _ tt270, trivial⟩ (x_pre (wc := (W_0  )) (av := [.int x5_11]) hK hP hD hS hA hG [] [] rfl rfl (by decide)) rfl rfl hl.1 rfl (lv_room (Nat.le_of_ble_eq_true rfl)) d_Stk_blank_39 ⟨Nat.zero_le _, Nat.zero_le _⟩) hP hD hS hA [] [0, 1, 2, 3, 4, 5, 6, 7] [0, 1, 2, 3, 4, 5, 6, 7] rfl rfl (by decide) (by decide) (by decide) rfl (fun H locs hP hD hS => ?_)
          refine lv_istore (lv' := [(5, .int z3), (4, .int z2), (0, .ref s_0), (6, .int (0 : Int32))]) hx hb d_Stk_blank_42 hl (by decide) rfl (fun ls hl => ?_)
          refine lv_iinc (k := 3) (v := (-1 : Int32)) (lv' := [(6, .int (-1 : Int32)), (5, .int z3), (4, .int z2), (0, .ref s_0)]) hx hb d_Stk_blank_44 hl rfl (by decide) (by decide) rfl (fun ls hl => ?_)
          refine lv_goto (tgt := 11) hx hb d_Stk_blank_47 rfl ?_
          exact ih11 z2 z3 (-1 : Int32) z1.1 z1.2.1 z1.2.2 v_pixels_11 v_wide_11 v_high_11 w_pixels_11 w_wide_11 w_high_11 H locs ls (lv_sub hl [3, 2, 1, 0] rfl) hP hD hS h
        replace h := of hsp h
        by_cases hsp : x6_11 = (1 : Int32)
        · replace h := ot hsp h
          subst hsp
          refine lv_aload_n hx hb d_Stk_blank_16 rfl (lv_at hl 0 rfl) ?_
          refine va_get (D := (dC, dI)) (ci := 1) (v := .ref s_layers_a) (C := R_Stk) (T := F_Stk) (N := 3) hx hb hts in_Stk hown hK hP 0 rfl rfl 0 (by decide) (hts _ tt163) (fun _ h9 => h9) rfl d_Stk_blank_17 ?_
          refine lv_iload hx hb d_Stk_blank_20 (lv_at hl 3 rfl) ?_
          refine va_aldq hx hb hK hP 1 0 rfl rfl (vpb_in (by decide)) d_Stk_blank_22 ?_
          refine x_cv (y := .ref v_0) (by rw [hR1]; rfl) ?_
          refine lv_iload hx hb d_Stk_blank_23 (lv_at hl 1 rfl) ?_
          refine lv_iload hx hb d_Stk_blank_25 (lv_at hl 2 rfl) ?_
          obtain ⟨z4, hz4, h⟩ := ob h
          refine x_goV (w1 := (W_P v_0 v_pixels_a v_pixels_k z4.1 z4.2.1 z4.2.2)) (ws' := (W_U s_0 s_layers_a u_0 u_pixels_a v_0 v_pixels_a w_0 w_pixels_a s_layers_k u_pixels_k v_pixels_k w_pixels_k s_coder_p s_layers_r s_plainRows u_pixels_11 u_wide_11 u_high_11 z4.1 z4.2.1 z4.2.2 w_pixels_11 w_wide_11 w_high_11)) (wr := List.filterMap (fun (i : Nat) => (W_U s_0 s_layers_a u_0 u_pixels_a v_0 v_pixels_a w_0 w_pixels_a s_layers_k u_pixels_k v_pixels_k w_pixels_k s_coder_p s_layers_r s_plainRows u_pixels_11 u_wide_11 u_high_11 v_pixels_11 v_wide_11 v_high_11 w_pixels_11 w_wide_11 w_high_11)[i]?) ([0, 1, 2, 3, 6, 7] : List Nat)) (va_runV (As := [.int x4_11, .int x5_11]) (rest := []) ⟨hx, hb, hml, hown, hts⟩ (c_Pic_blank l dC dI v_0 v_pixels_a v_pixels_k x4_11 x5_11 v_pixels_11 v_wide_11 v_high_11 z4  hz4 H.size) ⟨callB_of 2 hts (gT tt275 TT_good) rfl rfl rfl (hts _ tt46) (hts _ tt582) (by decide +kernel) ⟨Nat.le_of_ble_eq_true rfl, Nat.le_of_ble_eq_true rfl⟩, hts _ tt273, hts _ tt274⟩ (x_preV (q := (R_Pic, F_Pic, 3)) (As := [.int x4_11, .int x5_11]) (x_pre (wc := (W_P v_0 v_pixels_a v_pixels_k v_pixels_11 v_wide_11 v_high_11)) (av := (.ref v_0 :: [.int x4_11, .int x5_11])) hK hP hD hS hA hG [2] [4, 5] rfl rfl (by decide)) hK hP (q0 := 4) rfl rfl) rfl rfl hl.1 rfl (lv_room (Nat.le_of_ble_eq_true rfl)) d_Stk_blank_27 ⟨Nat.zero_le _, Nat.zero_le _⟩) hP hD hS hA [4, 5] [0, 1, 2, 3, 6, 7] [0, 1, 2, 3, 6, 7, 4, 5] rfl rfl (by decide) (by decide) (by decide) rfl (fun H locs hP hD hS => ?_)
          refine lv_iload hx hb d_Stk_blank_30 (lv_at hl 1 rfl) ?_
          obtain ⟨z5, hz5, h⟩ := ob h
          refine x_goI (res := z5) (w1 := (W_0  )) (ws' := (W_U s_0 s_layers_a u_0 u_pixels_a v_0 v_pixels_a w_0 w_pixels_a s_layers_k u_pixels_k v_pixels_k w_pixels_k s_coder_p s_layers_r s_plainRows u_pixels_11 u_wide_11 u_high_11 z4.1 z4.2.1 z4.2.2 w_pixels_11 w_wide_11 w_high_11)) (wr := List.filterMap (fun (i : Nat) => (W_U s_0 s_layers_a u_0 u_pixels_a v_0 v_pixels_a w_0 w_pixels_a s_layers_k u_pixels_k v_pixels_k w_pixels_k s_coder_p s_layers_r s_plainRows u_pixels_11 u_wide_11 u_high_11 z4.1 z4.2.1 z4.2.2 w_pixels_11 w_wide_11 w_high_11)[i]?) ([0, 1, 2, 3, 4, 5, 6, 7] : List Nat)) (va_runSN (As := [.int x4_11]) (rest := []) ⟨hx, hb, hml, hown, hts⟩ (c_halfSide l dC dI  x4_11  z5  hz5 H.size) ⟨va_cnB 1 hts (gT tt271 TT_good) rfl rfl rfl (hN _ nn583) (hts _ tt45) (by decide +kernel) ⟨Nat.le_of_ble_eq_true rfl, Nat.le_of_ble_eq_true rfl⟩, hts _ tt270, trivial⟩ (x_pre (wc := (W_0  )) (av := [.int x4_11]) hK hP hD hS hA hG [] [] rfl rfl (by decide)) rfl rfl hl.1 rfl (lv_room (Nat.le_of_ble_eq_true rfl)) d_Stk_blank_32 ⟨Nat.zero_le _, Nat.zero_le _⟩) hP hD hS hA [] [0, 1, 2, 3, 4, 5, 6, 7] [0, 1, 2, 3, 4, 5, 6, 7] rfl rfl (by decide) (by decide) (by decide) rfl (fun H locs hP hD hS => ?_)
          refine lv_istore (lv' := [(4, .int z5), (0, .ref s_0), (5, .int x5_11), (6, .int (1 : Int32))]) hx hb d_Stk_blank_35 hl (by decide) rfl (fun ls hl => ?_)
          refine lv_iload hx hb d_Stk_blank_37 (lv_at hl 2 rfl) ?_
          obtain ⟨z6, hz6, h⟩ := ob h
          refine x_goI (res := z6) (w1 := (W_0  )) (ws' := (W_U s_0 s_layers_a u_0 u_pixels_a v_0 v_pixels_a w_0 w_pixels_a s_layers_k u_pixels_k v_pixels_k w_pixels_k s_coder_p s_layers_r s_plainRows u_pixels_11 u_wide_11 u_high_11 z4.1 z4.2.1 z4.2.2 w_pixels_11 w_wide_11 w_high_11)) (wr := List.filterMap (fun (i : Nat) => (W_U s_0 s_layers_a u_0 u_pixels_a v_0 v_pixels_a w_0 w_pixels_a s_layers_k u_pixels_k v_pixels_k w_pixels_k s_coder_p s_layers_r s_plainRows u_pixels_11 u_wide_11 u_high_11 z4.1 z4.2.1 z4.2.2 w_pixels_11 w_wide_11 w_high_11)[i]?) ([0, 1, 2, 3, 4, 5, 6, 7] : List Nat)) (va_runSN (As := [.int x5_11]) (rest := []) ⟨hx, hb, hml, hown, hts⟩ (c_halfSide l dC dI  x5_11  z6  hz6 H.size) ⟨va_cnB 1 hts (gT tt271 TT_good) rfl rfl rfl (hN _ nn583) (hts _ tt45) (by decide +kernel) ⟨Nat.le_of_ble_eq_true rfl, Nat.le_of_ble_eq_true rfl⟩, hts _ tt270, trivial⟩ (x_pre (wc := (W_0  )) (av := [.int x5_11]) hK hP hD hS hA hG [] [] rfl rfl (by decide)) rfl rfl hl.1 rfl (lv_room (Nat.le_of_ble_eq_true rfl)) d_Stk_blank_39 ⟨Nat.zero_le _, Nat.zero_le _⟩) hP hD hS hA [] [0, 1, 2, 3, 4, 5, 6, 7] [0, 1, 2, 3, 4, 5, 6, 7] rfl rfl (by decide) (by decide) (by decide) rfl (fun H locs hP hD hS => ?_)
          refine lv_istore (lv' := [(5, .int z6), (4, .int z5), (0, .ref s_0), (6, .int (1 : Int32))]) hx hb d_Stk_blank_42 hl (by decide) rfl (fun ls hl => ?_)
          refine lv_iinc (k := 3) (v := (0 : Int32)) (lv' := [(6, .int (0 : Int32)), (5, .int z6), (4, .int z5), (0, .ref s_0)]) hx hb d_Stk_blank_44 hl rfl (by decide) (by decide) rfl (fun ls hl => ?_)
          refine lv_goto (tgt := 11) hx hb d_Stk_blank_47 rfl ?_
          exact ih11 z5 z6 (0 : Int32) u_pixels_11 u_wide_11 u_high_11 z4.1 z4.2.1 z4.2.2 w_pixels_11 w_wide_11 w_high_11 H locs ls (lv_sub hl [3, 2, 1, 0] rfl) hP hD hS h
        replace h := of hsp h
        by_cases hsp : x6_11 = (2 : Int32)
        · replace h := ot hsp h
          subst hsp
          refine lv_aload_n hx hb d_Stk_blank_16 rfl (lv_at hl 0 rfl) ?_
          refine va_get (D := (dC, dI)) (ci := 1) (v := .ref s_layers_a) (C := R_Stk) (T := F_Stk) (N := 3) hx hb hts in_Stk hown hK hP 0 rfl rfl 0 (by decide) (hts _ tt163) (fun _ h9 => h9) rfl d_Stk_blank_17 ?_
          refine lv_iload hx hb d_Stk_blank_20 (lv_at hl 3 rfl) ?_
          refine va_aldq hx hb hK hP 1 0 rfl rfl (vpb_in (by decide)) d_Stk_blank_22 ?_
          refine x_cv (y := .ref w_0) (by rw [hR2]; rfl) ?_
          refine lv_iload hx hb d_Stk_blank_23 (lv_at hl 1 rfl) ?_
          refine lv_iload hx hb d_Stk_blank_25 (lv_at hl 2 rfl) ?_
          obtain ⟨z7, hz7, h⟩ := ob h
          refine x_goV (w1 := (W_P w_0 w_pixels_a w_pixels_k z7.1 z7.2.1 z7.2.2)) (ws' := (W_U s_0 s_layers_a u_0 u_pixels_a v_0 v_pixels_a w_0 w_pixels_a s_layers_k u_pixels_k v_pixels_k w_pixels_k s_coder_p s_layers_r s_plainRows u_pixels_11 u_wide_11 u_high_11 v_pixels_11 v_wide_11 v_high_11 z7.1 z7.2.1 z7.2.2)) (wr := List.filterMap (fun (i : Nat) => (W_U s_0 s_layers_a u_0 u_pixels_a v_0 v_pixels_a w_0 w_pixels_a s_layers_k u_pixels_k v_pixels_k w_pixels_k s_coder_p s_layers_r s_plainRows u_pixels_11 u_wide_11 u_high_11 v_pixels_11 v_wide_11 v_high_11 w_pixels_11 w_wide_11 w_high_11)[i]?) ([0, 1, 2, 3, 4, 5] : List Nat)) (va_runV (As := [.int x4_11, .int x5_11]) (rest := []) ⟨hx, hb, hml, hown, hts⟩ (c_Pic_blank l dC dI w_0 w_pixels_a w_pixels_k x4_11 x5_11 w_pixels_11 w_wide_11 w_high_11 z7  hz7 H.size) ⟨callB_of 2 hts (gT tt275 TT_good) rfl rfl rfl (hts _ tt46) (hts _ tt582) (by decide +kernel) ⟨Nat.le_of_ble_eq_true rfl, Nat.le_of_ble_eq_true rfl⟩, hts _ tt273, hts _ tt274⟩ (x_preV (q := (R_Pic, F_Pic, 3)) (As := [.int x4_11, .int x5_11]) (x_pre (wc := (W_P w_0 w_pixels_a w_pixels_k w_pixels_11 w_wide_11 w_high_11)) (av := (.ref w_0 :: [.int x4_11, .int x5_11])) hK hP hD hS hA hG [3] [6, 7] rfl rfl (by decide)) hK hP (q0 := 6) rfl rfl) rfl rfl hl.1 rfl (lv_room (Nat.le_of_ble_eq_true rfl)) d_Stk_blank_27 ⟨Nat.zero_le _, Nat.zero_le _⟩) hP hD hS hA [6, 7] [0, 1, 2, 3, 4, 5] [0, 1, 2, 3, 4, 5, 6, 7] rfl rfl (by decide) (by decide) (by decide) rfl (fun H locs hP hD hS => ?_)
          refine lv_iload hx hb d_Stk_blank_30 (lv_at hl 1 rfl) ?_
          obtain ⟨z8, hz8, h⟩ := ob h
          refine x_goI (res := z8) (w1 := (W_0  )) (ws' := (W_U s_0 s_layers_a u_0 u_pixels_a v_0 v_pixels_a w_0 w_pixels_a s_layers_k u_pixels_k v_pixels_k w_pixels_k s_coder_p s_layers_r s_plainRows u_pixels_11 u_wide_11 u_high_11 v_pixels_11 v_wide_11 v_high_11 z7.1 z7.2.1 z7.2.2)) (wr := List.filterMap (fun (i : Nat) => (W_U s_0 s_layers_a u_0 u_pixels_a v_0 v_pixels_a w_0 w_pixels_a s_layers_k u_pixels_k v_pixels_k w_pixels_k s_coder_p s_layers_r s_plainRows u_pixels_11 u_wide_11 u_high_11 v_pixels_11 v_wide_11 v_high_11 z7.1 z7.2.1 z7.2.2)[i]?) ([0, 1, 2, 3, 4, 5, 6, 7] : List Nat)) (va_runSN (As := [.int x4_11]) (rest := []) ⟨hx, hb, hml, hown, hts⟩ (c_halfSide l dC dI  x4_11  z8  hz8 H.size) ⟨va_cnB 1 hts (gT tt271 TT_good) rfl rfl rfl (hN _ nn583) (hts _ tt45) (by decide +kernel) ⟨Nat.le_of_ble_eq_true rfl, Nat.le_of_ble_eq_true rfl⟩, hts _ tt270, trivial⟩ (x_pre (wc := (W_0  )) (av := [.int x4_11]) hK hP hD hS hA hG [] [] rfl rfl (by decide)) rfl rfl hl.1 rfl (lv_room (Nat.le_of_ble_eq_true rfl)) d_Stk_blank_32 ⟨Nat.zero_le _, Nat.zero_le _⟩) hP hD hS hA [] [0, 1, 2, 3, 4, 5, 6, 7] [0, 1, 2, 3, 4, 5, 6, 7] rfl rfl (by decide) (by decide) (by decide) rfl (fun H locs hP hD hS => ?_)
          refine lv_istore (lv' := [(4, .int z8), (0, .ref s_0), (5, .int x5_11), (6, .int (2 : Int32))]) hx hb d_Stk_blank_35 hl (by decide) rfl (fun ls hl => ?_)
          refine lv_iload hx hb d_Stk_blank_37 (lv_at hl 2 rfl) ?_
          obtain ⟨z9, hz9, h⟩ := ob h
          refine x_goI (res := z9) (w1 := (W_0  )) (ws' := (W_U s_0 s_layers_a u_0 u_pixels_a v_0 v_pixels_a w_0 w_pixels_a s_layers_k u_pixels_k v_pixels_k w_pixels_k s_coder_p s_layers_r s_plainRows u_pixels_11 u_wide_11 u_high_11 v_pixels_11 v_wide_11 v_high_11 z7.1 z7.2.1 z7.2.2)) (wr := List.filterMap (fun (i : Nat) => (W_U s_0 s_layers_a u_0 u_pixels_a v_0 v_pixels_a w_0 w_pixels_a s_layers_k u_pixels_k v_pixels_k w_pixels_k s_coder_p s_layers_r s_plainRows u_pixels_11 u_wide_11 u_high_11 v_pixels_11 v_wide_11 v_high_11 z7.1 z7.2.1 z7.2.2)[i]?) ([0, 1, 2, 3, 4, 5, 6, 7] : List Nat)) (va_runSN (As := [.int x5_11]) (rest := []) ⟨hx, hb, hml, hown, hts⟩ (c_halfSide l dC dI  x5_11  z9  hz9 H.size) ⟨va_cnB 1 hts (gT tt271 TT_good) rfl rfl rfl (hN _ nn583) (hts _ tt45) (by decide +kernel) ⟨Nat.le_of_ble_eq_true rfl, Nat.le_of_ble_eq_true rfl⟩, hts _ tt270, trivial⟩ (x_pre (wc := (W_0  )) (av := [.int x5_11]) hK hP hD hS hA hG [] [] rfl rfl (by decide)) rfl rfl hl.1 rfl (lv_room (Nat.le_of_ble_eq_true rfl)) d_Stk_blank_39 ⟨Nat.zero_le _, Nat.zero_le _⟩) hP hD hS hA [] [0, 1, 2, 3, 4, 5, 6, 7] [0, 1, 2, 3, 4, 5, 6, 7] rfl rfl (by decide) (by decide) (by decide) rfl (fun H locs hP hD hS => ?_)
          refine lv_istore (lv' := [(5, .int z9), (4, .int z8), (0, .ref s_0), (6, .int (2 : Int32))]) hx hb d_Stk_blank_42 hl (by decide) rfl (fun ls hl => ?_)
          refine lv_iinc (k := 3) (v := (1 : Int32)) (lv' := [(6, .int (1 : Int32)), (5, .int z9), (4, .int z8), (0, .ref s_0)]) hx hb d_Stk_blank_44 hl rfl (by decide) (by decide) rfl (fun ls hl => ?_)
          refine lv_goto (tgt := 11) hx hb d_Stk_blank_47 rfl ?_
          exact ih11 z8 z9 (1 : Int32) u_pixels_11 u_wide_11 u_high_11 v_pixels_11 v_wide_11 v_high_11 z7.1 z7.2.1 z7.2.2 H locs ls (lv_sub hl [3, 2, 1, 0] rfl) hP hD hS h
        replace h := of hsp h
        cases h
  have h := hq
  refine lv_iload_n hx hb d_Stk_blank_0 rfl (lv_at hl 2 rfl) ?_
  refine lv_istore (lv' := [(4, .int i_wide), (0, .ref s_0), (1, .int i_count), (2, .int i_wide), (3, .int i_high)]) hx hb d_Stk_blank_1 hl (by decide) rfl (fun ls hl => ?_)
  refine lv_iload_n hx hb d_Stk_blank_3 rfl (lv_at hl 4 rfl) ?_
  refine lv_istore (lv' := [(5, .int i_high), (4, .int i_wide), (0, .ref s_0), (1, .int i_count), (2, .int i_wide), (3, .int i_high)]) hx hb d_Stk_blank_4 hl (by decide) rfl (fun ls hl => ?_)
  refine lv_iload_n hx hb d_Stk_blank_6 rfl (lv_at hl 3 rfl) ?_
  refine lv_iconst (v := (1 : Int32)) hx hb d_Stk_blank_7 (by decide) ?_
  refine lv_isub hx hb d_Stk_blank_8 ?_
  refine lv_istore (lv' := [(6, .int (i_count - (1 : Int32))), (5, .int i_high), (4, .int i_wide), (0, .ref s_0), (1, .int i_count), (2, .int i_wide), (3, .int i_high)]) hx hb d_Stk_blank_9 hl (by decide) rfl (fun ls hl => ?_)
  exact L11 5000 i_wide i_high (i_count - (1 : Int32)) u_pixels u_wide u_high v_pixels v_wide v_high w_pixels w_wide w_high H locs ls (lv_sub hl [3, 2, 1, 0] rfl) hP hD hS h
