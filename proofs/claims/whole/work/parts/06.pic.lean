def W_A256 (a_arr_a : Nat) (a_arr_k : ClassId) (a_arr : Nat → Int32) : va_W := [(a_arr_a, .inl (a_arr_k, 256, .inl a_arr))]
def W_A2563 (a_arr_a : Nat) (a_arr_k : ClassId) (a_arr : Nat → Int32) : va_W := [(a_arr_a, .inl (a_arr_k, 2563, .inl a_arr))]
def W_A2464 (a_arr_a : Nat) (a_arr_k : ClassId) (a_arr : Nat → Int32) : va_W := [(a_arr_a, .inl (a_arr_k, 2464, .inl a_arr))]
def W_P (p_0 p_pixels_a : Nat) (p_pixels_k : ClassId) (p_pixels : Nat → Int32) (p_wide : Int32) (p_high : Int32) : va_W := [(p_0, .inr (4, [.ref p_pixels_a, .int p_wide, .int p_high])), (p_pixels_a, .inl (p_pixels_k, 256, .inl p_pixels))]
theorem d_Arr_fill2_0 : decode b_Arr_fill2 0 = .ok (.iconst (0), 1) := by decide +kernel
theorem d_Arr_fill2_1 : decode b_Arr_fill2 1 = .ok (.istore_n 2, 1) := by decide +kernel
theorem d_Arr_fill2_2 : decode b_Arr_fill2 2 = .ok (.aload_n 0, 1) := by decide +kernel
theorem d_Arr_fill2_3 : decode b_Arr_fill2 3 = .ok (.arraylength, 1) := by decide +kernel
theorem d_Arr_fill2_4 : decode b_Arr_fill2 4 = .ok (.istore_n 3, 1) := by decide +kernel
theorem d_Arr_fill2_5 : decode b_Arr_fill2 5 = .ok (.iload_n 2, 1) := by decide +kernel
theorem d_Arr_fill2_6 : decode b_Arr_fill2 6 = .ok (.iload_n 3, 1) := by decide +kernel
theorem d_Arr_fill2_7 : decode b_Arr_fill2 7 = .ok (.if_icmp .ge (13), 3) := by decide +kernel
theorem d_Arr_fill2_10 : decode b_Arr_fill2 10 = .ok (.aload_n 0, 1) := by decide +kernel
theorem d_Arr_fill2_11 : decode b_Arr_fill2 11 = .ok (.iload_n 2, 1) := by decide +kernel
theorem d_Arr_fill2_12 : decode b_Arr_fill2 12 = .ok (.iload_n 1, 1) := by decide +kernel
theorem d_Arr_fill2_13 : decode b_Arr_fill2 13 = .ok (.iastore, 1) := by decide +kernel
theorem d_Arr_fill2_14 : decode b_Arr_fill2 14 = .ok (.iinc 2 (1), 3) := by decide +kernel
theorem d_Arr_fill2_17 : decode b_Arr_fill2 17 = .ok (.goto (-12), 3) := by decide +kernel
theorem d_Arr_fill2_20 : decode b_Arr_fill2 20 = .ok (.return_, 1) := by decide +kernel
def q_fill256_5 (i_v : Int32)  : Nat → Int32 → Int32 → (Nat → Int32) → Option ((Nat → Int32))
  | 0, _, _, _ => none
  | n + 1, x2_5, x3_5, a_arr_5 => (if x3_5 ≤ x2_5 then some (a_arr_5) else (if vpb x2_5 256 = true then (q_fill256_5 i_v n (x2_5 + (1 : Int32)) x3_5 (upd a_arr_5 x2_5.toNatClampNeg i_v)) else none))
def q_fill256 (i_v : Int32) (a_arr : Nat → Int32) : Option ((Nat → Int32)) := (q_fill256_5 i_v  5000 (0 : Int32) (256 : Int32) a_arr)
abbrev rm_fill256 : Room := { frames := 0, cells := 0, slots := 0, locals := 0 }
set_option maxHeartbeats 4000000 in
set_option maxRecDepth 100000 in
theorem c_fill256 (l : Launch) (dC : Nat → ClassId) (dI : Nat → Nat → Nat) (a_arr_a : Nat) (a_arr_k : ClassId) (i_v : Int32) (a_arr : Nat → Int32) (z : (Nat → Int32))  (hq : q_fill256 i_v a_arr = some z) (sz : Nat) : MetV l y_Arr_fill2 b_Arr_fill2 4 TT rm_fill256 (dC, dI) vcl [(a_arr_k, .int)] (W_A256 a_arr_a a_arr_k a_arr) (W_A256 a_arr_a a_arr_k z) [.ref a_arr_a, .int i_v] sz := by
  refine x_ofV (by decide) (Nat.le_of_ble_eq_true rfl) ?_ sz
  intro p e s m args below meth c A Q ls hx hb hml hown hts hA hG hK hP hD hS hl hret
  have hown : s.vm.findClass R_Arr = some m.cls := hown
  have hl : lv_has ls 4 [(0, .ref a_arr_a), (1, .int i_v)] := hl
  obtain ⟨⟨tq, hZ, hTq⟩, hN⟩ := id hG
  obtain ⟨H, hH⟩ : ∃ H, H = s.heap := ⟨_, rfl⟩
  obtain ⟨locs, hlocs⟩ : ∃ locs : List Loc, locs = [] := ⟨_, rfl⟩
  rw [← hH] at hP
  have hS : va_S A s.heap H locs := by rw [hH, hlocs]; exact hS
  suffices hgo : W p l e rm_fill256 s m args below meth c H locs 0 0 Q (F0 m 0 ls []) by rw [hH, hlocs] at hgo; exact hgo
  unfold q_fill256 at hq
  have L5 : ∀ (n5 : Nat) (x2_5 : Int32) (x3_5 : Int32) (a_arr_5 : Nat → Int32) (H : Heap) (locs : List Loc) (ls : Array Slot), lv_has ls 4 [(0, .ref a_arr_a), (1, .int i_v), (2, .int x2_5), (3, .int x3_5)] → va_P (dC, dI) vcl (W_A256 a_arr_a a_arr_k a_arr_5) H → va_D A (W_A256 a_arr_a a_arr_k a_arr_5) → va_S A s.heap H locs → q_fill256_5 i_v  n5 x2_5 x3_5 a_arr_5 = some z → W p l e rm_fill256 s m args below meth c H locs 0 0 Q (F0 m 5 ls []) := by
    intro n5
    induction n5 with
    | zero =>
      intro x2_5 x3_5 a_arr_5 H locs ls hl hP hD hS hq
      rw [q_fill256_5] at hq
      cases hq
    | succ n5 ih5 =>
      intro x2_5 x3_5 a_arr_5 H locs ls hl hP hD hS hq5
      rw [q_fill256_5] at hq5
      have h := hq5
      refine lv_iload_n hx hb d_Arr_fill2_5 rfl (lv_at hl 2 rfl) ?_
      refine lv_iload_n hx hb d_Arr_fill2_6 rfl (lv_at hl 3 rfl) ?_
      refine lv_icmp_ge (tgt := 20) hx hb d_Arr_fill2_7 rfl (fun hc => ?_) (fun hc => ?_)
      · replace h := ot hc h
        obtain rfl := Option.some.inj h
        exact hret H locs 20 ls d_Arr_fill2_20 hP hD hS
      · replace h := of hc h
        refine lv_aload_n hx hb d_Arr_fill2_10 rfl (lv_at hl 0 rfl) ?_
        refine lv_iload_n hx hb d_Arr_fill2_11 rfl (lv_at hl 2 rfl) ?_
        refine lv_iload_n hx hb d_Arr_fill2_12 rfl (lv_at hl 1 rfl) ?_
        obtain ⟨hin, h⟩ := og h
        refine va_iast hx hb hK hP hD hS 0 0 rfl rfl (vpb_in hin) d_Arr_fill2_13 (fun H locs hP hD hS => ?_)
        have hP : va_P (dC, dI) vcl (W_A256 a_arr_a a_arr_k (upd a_arr_5 x2_5.toNatClampNeg i_v)) H := hP
        have hD : va_D A (W_A256 a_arr_a a_arr_k (upd a_arr_5 x2_5.toNatClampNeg i_v)) := hD
        refine lv_iinc (k := 2) (v := x2_5 + (1 : Int32)) (lv' := [(2, .int (x2_5 + (1 : Int32))), (0, .ref a_arr_a), (1, .int i_v), (3, .int x3_5)]) hx hb d_Arr_fill2_14 hl rfl rfl (by decide) rfl (fun ls hl => ?_)
        refine lv_goto (tgt := 5) hx hb d_Arr_fill2_17 rfl ?_
        exact ih5 (x2_5 + (1 : Int32)) x3_5 (upd a_arr_5 x2_5.toNatClampNeg i_v) H locs ls (lv_sub hl [1, 2, 0, 3] rfl) hP hD hS h
  have h := hq
  refine lv_iconst (v := (0 : Int32)) hx hb d_Arr_fill2_0 (by decide) ?_
  refine lv_istore_n (lv' := [(2, .int (0 : Int32)), (0, .ref a_arr_a), (1, .int i_v)]) hx hb d_Arr_fill2_1 rfl hl (by decide) rfl (fun ls hl => ?_)
  refine lv_aload_n hx hb d_Arr_fill2_2 rfl (lv_at hl 1 rfl) ?_
  refine va_alen (v := (256 : Int32)) hx hb hK hP 0 0 rfl rfl rfl d_Arr_fill2_3 ?_
  refine lv_istore_n (lv' := [(3, .int (256 : Int32)), (2, .int (0 : Int32)), (0, .ref a_arr_a), (1, .int i_v)]) hx hb d_Arr_fill2_4 rfl hl (by decide) rfl (fun ls hl => ?_)
  exact L5 5000 (0 : Int32) (256 : Int32) a_arr H locs ls (lv_sub hl [2, 3, 1, 0] rfl) hP hD hS h
theorem d_Pic_blank_0 : decode b_Pic_blank 0 = .ok (.aload_n 0, 1) := by decide +kernel
theorem d_Pic_blank_1 : decode b_Pic_blank 1 = .ok (.iload_n 1, 1) := by decide +kernel
theorem d_Pic_blank_2 : decode b_Pic_blank 2 = .ok (.putfield 15, 3) := by decide +kernel
theorem d_Pic_blank_5 : decode b_Pic_blank 5 = .ok (.aload_n 0, 1) := by decide +kernel
theorem d_Pic_blank_6 : decode b_Pic_blank 6 = .ok (.iload_n 2, 1) := by decide +kernel
theorem d_Pic_blank_7 : decode b_Pic_blank 7 = .ok (.putfield 19, 3) := by decide +kernel
theorem d_Pic_blank_10 : decode b_Pic_blank 10 = .ok (.aload_n 0, 1) := by decide +kernel
theorem d_Pic_blank_11 : decode b_Pic_blank 11 = .ok (.getfield 9, 3) := by decide +kernel
theorem d_Pic_blank_14 : decode b_Pic_blank 14 = .ok (.iconst (0), 1) := by decide +kernel
theorem d_Pic_blank_15 : decode b_Pic_blank 15 = .ok (.invokestatic 22, 3) := by decide +kernel
theorem d_Pic_blank_18 : decode b_Pic_blank 18 = .ok (.return_, 1) := by decide +kernel
def q_Pic_blank (i_w : Int32) (i_h : Int32) (p_pixels : Nat → Int32) (p_wide : Int32) (p_high : Int32) : Option ((Nat → Int32) × Int32 × Int32) := ((q_fill256 (0 : Int32) p_pixels).bind fun z1 => some (z1, i_w, i_h))
abbrev rm_Pic_blank : Room := { frames := 1, cells := 0, slots := 0, locals := 23 }
set_option maxHeartbeats 4000000 in
set_option maxRecDepth 100000 in
theorem c_Pic_blank (l : Launch) (dC : Nat → ClassId) (dI : Nat → Nat → Nat) (p_0 p_pixels_a : Nat) (p_pixels_k : ClassId) (i_w : Int32) (i_h : Int32) (p_pixels : Nat → Int32) (p_wide : Int32) (p_high : Int32) (z : (Nat → Int32) × Int32 × Int32)  (hq : q_Pic_blank i_w i_h p_pixels p_wide p_high = some z) (sz : Nat) : MetV l y_Pic_blank b_Pic_blank 3 TT rm_Pic_blank (dC, dI) vcl [(p_pixels_k, .int)] (W_P p_0 p_pixels_a p_pixels_k p_pixels p_wide p_high) (W_P p_0 p_pixels_a p_pixels_k z.1 z.2.1 z.2.2) [.ref p_0, .int i_w, .int i_h] sz := by
  refine x_ofV (by decide) (Nat.le_of_ble_eq_true rfl) ?_ sz
  intro p e s m args below meth c A Q ls hx hb hml hown hts hA hG hK hP hD hS hl hret
  have hown : s.vm.findClass R_Pic = some m.cls := hown
  have hl : lv_has ls 3 [(0, .ref p_0), (1, .int i_w), (2, .int i_h)] := hl
  obtain ⟨⟨tq, hZ, hTq⟩, hN⟩ := id hG
  obtain ⟨H, hH⟩ : ∃ H, H = s.heap := ⟨_, rfl⟩
  obtain ⟨locs, hlocs⟩ : ∃ locs : List Loc, locs = [] := ⟨_, rfl⟩
  rw [← hH] at hP
  have hS : va_S A s.heap H locs := by rw [hH, hlocs]; exact hS
  suffices hgo : W p l e rm_Pic_blank s m args below meth c H locs 0 0 Q (F0 m 0 ls []) by rw [hH, hlocs] at hgo; exact hgo
  unfold q_Pic_blank at hq
  have h := hq
  refine lv_aload_n hx hb d_Pic_blank_0 rfl (lv_at hl 0 rfl) ?_
  refine lv_iload_n hx hb d_Pic_blank_1 rfl (lv_at hl 1 rfl) ?_
  refine va_put (D := (dC, dI)) (ci := 4) (v := .int i_w) (ty := .int) (C := R_Pic) (T := F_Pic) (N := 3) hx hb hts in_Pic t_Pic t_Pic_ok n_Pic hown hK hP hD hS 0 rfl rfl 1 (by decide) (hts _ tt78) (fun _ h9 => h9) rfl (by decide +kernel) rfl rfl (Nat.le_of_ble_eq_true rfl) d_Pic_blank_2 (fun H locs hP hD hS => ?_)
  have hP : va_P (dC, dI) vcl (W_P p_0 p_pixels_a p_pixels_k p_pixels i_w p_high) H := hP
  have hD : va_D A (W_P p_0 p_pixels_a p_pixels_k p_pixels i_w p_high) := hD
  refine lv_aload_n hx hb d_Pic_blank_5 rfl (lv_at hl 0 rfl) ?_
  refine lv_iload_n hx hb d_Pic_blank_6 rfl (lv_at hl 2 rfl) ?_
  refine va_put (D := (dC, dI)) (ci := 4) (v := .int i_h) (ty := .int) (C := R_Pic) (T := F_Pic) (N := 3) hx hb hts in_Pic t_Pic t_Pic_ok n_Pic hown hK hP hD hS 0 rfl rfl 2 (by decide) (hts _ tt81) (fun _ h9 => h9) rfl (by decide +kernel) rfl rfl (Nat.le_of_ble_eq_true rfl) d_Pic_blank_7 (fun H locs hP hD hS => ?_)
  have hP : va_P (dC, dI) vcl (W_P p_0 p_pixels_a p_pixels_k p_pixels i_w i_h) H := hP
  have hD : va_D A (W_P p_0 p_pixels_a p_pixels_k p_pixels i_w i_h) := hD
  refine lv_aload_n hx hb d_Pic_blank_10 rfl (lv_at hl 0 rfl) ?_
  refine va_get (D := (dC, dI)) (ci := 4) (v := .ref p_pixels_a) (C := R_Pic) (T := F_Pic) (N := 3) hx hb hts in_Pic hown hK hP 0 rfl rfl 0 (by decide) (hts _ tt77) (fun _ h9 => h9) rfl d_Pic_blank_11 ?_
  refine lv_iconst (v := (0 : Int32)) hx hb d_Pic_blank_14 (by decide) ?_
  obtain ⟨z1, hz1, h⟩ := ob h
  refine x_goV (w1 := (W_A256 p_pixels_a p_pixels_k z1)) (ws' := (W_P p_0 p_pixels_a p_pixels_k z1 i_w i_h)) (wr := List.filterMap (fun (i : Nat) => (W_P p_0 p_pixels_a p_pixels_k p_pixels i_w i_h)[i]?) ([0] : List Nat)) (va_runS (As := [.ref p_pixels_a, .int (0 : Int32)]) (rest := []) ⟨hx, hb, hml, hown, hts⟩ (c_fill256 l dC dI p_pixels_a p_pixels_k (0 : Int32) p_pixels z1  hz1 H.size) ⟨callB_of 2 hts (gT tt278 TT_good) rfl rfl rfl (hts _ tt58) (hts _ tt276) (by decide +kernel) ⟨Nat.le_of_ble_eq_true rfl, Nat.le_of_ble_eq_true rfl⟩, hts _ tt277⟩ (x_pre (wc := (W_A256 p_pixels_a p_pixels_k p_pixels)) (av := [.ref p_pixels_a, .int (0 : Int32)]) hK hP hD hS hA hG [0] [1] rfl rfl (by decide)) rfl rfl hl.1 rfl (lv_room (Nat.le_of_ble_eq_true rfl)) d_Pic_blank_15 ⟨Nat.zero_le _, Nat.zero_le _⟩) hP hD hS hA [1] [0] [0, 1] rfl rfl (by decide) (by decide) (by decide) rfl (fun H locs hP hD hS => ?_)
  obtain rfl := Option.some.inj h
  exact hret H locs 18 ls d_Pic_blank_18 hP hD hS
theorem d_Pic_covers_0 : decode b_Pic_covers 0 = .ok (.iload_n 1, 1) := by decide +kernel
theorem d_Pic_covers_1 : decode b_Pic_covers 1 = .ok (.ifCond .lt (27), 3) := by decide +kernel
theorem d_Pic_covers_4 : decode b_Pic_covers 4 = .ok (.iload_n 1, 1) := by decide +kernel
theorem d_Pic_covers_5 : decode b_Pic_covers 5 = .ok (.aload_n 0, 1) := by decide +kernel
theorem d_Pic_covers_6 : decode b_Pic_covers 6 = .ok (.getfield 15, 3) := by decide +kernel
theorem d_Pic_covers_9 : decode b_Pic_covers 9 = .ok (.if_icmp .ge (19), 3) := by decide +kernel
theorem d_Pic_covers_12 : decode b_Pic_covers 12 = .ok (.iload_n 2, 1) := by decide +kernel
theorem d_Pic_covers_13 : decode b_Pic_covers 13 = .ok (.ifCond .lt (15), 3) := by decide +kernel
theorem d_Pic_covers_16 : decode b_Pic_covers 16 = .ok (.iload_n 2, 1) := by decide +kernel
theorem d_Pic_covers_17 : decode b_Pic_covers 17 = .ok (.aload_n 0, 1) := by decide +kernel
theorem d_Pic_covers_18 : decode b_Pic_covers 18 = .ok (.getfield 19, 3) := by decide +kernel
theorem d_Pic_covers_21 : decode b_Pic_covers 21 = .ok (.if_icmp .ge (7), 3) := by decide +kernel
theorem d_Pic_covers_24 : decode b_Pic_covers 24 = .ok (.iconst (1), 1) := by decide +kernel
theorem d_Pic_covers_25 : decode b_Pic_covers 25 = .ok (.goto (4), 3) := by decide +kernel
theorem d_Pic_covers_28 : decode b_Pic_covers 28 = .ok (.iconst (0), 1) := by decide +kernel
theorem d_Pic_covers_29 : decode b_Pic_covers 29 = .ok (.ireturn, 1) := by decide +kernel
def q_Pic_covers (i_x : Int32) (i_y : Int32) (p_wide : Int32) (p_high : Int32) : Option (Int32) := (if i_x < 0 then some ((0 : Int32)) else (if p_wide ≤ i_x then some ((0 : Int32)) else (if i_y < 0 then some ((0 : Int32)) else (if p_high ≤ i_y then some ((0 : Int32)) else some ((1 : Int32))))))
abbrev rm_Pic_covers : Room := { frames := 0, cells := 0, slots := 0, locals := 0 }
set_option maxHeartbeats 4000000 in
set_option maxRecDepth 100000 in
theorem c_Pic_covers (l : Launch) (dC : Nat → ClassId) (dI : Nat → Nat → Nat) (p_0 p_pixels_a : Nat) (p_pixels_k : ClassId) (i_x : Int32) (i_y : Int32) (p_pixels : Nat → Int32) (p_wide : Int32) (p_high : Int32) (z : Int32)  (hq : q_Pic_covers i_x i_y p_wide p_high = some z) (sz : Nat) : MetI l y_Pic_covers b_Pic_covers 3 .boolean TT rm_Pic_covers (dC, dI) vcl [(p_pixels_k, .int)] (W_P p_0 p_pixels_a p_pixels_k p_pixels p_wide p_high) (W_P p_0 p_pixels_a p_pixels_k p_pixels p_wide p_high) [.ref p_0, .int i_x, .int i_y] z sz := by
  refine x_ofI (by decide) (Nat.le_of_ble_eq_true rfl) ?_ sz
  intro p e s m args below meth c A Q ls hx hb hml hown hts hA hG hK hP hD hS hl hret
  have hown : s.vm.findClass R_Pic = some m.cls := hown
  have hl : lv_has ls 3 [(0, .ref p_0), (1, .int i_x), (2, .int i_y)] := hl
  obtain ⟨⟨tq, hZ, hTq⟩, hN⟩ := id hG
  obtain ⟨H, hH⟩ : ∃ H, H = s.heap := ⟨_, rfl⟩
  obtain ⟨locs, hlocs⟩ : ∃ locs : List Loc, locs = [] := ⟨_, rfl⟩
  rw [← hH] at hP
  have hS : va_S A s.heap H locs := by rw [hH, hlocs]; exact hS
  suffices hgo : W p l e rm_Pic_covers s m args below meth c H locs 0 0 Q (F0 m 0 ls []) by rw [hH, hlocs] at hgo; exact hgo
  unfold q_Pic_covers at hq
  have h := hq
  refine lv_iload_n hx hb d_Pic_covers_0 rfl (lv_at hl 1 rfl) ?_
  refine lv_if_lt (tgt := 28) hx hb d_Pic_covers_1 rfl (fun hc => ?_) (fun hc => ?_)
  · replace h := ot hc h
    refine lv_iconst (v := (0 : Int32)) hx hb d_Pic_covers_28 (by decide) ?_
    obtain rfl := Option.some.inj h
    exact hret H locs 29 ls d_Pic_covers_29 narrow_b0 hP hD hS
  · replace h := of hc h
    refine lv_iload_n hx hb d_Pic_covers_4 rfl (lv_at hl 1 rfl) ?_
    refine lv_aload_n hx hb d_Pic_covers_5 rfl (lv_at hl 0 rfl) ?_
    refine va_get (D := (dC, dI)) (ci := 4) (v := .int p_wide) (C := R_Pic) (T := F_Pic) (N := 3) hx hb hts in_Pic hown hK hP 0 rfl rfl 1 (by decide) (hts _ tt78) (fun _ h9 => h9) rfl d_Pic_covers_6 ?_
    refine lv_icmp_ge (tgt := 28) hx hb d_Pic_covers_9 rfl (fun hc => ?_) (fun hc => ?_)
    · replace h := ot hc h
      refine lv_iconst (v := (0 : Int32)) hx hb d_Pic_covers_28 (by decide) ?_
      obtain rfl := Option.some.inj h
      exact hret H locs 29 ls d_Pic_covers_29 narrow_b0 hP hD hS
    · replace h := of hc h
      refine lv_iload_n hx hb d_Pic_covers_12 rfl (lv_at hl 2 rfl) ?_
      refine lv_if_lt (tgt := 28) hx hb d_Pic_covers_13 rfl (fun hc => ?_) (fun hc => ?_)
      · replace h := ot hc h
        refine lv_iconst (v := (0 : Int32)) hx hb d_Pic_covers_28 (by decide) ?_
        obtain rfl := Option.some.inj h
        exact hret H locs 29 ls d_Pic_covers_29 narrow_b0 hP hD hS
      · replace h := of hc h
        refine lv_iload_n hx hb d_Pic_covers_16 rfl (lv_at hl 2 rfl) ?_
        refine lv_aload_n hx hb d_Pic_covers_17 rfl (lv_at hl 0 rfl) ?_
        refine va_get (D := (dC, dI)) (ci := 4) (v := .int p_high) (C := R_Pic) (T := F_Pic) (N := 3) hx hb hts in_Pic hown hK hP 0 rfl rfl 2 (by decide) (hts _ tt81) (fun _ h9 => h9) rfl d_Pic_covers_18 ?_
        refine lv_icmp_ge (tgt := 28) hx hb d_Pic_covers_21 rfl (fun hc => ?_) (fun hc => ?_)
        · replace h := ot hc h
          refine lv_iconst (v := (0 : Int32)) hx hb d_Pic_covers_28 (by decide) ?_
          obtain rfl := Option.some.inj h
          exact hret H locs 29 ls d_Pic_covers_29 narrow_b0 hP hD hS
        · replace h := of hc h
          refine lv_iconst (v := (1 : Int32)) hx hb d_Pic_covers_24 (by decide) ?_
          refine lv_goto (tgt := 29) hx hb d_Pic_covers_25 rfl ?_
          obtain rfl := Option.some.inj h
          exact hret H locs 29 ls d_Pic_covers_29 narrow_b1 hP hD hS
theorem d_Pic_pixel_0 : decode b_Pic_pixel 0 = .ok (.aload_n 0, 1) := by decide +kernel
theorem d_Pic_pixel_1 : decode b_Pic_pixel 1 = .ok (.iload_n 1, 1) := by decide +kernel
theorem d_Pic_pixel_2 : decode b_Pic_pixel 2 = .ok (.iload_n 2, 1) := by decide +kernel
theorem d_Pic_pixel_3 : decode b_Pic_pixel 3 = .ok (.invokevirtual 28, 3) := by decide +kernel
theorem d_Pic_pixel_6 : decode b_Pic_pixel 6 = .ok (.ifCond .eq (17), 3) := by decide +kernel
theorem d_Pic_pixel_9 : decode b_Pic_pixel 9 = .ok (.aload_n 0, 1) := by decide +kernel
theorem d_Pic_pixel_10 : decode b_Pic_pixel 10 = .ok (.getfield 9, 3) := by decide +kernel
theorem d_Pic_pixel_13 : decode b_Pic_pixel 13 = .ok (.bipush (16), 2) := by decide +kernel
theorem d_Pic_pixel_15 : decode b_Pic_pixel 15 = .ok (.iload_n 2, 1) := by decide +kernel
theorem d_Pic_pixel_16 : decode b_Pic_pixel 16 = .ok (.imul, 1) := by decide +kernel
theorem d_Pic_pixel_17 : decode b_Pic_pixel 17 = .ok (.iload_n 1, 1) := by decide +kernel
theorem d_Pic_pixel_18 : decode b_Pic_pixel 18 = .ok (.iadd, 1) := by decide +kernel
theorem d_Pic_pixel_19 : decode b_Pic_pixel 19 = .ok (.iaload, 1) := by decide +kernel
theorem d_Pic_pixel_20 : decode b_Pic_pixel 20 = .ok (.goto (4), 3) := by decide +kernel
theorem d_Pic_pixel_23 : decode b_Pic_pixel 23 = .ok (.iconst (0), 1) := by decide +kernel
theorem d_Pic_pixel_24 : decode b_Pic_pixel 24 = .ok (.ireturn, 1) := by decide +kernel
def q_Pic_pixel (i_x : Int32) (i_y : Int32) (p_pixels : Nat → Int32) (p_wide : Int32) (p_high : Int32) : Option (Int32) := ((q_Pic_covers i_x i_y p_wide p_high).bind fun z1 => (if z1 = 0 then some ((0 : Int32)) else (if vpb (((16 : Int32) * i_y) + i_x) 256 = true then some (p_pixels (((16 : Int32) * i_y) + i_x).toNatClampNeg) else none)))
abbrev rm_Pic_pixel : Room := { frames := 1, cells := 0, slots := 0, locals := 22 }
set_option maxHeartbeats 4000000 in
set_option maxRecDepth 100000 in
theorem c_Pic_pixel (l : Launch) (dC : Nat → ClassId) (dI : Nat → Nat → Nat) (p_0 p_pixels_a : Nat) (p_pixels_k : ClassId) (i_x : Int32) (i_y : Int32) (p_pixels : Nat → Int32) (p_wide : Int32) (p_high : Int32) (z : Int32)  (hq : q_Pic_pixel i_x i_y p_pixels p_wide p_high = some z) (sz : Nat) : MetI l y_Pic_pixel b_Pic_pixel 3 .int TT rm_Pic_pixel (dC, dI) vcl [(p_pixels_k, .int)] (W_P p_0 p_pixels_a p_pixels_k p_pixels p_wide p_high) (W_P p_0 p_pixels_a p_pixels_k p_pixels p_wide p_high) [.ref p_0, .int i_x, .int i_y] z sz := by
  refine x_ofI (by decide) (Nat.le_of_ble_eq_true rfl) ?_ sz
  intro p e s m args below meth c A Q ls hx hb hml hown hts hA hG hK hP hD hS hl hret
  have hown : s.vm.findClass R_Pic = some m.cls := hown
  have hl : lv_has ls 3 [(0, .ref p_0), (1, .int i_x), (2, .int i_y)] := hl
  obtain ⟨⟨tq, hZ, hTq⟩, hN⟩ := id hG
  obtain ⟨H, hH⟩ : ∃ H, H = s.heap := ⟨_, rfl⟩
  obtain ⟨locs, hlocs⟩ : ∃ locs : List Loc, locs = [] := ⟨_, rfl⟩
  rw [← hH] at hP
  have hS : va_S A s.heap H locs := by rw [hH, hlocs]; exact hS
  suffices hgo : W p l e rm_Pic_pixel s m args below meth c H locs 0 0 Q (F0 m 0 ls []) by rw [hH, hlocs] at hgo; exact hgo
  unfold q_Pic_pixel at hq
  have h := hq
  refine lv_aload_n hx hb d_Pic_pixel_0 rfl (lv_at hl 0 rfl) ?_
  refine lv_iload_n hx hb d_Pic_pixel_1 rfl (lv_at hl 1 rfl) ?_
  refine lv_iload_n hx hb d_Pic_pixel_2 rfl (lv_at hl 2 rfl) ?_
  obtain ⟨z1, hz1, h⟩ := ob h
  refine x_goI (res := z1) (w1 := (W_P p_0 p_pixels_a p_pixels_k p_pixels p_wide p_high)) (ws' := (W_P p_0 p_pixels_a p_pixels_k p_pixels p_wide p_high)) (wr := List.filterMap (fun (i : Nat) => (W_P p_0 p_pixels_a p_pixels_k p_pixels p_wide p_high)[i]?) ([] : List Nat)) (va_runV (As := [.int i_x, .int i_y]) (rest := []) ⟨hx, hb, hml, hown, hts⟩ (c_Pic_covers l dC dI p_0 p_pixels_a p_pixels_k i_x i_y p_pixels p_wide p_high z1  hz1 H.size) ⟨callB_of 2 hts (gT tt241 TT_good) rfl rfl rfl (hts _ tt46) (hts _ tt238) (by decide +kernel) ⟨Nat.le_of_ble_eq_true rfl, Nat.le_of_ble_eq_true rfl⟩, hts _ tt239, hts _ tt240⟩ (x_preV (q := (R_Pic, F_Pic, 3)) (As := [.int i_x, .int i_y]) (x_pre (wc := (W_P p_0 p_pixels_a p_pixels_k p_pixels p_wide p_high)) (av := (.ref p_0 :: [.int i_x, .int i_y])) hK hP hD hS hA hG [0] [0, 1] rfl rfl (by decide)) hK hP (q0 := 0) rfl rfl) rfl rfl hl.1 rfl (lv_room (Nat.le_of_ble_eq_true rfl)) d_Pic_pixel_3 ⟨Nat.zero_le _, Nat.zero_le _⟩) hP hD hS hA [0, 1] [] [0, 1] rfl rfl (by decide) (by decide) (by decide) rfl (fun H locs hP hD hS => ?_)
  refine lv_if_eq (tgt := 23) hx hb d_Pic_pixel_6 rfl (fun hc => ?_) (fun hc => ?_)
  · replace h := ot hc h
    refine lv_iconst (v := (0 : Int32)) hx hb d_Pic_pixel_23 (by decide) ?_
    obtain rfl := Option.some.inj h
    exact hret H locs 24 ls d_Pic_pixel_24 (vp_nar_int _) hP hD hS
  · replace h := of hc h
    refine lv_aload_n hx hb d_Pic_pixel_9 rfl (lv_at hl 0 rfl) ?_
    refine va_get (D := (dC, dI)) (ci := 4) (v := .ref p_pixels_a) (C := R_Pic) (T := F_Pic) (N := 3) hx hb hts in_Pic hown hK hP 0 rfl rfl 0 (by decide) (hts _ tt77) (fun _ h9 => h9) rfl d_Pic_pixel_10 ?_
    refine lv_bipush (v := (16 : Int32)) hx hb d_Pic_pixel_13 (by decide) ?_
    refine lv_iload_n hx hb d_Pic_pixel_15 rfl (lv_at hl 2 rfl) ?_
    refine lv_imul hx hb d_Pic_pixel_16 ?_
    refine lv_iload_n hx hb d_Pic_pixel_17 rfl (lv_at hl 1 rfl) ?_
    refine lv_iadd hx hb d_Pic_pixel_18 ?_
    obtain ⟨hin, h⟩ := og h
    refine va_iald hx hb hK hP 1 0 rfl rfl (vpb_in hin) d_Pic_pixel_19 ?_
    refine lv_goto (tgt := 24) hx hb d_Pic_pixel_20 rfl ?_
    obtain rfl := Option.some.inj h
    exact hret H locs 24 ls d_Pic_pixel_24 (vp_nar_int _) hP hD hS
theorem d_Pic_paint_0 : decode b_Pic_paint 0 = .ok (.aload_n 0, 1) := by decide +kernel
theorem d_Pic_paint_1 : decode b_Pic_paint 1 = .ok (.iload_n 1, 1) := by decide +kernel
theorem d_Pic_paint_2 : decode b_Pic_paint 2 = .ok (.iload_n 2, 1) := by decide +kernel
theorem d_Pic_paint_3 : decode b_Pic_paint 3 = .ok (.invokevirtual 28, 3) := by decide +kernel
theorem d_Pic_paint_6 : decode b_Pic_paint 6 = .ok (.ifCond .eq (15), 3) := by decide +kernel
theorem d_Pic_paint_9 : decode b_Pic_paint 9 = .ok (.aload_n 0, 1) := by decide +kernel
theorem d_Pic_paint_10 : decode b_Pic_paint 10 = .ok (.getfield 9, 3) := by decide +kernel
theorem d_Pic_paint_13 : decode b_Pic_paint 13 = .ok (.bipush (16), 2) := by decide +kernel
theorem d_Pic_paint_15 : decode b_Pic_paint 15 = .ok (.iload_n 2, 1) := by decide +kernel
theorem d_Pic_paint_16 : decode b_Pic_paint 16 = .ok (.imul, 1) := by decide +kernel
theorem d_Pic_paint_17 : decode b_Pic_paint 17 = .ok (.iload_n 1, 1) := by decide +kernel
theorem d_Pic_paint_18 : decode b_Pic_paint 18 = .ok (.iadd, 1) := by decide +kernel
theorem d_Pic_paint_19 : decode b_Pic_paint 19 = .ok (.iload_n 3, 1) := by decide +kernel
theorem d_Pic_paint_20 : decode b_Pic_paint 20 = .ok (.iastore, 1) := by decide +kernel
theorem d_Pic_paint_21 : decode b_Pic_paint 21 = .ok (.return_, 1) := by decide +kernel
def q_Pic_paint (i_x : Int32) (i_y : Int32) (i_b : Int32) (p_pixels : Nat → Int32) (p_wide : Int32) (p_high : Int32) : Option ((Nat → Int32)) := ((q_Pic_covers i_x i_y p_wide p_high).bind fun z1 => (if z1 = 0 then some (p_pixels) else (if vpb (((16 : Int32) * i_y) + i_x) 256 = true then some (upd p_pixels (((16 : Int32) * i_y) + i_x).toNatClampNeg i_b) else none)))
abbrev rm_Pic_paint : Room := { frames := 1, cells := 0, slots := 0, locals := 22 }
set_option maxHeartbeats 4000000 in
set_option maxRecDepth 100000 in
theorem c_Pic_paint (l : Launch) (dC : Nat → ClassId) (dI : Nat → Nat → Nat) (p_0 p_pixels_a : Nat) (p_pixels_k : ClassId) (i_x : Int32) (i_y : Int32) (i_b : Int32) (p_pixels : Nat → Int32) (p_wide : Int32) (p_high : Int32) (z : (Nat → Int32))  (hq : q_Pic_paint i_x i_y i_b p_pixels p_wide p_high = some z) (sz : Nat) : MetV l y_Pic_paint b_Pic_paint 4 TT rm_Pic_paint (dC, dI) vcl [(p_pixels_k, .int)] (W_P p_0 p_pixels_a p_pixels_k p_pixels p_wide p_high) (W_P p_0 p_pixels_a p_pixels_k z p_wide p_high) [.ref p_0, .int i_x, .int i_y, .int i_b] sz := by
  refine x_ofV (by decide) (Nat.le_of_ble_eq_true rfl) ?_ sz
  intro p e s m args below meth c A Q ls hx hb hml hown hts hA hG hK hP hD hS hl hret
  have hown : s.vm.findClass R_Pic = some m.cls := hown
  have hl : lv_has ls 4 [(0, .ref p_0), (1, .int i_x), (2, .int i_y), (3, .int i_b)] := hl
  obtain ⟨⟨tq, hZ, hTq⟩, hN⟩ := id hG
  obtain ⟨H, hH⟩ : ∃ H, H = s.heap := ⟨_, rfl⟩
  obtain ⟨locs, hlocs⟩ : ∃ locs : List Loc, locs = [] := ⟨_, rfl⟩
  rw [← hH] at hP
  have hS : va_S A s.heap H locs := by rw [hH, hlocs]; exact hS
  suffices hgo : W p l e rm_Pic_paint s m args below meth c H locs 0 0 Q (F0 m 0 ls []) by rw [hH, hlocs] at hgo; exact hgo
  unfold q_Pic_paint at hq
  have h := hq
  refine lv_aload_n hx hb d_Pic_paint_0 rfl (lv_at hl 0 rfl) ?_
  refine lv_iload_n hx hb d_Pic_paint_1 rfl (lv_at hl 1 rfl) ?_
  refine lv_iload_n hx hb d_Pic_paint_2 rfl (lv_at hl 2 rfl) ?_
  obtain ⟨z1, hz1, h⟩ := ob h
  refine x_goI (res := z1) (w1 := (W_P p_0 p_pixels_a p_pixels_k p_pixels p_wide p_high)) (ws' := (W_P p_0 p_pixels_a p_pixels_k p_pixels p_wide p_high)) (wr := List.filterMap (fun (i : Nat) => (W_P p_0 p_pixels_a p_pixels_k p_pixels p_wide p_high)[i]?) ([] : List Nat)) (va_runV (As := [.int i_x, .int i_y]) (rest := []) ⟨hx, hb, hml, hown, hts⟩ (c_Pic_covers l dC dI p_0 p_pixels_a p_pixels_k i_x i_y p_pixels p_wide p_high z1  hz1 H.size) ⟨callB_of 2 hts (gT tt241 TT_good) rfl rfl rfl (hts _ tt46) (hts _ tt238) (by decide +kernel) ⟨Nat.le_of_ble_eq_true rfl, Nat.le_of_ble_eq_true rfl⟩, hts _ tt239, hts _ tt240⟩ (x_preV (q := (R_Pic, F_Pic, 3)) (As := [.int i_x, .int i_y]) (x_pre (wc := (W_P p_0 p_pixels_a p_pixels_k p_pixels p_wide p_high)) (av := (.ref p_0 :: [.int i_x, .int i_y])) hK hP hD hS hA hG [0] [0, 1] rfl rfl (by decide)) hK hP (q0 := 0) rfl rfl) rfl rfl hl.1 rfl (lv_room (Nat.le_of_ble_eq_true rfl)) d_Pic_paint_3 ⟨Nat.zero_le _, Nat.zero_le _⟩) hP hD hS hA [0, 1] [] [0, 1] rfl rfl (by decide) (by decide) (by decide) rfl (fun H locs hP hD hS => ?_)
  refine lv_if_eq (tgt := 21) hx hb d_Pic_paint_6 rfl (fun hc => ?_) (fun hc => ?_)
  · replace h := ot hc h
    obtain rfl := Option.some.inj h
    exact hret H locs 21 ls d_Pic_paint_21 hP hD hS
  · replace h := of hc h
    refine lv_aload_n hx hb d_Pic_paint_9 rfl (lv_at hl 0 rfl) ?_
    refine va_get (D := (dC, dI)) (ci := 4) (v := .ref p_pixels_a) (C := R_Pic) (T := F_Pic) (N := 3) hx hb hts in_Pic hown hK hP 0 rfl rfl 0 (by decide) (hts _ tt77) (fun _ h9 => h9) rfl d_Pic_paint_10 ?_
    refine lv_bipush (v := (16 : Int32)) hx hb d_Pic_paint_13 (by decide) ?_
    refine lv_iload_n hx hb d_Pic_paint_15 rfl (lv_at hl 2 rfl) ?_
    refine lv_imul hx hb d_Pic_paint_16 ?_
    refine lv_iload_n hx hb d_Pic_paint_17 rfl (lv_at hl 1 rfl) ?_
    refine lv_iadd hx hb d_Pic_paint_18 ?_
    refine lv_iload_n hx hb d_Pic_paint_19 rfl (lv_at hl 3 rfl) ?_
    obtain ⟨hin, h⟩ := og h
    refine va_iast hx hb hK hP hD hS 1 0 rfl rfl (vpb_in hin) d_Pic_paint_20 (fun H locs hP hD hS => ?_)
    have hP : va_P (dC, dI) vcl (W_P p_0 p_pixels_a p_pixels_k (upd p_pixels (((16 : Int32) * i_y) + i_x).toNatClampNeg i_b) p_wide p_high) H := hP
    have hD : va_D A (W_P p_0 p_pixels_a p_pixels_k (upd p_pixels (((16 : Int32) * i_y) + i_x).toNatClampNeg i_b) p_wide p_high) := hD
    obtain rfl := Option.some.inj h
    exact hret H locs 21 ls d_Pic_paint_21 hP hD hS
theorem d_Pic_sumOfSquare_0 : decode b_Pic_sumOfSquare 0 = .ok (.iconst (0), 1) := by decide +kernel
theorem d_Pic_sumOfSquare_1 : decode b_Pic_sumOfSquare 1 = .ok (.istore 4, 2) := by decide +kernel
theorem d_Pic_sumOfSquare_3 : decode b_Pic_sumOfSquare 3 = .ok (.iload_n 2, 1) := by decide +kernel
theorem d_Pic_sumOfSquare_4 : decode b_Pic_sumOfSquare 4 = .ok (.istore 5, 2) := by decide +kernel
theorem d_Pic_sumOfSquare_6 : decode b_Pic_sumOfSquare 6 = .ok (.iload 5, 2) := by decide +kernel
theorem d_Pic_sumOfSquare_8 : decode b_Pic_sumOfSquare 8 = .ok (.iload_n 2, 1) := by decide +kernel
theorem d_Pic_sumOfSquare_9 : decode b_Pic_sumOfSquare 9 = .ok (.iload_n 3, 1) := by decide +kernel
theorem d_Pic_sumOfSquare_10 : decode b_Pic_sumOfSquare 10 = .ok (.iadd, 1) := by decide +kernel
theorem d_Pic_sumOfSquare_11 : decode b_Pic_sumOfSquare 11 = .ok (.if_icmp .ge (39), 3) := by decide +kernel
theorem d_Pic_sumOfSquare_14 : decode b_Pic_sumOfSquare 14 = .ok (.iload_n 1, 1) := by decide +kernel
theorem d_Pic_sumOfSquare_15 : decode b_Pic_sumOfSquare 15 = .ok (.istore 6, 2) := by decide +kernel
theorem d_Pic_sumOfSquare_17 : decode b_Pic_sumOfSquare 17 = .ok (.iload 6, 2) := by decide +kernel
theorem d_Pic_sumOfSquare_19 : decode b_Pic_sumOfSquare 19 = .ok (.iload_n 1, 1) := by decide +kernel
theorem d_Pic_sumOfSquare_20 : decode b_Pic_sumOfSquare 20 = .ok (.iload_n 3, 1) := by decide +kernel
theorem d_Pic_sumOfSquare_21 : decode b_Pic_sumOfSquare 21 = .ok (.iadd, 1) := by decide +kernel
theorem d_Pic_sumOfSquare_22 : decode b_Pic_sumOfSquare 22 = .ok (.if_icmp .ge (22), 3) := by decide +kernel
theorem d_Pic_sumOfSquare_25 : decode b_Pic_sumOfSquare 25 = .ok (.iload 4, 2) := by decide +kernel
theorem d_Pic_sumOfSquare_27 : decode b_Pic_sumOfSquare 27 = .ok (.aload_n 0, 1) := by decide +kernel
theorem d_Pic_sumOfSquare_28 : decode b_Pic_sumOfSquare 28 = .ok (.iload 6, 2) := by decide +kernel
theorem d_Pic_sumOfSquare_30 : decode b_Pic_sumOfSquare 30 = .ok (.iload 5, 2) := by decide +kernel
theorem d_Pic_sumOfSquare_32 : decode b_Pic_sumOfSquare 32 = .ok (.invokevirtual 50, 3) := by decide +kernel
theorem d_Pic_sumOfSquare_35 : decode b_Pic_sumOfSquare 35 = .ok (.iadd, 1) := by decide +kernel
theorem d_Pic_sumOfSquare_36 : decode b_Pic_sumOfSquare 36 = .ok (.istore 4, 2) := by decide +kernel
theorem d_Pic_sumOfSquare_38 : decode b_Pic_sumOfSquare 38 = .ok (.iinc 6 (1), 3) := by decide +kernel
theorem d_Pic_sumOfSquare_41 : decode b_Pic_sumOfSquare 41 = .ok (.goto (-24), 3) := by decide +kernel
theorem d_Pic_sumOfSquare_44 : decode b_Pic_sumOfSquare 44 = .ok (.iinc 5 (1), 3) := by decide +kernel
theorem d_Pic_sumOfSquare_47 : decode b_Pic_sumOfSquare 47 = .ok (.goto (-41), 3) := by decide +kernel
theorem d_Pic_sumOfSquare_50 : decode b_Pic_sumOfSquare 50 = .ok (.iload 4, 2) := by decide +kernel
theorem d_Pic_sumOfSquare_52 : decode b_Pic_sumOfSquare 52 = .ok (.ireturn, 1) := by decide +kernel
def q_Pic_sumOfSquare_17 (i_left : Int32) (i_top : Int32) (i_side : Int32) (p_pixels : Nat → Int32) (p_wide : Int32) (p_high : Int32) (rec6 : Int32 → Int32 → Option (Int32)) : Nat → Int32 → Int32 → Int32 → Option (Int32)
  | 0, _, _, _ => none
  | n + 1, x4_17, x5_17, x6_17 => (if (i_left + i_side) ≤ x6_17 then (rec6 x4_17 (x5_17 + (1 : Int32))) else ((q_Pic_pixel x6_17 x5_17 p_pixels p_wide p_high).bind fun z1 => (q_Pic_sumOfSquare_17 i_left i_top i_side p_pixels p_wide p_high rec6 n (x4_17 + z1) x5_17 (x6_17 + (1 : Int32)))))
def q_Pic_sumOfSquare_6 (i_left : Int32) (i_top : Int32) (i_side : Int32) (p_pixels : Nat → Int32) (p_wide : Int32) (p_high : Int32)  : Nat → Int32 → Int32 → Option (Int32)
  | 0, _, _ => none
  | n + 1, x4_6, x5_6 => (if (i_top + i_side) ≤ x5_6 then some (x4_6) else (q_Pic_sumOfSquare_17 i_left i_top i_side p_pixels p_wide p_high (q_Pic_sumOfSquare_6 i_left i_top i_side p_pixels p_wide p_high n) 5000 x4_6 x5_6 i_left))
def q_Pic_sumOfSquare (i_left : Int32) (i_top : Int32) (i_side : Int32) (p_pixels : Nat → Int32) (p_wide : Int32) (p_high : Int32) : Option (Int32) := (q_Pic_sumOfSquare_6 i_left i_top i_side p_pixels p_wide p_high  5000 (0 : Int32) i_top)
abbrev rm_Pic_sumOfSquare : Room := { frames := 2, cells := 0, slots := 0, locals := 44 }
set_option maxHeartbeats 4000000 in
set_option maxRecDepth 100000 in
theorem c_Pic_sumOfSquare (l : Launch) (dC : Nat → ClassId) (dI : Nat → Nat → Nat) (p_0 p_pixels_a : Nat) (p_pixels_k : ClassId) (i_left : Int32) (i_top : Int32) (i_side : Int32) (p_pixels : Nat → Int32) (p_wide : Int32) (p_high : Int32) (z : Int32)  (hq : q_Pic_sumOfSquare i_left i_top i_side p_pixels p_wide p_high = some z) (sz : Nat) : MetI l y_Pic_sumOfSquare b_Pic_sumOfSquare 7 .int TT rm_Pic_sumOfSquare (dC, dI) vcl [(p_pixels_k, .int)] (W_P p_0 p_pixels_a p_pixels_k p_pixels p_wide p_high) (W_P p_0 p_pixels_a p_pixels_k p_pixels p_wide p_high) [.ref p_0, .int i_left, .int i_top, .int i_side] z sz := by
  refine x_ofI (by decide) (Nat.le_of_ble_eq_true rfl) ?_ sz
  intro p e s m args below meth c A Q ls hx hb hml hown hts hA hG hK hP hD hS hl hret
  have hown : s.vm.findClass R_Pic = some m.cls := hown
  have hl : lv_has ls 7 [(0, .ref p_0), (1, .int i_left), (2, .int i_top), (3, .int i_side)] := hl
  obtain ⟨⟨tq, hZ, hTq⟩, hN⟩ := id hG
  obtain ⟨H, hH⟩ : ∃ H, H = s.heap := ⟨_, rfl⟩
  obtain ⟨locs, hlocs⟩ : ∃ locs : List Loc, locs = [] := ⟨_, rfl⟩
  rw [← hH] at hP
  have hS : va_S A s.heap H locs := by rw [hH, hlocs]; exact hS
  suffices hgo : W p l e rm_Pic_sumOfSquare s m args below meth c H locs 0 0 Q (F0 m 0 ls []) by rw [hH, hlocs] at hgo; exact hgo
  unfold q_Pic_sumOfSquare at hq
  have L6 : ∀ (n6 : Nat) (x4_6 : Int32) (x5_6 : Int32) (H : Heap) (locs : List Loc) (ls : Array Slot), lv_has ls 7 [(0, .ref p_0), (1, .int i_left), (2, .int i_top), (3, .int i_side), (4, .int x4_6), (5, .int x5_6)] → va_P (dC, dI) vcl (W_P p_0 p_pixels_a p_pixels_k p_pixels p_wide p_high) H → va_D A (W_P p_0 p_pixels_a p_pixels_k p_pixels p_wide p_high) → va_S A s.heap H locs → q_Pic_sumOfSquare_6 i_left i_top i_side p_pixels p_wide p_high  n6 x4_6 x5_6 = some z → W p l e rm_Pic_sumOfSquare s m args below meth c H locs 0 0 Q (F0 m 6 ls []) := by
    intro n6
    induction n6 with
    | zero =>
      intro x4_6 x5_6 H locs ls hl hP hD hS hq
      rw [q_Pic_sumOfSquare_6] at hq
      cases hq
    | succ n6 ih6 =>
      intro x4_6 x5_6 H locs ls hl hP hD hS hq6
      rw [q_Pic_sumOfSquare_6] at hq6
      have L17 : ∀ (n17 : Nat) (x4_17 : Int32) (x5_17 : Int32) (x6_17 : Int32) (H : Heap) (locs : List Loc) (ls : Array Slot), lv_has ls 7 [(0, .ref p_0), (1, .int i_left), (2, .int i_top), (3, .int i_side), (4, .int x4_17), (5, .int x5_17), (6, .int x6_17)] → va_P (dC, dI) vcl (W_P p_0 p_pixels_a p_pixels_k p_pixels p_wide p_high) H → va_D A (W_P p_0 p_pixels_a p_pixels_k p_pixels p_wide p_high) → va_S A s.heap H locs → q_Pic_sumOfSquare_17 i_left i_top i_side p_pixels p_wide p_high (q_Pic_sumOfSquare_6 i_left i_top i_side p_pixels p_wide p_high  n6) n17 x4_17 x5_17 x6_17 = some z → W p l e rm_Pic_sumOfSquare s m args below meth c H locs 0 0 Q (F0 m 17 ls []) := by
        intro n17
        induction n17 with
        | zero =>
          intro x4_17 x5_17 x6_17 H locs ls hl hP hD hS hq
          rw [q_Pic_sumOfSquare_17] at hq
          cases hq
        | succ n17 ih17 =>
          intro x4_17 x5_17 x6_17 H locs ls hl hP hD hS hq17
          rw [q_Pic_sumOfSquare_17] at hq17
          have h := hq17
          refine lv_iload hx hb d_Pic_sumOfSquare_17 (lv_at hl 6 rfl) ?_
          refine lv_iload_n hx hb d_Pic_sumOfSquare_19 rfl (lv_at hl 1 rfl) ?_
          refine lv_iload_n hx hb d_Pic_sumOfSquare_20 rfl (lv_at hl 3 rfl) ?_
          refine lv_iadd hx hb d_Pic_sumOfSquare_21 ?_
          refine lv_icmp_ge (tgt := 44) hx hb d_Pic_sumOfSquare_22 rfl (fun hc => ?_) (fun hc => ?_)
          · replace h := ot hc h
            refine lv_iinc (k := 5) (v := x5_17 + (1 : Int32)) (lv' := [(5, .int (x5_17 + (1 : Int32))), (0, .ref p_0), (1, .int i_left), (2, .int i_top), (3, .int i_side), (4, .int x4_17), (6, .int x6_17)]) hx hb d_Pic_sumOfSquare_44 hl rfl rfl (by decide) rfl (fun ls hl => ?_)
            refine lv_goto (tgt := 6) hx hb d_Pic_sumOfSquare_47 rfl ?_
            exact ih6 x4_17 (x5_17 + (1 : Int32)) H locs ls (lv_sub hl [1, 2, 3, 4, 5, 0] rfl) hP hD hS h
          · replace h := of hc h
            refine lv_iload hx hb d_Pic_sumOfSquare_25 (lv_at hl 4 rfl) ?_
            refine lv_aload_n hx hb d_Pic_sumOfSquare_27 rfl (lv_at hl 0 rfl) ?_
            refine lv_iload hx hb d_Pic_sumOfSquare_28 (lv_at hl 6 rfl) ?_
            refine lv_iload hx hb d_Pic_sumOfSquare_30 (lv_at hl 5 rfl) ?_
            obtain ⟨z1, hz1, h⟩ := ob h
            refine x_goI (res := z1) (w1 := (W_P p_0 p_pixels_a p_pixels_k p_pixels p_wide p_high)) (ws' := (W_P p_0 p_pixels_a p_pixels_k p_pixels p_wide p_high)) (wr := List.filterMap (fun (i : Nat) => (W_P p_0 p_pixels_a p_pixels_k p_pixels p_wide p_high)[i]?) ([] : List Nat)) (va_runV (As := [.int x6_17, .int x5_17]) (rest := [.int x4_17]) ⟨hx, hb, hml, hown, hts⟩ (c_Pic_pixel l dC dI p_0 p_pixels_a p_pixels_k x6_17 x5_17 p_pixels p_wide p_high z1  hz1 H.size) ⟨callB_of 2 hts (gT tt237 TT_good) rfl rfl rfl (hts _ tt46) (hts _ tt287) (by decide +kernel) ⟨Nat.le_of_ble_eq_true rfl, Nat.le_of_ble_eq_true rfl⟩, hts _ tt235, hts _ tt236⟩ (x_preV (q := (R_Pic, F_Pic, 3)) (As := [.int x6_17, .int x5_17]) (x_pre (wc := (W_P p_0 p_pixels_a p_pixels_k p_pixels p_wide p_high)) (av := (.ref p_0 :: [.int x6_17, .int x5_17])) hK hP hD hS hA hG [0] [0, 1] rfl rfl (by decide)) hK hP (q0 := 0) rfl rfl) rfl rfl hl.1 rfl (lv_room (Nat.le_of_ble_eq_true rfl)) d_Pic_sumOfSquare_32 ⟨Nat.zero_le _, Nat.zero_le _⟩) hP hD hS hA [0, 1] [] [0, 1] rfl rfl (by decide) (by decide) (by decide) rfl (fun H locs hP hD hS => ?_)
            refine lv_iadd hx hb d_Pic_sumOfSquare_35 ?_
            refine lv_istore (lv' := [(4, .int (x4_17 + z1)), (0, .ref p_0), (1, .int i_left), (2, .int i_top), (3, .int i_side), (5, .int x5_17), (6, .int x6_17)]) hx hb d_Pic_sumOfSquare_36 hl (by decide) rfl (fun ls hl => ?_)
            refine lv_iinc (k := 6) (v := x6_17 + (1 : Int32)) (lv' := [(6, .int (x6_17 + (1 : Int32))), (4, .int (x4_17 + z1)), (0, .ref p_0), (1, .int i_left), (2, .int i_top), (3, .int i_side), (5, .int x5_17)]) hx hb d_Pic_sumOfSquare_38 hl rfl rfl (by decide) rfl (fun ls hl => ?_)
            refine lv_goto (tgt := 17) hx hb d_Pic_sumOfSquare_41 rfl ?_
            exact ih17 (x4_17 + z1) x5_17 (x6_17 + (1 : Int32)) H locs ls (lv_sub hl [2, 3, 4, 5, 1, 6, 0] rfl) hP hD hS h
      have h := hq6
      refine lv_iload hx hb d_Pic_sumOfSquare_6 (lv_at hl 5 rfl) ?_
      refine lv_iload_n hx hb d_Pic_sumOfSquare_8 rfl (lv_at hl 2 rfl) ?_
      refine lv_iload_n hx hb d_Pic_sumOfSquare_9 rfl (lv_at hl 3 rfl) ?_
      refine lv_iadd hx hb d_Pic_sumOfSquare_10 ?_
      refine lv_icmp_ge (tgt := 50) hx hb d_Pic_sumOfSquare_11 rfl (fun hc => ?_) (fun hc => ?_)
      · replace h := ot hc h
        refine lv_iload hx hb d_Pic_sumOfSquare_50 (lv_at hl 4 rfl) ?_
        obtain rfl := Option.some.inj h
        exact hret H locs 52 ls d_Pic_sumOfSquare_52 (vp_nar_int _) hP hD hS
      · replace h := of hc h
        refine lv_iload_n hx hb d_Pic_sumOfSquare_14 rfl (lv_at hl 1 rfl) ?_
        refine lv_istore (lv' := [(6, .int i_left), (0, .ref p_0), (1, .int i_left), (2, .int i_top), (3, .int i_side), (4, .int x4_6), (5, .int x5_6)]) hx hb d_Pic_sumOfSquare_15 hl (by decide) rfl (fun ls hl => ?_)
        exact L17 5000 x4_6 x5_6 i_left H locs ls (lv_sub hl [1, 2, 3, 4, 5, 6, 0] rfl) hP hD hS h
  have h := hq
  refine lv_iconst (v := (0 : Int32)) hx hb d_Pic_sumOfSquare_0 (by decide) ?_
  refine lv_istore (lv' := [(4, .int (0 : Int32)), (0, .ref p_0), (1, .int i_left), (2, .int i_top), (3, .int i_side)]) hx hb d_Pic_sumOfSquare_1 hl (by decide) rfl (fun ls hl => ?_)
  refine lv_iload_n hx hb d_Pic_sumOfSquare_3 rfl (lv_at hl 3 rfl) ?_
  refine lv_istore (lv' := [(5, .int i_top), (4, .int (0 : Int32)), (0, .ref p_0), (1, .int i_left), (2, .int i_top), (3, .int i_side)]) hx hb d_Pic_sumOfSquare_4 hl (by decide) rfl (fun ls hl => ?_)
  exact L6 5000 (0 : Int32) i_top H locs ls (lv_sub hl [2, 3, 4, 5, 1, 0] rfl) hP hD hS h
theorem d_Pic_weightAround_0 : decode b_Pic_weightAround 0 = .ok (.iconst (3), 1) := by decide +kernel
theorem d_Pic_weightAround_1 : decode b_Pic_weightAround 1 = .ok (.aload_n 0, 1) := by decide +kernel
theorem d_Pic_weightAround_2 : decode b_Pic_weightAround 2 = .ok (.iload_n 1, 1) := by decide +kernel
theorem d_Pic_weightAround_3 : decode b_Pic_weightAround 3 = .ok (.iload_n 2, 1) := by decide +kernel
theorem d_Pic_weightAround_4 : decode b_Pic_weightAround 4 = .ok (.iconst (2), 1) := by decide +kernel
theorem d_Pic_weightAround_5 : decode b_Pic_weightAround 5 = .ok (.invokevirtual 57, 3) := by decide +kernel
theorem d_Pic_weightAround_8 : decode b_Pic_weightAround 8 = .ok (.imul, 1) := by decide +kernel
theorem d_Pic_weightAround_9 : decode b_Pic_weightAround 9 = .ok (.aload_n 0, 1) := by decide +kernel
theorem d_Pic_weightAround_10 : decode b_Pic_weightAround 10 = .ok (.iload_n 1, 1) := by decide +kernel
theorem d_Pic_weightAround_11 : decode b_Pic_weightAround 11 = .ok (.iconst (1), 1) := by decide +kernel
theorem d_Pic_weightAround_12 : decode b_Pic_weightAround 12 = .ok (.isub, 1) := by decide +kernel
theorem d_Pic_weightAround_13 : decode b_Pic_weightAround 13 = .ok (.iload_n 2, 1) := by decide +kernel
theorem d_Pic_weightAround_14 : decode b_Pic_weightAround 14 = .ok (.iconst (1), 1) := by decide +kernel
theorem d_Pic_weightAround_15 : decode b_Pic_weightAround 15 = .ok (.isub, 1) := by decide +kernel
theorem d_Pic_weightAround_16 : decode b_Pic_weightAround 16 = .ok (.iconst (4), 1) := by decide +kernel
theorem d_Pic_weightAround_17 : decode b_Pic_weightAround 17 = .ok (.invokevirtual 57, 3) := by decide +kernel
theorem d_Pic_weightAround_20 : decode b_Pic_weightAround 20 = .ok (.iadd, 1) := by decide +kernel
theorem d_Pic_weightAround_21 : decode b_Pic_weightAround 21 = .ok (.ireturn, 1) := by decide +kernel
def q_Pic_weightAround (i_left : Int32) (i_top : Int32) (p_pixels : Nat → Int32) (p_wide : Int32) (p_high : Int32) : Option (Int32) := ((q_Pic_sumOfSquare i_left i_top (2 : Int32) p_pixels p_wide p_high).bind fun z1 => ((q_Pic_sumOfSquare (i_left - (1 : Int32)) (i_top - (1 : Int32)) (4 : Int32) p_pixels p_wide p_high).bind fun z2 => some (((3 : Int32) * z1) + z2)))
abbrev rm_Pic_weightAround : Room := { frames := 3, cells := 0, slots := 0, locals := 70 }
set_option maxHeartbeats 4000000 in
set_option maxRecDepth 100000 in
theorem c_Pic_weightAround (l : Launch) (dC : Nat → ClassId) (dI : Nat → Nat → Nat) (p_0 p_pixels_a : Nat) (p_pixels_k : ClassId) (i_left : Int32) (i_top : Int32) (p_pixels : Nat → Int32) (p_wide : Int32) (p_high : Int32) (z : Int32)  (hq : q_Pic_weightAround i_left i_top p_pixels p_wide p_high = some z) (sz : Nat) : MetI l y_Pic_weightAround b_Pic_weightAround 3 .int TT rm_Pic_weightAround (dC, dI) vcl [(p_pixels_k, .int)] (W_P p_0 p_pixels_a p_pixels_k p_pixels p_wide p_high) (W_P p_0 p_pixels_a p_pixels_k p_pixels p_wide p_high) [.ref p_0, .int i_left, .int i_top] z sz := by
  refine x_ofI (by decide) (Nat.le_of_ble_eq_true rfl) ?_ sz
  intro p e s m args below meth c A Q ls hx hb hml hown hts hA hG hK hP hD hS hl hret
  have hown : s.vm.findClass R_Pic = some m.cls := hown
  have hl : lv_has ls 3 [(0, .ref p_0), (1, .int i_left), (2, .int i_top)] := hl
  obtain ⟨⟨tq, hZ, hTq⟩, hN⟩ := id hG
  obtain ⟨H, hH⟩ : ∃ H, H = s.heap := ⟨_, rfl⟩
  obtain ⟨locs, hlocs⟩ : ∃ locs : List Loc, locs = [] := ⟨_, rfl⟩
  rw [← hH] at hP
  have hS : va_S A s.heap H locs := by rw [hH, hlocs]; exact hS
  suffices hgo : W p l e rm_Pic_weightAround s m args below meth c H locs 0 0 Q (F0 m 0 ls []) by rw [hH, hlocs] at hgo; exact hgo
  unfold q_Pic_weightAround at hq
  have h := hq
  refine lv_iconst (v := (3 : Int32)) hx hb d_Pic_weightAround_0 (by decide) ?_
  refine lv_aload_n hx hb d_Pic_weightAround_1 rfl (lv_at hl 0 rfl) ?_
  refine lv_iload_n hx hb d_Pic_weightAround_2 rfl (lv_at hl 1 rfl) ?_
  refine lv_iload_n hx hb d_Pic_weightAround_3 rfl (lv_at hl 2 rfl) ?_
  refine lv_iconst (v := (2 : Int32)) hx hb d_Pic_weightAround_4 (by decide) ?_
  obtain ⟨z1, hz1, h⟩ := ob h
  refine x_goI (res := z1) (w1 := (W_P p_0 p_pixels_a p_pixels_k p_pixels p_wide p_high)) (ws' := (W_P p_0 p_pixels_a p_pixels_k p_pixels p_wide p_high)) (wr := List.filterMap (fun (i : Nat) => (W_P p_0 p_pixels_a p_pixels_k p_pixels p_wide p_high)[i]?) ([] : List Nat)) (va_runV (As := [.int i_left, .int i_top, .int (2 : Int32)]) (rest := [.int (3 : Int32)]) ⟨hx, hb, hml, hown, hts⟩ (c_Pic_sumOfSquare l dC dI p_0 p_pixels_a p_pixels_k i_left i_top (2 : Int32) p_pixels p_wide p_high z1  hz1 H.size) ⟨callB_of 3 hts (gT tt286 TT_good) rfl rfl rfl (hts _ tt46) (hts _ tt283) (by decide +kernel) ⟨Nat.le_of_ble_eq_true rfl, Nat.le_of_ble_eq_true rfl⟩, hts _ tt285, hts _ tt1⟩ (x_preV (q := (R_Pic, F_Pic, 3)) (As := [.int i_left, .int i_top, .int (2 : Int32)]) (x_pre (wc := (W_P p_0 p_pixels_a p_pixels_k p_pixels p_wide p_high)) (av := (.ref p_0 :: [.int i_left, .int i_top, .int (2 : Int32)])) hK hP hD hS hA hG [0] [0, 1] rfl rfl (by decide)) hK hP (q0 := 0) rfl rfl) rfl rfl hl.1 rfl (lv_room (Nat.le_of_ble_eq_true rfl)) d_Pic_weightAround_5 ⟨Nat.zero_le _, Nat.zero_le _⟩) hP hD hS hA [0, 1] [] [0, 1] rfl rfl (by decide) (by decide) (by decide) rfl (fun H locs hP hD hS => ?_)
  refine lv_imul hx hb d_Pic_weightAround_8 ?_
  refine lv_aload_n hx hb d_Pic_weightAround_9 rfl (lv_at hl 0 rfl) ?_
  refine lv_iload_n hx hb d_Pic_weightAround_10 rfl (lv_at hl 1 rfl) ?_
  refine lv_iconst (v := (1 : Int32)) hx hb d_Pic_weightAround_11 (by decide) ?_
  refine lv_isub hx hb d_Pic_weightAround_12 ?_
  refine lv_iload_n hx hb d_Pic_weightAround_13 rfl (lv_at hl 2 rfl) ?_
  refine lv_iconst (v := (1 : Int32)) hx hb d_Pic_weightAround_14 (by decide) ?_
  refine lv_isub hx hb d_Pic_weightAround_15 ?_
  refine lv_iconst (v := (4 : Int32)) hx hb d_Pic_weightAround_16 (by decide) ?_
  obtain ⟨z2, hz2, h⟩ := ob h
  refine x_goI (res := z2) (w1 := (W_P p_0 p_pixels_a p_pixels_k p_pixels p_wide p_high)) (ws' := (W_P p_0 p_pixels_a p_pixels_k p_pixels p_wide p_high)) (wr := List.filterMap (fun (i : Nat) => (W_P p_0 p_pixels_a p_pixels_k p_pixels p_wide p_high)[i]?) ([] : List Nat)) (va_runV (As := [.int (i_left - (1 : Int32)), .int (i_top - (1 : Int32)), .int (4 : Int32)]) (rest := [.int ((3 : Int32) * z1)]) ⟨hx, hb, hml, hown, hts⟩ (c_Pic_sumOfSquare l dC dI p_0 p_pixels_a p_pixels_k (i_left - (1 : Int32)) (i_top - (1 : Int32)) (4 : Int32) p_pixels p_wide p_high z2  hz2 H.size) ⟨callB_of 3 hts (gT tt286 TT_good) rfl rfl rfl (hts _ tt46) (hts _ tt283) (by decide +kernel) ⟨Nat.le_of_ble_eq_true rfl, Nat.le_of_ble_eq_true rfl⟩, hts _ tt285, hts _ tt1⟩ (x_preV (q := (R_Pic, F_Pic, 3)) (As := [.int (i_left - (1 : Int32)), .int (i_top - (1 : Int32)), .int (4 : Int32)]) (x_pre (wc := (W_P p_0 p_pixels_a p_pixels_k p_pixels p_wide p_high)) (av := (.ref p_0 :: [.int (i_left - (1 : Int32)), .int (i_top - (1 : Int32)), .int (4 : Int32)])) hK hP hD hS hA hG [0] [0, 1] rfl rfl (by decide)) hK hP (q0 := 0) rfl rfl) rfl rfl hl.1 rfl (lv_room (Nat.le_of_ble_eq_true rfl)) d_Pic_weightAround_17 ⟨Nat.zero_le _, Nat.zero_le _⟩) hP hD hS hA [0, 1] [] [0, 1] rfl rfl (by decide) (by decide) (by decide) rfl (fun H locs hP hD hS => ?_)
  refine lv_iadd hx hb d_Pic_weightAround_20 ?_
  obtain rfl := Option.some.inj h
  exact hret H locs 21 ls d_Pic_weightAround_21 (vp_nar_int _) hP hD hS
