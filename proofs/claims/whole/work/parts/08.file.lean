def W_F (f_0 f_bytes_a f_starts_a f_ends_a : Nat) (f_bytes_k f_starts_k f_ends_k : ClassId) (f_bytes : Nat → Int32) (f_starts : Nat → Int32) (f_ends : Nat → Int32) (f_length : Int32) (f_wide : Int32) (f_high : Int32) (f_layerCount : Int32) (f_place : Int32) : va_W := [(f_0, .inr (2, [.ref f_bytes_a, .ref f_starts_a, .ref f_ends_a, .int f_length, .int f_wide, .int f_high, .int f_layerCount, .int f_place])), (f_bytes_a, .inl (f_bytes_k, 900, .inl f_bytes)), (f_starts_a, .inl (f_starts_k, 3, .inl f_starts)), (f_ends_a, .inl (f_ends_k, 3, .inl f_ends))]
theorem d_Fil_has_0 : decode b_Fil_has 0 = .ok (.iload_n 1, 1) := by decide +kernel
theorem d_Fil_has_1 : decode b_Fil_has 1 = .ok (.ifCond .lt (15), 3) := by decide +kernel
theorem d_Fil_has_4 : decode b_Fil_has 4 = .ok (.iload_n 1, 1) := by decide +kernel
theorem d_Fil_has_5 : decode b_Fil_has 5 = .ok (.aload_n 0, 1) := by decide +kernel
theorem d_Fil_has_6 : decode b_Fil_has 6 = .ok (.getfield 21, 3) := by decide +kernel
theorem d_Fil_has_9 : decode b_Fil_has 9 = .ok (.if_icmp .ge (7), 3) := by decide +kernel
theorem d_Fil_has_12 : decode b_Fil_has 12 = .ok (.iconst (1), 1) := by decide +kernel
theorem d_Fil_has_13 : decode b_Fil_has 13 = .ok (.goto (4), 3) := by decide +kernel
theorem d_Fil_has_16 : decode b_Fil_has 16 = .ok (.iconst (0), 1) := by decide +kernel
theorem d_Fil_has_17 : decode b_Fil_has 17 = .ok (.ireturn, 1) := by decide +kernel
def q_Fil_has (i_k : Int32) (f_length : Int32) : Option (Int32) := (if i_k < 0 then some ((0 : Int32)) else (if f_length ≤ i_k then some ((0 : Int32)) else some ((1 : Int32))))
abbrev rm_Fil_has : Room := { frames := 0, cells := 0, slots := 0, locals := 0 }
set_option maxHeartbeats 4000000 in
set_option maxRecDepth 100000 in
theorem c_Fil_has (l : Launch) (dC : Nat → ClassId) (dI : Nat → Nat → Nat) (f_0 f_bytes_a f_starts_a f_ends_a : Nat) (f_bytes_k f_starts_k f_ends_k : ClassId) (i_k : Int32) (f_bytes : Nat → Int32) (f_starts : Nat → Int32) (f_ends : Nat → Int32) (f_length : Int32) (f_wide : Int32) (f_high : Int32) (f_layerCount : Int32) (f_place : Int32) (z : Int32)  (hq : q_Fil_has i_k f_length = some z) (sz : Nat) : MetI l y_Fil_has b_Fil_has 2 .boolean TT rm_Fil_has (dC, dI) vcl [(f_bytes_k, .int), (f_starts_k, .int), (f_ends_k, .int)] (W_F f_0 f_bytes_a f_starts_a f_ends_a f_bytes_k f_starts_k f_ends_k f_bytes f_starts f_ends f_length f_wide f_high f_layerCount f_place) (W_F f_0 f_bytes_a f_starts_a f_ends_a f_bytes_k f_starts_k f_ends_k f_bytes f_starts f_ends f_length f_wide f_high f_layerCount f_place) [.ref f_0, .int i_k] z sz := by
  refine x_ofI (by decide) (Nat.le_of_ble_eq_true rfl) ?_ sz
  intro p e s m args below meth c A Q ls hx hb hml hown hts hA hG hK hP hD hS hl hret
  have hown : s.vm.findClass R_Fil = some m.cls := hown
  have hl : lv_has ls 2 [(0, .ref f_0), (1, .int i_k)] := hl
  obtain ⟨⟨tq, hZ, hTq⟩, hN⟩ := id hG
  obtain ⟨H, hH⟩ : ∃ H, H = s.heap := ⟨_, rfl⟩
  obtain ⟨locs, hlocs⟩ : ∃ locs : List Loc, locs = [] := ⟨_, rfl⟩
  rw [← hH] at hP
  have hS : va_S A s.heap H locs := by rw [hH, hlocs]; exact hS
  suffices hgo : W p l e rm_Fil_has s m args below meth c H locs 0 0 Q (F0 m 0 ls []) by rw [hH, hlocs] at hgo; exact hgo
  unfold q_Fil_has at hq
  have h := hq
  refine lv_iload_n hx hb d_Fil_has_0 rfl (lv_at hl 1 rfl) ?_
  refine lv_if_lt (tgt := 16) hx hb d_Fil_has_1 rfl (fun hc => ?_) (fun hc => ?_)
  · replace h := ot hc h
    refine lv_iconst (v := (0 : Int32)) hx hb d_Fil_has_16 (by decide) ?_
    obtain rfl := Option.some.inj h
    exact hret H locs 17 ls d_Fil_has_17 narrow_b0 hP hD hS
  · replace h := of hc h
    refine lv_iload_n hx hb d_Fil_has_4 rfl (lv_at hl 1 rfl) ?_
    refine lv_aload_n hx hb d_Fil_has_5 rfl (lv_at hl 0 rfl) ?_
    refine va_get (D := (dC, dI)) (ci := 2) (v := .int f_length) (C := R_Fil) (T := F_Fil) (N := 8) hx hb hts in_Fil hown hK hP 0 rfl rfl 3 (by decide) (hts _ tt103) (fun _ h9 => h9) rfl d_Fil_has_6 ?_
    refine lv_icmp_ge (tgt := 16) hx hb d_Fil_has_9 rfl (fun hc => ?_) (fun hc => ?_)
    · replace h := ot hc h
      refine lv_iconst (v := (0 : Int32)) hx hb d_Fil_has_16 (by decide) ?_
      obtain rfl := Option.some.inj h
      exact hret H locs 17 ls d_Fil_has_17 narrow_b0 hP hD hS
    · replace h := of hc h
      refine lv_iconst (v := (1 : Int32)) hx hb d_Fil_has_12 (by decide) ?_
      refine lv_goto (tgt := 17) hx hb d_Fil_has_13 rfl ?_
      obtain rfl := Option.some.inj h
      exact hret H locs 17 ls d_Fil_has_17 narrow_b1 hP hD hS
theorem d_Fil_at_0 : decode b_Fil_at 0 = .ok (.aload_n 0, 1) := by decide +kernel
theorem d_Fil_at_1 : decode b_Fil_at 1 = .ok (.iload_n 1, 1) := by decide +kernel
theorem d_Fil_at_2 : decode b_Fil_at 2 = .ok (.invokevirtual 37, 3) := by decide +kernel
theorem d_Fil_at_5 : decode b_Fil_at 5 = .ok (.ifCond .eq (12), 3) := by decide +kernel
theorem d_Fil_at_8 : decode b_Fil_at 8 = .ok (.aload_n 0, 1) := by decide +kernel
theorem d_Fil_at_9 : decode b_Fil_at 9 = .ok (.getfield 9, 3) := by decide +kernel
theorem d_Fil_at_12 : decode b_Fil_at 12 = .ok (.iload_n 1, 1) := by decide +kernel
theorem d_Fil_at_13 : decode b_Fil_at 13 = .ok (.iaload, 1) := by decide +kernel
theorem d_Fil_at_14 : decode b_Fil_at 14 = .ok (.goto (4), 3) := by decide +kernel
theorem d_Fil_at_17 : decode b_Fil_at 17 = .ok (.iconst (0), 1) := by decide +kernel
theorem d_Fil_at_18 : decode b_Fil_at 18 = .ok (.ireturn, 1) := by decide +kernel
def q_Fil_at (i_k : Int32) (f_bytes : Nat → Int32) (f_length : Int32) : Option (Int32) := ((q_Fil_has i_k f_length).bind fun z1 => (if z1 = 0 then some ((0 : Int32)) else (if vpb i_k 900 = true then some (f_bytes i_k.toNatClampNeg) else none)))
abbrev rm_Fil_at : Room := { frames := 1, cells := 0, slots := 0, locals := 21 }
set_option maxHeartbeats 4000000 in
set_option maxRecDepth 100000 in
theorem c_Fil_at (l : Launch) (dC : Nat → ClassId) (dI : Nat → Nat → Nat) (f_0 f_bytes_a f_starts_a f_ends_a : Nat) (f_bytes_k f_starts_k f_ends_k : ClassId) (i_k : Int32) (f_bytes : Nat → Int32) (f_starts : Nat → Int32) (f_ends : Nat → Int32) (f_length : Int32) (f_wide : Int32) (f_high : Int32) (f_layerCount : Int32) (f_place : Int32) (z : Int32)  (hq : q_Fil_at i_k f_bytes f_length = some z) (sz : Nat) : MetI l y_Fil_at b_Fil_at 2 .int TT rm_Fil_at (dC, dI) vcl [(f_bytes_k, .int), (f_starts_k, .int), (f_ends_k, .int)] (W_F f_0 f_bytes_a f_starts_a f_ends_a f_bytes_k f_starts_k f_ends_k f_bytes f_starts f_ends f_length f_wide f_high f_layerCount f_place) (W_F f_0 f_bytes_a f_starts_a f_ends_a f_bytes_k f_starts_k f_ends_k f_bytes f_starts f_ends f_length f_wide f_high f_layerCount f_place) [.ref f_0, .int i_k] z sz := by
  refine x_ofI (by decide) (Nat.le_of_ble_eq_true rfl) ?_ sz
  intro p e s m args below meth c A Q ls hx hb hml hown hts hA hG hK hP hD hS hl hret
  have hown : s.vm.findClass R_Fil = some m.cls := hown
  have hl : lv_has ls 2 [(0, .ref f_0), (1, .int i_k)] := hl
  obtain ⟨⟨tq, hZ, hTq⟩, hN⟩ := id hG
  obtain ⟨H, hH⟩ : ∃ H, H = s.heap := ⟨_, rfl⟩
  obtain ⟨locs, hlocs⟩ : ∃ locs : List Loc, locs = [] := ⟨_, rfl⟩
  rw [← hH] at hP
  have hS : va_S A s.heap H locs := by rw [hH, hlocs]; exact hS
  suffices hgo : W p l e rm_Fil_at s m args below meth c H locs 0 0 Q (F0 m 0 ls []) by rw [hH, hlocs] at hgo; exact hgo
  unfold q_Fil_at at hq
  have h := hq
  refine lv_aload_n hx hb d_Fil_at_0 rfl (lv_at hl 0 rfl) ?_
  refine lv_iload_n hx hb d_Fil_at_1 rfl (lv_at hl 1 rfl) ?_
  obtain ⟨z1, hz1, h⟩ := ob h
  refine x_goI (res := z1) (w1 := (W_F f_0 f_bytes_a f_starts_a f_ends_a f_bytes_k f_starts_k f_ends_k f_bytes f_starts f_ends f_length f_wide f_high f_layerCount f_place)) (ws' := (W_F f_0 f_bytes_a f_starts_a f_ends_a f_bytes_k f_starts_k f_ends_k f_bytes f_starts f_ends f_length f_wide f_high f_layerCount f_place)) (wr := List.filterMap (fun (i : Nat) => (W_F f_0 f_bytes_a f_starts_a f_ends_a f_bytes_k f_starts_k f_ends_k f_bytes f_starts f_ends f_length f_wide f_high f_layerCount f_place)[i]?) ([] : List Nat)) (va_runV (As := [.int i_k]) (rest := []) ⟨hx, hb, hml, hown, hts⟩ (c_Fil_has l dC dI f_0 f_bytes_a f_starts_a f_ends_a f_bytes_k f_starts_k f_ends_k i_k f_bytes f_starts f_ends f_length f_wide f_high f_layerCount f_place z1  hz1 H.size) ⟨callB_of 1 hts (gT tt545 TT_good) rfl rfl rfl (hts _ tt47) (hts _ tt542) (by decide +kernel) ⟨Nat.le_of_ble_eq_true rfl, Nat.le_of_ble_eq_true rfl⟩, hts _ tt543, hts _ tt544⟩ (x_preV (q := (R_Fil, F_Fil, 8)) (As := [.int i_k]) (x_pre (wc := (W_F f_0 f_bytes_a f_starts_a f_ends_a f_bytes_k f_starts_k f_ends_k f_bytes f_starts f_ends f_length f_wide f_high f_layerCount f_place)) (av := (.ref f_0 :: [.int i_k])) hK hP hD hS hA hG [0, 1, 2] [0, 1, 2, 3] rfl rfl (by decide)) hK hP (q0 := 0) rfl rfl) rfl rfl hl.1 rfl (lv_room (Nat.le_of_ble_eq_true rfl)) d_Fil_at_2 ⟨Nat.zero_le _, Nat.zero_le _⟩) hP hD hS hA [0, 1, 2, 3] [] [0, 1, 2, 3] rfl rfl (by decide) (by decide) (by decide) rfl (fun H locs hP hD hS => ?_)
  refine lv_if_eq (tgt := 17) hx hb d_Fil_at_5 rfl (fun hc => ?_) (fun hc => ?_)
  · replace h := ot hc h
    refine lv_iconst (v := (0 : Int32)) hx hb d_Fil_at_17 (by decide) ?_
    obtain rfl := Option.some.inj h
    exact hret H locs 18 ls d_Fil_at_18 (vp_nar_int _) hP hD hS
  · replace h := of hc h
    refine lv_aload_n hx hb d_Fil_at_8 rfl (lv_at hl 0 rfl) ?_
    refine va_get (D := (dC, dI)) (ci := 2) (v := .ref f_bytes_a) (C := R_Fil) (T := F_Fil) (N := 8) hx hb hts in_Fil hown hK hP 0 rfl rfl 0 (by decide) (hts _ tt98) (fun _ h9 => h9) rfl d_Fil_at_9 ?_
    refine lv_iload_n hx hb d_Fil_at_12 rfl (lv_at hl 1 rfl) ?_
    obtain ⟨hin, h⟩ := og h
    refine va_iald hx hb hK hP 1 0 rfl rfl (vpb_in hin) d_Fil_at_13 ?_
    refine lv_goto (tgt := 18) hx hb d_Fil_at_14 rfl ?_
    obtain rfl := Option.some.inj h
    exact hret H locs 18 ls d_Fil_at_18 (vp_nar_int _) hP hD hS
theorem d_Fil_change_0 : decode b_Fil_change 0 = .ok (.aload_n 0, 1) := by decide +kernel
theorem d_Fil_change_1 : decode b_Fil_change 1 = .ok (.iload_n 1, 1) := by decide +kernel
theorem d_Fil_change_2 : decode b_Fil_change 2 = .ok (.invokevirtual 37, 3) := by decide +kernel
theorem d_Fil_change_5 : decode b_Fil_change 5 = .ok (.ifCond .eq (10), 3) := by decide +kernel
theorem d_Fil_change_8 : decode b_Fil_change 8 = .ok (.aload_n 0, 1) := by decide +kernel
theorem d_Fil_change_9 : decode b_Fil_change 9 = .ok (.getfield 9, 3) := by decide +kernel
theorem d_Fil_change_12 : decode b_Fil_change 12 = .ok (.iload_n 1, 1) := by decide +kernel
theorem d_Fil_change_13 : decode b_Fil_change 13 = .ok (.iload_n 2, 1) := by decide +kernel
theorem d_Fil_change_14 : decode b_Fil_change 14 = .ok (.iastore, 1) := by decide +kernel
theorem d_Fil_change_15 : decode b_Fil_change 15 = .ok (.return_, 1) := by decide +kernel
def q_Fil_change (i_k : Int32) (i_b : Int32) (f_bytes : Nat → Int32) (f_length : Int32) : Option ((Nat → Int32)) := ((q_Fil_has i_k f_length).bind fun z1 => (if z1 = 0 then some (f_bytes) else (if vpb i_k 900 = true then some (upd f_bytes i_k.toNatClampNeg i_b) else none)))
abbrev rm_Fil_change : Room := { frames := 1, cells := 0, slots := 0, locals := 21 }
set_option maxHeartbeats 4000000 in
set_option maxRecDepth 100000 in
theorem c_Fil_change (l : Launch) (dC : Nat → ClassId) (dI : Nat → Nat → Nat) (f_0 f_bytes_a f_starts_a f_ends_a : Nat) (f_bytes_k f_starts_k f_ends_k : ClassId) (i_k : Int32) (i_b : Int32) (f_bytes : Nat → Int32) (f_starts : Nat → Int32) (f_ends : Nat → Int32) (f_length : Int32) (f_wide : Int32) (f_high : Int32) (f_layerCount : Int32) (f_place : Int32) (z : (Nat → Int32))  (hq : q_Fil_change i_k i_b f_bytes f_length = some z) (sz : Nat) : MetV l y_Fil_change b_Fil_change 3 TT rm_Fil_change (dC, dI) vcl [(f_bytes_k, .int), (f_starts_k, .int), (f_ends_k, .int)] (W_F f_0 f_bytes_a f_starts_a f_ends_a f_bytes_k f_starts_k f_ends_k f_bytes f_starts f_ends f_length f_wide f_high f_layerCount f_place) (W_F f_0 f_bytes_a f_starts_a f_ends_a f_bytes_k f_starts_k f_ends_k z f_starts f_ends f_length f_wide f_high f_layerCount f_place) [.ref f_0, .int i_k, .int i_b] sz := by
  refine x_ofV (by decide) (Nat.le_of_ble_eq_true rfl) ?_ sz
  intro p e s m args below meth c A Q ls hx hb hml hown hts hA hG hK hP hD hS hl hret
  have hown : s.vm.findClass R_Fil = some m.cls := hown
  have hl : lv_has ls 3 [(0, .ref f_0), (1, .int i_k), (2, .int i_b)] := hl
  obtain ⟨⟨tq, hZ, hTq⟩, hN⟩ := id hG
  obtain ⟨H, hH⟩ : ∃ H, H = s.heap := ⟨_, rfl⟩
  obtain ⟨locs, hlocs⟩ : ∃ locs : List Loc, locs = [] := ⟨_, rfl⟩
  rw [← hH] at hP
  have hS : va_S A s.heap H locs := by rw [hH, hlocs]; exact hS
  suffices hgo : W p l e rm_Fil_change s m args below meth c H locs 0 0 Q (F0 m 0 ls []) by rw [hH, hlocs] at hgo; exact hgo
  unfold q_Fil_change at hq
  have h := hq
  refine lv_aload_n hx hb d_Fil_change_0 rfl (lv_at hl 0 rfl) ?_
  refine lv_iload_n hx hb d_Fil_change_1 rfl (lv_at hl 1 rfl) ?_
  obtain ⟨z1, hz1, h⟩ := ob h
  refine x_goI (res := z1) (w1 := (W_F f_0 f_bytes_a f_starts_a f_ends_a f_bytes_k f_starts_k f_ends_k f_bytes f_starts f_ends f_length f_wide f_high f_layerCount f_place)) (ws' := (W_F f_0 f_bytes_a f_starts_a f_ends_a f_bytes_k f_starts_k f_ends_k f_bytes f_starts f_ends f_length f_wide f_high f_layerCount f_place)) (wr := List.filterMap (fun (i : Nat) => (W_F f_0 f_bytes_a f_starts_a f_ends_a f_bytes_k f_starts_k f_ends_k f_bytes f_starts f_ends f_length f_wide f_high f_layerCount f_place)[i]?) ([] : List Nat)) (va_runV (As := [.int i_k]) (rest := []) ⟨hx, hb, hml, hown, hts⟩ (c_Fil_has l dC dI f_0 f_bytes_a f_starts_a f_ends_a f_bytes_k f_starts_k f_ends_k i_k f_bytes f_starts f_ends f_length f_wide f_high f_layerCount f_place z1  hz1 H.size) ⟨callB_of 1 hts (gT tt545 TT_good) rfl rfl rfl (hts _ tt47) (hts _ tt542) (by decide +kernel) ⟨Nat.le_of_ble_eq_true rfl, Nat.le_of_ble_eq_true rfl⟩, hts _ tt543, hts _ tt544⟩ (x_preV (q := (R_Fil, F_Fil, 8)) (As := [.int i_k]) (x_pre (wc := (W_F f_0 f_bytes_a f_starts_a f_ends_a f_bytes_k f_starts_k f_ends_k f_bytes f_starts f_ends f_length f_wide f_high f_layerCount f_place)) (av := (.ref f_0 :: [.int i_k])) hK hP hD hS hA hG [0, 1, 2] [0, 1, 2, 3] rfl rfl (by decide)) hK hP (q0 := 0) rfl rfl) rfl rfl hl.1 rfl (lv_room (Nat.le_of_ble_eq_true rfl)) d_Fil_change_2 ⟨Nat.zero_le _, Nat.zero_le _⟩) hP hD hS hA [0, 1, 2, 3] [] [0, 1, 2, 3] rfl rfl (by decide) (by decide) (by decide) rfl (fun H locs hP hD hS => ?_)
  refine lv_if_eq (tgt := 15) hx hb d_Fil_change_5 rfl (fun hc => ?_) (fun hc => ?_)
  · replace h := ot hc h
    obtain rfl := Option.some.inj h
    exact hret H locs 15 ls d_Fil_change_15 hP hD hS
  · replace h := of hc h
    refine lv_aload_n hx hb d_Fil_change_8 rfl (lv_at hl 0 rfl) ?_
    refine va_get (D := (dC, dI)) (ci := 2) (v := .ref f_bytes_a) (C := R_Fil) (T := F_Fil) (N := 8) hx hb hts in_Fil hown hK hP 0 rfl rfl 0 (by decide) (hts _ tt98) (fun _ h9 => h9) rfl d_Fil_change_9 ?_
    refine lv_iload_n hx hb d_Fil_change_12 rfl (lv_at hl 1 rfl) ?_
    refine lv_iload_n hx hb d_Fil_change_13 rfl (lv_at hl 2 rfl) ?_
    obtain ⟨hin, h⟩ := og h
    refine va_iast hx hb hK hP hD hS 1 0 rfl rfl (vpb_in hin) d_Fil_change_14 (fun H locs hP hD hS => ?_)
    have hP : va_P (dC, dI) vcl (W_F f_0 f_bytes_a f_starts_a f_ends_a f_bytes_k f_starts_k f_ends_k (upd f_bytes i_k.toNatClampNeg i_b) f_starts f_ends f_length f_wide f_high f_layerCount f_place) H := hP
    have hD : va_D A (W_F f_0 f_bytes_a f_starts_a f_ends_a f_bytes_k f_starts_k f_ends_k (upd f_bytes i_k.toNatClampNeg i_b) f_starts f_ends f_length f_wide f_high f_layerCount f_place) := hD
    obtain rfl := Option.some.inj h
    exact hret H locs 15 ls d_Fil_change_15 hP hD hS
theorem d_Fil_append_0 : decode b_Fil_append 0 = .ok (.aload_n 0, 1) := by decide +kernel
theorem d_Fil_append_1 : decode b_Fil_append 1 = .ok (.getfield 21, 3) := by decide +kernel
theorem d_Fil_append_4 : decode b_Fil_append 4 = .ok (.sipush (900), 3) := by decide +kernel
theorem d_Fil_append_7 : decode b_Fil_append 7 = .ok (.if_icmp .ge (23), 3) := by decide +kernel
theorem d_Fil_append_10 : decode b_Fil_append 10 = .ok (.aload_n 0, 1) := by decide +kernel
theorem d_Fil_append_11 : decode b_Fil_append 11 = .ok (.getfield 9, 3) := by decide +kernel
theorem d_Fil_append_14 : decode b_Fil_append 14 = .ok (.aload_n 0, 1) := by decide +kernel
theorem d_Fil_append_15 : decode b_Fil_append 15 = .ok (.getfield 21, 3) := by decide +kernel
theorem d_Fil_append_18 : decode b_Fil_append 18 = .ok (.iload_n 1, 1) := by decide +kernel
theorem d_Fil_append_19 : decode b_Fil_append 19 = .ok (.iastore, 1) := by decide +kernel
theorem d_Fil_append_20 : decode b_Fil_append 20 = .ok (.aload_n 0, 1) := by decide +kernel
theorem d_Fil_append_21 : decode b_Fil_append 21 = .ok (.dup, 1) := by decide +kernel
theorem d_Fil_append_22 : decode b_Fil_append 22 = .ok (.getfield 21, 3) := by decide +kernel
theorem d_Fil_append_25 : decode b_Fil_append 25 = .ok (.iconst (1), 1) := by decide +kernel
theorem d_Fil_append_26 : decode b_Fil_append 26 = .ok (.iadd, 1) := by decide +kernel
theorem d_Fil_append_27 : decode b_Fil_append 27 = .ok (.putfield 21, 3) := by decide +kernel
theorem d_Fil_append_30 : decode b_Fil_append 30 = .ok (.return_, 1) := by decide +kernel
def q_Fil_append (i_b : Int32) (f_bytes : Nat → Int32) (f_length : Int32) : Option ((Nat → Int32) × Int32) := (if (900 : Int32) ≤ f_length then some (f_bytes, f_length) else (if vpb f_length 900 = true then some (upd f_bytes f_length.toNatClampNeg i_b, f_length + (1 : Int32)) else none))
abbrev rm_Fil_append : Room := { frames := 0, cells := 0, slots := 0, locals := 0 }
set_option maxHeartbeats 4000000 in
set_option maxRecDepth 100000 in
theorem c_Fil_append (l : Launch) (dC : Nat → ClassId) (dI : Nat → Nat → Nat) (f_0 f_bytes_a f_starts_a f_ends_a : Nat) (f_bytes_k f_starts_k f_ends_k : ClassId) (i_b : Int32) (f_bytes : Nat → Int32) (f_starts : Nat → Int32) (f_ends : Nat → Int32) (f_length : Int32) (f_wide : Int32) (f_high : Int32) (f_layerCount : Int32) (f_place : Int32) (z : (Nat → Int32) × Int32)  (hq : q_Fil_append i_b f_bytes f_length = some z) (sz : Nat) : MetV l y_Fil_append b_Fil_append 2 TT rm_Fil_append (dC, dI) vcl [(f_bytes_k, .int), (f_starts_k, .int), (f_ends_k, .int)] (W_F f_0 f_bytes_a f_starts_a f_ends_a f_bytes_k f_starts_k f_ends_k f_bytes f_starts f_ends f_length f_wide f_high f_layerCount f_place) (W_F f_0 f_bytes_a f_starts_a f_ends_a f_bytes_k f_starts_k f_ends_k z.1 f_starts f_ends z.2 f_wide f_high f_layerCount f_place) [.ref f_0, .int i_b] sz := by
  refine x_ofV (by decide) (Nat.le_of_ble_eq_true rfl) ?_ sz
  intro p e s m args below meth c A Q ls hx hb hml hown hts hA hG hK hP hD hS hl hret
  have hown : s.vm.findClass R_Fil = some m.cls := hown
  have hl : lv_has ls 2 [(0, .ref f_0), (1, .int i_b)] := hl
  obtain ⟨⟨tq, hZ, hTq⟩, hN⟩ := id hG
  obtain ⟨H, hH⟩ : ∃ H, H = s.heap := ⟨_, rfl⟩
  obtain ⟨locs, hlocs⟩ : ∃ locs : List Loc, locs = [] := ⟨_, rfl⟩
  rw [← hH] at hP
  have hS : va_S A s.heap H locs := by rw [hH, hlocs]; exact hS
  suffices hgo : W p l e rm_Fil_append s m args below meth c H locs 0 0 Q (F0 m 0 ls []) by rw [hH, hlocs] at hgo; exact hgo
  unfold q_Fil_append at hq
  have h := hq
  refine lv_aload_n hx hb d_Fil_append_0 rfl (lv_at hl 0 rfl) ?_
  refine va_get (D := (dC, dI)) (ci := 2) (v := .int f_length) (C := R_Fil) (T := F_Fil) (N := 8) hx hb hts in_Fil hown hK hP 0 rfl rfl 3 (by decide) (hts _ tt103) (fun _ h9 => h9) rfl d_Fil_append_1 ?_
  refine lv_sipush (v := (900 : Int32)) hx hb d_Fil_append_4 (by decide) ?_
  refine lv_icmp_ge (tgt := 30) hx hb d_Fil_append_7 rfl (fun hc => ?_) (fun hc => ?_)
  · replace h := ot hc h
    obtain rfl := Option.some.inj h
    exact hret H locs 30 ls d_Fil_append_30 hP hD hS
  · replace h := of hc h
    refine lv_aload_n hx hb d_Fil_append_10 rfl (lv_at hl 0 rfl) ?_
    refine va_get (D := (dC, dI)) (ci := 2) (v := .ref f_bytes_a) (C := R_Fil) (T := F_Fil) (N := 8) hx hb hts in_Fil hown hK hP 0 rfl rfl 0 (by decide) (hts _ tt98) (fun _ h9 => h9) rfl d_Fil_append_11 ?_
    refine lv_aload_n hx hb d_Fil_append_14 rfl (lv_at hl 0 rfl) ?_
    refine va_get (D := (dC, dI)) (ci := 2) (v := .int f_length) (C := R_Fil) (T := F_Fil) (N := 8) hx hb hts in_Fil hown hK hP 0 rfl rfl 3 (by decide) (hts _ tt103) (fun _ h9 => h9) rfl d_Fil_append_15 ?_
    refine lv_iload_n hx hb d_Fil_append_18 rfl (lv_at hl 1 rfl) ?_
    obtain ⟨hin, h⟩ := og h
    refine va_iast hx hb hK hP hD hS 1 0 rfl rfl (vpb_in hin) d_Fil_append_19 (fun H locs hP hD hS => ?_)
    have hP : va_P (dC, dI) vcl (W_F f_0 f_bytes_a f_starts_a f_ends_a f_bytes_k f_starts_k f_ends_k (upd f_bytes f_length.toNatClampNeg i_b) f_starts f_ends f_length f_wide f_high f_layerCount f_place) H := hP
    have hD : va_D A (W_F f_0 f_bytes_a f_starts_a f_ends_a f_bytes_k f_starts_k f_ends_k (upd f_bytes f_length.toNatClampNeg i_b) f_starts f_ends f_length f_wide f_high f_layerCount f_place) := hD
    refine lv_aload_n hx hb d_Fil_append_20 rfl (lv_at hl 0 rfl) ?_
    refine lv_dup hx hb d_Fil_append_21 rfl ?_
    refine va_get (D := (dC, dI)) (ci := 2) (v := .int f_length) (C := R_Fil) (T := F_Fil) (N := 8) hx hb hts in_Fil hown hK hP 0 rfl rfl 3 (by decide) (hts _ tt103) (fun _ h9 => h9) rfl d_Fil_append_22 ?_
    refine lv_iconst (v := (1 : Int32)) hx hb d_Fil_append_25 (by decide) ?_
    refine lv_iadd hx hb d_Fil_append_26 ?_
    refine va_put (D := (dC, dI)) (ci := 2) (v := .int (f_length + (1 : Int32))) (ty := .int) (C := R_Fil) (T := F_Fil) (N := 8) hx hb hts in_Fil t_Fil t_Fil_ok n_Fil hown hK hP hD hS 0 rfl rfl 3 (by decide) (hts _ tt103) (fun _ h9 => h9) rfl (by decide +kernel) rfl rfl (Nat.le_of_ble_eq_true rfl) d_Fil_append_27 (fun H locs hP hD hS => ?_)
    have hP : va_P (dC, dI) vcl (W_F f_0 f_bytes_a f_starts_a f_ends_a f_bytes_k f_starts_k f_ends_k (upd f_bytes f_length.toNatClampNeg i_b) f_starts f_ends (f_length + (1 : Int32)) f_wide f_high f_layerCount f_place) H := hP
    have hD : va_D A (W_F f_0 f_bytes_a f_starts_a f_ends_a f_bytes_k f_starts_k f_ends_k (upd f_bytes f_length.toNatClampNeg i_b) f_starts f_ends (f_length + (1 : Int32)) f_wide f_high f_layerCount f_place) := hD
    obtain rfl := Option.some.inj h
    exact hret H locs 30 ls d_Fil_append_30 hP hD hS
theorem d_Fil_keep_0 : decode b_Fil_keep 0 = .ok (.aload_n 0, 1) := by decide +kernel
theorem d_Fil_keep_1 : decode b_Fil_keep 1 = .ok (.iload_n 1, 1) := by decide +kernel
theorem d_Fil_keep_2 : decode b_Fil_keep 2 = .ok (.putfield 21, 3) := by decide +kernel
theorem d_Fil_keep_5 : decode b_Fil_keep 5 = .ok (.return_, 1) := by decide +kernel
def q_Fil_keep (i_n : Int32) (f_length : Int32) : Option (Int32) := some (i_n)
abbrev rm_Fil_keep : Room := { frames := 0, cells := 0, slots := 0, locals := 0 }
set_option maxHeartbeats 4000000 in
set_option maxRecDepth 100000 in
theorem c_Fil_keep (l : Launch) (dC : Nat → ClassId) (dI : Nat → Nat → Nat) (f_0 f_bytes_a f_starts_a f_ends_a : Nat) (f_bytes_k f_starts_k f_ends_k : ClassId) (i_n : Int32) (f_bytes : Nat → Int32) (f_starts : Nat → Int32) (f_ends : Nat → Int32) (f_length : Int32) (f_wide : Int32) (f_high : Int32) (f_layerCount : Int32) (f_place : Int32) (z : Int32)  (hq : q_Fil_keep i_n f_length = some z) (sz : Nat) : MetV l y_Fil_keep b_Fil_keep 2 TT rm_Fil_keep (dC, dI) vcl [(f_bytes_k, .int), (f_starts_k, .int), (f_ends_k, .int)] (W_F f_0 f_bytes_a f_starts_a f_ends_a f_bytes_k f_starts_k f_ends_k f_bytes f_starts f_ends f_length f_wide f_high f_layerCount f_place) (W_F f_0 f_bytes_a f_starts_a f_ends_a f_bytes_k f_starts_k f_ends_k f_bytes f_starts f_ends z f_wide f_high f_layerCount f_place) [.ref f_0, .int i_n] sz := by
  refine x_ofV (by decide) (Nat.le_of_ble_eq_true rfl) ?_ sz
  intro p e s m args below meth c A Q ls hx hb hml hown hts hA hG hK hP hD hS hl hret
  have hown : s.vm.findClass R_Fil = some m.cls := hown
  have hl : lv_has ls 2 [(0, .ref f_0), (1, .int i_n)] := hl
  obtain ⟨⟨tq, hZ, hTq⟩, hN⟩ := id hG
  obtain ⟨H, hH⟩ : ∃ H, H = s.heap := ⟨_, rfl⟩
  obtain ⟨locs, hlocs⟩ : ∃ locs : List Loc, locs = [] := ⟨_, rfl⟩
  rw [← hH] at hP
  have hS : va_S A s.heap H locs := by rw [hH, hlocs]; exact hS
  suffices hgo : W p l e rm_Fil_keep s m args below meth c H locs 0 0 Q (F0 m 0 ls []) by rw [hH, hlocs] at hgo; exact hgo
  unfold q_Fil_keep at hq
  have h := hq
  refine lv_aload_n hx hb d_Fil_keep_0 rfl (lv_at hl 0 rfl) ?_
  refine lv_iload_n hx hb d_Fil_keep_1 rfl (lv_at hl 1 rfl) ?_
  refine va_put (D := (dC, dI)) (ci := 2) (v := .int i_n) (ty := .int) (C := R_Fil) (T := F_Fil) (N := 8) hx hb hts in_Fil t_Fil t_Fil_ok n_Fil hown hK hP hD hS 0 rfl rfl 3 (by decide) (hts _ tt103) (fun _ h9 => h9) rfl (by decide +kernel) rfl rfl (Nat.le_of_ble_eq_true rfl) d_Fil_keep_2 (fun H locs hP hD hS => ?_)
  have hP : va_P (dC, dI) vcl (W_F f_0 f_bytes_a f_starts_a f_ends_a f_bytes_k f_starts_k f_ends_k f_bytes f_starts f_ends i_n f_wide f_high f_layerCount f_place) H := hP
  have hD : va_D A (W_F f_0 f_bytes_a f_starts_a f_ends_a f_bytes_k f_starts_k f_ends_k f_bytes f_starts f_ends i_n f_wide f_high f_layerCount f_place) := hD
  obtain rfl := Option.some.inj h
  exact hret H locs 5 ls d_Fil_keep_5 hP hD hS
theorem d_Fil_remarksAreNext_0 : decode b_Fil_remarksAreNext 0 = .ok (.aload_n 0, 1) := by decide +kernel
theorem d_Fil_remarksAreNext_1 : decode b_Fil_remarksAreNext 1 = .ok (.aload_n 0, 1) := by decide +kernel
theorem d_Fil_remarksAreNext_2 : decode b_Fil_remarksAreNext 2 = .ok (.getfield 34, 3) := by decide +kernel
theorem d_Fil_remarksAreNext_5 : decode b_Fil_remarksAreNext 5 = .ok (.invokevirtual 52, 3) := by decide +kernel
theorem d_Fil_remarksAreNext_8 : decode b_Fil_remarksAreNext 8 = .ok (.sipush (255), 3) := by decide +kernel
theorem d_Fil_remarksAreNext_11 : decode b_Fil_remarksAreNext 11 = .ok (.if_icmp .ne (22), 3) := by decide +kernel
theorem d_Fil_remarksAreNext_14 : decode b_Fil_remarksAreNext 14 = .ok (.aload_n 0, 1) := by decide +kernel
theorem d_Fil_remarksAreNext_15 : decode b_Fil_remarksAreNext 15 = .ok (.aload_n 0, 1) := by decide +kernel
theorem d_Fil_remarksAreNext_16 : decode b_Fil_remarksAreNext 16 = .ok (.getfield 34, 3) := by decide +kernel
theorem d_Fil_remarksAreNext_19 : decode b_Fil_remarksAreNext 19 = .ok (.iconst (1), 1) := by decide +kernel
theorem d_Fil_remarksAreNext_20 : decode b_Fil_remarksAreNext 20 = .ok (.iadd, 1) := by decide +kernel
theorem d_Fil_remarksAreNext_21 : decode b_Fil_remarksAreNext 21 = .ok (.invokevirtual 52, 3) := by decide +kernel
theorem d_Fil_remarksAreNext_24 : decode b_Fil_remarksAreNext 24 = .ok (.bipush (7), 2) := by decide +kernel
theorem d_Fil_remarksAreNext_26 : decode b_Fil_remarksAreNext 26 = .ok (.if_icmp .ne (7), 3) := by decide +kernel
theorem d_Fil_remarksAreNext_29 : decode b_Fil_remarksAreNext 29 = .ok (.iconst (1), 1) := by decide +kernel
theorem d_Fil_remarksAreNext_30 : decode b_Fil_remarksAreNext 30 = .ok (.goto (4), 3) := by decide +kernel
theorem d_Fil_remarksAreNext_33 : decode b_Fil_remarksAreNext 33 = .ok (.iconst (0), 1) := by decide +kernel
theorem d_Fil_remarksAreNext_34 : decode b_Fil_remarksAreNext 34 = .ok (.ireturn, 1) := by decide +kernel
def q_Fil_remarksAreNext  (f_bytes : Nat → Int32) (f_length : Int32) (f_place : Int32) : Option (Int32) := ((q_Fil_at f_place f_bytes f_length).bind fun z1 => (if z1 = (255 : Int32) then ((q_Fil_at (f_place + (1 : Int32)) f_bytes f_length).bind fun z2 => (if z2 = (7 : Int32) then some ((1 : Int32)) else some ((0 : Int32)))) else some ((0 : Int32))))
abbrev rm_Fil_remarksAreNext : Room := { frames := 2, cells := 0, slots := 0, locals := 42 }
set_option maxHeartbeats 4000000 in
set_option maxRecDepth 100000 in
theorem c_Fil_remarksAreNext (l : Launch) (dC : Nat → ClassId) (dI : Nat → Nat → Nat) (f_0 f_bytes_a f_starts_a f_ends_a : Nat) (f_bytes_k f_starts_k f_ends_k : ClassId)  (f_bytes : Nat → Int32) (f_starts : Nat → Int32) (f_ends : Nat → Int32) (f_length : Int32) (f_wide : Int32) (f_high : Int32) (f_layerCount : Int32) (f_place : Int32) (z : Int32)  (hq : q_Fil_remarksAreNext f_bytes f_length f_place = some z) (sz : Nat) : MetI l y_Fil_remarksAreNext b_Fil_remarksAreNext 1 .boolean TT rm_Fil_remarksAreNext (dC, dI) vcl [(f_bytes_k, .int), (f_starts_k, .int), (f_ends_k, .int)] (W_F f_0 f_bytes_a f_starts_a f_ends_a f_bytes_k f_starts_k f_ends_k f_bytes f_starts f_ends f_length f_wide f_high f_layerCount f_place) (W_F f_0 f_bytes_a f_starts_a f_ends_a f_bytes_k f_starts_k f_ends_k f_bytes f_starts f_ends f_length f_wide f_high f_layerCount f_place) [.ref f_0] z sz := by
  refine x_ofI (by decide) (Nat.le_of_ble_eq_true rfl) ?_ sz
  intro p e s m args below meth c A Q ls hx hb hml hown hts hA hG hK hP hD hS hl hret
  have hown : s.vm.findClass R_Fil = some m.cls := hown
  have hl : lv_has ls 1 [(0, .ref f_0)] := hl
  obtain ⟨⟨tq, hZ, hTq⟩, hN⟩ := id hG
  obtain ⟨H, hH⟩ : ∃ H, H = s.heap := ⟨_, rfl⟩
  obtain ⟨locs, hlocs⟩ : ∃ locs : List Loc, locs = [] := ⟨_, rfl⟩
  rw [← hH] at hP
  have hS : va_S A s.heap H locs := by rw [hH, hlocs]; exact hS
  suffices hgo : W p l e rm_Fil_remarksAreNext s m args below meth c H locs 0 0 Q (F0 m 0 ls []) by rw [hH, hlocs] at hgo; exact hgo
  unfold q_Fil_remarksAreNext at hq
  have h := hq
  refine lv_aload_n hx hb d_Fil_remarksAreNext_0 rfl (lv_at hl 0 rfl) ?_
  refine lv_aload_n hx hb d_Fil_remarksAreNext_1 rfl (lv_at hl 0 rfl) ?_
  refine va_get (D := (dC, dI)) (ci := 2) (v := .int f_place) (C := R_Fil) (T := F_Fil) (N := 8) hx hb hts in_Fil hown hK hP 0 rfl rfl 7 (by decide) (hts _ tt111) (fun _ h9 => h9) rfl d_Fil_remarksAreNext_2 ?_
  obtain ⟨z1, hz1, h⟩ := ob h
  refine x_goI (res := z1) (w1 := (W_F f_0 f_bytes_a f_starts_a f_ends_a f_bytes_k f_starts_k f_ends_k f_bytes f_starts f_ends f_length f_wide f_high f_layerCount f_place)) (ws' := (W_F f_0 f_bytes_a f_starts_a f_ends_a f_bytes_k f_starts_k f_ends_k f_bytes f_starts f_ends f_length f_wide f_high f_layerCount f_place)) (wr := List.filterMap (fun (i : Nat) => (W_F f_0 f_bytes_a f_starts_a f_ends_a f_bytes_k f_starts_k f_ends_k f_bytes f_starts f_ends f_length f_wide f_high f_layerCount f_place)[i]?) ([] : List Nat)) (va_runV (As := [.int f_place]) (rest := []) ⟨hx, hb, hml, hown, hts⟩ (c_Fil_at l dC dI f_0 f_bytes_a f_starts_a f_ends_a f_bytes_k f_starts_k f_ends_k f_place f_bytes f_starts f_ends f_length f_wide f_high f_layerCount f_place z1  hz1 H.size) ⟨callB_of 1 hts (gT tt549 TT_good) rfl rfl rfl (hts _ tt47) (hts _ tt546) (by decide +kernel) ⟨Nat.le_of_ble_eq_true rfl, Nat.le_of_ble_eq_true rfl⟩, hts _ tt547, hts _ tt548⟩ (x_preV (q := (R_Fil, F_Fil, 8)) (As := [.int f_place]) (x_pre (wc := (W_F f_0 f_bytes_a f_starts_a f_ends_a f_bytes_k f_starts_k f_ends_k f_bytes f_starts f_ends f_length f_wide f_high f_layerCount f_place)) (av := (.ref f_0 :: [.int f_place])) hK hP hD hS hA hG [0, 1, 2] [0, 1, 2, 3] rfl rfl (by decide)) hK hP (q0 := 0) rfl rfl) rfl rfl hl.1 rfl (lv_room (Nat.le_of_ble_eq_true rfl)) d_Fil_remarksAreNext_5 ⟨Nat.zero_le _, Nat.zero_le _⟩) hP hD hS hA [0, 1, 2, 3] [] [0, 1, 2, 3] rfl rfl (by decide) (by decide) (by decide) rfl (fun H locs hP hD hS => ?_)
  refine lv_sipush (v := (255 : Int32)) hx hb d_Fil_remarksAreNext_8 (by decide) ?_
  refine lv_icmp_ne (tgt := 33) hx hb d_Fil_remarksAreNext_11 rfl (fun hc => ?_) (fun hc => ?_)
  · replace h := of hc h
    refine lv_iconst (v := (0 : Int32)) hx hb d_Fil_remarksAreNext_33 (by decide) ?_
    obtain rfl := Option.some.inj h
    exact hret H locs 34 ls d_Fil_remarksAreNext_34 narrow_b0 hP hD hS
  · replace h := ot hc h
    refine lv_aload_n hx hb d_Fil_remarksAreNext_14 rfl (lv_at hl 0 rfl) ?_
    refine lv_aload_n hx hb d_Fil_remarksAreNext_15 rfl (lv_at hl 0 rfl) ?_
    refine va_get (D := (dC, dI)) (ci := 2) (v := .int f_place) (C := R_Fil) (T := F_Fil) (N := 8) hx hb hts in_Fil hown hK hP 0 rfl rfl 7 (by decide) (hts _ tt111) (fun _ h9 => h9) rfl d_Fil_remarksAreNext_16 ?_
    refine lv_iconst (v := (1 : Int32)) hx hb d_Fil_remarksAreNext_19 (by decide) ?_
    refine lv_iadd hx hb d_Fil_remarksAreNext_20 ?_
    obtain ⟨z2, hz2, h⟩ := ob h
    refine x_goI (res := z2) (w1 := (W_F f_0 f_bytes_a f_starts_a f_ends_a f_bytes_k f_starts_k f_ends_k f_bytes f_starts f_ends f_length f_wide f_high f_layerCount f_place)) (ws' := (W_F f_0 f_bytes_a f_starts_a f_ends_a f_bytes_k f_starts_k f_ends_k f_bytes f_starts f_ends f_length f_wide f_high f_layerCount f_place)) (wr := List.filterMap (fun (i : Nat) => (W_F f_0 f_bytes_a f_starts_a f_ends_a f_bytes_k f_starts_k f_ends_k f_bytes f_starts f_ends f_length f_wide f_high f_layerCount f_place)[i]?) ([] : List Nat)) (va_runV (As := [.int (f_place + (1 : Int32))]) (rest := []) ⟨hx, hb, hml, hown, hts⟩ (c_Fil_at l dC dI f_0 f_bytes_a f_starts_a f_ends_a f_bytes_k f_starts_k f_ends_k (f_place + (1 : Int32)) f_bytes f_starts f_ends f_length f_wide f_high f_layerCount f_place z2  hz2 H.size) ⟨callB_of 1 hts (gT tt549 TT_good) rfl rfl rfl (hts _ tt47) (hts _ tt546) (by decide +kernel) ⟨Nat.le_of_ble_eq_true rfl, Nat.le_of_ble_eq_true rfl⟩, hts _ tt547, hts _ tt548⟩ (x_preV (q := (R_Fil, F_Fil, 8)) (As := [.int (f_place + (1 : Int32))]) (x_pre (wc := (W_F f_0 f_bytes_a f_starts_a f_ends_a f_bytes_k f_starts_k f_ends_k f_bytes f_starts f_ends f_length f_wide f_high f_layerCount f_place)) (av := (.ref f_0 :: [.int (f_place + (1 : Int32))])) hK hP hD hS hA hG [0, 1, 2] [0, 1, 2, 3] rfl rfl (by decide)) hK hP (q0 := 0) rfl rfl) rfl rfl hl.1 rfl (lv_room (Nat.le_of_ble_eq_true rfl)) d_Fil_remarksAreNext_21 ⟨Nat.zero_le _, Nat.zero_le _⟩) hP hD hS hA [0, 1, 2, 3] [] [0, 1, 2, 3] rfl rfl (by decide) (by decide) (by decide) rfl (fun H locs hP hD hS => ?_)
    refine lv_bipush (v := (7 : Int32)) hx hb d_Fil_remarksAreNext_24 (by decide) ?_
    refine lv_icmp_ne (tgt := 33) hx hb d_Fil_remarksAreNext_26 rfl (fun hc => ?_) (fun hc => ?_)
    · replace h := of hc h
      refine lv_iconst (v := (0 : Int32)) hx hb d_Fil_remarksAreNext_33 (by decide) ?_
      obtain rfl := Option.some.inj h
      exact hret H locs 34 ls d_Fil_remarksAreNext_34 narrow_b0 hP hD hS
    · replace h := ot hc h
      refine lv_iconst (v := (1 : Int32)) hx hb d_Fil_remarksAreNext_29 (by decide) ?_
      refine lv_goto (tgt := 34) hx hb d_Fil_remarksAreNext_30 rfl ?_
      obtain rfl := Option.some.inj h
      exact hret H locs 34 ls d_Fil_remarksAreNext_34 narrow_b1 hP hD hS
theorem d_Fil_passByte_0 : decode b_Fil_passByte 0 = .ok (.aload_n 0, 1) := by decide +kernel
theorem d_Fil_passByte_1 : decode b_Fil_passByte 1 = .ok (.aload_n 0, 1) := by decide +kernel
theorem d_Fil_passByte_2 : decode b_Fil_passByte 2 = .ok (.getfield 34, 3) := by decide +kernel
theorem d_Fil_passByte_5 : decode b_Fil_passByte 5 = .ok (.invokevirtual 37, 3) := by decide +kernel
theorem d_Fil_passByte_8 : decode b_Fil_passByte 8 = .ok (.ifCond .eq (27), 3) := by decide +kernel
theorem d_Fil_passByte_11 : decode b_Fil_passByte 11 = .ok (.aload_n 0, 1) := by decide +kernel
theorem d_Fil_passByte_12 : decode b_Fil_passByte 12 = .ok (.aload_n 0, 1) := by decide +kernel
theorem d_Fil_passByte_13 : decode b_Fil_passByte 13 = .ok (.getfield 34, 3) := by decide +kernel
theorem d_Fil_passByte_16 : decode b_Fil_passByte 16 = .ok (.invokevirtual 52, 3) := by decide +kernel
theorem d_Fil_passByte_19 : decode b_Fil_passByte 19 = .ok (.iload_n 1, 1) := by decide +kernel
theorem d_Fil_passByte_20 : decode b_Fil_passByte 20 = .ok (.if_icmp .lt (15), 3) := by decide +kernel
theorem d_Fil_passByte_23 : decode b_Fil_passByte 23 = .ok (.aload_n 0, 1) := by decide +kernel
theorem d_Fil_passByte_24 : decode b_Fil_passByte 24 = .ok (.aload_n 0, 1) := by decide +kernel
theorem d_Fil_passByte_25 : decode b_Fil_passByte 25 = .ok (.getfield 34, 3) := by decide +kernel
theorem d_Fil_passByte_28 : decode b_Fil_passByte 28 = .ok (.invokevirtual 52, 3) := by decide +kernel
theorem d_Fil_passByte_31 : decode b_Fil_passByte 31 = .ok (.iload_n 2, 1) := by decide +kernel
theorem d_Fil_passByte_32 : decode b_Fil_passByte 32 = .ok (.if_icmp .le (5), 3) := by decide +kernel
theorem d_Fil_passByte_35 : decode b_Fil_passByte 35 = .ok (.iconst (0), 1) := by decide +kernel
theorem d_Fil_passByte_36 : decode b_Fil_passByte 36 = .ok (.ireturn, 1) := by decide +kernel
theorem d_Fil_passByte_37 : decode b_Fil_passByte 37 = .ok (.aload_n 0, 1) := by decide +kernel
theorem d_Fil_passByte_38 : decode b_Fil_passByte 38 = .ok (.dup, 1) := by decide +kernel
theorem d_Fil_passByte_39 : decode b_Fil_passByte 39 = .ok (.getfield 34, 3) := by decide +kernel
theorem d_Fil_passByte_42 : decode b_Fil_passByte 42 = .ok (.iconst (1), 1) := by decide +kernel
theorem d_Fil_passByte_43 : decode b_Fil_passByte 43 = .ok (.iadd, 1) := by decide +kernel
theorem d_Fil_passByte_44 : decode b_Fil_passByte 44 = .ok (.putfield 34, 3) := by decide +kernel
theorem d_Fil_passByte_47 : decode b_Fil_passByte 47 = .ok (.iconst (1), 1) := by decide +kernel
theorem d_Fil_passByte_48 : decode b_Fil_passByte 48 = .ok (.ireturn, 1) := by decide +kernel
def q_Fil_passByte (i_least : Int32) (i_most : Int32) (f_bytes : Nat → Int32) (f_length : Int32) (f_place : Int32) : Option (Int32 × Int32) := ((q_Fil_has f_place f_length).bind fun z1 => (if z1 = 0 then some ((0 : Int32), f_place) else ((q_Fil_at f_place f_bytes f_length).bind fun z2 => (if z2 < i_least then some ((0 : Int32), f_place) else ((q_Fil_at f_place f_bytes f_length).bind fun z3 => (if z3 ≤ i_most then some ((1 : Int32), f_place + (1 : Int32)) else some ((0 : Int32), f_place)))))))
abbrev rm_Fil_passByte : Room := { frames := 2, cells := 0, slots := 0, locals := 42 }
set_option maxHeartbeats 4000000 in
set_option maxRecDepth 100000 in
theorem c_Fil_passByte (l : Launch) (dC : Nat → ClassId) (dI : Nat → Nat → Nat) (f_0 f_bytes_a f_starts_a f_ends_a : Nat) (f_bytes_k f_starts_k f_ends_k : ClassId) (i_least : Int32) (i_most : Int32) (f_bytes : Nat → Int32) (f_starts : Nat → Int32) (f_ends : Nat → Int32) (f_length : Int32) (f_wide : Int32) (f_high : Int32) (f_layerCount : Int32) (f_place : Int32) (z : Int32 × Int32)  (hq : q_Fil_passByte i_least i_most f_bytes f_length f_place = some z) (sz : Nat) : MetI l y_Fil_passByte b_Fil_passByte 3 .boolean TT rm_Fil_passByte (dC, dI) vcl [(f_bytes_k, .int), (f_starts_k, .int), (f_ends_k, .int)] (W_F f_0 f_bytes_a f_starts_a f_ends_a f_bytes_k f_starts_k f_ends_k f_bytes f_starts f_ends f_length f_wide f_high f_layerCount f_place) (W_F f_0 f_bytes_a f_starts_a f_ends_a f_bytes_k f_starts_k f_ends_k f_bytes f_starts f_ends f_length f_wide f_high f_layerCount z.2) [.ref f_0, .int i_least, .int i_most] z.1 sz := by
  refine x_ofI (by decide) (Nat.le_of_ble_eq_true rfl) ?_ sz
  intro p e s m args below meth c A Q ls hx hb hml hown hts hA hG hK hP hD hS hl hret
  have hown : s.vm.findClass R_Fil = some m.cls := hown
  have hl : lv_has ls 3 [(0, .ref f_0), (1, .int i_least), (2, .int i_most)] := hl
  obtain ⟨⟨tq, hZ, hTq⟩, hN⟩ := id hG
  obtain ⟨H, hH⟩ : ∃ H, H = s.heap := ⟨_, rfl⟩
  obtain ⟨locs, hlocs⟩ : ∃ locs : List Loc, locs = [] := ⟨_, rfl⟩
  rw [← hH] at hP
  have hS : va_S A s.heap H locs := by rw [hH, hlocs]; exact hS
  suffices hgo : W p l e rm_Fil_passByte s m args below meth c H locs 0 0 Q (F0 m 0 ls []) by rw [hH, hlocs] at hgo; exact hgo
  unfold q_Fil_passByte at hq
  have h := hq
  refine lv_aload_n hx hb d_Fil_passByte_0 rfl (lv_at hl 0 rfl) ?_
  refine lv_aload_n hx hb d_Fil_passByte_1 rfl (lv_at hl 0 rfl) ?_
  refine va_get (D := (dC, dI)) (ci := 2) (v := .int f_place) (C := R_Fil) (T := F_Fil) (N := 8) hx hb hts in_Fil hown hK hP 0 rfl rfl 7 (by decide) (hts _ tt111) (fun _ h9 => h9) rfl d_Fil_passByte_2 ?_
  obtain ⟨z1, hz1, h⟩ := ob h
  refine x_goI (res := z1) (w1 := (W_F f_0 f_bytes_a f_starts_a f_ends_a f_bytes_k f_starts_k f_ends_k f_bytes f_starts f_ends f_length f_wide f_high f_layerCount f_place)) (ws' := (W_F f_0 f_bytes_a f_starts_a f_ends_a f_bytes_k f_starts_k f_ends_k f_bytes f_starts f_ends f_length f_wide f_high f_layerCount f_place)) (wr := List.filterMap (fun (i : Nat) => (W_F f_0 f_bytes_a f_starts_a f_ends_a f_bytes_k f_starts_k f_ends_k f_bytes f_starts f_ends f_length f_wide f_high f_layerCount f_place)[i]?) ([] : List Nat)) (va_runV (As := [.int f_place]) (rest := []) ⟨hx, hb, hml, hown, hts⟩ (c_Fil_has l dC dI f_0 f_bytes_a f_starts_a f_ends_a f_bytes_k f_starts_k f_ends_k f_place f_bytes f_starts f_ends f_length f_wide f_high f_layerCount f_place z1  hz1 H.size) ⟨callB_of 1 hts (gT tt545 TT_good) rfl rfl rfl (hts _ tt47) (hts _ tt542) (by decide +kernel) ⟨Nat.le_of_ble_eq_true rfl, Nat.le_of_ble_eq_true rfl⟩, hts _ tt543, hts _ tt544⟩ (x_preV (q := (R_Fil, F_Fil, 8)) (As := [.int f_place]) (x_pre (wc := (W_F f_0 f_bytes_a f_starts_a f_ends_a f_bytes_k f_starts_k f_ends_k f_bytes f_starts f_ends f_length f_wide f_high f_layerCount f_place)) (av := (.ref f_0 :: [.int f_place])) hK hP hD hS hA hG [0, 1, 2] [0, 1, 2, 3] rfl rfl (by decide)) hK hP (q0 := 0) rfl rfl) rfl rfl hl.1 rfl (lv_room (Nat.le_of_ble_eq_true rfl)) d_Fil_passByte_5 ⟨Nat.zero_le _, Nat.zero_le _⟩) hP hD hS hA [0, 1, 2, 3] [] [0, 1, 2, 3] rfl rfl (by decide) (by decide) (by decide) rfl (fun H locs hP hD hS => ?_)
  refine lv_if_eq (tgt := 35) hx hb d_Fil_passByte_8 rfl (fun hc => ?_) (fun hc => ?_)
  · replace h := ot hc h
    refine lv_iconst (v := (0 : Int32)) hx hb d_Fil_passByte_35 (by decide) ?_
    obtain rfl := Option.some.inj h
    exact hret H locs 36 ls d_Fil_passByte_36 narrow_b0 hP hD hS
  · replace h := of hc h
    refine lv_aload_n hx hb d_Fil_passByte_11 rfl (lv_at hl 0 rfl) ?_
    refine lv_aload_n hx hb d_Fil_passByte_12 rfl (lv_at hl 0 rfl) ?_
    refine va_get (D := (dC, dI)) (ci := 2) (v := .int f_place) (C := R_Fil) (T := F_Fil) (N := 8) hx hb hts in_Fil hown hK hP 0 rfl rfl 7 (by decide) (hts _ tt111) (fun _ h9 => h9) rfl d_Fil_passByte_13 ?_
    obtain ⟨z2, hz2, h⟩ := ob h
    refine x_goI (res := z2) (w1 := (W_F f_0 f_bytes_a f_starts_a f_ends_a f_bytes_k f_starts_k f_ends_k f_bytes f_starts f_ends f_length f_wide f_high f_layerCount f_place)) (ws' := (W_F f_0 f_bytes_a f_starts_a f_ends_a f_bytes_k f_starts_k f_ends_k f_bytes f_starts f_ends f_length f_wide f_high f_layerCount f_place)) (wr := List.filterMap (fun (i : Nat) => (W_F f_0 f_bytes_a f_starts_a f_ends_a f_bytes_k f_starts_k f_ends_k f_bytes f_starts f_ends f_length f_wide f_high f_layerCount f_place)[i]?) ([] : List Nat)) (va_runV (As := [.int f_place]) (rest := []) ⟨hx, hb, hml, hown, hts⟩ (c_Fil_at l dC dI f_0 f_bytes_a f_starts_a f_ends_a f_bytes_k f_starts_k f_ends_k f_place f_bytes f_starts f_ends f_length f_wide f_high f_layerCount f_place z2  hz2 H.size) ⟨callB_of 1 hts (gT tt549 TT_good) rfl rfl rfl (hts _ tt47) (hts _ tt546) (by decide +kernel) ⟨Nat.le_of_ble_eq_true rfl, Nat.le_of_ble_eq_true rfl⟩, hts _ tt547, hts _ tt548⟩ (x_preV (q := (R_Fil, F_Fil, 8)) (As := [.int f_place]) (x_pre (wc := (W_F f_0 f_bytes_a f_starts_a f_ends_a f_bytes_k f_starts_k f_ends_k f_bytes f_starts f_ends f_length f_wide f_high f_layerCount f_place)) (av := (.ref f_0 :: [.int f_place])) hK hP hD hS hA hG [0, 1, 2] [0, 1, 2, 3] rfl rfl (by decide)) hK hP (q0 := 0) rfl rfl) rfl rfl hl.1 rfl (lv_room (Nat.le_of_ble_eq_true rfl)) d_Fil_passByte_16 ⟨Nat.zero_le _, Nat.zero_le _⟩) hP hD hS hA [0, 1, 2, 3] [] [0, 1, 2, 3] rfl rfl (by decide) (by decide) (by decide) rfl (fun H locs hP hD hS => ?_)
    refine lv_iload_n hx hb d_Fil_passByte_19 rfl (lv_at hl 1 rfl) ?_
    refine lv_icmp_lt (tgt := 35) hx hb d_Fil_passByte_20 rfl (fun hc => ?_) (fun hc => ?_)
    · replace h := ot hc h
      refine lv_iconst (v := (0 : Int32)) hx hb d_Fil_passByte_35 (by decide) ?_
      obtain rfl := Option.some.inj h
      exact hret H locs 36 ls d_Fil_passByte_36 narrow_b0 hP hD hS
    · replace h := of hc h
      refine lv_aload_n hx hb d_Fil_passByte_23 rfl (lv_at hl 0 rfl) ?_
      refine lv_aload_n hx hb d_Fil_passByte_24 rfl (lv_at hl 0 rfl) ?_
      refine va_get (D := (dC, dI)) (ci := 2) (v := .int f_place) (C := R_Fil) (T := F_Fil) (N := 8) hx hb hts in_Fil hown hK hP 0 rfl rfl 7 (by decide) (hts _ tt111) (fun _ h9 => h9) rfl d_Fil_passByte_25 ?_
      obtain ⟨z3, hz3, h⟩ := ob h
      refine x_goI (res := z3) (w1 := (W_F f_0 f_bytes_a f_starts_a f_ends_a f_bytes_k f_starts_k f_ends_k f_bytes f_starts f_ends f_length f_wide f_high f_layerCount f_place)) (ws' := (W_F f_0 f_bytes_a f_starts_a f_ends_a f_bytes_k f_starts_k f_ends_k f_bytes f_starts f_ends f_length f_wide f_high f_layerCount f_place)) (wr := List.filterMap (fun (i : Nat) => (W_F f_0 f_bytes_a f_starts_a f_ends_a f_bytes_k f_starts_k f_ends_k f_bytes f_starts f_ends f_length f_wide f_high f_layerCount f_place)[i]?) ([] : List Nat)) (va_runV (As := [.int f_place]) (rest := []) ⟨hx, hb, hml, hown, hts⟩ (c_Fil_at l dC dI f_0 f_bytes_a f_starts_a f_ends_a f_bytes_k f_starts_k f_ends_k f_place f_bytes f_starts f_ends f_length f_wide f_high f_layerCount f_place z3  hz3 H.size) ⟨callB_of 1 hts (gT tt549 TT_good) rfl rfl rfl (hts _ tt47) (hts _ tt546) (by decide +kernel) ⟨Nat.le_of_ble_eq_true rfl, Nat.le_of_ble_eq_true rfl⟩, hts _ tt547, hts _ tt548⟩ (x_preV (q := (R_Fil, F_Fil, 8)) (As := [.int f_place]) (x_pre (wc := (W_F f_0 f_bytes_a f_starts_a f_ends_a f_bytes_k f_starts_k f_ends_k f_bytes f_starts f_ends f_length f_wide f_high f_layerCount f_place)) (av := (.ref f_0 :: [.int f_place])) hK hP hD hS hA hG [0, 1, 2] [0, 1, 2, 3] rfl rfl (by decide)) hK hP (q0 := 0) rfl rfl) rfl rfl hl.1 rfl (lv_room (Nat.le_of_ble_eq_true rfl)) d_Fil_passByte_28 ⟨Nat.zero_le _, Nat.zero_le _⟩) hP hD hS hA [0, 1, 2, 3] [] [0, 1, 2, 3] rfl rfl (by decide) (by decide) (by decide) rfl (fun H locs hP hD hS => ?_)
      refine lv_iload_n hx hb d_Fil_passByte_31 rfl (lv_at hl 2 rfl) ?_
      refine lv_icmp_le (tgt := 37) hx hb d_Fil_passByte_32 rfl (fun hc => ?_) (fun hc => ?_)
      · replace h := ot hc h
        refine lv_aload_n hx hb d_Fil_passByte_37 rfl (lv_at hl 0 rfl) ?_
        refine lv_dup hx hb d_Fil_passByte_38 rfl ?_
        refine va_get (D := (dC, dI)) (ci := 2) (v := .int f_place) (C := R_Fil) (T := F_Fil) (N := 8) hx hb hts in_Fil hown hK hP 0 rfl rfl 7 (by decide) (hts _ tt111) (fun _ h9 => h9) rfl d_Fil_passByte_39 ?_
        refine lv_iconst (v := (1 : Int32)) hx hb d_Fil_passByte_42 (by decide) ?_
        refine lv_iadd hx hb d_Fil_passByte_43 ?_
        refine va_put (D := (dC, dI)) (ci := 2) (v := .int (f_place + (1 : Int32))) (ty := .int) (C := R_Fil) (T := F_Fil) (N := 8) hx hb hts in_Fil t_Fil t_Fil_ok n_Fil hown hK hP hD hS 0 rfl rfl 7 (by decide) (hts _ tt111) (fun _ h9 => h9) rfl (by decide +kernel) rfl rfl (Nat.le_of_ble_eq_true rfl) d_Fil_passByte_44 (fun H locs hP hD hS => ?_)
        have hP : va_P (dC, dI) vcl (W_F f_0 f_bytes_a f_starts_a f_ends_a f_bytes_k f_starts_k f_ends_k f_bytes f_starts f_ends f_length f_wide f_high f_layerCount (f_place + (1 : Int32))) H := hP
        have hD : va_D A (W_F f_0 f_bytes_a f_starts_a f_ends_a f_bytes_k f_starts_k f_ends_k f_bytes f_starts f_ends f_length f_wide f_high f_layerCount (f_place + (1 : Int32))) := hD
        refine lv_iconst (v := (1 : Int32)) hx hb d_Fil_passByte_47 (by decide) ?_
        obtain rfl := Option.some.inj h
        exact hret H locs 48 ls d_Fil_passByte_48 narrow_b1 hP hD hS
      · replace h := of hc h
        refine lv_iconst (v := (0 : Int32)) hx hb d_Fil_passByte_35 (by decide) ?_
        obtain rfl := Option.some.inj h
        exact hret H locs 36 ls d_Fil_passByte_36 narrow_b0 hP hD hS
theorem d_Fil_passAllRemarks_0 : decode b_Fil_passAllRemarks 0 = .ok (.iconst (0), 1) := by decide +kernel
theorem d_Fil_passAllRemarks_1 : decode b_Fil_passAllRemarks 1 = .ok (.istore_n 1, 1) := by decide +kernel
theorem d_Fil_passAllRemarks_2 : decode b_Fil_passAllRemarks 2 = .ok (.iload_n 1, 1) := by decide +kernel
theorem d_Fil_passAllRemarks_3 : decode b_Fil_passAllRemarks 3 = .ok (.sipush (900), 3) := by decide +kernel
theorem d_Fil_passAllRemarks_6 : decode b_Fil_passAllRemarks 6 = .ok (.if_icmp .ge (77), 3) := by decide +kernel
theorem d_Fil_passAllRemarks_9 : decode b_Fil_passAllRemarks 9 = .ok (.aload_n 0, 1) := by decide +kernel
theorem d_Fil_passAllRemarks_10 : decode b_Fil_passAllRemarks 10 = .ok (.invokevirtual 59, 3) := by decide +kernel
theorem d_Fil_passAllRemarks_13 : decode b_Fil_passAllRemarks 13 = .ok (.ifCond .eq (70), 3) := by decide +kernel
theorem d_Fil_passAllRemarks_16 : decode b_Fil_passAllRemarks 16 = .ok (.aload_n 0, 1) := by decide +kernel
theorem d_Fil_passAllRemarks_17 : decode b_Fil_passAllRemarks 17 = .ok (.dup, 1) := by decide +kernel
theorem d_Fil_passAllRemarks_18 : decode b_Fil_passAllRemarks 18 = .ok (.getfield 34, 3) := by decide +kernel
theorem d_Fil_passAllRemarks_21 : decode b_Fil_passAllRemarks 21 = .ok (.iconst (2), 1) := by decide +kernel
theorem d_Fil_passAllRemarks_22 : decode b_Fil_passAllRemarks 22 = .ok (.iadd, 1) := by decide +kernel
theorem d_Fil_passAllRemarks_23 : decode b_Fil_passAllRemarks 23 = .ok (.putfield 34, 3) := by decide +kernel
theorem d_Fil_passAllRemarks_26 : decode b_Fil_passAllRemarks 26 = .ok (.aload_n 0, 1) := by decide +kernel
theorem d_Fil_passAllRemarks_27 : decode b_Fil_passAllRemarks 27 = .ok (.aload_n 0, 1) := by decide +kernel
theorem d_Fil_passAllRemarks_28 : decode b_Fil_passAllRemarks 28 = .ok (.getfield 34, 3) := by decide +kernel
theorem d_Fil_passAllRemarks_31 : decode b_Fil_passAllRemarks 31 = .ok (.invokevirtual 37, 3) := by decide +kernel
theorem d_Fil_passAllRemarks_34 : decode b_Fil_passAllRemarks 34 = .ok (.ifCond .ne (5), 3) := by decide +kernel
theorem d_Fil_passAllRemarks_37 : decode b_Fil_passAllRemarks 37 = .ok (.iconst (0), 1) := by decide +kernel
theorem d_Fil_passAllRemarks_38 : decode b_Fil_passAllRemarks 38 = .ok (.ireturn, 1) := by decide +kernel
theorem d_Fil_passAllRemarks_39 : decode b_Fil_passAllRemarks 39 = .ok (.aload_n 0, 1) := by decide +kernel
theorem d_Fil_passAllRemarks_40 : decode b_Fil_passAllRemarks 40 = .ok (.getfield 34, 3) := by decide +kernel
theorem d_Fil_passAllRemarks_43 : decode b_Fil_passAllRemarks 43 = .ok (.iconst (1), 1) := by decide +kernel
theorem d_Fil_passAllRemarks_44 : decode b_Fil_passAllRemarks 44 = .ok (.iadd, 1) := by decide +kernel
theorem d_Fil_passAllRemarks_45 : decode b_Fil_passAllRemarks 45 = .ok (.aload_n 0, 1) := by decide +kernel
theorem d_Fil_passAllRemarks_46 : decode b_Fil_passAllRemarks 46 = .ok (.aload_n 0, 1) := by decide +kernel
theorem d_Fil_passAllRemarks_47 : decode b_Fil_passAllRemarks 47 = .ok (.getfield 34, 3) := by decide +kernel
theorem d_Fil_passAllRemarks_50 : decode b_Fil_passAllRemarks 50 = .ok (.invokevirtual 52, 3) := by decide +kernel
theorem d_Fil_passAllRemarks_53 : decode b_Fil_passAllRemarks 53 = .ok (.iadd, 1) := by decide +kernel
theorem d_Fil_passAllRemarks_54 : decode b_Fil_passAllRemarks 54 = .ok (.istore_n 2, 1) := by decide +kernel
theorem d_Fil_passAllRemarks_55 : decode b_Fil_passAllRemarks 55 = .ok (.aload_n 0, 1) := by decide +kernel
theorem d_Fil_passAllRemarks_56 : decode b_Fil_passAllRemarks 56 = .ok (.iload_n 2, 1) := by decide +kernel
theorem d_Fil_passAllRemarks_57 : decode b_Fil_passAllRemarks 57 = .ok (.aload_n 0, 1) := by decide +kernel
theorem d_Fil_passAllRemarks_58 : decode b_Fil_passAllRemarks 58 = .ok (.getfield 21, 3) := by decide +kernel
theorem d_Fil_passAllRemarks_61 : decode b_Fil_passAllRemarks 61 = .ok (.invokestatic 62, 3) := by decide +kernel
theorem d_Fil_passAllRemarks_64 : decode b_Fil_passAllRemarks 64 = .ok (.putfield 34, 3) := by decide +kernel
theorem d_Fil_passAllRemarks_67 : decode b_Fil_passAllRemarks 67 = .ok (.aload_n 0, 1) := by decide +kernel
theorem d_Fil_passAllRemarks_68 : decode b_Fil_passAllRemarks 68 = .ok (.getfield 34, 3) := by decide +kernel
theorem d_Fil_passAllRemarks_71 : decode b_Fil_passAllRemarks 71 = .ok (.iload_n 2, 1) := by decide +kernel
theorem d_Fil_passAllRemarks_72 : decode b_Fil_passAllRemarks 72 = .ok (.if_icmp .ge (5), 3) := by decide +kernel
theorem d_Fil_passAllRemarks_75 : decode b_Fil_passAllRemarks 75 = .ok (.iconst (0), 1) := by decide +kernel
theorem d_Fil_passAllRemarks_76 : decode b_Fil_passAllRemarks 76 = .ok (.ireturn, 1) := by decide +kernel
theorem d_Fil_passAllRemarks_77 : decode b_Fil_passAllRemarks 77 = .ok (.iinc 1 (1), 3) := by decide +kernel
theorem d_Fil_passAllRemarks_80 : decode b_Fil_passAllRemarks 80 = .ok (.goto (-78), 3) := by decide +kernel
theorem d_Fil_passAllRemarks_83 : decode b_Fil_passAllRemarks 83 = .ok (.iconst (1), 1) := by decide +kernel
theorem d_Fil_passAllRemarks_84 : decode b_Fil_passAllRemarks 84 = .ok (.ireturn, 1) := by decide +kernel
def q_Fil_passAllRemarks_2 (f_bytes : Nat → Int32) (f_length : Int32)  : Nat → Int32 → Int32 → Option (Int32 × Int32)
  | 0, _, _ => none
  | n + 1, x1_2, f_place_2 => (if (900 : Int32) ≤ x1_2 then some ((1 : Int32), f_place_2) else ((q_Fil_remarksAreNext f_bytes f_length f_place_2).bind fun z1 => (if z1 = 0 then some ((1 : Int32), f_place_2) else ((q_Fil_has (f_place_2 + (2 : Int32)) f_length).bind fun z2 => (if z2 = 0 then some ((0 : Int32), f_place_2 + (2 : Int32)) else ((q_Fil_at (f_place_2 + (2 : Int32)) f_bytes f_length).bind fun z3 => (if (((f_place_2 + (2 : Int32)) + (1 : Int32)) + z3) ≤ (if f_length < ((f_place_2 + (2 : Int32)) + (1 : Int32)) + z3 then f_length else ((f_place_2 + (2 : Int32)) + (1 : Int32)) + z3) then (q_Fil_passAllRemarks_2 f_bytes f_length n (x1_2 + (1 : Int32)) (if f_length < ((f_place_2 + (2 : Int32)) + (1 : Int32)) + z3 then f_length else ((f_place_2 + (2 : Int32)) + (1 : Int32)) + z3)) else some ((0 : Int32), (if f_length < ((f_place_2 + (2 : Int32)) + (1 : Int32)) + z3 then f_length else ((f_place_2 + (2 : Int32)) + (1 : Int32)) + z3)))))))))
def q_Fil_passAllRemarks  (f_bytes : Nat → Int32) (f_length : Int32) (f_place : Int32) : Option (Int32 × Int32) := (q_Fil_passAllRemarks_2 f_bytes f_length  5000 (0 : Int32) f_place)
abbrev rm_Fil_passAllRemarks : Room := { frames := 3, cells := 0, slots := 0, locals := 62 }
set_option maxHeartbeats 4000000 in
set_option maxRecDepth 100000 in
theorem c_Fil_passAllRemarks (l : Launch) (dC : Nat → ClassId) (dI : Nat → Nat → Nat) (f_0 f_bytes_a f_starts_a f_ends_a : Nat) (f_bytes_k f_starts_k f_ends_k : ClassId)  (f_bytes : Nat → Int32) (f_starts : Nat → Int32) (f_ends : Nat → Int32) (f_length : Int32) (f_wide : Int32) (f_high : Int32) (f_layerCount : Int32) (f_place : Int32) (z : Int32 × Int32)  (hq : q_Fil_passAllRemarks f_bytes f_length f_place = some z) (sz : Nat) : MetI l y_Fil_passAllRemarks b_Fil_passAllRemarks 3 .boolean TT rm_Fil_passAllRemarks (dC, dI) vcl [(f_bytes_k, .int), (f_starts_k, .int), (f_ends_k, .int)] (W_F f_0 f_bytes_a f_starts_a f_ends_a f_bytes_k f_starts_k f_ends_k f_bytes f_starts f_ends f_length f_wide f_high f_layerCount f_place) (W_F f_0 f_bytes_a f_starts_a f_ends_a f_bytes_k f_starts_k f_ends_k f_bytes f_starts f_ends f_length f_wide f_high f_layerCount z.2) [.ref f_0] z.1 sz := by
  refine x_ofI (by decide) (Nat.le_of_ble_eq_true rfl) ?_ sz
  intro p e s m args below meth c A Q ls hx hb hml hown hts hA hG hK hP hD hS hl hret
  have hown : s.vm.findClass R_Fil = some m.cls := hown
  have hl : lv_has ls 3 [(0, .ref f_0)] := hl
  obtain ⟨⟨tq, hZ, hTq⟩, hN⟩ := id hG
  obtain ⟨H, hH⟩ : ∃ H, H = s.heap := ⟨_, rfl⟩
  obtain ⟨locs, hlocs⟩ : ∃ locs : List Loc, locs = [] := ⟨_, rfl⟩
  rw [← hH] at hP
  have hS : va_S A s.heap H locs := by rw [hH, hlocs]; exact hS
  suffices hgo : W p l e rm_Fil_passAllRemarks s m args below meth c H locs 0 0 Q (F0 m 0 ls []) by rw [hH, hlocs] at hgo; exact hgo
  unfold q_Fil_passAllRemarks at hq
  have L2 : ∀ (n2 : Nat) (x1_2 : Int32) (f_place_2 : Int32) (H : Heap) (locs : List Loc) (ls : Array Slot), lv_has ls 3 [(0, .ref f_0), (1, .int x1_2)] → va_P (dC, dI) vcl (W_F f_0 f_bytes_a f_starts_a f_ends_a f_bytes_k f_starts_k f_ends_k f_bytes f_starts f_ends f_length f_wide f_high f_layerCount f_place_2) H → va_D A (W_F f_0 f_bytes_a f_starts_a f_ends_a f_bytes_k f_starts_k f_ends_k f_bytes f_starts f_ends f_length f_wide f_high f_layerCount f_place_2) → va_S A s.heap H locs → q_Fil_passAllRemarks_2 f_bytes f_length  n2 x1_2 f_place_2 = some z → W p l e rm_Fil_passAllRemarks s m args below meth c H locs 0 0 Q (F0 m 2 ls []) := by
    intro n2
    induction n2 with
    | zero =>
      intro x1_2 f_place_2 H locs ls hl hP hD hS hq
      rw [q_Fil_passAllRemarks_2] at hq
      cases hq
    | succ n2 ih2 =>
      intro x1_2 f_place_2 H locs ls hl hP hD hS hq2
      rw [q_Fil_passAllRemarks_2] at hq2
      have h := hq2
      refine lv_iload_n hx hb d_Fil_passAllRemarks_2 rfl (lv_at hl 1 rfl) ?_
      refine lv_sipush (v := (900 : Int32)) hx hb d_Fil_passAllRemarks_3 (by decide) ?_
      refine lv_icmp_ge (tgt := 83) hx hb d_Fil_passAllRemarks_6 rfl (fun hc => ?_) (fun hc => ?_)
      · replace h := ot hc h
        refine lv_iconst (v := (1 : Int32)) hx hb d_Fil_passAllRemarks_83 (by decide) ?_
        obtain rfl := Option.some.inj h
        exact hret H locs 84 ls d_Fil_passAllRemarks_84 narrow_b1 hP hD hS
      · replace h := of hc h
        refine lv_aload_n hx hb d_Fil_passAllRemarks_9 rfl (lv_at hl 0 rfl) ?_
        obtain ⟨z1, hz1, h⟩ := ob h
        refine x_goI (res := z1) (w1 := (W_F f_0 f_bytes_a f_starts_a f_ends_a f_bytes_k f_starts_k f_ends_k f_bytes f_starts f_ends f_length f_wide f_high f_layerCount f_place_2)) (ws' := (W_F f_0 f_bytes_a f_starts_a f_ends_a f_bytes_k f_starts_k f_ends_k f_bytes f_starts f_ends f_length f_wide f_high f_layerCount f_place_2)) (wr := List.filterMap (fun (i : Nat) => (W_F f_0 f_bytes_a f_starts_a f_ends_a f_bytes_k f_starts_k f_ends_k f_bytes f_starts f_ends f_length f_wide f_high f_layerCount f_place_2)[i]?) ([] : List Nat)) (va_runV (As := []) (rest := []) ⟨hx, hb, hml, hown, hts⟩ (c_Fil_remarksAreNext l dC dI f_0 f_bytes_a f_starts_a f_ends_a f_bytes_k f_starts_k f_ends_k  f_bytes f_starts f_ends f_length f_wide f_high f_layerCount f_place_2 z1  hz1 H.size) ⟨callB_of 0 hts (gT tt561 TT_good) rfl rfl rfl (hts _ tt47) (hts _ tt558) (by decide +kernel) ⟨Nat.le_of_ble_eq_true rfl, Nat.le_of_ble_eq_true rfl⟩, hts _ tt560, hts _ tt17⟩ (x_preV (q := (R_Fil, F_Fil, 8)) (As := []) (x_pre (wc := (W_F f_0 f_bytes_a f_starts_a f_ends_a f_bytes_k f_starts_k f_ends_k f_bytes f_starts f_ends f_length f_wide f_high f_layerCount f_place_2)) (av := (.ref f_0 :: [])) hK hP hD hS hA hG [0, 1, 2] [0, 1, 2, 3] rfl rfl (by decide)) hK hP (q0 := 0) rfl rfl) rfl rfl hl.1 rfl (lv_room (Nat.le_of_ble_eq_true rfl)) d_Fil_passAllRemarks_10 ⟨Nat.zero_le _, Nat.zero_le _⟩) hP hD hS hA [0, 1, 2, 3] [] [0, 1, 2, 3] rfl rfl (by decide) (by decide) (by decide) rfl (fun H locs hP hD hS => ?_)
        refine lv_if_eq (tgt := 83) hx hb d_Fil_passAllRemarks_13 rfl (fun hc => ?_) (fun hc => ?_)
        · replace h := ot hc h
          refine lv_iconst (v := (1 : Int32)) hx hb d_Fil_passAllRemarks_83 (by decide) ?_
          obtain rfl := Option.some.inj h
          exact hret H locs 84 ls d_Fil_passAllRemarks_84 narrow_b1 hP hD hS
        · replace h := of hc h
          refine lv_aload_n hx hb d_Fil_passAllRemarks_16 rfl (lv_at hl 0 rfl) ?_
          refine lv_dup hx hb d_Fil_passAllRemarks_17 rfl ?_
          refine va_get (D := (dC, dI)) (ci := 2) (v := .int f_place_2) (C := R_Fil) (T := F_Fil) (N := 8) hx hb hts in_Fil hown hK hP 0 rfl rfl 7 (by decide) (hts _ tt111) (fun _ h9 => h9) rfl d_Fil_passAllRemarks_18 ?_
          refine lv_iconst (v := (2 : Int32)) hx hb d_Fil_passAllRemarks_21 (by decide) ?_
          refine lv_iadd hx hb d_Fil_passAllRemarks_22 ?_
          refine va_put (D := (dC, dI)) (ci := 2) (v := .int (f_place_2 + (2 : Int32))) (ty := .int) (C := R_Fil) (T := F_Fil) (N := 8) hx hb hts in_Fil t_Fil t_Fil_ok n_Fil hown hK hP hD hS 0 rfl rfl 7 (by decide) (hts _ tt111) (fun _ h9 => h9) rfl (by decide +kernel) rfl rfl (Nat.le_of_ble_eq_true rfl) d_Fil_passAllRemarks_23 (fun H locs hP hD hS => ?_)
          have hP : va_P (dC, dI) vcl (W_F f_0 f_bytes_a f_starts_a f_ends_a f_bytes_k f_starts_k f_ends_k f_bytes f_starts f_ends f_length f_wide f_high f_layerCount (f_place_2 + (2 : Int32))) H := hP
          have hD : va_D A (W_F f_0 f_bytes_a f_starts_a f_ends_a f_bytes_k f_starts_k f_ends_k f_bytes f_starts f_ends f_length f_wide f_high f_layerCount (f_place_2 + (2 : Int32))) := hD
          refine lv_aload_n hx hb d_Fil_passAllRemarks_26 rfl (lv_at hl 0 rfl) ?_
          refine lv_aload_n hx hb d_Fil_passAllRemarks_27 rfl (lv_at hl 0 rfl) ?_
          refine va_get (D := (dC, dI)) (ci := 2) (v := .int (f_place_2 + (2 : Int32))) (C := R_Fil) (T := F_Fil) (N := 8) hx hb hts in_Fil hown hK hP 0 rfl rfl 7 (by decide) (hts _ tt111) (fun _ h9 => h9) rfl d_Fil_passAllRemarks_28 ?_
          obtain ⟨z2, hz2, h⟩ := ob h
          refine x_goI (res := z2) (w1 := (W_F f_0 f_bytes_a f_starts_a f_ends_a f_bytes_k f_starts_k f_ends_k f_bytes f_starts f_ends f_length f_wide f_high f_layerCount (f_place_2 + (2 : Int32)))) (ws' := (W_F f_0 f_bytes_a f_starts_a f_ends_a f_bytes_k f_starts_k f_ends_k f_bytes f_starts f_ends f_length f_wide f_high f_layerCount (f_place_2 + (2 : Int32)))) (wr := List.filterMap (fun (i : Nat) => (W_F f_0 f_bytes_a f_starts_a f_ends_a f_bytes_k f_starts_k f_ends_k f_bytes f_starts f_ends f_length f_wide f_high f_layerCount (f_place_2 + (2 : Int32)))[i]?) ([] : List Nat)) (va_runV (As := [.int (f_place_2 + (2 : Int32))]) (rest := []) ⟨hx, hb, hml, hown, hts⟩ (c_Fil_has l dC dI f_0 f_bytes_a f_starts_a f_ends_a f_bytes_k f_starts_k f_ends_k (f_place_2 + (2 : Int32)) f_bytes f_starts f_ends f_length f_wide f_high f_layerCount (f_place_2 + (2 : Int32)) z2  hz2 H.size) ⟨callB_of 1 hts (gT tt545 TT_good) rfl rfl rfl (hts _ tt47) (hts _ tt542) (by decide +kernel) ⟨Nat.le_of_ble_eq_true rfl, Nat.le_of_ble_eq_true rfl⟩, hts _ tt543, hts _ tt544⟩ (x_preV (q := (R_Fil, F_Fil, 8)) (As := [.int (f_place_2 + (2 : Int32))]) (x_pre (wc := (W_F f_0 f_bytes_a f_starts_a f_ends_a f_bytes_k f_starts_k f_ends_k f_bytes f_starts f_ends f_length f_wide f_high f_layerCount (f_place_2 + (2 : Int32)))) (av := (.ref f_0 :: [.int (f_place_2 + (2 : Int32))])) hK hP hD hS hA hG [0, 1, 2] [0, 1, 2, 3] rfl rfl (by decide)) hK hP (q0 := 0) rfl rfl) rfl rfl hl.1 rfl (lv_room (Nat.le_of_ble_eq_true rfl)) d_Fil_passAllRemarks_31 ⟨Nat.zero_le _, Nat.zero_le _⟩) hP hD hS hA [0, 1, 2, 3] [] [0, 1, 2, 3] rfl rfl (by decide) (by decide) (by decide) rfl (fun H locs hP hD hS => ?_)
          refine lv_if_ne (tgt := 39) hx hb d_Fil_passAllRemarks_34 rfl (fun hc => ?_) (fun hc => ?_)
          · replace h := of hc h
            refine lv_aload_n hx hb d_Fil_passAllRemarks_39 rfl (lv_at hl 0 rfl) ?_
            refine va_get (D := (dC, dI)) (ci := 2) (v := .int (f_place_2 + (2 : Int32))) (C := R_Fil) (T := F_Fil) (N := 8) hx hb hts in_Fil hown hK hP 0 rfl rfl 7 (by decide) (hts _ tt111) (fun _ h9 => h9) rfl d_Fil_passAllRemarks_40 ?_
            refine lv_iconst (v := (1 : Int32)) hx hb d_Fil_passAllRemarks_43 (by decide) ?_
            refine lv_iadd hx hb d_Fil_passAllRemarks_44 ?_
            refine lv_aload_n hx hb d_Fil_passAllRemarks_45 rfl (lv_at hl 0 rfl) ?_
            refine lv_aload_n hx hb d_Fil_passAllRemarks_46 rfl (lv_at hl 0 rfl) ?_
            refine va_get (D := (dC, dI)) (ci := 2) (v := .int (f_place_2 + (2 : Int32))) (C := R_Fil) (T := F_Fil) (N := 8) hx hb hts in_Fil hown hK hP 0 rfl rfl 7 (by decide) (hts _ tt111) (fun _ h9 => h9) rfl d_Fil_passAllRemarks_47 ?_
            obtain ⟨z3, hz3, h⟩ := ob h
            refine x_goI (res := z3) (w1 := (W_F f_0 f_bytes_a f_starts_a f_ends_a f_bytes_k f_starts_k f_ends_k f_bytes f_starts f_ends f_length f_wide f_high f_layerCount (f_place_2 + (2 : Int32)))) (ws' := (W_F f_0 f_bytes_a f_starts_a f_ends_a f_bytes_k f_starts_k f_ends_k f_bytes f_starts f_ends f_length f_wide f_high f_layerCount (f_place_2 + (2 : Int32)))) (wr := List.filterMap (fun (i : Nat) => (W_F f_0 f_bytes_a f_starts_a f_ends_a f_bytes_k f_starts_k f_ends_k f_bytes f_starts f_ends f_length f_wide f_high f_layerCount (f_place_2 + (2 : Int32)))[i]?) ([] : List Nat)) (va_runV (As := [.int (f_place_2 + (2 : Int32))]) (rest := [.int ((f_place_2 + (2 : Int32)) + (1 : Int32))]) ⟨hx, hb, hml, hown, hts⟩ (c_Fil_at l dC dI f_0 f_bytes_a f_starts_a f_ends_a f_bytes_k f_starts_k f_ends_k (f_place_2 + (2 : Int32)) f_bytes f_starts f_ends f_length f_wide f_high f_layerCount (f_place_2 + (2 : Int32)) z3  hz3 H.size) ⟨callB_of 1 hts (gT tt549 TT_good) rfl rfl rfl (hts _ tt47) (hts _ tt546) (by decide +kernel) ⟨Nat.le_of_ble_eq_true rfl, Nat.le_of_ble_eq_true rfl⟩, hts _ tt547, hts _ tt548⟩ (x_preV (q := (R_Fil, F_Fil, 8)) (As := [.int (f_place_2 + (2 : Int32))]) (x_pre (wc := (W_F f_0 f_bytes_a f_starts_a f_ends_a f_bytes_k f_starts_k f_ends_k f_bytes f_starts f_ends f_length f_wide f_high f_layerCount (f_place_2 + (2 : Int32)))) (av := (.ref f_0 :: [.int (f_place_2 + (2 : Int32))])) hK hP hD hS hA hG [0, 1, 2] [0, 1, 2, 3] rfl rfl (by decide)) hK hP (q0 := 0) rfl rfl) rfl rfl hl.1 rfl (lv_room (Nat.le_of_ble_eq_true rfl)) d_Fil_passAllRemarks_50 ⟨Nat.zero_le _, Nat.zero_le _⟩) hP hD hS hA [0, 1, 2, 3] [] [0, 1, 2, 3] rfl rfl (by decide) (by decide) (by decide) rfl (fun H locs hP hD hS => ?_)
            refine lv_iadd hx hb d_Fil_passAllRemarks_53 ?_
            refine lv_istore_n (lv' := [(2, .int (((f_place_2 + (2 : Int32)) + (1 : Int32)) + z3)), (0, .ref f_0), (1, .int x1_2)]) hx hb d_Fil_passAllRemarks_54 rfl hl (by decide) rfl (fun ls hl => ?_)
            refine lv_aload_n hx hb d_Fil_passAllRemarks_55 rfl (lv_at hl 1 rfl) ?_
            refine lv_iload_n hx hb d_Fil_passAllRemarks_56 rfl (lv_at hl 0 rfl) ?_
            refine lv_aload_n hx hb d_Fil_passAllRemarks_57 rfl (lv_at hl 1 rfl) ?_
            refine va_get (D := (dC, dI)) (ci := 2) (v := .int f_length) (C := R_Fil) (T := F_Fil) (N := 8) hx hb hts in_Fil hown hK hP 0 rfl rfl 3 (by decide) (hts _ tt103) (fun _ h9 => h9) rfl d_Fil_passAllRemarks_58 ?_
            refine va_mmin hx hb (hml.trans hl.1.symm) hown (hts _ tt562) (hts _ tt474) (hts _ tt61) (hts _ tt475) (Nat.le_of_ble_eq_true rfl) (Nat.le_of_ble_eq_true rfl) (Nat.zero_le _) (Nat.zero_le _) d_Fil_passAllRemarks_61 ?_
            refine va_put (D := (dC, dI)) (ci := 2) (v := .int (if f_length < ((f_place_2 + (2 : Int32)) + (1 : Int32)) + z3 then f_length else ((f_place_2 + (2 : Int32)) + (1 : Int32)) + z3)) (ty := .int) (C := R_Fil) (T := F_Fil) (N := 8) hx hb hts in_Fil t_Fil t_Fil_ok n_Fil hown hK hP hD hS 0 rfl rfl 7 (by decide) (hts _ tt111) (fun _ h9 => h9) rfl (by decide +kernel) rfl rfl (Nat.le_of_ble_eq_true rfl) d_Fil_passAllRemarks_64 (fun H locs hP hD hS => ?_)
            have hP : va_P (dC, dI) vcl (W_F f_0 f_bytes_a f_starts_a f_ends_a f_bytes_k f_starts_k f_ends_k f_bytes f_starts f_ends f_length f_wide f_high f_layerCount (if f_length < ((f_place_2 + (2 : Int32)) + (1 : Int32)) + z3 then f_length else ((f_place_2 + (2 : Int32)) + (1 : Int32)) + z3)) H := hP
            have hD : va_D A (W_F f_0 f_bytes_a f_starts_a f_ends_a f_bytes_k f_starts_k f_ends_k f_bytes f_starts f_ends f_length f_wide f_high f_layerCount (if f_length < ((f_place_2 + (2 : Int32)) + (1 : Int32)) + z3 then f_length else ((f_place_2 + (2 : Int32)) + (1 : Int32)) + z3)) := hD
            refine lv_aload_n hx hb d_Fil_passAllRemarks_67 rfl (lv_at hl 1 rfl) ?_
            refine va_get (D := (dC, dI)) (ci := 2) (v := .int (if f_length < ((f_place_2 + (2 : Int32)) + (1 : Int32)) + z3 then f_length else ((f_place_2 + (2 : Int32)) + (1 : Int32)) + z3)) (C := R_Fil) (T := F_Fil) (N := 8) hx hb hts in_Fil hown hK hP 0 rfl rfl 7 (by decide) (hts _ tt111) (fun _ h9 => h9) rfl d_Fil_passAllRemarks_68 ?_
            refine lv_iload_n hx hb d_Fil_passAllRemarks_71 rfl (lv_at hl 0 rfl) ?_
            refine lv_icmp_ge (tgt := 77) hx hb d_Fil_passAllRemarks_72 rfl (fun hc => ?_) (fun hc => ?_)
            · replace h := ot hc h
              refine lv_iinc (k := 2) (v := x1_2 + (1 : Int32)) (lv' := [(1, .int (x1_2 + (1 : Int32))), (2, .int (((f_place_2 + (2 : Int32)) + (1 : Int32)) + z3)), (0, .ref f_0)]) hx hb d_Fil_passAllRemarks_77 hl rfl rfl (by decide) rfl (fun ls hl => ?_)
              refine lv_goto (tgt := 2) hx hb d_Fil_passAllRemarks_80 rfl ?_
              exact ih2 (x1_2 + (1 : Int32)) (if f_length < ((f_place_2 + (2 : Int32)) + (1 : Int32)) + z3 then f_length else ((f_place_2 + (2 : Int32)) + (1 : Int32)) + z3) H locs ls (lv_sub hl [2, 0] rfl) hP hD hS h
            · replace h := of hc h
              refine lv_iconst (v := (0 : Int32)) hx hb d_Fil_passAllRemarks_75 (by decide) ?_
              obtain rfl := Option.some.inj h
              exact hret H locs 76 ls d_Fil_passAllRemarks_76 narrow_b0 hP hD hS
          · replace h := ot hc h
            refine lv_iconst (v := (0 : Int32)) hx hb d_Fil_passAllRemarks_37 (by decide) ?_
            obtain rfl := Option.some.inj h
            exact hret H locs 38 ls d_Fil_passAllRemarks_38 narrow_b0 hP hD hS
  have h := hq
  refine lv_iconst (v := (0 : Int32)) hx hb d_Fil_passAllRemarks_0 (by decide) ?_
  refine lv_istore_n (lv' := [(1, .int (0 : Int32)), (0, .ref f_0)]) hx hb d_Fil_passAllRemarks_1 rfl hl (by decide) rfl (fun ls hl => ?_)
  exact L2 5000 (0 : Int32) f_place H locs ls (lv_sub hl [1, 0] rfl) hP hD hS h
theorem d_Fil_passLayer_0 : decode b_Fil_passLayer 0 = .ok (.aload_n 0, 1) := by decide +kernel
theorem d_Fil_passLayer_1 : decode b_Fil_passLayer 1 = .ok (.invokevirtual 56, 3) := by decide +kernel
theorem d_Fil_passLayer_4 : decode b_Fil_passLayer 4 = .ok (.ifCond .ne (5), 3) := by decide +kernel
theorem d_Fil_passLayer_7 : decode b_Fil_passLayer 7 = .ok (.iconst (0), 1) := by decide +kernel
theorem d_Fil_passLayer_8 : decode b_Fil_passLayer 8 = .ok (.ireturn, 1) := by decide +kernel
theorem d_Fil_passLayer_9 : decode b_Fil_passLayer 9 = .ok (.aload_n 0, 1) := by decide +kernel
theorem d_Fil_passLayer_10 : decode b_Fil_passLayer 10 = .ok (.getfield 15, 3) := by decide +kernel
theorem d_Fil_passLayer_13 : decode b_Fil_passLayer 13 = .ok (.iload_n 1, 1) := by decide +kernel
theorem d_Fil_passLayer_14 : decode b_Fil_passLayer 14 = .ok (.aload_n 0, 1) := by decide +kernel
theorem d_Fil_passLayer_15 : decode b_Fil_passLayer 15 = .ok (.getfield 34, 3) := by decide +kernel
theorem d_Fil_passLayer_18 : decode b_Fil_passLayer 18 = .ok (.iastore, 1) := by decide +kernel
theorem d_Fil_passLayer_19 : decode b_Fil_passLayer 19 = .ok (.iconst (0), 1) := by decide +kernel
theorem d_Fil_passLayer_20 : decode b_Fil_passLayer 20 = .ok (.istore_n 2, 1) := by decide +kernel
theorem d_Fil_passLayer_21 : decode b_Fil_passLayer 21 = .ok (.iload_n 2, 1) := by decide +kernel
theorem d_Fil_passLayer_22 : decode b_Fil_passLayer 22 = .ok (.sipush (900), 3) := by decide +kernel
theorem d_Fil_passLayer_25 : decode b_Fil_passLayer 25 = .ok (.if_icmp .ge (92), 3) := by decide +kernel
theorem d_Fil_passLayer_28 : decode b_Fil_passLayer 28 = .ok (.aload_n 0, 1) := by decide +kernel
theorem d_Fil_passLayer_29 : decode b_Fil_passLayer 29 = .ok (.aload_n 0, 1) := by decide +kernel
theorem d_Fil_passLayer_30 : decode b_Fil_passLayer 30 = .ok (.getfield 34, 3) := by decide +kernel
theorem d_Fil_passLayer_33 : decode b_Fil_passLayer 33 = .ok (.invokevirtual 37, 3) := by decide +kernel
theorem d_Fil_passLayer_36 : decode b_Fil_passLayer 36 = .ok (.ifCond .eq (81), 3) := by decide +kernel
theorem d_Fil_passLayer_39 : decode b_Fil_passLayer 39 = .ok (.aload_n 0, 1) := by decide +kernel
theorem d_Fil_passLayer_40 : decode b_Fil_passLayer 40 = .ok (.aload_n 0, 1) := by decide +kernel
theorem d_Fil_passLayer_41 : decode b_Fil_passLayer 41 = .ok (.getfield 34, 3) := by decide +kernel
theorem d_Fil_passLayer_44 : decode b_Fil_passLayer 44 = .ok (.invokevirtual 52, 3) := by decide +kernel
theorem d_Fil_passLayer_47 : decode b_Fil_passLayer 47 = .ok (.sipush (255), 3) := by decide +kernel
theorem d_Fil_passLayer_50 : decode b_Fil_passLayer 50 = .ok (.if_icmp .ne (7), 3) := by decide +kernel
theorem d_Fil_passLayer_53 : decode b_Fil_passLayer 53 = .ok (.iconst (1), 1) := by decide +kernel
theorem d_Fil_passLayer_54 : decode b_Fil_passLayer 54 = .ok (.goto (4), 3) := by decide +kernel
theorem d_Fil_passLayer_57 : decode b_Fil_passLayer 57 = .ok (.iconst (0), 1) := by decide +kernel
theorem d_Fil_passLayer_58 : decode b_Fil_passLayer 58 = .ok (.istore_n 3, 1) := by decide +kernel
theorem d_Fil_passLayer_59 : decode b_Fil_passLayer 59 = .ok (.aload_n 0, 1) := by decide +kernel
theorem d_Fil_passLayer_60 : decode b_Fil_passLayer 60 = .ok (.dup, 1) := by decide +kernel
theorem d_Fil_passLayer_61 : decode b_Fil_passLayer 61 = .ok (.getfield 34, 3) := by decide +kernel
theorem d_Fil_passLayer_64 : decode b_Fil_passLayer 64 = .ok (.iconst (1), 1) := by decide +kernel
theorem d_Fil_passLayer_65 : decode b_Fil_passLayer 65 = .ok (.iadd, 1) := by decide +kernel
theorem d_Fil_passLayer_66 : decode b_Fil_passLayer 66 = .ok (.putfield 34, 3) := by decide +kernel
theorem d_Fil_passLayer_69 : decode b_Fil_passLayer 69 = .ok (.iload_n 3, 1) := by decide +kernel
theorem d_Fil_passLayer_70 : decode b_Fil_passLayer 70 = .ok (.ifCond .eq (26), 3) := by decide +kernel
theorem d_Fil_passLayer_73 : decode b_Fil_passLayer 73 = .ok (.aload_n 0, 1) := by decide +kernel
theorem d_Fil_passLayer_74 : decode b_Fil_passLayer 74 = .ok (.iconst (2), 1) := by decide +kernel
theorem d_Fil_passLayer_75 : decode b_Fil_passLayer 75 = .ok (.iconst (2), 1) := by decide +kernel
theorem d_Fil_passLayer_76 : decode b_Fil_passLayer 76 = .ok (.invokevirtual 48, 3) := by decide +kernel
theorem d_Fil_passLayer_79 : decode b_Fil_passLayer 79 = .ok (.ifCond .eq (17), 3) := by decide +kernel
theorem d_Fil_passLayer_82 : decode b_Fil_passLayer 82 = .ok (.aload_n 0, 1) := by decide +kernel
theorem d_Fil_passLayer_83 : decode b_Fil_passLayer 83 = .ok (.getfield 18, 3) := by decide +kernel
theorem d_Fil_passLayer_86 : decode b_Fil_passLayer 86 = .ok (.iload_n 1, 1) := by decide +kernel
theorem d_Fil_passLayer_87 : decode b_Fil_passLayer 87 = .ok (.aload_n 0, 1) := by decide +kernel
theorem d_Fil_passLayer_88 : decode b_Fil_passLayer 88 = .ok (.getfield 34, 3) := by decide +kernel
theorem d_Fil_passLayer_91 : decode b_Fil_passLayer 91 = .ok (.iconst (2), 1) := by decide +kernel
theorem d_Fil_passLayer_92 : decode b_Fil_passLayer 92 = .ok (.isub, 1) := by decide +kernel
theorem d_Fil_passLayer_93 : decode b_Fil_passLayer 93 = .ok (.iastore, 1) := by decide +kernel
theorem d_Fil_passLayer_94 : decode b_Fil_passLayer 94 = .ok (.iconst (1), 1) := by decide +kernel
theorem d_Fil_passLayer_95 : decode b_Fil_passLayer 95 = .ok (.ireturn, 1) := by decide +kernel
theorem d_Fil_passLayer_96 : decode b_Fil_passLayer 96 = .ok (.iload_n 3, 1) := by decide +kernel
theorem d_Fil_passLayer_97 : decode b_Fil_passLayer 97 = .ok (.ifCond .eq (14), 3) := by decide +kernel
theorem d_Fil_passLayer_100 : decode b_Fil_passLayer 100 = .ok (.aload_n 0, 1) := by decide +kernel
theorem d_Fil_passLayer_101 : decode b_Fil_passLayer 101 = .ok (.iconst (0), 1) := by decide +kernel
theorem d_Fil_passLayer_102 : decode b_Fil_passLayer 102 = .ok (.iconst (0), 1) := by decide +kernel
theorem d_Fil_passLayer_103 : decode b_Fil_passLayer 103 = .ok (.invokevirtual 48, 3) := by decide +kernel
theorem d_Fil_passLayer_106 : decode b_Fil_passLayer 106 = .ok (.ifCond .ne (5), 3) := by decide +kernel
theorem d_Fil_passLayer_109 : decode b_Fil_passLayer 109 = .ok (.iconst (0), 1) := by decide +kernel
theorem d_Fil_passLayer_110 : decode b_Fil_passLayer 110 = .ok (.ireturn, 1) := by decide +kernel
theorem d_Fil_passLayer_111 : decode b_Fil_passLayer 111 = .ok (.iinc 2 (1), 3) := by decide +kernel
theorem d_Fil_passLayer_114 : decode b_Fil_passLayer 114 = .ok (.goto (-93), 3) := by decide +kernel
theorem d_Fil_passLayer_117 : decode b_Fil_passLayer 117 = .ok (.iconst (0), 1) := by decide +kernel
theorem d_Fil_passLayer_118 : decode b_Fil_passLayer 118 = .ok (.ireturn, 1) := by decide +kernel
def q_Fil_passLayer_96 (i_k : Int32) (f_bytes : Nat → Int32) (f_length : Int32) (rec21 : Int32 → (Nat → Int32) → (Nat → Int32) → Int32 → Option (Int32 × (Nat → Int32) × (Nat → Int32) × Int32)) (x2_96 : Int32) (x3_96 : Int32) (f_starts_96 : Nat → Int32) (f_ends_96 : Nat → Int32) (f_place_96 : Int32) : Option (Int32 × (Nat → Int32) × (Nat → Int32) × Int32) := (if x3_96 = 0 then (rec21 (x2_96 + (1 : Int32)) f_starts_96 f_ends_96 f_place_96) else ((q_Fil_passByte (0 : Int32) (0 : Int32) f_bytes f_length f_place_96).bind fun z1 => (if z1.1 = 0 then some ((0 : Int32), f_starts_96, f_ends_96, z1.2) else (rec21 (x2_96 + (1 : Int32)) f_starts_96 f_ends_96 z1.2))))
def q_Fil_passLayer_58 (i_k : Int32) (f_bytes : Nat → Int32) (f_length : Int32) (rec21 : Int32 → (Nat → Int32) → (Nat → Int32) → Int32 → Option (Int32 × (Nat → Int32) × (Nat → Int32) × Int32)) (x2_58 : Int32) (k0_58 : Int32) (f_starts_58 : Nat → Int32) (f_ends_58 : Nat → Int32) (f_place_58 : Int32) : Option (Int32 × (Nat → Int32) × (Nat → Int32) × Int32) := (if k0_58 = 0 then (q_Fil_passLayer_96 i_k f_bytes f_length rec21 x2_58 k0_58 f_starts_58 f_ends_58 (f_place_58 + (1 : Int32))) else ((q_Fil_passByte (2 : Int32) (2 : Int32) f_bytes f_length (f_place_58 + (1 : Int32))).bind fun z2 => (if z2.1 = 0 then (q_Fil_passLayer_96 i_k f_bytes f_length rec21 x2_58 k0_58 f_starts_58 f_ends_58 z2.2) else (if vpb i_k 3 = true then some ((1 : Int32), f_starts_58, upd f_ends_58 i_k.toNatClampNeg (z2.2 - (2 : Int32)), z2.2) else none))))
def q_Fil_passLayer_21 (i_k : Int32) (f_bytes : Nat → Int32) (f_length : Int32)  : Nat → Int32 → (Nat → Int32) → (Nat → Int32) → Int32 → Option (Int32 × (Nat → Int32) × (Nat → Int32) × Int32)
  | 0, _, _, _, _ => none
  | n + 1, x2_21, f_starts_21, f_ends_21, f_place_21 => (if (900 : Int32) ≤ x2_21 then some ((0 : Int32), f_starts_21, f_ends_21, f_place_21) else ((q_Fil_has f_place_21 f_length).bind fun z3 => (if z3 = 0 then some ((0 : Int32), f_starts_21, f_ends_21, f_place_21) else ((q_Fil_at f_place_21 f_bytes f_length).bind fun z4 => (if z4 = (255 : Int32) then (q_Fil_passLayer_58 i_k f_bytes f_length (q_Fil_passLayer_21 i_k f_bytes f_length n) x2_21 (1 : Int32) f_starts_21 f_ends_21 f_place_21) else (q_Fil_passLayer_58 i_k f_bytes f_length (q_Fil_passLayer_21 i_k f_bytes f_length n) x2_21 (0 : Int32) f_starts_21 f_ends_21 f_place_21))))))
def q_Fil_passLayer (i_k : Int32) (f_bytes : Nat → Int32) (f_starts : Nat → Int32) (f_ends : Nat → Int32) (f_length : Int32) (f_place : Int32) : Option (Int32 × (Nat → Int32) × (Nat → Int32) × Int32) := ((q_Fil_passAllRemarks f_bytes f_length f_place).bind fun z5 => (if z5.1 = 0 then some ((0 : Int32), f_starts, f_ends, z5.2) else (if vpb i_k 3 = true then (q_Fil_passLayer_21 i_k f_bytes f_length  5000 (0 : Int32) (upd f_starts i_k.toNatClampNeg z5.2) f_ends z5.2) else none)))
abbrev rm_Fil_passLayer : Room := { frames := 4, cells := 0, slots := 0, locals := 84 }
set_option maxHeartbeats 4000000 in
set_option maxRecDepth 100000 in
theorem c_Fil_passLayer (l : Launch) (dC : Nat → ClassId) (dI : Nat → Nat → Nat) (f_0 f_bytes_a f_starts_a f_ends_a : Nat) (f_bytes_k f_starts_k f_ends_k : ClassId) (i_k : Int32) (f_bytes : Nat → Int32) (f_starts : Nat → Int32) (f_ends : Nat → Int32) (f_length : Int32) (f_wide : Int32) (f_high : Int32) (f_layerCount : Int32) (f_place : Int32) (z : Int32 × (Nat → Int32) × (Nat → Int32) × Int32)  (hq : q_Fil_passLayer i_k f_bytes f_starts f_ends f_length f_place = some z) (sz : Nat) : MetI l y_Fil_passLayer b_Fil_passLayer 4 .boolean TT rm_Fil_passLayer (dC, dI) vcl [(f_bytes_k, .int), (f_starts_k, .int), (f_ends_k, .int)] (W_F f_0 f_bytes_a f_starts_a f_ends_a f_bytes_k f_starts_k f_ends_k f_bytes f_starts f_ends f_length f_wide f_high f_layerCount f_place) (W_F f_0 f_bytes_a f_starts_a f_ends_a f_bytes_k f_starts_k f_ends_k f_bytes z.2.1 z.2.2.1 f_length f_wide f_high f_layerCount z.2.2.2) [.ref f_0, .int i_k] z.1 sz := by
  refine x_ofI (by decide) (Nat.le_of_ble_eq_true rfl) ?_ sz
  intro p e s m args below meth c A Q ls hx hb hml hown hts hA hG hK hP hD hS hl hret
  have hown : s.vm.findClass R_Fil = some m.cls := hown
  have hl : lv_has ls 4 [(0, .ref f_0), (1, .int i_k)] := hl
  obtain ⟨⟨tq, hZ, hTq⟩, hN⟩ := id hG
  obtain ⟨H, hH⟩ : ∃ H, H = s.heap := ⟨_, rfl⟩
  obtain ⟨locs, hlocs⟩ : ∃ locs : List Loc, locs = [] := ⟨_, rfl⟩
  rw [← hH] at hP
  have hS : va_S A s.heap H locs := by rw [hH, hlocs]; exact hS
  suffices hgo : W p l e rm_Fil_passLayer s m args below meth c H locs 0 0 Q (F0 m 0 ls []) by rw [hH, hlocs] at hgo; exact hgo
  unfold q_Fil_passLayer at hq
  have L21 : ∀ (n21 : Nat) (x2_21 : Int32) (f_starts_21 : Nat → Int32) (f_ends_21 : Nat → Int32) (f_place_21 : Int32) (H : Heap) (locs : List Loc) (ls : Array Slot), lv_has ls 4 [(0, .ref f_0), (1, .int i_k), (2, .int x2_21)] → va_P (dC, dI) vcl (W_F f_0 f_bytes_a f_starts_a f_ends_a f_bytes_k f_starts_k f_ends_k f_bytes f_starts_21 f_ends_21 f_length f_wide f_high f_layerCount f_place_21) H → va_D A (W_F f_0 f_bytes_a f_starts_a f_ends_a f_bytes_k f_starts_k f_ends_k f_bytes f_starts_21 f_ends_21 f_length f_wide f_high f_layerCount f_place_21) → va_S A s.heap H locs → q_Fil_passLayer_21 i_k f_bytes f_length  n21 x2_21 f_starts_21 f_ends_21 f_place_21 = some z → W p l e rm_Fil_passLayer s m args below meth c H locs 0 0 Q (F0 m 21 ls []) := by
    intro n21
    induction n21 with
    | zero =>
      intro x2_21 f_starts_21 f_ends_21 f_place_21 H locs ls hl hP hD hS hq
      rw [q_Fil_passLayer_21] at hq
      cases hq
    | succ n21 ih21 =>
      intro x2_21 f_starts_21 f_ends_21 f_place_21 H locs ls hl hP hD hS hq21
      rw [q_Fil_passLayer_21] at hq21
      have L58 : ∀ (x2_58 : Int32) (k0_58 : Int32) (f_starts_58 : Nat → Int32) (f_ends_58 : Nat → Int32) (f_place_58 : Int32) (H : Heap) (locs : List Loc) (ls : Array Slot), lv_has ls 4 [(0, .ref f_0), (1, .int i_k), (2, .int x2_58)] → va_P (dC, dI) vcl (W_F f_0 f_bytes_a f_starts_a f_ends_a f_bytes_k f_starts_k f_ends_k f_bytes f_starts_58 f_ends_58 f_length f_wide f_high f_layerCount f_place_58) H → va_D A (W_F f_0 f_bytes_a f_starts_a f_ends_a f_bytes_k f_starts_k f_ends_k f_bytes f_starts_58 f_ends_58 f_length f_wide f_high f_layerCount f_place_58) → va_S A s.heap H locs → q_Fil_passLayer_58 i_k f_bytes f_length (q_Fil_passLayer_21 i_k f_bytes f_length  n21) x2_58 k0_58 f_starts_58 f_ends_58 f_place_58 = some z → W p l e rm_Fil_passLayer s m args below meth c H locs 0 0 Q (F0 m 58 ls [.int k0_58]) := by
        intro x2_58 k0_58 f_starts_58 f_ends_58 f_place_58 H locs ls hl hP hD hS hq58
        unfold q_Fil_passLayer_58 at hq58
        have L96 : ∀ (x2_96 : Int32) (x3_96 : Int32) (f_starts_96 : Nat → Int32) (f_ends_96 : Nat → Int32) (f_place_96 : Int32) (H : Heap) (locs : List Loc) (ls : Array Slot), lv_has ls 4 [(0, .ref f_0), (1, .int i_k), (2, .int x2_96), (3, .int x3_96)] → va_P (dC, dI) vcl (W_F f_0 f_bytes_a f_starts_a f_ends_a f_bytes_k f_starts_k f_ends_k f_bytes f_starts_96 f_ends_96 f_length f_wide f_high f_layerCount f_place_96) H → va_D A (W_F f_0 f_bytes_a f_starts_a f_ends_a f_bytes_k f_starts_k f_ends_k f_bytes f_starts_96 f_ends_96 f_length f_wide f_high f_layerCount f_place_96) → va_S A s.heap H locs → q_Fil_passLayer_96 i_k f_bytes f_length (q_Fil_passLayer_21 i_k f_bytes f_length  n21) x2_96 x3_96 f_starts_96 f_ends_96 f_place_96 = some z → W p l e rm_Fil_passLayer s m args below meth c H locs 0 0 Q (F0 m 96 ls []) := by
          intro x2_96 x3_96 f_starts_96 f_ends_96 f_place_96 H locs ls hl hP hD hS hq96
          unfold q_Fil_passLayer_96 at hq96
          have h := hq96
          refine lv_iload_n hx hb d_Fil_passLayer_96 rfl (lv_at hl 3 rfl) ?_
          refine lv_if_eq (tgt := 111) hx hb d_Fil_passLayer_97 rfl (fun hc => ?_) (fun hc => ?_)
          · replace h := ot hc h
            refine lv_iinc (k := 2) (v := x2_96 + (1 : Int32)) (lv' := [(2, .int (x2_96 + (1 : Int32))), (0, .ref f_0), (1, .int i_k), (3, .int x3_96)]) hx hb d_Fil_passLayer_111 hl rfl rfl (by decide) rfl (fun ls hl => ?_)
            refine lv_goto (tgt := 21) hx hb d_Fil_passLayer_114 rfl ?_
            exact ih21 (x2_96 + (1 : Int32)) f_starts_96 f_ends_96 f_place_96 H locs ls (lv_sub hl [1, 2, 0] rfl) hP hD hS h
          · replace h := of hc h
            refine lv_aload_n hx hb d_Fil_passLayer_100 rfl (lv_at hl 0 rfl) ?_
            refine lv_iconst (v := (0 : Int32)) hx hb d_Fil_passLayer_101 (by decide) ?_
            refine lv_iconst (v := (0 : Int32)) hx hb d_Fil_passLayer_102 (by decide) ?_
            obtain ⟨z1, hz1, h⟩ := ob h
            refine x_goI (res := z1.1) (w1 := (W_F f_0 f_bytes_a f_starts_a f_ends_a f_bytes_k f_starts_k f_ends_k f_bytes f_starts_96 f_ends_96 f_length f_wide f_high f_layerCount z1.2)) (ws' := (W_F f_0 f_bytes_a f_starts_a f_ends_a f_bytes_k f_starts_k f_ends_k f_bytes f_starts_96 f_ends_96 f_length f_wide f_high f_layerCount z1.2)) (wr := List.filterMap (fun (i : Nat) => (W_F f_0 f_bytes_a f_starts_a f_ends_a f_bytes_k f_starts_k f_ends_k f_bytes f_starts_96 f_ends_96 f_length f_wide f_high f_layerCount f_place_96)[i]?) ([] : List Nat)) (va_runV (As := [.int (0 : Int32), .int (0 : Int32)]) (rest := []) ⟨hx, hb, hml, hown, hts⟩ (c_Fil_passByte l dC dI f_0 f_bytes_a f_starts_a f_ends_a f_bytes_k f_starts_k f_ends_k (0 : Int32) (0 : Int32) f_bytes f_starts_96 f_ends_96 f_length f_wide f_high f_layerCount f_place_96 z1  hz1 H.size) ⟨callB_of 2 hts (gT tt541 TT_good) rfl rfl rfl (hts _ tt47) (hts _ tt538) (by decide +kernel) ⟨Nat.le_of_ble_eq_true rfl, Nat.le_of_ble_eq_true rfl⟩, hts _ tt540, hts _ tt14⟩ (x_preV (q := (R_Fil, F_Fil, 8)) (As := [.int (0 : Int32), .int (0 : Int32)]) (x_pre (wc := (W_F f_0 f_bytes_a f_starts_a f_ends_a f_bytes_k f_starts_k f_ends_k f_bytes f_starts_96 f_ends_96 f_length f_wide f_high f_layerCount f_place_96)) (av := (.ref f_0 :: [.int (0 : Int32), .int (0 : Int32)])) hK hP hD hS hA hG [0, 1, 2] [0, 1, 2, 3] rfl rfl (by decide)) hK hP (q0 := 0) rfl rfl) rfl rfl hl.1 rfl (lv_room (Nat.le_of_ble_eq_true rfl)) d_Fil_passLayer_103 ⟨Nat.zero_le _, Nat.zero_le _⟩) hP hD hS hA [0, 1, 2, 3] [] [0, 1, 2, 3] rfl rfl (by decide) (by decide) (by decide) rfl (fun H locs hP hD hS => ?_)
            refine lv_if_ne (tgt := 111) hx hb d_Fil_passLayer_106 rfl (fun hc => ?_) (fun hc => ?_)
            · replace h := of hc h
              refine lv_iinc (k := 2) (v := x2_96 + (1 : Int32)) (lv' := [(2, .int (x2_96 + (1 : Int32))), (0, .ref f_0), (1, .int i_k), (3, .int x3_96)]) hx hb d_Fil_passLayer_111 hl rfl rfl (by decide) rfl (fun ls hl => ?_)
              refine lv_goto (tgt := 21) hx hb d_Fil_passLayer_114 rfl ?_
              exact ih21 (x2_96 + (1 : Int32)) f_starts_96 f_ends_96 z1.2 H locs ls (lv_sub hl [1, 2, 0] rfl) hP hD hS h
            · replace h := ot hc h
              refine lv_iconst (v := (0 : Int32)) hx hb d_Fil_passLayer_109 (by decide) ?_
              obtain rfl := Option.some.inj h
              exact hret H locs 110 ls d_Fil_passLayer_110 narrow_b0 hP hD hS
        have h := hq58
        refine lv_istore_n (lv' := [(3, .int k0_58), (0, .ref f_0), (1, .int i_k), (2, .int x2_58)]) hx hb d_Fil_passLayer_58 rfl hl (by decide) rfl (fun ls hl => ?_)
        refine lv_aload_n hx hb d_Fil_passLayer_59 rfl (lv_at hl 1 rfl) ?_
        refine lv_dup hx hb d_Fil_passLayer_60 rfl ?_
        refine va_get (D := (dC, dI)) (ci := 2) (v := .int f_place_58) (C := R_Fil) (T := F_Fil) (N := 8) hx hb hts in_Fil hown hK hP 0 rfl rfl 7 (by decide) (hts _ tt111) (fun _ h9 => h9) rfl d_Fil_passLayer_61 ?_
        refine lv_iconst (v := (1 : Int32)) hx hb d_Fil_passLayer_64 (by decide) ?_
        refine lv_iadd hx hb d_Fil_passLayer_65 ?_
        refine va_put (D := (dC, dI)) (ci := 2) (v := .int (f_place_58 + (1 : Int32))) (ty := .int) (C := R_Fil) (T := F_Fil) (N := 8) hx hb hts in_Fil t_Fil t_Fil_ok n_Fil hown hK hP hD hS 0 rfl rfl 7 (by decide) (hts _ tt111) (fun _ h9 => h9) rfl (by decide +kernel) rfl rfl (Nat.le_of_ble_eq_true rfl) d_Fil_passLayer_66 (fun H locs hP hD hS => ?_)
        have hP : va_P (dC, dI) vcl (W_F f_0 f_bytes_a f_starts_a f_ends_a f_bytes_k f_starts_k f_ends_k f_bytes f_starts_58 f_ends_58 f_length f_wide f_high f_layerCount (f_place_58 + (1 : Int32))) H := hP
        have hD : va_D A (W_F f_0 f_bytes_a f_starts_a f_ends_a f_bytes_k f_starts_k f_ends_k f_bytes f_starts_58 f_ends_58 f_length f_wide f_high f_layerCount (f_place_58 + (1 : Int32))) := hD
        refine lv_iload_n hx hb d_Fil_passLayer_69 rfl (lv_at hl 0 rfl) ?_
        refine lv_if_eq (tgt := 96) hx hb d_Fil_passLayer_70 rfl (fun hc => ?_) (fun hc => ?_)
        · replace h := ot hc h
          exact L96 x2_58 k0_58 f_starts_58 f_ends_58 (f_place_58 + (1 : Int32)) H locs ls (lv_sub hl [1, 2, 3, 0] rfl) hP hD hS h
        · replace h := of hc h
          refine lv_aload_n hx hb d_Fil_passLayer_73 rfl (lv_at hl 1 rfl) ?_
          refine lv_iconst (v := (2 : Int32)) hx hb d_Fil_passLayer_74 (by decide) ?_
          refine lv_iconst (v := (2 : Int32)) hx hb d_Fil_passLayer_75 (by decide) ?_
          obtain ⟨z2, hz2, h⟩ := ob h
          refine x_goI (res := z2.1) (w1 := (W_F f_0 f_bytes_a f_starts_a f_ends_a f_bytes_k f_starts_k f_ends_k f_bytes f_starts_58 f_ends_58 f_length f_wide f_high f_layerCount z2.2)) (ws' := (W_F f_0 f_bytes_a f_starts_a f_ends_a f_bytes_k f_starts_k f_ends_k f_bytes f_starts_58 f_ends_58 f_length f_wide f_high f_layerCount z2.2)) (wr := List.filterMap (fun (i : Nat) => (W_F f_0 f_bytes_a f_starts_a f_ends_a f_bytes_k f_starts_k f_ends_k f_bytes f_starts_58 f_ends_58 f_length f_wide f_high f_layerCount (f_place_58 + (1 : Int32)))[i]?) ([] : List Nat)) (va_runV (As := [.int (2 : Int32), .int (2 : Int32)]) (rest := []) ⟨hx, hb, hml, hown, hts⟩ (c_Fil_passByte l dC dI f_0 f_bytes_a f_starts_a f_ends_a f_bytes_k f_starts_k f_ends_k (2 : Int32) (2 : Int32) f_bytes f_starts_58 f_ends_58 f_length f_wide f_high f_layerCount (f_place_58 + (1 : Int32)) z2  hz2 H.size) ⟨callB_of 2 hts (gT tt541 TT_good) rfl rfl rfl (hts _ tt47) (hts _ tt538) (by decide +kernel) ⟨Nat.le_of_ble_eq_true rfl, Nat.le_of_ble_eq_true rfl⟩, hts _ tt540, hts _ tt14⟩ (x_preV (q := (R_Fil, F_Fil, 8)) (As := [.int (2 : Int32), .int (2 : Int32)]) (x_pre (wc := (W_F f_0 f_bytes_a f_starts_a f_ends_a f_bytes_k f_starts_k f_ends_k f_bytes f_starts_58 f_ends_58 f_length f_wide f_high f_layerCount (f_place_58 + (1 : Int32)))) (av := (.ref f_0 :: [.int (2 : Int32), .int (2 : Int32)])) hK hP hD hS hA hG [0, 1, 2] [0, 1, 2, 3] rfl rfl (by decide)) hK hP (q0 := 0) rfl rfl) rfl rfl hl.1 rfl (lv_room (Nat.le_of_ble_eq_true rfl)) d_Fil_passLayer_76 ⟨Nat.zero_le _, Nat.zero_le _⟩) hP hD hS hA [0, 1, 2, 3] [] [0, 1, 2, 3] rfl rfl (by decide) (by decide) (by decide) rfl (fun H locs hP hD hS => ?_)
          refine lv_if_eq (tgt := 96) hx hb d_Fil_passLayer_79 rfl (fun hc => ?_) (fun hc => ?_)
          · replace h := ot hc h
            exact L96 x2_58 k0_58 f_starts_58 f_ends_58 z2.2 H locs ls (lv_sub hl [1, 2, 3, 0] rfl) hP hD hS h
          · replace h := of hc h
            refine lv_aload_n hx hb d_Fil_passLayer_82 rfl (lv_at hl 1 rfl) ?_
            refine va_get (D := (dC, dI)) (ci := 2) (v := .ref f_ends_a) (C := R_Fil) (T := F_Fil) (N := 8) hx hb hts in_Fil hown hK hP 0 rfl rfl 2 (by decide) (hts _ tt101) (fun _ h9 => h9) rfl d_Fil_passLayer_83 ?_
            refine lv_iload_n hx hb d_Fil_passLayer_86 rfl (lv_at hl 2 rfl) ?_
            refine lv_aload_n hx hb d_Fil_passLayer_87 rfl (lv_at hl 1 rfl) ?_
            refine va_get (D := (dC, dI)) (ci := 2) (v := .int z2.2) (C := R_Fil) (T := F_Fil) (N := 8) hx hb hts in_Fil hown hK hP 0 rfl rfl 7 (by decide) (hts _ tt111) (fun _ h9 => h9) rfl d_Fil_passLayer_88 ?_
            refine lv_iconst (v := (2 : Int32)) hx hb d_Fil_passLayer_91 (by decide) ?_
            refine lv_isub hx hb d_Fil_passLayer_92 ?_
            obtain ⟨hin, h⟩ := og h
            refine va_iast hx hb hK hP hD hS 3 2 rfl rfl (vpb_in hin) d_Fil_passLayer_93 (fun H locs hP hD hS => ?_)
            have hP : va_P (dC, dI) vcl (W_F f_0 f_bytes_a f_starts_a f_ends_a f_bytes_k f_starts_k f_ends_k f_bytes f_starts_58 (upd f_ends_58 i_k.toNatClampNeg (z2.2 - (2 : Int32))) f_length f_wide f_high f_layerCount z2.2) H := hP
            have hD : va_D A (W_F f_0 f_bytes_a f_starts_a f_ends_a f_bytes_k f_starts_k f_ends_k f_bytes f_starts_58 (upd f_ends_58 i_k.toNatClampNeg (z2.2 - (2 : Int32))) f_length f_wide f_high f_layerCount z2.2) := hD
            refine lv_iconst (v := (1 : Int32)) hx hb d_Fil_passLayer_94 (by decide) ?_
            obtain rfl := Option.some.inj h
            exact hret H locs 95 ls d_Fil_passLayer_95 narrow_b1 hP hD hS
      have h := hq21
      refine lv_iload_n hx hb d_Fil_passLayer_21 rfl (lv_at hl 2 rfl) ?_
      refine lv_sipush (v := (900 : Int32)) hx hb d_Fil_passLayer_22 (by decide) ?_
      refine lv_icmp_ge (tgt := 117) hx hb d_Fil_passLayer_25 rfl (fun hc => ?_) (fun hc => ?_)
      · replace h := ot hc h
        refine lv_iconst (v := (0 : Int32)) hx hb d_Fil_passLayer_117 (by decide) ?_
        obtain rfl := Option.some.inj h
        exact hret H locs 118 ls d_Fil_passLayer_118 narrow_b0 hP hD hS
      · replace h := of hc h
        refine lv_aload_n hx hb d_Fil_passLayer_28 rfl (lv_at hl 0 rfl) ?_
        refine lv_aload_n hx hb d_Fil_passLayer_29 rfl (lv_at hl 0 rfl) ?_
        refine va_get (D := (dC, dI)) (ci := 2) (v := .int f_place_21) (C := R_Fil) (T := F_Fil) (N := 8) hx hb hts in_Fil hown hK hP 0 rfl rfl 7 (by decide) (hts _ tt111) (fun _ h9 => h9) rfl d_Fil_passLayer_30 ?_
        obtain ⟨z3, hz3, h⟩ := ob h
        refine x_goI (res := z3) (w1 := (W_F f_0 f_bytes_a f_starts_a f_ends_a f_bytes_k f_starts_k f_ends_k f_bytes f_starts_21 f_ends_21 f_length f_wide f_high f_layerCount f_place_21)) (ws' := (W_F f_0 f_bytes_a f_starts_a f_ends_a f_bytes_k f_starts_k f_ends_k f_bytes f_starts_21 f_ends_21 f_length f_wide f_high f_layerCount f_place_21)) (wr := List.filterMap (fun (i : Nat) => (W_F f_0 f_bytes_a f_starts_a f_ends_a f_bytes_k f_starts_k f_ends_k f_bytes f_starts_21 f_ends_21 f_length f_wide f_high f_layerCount f_place_21)[i]?) ([] : List Nat)) (va_runV (As := [.int f_place_21]) (rest := []) ⟨hx, hb, hml, hown, hts⟩ (c_Fil_has l dC dI f_0 f_bytes_a f_starts_a f_ends_a f_bytes_k f_starts_k f_ends_k f_place_21 f_bytes f_starts_21 f_ends_21 f_length f_wide f_high f_layerCount f_place_21 z3  hz3 H.size) ⟨callB_of 1 hts (gT tt545 TT_good) rfl rfl rfl (hts _ tt47) (hts _ tt542) (by decide +kernel) ⟨Nat.le_of_ble_eq_true rfl, Nat.le_of_ble_eq_true rfl⟩, hts _ tt543, hts _ tt544⟩ (x_preV (q := (R_Fil, F_Fil, 8)) (As := [.int f_place_21]) (x_pre (wc := (W_F f_0 f_bytes_a f_starts_a f_ends_a f_bytes_k f_starts_k f_ends_k f_bytes f_starts_21 f_ends_21 f_length f_wide f_high f_layerCount f_place_21)) (av := (.ref f_0 :: [.int f_place_21])) hK hP hD hS hA hG [0, 1, 2] [0, 1, 2, 3] rfl rfl (by decide)) hK hP (q0 := 0) rfl rfl) rfl rfl hl.1 rfl (lv_room (Nat.le_of_ble_eq_true rfl)) d_Fil_passLayer_33 ⟨Nat.zero_le _, Nat.zero_le _⟩) hP hD hS hA [0, 1, 2, 3] [] [0, 1, 2, 3] rfl rfl (by decide) (by decide) (by decide) rfl (fun H locs hP hD hS => ?_)
        refine lv_if_eq (tgt := 117) hx hb d_Fil_passLayer_36 rfl (fun hc => ?_) (fun hc => ?_)
        · replace h := ot hc h
          refine lv_iconst (v := (0 : Int32)) hx hb d_Fil_passLayer_117 (by decide) ?_
          obtain rfl := Option.some.inj h
          exact hret H locs 118 ls d_Fil_passLayer_118 narrow_b0 hP hD hS
        · replace h := of hc h
          refine lv_aload_n hx hb d_Fil_passLayer_39 rfl (lv_at hl 0 rfl) ?_
          refine lv_aload_n hx hb d_Fil_passLayer_40 rfl (lv_at hl 0 rfl) ?_
          refine va_get (D := (dC, dI)) (ci := 2) (v := .int f_place_21) (C := R_Fil) (T := F_Fil) (N := 8) hx hb hts in_Fil hown hK hP 0 rfl rfl 7 (by decide) (hts _ tt111) (fun _ h9 => h9) rfl d_Fil_passLayer_41 ?_
          obtain ⟨z4, hz4, h⟩ := ob h
          refine x_goI (res := z4) (w1 := (W_F f_0 f_bytes_a f_starts_a f_ends_a f_bytes_k f_starts_k f_ends_k f_bytes f_starts_21 f_ends_21 f_length f_wide f_high f_layerCount f_place_21)) (ws' := (W_F f_0 f_bytes_a f_starts_a f_ends_a f_bytes_k f_starts_k f_ends_k f_bytes f_starts_21 f_ends_21 f_length f_wide f_high f_layerCount f_place_21)) (wr := List.filterMap (fun (i : Nat) => (W_F f_0 f_bytes_a f_starts_a f_ends_a f_bytes_k f_starts_k f_ends_k f_bytes f_starts_21 f_ends_21 f_length f_wide f_high f_layerCount f_place_21)[i]?) ([] : List Nat)) (va_runV (As := [.int f_place_21]) (rest := []) ⟨hx, hb, hml, hown, hts⟩ (c_Fil_at l dC dI f_0 f_bytes_a f_starts_a f_ends_a f_bytes_k f_starts_k f_ends_k f_place_21 f_bytes f_starts_21 f_ends_21 f_length f_wide f_high f_layerCount f_place_21 z4  hz4 H.size) ⟨callB_of 1 hts (gT tt549 TT_good) rfl rfl rfl (hts _ tt47) (hts _ tt546) (by decide +kernel) ⟨Nat.le_of_ble_eq_true rfl, Nat.le_of_ble_eq_true rfl⟩, hts _ tt547, hts _ tt548⟩ (x_preV (q := (R_Fil, F_Fil, 8)) (As := [.int f_place_21]) (x_pre (wc := (W_F f_0 f_bytes_a f_starts_a f_ends_a f_bytes_k f_starts_k f_ends_k f_bytes f_starts_21 f_ends_21 f_length f_wide f_high f_layerCount f_place_21)) (av := (.ref f_0 :: [.int f_place_21])) hK hP hD hS hA hG [0, 1, 2] [0, 1, 2, 3] rfl rfl (by decide)) hK hP (q0 := 0) rfl rfl) rfl rfl hl.1 rfl (lv_room (Nat.le_of_ble_eq_true rfl)) d_Fil_passLayer_44 ⟨Nat.zero_le _, Nat.zero_le _⟩) hP hD hS hA [0, 1, 2, 3] [] [0, 1, 2, 3] rfl rfl (by decide) (by decide) (by decide) rfl (fun H locs hP hD hS => ?_)
          refine lv_sipush (v := (255 : Int32)) hx hb d_Fil_passLayer_47 (by decide) ?_
          refine lv_icmp_ne (tgt := 57) hx hb d_Fil_passLayer_50 rfl (fun hc => ?_) (fun hc => ?_)
          · replace h := of hc h
            refine lv_iconst (v := (0 : Int32)) hx hb d_Fil_passLayer_57 (by decide) ?_
            exact L58 x2_21 (0 : Int32) f_starts_21 f_ends_21 f_place_21 H locs ls (lv_sub hl [0, 1, 2] rfl) hP hD hS h
          · replace h := ot hc h
            refine lv_iconst (v := (1 : Int32)) hx hb d_Fil_passLayer_53 (by decide) ?_
            refine lv_goto (tgt := 58) hx hb d_Fil_passLayer_54 rfl ?_
            exact L58 x2_21 (1 : Int32) f_starts_21 f_ends_21 f_place_21 H locs ls (lv_sub hl [0, 1, 2] rfl) hP hD hS h
  have h := hq
  refine lv_aload_n hx hb d_Fil_passLayer_0 rfl (lv_at hl 0 rfl) ?_
  obtain ⟨z5, hz5, h⟩ := ob h
  refine x_goI (res := z5.1) (w1 := (W_F f_0 f_bytes_a f_starts_a f_ends_a f_bytes_k f_starts_k f_ends_k f_bytes f_starts f_ends f_length f_wide f_high f_layerCount z5.2)) (ws' := (W_F f_0 f_bytes_a f_starts_a f_ends_a f_bytes_k f_starts_k f_ends_k f_bytes f_starts f_ends f_length f_wide f_high f_layerCount z5.2)) (wr := List.filterMap (fun (i : Nat) => (W_F f_0 f_bytes_a f_starts_a f_ends_a f_bytes_k f_starts_k f_ends_k f_bytes f_starts f_ends f_length f_wide f_high f_layerCount f_place)[i]?) ([] : List Nat)) (va_runV (As := []) (rest := []) ⟨hx, hb, hml, hown, hts⟩ (c_Fil_passAllRemarks l dC dI f_0 f_bytes_a f_starts_a f_ends_a f_bytes_k f_starts_k f_ends_k  f_bytes f_starts f_ends f_length f_wide f_high f_layerCount f_place z5  hz5 H.size) ⟨callB_of 0 hts (gT tt557 TT_good) rfl rfl rfl (hts _ tt47) (hts _ tt554) (by decide +kernel) ⟨Nat.le_of_ble_eq_true rfl, Nat.le_of_ble_eq_true rfl⟩, hts _ tt556, hts _ tt16⟩ (x_preV (q := (R_Fil, F_Fil, 8)) (As := []) (x_pre (wc := (W_F f_0 f_bytes_a f_starts_a f_ends_a f_bytes_k f_starts_k f_ends_k f_bytes f_starts f_ends f_length f_wide f_high f_layerCount f_place)) (av := (.ref f_0 :: [])) hK hP hD hS hA hG [0, 1, 2] [0, 1, 2, 3] rfl rfl (by decide)) hK hP (q0 := 0) rfl rfl) rfl rfl hl.1 rfl (lv_room (Nat.le_of_ble_eq_true rfl)) d_Fil_passLayer_1 ⟨Nat.zero_le _, Nat.zero_le _⟩) hP hD hS hA [0, 1, 2, 3] [] [0, 1, 2, 3] rfl rfl (by decide) (by decide) (by decide) rfl (fun H locs hP hD hS => ?_)
  refine lv_if_ne (tgt := 9) hx hb d_Fil_passLayer_4 rfl (fun hc => ?_) (fun hc => ?_)
  · replace h := of hc h
    refine lv_aload_n hx hb d_Fil_passLayer_9 rfl (lv_at hl 0 rfl) ?_
    refine va_get (D := (dC, dI)) (ci := 2) (v := .ref f_starts_a) (C := R_Fil) (T := F_Fil) (N := 8) hx hb hts in_Fil hown hK hP 0 rfl rfl 1 (by decide) (hts _ tt99) (fun _ h9 => h9) rfl d_Fil_passLayer_10 ?_
    refine lv_iload_n hx hb d_Fil_passLayer_13 rfl (lv_at hl 1 rfl) ?_
    refine lv_aload_n hx hb d_Fil_passLayer_14 rfl (lv_at hl 0 rfl) ?_
    refine va_get (D := (dC, dI)) (ci := 2) (v := .int z5.2) (C := R_Fil) (T := F_Fil) (N := 8) hx hb hts in_Fil hown hK hP 0 rfl rfl 7 (by decide) (hts _ tt111) (fun _ h9 => h9) rfl d_Fil_passLayer_15 ?_
    obtain ⟨hin, h⟩ := og h
    refine va_iast hx hb hK hP hD hS 2 1 rfl rfl (vpb_in hin) d_Fil_passLayer_18 (fun H locs hP hD hS => ?_)
    have hP : va_P (dC, dI) vcl (W_F f_0 f_bytes_a f_starts_a f_ends_a f_bytes_k f_starts_k f_ends_k f_bytes (upd f_starts i_k.toNatClampNeg z5.2) f_ends f_length f_wide f_high f_layerCount z5.2) H := hP
    have hD : va_D A (W_F f_0 f_bytes_a f_starts_a f_ends_a f_bytes_k f_starts_k f_ends_k f_bytes (upd f_starts i_k.toNatClampNeg z5.2) f_ends f_length f_wide f_high f_layerCount z5.2) := hD
    refine lv_iconst (v := (0 : Int32)) hx hb d_Fil_passLayer_19 (by decide) ?_
    refine lv_istore_n (lv' := [(2, .int (0 : Int32)), (0, .ref f_0), (1, .int i_k)]) hx hb d_Fil_passLayer_20 rfl hl (by decide) rfl (fun ls hl => ?_)
    exact L21 5000 (0 : Int32) (upd f_starts i_k.toNatClampNeg z5.2) f_ends z5.2 H locs ls (lv_sub hl [1, 2, 0] rfl) hP hD hS h
  · replace h := ot hc h
    refine lv_iconst (v := (0 : Int32)) hx hb d_Fil_passLayer_7 (by decide) ?_
    obtain rfl := Option.some.inj h
    exact hret H locs 8 ls d_Fil_passLayer_8 narrow_b0 hP hD hS
theorem d_Fil_passHead_0 : decode b_Fil_passHead 0 = .ok (.aload_n 0, 1) := by decide +kernel
theorem d_Fil_passHead_1 : decode b_Fil_passHead 1 = .ok (.bipush (74), 2) := by decide +kernel
theorem d_Fil_passHead_3 : decode b_Fil_passHead 3 = .ok (.bipush (74), 2) := by decide +kernel
theorem d_Fil_passHead_5 : decode b_Fil_passHead 5 = .ok (.invokevirtual 48, 3) := by decide +kernel
theorem d_Fil_passHead_8 : decode b_Fil_passHead 8 = .ok (.ifCond .eq (47), 3) := by decide +kernel
theorem d_Fil_passHead_11 : decode b_Fil_passHead 11 = .ok (.aload_n 0, 1) := by decide +kernel
theorem d_Fil_passHead_12 : decode b_Fil_passHead 12 = .ok (.bipush (66), 2) := by decide +kernel
theorem d_Fil_passHead_14 : decode b_Fil_passHead 14 = .ok (.bipush (66), 2) := by decide +kernel
theorem d_Fil_passHead_16 : decode b_Fil_passHead 16 = .ok (.invokevirtual 48, 3) := by decide +kernel
theorem d_Fil_passHead_19 : decode b_Fil_passHead 19 = .ok (.ifCond .eq (36), 3) := by decide +kernel
theorem d_Fil_passHead_22 : decode b_Fil_passHead 22 = .ok (.aload_n 0, 1) := by decide +kernel
theorem d_Fil_passHead_23 : decode b_Fil_passHead 23 = .ok (.iconst (1), 1) := by decide +kernel
theorem d_Fil_passHead_24 : decode b_Fil_passHead 24 = .ok (.bipush (16), 2) := by decide +kernel
theorem d_Fil_passHead_26 : decode b_Fil_passHead 26 = .ok (.invokevirtual 48, 3) := by decide +kernel
theorem d_Fil_passHead_29 : decode b_Fil_passHead 29 = .ok (.ifCond .eq (26), 3) := by decide +kernel
theorem d_Fil_passHead_32 : decode b_Fil_passHead 32 = .ok (.aload_n 0, 1) := by decide +kernel
theorem d_Fil_passHead_33 : decode b_Fil_passHead 33 = .ok (.iconst (1), 1) := by decide +kernel
theorem d_Fil_passHead_34 : decode b_Fil_passHead 34 = .ok (.bipush (16), 2) := by decide +kernel
theorem d_Fil_passHead_36 : decode b_Fil_passHead 36 = .ok (.invokevirtual 48, 3) := by decide +kernel
theorem d_Fil_passHead_39 : decode b_Fil_passHead 39 = .ok (.ifCond .eq (16), 3) := by decide +kernel
theorem d_Fil_passHead_42 : decode b_Fil_passHead 42 = .ok (.aload_n 0, 1) := by decide +kernel
theorem d_Fil_passHead_43 : decode b_Fil_passHead 43 = .ok (.iconst (1), 1) := by decide +kernel
theorem d_Fil_passHead_44 : decode b_Fil_passHead 44 = .ok (.iconst (3), 1) := by decide +kernel
theorem d_Fil_passHead_45 : decode b_Fil_passHead 45 = .ok (.invokevirtual 48, 3) := by decide +kernel
theorem d_Fil_passHead_48 : decode b_Fil_passHead 48 = .ok (.ifCond .eq (7), 3) := by decide +kernel
theorem d_Fil_passHead_51 : decode b_Fil_passHead 51 = .ok (.iconst (1), 1) := by decide +kernel
theorem d_Fil_passHead_52 : decode b_Fil_passHead 52 = .ok (.goto (4), 3) := by decide +kernel
theorem d_Fil_passHead_55 : decode b_Fil_passHead 55 = .ok (.iconst (0), 1) := by decide +kernel
theorem d_Fil_passHead_56 : decode b_Fil_passHead 56 = .ok (.istore_n 1, 1) := by decide +kernel
theorem d_Fil_passHead_57 : decode b_Fil_passHead 57 = .ok (.iload_n 1, 1) := by decide +kernel
theorem d_Fil_passHead_58 : decode b_Fil_passHead 58 = .ok (.ifCond .eq (30), 3) := by decide +kernel
theorem d_Fil_passHead_61 : decode b_Fil_passHead 61 = .ok (.aload_n 0, 1) := by decide +kernel
theorem d_Fil_passHead_62 : decode b_Fil_passHead 62 = .ok (.aload_n 0, 1) := by decide +kernel
theorem d_Fil_passHead_63 : decode b_Fil_passHead 63 = .ok (.iconst (2), 1) := by decide +kernel
theorem d_Fil_passHead_64 : decode b_Fil_passHead 64 = .ok (.invokevirtual 52, 3) := by decide +kernel
theorem d_Fil_passHead_67 : decode b_Fil_passHead 67 = .ok (.putfield 25, 3) := by decide +kernel
theorem d_Fil_passHead_70 : decode b_Fil_passHead 70 = .ok (.aload_n 0, 1) := by decide +kernel
theorem d_Fil_passHead_71 : decode b_Fil_passHead 71 = .ok (.aload_n 0, 1) := by decide +kernel
theorem d_Fil_passHead_72 : decode b_Fil_passHead 72 = .ok (.iconst (3), 1) := by decide +kernel
theorem d_Fil_passHead_73 : decode b_Fil_passHead 73 = .ok (.invokevirtual 52, 3) := by decide +kernel
theorem d_Fil_passHead_76 : decode b_Fil_passHead 76 = .ok (.putfield 28, 3) := by decide +kernel
theorem d_Fil_passHead_79 : decode b_Fil_passHead 79 = .ok (.aload_n 0, 1) := by decide +kernel
theorem d_Fil_passHead_80 : decode b_Fil_passHead 80 = .ok (.aload_n 0, 1) := by decide +kernel
theorem d_Fil_passHead_81 : decode b_Fil_passHead 81 = .ok (.iconst (4), 1) := by decide +kernel
theorem d_Fil_passHead_82 : decode b_Fil_passHead 82 = .ok (.invokevirtual 52, 3) := by decide +kernel
theorem d_Fil_passHead_85 : decode b_Fil_passHead 85 = .ok (.putfield 31, 3) := by decide +kernel
theorem d_Fil_passHead_88 : decode b_Fil_passHead 88 = .ok (.iload_n 1, 1) := by decide +kernel
theorem d_Fil_passHead_89 : decode b_Fil_passHead 89 = .ok (.ireturn, 1) := by decide +kernel
def q_Fil_passHead_56 (f_bytes : Nat → Int32) (f_length : Int32)  (k0_56 : Int32) (f_wide_56 : Int32) (f_high_56 : Int32) (f_layerCount_56 : Int32) (f_place_56 : Int32) : Option (Int32 × Int32 × Int32 × Int32 × Int32) := (if k0_56 = 0 then (if k0_56 = 0 ∨ k0_56 = 1 then some (k0_56, f_wide_56, f_high_56, f_layerCount_56, f_place_56) else none) else ((q_Fil_at (2 : Int32) f_bytes f_length).bind fun z1 => ((q_Fil_at (3 : Int32) f_bytes f_length).bind fun z2 => ((q_Fil_at (4 : Int32) f_bytes f_length).bind fun z3 => (if k0_56 = 0 ∨ k0_56 = 1 then some (k0_56, z1, z2, z3, f_place_56) else none)))))
def q_Fil_passHead_55 (f_bytes : Nat → Int32) (f_length : Int32)  (f_wide_55 : Int32) (f_high_55 : Int32) (f_layerCount_55 : Int32) (f_place_55 : Int32) : Option (Int32 × Int32 × Int32 × Int32 × Int32) := (q_Fil_passHead_56 f_bytes f_length  (0 : Int32) f_wide_55 f_high_55 f_layerCount_55 f_place_55)
def q_Fil_passHead  (f_bytes : Nat → Int32) (f_length : Int32) (f_wide : Int32) (f_high : Int32) (f_layerCount : Int32) (f_place : Int32) : Option (Int32 × Int32 × Int32 × Int32 × Int32) := ((q_Fil_passByte (74 : Int32) (74 : Int32) f_bytes f_length f_place).bind fun z4 => (if z4.1 = 0 then (q_Fil_passHead_55 f_bytes f_length  f_wide f_high f_layerCount z4.2) else ((q_Fil_passByte (66 : Int32) (66 : Int32) f_bytes f_length z4.2).bind fun z5 => (if z5.1 = 0 then (q_Fil_passHead_55 f_bytes f_length  f_wide f_high f_layerCount z5.2) else ((q_Fil_passByte (1 : Int32) (16 : Int32) f_bytes f_length z5.2).bind fun z6 => (if z6.1 = 0 then (q_Fil_passHead_55 f_bytes f_length  f_wide f_high f_layerCount z6.2) else ((q_Fil_passByte (1 : Int32) (16 : Int32) f_bytes f_length z6.2).bind fun z7 => (if z7.1 = 0 then (q_Fil_passHead_55 f_bytes f_length  f_wide f_high f_layerCount z7.2) else ((q_Fil_passByte (1 : Int32) (3 : Int32) f_bytes f_length z7.2).bind fun z8 => (if z8.1 = 0 then (q_Fil_passHead_55 f_bytes f_length  f_wide f_high f_layerCount z8.2) else (q_Fil_passHead_56 f_bytes f_length  (1 : Int32) f_wide f_high f_layerCount z8.2)))))))))))
abbrev rm_Fil_passHead : Room := { frames := 3, cells := 0, slots := 0, locals := 64 }
set_option maxHeartbeats 4000000 in
set_option maxRecDepth 100000 in
theorem c_Fil_passHead (l : Launch) (dC : Nat → ClassId) (dI : Nat → Nat → Nat) (f_0 f_bytes_a f_starts_a f_ends_a : Nat) (f_bytes_k f_starts_k f_ends_k : ClassId)  (f_bytes : Nat → Int32) (f_starts : Nat → Int32) (f_ends : Nat → Int32) (f_length : Int32) (f_wide : Int32) (f_high : Int32) (f_layerCount : Int32) (f_place : Int32) (z : Int32 × Int32 × Int32 × Int32 × Int32)  (hq : q_Fil_passHead f_bytes f_length f_wide f_high f_layerCount f_place = some z) (sz : Nat) : MetI l y_Fil_passHead b_Fil_passHead 2 .boolean TT rm_Fil_passHead (dC, dI) vcl [(f_bytes_k, .int), (f_starts_k, .int), (f_ends_k, .int)] (W_F f_0 f_bytes_a f_starts_a f_ends_a f_bytes_k f_starts_k f_ends_k f_bytes f_starts f_ends f_length f_wide f_high f_layerCount f_place) (W_F f_0 f_bytes_a f_starts_a f_ends_a f_bytes_k f_starts_k f_ends_k f_bytes f_starts f_ends f_length z.2.1 z.2.2.1 z.2.2.2.1 z.2.2.2.2) [.ref f_0] z.1 sz := by
  refine x_ofI (by decide) (Nat.le_of_ble_eq_true rfl) ?_ sz
  intro p e s m args below meth c A Q ls hx hb hml hown hts hA hG hK hP hD hS hl hret
  have hown : s.vm.findClass R_Fil = some m.cls := hown
  have hl : lv_has ls 2 [(0, .ref f_0)] := hl
  obtain ⟨⟨tq, hZ, hTq⟩, hN⟩ := id hG
  obtain ⟨H, hH⟩ : ∃ H, H = s.heap := ⟨_, rfl⟩
  obtain ⟨locs, hlocs⟩ : ∃ locs : List Loc, locs = [] := ⟨_, rfl⟩
  rw [← hH] at hP
  have hS : va_S A s.heap H locs := by rw [hH, hlocs]; exact hS
  suffices hgo : W p l e rm_Fil_passHead s m args below meth c H locs 0 0 Q (F0 m 0 ls []) by rw [hH, hlocs] at hgo; exact hgo
  unfold q_Fil_passHead at hq
  have L56 : ∀ (k0_56 : Int32) (f_wide_56 : Int32) (f_high_56 : Int32) (f_layerCount_56 : Int32) (f_place_56 : Int32) (H : Heap) (locs : List Loc) (ls : Array Slot), lv_has ls 2 [(0, .ref f_0)] → va_P (dC, dI) vcl (W_F f_0 f_bytes_a f_starts_a f_ends_a f_bytes_k f_starts_k f_ends_k f_bytes f_starts f_ends f_length f_wide_56 f_high_56 f_layerCount_56 f_place_56) H → va_D A (W_F f_0 f_bytes_a f_starts_a f_ends_a f_bytes_k f_starts_k f_ends_k f_bytes f_starts f_ends f_length f_wide_56 f_high_56 f_layerCount_56 f_place_56) → va_S A s.heap H locs → q_Fil_passHead_56 f_bytes f_length  k0_56 f_wide_56 f_high_56 f_layerCount_56 f_place_56 = some z → W p l e rm_Fil_passHead s m args below meth c H locs 0 0 Q (F0 m 56 ls [.int k0_56]) := by
    intro k0_56 f_wide_56 f_high_56 f_layerCount_56 f_place_56 H locs ls hl hP hD hS hq56
    unfold q_Fil_passHead_56 at hq56
    have h := hq56
    refine lv_istore_n (lv' := [(1, .int k0_56), (0, .ref f_0)]) hx hb d_Fil_passHead_56 rfl hl (by decide) rfl (fun ls hl => ?_)
    refine lv_iload_n hx hb d_Fil_passHead_57 rfl (lv_at hl 0 rfl) ?_
    refine lv_if_eq (tgt := 88) hx hb d_Fil_passHead_58 rfl (fun hc => ?_) (fun hc => ?_)
    · replace h := ot hc h
      refine lv_iload_n hx hb d_Fil_passHead_88 rfl (lv_at hl 0 rfl) ?_
      obtain ⟨hzb, h⟩ := og h
      obtain rfl := Option.some.inj h
      exact hret H locs 89 ls d_Fil_passHead_89 (nar_b hzb) hP hD hS
    · replace h := of hc h
      refine lv_aload_n hx hb d_Fil_passHead_61 rfl (lv_at hl 1 rfl) ?_
      refine lv_aload_n hx hb d_Fil_passHead_62 rfl (lv_at hl 1 rfl) ?_
      refine lv_iconst (v := (2 : Int32)) hx hb d_Fil_passHead_63 (by decide) ?_
      obtain ⟨z1, hz1, h⟩ := ob h
      refine x_goI (res := z1) (w1 := (W_F f_0 f_bytes_a f_starts_a f_ends_a f_bytes_k f_starts_k f_ends_k f_bytes f_starts f_ends f_length f_wide_56 f_high_56 f_layerCount_56 f_place_56)) (ws' := (W_F f_0 f_bytes_a f_starts_a f_ends_a f_bytes_k f_starts_k f_ends_k f_bytes f_starts f_ends f_length f_wide_56 f_high_56 f_layerCount_56 f_place_56)) (wr := List.filterMap (fun (i : Nat) => (W_F f_0 f_bytes_a f_starts_a f_ends_a f_bytes_k f_starts_k f_ends_k f_bytes f_starts f_ends f_length f_wide_56 f_high_56 f_layerCount_56 f_place_56)[i]?) ([] : List Nat)) (va_runV (As := [.int (2 : Int32)]) (rest := [.ref f_0]) ⟨hx, hb, hml, hown, hts⟩ (c_Fil_at l dC dI f_0 f_bytes_a f_starts_a f_ends_a f_bytes_k f_starts_k f_ends_k (2 : Int32) f_bytes f_starts f_ends f_length f_wide_56 f_high_56 f_layerCount_56 f_place_56 z1  hz1 H.size) ⟨callB_of 1 hts (gT tt549 TT_good) rfl rfl rfl (hts _ tt47) (hts _ tt546) (by decide +kernel) ⟨Nat.le_of_ble_eq_true rfl, Nat.le_of_ble_eq_true rfl⟩, hts _ tt547, hts _ tt548⟩ (x_preV (q := (R_Fil, F_Fil, 8)) (As := [.int (2 : Int32)]) (x_pre (wc := (W_F f_0 f_bytes_a f_starts_a f_ends_a f_bytes_k f_starts_k f_ends_k f_bytes f_starts f_ends f_length f_wide_56 f_high_56 f_layerCount_56 f_place_56)) (av := (.ref f_0 :: [.int (2 : Int32)])) hK hP hD hS hA hG [0, 1, 2] [0, 1, 2, 3] rfl rfl (by decide)) hK hP (q0 := 0) rfl rfl) rfl rfl hl.1 rfl (lv_room (Nat.le_of_ble_eq_true rfl)) d_Fil_passHead_64 ⟨Nat.zero_le _, Nat.zero_le _⟩) hP hD hS hA [0, 1, 2, 3] [] [0, 1, 2, 3] rfl rfl (by decide) (by decide) (by decide) rfl (fun H locs hP hD hS => ?_)
      refine va_put (D := (dC, dI)) (ci := 2) (v := .int z1) (ty := .int) (C := R_Fil) (T := F_Fil) (N := 8) hx hb hts in_Fil t_Fil t_Fil_ok n_Fil hown hK hP hD hS 0 rfl rfl 4 (by decide) (hts _ tt105) (fun _ h9 => h9) rfl (by decide +kernel) rfl rfl (Nat.le_of_ble_eq_true rfl) d_Fil_passHead_67 (fun H locs hP hD hS => ?_)
      have hP : va_P (dC, dI) vcl (W_F f_0 f_bytes_a f_starts_a f_ends_a f_bytes_k f_starts_k f_ends_k f_bytes f_starts f_ends f_length z1 f_high_56 f_layerCount_56 f_place_56) H := hP
      have hD : va_D A (W_F f_0 f_bytes_a f_starts_a f_ends_a f_bytes_k f_starts_k f_ends_k f_bytes f_starts f_ends f_length z1 f_high_56 f_layerCount_56 f_place_56) := hD
      refine lv_aload_n hx hb d_Fil_passHead_70 rfl (lv_at hl 1 rfl) ?_
      refine lv_aload_n hx hb d_Fil_passHead_71 rfl (lv_at hl 1 rfl) ?_
      refine lv_iconst (v := (3 : Int32)) hx hb d_Fil_passHead_72 (by decide) ?_
      obtain ⟨z2, hz2, h⟩ := ob h
      refine x_goI (res := z2) (w1 := (W_F f_0 f_bytes_a f_starts_a f_ends_a f_bytes_k f_starts_k f_ends_k f_bytes f_starts f_ends f_length z1 f_high_56 f_layerCount_56 f_place_56)) (ws' := (W_F f_0 f_bytes_a f_starts_a f_ends_a f_bytes_k f_starts_k f_ends_k f_bytes f_starts f_ends f_length z1 f_high_56 f_layerCount_56 f_place_56)) (wr := List.filterMap (fun (i : Nat) => (W_F f_0 f_bytes_a f_starts_a f_ends_a f_bytes_k f_starts_k f_ends_k f_bytes f_starts f_ends f_length z1 f_high_56 f_layerCount_56 f_place_56)[i]?) ([] : List Nat)) (va_runV (As := [.int (3 : Int32)]) (rest := [.ref f_0]) ⟨hx, hb, hml, hown, hts⟩ (c_Fil_at l dC dI f_0 f_bytes_a f_starts_a f_ends_a f_bytes_k f_starts_k f_ends_k (3 : Int32) f_bytes f_starts f_ends f_length z1 f_high_56 f_layerCount_56 f_place_56 z2  hz2 H.size) ⟨callB_of 1 hts (gT tt549 TT_good) rfl rfl rfl (hts _ tt47) (hts _ tt546) (by decide +kernel) ⟨Nat.le_of_ble_eq_true rfl, Nat.le_of_ble_eq_true rfl⟩, hts _ tt547, hts _ tt548⟩ (x_preV (q := (R_Fil, F_Fil, 8)) (As := [.int (3 : Int32)]) (x_pre (wc := (W_F f_0 f_bytes_a f_starts_a f_ends_a f_bytes_k f_starts_k f_ends_k f_bytes f_starts f_ends f_length z1 f_high_56 f_layerCount_56 f_place_56)) (av := (.ref f_0 :: [.int (3 : Int32)])) hK hP hD hS hA hG [0, 1, 2] [0, 1, 2, 3] rfl rfl (by decide)) hK hP (q0 := 0) rfl rfl) rfl rfl hl.1 rfl (lv_room (Nat.le_of_ble_eq_true rfl)) d_Fil_passHead_73 ⟨Nat.zero_le _, Nat.zero_le _⟩) hP hD hS hA [0, 1, 2, 3] [] [0, 1, 2, 3] rfl rfl (by decide) (by decide) (by decide) rfl (fun H locs hP hD hS => ?_)
      refine va_put (D := (dC, dI)) (ci := 2) (v := .int z2) (ty := .int) (C := R_Fil) (T := F_Fil) (N := 8) hx hb hts in_Fil t_Fil t_Fil_ok n_Fil hown hK hP hD hS 0 rfl rfl 5 (by decide) (hts _ tt107) (fun _ h9 => h9) rfl (by decide +kernel) rfl rfl (Nat.le_of_ble_eq_true rfl) d_Fil_passHead_76 (fun H locs hP hD hS => ?_)
      have hP : va_P (dC, dI) vcl (W_F f_0 f_bytes_a f_starts_a f_ends_a f_bytes_k f_starts_k f_ends_k f_bytes f_starts f_ends f_length z1 z2 f_layerCount_56 f_place_56) H := hP
      have hD : va_D A (W_F f_0 f_bytes_a f_starts_a f_ends_a f_bytes_k f_starts_k f_ends_k f_bytes f_starts f_ends f_length z1 z2 f_layerCount_56 f_place_56) := hD
      refine lv_aload_n hx hb d_Fil_passHead_79 rfl (lv_at hl 1 rfl) ?_
      refine lv_aload_n hx hb d_Fil_passHead_80 rfl (lv_at hl 1 rfl) ?_
      refine lv_iconst (v := (4 : Int32)) hx hb d_Fil_passHead_81 (by decide) ?_
      obtain ⟨z3, hz3, h⟩ := ob h
      refine x_goI (res := z3) (w1 := (W_F f_0 f_bytes_a f_starts_a f_ends_a f_bytes_k f_starts_k f_ends_k f_bytes f_starts f_ends f_length z1 z2 f_layerCount_56 f_place_56)) (ws' := (W_F f_0 f_bytes_a f_starts_a f_ends_a f_bytes_k f_starts_k f_ends_k f_bytes f_starts f_ends f_length z1 z2 f_layerCount_56 f_place_56)) (wr := List.filterMap (fun (i : Nat) => (W_F f_0 f_bytes_a f_starts_a f_ends_a f_bytes_k f_starts_k f_ends_k f_bytes f_starts f_ends f_length z1 z2 f_layerCount_56 f_place_56)[i]?) ([] : List Nat)) (va_runV (As := [.int (4 : Int32)]) (rest := [.ref f_0]) ⟨hx, hb, hml, hown, hts⟩ (c_Fil_at l dC dI f_0 f_bytes_a f_starts_a f_ends_a f_bytes_k f_starts_k f_ends_k (4 : Int32) f_bytes f_starts f_ends f_length z1 z2 f_layerCount_56 f_place_56 z3  hz3 H.size) ⟨callB_of 1 hts (gT tt549 TT_good) rfl rfl rfl (hts _ tt47) (hts _ tt546) (by decide +kernel) ⟨Nat.le_of_ble_eq_true rfl, Nat.le_of_ble_eq_true rfl⟩, hts _ tt547, hts _ tt548⟩ (x_preV (q := (R_Fil, F_Fil, 8)) (As := [.int (4 : Int32)]) (x_pre (wc := (W_F f_0 f_bytes_a f_starts_a f_ends_a f_bytes_k f_starts_k f_ends_k f_bytes f_starts f_ends f_length z1 z2 f_layerCount_56 f_place_56)) (av := (.ref f_0 :: [.int (4 : Int32)])) hK hP hD hS hA hG [0, 1, 2] [0, 1, 2, 3] rfl rfl (by decide)) hK hP (q0 := 0) rfl rfl) rfl rfl hl.1 rfl (lv_room (Nat.le_of_ble_eq_true rfl)) d_Fil_passHead_82 ⟨Nat.zero_le _, Nat.zero_le _⟩) hP hD hS hA [0, 1, 2, 3] [] [0, 1, 2, 3] rfl rfl (by decide) (by decide) (by decide) rfl (fun H locs hP hD hS => ?_)
      refine va_put (D := (dC, dI)) (ci := 2) (v := .int z3) (ty := .int) (C := R_Fil) (T := F_Fil) (N := 8) hx hb hts in_Fil t_Fil t_Fil_ok n_Fil hown hK hP hD hS 0 rfl rfl 6 (by decide) (hts _ tt109) (fun _ h9 => h9) rfl (by decide +kernel) rfl rfl (Nat.le_of_ble_eq_true rfl) d_Fil_passHead_85 (fun H locs hP hD hS => ?_)
      have hP : va_P (dC, dI) vcl (W_F f_0 f_bytes_a f_starts_a f_ends_a f_bytes_k f_starts_k f_ends_k f_bytes f_starts f_ends f_length z1 z2 z3 f_place_56) H := hP
      have hD : va_D A (W_F f_0 f_bytes_a f_starts_a f_ends_a f_bytes_k f_starts_k f_ends_k f_bytes f_starts f_ends f_length z1 z2 z3 f_place_56) := hD
      refine lv_iload_n hx hb d_Fil_passHead_88 rfl (lv_at hl 0 rfl) ?_
      obtain ⟨hzb, h⟩ := og h
      obtain rfl := Option.some.inj h
      exact hret H locs 89 ls d_Fil_passHead_89 (nar_b hzb) hP hD hS
  have L55 : ∀ (f_wide_55 : Int32) (f_high_55 : Int32) (f_layerCount_55 : Int32) (f_place_55 : Int32) (H : Heap) (locs : List Loc) (ls : Array Slot), lv_has ls 2 [(0, .ref f_0)] → va_P (dC, dI) vcl (W_F f_0 f_bytes_a f_starts_a f_ends_a f_bytes_k f_starts_k f_ends_k f_bytes f_starts f_ends f_length f_wide_55 f_high_55 f_layerCount_55 f_place_55) H → va_D A (W_F f_0 f_bytes_a f_starts_a f_ends_a f_bytes_k f_starts_k f_ends_k f_bytes f_starts f_ends f_length f_wide_55 f_high_55 f_layerCount_55 f_place_55) → va_S A s.heap H locs → q_Fil_passHead_55 f_bytes f_length  f_wide_55 f_high_55 f_layerCount_55 f_place_55 = some z → W p l e rm_Fil_passHead s m args below meth c H locs 0 0 Q (F0 m 55 ls []) := by
    intro f_wide_55 f_high_55 f_layerCount_55 f_place_55 H locs ls hl hP hD hS hq55
    unfold q_Fil_passHead_55 at hq55
    have h := hq55
    refine lv_iconst (v := (0 : Int32)) hx hb d_Fil_passHead_55 (by decide) ?_
    exact L56 (0 : Int32) f_wide_55 f_high_55 f_layerCount_55 f_place_55 H locs ls (lv_sub hl [0] rfl) hP hD hS h
  have h := hq
  refine lv_aload_n hx hb d_Fil_passHead_0 rfl (lv_at hl 0 rfl) ?_
  refine lv_bipush (v := (74 : Int32)) hx hb d_Fil_passHead_1 (by decide) ?_
  refine lv_bipush (v := (74 : Int32)) hx hb d_Fil_passHead_3 (by decide) ?_
  obtain ⟨z4, hz4, h⟩ := ob h
  refine x_goI (res := z4.1) (w1 := (W_F f_0 f_bytes_a f_starts_a f_ends_a f_bytes_k f_starts_k f_ends_k f_bytes f_starts f_ends f_length f_wide f_high f_layerCount z4.2)) (ws' := (W_F f_0 f_bytes_a f_starts_a f_ends_a f_bytes_k f_starts_k f_ends_k f_bytes f_starts f_ends f_length f_wide f_high f_layerCount z4.2)) (wr := List.filterMap (fun (i : Nat) => (W_F f_0 f_bytes_a f_starts_a f_ends_a f_bytes_k f_starts_k f_ends_k f_bytes f_starts f_ends f_length f_wide f_high f_layerCount f_place)[i]?) ([] : List Nat)) (va_runV (As := [.int (74 : Int32), .int (74 : Int32)]) (rest := []) ⟨hx, hb, hml, hown, hts⟩ (c_Fil_passByte l dC dI f_0 f_bytes_a f_starts_a f_ends_a f_bytes_k f_starts_k f_ends_k (74 : Int32) (74 : Int32) f_bytes f_starts f_ends f_length f_wide f_high f_layerCount f_place z4  hz4 H.size) ⟨callB_of 2 hts (gT tt541 TT_good) rfl rfl rfl (hts _ tt47) (hts _ tt538) (by decide +kernel) ⟨Nat.le_of_ble_eq_true rfl, Nat.le_of_ble_eq_true rfl⟩, hts _ tt540, hts _ tt14⟩ (x_preV (q := (R_Fil, F_Fil, 8)) (As := [.int (74 : Int32), .int (74 : Int32)]) (x_pre (wc := (W_F f_0 f_bytes_a f_starts_a f_ends_a f_bytes_k f_starts_k f_ends_k f_bytes f_starts f_ends f_length f_wide f_high f_layerCount f_place)) (av := (.ref f_0 :: [.int (74 : Int32), .int (74 : Int32)])) hK hP hD hS hA hG [0, 1, 2] [0, 1, 2, 3] rfl rfl (by decide)) hK hP (q0 := 0) rfl rfl) rfl rfl hl.1 rfl (lv_room (Nat.le_of_ble_eq_true rfl)) d_Fil_passHead_5 ⟨Nat.zero_le _, Nat.zero_le _⟩) hP hD hS hA [0, 1, 2, 3] [] [0, 1, 2, 3] rfl rfl (by decide) (by decide) (by decide) rfl (fun H locs hP hD hS => ?_)
  refine lv_if_eq (tgt := 55) hx hb d_Fil_passHead_8 rfl (fun hc => ?_) (fun hc => ?_)
  · replace h := ot hc h
    exact L55 f_wide f_high f_layerCount z4.2 H locs ls (lv_sub hl [0] rfl) hP hD hS h
  · replace h := of hc h
    refine lv_aload_n hx hb d_Fil_passHead_11 rfl (lv_at hl 0 rfl) ?_
    refine lv_bipush (v := (66 : Int32)) hx hb d_Fil_passHead_12 (by decide) ?_
    refine lv_bipush (v := (66 : Int32)) hx hb d_Fil_passHead_14 (by decide) ?_
    obtain ⟨z5, hz5, h⟩ := ob h
    refine x_goI (res := z5.1) (w1 := (W_F f_0 f_bytes_a f_starts_a f_ends_a f_bytes_k f_starts_k f_ends_k f_bytes f_starts f_ends f_length f_wide f_high f_layerCount z5.2)) (ws' := (W_F f_0 f_bytes_a f_starts_a f_ends_a f_bytes_k f_starts_k f_ends_k f_bytes f_starts f_ends f_length f_wide f_high f_layerCount z5.2)) (wr := List.filterMap (fun (i : Nat) => (W_F f_0 f_bytes_a f_starts_a f_ends_a f_bytes_k f_starts_k f_ends_k f_bytes f_starts f_ends f_length f_wide f_high f_layerCount z4.2)[i]?) ([] : List Nat)) (va_runV (As := [.int (66 : Int32), .int (66 : Int32)]) (rest := []) ⟨hx, hb, hml, hown, hts⟩ (c_Fil_passByte l dC dI f_0 f_bytes_a f_starts_a f_ends_a f_bytes_k f_starts_k f_ends_k (66 : Int32) (66 : Int32) f_bytes f_starts f_ends f_length f_wide f_high f_layerCount z4.2 z5  hz5 H.size) ⟨callB_of 2 hts (gT tt541 TT_good) rfl rfl rfl (hts _ tt47) (hts _ tt538) (by decide +kernel) ⟨Nat.le_of_ble_eq_true rfl, Nat.le_of_ble_eq_true rfl⟩, hts _ tt540, hts _ tt14⟩ (x_preV (q := (R_Fil, F_Fil, 8)) (As := [.int (66 : Int32), .int (66 : Int32)]) (x_pre (wc := (W_F f_0 f_bytes_a f_starts_a f_ends_a f_bytes_k f_starts_k f_ends_k f_bytes f_starts f_ends f_length f_wide f_high f_layerCount z4.2)) (av := (.ref f_0 :: [.int (66 : Int32), .int (66 : Int32)])) hK hP hD hS hA hG [0, 1, 2] [0, 1, 2, 3] rfl rfl (by decide)) hK hP (q0 := 0) rfl rfl) rfl rfl hl.1 rfl (lv_room (Nat.le_of_ble_eq_true rfl)) d_Fil_passHead_16 ⟨Nat.zero_le _, Nat.zero_le _⟩) hP hD hS hA [0, 1, 2, 3] [] [0, 1, 2, 3] rfl rfl (by decide) (by decide) (by decide) rfl (fun H locs hP hD hS => ?_)
    refine lv_if_eq (tgt := 55) hx hb d_Fil_passHead_19 rfl (fun hc => ?_) (fun hc => ?_)
    · replace h := ot hc h
      exact L55 f_wide f_high f_layerCount z5.2 H locs ls (lv_sub hl [0] rfl) hP hD hS h
    · replace h := of hc h
      refine lv_aload_n hx hb d_Fil_passHead_22 rfl (lv_at hl 0 rfl) ?_
      refine lv_iconst (v := (1 : Int32)) hx hb d_Fil_passHead_23 (by decide) ?_
      refine lv_bipush (v := (16 : Int32)) hx hb d_Fil_passHead_24 (by decide) ?_
      obtain ⟨z6, hz6, h⟩ := ob h
      refine x_goI (res := z6.1) (w1 := (W_F f_0 f_bytes_a f_starts_a f_ends_a f_bytes_k f_starts_k f_ends_k f_bytes f_starts f_ends f_length f_wide f_high f_layerCount z6.2)) (ws' := (W_F f_0 f_bytes_a f_starts_a f_ends_a f_bytes_k f_starts_k f_ends_k f_bytes f_starts f_ends f_length f_wide f_high f_layerCount z6.2)) (wr := List.filterMap (fun (i : Nat) => (W_F f_0 f_bytes_a f_starts_a f_ends_a f_bytes_k f_starts_k f_ends_k f_bytes f_starts f_ends f_length f_wide f_high f_layerCount z5.2)[i]?) ([] : List Nat)) (va_runV (As := [.int (1 : Int32), .int (16 : Int32)]) (rest := []) ⟨hx, hb, hml, hown, hts⟩ (c_Fil_passByte l dC dI f_0 f_bytes_a f_starts_a f_ends_a f_bytes_k f_starts_k f_ends_k (1 : Int32) (16 : Int32) f_bytes f_starts f_ends f_length f_wide f_high f_layerCount z5.2 z6  hz6 H.size) ⟨callB_of 2 hts (gT tt541 TT_good) rfl rfl rfl (hts _ tt47) (hts _ tt538) (by decide +kernel) ⟨Nat.le_of_ble_eq_true rfl, Nat.le_of_ble_eq_true rfl⟩, hts _ tt540, hts _ tt14⟩ (x_preV (q := (R_Fil, F_Fil, 8)) (As := [.int (1 : Int32), .int (16 : Int32)]) (x_pre (wc := (W_F f_0 f_bytes_a f_starts_a f_ends_a f_bytes_k f_starts_k f_ends_k f_bytes f_starts f_ends f_length f_wide f_high f_layerCount z5.2)) (av := (.ref f_0 :: [.int (1 : Int32), .int (16 : Int32)])) hK hP hD hS hA hG [0, 1, 2] [0, 1, 2, 3] rfl rfl (by decide)) hK hP (q0 := 0) rfl rfl) rfl rfl hl.1 rfl (lv_room (Nat.le_of_ble_eq_true rfl)) d_Fil_passHead_26 ⟨Nat.zero_le _, Nat.zero_le _⟩) hP hD hS hA [0, 1, 2, 3] [] [0, 1, 2, 3] rfl rfl (by decide) (by decide) (by decide) rfl (fun H locs hP hD hS => ?_)
      refine lv_if_eq (tgt := 55) hx hb d_Fil_passHead_29 rfl (fun hc => ?_) (fun hc => ?_)
      · replace h := ot hc h
        exact L55 f_wide f_high f_layerCount z6.2 H locs ls (lv_sub hl [0] rfl) hP hD hS h
      · replace h := of hc h
        refine lv_aload_n hx hb d_Fil_passHead_32 rfl (lv_at hl 0 rfl) ?_
        refine lv_iconst (v := (1 : Int32)) hx hb d_Fil_passHead_33 (by decide) ?_
        refine lv_bipush (v := (16 : Int32)) hx hb d_Fil_passHead_34 (by decide) ?_
        obtain ⟨z7, hz7, h⟩ := ob h
        refine x_goI (res := z7.1) (w1 := (W_F f_0 f_bytes_a f_starts_a f_ends_a f_bytes_k f_starts_k f_ends_k f_bytes f_starts f_ends f_length f_wide f_high f_layerCount z7.2)) (ws' := (W_F f_0 f_bytes_a f_starts_a f_ends_a f_bytes_k f_starts_k f_ends_k f_bytes f_starts f_ends f_length f_wide f_high f_layerCount z7.2)) (wr := List.filterMap (fun (i : Nat) => (W_F f_0 f_bytes_a f_starts_a f_ends_a f_bytes_k f_starts_k f_ends_k f_bytes f_starts f_ends f_length f_wide f_high f_layerCount z6.2)[i]?) ([] : List Nat)) (va_runV (As := [.int (1 : Int32), .int (16 : Int32)]) (rest := []) ⟨hx, hb, hml, hown, hts⟩ (c_Fil_passByte l dC dI f_0 f_bytes_a f_starts_a f_ends_a f_bytes_k f_starts_k f_ends_k (1 : Int32) (16 : Int32) f_bytes f_starts f_ends f_length f_wide f_high f_layerCount z6.2 z7  hz7 H.size) ⟨callB_of 2 hts (gT tt541 TT_good) rfl rfl rfl (hts _ tt47) (hts _ tt538) (by decide +kernel) ⟨Nat.le_of_ble_eq_true rfl, Nat.le_of_ble_eq_true rfl⟩, hts _ tt540, hts _ tt14⟩ (x_preV (q := (R_Fil, F_Fil, 8)) (As := [.int (1 : Int32), .int (16 : Int32)]) (x_pre (wc := (W_F f_0 f_bytes_a f_starts_a f_ends_a f_bytes_k f_starts_k f_ends_k f_bytes f_starts f_ends f_length f_wide f_high f_layerCount z6.2)) (av := (.ref f_0 :: [.int (1 : Int32), .int (16 : Int32)])) hK hP hD hS hA hG [0, 1, 2] [0, 1, 2, 3] rfl rfl (by decide)) hK hP (q0 := 0) rfl rfl) rfl rfl hl.1 rfl (lv_room (Nat.le_of_ble_eq_true rfl)) d_Fil_passHead_36 ⟨Nat.zero_le _, Nat.zero_le _⟩) hP hD hS hA [0, 1, 2, 3] [] [0, 1, 2, 3] rfl rfl (by decide) (by decide) (by decide) rfl (fun H locs hP hD hS => ?_)
        refine lv_if_eq (tgt := 55) hx hb d_Fil_passHead_39 rfl (fun hc => ?_) (fun hc => ?_)
        · replace h := ot hc h
          exact L55 f_wide f_high f_layerCount z7.2 H locs ls (lv_sub hl [0] rfl) hP hD hS h
        · replace h := of hc h
          refine lv_aload_n hx hb d_Fil_passHead_42 rfl (lv_at hl 0 rfl) ?_
          refine lv_iconst (v := (1 : Int32)) hx hb d_Fil_passHead_43 (by decide) ?_
          refine lv_iconst (v := (3 : Int32)) hx hb d_Fil_passHead_44 (by decide) ?_
          obtain ⟨z8, hz8, h⟩ := ob h
          refine x_goI (res := z8.1) (w1 := (W_F f_0 f_bytes_a f_starts_a f_ends_a f_bytes_k f_starts_k f_ends_k f_bytes f_starts f_ends f_length f_wide f_high f_layerCount z8.2)) (ws' := (W_F f_0 f_bytes_a f_starts_a f_ends_a f_bytes_k f_starts_k f_ends_k f_bytes f_starts f_ends f_length f_wide f_high f_layerCount z8.2)) (wr := List.filterMap (fun (i : Nat) => (W_F f_0 f_bytes_a f_starts_a f_ends_a f_bytes_k f_starts_k f_ends_k f_bytes f_starts f_ends f_length f_wide f_high f_layerCount z7.2)[i]?) ([] : List Nat)) (va_runV (As := [.int (1 : Int32), .int (3 : Int32)]) (rest := []) ⟨hx, hb, hml, hown, hts⟩ (c_Fil_passByte l dC dI f_0 f_bytes_a f_starts_a f_ends_a f_bytes_k f_starts_k f_ends_k (1 : Int32) (3 : Int32) f_bytes f_starts f_ends f_length f_wide f_high f_layerCount z7.2 z8  hz8 H.size) ⟨callB_of 2 hts (gT tt541 TT_good) rfl rfl rfl (hts _ tt47) (hts _ tt538) (by decide +kernel) ⟨Nat.le_of_ble_eq_true rfl, Nat.le_of_ble_eq_true rfl⟩, hts _ tt540, hts _ tt14⟩ (x_preV (q := (R_Fil, F_Fil, 8)) (As := [.int (1 : Int32), .int (3 : Int32)]) (x_pre (wc := (W_F f_0 f_bytes_a f_starts_a f_ends_a f_bytes_k f_starts_k f_ends_k f_bytes f_starts f_ends f_length f_wide f_high f_layerCount z7.2)) (av := (.ref f_0 :: [.int (1 : Int32), .int (3 : Int32)])) hK hP hD hS hA hG [0, 1, 2] [0, 1, 2, 3] rfl rfl (by decide)) hK hP (q0 := 0) rfl rfl) rfl rfl hl.1 rfl (lv_room (Nat.le_of_ble_eq_true rfl)) d_Fil_passHead_45 ⟨Nat.zero_le _, Nat.zero_le _⟩) hP hD hS hA [0, 1, 2, 3] [] [0, 1, 2, 3] rfl rfl (by decide) (by decide) (by decide) rfl (fun H locs hP hD hS => ?_)
          refine lv_if_eq (tgt := 55) hx hb d_Fil_passHead_48 rfl (fun hc => ?_) (fun hc => ?_)
          · replace h := ot hc h
            exact L55 f_wide f_high f_layerCount z8.2 H locs ls (lv_sub hl [0] rfl) hP hD hS h
          · replace h := of hc h
            refine lv_iconst (v := (1 : Int32)) hx hb d_Fil_passHead_51 (by decide) ?_
            refine lv_goto (tgt := 56) hx hb d_Fil_passHead_52 rfl ?_
            exact L56 (1 : Int32) f_wide f_high f_layerCount z8.2 H locs ls (lv_sub hl [0] rfl) hP hD hS h
theorem d_Fil_failure_0 : decode b_Fil_failure 0 = .ok (.aload_n 0, 1) := by decide +kernel
theorem d_Fil_failure_1 : decode b_Fil_failure 1 = .ok (.iconst (0), 1) := by decide +kernel
theorem d_Fil_failure_2 : decode b_Fil_failure 2 = .ok (.putfield 34, 3) := by decide +kernel
theorem d_Fil_failure_5 : decode b_Fil_failure 5 = .ok (.aload_n 0, 1) := by decide +kernel
theorem d_Fil_failure_6 : decode b_Fil_failure 6 = .ok (.invokevirtual 41, 3) := by decide +kernel
theorem d_Fil_failure_9 : decode b_Fil_failure 9 = .ok (.ifCond .ne (8), 3) := by decide +kernel
theorem d_Fil_failure_12 : decode b_Fil_failure 12 = .ok (.aload_n 0, 1) := by decide +kernel
theorem d_Fil_failure_13 : decode b_Fil_failure 13 = .ok (.getfield 34, 3) := by decide +kernel
theorem d_Fil_failure_16 : decode b_Fil_failure 16 = .ok (.ireturn, 1) := by decide +kernel
theorem d_Fil_failure_17 : decode b_Fil_failure 17 = .ok (.iconst (0), 1) := by decide +kernel
theorem d_Fil_failure_18 : decode b_Fil_failure 18 = .ok (.istore_n 1, 1) := by decide +kernel
theorem d_Fil_failure_19 : decode b_Fil_failure 19 = .ok (.iload_n 1, 1) := by decide +kernel
theorem d_Fil_failure_20 : decode b_Fil_failure 20 = .ok (.aload_n 0, 1) := by decide +kernel
theorem d_Fil_failure_21 : decode b_Fil_failure 21 = .ok (.getfield 31, 3) := by decide +kernel
theorem d_Fil_failure_24 : decode b_Fil_failure 24 = .ok (.if_icmp .ge (22), 3) := by decide +kernel
theorem d_Fil_failure_27 : decode b_Fil_failure 27 = .ok (.aload_n 0, 1) := by decide +kernel
theorem d_Fil_failure_28 : decode b_Fil_failure 28 = .ok (.iload_n 1, 1) := by decide +kernel
theorem d_Fil_failure_29 : decode b_Fil_failure 29 = .ok (.invokevirtual 45, 3) := by decide +kernel
theorem d_Fil_failure_32 : decode b_Fil_failure 32 = .ok (.ifCond .ne (8), 3) := by decide +kernel
theorem d_Fil_failure_35 : decode b_Fil_failure 35 = .ok (.aload_n 0, 1) := by decide +kernel
theorem d_Fil_failure_36 : decode b_Fil_failure 36 = .ok (.getfield 34, 3) := by decide +kernel
theorem d_Fil_failure_39 : decode b_Fil_failure 39 = .ok (.ireturn, 1) := by decide +kernel
theorem d_Fil_failure_40 : decode b_Fil_failure 40 = .ok (.iinc 1 (1), 3) := by decide +kernel
theorem d_Fil_failure_43 : decode b_Fil_failure 43 = .ok (.goto (-24), 3) := by decide +kernel
theorem d_Fil_failure_46 : decode b_Fil_failure 46 = .ok (.aload_n 0, 1) := by decide +kernel
theorem d_Fil_failure_47 : decode b_Fil_failure 47 = .ok (.aload_n 0, 1) := by decide +kernel
theorem d_Fil_failure_48 : decode b_Fil_failure 48 = .ok (.getfield 34, 3) := by decide +kernel
theorem d_Fil_failure_51 : decode b_Fil_failure 51 = .ok (.invokevirtual 37, 3) := by decide +kernel
theorem d_Fil_failure_54 : decode b_Fil_failure 54 = .ok (.ifCond .eq (10), 3) := by decide +kernel
theorem d_Fil_failure_57 : decode b_Fil_failure 57 = .ok (.aload_n 0, 1) := by decide +kernel
theorem d_Fil_failure_58 : decode b_Fil_failure 58 = .ok (.getfield 34, 3) := by decide +kernel
theorem d_Fil_failure_61 : decode b_Fil_failure 61 = .ok (.goto (4), 3) := by decide +kernel
theorem d_Fil_failure_64 : decode b_Fil_failure 64 = .ok (.iconst (-1), 1) := by decide +kernel
theorem d_Fil_failure_65 : decode b_Fil_failure 65 = .ok (.ireturn, 1) := by decide +kernel
def q_Fil_failure_19 (f_bytes : Nat → Int32) (f_length : Int32)  : Nat → Int32 → (Nat → Int32) → (Nat → Int32) → Int32 → Int32 → Int32 → Int32 → Option (Int32 × (Nat → Int32) × (Nat → Int32) × Int32 × Int32 × Int32 × Int32)
  | 0, _, _, _, _, _, _, _ => none
  | n + 1, x1_19, f_starts_19, f_ends_19, f_wide_19, f_high_19, f_layerCount_19, f_place_19 => (if f_layerCount_19 ≤ x1_19 then ((q_Fil_has f_place_19 f_length).bind fun z1 => (if z1 = 0 then some ((-1 : Int32), f_starts_19, f_ends_19, f_wide_19, f_high_19, f_layerCount_19, f_place_19) else some (f_place_19, f_starts_19, f_ends_19, f_wide_19, f_high_19, f_layerCount_19, f_place_19))) else ((q_Fil_passLayer x1_19 f_bytes f_starts_19 f_ends_19 f_length f_place_19).bind fun z2 => (if z2.1 = 0 then some (z2.2.2.2, z2.2.1, z2.2.2.1, f_wide_19, f_high_19, f_layerCount_19, z2.2.2.2) else (q_Fil_failure_19 f_bytes f_length n (x1_19 + (1 : Int32)) z2.2.1 z2.2.2.1 f_wide_19 f_high_19 f_layerCount_19 z2.2.2.2))))
def q_Fil_failure  (f_bytes : Nat → Int32) (f_starts : Nat → Int32) (f_ends : Nat → Int32) (f_length : Int32) (f_wide : Int32) (f_high : Int32) (f_layerCount : Int32) (f_place : Int32) : Option (Int32 × (Nat → Int32) × (Nat → Int32) × Int32 × Int32 × Int32 × Int32) := ((q_Fil_passHead f_bytes f_length f_wide f_high f_layerCount (0 : Int32)).bind fun z3 => (if z3.1 = 0 then some (z3.2.2.2.2, f_starts, f_ends, z3.2.1, z3.2.2.1, z3.2.2.2.1, z3.2.2.2.2) else (q_Fil_failure_19 f_bytes f_length  5000 (0 : Int32) f_starts f_ends z3.2.1 z3.2.2.1 z3.2.2.2.1 z3.2.2.2.2)))
abbrev rm_Fil_failure : Room := { frames := 5, cells := 0, slots := 0, locals := 107 }
set_option maxHeartbeats 4000000 in
set_option maxRecDepth 100000 in
theorem c_Fil_failure (l : Launch) (dC : Nat → ClassId) (dI : Nat → Nat → Nat) (f_0 f_bytes_a f_starts_a f_ends_a : Nat) (f_bytes_k f_starts_k f_ends_k : ClassId)  (f_bytes : Nat → Int32) (f_starts : Nat → Int32) (f_ends : Nat → Int32) (f_length : Int32) (f_wide : Int32) (f_high : Int32) (f_layerCount : Int32) (f_place : Int32) (z : Int32 × (Nat → Int32) × (Nat → Int32) × Int32 × Int32 × Int32 × Int32)  (hq : q_Fil_failure f_bytes f_starts f_ends f_length f_wide f_high f_layerCount f_place = some z) (sz : Nat) : MetI l y_Fil_failure b_Fil_failure 2 .int TT rm_Fil_failure (dC, dI) vcl [(f_bytes_k, .int), (f_starts_k, .int), (f_ends_k, .int)] (W_F f_0 f_bytes_a f_starts_a f_ends_a f_bytes_k f_starts_k f_ends_k f_bytes f_starts f_ends f_length f_wide f_high f_layerCount f_place) (W_F f_0 f_bytes_a f_starts_a f_ends_a f_bytes_k f_starts_k f_ends_k f_bytes z.2.1 z.2.2.1 f_length z.2.2.2.1 z.2.2.2.2.1 z.2.2.2.2.2.1 z.2.2.2.2.2.2) [.ref f_0] z.1 sz := by
  refine x_ofI (by decide) (Nat.le_of_ble_eq_true rfl) ?_ sz
  intro p e s m args below meth c A Q ls hx hb hml hown hts hA hG hK hP hD hS hl hret
  have hown : s.vm.findClass R_Fil = some m.cls := hown
  have hl : lv_has ls 2 [(0, .ref f_0)] := hl
  obtain ⟨⟨tq, hZ, hTq⟩, hN⟩ := id hG
  obtain ⟨H, hH⟩ : ∃ H, H = s.heap := ⟨_, rfl⟩
  obtain ⟨locs, hlocs⟩ : ∃ locs : List Loc, locs = [] := ⟨_, rfl⟩
  rw [← hH] at hP
  have hS : va_S A s.heap H locs := by rw [hH, hlocs]; exact hS
  suffices hgo : W p l e rm_Fil_failure s m args below meth c H locs 0 0 Q (F0 m 0 ls []) by rw [hH, hlocs] at hgo; exact hgo
  unfold q_Fil_failure at hq
  have L19 : ∀ (n19 : Nat) (x1_19 : Int32) (f_starts_19 : Nat → Int32) (f_ends_19 : Nat → Int32) (f_wide_19 : Int32) (f_high_19 : Int32) (f_layerCount_19 : Int32) (f_place_19 : Int32) (H : Heap) (locs : List Loc) (ls : Array Slot), lv_has ls 2 [(0, .ref f_0), (1, .int x1_19)] → va_P (dC, dI) vcl (W_F f_0 f_bytes_a f_starts_a f_ends_a f_bytes_k f_starts_k f_ends_k f_bytes f_starts_19 f_ends_19 f_length f_wide_19 f_high_19 f_layerCount_19 f_place_19) H → va_D A (W_F f_0 f_bytes_a f_starts_a f_ends_a f_bytes_k f_starts_k f_ends_k f_bytes f_starts_19 f_ends_19 f_length f_wide_19 f_high_19 f_layerCount_19 f_place_19) → va_S A s.heap H locs → q_Fil_failure_19 f_bytes f_length  n19 x1_19 f_starts_19 f_ends_19 f_wide_19 f_high_19 f_layerCount_19 f_place_19 = some z → W p l e rm_Fil_failure s m args below meth c H locs 0 0 Q (F0 m 19 ls []) := by
    intro n19
    induction n19 with
    | zero =>
      intro x1_19 f_starts_19 f_ends_19 f_wide_19 f_high_19 f_layerCount_19 f_place_19 H locs ls hl hP hD hS hq
      rw [q_Fil_failure_19] at hq
      cases hq
    | succ n19 ih19 =>
      intro x1_19 f_starts_19 f_ends_19 f_wide_19 f_high_19 f_layerCount_19 f_place_19 H locs ls hl hP hD hS hq19
      rw [q_Fil_failure_19] at hq19
      have h := hq19
      refine lv_iload_n hx hb d_Fil_failure_19 rfl (lv_at hl 1 rfl) ?_
      refine lv_aload_n hx hb d_Fil_failure_20 rfl (lv_at hl 0 rfl) ?_
      refine va_get (D := (dC, dI)) (ci := 2) (v := .int f_layerCount_19) (C := R_Fil) (T := F_Fil) (N := 8) hx hb hts in_Fil hown hK hP 0 rfl rfl 6 (by decide) (hts _ tt109) (fun _ h9 => h9) rfl d_Fil_failure_21 ?_
      refine lv_icmp_ge (tgt := 46) hx hb d_Fil_failure_24 rfl (fun hc => ?_) (fun hc => ?_)
      · replace h := ot hc h
        refine lv_aload_n hx hb d_Fil_failure_46 rfl (lv_at hl 0 rfl) ?_
        refine lv_aload_n hx hb d_Fil_failure_47 rfl (lv_at hl 0 rfl) ?_
        refine va_get (D := (dC, dI)) (ci := 2) (v := .int f_place_19) (C := R_Fil) (T := F_Fil) (N := 8) hx hb hts in_Fil hown hK hP 0 rfl rfl 7 (by decide) (hts _ tt111) (fun _ h9 => h9) rfl d_Fil_failure_48 ?_
        obtain ⟨z1, hz1, h⟩ := ob h
        refine x_goI (res := z1) (w1 := (W_F f_0 f_bytes_a f_starts_a f_ends_a f_bytes_k f_starts_k f_ends_k f_bytes f_starts_19 f_ends_19 f_length f_wide_19 f_high_19 f_layerCount_19 f_place_19)) (ws' := (W_F f_0 f_bytes_a f_starts_a f_ends_a f_bytes_k f_starts_k f_ends_k f_bytes f_starts_19 f_ends_19 f_length f_wide_19 f_high_19 f_layerCount_19 f_place_19)) (wr := List.filterMap (fun (i : Nat) => (W_F f_0 f_bytes_a f_starts_a f_ends_a f_bytes_k f_starts_k f_ends_k f_bytes f_starts_19 f_ends_19 f_length f_wide_19 f_high_19 f_layerCount_19 f_place_19)[i]?) ([] : List Nat)) (va_runV (As := [.int f_place_19]) (rest := []) ⟨hx, hb, hml, hown, hts⟩ (c_Fil_has l dC dI f_0 f_bytes_a f_starts_a f_ends_a f_bytes_k f_starts_k f_ends_k f_place_19 f_bytes f_starts_19 f_ends_19 f_length f_wide_19 f_high_19 f_layerCount_19 f_place_19 z1  hz1 H.size) ⟨callB_of 1 hts (gT tt545 TT_good) rfl rfl rfl (hts _ tt47) (hts _ tt542) (by decide +kernel) ⟨Nat.le_of_ble_eq_true rfl, Nat.le_of_ble_eq_true rfl⟩, hts _ tt543, hts _ tt544⟩ (x_preV (q := (R_Fil, F_Fil, 8)) (As := [.int f_place_19]) (x_pre (wc := (W_F f_0 f_bytes_a f_starts_a f_ends_a f_bytes_k f_starts_k f_ends_k f_bytes f_starts_19 f_ends_19 f_length f_wide_19 f_high_19 f_layerCount_19 f_place_19)) (av := (.ref f_0 :: [.int f_place_19])) hK hP hD hS hA hG [0, 1, 2] [0, 1, 2, 3] rfl rfl (by decide)) hK hP (q0 := 0) rfl rfl) rfl rfl hl.1 rfl (lv_room (Nat.le_of_ble_eq_true rfl)) d_Fil_failure_51 ⟨Nat.zero_le _, Nat.zero_le _⟩) hP hD hS hA [0, 1, 2, 3] [] [0, 1, 2, 3] rfl rfl (by decide) (by decide) (by decide) rfl (fun H locs hP hD hS => ?_)
        refine lv_if_eq (tgt := 64) hx hb d_Fil_failure_54 rfl (fun hc => ?_) (fun hc => ?_)
        · replace h := ot hc h
          refine lv_iconst (v := (-1 : Int32)) hx hb d_Fil_failure_64 (by decide) ?_
          obtain rfl := Option.some.inj h
          exact hret H locs 65 ls d_Fil_failure_65 (vp_nar_int _) hP hD hS
        · replace h := of hc h
          refine lv_aload_n hx hb d_Fil_failure_57 rfl (lv_at hl 0 rfl) ?_
          refine va_get (D := (dC, dI)) (ci := 2) (v := .int f_place_19) (C := R_Fil) (T := F_Fil) (N := 8) hx hb hts in_Fil hown hK hP 0 rfl rfl 7 (by decide) (hts _ tt111) (fun _ h9 => h9) rfl d_Fil_failure_58 ?_
          refine lv_goto (tgt := 65) hx hb d_Fil_failure_61 rfl ?_
          obtain rfl := Option.some.inj h
          exact hret H locs 65 ls d_Fil_failure_65 (vp_nar_int _) hP hD hS
      · replace h := of hc h
        refine lv_aload_n hx hb d_Fil_failure_27 rfl (lv_at hl 0 rfl) ?_
        refine lv_iload_n hx hb d_Fil_failure_28 rfl (lv_at hl 1 rfl) ?_
        obtain ⟨z2, hz2, h⟩ := ob h
        refine x_goI (res := z2.1) (w1 := (W_F f_0 f_bytes_a f_starts_a f_ends_a f_bytes_k f_starts_k f_ends_k f_bytes z2.2.1 z2.2.2.1 f_length f_wide_19 f_high_19 f_layerCount_19 z2.2.2.2)) (ws' := (W_F f_0 f_bytes_a f_starts_a f_ends_a f_bytes_k f_starts_k f_ends_k f_bytes z2.2.1 z2.2.2.1 f_length f_wide_19 f_high_19 f_layerCount_19 z2.2.2.2)) (wr := List.filterMap (fun (i : Nat) => (W_F f_0 f_bytes_a f_starts_a f_ends_a f_bytes_k f_starts_k f_ends_k f_bytes f_starts_19 f_ends_19 f_length f_wide_19 f_high_19 f_layerCount_19 f_place_19)[i]?) ([] : List Nat)) (va_runV (As := [.int x1_19]) (rest := []) ⟨hx, hb, hml, hown, hts⟩ (c_Fil_passLayer l dC dI f_0 f_bytes_a f_starts_a f_ends_a f_bytes_k f_starts_k f_ends_k x1_19 f_bytes f_starts_19 f_ends_19 f_length f_wide_19 f_high_19 f_layerCount_19 f_place_19 z2  hz2 H.size) ⟨callB_of 1 hts (gT tt553 TT_good) rfl rfl rfl (hts _ tt47) (hts _ tt550) (by decide +kernel) ⟨Nat.le_of_ble_eq_true rfl, Nat.le_of_ble_eq_true rfl⟩, hts _ tt552, hts _ tt15⟩ (x_preV (q := (R_Fil, F_Fil, 8)) (As := [.int x1_19]) (x_pre (wc := (W_F f_0 f_bytes_a f_starts_a f_ends_a f_bytes_k f_starts_k f_ends_k f_bytes f_starts_19 f_ends_19 f_length f_wide_19 f_high_19 f_layerCount_19 f_place_19)) (av := (.ref f_0 :: [.int x1_19])) hK hP hD hS hA hG [0, 1, 2] [0, 1, 2, 3] rfl rfl (by decide)) hK hP (q0 := 0) rfl rfl) rfl rfl hl.1 rfl (lv_room (Nat.le_of_ble_eq_true rfl)) d_Fil_failure_29 ⟨Nat.zero_le _, Nat.zero_le _⟩) hP hD hS hA [0, 1, 2, 3] [] [0, 1, 2, 3] rfl rfl (by decide) (by decide) (by decide) rfl (fun H locs hP hD hS => ?_)
        refine lv_if_ne (tgt := 40) hx hb d_Fil_failure_32 rfl (fun hc => ?_) (fun hc => ?_)
        · replace h := of hc h
          refine lv_iinc (k := 1) (v := x1_19 + (1 : Int32)) (lv' := [(1, .int (x1_19 + (1 : Int32))), (0, .ref f_0)]) hx hb d_Fil_failure_40 hl rfl rfl (by decide) rfl (fun ls hl => ?_)
          refine lv_goto (tgt := 19) hx hb d_Fil_failure_43 rfl ?_
          exact ih19 (x1_19 + (1 : Int32)) z2.2.1 z2.2.2.1 f_wide_19 f_high_19 f_layerCount_19 z2.2.2.2 H locs ls (lv_sub hl [1, 0] rfl) hP hD hS h
        · replace h := ot hc h
          refine lv_aload_n hx hb d_Fil_failure_35 rfl (lv_at hl 0 rfl) ?_
          refine va_get (D := (dC, dI)) (ci := 2) (v := .int z2.2.2.2) (C := R_Fil) (T := F_Fil) (N := 8) hx hb hts in_Fil hown hK hP 0 rfl rfl 7 (by decide) (hts _ tt111) (fun _ h9 => h9) rfl d_Fil_failure_36 ?_
          obtain rfl := Option.some.inj h
          exact hret H locs 39 ls d_Fil_failure_39 (vp_nar_int _) hP hD hS
  have h := hq
  refine lv_aload_n hx hb d_Fil_failure_0 rfl (lv_at hl 0 rfl) ?_
  refine lv_iconst (v := (0 : Int32)) hx hb d_Fil_failure_1 (by decide) ?_
  refine va_put (D := (dC, dI)) (ci := 2) (v := .int (0 : Int32)) (ty := .int) (C := R_Fil) (T := F_Fil) (N := 8) hx hb hts in_Fil t_Fil t_Fil_ok n_Fil hown hK hP hD hS 0 rfl rfl 7 (by decide) (hts _ tt111) (fun _ h9 => h9) rfl (by decide +kernel) rfl rfl (Nat.le_of_ble_eq_true rfl) d_Fil_failure_2 (fun H locs hP hD hS => ?_)
  have hP : va_P (dC, dI) vcl (W_F f_0 f_bytes_a f_starts_a f_ends_a f_bytes_k f_starts_k f_ends_k f_bytes f_starts f_ends f_length f_wide f_high f_layerCount (0 : Int32)) H := hP
  have hD : va_D A (W_F f_0 f_bytes_a f_starts_a f_ends_a f_bytes_k f_starts_k f_ends_k f_bytes f_starts f_ends f_length f_wide f_high f_layerCount (0 : Int32)) := hD
  refine lv_aload_n hx hb d_Fil_failure_5 rfl (lv_at hl 0 rfl) ?_
  obtain ⟨z3, hz3, h⟩ := ob h
  refine x_goI (res := z3.1) (w1 := (W_F f_0 f_bytes_a f_starts_a f_ends_a f_bytes_k f_starts_k f_ends_k f_bytes f_starts f_ends f_length z3.2.1 z3.2.2.1 z3.2.2.2.1 z3.2.2.2.2)) (ws' := (W_F f_0 f_bytes_a f_starts_a f_ends_a f_bytes_k f_starts_k f_ends_k f_bytes f_starts f_ends f_length z3.2.1 z3.2.2.1 z3.2.2.2.1 z3.2.2.2.2)) (wr := List.filterMap (fun (i : Nat) => (W_F f_0 f_bytes_a f_starts_a f_ends_a f_bytes_k f_starts_k f_ends_k f_bytes f_starts f_ends f_length f_wide f_high f_layerCount (0 : Int32))[i]?) ([] : List Nat)) (va_runV (As := []) (rest := []) ⟨hx, hb, hml, hown, hts⟩ (c_Fil_passHead l dC dI f_0 f_bytes_a f_starts_a f_ends_a f_bytes_k f_starts_k f_ends_k  f_bytes f_starts f_ends f_length f_wide f_high f_layerCount (0 : Int32) z3  hz3 H.size) ⟨callB_of 0 hts (gT tt537 TT_good) rfl rfl rfl (hts _ tt47) (hts _ tt534) (by decide +kernel) ⟨Nat.le_of_ble_eq_true rfl, Nat.le_of_ble_eq_true rfl⟩, hts _ tt536, hts _ tt13⟩ (x_preV (q := (R_Fil, F_Fil, 8)) (As := []) (x_pre (wc := (W_F f_0 f_bytes_a f_starts_a f_ends_a f_bytes_k f_starts_k f_ends_k f_bytes f_starts f_ends f_length f_wide f_high f_layerCount (0 : Int32))) (av := (.ref f_0 :: [])) hK hP hD hS hA hG [0, 1, 2] [0, 1, 2, 3] rfl rfl (by decide)) hK hP (q0 := 0) rfl rfl) rfl rfl hl.1 rfl (lv_room (Nat.le_of_ble_eq_true rfl)) d_Fil_failure_6 ⟨Nat.zero_le _, Nat.zero_le _⟩) hP hD hS hA [0, 1, 2, 3] [] [0, 1, 2, 3] rfl rfl (by decide) (by decide) (by decide) rfl (fun H locs hP hD hS => ?_)
  refine lv_if_ne (tgt := 17) hx hb d_Fil_failure_9 rfl (fun hc => ?_) (fun hc => ?_)
  · replace h := of hc h
    refine lv_iconst (v := (0 : Int32)) hx hb d_Fil_failure_17 (by decide) ?_
    refine lv_istore_n (lv' := [(1, .int (0 : Int32)), (0, .ref f_0)]) hx hb d_Fil_failure_18 rfl hl (by decide) rfl (fun ls hl => ?_)
    exact L19 5000 (0 : Int32) f_starts f_ends z3.2.1 z3.2.2.1 z3.2.2.2.1 z3.2.2.2.2 H locs ls (lv_sub hl [1, 0] rfl) hP hD hS h
  · replace h := ot hc h
    refine lv_aload_n hx hb d_Fil_failure_12 rfl (lv_at hl 0 rfl) ?_
    refine va_get (D := (dC, dI)) (ci := 2) (v := .int z3.2.2.2.2) (C := R_Fil) (T := F_Fil) (N := 8) hx hb hts in_Fil hown hK hP 0 rfl rfl 7 (by decide) (hts _ tt111) (fun _ h9 => h9) rfl d_Fil_failure_13 ?_
    obtain rfl := Option.some.inj h
    exact hret H locs 16 ls d_Fil_failure_16 (vp_nar_int _) hP hD hS
