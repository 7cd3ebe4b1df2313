theorem d_Mod_told_0 : decode b_Mod_told 0 = .ok (.aload_n 0, 1) := by decide +kernel
theorem d_Mod_told_1 : decode b_Mod_told 1 = .ok (.iload_n 1, 1) := by decide +kernel
theorem d_Mod_told_2 : decode b_Mod_told 2 = .ok (.iconst (0), 1) := by decide +kernel
theorem d_Mod_told_3 : decode b_Mod_told 3 = .ok (.iconst (2), 1) := by decide +kernel
theorem d_Mod_told_4 : decode b_Mod_told 4 = .ok (.invokestatic 59, 3) := by decide +kernel
theorem d_Mod_told_7 : decode b_Mod_told 7 = .ok (.ifCond .ne (7), 3) := by decide +kernel
theorem d_Mod_told_10 : decode b_Mod_told 10 = .ok (.iconst (1), 1) := by decide +kernel
theorem d_Mod_told_11 : decode b_Mod_told 11 = .ok (.goto (15), 3) := by decide +kernel
theorem d_Mod_told_14 : decode b_Mod_told 14 = .ok (.aload_n 0, 1) := by decide +kernel
theorem d_Mod_told_15 : decode b_Mod_told 15 = .ok (.getfield 146, 3) := by decide +kernel
theorem d_Mod_told_18 : decode b_Mod_told 18 = .ok (.ifCond .eq (7), 3) := by decide +kernel
theorem d_Mod_told_21 : decode b_Mod_told 21 = .ok (.iconst (0), 1) := by decide +kernel
theorem d_Mod_told_22 : decode b_Mod_told 22 = .ok (.goto (4), 3) := by decide +kernel
theorem d_Mod_told_25 : decode b_Mod_told 25 = .ok (.iconst (2), 1) := by decide +kernel
theorem d_Mod_told_26 : decode b_Mod_told 26 = .ok (.putfield 56, 3) := by decide +kernel
theorem d_Mod_told_29 : decode b_Mod_told 29 = .ok (.aload_n 0, 1) := by decide +kernel
theorem d_Mod_told_30 : decode b_Mod_told 30 = .ok (.getfield 56, 3) := by decide +kernel
theorem d_Mod_told_33 : decode b_Mod_told 33 = .ok (.ifCond .le (7), 3) := by decide +kernel
theorem d_Mod_told_36 : decode b_Mod_told 36 = .ok (.iconst (0), 1) := by decide +kernel
theorem d_Mod_told_37 : decode b_Mod_told 37 = .ok (.goto (30), 3) := by decide +kernel
theorem d_Mod_told_40 : decode b_Mod_told 40 = .ok (.iload_n 1, 1) := by decide +kernel
theorem d_Mod_told_41 : decode b_Mod_told 41 = .ok (.ifCond .ne (10), 3) := by decide +kernel
theorem d_Mod_told_44 : decode b_Mod_told 44 = .ok (.aload_n 0, 1) := by decide +kernel
theorem d_Mod_told_45 : decode b_Mod_told 45 = .ok (.getfield 149, 3) := by decide +kernel
theorem d_Mod_told_48 : decode b_Mod_told 48 = .ok (.goto (19), 3) := by decide +kernel
theorem d_Mod_told_51 : decode b_Mod_told 51 = .ok (.iload_n 1, 1) := by decide +kernel
theorem d_Mod_told_52 : decode b_Mod_told 52 = .ok (.iconst (1), 1) := by decide +kernel
theorem d_Mod_told_53 : decode b_Mod_told 53 = .ok (.if_icmp .ne (10), 3) := by decide +kernel
theorem d_Mod_told_56 : decode b_Mod_told 56 = .ok (.aload_n 0, 1) := by decide +kernel
theorem d_Mod_told_57 : decode b_Mod_told 57 = .ok (.getfield 152, 3) := by decide +kernel
theorem d_Mod_told_60 : decode b_Mod_told 60 = .ok (.goto (7), 3) := by decide +kernel
theorem d_Mod_told_63 : decode b_Mod_told 63 = .ok (.aload_n 0, 1) := by decide +kernel
theorem d_Mod_told_64 : decode b_Mod_told 64 = .ok (.getfield 155, 3) := by decide +kernel
theorem d_Mod_told_67 : decode b_Mod_told 67 = .ok (.ireturn, 1) := by decide +kernel
def q_Mod_told_26 (i_what : Int32) (m_any : Int32) (m_decisions : Int32) (m_plains : Int32) (m_doubles : Int32)  (k1_26 : Int32) (m_code_26 : Int32) : Option (Int32 × Int32) := (if k1_26 ≤ 0 then (if i_what = 0 then some (m_decisions, k1_26) else (if i_what = (1 : Int32) then some (m_plains, k1_26) else some (m_doubles, k1_26))) else some ((0 : Int32), k1_26))
def q_Mod_told (i_what : Int32) (m_code : Int32) (m_any : Int32) (m_decisions : Int32) (m_plains : Int32) (m_doubles : Int32) : Option (Int32 × Int32) := ((q_Mod_within i_what (0 : Int32) (2 : Int32)).bind fun z1 => (if z1 = 0 then (q_Mod_told_26 i_what m_any m_decisions m_plains m_doubles  (1 : Int32) m_code) else (if m_any = 0 then (q_Mod_told_26 i_what m_any m_decisions m_plains m_doubles  (2 : Int32) m_code) else (q_Mod_told_26 i_what m_any m_decisions m_plains m_doubles  (0 : Int32) m_code))))
abbrev rm_Mod_told : Room := { frames := 1, cells := 0, slots := 0, locals := 22 }
set_option maxHeartbeats 4000000 in
set_option maxRecDepth 100000 in
theorem c_Mod_told (l : Launch) (dC : Nat → ClassId) (dI : Nat → Nat → Nat) (m_0 m_picture_a m_file_a m_layers_a m_wide_a m_high_a m_half_a m_states_a m_favourites_a m_quotas_a m_digits_a m_draft_a m_given_a m_begins_a : Nat) (m_picture_k m_file_k m_layers_k m_wide_k m_high_k m_half_k m_states_k m_favourites_k m_quotas_k m_digits_k m_draft_k m_given_k m_begins_k : ClassId) (i_what : Int32) (m_code : Int32) (m_width : Int32) (m_height : Int32) (m_picture : Nat → Int32) (m_length : Int32) (m_file : Nat → Int32) (m_any : Int32) (m_decisions : Int32) (m_plains : Int32) (m_doubles : Int32) (m_layers : Nat → Int32) (m_wide : Nat → Int32) (m_high : Nat → Int32) (m_half : Nat → Int32) (m_states : Nat → Int32) (m_favourites : Nat → Int32) (m_quotas : Nat → Int32) (m_span : Int32) (m_nowDecisions : Int32) (m_nowPlains : Int32) (m_nowDoubles : Int32) (m_digits : Nat → Int32) (m_digitCount : Int32) (m_draft : Nat → Int32) (m_draftSize : Int32) (m_taking : Int32) (m_given : Nat → Int32) (m_givenSize : Int32) (m_next : Int32) (m_above : Int32) (m_begins : Nat → Int32) (m_layerCount : Int32) (m_newWidth : Int32) (m_newHeight : Int32) (z : Int32 × Int32)  (hq : q_Mod_told i_what m_code m_any m_decisions m_plains m_doubles = some z) (sz : Nat) : MetI l y_Mod_told b_Mod_told 2 .int TT rm_Mod_told (dC, dI) vcl [(m_picture_k, .int), (m_file_k, .int), (m_layers_k, .int), (m_wide_k, .int), (m_high_k, .int), (m_half_k, .int), (m_states_k, .int), (m_favourites_k, .int), (m_quotas_k, .int), (m_digits_k, .int), (m_draft_k, .int), (m_given_k, .int), (m_begins_k, .int)] (W_X m_0 m_picture_a m_file_a m_layers_a m_wide_a m_high_a m_half_a m_states_a m_favourites_a m_quotas_a m_digits_a m_draft_a m_given_a m_begins_a m_picture_k m_file_k m_layers_k m_wide_k m_high_k m_half_k m_states_k m_favourites_k m_quotas_k m_digits_k m_draft_k m_given_k m_begins_k m_code m_width m_height m_picture m_length m_file m_any m_decisions m_plains m_doubles m_layers m_wide m_high m_half m_states m_favourites m_quotas m_span m_nowDecisions m_nowPlains m_nowDoubles m_digits m_digitCount m_draft m_draftSize m_taking m_given m_givenSize m_next m_above m_begins m_layerCount m_newWidth m_newHeight) (W_X m_0 m_picture_a m_file_a m_layers_a m_wide_a m_high_a m_half_a m_states_a m_favourites_a m_quotas_a m_digits_a m_draft_a m_given_a m_begins_a m_picture_k m_file_k m_layers_k m_wide_k m_high_k m_half_k m_states_k m_favourites_k m_quotas_k m_digits_k m_draft_k m_given_k m_begins_k z.2 m_width m_height m_picture m_length m_file m_any m_decisions m_plains m_doubles m_layers m_wide m_high m_half m_states m_favourites m_quotas m_span m_nowDecisions m_nowPlains m_nowDoubles m_digits m_digitCount m_draft m_draftSize m_taking m_given m_givenSize m_next m_above m_begins m_layerCount m_newWidth m_newHeight) [.ref m_0, .int i_what] z.1 sz := by
  refine x_ofI (by decide) (Nat.le_of_ble_eq_true rfl) ?_ sz
  intro p e s m args below meth c A Q ls hx hb hml hown hts hA hG hK hP hD hS hl hret
  have hown : s.vm.findClass R_Mod = some m.cls := hown
  have hl : lv_has ls 2 [(0, .ref m_0), (1, .int i_what)] := hl
  obtain ⟨⟨tq, hZ, hTq⟩, hN⟩ := id hG
  obtain ⟨H, hH⟩ : ∃ H, H = s.heap := ⟨_, rfl⟩
  obtain ⟨locs, hlocs⟩ : ∃ locs : List Loc, locs = [] := ⟨_, rfl⟩
  rw [← hH] at hP
  have hS : va_S A s.heap H locs := by rw [hH, hlocs]; exact hS
  suffices hgo : W p l e rm_Mod_told s m args below meth c H locs 0 0 Q (F0 m 0 ls []) by rw [hH, hlocs] at hgo; exact hgo
  unfold q_Mod_told at hq
  have L26 : ∀ (k1_26 : Int32) (m_code_26 : Int32) (H : Heap) (locs : List Loc) (ls : Array Slot), lv_has ls 2 [(0, .ref m_0), (1, .int i_what)] → va_P (dC, dI) vcl (W_X m_0 m_picture_a m_file_a m_layers_a m_wide_a m_high_a m_half_a m_states_a m_favourites_a m_quotas_a m_digits_a m_draft_a m_given_a m_begins_a m_picture_k m_file_k m_layers_k m_wide_k m_high_k m_half_k m_states_k m_favourites_k m_quotas_k m_digits_k m_draft_k m_given_k m_begins_k m_code_26 m_width m_height m_picture m_length m_file m_any m_decisions m_plains m_doubles m_layers m_wide m_high m_half m_states m_favourites m_quotas m_span m_nowDecisions m_nowPlains m_nowDoubles m_digits m_digitCount m_draft m_draftSize m_taking m_given m_givenSize m_next m_above m_begins m_layerCount m_newWidth m_newHeight) H → va_D A (W_X m_0 m_picture_a m_file_a m_layers_a m_wide_a m_high_a m_half_a m_states_a m_favourites_a m_quotas_a m_digits_a m_draft_a m_given_a m_begins_a m_picture_k m_file_k m_layers_k m_wide_k m_high_k m_half_k m_states_k m_favourites_k m_quotas_k m_digits_k m_draft_k m_given_k m_begins_k m_code_26 m_width m_height m_picture m_length m_file m_any m_decisions m_plains m_doubles m_layers m_wide m_high m_half m_states m_favourites m_quotas m_span m_nowDecisions m_nowPlains m_nowDoubles m_digits m_digitCount m_draft m_draftSize m_taking m_given m_givenSize m_next m_above m_begins m_layerCount m_newWidth m_newHeight) → va_S A s.heap H locs → q_Mod_told_26 i_what m_any m_decisions m_plains m_doubles  k1_26 m_code_26 = some z → W p l e rm_Mod_told s m args below meth c H locs 0 0 Q (F0 m 26 ls [.int k1_26, .ref m_0]) := by
    intro k1_26 m_code_26 H locs ls hl hP hD hS hq26
    unfold q_Mod_told_26 at hq26
    have h := hq26
    refine va_put (D := (dC, dI)) (ci := 7) (v := .int k1_26) (ty := .int) (C := R_Mod) (T := F_Mod) (N := 34) hx hb hts in_Mod t_Mod t_Mod_ok n_Mod hown hK hP hD hS 0 rfl rfl 0 (by decide) (hts _ tt637) (fun _ h9 => h9) rfl (by decide +kernel) rfl rfl (Nat.le_of_ble_eq_true rfl) d_Mod_told_26 (fun H locs hP hD hS => ?_)
    have hP : va_P (dC, dI) vcl (W_X m_0 m_picture_a m_file_a m_layers_a m_wide_a m_high_a m_half_a m_states_a m_favourites_a m_quotas_a m_digits_a m_draft_a m_given_a m_begins_a m_picture_k m_file_k m_layers_k m_wide_k m_high_k m_half_k m_states_k m_favourites_k m_quotas_k m_digits_k m_draft_k m_given_k m_begins_k k1_26 m_width m_height m_picture m_length m_file m_any m_decisions m_plains m_doubles m_layers m_wide m_high m_half m_states m_favourites m_quotas m_span m_nowDecisions m_nowPlains m_nowDoubles m_digits m_digitCount m_draft m_draftSize m_taking m_given m_givenSize m_next m_above m_begins m_layerCount m_newWidth m_newHeight) H := hP
    have hD : va_D A (W_X m_0 m_picture_a m_file_a m_layers_a m_wide_a m_high_a m_half_a m_states_a m_favourites_a m_quotas_a m_digits_a m_draft_a m_given_a m_begins_a m_picture_k m_file_k m_layers_k m_wide_k m_high_k m_half_k m_states_k m_favourites_k m_quotas_k m_digits_k m_draft_k m_given_k m_begins_k k1_26 m_width m_height m_picture m_length m_file m_any m_decisions m_plains m_doubles m_layers m_wide m_high m_half m_states m_favourites m_quotas m_span m_nowDecisions m_nowPlains m_nowDoubles m_digits m_digitCount m_draft m_draftSize m_taking m_given m_givenSize m_next m_above m_begins m_layerCount m_newWidth m_newHeight) := hD
    refine lv_aload_n hx hb d_Mod_told_29 rfl (lv_at hl 0 rfl) ?_
    refine va_get (D := (dC, dI)) (ci := 7) (v := .int k1_26) (C := R_Mod) (T := F_Mod) (N := 34) hx hb hts in_Mod hown hK hP 0 rfl rfl 0 (by decide) (hts _ tt637) (fun _ h9 => h9) rfl d_Mod_told_30 ?_
    refine lv_if_le (tgt := 40) hx hb d_Mod_told_33 rfl (fun hc => ?_) (fun hc => ?_)
    · replace h := ot hc h
      refine lv_iload_n hx hb d_Mod_told_40 rfl (lv_at hl 1 rfl) ?_
      refine lv_if_ne (tgt := 51) hx hb d_Mod_told_41 rfl (fun hc => ?_) (fun hc => ?_)
      · replace h := of hc h
        refine lv_iload_n hx hb d_Mod_told_51 rfl (lv_at hl 1 rfl) ?_
        refine lv_iconst (v := (1 : Int32)) hx hb d_Mod_told_52 (by decide) ?_
        refine lv_icmp_ne (tgt := 63) hx hb d_Mod_told_53 rfl (fun hc => ?_) (fun hc => ?_)
        · replace h := of hc h
          refine lv_aload_n hx hb d_Mod_told_63 rfl (lv_at hl 0 rfl) ?_
          refine va_get (D := (dC, dI)) (ci := 7) (v := .int m_doubles) (C := R_Mod) (T := F_Mod) (N := 34) hx hb hts in_Mod hown hK hP 0 rfl rfl 9 (by decide) (hts _ tt646) (fun _ h9 => h9) rfl d_Mod_told_64 ?_
          obtain rfl := Option.some.inj h
          exact hret H locs 67 ls d_Mod_told_67 (vp_nar_int _) hP hD hS
        · replace h := ot hc h
          refine lv_aload_n hx hb d_Mod_told_56 rfl (lv_at hl 0 rfl) ?_
          refine va_get (D := (dC, dI)) (ci := 7) (v := .int m_plains) (C := R_Mod) (T := F_Mod) (N := 34) hx hb hts in_Mod hown hK hP 0 rfl rfl 8 (by decide) (hts _ tt645) (fun _ h9 => h9) rfl d_Mod_told_57 ?_
          refine lv_goto (tgt := 67) hx hb d_Mod_told_60 rfl ?_
          obtain rfl := Option.some.inj h
          exact hret H locs 67 ls d_Mod_told_67 (vp_nar_int _) hP hD hS
      · replace h := ot hc h
        refine lv_aload_n hx hb d_Mod_told_44 rfl (lv_at hl 0 rfl) ?_
        refine va_get (D := (dC, dI)) (ci := 7) (v := .int m_decisions) (C := R_Mod) (T := F_Mod) (N := 34) hx hb hts in_Mod hown hK hP 0 rfl rfl 7 (by decide) (hts _ tt644) (fun _ h9 => h9) rfl d_Mod_told_45 ?_
        refine lv_goto (tgt := 67) hx hb d_Mod_told_48 rfl ?_
        obtain rfl := Option.some.inj h
        exact hret H locs 67 ls d_Mod_told_67 (vp_nar_int _) hP hD hS
    · replace h := of hc h
      refine lv_iconst (v := (0 : Int32)) hx hb d_Mod_told_36 (by decide) ?_
      refine lv_goto (tgt := 67) hx hb d_Mod_told_37 rfl ?_
      obtain rfl := Option.some.inj h
      exact hret H locs 67 ls d_Mod_told_67 (vp_nar_int _) hP hD hS
  have h := hq
  refine lv_aload_n hx hb d_Mod_told_0 rfl (lv_at hl 0 rfl) ?_
  refine lv_iload_n hx hb d_Mod_told_1 rfl (lv_at hl 1 rfl) ?_
  refine lv_iconst (v := (0 : Int32)) hx hb d_Mod_told_2 (by decide) ?_
  refine lv_iconst (v := (2 : Int32)) hx hb d_Mod_told_3 (by decide) ?_
  obtain ⟨z1, hz1, h⟩ := ob h
  refine x_goI (res := z1) (w1 := (W_0  )) (ws' := (W_X m_0 m_picture_a m_file_a m_layers_a m_wide_a m_high_a m_half_a m_states_a m_favourites_a m_quotas_a m_digits_a m_draft_a m_given_a m_begins_a m_picture_k m_file_k m_layers_k m_wide_k m_high_k m_half_k m_states_k m_favourites_k m_quotas_k m_digits_k m_draft_k m_given_k m_begins_k m_code m_width m_height m_picture m_length m_file m_any m_decisions m_plains m_doubles m_layers m_wide m_high m_half m_states m_favourites m_quotas m_span m_nowDecisions m_nowPlains m_nowDoubles m_digits m_digitCount m_draft m_draftSize m_taking m_given m_givenSize m_next m_above m_begins m_layerCount m_newWidth m_newHeight)) (wr := List.filterMap (fun (i : Nat) => (W_X m_0 m_picture_a m_file_a m_layers_a m_wide_a m_high_a m_half_a m_states_a m_favourites_a m_quotas_a m_digits_a m_draft_a m_given_a m_begins_a m_picture_k m_file_k m_layers_k m_wide_k m_high_k m_half_k m_states_k m_favourites_k m_quotas_k m_digits_k m_draft_k m_given_k m_begins_k m_code m_width m_height m_picture m_length m_file m_any m_decisions m_plains m_doubles m_layers m_wide m_high m_half m_states m_favourites m_quotas m_span m_nowDecisions m_nowPlains m_nowDoubles m_digits m_digitCount m_draft m_draftSize m_taking m_given m_givenSize m_next m_above m_begins m_layerCount m_newWidth m_newHeight)[i]?) ([0, 1, 2, 3, 4, 5, 6, 7, 8, 9, 10, 11, 12, 13] : List Nat)) (va_runS (As := [.int i_what, .int (0 : Int32), .int (2 : Int32)]) (rest := [.ref m_0]) ⟨hx, hb, hml, hown, hts⟩ (c_Mod_within l dC dI  i_what (0 : Int32) (2 : Int32)  z1  hz1 H.size) ⟨callB_of 3 hts (gT tt750 TT_good) rfl rfl rfl (hts _ tt53) (hts _ tt748) (by decide +kernel) ⟨Nat.le_of_ble_eq_true rfl, Nat.le_of_ble_eq_true rfl⟩, hts _ tt749⟩ (x_pre (wc := (W_0  )) (av := [.int i_what, .int (0 : Int32), .int (2 : Int32)]) hK hP hD hS hA hG [] [] rfl rfl (by decide)) rfl rfl hl.1 rfl (lv_room (Nat.le_of_ble_eq_true rfl)) d_Mod_told_4 ⟨Nat.zero_le _, Nat.zero_le _⟩) hP hD hS hA [] [0, 1, 2, 3, 4, 5, 6, 7, 8, 9, 10, 11, 12, 13] [0, 1, 2, 3, 4, 5, 6, 7, 8, 9, 10, 11, 12, 13] rfl rfl (by decide) (by decide) (by decide) rfl (fun H locs hP hD hS => ?_)
  refine lv_if_ne (tgt := 14) hx hb d_Mod_told_7 rfl (fun hc => ?_) (fun hc => ?_)
  · replace h := of hc h
    refine lv_aload_n hx hb d_Mod_told_14 rfl (lv_at hl 0 rfl) ?_
    refine va_get (D := (dC, dI)) (ci := 7) (v := .int m_any) (C := R_Mod) (T := F_Mod) (N := 34) hx hb hts in_Mod hown hK hP 0 rfl rfl 6 (by decide) (hts _ tt643) (fun _ h9 => h9) rfl d_Mod_told_15 ?_
    refine lv_if_eq (tgt := 25) hx hb d_Mod_told_18 rfl (fun hc => ?_) (fun hc => ?_)
    · replace h := ot hc h
      refine lv_iconst (v := (2 : Int32)) hx hb d_Mod_told_25 (by decide) ?_
      exact L26 (2 : Int32) m_code H locs ls (lv_sub hl [0, 1] rfl) hP hD hS h
    · replace h := of hc h
      refine lv_iconst (v := (0 : Int32)) hx hb d_Mod_told_21 (by decide) ?_
      refine lv_goto (tgt := 26) hx hb d_Mod_told_22 rfl ?_
      exact L26 (0 : Int32) m_code H locs ls (lv_sub hl [0, 1] rfl) hP hD hS h
  · replace h := ot hc h
    refine lv_iconst (v := (1 : Int32)) hx hb d_Mod_told_10 (by decide) ?_
    refine lv_goto (tgt := 26) hx hb d_Mod_told_11 rfl ?_
    exact L26 (1 : Int32) m_code H locs ls (lv_sub hl [0, 1] rfl) hP hD hS h
theorem d_Mod_size_0 : decode b_Mod_size 0 = .ok (.aload_n 0, 1) := by decide +kernel
theorem d_Mod_size_1 : decode b_Mod_size 1 = .ok (.iconst (0), 1) := by decide +kernel
theorem d_Mod_size_2 : decode b_Mod_size 2 = .ok (.putfield 56, 3) := by decide +kernel
theorem d_Mod_size_5 : decode b_Mod_size 5 = .ok (.aload_n 0, 1) := by decide +kernel
theorem d_Mod_size_6 : decode b_Mod_size 6 = .ok (.getfield 178, 3) := by decide +kernel
theorem d_Mod_size_9 : decode b_Mod_size 9 = .ok (.ireturn, 1) := by decide +kernel
def q_Mod_size  (m_code : Int32) (m_length : Int32) : Option (Int32 × Int32) := some (m_length, (0 : Int32))
abbrev rm_Mod_size : Room := { frames := 0, cells := 0, slots := 0, locals := 0 }
set_option maxHeartbeats 4000000 in
set_option maxRecDepth 100000 in
theorem c_Mod_size (l : Launch) (dC : Nat → ClassId) (dI : Nat → Nat → Nat) (m_0 m_picture_a m_file_a m_layers_a m_wide_a m_high_a m_half_a m_states_a m_favourites_a m_quotas_a m_digits_a m_draft_a m_given_a m_begins_a : Nat) (m_picture_k m_file_k m_layers_k m_wide_k m_high_k m_half_k m_states_k m_favourites_k m_quotas_k m_digits_k m_draft_k m_given_k m_begins_k : ClassId)  (m_code : Int32) (m_width : Int32) (m_height : Int32) (m_picture : Nat → Int32) (m_length : Int32) (m_file : Nat → Int32) (m_any : Int32) (m_decisions : Int32) (m_plains : Int32) (m_doubles : Int32) (m_layers : Nat → Int32) (m_wide : Nat → Int32) (m_high : Nat → Int32) (m_half : Nat → Int32) (m_states : Nat → Int32) (m_favourites : Nat → Int32) (m_quotas : Nat → Int32) (m_span : Int32) (m_nowDecisions : Int32) (m_nowPlains : Int32) (m_nowDoubles : Int32) (m_digits : Nat → Int32) (m_digitCount : Int32) (m_draft : Nat → Int32) (m_draftSize : Int32) (m_taking : Int32) (m_given : Nat → Int32) (m_givenSize : Int32) (m_next : Int32) (m_above : Int32) (m_begins : Nat → Int32) (m_layerCount : Int32) (m_newWidth : Int32) (m_newHeight : Int32) (z : Int32 × Int32)  (hq : q_Mod_size m_code m_length = some z) (sz : Nat) : MetI l y_Mod_size b_Mod_size 1 .int TT rm_Mod_size (dC, dI) vcl [(m_picture_k, .int), (m_file_k, .int), (m_layers_k, .int), (m_wide_k, .int), (m_high_k, .int), (m_half_k, .int), (m_states_k, .int), (m_favourites_k, .int), (m_quotas_k, .int), (m_digits_k, .int), (m_draft_k, .int), (m_given_k, .int), (m_begins_k, .int)] (W_X m_0 m_picture_a m_file_a m_layers_a m_wide_a m_high_a m_half_a m_states_a m_favourites_a m_quotas_a m_digits_a m_draft_a m_given_a m_begins_a m_picture_k m_file_k m_layers_k m_wide_k m_high_k m_half_k m_states_k m_favourites_k m_quotas_k m_digits_k m_draft_k m_given_k m_begins_k m_code m_width m_height m_picture m_length m_file m_any m_decisions m_plains m_doubles m_layers m_wide m_high m_half m_states m_favourites m_quotas m_span m_nowDecisions m_nowPlains m_nowDoubles m_digits m_digitCount m_draft m_draftSize m_taking m_given m_givenSize m_next m_above m_begins m_layerCount m_newWidth m_newHeight) (W_X m_0 m_picture_a m_file_a m_layers_a m_wide_a m_high_a m_half_a m_states_a m_favourites_a m_quotas_a m_digits_a m_draft_a m_given_a m_begins_a m_picture_k m_file_k m_layers_k m_wide_k m_high_k m_half_k m_states_k m_favourites_k m_quotas_k m_digits_k m_draft_k m_given_k m_begins_k z.2 m_width m_height m_picture m_length m_file m_any m_decisions m_plains m_doubles m_layers m_wide m_high m_half m_states m_favourites m_quotas m_span m_nowDecisions m_nowPlains m_nowDoubles m_digits m_digitCount m_draft m_draftSize m_taking m_given m_givenSize m_next m_above m_begins m_layerCount m_newWidth m_newHeight) [.ref m_0] z.1 sz := by
  refine x_ofI (by decide) (Nat.le_of_ble_eq_true rfl) ?_ sz
  intro p e s m args below meth c A Q ls hx hb hml hown hts hA hG hK hP hD hS hl hret
  have hown : s.vm.findClass R_Mod = some m.cls := hown
  have hl : lv_has ls 1 [(0, .ref m_0)] := hl
  obtain ⟨⟨tq, hZ, hTq⟩, hN⟩ := id hG
  obtain ⟨H, hH⟩ : ∃ H, H = s.heap := ⟨_, rfl⟩
  obtain ⟨locs, hlocs⟩ : ∃ locs : List Loc, locs = [] := ⟨_, rfl⟩
  rw [← hH] at hP
  have hS : va_S A s.heap H locs := by rw [hH, hlocs]; exact hS
  suffices hgo : W p l e rm_Mod_size s m args below meth c H locs 0 0 Q (F0 m 0 ls []) by rw [hH, hlocs] at hgo; exact hgo
  unfold q_Mod_size at hq
  have h := hq
  refine lv_aload_n hx hb d_Mod_size_0 rfl (lv_at hl 0 rfl) ?_
  refine lv_iconst (v := (0 : Int32)) hx hb d_Mod_size_1 (by decide) ?_
  refine va_put (D := (dC, dI)) (ci := 7) (v := .int (0 : Int32)) (ty := .int) (C := R_Mod) (T := F_Mod) (N := 34) hx hb hts in_Mod t_Mod t_Mod_ok n_Mod hown hK hP hD hS 0 rfl rfl 0 (by decide) (hts _ tt637) (fun _ h9 => h9) rfl (by decide +kernel) rfl rfl (Nat.le_of_ble_eq_true rfl) d_Mod_size_2 (fun H locs hP hD hS => ?_)
  have hP : va_P (dC, dI) vcl (W_X m_0 m_picture_a m_file_a m_layers_a m_wide_a m_high_a m_half_a m_states_a m_favourites_a m_quotas_a m_digits_a m_draft_a m_given_a m_begins_a m_picture_k m_file_k m_layers_k m_wide_k m_high_k m_half_k m_states_k m_favourites_k m_quotas_k m_digits_k m_draft_k m_given_k m_begins_k (0 : Int32) m_width m_height m_picture m_length m_file m_any m_decisions m_plains m_doubles m_layers m_wide m_high m_half m_states m_favourites m_quotas m_span m_nowDecisions m_nowPlains m_nowDoubles m_digits m_digitCount m_draft m_draftSize m_taking m_given m_givenSize m_next m_above m_begins m_layerCount m_newWidth m_newHeight) H := hP
  have hD : va_D A (W_X m_0 m_picture_a m_file_a m_layers_a m_wide_a m_high_a m_half_a m_states_a m_favourites_a m_quotas_a m_digits_a m_draft_a m_given_a m_begins_a m_picture_k m_file_k m_layers_k m_wide_k m_high_k m_half_k m_states_k m_favourites_k m_quotas_k m_digits_k m_draft_k m_given_k m_begins_k (0 : Int32) m_width m_height m_picture m_length m_file m_any m_decisions m_plains m_doubles m_layers m_wide m_high m_half m_states m_favourites m_quotas m_span m_nowDecisions m_nowPlains m_nowDoubles m_digits m_digitCount m_draft m_draftSize m_taking m_given m_givenSize m_next m_above m_begins m_layerCount m_newWidth m_newHeight) := hD
  refine lv_aload_n hx hb d_Mod_size_5 rfl (lv_at hl 0 rfl) ?_
  refine va_get (D := (dC, dI)) (ci := 7) (v := .int m_length) (C := R_Mod) (T := F_Mod) (N := 34) hx hb hts in_Mod hown hK hP 0 rfl rfl 4 (by decide) (hts _ tt641) (fun _ h9 => h9) rfl d_Mod_size_6 ?_
  obtain rfl := Option.some.inj h
  exact hret H locs 9 ls d_Mod_size_9 (vp_nar_int _) hP hD hS
theorem d_Mod_byteAt_0 : decode b_Mod_byteAt 0 = .ok (.aload_n 0, 1) := by decide +kernel
theorem d_Mod_byteAt_1 : decode b_Mod_byteAt 1 = .ok (.iload_n 1, 1) := by decide +kernel
theorem d_Mod_byteAt_2 : decode b_Mod_byteAt 2 = .ok (.iconst (0), 1) := by decide +kernel
theorem d_Mod_byteAt_3 : decode b_Mod_byteAt 3 = .ok (.aload_n 0, 1) := by decide +kernel
theorem d_Mod_byteAt_4 : decode b_Mod_byteAt 4 = .ok (.getfield 178, 3) := by decide +kernel
theorem d_Mod_byteAt_7 : decode b_Mod_byteAt 7 = .ok (.iconst (1), 1) := by decide +kernel
theorem d_Mod_byteAt_8 : decode b_Mod_byteAt 8 = .ok (.isub, 1) := by decide +kernel
theorem d_Mod_byteAt_9 : decode b_Mod_byteAt 9 = .ok (.invokestatic 59, 3) := by decide +kernel
theorem d_Mod_byteAt_12 : decode b_Mod_byteAt 12 = .ok (.ifCond .eq (7), 3) := by decide +kernel
theorem d_Mod_byteAt_15 : decode b_Mod_byteAt 15 = .ok (.iconst (0), 1) := by decide +kernel
theorem d_Mod_byteAt_16 : decode b_Mod_byteAt 16 = .ok (.goto (4), 3) := by decide +kernel
theorem d_Mod_byteAt_19 : decode b_Mod_byteAt 19 = .ok (.iconst (1), 1) := by decide +kernel
theorem d_Mod_byteAt_20 : decode b_Mod_byteAt 20 = .ok (.putfield 56, 3) := by decide +kernel
theorem d_Mod_byteAt_23 : decode b_Mod_byteAt 23 = .ok (.aload_n 0, 1) := by decide +kernel
theorem d_Mod_byteAt_24 : decode b_Mod_byteAt 24 = .ok (.getfield 56, 3) := by decide +kernel
theorem d_Mod_byteAt_27 : decode b_Mod_byteAt 27 = .ok (.ifCond .le (7), 3) := by decide +kernel
theorem d_Mod_byteAt_30 : decode b_Mod_byteAt 30 = .ok (.iconst (0), 1) := by decide +kernel
theorem d_Mod_byteAt_31 : decode b_Mod_byteAt 31 = .ok (.goto (9), 3) := by decide +kernel
theorem d_Mod_byteAt_34 : decode b_Mod_byteAt 34 = .ok (.aload_n 0, 1) := by decide +kernel
theorem d_Mod_byteAt_35 : decode b_Mod_byteAt 35 = .ok (.getfield 20, 3) := by decide +kernel
theorem d_Mod_byteAt_38 : decode b_Mod_byteAt 38 = .ok (.iload_n 1, 1) := by decide +kernel
theorem d_Mod_byteAt_39 : decode b_Mod_byteAt 39 = .ok (.iaload, 1) := by decide +kernel
theorem d_Mod_byteAt_40 : decode b_Mod_byteAt 40 = .ok (.ireturn, 1) := by decide +kernel
def q_Mod_byteAt_20 (i_k : Int32) (m_length : Int32) (m_file : Nat → Int32)  (k1_20 : Int32) (m_code_20 : Int32) : Option (Int32 × Int32) := (if k1_20 ≤ 0 then (if vpb i_k 900 = true then some (m_file i_k.toNatClampNeg, k1_20) else none) else some ((0 : Int32), k1_20))
def q_Mod_byteAt (i_k : Int32) (m_code : Int32) (m_length : Int32) (m_file : Nat → Int32) : Option (Int32 × Int32) := ((q_Mod_within i_k (0 : Int32) (m_length - (1 : Int32))).bind fun z1 => (if z1 = 0 then (q_Mod_byteAt_20 i_k m_length m_file  (1 : Int32) m_code) else (q_Mod_byteAt_20 i_k m_length m_file  (0 : Int32) m_code)))
abbrev rm_Mod_byteAt : Room := { frames := 1, cells := 0, slots := 0, locals := 22 }
set_option maxHeartbeats 4000000 in
set_option maxRecDepth 100000 in
theorem c_Mod_byteAt (l : Launch) (dC : Nat → ClassId) (dI : Nat → Nat → Nat) (m_0 m_picture_a m_file_a m_layers_a m_wide_a m_high_a m_half_a m_states_a m_favourites_a m_quotas_a m_digits_a m_draft_a m_given_a m_begins_a : Nat) (m_picture_k m_file_k m_layers_k m_wide_k m_high_k m_half_k m_states_k m_favourites_k m_quotas_k m_digits_k m_draft_k m_given_k m_begins_k : ClassId) (i_k : Int32) (m_code : Int32) (m_width : Int32) (m_height : Int32) (m_picture : Nat → Int32) (m_length : Int32) (m_file : Nat → Int32) (m_any : Int32) (m_decisions : Int32) (m_plains : Int32) (m_doubles : Int32) (m_layers : Nat → Int32) (m_wide : Nat → Int32) (m_high : Nat → Int32) (m_half : Nat → Int32) (m_states : Nat → Int32) (m_favourites : Nat → Int32) (m_quotas : Nat → Int32) (m_span : Int32) (m_nowDecisions : Int32) (m_nowPlains : Int32) (m_nowDoubles : Int32) (m_digits : Nat → Int32) (m_digitCount : Int32) (m_draft : Nat → Int32) (m_draftSize : Int32) (m_taking : Int32) (m_given : Nat → Int32) (m_givenSize : Int32) (m_next : Int32) (m_above : Int32) (m_begins : Nat → Int32) (m_layerCount : Int32) (m_newWidth : Int32) (m_newHeight : Int32) (z : Int32 × Int32)  (hq : q_Mod_byteAt i_k m_code m_length m_file = some z) (sz : Nat) : MetI l y_Mod_byteAt b_Mod_byteAt 2 .int TT rm_Mod_byteAt (dC, dI) vcl [(m_picture_k, .int), (m_file_k, .int), (m_layers_k, .int), (m_wide_k, .int), (m_high_k, .int), (m_half_k, .int), (m_states_k, .int), (m_favourites_k, .int), (m_quotas_k, .int), (m_digits_k, .int), (m_draft_k, .int), (m_given_k, .int), (m_begins_k, .int)] (W_X m_0 m_picture_a m_file_a m_layers_a m_wide_a m_high_a m_half_a m_states_a m_favourites_a m_quotas_a m_digits_a m_draft_a m_given_a m_begins_a m_picture_k m_file_k m_layers_k m_wide_k m_high_k m_half_k m_states_k m_favourites_k m_quotas_k m_digits_k m_draft_k m_given_k m_begins_k m_code m_width m_height m_picture m_length m_file m_any m_decisions m_plains m_doubles m_layers m_wide m_high m_half m_states m_favourites m_quotas m_span m_nowDecisions m_nowPlains m_nowDoubles m_digits m_digitCount m_draft m_draftSize m_taking m_given m_givenSize m_next m_above m_begins m_layerCount m_newWidth m_newHeight) (W_X m_0 m_picture_a m_file_a m_layers_a m_wide_a m_high_a m_half_a m_states_a m_favourites_a m_quotas_a m_digits_a m_draft_a m_given_a m_begins_a m_picture_k m_file_k m_layers_k m_wide_k m_high_k m_half_k m_states_k m_favourites_k m_quotas_k m_digits_k m_draft_k m_given_k m_begins_k z.2 m_width m_height m_picture m_length m_file m_any m_decisions m_plains m_doubles m_layers m_wide m_high m_half m_states m_favourites m_quotas m_span m_nowDecisions m_nowPlains m_nowDoubles m_digits m_digitCount m_draft m_draftSize m_taking m_given m_givenSize m_next m_above m_begins m_layerCount m_newWidth m_newHeight) [.ref m_0, .int i_k] z.1 sz := by
  refine x_ofI (by decide) (Nat.le_of_ble_eq_true rfl) ?_ sz
  intro p e s m args below meth c A Q ls hx hb hml hown hts hA hG hK hP hD hS hl hret
  have hown : s.vm.findClass R_Mod = some m.cls := hown
  have hl : lv_has ls 2 [(0, .ref m_0), (1, .int i_k)] := hl
  obtain ⟨⟨tq, hZ, hTq⟩, hN⟩ := id hG
  obtain ⟨H, hH⟩ : ∃ H, H = s.heap := ⟨_, rfl⟩
  obtain ⟨locs, hlocs⟩ : ∃ locs : List Loc, locs = [] := ⟨_, rfl⟩
  rw [← hH] at hP
  have hS : va_S A s.heap H locs := by rw [hH, hlocs]; exact hS
  suffices hgo : W p l e rm_Mod_byteAt s m args below meth c H locs 0 0 Q (F0 m 0 ls []) by rw [hH, hlocs] at hgo; exact hgo
  unfold q_Mod_byteAt at hq
  have L20 : ∀ (k1_20 : Int32) (m_code_20 : Int32) (H : Heap) (locs : List Loc) (ls : Array Slot), lv_has ls 2 [(0, .ref m_0), (1, .int i_k)] → va_P (dC, dI) vcl (W_X m_0 m_picture_a m_file_a m_layers_a m_wide_a m_high_a m_half_a m_states_a m_favourites_a m_quotas_a m_digits_a m_draft_a m_given_a m_begins_a m_picture_k m_file_k m_layers_k m_wide_k m_high_k m_half_k m_states_k m_favourites_k m_quotas_k m_digits_k m_draft_k m_given_k m_begins_k m_code_20 m_width m_height m_picture m_length m_file m_any m_decisions m_plains m_doubles m_layers m_wide m_high m_half m_states m_favourites m_quotas m_span m_nowDecisions m_nowPlains m_nowDoubles m_digits m_digitCount m_draft m_draftSize m_taking m_given m_givenSize m_next m_above m_begins m_layerCount m_newWidth m_newHeight) H → va_D A (W_X m_0 m_picture_a m_file_a m_layers_a m_wide_a m_high_a m_half_a m_states_a m_favourites_a m_quotas_a m_digits_a m_draft_a m_given_a m_begins_a m_picture_k m_file_k m_layers_k m_wide_k m_high_k m_half_k m_states_k m_favourites_k m_quotas_k m_digits_k m_draft_k m_given_k m_begins_k m_code_20 m_width m_height m_picture m_length m_file m_any m_decisions m_plains m_doubles m_layers m_wide m_high m_half m_states m_favourites m_quotas m_span m_nowDecisions m_nowPlains m_nowDoubles m_digits m_digitCount m_draft m_draftSize m_taking m_given m_givenSize m_next m_above m_begins m_layerCount m_newWidth m_newHeight) → va_S A s.heap H locs → q_Mod_byteAt_20 i_k m_length m_file  k1_20 m_code_20 = some z → W p l e rm_Mod_byteAt s m args below meth c H locs 0 0 Q (F0 m 20 ls [.int k1_20, .ref m_0]) := by
    intro k1_20 m_code_20 H locs ls hl hP hD hS hq20
    unfold q_Mod_byteAt_20 at hq20
    have h := hq20
    refine va_put (D := (dC, dI)) (ci := 7) (v := .int k1_20) (ty := .int) (C := R_Mod) (T := F_Mod) (N := 34) hx hb hts in_Mod t_Mod t_Mod_ok n_Mod hown hK hP hD hS 0 rfl rfl 0 (by decide) (hts _ tt637) (fun _ h9 => h9) rfl (by decide +kernel) rfl rfl (Nat.le_of_ble_eq_true rfl) d_Mod_byteAt_20 (fun H locs hP hD hS => ?_)
    have hP : va_P (dC, dI) vcl (W_X m_0 m_picture_a m_file_a m_layers_a m_wide_a m_high_a m_half_a m_states_a m_favourites_a m_quotas_a m_digits_a m_draft_a m_given_a m_begins_a m_picture_k m_file_k m_layers_k m_wide_k m_high_k m_half_k m_states_k m_favourites_k m_quotas_k m_digits_k m_draft_k m_given_k m_begins_k k1_20 m_width m_height m_picture m_length m_file m_any m_decisions m_plains m_doubles m_layers m_wide m_high m_half m_states m_favourites m_quotas m_span m_nowDecisions m_nowPlains m_nowDoubles m_digits m_digitCount m_draft m_draftSize m_taking m_given m_givenSize m_next m_above m_begins m_layerCount m_newWidth m_newHeight) H := hP
    have hD : va_D A (W_X m_0 m_picture_a m_file_a m_layers_a m_wide_a m_high_a m_half_a m_states_a m_favourites_a m_quotas_a m_digits_a m_draft_a m_given_a m_begins_a m_picture_k m_file_k m_layers_k m_wide_k m_high_k m_half_k m_states_k m_favourites_k m_quotas_k m_digits_k m_draft_k m_given_k m_begins_k k1_20 m_width m_height m_picture m_length m_file m_any m_decisions m_plains m_doubles m_layers m_wide m_high m_half m_states m_favourites m_quotas m_span m_nowDecisions m_nowPlains m_nowDoubles m_digits m_digitCount m_draft m_draftSize m_taking m_given m_givenSize m_next m_above m_begins m_layerCount m_newWidth m_newHeight) := hD
    refine lv_aload_n hx hb d_Mod_byteAt_23 rfl (lv_at hl 0 rfl) ?_
    refine va_get (D := (dC, dI)) (ci := 7) (v := .int k1_20) (C := R_Mod) (T := F_Mod) (N := 34) hx hb hts in_Mod hown hK hP 0 rfl rfl 0 (by decide) (hts _ tt637) (fun _ h9 => h9) rfl d_Mod_byteAt_24 ?_
    refine lv_if_le (tgt := 34) hx hb d_Mod_byteAt_27 rfl (fun hc => ?_) (fun hc => ?_)
    · replace h := ot hc h
      refine lv_aload_n hx hb d_Mod_byteAt_34 rfl (lv_at hl 0 rfl) ?_
      refine va_get (D := (dC, dI)) (ci := 7) (v := .ref m_file_a) (C := R_Mod) (T := F_Mod) (N := 34) hx hb hts in_Mod hown hK hP 0 rfl rfl 5 (by decide) (hts _ tt642) (fun _ h9 => h9) rfl d_Mod_byteAt_35 ?_
      refine lv_iload_n hx hb d_Mod_byteAt_38 rfl (lv_at hl 1 rfl) ?_
      obtain ⟨hin, h⟩ := og h
      refine va_iald hx hb hK hP 2 1 rfl rfl (vpb_in hin) d_Mod_byteAt_39 ?_
      obtain rfl := Option.some.inj h
      exact hret H locs 40 ls d_Mod_byteAt_40 (vp_nar_int _) hP hD hS
    · replace h := of hc h
      refine lv_iconst (v := (0 : Int32)) hx hb d_Mod_byteAt_30 (by decide) ?_
      refine lv_goto (tgt := 40) hx hb d_Mod_byteAt_31 rfl ?_
      obtain rfl := Option.some.inj h
      exact hret H locs 40 ls d_Mod_byteAt_40 (vp_nar_int _) hP hD hS
  have h := hq
  refine lv_aload_n hx hb d_Mod_byteAt_0 rfl (lv_at hl 0 rfl) ?_
  refine lv_iload_n hx hb d_Mod_byteAt_1 rfl (lv_at hl 1 rfl) ?_
  refine lv_iconst (v := (0 : Int32)) hx hb d_Mod_byteAt_2 (by decide) ?_
  refine lv_aload_n hx hb d_Mod_byteAt_3 rfl (lv_at hl 0 rfl) ?_
  refine va_get (D := (dC, dI)) (ci := 7) (v := .int m_length) (C := R_Mod) (T := F_Mod) (N := 34) hx hb hts in_Mod hown hK hP 0 rfl rfl 4 (by decide) (hts _ tt641) (fun _ h9 => h9) rfl d_Mod_byteAt_4 ?_
  refine lv_iconst (v := (1 : Int32)) hx hb d_Mod_byteAt_7 (by decide) ?_
  refine lv_isub hx hb d_Mod_byteAt_8 ?_
  obtain ⟨z1, hz1, h⟩ := ob h
  refine x_goI (res := z1) (w1 := (W_0  )) (ws' := (W_X m_0 m_picture_a m_file_a m_layers_a m_wide_a m_high_a m_half_a m_states_a m_favourites_a m_quotas_a m_digits_a m_draft_a m_given_a m_begins_a m_picture_k m_file_k m_layers_k m_wide_k m_high_k m_half_k m_states_k m_favourites_k m_quotas_k m_digits_k m_draft_k m_given_k m_begins_k m_code m_width m_height m_picture m_length m_file m_any m_decisions m_plains m_doubles m_layers m_wide m_high m_half m_states m_favourites m_quotas m_span m_nowDecisions m_nowPlains m_nowDoubles m_digits m_digitCount m_draft m_draftSize m_taking m_given m_givenSize m_next m_above m_begins m_layerCount m_newWidth m_newHeight)) (wr := List.filterMap (fun (i : Nat) => (W_X m_0 m_picture_a m_file_a m_layers_a m_wide_a m_high_a m_half_a m_states_a m_favourites_a m_quotas_a m_digits_a m_draft_a m_given_a m_begins_a m_picture_k m_file_k m_layers_k m_wide_k m_high_k m_half_k m_states_k m_favourites_k m_quotas_k m_digits_k m_draft_k m_given_k m_begins_k m_code m_width m_height m_picture m_length m_file m_any m_decisions m_plains m_doubles m_layers m_wide m_high m_half m_states m_favourites m_quotas m_span m_nowDecisions m_nowPlains m_nowDoubles m_digits m_digitCount m_draft m_draftSize m_taking m_given m_givenSize m_next m_above m_begins m_layerCount m_newWidth m_newHeight)[i]?) ([0, 1, 2, 3, 4, 5, 6, 7, 8, 9, 10, 11, 12, 13] : List Nat)) (va_runS (As := [.int i_k, .int (0 : Int32), .int (m_length - (1 : Int32))]) (rest := [.ref m_0]) ⟨hx, hb, hml, hown, hts⟩ (c_Mod_within l dC dI  i_k (0 : Int32) (m_length - (1 : Int32))  z1  hz1 H.size) ⟨callB_of 3 hts (gT tt750 TT_good) rfl rfl rfl (hts _ tt53) (hts _ tt748) (by decide +kernel) ⟨Nat.le_of_ble_eq_true rfl, Nat.le_of_ble_eq_true rfl⟩, hts _ tt749⟩ (x_pre (wc := (W_0  )) (av := [.int i_k, .int (0 : Int32), .int (m_length - (1 : Int32))]) hK hP hD hS hA hG [] [] rfl rfl (by decide)) rfl rfl hl.1 rfl (lv_room (Nat.le_of_ble_eq_true rfl)) d_Mod_byteAt_9 ⟨Nat.zero_le _, Nat.zero_le _⟩) hP hD hS hA [] [0, 1, 2, 3, 4, 5, 6, 7, 8, 9, 10, 11, 12, 13] [0, 1, 2, 3, 4, 5, 6, 7, 8, 9, 10, 11, 12, 13] rfl rfl (by decide) (by decide) (by decide) rfl (fun H locs hP hD hS => ?_)
  refine lv_if_eq (tgt := 19) hx hb d_Mod_byteAt_12 rfl (fun hc => ?_) (fun hc => ?_)
  · replace h := ot hc h
    refine lv_iconst (v := (1 : Int32)) hx hb d_Mod_byteAt_19 (by decide) ?_
    exact L20 (1 : Int32) m_code H locs ls (lv_sub hl [0, 1] rfl) hP hD hS h
  · replace h := of hc h
    refine lv_iconst (v := (0 : Int32)) hx hb d_Mod_byteAt_15 (by decide) ?_
    refine lv_goto (tgt := 20) hx hb d_Mod_byteAt_16 rfl ?_
    exact L20 (0 : Int32) m_code H locs ls (lv_sub hl [0, 1] rfl) hP hD hS h
theorem d_Mod_poke_0 : decode b_Mod_poke 0 = .ok (.aload_n 0, 1) := by decide +kernel
theorem d_Mod_poke_1 : decode b_Mod_poke 1 = .ok (.iload_n 1, 1) := by decide +kernel
theorem d_Mod_poke_2 : decode b_Mod_poke 2 = .ok (.iconst (0), 1) := by decide +kernel
theorem d_Mod_poke_3 : decode b_Mod_poke 3 = .ok (.aload_n 0, 1) := by decide +kernel
theorem d_Mod_poke_4 : decode b_Mod_poke 4 = .ok (.getfield 178, 3) := by decide +kernel
theorem d_Mod_poke_7 : decode b_Mod_poke 7 = .ok (.iconst (1), 1) := by decide +kernel
theorem d_Mod_poke_8 : decode b_Mod_poke 8 = .ok (.isub, 1) := by decide +kernel
theorem d_Mod_poke_9 : decode b_Mod_poke 9 = .ok (.invokestatic 59, 3) := by decide +kernel
theorem d_Mod_poke_12 : decode b_Mod_poke 12 = .ok (.ifCond .ne (7), 3) := by decide +kernel
theorem d_Mod_poke_15 : decode b_Mod_poke 15 = .ok (.iconst (1), 1) := by decide +kernel
theorem d_Mod_poke_16 : decode b_Mod_poke 16 = .ok (.goto (19), 3) := by decide +kernel
theorem d_Mod_poke_19 : decode b_Mod_poke 19 = .ok (.iload_n 2, 1) := by decide +kernel
theorem d_Mod_poke_20 : decode b_Mod_poke 20 = .ok (.iconst (0), 1) := by decide +kernel
theorem d_Mod_poke_21 : decode b_Mod_poke 21 = .ok (.sipush (255), 3) := by decide +kernel
theorem d_Mod_poke_24 : decode b_Mod_poke 24 = .ok (.invokestatic 59, 3) := by decide +kernel
theorem d_Mod_poke_27 : decode b_Mod_poke 27 = .ok (.ifCond .eq (7), 3) := by decide +kernel
theorem d_Mod_poke_30 : decode b_Mod_poke 30 = .ok (.iconst (0), 1) := by decide +kernel
theorem d_Mod_poke_31 : decode b_Mod_poke 31 = .ok (.goto (4), 3) := by decide +kernel
theorem d_Mod_poke_34 : decode b_Mod_poke 34 = .ok (.iconst (2), 1) := by decide +kernel
theorem d_Mod_poke_35 : decode b_Mod_poke 35 = .ok (.putfield 56, 3) := by decide +kernel
theorem d_Mod_poke_38 : decode b_Mod_poke 38 = .ok (.aload_n 0, 1) := by decide +kernel
theorem d_Mod_poke_39 : decode b_Mod_poke 39 = .ok (.getfield 56, 3) := by decide +kernel
theorem d_Mod_poke_42 : decode b_Mod_poke 42 = .ok (.ifCond .ne (10), 3) := by decide +kernel
theorem d_Mod_poke_45 : decode b_Mod_poke 45 = .ok (.aload_n 0, 1) := by decide +kernel
theorem d_Mod_poke_46 : decode b_Mod_poke 46 = .ok (.getfield 20, 3) := by decide +kernel
theorem d_Mod_poke_49 : decode b_Mod_poke 49 = .ok (.iload_n 1, 1) := by decide +kernel
theorem d_Mod_poke_50 : decode b_Mod_poke 50 = .ok (.iload_n 2, 1) := by decide +kernel
theorem d_Mod_poke_51 : decode b_Mod_poke 51 = .ok (.iastore, 1) := by decide +kernel
theorem d_Mod_poke_52 : decode b_Mod_poke 52 = .ok (.return_, 1) := by decide +kernel
def q_Mod_poke_35 (i_k : Int32) (i_b : Int32) (m_length : Int32)  (k1_35 : Int32) (m_code_35 : Int32) (m_file_35 : Nat → Int32) : Option (Int32 × (Nat → Int32)) := (if k1_35 = 0 then (if vpb i_k 900 = true then some (k1_35, upd m_file_35 i_k.toNatClampNeg i_b) else none) else some (k1_35, m_file_35))
def q_Mod_poke (i_k : Int32) (i_b : Int32) (m_code : Int32) (m_length : Int32) (m_file : Nat → Int32) : Option (Int32 × (Nat → Int32)) := ((q_Mod_within i_k (0 : Int32) (m_length - (1 : Int32))).bind fun z1 => (if z1 = 0 then (q_Mod_poke_35 i_k i_b m_length  (1 : Int32) m_code m_file) else ((q_Mod_within i_b (0 : Int32) (255 : Int32)).bind fun z2 => (if z2 = 0 then (q_Mod_poke_35 i_k i_b m_length  (2 : Int32) m_code m_file) else (q_Mod_poke_35 i_k i_b m_length  (0 : Int32) m_code m_file)))))
abbrev rm_Mod_poke : Room := { frames := 1, cells := 0, slots := 0, locals := 22 }
set_option maxHeartbeats 4000000 in
set_option maxRecDepth 100000 in
theorem c_Mod_poke (l : Launch) (dC : Nat → ClassId) (dI : Nat → Nat → Nat) (m_0 m_picture_a m_file_a m_layers_a m_wide_a m_high_a m_half_a m_states_a m_favourites_a m_quotas_a m_digits_a m_draft_a m_given_a m_begins_a : Nat) (m_picture_k m_file_k m_layers_k m_wide_k m_high_k m_half_k m_states_k m_favourites_k m_quotas_k m_digits_k m_draft_k m_given_k m_begins_k : ClassId) (i_k : Int32) (i_b : Int32) (m_code : Int32) (m_width : Int32) (m_height : Int32) (m_picture : Nat → Int32) (m_length : Int32) (m_file : Nat → Int32) (m_any : Int32) (m_decisions : Int32) (m_plains : Int32) (m_doubles : Int32) (m_layers : Nat → Int32) (m_wide : Nat → Int32) (m_high : Nat → Int32) (m_half : Nat → Int32) (m_states : Nat → Int32) (m_favourites : Nat → Int32) (m_quotas : Nat → Int32) (m_span : Int32) (m_nowDecisions : Int32) (m_nowPlains : Int32) (m_nowDoubles : Int32) (m_digits : Nat → Int32) (m_digitCount : Int32) (m_draft : Nat → Int32) (m_draftSize : Int32) (m_taking : Int32) (m_given : Nat → Int32) (m_givenSize : Int32) (m_next : Int32) (m_above : Int32) (m_begins : Nat → Int32) (m_layerCount : Int32) (m_newWidth : Int32) (m_newHeight : Int32) (z : Int32 × (Nat → Int32))  (hq : q_Mod_poke i_k i_b m_code m_length m_file = some z) (sz : Nat) : MetV l y_Mod_poke b_Mod_poke 3 TT rm_Mod_poke (dC, dI) vcl [(m_picture_k, .int), (m_file_k, .int), (m_layers_k, .int), (m_wide_k, .int), (m_high_k, .int), (m_half_k, .int), (m_states_k, .int), (m_favourites_k, .int), (m_quotas_k, .int), (m_digits_k, .int), (m_draft_k, .int), (m_given_k, .int), (m_begins_k, .int)] (W_X m_0 m_picture_a m_file_a m_layers_a m_wide_a m_high_a m_half_a m_states_a m_favourites_a m_quotas_a m_digits_a m_draft_a m_given_a m_begins_a m_picture_k m_file_k m_layers_k m_wide_k m_high_k m_half_k m_states_k m_favourites_k m_quotas_k m_digits_k m_draft_k m_given_k m_begins_k m_code m_width m_height m_picture m_length m_file m_any m_decisions m_plains m_doubles m_layers m_wide m_high m_half m_states m_favourites m_quotas m_span m_nowDecisions m_nowPlains m_nowDoubles m_digits m_digitCount m_draft m_draftSize m_taking m_given m_givenSize m_next m_above m_begins m_layerCount m_newWidth m_newHeight) (W_X m_0 m_picture_a m_file_a m_layers_a m_wide_a m_high_a m_half_a m_states_a m_favourites_a m_quotas_a m_digits_a m_draft_a m_given_a m_begins_a m_picture_k m_file_k m_layers_k m_wide_k m_high_k m_half_k m_states_k m_favourites_k m_quotas_k m_digits_k m_draft_k m_given_k m_begins_k z.1 m_width m_height m_picture m_length z.2 m_any m_decisions m_plains m_doubles m_layers m_wide m_high m_half m_states m_favourites m_quotas m_span m_nowDecisions m_nowPlains m_nowDoubles m_digits m_digitCount m_draft m_draftSize m_taking m_given m_givenSize m_next m_above m_begins m_layerCount m_newWidth m_newHeight) [.ref m_0, .int i_k, .int i_b] sz := by
  refine x_ofV (by decide) (Nat.le_of_ble_eq_true rfl) ?_ sz
  intro p e s m args below meth c A Q ls hx hb hml hown hts hA hG hK hP hD hS hl hret
  have hown : s.vm.findClass R_Mod = some m.cls := hown
  have hl : lv_has ls 3 [(0, .ref m_0), (1, .int i_k), (2, .int i_b)] := hl
  obtain ⟨⟨tq, hZ, hTq⟩, hN⟩ := id hG
  obtain ⟨H, hH⟩ : ∃ H, H = s.heap := ⟨_, rfl⟩
  obtain ⟨locs, hlocs⟩ : ∃ locs : List Loc, locs = [] := ⟨_, rfl⟩
  rw [← hH] at hP
  have hS : va_S A s.heap H locs := by rw [hH, hlocs]; exact hS
  suffices hgo : W p l e rm_Mod_poke s m args below meth c H locs 0 0 Q (F0 m 0 ls []) by rw [hH, hlocs] at hgo; exact hgo
  unfold q_Mod_poke at hq
  have L35 : ∀ (k1_35 : Int32) (m_code_35 : Int32) (m_file_35 : Nat → Int32) (H : Heap) (locs : List Loc) (ls : Array Slot), lv_has ls 3 [(0, .ref m_0), (1, .int i_k), (2, .int i_b)] → va_P (dC, dI) vcl (W_X m_0 m_picture_a m_file_a m_layers_a m_wide_a m_high_a m_half_a m_states_a m_favourites_a m_quotas_a m_digits_a m_draft_a m_given_a m_begins_a m_picture_k m_file_k m_layers_k m_wide_k m_high_k m_half_k m_states_k m_favourites_k m_quotas_k m_digits_k m_draft_k m_given_k m_begins_k m_code_35 m_width m_height m_picture m_length m_file_35 m_any m_decisions m_plains m_doubles m_layers m_wide m_high m_half m_states m_favourites m_quotas m_span m_nowDecisions m_nowPlains m_nowDoubles m_digits m_digitCount m_draft m_draftSize m_taking m_given m_givenSize m_next m_above m_begins m_layerCount m_newWidth m_newHeight) H → va_D A (W_X m_0 m_picture_a m_file_a m_layers_a m_wide_a m_high_a m_half_a m_states_a m_favourites_a m_quotas_a m_digits_a m_draft_a m_given_a m_begins_a m_picture_k m_file_k m_layers_k m_wide_k m_high_k m_half_k m_states_k m_favourites_k m_quotas_k m_digits_k m_draft_k m_given_k m_begins_k m_code_35 m_width m_height m_picture m_length m_file_35 m_any m_decisions m_plains m_doubles m_layers m_wide m_high m_half m_states m_favourites m_quotas m_span m_nowDecisions m_nowPlains m_nowDoubles m_digits m_digitCount m_draft m_draftSize m_taking m_given m_givenSize m_next m_above m_begins m_layerCount m_newWidth m_newHeight) → va_S A s.heap H locs → q_Mod_poke_35 i_k i_b m_length  k1_35 m_code_35 m_file_35 = some z → W p l e rm_Mod_poke s m args below meth c H locs 0 0 Q (F0 m 35 ls [.int k1_35, .ref m_0]) := by
    intro k1_35 m_code_35 m_file_35 H locs ls hl hP hD hS hq35
    unfold q_Mod_poke_35 at hq35
    have h := hq35
    refine va_put (D := (dC, dI)) (ci := 7) (v := .int k1_35) (ty := .int) (C := R_Mod) (T := F_Mod) (N := 34) hx hb hts in_Mod t_Mod t_Mod_ok n_Mod hown hK hP hD hS 0 rfl rfl 0 (by decide) (hts _ tt637) (fun _ h9 => h9) rfl (by decide +kernel) rfl rfl (Nat.le_of_ble_eq_true rfl) d_Mod_poke_35 (fun H locs hP hD hS => ?_)
    have hP : va_P (dC, dI) vcl (W_X m_0 m_picture_a m_file_a m_layers_a m_wide_a m_high_a m_half_a m_states_a m_favourites_a m_quotas_a m_digits_a m_draft_a m_given_a m_begins_a m_picture_k m_file_k m_layers_k m_wide_k m_high_k m_half_k m_states_k m_favourites_k m_quotas_k m_digits_k m_draft_k m_given_k m_begins_k k1_35 m_width m_height m_picture m_length m_file_35 m_any m_decisions m_plains m_doubles m_layers m_wide m_high m_half m_states m_favourites m_quotas m_span m_nowDecisions m_nowPlains m_nowDoubles m_digits m_digitCount m_draft m_draftSize m_taking m_given m_givenSize m_next m_above m_begins m_layerCount m_newWidth m_newHeight) H := hP
    have hD : va_D A (W_X m_0 m_picture_a m_file_a m_layers_a m_wide_a m_high_a m_half_a m_states_a m_favourites_a m_quotas_a m_digits_a m_draft_a m_given_a m_begins_a m_picture_k m_file_k m_layers_k m_wide_k m_high_k m_half_k m_states_k m_favourites_k m_quotas_k m_digits_k m_draft_k m_given_k m_begins_k k1_35 m_width m_height m_picture m_length m_file_35 m_any m_decisions m_plains m_doubles m_layers m_wide m_high m_half m_states m_favourites m_quotas m_span m_nowDecisions m_nowPlains m_nowDoubles m_digits m_digitCount m_draft m_draftSize m_taking m_given m_givenSize m_next m_above m_begins m_layerCount m_newWidth m_newHeight) := hD
    refine lv_aload_n hx hb d_Mod_poke_38 rfl (lv_at hl 0 rfl) ?_
    refine va_get (D := (dC, dI)) (ci := 7) (v := .int k1_35) (C := R_Mod) (T := F_Mod) (N := 34) hx hb hts in_Mod hown hK hP 0 rfl rfl 0 (by decide) (hts _ tt637) (fun _ h9 => h9) rfl d_Mod_poke_39 ?_
    refine lv_if_ne (tgt := 52) hx hb d_Mod_poke_42 rfl (fun hc => ?_) (fun hc => ?_)
    · replace h := of hc h
      obtain rfl := Option.some.inj h
      exact hret H locs 52 ls d_Mod_poke_52 hP hD hS
    · replace h := ot hc h
      refine lv_aload_n hx hb d_Mod_poke_45 rfl (lv_at hl 0 rfl) ?_
      refine va_get (D := (dC, dI)) (ci := 7) (v := .ref m_file_a) (C := R_Mod) (T := F_Mod) (N := 34) hx hb hts in_Mod hown hK hP 0 rfl rfl 5 (by decide) (hts _ tt642) (fun _ h9 => h9) rfl d_Mod_poke_46 ?_
      refine lv_iload_n hx hb d_Mod_poke_49 rfl (lv_at hl 1 rfl) ?_
      refine lv_iload_n hx hb d_Mod_poke_50 rfl (lv_at hl 2 rfl) ?_
      obtain ⟨hin, h⟩ := og h
      refine va_iast hx hb hK hP hD hS 2 1 rfl rfl (vpb_in hin) d_Mod_poke_51 (fun H locs hP hD hS => ?_)
      have hP : va_P (dC, dI) vcl (W_X m_0 m_picture_a m_file_a m_layers_a m_wide_a m_high_a m_half_a m_states_a m_favourites_a m_quotas_a m_digits_a m_draft_a m_given_a m_begins_a m_picture_k m_file_k m_layers_k m_wide_k m_high_k m_half_k m_states_k m_favourites_k m_quotas_k m_digits_k m_draft_k m_given_k m_begins_k k1_35 m_width m_height m_picture m_length (upd m_file_35 i_k.toNatClampNeg i_b) m_any m_decisions m_plains m_doubles m_layers m_wide m_high m_half m_states m_favourites m_quotas m_span m_nowDecisions m_nowPlains m_nowDoubles m_digits m_digitCount m_draft m_draftSize m_taking m_given m_givenSize m_next m_above m_begins m_layerCount m_newWidth m_newHeight) H := hP
      have hD : va_D A (W_X m_0 m_picture_a m_file_a m_layers_a m_wide_a m_high_a m_half_a m_states_a m_favourites_a m_quotas_a m_digits_a m_draft_a m_given_a m_begins_a m_picture_k m_file_k m_layers_k m_wide_k m_high_k m_half_k m_states_k m_favourites_k m_quotas_k m_digits_k m_draft_k m_given_k m_begins_k k1_35 m_width m_height m_picture m_length (upd m_file_35 i_k.toNatClampNeg i_b) m_any m_decisions m_plains m_doubles m_layers m_wide m_high m_half m_states m_favourites m_quotas m_span m_nowDecisions m_nowPlains m_nowDoubles m_digits m_digitCount m_draft m_draftSize m_taking m_given m_givenSize m_next m_above m_begins m_layerCount m_newWidth m_newHeight) := hD
      obtain rfl := Option.some.inj h
      exact hret H locs 52 ls d_Mod_poke_52 hP hD hS
  have h := hq
  refine lv_aload_n hx hb d_Mod_poke_0 rfl (lv_at hl 0 rfl) ?_
  refine lv_iload_n hx hb d_Mod_poke_1 rfl (lv_at hl 1 rfl) ?_
  refine lv_iconst (v := (0 : Int32)) hx hb d_Mod_poke_2 (by decide) ?_
  refine lv_aload_n hx hb d_Mod_poke_3 rfl (lv_at hl 0 rfl) ?_
  refine va_get (D := (dC, dI)) (ci := 7) (v := .int m_length) (C := R_Mod) (T := F_Mod) (N := 34) hx hb hts in_Mod hown hK hP 0 rfl rfl 4 (by decide) (hts _ tt641) (fun _ h9 => h9) rfl d_Mod_poke_4 ?_
  refine lv_iconst (v := (1 : Int32)) hx hb d_Mod_poke_7 (by decide) ?_
  refine lv_isub hx hb d_Mod_poke_8 ?_
  obtain ⟨z1, hz1, h⟩ := ob h
  refine x_goI (res := z1) (w1 := (W_0  )) (ws' := (W_X m_0 m_picture_a m_file_a m_layers_a m_wide_a m_high_a m_half_a m_states_a m_favourites_a m_quotas_a m_digits_a m_draft_a m_given_a m_begins_a m_picture_k m_file_k m_layers_k m_wide_k m_high_k m_half_k m_states_k m_favourites_k m_quotas_k m_digits_k m_draft_k m_given_k m_begins_k m_code m_width m_height m_picture m_length m_file m_any m_decisions m_plains m_doubles m_layers m_wide m_high m_half m_states m_favourites m_quotas m_span m_nowDecisions m_nowPlains m_nowDoubles m_digits m_digitCount m_draft m_draftSize m_taking m_given m_givenSize m_next m_above m_begins m_layerCount m_newWidth m_newHeight)) (wr := List.filterMap (fun (i : Nat) => (W_X m_0 m_picture_a m_file_a m_layers_a m_wide_a m_high_a m_half_a m_states_a m_favourites_a m_quotas_a m_digits_a m_draft_a m_given_a m_begins_a m_picture_k m_file_k m_layers_k m_wide_k m_high_k m_half_k m_states_k m_favourites_k m_quotas_k m_digits_k m_draft_k m_given_k m_begins_k m_code m_width m_height m_picture m_length m_file m_any m_decisions m_plains m_doubles m_layers m_wide m_high m_half m_states m_favourites m_quotas m_span m_nowDecisions m_nowPlains m_nowDoubles m_digits m_digitCount m_draft m_draftSize m_taking m_given m_givenSize m_next m_above m_begins m_layerCount m_newWidth m_newHeight)[i]?) ([0, 1, 2, 3, 4, 5, 6, 7, 8, 9, 10, 11, 12, 13] : List Nat)) (va_runS (As := [.int i_k, .int (0 : Int32), .int (m_length - (1 : Int32))]) (rest := [.ref m_0]) ⟨hx, hb, hml, hown, hts⟩ (c_Mod_within l dC dI  i_k (0 : Int32) (m_length - (1 : Int32))  z1  hz1 H.size) ⟨callB_of 3 hts (gT tt750 TT_good) rfl rfl rfl (hts _ tt53) (hts _ tt748) (by decide +kernel) ⟨Nat.le_of_ble_eq_true rfl, Nat.le_of_ble_eq_true rfl⟩, hts _ tt749⟩ (x_pre (wc := (W_0  )) (av := [.int i_k, .int (0 : Int32), .int (m_length - (1 : Int32))]) hK hP hD hS hA hG [] [] rfl rfl (by decide)) rfl rfl hl.1 rfl (lv_room (Nat.le_of_ble_eq_true rfl)) d_Mod_poke_9 ⟨Nat.zero_le _, Nat.zero_le _⟩) hP hD hS hA [] [0, 1, 2, 3, 4, 5, 6, 7, 8, 9, 10, 11, 12, 13] [0, 1, 2, 3, 4, 5, 6, 7, 8, 9, 10, 11, 12, 13] rfl rfl (by decide) (by decide) (by decide) rfl (fun H locs hP hD hS => ?_)
  refine lv_if_ne (tgt := 19) hx hb d_Mod_poke_12 rfl (fun hc => ?_) (fun hc => ?_)
  · replace h := of hc h
    refine lv_iload_n hx hb d_Mod_poke_19 rfl (lv_at hl 2 rfl) ?_
    refine lv_iconst (v := (0 : Int32)) hx hb d_Mod_poke_20 (by decide) ?_
    refine lv_sipush (v := (255 : Int32)) hx hb d_Mod_poke_21 (by decide) ?_
    obtain ⟨z2, hz2, h⟩ := ob h
    refine x_goI (res := z2) (w1 := (W_0  )) (ws' := (W_X m_0 m_picture_a m_file_a m_layers_a m_wide_a m_high_a m_half_a m_states_a m_favourites_a m_quotas_a m_digits_a m_draft_a m_given_a m_begins_a m_picture_k m_file_k m_layers_k m_wide_k m_high_k m_half_k m_states_k m_favourites_k m_quotas_k m_digits_k m_draft_k m_given_k m_begins_k m_code m_width m_height m_picture m_length m_file m_any m_decisions m_plains m_doubles m_layers m_wide m_high m_half m_states m_favourites m_quotas m_span m_nowDecisions m_nowPlains m_nowDoubles m_digits m_digitCount m_draft m_draftSize m_taking m_given m_givenSize m_next m_above m_begins m_layerCount m_newWidth m_newHeight)) (wr := List.filterMap (fun (i : Nat) => (W_X m_0 m_picture_a m_file_a m_layers_a m_wide_a m_high_a m_half_a m_states_a m_favourites_a m_quotas_a m_digits_a m_draft_a m_given_a m_begins_a m_picture_k m_file_k m_layers_k m_wide_k m_high_k m_half_k m_states_k m_favourites_k m_quotas_k m_digits_k m_draft_k m_given_k m_begins_k m_code m_width m_height m_picture m_length m_file m_any m_decisions m_plains m_doubles m_layers m_wide m_high m_half m_states m_favourites m_quotas m_span m_nowDecisions m_nowPlains m_nowDoubles m_digits m_digitCount m_draft m_draftSize m_taking m_given m_givenSize m_next m_above m_begins m_layerCount m_newWidth m_newHeight)[i]?) ([0, 1, 2, 3, 4, 5, 6, 7, 8, 9, 10, 11, 12, 13] : List Nat)) (va_runS (As := [.int i_b, .int (0 : Int32), .int (255 : Int32)]) (rest := [.ref m_0]) ⟨hx, hb, hml, hown, hts⟩ (c_Mod_within l dC dI  i_b (0 : Int32) (255 : Int32)  z2  hz2 H.size) ⟨callB_of 3 hts (gT tt750 TT_good) rfl rfl rfl (hts _ tt53) (hts _ tt748) (by decide +kernel) ⟨Nat.le_of_ble_eq_true rfl, Nat.le_of_ble_eq_true rfl⟩, hts _ tt749⟩ (x_pre (wc := (W_0  )) (av := [.int i_b, .int (0 : Int32), .int (255 : Int32)]) hK hP hD hS hA hG [] [] rfl rfl (by decide)) rfl rfl hl.1 rfl (lv_room (Nat.le_of_ble_eq_true rfl)) d_Mod_poke_24 ⟨Nat.zero_le _, Nat.zero_le _⟩) hP hD hS hA [] [0, 1, 2, 3, 4, 5, 6, 7, 8, 9, 10, 11, 12, 13] [0, 1, 2, 3, 4, 5, 6, 7, 8, 9, 10, 11, 12, 13] rfl rfl (by decide) (by decide) (by decide) rfl (fun H locs hP hD hS => ?_)
    refine lv_if_eq (tgt := 34) hx hb d_Mod_poke_27 rfl (fun hc => ?_) (fun hc => ?_)
    · replace h := ot hc h
      refine lv_iconst (v := (2 : Int32)) hx hb d_Mod_poke_34 (by decide) ?_
      exact L35 (2 : Int32) m_code m_file H locs ls (lv_sub hl [0, 1, 2] rfl) hP hD hS h
    · replace h := of hc h
      refine lv_iconst (v := (0 : Int32)) hx hb d_Mod_poke_30 (by decide) ?_
      refine lv_goto (tgt := 35) hx hb d_Mod_poke_31 rfl ?_
      exact L35 (0 : Int32) m_code m_file H locs ls (lv_sub hl [0, 1, 2] rfl) hP hD hS h
  · replace h := ot hc h
    refine lv_iconst (v := (1 : Int32)) hx hb d_Mod_poke_15 (by decide) ?_
    refine lv_goto (tgt := 35) hx hb d_Mod_poke_16 rfl ?_
    exact L35 (1 : Int32) m_code m_file H locs ls (lv_sub hl [0, 1, 2] rfl) hP hD hS h
theorem d_Mod_cut_0 : decode b_Mod_cut 0 = .ok (.aload_n 0, 1) := by decide +kernel
theorem d_Mod_cut_1 : decode b_Mod_cut 1 = .ok (.iload_n 1, 1) := by decide +kernel
theorem d_Mod_cut_2 : decode b_Mod_cut 2 = .ok (.iconst (0), 1) := by decide +kernel
theorem d_Mod_cut_3 : decode b_Mod_cut 3 = .ok (.aload_n 0, 1) := by decide +kernel
theorem d_Mod_cut_4 : decode b_Mod_cut 4 = .ok (.getfield 178, 3) := by decide +kernel
theorem d_Mod_cut_7 : decode b_Mod_cut 7 = .ok (.invokestatic 59, 3) := by decide +kernel
theorem d_Mod_cut_10 : decode b_Mod_cut 10 = .ok (.ifCond .eq (7), 3) := by decide +kernel
theorem d_Mod_cut_13 : decode b_Mod_cut 13 = .ok (.iconst (0), 1) := by decide +kernel
theorem d_Mod_cut_14 : decode b_Mod_cut 14 = .ok (.goto (4), 3) := by decide +kernel
theorem d_Mod_cut_17 : decode b_Mod_cut 17 = .ok (.iconst (1), 1) := by decide +kernel
theorem d_Mod_cut_18 : decode b_Mod_cut 18 = .ok (.putfield 56, 3) := by decide +kernel
theorem d_Mod_cut_21 : decode b_Mod_cut 21 = .ok (.aload_n 0, 1) := by decide +kernel
theorem d_Mod_cut_22 : decode b_Mod_cut 22 = .ok (.aload_n 0, 1) := by decide +kernel
theorem d_Mod_cut_23 : decode b_Mod_cut 23 = .ok (.getfield 56, 3) := by decide +kernel
theorem d_Mod_cut_26 : decode b_Mod_cut 26 = .ok (.ifCond .le (10), 3) := by decide +kernel
theorem d_Mod_cut_29 : decode b_Mod_cut 29 = .ok (.aload_n 0, 1) := by decide +kernel
theorem d_Mod_cut_30 : decode b_Mod_cut 30 = .ok (.getfield 178, 3) := by decide +kernel
theorem d_Mod_cut_33 : decode b_Mod_cut 33 = .ok (.goto (4), 3) := by decide +kernel
theorem d_Mod_cut_36 : decode b_Mod_cut 36 = .ok (.iload_n 1, 1) := by decide +kernel
theorem d_Mod_cut_37 : decode b_Mod_cut 37 = .ok (.putfield 178, 3) := by decide +kernel
theorem d_Mod_cut_40 : decode b_Mod_cut 40 = .ok (.return_, 1) := by decide +kernel
def q_Mod_cut_18 (i_n : Int32)  (k1_18 : Int32) (m_code_18 : Int32) (m_length_18 : Int32) : Option (Int32 × Int32) := (if k1_18 ≤ 0 then some (k1_18, i_n) else some (k1_18, m_length_18))
def q_Mod_cut (i_n : Int32) (m_code : Int32) (m_length : Int32) : Option (Int32 × Int32) := ((q_Mod_within i_n (0 : Int32) m_length).bind fun z1 => (if z1 = 0 then (q_Mod_cut_18 i_n  (1 : Int32) m_code m_length) else (q_Mod_cut_18 i_n  (0 : Int32) m_code m_length)))
abbrev rm_Mod_cut : Room := { frames := 1, cells := 0, slots := 0, locals := 22 }
set_option maxHeartbeats 4000000 in
set_option maxRecDepth 100000 in
theorem c_Mod_cut (l : Launch) (dC : Nat → ClassId) (dI : Nat → Nat → Nat) (m_0 m_picture_a m_file_a m_layers_a m_wide_a m_high_a m_half_a m_states_a m_favourites_a m_quotas_a m_digits_a m_draft_a m_given_a m_begins_a : Nat) (m_picture_k m_file_k m_layers_k m_wide_k m_high_k m_half_k m_states_k m_favourites_k m_quotas_k m_digits_k m_draft_k m_given_k m_begins_k : ClassId) (i_n : Int32) (m_code : Int32) (m_width : Int32) (m_height : Int32) (m_picture : Nat → Int32) (m_length : Int32) (m_file : Nat → Int32) (m_any : Int32) (m_decisions : Int32) (m_plains : Int32) (m_doubles : Int32) (m_layers : Nat → Int32) (m_wide : Nat → Int32) (m_high : Nat → Int32) (m_half : Nat → Int32) (m_states : Nat → Int32) (m_favourites : Nat → Int32) (m_quotas : Nat → Int32) (m_span : Int32) (m_nowDecisions : Int32) (m_nowPlains : Int32) (m_nowDoubles : Int32) (m_digits : Nat → Int32) (m_digitCount : Int32) (m_draft : Nat → Int32) (m_draftSize : Int32) (m_taking : Int32) (m_given : Nat → Int32) (m_givenSize : Int32) (m_next : Int32) (m_above : Int32) (m_begins : Nat → Int32) (m_layerCount : Int32) (m_newWidth : Int32) (m_newHeight : Int32) (z : Int32 × Int32)  (hq : q_Mod_cut i_n m_code m_length = some z) (sz : Nat) : MetV l y_Mod_cut b_Mod_cut 2 TT rm_Mod_cut (dC, dI) vcl [(m_picture_k, .int), (m_file_k, .int), (m_layers_k, .int), (m_wide_k, .int), (m_high_k, .int), (m_half_k, .int), (m_states_k, .int), (m_favourites_k, .int), (m_quotas_k, .int), (m_digits_k, .int), (m_draft_k, .int), (m_given_k, .int), (m_begins_k, .int)] (W_X m_0 m_picture_a m_file_a m_layers_a m_wide_a m_high_a m_half_a m_states_a m_favourites_a m_quotas_a m_digits_a m_draft_a m_given_a m_begins_a m_picture_k m_file_k m_layers_k m_wide_k m_high_k m_half_k m_states_k m_favourites_k m_quotas_k m_digits_k m_draft_k m_given_k m_begins_k m_code m_width m_height m_picture m_length m_file m_any m_decisions m_plains m_doubles m_layers m_wide m_high m_half m_states m_favourites m_quotas m_span m_nowDecisions m_nowPlains m_nowDoubles m_digits m_digitCount m_draft m_draftSize m_taking m_given m_givenSize m_next m_above m_begins m_layerCount m_newWidth m_newHeight) (W_X m_0 m_picture_a m_file_a m_layers_a m_wide_a m_high_a m_half_a m_states_a m_favourites_a m_quotas_a m_digits_a m_draft_a m_given_a m_begins_a m_picture_k m_file_k m_layers_k m_wide_k m_high_k m_half_k m_states_k m_favourites_k m_quotas_k m_digits_k m_draft_k m_given_k m_begins_k z.1 m_width m_height m_picture z.2 m_file m_any m_decisions m_plains m_doubles m_layers m_wide m_high m_half m_states m_favourites m_quotas m_span m_nowDecisions m_nowPlains m_nowDoubles m_digits m_digitCount m_draft m_draftSize m_taking m_given m_givenSize m_next m_above m_begins m_layerCount m_newWidth m_newHeight) [.ref m_0, .int i_n] sz := by
  refine x_ofV (by decide) (Nat.le_of_ble_eq_true rfl) ?_ sz
  intro p e s m args below meth c A Q ls hx hb hml hown hts hA hG hK hP hD hS hl hret
  have hown : s.vm.findClass R_Mod = some m.cls := hown
  have hl : lv_has ls 2 [(0, .ref m_0), (1, .int i_n)] := hl
  obtain ⟨⟨tq, hZ, hTq⟩, hN⟩ := id hG
  obtain ⟨H, hH⟩ : ∃ H, H = s.heap := ⟨_, rfl⟩
  obtain ⟨locs, hlocs⟩ : ∃ locs : List Loc, locs = [] := ⟨_, rfl⟩
  rw [← hH] at hP
  have hS : va_S A s.heap H locs := by rw [hH, hlocs]; exact hS
  suffices hgo : W p l e rm_Mod_cut s m args below meth c H locs 0 0 Q (F0 m 0 ls []) by rw [hH, hlocs] at hgo; exact hgo
  unfold q_Mod_cut at hq
  have L18 : ∀ (k1_18 : Int32) (m_code_18 : Int32) (m_length_18 : Int32) (H : Heap) (locs : List Loc) (ls : Array Slot), lv_has ls 2 [(0, .ref m_0), (1, .int i_n)] → va_P (dC, dI) vcl (W_X m_0 m_picture_a m_file_a m_layers_a m_wide_a m_high_a m_half_a m_states_a m_favourites_a m_quotas_a m_digits_a m_draft_a m_given_a m_begins_a m_picture_k m_file_k m_layers_k m_wide_k m_high_k m_half_k m_states_k m_favourites_k m_quotas_k m_digits_k m_draft_k m_given_k m_begins_k m_code_18 m_width m_height m_picture m_length_18 m_file m_any m_decisions m_plains m_doubles m_layers m_wide m_high m_half m_states m_favourites m_quotas m_span m_nowDecisions m_nowPlains m_nowDoubles m_digits m_digitCount m_draft m_draftSize m_taking m_given m_givenSize m_next m_above m_begins m_layerCount m_newWidth m_newHeight) H → va_D A (W_X m_0 m_picture_a m_file_a m_layers_a m_wide_a m_high_a m_half_a m_states_a m_favourites_a m_quotas_a m_digits_a m_draft_a m_given_a m_begins_a m_picture_k m_file_k m_layers_k m_wide_k m_high_k m_half_k m_states_k m_favourites_k m_quotas_k m_digits_k m_draft_k m_given_k m_begins_k m_code_18 m_width m_height m_picture m_length_18 m_file m_any m_decisions m_plains m_doubles m_layers m_wide m_high m_half m_states m_favourites m_quotas m_span m_nowDecisions m_nowPlains m_nowDoubles m_digits m_digitCount m_draft m_draftSize m_taking m_given m_givenSize m_next m_above m_begins m_layerCount m_newWidth m_newHeight) → va_S A s.heap H locs → q_Mod_cut_18 i_n  k1_18 m_code_18 m_length_18 = some z → W p l e rm_Mod_cut s m args below meth c H locs 0 0 Q (F0 m 18 ls [.int k1_18, .ref m_0]) := by
    intro k1_18 m_code_18 m_length_18 H locs ls hl hP hD hS hq18
    unfold q_Mod_cut_18 at hq18
    have h := hq18
    refine va_put (D := (dC, dI)) (ci := 7) (v := .int k1_18) (ty := .int) (C := R_Mod) (T := F_Mod) (N := 34) hx hb hts in_Mod t_Mod t_Mod_ok n_Mod hown hK hP hD hS 0 rfl rfl 0 (by decide) (hts _ tt637) (fun _ h9 => h9) rfl (by decide +kernel) rfl rfl (Nat.le_of_ble_eq_true rfl) d_Mod_cut_18 (fun H locs hP hD hS => ?_)
    have hP : va_P (dC, dI) vcl (W_X m_0 m_picture_a m_file_a m_layers_a m_wide_a m_high_a m_half_a m_states_a m_favourites_a m_quotas_a m_digits_a m_draft_a m_given_a m_begins_a m_picture_k m_file_k m_layers_k m_wide_k m_high_k m_half_k m_states_k m_favourites_k m_quotas_k m_digits_k m_draft_k m_given_k m_begins_k k1_18 m_width m_height m_picture m_length_18 m_file m_any m_decisions m_plains m_doubles m_layers m_wide m_high m_half m_states m_favourites m_quotas m_span m_nowDecisions m_nowPlains m_nowDoubles m_digits m_digitCount m_draft m_draftSize m_taking m_given m_givenSize m_next m_above m_begins m_layerCount m_newWidth m_newHeight) H := hP
    have hD : va_D A (W_X m_0 m_picture_a m_file_a m_layers_a m_wide_a m_high_a m_half_a m_states_a m_favourites_a m_quotas_a m_digits_a m_draft_a m_given_a m_begins_a m_picture_k m_file_k m_layers_k m_wide_k m_high_k m_half_k m_states_k m_favourites_k m_quotas_k m_digits_k m_draft_k m_given_k m_begins_k k1_18 m_width m_height m_picture m_length_18 m_file m_any m_decisions m_plains m_doubles m_layers m_wide m_high m_half m_states m_favourites m_quotas m_span m_nowDecisions m_nowPlains m_nowDoubles m_digits m_digitCount m_draft m_draftSize m_taking m_given m_givenSize m_next m_above m_begins m_layerCount m_newWidth m_newHeight) := hD
    refine lv_aload_n hx hb d_Mod_cut_21 rfl (lv_at hl 0 rfl) ?_
    refine lv_aload_n hx hb d_Mod_cut_22 rfl (lv_at hl 0 rfl) ?_
    refine va_get (D := (dC, dI)) (ci := 7) (v := .int k1_18) (C := R_Mod) (T := F_Mod) (N := 34) hx hb hts in_Mod hown hK hP 0 rfl rfl 0 (by decide) (hts _ tt637) (fun _ h9 => h9) rfl d_Mod_cut_23 ?_
    refine lv_if_le (tgt := 36) hx hb d_Mod_cut_26 rfl (fun hc => ?_) (fun hc => ?_)
    · replace h := ot hc h
      refine lv_iload_n hx hb d_Mod_cut_36 rfl (lv_at hl 1 rfl) ?_
      refine va_put (D := (dC, dI)) (ci := 7) (v := .int i_n) (ty := .int) (C := R_Mod) (T := F_Mod) (N := 34) hx hb hts in_Mod t_Mod t_Mod_ok n_Mod hown hK hP hD hS 0 rfl rfl 4 (by decide) (hts _ tt641) (fun _ h9 => h9) rfl (by decide +kernel) rfl rfl (Nat.le_of_ble_eq_true rfl) d_Mod_cut_37 (fun H locs hP hD hS => ?_)
      have hP : va_P (dC, dI) vcl (W_X m_0 m_picture_a m_file_a m_layers_a m_wide_a m_high_a m_half_a m_states_a m_favourites_a m_quotas_a m_digits_a m_draft_a m_given_a m_begins_a m_picture_k m_file_k m_layers_k m_wide_k m_high_k m_half_k m_states_k m_favourites_k m_quotas_k m_digits_k m_draft_k m_given_k m_begins_k k1_18 m_width m_height m_picture i_n m_file m_any m_decisions m_plains m_doubles m_layers m_wide m_high m_half m_states m_favourites m_quotas m_span m_nowDecisions m_nowPlains m_nowDoubles m_digits m_digitCount m_draft m_draftSize m_taking m_given m_givenSize m_next m_above m_begins m_layerCount m_newWidth m_newHeight) H := hP
      have hD : va_D A (W_X m_0 m_picture_a m_file_a m_layers_a m_wide_a m_high_a m_half_a m_states_a m_favourites_a m_quotas_a m_digits_a m_draft_a m_given_a m_begins_a m_picture_k m_file_k m_layers_k m_wide_k m_high_k m_half_k m_states_k m_favourites_k m_quotas_k m_digits_k m_draft_k m_given_k m_begins_k k1_18 m_width m_height m_picture i_n m_file m_any m_decisions m_plains m_doubles m_layers m_wide m_high m_half m_states m_favourites m_quotas m_span m_nowDecisions m_nowPlains m_nowDoubles m_digits m_digitCount m_draft m_draftSize m_taking m_given m_givenSize m_next m_above m_begins m_layerCount m_newWidth m_newHeight) := hD
      obtain rfl := Option.some.inj h
      exact hret H locs 40 ls d_Mod_cut_40 hP hD hS
    · replace h := of hc h
      refine lv_aload_n hx hb d_Mod_cut_29 rfl (lv_at hl 0 rfl) ?_
      refine va_get (D := (dC, dI)) (ci := 7) (v := .int m_length_18) (C := R_Mod) (T := F_Mod) (N := 34) hx hb hts in_Mod hown hK hP 0 rfl rfl 4 (by decide) (hts _ tt641) (fun _ h9 => h9) rfl d_Mod_cut_30 ?_
      refine lv_goto (tgt := 37) hx hb d_Mod_cut_33 rfl ?_
      refine va_put (D := (dC, dI)) (ci := 7) (v := .int m_length_18) (ty := .int) (C := R_Mod) (T := F_Mod) (N := 34) hx hb hts in_Mod t_Mod t_Mod_ok n_Mod hown hK hP hD hS 0 rfl rfl 4 (by decide) (hts _ tt641) (fun _ h9 => h9) rfl (by decide +kernel) rfl rfl (Nat.le_of_ble_eq_true rfl) d_Mod_cut_37 (fun H locs hP hD hS => ?_)
      have hP : va_P (dC, dI) vcl (W_X m_0 m_picture_a m_file_a m_layers_a m_wide_a m_high_a m_half_a m_states_a m_favourites_a m_quotas_a m_digits_a m_draft_a m_given_a m_begins_a m_picture_k m_file_k m_layers_k m_wide_k m_high_k m_half_k m_states_k m_favourites_k m_quotas_k m_digits_k m_draft_k m_given_k m_begins_k k1_18 m_width m_height m_picture m_length_18 m_file m_any m_decisions m_plains m_doubles m_layers m_wide m_high m_half m_states m_favourites m_quotas m_span m_nowDecisions m_nowPlains m_nowDoubles m_digits m_digitCount m_draft m_draftSize m_taking m_given m_givenSize m_next m_above m_begins m_layerCount m_newWidth m_newHeight) H := hP
      have hD : va_D A (W_X m_0 m_picture_a m_file_a m_layers_a m_wide_a m_high_a m_half_a m_states_a m_favourites_a m_quotas_a m_digits_a m_draft_a m_given_a m_begins_a m_picture_k m_file_k m_layers_k m_wide_k m_high_k m_half_k m_states_k m_favourites_k m_quotas_k m_digits_k m_draft_k m_given_k m_begins_k k1_18 m_width m_height m_picture m_length_18 m_file m_any m_decisions m_plains m_doubles m_layers m_wide m_high m_half m_states m_favourites m_quotas m_span m_nowDecisions m_nowPlains m_nowDoubles m_digits m_digitCount m_draft m_draftSize m_taking m_given m_givenSize m_next m_above m_begins m_layerCount m_newWidth m_newHeight) := hD
      obtain rfl := Option.some.inj h
      exact hret H locs 40 ls d_Mod_cut_40 hP hD hS
  have h := hq
  refine lv_aload_n hx hb d_Mod_cut_0 rfl (lv_at hl 0 rfl) ?_
  refine lv_iload_n hx hb d_Mod_cut_1 rfl (lv_at hl 1 rfl) ?_
  refine lv_iconst (v := (0 : Int32)) hx hb d_Mod_cut_2 (by decide) ?_
  refine lv_aload_n hx hb d_Mod_cut_3 rfl (lv_at hl 0 rfl) ?_
  refine va_get (D := (dC, dI)) (ci := 7) (v := .int m_length) (C := R_Mod) (T := F_Mod) (N := 34) hx hb hts in_Mod hown hK hP 0 rfl rfl 4 (by decide) (hts _ tt641) (fun _ h9 => h9) rfl d_Mod_cut_4 ?_
  obtain ⟨z1, hz1, h⟩ := ob h
  refine x_goI (res := z1) (w1 := (W_0  )) (ws' := (W_X m_0 m_picture_a m_file_a m_layers_a m_wide_a m_high_a m_half_a m_states_a m_favourites_a m_quotas_a m_digits_a m_draft_a m_given_a m_begins_a m_picture_k m_file_k m_layers_k m_wide_k m_high_k m_half_k m_states_k m_favourites_k m_quotas_k m_digits_k m_draft_k m_given_k m_begins_k m_code m_width m_height m_picture m_length m_file m_any m_decisions m_plains m_doubles m_layers m_wide m_high m_half m_states m_favourites m_quotas m_span m_nowDecisions m_nowPlains m_nowDoubles m_digits m_digitCount m_draft m_draftSize m_taking m_given m_givenSize m_next m_above m_begins m_layerCount m_newWidth m_newHeight)) (wr := List.filterMap (fun (i : Nat) => (W_X m_0 m_picture_a m_file_a m_layers_a m_wide_a m_high_a m_half_a m_states_a m_favourites_a m_quotas_a m_digits_a m_draft_a m_given_a m_begins_a m_picture_k m_file_k m_layers_k m_wide_k m_high_k m_half_k m_states_k m_favourites_k m_quotas_k m_digits_k m_draft_k m_given_k m_begins_k m_code m_width m_height m_picture m_length m_file m_any m_decisions m_plains m_doubles m_layers m_wide m_high m_half m_states m_favourites m_quotas m_span m_nowDecisions m_nowPlains m_nowDoubles m_digits m_digitCount m_draft m_draftSize m_taking m_given m_givenSize m_next m_above m_begins m_layerCount m_newWidth m_newHeight)[i]?) ([0, 1, 2, 3, 4, 5, 6, 7, 8, 9, 10, 11, 12, 13] : List Nat)) (va_runS (As := [.int i_n, .int (0 : Int32), .int m_length]) (rest := [.ref m_0]) ⟨hx, hb, hml, hown, hts⟩ (c_Mod_within l dC dI  i_n (0 : Int32) m_length  z1  hz1 H.size) ⟨callB_of 3 hts (gT tt750 TT_good) rfl rfl rfl (hts _ tt53) (hts _ tt748) (by decide +kernel) ⟨Nat.le_of_ble_eq_true rfl, Nat.le_of_ble_eq_true rfl⟩, hts _ tt749⟩ (x_pre (wc := (W_0  )) (av := [.int i_n, .int (0 : Int32), .int m_length]) hK hP hD hS hA hG [] [] rfl rfl (by decide)) rfl rfl hl.1 rfl (lv_room (Nat.le_of_ble_eq_true rfl)) d_Mod_cut_7 ⟨Nat.zero_le _, Nat.zero_le _⟩) hP hD hS hA [] [0, 1, 2, 3, 4, 5, 6, 7, 8, 9, 10, 11, 12, 13] [0, 1, 2, 3, 4, 5, 6, 7, 8, 9, 10, 11, 12, 13] rfl rfl (by decide) (by decide) (by decide) rfl (fun H locs hP hD hS => ?_)
  refine lv_if_eq (tgt := 17) hx hb d_Mod_cut_10 rfl (fun hc => ?_) (fun hc => ?_)
  · replace h := ot hc h
    refine lv_iconst (v := (1 : Int32)) hx hb d_Mod_cut_17 (by decide) ?_
    exact L18 (1 : Int32) m_code m_length H locs ls (lv_sub hl [0, 1] rfl) hP hD hS h
  · replace h := of hc h
    refine lv_iconst (v := (0 : Int32)) hx hb d_Mod_cut_13 (by decide) ?_
    refine lv_goto (tgt := 18) hx hb d_Mod_cut_14 rfl ?_
    exact L18 (0 : Int32) m_code m_length H locs ls (lv_sub hl [0, 1] rfl) hP hD hS h
theorem d_Mod_type_0 : decode b_Mod_type 0 = .ok (.aload_n 0, 1) := by decide +kernel
theorem d_Mod_type_1 : decode b_Mod_type 1 = .ok (.iload_n 3, 1) := by decide +kernel
theorem d_Mod_type_2 : decode b_Mod_type 2 = .ok (.iconst (1), 1) := by decide +kernel
theorem d_Mod_type_3 : decode b_Mod_type 3 = .ok (.bipush (8), 2) := by decide +kernel
theorem d_Mod_type_5 : decode b_Mod_type 5 = .ok (.invokestatic 59, 3) := by decide +kernel
theorem d_Mod_type_8 : decode b_Mod_type 8 = .ok (.ifCond .ne (7), 3) := by decide +kernel
theorem d_Mod_type_11 : decode b_Mod_type 11 = .ok (.iconst (1), 1) := by decide +kernel
theorem d_Mod_type_12 : decode b_Mod_type 12 = .ok (.goto (20), 3) := by decide +kernel
theorem d_Mod_type_15 : decode b_Mod_type 15 = .ok (.aload_n 0, 1) := by decide +kernel
theorem d_Mod_type_16 : decode b_Mod_type 16 = .ok (.getfield 178, 3) := by decide +kernel
theorem d_Mod_type_19 : decode b_Mod_type 19 = .ok (.iload_n 3, 1) := by decide +kernel
theorem d_Mod_type_20 : decode b_Mod_type 20 = .ok (.iadd, 1) := by decide +kernel
theorem d_Mod_type_21 : decode b_Mod_type 21 = .ok (.sipush (900), 3) := by decide +kernel
theorem d_Mod_type_24 : decode b_Mod_type 24 = .ok (.if_icmp .le (7), 3) := by decide +kernel
theorem d_Mod_type_27 : decode b_Mod_type 27 = .ok (.iconst (2), 1) := by decide +kernel
theorem d_Mod_type_28 : decode b_Mod_type 28 = .ok (.goto (4), 3) := by decide +kernel
theorem d_Mod_type_31 : decode b_Mod_type 31 = .ok (.iconst (0), 1) := by decide +kernel
theorem d_Mod_type_32 : decode b_Mod_type 32 = .ok (.putfield 56, 3) := by decide +kernel
theorem d_Mod_type_35 : decode b_Mod_type 35 = .ok (.iload_n 3, 1) := by decide +kernel
theorem d_Mod_type_36 : decode b_Mod_type 36 = .ok (.iconst (1), 1) := by decide +kernel
theorem d_Mod_type_37 : decode b_Mod_type 37 = .ok (.isub, 1) := by decide +kernel
theorem d_Mod_type_38 : decode b_Mod_type 38 = .ok (.istore 4, 2) := by decide +kernel
theorem d_Mod_type_40 : decode b_Mod_type 40 = .ok (.iload 4, 2) := by decide +kernel
theorem d_Mod_type_42 : decode b_Mod_type 42 = .ok (.ifCond .lt (47), 3) := by decide +kernel
theorem d_Mod_type_45 : decode b_Mod_type 45 = .ok (.aload_n 0, 1) := by decide +kernel
theorem d_Mod_type_46 : decode b_Mod_type 46 = .ok (.getfield 56, 3) := by decide +kernel
theorem d_Mod_type_49 : decode b_Mod_type 49 = .ok (.ifCond .ne (40), 3) := by decide +kernel
theorem d_Mod_type_52 : decode b_Mod_type 52 = .ok (.aload_n 0, 1) := by decide +kernel
theorem d_Mod_type_53 : decode b_Mod_type 53 = .ok (.getfield 20, 3) := by decide +kernel
theorem d_Mod_type_56 : decode b_Mod_type 56 = .ok (.aload_n 0, 1) := by decide +kernel
theorem d_Mod_type_57 : decode b_Mod_type 57 = .ok (.getfield 178, 3) := by decide +kernel
theorem d_Mod_type_60 : decode b_Mod_type 60 = .ok (.lload_n 1, 1) := by decide +kernel
theorem d_Mod_type_61 : decode b_Mod_type 61 = .ok (.bipush (8), 2) := by decide +kernel
theorem d_Mod_type_63 : decode b_Mod_type 63 = .ok (.iload 4, 2) := by decide +kernel
theorem d_Mod_type_65 : decode b_Mod_type 65 = .ok (.imul, 1) := by decide +kernel
theorem d_Mod_type_66 : decode b_Mod_type 66 = .ok (.lshr, 1) := by decide +kernel
theorem d_Mod_type_67 : decode b_Mod_type 67 = .ok (.l2i, 1) := by decide +kernel
theorem d_Mod_type_68 : decode b_Mod_type 68 = .ok (.sipush (255), 3) := by decide +kernel
theorem d_Mod_type_71 : decode b_Mod_type 71 = .ok (.iand, 1) := by decide +kernel
theorem d_Mod_type_72 : decode b_Mod_type 72 = .ok (.iastore, 1) := by decide +kernel
theorem d_Mod_type_73 : decode b_Mod_type 73 = .ok (.aload_n 0, 1) := by decide +kernel
theorem d_Mod_type_74 : decode b_Mod_type 74 = .ok (.dup, 1) := by decide +kernel
theorem d_Mod_type_75 : decode b_Mod_type 75 = .ok (.getfield 178, 3) := by decide +kernel
theorem d_Mod_type_78 : decode b_Mod_type 78 = .ok (.iconst (1), 1) := by decide +kernel
theorem d_Mod_type_79 : decode b_Mod_type 79 = .ok (.iadd, 1) := by decide +kernel
theorem d_Mod_type_80 : decode b_Mod_type 80 = .ok (.putfield 178, 3) := by decide +kernel
theorem d_Mod_type_83 : decode b_Mod_type 83 = .ok (.iinc 4 (-1), 3) := by decide +kernel
theorem d_Mod_type_86 : decode b_Mod_type 86 = .ok (.goto (-46), 3) := by decide +kernel
theorem d_Mod_type_89 : decode b_Mod_type 89 = .ok (.aload_n 0, 1) := by decide +kernel
theorem d_Mod_type_90 : decode b_Mod_type 90 = .ok (.getfield 56, 3) := by decide +kernel
theorem d_Mod_type_93 : decode b_Mod_type 93 = .ok (.ifCond .le (7), 3) := by decide +kernel
theorem d_Mod_type_96 : decode b_Mod_type 96 = .ok (.iconst (0), 1) := by decide +kernel
theorem d_Mod_type_97 : decode b_Mod_type 97 = .ok (.goto (7), 3) := by decide +kernel
theorem d_Mod_type_100 : decode b_Mod_type 100 = .ok (.aload_n 0, 1) := by decide +kernel
theorem d_Mod_type_101 : decode b_Mod_type 101 = .ok (.getfield 178, 3) := by decide +kernel
theorem d_Mod_type_104 : decode b_Mod_type 104 = .ok (.ireturn, 1) := by decide +kernel
def q_Mod_type_89 (i_bytes : Int64) (i_n : Int32)  (m_code_89 : Int32) (m_length_89 : Int32) (m_file_89 : Nat → Int32) : Option (Int32 × Int32 × Int32 × (Nat → Int32)) := (if m_code_89 ≤ 0 then some (m_length_89, m_code_89, m_length_89, m_file_89) else some ((0 : Int32), m_code_89, m_length_89, m_file_89))
def q_Mod_type_40 (i_bytes : Int64) (i_n : Int32)  : Nat → Int32 → Int32 → Int32 → (Nat → Int32) → Option (Int32 × Int32 × Int32 × (Nat → Int32))
  | 0, _, _, _, _ => none
  | n + 1, x4_40, m_code_40, m_length_40, m_file_40 => (if x4_40 < 0 then (q_Mod_type_89 i_bytes i_n  m_code_40 m_length_40 m_file_40) else (if m_code_40 = 0 then (if vpb m_length_40 900 = true then (q_Mod_type_40 i_bytes i_n n (x4_40 + (-1 : Int32)) m_code_40 (m_length_40 + (1 : Int32)) (upd m_file_40 m_length_40.toNatClampNeg (((i_bytes >>> (((8 : Int32) * x4_40).toInt64 &&& 63)).toInt32) &&& (255 : Int32)))) else none) else (q_Mod_type_89 i_bytes i_n  m_code_40 m_length_40 m_file_40)))
def q_Mod_type (i_bytes : Int64) (i_n : Int32) (m_code : Int32) (m_length : Int32) (m_file : Nat → Int32) : Option (Int32 × Int32 × Int32 × (Nat → Int32)) := ((q_Mod_within i_n (1 : Int32) (8 : Int32)).bind fun z1 => (if z1 = 0 then (q_Mod_type_40 i_bytes i_n  5000 (i_n - (1 : Int32)) (1 : Int32) m_length m_file) else (if (m_length + i_n) ≤ (900 : Int32) then (q_Mod_type_40 i_bytes i_n  5000 (i_n - (1 : Int32)) (0 : Int32) m_length m_file) else (q_Mod_type_40 i_bytes i_n  5000 (i_n - (1 : Int32)) (2 : Int32) m_length m_file))))
abbrev rm_Mod_type : Room := { frames := 1, cells := 0, slots := 0, locals := 22 }
set_option maxHeartbeats 4000000 in
set_option maxRecDepth 100000 in
theorem c_Mod_type (l : Launch) (dC : Nat → ClassId) (dI : Nat → Nat → Nat) (m_0 m_picture_a m_file_a m_layers_a m_wide_a m_high_a m_half_a m_states_a m_favourites_a m_quotas_a m_digits_a m_draft_a m_given_a m_begins_a : Nat) (m_picture_k m_file_k m_layers_k m_wide_k m_high_k m_half_k m_states_k m_favourites_k m_quotas_k m_digits_k m_draft_k m_given_k m_begins_k : ClassId) (i_bytes : Int64) (i_n : Int32) (m_code : Int32) (m_width : Int32) (m_height : Int32) (m_picture : Nat → Int32) (m_length : Int32) (m_file : Nat → Int32) (m_any : Int32) (m_decisions : Int32) (m_plains : Int32) (m_doubles : Int32) (m_layers : Nat → Int32) (m_wide : Nat → Int32) (m_high : Nat → Int32) (m_half : Nat → Int32) (m_states : Nat → Int32) (m_favourites : Nat → Int32) (m_quotas : Nat → Int32) (m_span : Int32) (m_nowDecisions : Int32) (m_nowPlains : Int32) (m_nowDoubles : Int32) (m_digits : Nat → Int32) (m_digitCount : Int32) (m_draft : Nat → Int32) (m_draftSize : Int32) (m_taking : Int32) (m_given : Nat → Int32) (m_givenSize : Int32) (m_next : Int32) (m_above : Int32) (m_begins : Nat → Int32) (m_layerCount : Int32) (m_newWidth : Int32) (m_newHeight : Int32) (z : Int32 × Int32 × Int32 × (Nat → Int32))  (hq : q_Mod_type i_bytes i_n m_code m_length m_file = some z) (sz : Nat) : MetI l y_Mod_type b_Mod_type 5 .int TT rm_Mod_type (dC, dI) vcl [(m_picture_k, .int), (m_file_k, .int), (m_layers_k, .int), (m_wide_k, .int), (m_high_k, .int), (m_half_k, .int), (m_states_k, .int), (m_favourites_k, .int), (m_quotas_k, .int), (m_digits_k, .int), (m_draft_k, .int), (m_given_k, .int), (m_begins_k, .int)] (W_X m_0 m_picture_a m_file_a m_layers_a m_wide_a m_high_a m_half_a m_states_a m_favourites_a m_quotas_a m_digits_a m_draft_a m_given_a m_begins_a m_picture_k m_file_k m_layers_k m_wide_k m_high_k m_half_k m_states_k m_favourites_k m_quotas_k m_digits_k m_draft_k m_given_k m_begins_k m_code m_width m_height m_picture m_length m_file m_any m_decisions m_plains m_doubles m_layers m_wide m_high m_half m_states m_favourites m_quotas m_span m_nowDecisions m_nowPlains m_nowDoubles m_digits m_digitCount m_draft m_draftSize m_taking m_given m_givenSize m_next m_above m_begins m_layerCount m_newWidth m_newHeight) (W_X m_0 m_picture_a m_file_a m_layers_a m_wide_a m_high_a m_half_a m_states_a m_favourites_a m_quotas_a m_digits_a m_draft_a m_given_a m_begins_a m_picture_k m_file_k m_layers_k m_wide_k m_high_k m_half_k m_states_k m_favourites_k m_quotas_k m_digits_k m_draft_k m_given_k m_begins_k z.2.1 m_width m_height m_picture z.2.2.1 z.2.2.2 m_any m_decisions m_plains m_doubles m_layers m_wide m_high m_half m_states m_favourites m_quotas m_span m_nowDecisions m_nowPlains m_nowDoubles m_digits m_digitCount m_draft m_draftSize m_taking m_given m_givenSize m_next m_above m_begins m_layerCount m_newWidth m_newHeight) [.ref m_0, .long i_bytes, .int i_n] z.1 sz := by
  refine x_ofI (by decide) (Nat.le_of_ble_eq_true rfl) ?_ sz
  intro p e s m args below meth c A Q ls hx hb hml hown hts hA hG hK hP hD hS hl hret
  have hown : s.vm.findClass R_Mod = some m.cls := hown
  have hl : lv_has ls 5 [(0, .ref m_0), (1, .long i_bytes), (3, .int i_n)] := hl
  obtain ⟨⟨tq, hZ, hTq⟩, hN⟩ := id hG
  obtain ⟨H, hH⟩ : ∃ H, H = s.heap := ⟨_, rfl⟩
  obtain ⟨locs, hlocs⟩ : ∃ locs : List Loc, locs = [] := ⟨_, rfl⟩
  rw [← hH] at hP
  have hS : va_S A s.heap H locs := by rw [hH, hlocs]; exact hS
  suffices hgo : W p l e rm_Mod_type s m args below meth c H locs 0 0 Q (F0 m 0 ls []) by rw [hH, hlocs] at hgo; exact hgo
  unfold q_Mod_type at hq
  have L40 : ∀ (n40 : Nat) (x4_40 : Int32) (m_code_40 : Int32) (m_length_40 : Int32) (m_file_40 : Nat → Int32) (H : Heap) (locs : List Loc) (ls : Array Slot), lv_has ls 5 [(0, .ref m_0), (1, .long i_bytes), (4, .int x4_40)] → va_P (dC, dI) vcl (W_X m_0 m_picture_a m_file_a m_layers_a m_wide_a m_high_a m_half_a m_states_a m_favourites_a m_quotas_a m_digits_a m_draft_a m_given_a m_begins_a m_picture_k m_file_k m_layers_k m_wide_k m_high_k m_half_k m_states_k m_favourites_k m_quotas_k m_digits_k m_draft_k m_given_k m_begins_k m_code_40 m_width m_height m_picture m_length_40 m_file_40 m_any m_decisions m_plains m_doubles m_layers m_wide m_high m_half m_states m_favourites m_quotas m_span m_nowDecisions m_nowPlains m_nowDoubles m_digits m_digitCount m_draft m_draftSize m_taking m_given m_givenSize m_next m_above m_begins m_layerCount m_newWidth m_newHeight) H → va_D A (W_X m_0 m_picture_a m_file_a m_layers_a m_wide_a m_high_a m_half_a m_states_a m_favourites_a m_quotas_a m_digits_a m_draft_a m_given_a m_begins_a m_picture_k m_file_k m_layers_k m_wide_k m_high_k m_half_k m_states_k m_favourites_k m_quotas_k m_digits_k m_draft_k m_given_k m_begins_k m_code_40 m_width m_height m_picture m_length_40 m_file_40 m_any m_decisions m_plains m_doubles m_layers m_wide m_high m_half m_states m_favourites m_quotas m_span m_nowDecisions m_nowPlains m_nowDoubles m_digits m_digitCount m_draft m_draftSize m_taking m_given m_givenSize m_next m_above m_begins m_layerCount m_newWidth m_newHeight) → va_S A s.heap H locs → q_Mod_type_40 i_bytes i_n  n40 x4_40 m_code_40 m_length_40 m_file_40 = some z → W p l e rm_Mod_type s m args below meth c H locs 0 0 Q (F0 m 40 ls []) := by
    intro n40
    induction n40 with
    | zero =>
      intro x4_40 m_code_40 m_length_40 m_file_40 H locs ls hl hP hD hS hq
      rw [q_Mod_type_40] at hq
      cases hq
    | succ n40 ih40 =>
      intro x4_40 m_code_40 m_length_40 m_file_40 H locs ls hl hP hD hS hq40
      rw [q_Mod_type_40] at hq40
      have L89 : ∀ (m_code_89 : Int32) (m_length_89 : Int32) (m_file_89 : Nat → Int32) (H : Heap) (locs : List Loc) (ls : Array Slot), lv_has ls 5 [(0, .ref m_0)] → va_P (dC, dI) vcl (W_X m_0 m_picture_a m_file_a m_layers_a m_wide_a m_high_a m_half_a m_states_a m_favourites_a m_quotas_a m_digits_a m_draft_a m_given_a m_begins_a m_picture_k m_file_k m_layers_k m_wide_k m_high_k m_half_k m_states_k m_favourites_k m_quotas_k m_digits_k m_draft_k m_given_k m_begins_k m_code_89 m_width m_height m_picture m_length_89 m_file_89 m_any m_decisions m_plains m_doubles m_layers m_wide m_high m_half m_states m_favourites m_quotas m_span m_nowDecisions m_nowPlains m_nowDoubles m_digits m_digitCount m_draft m_draftSize m_taking m_given m_givenSize m_next m_above m_begins m_layerCount m_newWidth m_newHeight) H → va_D A (W_X m_0 m_picture_a m_file_a m_layers_a m_wide_a m_high_a m_half_a m_states_a m_favourites_a m_quotas_a m_digits_a m_draft_a m_given_a m_begins_a m_picture_k m_file_k m_layers_k m_wide_k m_high_k m_half_k m_states_k m_favourites_k m_quotas_k m_digits_k m_draft_k m_given_k m_begins_k m_code_89 m_width m_height m_picture m_length_89 m_file_89 m_any m_decisions m_plains m_doubles m_layers m_wide m_high m_half m_states m_favourites m_quotas m_span m_nowDecisions m_nowPlains m_nowDoubles m_digits m_digitCount m_draft m_draftSize m_taking m_given m_givenSize m_next m_above m_begins m_layerCount m_newWidth m_newHeight) → va_S A s.heap H locs → q_Mod_type_89 i_bytes i_n  m_code_89 m_length_89 m_file_89 = some z → W p l e rm_Mod_type s m args below meth c H locs 0 0 Q (F0 m 89 ls []) := by
        intro m_code_89 m_length_89 m_file_89 H locs ls hl hP hD hS hq89
        unfold q_Mod_type_89 at hq89
        have h := hq89
        refine lv_aload_n hx hb d_Mod_type_89 rfl (lv_at hl 0 rfl) ?_
        refine va_get (D := (dC, dI)) (ci := 7) (v := .int m_code_89) (C := R_Mod) (T := F_Mod) (N := 34) hx hb hts in_Mod hown hK hP 0 rfl rfl 0 (by decide) (hts _ tt637) (fun _ h9 => h9) rfl d_Mod_type_90 ?_
        refine lv_if_le (tgt := 100) hx hb d_Mod_type_93 rfl (fun hc => ?_) (fun hc => ?_)
        · replace h := ot hc h
          refine lv_aload_n hx hb d_Mod_type_100 rfl (lv_at hl 0 rfl) ?_
          refine va_get (D := (dC, dI)) (ci := 7) (v := .int m_length_89) (C := R_Mod) (T := F_Mod) (N := 34) hx hb hts in_Mod hown hK hP 0 rfl rfl 4 (by decide) (hts _ tt641) (fun _ h9 => h9) rfl d_Mod_type_101 ?_
          obtain rfl := Option.some.inj h
          exact hret H locs 104 ls d_Mod_type_104 (vp_nar_int _) hP hD hS
        · replace h := of hc h
          refine lv_iconst (v := (0 : Int32)) hx hb d_Mod_type_96 (by decide) ?_
          refine lv_goto (tgt := 104) hx hb d_Mod_type_97 rfl ?_
          obtain rfl := Option.some.inj h
          exact hret H locs 104 ls d_Mod_type_104 (vp_nar_int _) hP hD hS
      have h := hq40
      refine lv_iload hx hb d_Mod_type_40 (lv_at hl 2 rfl) ?_
      refine lv_if_lt (tgt := 89) hx hb d_Mod_type_42 rfl (fun hc => ?_) (fun hc => ?_)
      · replace h := ot hc h
        exact L89 m_code_40 m_length_40 m_file_40 H locs ls (lv_sub hl [0] rfl) hP hD hS h
      · replace h := of hc h
        refine lv_aload_n hx hb d_Mod_type_45 rfl (lv_at hl 0 rfl) ?_
        refine va_get (D := (dC, dI)) (ci := 7) (v := .int m_code_40) (C := R_Mod) (T := F_Mod) (N := 34) hx hb hts in_Mod hown hK hP 0 rfl rfl 0 (by decide) (hts _ tt637) (fun _ h9 => h9) rfl d_Mod_type_46 ?_
        refine lv_if_ne (tgt := 89) hx hb d_Mod_type_49 rfl (fun hc => ?_) (fun hc => ?_)
        · replace h := of hc h
          exact L89 m_code_40 m_length_40 m_file_40 H locs ls (lv_sub hl [0] rfl) hP hD hS h
        · replace h := ot hc h
          refine lv_aload_n hx hb d_Mod_type_52 rfl (lv_at hl 0 rfl) ?_
          refine va_get (D := (dC, dI)) (ci := 7) (v := .ref m_file_a) (C := R_Mod) (T := F_Mod) (N := 34) hx hb hts in_Mod hown hK hP 0 rfl rfl 5 (by decide) (hts _ tt642) (fun _ h9 => h9) rfl d_Mod_type_53 ?_
          refine lv_aload_n hx hb d_Mod_type_56 rfl (lv_at hl 0 rfl) ?_
          refine va_get (D := (dC, dI)) (ci := 7) (v := .int m_length_40) (C := R_Mod) (T := F_Mod) (N := 34) hx hb hts in_Mod hown hK hP 0 rfl rfl 4 (by decide) (hts _ tt641) (fun _ h9 => h9) rfl d_Mod_type_57 ?_
          refine lv_lload_n hx hb d_Mod_type_60 rfl (lv_at hl 1 rfl) ?_
          refine lv_bipush (v := (8 : Int32)) hx hb d_Mod_type_61 (by decide) ?_
          refine lv_iload hx hb d_Mod_type_63 (lv_at hl 2 rfl) ?_
          refine lv_imul hx hb d_Mod_type_65 ?_
          refine lv_lshr (v := i_bytes >>> (((8 : Int32) * x4_40).toInt64 &&& 63)) hx hb d_Mod_type_66 rfl ?_
          refine lv_l2i (v := (i_bytes >>> (((8 : Int32) * x4_40).toInt64 &&& 63)).toInt32) hx hb d_Mod_type_67 rfl ?_
          refine lv_sipush (v := (255 : Int32)) hx hb d_Mod_type_68 (by decide) ?_
          refine lv_iand hx hb d_Mod_type_71 ?_
          obtain ⟨hin, h⟩ := og h
          refine va_iast hx hb hK hP hD hS 2 1 rfl rfl (vpb_in hin) d_Mod_type_72 (fun H locs hP hD hS => ?_)
          have hP : va_P (dC, dI) vcl (W_X m_0 m_picture_a m_file_a m_layers_a m_wide_a m_high_a m_half_a m_states_a m_favourites_a m_quotas_a m_digits_a m_draft_a m_given_a m_begins_a m_picture_k m_file_k m_layers_k m_wide_k m_high_k m_half_k m_states_k m_favourites_k m_quotas_k m_digits_k m_draft_k m_given_k m_begins_k m_code_40 m_width m_height m_picture m_length_40 (upd m_file_40 m_length_40.toNatClampNeg (((i_bytes >>> (((8 : Int32) * x4_40).toInt64 &&& 63)).toInt32) &&& (255 : Int32))) m_any m_decisions m_plains m_doubles m_layers m_wide m_high m_half m_states m_favourites m_quotas m_span m_nowDecisions m_nowPlains m_nowDoubles m_digits m_digitCount m_draft m_draftSize m_taking m_given m_givenSize m_next m_above m_begins m_layerCount m_newWidth m_newHeight) H := hP
          have hD : va_D A (W_X m_0 m_picture_a m_file_a m_layers_a m_wide_a m_high_a m_half_a m_states_a m_favourites_a m_quotas_a m_digits_a m_draft_a m_given_a m_begins_a m_picture_k m_file_k m_layers_k m_wide_k m_high_k m_half_k m_states_k m_favourites_k m_quotas_k m_digits_k m_draft_k m_given_k m_begins_k m_code_40 m_width m_height m_picture m_length_40 (upd m_file_40 m_length_40.toNatClampNeg (((i_bytes >>> (((8 : Int32) * x4_40).toInt64 &&& 63)).toInt32) &&& (255 : Int32))) m_any m_decisions m_plains m_doubles m_layers m_wide m_high m_half m_states m_favourites m_quotas m_span m_nowDecisions m_nowPlains m_nowDoubles m_digits m_digitCount m_draft m_draftSize m_taking m_given m_givenSize m_next m_above m_begins m_layerCount m_newWidth m_newHeight) := hD
          refine lv_aload_n hx hb d_Mod_type_73 rfl (lv_at hl 0 rfl) ?_
          refine lv_dup hx hb d_Mod_type_74 rfl ?_
          refine va_get (D := (dC, dI)) (ci := 7) (v := .int m_length_40) (C := R_Mod) (T := F_Mod) (N := 34) hx hb hts in_Mod hown hK hP 0 rfl rfl 4 (by decide) (hts _ tt641) (fun _ h9 => h9) rfl d_Mod_type_75 ?_
          refine lv_iconst (v := (1 : Int32)) hx hb d_Mod_type_78 (by decide) ?_
          refine lv_iadd hx hb d_Mod_type_79 ?_
          refine va_put (D := (dC, dI)) (ci := 7) (v := .int (m_length_40 + (1 : Int32))) (ty := .int) (C := R_Mod) (T := F_Mod) (N := 34) hx hb hts in_Mod t_Mod t_Mod_ok n_Mod hown hK hP hD hS 0 rfl rfl 4 (by decide) (hts _ tt641) (fun _ h9 => h9) rfl (by decide +kernel) rfl rfl (Nat.le_of_ble_eq_true rfl) d_Mod_type_80 (fun H locs hP hD hS => ?_)
          have hP : va_P (dC, dI) vcl (W_X m_0 m_picture_a m_file_a m_layers_a m_wide_a m_high_a m_half_a m_states_a m_favourites_a m_quotas_a m_digits_a m_draft_a m_given_a m_begins_a m_picture_k m_file_k m_layers_k m_wide_k m_high_k m_half_k m_states_k m_favourites_k m_quotas_k m_digits_k m_draft_k m_given_k m_begins_k m_code_40 m_width m_height m_picture (m_length_40 + (1 : Int32)) (upd m_file_40 m_length_40.toNatClampNeg (((i_bytes >>> (((8 : Int32) * x4_40).toInt64 &&& 63)).toInt32) &&& (255 : Int32))) m_any m_decisions m_plains m_doubles m_layers m_wide m_high m_half m_states m_favourites m_quotas m_span m_nowDecisions m_nowPlains m_nowDoubles m_digits m_digitCount m_draft m_draftSize m_taking m_given m_givenSize m_next m_above m_begins m_layerCount m_newWidth m_newHeight) H := hP
          have hD : va_D A (W_X m_0 m_picture_a m_file_a m_layers_a m_wide_a m_high_a m_half_a m_states_a m_favourites_a m_quotas_a m_digits_a m_draft_a m_given_a m_begins_a m_picture_k m_file_k m_layers_k m_wide_k m_high_k m_half_k m_states_k m_favourites_k m_quotas_k m_digits_k m_draft_k m_given_k m_begins_k m_code_40 m_width m_height m_picture (m_length_40 + (1 : Int32)) (upd m_file_40 m_length_40.toNatClampNeg (((i_bytes >>> (((8 : Int32) * x4_40).toInt64 &&& 63)).toInt32) &&& (255 : Int32))) m_any m_decisions m_plains m_doubles m_layers m_wide m_high m_half m_states m_favourites m_quotas m_span m_nowDecisions m_nowPlains m_nowDoubles m_digits m_digitCount m_draft m_draftSize m_taking m_given m_givenSize m_next m_above m_begins m_layerCount m_newWidth m_newHeight) := hD
          refine lv_iinc (k := 2) (v := x4_40 + (-1 : Int32)) (lv' := [(4, .int (x4_40 + (-1 : Int32))), (0, .ref m_0), (1, .long i_bytes)]) hx hb d_Mod_type_83 hl rfl rfl (by decide) rfl (fun ls hl => ?_)
          refine lv_goto (tgt := 40) hx hb d_Mod_type_86 rfl ?_
          exact ih40 (x4_40 + (-1 : Int32)) m_code_40 (m_length_40 + (1 : Int32)) (upd m_file_40 m_length_40.toNatClampNeg (((i_bytes >>> (((8 : Int32) * x4_40).toInt64 &&& 63)).toInt32) &&& (255 : Int32))) H locs ls (lv_sub hl [1, 2, 0] rfl) hP hD hS h
  have h := hq
  refine lv_aload_n hx hb d_Mod_type_0 rfl (lv_at hl 0 rfl) ?_
  refine lv_iload_n hx hb d_Mod_type_1 rfl (lv_at hl 2 rfl) ?_
  refine lv_iconst (v := (1 : Int32)) hx hb d_Mod_type_2 (by decide) ?_
  refine lv_bipush (v := (8 : Int32)) hx hb d_Mod_type_3 (by decide) ?_
  obtain ⟨z1, hz1, h⟩ := ob h
  refine x_goI (res := z1) (w1 := (W_0  )) (ws' := (W_X m_0 m_picture_a m_file_a m_layers_a m_wide_a m_high_a m_half_a m_states_a m_favourites_a m_quotas_a m_digits_a m_draft_a m_given_a m_begins_a m_picture_k m_file_k m_layers_k m_wide_k m_high_k m_half_k m_states_k m_favourites_k m_quotas_k m_digits_k m_draft_k m_given_k m_begins_k m_code m_width m_height m_picture m_length m_file m_any m_decisions m_plains m_doubles m_layers m_wide m_high m_half m_states m_favourites m_quotas m_span m_nowDecisions m_nowPlains m_nowDoubles m_digits m_digitCount m_draft m_draftSize m_taking m_given m_givenSize m_next m_above m_begins m_layerCount m_newWidth m_newHeight)) (wr := List.filterMap (fun (i : Nat) => (W_X m_0 m_picture_a m_file_a m_layers_a m_wide_a m_high_a m_half_a m_states_a m_favourites_a m_quotas_a m_digits_a m_draft_a m_given_a m_begins_a m_picture_k m_file_k m_layers_k m_wide_k m_high_k m_half_k m_states_k m_favourites_k m_quotas_k m_digits_k m_draft_k m_given_k m_begins_k m_code m_width m_height m_picture m_length m_file m_any m_decisions m_plains m_doubles m_layers m_wide m_high m_half m_states m_favourites m_quotas m_span m_nowDecisions m_nowPlains m_nowDoubles m_digits m_digitCount m_draft m_draftSize m_taking m_given m_givenSize m_next m_above m_begins m_layerCount m_newWidth m_newHeight)[i]?) ([0, 1, 2, 3, 4, 5, 6, 7, 8, 9, 10, 11, 12, 13] : List Nat)) (va_runS (As := [.int i_n, .int (1 : Int32), .int (8 : Int32)]) (rest := [.ref m_0]) ⟨hx, hb, hml, hown, hts⟩ (c_Mod_within l dC dI  i_n (1 : Int32) (8 : Int32)  z1  hz1 H.size) ⟨callB_of 3 hts (gT tt750 TT_good) rfl rfl rfl (hts _ tt53) (hts _ tt748) (by decide +kernel) ⟨Nat.le_of_ble_eq_true rfl, Nat.le_of_ble_eq_true rfl⟩, hts _ tt749⟩ (x_pre (wc := (W_0  )) (av := [.int i_n, .int (1 : Int32), .int (8 : Int32)]) hK hP hD hS hA hG [] [] rfl rfl (by decide)) rfl rfl hl.1 rfl (lv_room (Nat.le_of_ble_eq_true rfl)) d_Mod_type_5 ⟨Nat.zero_le _, Nat.zero_le _⟩) hP hD hS hA [] [0, 1, 2, 3, 4, 5, 6, 7, 8, 9, 10, 11, 12, 13] [0, 1, 2, 3, 4, 5, 6, 7, 8, 9, 10, 11, 12, 13] rfl rfl (by decide) (by decide) (by decide) rfl (fun H locs hP hD hS => ?_)
  refine lv_if_ne (tgt := 15) hx hb d_Mod_type_8 rfl (fun hc => ?_) (fun hc => ?_)
  · replace h := of hc h
    refine lv_aload_n hx hb d_Mod_type_15 rfl (lv_at hl 0 rfl) ?_
    refine va_get (D := (dC, dI)) (ci := 7) (v := .int m_length) (C := R_Mod) (T := F_Mod) (N := 34) hx hb hts in_Mod hown hK hP 0 rfl rfl 4 (by decide) (hts _ tt641) (fun _ h9 => h9) rfl d_Mod_type_16 ?_
    refine lv_iload_n hx hb d_Mod_type_19 rfl (lv_at hl 2 rfl) ?_
    refine lv_iadd hx hb d_Mod_type_20 ?_
    refine lv_sipush (v := (900 : Int32)) hx hb d_Mod_type_21 (by decide) ?_
    refine lv_icmp_le (tgt := 31) hx hb d_Mod_type_24 rfl (fun hc => ?_) (fun hc => ?_)
    · replace h := ot hc h
      refine lv_iconst (v := (0 : Int32)) hx hb d_Mod_type_31 (by decide) ?_
      refine va_put (D := (dC, dI)) (ci := 7) (v := .int (0 : Int32)) (ty := .int) (C := R_Mod) (T := F_Mod) (N := 34) hx hb hts in_Mod t_Mod t_Mod_ok n_Mod hown hK hP hD hS 0 rfl rfl 0 (by decide) (hts _ tt637) (fun _ h9 => h9) rfl (by decide +kernel) rfl rfl (Nat.le_of_ble_eq_true rfl) d_Mod_type_32 (fun H locs hP hD hS => ?_)
      have hP : va_P (dC, dI) vcl (W_X m_0 m_picture_a m_file_a m_layers_a m_wide_a m_high_a m_half_a m_states_a m_favourites_a m_quotas_a m_digits_a m_draft_a m_given_a m_begins_a m_picture_k m_file_k m_layers_k m_wide_k m_high_k m_half_k m_states_k m_favourites_k m_quotas_k m_digits_k m_draft_k m_given_k m_begins_k (0 : Int32) m_width m_height m_picture m_length m_file m_any m_decisions m_plains m_doubles m_layers m_wide m_high m_half m_states m_favourites m_quotas m_span m_nowDecisions m_nowPlains m_nowDoubles m_digits m_digitCount m_draft m_draftSize m_taking m_given m_givenSize m_next m_above m_begins m_layerCount m_newWidth m_newHeight) H := hP
      have hD : va_D A (W_X m_0 m_picture_a m_file_a m_layers_a m_wide_a m_high_a m_half_a m_states_a m_favourites_a m_quotas_a m_digits_a m_draft_a m_given_a m_begins_a m_picture_k m_file_k m_layers_k m_wide_k m_high_k m_half_k m_states_k m_favourites_k m_quotas_k m_digits_k m_draft_k m_given_k m_begins_k (0 : Int32) m_width m_height m_picture m_length m_file m_any m_decisions m_plains m_doubles m_layers m_wide m_high m_half m_states m_favourites m_quotas m_span m_nowDecisions m_nowPlains m_nowDoubles m_digits m_digitCount m_draft m_draftSize m_taking m_given m_givenSize m_next m_above m_begins m_layerCount m_newWidth m_newHeight) := hD
      refine lv_iload_n hx hb d_Mod_type_35 rfl (lv_at hl 2 rfl) ?_
      refine lv_iconst (v := (1 : Int32)) hx hb d_Mod_type_36 (by decide) ?_
      refine lv_isub hx hb d_Mod_type_37 ?_
      refine lv_istore (lv' := [(4, .int (i_n - (1 : Int32))), (0, .ref m_0), (1, .long i_bytes), (3, .int i_n)]) hx hb d_Mod_type_38 hl (by decide) rfl (fun ls hl => ?_)
      exact L40 5000 (i_n - (1 : Int32)) (0 : Int32) m_length m_file H locs ls (lv_sub hl [1, 2, 0] rfl) hP hD hS h
    · replace h := of hc h
      refine lv_iconst (v := (2 : Int32)) hx hb d_Mod_type_27 (by decide) ?_
      refine lv_goto (tgt := 32) hx hb d_Mod_type_28 rfl ?_
      refine va_put (D := (dC, dI)) (ci := 7) (v := .int (2 : Int32)) (ty := .int) (C := R_Mod) (T := F_Mod) (N := 34) hx hb hts in_Mod t_Mod t_Mod_ok n_Mod hown hK hP hD hS 0 rfl rfl 0 (by decide) (hts _ tt637) (fun _ h9 => h9) rfl (by decide +kernel) rfl rfl (Nat.le_of_ble_eq_true rfl) d_Mod_type_32 (fun H locs hP hD hS => ?_)
      have hP : va_P (dC, dI) vcl (W_X m_0 m_picture_a m_file_a m_layers_a m_wide_a m_high_a m_half_a m_states_a m_favourites_a m_quotas_a m_digits_a m_draft_a m_given_a m_begins_a m_picture_k m_file_k m_layers_k m_wide_k m_high_k m_half_k m_states_k m_favourites_k m_quotas_k m_digits_k m_draft_k m_given_k m_begins_k (2 : Int32) m_width m_height m_picture m_length m_file m_any m_decisions m_plains m_doubles m_layers m_wide m_high m_half m_states m_favourites m_quotas m_span m_nowDecisions m_nowPlains m_nowDoubles m_digits m_digitCount m_draft m_draftSize m_taking m_given m_givenSize m_next m_above m_begins m_layerCount m_newWidth m_newHeight) H := hP
      have hD : va_D A (W_X m_0 m_picture_a m_file_a m_layers_a m_wide_a m_high_a m_half_a m_states_a m_favourites_a m_quotas_a m_digits_a m_draft_a m_given_a m_begins_a m_picture_k m_file_k m_layers_k m_wide_k m_high_k m_half_k m_states_k m_favourites_k m_quotas_k m_digits_k m_draft_k m_given_k m_begins_k (2 : Int32) m_width m_height m_picture m_length m_file m_any m_decisions m_plains m_doubles m_layers m_wide m_high m_half m_states m_favourites m_quotas m_span m_nowDecisions m_nowPlains m_nowDoubles m_digits m_digitCount m_draft m_draftSize m_taking m_given m_givenSize m_next m_above m_begins m_layerCount m_newWidth m_newHeight) := hD
      refine lv_iload_n hx hb d_Mod_type_35 rfl (lv_at hl 2 rfl) ?_
      refine lv_iconst (v := (1 : Int32)) hx hb d_Mod_type_36 (by decide) ?_
      refine lv_isub hx hb d_Mod_type_37 ?_
      refine lv_istore (lv' := [(4, .int (i_n - (1 : Int32))), (0, .ref m_0), (1, .long i_bytes), (3, .int i_n)]) hx hb d_Mod_type_38 hl (by decide) rfl (fun ls hl => ?_)
      exact L40 5000 (i_n - (1 : Int32)) (2 : Int32) m_length m_file H locs ls (lv_sub hl [1, 2, 0] rfl) hP hD hS h
  · replace h := ot hc h
    refine lv_iconst (v := (1 : Int32)) hx hb d_Mod_type_11 (by decide) ?_
    refine lv_goto (tgt := 32) hx hb d_Mod_type_12 rfl ?_
    refine va_put (D := (dC, dI)) (ci := 7) (v := .int (1 : Int32)) (ty := .int) (C := R_Mod) (T := F_Mod) (N := 34) hx hb hts in_Mod t_Mod t_Mod_ok n_Mod hown hK hP hD hS 0 rfl rfl 0 (by decide) (hts _ tt637) (fun _ h9 => h9) rfl (by decide +kernel) rfl rfl (Nat.le_of_ble_eq_true rfl) d_Mod_type_32 (fun H locs hP hD hS => ?_)
    have hP : va_P (dC, dI) vcl (W_X m_0 m_picture_a m_file_a m_layers_a m_wide_a m_high_a m_half_a m_states_a m_favourites_a m_quotas_a m_digits_a m_draft_a m_given_a m_begins_a m_picture_k m_file_k m_layers_k m_wide_k m_high_k m_half_k m_states_k m_favourites_k m_quotas_k m_digits_k m_draft_k m_given_k m_begins_k (1 : Int32) m_width m_height m_picture m_length m_file m_any m_decisions m_plains m_doubles m_layers m_wide m_high m_half m_states m_favourites m_quotas m_span m_nowDecisions m_nowPlains m_nowDoubles m_digits m_digitCount m_draft m_draftSize m_taking m_given m_givenSize m_next m_above m_begins m_layerCount m_newWidth m_newHeight) H := hP
    have hD : va_D A (W_X m_0 m_picture_a m_file_a m_layers_a m_wide_a m_high_a m_half_a m_states_a m_favourites_a m_quotas_a m_digits_a m_draft_a m_given_a m_begins_a m_picture_k m_file_k m_layers_k m_wide_k m_high_k m_half_k m_states_k m_favourites_k m_quotas_k m_digits_k m_draft_k m_given_k m_begins_k (1 : Int32) m_width m_height m_picture m_length m_file m_any m_decisions m_plains m_doubles m_layers m_wide m_high m_half m_states m_favourites m_quotas m_span m_nowDecisions m_nowPlains m_nowDoubles m_digits m_digitCount m_draft m_draftSize m_taking m_given m_givenSize m_next m_above m_begins m_layerCount m_newWidth m_newHeight) := hD
    refine lv_iload_n hx hb d_Mod_type_35 rfl (lv_at hl 2 rfl) ?_
    refine lv_iconst (v := (1 : Int32)) hx hb d_Mod_type_36 (by decide) ?_
    refine lv_isub hx hb d_Mod_type_37 ?_
    refine lv_istore (lv' := [(4, .int (i_n - (1 : Int32))), (0, .ref m_0), (1, .long i_bytes), (3, .int i_n)]) hx hb d_Mod_type_38 hl (by decide) rfl (fun ls hl => ?_)
    exact L40 5000 (i_n - (1 : Int32)) (1 : Int32) m_length m_file H locs ls (lv_sub hl [1, 2, 0] rfl) hP hD hS h
