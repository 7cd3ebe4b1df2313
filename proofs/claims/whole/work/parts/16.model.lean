def W_X (m_0 m_picture_a m_file_a m_layers_a m_wide_a m_high_a m_half_a m_states_a m_favourites_a m_quotas_a m_digits_a m_draft_a m_given_a m_begins_a : Nat) (m_picture_k m_file_k m_layers_k m_wide_k m_high_k m_half_k m_states_k m_favourites_k m_quotas_k m_digits_k m_draft_k m_given_k m_begins_k : ClassId) (m_code : Int32) (m_width : Int32) (m_height : Int32) (m_picture : Nat → Int32) (m_length : Int32) (m_file : Nat → Int32) (m_any : Int32) (m_decisions : Int32) (m_plains : Int32) (m_doubles : Int32) (m_layers : Nat → Int32) (m_wide : Nat → Int32) (m_high : Nat → Int32) (m_half : Nat → Int32) (m_states : Nat → Int32) (m_favourites : Nat → Int32) (m_quotas : Nat → Int32) (m_span : Int32) (m_nowDecisions : Int32) (m_nowPlains : Int32) (m_nowDoubles : Int32) (m_digits : Nat → Int32) (m_digitCount : Int32) (m_draft : Nat → Int32) (m_draftSize : Int32) (m_taking : Int32) (m_given : Nat → Int32) (m_givenSize : Int32) (m_next : Int32) (m_above : Int32) (m_begins : Nat → Int32) (m_layerCount : Int32) (m_newWidth : Int32) (m_newHeight : Int32) : va_W := [(m_0, .inr (7, [.int m_code, .int m_width, .int m_height, .ref m_picture_a, .int m_length, .ref m_file_a, .int m_any, .int m_decisions, .int m_plains, .int m_doubles, .ref m_layers_a, .ref m_wide_a, .ref m_high_a, .ref m_half_a, .ref m_states_a, .ref m_favourites_a, .ref m_quotas_a, .int m_span, .int m_nowDecisions, .int m_nowPlains, .int m_nowDoubles, .ref m_digits_a, .int m_digitCount, .ref m_draft_a, .int m_draftSize, .int m_taking, .ref m_given_a, .int m_givenSize, .int m_next, .int m_above, .ref m_begins_a, .int m_layerCount, .int m_newWidth, .int m_newHeight])), (m_picture_a, .inl (m_picture_k, 256, .inl m_picture)), (m_file_a, .inl (m_file_k, 900, .inl m_file)), (m_layers_a, .inl (m_layers_k, 768, .inl m_layers)), (m_wide_a, .inl (m_wide_k, 3, .inl m_wide)), (m_high_a, .inl (m_high_k, 3, .inl m_high)), (m_half_a, .inl (m_half_k, 256, .inl m_half)), (m_states_a, .inl (m_states_k, 2563, .inl m_states)), (m_favourites_a, .inl (m_favourites_k, 2563, .inl m_favourites)), (m_quotas_a, .inl (m_quotas_k, 24, .inl m_quotas)), (m_digits_a, .inl (m_digits_k, 4000, .inl m_digits)), (m_draft_a, .inl (m_draft_k, 900, .inl m_draft)), (m_given_a, .inl (m_given_k, 900, .inl m_given)), (m_begins_a, .inl (m_begins_k, 3, .inl m_begins))]
theorem d_Mod_within_0 : decode b_Mod_within 0 = .ok (.iload_n 0, 1) := by decide +kernel
theorem d_Mod_within_1 : decode b_Mod_within 1 = .ok (.iload_n 1, 1) := by decide +kernel
theorem d_Mod_within_2 : decode b_Mod_within 2 = .ok (.if_icmp .lt (12), 3) := by decide +kernel
theorem d_Mod_within_5 : decode b_Mod_within 5 = .ok (.iload_n 0, 1) := by decide +kernel
theorem d_Mod_within_6 : decode b_Mod_within 6 = .ok (.iload_n 2, 1) := by decide +kernel
theorem d_Mod_within_7 : decode b_Mod_within 7 = .ok (.if_icmp .gt (7), 3) := by decide +kernel
theorem d_Mod_within_10 : decode b_Mod_within 10 = .ok (.iconst (1), 1) := by decide +kernel
theorem d_Mod_within_11 : decode b_Mod_within 11 = .ok (.goto (4), 3) := by decide +kernel
theorem d_Mod_within_14 : decode b_Mod_within 14 = .ok (.iconst (0), 1) := by decide +kernel
theorem d_Mod_within_15 : decode b_Mod_within 15 = .ok (.ireturn, 1) := by decide +kernel
def q_Mod_within (i_v : Int32) (i_low : Int32) (i_high : Int32)  : Option (Int32) := (if i_v < i_low then some ((0 : Int32)) else (if i_high < i_v then some ((0 : Int32)) else some ((1 : Int32))))
abbrev rm_Mod_within : Room := { frames := 0, cells := 0, slots := 0, locals := 0 }
set_option maxHeartbeats 4000000 in
set_option maxRecDepth 100000 in
theorem c_Mod_within (l : Launch) (dC : Nat → ClassId) (dI : Nat → Nat → Nat)  (i_v : Int32) (i_low : Int32) (i_high : Int32)  (z : Int32)  (hq : q_Mod_within i_v i_low i_high = some z) (sz : Nat) : MetI l y_Mod_within b_Mod_within 3 .boolean TT rm_Mod_within (dC, dI) vcl [] (W_0  ) (W_0  ) [.int i_v, .int i_low, .int i_high] z sz := by
  refine x_ofI (by decide) (Nat.le_of_ble_eq_true rfl) ?_ sz
  intro p e s m args below meth c A Q ls hx hb hml hown hts hA hG hK hP hD hS hl hret
  have hown : s.vm.findClass R_Mod = some m.cls := hown
  have hl : lv_has ls 3 [(0, .int i_v), (1, .int i_low), (2, .int i_high)] := hl
  obtain ⟨⟨tq, hZ, hTq⟩, hN⟩ := id hG
  obtain ⟨H, hH⟩ : ∃ H, H = s.heap := ⟨_, rfl⟩
  obtain ⟨locs, hlocs⟩ : ∃ locs : List Loc, locs = [] := ⟨_, rfl⟩
  rw [← hH] at hP
  have hS : va_S A s.heap H locs := by rw [hH, hlocs]; exact hS
  suffices hgo : W p l e rm_Mod_within s m args below meth c H locs 0 0 Q (F0 m 0 ls []) by rw [hH, hlocs] at hgo; exact hgo
  unfold q_Mod_within at hq
  have h := hq
  refine lv_iload_n hx hb d_Mod_within_0 rfl (lv_at hl 0 rfl) ?_
  refine lv_iload_n hx hb d_Mod_within_1 rfl (lv_at hl 1 rfl) ?_
  refine lv_icmp_lt (tgt := 14) hx hb d_Mod_within_2 rfl (fun hc => ?_) (fun hc => ?_)
  · replace h := ot hc h
    refine lv_iconst (v := (0 : Int32)) hx hb d_Mod_within_14 (by decide) ?_
    obtain rfl := Option.some.inj h
    exact hret H locs 15 ls d_Mod_within_15 narrow_b0 hP hD hS
  · replace h := of hc h
    refine lv_iload_n hx hb d_Mod_within_5 rfl (lv_at hl 0 rfl) ?_
    refine lv_iload_n hx hb d_Mod_within_6 rfl (lv_at hl 2 rfl) ?_
    refine lv_icmp_gt (tgt := 14) hx hb d_Mod_within_7 rfl (fun hc => ?_) (fun hc => ?_)
    · replace h := ot hc h
      refine lv_iconst (v := (0 : Int32)) hx hb d_Mod_within_14 (by decide) ?_
      obtain rfl := Option.some.inj h
      exact hret H locs 15 ls d_Mod_within_15 narrow_b0 hP hD hS
    · replace h := of hc h
      refine lv_iconst (v := (1 : Int32)) hx hb d_Mod_within_10 (by decide) ?_
      refine lv_goto (tgt := 15) hx hb d_Mod_within_11 rfl ?_
      obtain rfl := Option.some.inj h
      exact hret H locs 15 ls d_Mod_within_15 narrow_b1 hP hD hS
theorem d_Mod_thrown_0 : decode b_Mod_thrown 0 = .ok (.aload_n 0, 1) := by decide +kernel
theorem d_Mod_thrown_1 : decode b_Mod_thrown 1 = .ok (.getfield 56, 3) := by decide +kernel
theorem d_Mod_thrown_4 : decode b_Mod_thrown 4 = .ok (.ireturn, 1) := by decide +kernel
def q_Mod_thrown  (m_code : Int32) : Option (Int32) := some (m_code)
abbrev rm_Mod_thrown : Room := { frames := 0, cells := 0, slots := 0, locals := 0 }
set_option maxHeartbeats 4000000 in
set_option maxRecDepth 100000 in
theorem c_Mod_thrown (l : Launch) (dC : Nat → ClassId) (dI : Nat → Nat → Nat) (m_0 m_picture_a m_file_a m_layers_a m_wide_a m_high_a m_half_a m_states_a m_favourites_a m_quotas_a m_digits_a m_draft_a m_given_a m_begins_a : Nat) (m_picture_k m_file_k m_layers_k m_wide_k m_high_k m_half_k m_states_k m_favourites_k m_quotas_k m_digits_k m_draft_k m_given_k m_begins_k : ClassId)  (m_code : Int32) (m_width : Int32) (m_height : Int32) (m_picture : Nat → Int32) (m_length : Int32) (m_file : Nat → Int32) (m_any : Int32) (m_decisions : Int32) (m_plains : Int32) (m_doubles : Int32) (m_layers : Nat → Int32) (m_wide : Nat → Int32) (m_high : Nat → Int32) (m_half : Nat → Int32) (m_states : Nat → Int32) (m_favourites : Nat → Int32) (m_quotas : Nat → Int32) (m_span : Int32) (m_nowDecisions : Int32) (m_nowPlains : Int32) (m_nowDoubles : Int32) (m_digits : Nat → Int32) (m_digitCount : Int32) (m_draft : Nat → Int32) (m_draftSize : Int32) (m_taking : Int32) (m_given : Nat → Int32) (m_givenSize : Int32) (m_next : Int32) (m_above : Int32) (m_begins : Nat → Int32) (m_layerCount : Int32) (m_newWidth : Int32) (m_newHeight : Int32) (z : Int32)  (hq : q_Mod_thrown m_code = some z) (sz : Nat) : MetI l y_Mod_thrown b_Mod_thrown 1 .int TT rm_Mod_thrown (dC, dI) vcl [(m_picture_k, .int), (m_file_k, .int), (m_layers_k, .int), (m_wide_k, .int), (m_high_k, .int), (m_half_k, .int), (m_states_k, .int), (m_favourites_k, .int), (m_quotas_k, .int), (m_digits_k, .int), (m_draft_k, .int), (m_given_k, .int), (m_begins_k, .int)] (W_X m_0 m_picture_a m_file_a m_layers_a m_wide_a m_high_a m_half_a m_states_a m_favourites_a m_quotas_a m_digits_a m_draft_a m_given_a m_begins_a m_picture_k m_file_k m_layers_k m_wide_k m_high_k m_half_k m_states_k m_favourites_k m_quotas_k m_digits_k m_draft_k m_given_k m_begins_k m_code m_width m_height m_picture m_length m_file m_any m_decisions m_plains m_doubles m_layers m_wide m_high m_half m_states m_favourites m_quotas m_span m_nowDecisions m_nowPlains m_nowDoubles m_digits m_digitCount m_draft m_draftSize m_taking m_given m_givenSize m_next m_above m_begins m_layerCount m_newWidth m_newHeight) (W_X m_0 m_picture_a m_file_a m_layers_a m_wide_a m_high_a m_half_a m_states_a m_favourites_a m_quotas_a m_digits_a m_draft_a m_given_a m_begins_a m_picture_k m_file_k m_layers_k m_wide_k m_high_k m_half_k m_states_k m_favourites_k m_quotas_k m_digits_k m_draft_k m_given_k m_begins_k m_code m_width m_height m_picture m_length m_file m_any m_decisions m_plains m_doubles m_layers m_wide m_high m_half m_states m_favourites m_quotas m_span m_nowDecisions m_nowPlains m_nowDoubles m_digits m_digitCount m_draft m_draftSize m_taking m_given m_givenSize m_next m_above m_begins m_layerCount m_newWidth m_newHeight) [.ref m_0] z sz := by
  refine x_ofI (by decide) (Nat.le_of_ble_eq_true rfl) ?_ sz
  intro p e s m args below meth c A Q ls hx hb hml hown hts hA hG hK hP hD hS hl hret
  have hown : s.vm.findClass R_Mod = some m.cls := hown
  have hl : lv_has ls 1 [(0, .ref m_0)] := hl
  obtain ⟨⟨tq, hZ, hTq⟩, hN⟩ := id hG
  obtain ⟨H, hH⟩ : ∃ H, H = s.heap := ⟨_, rfl⟩
  obtain ⟨locs, hlocs⟩ : ∃ locs : List Loc, locs = [] := ⟨_, rfl⟩
  rw [← hH] at hP
  have hS : va_S A s.heap H locs := by rw [hH, hlocs]; exact hS
  suffices hgo : W p l e rm_Mod_thrown s m args below meth c H locs 0 0 Q (F0 m 0 ls []) by rw [hH, hlocs] at hgo; exact hgo
  unfold q_Mod_thrown at hq
  have h := hq
  refine lv_aload_n hx hb d_Mod_thrown_0 rfl (lv_at hl 0 rfl) ?_
  refine va_get (D := (dC, dI)) (ci := 7) (v := .int m_code) (C := R_Mod) (T := F_Mod) (N := 34) hx hb hts in_Mod hown hK hP 0 rfl rfl 0 (by decide) (hts _ tt637) (fun _ h9 => h9) rfl d_Mod_thrown_1 ?_
  obtain rfl := Option.some.inj h
  exact hret H locs 4 ls d_Mod_thrown_4 (vp_nar_int _) hP hD hS
theorem d_Mod_clear_0 : decode b_Mod_clear 0 = .ok (.aload_n 0, 1) := by decide +kernel
theorem d_Mod_clear_1 : decode b_Mod_clear 1 = .ok (.iload_n 1, 1) := by decide +kernel
theorem d_Mod_clear_2 : decode b_Mod_clear 2 = .ok (.iconst (1), 1) := by decide +kernel
theorem d_Mod_clear_3 : decode b_Mod_clear 3 = .ok (.bipush (16), 2) := by decide +kernel
theorem d_Mod_clear_5 : decode b_Mod_clear 5 = .ok (.invokestatic 59, 3) := by decide +kernel
theorem d_Mod_clear_8 : decode b_Mod_clear 8 = .ok (.ifCond .eq (17), 3) := by decide +kernel
theorem d_Mod_clear_11 : decode b_Mod_clear 11 = .ok (.iload_n 2, 1) := by decide +kernel
theorem d_Mod_clear_12 : decode b_Mod_clear 12 = .ok (.iconst (1), 1) := by decide +kernel
theorem d_Mod_clear_13 : decode b_Mod_clear 13 = .ok (.bipush (16), 2) := by decide +kernel
theorem d_Mod_clear_15 : decode b_Mod_clear 15 = .ok (.invokestatic 59, 3) := by decide +kernel
theorem d_Mod_clear_18 : decode b_Mod_clear 18 = .ok (.ifCond .eq (7), 3) := by decide +kernel
theorem d_Mod_clear_21 : decode b_Mod_clear 21 = .ok (.iconst (0), 1) := by decide +kernel
theorem d_Mod_clear_22 : decode b_Mod_clear 22 = .ok (.goto (4), 3) := by decide +kernel
theorem d_Mod_clear_25 : decode b_Mod_clear 25 = .ok (.iconst (1), 1) := by decide +kernel
theorem d_Mod_clear_26 : decode b_Mod_clear 26 = .ok (.putfield 56, 3) := by decide +kernel
theorem d_Mod_clear_29 : decode b_Mod_clear 29 = .ok (.aload_n 0, 1) := by decide +kernel
theorem d_Mod_clear_30 : decode b_Mod_clear 30 = .ok (.getfield 56, 3) := by decide +kernel
theorem d_Mod_clear_33 : decode b_Mod_clear 33 = .ok (.ifCond .ne (35), 3) := by decide +kernel
theorem d_Mod_clear_36 : decode b_Mod_clear 36 = .ok (.aload_n 0, 1) := by decide +kernel
theorem d_Mod_clear_37 : decode b_Mod_clear 37 = .ok (.iload_n 1, 1) := by decide +kernel
theorem d_Mod_clear_38 : decode b_Mod_clear 38 = .ok (.putfield 7, 3) := by decide +kernel
theorem d_Mod_clear_41 : decode b_Mod_clear 41 = .ok (.aload_n 0, 1) := by decide +kernel
theorem d_Mod_clear_42 : decode b_Mod_clear 42 = .ok (.iload_n 2, 1) := by decide +kernel
theorem d_Mod_clear_43 : decode b_Mod_clear 43 = .ok (.putfield 13, 3) := by decide +kernel
theorem d_Mod_clear_46 : decode b_Mod_clear 46 = .ok (.iconst (0), 1) := by decide +kernel
theorem d_Mod_clear_47 : decode b_Mod_clear 47 = .ok (.istore_n 3, 1) := by decide +kernel
theorem d_Mod_clear_48 : decode b_Mod_clear 48 = .ok (.iload_n 3, 1) := by decide +kernel
theorem d_Mod_clear_49 : decode b_Mod_clear 49 = .ok (.sipush (256), 3) := by decide +kernel
theorem d_Mod_clear_52 : decode b_Mod_clear 52 = .ok (.if_icmp .ge (16), 3) := by decide +kernel
theorem d_Mod_clear_55 : decode b_Mod_clear 55 = .ok (.aload_n 0, 1) := by decide +kernel
theorem d_Mod_clear_56 : decode b_Mod_clear 56 = .ok (.getfield 16, 3) := by decide +kernel
theorem d_Mod_clear_59 : decode b_Mod_clear 59 = .ok (.iload_n 3, 1) := by decide +kernel
theorem d_Mod_clear_60 : decode b_Mod_clear 60 = .ok (.iconst (0), 1) := by decide +kernel
theorem d_Mod_clear_61 : decode b_Mod_clear 61 = .ok (.iastore, 1) := by decide +kernel
theorem d_Mod_clear_62 : decode b_Mod_clear 62 = .ok (.iinc 3 (1), 3) := by decide +kernel
theorem d_Mod_clear_65 : decode b_Mod_clear 65 = .ok (.goto (-17), 3) := by decide +kernel
theorem d_Mod_clear_68 : decode b_Mod_clear 68 = .ok (.return_, 1) := by decide +kernel
def q_Mod_clear_48 (i_w : Int32) (i_h : Int32)  : Nat → Int32 → Int32 → Int32 → Int32 → (Nat → Int32) → Option (Int32 × Int32 × Int32 × (Nat → Int32))
  | 0, _, _, _, _, _ => none
  | n + 1, x3_48, m_code_48, m_width_48, m_height_48, m_picture_48 => (if (256 : Int32) ≤ x3_48 then some (m_code_48, m_width_48, m_height_48, m_picture_48) else (if vpb x3_48 256 = true then (q_Mod_clear_48 i_w i_h n (x3_48 + (1 : Int32)) m_code_48 m_width_48 m_height_48 (upd m_picture_48 x3_48.toNatClampNeg (0 : Int32))) else none))
def q_Mod_clear_26 (i_w : Int32) (i_h : Int32)  (k1_26 : Int32) (m_code_26 : Int32) (m_width_26 : Int32) (m_height_26 : Int32) (m_picture_26 : Nat → Int32) : Option (Int32 × Int32 × Int32 × (Nat → Int32)) := (if k1_26 = 0 then (q_Mod_clear_48 i_w i_h  5000 (0 : Int32) k1_26 i_w i_h m_picture_26) else some (k1_26, m_width_26, m_height_26, m_picture_26))
def q_Mod_clear_25 (i_w : Int32) (i_h : Int32)  (m_code_25 : Int32) (m_width_25 : Int32) (m_height_25 : Int32) (m_picture_25 : Nat → Int32) : Option (Int32 × Int32 × Int32 × (Nat → Int32)) := (q_Mod_clear_26 i_w i_h  (1 : Int32) m_code_25 m_width_25 m_height_25 m_picture_25)
def q_Mod_clear (i_w : Int32) (i_h : Int32) (m_code : Int32) (m_width : Int32) (m_height : Int32) (m_picture : Nat → Int32) : Option (Int32 × Int32 × Int32 × (Nat → Int32)) := ((q_Mod_within i_w (1 : Int32) (16 : Int32)).bind fun z1 => (if z1 = 0 then (q_Mod_clear_25 i_w i_h  m_code m_width m_height m_picture) else ((q_Mod_within i_h (1 : Int32) (16 : Int32)).bind fun z2 => (if z2 = 0 then (q_Mod_clear_25 i_w i_h  m_code m_width m_height m_picture) else (q_Mod_clear_26 i_w i_h  (0 : Int32) m_code m_width m_height m_picture)))))
abbrev rm_Mod_clear : Room := { frames := 1, cells := 0, slots := 0, locals := 22 }
set_option maxHeartbeats 4000000 in
set_option maxRecDepth 100000 in
theorem c_Mod_clear (l : Launch) (dC : Nat → ClassId) (dI : Nat → Nat → Nat) (m_0 m_picture_a m_file_a m_layers_a m_wide_a m_high_a m_half_a m_states_a m_favourites_a m_quotas_a m_digits_a m_draft_a m_given_a m_begins_a : Nat) (m_picture_k m_file_k m_layers_k m_wide_k m_high_k m_half_k m_states_k m_favourites_k m_quotas_k m_digits_k m_draft_k m_given_k m_begins_k : ClassId) (i_w : Int32) (i_h : Int32) (m_code : Int32) (m_width : Int32) (m_height : Int32) (m_picture : Nat → Int32) (m_length : Int32) (m_file : Nat → Int32) (m_any : Int32) (m_decisions : Int32) (m_plains : Int32) (m_doubles : Int32) (m_layers : Nat → Int32) (m_wide : Nat → Int32) (m_high : Nat → Int32) (m_half : Nat → Int32) (m_states : Nat → Int32) (m_favourites : Nat → Int32) (m_quotas : Nat → Int32) (m_span : Int32) (m_nowDecisions : Int32) (m_nowPlains : Int32) (m_nowDoubles : Int32) (m_digits : Nat → Int32) (m_digitCount : Int32) (m_draft : Nat → Int32) (m_draftSize : Int32) (m_taking : Int32) (m_given : Nat → Int32) (m_givenSize : Int32) (m_next : Int32) (m_above : Int32) (m_begins : Nat → Int32) (m_layerCount : Int32) (m_newWidth : Int32) (m_newHeight : Int32) (z : Int32 × Int32 × Int32 × (Nat → Int32))  (hq : q_Mod_clear i_w i_h m_code m_width m_height m_picture = some z) (sz : Nat) : MetV l y_Mod_clear b_Mod_clear 4 TT rm_Mod_clear (dC, dI) vcl [(m_picture_k, .int), (m_file_k, .int), (m_layers_k, .int), (m_wide_k, .int), (m_high_k, .int), (m_half_k, .int), (m_states_k, .int), (m_favourites_k, .int), (m_quotas_k, .int), (m_digits_k, .int), (m_draft_k, .int), (m_given_k, .int), (m_begins_k, .int)] (W_X m_0 m_picture_a m_file_a m_layers_a m_wide_a m_high_a m_half_a m_states_a m_favourites_a m_quotas_a m_digits_a m_draft_a m_given_a m_begins_a m_picture_k m_file_k m_layers_k m_wide_k m_high_k m_half_k m_states_k m_favourites_k m_quotas_k m_digits_k m_draft_k m_given_k m_begins_k m_code m_width m_height m_picture m_length m_file m_any m_decisions m_plains m_doubles m_layers m_wide m_high m_half m_states m_favourites m_quotas m_span m_nowDecisions m_nowPlains m_nowDoubles m_digits m_digitCount m_draft m_draftSize m_taking m_given m_givenSize m_next m_above m_begins m_layerCount m_newWidth m_newHeight) (W_X m_0 m_picture_a m_file_a m_layers_a m_wide_a m_high_a m_half_a m_states_a m_favourites_a m_quotas_a m_digits_a m_draft_a m_given_a m_begins_a m_picture_k m_file_k m_layers_k m_wide_k m_high_k m_half_k m_states_k m_favourites_k m_quotas_k m_digits_k m_draft_k m_given_k m_begins_k z.1 z.2.1 z.2.2.1 z.2.2.2 m_length m_file m_any m_decisions m_plains m_doubles m_layers m_wide m_high m_half m_states m_favourites m_quotas m_span m_nowDecisions m_nowPlains m_nowDoubles m_digits m_digitCount m_draft m_draftSize m_taking m_given m_givenSize m_next m_above m_begins m_layerCount m_newWidth m_newHeight) [.ref m_0, .int i_w, .int i_h] sz := by
  refine x_ofV (by decide) (Nat.le_of_ble_eq_true rfl) ?_ sz
  intro p e s m args below meth c A Q ls hx hb hml hown hts hA hG hK hP hD hS hl hret
  have hown : s.vm.findClass R_Mod = some m.cls := hown
  have hl : lv_has ls 4 [(0, .ref m_0), (1, .int i_w), (2, .int i_h)] := hl
  obtain ⟨⟨tq, hZ, hTq⟩, hN⟩ := id hG
  obtain ⟨H, hH⟩ : ∃ H, H = s.heap := ⟨_, rfl⟩
  obtain ⟨locs, hlocs⟩ : ∃ locs : List Loc, locs = [] := ⟨_, rfl⟩
  rw [← hH] at hP
  have hS : va_S A s.heap H locs := by rw [hH, hlocs]; exact hS
  suffices hgo : W p l e rm_Mod_clear s m args below meth c H locs 0 0 Q (F0 m 0 ls []) by rw [hH, hlocs] at hgo; exact hgo
  unfold q_Mod_clear at hq
  have L26 : ∀ (k1_26 : Int32) (m_code_26 : Int32) (m_width_26 : Int32) (m_height_26 : Int32) (m_picture_26 : Nat → Int32) (H : Heap) (locs : List Loc) (ls : Array Slot), lv_has ls 4 [(0, .ref m_0), (1, .int i_w), (2, .int i_h)] → va_P (dC, dI) vcl (W_X m_0 m_picture_a m_file_a m_layers_a m_wide_a m_high_a m_half_a m_states_a m_favourites_a m_quotas_a m_digits_a m_draft_a m_given_a m_begins_a m_picture_k m_file_k m_layers_k m_wide_k m_high_k m_half_k m_states_k m_favourites_k m_quotas_k m_digits_k m_draft_k m_given_k m_begins_k m_code_26 m_width_26 m_height_26 m_picture_26 m_length m_file m_any m_decisions m_plains m_doubles m_layers m_wide m_high m_half m_states m_favourites m_quotas m_span m_nowDecisions m_nowPlains m_nowDoubles m_digits m_digitCount m_draft m_draftSize m_taking m_given m_givenSize m_next m_above m_begins m_layerCount m_newWidth m_newHeight) H → va_D A (W_X m_0 m_picture_a m_file_a m_layers_a m_wide_a m_high_a m_half_a m_states_a m_favourites_a m_quotas_a m_digits_a m_draft_a m_given_a m_begins_a m_picture_k m_file_k m_layers_k m_wide_k m_high_k m_half_k m_states_k m_favourites_k m_quotas_k m_digits_k m_draft_k m_given_k m_begins_k m_code_26 m_width_26 m_height_26 m_picture_26 m_length m_file m_any m_decisions m_plains m_doubles m_layers m_wide m_high m_half m_states m_favourites m_quotas m_span m_nowDecisions m_nowPlains m_nowDoubles m_digits m_digitCount m_draft m_draftSize m_taking m_given m_givenSize m_next m_above m_begins m_layerCount m_newWidth m_newHeight) → va_S A s.heap H locs → q_Mod_clear_26 i_w i_h  k1_26 m_code_26 m_width_26 m_height_26 m_picture_26 = some z → W p l e rm_Mod_clear s m args below meth c H locs 0 0 Q (F0 m 26 ls [.int k1_26, .ref m_0]) := by
    intro k1_26 m_code_26 m_width_26 m_height_26 m_picture_26 H locs ls hl hP hD hS hq26
    unfold q_Mod_clear_26 at hq26
    have L48 : ∀ (n48 : Nat) (x3_48 : Int32) (m_code_48 : Int32) (m_width_48 : Int32) (m_height_48 : Int32) (m_picture_48 : Nat → Int32) (H : Heap) (locs : List Loc) (ls : Array Slot), lv_has ls 4 [(0, .ref m_0), (3, .int x3_48)] → va_P (dC, dI) vcl (W_X m_0 m_picture_a m_file_a m_layers_a m_wide_a m_high_a m_half_a m_states_a m_favourites_a m_quotas_a m_digits_a m_draft_a m_given_a m_begins_a m_picture_k m_file_k m_layers_k m_wide_k m_high_k m_half_k m_states_k m_favourites_k m_quotas_k m_digits_k m_draft_k m_given_k m_begins_k m_code_48 m_width_48 m_height_48 m_picture_48 m_length m_file m_any m_decisions m_plains m_doubles m_layers m_wide m_high m_half m_states m_favourites m_quotas m_span m_nowDecisions m_nowPlains m_nowDoubles m_digits m_digitCount m_draft m_draftSize m_taking m_given m_givenSize m_next m_above m_begins m_layerCount m_newWidth m_newHeight) H → va_D A (W_X m_0 m_picture_a m_file_a m_layers_a m_wide_a m_high_a m_half_a m_states_a m_favourites_a m_quotas_a m_digits_a m_draft_a m_given_a m_begins_a m_picture_k m_file_k m_layers_k m_wide_k m_high_k m_half_k m_states_k m_favourites_k m_quotas_k m_digits_k m_draft_k m_given_k m_begins_k m_code_48 m_width_48 m_height_48 m_picture_48 m_length m_file m_any m_decisions m_plains m_doubles m_layers m_wide m_high m_half m_states m_favourites m_quotas m_span m_nowDecisions m_nowPlains m_nowDoubles m_digits m_digitCount m_draft m_draftSize m_taking m_given m_givenSize m_next m_above m_begins m_layerCount m_newWidth m_newHeight) → va_S A s.heap H locs → q_Mod_clear_48 i_w i_h  n48 x3_48 m_code_48 m_width_48 m_height_48 m_picture_48 = some z → W p l e rm_Mod_clear s m args below meth c H locs 0 0 Q (F0 m 48 ls []) := by
      intro n48
      induction n48 with
      | zero =>
        intro x3_48 m_code_48 m_width_48 m_height_48 m_picture_48 H locs ls hl hP hD hS hq
        rw [q_Mod_clear_48] at hq
        cases hq
      | succ n48 ih48 =>
        intro x3_48 m_code_48 m_width_48 m_height_48 m_picture_48 H locs ls hl hP hD hS hq48
        rw [q_Mod_clear_48] at hq48
        have h := hq48
        refine lv_iload_n hx hb d_Mod_clear_48 rfl (lv_at hl 1 rfl) ?_
        refine lv_sipush (v := (256 : Int32)) hx hb d_Mod_clear_49 (by decide) ?_
        refine lv_icmp_ge (tgt := 68) hx hb d_Mod_clear_52 rfl (fun hc => ?_) (fun hc => ?_)
        · replace h := ot hc h
          obtain rfl := Option.some.inj h
          exact hret H locs 68 ls d_Mod_clear_68 hP hD hS
        · replace h := of hc h
          refine lv_aload_n hx hb d_Mod_clear_55 rfl (lv_at hl 0 rfl) ?_
          refine va_get (D := (dC, dI)) (ci := 7) (v := .ref m_picture_a) (C := R_Mod) (T := F_Mod) (N := 34) hx hb hts in_Mod hown hK hP 0 rfl rfl 3 (by decide) (hts _ tt640) (fun _ h9 => h9) rfl d_Mod_clear_56 ?_
          refine lv_iload_n hx hb d_Mod_clear_59 rfl (lv_at hl 1 rfl) ?_
          refine lv_iconst (v := (0 : Int32)) hx hb d_Mod_clear_60 (by decide) ?_
          obtain ⟨hin, h⟩ := og h
          refine va_iast hx hb hK hP hD hS 1 0 rfl rfl (vpb_in hin) d_Mod_clear_61 (fun H locs hP hD hS => ?_)
          have hP : va_P (dC, dI) vcl (W_X m_0 m_picture_a m_file_a m_layers_a m_wide_a m_high_a m_half_a m_states_a m_favourites_a m_quotas_a m_digits_a m_draft_a m_given_a m_begins_a m_picture_k m_file_k m_layers_k m_wide_k m_high_k m_half_k m_states_k m_favourites_k m_quotas_k m_digits_k m_draft_k m_given_k m_begins_k m_code_48 m_width_48 m_height_48 (upd m_picture_48 x3_48.toNatClampNeg (0 : Int32)) m_length m_file m_any m_decisions m_plains m_doubles m_layers m_wide m_high m_half m_states m_favourites m_quotas m_span m_nowDecisions m_nowPlains m_nowDoubles m_digits m_digitCount m_draft m_draftSize m_taking m_given m_givenSize m_next m_above m_begins m_layerCount m_newWidth m_newHeight) H := hP
          have hD : va_D A (W_X m_0 m_picture_a m_file_a m_layers_a m_wide_a m_high_a m_half_a m_states_a m_favourites_a m_quotas_a m_digits_a m_draft_a m_given_a m_begins_a m_picture_k m_file_k m_layers_k m_wide_k m_high_k m_half_k m_states_k m_favourites_k m_quotas_k m_digits_k m_draft_k m_given_k m_begins_k m_code_48 m_width_48 m_height_48 (upd m_picture_48 x3_48.toNatClampNeg (0 : Int32)) m_length m_file m_any m_decisions m_plains m_doubles m_layers m_wide m_high m_half m_states m_favourites m_quotas m_span m_nowDecisions m_nowPlains m_nowDoubles m_digits m_digitCount m_draft m_draftSize m_taking m_given m_givenSize m_next m_above m_begins m_layerCount m_newWidth m_newHeight) := hD
          refine lv_iinc (k := 1) (v := x3_48 + (1 : Int32)) (lv' := [(3, .int (x3_48 + (1 : Int32))), (0, .ref m_0)]) hx hb d_Mod_clear_62 hl rfl rfl (by decide) rfl (fun ls hl => ?_)
          refine lv_goto (tgt := 48) hx hb d_Mod_clear_65 rfl ?_
          exact ih48 (x3_48 + (1 : Int32)) m_code_48 m_width_48 m_height_48 (upd m_picture_48 x3_48.toNatClampNeg (0 : Int32)) H locs ls (lv_sub hl [1, 0] rfl) hP hD hS h
    have h := hq26
    refine va_put (D := (dC, dI)) (ci := 7) (v := .int k1_26) (ty := .int) (C := R_Mod) (T := F_Mod) (N := 34) hx hb hts in_Mod t_Mod t_Mod_ok n_Mod hown hK hP hD hS 0 rfl rfl 0 (by decide) (hts _ tt637) (fun _ h9 => h9) rfl (by decide +kernel) rfl rfl (Nat.le_of_ble_eq_true rfl) d_Mod_clear_26 (fun H locs hP hD hS => ?_)
    have hP : va_P (dC, dI) vcl (W_X m_0 m_picture_a m_file_a m_layers_a m_wide_a m_high_a m_half_a m_states_a m_favourites_a m_quotas_a m_digits_a m_draft_a m_given_a m_begins_a m_picture_k m_file_k m_layers_k m_wide_k m_high_k m_half_k m_states_k m_favourites_k m_quotas_k m_digits_k m_draft_k m_given_k m_begins_k k1_26 m_width_26 m_height_26 m_picture_26 m_length m_file m_any m_decisions m_plains m_doubles m_layers m_wide m_high m_half m_states m_favourites m_quotas m_span m_nowDecisions m_nowPlains m_nowDoubles m_digits m_digitCount m_draft m_draftSize m_taking m_given m_givenSize m_next m_above m_begins m_layerCount m_newWidth m_newHeight) H := hP
    have hD : va_D A (W_X m_0 m_picture_a m_file_a m_layers_a m_wide_a m_high_a m_half_a m_states_a m_favourites_a m_quotas_a m_digits_a m_draft_a m_given_a m_begins_a m_picture_k m_file_k m_layers_k m_wide_k m_high_k m_half_k m_states_k m_favourites_k m_quotas_k m_digits_k m_draft_k m_given_k m_begins_k k1_26 m_width_26 m_height_26 m_picture_26 m_length m_file m_any m_decisions m_plains m_doubles m_layers m_wide m_high m_half m_states m_favourites m_quotas m_span m_nowDecisions m_nowPlains m_nowDoubles m_digits m_digitCount m_draft m_draftSize m_taking m_given m_givenSize m_next m_above m_begins m_layerCount m_newWidth m_newHeight) := hD
    refine lv_aload_n hx hb d_Mod_clear_29 rfl (lv_at hl 0 rfl) ?_
    refine va_get (D := (dC, dI)) (ci := 7) (v := .int k1_26) (C := R_Mod) (T := F_Mod) (N := 34) hx hb hts in_Mod hown hK hP 0 rfl rfl 0 (by decide) (hts _ tt637) (fun _ h9 => h9) rfl d_Mod_clear_30 ?_
    refine lv_if_ne (tgt := 68) hx hb d_Mod_clear_33 rfl (fun hc => ?_) (fun hc => ?_)
    · replace h := of hc h
      obtain rfl := Option.some.inj h
      exact hret H locs 68 ls d_Mod_clear_68 hP hD hS
    · replace h := ot hc h
      refine lv_aload_n hx hb d_Mod_clear_36 rfl (lv_at hl 0 rfl) ?_
      refine lv_iload_n hx hb d_Mod_clear_37 rfl (lv_at hl 1 rfl) ?_
      refine va_put (D := (dC, dI)) (ci := 7) (v := .int i_w) (ty := .int) (C := R_Mod) (T := F_Mod) (N := 34) hx hb hts in_Mod t_Mod t_Mod_ok n_Mod hown hK hP hD hS 0 rfl rfl 1 (by decide) (hts _ tt638) (fun _ h9 => h9) rfl (by decide +kernel) rfl rfl (Nat.le_of_ble_eq_true rfl) d_Mod_clear_38 (fun H locs hP hD hS => ?_)
      have hP : va_P (dC, dI) vcl (W_X m_0 m_picture_a m_file_a m_layers_a m_wide_a m_high_a m_half_a m_states_a m_favourites_a m_quotas_a m_digits_a m_draft_a m_given_a m_begins_a m_picture_k m_file_k m_layers_k m_wide_k m_high_k m_half_k m_states_k m_favourites_k m_quotas_k m_digits_k m_draft_k m_given_k m_begins_k k1_26 i_w m_height_26 m_picture_26 m_length m_file m_any m_decisions m_plains m_doubles m_layers m_wide m_high m_half m_states m_favourites m_quotas m_span m_nowDecisions m_nowPlains m_nowDoubles m_digits m_digitCount m_draft m_draftSize m_taking m_given m_givenSize m_next m_above m_begins m_layerCount m_newWidth m_newHeight) H := hP
      have hD : va_D A (W_X m_0 m_picture_a m_file_a m_layers_a m_wide_a m_high_a m_half_a m_states_a m_favourites_a m_quotas_a m_digits_a m_draft_a m_given_a m_begins_a m_picture_k m_file_k m_layers_k m_wide_k m_high_k m_half_k m_states_k m_favourites_k m_quotas_k m_digits_k m_draft_k m_given_k m_begins_k k1_26 i_w m_height_26 m_picture_26 m_length m_file m_any m_decisions m_plains m_doubles m_layers m_wide m_high m_half m_states m_favourites m_quotas m_span m_nowDecisions m_nowPlains m_nowDoubles m_digits m_digitCount m_draft m_draftSize m_taking m_given m_givenSize m_next m_above m_begins m_layerCount m_newWidth m_newHeight) := hD
      refine lv_aload_n hx hb d_Mod_clear_41 rfl (lv_at hl 0 rfl) ?_
      refine lv_iload_n hx hb d_Mod_clear_42 rfl (lv_at hl 2 rfl) ?_
      refine va_put (D := (dC, dI)) (ci := 7) (v := .int i_h) (ty := .int) (C := R_Mod) (T := F_Mod) (N := 34) hx hb hts in_Mod t_Mod t_Mod_ok n_Mod hown hK hP hD hS 0 rfl rfl 2 (by decide) (hts _ tt639) (fun _ h9 => h9) rfl (by decide +kernel) rfl rfl (Nat.le_of_ble_eq_true rfl) d_Mod_clear_43 (fun H locs hP hD hS => ?_)
      have hP : va_P (dC, dI) vcl (W_X m_0 m_picture_a m_file_a m_layers_a m_wide_a m_high_a m_half_a m_states_a m_favourites_a m_quotas_a m_digits_a m_draft_a m_given_a m_begins_a m_picture_k m_file_k m_layers_k m_wide_k m_high_k m_half_k m_states_k m_favourites_k m_quotas_k m_digits_k m_draft_k m_given_k m_begins_k k1_26 i_w i_h m_picture_26 m_length m_file m_any m_decisions m_plains m_doubles m_layers m_wide m_high m_half m_states m_favourites m_quotas m_span m_nowDecisions m_nowPlains m_nowDoubles m_digits m_digitCount m_draft m_draftSize m_taking m_given m_givenSize m_next m_above m_begins m_layerCount m_newWidth m_newHeight) H := hP
      have hD : va_D A (W_X m_0 m_picture_a m_file_a m_layers_a m_wide_a m_high_a m_half_a m_states_a m_favourites_a m_quotas_a m_digits_a m_draft_a m_given_a m_begins_a m_picture_k m_file_k m_layers_k m_wide_k m_high_k m_half_k m_states_k m_favourites_k m_quotas_k m_digits_k m_draft_k m_given_k m_begins_k k1_26 i_w i_h m_picture_26 m_length m_file m_any m_decisions m_plains m_doubles m_layers m_wide m_high m_half m_states m_favourites m_quotas m_span m_nowDecisions m_nowPlains m_nowDoubles m_digits m_digitCount m_draft m_draftSize m_taking m_given m_givenSize m_next m_above m_begins m_layerCount m_newWidth m_newHeight) := hD
      refine lv_iconst (v := (0 : Int32)) hx hb d_Mod_clear_46 (by decide) ?_
      refine lv_istore_n (lv' := [(3, .int (0 : Int32)), (0, .ref m_0), (1, .int i_w), (2, .int i_h)]) hx hb d_Mod_clear_47 rfl hl (by decide) rfl (fun ls hl => ?_)
      exact L48 5000 (0 : Int32) k1_26 i_w i_h m_picture_26 H locs ls (lv_sub hl [1, 0] rfl) hP hD hS h
  have L25 : ∀ (m_code_25 : Int32) (m_width_25 : Int32) (m_height_25 : Int32) (m_picture_25 : Nat → Int32) (H : Heap) (locs : List Loc) (ls : Array Slot), lv_has ls 4 [(0, .ref m_0), (1, .int i_w), (2, .int i_h)] → va_P (dC, dI) vcl (W_X m_0 m_picture_a m_file_a m_layers_a m_wide_a m_high_a m_half_a m_states_a m_favourites_a m_quotas_a m_digits_a m_draft_a m_given_a m_begins_a m_picture_k m_file_k m_layers_k m_wide_k m_high_k m_half_k m_states_k m_favourites_k m_quotas_k m_digits_k m_draft_k m_given_k m_begins_k m_code_25 m_width_25 m_height_25 m_picture_25 m_length m_file m_any m_decisions m_plains m_doubles m_layers m_wide m_high m_half m_states m_favourites m_quotas m_span m_nowDecisions m_nowPlains m_nowDoubles m_digits m_digitCount m_draft m_draftSize m_taking m_given m_givenSize m_next m_above m_begins m_layerCount m_newWidth m_newHeight) H → va_D A (W_X m_0 m_picture_a m_file_a m_layers_a m_wide_a m_high_a m_half_a m_states_a m_favourites_a m_quotas_a m_digits_a m_draft_a m_given_a m_begins_a m_picture_k m_file_k m_layers_k m_wide_k m_high_k m_half_k m_states_k m_favourites_k m_quotas_k m_digits_k m_draft_k m_given_k m_begins_k m_code_25 m_width_25 m_height_25 m_picture_25 m_length m_file m_any m_decisions m_plains m_doubles m_layers m_wide m_high m_half m_states m_favourites m_quotas m_span m_nowDecisions m_nowPlains m_nowDoubles m_digits m_digitCount m_draft m_draftSize m_taking m_given m_givenSize m_next m_above m_begins m_layerCount m_newWidth m_newHeight) → va_S A s.heap H locs → q_Mod_clear_25 i_w i_h  m_code_25 m_width_25 m_height_25 m_picture_25 = some z → W p l e rm_Mod_clear s m args below meth c H locs 0 0 Q (F0 m 25 ls [.ref m_0]) := by
    intro m_code_25 m_width_25 m_height_25 m_picture_25 H locs ls hl hP hD hS hq25
    unfold q_Mod_clear_25 at hq25
    have h := hq25
    refine lv_iconst (v := (1 : Int32)) hx hb d_Mod_clear_25 (by decide) ?_
    exact L26 (1 : Int32) m_code_25 m_width_25 m_height_25 m_picture_25 H locs ls (lv_sub hl [0, 1, 2] rfl) hP hD hS h
  have h := hq
  refine lv_aload_n hx hb d_Mod_clear_0 rfl (lv_at hl 0 rfl) ?_
  refine lv_iload_n hx hb d_Mod_clear_1 rfl (lv_at hl 1 rfl) ?_
  refine lv_iconst (v := (1 : Int32)) hx hb d_Mod_clear_2 (by decide) ?_
  refine lv_bipush (v := (16 : Int32)) hx hb d_Mod_clear_3 (by decide) ?_
  obtain ⟨z1, hz1, h⟩ := ob h
  refine x_goI (res := z1) (w1 := (W_0  )) (ws' := (W_X m_0 m_picture_a m_file_a m_layers_a m_wide_a m_high_a m_half_a m_states_a m_favourites_a m_quotas_a m_digits_a m_draft_a m_given_a m_begins_a m_picture_k m_file_k m_layers_k m_wide_k m_high_k m_half_k m_states_k m_favourites_k m_quotas_k m_digits_k m_draft_k m_given_k m_begins_k m_code m_width m_height m_picture m_length m_file m_any m_decisions m_plains m_doubles m_layers m_wide m_high m_half m_states m_favourites m_quotas m_span m_nowDecisions m_nowPlains m_nowDoubles m_digits m_digitCount m_draft m_draftSize m_taking m_given m_givenSize m_next m_above m_begins m_layerCount m_newWidth m_newHeight)) (wr := List.filterMap (fun (i : Nat) => (W_X m_0 m_picture_a m_file_a m_layers_a m_wide_a m_high_a m_half_a m_states_a m_favourites_a m_quotas_a m_digits_a m_draft_a m_given_a m_begins_a m_picture_k m_file_k m_layers_k m_wide_k m_high_k m_half_k m_states_k m_favourites_k m_quotas_k m_digits_k m_draft_k m_given_k m_begins_k m_code m_width m_height m_picture m_length m_file m_any m_decisions m_plains m_doubles m_layers m_wide m_high m_half m_states m_favourites m_quotas m_span m_nowDecisions m_nowPlains m_nowDoubles m_digits m_digitCount m_draft m_draftSize m_taking m_given m_givenSize m_next m_above m_begins m_layerCount m_newWidth m_newHeight)[i]?) ([0, 1, 2, 3, 4, 5, 6, 7, 8, 9, 10, 11, 12, 13] : List Nat)) (va_runS (As := [.int i_w, .int (1 : Int32), .int (16 : Int32)]) (rest := [.ref m_0]) ⟨hx, hb, hml, hown, hts⟩ (c_Mod_within l dC dI  i_w (1 : Int32) (16 : Int32)  z1  hz1 H.size) ⟨callB_of 3 hts (gT tt750 TT_good) rfl rfl rfl (hts _ tt53) (hts _ tt748) (by decide +kernel) ⟨Nat.le_of_ble_eq_true rfl, Nat.le_of_ble_eq_true rfl⟩, hts _ tt749⟩ (x_pre (wc := (W_0  )) (av := [.int i_w, .int (1 : Int32), .int (16 : Int32)]) hK hP hD hS hA hG [] [] rfl rfl (by decide)) rfl rfl hl.1 rfl (lv_room (Nat.le_of_ble_eq_true rfl)) d_Mod_clear_5 ⟨Nat.zero_le _, Nat.zero_le _⟩) hP hD hS hA [] [0, 1, 2, 3, 4, 5, 6, 7, 8, 9, 10, 11, 12, 13] [0, 1, 2, 3, 4, 5, 6, 7, 8, 9, 10, 11, 12, 13] rfl rfl (by decide) (by decide) (by decide) rfl (fun H locs hP hD hS => ?_)
  refine lv_if_eq (tgt := 25) hx hb d_Mod_clear_8 rfl (fun hc => ?_) (fun hc => ?_)
  · replace h := ot hc h
    exact L25 m_code m_width m_height m_picture H locs ls (lv_sub hl [0, 1, 2] rfl) hP hD hS h
  · replace h := of hc h
    refine lv_iload_n hx hb d_Mod_clear_11 rfl (lv_at hl 2 rfl) ?_
    refine lv_iconst (v := (1 : Int32)) hx hb d_Mod_clear_12 (by decide) ?_
    refine lv_bipush (v := (16 : Int32)) hx hb d_Mod_clear_13 (by decide) ?_
    obtain ⟨z2, hz2, h⟩ := ob h
    refine x_goI (res := z2) (w1 := (W_0  )) (ws' := (W_X m_0 m_picture_a m_file_a m_layers_a m_wide_a m_high_a m_half_a m_states_a m_favourites_a m_quotas_a m_digits_a m_draft_a m_given_a m_begins_a m_picture_k m_file_k m_layers_k m_wide_k m_high_k m_half_k m_states_k m_favourites_k m_quotas_k m_digits_k m_draft_k m_given_k m_begins_k m_code m_width m_height m_picture m_length m_file m_any m_decisions m_plains m_doubles m_layers m_wide m_high m_half m_states m_favourites m_quotas m_span m_nowDecisions m_nowPlains m_nowDoubles m_digits m_digitCount m_draft m_draftSize m_taking m_given m_givenSize m_next m_above m_begins m_layerCount m_newWidth m_newHeight)) (wr := List.filterMap (fun (i : Nat) => (W_X m_0 m_picture_a m_file_a m_layers_a m_wide_a m_high_a m_half_a m_states_a m_favourites_a m_quotas_a m_digits_a m_draft_a m_given_a m_begins_a m_picture_k m_file_k m_layers_k m_wide_k m_high_k m_half_k m_states_k m_favourites_k m_quotas_k m_digits_k m_draft_k m_given_k m_begins_k m_code m_width m_height m_picture m_length m_file m_any m_decisions m_plains m_doubles m_layers m_wide m_high m_half m_states m_favourites m_quotas m_span m_nowDecisions m_nowPlains m_nowDoubles m_digits m_digitCount m_draft m_draftSize m_taking m_given m_givenSize m_next m_above m_begins m_layerCount m_newWidth m_newHeight)[i]?) ([0, 1, 2, 3, 4, 5, 6, 7, 8, 9, 10, 11, 12, 13] : List Nat)) (va_runS (As := [.int i_h, .int (1 : Int32), .int (16 : Int32)]) (rest := [.ref m_0]) ⟨hx, hb, hml, hown, hts⟩ (c_Mod_within l dC dI  i_h (1 : Int32) (16 : Int32)  z2  hz2 H.size) ⟨callB_of 3 hts (gT tt750 TT_good) rfl rfl rfl (hts _ tt53) (hts _ tt748) (by decide +kernel) ⟨Nat.le_of_ble_eq_true rfl, Nat.le_of_ble_eq_true rfl⟩, hts _ tt749⟩ (x_pre (wc := (W_0  )) (av := [.int i_h, .int (1 : Int32), .int (16 : Int32)]) hK hP hD hS hA hG [] [] rfl rfl (by decide)) rfl rfl hl.1 rfl (lv_room (Nat.le_of_ble_eq_true rfl)) d_Mod_clear_15 ⟨Nat.zero_le _, Nat.zero_le _⟩) hP hD hS hA [] [0, 1, 2, 3, 4, 5, 6, 7, 8, 9, 10, 11, 12, 13] [0, 1, 2, 3, 4, 5, 6, 7, 8, 9, 10, 11, 12, 13] rfl rfl (by decide) (by decide) (by decide) rfl (fun H locs hP hD hS => ?_)
    refine lv_if_eq (tgt := 25) hx hb d_Mod_clear_18 rfl (fun hc => ?_) (fun hc => ?_)
    · replace h := ot hc h
      exact L25 m_code m_width m_height m_picture H locs ls (lv_sub hl [0, 1, 2] rfl) hP hD hS h
    · replace h := of hc h
      refine lv_iconst (v := (0 : Int32)) hx hb d_Mod_clear_21 (by decide) ?_
      refine lv_goto (tgt := 26) hx hb d_Mod_clear_22 rfl ?_
      exact L26 (0 : Int32) m_code m_width m_height m_picture H locs ls (lv_sub hl [0, 1, 2] rfl) hP hD hS h
theorem d_Mod_isPlace_0 : decode b_Mod_isPlace 0 = .ok (.iload_n 1, 1) := by decide +kernel
theorem d_Mod_isPlace_1 : decode b_Mod_isPlace 1 = .ok (.iconst (0), 1) := by decide +kernel
theorem d_Mod_isPlace_2 : decode b_Mod_isPlace 2 = .ok (.aload_n 0, 1) := by decide +kernel
theorem d_Mod_isPlace_3 : decode b_Mod_isPlace 3 = .ok (.getfield 7, 3) := by decide +kernel
theorem d_Mod_isPlace_6 : decode b_Mod_isPlace 6 = .ok (.iconst (1), 1) := by decide +kernel
theorem d_Mod_isPlace_7 : decode b_Mod_isPlace 7 = .ok (.isub, 1) := by decide +kernel
theorem d_Mod_isPlace_8 : decode b_Mod_isPlace 8 = .ok (.invokestatic 59, 3) := by decide +kernel
theorem d_Mod_isPlace_11 : decode b_Mod_isPlace 11 = .ok (.ifCond .eq (21), 3) := by decide +kernel
theorem d_Mod_isPlace_14 : decode b_Mod_isPlace 14 = .ok (.iload_n 2, 1) := by decide +kernel
theorem d_Mod_isPlace_15 : decode b_Mod_isPlace 15 = .ok (.iconst (0), 1) := by decide +kernel
theorem d_Mod_isPlace_16 : decode b_Mod_isPlace 16 = .ok (.aload_n 0, 1) := by decide +kernel
theorem d_Mod_isPlace_17 : decode b_Mod_isPlace 17 = .ok (.getfield 13, 3) := by decide +kernel
theorem d_Mod_isPlace_20 : decode b_Mod_isPlace 20 = .ok (.iconst (1), 1) := by decide +kernel
theorem d_Mod_isPlace_21 : decode b_Mod_isPlace 21 = .ok (.isub, 1) := by decide +kernel
theorem d_Mod_isPlace_22 : decode b_Mod_isPlace 22 = .ok (.invokestatic 59, 3) := by decide +kernel
theorem d_Mod_isPlace_25 : decode b_Mod_isPlace 25 = .ok (.ifCond .eq (7), 3) := by decide +kernel
theorem d_Mod_isPlace_28 : decode b_Mod_isPlace 28 = .ok (.iconst (1), 1) := by decide +kernel
theorem d_Mod_isPlace_29 : decode b_Mod_isPlace 29 = .ok (.goto (4), 3) := by decide +kernel
theorem d_Mod_isPlace_32 : decode b_Mod_isPlace 32 = .ok (.iconst (0), 1) := by decide +kernel
theorem d_Mod_isPlace_33 : decode b_Mod_isPlace 33 = .ok (.ireturn, 1) := by decide +kernel
def q_Mod_isPlace (i_x : Int32) (i_y : Int32) (m_width : Int32) (m_height : Int32) : Option (Int32) := ((q_Mod_within i_x (0 : Int32) (m_width - (1 : Int32))).bind fun z1 => (if z1 = 0 then some ((0 : Int32)) else ((q_Mod_within i_y (0 : Int32) (m_height - (1 : Int32))).bind fun z2 => (if z2 = 0 then some ((0 : Int32)) else some ((1 : Int32))))))
abbrev rm_Mod_isPlace : Room := { frames := 1, cells := 0, slots := 0, locals := 22 }
set_option maxHeartbeats 4000000 in
set_option maxRecDepth 100000 in
theorem c_Mod_isPlace (l : Launch) (dC : Nat → ClassId) (dI : Nat → Nat → Nat) (m_0 m_picture_a m_file_a m_layers_a m_wide_a m_high_a m_half_a m_states_a m_favourites_a m_quotas_a m_digits_a m_draft_a m_given_a m_begins_a : Nat) (m_picture_k m_file_k m_layers_k m_wide_k m_high_k m_half_k m_states_k m_favourites_k m_quotas_k m_digits_k m_draft_k m_given_k m_begins_k : ClassId) (i_x : Int32) (i_y : Int32) (m_code : Int32) (m_width : Int32) (m_height : Int32) (m_picture : Nat → Int32) (m_length : Int32) (m_file : Nat → Int32) (m_any : Int32) (m_decisions : Int32) (m_plains : Int32) (m_doubles : Int32) (m_layers : Nat → Int32) (m_wide : Nat → Int32) (m_high : Nat → Int32) (m_half : Nat → Int32) (m_states : Nat → Int32) (m_favourites : Nat → Int32) (m_quotas : Nat → Int32) (m_span : Int32) (m_nowDecisions : Int32) (m_nowPlains : Int32) (m_nowDoubles : Int32) (m_digits : Nat → Int32) (m_digitCount : Int32) (m_draft : Nat → Int32) (m_draftSize : Int32) (m_taking : Int32) (m_given : Nat → Int32) (m_givenSize : Int32) (m_next : Int32) (m_above : Int32) (m_begins : Nat → Int32) (m_layerCount : Int32) (m_newWidth : Int32) (m_newHeight : Int32) (z : Int32)  (hq : q_Mod_isPlace i_x i_y m_width m_height = some z) (sz : Nat) : MetI l y_Mod_isPlace b_Mod_isPlace 3 .boolean TT rm_Mod_isPlace (dC, dI) vcl [(m_picture_k, .int), (m_file_k, .int), (m_layers_k, .int), (m_wide_k, .int), (m_high_k, .int), (m_half_k, .int), (m_states_k, .int), (m_favourites_k, .int), (m_quotas_k, .int), (m_digits_k, .int), (m_draft_k, .int), (m_given_k, .int), (m_begins_k, .int)] (W_X m_0 m_picture_a m_file_a m_layers_a m_wide_a m_high_a m_half_a m_states_a m_favourites_a m_quotas_a m_digits_a m_draft_a m_given_a m_begins_a m_picture_k m_file_k m_layers_k m_wide_k m_high_k m_half_k m_states_k m_favourites_k m_quotas_k m_digits_k m_draft_k m_given_k m_begins_k m_code m_width m_height m_picture m_length m_file m_any m_decisions m_plains m_doubles m_layers m_wide m_high m_half m_states m_favourites m_quotas m_span m_nowDecisions m_nowPlains m_nowDoubles m_digits m_digitCount m_draft m_draftSize m_taking m_given m_givenSize m_next m_above m_begins m_layerCount m_newWidth m_newHeight) (W_X m_0 m_picture_a m_file_a m_layers_a m_wide_a m_high_a m_half_a m_states_a m_favourites_a m_quotas_a m_digits_a m_draft_a m_given_a m_begins_a m_picture_k m_file_k m_layers_k m_wide_k m_high_k m_half_k m_states_k m_favourites_k m_quotas_k m_digits_k m_draft_k m_given_k m_begins_k m_code m_width m_height m_picture m_length m_file m_any m_decisions m_plains m_doubles m_layers m_wide m_high m_half m_states m_favourites m_quotas m_span m_nowDecisions m_nowPlains m_nowDoubles m_digits m_digitCount m_draft m_draftSize m_taking m_given m_givenSize m_next m_above m_begins m_layerCount m_newWidth m_newHeight) [.ref m_0, .int i_x, .int i_y] z sz := by
  refine x_ofI (by decide) (Nat.le_of_ble_eq_true rfl) ?_ sz
  intro p e s m args below meth c A Q ls hx hb hml hown hts hA hG hK hP hD hS hl hret
  have hown : s.vm.findClass R_Mod = some m.cls := hown
  have hl : lv_has ls 3 [(0, .ref m_0), (1, .int i_x), (2, .int i_y)] := hl
  obtain ⟨⟨tq, hZ, hTq⟩, hN⟩ := id hG
  obtain ⟨H, hH⟩ : ∃ H, H = s.heap := ⟨_, rfl⟩
  obtain ⟨locs, hlocs⟩ : ∃ locs : List Loc, locs = [] := ⟨_, rfl⟩
  rw [← hH] at hP
  have hS : va_S A s.heap H locs := by rw [hH, hlocs]; exact hS
  suffices hgo : W p l e rm_Mod_isPlace s m args below meth c H locs 0 0 Q (F0 m 0 ls []) by rw [hH, hlocs] at hgo; exact hgo
  unfold q_Mod_isPlace at hq
  have h := hq
  refine lv_iload_n hx hb d_Mod_isPlace_0 rfl (lv_at hl 1 rfl) ?_
  refine lv_iconst (v := (0 : Int32)) hx hb d_Mod_isPlace_1 (by decide) ?_
  refine lv_aload_n hx hb d_Mod_isPlace_2 rfl (lv_at hl 0 rfl) ?_
  refine va_get (D := (dC, dI)) (ci := 7) (v := .int m_width) (C := R_Mod) (T := F_Mod) (N := 34) hx hb hts in_Mod hown hK hP 0 rfl rfl 1 (by decide) (hts _ tt638) (fun _ h9 => h9) rfl d_Mod_isPlace_3 ?_
  refine lv_iconst (v := (1 : Int32)) hx hb d_Mod_isPlace_6 (by decide) ?_
  refine lv_isub hx hb d_Mod_isPlace_7 ?_
  obtain ⟨z1, hz1, h⟩ := ob h
  refine x_goI (res := z1) (w1 := (W_0  )) (ws' := (W_X m_0 m_picture_a m_file_a m_layers_a m_wide_a m_high_a m_half_a m_states_a m_favourites_a m_quotas_a m_digits_a m_draft_a m_given_a m_begins_a m_picture_k m_file_k m_layers_k m_wide_k m_high_k m_half_k m_states_k m_favourites_k m_quotas_k m_digits_k m_draft_k m_given_k m_begins_k m_code m_width m_height m_picture m_length m_file m_any m_decisions m_plains m_doubles m_layers m_wide m_high m_half m_states m_favourites m_quotas m_span m_nowDecisions m_nowPlains m_nowDoubles m_digits m_digitCount m_draft m_draftSize m_taking m_given m_givenSize m_next m_above m_begins m_layerCount m_newWidth m_newHeight)) (wr := List.filterMap (fun (i : Nat) => (W_X m_0 m_picture_a m_file_a m_layers_a m_wide_a m_high_a m_half_a m_states_a m_favourites_a m_quotas_a m_digits_a m_draft_a m_given_a m_begins_a m_picture_k m_file_k m_layers_k m_wide_k m_high_k m_half_k m_states_k m_favourites_k m_quotas_k m_digits_k m_draft_k m_given_k m_begins_k m_code m_width m_height m_picture m_length m_file m_any m_decisions m_plains m_doubles m_layers m_wide m_high m_half m_states m_favourites m_quotas m_span m_nowDecisions m_nowPlains m_nowDoubles m_digits m_digitCount m_draft m_draftSize m_taking m_given m_givenSize m_next m_above m_begins m_layerCount m_newWidth m_newHeight)[i]?) ([0, 1, 2, 3, 4, 5, 6, 7, 8, 9, 10, 11, 12, 13] : List Nat)) (va_runS (As := [.int i_x, .int (0 : Int32), .int (m_width - (1 : Int32))]) (rest := []) ⟨hx, hb, hml, hown, hts⟩ (c_Mod_within l dC dI  i_x (0 : Int32) (m_width - (1 : Int32))  z1  hz1 H.size) ⟨callB_of 3 hts (gT tt750 TT_good) rfl rfl rfl (hts _ tt53) (hts _ tt748) (by decide +kernel) ⟨Nat.le_of_ble_eq_true rfl, Nat.le_of_ble_eq_true rfl⟩, hts _ tt749⟩ (x_pre (wc := (W_0  )) (av := [.int i_x, .int (0 : Int32), .int (m_width - (1 : Int32))]) hK hP hD hS hA hG [] [] rfl rfl (by decide)) rfl rfl hl.1 rfl (lv_room (Nat.le_of_ble_eq_true rfl)) d_Mod_isPlace_8 ⟨Nat.zero_le _, Nat.zero_le _⟩) hP hD hS hA [] [0, 1, 2, 3, 4, 5, 6, 7, 8, 9, 10, 11, 12, 13] [0, 1, 2, 3, 4, 5, 6, 7, 8, 9, 10, 11, 12, 13] rfl rfl (by decide) (by decide) (by decide) rfl (fun H locs hP hD hS => ?_)
  refine lv_if_eq (tgt := 32) hx hb d_Mod_isPlace_11 rfl (fun hc => ?_) (fun hc => ?_)
  · replace h := ot hc h
    refine lv_iconst (v := (0 : Int32)) hx hb d_Mod_isPlace_32 (by decide) ?_
    obtain rfl := Option.some.inj h
    exact hret H locs 33 ls d_Mod_isPlace_33 narrow_b0 hP hD hS
  · replace h := of hc h
    refine lv_iload_n hx hb d_Mod_isPlace_14 rfl (lv_at hl 2 rfl) ?_
    refine lv_iconst (v := (0 : Int32)) hx hb d_Mod_isPlace_15 (by decide) ?_
    refine lv_aload_n hx hb d_Mod_isPlace_16 rfl (lv_at hl 0 rfl) ?_
    refine va_get (D := (dC, dI)) (ci := 7) (v := .int m_height) (C := R_Mod) (T := F_Mod) (N := 34) hx hb hts in_Mod hown hK hP 0 rfl rfl 2 (by decide) (hts _ tt639) (fun _ h9 => h9) rfl d_Mod_isPlace_17 ?_
    refine lv_iconst (v := (1 : Int32)) hx hb d_Mod_isPlace_20 (by decide) ?_
    refine lv_isub hx hb d_Mod_isPlace_21 ?_
    obtain ⟨z2, hz2, h⟩ := ob h
    refine x_goI (res := z2) (w1 := (W_0  )) (ws' := (W_X m_0 m_picture_a m_file_a m_layers_a m_wide_a m_high_a m_half_a m_states_a m_favourites_a m_quotas_a m_digits_a m_draft_a m_given_a m_begins_a m_picture_k m_file_k m_layers_k m_wide_k m_high_k m_half_k m_states_k m_favourites_k m_quotas_k m_digits_k m_draft_k m_given_k m_begins_k m_code m_width m_height m_picture m_length m_file m_any m_decisions m_plains m_doubles m_layers m_wide m_high m_half m_states m_favourites m_quotas m_span m_nowDecisions m_nowPlains m_nowDoubles m_digits m_digitCount m_draft m_draftSize m_taking m_given m_givenSize m_next m_above m_begins m_layerCount m_newWidth m_newHeight)) (wr := List.filterMap (fun (i : Nat) => (W_X m_0 m_picture_a m_file_a m_layers_a m_wide_a m_high_a m_half_a m_states_a m_favourites_a m_quotas_a m_digits_a m_draft_a m_given_a m_begins_a m_picture_k m_file_k m_layers_k m_wide_k m_high_k m_half_k m_states_k m_favourites_k m_quotas_k m_digits_k m_draft_k m_given_k m_begins_k m_code m_width m_height m_picture m_length m_file m_any m_decisions m_plains m_doubles m_layers m_wide m_high m_half m_states m_favourites m_quotas m_span m_nowDecisions m_nowPlains m_nowDoubles m_digits m_digitCount m_draft m_draftSize m_taking m_given m_givenSize m_next m_above m_begins m_layerCount m_newWidth m_newHeight)[i]?) ([0, 1, 2, 3, 4, 5, 6, 7, 8, 9, 10, 11, 12, 13] : List Nat)) (va_runS (As := [.int i_y, .int (0 : Int32), .int (m_height - (1 : Int32))]) (rest := []) ⟨hx, hb, hml, hown, hts⟩ (c_Mod_within l dC dI  i_y (0 : Int32) (m_height - (1 : Int32))  z2  hz2 H.size) ⟨callB_of 3 hts (gT tt750 TT_good) rfl rfl rfl (hts _ tt53) (hts _ tt748) (by decide +kernel) ⟨Nat.le_of_ble_eq_true rfl, Nat.le_of_ble_eq_true rfl⟩, hts _ tt749⟩ (x_pre (wc := (W_0  )) (av := [.int i_y, .int (0 : Int32), .int (m_height - (1 : Int32))]) hK hP hD hS hA hG [] [] rfl rfl (by decide)) rfl rfl hl.1 rfl (lv_room (Nat.le_of_ble_eq_true rfl)) d_Mod_isPlace_22 ⟨Nat.zero_le _, Nat.zero_le _⟩) hP hD hS hA [] [0, 1, 2, 3, 4, 5, 6, 7, 8, 9, 10, 11, 12, 13] [0, 1, 2, 3, 4, 5, 6, 7, 8, 9, 10, 11, 12, 13] rfl rfl (by decide) (by decide) (by decide) rfl (fun H locs hP hD hS => ?_)
    refine lv_if_eq (tgt := 32) hx hb d_Mod_isPlace_25 rfl (fun hc => ?_) (fun hc => ?_)
    · replace h := ot hc h
      refine lv_iconst (v := (0 : Int32)) hx hb d_Mod_isPlace_32 (by decide) ?_
      obtain rfl := Option.some.inj h
      exact hret H locs 33 ls d_Mod_isPlace_33 narrow_b0 hP hD hS
    · replace h := of hc h
      refine lv_iconst (v := (1 : Int32)) hx hb d_Mod_isPlace_28 (by decide) ?_
      refine lv_goto (tgt := 33) hx hb d_Mod_isPlace_29 rfl ?_
      obtain rfl := Option.some.inj h
      exact hret H locs 33 ls d_Mod_isPlace_33 narrow_b1 hP hD hS
theorem d_Mod_set_0 : decode b_Mod_set 0 = .ok (.aload_n 0, 1) := by decide +kernel
theorem d_Mod_set_1 : decode b_Mod_set 1 = .ok (.aload_n 0, 1) := by decide +kernel
theorem d_Mod_set_2 : decode b_Mod_set 2 = .ok (.iload_n 1, 1) := by decide +kernel
theorem d_Mod_set_3 : decode b_Mod_set 3 = .ok (.iload_n 2, 1) := by decide +kernel
theorem d_Mod_set_4 : decode b_Mod_set 4 = .ok (.invokevirtual 63, 3) := by decide +kernel
theorem d_Mod_set_7 : decode b_Mod_set 7 = .ok (.ifCond .ne (7), 3) := by decide +kernel
theorem d_Mod_set_10 : decode b_Mod_set 10 = .ok (.iconst (1), 1) := by decide +kernel
theorem d_Mod_set_11 : decode b_Mod_set 11 = .ok (.goto (17), 3) := by decide +kernel
theorem d_Mod_set_14 : decode b_Mod_set 14 = .ok (.iload_n 3, 1) := by decide +kernel
theorem d_Mod_set_15 : decode b_Mod_set 15 = .ok (.iconst (0), 1) := by decide +kernel
theorem d_Mod_set_16 : decode b_Mod_set 16 = .ok (.iconst (1), 1) := by decide +kernel
theorem d_Mod_set_17 : decode b_Mod_set 17 = .ok (.invokestatic 59, 3) := by decide +kernel
theorem d_Mod_set_20 : decode b_Mod_set 20 = .ok (.ifCond .eq (7), 3) := by decide +kernel
theorem d_Mod_set_23 : decode b_Mod_set 23 = .ok (.iconst (0), 1) := by decide +kernel
theorem d_Mod_set_24 : decode b_Mod_set 24 = .ok (.goto (4), 3) := by decide +kernel
theorem d_Mod_set_27 : decode b_Mod_set 27 = .ok (.iconst (2), 1) := by decide +kernel
theorem d_Mod_set_28 : decode b_Mod_set 28 = .ok (.putfield 56, 3) := by decide +kernel
theorem d_Mod_set_31 : decode b_Mod_set 31 = .ok (.aload_n 0, 1) := by decide +kernel
theorem d_Mod_set_32 : decode b_Mod_set 32 = .ok (.getfield 56, 3) := by decide +kernel
theorem d_Mod_set_35 : decode b_Mod_set 35 = .ok (.ifCond .le (5), 3) := by decide +kernel
theorem d_Mod_set_38 : decode b_Mod_set 38 = .ok (.iconst (0), 1) := by decide +kernel
theorem d_Mod_set_39 : decode b_Mod_set 39 = .ok (.ireturn, 1) := by decide +kernel
theorem d_Mod_set_40 : decode b_Mod_set 40 = .ok (.aload_n 0, 1) := by decide +kernel
theorem d_Mod_set_41 : decode b_Mod_set 41 = .ok (.getfield 16, 3) := by decide +kernel
theorem d_Mod_set_44 : decode b_Mod_set 44 = .ok (.bipush (16), 2) := by decide +kernel
theorem d_Mod_set_46 : decode b_Mod_set 46 = .ok (.iload_n 2, 1) := by decide +kernel
theorem d_Mod_set_47 : decode b_Mod_set 47 = .ok (.imul, 1) := by decide +kernel
theorem d_Mod_set_48 : decode b_Mod_set 48 = .ok (.iload_n 1, 1) := by decide +kernel
theorem d_Mod_set_49 : decode b_Mod_set 49 = .ok (.iadd, 1) := by decide +kernel
theorem d_Mod_set_50 : decode b_Mod_set 50 = .ok (.iaload, 1) := by decide +kernel
theorem d_Mod_set_51 : decode b_Mod_set 51 = .ok (.istore 4, 2) := by decide +kernel
theorem d_Mod_set_53 : decode b_Mod_set 53 = .ok (.aload_n 0, 1) := by decide +kernel
theorem d_Mod_set_54 : decode b_Mod_set 54 = .ok (.getfield 16, 3) := by decide +kernel
theorem d_Mod_set_57 : decode b_Mod_set 57 = .ok (.bipush (16), 2) := by decide +kernel
theorem d_Mod_set_59 : decode b_Mod_set 59 = .ok (.iload_n 2, 1) := by decide +kernel
theorem d_Mod_set_60 : decode b_Mod_set 60 = .ok (.imul, 1) := by decide +kernel
theorem d_Mod_set_61 : decode b_Mod_set 61 = .ok (.iload_n 1, 1) := by decide +kernel
theorem d_Mod_set_62 : decode b_Mod_set 62 = .ok (.iadd, 1) := by decide +kernel
theorem d_Mod_set_63 : decode b_Mod_set 63 = .ok (.iload_n 3, 1) := by decide +kernel
theorem d_Mod_set_64 : decode b_Mod_set 64 = .ok (.iastore, 1) := by decide +kernel
theorem d_Mod_set_65 : decode b_Mod_set 65 = .ok (.iload 4, 2) := by decide +kernel
theorem d_Mod_set_67 : decode b_Mod_set 67 = .ok (.ireturn, 1) := by decide +kernel
def q_Mod_set_28 (i_x : Int32) (i_y : Int32) (i_b : Int32) (m_width : Int32) (m_height : Int32)  (k1_28 : Int32) (m_code_28 : Int32) (m_picture_28 : Nat → Int32) : Option (Int32 × Int32 × (Nat → Int32)) := (if k1_28 ≤ 0 then (if vpb (((16 : Int32) * i_y) + i_x) 256 = true then (if vpb (((16 : Int32) * i_y) + i_x) 256 = true then some (m_picture_28 (((16 : Int32) * i_y) + i_x).toNatClampNeg, k1_28, upd m_picture_28 (((16 : Int32) * i_y) + i_x).toNatClampNeg i_b) else none) else none) else some ((0 : Int32), k1_28, m_picture_28))
def q_Mod_set (i_x : Int32) (i_y : Int32) (i_b : Int32) (m_code : Int32) (m_width : Int32) (m_height : Int32) (m_picture : Nat → Int32) : Option (Int32 × Int32 × (Nat → Int32)) := ((q_Mod_isPlace i_x i_y m_width m_height).bind fun z1 => (if z1 = 0 then (q_Mod_set_28 i_x i_y i_b m_width m_height  (1 : Int32) m_code m_picture) else ((q_Mod_within i_b (0 : Int32) (1 : Int32)).bind fun z2 => (if z2 = 0 then (q_Mod_set_28 i_x i_y i_b m_width m_height  (2 : Int32) m_code m_picture) else (q_Mod_set_28 i_x i_y i_b m_width m_height  (0 : Int32) m_code m_picture)))))
abbrev rm_Mod_set : Room := { frames := 2, cells := 0, slots := 0, locals := 44 }
set_option maxHeartbeats 4000000 in
set_option maxRecDepth 100000 in
theorem c_Mod_set (l : Launch) (dC : Nat → ClassId) (dI : Nat → Nat → Nat) (m_0 m_picture_a m_file_a m_layers_a m_wide_a m_high_a m_half_a m_states_a m_favourites_a m_quotas_a m_digits_a m_draft_a m_given_a m_begins_a : Nat) (m_picture_k m_file_k m_layers_k m_wide_k m_high_k m_half_k m_states_k m_favourites_k m_quotas_k m_digits_k m_draft_k m_given_k m_begins_k : ClassId) (i_x : Int32) (i_y : Int32) (i_b : Int32) (m_code : Int32) (m_width : Int32) (m_height : Int32) (m_picture : Nat → Int32) (m_length : Int32) (m_file : Nat → Int32) (m_any : Int32) (m_decisions : Int32) (m_plains : Int32) (m_doubles : Int32) (m_layers : Nat → Int32) (m_wide : Nat → Int32) (m_high : Nat → Int32) (m_half : Nat → Int32) (m_states : Nat → Int32) (m_favourites : Nat → Int32) (m_quotas : Nat → Int32) (m_span : Int32) (m_nowDecisions : Int32) (m_nowPlains : Int32) (m_nowDoubles : Int32) (m_digits : Nat → Int32) (m_digitCount : Int32) (m_draft : Nat → Int32) (m_draftSize : Int32) (m_taking : Int32) (m_given : Nat → Int32) (m_givenSize : Int32) (m_next : Int32) (m_above : Int32) (m_begins : Nat → Int32) (m_layerCount : Int32) (m_newWidth : Int32) (m_newHeight : Int32) (z : Int32 × Int32 × (Nat → Int32))  (hq : q_Mod_set i_x i_y i_b m_code m_width m_height m_picture = some z) (sz : Nat) : MetI l y_Mod_set b_Mod_set 5 .int TT rm_Mod_set (dC, dI) vcl [(m_picture_k, .int), (m_file_k, .int), (m_layers_k, .int), (m_wide_k, .int), (m_high_k, .int), (m_half_k, .int), (m_states_k, .int), (m_favourites_k, .int), (m_quotas_k, .int), (m_digits_k, .int), (m_draft_k, .int), (m_given_k, .int), (m_begins_k, .int)] (W_X m_0 m_picture_a m_file_a m_layers_a m_wide_a m_high_a m_half_a m_states_a m_favourites_a m_quotas_a m_digits_a m_draft_a m_given_a m_begins_a m_picture_k m_file_k m_layers_k m_wide_k m_high_k m_half_k m_states_k m_favourites_k m_quotas_k m_digits_k m_draft_k m_given_k m_begins_k m_code m_width m_height m_picture m_length m_file m_any m_decisions m_plains m_doubles m_layers m_wide m_high m_half m_states m_favourites m_quotas m_span m_nowDecisions m_nowPlains m_nowDoubles m_digits m_digitCount m_draft m_draftSize m_taking m_given m_givenSize m_next m_above m_begins m_layerCount m_newWidth m_newHeight) (W_X m_0 m_picture_a m_file_a m_layers_a m_wide_a m_high_a m_half_a m_states_a m_favourites_a m_quotas_a m_digits_a m_draft_a m_given_a m_begins_a m_picture_k m_file_k m_layers_k m_wide_k m_high_k m_half_k m_states_k m_favourites_k m_quotas_k m_digits_k m_draft_k m_given_k m_begins_k z.2.1 m_width m_height z.2.2 m_length m_file m_any m_decisions m_plains m_doubles m_layers m_wide m_high m_half m_states m_favourites m_quotas m_span m_nowDecisions m_nowPlains m_nowDoubles m_digits m_digitCount m_draft m_draftSize m_taking m_given m_givenSize m_next m_above m_begins m_layerCount m_newWidth m_newHeight) [.ref m_0, .int i_x, .int i_y, .int i_b] z.1 sz := by
  refine x_ofI (by decide) (Nat.le_of_ble_eq_true rfl) ?_ sz
  intro p e s m args below meth c A Q ls hx hb hml hown hts hA hG hK hP hD hS hl hret
  have hown : s.vm.findClass R_Mod = some m.cls := hown
  have hl : lv_has ls 5 [(0, .ref m_0), (1, .int i_x), (2, .int i_y), (3, .int i_b)] := hl
  obtain ⟨⟨tq, hZ, hTq⟩, hN⟩ := id hG
  obtain ⟨H, hH⟩ : ∃ H, H = s.heap := ⟨_, rfl⟩
  obtain ⟨locs, hlocs⟩ : ∃ locs : List Loc, locs = [] := ⟨_, rfl⟩
  rw [← hH] at hP
  have hS : va_S A s.heap H locs := by rw [hH, hlocs]; exact hS
  suffices hgo : W p l e rm_Mod_set s m args below meth c H locs 0 0 Q (F0 m 0 ls []) by rw [hH, hlocs] at hgo; exact hgo
  unfold q_Mod_set at hq
  have L28 : ∀ (k1_28 : Int32) (m_code_28 : Int32) (m_picture_28 : Nat → Int32) (H : Heap) (locs : List Loc) (ls : Array Slot), lv_has ls 5 [(0, .ref m_0), (1, .int i_x), (2, .int i_y), (3, .int i_b)] → va_P (dC, dI) vcl (W_X m_0 m_picture_a m_file_a m_layers_a m_wide_a m_high_a m_half_a m_states_a m_favourites_a m_quotas_a m_digits_a m_draft_a m_given_a m_begins_a m_picture_k m_file_k m_layers_k m_wide_k m_high_k m_half_k m_states_k m_favourites_k m_quotas_k m_digits_k m_draft_k m_given_k m_begins_k m_code_28 m_width m_height m_picture_28 m_length m_file m_any m_decisions m_plains m_doubles m_layers m_wide m_high m_half m_states m_favourites m_quotas m_span m_nowDecisions m_nowPlains m_nowDoubles m_digits m_digitCount m_draft m_draftSize m_taking m_given m_givenSize m_next m_above m_begins m_layerCount m_newWidth m_newHeight) H → va_D A (W_X m_0 m_picture_a m_file_a m_layers_a m_wide_a m_high_a m_half_a m_states_a m_favourites_a m_quotas_a m_digits_a m_draft_a m_given_a m_begins_a m_picture_k m_file_k m_layers_k m_wide_k m_high_k m_half_k m_states_k m_favourites_k m_quotas_k m_digits_k m_draft_k m_given_k m_begins_k m_code_28 m_width m_height m_picture_28 m_length m_file m_any m_decisions m_plains m_doubles m_layers m_wide m_high m_half m_states m_favourites m_quotas m_span m_nowDecisions m_nowPlains m_nowDoubles m_digits m_digitCount m_draft m_draftSize m_taking m_given m_givenSize m_next m_above m_begins m_layerCount m_newWidth m_newHeight) → va_S A s.heap H locs → q_Mod_set_28 i_x i_y i_b m_width m_height  k1_28 m_code_28 m_picture_28 = some z → W p l e rm_Mod_set s m args below meth c H locs 0 0 Q (F0 m 28 ls [.int k1_28, .ref m_0]) := by
    intro k1_28 m_code_28 m_picture_28 H locs ls hl hP hD hS hq28
    unfold q_Mod_set_28 at hq28
    have h := hq28
    refine va_put (D := (dC, dI)) (ci := 7) (v := .int k1_28) (ty := .int) (C := R_Mod) (T := F_Mod) (N := 34) hx hb hts in_Mod t_Mod t_Mod_ok n_Mod hown hK hP hD hS 0 rfl rfl 0 (by decide) (hts _ tt637) (fun _ h9 => h9) rfl (by decide +kernel) rfl rfl (Nat.le_of_ble_eq_true rfl) d_Mod_set_28 (fun H locs hP hD hS => ?_)
    have hP : va_P (dC, dI) vcl (W_X m_0 m_picture_a m_file_a m_layers_a m_wide_a m_high_a m_half_a m_states_a m_favourites_a m_quotas_a m_digits_a m_draft_a m_given_a m_begins_a m_picture_k m_file_k m_layers_k m_wide_k m_high_k m_half_k m_states_k m_favourites_k m_quotas_k m_digits_k m_draft_k m_given_k m_begins_k k1_28 m_width m_height m_picture_28 m_length m_file m_any m_decisions m_plains m_doubles m_layers m_wide m_high m_half m_states m_favourites m_quotas m_span m_nowDecisions m_nowPlains m_nowDoubles m_digits m_digitCount m_draft m_draftSize m_taking m_given m_givenSize m_next m_above m_begins m_layerCount m_newWidth m_newHeight) H := hP
    have hD : va_D A (W_X m_0 m_picture_a m_file_a m_layers_a m_wide_a m_high_a m_half_a m_states_a m_favourites_a m_quotas_a m_digits_a m_draft_a m_given_a m_begins_a m_picture_k m_file_k m_layers_k m_wide_k m_high_k m_half_k m_states_k m_favourites_k m_quotas_k m_digits_k m_draft_k m_given_k m_begins_k k1_28 m_width m_height m_picture_28 m_length m_file m_any m_decisions m_plains m_doubles m_layers m_wide m_high m_half m_states m_favourites m_quotas m_span m_nowDecisions m_nowPlains m_nowDoubles m_digits m_digitCount m_draft m_draftSize m_taking m_given m_givenSize m_next m_above m_begins m_layerCount m_newWidth m_newHeight) := hD
    refine lv_aload_n hx hb d_Mod_set_31 rfl (lv_at hl 0 rfl) ?_
    refine va_get (D := (dC, dI)) (ci := 7) (v := .int k1_28) (C := R_Mod) (T := F_Mod) (N := 34) hx hb hts in_Mod hown hK hP 0 rfl rfl 0 (by decide) (hts _ tt637) (fun _ h9 => h9) rfl d_Mod_set_32 ?_
    refine lv_if_le (tgt := 40) hx hb d_Mod_set_35 rfl (fun hc => ?_) (fun hc => ?_)
    · replace h := ot hc h
      refine lv_aload_n hx hb d_Mod_set_40 rfl (lv_at hl 0 rfl) ?_
      refine va_get (D := (dC, dI)) (ci := 7) (v := .ref m_picture_a) (C := R_Mod) (T := F_Mod) (N := 34) hx hb hts in_Mod hown hK hP 0 rfl rfl 3 (by decide) (hts _ tt640) (fun _ h9 => h9) rfl d_Mod_set_41 ?_
      refine lv_bipush (v := (16 : Int32)) hx hb d_Mod_set_44 (by decide) ?_
      refine lv_iload_n hx hb d_Mod_set_46 rfl (lv_at hl 2 rfl) ?_
      refine lv_imul hx hb d_Mod_set_47 ?_
      refine lv_iload_n hx hb d_Mod_set_48 rfl (lv_at hl 1 rfl) ?_
      refine lv_iadd hx hb d_Mod_set_49 ?_
      obtain ⟨hin, h⟩ := og h
      refine va_iald hx hb hK hP 1 0 rfl rfl (vpb_in hin) d_Mod_set_50 ?_
      refine lv_istore (lv' := [(4, .int (m_picture_28 (((16 : Int32) * i_y) + i_x).toNatClampNeg)), (0, .ref m_0), (1, .int i_x), (2, .int i_y), (3, .int i_b)]) hx hb d_Mod_set_51 hl (by decide) rfl (fun ls hl => ?_)
      refine lv_aload_n hx hb d_Mod_set_53 rfl (lv_at hl 1 rfl) ?_
      refine va_get (D := (dC, dI)) (ci := 7) (v := .ref m_picture_a) (C := R_Mod) (T := F_Mod) (N := 34) hx hb hts in_Mod hown hK hP 0 rfl rfl 3 (by decide) (hts _ tt640) (fun _ h9 => h9) rfl d_Mod_set_54 ?_
      refine lv_bipush (v := (16 : Int32)) hx hb d_Mod_set_57 (by decide) ?_
      refine lv_iload_n hx hb d_Mod_set_59 rfl (lv_at hl 3 rfl) ?_
      refine lv_imul hx hb d_Mod_set_60 ?_
      refine lv_iload_n hx hb d_Mod_set_61 rfl (lv_at hl 2 rfl) ?_
      refine lv_iadd hx hb d_Mod_set_62 ?_
      refine lv_iload_n hx hb d_Mod_set_63 rfl (lv_at hl 4 rfl) ?_
      obtain ⟨hin, h⟩ := og h
      refine va_iast hx hb hK hP hD hS 1 0 rfl rfl (vpb_in hin) d_Mod_set_64 (fun H locs hP hD hS => ?_)
      have hP : va_P (dC, dI) vcl (W_X m_0 m_picture_a m_file_a m_layers_a m_wide_a m_high_a m_half_a m_states_a m_favourites_a m_quotas_a m_digits_a m_draft_a m_given_a m_begins_a m_picture_k m_file_k m_layers_k m_wide_k m_high_k m_half_k m_states_k m_favourites_k m_quotas_k m_digits_k m_draft_k m_given_k m_begins_k k1_28 m_width m_height (upd m_picture_28 (((16 : Int32) * i_y) + i_x).toNatClampNeg i_b) m_length m_file m_any m_decisions m_plains m_doubles m_layers m_wide m_high m_half m_states m_favourites m_quotas m_span m_nowDecisions m_nowPlains m_nowDoubles m_digits m_digitCount m_draft m_draftSize m_taking m_given m_givenSize m_next m_above m_begins m_layerCount m_newWidth m_newHeight) H := hP
      have hD : va_D A (W_X m_0 m_picture_a m_file_a m_layers_a m_wide_a m_high_a m_half_a m_states_a m_favourites_a m_quotas_a m_digits_a m_draft_a m_given_a m_begins_a m_picture_k m_file_k m_layers_k m_wide_k m_high_k m_half_k m_states_k m_favourites_k m_quotas_k m_digits_k m_draft_k m_given_k m_begins_k k1_28 m_width m_height (upd m_picture_28 (((16 : Int32) * i_y) + i_x).toNatClampNeg i_b) m_length m_file m_any m_decisions m_plains m_doubles m_layers m_wide m_high m_half m_states m_favourites m_quotas m_span m_nowDecisions m_nowPlains m_nowDoubles m_digits m_digitCount m_draft m_draftSize m_taking m_given m_givenSize m_next m_above m_begins m_layerCount m_newWidth m_newHeight) := hD
      refine lv_iload hx hb d_Mod_set_65 (lv_at hl 0 rfl) ?_
      obtain rfl := Option.some.inj h
      exact hret H locs 67 ls d_Mod_set_67 (vp_nar_int _) hP hD hS
    · replace h := of hc h
      refine lv_iconst (v := (0 : Int32)) hx hb d_Mod_set_38 (by decide) ?_
      obtain rfl := Option.some.inj h
      exact hret H locs 39 ls d_Mod_set_39 (vp_nar_int _) hP hD hS
  have h := hq
  refine lv_aload_n hx hb d_Mod_set_0 rfl (lv_at hl 0 rfl) ?_
  refine lv_aload_n hx hb d_Mod_set_1 rfl (lv_at hl 0 rfl) ?_
  refine lv_iload_n hx hb d_Mod_set_2 rfl (lv_at hl 1 rfl) ?_
  refine lv_iload_n hx hb d_Mod_set_3 rfl (lv_at hl 2 rfl) ?_
  obtain ⟨z1, hz1, h⟩ := ob h
  refine x_goI (res := z1) (w1 := (W_X m_0 m_picture_a m_file_a m_layers_a m_wide_a m_high_a m_half_a m_states_a m_favourites_a m_quotas_a m_digits_a m_draft_a m_given_a m_begins_a m_picture_k m_file_k m_layers_k m_wide_k m_high_k m_half_k m_states_k m_favourites_k m_quotas_k m_digits_k m_draft_k m_given_k m_begins_k m_code m_width m_height m_picture m_length m_file m_any m_decisions m_plains m_doubles m_layers m_wide m_high m_half m_states m_favourites m_quotas m_span m_nowDecisions m_nowPlains m_nowDoubles m_digits m_digitCount m_draft m_draftSize m_taking m_given m_givenSize m_next m_above m_begins m_layerCount m_newWidth m_newHeight)) (ws' := (W_X m_0 m_picture_a m_file_a m_layers_a m_wide_a m_high_a m_half_a m_states_a m_favourites_a m_quotas_a m_digits_a m_draft_a m_given_a m_begins_a m_picture_k m_file_k m_layers_k m_wide_k m_high_k m_half_k m_states_k m_favourites_k m_quotas_k m_digits_k m_draft_k m_given_k m_begins_k m_code m_width m_height m_picture m_length m_file m_any m_decisions m_plains m_doubles m_layers m_wide m_high m_half m_states m_favourites m_quotas m_span m_nowDecisions m_nowPlains m_nowDoubles m_digits m_digitCount m_draft m_draftSize m_taking m_given m_givenSize m_next m_above m_begins m_layerCount m_newWidth m_newHeight)) (wr := List.filterMap (fun (i : Nat) => (W_X m_0 m_picture_a m_file_a m_layers_a m_wide_a m_high_a m_half_a m_states_a m_favourites_a m_quotas_a m_digits_a m_draft_a m_given_a m_begins_a m_picture_k m_file_k m_layers_k m_wide_k m_high_k m_half_k m_states_k m_favourites_k m_quotas_k m_digits_k m_draft_k m_given_k m_begins_k m_code m_width m_height m_picture m_length m_file m_any m_decisions m_plains m_doubles m_layers m_wide m_high m_half m_states m_favourites m_quotas m_span m_nowDecisions m_nowPlains m_nowDoubles m_digits m_digitCount m_draft m_draftSize m_taking m_given m_givenSize m_next m_above m_begins m_layerCount m_newWidth m_newHeight)[i]?) ([] : List Nat)) (va_runV (As := [.int i_x, .int i_y]) (rest := [.ref m_0]) ⟨hx, hb, hml, hown, hts⟩ (c_Mod_isPlace l dC dI m_0 m_picture_a m_file_a m_layers_a m_wide_a m_high_a m_half_a m_states_a m_favourites_a m_quotas_a m_digits_a m_draft_a m_given_a m_begins_a m_picture_k m_file_k m_layers_k m_wide_k m_high_k m_half_k m_states_k m_favourites_k m_quotas_k m_digits_k m_draft_k m_given_k m_begins_k i_x i_y m_code m_width m_height m_picture m_length m_file m_any m_decisions m_plains m_doubles m_layers m_wide m_high m_half m_states m_favourites m_quotas m_span m_nowDecisions m_nowPlains m_nowDoubles m_digits m_digitCount m_draft m_draftSize m_taking m_given m_givenSize m_next m_above m_begins m_layerCount m_newWidth m_newHeight z1  hz1 H.size) ⟨callB_of 2 hts (gT tt758 TT_good) rfl rfl rfl (hts _ tt53) (hts _ tt755) (by decide +kernel) ⟨Nat.le_of_ble_eq_true rfl, Nat.le_of_ble_eq_true rfl⟩, hts _ tt757, hts _ tt18⟩ (x_preV (q := (R_Mod, F_Mod, 34)) (As := [.int i_x, .int i_y]) (x_pre (wc := (W_X m_0 m_picture_a m_file_a m_layers_a m_wide_a m_high_a m_half_a m_states_a m_favourites_a m_quotas_a m_digits_a m_draft_a m_given_a m_begins_a m_picture_k m_file_k m_layers_k m_wide_k m_high_k m_half_k m_states_k m_favourites_k m_quotas_k m_digits_k m_draft_k m_given_k m_begins_k m_code m_width m_height m_picture m_length m_file m_any m_decisions m_plains m_doubles m_layers m_wide m_high m_half m_states m_favourites m_quotas m_span m_nowDecisions m_nowPlains m_nowDoubles m_digits m_digitCount m_draft m_draftSize m_taking m_given m_givenSize m_next m_above m_begins m_layerCount m_newWidth m_newHeight)) (av := (.ref m_0 :: [.int i_x, .int i_y])) hK hP hD hS hA hG [0, 1, 2, 3, 4, 5, 6, 7, 8, 9, 10, 11, 12] [0, 1, 2, 3, 4, 5, 6, 7, 8, 9, 10, 11, 12, 13] rfl rfl (by decide)) hK hP (q0 := 0) rfl rfl) rfl rfl hl.1 rfl (lv_room (Nat.le_of_ble_eq_true rfl)) d_Mod_set_4 ⟨Nat.zero_le _, Nat.zero_le _⟩) hP hD hS hA [0, 1, 2, 3, 4, 5, 6, 7, 8, 9, 10, 11, 12, 13] [] [0, 1, 2, 3, 4, 5, 6, 7, 8, 9, 10, 11, 12, 13] rfl rfl (by decide) (by decide) (by decide) rfl (fun H locs hP hD hS => ?_)
  refine lv_if_ne (tgt := 14) hx hb d_Mod_set_7 rfl (fun hc => ?_) (fun hc => ?_)
  · replace h := of hc h
    refine lv_iload_n hx hb d_Mod_set_14 rfl (lv_at hl 3 rfl) ?_
    refine lv_iconst (v := (0 : Int32)) hx hb d_Mod_set_15 (by decide) ?_
    refine lv_iconst (v := (1 : Int32)) hx hb d_Mod_set_16 (by decide) ?_
    obtain ⟨z2, hz2, h⟩ := ob h
    refine x_goI (res := z2) (w1 := (W_0  )) (ws' := (W_X m_0 m_picture_a m_file_a m_layers_a m_wide_a m_high_a m_half_a m_states_a m_favourites_a m_quotas_a m_digits_a m_draft_a m_given_a m_begins_a m_picture_k m_file_k m_layers_k m_wide_k m_high_k m_half_k m_states_k m_favourites_k m_quotas_k m_digits_k m_draft_k m_given_k m_begins_k m_code m_width m_height m_picture m_length m_file m_any m_decisions m_plains m_doubles m_layers m_wide m_high m_half m_states m_favourites m_quotas m_span m_nowDecisions m_nowPlains m_nowDoubles m_digits m_digitCount m_draft m_draftSize m_taking m_given m_givenSize m_next m_above m_begins m_layerCount m_newWidth m_newHeight)) (wr := List.filterMap (fun (i : Nat) => (W_X m_0 m_picture_a m_file_a m_layers_a m_wide_a m_high_a m_half_a m_states_a m_favourites_a m_quotas_a m_digits_a m_draft_a m_given_a m_begins_a m_picture_k m_file_k m_layers_k m_wide_k m_high_k m_half_k m_states_k m_favourites_k m_quotas_k m_digits_k m_draft_k m_given_k m_begins_k m_code m_width m_height m_picture m_length m_file m_any m_decisions m_plains m_doubles m_layers m_wide m_high m_half m_states m_favourites m_quotas m_span m_nowDecisions m_nowPlains m_nowDoubles m_digits m_digitCount m_draft m_draftSize m_taking m_given m_givenSize m_next m_above m_begins m_layerCount m_newWidth m_newHeight)[i]?) ([0, 1, 2, 3, 4, 5, 6, 7, 8, 9, 10, 11, 12, 13] : List Nat)) (va_runS (As := [.int i_b, .int (0 : Int32), .int (1 : Int32)]) (rest := [.ref m_0]) ⟨hx, hb, hml, hown, hts⟩ (c_Mod_within l dC dI  i_b (0 : Int32) (1 : Int32)  z2  hz2 H.size) ⟨callB_of 3 hts (gT tt750 TT_good) rfl rfl rfl (hts _ tt53) (hts _ tt748) (by decide +kernel) ⟨Nat.le_of_ble_eq_true rfl, Nat.le_of_ble_eq_true rfl⟩, hts _ tt749⟩ (x_pre (wc := (W_0  )) (av := [.int i_b, .int (0 : Int32), .int (1 : Int32)]) hK hP hD hS hA hG [] [] rfl rfl (by decide)) rfl rfl hl.1 rfl (lv_room (Nat.le_of_ble_eq_true rfl)) d_Mod_set_17 ⟨Nat.zero_le _, Nat.zero_le _⟩) hP hD hS hA [] [0, 1, 2, 3, 4, 5, 6, 7, 8, 9, 10, 11, 12, 13] [0, 1, 2, 3, 4, 5, 6, 7, 8, 9, 10, 11, 12, 13] rfl rfl (by decide) (by decide) (by decide) rfl (fun H locs hP hD hS => ?_)
    refine lv_if_eq (tgt := 27) hx hb d_Mod_set_20 rfl (fun hc => ?_) (fun hc => ?_)
    · replace h := ot hc h
      refine lv_iconst (v := (2 : Int32)) hx hb d_Mod_set_27 (by decide) ?_
      exact L28 (2 : Int32) m_code m_picture H locs ls (lv_sub hl [0, 1, 2, 3] rfl) hP hD hS h
    · replace h := of hc h
      refine lv_iconst (v := (0 : Int32)) hx hb d_Mod_set_23 (by decide) ?_
      refine lv_goto (tgt := 28) hx hb d_Mod_set_24 rfl ?_
      exact L28 (0 : Int32) m_code m_picture H locs ls (lv_sub hl [0, 1, 2, 3] rfl) hP hD hS h
  · replace h := ot hc h
    refine lv_iconst (v := (1 : Int32)) hx hb d_Mod_set_10 (by decide) ?_
    refine lv_goto (tgt := 28) hx hb d_Mod_set_11 rfl ?_
    exact L28 (1 : Int32) m_code m_picture H locs ls (lv_sub hl [0, 1, 2, 3] rfl) hP hD hS h
theorem d_Mod_row_0 : decode b_Mod_row 0 = .ok (.aload_n 0, 1) := by decide +kernel
theorem d_Mod_row_1 : decode b_Mod_row 1 = .ok (.iload_n 1, 1) := by decide +kernel
theorem d_Mod_row_2 : decode b_Mod_row 2 = .ok (.iconst (0), 1) := by decide +kernel
theorem d_Mod_row_3 : decode b_Mod_row 3 = .ok (.aload_n 0, 1) := by decide +kernel
theorem d_Mod_row_4 : decode b_Mod_row 4 = .ok (.getfield 13, 3) := by decide +kernel
theorem d_Mod_row_7 : decode b_Mod_row 7 = .ok (.iconst (1), 1) := by decide +kernel
theorem d_Mod_row_8 : decode b_Mod_row 8 = .ok (.isub, 1) := by decide +kernel
theorem d_Mod_row_9 : decode b_Mod_row 9 = .ok (.invokestatic 59, 3) := by decide +kernel
theorem d_Mod_row_12 : decode b_Mod_row 12 = .ok (.ifCond .eq (7), 3) := by decide +kernel
theorem d_Mod_row_15 : decode b_Mod_row 15 = .ok (.iconst (0), 1) := by decide +kernel
theorem d_Mod_row_16 : decode b_Mod_row 16 = .ok (.goto (4), 3) := by decide +kernel
theorem d_Mod_row_19 : decode b_Mod_row 19 = .ok (.iconst (1), 1) := by decide +kernel
theorem d_Mod_row_20 : decode b_Mod_row 20 = .ok (.putfield 56, 3) := by decide +kernel
theorem d_Mod_row_23 : decode b_Mod_row 23 = .ok (.iconst (0), 1) := by decide +kernel
theorem d_Mod_row_24 : decode b_Mod_row 24 = .ok (.istore_n 3, 1) := by decide +kernel
theorem d_Mod_row_25 : decode b_Mod_row 25 = .ok (.iload_n 3, 1) := by decide +kernel
theorem d_Mod_row_26 : decode b_Mod_row 26 = .ok (.aload_n 0, 1) := by decide +kernel
theorem d_Mod_row_27 : decode b_Mod_row 27 = .ok (.getfield 7, 3) := by decide +kernel
theorem d_Mod_row_30 : decode b_Mod_row 30 = .ok (.if_icmp .ge (39), 3) := by decide +kernel
theorem d_Mod_row_33 : decode b_Mod_row 33 = .ok (.aload_n 0, 1) := by decide +kernel
theorem d_Mod_row_34 : decode b_Mod_row 34 = .ok (.getfield 56, 3) := by decide +kernel
theorem d_Mod_row_37 : decode b_Mod_row 37 = .ok (.ifCond .ne (32), 3) := by decide +kernel
theorem d_Mod_row_40 : decode b_Mod_row 40 = .ok (.aload_n 0, 1) := by decide +kernel
theorem d_Mod_row_41 : decode b_Mod_row 41 = .ok (.getfield 16, 3) := by decide +kernel
theorem d_Mod_row_44 : decode b_Mod_row 44 = .ok (.bipush (16), 2) := by decide +kernel
theorem d_Mod_row_46 : decode b_Mod_row 46 = .ok (.iload_n 1, 1) := by decide +kernel
theorem d_Mod_row_47 : decode b_Mod_row 47 = .ok (.imul, 1) := by decide +kernel
theorem d_Mod_row_48 : decode b_Mod_row 48 = .ok (.iload_n 3, 1) := by decide +kernel
theorem d_Mod_row_49 : decode b_Mod_row 49 = .ok (.iadd, 1) := by decide +kernel
theorem d_Mod_row_50 : decode b_Mod_row 50 = .ok (.iload_n 2, 1) := by decide +kernel
theorem d_Mod_row_51 : decode b_Mod_row 51 = .ok (.aload_n 0, 1) := by decide +kernel
theorem d_Mod_row_52 : decode b_Mod_row 52 = .ok (.getfield 7, 3) := by decide +kernel
theorem d_Mod_row_55 : decode b_Mod_row 55 = .ok (.iconst (1), 1) := by decide +kernel
theorem d_Mod_row_56 : decode b_Mod_row 56 = .ok (.isub, 1) := by decide +kernel
theorem d_Mod_row_57 : decode b_Mod_row 57 = .ok (.iload_n 3, 1) := by decide +kernel
theorem d_Mod_row_58 : decode b_Mod_row 58 = .ok (.isub, 1) := by decide +kernel
theorem d_Mod_row_59 : decode b_Mod_row 59 = .ok (.ishr, 1) := by decide +kernel
theorem d_Mod_row_60 : decode b_Mod_row 60 = .ok (.iconst (1), 1) := by decide +kernel
theorem d_Mod_row_61 : decode b_Mod_row 61 = .ok (.iand, 1) := by decide +kernel
theorem d_Mod_row_62 : decode b_Mod_row 62 = .ok (.iastore, 1) := by decide +kernel
theorem d_Mod_row_63 : decode b_Mod_row 63 = .ok (.iinc 3 (1), 3) := by decide +kernel
theorem d_Mod_row_66 : decode b_Mod_row 66 = .ok (.goto (-41), 3) := by decide +kernel
theorem d_Mod_row_69 : decode b_Mod_row 69 = .ok (.return_, 1) := by decide +kernel
def q_Mod_row_25 (i_y : Int32) (i_bits : Int32) (m_width : Int32) (m_height : Int32)  : Nat → Int32 → Int32 → (Nat → Int32) → Option (Int32 × (Nat → Int32))
  | 0, _, _, _ => none
  | n + 1, x3_25, m_code_25, m_picture_25 => (if m_width ≤ x3_25 then some (m_code_25, m_picture_25) else (if m_code_25 = 0 then (if vpb (((16 : Int32) * i_y) + x3_25) 256 = true then (q_Mod_row_25 i_y i_bits m_width m_height n (x3_25 + (1 : Int32)) m_code_25 (upd m_picture_25 (((16 : Int32) * i_y) + x3_25).toNatClampNeg ((i_bits >>> (((m_width - (1 : Int32)) - x3_25) &&& 31)) &&& (1 : Int32)))) else none) else some (m_code_25, m_picture_25)))
def q_Mod_row (i_y : Int32) (i_bits : Int32) (m_code : Int32) (m_width : Int32) (m_height : Int32) (m_picture : Nat → Int32) : Option (Int32 × (Nat → Int32)) := ((q_Mod_within i_y (0 : Int32) (m_height - (1 : Int32))).bind fun z1 => (if z1 = 0 then (q_Mod_row_25 i_y i_bits m_width m_height  5000 (0 : Int32) (1 : Int32) m_picture) else (q_Mod_row_25 i_y i_bits m_width m_height  5000 (0 : Int32) (0 : Int32) m_picture)))
abbrev rm_Mod_row : Room := { frames := 1, cells := 0, slots := 0, locals := 22 }
set_option maxHeartbeats 4000000 in
set_option maxRecDepth 100000 in
theorem c_Mod_row (l : Launch) (dC : Nat → ClassId) (dI : Nat → Nat → Nat) (m_0 m_picture_a m_file_a m_layers_a m_wide_a m_high_a m_half_a m_states_a m_favourites_a m_quotas_a m_digits_a m_draft_a m_given_a m_begins_a : Nat) (m_picture_k m_file_k m_layers_k m_wide_k m_high_k m_half_k m_states_k m_favourites_k m_quotas_k m_digits_k m_draft_k m_given_k m_begins_k : ClassId) (i_y : Int32) (i_bits : Int32) (m_code : Int32) (m_width : Int32) (m_height : Int32) (m_picture : Nat → Int32) (m_length : Int32) (m_file : Nat → Int32) (m_any : Int32) (m_decisions : Int32) (m_plains : Int32) (m_doubles : Int32) (m_layers : Nat → Int32) (m_wide : Nat → Int32) (m_high : Nat → Int32) (m_half : Nat → Int32) (m_states : Nat → Int32) (m_favourites : Nat → Int32) (m_quotas : Nat → Int32) (m_span : Int32) (m_nowDecisions : Int32) (m_nowPlains : Int32) (m_nowDoubles : Int32) (m_digits : Nat → Int32) (m_digitCount : Int32) (m_draft : Nat → Int32) (m_draftSize : Int32) (m_taking : Int32) (m_given : Nat → Int32) (m_givenSize : Int32) (m_next : Int32) (m_above : Int32) (m_begins : Nat → Int32) (m_layerCount : Int32) (m_newWidth : Int32) (m_newHeight : Int32) (z : Int32 × (Nat → Int32))  (hq : q_Mod_row i_y i_bits m_code m_width m_height m_picture = some z) (sz : Nat) : MetV l y_Mod_row b_Mod_row 4 TT rm_Mod_row (dC, dI) vcl [(m_picture_k, .int), (m_file_k, .int), (m_layers_k, .int), (m_wide_k, .int), (m_high_k, .int), (m_half_k, .int), (m_states_k, .int), (m_favourites_k, .int), (m_quotas_k, .int), (m_digits_k, .int), (m_draft_k, .int), (m_given_k, .int), (m_begins_k, .int)] (W_X m_0 m_picture_a m_file_a m_layers_a m_wide_a m_high_a m_half_a m_states_a m_favourites_a m_quotas_a m_digits_a m_draft_a m_given_a m_begins_a m_picture_k m_file_k m_layers_k m_wide_k m_high_k m_half_k m_states_k m_favourites_k m_quotas_k m_digits_k m_draft_k m_given_k m_begins_k m_code m_width m_height m_picture m_length m_file m_any m_decisions m_plains m_doubles m_layers m_wide m_high m_half m_states m_favourites m_quotas m_span m_nowDecisions m_nowPlains m_nowDoubles m_digits m_digitCount m_draft m_draftSize m_taking m_given m_givenSize m_next m_above m_begins m_layerCount m_newWidth m_newHeight) (W_X m_0 m_picture_a m_file_a m_layers_a m_wide_a m_high_a m_half_a m_states_a m_favourites_a m_quotas_a m_digits_a m_draft_a m_given_a m_begins_a m_picture_k m_file_k m_layers_k m_wide_k m_high_k m_half_k m_states_k m_favourites_k m_quotas_k m_digits_k m_draft_k m_given_k m_begins_k z.1 m_width m_height z.2 m_length m_file m_any m_decisions m_plains m_doubles m_layers m_wide m_high m_half m_states m_favourites m_quotas m_span m_nowDecisions m_nowPlains m_nowDoubles m_digits m_digitCount m_draft m_draftSize m_taking m_given m_givenSize m_next m_above m_begins m_layerCount m_newWidth m_newHeight) [.ref m_0, .int i_y, .int i_bits] sz := by
  refine x_ofV (by decide) (Nat.le_of_ble_eq_true rfl) ?_ sz
  intro p e s m args below meth c A Q ls hx hb hml hown hts hA hG hK hP hD hS hl hret
  have hown : s.vm.findClass R_Mod = some m.cls := hown
  have hl : lv_has ls 4 [(0, .ref m_0), (1, .int i_y), (2, .int i_bits)] := hl
  obtain ⟨⟨tq, hZ, hTq⟩, hN⟩ := id hG
  obtain ⟨H, hH⟩ : ∃ H, H = s.heap := ⟨_, rfl⟩
  obtain ⟨locs, hlocs⟩ : ∃ locs : List Loc, locs = [] := ⟨_, rfl⟩
  rw [← hH] at hP
  have hS : va_S A s.heap H locs := by rw [hH, hlocs]; exact hS
  suffices hgo : W p l e rm_Mod_row s m args below meth c H locs 0 0 Q (F0 m 0 ls []) by rw [hH, hlocs] at hgo; exact hgo
  unfold q_Mod_row at hq
  have L25 : ∀ (n25 : Nat) (x3_25 : Int32) (m_code_25 : Int32) (m_picture_25 : Nat → Int32) (H : Heap) (locs : List Loc) (ls : Array Slot), lv_has ls 4 [(0, .ref m_0), (1, .int i_y), (2, .int i_bits), (3, .int x3_25)] → va_P (dC, dI) vcl (W_X m_0 m_picture_a m_file_a m_layers_a m_wide_a m_high_a m_half_a m_states_a m_favourites_a m_quotas_a m_digits_a m_draft_a m_given_a m_begins_a m_picture_k m_file_k m_layers_k m_wide_k m_high_k m_half_k m_states_k m_favourites_k m_quotas_k m_digits_k m_draft_k m_given_k m_begins_k m_code_25 m_width m_height m_picture_25 m_length m_file m_any m_decisions m_plains m_doubles m_layers m_wide m_high m_half m_states m_favourites m_quotas m_span m_nowDecisions m_nowPlains m_nowDoubles m_digits m_digitCount m_draft m_draftSize m_taking m_given m_givenSize m_next m_above m_begins m_layerCount m_newWidth m_newHeight) H → va_D A (W_X m_0 m_picture_a m_file_a m_layers_a m_wide_a m_high_a m_half_a m_states_a m_favourites_a m_quotas_a m_digits_a m_draft_a m_given_a m_begins_a m_picture_k m_file_k m_layers_k m_wide_k m_high_k m_half_k m_states_k m_favourites_k m_quotas_k m_digits_k m_draft_k m_given_k m_begins_k m_code_25 m_width m_height m_picture_25 m_length m_file m_any m_decisions m_plains m_doubles m_layers m_wide m_high m_half m_states m_favourites m_quotas m_span m_nowDecisions m_nowPlains m_nowDoubles m_digits m_digitCount m_draft m_draftSize m_taking m_given m_givenSize m_next m_above m_begins m_layerCount m_newWidth m_newHeight) → va_S A s.heap H locs → q_Mod_row_25 i_y i_bits m_width m_height  n25 x3_25 m_code_25 m_picture_25 = some z → W p l e rm_Mod_row s m args below meth c H locs 0 0 Q (F0 m 25 ls []) := by
    intro n25
    induction n25 with
    | zero =>
      intro x3_25 m_code_25 m_picture_25 H locs ls hl hP hD hS hq
      rw [q_Mod_row_25] at hq
      cases hq
    | succ n25 ih25 =>
      intro x3_25 m_code_25 m_picture_25 H locs ls hl hP hD hS hq25
      rw [q_Mod_row_25] at hq25
      have h := hq25
      refine lv_iload_n hx hb d_Mod_row_25 rfl (lv_at hl 3 rfl) ?_
      refine lv_aload_n hx hb d_Mod_row_26 rfl (lv_at hl 0 rfl) ?_
      refine va_get (D := (dC, dI)) (ci := 7) (v := .int m_width) (C := R_Mod) (T := F_Mod) (N := 34) hx hb hts in_Mod hown hK hP 0 rfl rfl 1 (by decide) (hts _ tt638) (fun _ h9 => h9) rfl d_Mod_row_27 ?_
      refine lv_icmp_ge (tgt := 69) hx hb d_Mod_row_30 rfl (fun hc => ?_) (fun hc => ?_)
      · replace h := ot hc h
        obtain rfl := Option.some.inj h
        exact hret H locs 69 ls d_Mod_row_69 hP hD hS
      · replace h := of hc h
        refine lv_aload_n hx hb d_Mod_row_33 rfl (lv_at hl 0 rfl) ?_
        refine va_get (D := (dC, dI)) (ci := 7) (v := .int m_code_25) (C := R_Mod) (T := F_Mod) (N := 34) hx hb hts in_Mod hown hK hP 0 rfl rfl 0 (by decide) (hts _ tt637) (fun _ h9 => h9) rfl d_Mod_row_34 ?_
        refine lv_if_ne (tgt := 69) hx hb d_Mod_row_37 rfl (fun hc => ?_) (fun hc => ?_)
        · replace h := of hc h
          obtain rfl := Option.some.inj h
          exact hret H locs 69 ls d_Mod_row_69 hP hD hS
        · replace h := ot hc h
          refine lv_aload_n hx hb d_Mod_row_40 rfl (lv_at hl 0 rfl) ?_
          refine va_get (D := (dC, dI)) (ci := 7) (v := .ref m_picture_a) (C := R_Mod) (T := F_Mod) (N := 34) hx hb hts in_Mod hown hK hP 0 rfl rfl 3 (by decide) (hts _ tt640) (fun _ h9 => h9) rfl d_Mod_row_41 ?_
          refine lv_bipush (v := (16 : Int32)) hx hb d_Mod_row_44 (by decide) ?_
          refine lv_iload_n hx hb d_Mod_row_46 rfl (lv_at hl 1 rfl) ?_
          refine lv_imul hx hb d_Mod_row_47 ?_
          refine lv_iload_n hx hb d_Mod_row_48 rfl (lv_at hl 3 rfl) ?_
          refine lv_iadd hx hb d_Mod_row_49 ?_
          refine lv_iload_n hx hb d_Mod_row_50 rfl (lv_at hl 2 rfl) ?_
          refine lv_aload_n hx hb d_Mod_row_51 rfl (lv_at hl 0 rfl) ?_
          refine va_get (D := (dC, dI)) (ci := 7) (v := .int m_width) (C := R_Mod) (T := F_Mod) (N := 34) hx hb hts in_Mod hown hK hP 0 rfl rfl 1 (by decide) (hts _ tt638) (fun _ h9 => h9) rfl d_Mod_row_52 ?_
          refine lv_iconst (v := (1 : Int32)) hx hb d_Mod_row_55 (by decide) ?_
          refine lv_isub hx hb d_Mod_row_56 ?_
          refine lv_iload_n hx hb d_Mod_row_57 rfl (lv_at hl 3 rfl) ?_
          refine lv_isub hx hb d_Mod_row_58 ?_
          refine lv_ishr hx hb d_Mod_row_59 ?_
          refine lv_iconst (v := (1 : Int32)) hx hb d_Mod_row_60 (by decide) ?_
          refine lv_iand hx hb d_Mod_row_61 ?_
          obtain ⟨hin, h⟩ := og h
          refine va_iast hx hb hK hP hD hS 1 0 rfl rfl (vpb_in hin) d_Mod_row_62 (fun H locs hP hD hS => ?_)
          have hP : va_P (dC, dI) vcl (W_X m_0 m_picture_a m_file_a m_layers_a m_wide_a m_high_a m_half_a m_states_a m_favourites_a m_quotas_a m_digits_a m_draft_a m_given_a m_begins_a m_picture_k m_file_k m_layers_k m_wide_k m_high_k m_half_k m_states_k m_favourites_k m_quotas_k m_digits_k m_draft_k m_given_k m_begins_k m_code_25 m_width m_height (upd m_picture_25 (((16 : Int32) * i_y) + x3_25).toNatClampNeg ((i_bits >>> (((m_width - (1 : Int32)) - x3_25) &&& 31)) &&& (1 : Int32))) m_length m_file m_any m_decisions m_plains m_doubles m_layers m_wide m_high m_half m_states m_favourites m_quotas m_span m_nowDecisions m_nowPlains m_nowDoubles m_digits m_digitCount m_draft m_draftSize m_taking m_given m_givenSize m_next m_above m_begins m_layerCount m_newWidth m_newHeight) H := hP
          have hD : va_D A (W_X m_0 m_picture_a m_file_a m_layers_a m_wide_a m_high_a m_half_a m_states_a m_favourites_a m_quotas_a m_digits_a m_draft_a m_given_a m_begins_a m_picture_k m_file_k m_layers_k m_wide_k m_high_k m_half_k m_states_k m_favourites_k m_quotas_k m_digits_k m_draft_k m_given_k m_begins_k m_code_25 m_width m_height (upd m_picture_25 (((16 : Int32) * i_y) + x3_25).toNatClampNeg ((i_bits >>> (((m_width - (1 : Int32)) - x3_25) &&& 31)) &&& (1 : Int32))) m_length m_file m_any m_decisions m_plains m_doubles m_layers m_wide m_high m_half m_states m_favourites m_quotas m_span m_nowDecisions m_nowPlains m_nowDoubles m_digits m_digitCount m_draft m_draftSize m_taking m_given m_givenSize m_next m_above m_begins m_layerCount m_newWidth m_newHeight) := hD
          refine lv_iinc (k := 3) (v := x3_25 + (1 : Int32)) (lv' := [(3, .int (x3_25 + (1 : Int32))), (0, .ref m_0), (1, .int i_y), (2, .int i_bits)]) hx hb d_Mod_row_63 hl rfl rfl (by decide) rfl (fun ls hl => ?_)
          refine lv_goto (tgt := 25) hx hb d_Mod_row_66 rfl ?_
          exact ih25 (x3_25 + (1 : Int32)) m_code_25 (upd m_picture_25 (((16 : Int32) * i_y) + x3_25).toNatClampNeg ((i_bits >>> (((m_width - (1 : Int32)) - x3_25) &&& 31)) &&& (1 : Int32))) H locs ls (lv_sub hl [1, 2, 3, 0] rfl) hP hD hS h
  have h := hq
  refine lv_aload_n hx hb d_Mod_row_0 rfl (lv_at hl 0 rfl) ?_
  refine lv_iload_n hx hb d_Mod_row_1 rfl (lv_at hl 1 rfl) ?_
  refine lv_iconst (v := (0 : Int32)) hx hb d_Mod_row_2 (by decide) ?_
  refine lv_aload_n hx hb d_Mod_row_3 rfl (lv_at hl 0 rfl) ?_
  refine va_get (D := (dC, dI)) (ci := 7) (v := .int m_height) (C := R_Mod) (T := F_Mod) (N := 34) hx hb hts in_Mod hown hK hP 0 rfl rfl 2 (by decide) (hts _ tt639) (fun _ h9 => h9) rfl d_Mod_row_4 ?_
  refine lv_iconst (v := (1 : Int32)) hx hb d_Mod_row_7 (by decide) ?_
  refine lv_isub hx hb d_Mod_row_8 ?_
  obtain ⟨z1, hz1, h⟩ := ob h
  refine x_goI (res := z1) (w1 := (W_0  )) (ws' := (W_X m_0 m_picture_a m_file_a m_layers_a m_wide_a m_high_a m_half_a m_states_a m_favourites_a m_quotas_a m_digits_a m_draft_a m_given_a m_begins_a m_picture_k m_file_k m_layers_k m_wide_k m_high_k m_half_k m_states_k m_favourites_k m_quotas_k m_digits_k m_draft_k m_given_k m_begins_k m_code m_width m_height m_picture m_length m_file m_any m_decisions m_plains m_doubles m_layers m_wide m_high m_half m_states m_favourites m_quotas m_span m_nowDecisions m_nowPlains m_nowDoubles m_digits m_digitCount m_draft m_draftSize m_taking m_given m_givenSize m_next m_above m_begins m_layerCount m_newWidth m_newHeight)) (wr := List.filterMap (fun (i : Nat) => (W_X m_0 m_picture_a m_file_a m_layers_a m_wide_a m_high_a m_half_a m_states_a m_favourites_a m_quotas_a m_digits_a m_draft_a m_given_a m_begins_a m_picture_k m_file_k m_layers_k m_wide_k m_high_k m_half_k m_states_k m_favourites_k m_quotas_k m_digits_k m_draft_k m_given_k m_begins_k m_code m_width m_height m_picture m_length m_file m_any m_decisions m_plains m_doubles m_layers m_wide m_high m_half m_states m_favourites m_quotas m_span m_nowDecisions m_nowPlains m_nowDoubles m_digits m_digitCount m_draft m_draftSize m_taking m_given m_givenSize m_next m_above m_begins m_layerCount m_newWidth m_newHeight)[i]?) ([0, 1, 2, 3, 4, 5, 6, 7, 8, 9, 10, 11, 12, 13] : List Nat)) (va_runS (As := [.int i_y, .int (0 : Int32), .int (m_height - (1 : Int32))]) (rest := [.ref m_0]) ⟨hx, hb, hml, hown, hts⟩ (c_Mod_within l dC dI  i_y (0 : Int32) (m_height - (1 : Int32))  z1  hz1 H.size) ⟨callB_of 3 hts (gT tt750 TT_good) rfl rfl rfl (hts _ tt53) (hts _ tt748) (by decide +kernel) ⟨Nat.le_of_ble_eq_true rfl, Nat.le_of_ble_eq_true rfl⟩, hts _ tt749⟩ (x_pre (wc := (W_0  )) (av := [.int i_y, .int (0 : Int32), .int (m_height - (1 : Int32))]) hK hP hD hS hA hG [] [] rfl rfl (by decide)) rfl rfl hl.1 rfl (lv_room (Nat.le_of_ble_eq_true rfl)) d_Mod_row_9 ⟨Nat.zero_le _, Nat.zero_le _⟩) hP hD hS hA [] [0, 1, 2, 3, 4, 5, 6, 7, 8, 9, 10, 11, 12, 13] [0, 1, 2, 3, 4, 5, 6, 7, 8, 9, 10, 11, 12, 13] rfl rfl (by decide) (by decide) (by decide) rfl (fun H locs hP hD hS => ?_)
  refine lv_if_eq (tgt := 19) hx hb d_Mod_row_12 rfl (fun hc => ?_) (fun hc => ?_)
  · replace h := ot hc h
    refine lv_iconst (v := (1 : Int32)) hx hb d_Mod_row_19 (by decide) ?_
    refine va_put (D := (dC, dI)) (ci := 7) (v := .int (1 : Int32)) (ty := .int) (C := R_Mod) (T := F_Mod) (N := 34) hx hb hts in_Mod t_Mod t_Mod_ok n_Mod hown hK hP hD hS 0 rfl rfl 0 (by decide) (hts _ tt637) (fun _ h9 => h9) rfl (by decide +kernel) rfl rfl (Nat.le_of_ble_eq_true rfl) d_Mod_row_20 (fun H locs hP hD hS => ?_)
    have hP : va_P (dC, dI) vcl (W_X m_0 m_picture_a m_file_a m_layers_a m_wide_a m_high_a m_half_a m_states_a m_favourites_a m_quotas_a m_digits_a m_draft_a m_given_a m_begins_a m_picture_k m_file_k m_layers_k m_wide_k m_high_k m_half_k m_states_k m_favourites_k m_quotas_k m_digits_k m_draft_k m_given_k m_begins_k (1 : Int32) m_width m_height m_picture m_length m_file m_any m_decisions m_plains m_doubles m_layers m_wide m_high m_half m_states m_favourites m_quotas m_span m_nowDecisions m_nowPlains m_nowDoubles m_digits m_digitCount m_draft m_draftSize m_taking m_given m_givenSize m_next m_above m_begins m_layerCount m_newWidth m_newHeight) H := hP
    have hD : va_D A (W_X m_0 m_picture_a m_file_a m_layers_a m_wide_a m_high_a m_half_a m_states_a m_favourites_a m_quotas_a m_digits_a m_draft_a m_given_a m_begins_a m_picture_k m_file_k m_layers_k m_wide_k m_high_k m_half_k m_states_k m_favourites_k m_quotas_k m_digits_k m_draft_k m_given_k m_begins_k (1 : Int32) m_width m_height m_picture m_length m_file m_any m_decisions m_plains m_doubles m_layers m_wide m_high m_half m_states m_favourites m_quotas m_span m_nowDecisions m_nowPlains m_nowDoubles m_digits m_digitCount m_draft m_draftSize m_taking m_given m_givenSize m_next m_above m_begins m_layerCount m_newWidth m_newHeight) := hD
    refine lv_iconst (v := (0 : Int32)) hx hb d_Mod_row_23 (by decide) ?_
    refine lv_istore_n (lv' := [(3, .int (0 : Int32)), (0, .ref m_0), (1, .int i_y), (2, .int i_bits)]) hx hb d_Mod_row_24 rfl hl (by decide) rfl (fun ls hl => ?_)
    exact L25 5000 (0 : Int32) (1 : Int32) m_picture H locs ls (lv_sub hl [1, 2, 3, 0] rfl) hP hD hS h
  · replace h := of hc h
    refine lv_iconst (v := (0 : Int32)) hx hb d_Mod_row_15 (by decide) ?_
    refine lv_goto (tgt := 20) hx hb d_Mod_row_16 rfl ?_
    refine va_put (D := (dC, dI)) (ci := 7) (v := .int (0 : Int32)) (ty := .int) (C := R_Mod) (T := F_Mod) (N := 34) hx hb hts in_Mod t_Mod t_Mod_ok n_Mod hown hK hP hD hS 0 rfl rfl 0 (by decide) (hts _ tt637) (fun _ h9 => h9) rfl (by decide +kernel) rfl rfl (Nat.le_of_ble_eq_true rfl) d_Mod_row_20 (fun H locs hP hD hS => ?_)
    have hP : va_P (dC, dI) vcl (W_X m_0 m_picture_a m_file_a m_layers_a m_wide_a m_high_a m_half_a m_states_a m_favourites_a m_quotas_a m_digits_a m_draft_a m_given_a m_begins_a m_picture_k m_file_k m_layers_k m_wide_k m_high_k m_half_k m_states_k m_favourites_k m_quotas_k m_digits_k m_draft_k m_given_k m_begins_k (0 : Int32) m_width m_height m_picture m_length m_file m_any m_decisions m_plains m_doubles m_layers m_wide m_high m_half m_states m_favourites m_quotas m_span m_nowDecisions m_nowPlains m_nowDoubles m_digits m_digitCount m_draft m_draftSize m_taking m_given m_givenSize m_next m_above m_begins m_layerCount m_newWidth m_newHeight) H := hP
    have hD : va_D A (W_X m_0 m_picture_a m_file_a m_layers_a m_wide_a m_high_a m_half_a m_states_a m_favourites_a m_quotas_a m_digits_a m_draft_a m_given_a m_begins_a m_picture_k m_file_k m_layers_k m_wide_k m_high_k m_half_k m_states_k m_favourites_k m_quotas_k m_digits_k m_draft_k m_given_k m_begins_k (0 : Int32) m_width m_height m_picture m_length m_file m_any m_decisions m_plains m_doubles m_layers m_wide m_high m_half m_states m_favourites m_quotas m_span m_nowDecisions m_nowPlains m_nowDoubles m_digits m_digitCount m_draft m_draftSize m_taking m_given m_givenSize m_next m_above m_begins m_layerCount m_newWidth m_newHeight) := hD
    refine lv_iconst (v := (0 : Int32)) hx hb d_Mod_row_23 (by decide) ?_
    refine lv_istore_n (lv' := [(3, .int (0 : Int32)), (0, .ref m_0), (1, .int i_y), (2, .int i_bits)]) hx hb d_Mod_row_24 rfl hl (by decide) rfl (fun ls hl => ?_)
    exact L25 5000 (0 : Int32) (0 : Int32) m_picture H locs ls (lv_sub hl [1, 2, 3, 0] rfl) hP hD hS h
theorem d_Mod_get_0 : decode b_Mod_get 0 = .ok (.aload_n 0, 1) := by decide +kernel
theorem d_Mod_get_1 : decode b_Mod_get 1 = .ok (.iconst (0), 1) := by decide +kernel
theorem d_Mod_get_2 : decode b_Mod_get 2 = .ok (.putfield 56, 3) := by decide +kernel
theorem d_Mod_get_5 : decode b_Mod_get 5 = .ok (.aload_n 0, 1) := by decide +kernel
theorem d_Mod_get_6 : decode b_Mod_get 6 = .ok (.iload_n 1, 1) := by decide +kernel
theorem d_Mod_get_7 : decode b_Mod_get 7 = .ok (.iload_n 2, 1) := by decide +kernel
theorem d_Mod_get_8 : decode b_Mod_get 8 = .ok (.invokevirtual 63, 3) := by decide +kernel
theorem d_Mod_get_11 : decode b_Mod_get 11 = .ok (.ifCond .eq (17), 3) := by decide +kernel
theorem d_Mod_get_14 : decode b_Mod_get 14 = .ok (.aload_n 0, 1) := by decide +kernel
theorem d_Mod_get_15 : decode b_Mod_get 15 = .ok (.getfield 16, 3) := by decide +kernel
theorem d_Mod_get_18 : decode b_Mod_get 18 = .ok (.bipush (16), 2) := by decide +kernel
theorem d_Mod_get_20 : decode b_Mod_get 20 = .ok (.iload_n 2, 1) := by decide +kernel
theorem d_Mod_get_21 : decode b_Mod_get 21 = .ok (.imul, 1) := by decide +kernel
theorem d_Mod_get_22 : decode b_Mod_get 22 = .ok (.iload_n 1, 1) := by decide +kernel
theorem d_Mod_get_23 : decode b_Mod_get 23 = .ok (.iadd, 1) := by decide +kernel
theorem d_Mod_get_24 : decode b_Mod_get 24 = .ok (.iaload, 1) := by decide +kernel
theorem d_Mod_get_25 : decode b_Mod_get 25 = .ok (.goto (4), 3) := by decide +kernel
theorem d_Mod_get_28 : decode b_Mod_get 28 = .ok (.iconst (0), 1) := by decide +kernel
theorem d_Mod_get_29 : decode b_Mod_get 29 = .ok (.ireturn, 1) := by decide +kernel
def q_Mod_get (i_x : Int32) (i_y : Int32) (m_code : Int32) (m_width : Int32) (m_height : Int32) (m_picture : Nat → Int32) : Option (Int32 × Int32) := ((q_Mod_isPlace i_x i_y m_width m_height).bind fun z1 => (if z1 = 0 then some ((0 : Int32), (0 : Int32)) else (if vpb (((16 : Int32) * i_y) + i_x) 256 = true then some (m_picture (((16 : Int32) * i_y) + i_x).toNatClampNeg, (0 : Int32)) else none)))
abbrev rm_Mod_get : Room := { frames := 2, cells := 0, slots := 0, locals := 44 }
set_option maxHeartbeats 4000000 in
set_option maxRecDepth 100000 in
theorem c_Mod_get (l : Launch) (dC : Nat → ClassId) (dI : Nat → Nat → Nat) (m_0 m_picture_a m_file_a m_layers_a m_wide_a m_high_a m_half_a m_states_a m_favourites_a m_quotas_a m_digits_a m_draft_a m_given_a m_begins_a : Nat) (m_picture_k m_file_k m_layers_k m_wide_k m_high_k m_half_k m_states_k m_favourites_k m_quotas_k m_digits_k m_draft_k m_given_k m_begins_k : ClassId) (i_x : Int32) (i_y : Int32) (m_code : Int32) (m_width : Int32) (m_height : Int32) (m_picture : Nat → Int32) (m_length : Int32) (m_file : Nat → Int32) (m_any : Int32) (m_decisions : Int32) (m_plains : Int32) (m_doubles : Int32) (m_layers : Nat → Int32) (m_wide : Nat → Int32) (m_high : Nat → Int32) (m_half : Nat → Int32) (m_states : Nat → Int32) (m_favourites : Nat → Int32) (m_quotas : Nat → Int32) (m_span : Int32) (m_nowDecisions : Int32) (m_nowPlains : Int32) (m_nowDoubles : Int32) (m_digits : Nat → Int32) (m_digitCount : Int32) (m_draft : Nat → Int32) (m_draftSize : Int32) (m_taking : Int32) (m_given : Nat → Int32) (m_givenSize : Int32) (m_next : Int32) (m_above : Int32) (m_begins : Nat → Int32) (m_layerCount : Int32) (m_newWidth : Int32) (m_newHeight : Int32) (z : Int32 × Int32)  (hq : q_Mod_get i_x i_y m_code m_width m_height m_picture = some z) (sz : Nat) : MetI l y_Mod_get b_Mod_get 3 .int TT rm_Mod_get (dC, dI) vcl [(m_picture_k, .int), (m_file_k, .int), (m_layers_k, .int), (m_wide_k, .int), (m_high_k, .int), (m_half_k, .int), (m_states_k, .int), (m_favourites_k, .int), (m_quotas_k, .int), (m_digits_k, .int), (m_draft_k, .int), (m_given_k, .int), (m_begins_k, .int)] (W_X m_0 m_picture_a m_file_a m_layers_a m_wide_a m_high_a m_half_a m_states_a m_favourites_a m_quotas_a m_digits_a m_draft_a m_given_a m_begins_a m_picture_k m_file_k m_layers_k m_wide_k m_high_k m_half_k m_states_k m_favourites_k m_quotas_k m_digits_k m_draft_k m_given_k m_begins_k m_code m_width m_height m_picture m_length m_file m_any m_decisions m_plains m_doubles m_layers m_wide m_high m_half m_states m_favourites m_quotas m_span m_nowDecisions m_nowPlains m_nowDoubles m_digits m_digitCount m_draft m_draftSize m_taking m_given m_givenSize m_next m_above m_begins m_layerCount m_newWidth m_newHeight) (W_X m_0 m_picture_a m_file_a m_layers_a m_wide_a m_high_a m_half_a m_states_a m_favourites_a m_quotas_a m_digits_a m_draft_a m_given_a m_begins_a m_picture_k m_file_k m_layers_k m_wide_k m_high_k m_half_k m_states_k m_favourites_k m_quotas_k m_digits_k m_draft_k m_given_k m_begins_k z.2 m_width m_height m_picture m_length m_file m_any m_decisions m_plains m_doubles m_layers m_wide m_high m_half m_states m_favourites m_quotas m_span m_nowDecisions m_nowPlains m_nowDoubles m_digits m_digitCount m_draft m_draftSize m_taking m_given m_givenSize m_next m_above m_begins m_layerCount m_newWidth m_newHeight) [.ref m_0, .int i_x, .int i_y] z.1 sz := by
  refine x_ofI (by decide) (Nat.le_of_ble_eq_true rfl) ?_ sz
  intro p e s m args below meth c A Q ls hx hb hml hown hts hA hG hK hP hD hS hl hret
  have hown : s.vm.findClass R_Mod = some m.cls := hown
  have hl : lv_has ls 3 [(0, .ref m_0), (1, .int i_x), (2, .int i_y)] := hl
  obtain ⟨⟨tq, hZ, hTq⟩, hN⟩ := id hG
  obtain ⟨H, hH⟩ : ∃ H, H = s.heap := ⟨_, rfl⟩
  obtain ⟨locs, hlocs⟩ : ∃ locs : List Loc, locs = [] := ⟨_, rfl⟩
  rw [← hH] at hP
  have hS : va_S A s.heap H locs := by rw [hH, hlocs]; exact hS
  suffices hgo : W p l e rm_Mod_get s m args below meth c H locs 0 0 Q (F0 m 0 ls []) by rw [hH, hlocs] at hgo; exact hgo
  unfold q_Mod_get at hq
  have h := hq
  refine lv_aload_n hx hb d_Mod_get_0 rfl (lv_at hl 0 rfl) ?_
  refine lv_iconst (v := (0 : Int32)) hx hb d_Mod_get_1 (by decide) ?_
  refine va_put (D := (dC, dI)) (ci := 7) (v := .int (0 : Int32)) (ty := .int) (C := R_Mod) (T := F_Mod) (N := 34) hx hb hts in_Mod t_Mod t_Mod_ok n_Mod hown hK hP hD hS 0 rfl rfl 0 (by decide) (hts _ tt637) (fun _ h9 => h9) rfl (by decide +kernel) rfl rfl (Nat.le_of_ble_eq_true rfl) d_Mod_get_2 (fun H locs hP hD hS => ?_)
  have hP : va_P (dC, dI) vcl (W_X m_0 m_picture_a m_file_a m_layers_a m_wide_a m_high_a m_half_a m_states_a m_favourites_a m_quotas_a m_digits_a m_draft_a m_given_a m_begins_a m_picture_k m_file_k m_layers_k m_wide_k m_high_k m_half_k m_states_k m_favourites_k m_quotas_k m_digits_k m_draft_k m_given_k m_begins_k (0 : Int32) m_width m_height m_picture m_length m_file m_any m_decisions m_plains m_doubles m_layers m_wide m_high m_half m_states m_favourites m_quotas m_span m_nowDecisions m_nowPlains m_nowDoubles m_digits m_digitCount m_draft m_draftSize m_taking m_given m_givenSize m_next m_above m_begins m_layerCount m_newWidth m_newHeight) H := hP
  have hD : va_D A (W_X m_0 m_picture_a m_file_a m_layers_a m_wide_a m_high_a m_half_a m_states_a m_favourites_a m_quotas_a m_digits_a m_draft_a m_given_a m_begins_a m_picture_k m_file_k m_layers_k m_wide_k m_high_k m_half_k m_states_k m_favourites_k m_quotas_k m_digits_k m_draft_k m_given_k m_begins_k (0 : Int32) m_width m_height m_picture m_length m_file m_any m_decisions m_plains m_doubles m_layers m_wide m_high m_half m_states m_favourites m_quotas m_span m_nowDecisions m_nowPlains m_nowDoubles m_digits m_digitCount m_draft m_draftSize m_taking m_given m_givenSize m_next m_above m_begins m_layerCount m_newWidth m_newHeight) := hD
  refine lv_aload_n hx hb d_Mod_get_5 rfl (lv_at hl 0 rfl) ?_
  refine lv_iload_n hx hb d_Mod_get_6 rfl (lv_at hl 1 rfl) ?_
  refine lv_iload_n hx hb d_Mod_get_7 rfl (lv_at hl 2 rfl) ?_
  obtain ⟨z1, hz1, h⟩ := ob h
  refine x_goI (res := z1) (w1 := (W_X m_0 m_picture_a m_file_a m_layers_a m_wide_a m_high_a m_half_a m_states_a m_favourites_a m_quotas_a m_digits_a m_draft_a m_given_a m_begins_a m_picture_k m_file_k m_layers_k m_wide_k m_high_k m_half_k m_states_k m_favourites_k m_quotas_k m_digits_k m_draft_k m_given_k m_begins_k (0 : Int32) m_width m_height m_picture m_length m_file m_any m_decisions m_plains m_doubles m_layers m_wide m_high m_half m_states m_favourites m_quotas m_span m_nowDecisions m_nowPlains m_nowDoubles m_digits m_digitCount m_draft m_draftSize m_taking m_given m_givenSize m_next m_above m_begins m_layerCount m_newWidth m_newHeight)) (ws' := (W_X m_0 m_picture_a m_file_a m_layers_a m_wide_a m_high_a m_half_a m_states_a m_favourites_a m_quotas_a m_digits_a m_draft_a m_given_a m_begins_a m_picture_k m_file_k m_layers_k m_wide_k m_high_k m_half_k m_states_k m_favourites_k m_quotas_k m_digits_k m_draft_k m_given_k m_begins_k (0 : Int32) m_width m_height m_picture m_length m_file m_any m_decisions m_plains m_doubles m_layers m_wide m_high m_half m_states m_favourites m_quotas m_span m_nowDecisions m_nowPlains m_nowDoubles m_digits m_digitCount m_draft m_draftSize m_taking m_given m_givenSize m_next m_above m_begins m_layerCount m_newWidth m_newHeight)) (wr := List.filterMap (fun (i : Nat) => (W_X m_0 m_picture_a m_file_a m_layers_a m_wide_a m_high_a m_half_a m_states_a m_favourites_a m_quotas_a m_digits_a m_draft_a m_given_a m_begins_a m_picture_k m_file_k m_layers_k m_wide_k m_high_k m_half_k m_states_k m_favourites_k m_quotas_k m_digits_k m_draft_k m_given_k m_begins_k (0 : Int32) m_width m_height m_picture m_length m_file m_any m_decisions m_plains m_doubles m_layers m_wide m_high m_half m_states m_favourites m_quotas m_span m_nowDecisions m_nowPlains m_nowDoubles m_digits m_digitCount m_draft m_draftSize m_taking m_given m_givenSize m_next m_above m_begins m_layerCount m_newWidth m_newHeight)[i]?) ([] : List Nat)) (va_runV (As := [.int i_x, .int i_y]) (rest := []) ⟨hx, hb, hml, hown, hts⟩ (c_Mod_isPlace l dC dI m_0 m_picture_a m_file_a m_layers_a m_wide_a m_high_a m_half_a m_states_a m_favourites_a m_quotas_a m_digits_a m_draft_a m_given_a m_begins_a m_picture_k m_file_k m_layers_k m_wide_k m_high_k m_half_k m_states_k m_favourites_k m_quotas_k m_digits_k m_draft_k m_given_k m_begins_k i_x i_y (0 : Int32) m_width m_height m_picture m_length m_file m_any m_decisions m_plains m_doubles m_layers m_wide m_high m_half m_states m_favourites m_quotas m_span m_nowDecisions m_nowPlains m_nowDoubles m_digits m_digitCount m_draft m_draftSize m_taking m_given m_givenSize m_next m_above m_begins m_layerCount m_newWidth m_newHeight z1  hz1 H.size) ⟨callB_of 2 hts (gT tt758 TT_good) rfl rfl rfl (hts _ tt53) (hts _ tt755) (by decide +kernel) ⟨Nat.le_of_ble_eq_true rfl, Nat.le_of_ble_eq_true rfl⟩, hts _ tt757, hts _ tt18⟩ (x_preV (q := (R_Mod, F_Mod, 34)) (As := [.int i_x, .int i_y]) (x_pre (wc := (W_X m_0 m_picture_a m_file_a m_layers_a m_wide_a m_high_a m_half_a m_states_a m_favourites_a m_quotas_a m_digits_a m_draft_a m_given_a m_begins_a m_picture_k m_file_k m_layers_k m_wide_k m_high_k m_half_k m_states_k m_favourites_k m_quotas_k m_digits_k m_draft_k m_given_k m_begins_k (0 : Int32) m_width m_height m_picture m_length m_file m_any m_decisions m_plains m_doubles m_layers m_wide m_high m_half m_states m_favourites m_quotas m_span m_nowDecisions m_nowPlains m_nowDoubles m_digits m_digitCount m_draft m_draftSize m_taking m_given m_givenSize m_next m_above m_begins m_layerCount m_newWidth m_newHeight)) (av := (.ref m_0 :: [.int i_x, .int i_y])) hK hP hD hS hA hG [0, 1, 2, 3, 4, 5, 6, 7, 8, 9, 10, 11, 12] [0, 1, 2, 3, 4, 5, 6, 7, 8, 9, 10, 11, 12, 13] rfl rfl (by decide)) hK hP (q0 := 0) rfl rfl) rfl rfl hl.1 rfl (lv_room (Nat.le_of_ble_eq_true rfl)) d_Mod_get_8 ⟨Nat.zero_le _, Nat.zero_le _⟩) hP hD hS hA [0, 1, 2, 3, 4, 5, 6, 7, 8, 9, 10, 11, 12, 13] [] [0, 1, 2, 3, 4, 5, 6, 7, 8, 9, 10, 11, 12, 13] rfl rfl (by decide) (by decide) (by decide) rfl (fun H locs hP hD hS => ?_)
  refine lv_if_eq (tgt := 28) hx hb d_Mod_get_11 rfl (fun hc => ?_) (fun hc => ?_)
  · replace h := ot hc h
    refine lv_iconst (v := (0 : Int32)) hx hb d_Mod_get_28 (by decide) ?_
    obtain rfl := Option.some.inj h
    exact hret H locs 29 ls d_Mod_get_29 (vp_nar_int _) hP hD hS
  · replace h := of hc h
    refine lv_aload_n hx hb d_Mod_get_14 rfl (lv_at hl 0 rfl) ?_
    refine va_get (D := (dC, dI)) (ci := 7) (v := .ref m_picture_a) (C := R_Mod) (T := F_Mod) (N := 34) hx hb hts in_Mod hown hK hP 0 rfl rfl 3 (by decide) (hts _ tt640) (fun _ h9 => h9) rfl d_Mod_get_15 ?_
    refine lv_bipush (v := (16 : Int32)) hx hb d_Mod_get_18 (by decide) ?_
    refine lv_iload_n hx hb d_Mod_get_20 rfl (lv_at hl 2 rfl) ?_
    refine lv_imul hx hb d_Mod_get_21 ?_
    refine lv_iload_n hx hb d_Mod_get_22 rfl (lv_at hl 1 rfl) ?_
    refine lv_iadd hx hb d_Mod_get_23 ?_
    obtain ⟨hin, h⟩ := og h
    refine va_iald hx hb hK hP 1 0 rfl rfl (vpb_in hin) d_Mod_get_24 ?_
    refine lv_goto (tgt := 29) hx hb d_Mod_get_25 rfl ?_
    obtain rfl := Option.some.inj h
    exact hret H locs 29 ls d_Mod_get_29 (vp_nar_int _) hP hD hS
theorem d_Mod_width_0 : decode b_Mod_width 0 = .ok (.aload_n 0, 1) := by decide +kernel
theorem d_Mod_width_1 : decode b_Mod_width 1 = .ok (.iconst (0), 1) := by decide +kernel
theorem d_Mod_width_2 : decode b_Mod_width 2 = .ok (.putfield 56, 3) := by decide +kernel
theorem d_Mod_width_5 : decode b_Mod_width 5 = .ok (.aload_n 0, 1) := by decide +kernel
theorem d_Mod_width_6 : decode b_Mod_width 6 = .ok (.getfield 7, 3) := by decide +kernel
theorem d_Mod_width_9 : decode b_Mod_width 9 = .ok (.ireturn, 1) := by decide +kernel
def q_Mod_width  (m_code : Int32) (m_width : Int32) : Option (Int32 × Int32) := some (m_width, (0 : Int32))
abbrev rm_Mod_width : Room := { frames := 0, cells := 0, slots := 0, locals := 0 }
set_option maxHeartbeats 4000000 in
set_option maxRecDepth 100000 in
theorem c_Mod_width (l : Launch) (dC : Nat → ClassId) (dI : Nat → Nat → Nat) (m_0 m_picture_a m_file_a m_layers_a m_wide_a m_high_a m_half_a m_states_a m_favourites_a m_quotas_a m_digits_a m_draft_a m_given_a m_begins_a : Nat) (m_picture_k m_file_k m_layers_k m_wide_k m_high_k m_half_k m_states_k m_favourites_k m_quotas_k m_digits_k m_draft_k m_given_k m_begins_k : ClassId)  (m_code : Int32) (m_width : Int32) (m_height : Int32) (m_picture : Nat → Int32) (m_length : Int32) (m_file : Nat → Int32) (m_any : Int32) (m_decisions : Int32) (m_plains : Int32) (m_doubles : Int32) (m_layers : Nat → Int32) (m_wide : Nat → Int32) (m_high : Nat → Int32) (m_half : Nat → Int32) (m_states : Nat → Int32) (m_favourites : Nat → Int32) (m_quotas : Nat → Int32) (m_span : Int32) (m_nowDecisions : Int32) (m_nowPlains : Int32) (m_nowDoubles : Int32) (m_digits : Nat → Int32) (m_digitCount : Int32) (m_draft : Nat → Int32) (m_draftSize : Int32) (m_taking : Int32) (m_given : Nat → Int32) (m_givenSize : Int32) (m_next : Int32) (m_above : Int32) (m_begins : Nat → Int32) (m_layerCount : Int32) (m_newWidth : Int32) (m_newHeight : Int32) (z : Int32 × Int32)  (hq : q_Mod_width m_code m_width = some z) (sz : Nat) : MetI l y_Mod_width b_Mod_width 1 .int TT rm_Mod_width (dC, dI) vcl [(m_picture_k, .int), (m_file_k, .int), (m_layers_k, .int), (m_wide_k, .int), (m_high_k, .int), (m_half_k, .int), (m_states_k, .int), (m_favourites_k, .int), (m_quotas_k, .int), (m_digits_k, .int), (m_draft_k, .int), (m_given_k, .int), (m_begins_k, .int)] (W_X m_0 m_picture_a m_file_a m_layers_a m_wide_a m_high_a m_half_a m_states_a m_favourites_a m_quotas_a m_digits_a m_draft_a m_given_a m_begins_a m_picture_k m_file_k m_layers_k m_wide_k m_high_k m_half_k m_states_k m_favourites_k m_quotas_k m_digits_k m_draft_k m_given_k m_begins_k m_code m_width m_height m_picture m_length m_file m_any m_decisions m_plains m_doubles m_layers m_wide m_high m_half m_states m_favourites m_quotas m_span m_nowDecisions m_nowPlains m_nowDoubles m_digits m_digitCount m_draft m_draftSize m_taking m_given m_givenSize m_next m_above m_begins m_layerCount m_newWidth m_newHeight) (W_X m_0 m_picture_a m_file_a m_layers_a m_wide_a m_high_a m_half_a m_states_a m_favourites_a m_quotas_a m_digits_a m_draft_a m_given_a m_begins_a m_picture_k m_file_k m_layers_k m_wide_k m_high_k m_half_k m_states_k m_favourites_k m_quotas_k m_digits_k m_draft_k m_given_k m_begins_k z.2 m_width m_height m_picture m_length m_file m_any m_decisions m_plains m_doubles m_layers m_wide m_high m_half m_states m_favourites m_quotas m_span m_nowDecisions m_nowPlains m_nowDoubles m_digits m_digitCount m_draft m_draftSize m_taking m_given m_givenSize m_next m_above m_begins m_layerCount m_newWidth m_newHeight) [.ref m_0] z.1 sz := by
  refine x_ofI (by decide) (Nat.le_of_ble_eq_true rfl) ?_ sz
  intro p e s m args below meth c A Q ls hx hb hml hown hts hA hG hK hP hD hS hl hret
  have hown : s.vm.findClass R_Mod = some m.cls := hown
  have hl : lv_has ls 1 [(0, .ref m_0)] := hl
  obtain ⟨⟨tq, hZ, hTq⟩, hN⟩ := id hG
  obtain ⟨H, hH⟩ : ∃ H, H = s.heap := ⟨_, rfl⟩
  obtain ⟨locs, hlocs⟩ : ∃ locs : List Loc, locs = [] := ⟨_, rfl⟩
  rw [← hH] at hP
  have hS : va_S A s.heap H locs := by rw [hH, hlocs]; exact hS
  suffices hgo : W p l e rm_Mod_width s m args below meth c H locs 0 0 Q (F0 m 0 ls []) by rw [hH, hlocs] at hgo; exact hgo
  unfold q_Mod_width at hq
  have h := hq
  refine lv_aload_n hx hb d_Mod_width_0 rfl (lv_at hl 0 rfl) ?_
  refine lv_iconst (v := (0 : Int32)) hx hb d_Mod_width_1 (by decide) ?_
  refine va_put (D := (dC, dI)) (ci := 7) (v := .int (0 : Int32)) (ty := .int) (C := R_Mod) (T := F_Mod) (N := 34) hx hb hts in_Mod t_Mod t_Mod_ok n_Mod hown hK hP hD hS 0 rfl rfl 0 (by decide) (hts _ tt637) (fun _ h9 => h9) rfl (by decide +kernel) rfl rfl (Nat.le_of_ble_eq_true rfl) d_Mod_width_2 (fun H locs hP hD hS => ?_)
  have hP : va_P (dC, dI) vcl (W_X m_0 m_picture_a m_file_a m_layers_a m_wide_a m_high_a m_half_a m_states_a m_favourites_a m_quotas_a m_digits_a m_draft_a m_given_a m_begins_a m_picture_k m_file_k m_layers_k m_wide_k m_high_k m_half_k m_states_k m_favourites_k m_quotas_k m_digits_k m_draft_k m_given_k m_begins_k (0 : Int32) m_width m_height m_picture m_length m_file m_any m_decisions m_plains m_doubles m_layers m_wide m_high m_half m_states m_favourites m_quotas m_span m_nowDecisions m_nowPlains m_nowDoubles m_digits m_digitCount m_draft m_draftSize m_taking m_given m_givenSize m_next m_above m_begins m_layerCount m_newWidth m_newHeight) H := hP
  have hD : va_D A (W_X m_0 m_picture_a m_file_a m_layers_a m_wide_a m_high_a m_half_a m_states_a m_favourites_a m_quotas_a m_digits_a m_draft_a m_given_a m_begins_a m_picture_k m_file_k m_layers_k m_wide_k m_high_k m_half_k m_states_k m_favourites_k m_quotas_k m_digits_k m_draft_k m_given_k m_begins_k (0 : Int32) m_width m_height m_picture m_length m_file m_any m_decisions m_plains m_doubles m_layers m_wide m_high m_half m_states m_favourites m_quotas m_span m_nowDecisions m_nowPlains m_nowDoubles m_digits m_digitCount m_draft m_draftSize m_taking m_given m_givenSize m_next m_above m_begins m_layerCount m_newWidth m_newHeight) := hD
  refine lv_aload_n hx hb d_Mod_width_5 rfl (lv_at hl 0 rfl) ?_
  refine va_get (D := (dC, dI)) (ci := 7) (v := .int m_width) (C := R_Mod) (T := F_Mod) (N := 34) hx hb hts in_Mod hown hK hP 0 rfl rfl 1 (by decide) (hts _ tt638) (fun _ h9 => h9) rfl d_Mod_width_6 ?_
  obtain rfl := Option.some.inj h
  exact hret H locs 9 ls d_Mod_width_9 (vp_nar_int _) hP hD hS
theorem d_Mod_height_0 : decode b_Mod_height 0 = .ok (.aload_n 0, 1) := by decide +kernel
theorem d_Mod_height_1 : decode b_Mod_height 1 = .ok (.iconst (0), 1) := by decide +kernel
theorem d_Mod_height_2 : decode b_Mod_height 2 = .ok (.putfield 56, 3) := by decide +kernel
theorem d_Mod_height_5 : decode b_Mod_height 5 = .ok (.aload_n 0, 1) := by decide +kernel
theorem d_Mod_height_6 : decode b_Mod_height 6 = .ok (.getfield 13, 3) := by decide +kernel
theorem d_Mod_height_9 : decode b_Mod_height 9 = .ok (.ireturn, 1) := by decide +kernel
def q_Mod_height  (m_code : Int32) (m_height : Int32) : Option (Int32 × Int32) := some (m_height, (0 : Int32))
abbrev rm_Mod_height : Room := { frames := 0, cells := 0, slots := 0, locals := 0 }
set_option maxHeartbeats 4000000 in
set_option maxRecDepth 100000 in
theorem c_Mod_height (l : Launch) (dC : Nat → ClassId) (dI : Nat → Nat → Nat) (m_0 m_picture_a m_file_a m_layers_a m_wide_a m_high_a m_half_a m_states_a m_favourites_a m_quotas_a m_digits_a m_draft_a m_given_a m_begins_a : Nat) (m_picture_k m_file_k m_layers_k m_wide_k m_high_k m_half_k m_states_k m_favourites_k m_quotas_k m_digits_k m_draft_k m_given_k m_begins_k : ClassId)  (m_code : Int32) (m_width : Int32) (m_height : Int32) (m_picture : Nat → Int32) (m_length : Int32) (m_file : Nat → Int32) (m_any : Int32) (m_decisions : Int32) (m_plains : Int32) (m_doubles : Int32) (m_layers : Nat → Int32) (m_wide : Nat → Int32) (m_high : Nat → Int32) (m_half : Nat → Int32) (m_states : Nat → Int32) (m_favourites : Nat → Int32) (m_quotas : Nat → Int32) (m_span : Int32) (m_nowDecisions : Int32) (m_nowPlains : Int32) (m_nowDoubles : Int32) (m_digits : Nat → Int32) (m_digitCount : Int32) (m_draft : Nat → Int32) (m_draftSize : Int32) (m_taking : Int32) (m_given : Nat → Int32) (m_givenSize : Int32) (m_next : Int32) (m_above : Int32) (m_begins : Nat → Int32) (m_layerCount : Int32) (m_newWidth : Int32) (m_newHeight : Int32) (z : Int32 × Int32)  (hq : q_Mod_height m_code m_height = some z) (sz : Nat) : MetI l y_Mod_height b_Mod_height 1 .int TT rm_Mod_height (dC, dI) vcl [(m_picture_k, .int), (m_file_k, .int), (m_layers_k, .int), (m_wide_k, .int), (m_high_k, .int), (m_half_k, .int), (m_states_k, .int), (m_favourites_k, .int), (m_quotas_k, .int), (m_digits_k, .int), (m_draft_k, .int), (m_given_k, .int), (m_begins_k, .int)] (W_X m_0 m_picture_a m_file_a m_layers_a m_wide_a m_high_a m_half_a m_states_a m_favourites_a m_quotas_a m_digits_a m_draft_a m_given_a m_begins_a m_picture_k m_file_k m_layers_k m_wide_k m_high_k m_half_k m_states_k m_favourites_k m_quotas_k m_digits_k m_draft_k m_given_k m_begins_k m_code m_width m_height m_picture m_length m_file m_any m_decisions m_plains m_doubles m_layers m_wide m_high m_half m_states m_favourites m_quotas m_span m_nowDecisions m_nowPlains m_nowDoubles m_digits m_digitCount m_draft m_draftSize m_taking m_given m_givenSize m_next m_above m_begins m_layerCount m_newWidth m_newHeight) (W_X m_0 m_picture_a m_file_a m_layers_a m_wide_a m_high_a m_half_a m_states_a m_favourites_a m_quotas_a m_digits_a m_draft_a m_given_a m_begins_a m_picture_k m_file_k m_layers_k m_wide_k m_high_k m_half_k m_states_k m_favourites_k m_quotas_k m_digits_k m_draft_k m_given_k m_begins_k z.2 m_width m_height m_picture m_length m_file m_any m_decisions m_plains m_doubles m_layers m_wide m_high m_half m_states m_favourites m_quotas m_span m_nowDecisions m_nowPlains m_nowDoubles m_digits m_digitCount m_draft m_draftSize m_taking m_given m_givenSize m_next m_above m_begins m_layerCount m_newWidth m_newHeight) [.ref m_0] z.1 sz := by
  refine x_ofI (by decide) (Nat.le_of_ble_eq_true rfl) ?_ sz
  intro p e s m args below meth c A Q ls hx hb hml hown hts hA hG hK hP hD hS hl hret
  have hown : s.vm.findClass R_Mod = some m.cls := hown
  have hl : lv_has ls 1 [(0, .ref m_0)] := hl
  obtain ⟨⟨tq, hZ, hTq⟩, hN⟩ := id hG
  obtain ⟨H, hH⟩ : ∃ H, H = s.heap := ⟨_, rfl⟩
  obtain ⟨locs, hlocs⟩ : ∃ locs : List Loc, locs = [] := ⟨_, rfl⟩
  rw [← hH] at hP
  have hS : va_S A s.heap H locs := by rw [hH, hlocs]; exact hS
  suffices hgo : W p l e rm_Mod_height s m args below meth c H locs 0 0 Q (F0 m 0 ls []) by rw [hH, hlocs] at hgo; exact hgo
  unfold q_Mod_height at hq
  have h := hq
  refine lv_aload_n hx hb d_Mod_height_0 rfl (lv_at hl 0 rfl) ?_
  refine lv_iconst (v := (0 : Int32)) hx hb d_Mod_height_1 (by decide) ?_
  refine va_put (D := (dC, dI)) (ci := 7) (v := .int (0 : Int32)) (ty := .int) (C := R_Mod) (T := F_Mod) (N := 34) hx hb hts in_Mod t_Mod t_Mod_ok n_Mod hown hK hP hD hS 0 rfl rfl 0 (by decide) (hts _ tt637) (fun _ h9 => h9) rfl (by decide +kernel) rfl rfl (Nat.le_of_ble_eq_true rfl) d_Mod_height_2 (fun H locs hP hD hS => ?_)
  have hP : va_P (dC, dI) vcl (W_X m_0 m_picture_a m_file_a m_layers_a m_wide_a m_high_a m_half_a m_states_a m_favourites_a m_quotas_a m_digits_a m_draft_a m_given_a m_begins_a m_picture_k m_file_k m_layers_k m_wide_k m_high_k m_half_k m_states_k m_favourites_k m_quotas_k m_digits_k m_draft_k m_given_k m_begins_k (0 : Int32) m_width m_height m_picture m_length m_file m_any m_decisions m_plains m_doubles m_layers m_wide m_high m_half m_states m_favourites m_quotas m_span m_nowDecisions m_nowPlains m_nowDoubles m_digits m_digitCount m_draft m_draftSize m_taking m_given m_givenSize m_next m_above m_begins m_layerCount m_newWidth m_newHeight) H := hP
  have hD : va_D A (W_X m_0 m_picture_a m_file_a m_layers_a m_wide_a m_high_a m_half_a m_states_a m_favourites_a m_quotas_a m_digits_a m_draft_a m_given_a m_begins_a m_picture_k m_file_k m_layers_k m_wide_k m_high_k m_half_k m_states_k m_favourites_k m_quotas_k m_digits_k m_draft_k m_given_k m_begins_k (0 : Int32) m_width m_height m_picture m_length m_file m_any m_decisions m_plains m_doubles m_layers m_wide m_high m_half m_states m_favourites m_quotas m_span m_nowDecisions m_nowPlains m_nowDoubles m_digits m_digitCount m_draft m_draftSize m_taking m_given m_givenSize m_next m_above m_begins m_layerCount m_newWidth m_newHeight) := hD
  refine lv_aload_n hx hb d_Mod_height_5 rfl (lv_at hl 0 rfl) ?_
  refine va_get (D := (dC, dI)) (ci := 7) (v := .int m_height) (C := R_Mod) (T := F_Mod) (N := 34) hx hb hts in_Mod hown hK hP 0 rfl rfl 2 (by decide) (hts _ tt639) (fun _ h9 => h9) rfl d_Mod_height_6 ?_
  obtain rfl := Option.some.inj h
  exact hret H locs 9 ls d_Mod_height_9 (vp_nar_int _) hP hD hS
theorem d_Mod_at_0 : decode b_Mod_at 0 = .ok (.iload_n 2, 1) := by decide +kernel
theorem d_Mod_at_1 : decode b_Mod_at 1 = .ok (.iconst (0), 1) := by decide +kernel
theorem d_Mod_at_2 : decode b_Mod_at 2 = .ok (.aload_n 0, 1) := by decide +kernel
theorem d_Mod_at_3 : decode b_Mod_at 3 = .ok (.getfield 26, 3) := by decide +kernel
theorem d_Mod_at_6 : decode b_Mod_at 6 = .ok (.iload_n 1, 1) := by decide +kernel
theorem d_Mod_at_7 : decode b_Mod_at 7 = .ok (.iaload, 1) := by decide +kernel
theorem d_Mod_at_8 : decode b_Mod_at 8 = .ok (.iconst (1), 1) := by decide +kernel
theorem d_Mod_at_9 : decode b_Mod_at 9 = .ok (.isub, 1) := by decide +kernel
theorem d_Mod_at_10 : decode b_Mod_at 10 = .ok (.invokestatic 59, 3) := by decide +kernel
theorem d_Mod_at_13 : decode b_Mod_at 13 = .ok (.ifCond .eq (39), 3) := by decide +kernel
theorem d_Mod_at_16 : decode b_Mod_at 16 = .ok (.iload_n 3, 1) := by decide +kernel
theorem d_Mod_at_17 : decode b_Mod_at 17 = .ok (.iconst (0), 1) := by decide +kernel
theorem d_Mod_at_18 : decode b_Mod_at 18 = .ok (.aload_n 0, 1) := by decide +kernel
theorem d_Mod_at_19 : decode b_Mod_at 19 = .ok (.getfield 29, 3) := by decide +kernel
theorem d_Mod_at_22 : decode b_Mod_at 22 = .ok (.iload_n 1, 1) := by decide +kernel
theorem d_Mod_at_23 : decode b_Mod_at 23 = .ok (.iaload, 1) := by decide +kernel
theorem d_Mod_at_24 : decode b_Mod_at 24 = .ok (.iconst (1), 1) := by decide +kernel
theorem d_Mod_at_25 : decode b_Mod_at 25 = .ok (.isub, 1) := by decide +kernel
theorem d_Mod_at_26 : decode b_Mod_at 26 = .ok (.invokestatic 59, 3) := by decide +kernel
theorem d_Mod_at_29 : decode b_Mod_at 29 = .ok (.ifCond .eq (23), 3) := by decide +kernel
theorem d_Mod_at_32 : decode b_Mod_at 32 = .ok (.aload_n 0, 1) := by decide +kernel
theorem d_Mod_at_33 : decode b_Mod_at 33 = .ok (.getfield 23, 3) := by decide +kernel
theorem d_Mod_at_36 : decode b_Mod_at 36 = .ok (.sipush (256), 3) := by decide +kernel
theorem d_Mod_at_39 : decode b_Mod_at 39 = .ok (.iload_n 1, 1) := by decide +kernel
theorem d_Mod_at_40 : decode b_Mod_at 40 = .ok (.imul, 1) := by decide +kernel
theorem d_Mod_at_41 : decode b_Mod_at 41 = .ok (.bipush (16), 2) := by decide +kernel
theorem d_Mod_at_43 : decode b_Mod_at 43 = .ok (.iload_n 3, 1) := by decide +kernel
theorem d_Mod_at_44 : decode b_Mod_at 44 = .ok (.imul, 1) := by decide +kernel
theorem d_Mod_at_45 : decode b_Mod_at 45 = .ok (.iadd, 1) := by decide +kernel
theorem d_Mod_at_46 : decode b_Mod_at 46 = .ok (.iload_n 2, 1) := by decide +kernel
theorem d_Mod_at_47 : decode b_Mod_at 47 = .ok (.iadd, 1) := by decide +kernel
theorem d_Mod_at_48 : decode b_Mod_at 48 = .ok (.iaload, 1) := by decide +kernel
theorem d_Mod_at_49 : decode b_Mod_at 49 = .ok (.goto (4), 3) := by decide +kernel
theorem d_Mod_at_52 : decode b_Mod_at 52 = .ok (.iconst (0), 1) := by decide +kernel
theorem d_Mod_at_53 : decode b_Mod_at 53 = .ok (.ireturn, 1) := by decide +kernel
def q_Mod_at (i_k : Int32) (i_x : Int32) (i_y : Int32) (m_layers : Nat → Int32) (m_wide : Nat → Int32) (m_high : Nat → Int32) : Option (Int32) := (if vpb i_k 3 = true then ((q_Mod_within i_x (0 : Int32) ((m_wide i_k.toNatClampNeg) - (1 : Int32))).bind fun z1 => (if z1 = 0 then some ((0 : Int32)) else (if vpb i_k 3 = true then ((q_Mod_within i_y (0 : Int32) ((m_high i_k.toNatClampNeg) - (1 : Int32))).bind fun z2 => (if z2 = 0 then some ((0 : Int32)) else (if vpb ((((256 : Int32) * i_k) + ((16 : Int32) * i_y)) + i_x) 768 = true then some (m_layers ((((256 : Int32) * i_k) + ((16 : Int32) * i_y)) + i_x).toNatClampNeg) else none))) else none))) else none)
abbrev rm_Mod_at : Room := { frames := 1, cells := 0, slots := 0, locals := 22 }
set_option maxHeartbeats 4000000 in
set_option maxRecDepth 100000 in
theorem c_Mod_at (l : Launch) (dC : Nat → ClassId) (dI : Nat → Nat → Nat) (m_0 m_picture_a m_file_a m_layers_a m_wide_a m_high_a m_half_a m_states_a m_favourites_a m_quotas_a m_digits_a m_draft_a m_given_a m_begins_a : Nat) (m_picture_k m_file_k m_layers_k m_wide_k m_high_k m_half_k m_states_k m_favourites_k m_quotas_k m_digits_k m_draft_k m_given_k m_begins_k : ClassId) (i_k : Int32) (i_x : Int32) (i_y : Int32) (m_code : Int32) (m_width : Int32) (m_height : Int32) (m_picture : Nat → Int32) (m_length : Int32) (m_file : Nat → Int32) (m_any : Int32) (m_decisions : Int32) (m_plains : Int32) (m_doubles : Int32) (m_layers : Nat → Int32) (m_wide : Nat → Int32) (m_high : Nat → Int32) (m_half : Nat → Int32) (m_states : Nat → Int32) (m_favourites : Nat → Int32) (m_quotas : Nat → Int32) (m_span : Int32) (m_nowDecisions : Int32) (m_nowPlains : Int32) (m_nowDoubles : Int32) (m_digits : Nat → Int32) (m_digitCount : Int32) (m_draft : Nat → Int32) (m_draftSize : Int32) (m_taking : Int32) (m_given : Nat → Int32) (m_givenSize : Int32) (m_next : Int32) (m_above : Int32) (m_begins : Nat → Int32) (m_layerCount : Int32) (m_newWidth : Int32) (m_newHeight : Int32) (z : Int32)  (hq : q_Mod_at i_k i_x i_y m_layers m_wide m_high = some z) (sz : Nat) : MetI l y_Mod_at b_Mod_at 4 .int TT rm_Mod_at (dC, dI) vcl [(m_picture_k, .int), (m_file_k, .int), (m_layers_k, .int), (m_wide_k, .int), (m_high_k, .int), (m_half_k, .int), (m_states_k, .int), (m_favourites_k, .int), (m_quotas_k, .int), (m_digits_k, .int), (m_draft_k, .int), (m_given_k, .int), (m_begins_k, .int)] (W_X m_0 m_picture_a m_file_a m_layers_a m_wide_a m_high_a m_half_a m_states_a m_favourites_a m_quotas_a m_digits_a m_draft_a m_given_a m_begins_a m_picture_k m_file_k m_layers_k m_wide_k m_high_k m_half_k m_states_k m_favourites_k m_quotas_k m_digits_k m_draft_k m_given_k m_begins_k m_code m_width m_height m_picture m_length m_file m_any m_decisions m_plains m_doubles m_layers m_wide m_high m_half m_states m_favourites m_quotas m_span m_nowDecisions m_nowPlains m_nowDoubles m_digits m_digitCount m_draft m_draftSize m_taking m_given m_givenSize m_next m_above m_begins m_layerCount m_newWidth m_newHeight) (W_X m_0 m_picture_a m_file_a m_layers_a m_wide_a m_high_a m_half_a m_states_a m_favourites_a m_quotas_a m_digits_a m_draft_a m_given_a m_begins_a m_picture_k m_file_k m_layers_k m_wide_k m_high_k m_half_k m_states_k m_favourites_k m_quotas_k m_digits_k m_draft_k m_given_k m_begins_k m_code m_width m_height m_picture m_length m_file m_any m_decisions m_plains m_doubles m_layers m_wide m_high m_half m_states m_favourites m_quotas m_span m_nowDecisions m_nowPlains m_nowDoubles m_digits m_digitCount m_draft m_draftSize m_taking m_given m_givenSize m_next m_above m_begins m_layerCount m_newWidth m_newHeight) [.ref m_0, .int i_k, .int i_x, .int i_y] z sz := by
  refine x_ofI (by decide) (Nat.le_of_ble_eq_true rfl) ?_ sz
  intro p e s m args below meth c A Q ls hx hb hml hown hts hA hG hK hP hD hS hl hret
  have hown : s.vm.findClass R_Mod = some m.cls := hown
  have hl : lv_has ls 4 [(0, .ref m_0), (1, .int i_k), (2, .int i_x), (3, .int i_y)] := hl
  obtain ⟨⟨tq, hZ, hTq⟩, hN⟩ := id hG
  obtain ⟨H, hH⟩ : ∃ H, H = s.heap := ⟨_, rfl⟩
  obtain ⟨locs, hlocs⟩ : ∃ locs : List Loc, locs = [] := ⟨_, rfl⟩
  rw [← hH] at hP
  have hS : va_S A s.heap H locs := by rw [hH, hlocs]; exact hS
  suffices hgo : W p l e rm_Mod_at s m args below meth c H locs 0 0 Q (F0 m 0 ls []) by rw [hH, hlocs] at hgo; exact hgo
  unfold q_Mod_at at hq
  have h := hq
  refine lv_iload_n hx hb d_Mod_at_0 rfl (lv_at hl 2 rfl) ?_
  refine lv_iconst (v := (0 : Int32)) hx hb d_Mod_at_1 (by decide) ?_
  refine lv_aload_n hx hb d_Mod_at_2 rfl (lv_at hl 0 rfl) ?_
  refine va_get (D := (dC, dI)) (ci := 7) (v := .ref m_wide_a) (C := R_Mod) (T := F_Mod) (N := 34) hx hb hts in_Mod hown hK hP 0 rfl rfl 11 (by decide) (hts _ tt648) (fun _ h9 => h9) rfl d_Mod_at_3 ?_
  refine lv_iload_n hx hb d_Mod_at_6 rfl (lv_at hl 1 rfl) ?_
  obtain ⟨hin, h⟩ := og h
  refine va_iald hx hb hK hP 4 3 rfl rfl (vpb_in hin) d_Mod_at_7 ?_
  refine lv_iconst (v := (1 : Int32)) hx hb d_Mod_at_8 (by decide) ?_
  refine lv_isub hx hb d_Mod_at_9 ?_
  obtain ⟨z1, hz1, h⟩ := ob h
  refine x_goI (res := z1) (w1 := (W_0  )) (ws' := (W_X m_0 m_picture_a m_file_a m_layers_a m_wide_a m_high_a m_half_a m_states_a m_favourites_a m_quotas_a m_digits_a m_draft_a m_given_a m_begins_a m_picture_k m_file_k m_layers_k m_wide_k m_high_k m_half_k m_states_k m_favourites_k m_quotas_k m_digits_k m_draft_k m_given_k m_begins_k m_code m_width m_height m_picture m_length m_file m_any m_decisions m_plains m_doubles m_layers m_wide m_high m_half m_states m_favourites m_quotas m_span m_nowDecisions m_nowPlains m_nowDoubles m_digits m_digitCount m_draft m_draftSize m_taking m_given m_givenSize m_next m_above m_begins m_layerCount m_newWidth m_newHeight)) (wr := List.filterMap (fun (i : Nat) => (W_X m_0 m_picture_a m_file_a m_layers_a m_wide_a m_high_a m_half_a m_states_a m_favourites_a m_quotas_a m_digits_a m_draft_a m_given_a m_begins_a m_picture_k m_file_k m_layers_k m_wide_k m_high_k m_half_k m_states_k m_favourites_k m_quotas_k m_digits_k m_draft_k m_given_k m_begins_k m_code m_width m_height m_picture m_length m_file m_any m_decisions m_plains m_doubles m_layers m_wide m_high m_half m_states m_favourites m_quotas m_span m_nowDecisions m_nowPlains m_nowDoubles m_digits m_digitCount m_draft m_draftSize m_taking m_given m_givenSize m_next m_above m_begins m_layerCount m_newWidth m_newHeight)[i]?) ([0, 1, 2, 3, 4, 5, 6, 7, 8, 9, 10, 11, 12, 13] : List Nat)) (va_runS (As := [.int i_x, .int (0 : Int32), .int ((m_wide i_k.toNatClampNeg) - (1 : Int32))]) (rest := []) ⟨hx, hb, hml, hown, hts⟩ (c_Mod_within l dC dI  i_x (0 : Int32) ((m_wide i_k.toNatClampNeg) - (1 : Int32))  z1  hz1 H.size) ⟨callB_of 3 hts (gT tt750 TT_good) rfl rfl rfl (hts _ tt53) (hts _ tt748) (by decide +kernel) ⟨Nat.le_of_ble_eq_true rfl, Nat.le_of_ble_eq_true rfl⟩, hts _ tt749⟩ (x_pre (wc := (W_0  )) (av := [.int i_x, .int (0 : Int32), .int ((m_wide i_k.toNatClampNeg) - (1 : Int32))]) hK hP hD hS hA hG [] [] rfl rfl (by decide)) rfl rfl hl.1 rfl (lv_room (Nat.le_of_ble_eq_true rfl)) d_Mod_at_10 ⟨Nat.zero_le _, Nat.zero_le _⟩) hP hD hS hA [] [0, 1, 2, 3, 4, 5, 6, 7, 8, 9, 10, 11, 12, 13] [0, 1, 2, 3, 4, 5, 6, 7, 8, 9, 10, 11, 12, 13] rfl rfl (by decide) (by decide) (by decide) rfl (fun H locs hP hD hS => ?_)
  refine lv_if_eq (tgt := 52) hx hb d_Mod_at_13 rfl (fun hc => ?_) (fun hc => ?_)
  · replace h := ot hc h
    refine lv_iconst (v := (0 : Int32)) hx hb d_Mod_at_52 (by decide) ?_
    obtain rfl := Option.some.inj h
    exact hret H locs 53 ls d_Mod_at_53 (vp_nar_int _) hP hD hS
  · replace h := of hc h
    refine lv_iload_n hx hb d_Mod_at_16 rfl (lv_at hl 3 rfl) ?_
    refine lv_iconst (v := (0 : Int32)) hx hb d_Mod_at_17 (by decide) ?_
    refine lv_aload_n hx hb d_Mod_at_18 rfl (lv_at hl 0 rfl) ?_
    refine va_get (D := (dC, dI)) (ci := 7) (v := .ref m_high_a) (C := R_Mod) (T := F_Mod) (N := 34) hx hb hts in_Mod hown hK hP 0 rfl rfl 12 (by decide) (hts _ tt649) (fun _ h9 => h9) rfl d_Mod_at_19 ?_
    refine lv_iload_n hx hb d_Mod_at_22 rfl (lv_at hl 1 rfl) ?_
    obtain ⟨hin, h⟩ := og h
    refine va_iald hx hb hK hP 5 4 rfl rfl (vpb_in hin) d_Mod_at_23 ?_
    refine lv_iconst (v := (1 : Int32)) hx hb d_Mod_at_24 (by decide) ?_
    refine lv_isub hx hb d_Mod_at_25 ?_
    obtain ⟨z2, hz2, h⟩ := ob h
    refine x_goI (res := z2) (w1 := (W_0  )) (ws' := (W_X m_0 m_picture_a m_file_a m_layers_a m_wide_a m_high_a m_half_a m_states_a m_favourites_a m_quotas_a m_digits_a m_draft_a m_given_a m_begins_a m_picture_k m_file_k m_layers_k m_wide_k m_high_k m_half_k m_states_k m_favourites_k m_quotas_k m_digits_k m_draft_k m_given_k m_begins_k m_code m_width m_height m_picture m_length m_file m_any m_decisions m_plains m_doubles m_layers m_wide m_high m_half m_states m_favourites m_quotas m_span m_nowDecisions m_nowPlains m_nowDoubles m_digits m_digitCount m_draft m_draftSize m_taking m_given m_givenSize m_next m_above m_begins m_layerCount m_newWidth m_newHeight)) (wr := List.filterMap (fun (i : Nat) => (W_X m_0 m_picture_a m_file_a m_layers_a m_wide_a m_high_a m_half_a m_states_a m_favourites_a m_quotas_a m_digits_a m_draft_a m_given_a m_begins_a m_picture_k m_file_k m_layers_k m_wide_k m_high_k m_half_k m_states_k m_favourites_k m_quotas_k m_digits_k m_draft_k m_given_k m_begins_k m_code m_width m_height m_picture m_length m_file m_any m_decisions m_plains m_doubles m_layers m_wide m_high m_half m_states m_favourites m_quotas m_span m_nowDecisions m_nowPlains m_nowDoubles m_digits m_digitCount m_draft m_draftSize m_taking m_given m_givenSize m_next m_above m_begins m_layerCount m_newWidth m_newHeight)[i]?) ([0, 1, 2, 3, 4, 5, 6, 7, 8, 9, 10, 11, 12, 13] : List Nat)) (va_runS (As := [.int i_y, .int (0 : Int32), .int ((m_high i_k.toNatClampNeg) - (1 : Int32))]) (rest := []) ⟨hx, hb, hml, hown, hts⟩ (c_Mod_within l dC dI  i_y (0 : Int32) ((m_high i_k.toNatClampNeg) - (1 : Int32))  z2  hz2 H.size) ⟨callB_of 3 hts (gT tt750 TT_good) rfl rfl rfl (hts _ tt53) (hts _ tt748) (by decide +kernel) ⟨Nat.le_of_ble_eq_true rfl, Nat.le_of_ble_eq_true rfl⟩, hts _ tt749⟩ (x_pre (wc := (W_0  )) (av := [.int i_y, .int (0 : Int32), .int ((m_high i_k.toNatClampNeg) - (1 : Int32))]) hK hP hD hS hA hG [] [] rfl rfl (by decide)) rfl rfl hl.1 rfl (lv_room (Nat.le_of_ble_eq_true rfl)) d_Mod_at_26 ⟨Nat.zero_le _, Nat.zero_le _⟩) hP hD hS hA [] [0, 1, 2, 3, 4, 5, 6, 7, 8, 9, 10, 11, 12, 13] [0, 1, 2, 3, 4, 5, 6, 7, 8, 9, 10, 11, 12, 13] rfl rfl (by decide) (by decide) (by decide) rfl (fun H locs hP hD hS => ?_)
    refine lv_if_eq (tgt := 52) hx hb d_Mod_at_29 rfl (fun hc => ?_) (fun hc => ?_)
    · replace h := ot hc h
      refine lv_iconst (v := (0 : Int32)) hx hb d_Mod_at_52 (by decide) ?_
      obtain rfl := Option.some.inj h
      exact hret H locs 53 ls d_Mod_at_53 (vp_nar_int _) hP hD hS
    · replace h := of hc h
      refine lv_aload_n hx hb d_Mod_at_32 rfl (lv_at hl 0 rfl) ?_
      refine va_get (D := (dC, dI)) (ci := 7) (v := .ref m_layers_a) (C := R_Mod) (T := F_Mod) (N := 34) hx hb hts in_Mod hown hK hP 0 rfl rfl 10 (by decide) (hts _ tt647) (fun _ h9 => h9) rfl d_Mod_at_33 ?_
      refine lv_sipush (v := (256 : Int32)) hx hb d_Mod_at_36 (by decide) ?_
      refine lv_iload_n hx hb d_Mod_at_39 rfl (lv_at hl 1 rfl) ?_
      refine lv_imul hx hb d_Mod_at_40 ?_
      refine lv_bipush (v := (16 : Int32)) hx hb d_Mod_at_41 (by decide) ?_
      refine lv_iload_n hx hb d_Mod_at_43 rfl (lv_at hl 3 rfl) ?_
      refine lv_imul hx hb d_Mod_at_44 ?_
      refine lv_iadd hx hb d_Mod_at_45 ?_
      refine lv_iload_n hx hb d_Mod_at_46 rfl (lv_at hl 2 rfl) ?_
      refine lv_iadd hx hb d_Mod_at_47 ?_
      obtain ⟨hin, h⟩ := og h
      refine va_iald hx hb hK hP 3 2 rfl rfl (vpb_in hin) d_Mod_at_48 ?_
      refine lv_goto (tgt := 53) hx hb d_Mod_at_49 rfl ?_
      obtain rfl := Option.some.inj h
      exact hret H locs 53 ls d_Mod_at_53 (vp_nar_int _) hP hD hS
theorem d_Mod_reduced_0 : decode b_Mod_reduced 0 = .ok (.iconst (0), 1) := by decide +kernel
theorem d_Mod_reduced_1 : decode b_Mod_reduced 1 = .ok (.istore 5, 2) := by decide +kernel
theorem d_Mod_reduced_3 : decode b_Mod_reduced 3 = .ok (.iconst (-1), 1) := by decide +kernel
theorem d_Mod_reduced_4 : decode b_Mod_reduced 4 = .ok (.istore 6, 2) := by decide +kernel
theorem d_Mod_reduced_6 : decode b_Mod_reduced 6 = .ok (.iload 6, 2) := by decide +kernel
theorem d_Mod_reduced_8 : decode b_Mod_reduced 8 = .ok (.iconst (3), 1) := by decide +kernel
theorem d_Mod_reduced_9 : decode b_Mod_reduced 9 = .ok (.if_icmp .ge (84), 3) := by decide +kernel
theorem d_Mod_reduced_12 : decode b_Mod_reduced 12 = .ok (.iconst (-1), 1) := by decide +kernel
theorem d_Mod_reduced_13 : decode b_Mod_reduced 13 = .ok (.istore 7, 2) := by decide +kernel
theorem d_Mod_reduced_15 : decode b_Mod_reduced 15 = .ok (.iload 7, 2) := by decide +kernel
theorem d_Mod_reduced_17 : decode b_Mod_reduced 17 = .ok (.iconst (3), 1) := by decide +kernel
theorem d_Mod_reduced_18 : decode b_Mod_reduced 18 = .ok (.if_icmp .ge (69), 3) := by decide +kernel
theorem d_Mod_reduced_21 : decode b_Mod_reduced 21 = .ok (.iload 6, 2) := by decide +kernel
theorem d_Mod_reduced_23 : decode b_Mod_reduced 23 = .ok (.iconst (0), 1) := by decide +kernel
theorem d_Mod_reduced_24 : decode b_Mod_reduced 24 = .ok (.iconst (1), 1) := by decide +kernel
theorem d_Mod_reduced_25 : decode b_Mod_reduced 25 = .ok (.invokestatic 59, 3) := by decide +kernel
theorem d_Mod_reduced_28 : decode b_Mod_reduced 28 = .ok (.ifCond .eq (17), 3) := by decide +kernel
theorem d_Mod_reduced_31 : decode b_Mod_reduced 31 = .ok (.iload 7, 2) := by decide +kernel
theorem d_Mod_reduced_33 : decode b_Mod_reduced 33 = .ok (.iconst (0), 1) := by decide +kernel
theorem d_Mod_reduced_34 : decode b_Mod_reduced 34 = .ok (.iconst (1), 1) := by decide +kernel
theorem d_Mod_reduced_35 : decode b_Mod_reduced 35 = .ok (.invokestatic 59, 3) := by decide +kernel
theorem d_Mod_reduced_38 : decode b_Mod_reduced 38 = .ok (.ifCond .eq (7), 3) := by decide +kernel
theorem d_Mod_reduced_41 : decode b_Mod_reduced 41 = .ok (.iconst (1), 1) := by decide +kernel
theorem d_Mod_reduced_42 : decode b_Mod_reduced 42 = .ok (.goto (4), 3) := by decide +kernel
theorem d_Mod_reduced_45 : decode b_Mod_reduced 45 = .ok (.iconst (0), 1) := by decide +kernel
theorem d_Mod_reduced_46 : decode b_Mod_reduced 46 = .ok (.istore 8, 2) := by decide +kernel
theorem d_Mod_reduced_48 : decode b_Mod_reduced 48 = .ok (.iload 5, 2) := by decide +kernel
theorem d_Mod_reduced_50 : decode b_Mod_reduced 50 = .ok (.aload_n 0, 1) := by decide +kernel
theorem d_Mod_reduced_51 : decode b_Mod_reduced 51 = .ok (.iload_n 1, 1) := by decide +kernel
theorem d_Mod_reduced_52 : decode b_Mod_reduced 52 = .ok (.iconst (2), 1) := by decide +kernel
theorem d_Mod_reduced_53 : decode b_Mod_reduced 53 = .ok (.iload_n 2, 1) := by decide +kernel
theorem d_Mod_reduced_54 : decode b_Mod_reduced 54 = .ok (.imul, 1) := by decide +kernel
theorem d_Mod_reduced_55 : decode b_Mod_reduced 55 = .ok (.iload 6, 2) := by decide +kernel
theorem d_Mod_reduced_57 : decode b_Mod_reduced 57 = .ok (.iadd, 1) := by decide +kernel
theorem d_Mod_reduced_58 : decode b_Mod_reduced 58 = .ok (.iconst (2), 1) := by decide +kernel
theorem d_Mod_reduced_59 : decode b_Mod_reduced 59 = .ok (.iload_n 3, 1) := by decide +kernel
theorem d_Mod_reduced_60 : decode b_Mod_reduced 60 = .ok (.imul, 1) := by decide +kernel
theorem d_Mod_reduced_61 : decode b_Mod_reduced 61 = .ok (.iload 7, 2) := by decide +kernel
theorem d_Mod_reduced_63 : decode b_Mod_reduced 63 = .ok (.iadd, 1) := by decide +kernel
theorem d_Mod_reduced_64 : decode b_Mod_reduced 64 = .ok (.invokevirtual 67, 3) := by decide +kernel
theorem d_Mod_reduced_67 : decode b_Mod_reduced 67 = .ok (.iload 8, 2) := by decide +kernel
theorem d_Mod_reduced_69 : decode b_Mod_reduced 69 = .ok (.ifCond .eq (7), 3) := by decide +kernel
theorem d_Mod_reduced_72 : decode b_Mod_reduced 72 = .ok (.iconst (4), 1) := by decide +kernel
theorem d_Mod_reduced_73 : decode b_Mod_reduced 73 = .ok (.goto (4), 3) := by decide +kernel
theorem d_Mod_reduced_76 : decode b_Mod_reduced 76 = .ok (.iconst (1), 1) := by decide +kernel
theorem d_Mod_reduced_77 : decode b_Mod_reduced 77 = .ok (.imul, 1) := by decide +kernel
theorem d_Mod_reduced_78 : decode b_Mod_reduced 78 = .ok (.iadd, 1) := by decide +kernel
theorem d_Mod_reduced_79 : decode b_Mod_reduced 79 = .ok (.istore 5, 2) := by decide +kernel
theorem d_Mod_reduced_81 : decode b_Mod_reduced 81 = .ok (.iinc 7 (1), 3) := by decide +kernel
theorem d_Mod_reduced_84 : decode b_Mod_reduced 84 = .ok (.goto (-69), 3) := by decide +kernel
theorem d_Mod_reduced_87 : decode b_Mod_reduced 87 = .ok (.iinc 6 (1), 3) := by decide +kernel
theorem d_Mod_reduced_90 : decode b_Mod_reduced 90 = .ok (.goto (-84), 3) := by decide +kernel
theorem d_Mod_reduced_93 : decode b_Mod_reduced 93 = .ok (.iload 5, 2) := by decide +kernel
theorem d_Mod_reduced_95 : decode b_Mod_reduced 95 = .ok (.bipush (14), 2) := by decide +kernel
theorem d_Mod_reduced_97 : decode b_Mod_reduced 97 = .ok (.if_icmp .le (7), 3) := by decide +kernel
theorem d_Mod_reduced_100 : decode b_Mod_reduced 100 = .ok (.iconst (1), 1) := by decide +kernel
theorem d_Mod_reduced_101 : decode b_Mod_reduced 101 = .ok (.goto (16), 3) := by decide +kernel
theorem d_Mod_reduced_104 : decode b_Mod_reduced 104 = .ok (.iload 5, 2) := by decide +kernel
theorem d_Mod_reduced_106 : decode b_Mod_reduced 106 = .ok (.bipush (14), 2) := by decide +kernel
theorem d_Mod_reduced_108 : decode b_Mod_reduced 108 = .ok (.if_icmp .ge (7), 3) := by decide +kernel
theorem d_Mod_reduced_111 : decode b_Mod_reduced 111 = .ok (.iconst (0), 1) := by decide +kernel
theorem d_Mod_reduced_112 : decode b_Mod_reduced 112 = .ok (.goto (5), 3) := by decide +kernel
theorem d_Mod_reduced_115 : decode b_Mod_reduced 115 = .ok (.iload 4, 2) := by decide +kernel
theorem d_Mod_reduced_117 : decode b_Mod_reduced 117 = .ok (.ireturn, 1) := by decide +kernel
def q_Mod_reduced_46 (i_k : Int32) (i_x : Int32) (i_y : Int32) (i_left : Int32) (m_layers : Nat → Int32) (m_wide : Nat → Int32) (m_high : Nat → Int32) (rec15 : Int32 → Int32 → Int32 → Option (Int32)) (x5_46 : Int32) (x6_46 : Int32) (x7_46 : Int32) (k0_46 : Int32) : Option (Int32) := ((q_Mod_at i_k (((2 : Int32) * i_x) + x6_46) (((2 : Int32) * i_y) + x7_46) m_layers m_wide m_high).bind fun z1 => (if k0_46 = 0 then (rec15 (x5_46 + (z1 * (1 : Int32))) x6_46 (x7_46 + (1 : Int32))) else (rec15 (x5_46 + (z1 * (4 : Int32))) x6_46 (x7_46 + (1 : Int32)))))
def q_Mod_reduced_45 (i_k : Int32) (i_x : Int32) (i_y : Int32) (i_left : Int32) (m_layers : Nat → Int32) (m_wide : Nat → Int32) (m_high : Nat → Int32) (rec15 : Int32 → Int32 → Int32 → Option (Int32)) (x5_45 : Int32) (x6_45 : Int32) (x7_45 : Int32) : Option (Int32) := (q_Mod_reduced_46 i_k i_x i_y i_left m_layers m_wide m_high rec15 x5_45 x6_45 x7_45 (0 : Int32))
def q_Mod_reduced_15 (i_k : Int32) (i_x : Int32) (i_y : Int32) (i_left : Int32) (m_layers : Nat → Int32) (m_wide : Nat → Int32) (m_high : Nat → Int32) (rec6 : Int32 → Int32 → Option (Int32)) : Nat → Int32 → Int32 → Int32 → Option (Int32)
  | 0, _, _, _ => none
  | n + 1, x5_15, x6_15, x7_15 => (if (3 : Int32) ≤ x7_15 then (rec6 x5_15 (x6_15 + (1 : Int32))) else ((q_Mod_within x6_15 (0 : Int32) (1 : Int32)).bind fun z2 => (if z2 = 0 then (q_Mod_reduced_45 i_k i_x i_y i_left m_layers m_wide m_high (q_Mod_reduced_15 i_k i_x i_y i_left m_layers m_wide m_high rec6 n) x5_15 x6_15 x7_15) else ((q_Mod_within x7_15 (0 : Int32) (1 : Int32)).bind fun z3 => (if z3 = 0 then (q_Mod_reduced_45 i_k i_x i_y i_left m_layers m_wide m_high (q_Mod_reduced_15 i_k i_x i_y i_left m_layers m_wide m_high rec6 n) x5_15 x6_15 x7_15) else (q_Mod_reduced_46 i_k i_x i_y i_left m_layers m_wide m_high (q_Mod_reduced_15 i_k i_x i_y i_left m_layers m_wide m_high rec6 n) x5_15 x6_15 x7_15 (1 : Int32)))))))
def q_Mod_reduced_6 (i_k : Int32) (i_x : Int32) (i_y : Int32) (i_left : Int32) (m_layers : Nat → Int32) (m_wide : Nat → Int32) (m_high : Nat → Int32)  : Nat → Int32 → Int32 → Option (Int32)
  | 0, _, _ => none
  | n + 1, x5_6, x6_6 => (if (3 : Int32) ≤ x6_6 then (if x5_6 ≤ (14 : Int32) then (if (14 : Int32) ≤ x5_6 then some (i_left) else some ((0 : Int32))) else some ((1 : Int32))) else (q_Mod_reduced_15 i_k i_x i_y i_left m_layers m_wide m_high (q_Mod_reduced_6 i_k i_x i_y i_left m_layers m_wide m_high n) 5000 x5_6 x6_6 (-1 : Int32)))
def q_Mod_reduced (i_k : Int32) (i_x : Int32) (i_y : Int32) (i_left : Int32) (m_layers : Nat → Int32) (m_wide : Nat → Int32) (m_high : Nat → Int32) : Option (Int32) := (q_Mod_reduced_6 i_k i_x i_y i_left m_layers m_wide m_high  5000 (0 : Int32) (-1 : Int32))
abbrev rm_Mod_reduced : Room := { frames := 2, cells := 0, slots := 0, locals := 45 }
set_option maxHeartbeats 4000000 in
set_option maxRecDepth 100000 in
theorem c_Mod_reduced (l : Launch) (dC : Nat → ClassId) (dI : Nat → Nat → Nat) (m_0 m_picture_a m_file_a m_layers_a m_wide_a m_high_a m_half_a m_states_a m_favourites_a m_quotas_a m_digits_a m_draft_a m_given_a m_begins_a : Nat) (m_picture_k m_file_k m_layers_k m_wide_k m_high_k m_half_k m_states_k m_favourites_k m_quotas_k m_digits_k m_draft_k m_given_k m_begins_k : ClassId) (i_k : Int32) (i_x : Int32) (i_y : Int32) (i_left : Int32) (m_code : Int32) (m_width : Int32) (m_height : Int32) (m_picture : Nat → Int32) (m_length : Int32) (m_file : Nat → Int32) (m_any : Int32) (m_decisions : Int32) (m_plains : Int32) (m_doubles : Int32) (m_layers : Nat → Int32) (m_wide : Nat → Int32) (m_high : Nat → Int32) (m_half : Nat → Int32) (m_states : Nat → Int32) (m_favourites : Nat → Int32) (m_quotas : Nat → Int32) (m_span : Int32) (m_nowDecisions : Int32) (m_nowPlains : Int32) (m_nowDoubles : Int32) (m_digits : Nat → Int32) (m_digitCount : Int32) (m_draft : Nat → Int32) (m_draftSize : Int32) (m_taking : Int32) (m_given : Nat → Int32) (m_givenSize : Int32) (m_next : Int32) (m_above : Int32) (m_begins : Nat → Int32) (m_layerCount : Int32) (m_newWidth : Int32) (m_newHeight : Int32) (z : Int32)  (hq : q_Mod_reduced i_k i_x i_y i_left m_layers m_wide m_high = some z) (sz : Nat) : MetI l y_Mod_reduced b_Mod_reduced 9 .int TT rm_Mod_reduced (dC, dI) vcl [(m_picture_k, .int), (m_file_k, .int), (m_layers_k, .int), (m_wide_k, .int), (m_high_k, .int), (m_half_k, .int), (m_states_k, .int), (m_favourites_k, .int), (m_quotas_k, .int), (m_digits_k, .int), (m_draft_k, .int), (m_given_k, .int), (m_begins_k, .int)] (W_X m_0 m_picture_a m_file_a m_layers_a m_wide_a m_high_a m_half_a m_states_a m_favourites_a m_quotas_a m_digits_a m_draft_a m_given_a m_begins_a m_picture_k m_file_k m_layers_k m_wide_k m_high_k m_half_k m_states_k m_favourites_k m_quotas_k m_digits_k m_draft_k m_given_k m_begins_k m_code m_width m_height m_picture m_length m_file m_any m_decisions m_plains m_doubles m_layers m_wide m_high m_half m_states m_favourites m_quotas m_span m_nowDecisions m_nowPlains m_nowDoubles m_digits m_digitCount m_draft m_draftSize m_taking m_given m_givenSize m_next m_above m_begins m_layerCount m_newWidth m_newHeight) (W_X m_0 m_picture_a m_file_a m_layers_a m_wide_a m_high_a m_half_a m_states_a m_favourites_a m_quotas_a m_digits_a m_draft_a m_given_a m_begins_a m_picture_k m_file_k m_layers_k m_wide_k m_high_k m_half_k m_states_k m_favourites_k m_quotas_k m_digits_k m_draft_k m_given_k m_begins_k m_code m_width m_height m_picture m_length m_file m_any m_decisions m_plains m_doubles m_layers m_wide m_high m_half m_states m_favourites m_quotas m_span m_nowDecisions m_nowPlains m_nowDoubles m_digits m_digitCount m_draft m_draftSize m_taking m_given m_givenSize m_next m_above m_begins m_layerCount m_newWidth m_newHeight) [.ref m_0, .int i_k, .int i_x, .int i_y, .int i_left] z sz := by
  refine x_ofI (by decide) (Nat.le_of_ble_eq_true rfl) ?_ sz
  intro p e s m args below meth c A Q ls hx hb hml hown hts hA hG hK hP hD hS hl hret
  have hown : s.vm.findClass R_Mod = some m.cls := hown
  have hl : lv_has ls 9 [(0, .ref m_0), (1, .int i_k), (2, .int i_x), (3, .int i_y), (4, .int i_left)] := hl
  obtain ⟨⟨tq, hZ, hTq⟩, hN⟩ := id hG
  obtain ⟨H, hH⟩ : ∃ H, H = s.heap := ⟨_, rfl⟩
  obtain ⟨locs, hlocs⟩ : ∃ locs : List Loc, locs = [] := ⟨_, rfl⟩
  rw [← hH] at hP
  have hS : va_S A s.heap H locs := by rw [hH, hlocs]; exact hS
  suffices hgo : W p l e rm_Mod_reduced s m args below meth c H locs 0 0 Q (F0 m 0 ls []) by rw [hH, hlocs] at hgo; exact hgo
  unfold q_Mod_reduced at hq
  have L6 : ∀ (n6 : Nat) (x5_6 : Int32) (x6_6 : Int32) (H : Heap) (locs : List Loc) (ls : Array Slot), lv_has ls 9 [(0, .ref m_0), (1, .int i_k), (2, .int i_x), (3, .int i_y), (4, .int i_left), (5, .int x5_6), (6, .int x6_6)] → va_P (dC, dI) vcl (W_X m_0 m_picture_a m_file_a m_layers_a m_wide_a m_high_a m_half_a m_states_a m_favourites_a m_quotas_a m_digits_a m_draft_a m_given_a m_begins_a m_picture_k m_file_k m_layers_k m_wide_k m_high_k m_half_k m_states_k m_favourites_k m_quotas_k m_digits_k m_draft_k m_given_k m_begins_k m_code m_width m_height m_picture m_length m_file m_any m_decisions m_plains m_doubles m_layers m_wide m_high m_half m_states m_favourites m_quotas m_span m_nowDecisions m_nowPlains m_nowDoubles m_digits m_digitCount m_draft m_draftSize m_taking m_given m_givenSize m_next m_above m_begins m_layerCount m_newWidth m_newHeight) H → va_D A (W_X m_0 m_picture_a m_file_a m_layers_a m_wide_a m_high_a m_half_a m_states_a m_favourites_a m_quotas_a m_digits_a m_draft_a m_given_a m_begins_a m_picture_k m_file_k m_layers_k m_wide_k m_high_k m_half_k m_states_k m_favourites_k m_quotas_k m_digits_k m_draft_k m_given_k m_begins_k m_code m_width m_height m_picture m_length m_file m_any m_decisions m_plains m_doubles m_layers m_wide m_high m_half m_states m_favourites m_quotas m_span m_nowDecisions m_nowPlains m_nowDoubles m_digits m_digitCount m_draft m_draftSize m_taking m_given m_givenSize m_next m_above m_begins m_layerCount m_newWidth m_newHeight) → va_S A s.heap H locs → q_Mod_reduced_6 i_k i_x i_y i_left m_layers m_wide m_high  n6 x5_6 x6_6 = some z → W p l e rm_Mod_reduced s m args below meth c H locs 0 0 Q (F0 m 6 ls []) := by
    intro n6
    induction n6 with
    | zero =>
      intro x5_6 x6_6 H locs ls hl hP hD hS hq
      rw [q_Mod_reduced_6] at hq
      cases hq
    | succ n6 ih6 =>
      intro x5_6 x6_6 H locs ls hl hP hD hS hq6
      rw [q_Mod_reduced_6] at hq6
      have L15 : ∀ (n15 : Nat) (x5_15 : Int32) (x6_15 : Int32) (x7_15 : Int32) (H : Heap) (locs : List Loc) (ls : Array Slot), lv_has ls 9 [(0, .ref m_0), (1, .int i_k), (2, .int i_x), (3, .int i_y), (4, .int i_left), (5, .int x5_15), (6, .int x6_15), (7, .int x7_15)] → va_P (dC, dI) vcl (W_X m_0 m_picture_a m_file_a m_layers_a m_wide_a m_high_a m_half_a m_states_a m_favourites_a m_quotas_a m_digits_a m_draft_a m_given_a m_begins_a m_picture_k m_file_k m_layers_k m_wide_k m_high_k m_half_k m_states_k m_favourites_k m_quotas_k m_digits_k m_draft_k m_given_k m_begins_k m_code m_width m_height m_picture m_length m_file m_any m_decisions m_plains m_doubles m_layers m_wide m_high m_half m_states m_favourites m_quotas m_span m_nowDecisions m_nowPlains m_nowDoubles m_digits m_digitCount m_draft m_draftSize m_taking m_given m_givenSize m_next m_above m_begins m_layerCount m_newWidth m_newHeight) H → va_D A (W_X m_0 m_picture_a m_file_a m_layers_a m_wide_a m_high_a m_half_a m_states_a m_favourites_a m_quotas_a m_digits_a m_draft_a m_given_a m_begins_a m_picture_k m_file_k m_layers_k m_wide_k m_high_k m_half_k m_states_k m_favourites_k m_quotas_k m_digits_k m_draft_k m_given_k m_begins_k m_code m_width m_height m_picture m_length m_file m_any m_decisions m_plains m_doubles m_layers m_wide m_high m_half m_states m_favourites m_quotas m_span m_nowDecisions m_nowPlains m_nowDoubles m_digits m_digitCount m_draft m_draftSize m_taking m_given m_givenSize m_next m_above m_begins m_layerCount m_newWidth m_newHeight) → va_S A s.heap H locs → q_Mod_reduced_15 i_k i_x i_y i_left m_layers m_wide m_high (q_Mod_reduced_6 i_k i_x i_y i_left m_layers m_wide m_high  n6) n15 x5_15 x6_15 x7_15 = some z → W p l e rm_Mod_reduced s m args below meth c H locs 0 0 Q (F0 m 15 ls []) := by
        intro n15
        induction n15 with
        | zero =>
          intro x5_15 x6_15 x7_15 H locs ls hl hP hD hS hq
          rw [q_Mod_reduced_15] at hq
          cases hq
        | succ n15 ih15 =>
          intro x5_15 x6_15 x7_15 H locs ls hl hP hD hS hq15
          rw [q_Mod_reduced_15] at hq15
          have L46 : ∀ (x5_46 : Int32) (x6_46 : Int32) (x7_46 : Int32) (k0_46 : Int32) (H : Heap) (locs : List Loc) (ls : Array Slot), lv_has ls 9 [(0, .ref m_0), (1, .int i_k), (2, .int i_x), (3, .int i_y), (4, .int i_left), (5, .int x5_46), (6, .int x6_46), (7, .int x7_46)] → va_P (dC, dI) vcl (W_X m_0 m_picture_a m_file_a m_layers_a m_wide_a m_high_a m_half_a m_states_a m_favourites_a m_quotas_a m_digits_a m_draft_a m_given_a m_begins_a m_picture_k m_file_k m_layers_k m_wide_k m_high_k m_half_k m_states_k m_favourites_k m_quotas_k m_digits_k m_draft_k m_given_k m_begins_k m_code m_width m_height m_picture m_length m_file m_any m_decisions m_plains m_doubles m_layers m_wide m_high m_half m_states m_favourites m_quotas m_span m_nowDecisions m_nowPlains m_nowDoubles m_digits m_digitCount m_draft m_draftSize m_taking m_given m_givenSize m_next m_above m_begins m_layerCount m_newWidth m_newHeight) H → va_D A (W_X m_0 m_picture_a m_file_a m_layers_a m_wide_a m_high_a m_half_a m_states_a m_favourites_a m_quotas_a m_digits_a m_draft_a m_given_a m_begins_a m_picture_k m_file_k m_layers_k m_wide_k m_high_k m_half_k m_states_k m_favourites_k m_quotas_k m_digits_k m_draft_k m_given_k m_begins_k m_code m_width m_height m_picture m_length m_file m_any m_decisions m_plains m_doubles m_layers m_wide m_high m_half m_states m_favourites m_quotas m_span m_nowDecisions m_nowPlains m_nowDoubles m_digits m_digitCount m_draft m_draftSize m_taking m_given m_givenSize m_next m_above m_begins m_layerCount m_newWidth m_newHeight) → va_S A s.heap H locs → q_Mod_reduced_46 i_k i_x i_y i_left m_layers m_wide m_high (q_Mod_reduced_15 i_k i_x i_y i_left m_layers m_wide m_high (q_Mod_reduced_6 i_k i_x i_y i_left m_layers m_wide m_high  n6) n15) x5_46 x6_46 x7_46 k0_46 = some z → W p l e rm_Mod_reduced s m args below meth c H locs 0 0 Q (F0 m 46 ls [.int k0_46]) := by
            intro x5_46 x6_46 x7_46 k0_46 H locs ls hl hP hD hS hq46
            unfold q_Mod_reduced_46 at hq46
            have h := hq46
            refine lv_istore (lv' := [(8, .int k0_46), (0, .ref m_0), (1, .int i_k), (2, .int i_x), (3, .int i_y), (4, .int i_left), (5, .int x5_46), (6, .int x6_46), (7, .int x7_46)]) hx hb d_Mod_reduced_46 hl (by decide) rfl (fun ls hl => ?_)
            refine lv_iload hx hb d_Mod_reduced_48 (lv_at hl 6 rfl) ?_
            refine lv_aload_n hx hb d_Mod_reduced_50 rfl (lv_at hl 1 rfl) ?_
            refine lv_iload_n hx hb d_Mod_reduced_51 rfl (lv_at hl 2 rfl) ?_
            refine lv_iconst (v := (2 : Int32)) hx hb d_Mod_reduced_52 (by decide) ?_
            refine lv_iload_n hx hb d_Mod_reduced_53 rfl (lv_at hl 3 rfl) ?_
            refine lv_imul hx hb d_Mod_reduced_54 ?_
            refine lv_iload hx hb d_Mod_reduced_55 (lv_at hl 7 rfl) ?_
            refine lv_iadd hx hb d_Mod_reduced_57 ?_
            refine lv_iconst (v := (2 : Int32)) hx hb d_Mod_reduced_58 (by decide) ?_
            refine lv_iload_n hx hb d_Mod_reduced_59 rfl (lv_at hl 4 rfl) ?_
            refine lv_imul hx hb d_Mod_reduced_60 ?_
            refine lv_iload hx hb d_Mod_reduced_61 (lv_at hl 8 rfl) ?_
            refine lv_iadd hx hb d_Mod_reduced_63 ?_
            obtain ⟨z1, hz1, h⟩ := ob h
            refine x_goI (res := z1) (w1 := (W_X m_0 m_picture_a m_file_a m_layers_a m_wide_a m_high_a m_half_a m_states_a m_favourites_a m_quotas_a m_digits_a m_draft_a m_given_a m_begins_a m_picture_k m_file_k m_layers_k m_wide_k m_high_k m_half_k m_states_k m_favourites_k m_quotas_k m_digits_k m_draft_k m_given_k m_begins_k m_code m_width m_height m_picture m_length m_file m_any m_decisions m_plains m_doubles m_layers m_wide m_high m_half m_states m_favourites m_quotas m_span m_nowDecisions m_nowPlains m_nowDoubles m_digits m_digitCount m_draft m_draftSize m_taking m_given m_givenSize m_next m_above m_begins m_layerCount m_newWidth m_newHeight)) (ws' := (W_X m_0 m_picture_a m_file_a m_layers_a m_wide_a m_high_a m_half_a m_states_a m_favourites_a m_quotas_a m_digits_a m_draft_a m_given_a m_begins_a m_picture_k m_file_k m_layers_k m_wide_k m_high_k m_half_k m_states_k m_favourites_k m_quotas_k m_digits_k m_draft_k m_given_k m_begins_k m_code m_width m_height m_picture m_length m_file m_any m_decisions m_plains m_doubles m_layers m_wide m_high m_half m_states m_favourites m_quotas m_span m_nowDecisions m_nowPlains m_nowDoubles m_digits m_digitCount m_draft m_draftSize m_taking m_given m_givenSize m_next m_above m_begins m_layerCount m_newWidth m_newHeight)) (wr := List.filterMap (fun (i : Nat) => (W_X m_0 m_picture_a m_file_a m_layers_a m_wide_a m_high_a m_half_a m_states_a m_favourites_a m_quotas_a m_digits_a m_draft_a m_given_a m_begins_a m_picture_k m_file_k m_layers_k m_wide_k m_high_k m_half_k m_states_k m_favourites_k m_quotas_k m_digits_k m_draft_k m_given_k m_begins_k m_code m_width m_height m_picture m_length m_file m_any m_decisions m_plains m_doubles m_layers m_wide m_high m_half m_states m_favourites m_quotas m_span m_nowDecisions m_nowPlains m_nowDoubles m_digits m_digitCount m_draft m_draftSize m_taking m_given m_givenSize m_next m_above m_begins m_layerCount m_newWidth m_newHeight)[i]?) ([] : List Nat)) (va_runV (As := [.int i_k, .int (((2 : Int32) * i_x) + x6_46), .int (((2 : Int32) * i_y) + x7_46)]) (rest := [.int x5_46]) ⟨hx, hb, hml, hown, hts⟩ (c_Mod_at l dC dI m_0 m_picture_a m_file_a m_layers_a m_wide_a m_high_a m_half_a m_states_a m_favourites_a m_quotas_a m_digits_a m_draft_a m_given_a m_begins_a m_picture_k m_file_k m_layers_k m_wide_k m_high_k m_half_k m_states_k m_favourites_k m_quotas_k m_digits_k m_draft_k m_given_k m_begins_k i_k (((2 : Int32) * i_x) + x6_46) (((2 : Int32) * i_y) + x7_46) m_code m_width m_height m_picture m_length m_file m_any m_decisions m_plains m_doubles m_layers m_wide m_high m_half m_states m_favourites m_quotas m_span m_nowDecisions m_nowPlains m_nowDoubles m_digits m_digitCount m_draft m_draftSize m_taking m_given m_givenSize m_next m_above m_begins m_layerCount m_newWidth m_newHeight z1  hz1 H.size) ⟨callB_of 3 hts (gT tt798 TT_good) rfl rfl rfl (hts _ tt53) (hts _ tt795) (by decide +kernel) ⟨Nat.le_of_ble_eq_true rfl, Nat.le_of_ble_eq_true rfl⟩, hts _ tt797, hts _ tt23⟩ (x_preV (q := (R_Mod, F_Mod, 34)) (As := [.int i_k, .int (((2 : Int32) * i_x) + x6_46), .int (((2 : Int32) * i_y) + x7_46)]) (x_pre (wc := (W_X m_0 m_picture_a m_file_a m_layers_a m_wide_a m_high_a m_half_a m_states_a m_favourites_a m_quotas_a m_digits_a m_draft_a m_given_a m_begins_a m_picture_k m_file_k m_layers_k m_wide_k m_high_k m_half_k m_states_k m_favourites_k m_quotas_k m_digits_k m_draft_k m_given_k m_begins_k m_code m_width m_height m_picture m_length m_file m_any m_decisions m_plains m_doubles m_layers m_wide m_high m_half m_states m_favourites m_quotas m_span m_nowDecisions m_nowPlains m_nowDoubles m_digits m_digitCount m_draft m_draftSize m_taking m_given m_givenSize m_next m_above m_begins m_layerCount m_newWidth m_newHeight)) (av := (.ref m_0 :: [.int i_k, .int (((2 : Int32) * i_x) + x6_46), .int (((2 : Int32) * i_y) + x7_46)])) hK hP hD hS hA hG [0, 1, 2, 3, 4, 5, 6, 7, 8, 9, 10, 11, 12] [0, 1, 2, 3, 4, 5, 6, 7, 8, 9, 10, 11, 12, 13] rfl rfl (by decide)) hK hP (q0 := 0) rfl rfl) rfl rfl hl.1 rfl (lv_room (Nat.le_of_ble_eq_true rfl)) d_Mod_reduced_64 ⟨Nat.zero_le _, Nat.zero_le _⟩) hP hD hS hA [0, 1, 2, 3, 4, 5, 6, 7, 8, 9, 10, 11, 12, 13] [] [0, 1, 2, 3, 4, 5, 6, 7, 8, 9, 10, 11, 12, 13] rfl rfl (by decide) (by decide) (by decide) rfl (fun H locs hP hD hS => ?_)
            refine lv_iload hx hb d_Mod_reduced_67 (lv_at hl 0 rfl) ?_
            refine lv_if_eq (tgt := 76) hx hb d_Mod_reduced_69 rfl (fun hc => ?_) (fun hc => ?_)
            · replace h := ot hc h
              refine lv_iconst (v := (1 : Int32)) hx hb d_Mod_reduced_76 (by decide) ?_
              refine lv_imul hx hb d_Mod_reduced_77 ?_
              refine lv_iadd hx hb d_Mod_reduced_78 ?_
              refine lv_istore (lv' := [(5, .int (x5_46 + (z1 * (1 : Int32)))), (8, .int k0_46), (0, .ref m_0), (1, .int i_k), (2, .int i_x), (3, .int i_y), (4, .int i_left), (6, .int x6_46), (7, .int x7_46)]) hx hb d_Mod_reduced_79 hl (by decide) rfl (fun ls hl => ?_)
              refine lv_iinc (k := 8) (v := x7_46 + (1 : Int32)) (lv' := [(7, .int (x7_46 + (1 : Int32))), (5, .int (x5_46 + (z1 * (1 : Int32)))), (8, .int k0_46), (0, .ref m_0), (1, .int i_k), (2, .int i_x), (3, .int i_y), (4, .int i_left), (6, .int x6_46)]) hx hb d_Mod_reduced_81 hl rfl rfl (by decide) rfl (fun ls hl => ?_)
              refine lv_goto (tgt := 15) hx hb d_Mod_reduced_84 rfl ?_
              exact ih15 (x5_46 + (z1 * (1 : Int32))) x6_46 (x7_46 + (1 : Int32)) H locs ls (lv_sub hl [3, 4, 5, 6, 7, 1, 8, 0] rfl) hP hD hS h
            · replace h := of hc h
              refine lv_iconst (v := (4 : Int32)) hx hb d_Mod_reduced_72 (by decide) ?_
              refine lv_goto (tgt := 77) hx hb d_Mod_reduced_73 rfl ?_
              refine lv_imul hx hb d_Mod_reduced_77 ?_
              refine lv_iadd hx hb d_Mod_reduced_78 ?_
              refine lv_istore (lv' := [(5, .int (x5_46 + (z1 * (4 : Int32)))), (8, .int k0_46), (0, .ref m_0), (1, .int i_k), (2, .int i_x), (3, .int i_y), (4, .int i_left), (6, .int x6_46), (7, .int x7_46)]) hx hb d_Mod_reduced_79 hl (by decide) rfl (fun ls hl => ?_)
              refine lv_iinc (k := 8) (v := x7_46 + (1 : Int32)) (lv' := [(7, .int (x7_46 + (1 : Int32))), (5, .int (x5_46 + (z1 * (4 : Int32)))), (8, .int k0_46), (0, .ref m_0), (1, .int i_k), (2, .int i_x), (3, .int i_y), (4, .int i_left), (6, .int x6_46)]) hx hb d_Mod_reduced_81 hl rfl rfl (by decide) rfl (fun ls hl => ?_)
              refine lv_goto (tgt := 15) hx hb d_Mod_reduced_84 rfl ?_
              exact ih15 (x5_46 + (z1 * (4 : Int32))) x6_46 (x7_46 + (1 : Int32)) H locs ls (lv_sub hl [3, 4, 5, 6, 7, 1, 8, 0] rfl) hP hD hS h
          have L45 : ∀ (x5_45 : Int32) (x6_45 : Int32) (x7_45 : Int32) (H : Heap) (locs : List Loc) (ls : Array Slot), lv_has ls 9 [(0, .ref m_0), (1, .int i_k), (2, .int i_x), (3, .int i_y), (4, .int i_left), (5, .int x5_45), (6, .int x6_45), (7, .int x7_45)] → va_P (dC, dI) vcl (W_X m_0 m_picture_a m_file_a m_layers_a m_wide_a m_high_a m_half_a m_states_a m_favourites_a m_quotas_a m_digits_a m_draft_a m_given_a m_begins_a m_picture_k m_file_k m_layers_k m_wide_k m_high_k m_half_k m_states_k m_favourites_k m_quotas_k m_digits_k m_draft_k m_given_k m_begins_k m_code m_width m_height m_picture m_length m_file m_any m_decisions m_plains m_doubles m_layers m_wide m_high m_half m_states m_favourites m_quotas m_span m_nowDecisions m_nowPlains m_nowDoubles m_digits m_digitCount m_draft m_draftSize m_taking m_given m_givenSize m_next m_above m_begins m_layerCount m_newWidth m_newHeight) H → va_D A (W_X m_0 m_picture_a m_file_a m_layers_a m_wide_a m_high_a m_half_a m_states_a m_favourites_a m_quotas_a m_digits_a m_draft_a m_given_a m_begins_a m_picture_k m_file_k m_layers_k m_wide_k m_high_k m_half_k m_states_k m_favourites_k m_quotas_k m_digits_k m_draft_k m_given_k m_begins_k m_code m_width m_height m_picture m_length m_file m_any m_decisions m_plains m_doubles m_layers m_wide m_high m_half m_states m_favourites m_quotas m_span m_nowDecisions m_nowPlains m_nowDoubles m_digits m_digitCount m_draft m_draftSize m_taking m_given m_givenSize m_next m_above m_begins m_layerCount m_newWidth m_newHeight) → va_S A s.heap H locs → q_Mod_reduced_45 i_k i_x i_y i_left m_layers m_wide m_high (q_Mod_reduced_15 i_k i_x i_y i_left m_layers m_wide m_high (q_Mod_reduced_6 i_k i_x i_y i_left m_layers m_wide m_high  n6) n15) x5_45 x6_45 x7_45 = some z → W p l e rm_Mod_reduced s m args below meth c H locs 0 0 Q (F0 m 45 ls []) := by
            intro x5_45 x6_45 x7_45 H locs ls hl hP hD hS hq45
            unfold q_Mod_reduced_45 at hq45
            have h := hq45
            refine lv_iconst (v := (0 : Int32)) hx hb d_Mod_reduced_45 (by decide) ?_
            exact L46 x5_45 x6_45 x7_45 (0 : Int32) H locs ls (lv_sub hl [0, 1, 2, 3, 4, 5, 6, 7] rfl) hP hD hS h
          have h := hq15
          refine lv_iload hx hb d_Mod_reduced_15 (lv_at hl 7 rfl) ?_
          refine lv_iconst (v := (3 : Int32)) hx hb d_Mod_reduced_17 (by decide) ?_
          refine lv_icmp_ge (tgt := 87) hx hb d_Mod_reduced_18 rfl (fun hc => ?_) (fun hc => ?_)
          · replace h := ot hc h
            refine lv_iinc (k := 6) (v := x6_15 + (1 : Int32)) (lv' := [(6, .int (x6_15 + (1 : Int32))), (0, .ref m_0), (1, .int i_k), (2, .int i_x), (3, .int i_y), (4, .int i_left), (5, .int x5_15), (7, .int x7_15)]) hx hb d_Mod_reduced_87 hl rfl rfl (by decide) rfl (fun ls hl => ?_)
            refine lv_goto (tgt := 6) hx hb d_Mod_reduced_90 rfl ?_
            exact ih6 x5_15 (x6_15 + (1 : Int32)) H locs ls (lv_sub hl [1, 2, 3, 4, 5, 6, 0] rfl) hP hD hS h
          · replace h := of hc h
            refine lv_iload hx hb d_Mod_reduced_21 (lv_at hl 6 rfl) ?_
            refine lv_iconst (v := (0 : Int32)) hx hb d_Mod_reduced_23 (by decide) ?_
            refine lv_iconst (v := (1 : Int32)) hx hb d_Mod_reduced_24 (by decide) ?_
            obtain ⟨z2, hz2, h⟩ := ob h
            refine x_goI (res := z2) (w1 := (W_0  )) (ws' := (W_X m_0 m_picture_a m_file_a m_layers_a m_wide_a m_high_a m_half_a m_states_a m_favourites_a m_quotas_a m_digits_a m_draft_a m_given_a m_begins_a m_picture_k m_file_k m_layers_k m_wide_k m_high_k m_half_k m_states_k m_favourites_k m_quotas_k m_digits_k m_draft_k m_given_k m_begins_k m_code m_width m_height m_picture m_length m_file m_any m_decisions m_plains m_doubles m_layers m_wide m_high m_half m_states m_favourites m_quotas m_span m_nowDecisions m_nowPlains m_nowDoubles m_digits m_digitCount m_draft m_draftSize m_taking m_given m_givenSize m_next m_above m_begins m_layerCount m_newWidth m_newHeight)) (wr := List.filterMap (fun (i : Nat) => (W_X m_0 m_picture_a m_file_a m_layers_a m_wide_a m_high_a m_half_a m_states_a m_favourites_a m_quotas_a m_digits_a m_draft_a m_given_a m_begins_a m_picture_k m_file_k m_layers_k m_wide_k m_high_k m_half_k m_states_k m_favourites_k m_quotas_k m_digits_k m_draft_k m_given_k m_begins_k m_code m_width m_height m_picture m_length m_file m_any m_decisions m_plains m_doubles m_layers m_wide m_high m_half m_states m_favourites m_quotas m_span m_nowDecisions m_nowPlains m_nowDoubles m_digits m_digitCount m_draft m_draftSize m_taking m_given m_givenSize m_next m_above m_begins m_layerCount m_newWidth m_newHeight)[i]?) ([0, 1, 2, 3, 4, 5, 6, 7, 8, 9, 10, 11, 12, 13] : List Nat)) (va_runS (As := [.int x6_15, .int (0 : Int32), .int (1 : Int32)]) (rest := []) ⟨hx, hb, hml, hown, hts⟩ (c_Mod_within l dC dI  x6_15 (0 : Int32) (1 : Int32)  z2  hz2 H.size) ⟨callB_of 3 hts (gT tt750 TT_good) rfl rfl rfl (hts _ tt53) (hts _ tt748) (by decide +kernel) ⟨Nat.le_of_ble_eq_true rfl, Nat.le_of_ble_eq_true rfl⟩, hts _ tt749⟩ (x_pre (wc := (W_0  )) (av := [.int x6_15, .int (0 : Int32), .int (1 : Int32)]) hK hP hD hS hA hG [] [] rfl rfl (by decide)) rfl rfl hl.1 rfl (lv_room (Nat.le_of_ble_eq_true rfl)) d_Mod_reduced_25 ⟨Nat.zero_le _, Nat.zero_le _⟩) hP hD hS hA [] [0, 1, 2, 3, 4, 5, 6, 7, 8, 9, 10, 11, 12, 13] [0, 1, 2, 3, 4, 5, 6, 7, 8, 9, 10, 11, 12, 13] rfl rfl (by decide) (by decide) (by decide) rfl (fun H locs hP hD hS => ?_)
            refine lv_if_eq (tgt := 45) hx hb d_Mod_reduced_28 rfl (fun hc => ?_) (fun hc => ?_)
            · replace h := ot hc h
              exact L45 x5_15 x6_15 x7_15 H locs ls (lv_sub hl [0, 1, 2, 3, 4, 5, 6, 7] rfl) hP hD hS h
            · replace h := of hc h
              refine lv_iload hx hb d_Mod_reduced_31 (lv_at hl 7 rfl) ?_
              refine lv_iconst (v := (0 : Int32)) hx hb d_Mod_reduced_33 (by decide) ?_
              refine lv_iconst (v := (1 : Int32)) hx hb d_Mod_reduced_34 (by decide) ?_
              obtain ⟨z3, hz3, h⟩ := ob h
              refine x_goI (res := z3) (w1 := (W_0  )) (ws' := (W_X m_0 m_picture_a m_file_a m_layers_a m_wide_a m_high_a m_half_a m_states_a m_favourites_a m_quotas_a m_digits_a m_draft_a m_given_a m_begins_a m_picture_k m_file_k m_layers_k m_wide_k m_high_k m_half_k m_states_k m_favourites_k m_quotas_k m_digits_k m_draft_k m_given_k m_begins_k m_code m_width m_height m_picture m_length m_file m_any m_decisions m_plains m_doubles m_layers m_wide m_high m_half m_states m_favourites m_quotas m_span m_nowDecisions m_nowPlains m_nowDoubles m_digits m_digitCount m_draft m_draftSize m_taking m_given m_givenSize m_next m_above m_begins m_layerCount m_newWidth m_newHeight)) (wr := List.filterMap (fun (i : Nat) => (W_X m_0 m_picture_a m_file_a m_layers_a m_wide_a m_high_a m_half_a m_states_a m_favourites_a m_quotas_a m_digits_a m_draft_a m_given_a m_begins_a m_picture_k m_file_k m_layers_k m_wide_k m_high_k m_half_k m_states_k m_favourites_k m_quotas_k m_digits_k m_draft_k m_given_k m_begins_k m_code m_width m_height m_picture m_length m_file m_any m_decisions m_plains m_doubles m_layers m_wide m_high m_half m_states m_favourites m_quotas m_span m_nowDecisions m_nowPlains m_nowDoubles m_digits m_digitCount m_draft m_draftSize m_taking m_given m_givenSize m_next m_above m_begins m_layerCount m_newWidth m_newHeight)[i]?) ([0, 1, 2, 3, 4, 5, 6, 7, 8, 9, 10, 11, 12, 13] : List Nat)) (va_runS (As := [.int x7_15, .int (0 : Int32), .int (1 : Int32)]) (rest := []) ⟨hx, hb, hml, hown, hts⟩ (c_Mod_within l dC dI  x7_15 (0 : Int32) (1 : Int32)  z3  hz3 H.size) ⟨callB_of 3 hts (gT tt750 TT_good) rfl rfl rfl (hts _ tt53) (hts _ tt748) (by decide +kernel) ⟨Nat.le_of_ble_eq_true rfl, Nat.le_of_ble_eq_true rfl⟩, hts _ tt749⟩ (x_pre (wc := (W_0  )) (av := [.int x7_15, .int (0 : Int32), .int (1 : Int32)]) hK hP hD hS hA hG [] [] rfl rfl (by decide)) rfl rfl hl.1 rfl (lv_room (Nat.le_of_ble_eq_true rfl)) d_Mod_reduced_35 ⟨Nat.zero_le _, Nat.zero_le _⟩) hP hD hS hA [] [0, 1, 2, 3, 4, 5, 6, 7, 8, 9, 10, 11, 12, 13] [0, 1, 2, 3, 4, 5, 6, 7, 8, 9, 10, 11, 12, 13] rfl rfl (by decide) (by decide) (by decide) rfl (fun H locs hP hD hS => ?_)
              refine lv_if_eq (tgt := 45) hx hb d_Mod_reduced_38 rfl (fun hc => ?_) (fun hc => ?_)
              · replace h := ot hc h
                exact L45 x5_15 x6_15 x7_15 H locs ls (lv_sub hl [0, 1, 2, 3, 4, 5, 6, 7] rfl) hP hD hS h
              · replace h := of hc h
                refine lv_iconst (v := (1 : Int32)) hx hb d_Mod_reduced_41 (by decide) ?_
                refine lv_goto (tgt := 46) hx hb d_Mod_reduced_42 rfl ?_
                exact L46 x5_15 x6_15 x7_15 (1 : Int32) H locs ls (lv_sub hl [0, 1, 2, 3, 4, 5, 6, 7] rfl) hP hD hS h
      have h := hq6
      refine lv_iload hx hb d_Mod_reduced_6 (lv_at hl 6 rfl) ?_
      refine lv_iconst (v := (3 : Int32)) hx hb d_Mod_reduced_8 (by decide) ?_
      refine lv_icmp_ge (tgt := 93) hx hb d_Mod_reduced_9 rfl (fun hc => ?_) (fun hc => ?_)
      · replace h := ot hc h
        refine lv_iload hx hb d_Mod_reduced_93 (lv_at hl 5 rfl) ?_
        refine lv_bipush (v := (14 : Int32)) hx hb d_Mod_reduced_95 (by decide) ?_
        refine lv_icmp_le (tgt := 104) hx hb d_Mod_reduced_97 rfl (fun hc => ?_) (fun hc => ?_)
        · replace h := ot hc h
          refine lv_iload hx hb d_Mod_reduced_104 (lv_at hl 5 rfl) ?_
          refine lv_bipush (v := (14 : Int32)) hx hb d_Mod_reduced_106 (by decide) ?_
          refine lv_icmp_ge (tgt := 115) hx hb d_Mod_reduced_108 rfl (fun hc => ?_) (fun hc => ?_)
          · replace h := ot hc h
            refine lv_iload hx hb d_Mod_reduced_115 (lv_at hl 4 rfl) ?_
            obtain rfl := Option.some.inj h
            exact hret H locs 117 ls d_Mod_reduced_117 (vp_nar_int _) hP hD hS
          · replace h := of hc h
            refine lv_iconst (v := (0 : Int32)) hx hb d_Mod_reduced_111 (by decide) ?_
            refine lv_goto (tgt := 117) hx hb d_Mod_reduced_112 rfl ?_
            obtain rfl := Option.some.inj h
            exact hret H locs 117 ls d_Mod_reduced_117 (vp_nar_int _) hP hD hS
        · replace h := of hc h
          refine lv_iconst (v := (1 : Int32)) hx hb d_Mod_reduced_100 (by decide) ?_
          refine lv_goto (tgt := 117) hx hb d_Mod_reduced_101 rfl ?_
          obtain rfl := Option.some.inj h
          exact hret H locs 117 ls d_Mod_reduced_117 (vp_nar_int _) hP hD hS
      · replace h := of hc h
        refine lv_iconst (v := (-1 : Int32)) hx hb d_Mod_reduced_12 (by decide) ?_
        refine lv_istore (lv' := [(7, .int (-1 : Int32)), (0, .ref m_0), (1, .int i_k), (2, .int i_x), (3, .int i_y), (4, .int i_left), (5, .int x5_6), (6, .int x6_6)]) hx hb d_Mod_reduced_13 hl (by decide) rfl (fun ls hl => ?_)
        exact L15 5000 x5_6 x6_6 (-1 : Int32) H locs ls (lv_sub hl [1, 2, 3, 4, 5, 6, 7, 0] rfl) hP hD hS h
  have h := hq
  refine lv_iconst (v := (0 : Int32)) hx hb d_Mod_reduced_0 (by decide) ?_
  refine lv_istore (lv' := [(5, .int (0 : Int32)), (0, .ref m_0), (1, .int i_k), (2, .int i_x), (3, .int i_y), (4, .int i_left)]) hx hb d_Mod_reduced_1 hl (by decide) rfl (fun ls hl => ?_)
  refine lv_iconst (v := (-1 : Int32)) hx hb d_Mod_reduced_3 (by decide) ?_
  refine lv_istore (lv' := [(6, .int (-1 : Int32)), (5, .int (0 : Int32)), (0, .ref m_0), (1, .int i_k), (2, .int i_x), (3, .int i_y), (4, .int i_left)]) hx hb d_Mod_reduced_4 hl (by decide) rfl (fun ls hl => ?_)
  exact L6 5000 (0 : Int32) (-1 : Int32) H locs ls (lv_sub hl [2, 3, 4, 5, 6, 1, 0] rfl) hP hD hS h
theorem d_Mod_reduce_0 : decode b_Mod_reduce 0 = .ok (.iconst (0), 1) := by decide +kernel
theorem d_Mod_reduce_1 : decode b_Mod_reduce 1 = .ok (.istore_n 2, 1) := by decide +kernel
theorem d_Mod_reduce_2 : decode b_Mod_reduce 2 = .ok (.iload_n 2, 1) := by decide +kernel
theorem d_Mod_reduce_3 : decode b_Mod_reduce 3 = .ok (.aload_n 0, 1) := by decide +kernel
theorem d_Mod_reduce_4 : decode b_Mod_reduce 4 = .ok (.getfield 29, 3) := by decide +kernel
theorem d_Mod_reduce_7 : decode b_Mod_reduce 7 = .ok (.iload_n 1, 1) := by decide +kernel
theorem d_Mod_reduce_8 : decode b_Mod_reduce 8 = .ok (.iaload, 1) := by decide +kernel
theorem d_Mod_reduce_9 : decode b_Mod_reduce 9 = .ok (.iconst (1), 1) := by decide +kernel
theorem d_Mod_reduce_10 : decode b_Mod_reduce 10 = .ok (.iadd, 1) := by decide +kernel
theorem d_Mod_reduce_11 : decode b_Mod_reduce 11 = .ok (.iconst (2), 1) := by decide +kernel
theorem d_Mod_reduce_12 : decode b_Mod_reduce 12 = .ok (.idiv, 1) := by decide +kernel
theorem d_Mod_reduce_13 : decode b_Mod_reduce 13 = .ok (.if_icmp .ge (58), 3) := by decide +kernel
theorem d_Mod_reduce_16 : decode b_Mod_reduce 16 = .ok (.iconst (0), 1) := by decide +kernel
theorem d_Mod_reduce_17 : decode b_Mod_reduce 17 = .ok (.istore_n 3, 1) := by decide +kernel
theorem d_Mod_reduce_18 : decode b_Mod_reduce 18 = .ok (.iconst (0), 1) := by decide +kernel
theorem d_Mod_reduce_19 : decode b_Mod_reduce 19 = .ok (.istore 4, 2) := by decide +kernel
theorem d_Mod_reduce_21 : decode b_Mod_reduce 21 = .ok (.iload 4, 2) := by decide +kernel
theorem d_Mod_reduce_23 : decode b_Mod_reduce 23 = .ok (.aload_n 0, 1) := by decide +kernel
theorem d_Mod_reduce_24 : decode b_Mod_reduce 24 = .ok (.getfield 26, 3) := by decide +kernel
theorem d_Mod_reduce_27 : decode b_Mod_reduce 27 = .ok (.iload_n 1, 1) := by decide +kernel
theorem d_Mod_reduce_28 : decode b_Mod_reduce 28 = .ok (.iaload, 1) := by decide +kernel
theorem d_Mod_reduce_29 : decode b_Mod_reduce 29 = .ok (.iconst (1), 1) := by decide +kernel
theorem d_Mod_reduce_30 : decode b_Mod_reduce 30 = .ok (.iadd, 1) := by decide +kernel
theorem d_Mod_reduce_31 : decode b_Mod_reduce 31 = .ok (.iconst (2), 1) := by decide +kernel
theorem d_Mod_reduce_32 : decode b_Mod_reduce 32 = .ok (.idiv, 1) := by decide +kernel
theorem d_Mod_reduce_33 : decode b_Mod_reduce 33 = .ok (.if_icmp .ge (32), 3) := by decide +kernel
theorem d_Mod_reduce_36 : decode b_Mod_reduce 36 = .ok (.aload_n 0, 1) := by decide +kernel
theorem d_Mod_reduce_37 : decode b_Mod_reduce 37 = .ok (.iload_n 1, 1) := by decide +kernel
theorem d_Mod_reduce_38 : decode b_Mod_reduce 38 = .ok (.iload 4, 2) := by decide +kernel
theorem d_Mod_reduce_40 : decode b_Mod_reduce 40 = .ok (.iload_n 2, 1) := by decide +kernel
theorem d_Mod_reduce_41 : decode b_Mod_reduce 41 = .ok (.iload_n 3, 1) := by decide +kernel
theorem d_Mod_reduce_42 : decode b_Mod_reduce 42 = .ok (.invokevirtual 71, 3) := by decide +kernel
theorem d_Mod_reduce_45 : decode b_Mod_reduce 45 = .ok (.istore_n 3, 1) := by decide +kernel
theorem d_Mod_reduce_46 : decode b_Mod_reduce 46 = .ok (.aload_n 0, 1) := by decide +kernel
theorem d_Mod_reduce_47 : decode b_Mod_reduce 47 = .ok (.getfield 32, 3) := by decide +kernel
theorem d_Mod_reduce_50 : decode b_Mod_reduce 50 = .ok (.bipush (16), 2) := by decide +kernel
theorem d_Mod_reduce_52 : decode b_Mod_reduce 52 = .ok (.iload_n 2, 1) := by decide +kernel
theorem d_Mod_reduce_53 : decode b_Mod_reduce 53 = .ok (.imul, 1) := by decide +kernel
theorem d_Mod_reduce_54 : decode b_Mod_reduce 54 = .ok (.iload 4, 2) := by decide +kernel
theorem d_Mod_reduce_56 : decode b_Mod_reduce 56 = .ok (.iadd, 1) := by decide +kernel
theorem d_Mod_reduce_57 : decode b_Mod_reduce 57 = .ok (.iload_n 3, 1) := by decide +kernel
theorem d_Mod_reduce_58 : decode b_Mod_reduce 58 = .ok (.iastore, 1) := by decide +kernel
theorem d_Mod_reduce_59 : decode b_Mod_reduce 59 = .ok (.iinc 4 (1), 3) := by decide +kernel
theorem d_Mod_reduce_62 : decode b_Mod_reduce 62 = .ok (.goto (-41), 3) := by decide +kernel
theorem d_Mod_reduce_65 : decode b_Mod_reduce 65 = .ok (.iinc 2 (1), 3) := by decide +kernel
theorem d_Mod_reduce_68 : decode b_Mod_reduce 68 = .ok (.goto (-66), 3) := by decide +kernel
theorem d_Mod_reduce_71 : decode b_Mod_reduce 71 = .ok (.return_, 1) := by decide +kernel
def q_Mod_reduce_21 (i_k : Int32) (m_layers : Nat → Int32) (m_wide : Nat → Int32) (m_high : Nat → Int32) (rec2 : Int32 → (Nat → Int32) → Option ((Nat → Int32))) : Nat → Int32 → Int32 → Int32 → (Nat → Int32) → Option ((Nat → Int32))
  | 0, _, _, _, _ => none
  | n + 1, x2_21, x3_21, x4_21, m_half_21 => (if vpb i_k 3 = true then (if (((m_wide i_k.toNatClampNeg) + (1 : Int32)) / (2 : Int32)) ≤ x4_21 then (rec2 (x2_21 + (1 : Int32)) m_half_21) else ((q_Mod_reduced i_k x4_21 x2_21 x3_21 m_layers m_wide m_high).bind fun z1 => (if vpb (((16 : Int32) * x2_21) + x4_21) 256 = true then (q_Mod_reduce_21 i_k m_layers m_wide m_high rec2 n x2_21 z1 (x4_21 + (1 : Int32)) (upd m_half_21 (((16 : Int32) * x2_21) + x4_21).toNatClampNeg z1)) else none))) else none)
def q_Mod_reduce_2 (i_k : Int32) (m_layers : Nat → Int32) (m_wide : Nat → Int32) (m_high : Nat → Int32)  : Nat → Int32 → (Nat → Int32) → Option ((Nat → Int32))
  | 0, _, _ => none
  | n + 1, x2_2, m_half_2 => (if vpb i_k 3 = true then (if (((m_high i_k.toNatClampNeg) + (1 : Int32)) / (2 : Int32)) ≤ x2_2 then some (m_half_2) else (q_Mod_reduce_21 i_k m_layers m_wide m_high (q_Mod_reduce_2 i_k m_layers m_wide m_high n) 5000 x2_2 (0 : Int32) (0 : Int32) m_half_2)) else none)
def q_Mod_reduce (i_k : Int32) (m_layers : Nat → Int32) (m_wide : Nat → Int32) (m_high : Nat → Int32) (m_half : Nat → Int32) : Option ((Nat → Int32)) := (q_Mod_reduce_2 i_k m_layers m_wide m_high  5000 (0 : Int32) m_half)
abbrev rm_Mod_reduce : Room := { frames := 3, cells := 0, slots := 0, locals := 73 }
set_option maxHeartbeats 4000000 in
set_option maxRecDepth 100000 in
theorem c_Mod_reduce (l : Launch) (dC : Nat → ClassId) (dI : Nat → Nat → Nat) (m_0 m_picture_a m_file_a m_layers_a m_wide_a m_high_a m_half_a m_states_a m_favourites_a m_quotas_a m_digits_a m_draft_a m_given_a m_begins_a : Nat) (m_picture_k m_file_k m_layers_k m_wide_k m_high_k m_half_k m_states_k m_favourites_k m_quotas_k m_digits_k m_draft_k m_given_k m_begins_k : ClassId) (i_k : Int32) (m_code : Int32) (m_width : Int32) (m_height : Int32) (m_picture : Nat → Int32) (m_length : Int32) (m_file : Nat → Int32) (m_any : Int32) (m_decisions : Int32) (m_plains : Int32) (m_doubles : Int32) (m_layers : Nat → Int32) (m_wide : Nat → Int32) (m_high : Nat → Int32) (m_half : Nat → Int32) (m_states : Nat → Int32) (m_favourites : Nat → Int32) (m_quotas : Nat → Int32) (m_span : Int32) (m_nowDecisions : Int32) (m_nowPlains : Int32) (m_nowDoubles : Int32) (m_digits : Nat → Int32) (m_digitCount : Int32) (m_draft : Nat → Int32) (m_draftSize : Int32) (m_taking : Int32) (m_given : Nat → Int32) (m_givenSize : Int32) (m_next : Int32) (m_above : Int32) (m_begins : Nat → Int32) (m_layerCount : Int32) (m_newWidth : Int32) (m_newHeight : Int32) (z : (Nat → Int32))  (hq : q_Mod_reduce i_k m_layers m_wide m_high m_half = some z) (sz : Nat) : MetV l y_Mod_reduce b_Mod_reduce 5 TT rm_Mod_reduce (dC, dI) vcl [(m_picture_k, .int), (m_file_k, .int), (m_layers_k, .int), (m_wide_k, .int), (m_high_k, .int), (m_half_k, .int), (m_states_k, .int), (m_favourites_k, .int), (m_quotas_k, .int), (m_digits_k, .int), (m_draft_k, .int), (m_given_k, .int), (m_begins_k, .int)] (W_X m_0 m_picture_a m_file_a m_layers_a m_wide_a m_high_a m_half_a m_states_a m_favourites_a m_quotas_a m_digits_a m_draft_a m_given_a m_begins_a m_picture_k m_file_k m_layers_k m_wide_k m_high_k m_half_k m_states_k m_favourites_k m_quotas_k m_digits_k m_draft_k m_given_k m_begins_k m_code m_width m_height m_picture m_length m_file m_any m_decisions m_plains m_doubles m_layers m_wide m_high m_half m_states m_favourites m_quotas m_span m_nowDecisions m_nowPlains m_nowDoubles m_digits m_digitCount m_draft m_draftSize m_taking m_given m_givenSize m_next m_above m_begins m_layerCount m_newWidth m_newHeight) (W_X m_0 m_picture_a m_file_a m_layers_a m_wide_a m_high_a m_half_a m_states_a m_favourites_a m_quotas_a m_digits_a m_draft_a m_given_a m_begins_a m_picture_k m_file_k m_layers_k m_wide_k m_high_k m_half_k m_states_k m_favourites_k m_quotas_k m_digits_k m_draft_k m_given_k m_begins_k m_code m_width m_height m_picture m_length m_file m_any m_decisions m_plains m_doubles m_layers m_wide m_high z m_states m_favourites m_quotas m_span m_nowDecisions m_nowPlains m_nowDoubles m_digits m_digitCount m_draft m_draftSize m_taking m_given m_givenSize m_next m_above m_begins m_layerCount m_newWidth m_newHeight) [.ref m_0, .int i_k] sz := by
  refine x_ofV (by decide) (Nat.le_of_ble_eq_true rfl) ?_ sz
  intro p e s m args below meth c A Q ls hx hb hml hown hts hA hG hK hP hD hS hl hret
  have hown : s.vm.findClass R_Mod = some m.cls := hown
  have hl : lv_has ls 5 [(0, .ref m_0), (1, .int i_k)] := hl
  obtain ⟨⟨tq, hZ, hTq⟩, hN⟩ := id hG
  obtain ⟨H, hH⟩ : ∃ H, H = s.heap := ⟨_, rfl⟩
  obtain ⟨locs, hlocs⟩ : ∃ locs : List Loc, locs = [] := ⟨_, rfl⟩
  rw [← hH] at hP
  have hS : va_S A s.heap H locs := by rw [hH, hlocs]; exact hS
  suffices hgo : W p l e rm_Mod_reduce s m args below meth c H locs 0 0 Q (F0 m 0 ls []) by rw [hH, hlocs] at hgo; exact hgo
  unfold q_Mod_reduce at hq
  have L2 : ∀ (n2 : Nat) (x2_2 : Int32) (m_half_2 : Nat → Int32) (H : Heap) (locs : List Loc) (ls : Array Slot), lv_has ls 5 [(0, .ref m_0), (1, .int i_k), (2, .int x2_2)] → va_P (dC, dI) vcl (W_X m_0 m_picture_a m_file_a m_layers_a m_wide_a m_high_a m_half_a m_states_a m_favourites_a m_quotas_a m_digits_a m_draft_a m_given_a m_begins_a m_picture_k m_file_k m_layers_k m_wide_k m_high_k m_half_k m_states_k m_favourites_k m_quotas_k m_digits_k m_draft_k m_given_k m_begins_k m_code m_width m_height m_picture m_length m_file m_any m_decisions m_plains m_doubles m_layers m_wide m_high m_half_2 m_states m_favourites m_quotas m_span m_nowDecisions m_nowPlains m_nowDoubles m_digits m_digitCount m_draft m_draftSize m_taking m_given m_givenSize m_next m_above m_begins m_layerCount m_newWidth m_newHeight) H → va_D A (W_X m_0 m_picture_a m_file_a m_layers_a m_wide_a m_high_a m_half_a m_states_a m_favourites_a m_quotas_a m_digits_a m_draft_a m_given_a m_begins_a m_picture_k m_file_k m_layers_k m_wide_k m_high_k m_half_k m_states_k m_favourites_k m_quotas_k m_digits_k m_draft_k m_given_k m_begins_k m_code m_width m_height m_picture m_length m_file m_any m_decisions m_plains m_doubles m_layers m_wide m_high m_half_2 m_states m_favourites m_quotas m_span m_nowDecisions m_nowPlains m_nowDoubles m_digits m_digitCount m_draft m_draftSize m_taking m_given m_givenSize m_next m_above m_begins m_layerCount m_newWidth m_newHeight) → va_S A s.heap H locs → q_Mod_reduce_2 i_k m_layers m_wide m_high  n2 x2_2 m_half_2 = some z → W p l e rm_Mod_reduce s m args below meth c H locs 0 0 Q (F0 m 2 ls []) := by
    intro n2
    induction n2 with
    | zero =>
      intro x2_2 m_half_2 H locs ls hl hP hD hS hq
      rw [q_Mod_reduce_2] at hq
      cases hq
    | succ n2 ih2 =>
      intro x2_2 m_half_2 H locs ls hl hP hD hS hq2
      rw [q_Mod_reduce_2] at hq2
      have L21 : ∀ (n21 : Nat) (x2_21 : Int32) (x3_21 : Int32) (x4_21 : Int32) (m_half_21 : Nat → Int32) (H : Heap) (locs : List Loc) (ls : Array Slot), lv_has ls 5 [(0, .ref m_0), (1, .int i_k), (2, .int x2_21), (3, .int x3_21), (4, .int x4_21)] → va_P (dC, dI) vcl (W_X m_0 m_picture_a m_file_a m_layers_a m_wide_a m_high_a m_half_a m_states_a m_favourites_a m_quotas_a m_digits_a m_draft_a m_given_a m_begins_a m_picture_k m_file_k m_layers_k m_wide_k m_high_k m_half_k m_states_k m_favourites_k m_quotas_k m_digits_k m_draft_k m_given_k m_begins_k m_code m_width m_height m_picture m_length m_file m_any m_decisions m_plains m_doubles m_layers m_wide m_high m_half_21 m_states m_favourites m_quotas m_span m_nowDecisions m_nowPlains m_nowDoubles m_digits m_digitCount m_draft m_draftSize m_taking m_given m_givenSize m_next m_above m_begins m_layerCount m_newWidth m_newHeight) H → va_D A (W_X m_0 m_picture_a m_file_a m_layers_a m_wide_a m_high_a m_half_a m_states_a m_favourites_a m_quotas_a m_digits_a m_draft_a m_given_a m_begins_a m_picture_k m_file_k m_layers_k m_wide_k m_high_k m_half_k m_states_k m_favourites_k m_quotas_k m_digits_k m_draft_k m_given_k m_begins_k m_code m_width m_height m_picture m_length m_file m_any m_decisions m_plains m_doubles m_layers m_wide m_high m_half_21 m_states m_favourites m_quotas m_span m_nowDecisions m_nowPlains m_nowDoubles m_digits m_digitCount m_draft m_draftSize m_taking m_given m_givenSize m_next m_above m_begins m_layerCount m_newWidth m_newHeight) → va_S A s.heap H locs → q_Mod_reduce_21 i_k m_layers m_wide m_high (q_Mod_reduce_2 i_k m_layers m_wide m_high  n2) n21 x2_21 x3_21 x4_21 m_half_21 = some z → W p l e rm_Mod_reduce s m args below meth c H locs 0 0 Q (F0 m 21 ls []) := by
        intro n21
        induction n21 with
        | zero =>
          intro x2_21 x3_21 x4_21 m_half_21 H locs ls hl hP hD hS hq
          rw [q_Mod_reduce_21] at hq
          cases hq
        | succ n21 ih21 =>
          intro x2_21 x3_21 x4_21 m_half_21 H locs ls hl hP hD hS hq21
          rw [q_Mod_reduce_21] at hq21
          have h := hq21
          refine lv_iload hx hb d_Mod_reduce_21 (lv_at hl 4 rfl) ?_
          refine lv_aload_n hx hb d_Mod_reduce_23 rfl (lv_at hl 0 rfl) ?_
          refine va_get (D := (dC, dI)) (ci := 7) (v := .ref m_wide_a) (C := R_Mod) (T := F_Mod) (N := 34) hx hb hts in_Mod hown hK hP 0 rfl rfl 11 (by decide) (hts _ tt648) (fun _ h9 => h9) rfl d_Mod_reduce_24 ?_
          refine lv_iload_n hx hb d_Mod_reduce_27 rfl (lv_at hl 1 rfl) ?_
          obtain ⟨hin, h⟩ := og h
          refine va_iald hx hb hK hP 4 3 rfl rfl (vpb_in hin) d_Mod_reduce_28 ?_
          refine lv_iconst (v := (1 : Int32)) hx hb d_Mod_reduce_29 (by decide) ?_
          refine lv_iadd hx hb d_Mod_reduce_30 ?_
          refine lv_iconst (v := (2 : Int32)) hx hb d_Mod_reduce_31 (by decide) ?_
          refine lv_idiv hx hb d_Mod_reduce_32 (by decide) ?_
          refine lv_icmp_ge (tgt := 65) hx hb d_Mod_reduce_33 rfl (fun hc => ?_) (fun hc => ?_)
          · replace h := ot hc h
            refine lv_iinc (k := 2) (v := x2_21 + (1 : Int32)) (lv' := [(2, .int (x2_21 + (1 : Int32))), (0, .ref m_0), (1, .int i_k), (3, .int x3_21), (4, .int x4_21)]) hx hb d_Mod_reduce_65 hl rfl rfl (by decide) rfl (fun ls hl => ?_)
            refine lv_goto (tgt := 2) hx hb d_Mod_reduce_68 rfl ?_
            exact ih2 (x2_21 + (1 : Int32)) m_half_21 H locs ls (lv_sub hl [1, 2, 0] rfl) hP hD hS h
          · replace h := of hc h
            refine lv_aload_n hx hb d_Mod_reduce_36 rfl (lv_at hl 0 rfl) ?_
            refine lv_iload_n hx hb d_Mod_reduce_37 rfl (lv_at hl 1 rfl) ?_
            refine lv_iload hx hb d_Mod_reduce_38 (lv_at hl 4 rfl) ?_
            refine lv_iload_n hx hb d_Mod_reduce_40 rfl (lv_at hl 2 rfl) ?_
            refine lv_iload_n hx hb d_Mod_reduce_41 rfl (lv_at hl 3 rfl) ?_
            obtain ⟨z1, hz1, h⟩ := ob h
            refine x_goI (res := z1) (w1 := (W_X m_0 m_picture_a m_file_a m_layers_a m_wide_a m_high_a m_half_a m_states_a m_favourites_a m_quotas_a m_digits_a m_draft_a m_given_a m_begins_a m_picture_k m_file_k m_layers_k m_wide_k m_high_k m_half_k m_states_k m_favourites_k m_quotas_k m_digits_k m_draft_k m_given_k m_begins_k m_code m_width m_height m_picture m_length m_file m_any m_decisions m_plains m_doubles m_layers m_wide m_high m_half_21 m_states m_favourites m_quotas m_span m_nowDecisions m_nowPlains m_nowDoubles m_digits m_digitCount m_draft m_draftSize m_taking m_given m_givenSize m_next m_above m_begins m_layerCount m_newWidth m_newHeight)) (ws' := (W_X m_0 m_picture_a m_file_a m_layers_a m_wide_a m_high_a m_half_a m_states_a m_favourites_a m_quotas_a m_digits_a m_draft_a m_given_a m_begins_a m_picture_k m_file_k m_layers_k m_wide_k m_high_k m_half_k m_states_k m_favourites_k m_quotas_k m_digits_k m_draft_k m_given_k m_begins_k m_code m_width m_height m_picture m_length m_file m_any m_decisions m_plains m_doubles m_layers m_wide m_high m_half_21 m_states m_favourites m_quotas m_span m_nowDecisions m_nowPlains m_nowDoubles m_digits m_digitCount m_draft m_draftSize m_taking m_given m_givenSize m_next m_above m_begins m_layerCount m_newWidth m_newHeight)) (wr := List.filterMap (fun (i : Nat) => (W_X m_0 m_picture_a m_file_a m_layers_a m_wide_a m_high_a m_half_a m_states_a m_favourites_a m_quotas_a m_digits_a m_draft_a m_given_a m_begins_a m_picture_k m_file_k m_layers_k m_wide_k m_high_k m_half_k m_states_k m_favourites_k m_quotas_k m_digits_k m_draft_k m_given_k m_begins_k m_code m_width m_height m_picture m_length m_file m_any m_decisions m_plains m_doubles m_layers m_wide m_high m_half_21 m_states m_favourites m_quotas m_span m_nowDecisions m_nowPlains m_nowDoubles m_digits m_digitCount m_draft m_draftSize m_taking m_given m_givenSize m_next m_above m_begins m_layerCount m_newWidth m_newHeight)[i]?) ([] : List Nat)) (va_runV (As := [.int i_k, .int x4_21, .int x2_21, .int x3_21]) (rest := []) ⟨hx, hb, hml, hown, hts⟩ (c_Mod_reduced l dC dI m_0 m_picture_a m_file_a m_layers_a m_wide_a m_high_a m_half_a m_states_a m_favourites_a m_quotas_a m_digits_a m_draft_a m_given_a m_begins_a m_picture_k m_file_k m_layers_k m_wide_k m_high_k m_half_k m_states_k m_favourites_k m_quotas_k m_digits_k m_draft_k m_given_k m_begins_k i_k x4_21 x2_21 x3_21 m_code m_width m_height m_picture m_length m_file m_any m_decisions m_plains m_doubles m_layers m_wide m_high m_half_21 m_states m_favourites m_quotas m_span m_nowDecisions m_nowPlains m_nowDoubles m_digits m_digitCount m_draft m_draftSize m_taking m_given m_givenSize m_next m_above m_begins m_layerCount m_newWidth m_newHeight z1  hz1 H.size) ⟨callB_of 4 hts (gT tt794 TT_good) rfl rfl rfl (hts _ tt53) (hts _ tt791) (by decide +kernel) ⟨Nat.le_of_ble_eq_true rfl, Nat.le_of_ble_eq_true rfl⟩, hts _ tt793, hts _ tt22⟩ (x_preV (q := (R_Mod, F_Mod, 34)) (As := [.int i_k, .int x4_21, .int x2_21, .int x3_21]) (x_pre (wc := (W_X m_0 m_picture_a m_file_a m_layers_a m_wide_a m_high_a m_half_a m_states_a m_favourites_a m_quotas_a m_digits_a m_draft_a m_given_a m_begins_a m_picture_k m_file_k m_layers_k m_wide_k m_high_k m_half_k m_states_k m_favourites_k m_quotas_k m_digits_k m_draft_k m_given_k m_begins_k m_code m_width m_height m_picture m_length m_file m_any m_decisions m_plains m_doubles m_layers m_wide m_high m_half_21 m_states m_favourites m_quotas m_span m_nowDecisions m_nowPlains m_nowDoubles m_digits m_digitCount m_draft m_draftSize m_taking m_given m_givenSize m_next m_above m_begins m_layerCount m_newWidth m_newHeight)) (av := (.ref m_0 :: [.int i_k, .int x4_21, .int x2_21, .int x3_21])) hK hP hD hS hA hG [0, 1, 2, 3, 4, 5, 6, 7, 8, 9, 10, 11, 12] [0, 1, 2, 3, 4, 5, 6, 7, 8, 9, 10, 11, 12, 13] rfl rfl (by decide)) hK hP (q0 := 0) rfl rfl) rfl rfl hl.1 rfl (lv_room (Nat.le_of_ble_eq_true rfl)) d_Mod_reduce_42 ⟨Nat.zero_le _, Nat.zero_le _⟩) hP hD hS hA [0, 1, 2, 3, 4, 5, 6, 7, 8, 9, 10, 11, 12, 13] [] [0, 1, 2, 3, 4, 5, 6, 7, 8, 9, 10, 11, 12, 13] rfl rfl (by decide) (by decide) (by decide) rfl (fun H locs hP hD hS => ?_)
            refine lv_istore_n (lv' := [(3, .int z1), (0, .ref m_0), (1, .int i_k), (2, .int x2_21), (4, .int x4_21)]) hx hb d_Mod_reduce_45 rfl hl (by decide) rfl (fun ls hl => ?_)
            refine lv_aload_n hx hb d_Mod_reduce_46 rfl (lv_at hl 1 rfl) ?_
            refine va_get (D := (dC, dI)) (ci := 7) (v := .ref m_half_a) (C := R_Mod) (T := F_Mod) (N := 34) hx hb hts in_Mod hown hK hP 0 rfl rfl 13 (by decide) (hts _ tt650) (fun _ h9 => h9) rfl d_Mod_reduce_47 ?_
            refine lv_bipush (v := (16 : Int32)) hx hb d_Mod_reduce_50 (by decide) ?_
            refine lv_iload_n hx hb d_Mod_reduce_52 rfl (lv_at hl 3 rfl) ?_
            refine lv_imul hx hb d_Mod_reduce_53 ?_
            refine lv_iload hx hb d_Mod_reduce_54 (lv_at hl 4 rfl) ?_
            refine lv_iadd hx hb d_Mod_reduce_56 ?_
            refine lv_iload_n hx hb d_Mod_reduce_57 rfl (lv_at hl 0 rfl) ?_
            obtain ⟨hin, h⟩ := og h
            refine va_iast hx hb hK hP hD hS 6 5 rfl rfl (vpb_in hin) d_Mod_reduce_58 (fun H locs hP hD hS => ?_)
            have hP : va_P (dC, dI) vcl (W_X m_0 m_picture_a m_file_a m_layers_a m_wide_a m_high_a m_half_a m_states_a m_favourites_a m_quotas_a m_digits_a m_draft_a m_given_a m_begins_a m_picture_k m_file_k m_layers_k m_wide_k m_high_k m_half_k m_states_k m_favourites_k m_quotas_k m_digits_k m_draft_k m_given_k m_begins_k m_code m_width m_height m_picture m_length m_file m_any m_decisions m_plains m_doubles m_layers m_wide m_high (upd m_half_21 (((16 : Int32) * x2_21) + x4_21).toNatClampNeg z1) m_states m_favourites m_quotas m_span m_nowDecisions m_nowPlains m_nowDoubles m_digits m_digitCount m_draft m_draftSize m_taking m_given m_givenSize m_next m_above m_begins m_layerCount m_newWidth m_newHeight) H := hP
            have hD : va_D A (W_X m_0 m_picture_a m_file_a m_layers_a m_wide_a m_high_a m_half_a m_states_a m_favourites_a m_quotas_a m_digits_a m_draft_a m_given_a m_begins_a m_picture_k m_file_k m_layers_k m_wide_k m_high_k m_half_k m_states_k m_favourites_k m_quotas_k m_digits_k m_draft_k m_given_k m_begins_k m_code m_width m_height m_picture m_length m_file m_any m_decisions m_plains m_doubles m_layers m_wide m_high (upd m_half_21 (((16 : Int32) * x2_21) + x4_21).toNatClampNeg z1) m_states m_favourites m_quotas m_span m_nowDecisions m_nowPlains m_nowDoubles m_digits m_digitCount m_draft m_draftSize m_taking m_given m_givenSize m_next m_above m_begins m_layerCount m_newWidth m_newHeight) := hD
            refine lv_iinc (k := 4) (v := x4_21 + (1 : Int32)) (lv' := [(4, .int (x4_21 + (1 : Int32))), (3, .int z1), (0, .ref m_0), (1, .int i_k), (2, .int x2_21)]) hx hb d_Mod_reduce_59 hl rfl rfl (by decide) rfl (fun ls hl => ?_)
            refine lv_goto (tgt := 21) hx hb d_Mod_reduce_62 rfl ?_
            exact ih21 x2_21 z1 (x4_21 + (1 : Int32)) (upd m_half_21 (((16 : Int32) * x2_21) + x4_21).toNatClampNeg z1) H locs ls (lv_sub hl [2, 3, 4, 1, 0] rfl) hP hD hS h
      have h := hq2
      refine lv_iload_n hx hb d_Mod_reduce_2 rfl (lv_at hl 2 rfl) ?_
      refine lv_aload_n hx hb d_Mod_reduce_3 rfl (lv_at hl 0 rfl) ?_
      refine va_get (D := (dC, dI)) (ci := 7) (v := .ref m_high_a) (C := R_Mod) (T := F_Mod) (N := 34) hx hb hts in_Mod hown hK hP 0 rfl rfl 12 (by decide) (hts _ tt649) (fun _ h9 => h9) rfl d_Mod_reduce_4 ?_
      refine lv_iload_n hx hb d_Mod_reduce_7 rfl (lv_at hl 1 rfl) ?_
      obtain ⟨hin, h⟩ := og h
      refine va_iald hx hb hK hP 5 4 rfl rfl (vpb_in hin) d_Mod_reduce_8 ?_
      refine lv_iconst (v := (1 : Int32)) hx hb d_Mod_reduce_9 (by decide) ?_
      refine lv_iadd hx hb d_Mod_reduce_10 ?_
      refine lv_iconst (v := (2 : Int32)) hx hb d_Mod_reduce_11 (by decide) ?_
      refine lv_idiv hx hb d_Mod_reduce_12 (by decide) ?_
      refine lv_icmp_ge (tgt := 71) hx hb d_Mod_reduce_13 rfl (fun hc => ?_) (fun hc => ?_)
      · replace h := ot hc h
        obtain rfl := Option.some.inj h
        exact hret H locs 71 ls d_Mod_reduce_71 hP hD hS
      · replace h := of hc h
        refine lv_iconst (v := (0 : Int32)) hx hb d_Mod_reduce_16 (by decide) ?_
        refine lv_istore_n (lv' := [(3, .int (0 : Int32)), (0, .ref m_0), (1, .int i_k), (2, .int x2_2)]) hx hb d_Mod_reduce_17 rfl hl (by decide) rfl (fun ls hl => ?_)
        refine lv_iconst (v := (0 : Int32)) hx hb d_Mod_reduce_18 (by decide) ?_
        refine lv_istore (lv' := [(4, .int (0 : Int32)), (3, .int (0 : Int32)), (0, .ref m_0), (1, .int i_k), (2, .int x2_2)]) hx hb d_Mod_reduce_19 hl (by decide) rfl (fun ls hl => ?_)
        exact L21 5000 x2_2 (0 : Int32) (0 : Int32) m_half_2 H locs ls (lv_sub hl [2, 3, 4, 1, 0] rfl) hP hD hS h
  have h := hq
  refine lv_iconst (v := (0 : Int32)) hx hb d_Mod_reduce_0 (by decide) ?_
  refine lv_istore_n (lv' := [(2, .int (0 : Int32)), (0, .ref m_0), (1, .int i_k)]) hx hb d_Mod_reduce_1 rfl hl (by decide) rfl (fun ls hl => ?_)
  exact L2 5000 (0 : Int32) m_half H locs ls (lv_sub hl [1, 2, 0] rfl) hP hD hS h
theorem d_Mod_become_0 : decode b_Mod_become 0 = .ok (.aload_n 0, 1) := by decide +kernel
theorem d_Mod_become_1 : decode b_Mod_become 1 = .ok (.getfield 26, 3) := by decide +kernel
theorem d_Mod_become_4 : decode b_Mod_become 4 = .ok (.iload_n 1, 1) := by decide +kernel
theorem d_Mod_become_5 : decode b_Mod_become 5 = .ok (.iload_n 2, 1) := by decide +kernel
theorem d_Mod_become_6 : decode b_Mod_become 6 = .ok (.iastore, 1) := by decide +kernel
theorem d_Mod_become_7 : decode b_Mod_become 7 = .ok (.aload_n 0, 1) := by decide +kernel
theorem d_Mod_become_8 : decode b_Mod_become 8 = .ok (.getfield 29, 3) := by decide +kernel
theorem d_Mod_become_11 : decode b_Mod_become 11 = .ok (.iload_n 1, 1) := by decide +kernel
theorem d_Mod_become_12 : decode b_Mod_become 12 = .ok (.iload_n 3, 1) := by decide +kernel
theorem d_Mod_become_13 : decode b_Mod_become 13 = .ok (.iastore, 1) := by decide +kernel
theorem d_Mod_become_14 : decode b_Mod_become 14 = .ok (.return_, 1) := by decide +kernel
def q_Mod_become (i_k : Int32) (i_w : Int32) (i_h : Int32) (m_wide : Nat → Int32) (m_high : Nat → Int32) : Option ((Nat → Int32) × (Nat → Int32)) := (if vpb i_k 3 = true then (if vpb i_k 3 = true then some (upd m_wide i_k.toNatClampNeg i_w, upd m_high i_k.toNatClampNeg i_h) else none) else none)
abbrev rm_Mod_become : Room := { frames := 0, cells := 0, slots := 0, locals := 0 }
set_option maxHeartbeats 4000000 in
set_option maxRecDepth 100000 in
theorem c_Mod_become (l : Launch) (dC : Nat → ClassId) (dI : Nat → Nat → Nat) (m_0 m_picture_a m_file_a m_layers_a m_wide_a m_high_a m_half_a m_states_a m_favourites_a m_quotas_a m_digits_a m_draft_a m_given_a m_begins_a : Nat) (m_picture_k m_file_k m_layers_k m_wide_k m_high_k m_half_k m_states_k m_favourites_k m_quotas_k m_digits_k m_draft_k m_given_k m_begins_k : ClassId) (i_k : Int32) (i_w : Int32) (i_h : Int32) (m_code : Int32) (m_width : Int32) (m_height : Int32) (m_picture : Nat → Int32) (m_length : Int32) (m_file : Nat → Int32) (m_any : Int32) (m_decisions : Int32) (m_plains : Int32) (m_doubles : Int32) (m_layers : Nat → Int32) (m_wide : Nat → Int32) (m_high : Nat → Int32) (m_half : Nat → Int32) (m_states : Nat → Int32) (m_favourites : Nat → Int32) (m_quotas : Nat → Int32) (m_span : Int32) (m_nowDecisions : Int32) (m_nowPlains : Int32) (m_nowDoubles : Int32) (m_digits : Nat → Int32) (m_digitCount : Int32) (m_draft : Nat → Int32) (m_draftSize : Int32) (m_taking : Int32) (m_given : Nat → Int32) (m_givenSize : Int32) (m_next : Int32) (m_above : Int32) (m_begins : Nat → Int32) (m_layerCount : Int32) (m_newWidth : Int32) (m_newHeight : Int32) (z : (Nat → Int32) × (Nat → Int32))  (hq : q_Mod_become i_k i_w i_h m_wide m_high = some z) (sz : Nat) : MetV l y_Mod_become b_Mod_become 4 TT rm_Mod_become (dC, dI) vcl [(m_picture_k, .int), (m_file_k, .int), (m_layers_k, .int), (m_wide_k, .int), (m_high_k, .int), (m_half_k, .int), (m_states_k, .int), (m_favourites_k, .int), (m_quotas_k, .int), (m_digits_k, .int), (m_draft_k, .int), (m_given_k, .int), (m_begins_k, .int)] (W_X m_0 m_picture_a m_file_a m_layers_a m_wide_a m_high_a m_half_a m_states_a m_favourites_a m_quotas_a m_digits_a m_draft_a m_given_a m_begins_a m_picture_k m_file_k m_layers_k m_wide_k m_high_k m_half_k m_states_k m_favourites_k m_quotas_k m_digits_k m_draft_k m_given_k m_begins_k m_code m_width m_height m_picture m_length m_file m_any m_decisions m_plains m_doubles m_layers m_wide m_high m_half m_states m_favourites m_quotas m_span m_nowDecisions m_nowPlains m_nowDoubles m_digits m_digitCount m_draft m_draftSize m_taking m_given m_givenSize m_next m_above m_begins m_layerCount m_newWidth m_newHeight) (W_X m_0 m_picture_a m_file_a m_layers_a m_wide_a m_high_a m_half_a m_states_a m_favourites_a m_quotas_a m_digits_a m_draft_a m_given_a m_begins_a m_picture_k m_file_k m_layers_k m_wide_k m_high_k m_half_k m_states_k m_favourites_k m_quotas_k m_digits_k m_draft_k m_given_k m_begins_k m_code m_width m_height m_picture m_length m_file m_any m_decisions m_plains m_doubles m_layers z.1 z.2 m_half m_states m_favourites m_quotas m_span m_nowDecisions m_nowPlains m_nowDoubles m_digits m_digitCount m_draft m_draftSize m_taking m_given m_givenSize m_next m_above m_begins m_layerCount m_newWidth m_newHeight) [.ref m_0, .int i_k, .int i_w, .int i_h] sz := by
  refine x_ofV (by decide) (Nat.le_of_ble_eq_true rfl) ?_ sz
  intro p e s m args below meth c A Q ls hx hb hml hown hts hA hG hK hP hD hS hl hret
  have hown : s.vm.findClass R_Mod = some m.cls := hown
  have hl : lv_has ls 4 [(0, .ref m_0), (1, .int i_k), (2, .int i_w), (3, .int i_h)] := hl
  obtain ⟨⟨tq, hZ, hTq⟩, hN⟩ := id hG
  obtain ⟨H, hH⟩ : ∃ H, H = s.heap := ⟨_, rfl⟩
  obtain ⟨locs, hlocs⟩ : ∃ locs : List Loc, locs = [] := ⟨_, rfl⟩
  rw [← hH] at hP
  have hS : va_S A s.heap H locs := by rw [hH, hlocs]; exact hS
  suffices hgo : W p l e rm_Mod_become s m args below meth c H locs 0 0 Q (F0 m 0 ls []) by rw [hH, hlocs] at hgo; exact hgo
  unfold q_Mod_become at hq
  have h := hq
  refine lv_aload_n hx hb d_Mod_become_0 rfl (lv_at hl 0 rfl) ?_
  refine va_get (D := (dC, dI)) (ci := 7) (v := .ref m_wide_a) (C := R_Mod) (T := F_Mod) (N := 34) hx hb hts in_Mod hown hK hP 0 rfl rfl 11 (by decide) (hts _ tt648) (fun _ h9 => h9) rfl d_Mod_become_1 ?_
  refine lv_iload_n hx hb d_Mod_become_4 rfl (lv_at hl 1 rfl) ?_
  refine lv_iload_n hx hb d_Mod_become_5 rfl (lv_at hl 2 rfl) ?_
  obtain ⟨hin, h⟩ := og h
  refine va_iast hx hb hK hP hD hS 4 3 rfl rfl (vpb_in hin) d_Mod_become_6 (fun H locs hP hD hS => ?_)
  have hP : va_P (dC, dI) vcl (W_X m_0 m_picture_a m_file_a m_layers_a m_wide_a m_high_a m_half_a m_states_a m_favourites_a m_quotas_a m_digits_a m_draft_a m_given_a m_begins_a m_picture_k m_file_k m_layers_k m_wide_k m_high_k m_half_k m_states_k m_favourites_k m_quotas_k m_digits_k m_draft_k m_given_k m_begins_k m_code m_width m_height m_picture m_length m_file m_any m_decisions m_plains m_doubles m_layers (upd m_wide i_k.toNatClampNeg i_w) m_high m_half m_states m_favourites m_quotas m_span m_nowDecisions m_nowPlains m_nowDoubles m_digits m_digitCount m_draft m_draftSize m_taking m_given m_givenSize m_next m_above m_begins m_layerCount m_newWidth m_newHeight) H := hP
  have hD : va_D A (W_X m_0 m_picture_a m_file_a m_layers_a m_wide_a m_high_a m_half_a m_states_a m_favourites_a m_quotas_a m_digits_a m_draft_a m_given_a m_begins_a m_picture_k m_file_k m_layers_k m_wide_k m_high_k m_half_k m_states_k m_favourites_k m_quotas_k m_digits_k m_draft_k m_given_k m_begins_k m_code m_width m_height m_picture m_length m_file m_any m_decisions m_plains m_doubles m_layers (upd m_wide i_k.toNatClampNeg i_w) m_high m_half m_states m_favourites m_quotas m_span m_nowDecisions m_nowPlains m_nowDoubles m_digits m_digitCount m_draft m_draftSize m_taking m_given m_givenSize m_next m_above m_begins m_layerCount m_newWidth m_newHeight) := hD
  refine lv_aload_n hx hb d_Mod_become_7 rfl (lv_at hl 0 rfl) ?_
  refine va_get (D := (dC, dI)) (ci := 7) (v := .ref m_high_a) (C := R_Mod) (T := F_Mod) (N := 34) hx hb hts in_Mod hown hK hP 0 rfl rfl 12 (by decide) (hts _ tt649) (fun _ h9 => h9) rfl d_Mod_become_8 ?_
  refine lv_iload_n hx hb d_Mod_become_11 rfl (lv_at hl 1 rfl) ?_
  refine lv_iload_n hx hb d_Mod_become_12 rfl (lv_at hl 3 rfl) ?_
  obtain ⟨hin, h⟩ := og h
  refine va_iast hx hb hK hP hD hS 5 4 rfl rfl (vpb_in hin) d_Mod_become_13 (fun H locs hP hD hS => ?_)
  have hP : va_P (dC, dI) vcl (W_X m_0 m_picture_a m_file_a m_layers_a m_wide_a m_high_a m_half_a m_states_a m_favourites_a m_quotas_a m_digits_a m_draft_a m_given_a m_begins_a m_picture_k m_file_k m_layers_k m_wide_k m_high_k m_half_k m_states_k m_favourites_k m_quotas_k m_digits_k m_draft_k m_given_k m_begins_k m_code m_width m_height m_picture m_length m_file m_any m_decisions m_plains m_doubles m_layers (upd m_wide i_k.toNatClampNeg i_w) (upd m_high i_k.toNatClampNeg i_h) m_half m_states m_favourites m_quotas m_span m_nowDecisions m_nowPlains m_nowDoubles m_digits m_digitCount m_draft m_draftSize m_taking m_given m_givenSize m_next m_above m_begins m_layerCount m_newWidth m_newHeight) H := hP
  have hD : va_D A (W_X m_0 m_picture_a m_file_a m_layers_a m_wide_a m_high_a m_half_a m_states_a m_favourites_a m_quotas_a m_digits_a m_draft_a m_given_a m_begins_a m_picture_k m_file_k m_layers_k m_wide_k m_high_k m_half_k m_states_k m_favourites_k m_quotas_k m_digits_k m_draft_k m_given_k m_begins_k m_code m_width m_height m_picture m_length m_file m_any m_decisions m_plains m_doubles m_layers (upd m_wide i_k.toNatClampNeg i_w) (upd m_high i_k.toNatClampNeg i_h) m_half m_states m_favourites m_quotas m_span m_nowDecisions m_nowPlains m_nowDoubles m_digits m_digitCount m_draft m_draftSize m_taking m_given m_givenSize m_next m_above m_begins m_layerCount m_newWidth m_newHeight) := hD
  obtain rfl := Option.some.inj h
  exact hret H locs 14 ls d_Mod_become_14 hP hD hS
theorem d_Mod_takePicture_0 : decode b_Mod_takePicture 0 = .ok (.aload_n 0, 1) := by decide +kernel
theorem d_Mod_takePicture_1 : decode b_Mod_takePicture 1 = .ok (.iload_n 1, 1) := by decide +kernel
theorem d_Mod_takePicture_2 : decode b_Mod_takePicture 2 = .ok (.aload_n 0, 1) := by decide +kernel
theorem d_Mod_takePicture_3 : decode b_Mod_takePicture 3 = .ok (.getfield 7, 3) := by decide +kernel
theorem d_Mod_takePicture_6 : decode b_Mod_takePicture 6 = .ok (.aload_n 0, 1) := by decide +kernel
theorem d_Mod_takePicture_7 : decode b_Mod_takePicture 7 = .ok (.getfield 13, 3) := by decide +kernel
theorem d_Mod_takePicture_10 : decode b_Mod_takePicture 10 = .ok (.invokevirtual 75, 3) := by decide +kernel
theorem d_Mod_takePicture_13 : decode b_Mod_takePicture 13 = .ok (.iconst (0), 1) := by decide +kernel
theorem d_Mod_takePicture_14 : decode b_Mod_takePicture 14 = .ok (.istore_n 2, 1) := by decide +kernel
theorem d_Mod_takePicture_15 : decode b_Mod_takePicture 15 = .ok (.iload_n 2, 1) := by decide +kernel
theorem d_Mod_takePicture_16 : decode b_Mod_takePicture 16 = .ok (.sipush (256), 3) := by decide +kernel
theorem d_Mod_takePicture_19 : decode b_Mod_takePicture 19 = .ok (.if_icmp .ge (27), 3) := by decide +kernel
theorem d_Mod_takePicture_22 : decode b_Mod_takePicture 22 = .ok (.aload_n 0, 1) := by decide +kernel
theorem d_Mod_takePicture_23 : decode b_Mod_takePicture 23 = .ok (.getfield 23, 3) := by decide +kernel
theorem d_Mod_takePicture_26 : decode b_Mod_takePicture 26 = .ok (.sipush (256), 3) := by decide +kernel
theorem d_Mod_takePicture_29 : decode b_Mod_takePicture 29 = .ok (.iload_n 1, 1) := by decide +kernel
theorem d_Mod_takePicture_30 : decode b_Mod_takePicture 30 = .ok (.imul, 1) := by decide +kernel
theorem d_Mod_takePicture_31 : decode b_Mod_takePicture 31 = .ok (.iload_n 2, 1) := by decide +kernel
theorem d_Mod_takePicture_32 : decode b_Mod_takePicture 32 = .ok (.iadd, 1) := by decide +kernel
theorem d_Mod_takePicture_33 : decode b_Mod_takePicture 33 = .ok (.aload_n 0, 1) := by decide +kernel
theorem d_Mod_takePicture_34 : decode b_Mod_takePicture 34 = .ok (.getfield 16, 3) := by decide +kernel
theorem d_Mod_takePicture_37 : decode b_Mod_takePicture 37 = .ok (.iload_n 2, 1) := by decide +kernel
theorem d_Mod_takePicture_38 : decode b_Mod_takePicture 38 = .ok (.iaload, 1) := by decide +kernel
theorem d_Mod_takePicture_39 : decode b_Mod_takePicture 39 = .ok (.iastore, 1) := by decide +kernel
theorem d_Mod_takePicture_40 : decode b_Mod_takePicture 40 = .ok (.iinc 2 (1), 3) := by decide +kernel
theorem d_Mod_takePicture_43 : decode b_Mod_takePicture 43 = .ok (.goto (-28), 3) := by decide +kernel
theorem d_Mod_takePicture_46 : decode b_Mod_takePicture 46 = .ok (.return_, 1) := by decide +kernel
def q_Mod_takePicture_15 (i_k : Int32) (m_width : Int32) (m_height : Int32) (m_picture : Nat → Int32)  : Nat → Int32 → (Nat → Int32) → (Nat → Int32) → (Nat → Int32) → Option ((Nat → Int32) × (Nat → Int32) × (Nat → Int32))
  | 0, _, _, _, _ => none
  | n + 1, x2_15, m_layers_15, m_wide_15, m_high_15 => (if (256 : Int32) ≤ x2_15 then some (m_layers_15, m_wide_15, m_high_15) else (if vpb x2_15 256 = true then (if vpb (((256 : Int32) * i_k) + x2_15) 768 = true then (q_Mod_takePicture_15 i_k m_width m_height m_picture n (x2_15 + (1 : Int32)) (upd m_layers_15 (((256 : Int32) * i_k) + x2_15).toNatClampNeg (m_picture x2_15.toNatClampNeg)) m_wide_15 m_high_15) else none) else none))
def q_Mod_takePicture (i_k : Int32) (m_width : Int32) (m_height : Int32) (m_picture : Nat → Int32) (m_layers : Nat → Int32) (m_wide : Nat → Int32) (m_high : Nat → Int32) : Option ((Nat → Int32) × (Nat → Int32) × (Nat → Int32)) := ((q_Mod_become i_k m_width m_height m_wide m_high).bind fun z1 => (q_Mod_takePicture_15 i_k m_width m_height m_picture  5000 (0 : Int32) m_layers z1.1 z1.2))
abbrev rm_Mod_takePicture : Room := { frames := 1, cells := 0, slots := 0, locals := 23 }
set_option maxHeartbeats 4000000 in
set_option maxRecDepth 100000 in
theorem c_Mod_takePicture (l : Launch) (dC : Nat → ClassId) (dI : Nat → Nat → Nat) (m_0 m_picture_a m_file_a m_layers_a m_wide_a m_high_a m_half_a m_states_a m_favourites_a m_quotas_a m_digits_a m_draft_a m_given_a m_begins_a : Nat) (m_picture_k m_file_k m_layers_k m_wide_k m_high_k m_half_k m_states_k m_favourites_k m_quotas_k m_digits_k m_draft_k m_given_k m_begins_k : ClassId) (i_k : Int32) (m_code : Int32) (m_width : Int32) (m_height : Int32) (m_picture : Nat → Int32) (m_length : Int32) (m_file : Nat → Int32) (m_any : Int32) (m_decisions : Int32) (m_plains : Int32) (m_doubles : Int32) (m_layers : Nat → Int32) (m_wide : Nat → Int32) (m_high : Nat → Int32) (m_half : Nat → Int32) (m_states : Nat → Int32) (m_favourites : Nat → Int32) (m_quotas : Nat → Int32) (m_span : Int32) (m_nowDecisions : Int32) (m_nowPlains : Int32) (m_nowDoubles : Int32) (m_digits : Nat → Int32) (m_digitCount : Int32) (m_draft : Nat → Int32) (m_draftSize : Int32) (m_taking : Int32) (m_given : Nat → Int32) (m_givenSize : Int32) (m_next : Int32) (m_above : Int32) (m_begins : Nat → Int32) (m_layerCount : Int32) (m_newWidth : Int32) (m_newHeight : Int32) (z : (Nat → Int32) × (Nat → Int32) × (Nat → Int32))  (hq : q_Mod_takePicture i_k m_width m_height m_picture m_layers m_wide m_high = some z) (sz : Nat) : MetV l y_Mod_takePicture b_Mod_takePicture 3 TT rm_Mod_takePicture (dC, dI) vcl [(m_picture_k, .int), (m_file_k, .int), (m_layers_k, .int), (m_wide_k, .int), (m_high_k, .int), (m_half_k, .int), (m_states_k, .int), (m_favourites_k, .int), (m_quotas_k, .int), (m_digits_k, .int), (m_draft_k, .int), (m_given_k, .int), (m_begins_k, .int)] (W_X m_0 m_picture_a m_file_a m_layers_a m_wide_a m_high_a m_half_a m_states_a m_favourites_a m_quotas_a m_digits_a m_draft_a m_given_a m_begins_a m_picture_k m_file_k m_layers_k m_wide_k m_high_k m_half_k m_states_k m_favourites_k m_quotas_k m_digits_k m_draft_k m_given_k m_begins_k m_code m_width m_height m_picture m_length m_file m_any m_decisions m_plains m_doubles m_layers m_wide m_high m_half m_states m_favourites m_quotas m_span m_nowDecisions m_nowPlains m_nowDoubles m_digits m_digitCount m_draft m_draftSize m_taking m_given m_givenSize m_next m_above m_begins m_layerCount m_newWidth m_newHeight) (W_X m_0 m_picture_a m_file_a m_layers_a m_wide_a m_high_a m_half_a m_states_a m_favourites_a m_quotas_a m_digits_a m_draft_a m_given_a m_begins_a m_picture_k m_file_k m_layers_k m_wide_k m_high_k m_half_k m_states_k m_favourites_k m_quotas_k m_digits_k m_draft_k m_given_k m_begins_k m_code m_width m_height m_picture m_length m_file m_any m_decisions m_plains m_doubles z.1 z.2.1 z.2.2 m_half m_states m_favourites m_quotas m_span m_nowDecisions m_nowPlains m_nowDoubles m_digits m_digitCount m_draft m_draftSize m_taking m_given m_givenSize m_next m_above m_begins m_layerCount m_newWidth m_newHeight) [.ref m_0, .int i_k] sz := by
  refine x_ofV (by decide) (Nat.le_of_ble_eq_true rfl) ?_ sz
  intro p e s m args below meth c A Q ls hx hb hml hown hts hA hG hK hP hD hS hl hret
  have hown : s.vm.findClass R_Mod = some m.cls := hown
  have hl : lv_has ls 3 [(0, .ref m_0), (1, .int i_k)] := hl
  obtain ⟨⟨tq, hZ, hTq⟩, hN⟩ := id hG
  obtain ⟨H, hH⟩ : ∃ H, H = s.heap := ⟨_, rfl⟩
  obtain ⟨locs, hlocs⟩ : ∃ locs : List Loc, locs = [] := ⟨_, rfl⟩
  rw [← hH] at hP
  have hS : va_S A s.heap H locs := by rw [hH, hlocs]; exact hS
  suffices hgo : W p l e rm_Mod_takePicture s m args below meth c H locs 0 0 Q (F0 m 0 ls []) by rw [hH, hlocs] at hgo; exact hgo
  unfold q_Mod_takePicture at hq
  have L15 : ∀ (n15 : Nat) (x2_15 : Int32) (m_layers_15 : Nat → Int32) (m_wide_15 : Nat → Int32) (m_high_15 : Nat → Int32) (H : Heap) (locs : List Loc) (ls : Array Slot), lv_has ls 3 [(0, .ref m_0), (1, .int i_k), (2, .int x2_15)] → va_P (dC, dI) vcl (W_X m_0 m_picture_a m_file_a m_layers_a m_wide_a m_high_a m_half_a m_states_a m_favourites_a m_quotas_a m_digits_a m_draft_a m_given_a m_begins_a m_picture_k m_file_k m_layers_k m_wide_k m_high_k m_half_k m_states_k m_favourites_k m_quotas_k m_digits_k m_draft_k m_given_k m_begins_k m_code m_width m_height m_picture m_length m_file m_any m_decisions m_plains m_doubles m_layers_15 m_wide_15 m_high_15 m_half m_states m_favourites m_quotas m_span m_nowDecisions m_nowPlains m_nowDoubles m_digits m_digitCount m_draft m_draftSize m_taking m_given m_givenSize m_next m_above m_begins m_layerCount m_newWidth m_newHeight) H → va_D A (W_X m_0 m_picture_a m_file_a m_layers_a m_wide_a m_high_a m_half_a m_states_a m_favourites_a m_quotas_a m_digits_a m_draft_a m_given_a m_begins_a m_picture_k m_file_k m_layers_k m_wide_k m_high_k m_half_k m_states_k m_favourites_k m_quotas_k m_digits_k m_draft_k m_given_k m_begins_k m_code m_width m_height m_picture m_length m_file m_any m_decisions m_plains m_doubles m_layers_15 m_wide_15 m_high_15 m_half m_states m_favourites m_quotas m_span m_nowDecisions m_nowPlains m_nowDoubles m_digits m_digitCount m_draft m_draftSize m_taking m_given m_givenSize m_next m_above m_begins m_layerCount m_newWidth m_newHeight) → va_S A s.heap H locs → q_Mod_takePicture_15 i_k m_width m_height m_picture  n15 x2_15 m_layers_15 m_wide_15 m_high_15 = some z → W p l e rm_Mod_takePicture s m args below meth c H locs 0 0 Q (F0 m 15 ls []) := by
    intro n15
    induction n15 with
    | zero =>
      intro x2_15 m_layers_15 m_wide_15 m_high_15 H locs ls hl hP hD hS hq
      rw [q_Mod_takePicture_15] at hq
      cases hq
    | succ n15 ih15 =>
      intro x2_15 m_layers_15 m_wide_15 m_high_15 H locs ls hl hP hD hS hq15
      rw [q_Mod_takePicture_15] at hq15
      have h := hq15
      refine lv_iload_n hx hb d_Mod_takePicture_15 rfl (lv_at hl 2 rfl) ?_
      refine lv_sipush (v := (256 : Int32)) hx hb d_Mod_takePicture_16 (by decide) ?_
      refine lv_icmp_ge (tgt := 46) hx hb d_Mod_takePicture_19 rfl (fun hc => ?_) (fun hc => ?_)
      · replace h := ot hc h
        obtain rfl := Option.some.inj h
        exact hret H locs 46 ls d_Mod_takePicture_46 hP hD hS
      · replace h := of hc h
        refine lv_aload_n hx hb d_Mod_takePicture_22 rfl (lv_at hl 0 rfl) ?_
        refine va_get (D := (dC, dI)) (ci := 7) (v := .ref m_layers_a) (C := R_Mod) (T := F_Mod) (N := 34) hx hb hts in_Mod hown hK hP 0 rfl rfl 10 (by decide) (hts _ tt647) (fun _ h9 => h9) rfl d_Mod_takePicture_23 ?_
        refine lv_sipush (v := (256 : Int32)) hx hb d_Mod_takePicture_26 (by decide) ?_
        refine lv_iload_n hx hb d_Mod_takePicture_29 rfl (lv_at hl 1 rfl) ?_
        refine lv_imul hx hb d_Mod_takePicture_30 ?_
        refine lv_iload_n hx hb d_Mod_takePicture_31 rfl (lv_at hl 2 rfl) ?_
        refine lv_iadd hx hb d_Mod_takePicture_32 ?_
        refine lv_aload_n hx hb d_Mod_takePicture_33 rfl (lv_at hl 0 rfl) ?_
        refine va_get (D := (dC, dI)) (ci := 7) (v := .ref m_picture_a) (C := R_Mod) (T := F_Mod) (N := 34) hx hb hts in_Mod hown hK hP 0 rfl rfl 3 (by decide) (hts _ tt640) (fun _ h9 => h9) rfl d_Mod_takePicture_34 ?_
        refine lv_iload_n hx hb d_Mod_takePicture_37 rfl (lv_at hl 2 rfl) ?_
        obtain ⟨hin, h⟩ := og h
        refine va_iald hx hb hK hP 1 0 rfl rfl (vpb_in hin) d_Mod_takePicture_38 ?_
        obtain ⟨hin, h⟩ := og h
        refine va_iast hx hb hK hP hD hS 3 2 rfl rfl (vpb_in hin) d_Mod_takePicture_39 (fun H locs hP hD hS => ?_)
        have hP : va_P (dC, dI) vcl (W_X m_0 m_picture_a m_file_a m_layers_a m_wide_a m_high_a m_half_a m_states_a m_favourites_a m_quotas_a m_digits_a m_draft_a m_given_a m_begins_a m_picture_k m_file_k m_layers_k m_wide_k m_high_k m_half_k m_states_k m_favourites_k m_quotas_k m_digits_k m_draft_k m_given_k m_begins_k m_code m_width m_height m_picture m_length m_file m_any m_decisions m_plains m_doubles (upd m_layers_15 (((256 : Int32) * i_k) + x2_15).toNatClampNeg (m_picture x2_15.toNatClampNeg)) m_wide_15 m_high_15 m_half m_states m_favourites m_quotas m_span m_nowDecisions m_nowPlains m_nowDoubles m_digits m_digitCount m_draft m_draftSize m_taking m_given m_givenSize m_next m_above m_begins m_layerCount m_newWidth m_newHeight) H := hP
        have hD : va_D A (W_X m_0 m_picture_a m_file_a m_layers_a m_wide_a m_high_a m_half_a m_states_a m_favourites_a m_quotas_a m_digits_a m_draft_a m_given_a m_begins_a m_picture_k m_file_k m_layers_k m_wide_k m_high_k m_half_k m_states_k m_favourites_k m_quotas_k m_digits_k m_draft_k m_given_k m_begins_k m_code m_width m_height m_picture m_length m_file m_any m_decisions m_plains m_doubles (upd m_layers_15 (((256 : Int32) * i_k) + x2_15).toNatClampNeg (m_picture x2_15.toNatClampNeg)) m_wide_15 m_high_15 m_half m_states m_favourites m_quotas m_span m_nowDecisions m_nowPlains m_nowDoubles m_digits m_digitCount m_draft m_draftSize m_taking m_given m_givenSize m_next m_above m_begins m_layerCount m_newWidth m_newHeight) := hD
        refine lv_iinc (k := 2) (v := x2_15 + (1 : Int32)) (lv' := [(2, .int (x2_15 + (1 : Int32))), (0, .ref m_0), (1, .int i_k)]) hx hb d_Mod_takePicture_40 hl rfl rfl (by decide) rfl (fun ls hl => ?_)
        refine lv_goto (tgt := 15) hx hb d_Mod_takePicture_43 rfl ?_
        exact ih15 (x2_15 + (1 : Int32)) (upd m_layers_15 (((256 : Int32) * i_k) + x2_15).toNatClampNeg (m_picture x2_15.toNatClampNeg)) m_wide_15 m_high_15 H locs ls (lv_sub hl [1, 2, 0] rfl) hP hD hS h
  have h := hq
  refine lv_aload_n hx hb d_Mod_takePicture_0 rfl (lv_at hl 0 rfl) ?_
  refine lv_iload_n hx hb d_Mod_takePicture_1 rfl (lv_at hl 1 rfl) ?_
  refine lv_aload_n hx hb d_Mod_takePicture_2 rfl (lv_at hl 0 rfl) ?_
  refine va_get (D := (dC, dI)) (ci := 7) (v := .int m_width) (C := R_Mod) (T := F_Mod) (N := 34) hx hb hts in_Mod hown hK hP 0 rfl rfl 1 (by decide) (hts _ tt638) (fun _ h9 => h9) rfl d_Mod_takePicture_3 ?_
  refine lv_aload_n hx hb d_Mod_takePicture_6 rfl (lv_at hl 0 rfl) ?_
  refine va_get (D := (dC, dI)) (ci := 7) (v := .int m_height) (C := R_Mod) (T := F_Mod) (N := 34) hx hb hts in_Mod hown hK hP 0 rfl rfl 2 (by decide) (hts _ tt639) (fun _ h9 => h9) rfl d_Mod_takePicture_7 ?_
  obtain ⟨z1, hz1, h⟩ := ob h
  refine x_goV (w1 := (W_X m_0 m_picture_a m_file_a m_layers_a m_wide_a m_high_a m_half_a m_states_a m_favourites_a m_quotas_a m_digits_a m_draft_a m_given_a m_begins_a m_picture_k m_file_k m_layers_k m_wide_k m_high_k m_half_k m_states_k m_favourites_k m_quotas_k m_digits_k m_draft_k m_given_k m_begins_k m_code m_width m_height m_picture m_length m_file m_any m_decisions m_plains m_doubles m_layers z1.1 z1.2 m_half m_states m_favourites m_quotas m_span m_nowDecisions m_nowPlains m_nowDoubles m_digits m_digitCount m_draft m_draftSize m_taking m_given m_givenSize m_next m_above m_begins m_layerCount m_newWidth m_newHeight)) (ws' := (W_X m_0 m_picture_a m_file_a m_layers_a m_wide_a m_high_a m_half_a m_states_a m_favourites_a m_quotas_a m_digits_a m_draft_a m_given_a m_begins_a m_picture_k m_file_k m_layers_k m_wide_k m_high_k m_half_k m_states_k m_favourites_k m_quotas_k m_digits_k m_draft_k m_given_k m_begins_k m_code m_width m_height m_picture m_length m_file m_any m_decisions m_plains m_doubles m_layers z1.1 z1.2 m_half m_states m_favourites m_quotas m_span m_nowDecisions m_nowPlains m_nowDoubles m_digits m_digitCount m_draft m_draftSize m_taking m_given m_givenSize m_next m_above m_begins m_layerCount m_newWidth m_newHeight)) (wr := List.filterMap (fun (i : Nat) => (W_X m_0 m_picture_a m_file_a m_layers_a m_wide_a m_high_a m_half_a m_states_a m_favourites_a m_quotas_a m_digits_a m_draft_a m_given_a m_begins_a m_picture_k m_file_k m_layers_k m_wide_k m_high_k m_half_k m_states_k m_favourites_k m_quotas_k m_digits_k m_draft_k m_given_k m_begins_k m_code m_width m_height m_picture m_length m_file m_any m_decisions m_plains m_doubles m_layers m_wide m_high m_half m_states m_favourites m_quotas m_span m_nowDecisions m_nowPlains m_nowDoubles m_digits m_digitCount m_draft m_draftSize m_taking m_given m_givenSize m_next m_above m_begins m_layerCount m_newWidth m_newHeight)[i]?) ([] : List Nat)) (va_runV (As := [.int i_k, .int m_width, .int m_height]) (rest := []) ⟨hx, hb, hml, hown, hts⟩ (c_Mod_become l dC dI m_0 m_picture_a m_file_a m_layers_a m_wide_a m_high_a m_half_a m_states_a m_favourites_a m_quotas_a m_digits_a m_draft_a m_given_a m_begins_a m_picture_k m_file_k m_layers_k m_wide_k m_high_k m_half_k m_states_k m_favourites_k m_quotas_k m_digits_k m_draft_k m_given_k m_begins_k i_k m_width m_height m_code m_width m_height m_picture m_length m_file m_any m_decisions m_plains m_doubles m_layers m_wide m_high m_half m_states m_favourites m_quotas m_span m_nowDecisions m_nowPlains m_nowDoubles m_digits m_digitCount m_draft m_draftSize m_taking m_given m_givenSize m_next m_above m_begins m_layerCount m_newWidth m_newHeight z1  hz1 H.size) ⟨callB_of 3 hts (gT tt786 TT_good) rfl rfl rfl (hts _ tt53) (hts _ tt783) (by decide +kernel) ⟨Nat.le_of_ble_eq_true rfl, Nat.le_of_ble_eq_true rfl⟩, hts _ tt785, hts _ tt20⟩ (x_preV (q := (R_Mod, F_Mod, 34)) (As := [.int i_k, .int m_width, .int m_height]) (x_pre (wc := (W_X m_0 m_picture_a m_file_a m_layers_a m_wide_a m_high_a m_half_a m_states_a m_favourites_a m_quotas_a m_digits_a m_draft_a m_given_a m_begins_a m_picture_k m_file_k m_layers_k m_wide_k m_high_k m_half_k m_states_k m_favourites_k m_quotas_k m_digits_k m_draft_k m_given_k m_begins_k m_code m_width m_height m_picture m_length m_file m_any m_decisions m_plains m_doubles m_layers m_wide m_high m_half m_states m_favourites m_quotas m_span m_nowDecisions m_nowPlains m_nowDoubles m_digits m_digitCount m_draft m_draftSize m_taking m_given m_givenSize m_next m_above m_begins m_layerCount m_newWidth m_newHeight)) (av := (.ref m_0 :: [.int i_k, .int m_width, .int m_height])) hK hP hD hS hA hG [0, 1, 2, 3, 4, 5, 6, 7, 8, 9, 10, 11, 12] [0, 1, 2, 3, 4, 5, 6, 7, 8, 9, 10, 11, 12, 13] rfl rfl (by decide)) hK hP (q0 := 0) rfl rfl) rfl rfl hl.1 rfl (lv_room (Nat.le_of_ble_eq_true rfl)) d_Mod_takePicture_10 ⟨Nat.zero_le _, Nat.zero_le _⟩) hP hD hS hA [0, 1, 2, 3, 4, 5, 6, 7, 8, 9, 10, 11, 12, 13] [] [0, 1, 2, 3, 4, 5, 6, 7, 8, 9, 10, 11, 12, 13] rfl rfl (by decide) (by decide) (by decide) rfl (fun H locs hP hD hS => ?_)
  refine lv_iconst (v := (0 : Int32)) hx hb d_Mod_takePicture_13 (by decide) ?_
  refine lv_istore_n (lv' := [(2, .int (0 : Int32)), (0, .ref m_0), (1, .int i_k)]) hx hb d_Mod_takePicture_14 rfl hl (by decide) rfl (fun ls hl => ?_)
  exact L15 5000 (0 : Int32) m_layers z1.1 z1.2 H locs ls (lv_sub hl [1, 2, 0] rfl) hP hD hS h
theorem d_Mod_halve_0 : decode b_Mod_halve 0 = .ok (.aload_n 0, 1) := by decide +kernel
theorem d_Mod_halve_1 : decode b_Mod_halve 1 = .ok (.iconst (0), 1) := by decide +kernel
theorem d_Mod_halve_2 : decode b_Mod_halve 2 = .ok (.putfield 56, 3) := by decide +kernel
theorem d_Mod_halve_5 : decode b_Mod_halve 5 = .ok (.aload_n 0, 1) := by decide +kernel
theorem d_Mod_halve_6 : decode b_Mod_halve 6 = .ok (.iconst (0), 1) := by decide +kernel
theorem d_Mod_halve_7 : decode b_Mod_halve 7 = .ok (.invokevirtual 79, 3) := by decide +kernel
theorem d_Mod_halve_10 : decode b_Mod_halve 10 = .ok (.aload_n 0, 1) := by decide +kernel
theorem d_Mod_halve_11 : decode b_Mod_halve 11 = .ok (.iconst (0), 1) := by decide +kernel
theorem d_Mod_halve_12 : decode b_Mod_halve 12 = .ok (.invokevirtual 83, 3) := by decide +kernel
theorem d_Mod_halve_15 : decode b_Mod_halve 15 = .ok (.aload_n 0, 1) := by decide +kernel
theorem d_Mod_halve_16 : decode b_Mod_halve 16 = .ok (.aload_n 0, 1) := by decide +kernel
theorem d_Mod_halve_17 : decode b_Mod_halve 17 = .ok (.getfield 7, 3) := by decide +kernel
theorem d_Mod_halve_20 : decode b_Mod_halve 20 = .ok (.iconst (1), 1) := by decide +kernel
theorem d_Mod_halve_21 : decode b_Mod_halve 21 = .ok (.iadd, 1) := by decide +kernel
theorem d_Mod_halve_22 : decode b_Mod_halve 22 = .ok (.iconst (2), 1) := by decide +kernel
theorem d_Mod_halve_23 : decode b_Mod_halve 23 = .ok (.idiv, 1) := by decide +kernel
theorem d_Mod_halve_24 : decode b_Mod_halve 24 = .ok (.putfield 7, 3) := by decide +kernel
theorem d_Mod_halve_27 : decode b_Mod_halve 27 = .ok (.aload_n 0, 1) := by decide +kernel
theorem d_Mod_halve_28 : decode b_Mod_halve 28 = .ok (.aload_n 0, 1) := by decide +kernel
theorem d_Mod_halve_29 : decode b_Mod_halve 29 = .ok (.getfield 13, 3) := by decide +kernel
theorem d_Mod_halve_32 : decode b_Mod_halve 32 = .ok (.iconst (1), 1) := by decide +kernel
theorem d_Mod_halve_33 : decode b_Mod_halve 33 = .ok (.iadd, 1) := by decide +kernel
theorem d_Mod_halve_34 : decode b_Mod_halve 34 = .ok (.iconst (2), 1) := by decide +kernel
theorem d_Mod_halve_35 : decode b_Mod_halve 35 = .ok (.idiv, 1) := by decide +kernel
theorem d_Mod_halve_36 : decode b_Mod_halve 36 = .ok (.putfield 13, 3) := by decide +kernel
theorem d_Mod_halve_39 : decode b_Mod_halve 39 = .ok (.iconst (0), 1) := by decide +kernel
theorem d_Mod_halve_40 : decode b_Mod_halve 40 = .ok (.istore_n 1, 1) := by decide +kernel
theorem d_Mod_halve_41 : decode b_Mod_halve 41 = .ok (.iload_n 1, 1) := by decide +kernel
theorem d_Mod_halve_42 : decode b_Mod_halve 42 = .ok (.sipush (256), 3) := by decide +kernel
theorem d_Mod_halve_45 : decode b_Mod_halve 45 = .ok (.if_icmp .ge (21), 3) := by decide +kernel
theorem d_Mod_halve_48 : decode b_Mod_halve 48 = .ok (.aload_n 0, 1) := by decide +kernel
theorem d_Mod_halve_49 : decode b_Mod_halve 49 = .ok (.getfield 16, 3) := by decide +kernel
theorem d_Mod_halve_52 : decode b_Mod_halve 52 = .ok (.iload_n 1, 1) := by decide +kernel
theorem d_Mod_halve_53 : decode b_Mod_halve 53 = .ok (.aload_n 0, 1) := by decide +kernel
theorem d_Mod_halve_54 : decode b_Mod_halve 54 = .ok (.getfield 32, 3) := by decide +kernel
theorem d_Mod_halve_57 : decode b_Mod_halve 57 = .ok (.iload_n 1, 1) := by decide +kernel
theorem d_Mod_halve_58 : decode b_Mod_halve 58 = .ok (.iaload, 1) := by decide +kernel
theorem d_Mod_halve_59 : decode b_Mod_halve 59 = .ok (.iastore, 1) := by decide +kernel
theorem d_Mod_halve_60 : decode b_Mod_halve 60 = .ok (.iinc 1 (1), 3) := by decide +kernel
theorem d_Mod_halve_63 : decode b_Mod_halve 63 = .ok (.goto (-22), 3) := by decide +kernel
theorem d_Mod_halve_66 : decode b_Mod_halve 66 = .ok (.return_, 1) := by decide +kernel
def q_Mod_halve_41   : Nat → Int32 → Int32 → Int32 → Int32 → (Nat → Int32) → (Nat → Int32) → (Nat → Int32) → (Nat → Int32) → (Nat → Int32) → Option (Int32 × Int32 × Int32 × (Nat → Int32) × (Nat → Int32) × (Nat → Int32) × (Nat → Int32) × (Nat → Int32))
  | 0, _, _, _, _, _, _, _, _, _ => none
  | n + 1, x1_41, m_code_41, m_width_41, m_height_41, m_picture_41, m_layers_41, m_wide_41, m_high_41, m_half_41 => (if (256 : Int32) ≤ x1_41 then some (m_code_41, m_width_41, m_height_41, m_picture_41, m_layers_41, m_wide_41, m_high_41, m_half_41) else (if vpb x1_41 256 = true then (if vpb x1_41 256 = true then (q_Mod_halve_41  n (x1_41 + (1 : Int32)) m_code_41 m_width_41 m_height_41 (upd m_picture_41 x1_41.toNatClampNeg (m_half_41 x1_41.toNatClampNeg)) m_layers_41 m_wide_41 m_high_41 m_half_41) else none) else none))
def q_Mod_halve  (m_code : Int32) (m_width : Int32) (m_height : Int32) (m_picture : Nat → Int32) (m_layers : Nat → Int32) (m_wide : Nat → Int32) (m_high : Nat → Int32) (m_half : Nat → Int32) : Option (Int32 × Int32 × Int32 × (Nat → Int32) × (Nat → Int32) × (Nat → Int32) × (Nat → Int32) × (Nat → Int32)) := ((q_Mod_takePicture (0 : Int32) m_width m_height m_picture m_layers m_wide m_high).bind fun z1 => ((q_Mod_reduce (0 : Int32) z1.1 z1.2.1 z1.2.2 m_half).bind fun z2 => (q_Mod_halve_41   5000 (0 : Int32) (0 : Int32) ((m_width + (1 : Int32)) / (2 : Int32)) ((m_height + (1 : Int32)) / (2 : Int32)) m_picture z1.1 z1.2.1 z1.2.2 z2)))
abbrev rm_Mod_halve : Room := { frames := 4, cells := 0, slots := 0, locals := 97 }
set_option maxHeartbeats 4000000 in
set_option maxRecDepth 100000 in
theorem c_Mod_halve (l : Launch) (dC : Nat → ClassId) (dI : Nat → Nat → Nat) (m_0 m_picture_a m_file_a m_layers_a m_wide_a m_high_a m_half_a m_states_a m_favourites_a m_quotas_a m_digits_a m_draft_a m_given_a m_begins_a : Nat) (m_picture_k m_file_k m_layers_k m_wide_k m_high_k m_half_k m_states_k m_favourites_k m_quotas_k m_digits_k m_draft_k m_given_k m_begins_k : ClassId)  (m_code : Int32) (m_width : Int32) (m_height : Int32) (m_picture : Nat → Int32) (m_length : Int32) (m_file : Nat → Int32) (m_any : Int32) (m_decisions : Int32) (m_plains : Int32) (m_doubles : Int32) (m_layers : Nat → Int32) (m_wide : Nat → Int32) (m_high : Nat → Int32) (m_half : Nat → Int32) (m_states : Nat → Int32) (m_favourites : Nat → Int32) (m_quotas : Nat → Int32) (m_span : Int32) (m_nowDecisions : Int32) (m_nowPlains : Int32) (m_nowDoubles : Int32) (m_digits : Nat → Int32) (m_digitCount : Int32) (m_draft : Nat → Int32) (m_draftSize : Int32) (m_taking : Int32) (m_given : Nat → Int32) (m_givenSize : Int32) (m_next : Int32) (m_above : Int32) (m_begins : Nat → Int32) (m_layerCount : Int32) (m_newWidth : Int32) (m_newHeight : Int32) (z : Int32 × Int32 × Int32 × (Nat → Int32) × (Nat → Int32) × (Nat → Int32) × (Nat → Int32) × (Nat → Int32))  (hq : q_Mod_halve m_code m_width m_height m_picture m_layers m_wide m_high m_half = some z) (sz : Nat) : MetV l y_Mod_halve b_Mod_halve 2 TT rm_Mod_halve (dC, dI) vcl [(m_picture_k, .int), (m_file_k, .int), (m_layers_k, .int), (m_wide_k, .int), (m_high_k, .int), (m_half_k, .int), (m_states_k, .int), (m_favourites_k, .int), (m_quotas_k, .int), (m_digits_k, .int), (m_draft_k, .int), (m_given_k, .int), (m_begins_k, .int)] (W_X m_0 m_picture_a m_file_a m_layers_a m_wide_a m_high_a m_half_a m_states_a m_favourites_a m_quotas_a m_digits_a m_draft_a m_given_a m_begins_a m_picture_k m_file_k m_layers_k m_wide_k m_high_k m_half_k m_states_k m_favourites_k m_quotas_k m_digits_k m_draft_k m_given_k m_begins_k m_code m_width m_height m_picture m_length m_file m_any m_decisions m_plains m_doubles m_layers m_wide m_high m_half m_states m_favourites m_quotas m_span m_nowDecisions m_nowPlains m_nowDoubles m_digits m_digitCount m_draft m_draftSize m_taking m_given m_givenSize m_next m_above m_begins m_layerCount m_newWidth m_newHeight) (W_X m_0 m_picture_a m_file_a m_layers_a m_wide_a m_high_a m_half_a m_states_a m_favourites_a m_quotas_a m_digits_a m_draft_a m_given_a m_begins_a m_picture_k m_file_k m_layers_k m_wide_k m_high_k m_half_k m_states_k m_favourites_k m_quotas_k m_digits_k m_draft_k m_given_k m_begins_k z.1 z.2.1 z.2.2.1 z.2.2.2.1 m_length m_file m_any m_decisions m_plains m_doubles z.2.2.2.2.1 z.2.2.2.2.2.1 z.2.2.2.2.2.2.1 z.2.2.2.2.2.2.2 m_states m_favourites m_quotas m_span m_nowDecisions m_nowPlains m_nowDoubles m_digits m_digitCount m_draft m_draftSize m_taking m_given m_givenSize m_next m_above m_begins m_layerCount m_newWidth m_newHeight) [.ref m_0] sz := by
  refine x_ofV (by decide) (Nat.le_of_ble_eq_true rfl) ?_ sz
  intro p e s m args below meth c A Q ls hx hb hml hown hts hA hG hK hP hD hS hl hret
  have hown : s.vm.findClass R_Mod = some m.cls := hown
  have hl : lv_has ls 2 [(0, .ref m_0)] := hl
  obtain ⟨⟨tq, hZ, hTq⟩, hN⟩ := id hG
  obtain ⟨H, hH⟩ : ∃ H, H = s.heap := ⟨_, rfl⟩
  obtain ⟨locs, hlocs⟩ : ∃ locs : List Loc, locs = [] := ⟨_, rfl⟩
  rw [← hH] at hP
  have hS : va_S A s.heap H locs := by rw [hH, hlocs]; exact hS
  suffices hgo : W p l e rm_Mod_halve s m args below meth c H locs 0 0 Q (F0 m 0 ls []) by rw [hH, hlocs] at hgo; exact hgo
  unfold q_Mod_halve at hq
  have L41 : ∀ (n41 : Nat) (x1_41 : Int32) (m_code_41 : Int32) (m_width_41 : Int32) (m_height_41 : Int32) (m_picture_41 : Nat → Int32) (m_layers_41 : Nat → Int32) (m_wide_41 : Nat → Int32) (m_high_41 : Nat → Int32) (m_half_41 : Nat → Int32) (H : Heap) (locs : List Loc) (ls : Array Slot), lv_has ls 2 [(0, .ref m_0), (1, .int x1_41)] → va_P (dC, dI) vcl (W_X m_0 m_picture_a m_file_a m_layers_a m_wide_a m_high_a m_half_a m_states_a m_favourites_a m_quotas_a m_digits_a m_draft_a m_given_a m_begins_a m_picture_k m_file_k m_layers_k m_wide_k m_high_k m_half_k m_states_k m_favourites_k m_quotas_k m_digits_k m_draft_k m_given_k m_begins_k m_code_41 m_width_41 m_height_41 m_picture_41 m_length m_file m_any m_decisions m_plains m_doubles m_layers_41 m_wide_41 m_high_41 m_half_41 m_states m_favourites m_quotas m_span m_nowDecisions m_nowPlains m_nowDoubles m_digits m_digitCount m_draft m_draftSize m_taking m_given m_givenSize m_next m_above m_begins m_layerCount m_newWidth m_newHeight) H → va_D A (W_X m_0 m_picture_a m_file_a m_layers_a m_wide_a m_high_a m_half_a m_states_a m_favourites_a m_quotas_a m_digits_a m_draft_a m_given_a m_begins_a m_picture_k m_file_k m_layers_k m_wide_k m_high_k m_half_k m_states_k m_favourites_k m_quotas_k m_digits_k m_draft_k m_given_k m_begins_k m_code_41 m_width_41 m_height_41 m_picture_41 m_length m_file m_any m_decisions m_plains m_doubles m_layers_41 m_wide_41 m_high_41 m_half_41 m_states m_favourites m_quotas m_span m_nowDecisions m_nowPlains m_nowDoubles m_digits m_digitCount m_draft m_draftSize m_taking m_given m_givenSize m_next m_above m_begins m_layerCount m_newWidth m_newHeight) → va_S A s.heap H locs → q_Mod_halve_41   n41 x1_41 m_code_41 m_width_41 m_height_41 m_picture_41 m_layers_41 m_wide_41 m_high_41 m_half_41 = some z → W p l e rm_Mod_halve s m args below meth c H locs 0 0 Q (F0 m 41 ls []) := by
    intro n41
    induction n41 with
    | zero =>
      intro x1_41 m_code_41 m_width_41 m_height_41 m_picture_41 m_layers_41 m_wide_41 m_high_41 m_half_41 H locs ls hl hP hD hS hq
      rw [q_Mod_halve_41] at hq
      cases hq
    | succ n41 ih41 =>
      intro x1_41 m_code_41 m_width_41 m_height_41 m_picture_41 m_layers_41 m_wide_41 m_high_41 m_half_41 H locs ls hl hP hD hS hq41
      rw [q_Mod_halve_41] at hq41
      have h := hq41
      refine lv_iload_n hx hb d_Mod_halve_41 rfl (lv_at hl 1 rfl) ?_
      refine lv_sipush (v := (256 : Int32)) hx hb d_Mod_halve_42 (by decide) ?_
      refine lv_icmp_ge (tgt := 66) hx hb d_Mod_halve_45 rfl (fun hc => ?_) (fun hc => ?_)
      · replace h := ot hc h
        obtain rfl := Option.some.inj h
        exact hret H locs 66 ls d_Mod_halve_66 hP hD hS
      · replace h := of hc h
        refine lv_aload_n hx hb d_Mod_halve_48 rfl (lv_at hl 0 rfl) ?_
        refine va_get (D := (dC, dI)) (ci := 7) (v := .ref m_picture_a) (C := R_Mod) (T := F_Mod) (N := 34) hx hb hts in_Mod hown hK hP 0 rfl rfl 3 (by decide) (hts _ tt640) (fun _ h9 => h9) rfl d_Mod_halve_49 ?_
        refine lv_iload_n hx hb d_Mod_halve_52 rfl (lv_at hl 1 rfl) ?_
        refine lv_aload_n hx hb d_Mod_halve_53 rfl (lv_at hl 0 rfl) ?_
        refine va_get (D := (dC, dI)) (ci := 7) (v := .ref m_half_a) (C := R_Mod) (T := F_Mod) (N := 34) hx hb hts in_Mod hown hK hP 0 rfl rfl 13 (by decide) (hts _ tt650) (fun _ h9 => h9) rfl d_Mod_halve_54 ?_
        refine lv_iload_n hx hb d_Mod_halve_57 rfl (lv_at hl 1 rfl) ?_
        obtain ⟨hin, h⟩ := og h
        refine va_iald hx hb hK hP 6 5 rfl rfl (vpb_in hin) d_Mod_halve_58 ?_
        obtain ⟨hin, h⟩ := og h
        refine va_iast hx hb hK hP hD hS 1 0 rfl rfl (vpb_in hin) d_Mod_halve_59 (fun H locs hP hD hS => ?_)
        have hP : va_P (dC, dI) vcl (W_X m_0 m_picture_a m_file_a m_layers_a m_wide_a m_high_a m_half_a m_states_a m_favourites_a m_quotas_a m_digits_a m_draft_a m_given_a m_begins_a m_picture_k m_file_k m_layers_k m_wide_k m_high_k m_half_k m_states_k m_favourites_k m_quotas_k m_digits_k m_draft_k m_given_k m_begins_k m_code_41 m_width_41 m_height_41 (upd m_picture_41 x1_41.toNatClampNeg (m_half_41 x1_41.toNatClampNeg)) m_length m_file m_any m_decisions m_plains m_doubles m_layers_41 m_wide_41 m_high_41 m_half_41 m_states m_favourites m_quotas m_span m_nowDecisions m_nowPlains m_nowDoubles m_digits m_digitCount m_draft m_draftSize m_taking m_given m_givenSize m_next m_above m_begins m_layerCount m_newWidth m_newHeight) H := hP
        have hD : va_D A (W_X m_0 m_picture_a m_file_a m_layers_a m_wide_a m_high_a m_half_a m_states_a m_favourites_a m_quotas_a m_digits_a m_draft_a m_given_a m_begins_a m_picture_k m_file_k m_layers_k m_wide_k m_high_k m_half_k m_states_k m_favourites_k m_quotas_k m_digits_k m_draft_k m_given_k m_begins_k m_code_41 m_width_41 m_height_41 (upd m_picture_41 x1_41.toNatClampNeg (m_half_41 x1_41.toNatClampNeg)) m_length m_file m_any m_decisions m_plains m_doubles m_layers_41 m_wide_41 m_high_41 m_half_41 m_states m_favourites m_quotas m_span m_nowDecisions m_nowPlains m_nowDoubles m_digits m_digitCount m_draft m_draftSize m_taking m_given m_givenSize m_next m_above m_begins m_layerCount m_newWidth m_newHeight) := hD
        refine lv_iinc (k := 1) (v := x1_41 + (1 : Int32)) (lv' := [(1, .int (x1_41 + (1 : Int32))), (0, .ref m_0)]) hx hb d_Mod_halve_60 hl rfl rfl (by decide) rfl (fun ls hl => ?_)
        refine lv_goto (tgt := 41) hx hb d_Mod_halve_63 rfl ?_
        exact ih41 (x1_41 + (1 : Int32)) m_code_41 m_width_41 m_height_41 (upd m_picture_41 x1_41.toNatClampNeg (m_half_41 x1_41.toNatClampNeg)) m_layers_41 m_wide_41 m_high_41 m_half_41 H locs ls (lv_sub hl [1, 0] rfl) hP hD hS h
  have h := hq
  refine lv_aload_n hx hb d_Mod_halve_0 rfl (lv_at hl 0 rfl) ?_
  refine lv_iconst (v := (0 : Int32)) hx hb d_Mod_halve_1 (by decide) ?_
  refine va_put (D := (dC, dI)) (ci := 7) (v := .int (0 : Int32)) (ty := .int) (C := R_Mod) (T := F_Mod) (N := 34) hx hb hts in_Mod t_Mod t_Mod_ok n_Mod hown hK hP hD hS 0 rfl rfl 0 (by decide) (hts _ tt637) (fun _ h9 => h9) rfl (by decide +kernel) rfl rfl (Nat.le_of_ble_eq_true rfl) d_Mod_halve_2 (fun H locs hP hD hS => ?_)
  have hP : va_P (dC, dI) vcl (W_X m_0 m_picture_a m_file_a m_layers_a m_wide_a m_high_a m_half_a m_states_a m_favourites_a m_quotas_a m_digits_a m_draft_a m_given_a m_begins_a m_picture_k m_file_k m_layers_k m_wide_k m_high_k m_half_k m_states_k m_favourites_k m_quotas_k m_digits_k m_draft_k m_given_k m_begins_k (0 : Int32) m_width m_height m_picture m_length m_file m_any m_decisions m_plains m_doubles m_layers m_wide m_high m_half m_states m_favourites m_quotas m_span m_nowDecisions m_nowPlains m_nowDoubles m_digits m_digitCount m_draft m_draftSize m_taking m_given m_givenSize m_next m_above m_begins m_layerCount m_newWidth m_newHeight) H := hP
  have hD : va_D A (W_X m_0 m_picture_a m_file_a m_layers_a m_wide_a m_high_a m_half_a m_states_a m_favourites_a m_quotas_a m_digits_a m_draft_a m_given_a m_begins_a m_picture_k m_file_k m_layers_k m_wide_k m_high_k m_half_k m_states_k m_favourites_k m_quotas_k m_digits_k m_draft_k m_given_k m_begins_k (0 : Int32) m_width m_height m_picture m_length m_file m_any m_decisions m_plains m_doubles m_layers m_wide m_high m_half m_states m_favourites m_quotas m_span m_nowDecisions m_nowPlains m_nowDoubles m_digits m_digitCount m_draft m_draftSize m_taking m_given m_givenSize m_next m_above m_begins m_layerCount m_newWidth m_newHeight) := hD
  refine lv_aload_n hx hb d_Mod_halve_5 rfl (lv_at hl 0 rfl) ?_
  refine lv_iconst (v := (0 : Int32)) hx hb d_Mod_halve_6 (by decide) ?_
  obtain ⟨z1, hz1, h⟩ := ob h
  refine x_goV (w1 := (W_X m_0 m_picture_a m_file_a m_layers_a m_wide_a m_high_a m_half_a m_states_a m_favourites_a m_quotas_a m_digits_a m_draft_a m_given_a m_begins_a m_picture_k m_file_k m_layers_k m_wide_k m_high_k m_half_k m_states_k m_favourites_k m_quotas_k m_digits_k m_draft_k m_given_k m_begins_k (0 : Int32) m_width m_height m_picture m_length m_file m_any m_decisions m_plains m_doubles z1.1 z1.2.1 z1.2.2 m_half m_states m_favourites m_quotas m_span m_nowDecisions m_nowPlains m_nowDoubles m_digits m_digitCount m_draft m_draftSize m_taking m_given m_givenSize m_next m_above m_begins m_layerCount m_newWidth m_newHeight)) (ws' := (W_X m_0 m_picture_a m_file_a m_layers_a m_wide_a m_high_a m_half_a m_states_a m_favourites_a m_quotas_a m_digits_a m_draft_a m_given_a m_begins_a m_picture_k m_file_k m_layers_k m_wide_k m_high_k m_half_k m_states_k m_favourites_k m_quotas_k m_digits_k m_draft_k m_given_k m_begins_k (0 : Int32) m_width m_height m_picture m_length m_file m_any m_decisions m_plains m_doubles z1.1 z1.2.1 z1.2.2 m_half m_states m_favourites m_quotas m_span m_nowDecisions m_nowPlains m_nowDoubles m_digits m_digitCount m_draft m_draftSize m_taking m_given m_givenSize m_next m_above m_begins m_layerCount m_newWidth m_newHeight)) (wr := List.filterMap (fun (i : Nat) => (W_X m_0 m_picture_a m_file_a m_layers_a m_wide_a m_high_a m_half_a m_states_a m_favourites_a m_quotas_a m_digits_a m_draft_a m_given_a m_begins_a m_picture_k m_file_k m_layers_k m_wide_k m_high_k m_half_k m_states_k m_favourites_k m_quotas_k m_digits_k m_draft_k m_given_k m_begins_k (0 : Int32) m_width m_height m_picture m_length m_file m_any m_decisions m_plains m_doubles m_layers m_wide m_high m_half m_states m_favourites m_quotas m_span m_nowDecisions m_nowPlains m_nowDoubles m_digits m_digitCount m_draft m_draftSize m_taking m_given m_givenSize m_next m_above m_begins m_layerCount m_newWidth m_newHeight)[i]?) ([] : List Nat)) (va_runV (As := [.int (0 : Int32)]) (rest := []) ⟨hx, hb, hml, hown, hts⟩ (c_Mod_takePicture l dC dI m_0 m_picture_a m_file_a m_layers_a m_wide_a m_high_a m_half_a m_states_a m_favourites_a m_quotas_a m_digits_a m_draft_a m_given_a m_begins_a m_picture_k m_file_k m_layers_k m_wide_k m_high_k m_half_k m_states_k m_favourites_k m_quotas_k m_digits_k m_draft_k m_given_k m_begins_k (0 : Int32) (0 : Int32) m_width m_height m_picture m_length m_file m_any m_decisions m_plains m_doubles m_layers m_wide m_high m_half m_states m_favourites m_quotas m_span m_nowDecisions m_nowPlains m_nowDoubles m_digits m_digitCount m_draft m_draftSize m_taking m_given m_givenSize m_next m_above m_begins m_layerCount m_newWidth m_newHeight z1  hz1 H.size) ⟨callB_of 1 hts (gT tt782 TT_good) rfl rfl rfl (hts _ tt53) (hts _ tt779) (by decide +kernel) ⟨Nat.le_of_ble_eq_true rfl, Nat.le_of_ble_eq_true rfl⟩, hts _ tt781, hts _ tt19⟩ (x_preV (q := (R_Mod, F_Mod, 34)) (As := [.int (0 : Int32)]) (x_pre (wc := (W_X m_0 m_picture_a m_file_a m_layers_a m_wide_a m_high_a m_half_a m_states_a m_favourites_a m_quotas_a m_digits_a m_draft_a m_given_a m_begins_a m_picture_k m_file_k m_layers_k m_wide_k m_high_k m_half_k m_states_k m_favourites_k m_quotas_k m_digits_k m_draft_k m_given_k m_begins_k (0 : Int32) m_width m_height m_picture m_length m_file m_any m_decisions m_plains m_doubles m_layers m_wide m_high m_half m_states m_favourites m_quotas m_span m_nowDecisions m_nowPlains m_nowDoubles m_digits m_digitCount m_draft m_draftSize m_taking m_given m_givenSize m_next m_above m_begins m_layerCount m_newWidth m_newHeight)) (av := (.ref m_0 :: [.int (0 : Int32)])) hK hP hD hS hA hG [0, 1, 2, 3, 4, 5, 6, 7, 8, 9, 10, 11, 12] [0, 1, 2, 3, 4, 5, 6, 7, 8, 9, 10, 11, 12, 13] rfl rfl (by decide)) hK hP (q0 := 0) rfl rfl) rfl rfl hl.1 rfl (lv_room (Nat.le_of_ble_eq_true rfl)) d_Mod_halve_7 ⟨Nat.zero_le _, Nat.zero_le _⟩) hP hD hS hA [0, 1, 2, 3, 4, 5, 6, 7, 8, 9, 10, 11, 12, 13] [] [0, 1, 2, 3, 4, 5, 6, 7, 8, 9, 10, 11, 12, 13] rfl rfl (by decide) (by decide) (by decide) rfl (fun H locs hP hD hS => ?_)
  refine lv_aload_n hx hb d_Mod_halve_10 rfl (lv_at hl 0 rfl) ?_
  refine lv_iconst (v := (0 : Int32)) hx hb d_Mod_halve_11 (by decide) ?_
  obtain ⟨z2, hz2, h⟩ := ob h
  refine x_goV (w1 := (W_X m_0 m_picture_a m_file_a m_layers_a m_wide_a m_high_a m_half_a m_states_a m_favourites_a m_quotas_a m_digits_a m_draft_a m_given_a m_begins_a m_picture_k m_file_k m_layers_k m_wide_k m_high_k m_half_k m_states_k m_favourites_k m_quotas_k m_digits_k m_draft_k m_given_k m_begins_k (0 : Int32) m_width m_height m_picture m_length m_file m_any m_decisions m_plains m_doubles z1.1 z1.2.1 z1.2.2 z2 m_states m_favourites m_quotas m_span m_nowDecisions m_nowPlains m_nowDoubles m_digits m_digitCount m_draft m_draftSize m_taking m_given m_givenSize m_next m_above m_begins m_layerCount m_newWidth m_newHeight)) (ws' := (W_X m_0 m_picture_a m_file_a m_layers_a m_wide_a m_high_a m_half_a m_states_a m_favourites_a m_quotas_a m_digits_a m_draft_a m_given_a m_begins_a m_picture_k m_file_k m_layers_k m_wide_k m_high_k m_half_k m_states_k m_favourites_k m_quotas_k m_digits_k m_draft_k m_given_k m_begins_k (0 : Int32) m_width m_height m_picture m_length m_file m_any m_decisions m_plains m_doubles z1.1 z1.2.1 z1.2.2 z2 m_states m_favourites m_quotas m_span m_nowDecisions m_nowPlains m_nowDoubles m_digits m_digitCount m_draft m_draftSize m_taking m_given m_givenSize m_next m_above m_begins m_layerCount m_newWidth m_newHeight)) (wr := List.filterMap (fun (i : Nat) => (W_X m_0 m_picture_a m_file_a m_layers_a m_wide_a m_high_a m_half_a m_states_a m_favourites_a m_quotas_a m_digits_a m_draft_a m_given_a m_begins_a m_picture_k m_file_k m_layers_k m_wide_k m_high_k m_half_k m_states_k m_favourites_k m_quotas_k m_digits_k m_draft_k m_given_k m_begins_k (0 : Int32) m_width m_height m_picture m_length m_file m_any m_decisions m_plains m_doubles z1.1 z1.2.1 z1.2.2 m_half m_states m_favourites m_quotas m_span m_nowDecisions m_nowPlains m_nowDoubles m_digits m_digitCount m_draft m_draftSize m_taking m_given m_givenSize m_next m_above m_begins m_layerCount m_newWidth m_newHeight)[i]?) ([] : List Nat)) (va_runV (As := [.int (0 : Int32)]) (rest := []) ⟨hx, hb, hml, hown, hts⟩ (c_Mod_reduce l dC dI m_0 m_picture_a m_file_a m_layers_a m_wide_a m_high_a m_half_a m_states_a m_favourites_a m_quotas_a m_digits_a m_draft_a m_given_a m_begins_a m_picture_k m_file_k m_layers_k m_wide_k m_high_k m_half_k m_states_k m_favourites_k m_quotas_k m_digits_k m_draft_k m_given_k m_begins_k (0 : Int32) (0 : Int32) m_width m_height m_picture m_length m_file m_any m_decisions m_plains m_doubles z1.1 z1.2.1 z1.2.2 m_half m_states m_favourites m_quotas m_span m_nowDecisions m_nowPlains m_nowDoubles m_digits m_digitCount m_draft m_draftSize m_taking m_given m_givenSize m_next m_above m_begins m_layerCount m_newWidth m_newHeight z2  hz2 H.size) ⟨callB_of 1 hts (gT tt790 TT_good) rfl rfl rfl (hts _ tt53) (hts _ tt787) (by decide +kernel) ⟨Nat.le_of_ble_eq_true rfl, Nat.le_of_ble_eq_true rfl⟩, hts _ tt789, hts _ tt21⟩ (x_preV (q := (R_Mod, F_Mod, 34)) (As := [.int (0 : Int32)]) (x_pre (wc := (W_X m_0 m_picture_a m_file_a m_layers_a m_wide_a m_high_a m_half_a m_states_a m_favourites_a m_quotas_a m_digits_a m_draft_a m_given_a m_begins_a m_picture_k m_file_k m_layers_k m_wide_k m_high_k m_half_k m_states_k m_favourites_k m_quotas_k m_digits_k m_draft_k m_given_k m_begins_k (0 : Int32) m_width m_height m_picture m_length m_file m_any m_decisions m_plains m_doubles z1.1 z1.2.1 z1.2.2 m_half m_states m_favourites m_quotas m_span m_nowDecisions m_nowPlains m_nowDoubles m_digits m_digitCount m_draft m_draftSize m_taking m_given m_givenSize m_next m_above m_begins m_layerCount m_newWidth m_newHeight)) (av := (.ref m_0 :: [.int (0 : Int32)])) hK hP hD hS hA hG [0, 1, 2, 3, 4, 5, 6, 7, 8, 9, 10, 11, 12] [0, 1, 2, 3, 4, 5, 6, 7, 8, 9, 10, 11, 12, 13] rfl rfl (by decide)) hK hP (q0 := 0) rfl rfl) rfl rfl hl.1 rfl (lv_room (Nat.le_of_ble_eq_true rfl)) d_Mod_halve_12 ⟨Nat.zero_le _, Nat.zero_le _⟩) hP hD hS hA [0, 1, 2, 3, 4, 5, 6, 7, 8, 9, 10, 11, 12, 13] [] [0, 1, 2, 3, 4, 5, 6, 7, 8, 9, 10, 11, 12, 13] rfl rfl (by decide) (by decide) (by decide) rfl (fun H locs hP hD hS => ?_)
  refine lv_aload_n hx hb d_Mod_halve_15 rfl (lv_at hl 0 rfl) ?_
  refine lv_aload_n hx hb d_Mod_halve_16 rfl (lv_at hl 0 rfl) ?_
  refine va_get (D := (dC, dI)) (ci := 7) (v := .int m_width) (C := R_Mod) (T := F_Mod) (N := 34) hx hb hts in_Mod hown hK hP 0 rfl rfl 1 (by decide) (hts _ tt638) (fun _ h9 => h9) rfl d_Mod_halve_17 ?_
  refine lv_iconst (v := (1 : Int32)) hx hb d_Mod_halve_20 (by decide) ?_
  refine lv_iadd hx hb d_Mod_halve_21 ?_
  refine lv_iconst (v := (2 : Int32)) hx hb d_Mod_halve_22 (by decide) ?_
  refine lv_idiv hx hb d_Mod_halve_23 (by decide) ?_
  refine va_put (D := (dC, dI)) (ci := 7) (v := .int ((m_width + (1 : Int32)) / (2 : Int32))) (ty := .int) (C := R_Mod) (T := F_Mod) (N := 34) hx hb hts in_Mod t_Mod t_Mod_ok n_Mod hown hK hP hD hS 0 rfl rfl 1 (by decide) (hts _ tt638) (fun _ h9 => h9) rfl (by decide +kernel) rfl rfl (Nat.le_of_ble_eq_true rfl) d_Mod_halve_24 (fun H locs hP hD hS => ?_)
  have hP : va_P (dC, dI) vcl (W_X m_0 m_picture_a m_file_a m_layers_a m_wide_a m_high_a m_half_a m_states_a m_favourites_a m_quotas_a m_digits_a m_draft_a m_given_a m_begins_a m_picture_k m_file_k m_layers_k m_wide_k m_high_k m_half_k m_states_k m_favourites_k m_quotas_k m_digits_k m_draft_k m_given_k m_begins_k (0 : Int32) ((m_width + (1 : Int32)) / (2 : Int32)) m_height m_picture m_length m_file m_any m_decisions m_plains m_doubles z1.1 z1.2.1 z1.2.2 z2 m_states m_favourites m_quotas m_span m_nowDecisions m_nowPlains m_nowDoubles m_digits m_digitCount m_draft m_draftSize m_taking m_given m_givenSize m_next m_above m_begins m_layerCount m_newWidth m_newHeight) H := hP
  have hD : va_D A (W_X m_0 m_picture_a m_file_a m_layers_a m_wide_a m_high_a m_half_a m_states_a m_favourites_a m_quotas_a m_digits_a m_draft_a m_given_a m_begins_a m_picture_k m_file_k m_layers_k m_wide_k m_high_k m_half_k m_states_k m_favourites_k m_quotas_k m_digits_k m_draft_k m_given_k m_begins_k (0 : Int32) ((m_width + (1 : Int32)) / (2 : Int32)) m_height m_picture m_length m_file m_any m_decisions m_plains m_doubles z1.1 z1.2.1 z1.2.2 z2 m_states m_favourites m_quotas m_span m_nowDecisions m_nowPlains m_nowDoubles m_digits m_digitCount m_draft m_draftSize m_taking m_given m_givenSize m_next m_above m_begins m_layerCount m_newWidth m_newHeight) := hD
  refine lv_aload_n hx hb d_Mod_halve_27 rfl (lv_at hl 0 rfl) ?_
  refine lv_aload_n hx hb d_Mod_halve_28 rfl (lv_at hl 0 rfl) ?_
  refine va_get (D := (dC, dI)) (ci := 7) (v := .int m_height) (C := R_Mod) (T := F_Mod) (N := 34) hx hb hts in_Mod hown hK hP 0 rfl rfl 2 (by decide) (hts _ tt639) (fun _ h9 => h9) rfl d_Mod_halve_29 ?_
  refine lv_iconst (v := (1 : Int32)) hx hb d_Mod_halve_32 (by decide) ?_
  refine lv_iadd hx hb d_Mod_halve_33 ?_
  refine lv_iconst (v := (2 : Int32)) hx hb d_Mod_halve_34 (by decide) ?_
  refine lv_idiv hx hb d_Mod_halve_35 (by decide) ?_
  refine va_put (D := (dC, dI)) (ci := 7) (v := .int ((m_height + (1 : Int32)) / (2 : Int32))) (ty := .int) (C := R_Mod) (T := F_Mod) (N := 34) hx hb hts in_Mod t_Mod t_Mod_ok n_Mod hown hK hP hD hS 0 rfl rfl 2 (by decide) (hts _ tt639) (fun _ h9 => h9) rfl (by decide +kernel) rfl rfl (Nat.le_of_ble_eq_true rfl) d_Mod_halve_36 (fun H locs hP hD hS => ?_)
  have hP : va_P (dC, dI) vcl (W_X m_0 m_picture_a m_file_a m_layers_a m_wide_a m_high_a m_half_a m_states_a m_favourites_a m_quotas_a m_digits_a m_draft_a m_given_a m_begins_a m_picture_k m_file_k m_layers_k m_wide_k m_high_k m_half_k m_states_k m_favourites_k m_quotas_k m_digits_k m_draft_k m_given_k m_begins_k (0 : Int32) ((m_width + (1 : Int32)) / (2 : Int32)) ((m_height + (1 : Int32)) / (2 : Int32)) m_picture m_length m_file m_any m_decisions m_plains m_doubles z1.1 z1.2.1 z1.2.2 z2 m_states m_favourites m_quotas m_span m_nowDecisions m_nowPlains m_nowDoubles m_digits m_digitCount m_draft m_draftSize m_taking m_given m_givenSize m_next m_above m_begins m_layerCount m_newWidth m_newHeight) H := hP
  have hD : va_D A (W_X m_0 m_picture_a m_file_a m_layers_a m_wide_a m_high_a m_half_a m_states_a m_favourites_a m_quotas_a m_digits_a m_draft_a m_given_a m_begins_a m_picture_k m_file_k m_layers_k m_wide_k m_high_k m_half_k m_states_k m_favourites_k m_quotas_k m_digits_k m_draft_k m_given_k m_begins_k (0 : Int32) ((m_width + (1 : Int32)) / (2 : Int32)) ((m_height + (1 : Int32)) / (2 : Int32)) m_picture m_length m_file m_any m_decisions m_plains m_doubles z1.1 z1.2.1 z1.2.2 z2 m_states m_favourites m_quotas m_span m_nowDecisions m_nowPlains m_nowDoubles m_digits m_digitCount m_draft m_draftSize m_taking m_given m_givenSize m_next m_above m_begins m_layerCount m_newWidth m_newHeight) := hD
  refine lv_iconst (v := (0 : Int32)) hx hb d_Mod_halve_39 (by decide) ?_
  refine lv_istore_n (lv' := [(1, .int (0 : Int32)), (0, .ref m_0)]) hx hb d_Mod_halve_40 rfl hl (by decide) rfl (fun ls hl => ?_)
  exact L41 5000 (0 : Int32) (0 : Int32) ((m_width + (1 : Int32)) / (2 : Int32)) ((m_height + (1 : Int32)) / (2 : Int32)) m_picture z1.1 z1.2.1 z1.2.2 z2 H locs ls (lv_sub hl [1, 0] rfl) hP hD hS h
