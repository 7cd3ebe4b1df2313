def W_0   : va_W := []
def W_PO (p_0 p_pixels_a o_0 o_pixels_a : Nat) (p_pixels_k o_pixels_k : ClassId) (p_pixels : Nat → Int32) (p_wide : Int32) (p_high : Int32) (o_pixels : Nat → Int32) (o_wide : Int32) (o_high : Int32) : va_W := [(p_0, .inr (4, [.ref p_pixels_a, .int p_wide, .int p_high])), (p_pixels_a, .inl (p_pixels_k, 256, .inl p_pixels)), (o_0, .inr (4, [.ref o_pixels_a, .int o_wide, .int o_high])), (o_pixels_a, .inl (o_pixels_k, 256, .inl o_pixels))]
theorem d_Top_halfSide_0 : decode b_Top_halfSide 0 = .ok (.iload_n 0, 1) := by decide +kernel
theorem d_Top_halfSide_1 : decode b_Top_halfSide 1 = .ok (.iconst (1), 1) := by decide +kernel
theorem d_Top_halfSide_2 : decode b_Top_halfSide 2 = .ok (.iadd, 1) := by decide +kernel
theorem d_Top_halfSide_3 : decode b_Top_halfSide 3 = .ok (.iconst (2), 1) := by decide +kernel
theorem d_Top_halfSide_4 : decode b_Top_halfSide 4 = .ok (.idiv, 1) := by decide +kernel
theorem d_Top_halfSide_5 : decode b_Top_halfSide 5 = .ok (.ireturn, 1) := by decide +kernel
def q_halfSide (i_side : Int32)  : Option (Int32) := some ((i_side + (1 : Int32)) / (2 : Int32))
abbrev rm_halfSide : Room := { frames := 0, cells := 0, slots := 0, locals := 0 }
set_option maxHeartbeats 4000000 in
set_option maxRecDepth 100000 in
theorem c_halfSide (l : Launch) (dC : Nat → ClassId) (dI : Nat → Nat → Nat)  (i_side : Int32)  (z : Int32)  (hq : q_halfSide i_side = some z) (sz : Nat) : MetI l y_Top_halfSide b_Top_halfSide 1 .int TT rm_halfSide (dC, dI) vcl [] (W_0  ) (W_0  ) [.int i_side] z sz := by
  refine x_ofI (by decide) (Nat.le_of_ble_eq_true rfl) ?_ sz
  intro p e s m args below meth c A Q ls hx hb hml hown hts hA hG hK hP hD hS hl hret
  have hown : s.vm.findClass R_Top = some m.cls := hown
  have hl : lv_has ls 1 [(0, .int i_side)] := hl
  obtain ⟨⟨tq, hZ, hTq⟩, hN⟩ := id hG
  obtain ⟨H, hH⟩ : ∃ H, H = s.heap := ⟨_, rfl⟩
  obtain ⟨locs, hlocs⟩ : ∃ locs : List Loc, locs = [] := ⟨_, rfl⟩
  rw [← hH] at hP
  have hS : va_S A s.heap H locs := by rw [hH, hlocs]; exact hS
  suffices hgo : W p l e rm_halfSide s m args below meth c H locs 0 0 Q (F0 m 0 ls []) by rw [hH, hlocs] at hgo; exact hgo
  unfold q_halfSide at hq
  have h := hq
  refine lv_iload_n hx hb d_Top_halfSide_0 rfl (lv_at hl 0 rfl) ?_
  refine lv_iconst (v := (1 : Int32)) hx hb d_Top_halfSide_1 (by decide) ?_
  refine lv_iadd hx hb d_Top_halfSide_2 ?_
  refine lv_iconst (v := (2 : Int32)) hx hb d_Top_halfSide_3 (by decide) ?_
  refine lv_idiv hx hb d_Top_halfSide_4 (by decide) ?_
  obtain rfl := Option.some.inj h
  exact hret H locs 5 ls d_Top_halfSide_5 (vp_nar_int _) hP hD hS
theorem d_Pic_become_0 : decode b_Pic_become 0 = .ok (.aload_n 0, 1) := by decide +kernel
theorem d_Pic_become_1 : decode b_Pic_become 1 = .ok (.aload_n 1, 1) := by decide +kernel
theorem d_Pic_become_2 : decode b_Pic_become 2 = .ok (.getfield 15, 3) := by decide +kernel
theorem d_Pic_become_5 : decode b_Pic_become 5 = .ok (.putfield 15, 3) := by decide +kernel
theorem d_Pic_become_8 : decode b_Pic_become 8 = .ok (.aload_n 0, 1) := by decide +kernel
theorem d_Pic_become_9 : decode b_Pic_become 9 = .ok (.aload_n 1, 1) := by decide +kernel
theorem d_Pic_become_10 : decode b_Pic_become 10 = .ok (.getfield 19, 3) := by decide +kernel
theorem d_Pic_become_13 : decode b_Pic_become 13 = .ok (.putfield 19, 3) := by decide +kernel
theorem d_Pic_become_16 : decode b_Pic_become 16 = .ok (.aload_n 1, 1) := by decide +kernel
theorem d_Pic_become_17 : decode b_Pic_become 17 = .ok (.getfield 9, 3) := by decide +kernel
theorem d_Pic_become_20 : decode b_Pic_become 20 = .ok (.iconst (0), 1) := by decide +kernel
theorem d_Pic_become_21 : decode b_Pic_become 21 = .ok (.aload_n 0, 1) := by decide +kernel
theorem d_Pic_become_22 : decode b_Pic_become 22 = .ok (.getfield 9, 3) := by decide +kernel
theorem d_Pic_become_25 : decode b_Pic_become 25 = .ok (.iconst (0), 1) := by decide +kernel
theorem d_Pic_become_26 : decode b_Pic_become 26 = .ok (.aload_n 0, 1) := by decide +kernel
theorem d_Pic_become_27 : decode b_Pic_become 27 = .ok (.getfield 9, 3) := by decide +kernel
theorem d_Pic_become_30 : decode b_Pic_become 30 = .ok (.arraylength, 1) := by decide +kernel
theorem d_Pic_become_31 : decode b_Pic_become 31 = .ok (.invokestatic 32, 3) := by decide +kernel
theorem d_Pic_become_34 : decode b_Pic_become 34 = .ok (.return_, 1) := by decide +kernel
def q_Pic_become  (p_pixels : Nat → Int32) (p_wide : Int32) (p_high : Int32) (o_pixels : Nat → Int32) (o_wide : Int32) (o_high : Int32) : Option ((Nat → Int32) × Int32 × Int32) := some (va_cpy o_pixels p_pixels (0 : Int32).toNatClampNeg (0 : Int32).toNatClampNeg (256 : Int32).toNatClampNeg, o_wide, o_high)
abbrev rm_Pic_become : Room := { frames := 1, cells := 0, slots := 0, locals := 60 }
set_option maxHeartbeats 4000000 in
set_option maxRecDepth 100000 in
theorem c_Pic_become (l : Launch) (dC : Nat → ClassId) (dI : Nat → Nat → Nat) (p_0 p_pixels_a o_0 o_pixels_a : Nat) (p_pixels_k o_pixels_k : ClassId)  (p_pixels : Nat → Int32) (p_wide : Int32) (p_high : Int32) (o_pixels : Nat → Int32) (o_wide : Int32) (o_high : Int32) (z : (Nat → Int32) × Int32 × Int32)  (hq : q_Pic_become p_pixels p_wide p_high o_pixels o_wide o_high = some z) (sz : Nat) : MetV l y_Pic_become b_Pic_become 2 TT rm_Pic_become (dC, dI) vcl [(p_pixels_k, .int), (o_pixels_k, .int)] (W_PO p_0 p_pixels_a o_0 o_pixels_a p_pixels_k o_pixels_k p_pixels p_wide p_high o_pixels o_wide o_high) (W_PO p_0 p_pixels_a o_0 o_pixels_a p_pixels_k o_pixels_k z.1 z.2.1 z.2.2 o_pixels o_wide o_high) [.ref p_0, .ref o_0] sz := by
  refine x_ofV (by decide) (Nat.le_of_ble_eq_true rfl) ?_ sz
  intro p e s m args below meth c A Q ls hx hb hml hown hts hA hG hK hP hD hS hl hret
  have hown : s.vm.findClass R_Pic = some m.cls := hown
  have hl : lv_has ls 2 [(0, .ref p_0), (1, .ref o_0)] := hl
  obtain ⟨⟨tq, hZ, hTq⟩, hN⟩ := id hG
  obtain ⟨H, hH⟩ : ∃ H, H = s.heap := ⟨_, rfl⟩
  obtain ⟨locs, hlocs⟩ : ∃ locs : List Loc, locs = [] := ⟨_, rfl⟩
  rw [← hH] at hP
  have hS : va_S A s.heap H locs := by rw [hH, hlocs]; exact hS
  suffices hgo : W p l e rm_Pic_become s m args below meth c H locs 0 0 Q (F0 m 0 ls []) by rw [hH, hlocs] at hgo; exact hgo
  unfold q_Pic_become at hq
  have h := hq
  refine lv_aload_n hx hb d_Pic_become_0 rfl (lv_at hl 0 rfl) ?_
  refine lv_aload_n hx hb d_Pic_become_1 rfl (lv_at hl 1 rfl) ?_
  refine va_get (D := (dC, dI)) (ci := 4) (v := .int o_wide) (C := R_Pic) (T := F_Pic) (N := 3) hx hb hts in_Pic hown hK hP 2 rfl rfl 1 (by decide) (hts _ tt78) (fun _ h9 => h9) rfl d_Pic_become_2 ?_
  refine va_put (D := (dC, dI)) (ci := 4) (v := .int o_wide) (ty := .int) (C := R_Pic) (T := F_Pic) (N := 3) hx hb hts in_Pic t_Pic t_Pic_ok n_Pic hown hK hP hD hS 0 rfl rfl 1 (by decide) (hts _ tt78) (fun _ h9 => h9) rfl (by decide +kernel) rfl rfl (Nat.le_of_ble_eq_true rfl) d_Pic_become_5 (fun H locs hP hD hS => ?_)
  have hP : va_P (dC, dI) vcl (W_PO p_0 p_pixels_a o_0 o_pixels_a p_pixels_k o_pixels_k p_pixels o_wide p_high o_pixels o_wide o_high) H := hP
  have hD : va_D A (W_PO p_0 p_pixels_a o_0 o_pixels_a p_pixels_k o_pixels_k p_pixels o_wide p_high o_pixels o_wide o_high) := hD
  refine lv_aload_n hx hb d_Pic_become_8 rfl (lv_at hl 0 rfl) ?_
  refine lv_aload_n hx hb d_Pic_become_9 rfl (lv_at hl 1 rfl) ?_
  refine va_get (D := (dC, dI)) (ci := 4) (v := .int o_high) (C := R_Pic) (T := F_Pic) (N := 3) hx hb hts in_Pic hown hK hP 2 rfl rfl 2 (by decide) (hts _ tt81) (fun _ h9 => h9) rfl d_Pic_become_10 ?_
  refine va_put (D := (dC, dI)) (ci := 4) (v := .int o_high) (ty := .int) (C := R_Pic) (T := F_Pic) (N := 3) hx hb hts in_Pic t_Pic t_Pic_ok n_Pic hown hK hP hD hS 0 rfl rfl 2 (by decide) (hts _ tt81) (fun _ h9 => h9) rfl (by decide +kernel) rfl rfl (Nat.le_of_ble_eq_true rfl) d_Pic_become_13 (fun H locs hP hD hS => ?_)
  have hP : va_P (dC, dI) vcl (W_PO p_0 p_pixels_a o_0 o_pixels_a p_pixels_k o_pixels_k p_pixels o_wide o_high o_pixels o_wide o_high) H := hP
  have hD : va_D A (W_PO p_0 p_pixels_a o_0 o_pixels_a p_pixels_k o_pixels_k p_pixels o_wide o_high o_pixels o_wide o_high) := hD
  refine lv_aload_n hx hb d_Pic_become_16 rfl (lv_at hl 1 rfl) ?_
  refine va_get (D := (dC, dI)) (ci := 4) (v := .ref o_pixels_a) (C := R_Pic) (T := F_Pic) (N := 3) hx hb hts in_Pic hown hK hP 2 rfl rfl 0 (by decide) (hts _ tt77) (fun _ h9 => h9) rfl d_Pic_become_17 ?_
  refine lv_iconst (v := (0 : Int32)) hx hb d_Pic_become_20 (by decide) ?_
  refine lv_aload_n hx hb d_Pic_become_21 rfl (lv_at hl 0 rfl) ?_
  refine va_get (D := (dC, dI)) (ci := 4) (v := .ref p_pixels_a) (C := R_Pic) (T := F_Pic) (N := 3) hx hb hts in_Pic hown hK hP 0 rfl rfl 0 (by decide) (hts _ tt77) (fun _ h9 => h9) rfl d_Pic_become_22 ?_
  refine lv_iconst (v := (0 : Int32)) hx hb d_Pic_become_25 (by decide) ?_
  refine lv_aload_n hx hb d_Pic_become_26 rfl (lv_at hl 0 rfl) ?_
  refine va_get (D := (dC, dI)) (ci := 4) (v := .ref p_pixels_a) (C := R_Pic) (T := F_Pic) (N := 3) hx hb hts in_Pic hown hK hP 0 rfl rfl 0 (by decide) (hts _ tt77) (fun _ h9 => h9) rfl d_Pic_become_27 ?_
  refine va_alen (v := (256 : Int32)) hx hb hK hP 1 0 rfl rfl rfl d_Pic_become_30 ?_
  refine va_copyi hx hb (hml.trans hl.1.symm) hown (hts _ tt262) (hts _ tt264) (hts _ tt263) (hts _ tt60) hK hP hD hS 3 1 1 0 rfl rfl rfl rfl rfl (by decide) (by decide) (by decide) (by decide) (by decide) (fun _ _ => rfl) (by decide) (by decide +kernel) d_Pic_become_31 (fun H locs hP hD hS => ?_)
  have hP : va_P (dC, dI) vcl (W_PO p_0 p_pixels_a o_0 o_pixels_a p_pixels_k o_pixels_k (va_cpy o_pixels p_pixels (0 : Int32).toNatClampNeg (0 : Int32).toNatClampNeg (256 : Int32).toNatClampNeg) o_wide o_high o_pixels o_wide o_high) H := hP
  have hD : va_D A (W_PO p_0 p_pixels_a o_0 o_pixels_a p_pixels_k o_pixels_k (va_cpy o_pixels p_pixels (0 : Int32).toNatClampNeg (0 : Int32).toNatClampNeg (256 : Int32).toNatClampNeg) o_wide o_high o_pixels o_wide o_high) := hD
  obtain rfl := Option.some.inj h
  exact hret H locs 34 ls d_Pic_become_34 hP hD hS
theorem d_Pic_becomeHalfOf_0 : decode b_Pic_becomeHalfOf 0 = .ok (.aload_n 0, 1) := by decide +kernel
theorem d_Pic_becomeHalfOf_1 : decode b_Pic_becomeHalfOf 1 = .ok (.aload_n 1, 1) := by decide +kernel
theorem d_Pic_becomeHalfOf_2 : decode b_Pic_becomeHalfOf 2 = .ok (.getfield 15, 3) := by decide +kernel
theorem d_Pic_becomeHalfOf_5 : decode b_Pic_becomeHalfOf 5 = .ok (.invokestatic 38, 3) := by decide +kernel
theorem d_Pic_becomeHalfOf_8 : decode b_Pic_becomeHalfOf 8 = .ok (.aload_n 1, 1) := by decide +kernel
theorem d_Pic_becomeHalfOf_9 : decode b_Pic_becomeHalfOf 9 = .ok (.getfield 19, 3) := by decide +kernel
theorem d_Pic_becomeHalfOf_12 : decode b_Pic_becomeHalfOf 12 = .ok (.invokestatic 38, 3) := by decide +kernel
theorem d_Pic_becomeHalfOf_15 : decode b_Pic_becomeHalfOf 15 = .ok (.invokevirtual 42, 3) := by decide +kernel
theorem d_Pic_becomeHalfOf_18 : decode b_Pic_becomeHalfOf 18 = .ok (.iconst (0), 1) := by decide +kernel
theorem d_Pic_becomeHalfOf_19 : decode b_Pic_becomeHalfOf 19 = .ok (.istore_n 2, 1) := by decide +kernel
theorem d_Pic_becomeHalfOf_20 : decode b_Pic_becomeHalfOf 20 = .ok (.iload_n 2, 1) := by decide +kernel
theorem d_Pic_becomeHalfOf_21 : decode b_Pic_becomeHalfOf 21 = .ok (.aload_n 0, 1) := by decide +kernel
theorem d_Pic_becomeHalfOf_22 : decode b_Pic_becomeHalfOf 22 = .ok (.getfield 19, 3) := by decide +kernel
theorem d_Pic_becomeHalfOf_25 : decode b_Pic_becomeHalfOf 25 = .ok (.if_icmp .ge (77), 3) := by decide +kernel
theorem d_Pic_becomeHalfOf_28 : decode b_Pic_becomeHalfOf 28 = .ok (.iconst (0), 1) := by decide +kernel
theorem d_Pic_becomeHalfOf_29 : decode b_Pic_becomeHalfOf 29 = .ok (.istore_n 3, 1) := by decide +kernel
theorem d_Pic_becomeHalfOf_30 : decode b_Pic_becomeHalfOf 30 = .ok (.iload_n 3, 1) := by decide +kernel
theorem d_Pic_becomeHalfOf_31 : decode b_Pic_becomeHalfOf 31 = .ok (.aload_n 0, 1) := by decide +kernel
theorem d_Pic_becomeHalfOf_32 : decode b_Pic_becomeHalfOf 32 = .ok (.getfield 15, 3) := by decide +kernel
theorem d_Pic_becomeHalfOf_35 : decode b_Pic_becomeHalfOf 35 = .ok (.if_icmp .ge (61), 3) := by decide +kernel
theorem d_Pic_becomeHalfOf_38 : decode b_Pic_becomeHalfOf 38 = .ok (.aload_n 1, 1) := by decide +kernel
theorem d_Pic_becomeHalfOf_39 : decode b_Pic_becomeHalfOf 39 = .ok (.iconst (2), 1) := by decide +kernel
theorem d_Pic_becomeHalfOf_40 : decode b_Pic_becomeHalfOf 40 = .ok (.iload_n 3, 1) := by decide +kernel
theorem d_Pic_becomeHalfOf_41 : decode b_Pic_becomeHalfOf 41 = .ok (.imul, 1) := by decide +kernel
theorem d_Pic_becomeHalfOf_42 : decode b_Pic_becomeHalfOf 42 = .ok (.iconst (2), 1) := by decide +kernel
theorem d_Pic_becomeHalfOf_43 : decode b_Pic_becomeHalfOf 43 = .ok (.iload_n 2, 1) := by decide +kernel
theorem d_Pic_becomeHalfOf_44 : decode b_Pic_becomeHalfOf 44 = .ok (.imul, 1) := by decide +kernel
theorem d_Pic_becomeHalfOf_45 : decode b_Pic_becomeHalfOf 45 = .ok (.invokevirtual 46, 3) := by decide +kernel
theorem d_Pic_becomeHalfOf_48 : decode b_Pic_becomeHalfOf 48 = .ok (.istore 4, 2) := by decide +kernel
theorem d_Pic_becomeHalfOf_50 : decode b_Pic_becomeHalfOf 50 = .ok (.aload_n 0, 1) := by decide +kernel
theorem d_Pic_becomeHalfOf_51 : decode b_Pic_becomeHalfOf 51 = .ok (.iload_n 3, 1) := by decide +kernel
theorem d_Pic_becomeHalfOf_52 : decode b_Pic_becomeHalfOf 52 = .ok (.iconst (1), 1) := by decide +kernel
theorem d_Pic_becomeHalfOf_53 : decode b_Pic_becomeHalfOf 53 = .ok (.isub, 1) := by decide +kernel
theorem d_Pic_becomeHalfOf_54 : decode b_Pic_becomeHalfOf 54 = .ok (.iload_n 2, 1) := by decide +kernel
theorem d_Pic_becomeHalfOf_55 : decode b_Pic_becomeHalfOf 55 = .ok (.invokevirtual 50, 3) := by decide +kernel
theorem d_Pic_becomeHalfOf_58 : decode b_Pic_becomeHalfOf 58 = .ok (.istore 5, 2) := by decide +kernel
theorem d_Pic_becomeHalfOf_60 : decode b_Pic_becomeHalfOf 60 = .ok (.aload_n 0, 1) := by decide +kernel
theorem d_Pic_becomeHalfOf_61 : decode b_Pic_becomeHalfOf 61 = .ok (.iload_n 3, 1) := by decide +kernel
theorem d_Pic_becomeHalfOf_62 : decode b_Pic_becomeHalfOf 62 = .ok (.iload_n 2, 1) := by decide +kernel
theorem d_Pic_becomeHalfOf_63 : decode b_Pic_becomeHalfOf 63 = .ok (.iload 4, 2) := by decide +kernel
theorem d_Pic_becomeHalfOf_65 : decode b_Pic_becomeHalfOf 65 = .ok (.bipush (14), 2) := by decide +kernel
theorem d_Pic_becomeHalfOf_67 : decode b_Pic_becomeHalfOf 67 = .ok (.if_icmp .ne (8), 3) := by decide +kernel
theorem d_Pic_becomeHalfOf_70 : decode b_Pic_becomeHalfOf 70 = .ok (.iload 5, 2) := by decide +kernel
theorem d_Pic_becomeHalfOf_72 : decode b_Pic_becomeHalfOf 72 = .ok (.goto (15), 3) := by decide +kernel
theorem d_Pic_becomeHalfOf_75 : decode b_Pic_becomeHalfOf 75 = .ok (.iload 4, 2) := by decide +kernel
theorem d_Pic_becomeHalfOf_77 : decode b_Pic_becomeHalfOf 77 = .ok (.bipush (14), 2) := by decide +kernel
theorem d_Pic_becomeHalfOf_79 : decode b_Pic_becomeHalfOf 79 = .ok (.if_icmp .le (7), 3) := by decide +kernel
theorem d_Pic_becomeHalfOf_82 : decode b_Pic_becomeHalfOf 82 = .ok (.iconst (1), 1) := by decide +kernel
theorem d_Pic_becomeHalfOf_83 : decode b_Pic_becomeHalfOf 83 = .ok (.goto (4), 3) := by decide +kernel
theorem d_Pic_becomeHalfOf_86 : decode b_Pic_becomeHalfOf 86 = .ok (.iconst (0), 1) := by decide +kernel
theorem d_Pic_becomeHalfOf_87 : decode b_Pic_becomeHalfOf 87 = .ok (.invokevirtual 53, 3) := by decide +kernel
theorem d_Pic_becomeHalfOf_90 : decode b_Pic_becomeHalfOf 90 = .ok (.iinc 3 (1), 3) := by decide +kernel
theorem d_Pic_becomeHalfOf_93 : decode b_Pic_becomeHalfOf 93 = .ok (.goto (-63), 3) := by decide +kernel
theorem d_Pic_becomeHalfOf_96 : decode b_Pic_becomeHalfOf 96 = .ok (.iinc 2 (1), 3) := by decide +kernel
theorem d_Pic_becomeHalfOf_99 : decode b_Pic_becomeHalfOf 99 = .ok (.goto (-79), 3) := by decide +kernel
theorem d_Pic_becomeHalfOf_102 : decode b_Pic_becomeHalfOf 102 = .ok (.return_, 1) := by decide +kernel
def q_Pic_becomeHalfOf_87 (o_pixels : Nat → Int32) (o_wide : Int32) (o_high : Int32) (rec30 : Int32 → Int32 → (Nat → Int32) → Int32 → Int32 → Option ((Nat → Int32) × Int32 × Int32)) (x2_87 : Int32) (x3_87 : Int32) (k1_87 : Int32) (k2_87 : Int32) (k3_87 : Int32) (p_pixels_87 : Nat → Int32) (p_wide_87 : Int32) (p_high_87 : Int32) : Option ((Nat → Int32) × Int32 × Int32) := ((q_Pic_paint k1_87 k2_87 k3_87 p_pixels_87 p_wide_87 p_high_87).bind fun z1 => (rec30 x2_87 (x3_87 + (1 : Int32)) z1 p_wide_87 p_high_87))
def q_Pic_becomeHalfOf_30 (o_pixels : Nat → Int32) (o_wide : Int32) (o_high : Int32) (rec20 : Int32 → (Nat → Int32) → Int32 → Int32 → Option ((Nat → Int32) × Int32 × Int32)) : Nat → Int32 → Int32 → (Nat → Int32) → Int32 → Int32 → Option ((Nat → Int32) × Int32 × Int32)
  | 0, _, _, _, _, _ => none
  | n + 1, x2_30, x3_30, p_pixels_30, p_wide_30, p_high_30 => (if p_wide_30 ≤ x3_30 then (rec20 (x2_30 + (1 : Int32)) p_pixels_30 p_wide_30 p_high_30) else ((q_Pic_weightAround ((2 : Int32) * x3_30) ((2 : Int32) * x2_30) o_pixels o_wide o_high).bind fun z2 => ((q_Pic_pixel (x3_30 - (1 : Int32)) x2_30 p_pixels_30 p_wide_30 p_high_30).bind fun z3 => (if z2 = (14 : Int32) then (q_Pic_becomeHalfOf_87 o_pixels o_wide o_high (q_Pic_becomeHalfOf_30 o_pixels o_wide o_high rec20 n) x2_30 x3_30 x3_30 x2_30 z3 p_pixels_30 p_wide_30 p_high_30) else (if z2 ≤ (14 : Int32) then (q_Pic_becomeHalfOf_87 o_pixels o_wide o_high (q_Pic_becomeHalfOf_30 o_pixels o_wide o_high rec20 n) x2_30 x3_30 x3_30 x2_30 (0 : Int32) p_pixels_30 p_wide_30 p_high_30) else (q_Pic_becomeHalfOf_87 o_pixels o_wide o_high (q_Pic_becomeHalfOf_30 o_pixels o_wide o_high rec20 n) x2_30 x3_30 x3_30 x2_30 (1 : Int32) p_pixels_30 p_wide_30 p_high_30))))))
def q_Pic_becomeHalfOf_20 (o_pixels : Nat → Int32) (o_wide : Int32) (o_high : Int32)  : Nat → Int32 → (Nat → Int32) → Int32 → Int32 → Option ((Nat → Int32) × Int32 × Int32)
  | 0, _, _, _, _ => none
  | n + 1, x2_20, p_pixels_20, p_wide_20, p_high_20 => (if p_high_20 ≤ x2_20 then some (p_pixels_20, p_wide_20, p_high_20) else (q_Pic_becomeHalfOf_30 o_pixels o_wide o_high (q_Pic_becomeHalfOf_20 o_pixels o_wide o_high n) 5000 x2_20 (0 : Int32) p_pixels_20 p_wide_20 p_high_20))
def q_Pic_becomeHalfOf  (p_pixels : Nat → Int32) (p_wide : Int32) (p_high : Int32) (o_pixels : Nat → Int32) (o_wide : Int32) (o_high : Int32) : Option ((Nat → Int32) × Int32 × Int32) := ((q_halfSide o_wide).bind fun z4 => ((q_halfSide o_high).bind fun z5 => ((q_Pic_blank z4 z5 p_pixels p_wide p_high).bind fun z6 => (q_Pic_becomeHalfOf_20 o_pixels o_wide o_high  5000 (0 : Int32) z6.1 z6.2.1 z6.2.2))))
abbrev rm_Pic_becomeHalfOf : Room := { frames := 4, cells := 0, slots := 0, locals := 92 }
set_option maxHeartbeats 4000000 in
set_option maxRecDepth 100000 in
theorem c_Pic_becomeHalfOf (l : Launch) (dC : Nat → ClassId) (dI : Nat → Nat → Nat) (p_0 p_pixels_a o_0 o_pixels_a : Nat) (p_pixels_k o_pixels_k : ClassId)  (p_pixels : Nat → Int32) (p_wide : Int32) (p_high : Int32) (o_pixels : Nat → Int32) (o_wide : Int32) (o_high : Int32) (z : (Nat → Int32) × Int32 × Int32)  (hq : q_Pic_becomeHalfOf p_pixels p_wide p_high o_pixels o_wide o_high = some z) (sz : Nat) : MetV l y_Pic_becomeHalfOf b_Pic_becomeHalfOf 6 TT rm_Pic_becomeHalfOf (dC, dI) vcl [(p_pixels_k, .int), (o_pixels_k, .int)] (W_PO p_0 p_pixels_a o_0 o_pixels_a p_pixels_k o_pixels_k p_pixels p_wide p_high o_pixels o_wide o_high) (W_PO p_0 p_pixels_a o_0 o_pixels_a p_pixels_k o_pixels_k z.1 z.2.1 z.2.2 o_pixels o_wide o_high) [.ref p_0, .ref o_0] sz := by
  refine x_ofV (by decide) (Nat.le_of_ble_eq_true rfl) ?_ sz
  intro p e s m args below meth c A Q ls hx hb hml hown hts hA hG hK hP hD hS hl hret
  have hown : s.vm.findClass R_Pic = some m.cls := hown
  have hl : lv_has ls 6 [(0, .ref p_0), (1, .ref o_0)] := hl
  obtain ⟨⟨tq, hZ, hTq⟩, hN⟩ := id hG
  obtain ⟨H, hH⟩ : ∃ H, H = s.heap := ⟨_, rfl⟩
  obtain ⟨locs, hlocs⟩ : ∃ locs : List Loc, locs = [] := ⟨_, rfl⟩
  rw [← hH] at hP
  have hS : va_S A s.heap H locs := by rw [hH, hlocs]; exact hS
  suffices hgo : W p l e rm_Pic_becomeHalfOf s m args below meth c H locs 0 0 Q (F0 m 0 ls []) by rw [hH, hlocs] at hgo; exact hgo
  unfold q_Pic_becomeHalfOf at hq
  have L20 : ∀ (n20 : Nat) (x2_20 : Int32) (p_pixels_20 : Nat → Int32) (p_wide_20 : Int32) (p_high_20 : Int32) (H : Heap) (locs : List Loc) (ls : Array Slot), lv_has ls 6 [(0, .ref p_0), (1, .ref o_0), (2, .int x2_20)] → va_P (dC, dI) vcl (W_PO p_0 p_pixels_a o_0 o_pixels_a p_pixels_k o_pixels_k p_pixels_20 p_wide_20 p_high_20 o_pixels o_wide o_high) H → va_D A (W_PO p_0 p_pixels_a o_0 o_pixels_a p_pixels_k o_pixels_k p_pixels_20 p_wide_20 p_high_20 o_pixels o_wide o_high) → va_S A s.heap H locs → q_Pic_becomeHalfOf_20 o_pixels o_wide o_high  n20 x2_20 p_pixels_20 p_wide_20 p_high_20 = some z → W p l e rm_Pic_becomeHalfOf s m args below meth c H locs 0 0 Q (F0 m 20 ls []) := by
    intro n20
    induction n20 with
    | zero =>
      intro x2_20 p_pixels_20 p_wide_20 p_high_20 H locs ls hl hP hD hS hq
      rw [q_Pic_becomeHalfOf_20] at hq
      cases hq
    | succ n20 ih20 =>
      intro x2_20 p_pixels_20 p_wide_20 p_high_20 H locs ls hl hP hD hS hq20
      rw [q_Pic_becomeHalfOf_20] at hq20
      have L30 : ∀ (n30 : Nat) (x2_30 : Int32) (x3_30 : Int32) (p_pixels_30 : Nat → Int32) (p_wide_30 : Int32) (p_high_30 : Int32) (H : Heap) (locs : List Loc) (ls : Array Slot), lv_has ls 6 [(0, .ref p_0), (1, .ref o_0), (2, .int x2_30), (3, .int x3_30)] → va_P (dC, dI) vcl (W_PO p_0 p_pixels_a o_0 o_pixels_a p_pixels_k o_pixels_k p_pixels_30 p_wide_30 p_high_30 o_pixels o_wide o_high) H → va_D A (W_PO p_0 p_pixels_a o_0 o_pixels_a p_pixels_k o_pixels_k p_pixels_30 p_wide_30 p_high_30 o_pixels o_wide o_high) → va_S A s.heap H locs → q_Pic_becomeHalfOf_30 o_pixels o_wide o_high (q_Pic_becomeHalfOf_20 o_pixels o_wide o_high  n20) n30 x2_30 x3_30 p_pixels_30 p_wide_30 p_high_30 = some z → W p l e rm_Pic_becomeHalfOf s m args below meth c H locs 0 0 Q (F0 m 30 ls []) := by
        intro n30
        induction n30 with
        | zero =>
          intro x2_30 x3_30 p_pixels_30 p_wide_30 p_high_30 H locs ls hl hP hD hS hq
          rw [q_Pic_becomeHalfOf_30] at hq
          cases hq
        | succ n30 ih30 =>
          intro x2_30 x3_30 p_pixels_30 p_wide_30 p_high_30 H locs ls hl hP hD hS hq30
          rw [q_Pic_becomeHalfOf_30] at hq30
          have L87 : ∀ (x2_87 : Int32) (x3_87 : Int32) (k1_87 : Int32) (k2_87 : Int32) (k3_87 : Int32) (p_pixels_87 : Nat → Int32) (p_wide_87 : Int32) (p_high_87 : Int32) (H : Heap) (locs : List Loc) (ls : Array Slot), lv_has ls 6 [(0, .ref p_0), (1, .ref o_0), (2, .int x2_87), (3, .int x3_87)] → va_P (dC, dI) vcl (W_PO p_0 p_pixels_a o_0 o_pixels_a p_pixels_k o_pixels_k p_pixels_87 p_wide_87 p_high_87 o_pixels o_wide o_high) H → va_D A (W_PO p_0 p_pixels_a o_0 o_pixels_a p_pixels_k o_pixels_k p_pixels_87 p_wide_87 p_high_87 o_pixels o_wide o_high) → va_S A s.heap H locs → q_Pic_becomeHalfOf_87 o_pixels o_wide o_high (q_Pic_becomeHalfOf_30 o_pixels o_wide o_high (q_Pic_becomeHalfOf_20 o_pixels o_wide o_high  n20) n30) x2_87 x3_87 k1_87 k2_87 k3_87 p_pixels_87 p_wide_87 p_high_87 = some z → W p l e rm_Pic_becomeHalfOf s m args below meth c H locs 0 0 Q (F0 m 87 ls [.int k3_87, .int k2_87, .int k1_87, .ref p_0]) := by
            intro x2_87 x3_87 k1_87 k2_87 k3_87 p_pixels_87 p_wide_87 p_high_87 H locs ls hl hP hD hS hq87
            unfold q_Pic_becomeHalfOf_87 at hq87
            have h := hq87
            obtain ⟨z1, hz1, h⟩ := ob h
            refine x_goV (w1 := (W_P p_0 p_pixels_a p_pixels_k z1 p_wide_87 p_high_87)) (ws' := (W_PO p_0 p_pixels_a o_0 o_pixels_a p_pixels_k o_pixels_k z1 p_wide_87 p_high_87 o_pixels o_wide o_high)) (wr := List.filterMap (fun (i : Nat) => (W_PO p_0 p_pixels_a o_0 o_pixels_a p_pixels_k o_pixels_k p_pixels_87 p_wide_87 p_high_87 o_pixels o_wide o_high)[i]?) ([2, 3] : List Nat)) (va_runV (As := [.int k1_87, .int k2_87, .int k3_87]) (rest := []) ⟨hx, hb, hml, hown, hts⟩ (c_Pic_paint l dC dI p_0 p_pixels_a p_pixels_k k1_87 k2_87 k3_87 p_pixels_87 p_wide_87 p_high_87 z1  hz1 H.size) ⟨callB_of 3 hts (gT tt291 TT_good) rfl rfl rfl (hts _ tt46) (hts _ tt288) (by decide +kernel) ⟨Nat.le_of_ble_eq_true rfl, Nat.le_of_ble_eq_true rfl⟩, hts _ tt289, hts _ tt290⟩ (x_preV (q := (R_Pic, F_Pic, 3)) (As := [.int k1_87, .int k2_87, .int k3_87]) (x_pre (wc := (W_P p_0 p_pixels_a p_pixels_k p_pixels_87 p_wide_87 p_high_87)) (av := (.ref p_0 :: [.int k1_87, .int k2_87, .int k3_87])) hK hP hD hS hA hG [0] [0, 1] rfl rfl (by decide)) hK hP (q0 := 0) rfl rfl) rfl rfl hl.1 rfl (lv_room (Nat.le_of_ble_eq_true rfl)) d_Pic_becomeHalfOf_87 ⟨Nat.zero_le _, Nat.zero_le _⟩) hP hD hS hA [0, 1] [2, 3] [2, 3, 0, 1] rfl rfl (by decide) (by decide) (by decide) rfl (fun H locs hP hD hS => ?_)
            refine lv_iinc (k := 3) (v := x3_87 + (1 : Int32)) (lv' := [(3, .int (x3_87 + (1 : Int32))), (0, .ref p_0), (1, .ref o_0), (2, .int x2_87)]) hx hb d_Pic_becomeHalfOf_90 hl rfl rfl (by decide) rfl (fun ls hl => ?_)
            refine lv_goto (tgt := 30) hx hb d_Pic_becomeHalfOf_93 rfl ?_
            exact ih30 x2_87 (x3_87 + (1 : Int32)) z1 p_wide_87 p_high_87 H locs ls (lv_sub hl [1, 2, 3, 0] rfl) hP hD hS h
          have h := hq30
          refine lv_iload_n hx hb d_Pic_becomeHalfOf_30 rfl (lv_at hl 3 rfl) ?_
          refine lv_aload_n hx hb d_Pic_becomeHalfOf_31 rfl (lv_at hl 0 rfl) ?_
          refine va_get (D := (dC, dI)) (ci := 4) (v := .int p_wide_30) (C := R_Pic) (T := F_Pic) (N := 3) hx hb hts in_Pic hown hK hP 0 rfl rfl 1 (by decide) (hts _ tt78) (fun _ h9 => h9) rfl d_Pic_becomeHalfOf_32 ?_
          refine lv_icmp_ge (tgt := 96) hx hb d_Pic_becomeHalfOf_35 rfl (fun hc => ?_) (fun hc => ?_)
          · replace h := ot hc h
            refine lv_iinc (k := 2) (v := x2_30 + (1 : Int32)) (lv' := [(2, .int (x2_30 + (1 : Int32))), (0, .ref p_0), (1, .ref o_0), (3, .int x3_30)]) hx hb d_Pic_becomeHalfOf_96 hl rfl rfl (by decide) rfl (fun ls hl => ?_)
            refine lv_goto (tgt := 20) hx hb d_Pic_becomeHalfOf_99 rfl ?_
            exact ih20 (x2_30 + (1 : Int32)) p_pixels_30 p_wide_30 p_high_30 H locs ls (lv_sub hl [1, 2, 0] rfl) hP hD hS h
          · replace h := of hc h
            refine lv_aload_n hx hb d_Pic_becomeHalfOf_38 rfl (lv_at hl 1 rfl) ?_
            refine lv_iconst (v := (2 : Int32)) hx hb d_Pic_becomeHalfOf_39 (by decide) ?_
            refine lv_iload_n hx hb d_Pic_becomeHalfOf_40 rfl (lv_at hl 3 rfl) ?_
            refine lv_imul hx hb d_Pic_becomeHalfOf_41 ?_
            refine lv_iconst (v := (2 : Int32)) hx hb d_Pic_becomeHalfOf_42 (by decide) ?_
            refine lv_iload_n hx hb d_Pic_becomeHalfOf_43 rfl (lv_at hl 2 rfl) ?_
            refine lv_imul hx hb d_Pic_becomeHalfOf_44 ?_
            obtain ⟨z2, hz2, h⟩ := ob h
            refine x_goI (res := z2) (w1 := (W_P o_0 o_pixels_a o_pixels_k o_pixels o_wide o_high)) (ws' := (W_PO p_0 p_pixels_a o_0 o_pixels_a p_pixels_k o_pixels_k p_pixels_30 p_wide_30 p_high_30 o_pixels o_wide o_high)) (wr := List.filterMap (fun (i : Nat) => (W_PO p_0 p_pixels_a o_0 o_pixels_a p_pixels_k o_pixels_k p_pixels_30 p_wide_30 p_high_30 o_pixels o_wide o_high)[i]?) ([0, 1] : List Nat)) (va_runV (As := [.int ((2 : Int32) * x3_30), .int ((2 : Int32) * x2_30)]) (rest := []) ⟨hx, hb, hml, hown, hts⟩ (c_Pic_weightAround l dC dI o_0 o_pixels_a o_pixels_k ((2 : Int32) * x3_30) ((2 : Int32) * x2_30) o_pixels o_wide o_high z2  hz2 H.size) ⟨callB_of 2 hts (gT tt282 TT_good) rfl rfl rfl (hts _ tt46) (hts _ tt279) (by decide +kernel) ⟨Nat.le_of_ble_eq_true rfl, Nat.le_of_ble_eq_true rfl⟩, hts _ tt281, hts _ tt0⟩ (x_preV (q := (R_Pic, F_Pic, 3)) (As := [.int ((2 : Int32) * x3_30), .int ((2 : Int32) * x2_30)]) (x_pre (wc := (W_P o_0 o_pixels_a o_pixels_k o_pixels o_wide o_high)) (av := (.ref o_0 :: [.int ((2 : Int32) * x3_30), .int ((2 : Int32) * x2_30)])) hK hP hD hS hA hG [1] [2, 3] rfl rfl (by decide)) hK hP (q0 := 2) rfl rfl) rfl rfl hl.1 rfl (lv_room (Nat.le_of_ble_eq_true rfl)) d_Pic_becomeHalfOf_45 ⟨Nat.zero_le _, Nat.zero_le _⟩) hP hD hS hA [2, 3] [0, 1] [0, 1, 2, 3] rfl rfl (by decide) (by decide) (by decide) rfl (fun H locs hP hD hS => ?_)
            refine lv_istore (lv' := [(4, .int z2), (0, .ref p_0), (1, .ref o_0), (2, .int x2_30), (3, .int x3_30)]) hx hb d_Pic_becomeHalfOf_48 hl (by decide) rfl (fun ls hl => ?_)
            refine lv_aload_n hx hb d_Pic_becomeHalfOf_50 rfl (lv_at hl 1 rfl) ?_
            refine lv_iload_n hx hb d_Pic_becomeHalfOf_51 rfl (lv_at hl 4 rfl) ?_
            refine lv_iconst (v := (1 : Int32)) hx hb d_Pic_becomeHalfOf_52 (by decide) ?_
            refine lv_isub hx hb d_Pic_becomeHalfOf_53 ?_
            refine lv_iload_n hx hb d_Pic_becomeHalfOf_54 rfl (lv_at hl 3 rfl) ?_
            obtain ⟨z3, hz3, h⟩ := ob h
            refine x_goI (res := z3) (w1 := (W_P p_0 p_pixels_a p_pixels_k p_pixels_30 p_wide_30 p_high_30)) (ws' := (W_PO p_0 p_pixels_a o_0 o_pixels_a p_pixels_k o_pixels_k p_pixels_30 p_wide_30 p_high_30 o_pixels o_wide o_high)) (wr := List.filterMap (fun (i : Nat) => (W_PO p_0 p_pixels_a o_0 o_pixels_a p_pixels_k o_pixels_k p_pixels_30 p_wide_30 p_high_30 o_pixels o_wide o_high)[i]?) ([2, 3] : List Nat)) (va_runV (As := [.int (x3_30 - (1 : Int32)), .int x2_30]) (rest := []) ⟨hx, hb, hml, hown, hts⟩ (c_Pic_pixel l dC dI p_0 p_pixels_a p_pixels_k (x3_30 - (1 : Int32)) x2_30 p_pixels_30 p_wide_30 p_high_30 z3  hz3 H.size) ⟨callB_of 2 hts (gT tt237 TT_good) rfl rfl rfl (hts _ tt46) (hts _ tt287) (by decide +kernel) ⟨Nat.le_of_ble_eq_true rfl, Nat.le_of_ble_eq_true rfl⟩, hts _ tt235, hts _ tt236⟩ (x_preV (q := (R_Pic, F_Pic, 3)) (As := [.int (x3_30 - (1 : Int32)), .int x2_30]) (x_pre (wc := (W_P p_0 p_pixels_a p_pixels_k p_pixels_30 p_wide_30 p_high_30)) (av := (.ref p_0 :: [.int (x3_30 - (1 : Int32)), .int x2_30])) hK hP hD hS hA hG [0] [0, 1] rfl rfl (by decide)) hK hP (q0 := 0) rfl rfl) rfl rfl hl.1 rfl (lv_room (Nat.le_of_ble_eq_true rfl)) d_Pic_becomeHalfOf_55 ⟨Nat.zero_le _, Nat.zero_le _⟩) hP hD hS hA [0, 1] [2, 3] [2, 3, 0, 1] rfl rfl (by decide) (by decide) (by decide) rfl (fun H locs hP hD hS => ?_)
            refine lv_istore (lv' := [(5, .int z3), (4, .int z2), (0, .ref p_0), (1, .ref o_0), (2, .int x2_30), (3, .int x3_30)]) hx hb d_Pic_becomeHalfOf_58 hl (by decide) rfl (fun ls hl => ?_)
            refine lv_aload_n hx hb d_Pic_becomeHalfOf_60 rfl (lv_at hl 2 rfl) ?_
            refine lv_iload_n hx hb d_Pic_becomeHalfOf_61 rfl (lv_at hl 5 rfl) ?_
            refine lv_iload_n hx hb d_Pic_becomeHalfOf_62 rfl (lv_at hl 4 rfl) ?_
            refine lv_iload hx hb d_Pic_becomeHalfOf_63 (lv_at hl 1 rfl) ?_
            refine lv_bipush (v := (14 : Int32)) hx hb d_Pic_becomeHalfOf_65 (by decide) ?_
            refine lv_icmp_ne (tgt := 75) hx hb d_Pic_becomeHalfOf_67 rfl (fun hc => ?_) (fun hc => ?_)
            · replace h := of hc h
              refine lv_iload hx hb d_Pic_becomeHalfOf_75 (lv_at hl 1 rfl) ?_
              refine lv_bipush (v := (14 : Int32)) hx hb d_Pic_becomeHalfOf_77 (by decide) ?_
              refine lv_icmp_le (tgt := 86) hx hb d_Pic_becomeHalfOf_79 rfl (fun hc => ?_) (fun hc => ?_)
              · replace h := ot hc h
                refine lv_iconst (v := (0 : Int32)) hx hb d_Pic_becomeHalfOf_86 (by decide) ?_
                exact L87 x2_30 x3_30 x3_30 x2_30 (0 : Int32) p_pixels_30 p_wide_30 p_high_30 H locs ls (lv_sub hl [2, 3, 4, 5] rfl) hP hD hS h
              · replace h := of hc h
                refine lv_iconst (v := (1 : Int32)) hx hb d_Pic_becomeHalfOf_82 (by decide) ?_
                refine lv_goto (tgt := 87) hx hb d_Pic_becomeHalfOf_83 rfl ?_
                exact L87 x2_30 x3_30 x3_30 x2_30 (1 : Int32) p_pixels_30 p_wide_30 p_high_30 H locs ls (lv_sub hl [2, 3, 4, 5] rfl) hP hD hS h
            · replace h := ot hc h
              refine lv_iload hx hb d_Pic_becomeHalfOf_70 (lv_at hl 0 rfl) ?_
              refine lv_goto (tgt := 87) hx hb d_Pic_becomeHalfOf_72 rfl ?_
              exact L87 x2_30 x3_30 x3_30 x2_30 z3 p_pixels_30 p_wide_30 p_high_30 H locs ls (lv_sub hl [2, 3, 4, 5] rfl) hP hD hS h
      have h := hq20
      refine lv_iload_n hx hb d_Pic_becomeHalfOf_20 rfl (lv_at hl 2 rfl) ?_
      refine lv_aload_n hx hb d_Pic_becomeHalfOf_21 rfl (lv_at hl 0 rfl) ?_
      refine va_get (D := (dC, dI)) (ci := 4) (v := .int p_high_20) (C := R_Pic) (T := F_Pic) (N := 3) hx hb hts in_Pic hown hK hP 0 rfl rfl 2 (by decide) (hts _ tt81) (fun _ h9 => h9) rfl d_Pic_becomeHalfOf_22 ?_
      refine lv_icmp_ge (tgt := 102) hx hb d_Pic_becomeHalfOf_25 rfl (fun hc => ?_) (fun hc => ?_)
      · replace h := ot hc h
        obtain rfl := Option.some.inj h
        exact hret H locs 102 ls d_Pic_becomeHalfOf_102 hP hD hS
      · replace h := of hc h
        refine lv_iconst (v := (0 : Int32)) hx hb d_Pic_becomeHalfOf_28 (by decide) ?_
        refine lv_istore_n (lv' := [(3, .int (0 : Int32)), (0, .ref p_0), (1, .ref o_0), (2, .int x2_20)]) hx hb d_Pic_becomeHalfOf_29 rfl hl (by decide) rfl (fun ls hl => ?_)
        exact L30 5000 x2_20 (0 : Int32) p_pixels_20 p_wide_20 p_high_20 H locs ls (lv_sub hl [1, 2, 3, 0] rfl) hP hD hS h
  have h := hq
  refine lv_aload_n hx hb d_Pic_becomeHalfOf_0 rfl (lv_at hl 0 rfl) ?_
  refine lv_aload_n hx hb d_Pic_becomeHalfOf_1 rfl (lv_at hl 1 rfl) ?_
  refine va_get (D := (dC, dI)) (ci := 4) (v := .int o_wide) (C := R_Pic) (T := F_Pic) (N := 3) hx hb hts in_Pic hown hK hP 2 rfl rfl 1 (by decide) (hts _ tt78) (fun _ h9 => h9) rfl d_Pic_becomeHalfOf_2 ?_
  obtain ⟨z4, hz4, h⟩ := ob h
  refine x_goI (res := z4) (w1 := (W_0  )) (ws' := (W_PO p_0 p_pixels_a o_0 o_pixels_a p_pixels_k o_pixels_k p_pixels p_wide p_high o_pixels o_wide o_high)) (wr := List.filterMap (fun (i : Nat) => (W_PO p_0 p_pixels_a o_0 o_pixels_a p_pixels_k o_pixels_k p_pixels p_wide p_high o_pixels o_wide o_high)[i]?) ([0, 1, 2, 3] : List Nat)) (va_runSN (As := [.int o_wide]) (rest := [.ref p_0]) ⟨hx, hb, hml, hown, hts⟩ (c_halfSide l dC dI  o_wide  z4  hz4 H.size) ⟨va_cnB 1 hts (gT tt271 TT_good) rfl rfl rfl (hN _ nn269) (hts _ tt45) (by decide +kernel) ⟨Nat.le_of_ble_eq_true rfl, Nat.le_of_ble_eq_true rfl⟩, hts _ tt270, trivial⟩ (x_pre (wc := (W_0  )) (av := [.int o_wide]) hK hP hD hS hA hG [] [] rfl rfl (by decide)) rfl rfl hl.1 rfl (lv_room (Nat.le_of_ble_eq_true rfl)) d_Pic_becomeHalfOf_5 ⟨Nat.zero_le _, Nat.zero_le _⟩) hP hD hS hA [] [0, 1, 2, 3] [0, 1, 2, 3] rfl rfl (by decide) (by decide) (by decide) rfl (fun H locs hP hD hS => ?_)
  refine lv_aload_n hx hb d_Pic_becomeHalfOf_8 rfl (lv_at hl 1 rfl) ?_
  refine va_get (D := (dC, dI)) (ci := 4) (v := .int o_high) (C := R_Pic) (T := F_Pic) (N := 3) hx hb hts in_Pic hown hK hP 2 rfl rfl 2 (by decide) (hts _ tt81) (fun _ h9 => h9) rfl d_Pic_becomeHalfOf_9 ?_
  obtain ⟨z5, hz5, h⟩ := ob h
  refine x_goI (res := z5) (w1 := (W_0  )) (ws' := (W_PO p_0 p_pixels_a o_0 o_pixels_a p_pixels_k o_pixels_k p_pixels p_wide p_high o_pixels o_wide o_high)) (wr := List.filterMap (fun (i : Nat) => (W_PO p_0 p_pixels_a o_0 o_pixels_a p_pixels_k o_pixels_k p_pixels p_wide p_high o_pixels o_wide o_high)[i]?) ([0, 1, 2, 3] : List Nat)) (va_runSN (As := [.int o_high]) (rest := [.int z4, .ref p_0]) ⟨hx, hb, hml, hown, hts⟩ (c_halfSide l dC dI  o_high  z5  hz5 H.size) ⟨va_cnB 1 hts (gT tt271 TT_good) rfl rfl rfl (hN _ nn269) (hts _ tt45) (by decide +kernel) ⟨Nat.le_of_ble_eq_true rfl, Nat.le_of_ble_eq_true rfl⟩, hts _ tt270, trivial⟩ (x_pre (wc := (W_0  )) (av := [.int o_high]) hK hP hD hS hA hG [] [] rfl rfl (by decide)) rfl rfl hl.1 rfl (lv_room (Nat.le_of_ble_eq_true rfl)) d_Pic_becomeHalfOf_12 ⟨Nat.zero_le _, Nat.zero_le _⟩) hP hD hS hA [] [0, 1, 2, 3] [0, 1, 2, 3] rfl rfl (by decide) (by decide) (by decide) rfl (fun H locs hP hD hS => ?_)
  obtain ⟨z6, hz6, h⟩ := ob h
  refine x_goV (w1 := (W_P p_0 p_pixels_a p_pixels_k z6.1 z6.2.1 z6.2.2)) (ws' := (W_PO p_0 p_pixels_a o_0 o_pixels_a p_pixels_k o_pixels_k z6.1 z6.2.1 z6.2.2 o_pixels o_wide o_high)) (wr := List.filterMap (fun (i : Nat) => (W_PO p_0 p_pixels_a o_0 o_pixels_a p_pixels_k o_pixels_k p_pixels p_wide p_high o_pixels o_wide o_high)[i]?) ([2, 3] : List Nat)) (va_runV (As := [.int z4, .int z5]) (rest := []) ⟨hx, hb, hml, hown, hts⟩ (c_Pic_blank l dC dI p_0 p_pixels_a p_pixels_k z4 z5 p_pixels p_wide p_high z6  hz6 H.size) ⟨callB_of 2 hts (gT tt275 TT_good) rfl rfl rfl (hts _ tt46) (hts _ tt272) (by decide +kernel) ⟨Nat.le_of_ble_eq_true rfl, Nat.le_of_ble_eq_true rfl⟩, hts _ tt273, hts _ tt274⟩ (x_preV (q := (R_Pic, F_Pic, 3)) (As := [.int z4, .int z5]) (x_pre (wc := (W_P p_0 p_pixels_a p_pixels_k p_pixels p_wide p_high)) (av := (.ref p_0 :: [.int z4, .int z5])) hK hP hD hS hA hG [0] [0, 1] rfl rfl (by decide)) hK hP (q0 := 0) rfl rfl) rfl rfl hl.1 rfl (lv_room (Nat.le_of_ble_eq_true rfl)) d_Pic_becomeHalfOf_15 ⟨Nat.zero_le _, Nat.zero_le _⟩) hP hD hS hA [0, 1] [2, 3] [2, 3, 0, 1] rfl rfl (by decide) (by decide) (by decide) rfl (fun H locs hP hD hS => ?_)
  refine lv_iconst (v := (0 : Int32)) hx hb d_Pic_becomeHalfOf_18 (by decide) ?_
  refine lv_istore_n (lv' := [(2, .int (0 : Int32)), (0, .ref p_0), (1, .ref o_0)]) hx hb d_Pic_becomeHalfOf_19 rfl hl (by decide) rfl (fun ls hl => ?_)
  exact L20 5000 (0 : Int32) z6.1 z6.2.1 z6.2.2 H locs ls (lv_sub hl [1, 2, 0] rfl) hP hD hS h
