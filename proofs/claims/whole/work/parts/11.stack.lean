def W_SL (s_0 s_layers_a l_0 l_pixels_a : Nat) (s_layers_k l_pixels_k : ClassId) (s_coder_p : Nat) (s_layers_r : Nat → Option Nat) (s_plainRows : Int32) (l_pixels : Nat → Int32) (l_wide : Int32) (l_high : Int32) : va_W := [(s_0, .inr (1, [.ref s_layers_a, .ref s_coder_p, .int s_plainRows])), (s_layers_a, .inl (s_layers_k, 3, .inr (.inr (.inr (.inr s_layers_r))))), (l_0, .inr (4, [.ref l_pixels_a, .int l_wide, .int l_high])), (l_pixels_a, .inl (l_pixels_k, 256, .inl l_pixels))]
def W_SLB (s_0 s_layers_a l_0 l_pixels_a b_0 b_pixels_a : Nat) (s_layers_k l_pixels_k b_pixels_k : ClassId) (s_coder_p : Nat) (s_layers_r : Nat → Option Nat) (s_plainRows : Int32) (l_pixels : Nat → Int32) (l_wide : Int32) (l_high : Int32) (b_pixels : Nat → Int32) (b_wide : Int32) (b_high : Int32) : va_W := [(s_0, .inr (1, [.ref s_layers_a, .ref s_coder_p, .int s_plainRows])), (s_layers_a, .inl (s_layers_k, 3, .inr (.inr (.inr (.inr s_layers_r))))), (l_0, .inr (4, [.ref l_pixels_a, .int l_wide, .int l_high])), (l_pixels_a, .inl (l_pixels_k, 256, .inl l_pixels)), (b_0, .inr (4, [.ref b_pixels_a, .int b_wide, .int b_high])), (b_pixels_a, .inl (b_pixels_k, 256, .inl b_pixels))]
theorem d_Stk_lowestContext_0 : decode b_Stk_lowestContext 0 = .ok (.aload_n 0, 1) := by decide +kernel
theorem d_Stk_lowestContext_1 : decode b_Stk_lowestContext 1 = .ok (.getfield 12, 3) := by decide +kernel
theorem d_Stk_lowestContext_4 : decode b_Stk_lowestContext 4 = .ok (.iconst (0), 1) := by decide +kernel
theorem d_Stk_lowestContext_5 : decode b_Stk_lowestContext 5 = .ok (.aaload, 1) := by decide +kernel
theorem d_Stk_lowestContext_6 : decode b_Stk_lowestContext 6 = .ok (.astore_n 3, 1) := by decide +kernel
theorem d_Stk_lowestContext_7 : decode b_Stk_lowestContext 7 = .ok (.iconst (0), 1) := by decide +kernel
theorem d_Stk_lowestContext_8 : decode b_Stk_lowestContext 8 = .ok (.istore 4, 2) := by decide +kernel
theorem d_Stk_lowestContext_10 : decode b_Stk_lowestContext 10 = .ok (.iload_n 1, 1) := by decide +kernel
theorem d_Stk_lowestContext_11 : decode b_Stk_lowestContext 11 = .ok (.iconst (4), 1) := by decide +kernel
theorem d_Stk_lowestContext_12 : decode b_Stk_lowestContext 12 = .ok (.isub, 1) := by decide +kernel
theorem d_Stk_lowestContext_13 : decode b_Stk_lowestContext 13 = .ok (.istore 5, 2) := by decide +kernel
theorem d_Stk_lowestContext_15 : decode b_Stk_lowestContext 15 = .ok (.iload 5, 2) := by decide +kernel
theorem d_Stk_lowestContext_17 : decode b_Stk_lowestContext 17 = .ok (.iload_n 1, 1) := by decide +kernel
theorem d_Stk_lowestContext_18 : decode b_Stk_lowestContext 18 = .ok (.if_icmp .ge (23), 3) := by decide +kernel
theorem d_Stk_lowestContext_21 : decode b_Stk_lowestContext 21 = .ok (.iconst (2), 1) := by decide +kernel
theorem d_Stk_lowestContext_22 : decode b_Stk_lowestContext 22 = .ok (.iload 4, 2) := by decide +kernel
theorem d_Stk_lowestContext_24 : decode b_Stk_lowestContext 24 = .ok (.imul, 1) := by decide +kernel
theorem d_Stk_lowestContext_25 : decode b_Stk_lowestContext 25 = .ok (.aload_n 3, 1) := by decide +kernel
theorem d_Stk_lowestContext_26 : decode b_Stk_lowestContext 26 = .ok (.iload 5, 2) := by decide +kernel
theorem d_Stk_lowestContext_28 : decode b_Stk_lowestContext 28 = .ok (.iload_n 2, 1) := by decide +kernel
theorem d_Stk_lowestContext_29 : decode b_Stk_lowestContext 29 = .ok (.invokevirtual 76, 3) := by decide +kernel
theorem d_Stk_lowestContext_32 : decode b_Stk_lowestContext 32 = .ok (.iadd, 1) := by decide +kernel
theorem d_Stk_lowestContext_33 : decode b_Stk_lowestContext 33 = .ok (.istore 4, 2) := by decide +kernel
theorem d_Stk_lowestContext_35 : decode b_Stk_lowestContext 35 = .ok (.iinc 5 (1), 3) := by decide +kernel
theorem d_Stk_lowestContext_38 : decode b_Stk_lowestContext 38 = .ok (.goto (-23), 3) := by decide +kernel
theorem d_Stk_lowestContext_41 : decode b_Stk_lowestContext 41 = .ok (.iload_n 1, 1) := by decide +kernel
theorem d_Stk_lowestContext_42 : decode b_Stk_lowestContext 42 = .ok (.iconst (2), 1) := by decide +kernel
theorem d_Stk_lowestContext_43 : decode b_Stk_lowestContext 43 = .ok (.isub, 1) := by decide +kernel
theorem d_Stk_lowestContext_44 : decode b_Stk_lowestContext 44 = .ok (.istore 5, 2) := by decide +kernel
theorem d_Stk_lowestContext_46 : decode b_Stk_lowestContext 46 = .ok (.iload 5, 2) := by decide +kernel
theorem d_Stk_lowestContext_48 : decode b_Stk_lowestContext 48 = .ok (.iload_n 1, 1) := by decide +kernel
theorem d_Stk_lowestContext_49 : decode b_Stk_lowestContext 49 = .ok (.iconst (2), 1) := by decide +kernel
theorem d_Stk_lowestContext_50 : decode b_Stk_lowestContext 50 = .ok (.iadd, 1) := by decide +kernel
theorem d_Stk_lowestContext_51 : decode b_Stk_lowestContext 51 = .ok (.if_icmp .gt (25), 3) := by decide +kernel
theorem d_Stk_lowestContext_54 : decode b_Stk_lowestContext 54 = .ok (.iconst (2), 1) := by decide +kernel
theorem d_Stk_lowestContext_55 : decode b_Stk_lowestContext 55 = .ok (.iload 4, 2) := by decide +kernel
theorem d_Stk_lowestContext_57 : decode b_Stk_lowestContext 57 = .ok (.imul, 1) := by decide +kernel
theorem d_Stk_lowestContext_58 : decode b_Stk_lowestContext 58 = .ok (.aload_n 3, 1) := by decide +kernel
theorem d_Stk_lowestContext_59 : decode b_Stk_lowestContext 59 = .ok (.iload 5, 2) := by decide +kernel
theorem d_Stk_lowestContext_61 : decode b_Stk_lowestContext 61 = .ok (.iload_n 2, 1) := by decide +kernel
theorem d_Stk_lowestContext_62 : decode b_Stk_lowestContext 62 = .ok (.iconst (1), 1) := by decide +kernel
theorem d_Stk_lowestContext_63 : decode b_Stk_lowestContext 63 = .ok (.isub, 1) := by decide +kernel
theorem d_Stk_lowestContext_64 : decode b_Stk_lowestContext 64 = .ok (.invokevirtual 76, 3) := by decide +kernel
theorem d_Stk_lowestContext_67 : decode b_Stk_lowestContext 67 = .ok (.iadd, 1) := by decide +kernel
theorem d_Stk_lowestContext_68 : decode b_Stk_lowestContext 68 = .ok (.istore 4, 2) := by decide +kernel
theorem d_Stk_lowestContext_70 : decode b_Stk_lowestContext 70 = .ok (.iinc 5 (1), 3) := by decide +kernel
theorem d_Stk_lowestContext_73 : decode b_Stk_lowestContext 73 = .ok (.goto (-27), 3) := by decide +kernel
theorem d_Stk_lowestContext_76 : decode b_Stk_lowestContext 76 = .ok (.iconst (2), 1) := by decide +kernel
theorem d_Stk_lowestContext_77 : decode b_Stk_lowestContext 77 = .ok (.iload 4, 2) := by decide +kernel
theorem d_Stk_lowestContext_79 : decode b_Stk_lowestContext 79 = .ok (.imul, 1) := by decide +kernel
theorem d_Stk_lowestContext_80 : decode b_Stk_lowestContext 80 = .ok (.aload_n 3, 1) := by decide +kernel
theorem d_Stk_lowestContext_81 : decode b_Stk_lowestContext 81 = .ok (.iload_n 1, 1) := by decide +kernel
theorem d_Stk_lowestContext_82 : decode b_Stk_lowestContext 82 = .ok (.iload_n 2, 1) := by decide +kernel
theorem d_Stk_lowestContext_83 : decode b_Stk_lowestContext 83 = .ok (.iconst (2), 1) := by decide +kernel
theorem d_Stk_lowestContext_84 : decode b_Stk_lowestContext 84 = .ok (.isub, 1) := by decide +kernel
theorem d_Stk_lowestContext_85 : decode b_Stk_lowestContext 85 = .ok (.invokevirtual 76, 3) := by decide +kernel
theorem d_Stk_lowestContext_88 : decode b_Stk_lowestContext 88 = .ok (.iadd, 1) := by decide +kernel
theorem d_Stk_lowestContext_89 : decode b_Stk_lowestContext 89 = .ok (.ireturn, 1) := by decide +kernel
def q_Stk_lowestContext_46 (i_x : Int32) (i_y : Int32) (l_pixels : Nat → Int32) (l_wide : Int32) (l_high : Int32)  : Nat → Int32 → Int32 → Option (Int32)
  | 0, _, _ => none
  | n + 1, x4_46, x5_46 => (if (i_x + (2 : Int32)) < x5_46 then ((q_Pic_pixel i_x (i_y - (2 : Int32)) l_pixels l_wide l_high).bind fun z1 => some (((2 : Int32) * x4_46) + z1)) else ((q_Pic_pixel x5_46 (i_y - (1 : Int32)) l_pixels l_wide l_high).bind fun z2 => (q_Stk_lowestContext_46 i_x i_y l_pixels l_wide l_high n (((2 : Int32) * x4_46) + z2) (x5_46 + (1 : Int32)))))
def q_Stk_lowestContext_15 (i_x : Int32) (i_y : Int32) (l_pixels : Nat → Int32) (l_wide : Int32) (l_high : Int32)  : Nat → Int32 → Int32 → Option (Int32)
  | 0, _, _ => none
  | n + 1, x4_15, x5_15 => (if i_x ≤ x5_15 then (q_Stk_lowestContext_46 i_x i_y l_pixels l_wide l_high  5000 x4_15 (i_x - (2 : Int32))) else ((q_Pic_pixel x5_15 i_y l_pixels l_wide l_high).bind fun z3 => (q_Stk_lowestContext_15 i_x i_y l_pixels l_wide l_high n (((2 : Int32) * x4_15) + z3) (x5_15 + (1 : Int32)))))
def q_Stk_lowestContext (i_x : Int32) (i_y : Int32) (l_pixels : Nat → Int32) (l_wide : Int32) (l_high : Int32) : Option (Int32) := (q_Stk_lowestContext_15 i_x i_y l_pixels l_wide l_high  5000 (0 : Int32) (i_x - (4 : Int32)))
abbrev rm_Stk_lowestContext : Room := { frames := 2, cells := 0, slots := 0, locals := 44 }
set_option maxHeartbeats 4000000 in
set_option maxRecDepth 100000 in
theorem c_Stk_lowestContext (l : Launch) (dC : Nat → ClassId) (dI : Nat → Nat → Nat) (s_0 s_layers_a l_0 l_pixels_a : Nat) (s_layers_k l_pixels_k : ClassId) (s_coder_p : Nat) (s_layers_r : Nat → Option Nat) (i_x : Int32) (i_y : Int32) (s_plainRows : Int32) (l_pixels : Nat → Int32) (l_wide : Int32) (l_high : Int32) (z : Int32) (hL0 : s_layers_r (0 : Int32).toNatClampNeg = some l_0) (hq : q_Stk_lowestContext i_x i_y l_pixels l_wide l_high = some z) (sz : Nat) : MetI l y_Stk_lowestContext b_Stk_lowestContext 6 .int TT rm_Stk_lowestContext (dC, dI) vcl [(s_layers_k, .object "LayeredBits$Picture"), (l_pixels_k, .int)] (W_SL s_0 s_layers_a l_0 l_pixels_a s_layers_k l_pixels_k s_coder_p s_layers_r s_plainRows l_pixels l_wide l_high) (W_SL s_0 s_layers_a l_0 l_pixels_a s_layers_k l_pixels_k s_coder_p s_layers_r s_plainRows l_pixels l_wide l_high) [.ref s_0, .int i_x, .int i_y] z sz := by
  refine x_ofI (by decide) (Nat.le_of_ble_eq_true rfl) ?_ sz
  intro p e s m args below meth c A Q ls hx hb hml hown hts hA hG hK hP hD hS hl hret
  have hown : s.vm.findClass R_Stk = some m.cls := hown
  have hl : lv_has ls 6 [(0, .ref s_0), (1, .int i_x), (2, .int i_y)] := hl
  obtain ⟨⟨tq, hZ, hTq⟩, hN⟩ := id hG
  obtain ⟨H, hH⟩ : ∃ H, H = s.heap := ⟨_, rfl⟩
  obtain ⟨locs, hlocs⟩ : ∃ locs : List Loc, locs = [] := ⟨_, rfl⟩
  rw [← hH] at hP
  have hS : va_S A s.heap H locs := by rw [hH, hlocs]; exact hS
  suffices hgo : W p l e rm_Stk_lowestContext s m args below meth c H locs 0 0 Q (F0 m 0 ls []) by rw [hH, hlocs] at hgo; exact hgo
  unfold q_Stk_lowestContext at hq
  have L15 : ∀ (n15 : Nat) (x4_15 : Int32) (x5_15 : Int32) (H : Heap) (locs : List Loc) (ls : Array Slot), lv_has ls 6 [(1, .int i_x), (2, .int i_y), (3, .ref l_0), (4, .int x4_15), (5, .int x5_15)] → va_P (dC, dI) vcl (W_SL s_0 s_layers_a l_0 l_pixels_a s_layers_k l_pixels_k s_coder_p s_layers_r s_plainRows l_pixels l_wide l_high) H → va_D A (W_SL s_0 s_layers_a l_0 l_pixels_a s_layers_k l_pixels_k s_coder_p s_layers_r s_plainRows l_pixels l_wide l_high) → va_S A s.heap H locs → q_Stk_lowestContext_15 i_x i_y l_pixels l_wide l_high  n15 x4_15 x5_15 = some z → W p l e rm_Stk_lowestContext s m args below meth c H locs 0 0 Q (F0 m 15 ls []) := by
    intro n15
    induction n15 with
    | zero =>
      intro x4_15 x5_15 H locs ls hl hP hD hS hq
      rw [q_Stk_lowestContext_15] at hq
      cases hq
    | succ n15 ih15 =>
      intro x4_15 x5_15 H locs ls hl hP hD hS hq15
      rw [q_Stk_lowestContext_15] at hq15
      have L46 : ∀ (n46 : Nat) (x4_46 : Int32) (x5_46 : Int32) (H : Heap) (locs : List Loc) (ls : Array Slot), lv_has ls 6 [(1, .int i_x), (2, .int i_y), (3, .ref l_0), (4, .int x4_46), (5, .int x5_46)] → va_P (dC, dI) vcl (W_SL s_0 s_layers_a l_0 l_pixels_a s_layers_k l_pixels_k s_coder_p s_layers_r s_plainRows l_pixels l_wide l_high) H → va_D A (W_SL s_0 s_layers_a l_0 l_pixels_a s_layers_k l_pixels_k s_coder_p s_layers_r s_plainRows l_pixels l_wide l_high) → va_S A s.heap H locs → q_Stk_lowestContext_46 i_x i_y l_pixels l_wide l_high  n46 x4_46 x5_46 = some z → W p l e rm_Stk_lowestContext s m args below meth c H locs 0 0 Q (F0 m 46 ls []) := by
        intro n46
        induction n46 with
        | zero =>
          intro x4_46 x5_46 H locs ls hl hP hD hS hq
          rw [q_Stk_lowestContext_46] at hq
          cases hq
        | succ n46 ih46 =>
          intro x4_46 x5_46 H locs ls hl hP hD hS hq46
          rw [q_Stk_lowestContext_46] at hq46
          have h := hq46
          refine lv_iload hx hb d_Stk_lowestContext_46 (lv_at hl 4 rfl) ?_
          refine lv_iload_n hx hb d_Stk_lowestContext_48 rfl (lv_at hl 0 rfl) ?_
          refine lv_iconst (v := (2 : Int32)) hx hb d_Stk_lowestContext_49 (by decide) ?_
          refine lv_iadd hx hb d_Stk_lowestContext_50 ?_
          refine lv_icmp_gt (tgt := 76) hx hb d_Stk_lowestContext_51 rfl (fun hc => ?_) (fun hc => ?_)
          · replace h := ot hc h
            refine lv_iconst (v := (2 : Int32)) hx hb d_Stk_lowestContext_76 (by decide) ?_
            refine lv_iload hx hb d_Stk_lowestContext_77 (lv_at hl 3 rfl) ?_
            refine lv_imul hx hb d_Stk_lowestContext_79 ?_
            refine lv_aload_n hx hb d_Stk_lowestContext_80 rfl (lv_at hl 2 rfl) ?_
            refine lv_iload_n hx hb d_Stk_lowestContext_81 rfl (lv_at hl 0 rfl) ?_
            refine lv_iload_n hx hb d_Stk_lowestContext_82 rfl (lv_at hl 1 rfl) ?_
            refine lv_iconst (v := (2 : Int32)) hx hb d_Stk_lowestContext_83 (by decide) ?_
            refine lv_isub hx hb d_Stk_lowestContext_84 ?_
            obtain ⟨z1, hz1, h⟩ := ob h
            refine x_goI (res := z1) (w1 := (W_P l_0 l_pixels_a l_pixels_k l_pixels l_wide l_high)) (ws' := (W_SL s_0 s_layers_a l_0 l_pixels_a s_layers_k l_pixels_k s_coder_p s_layers_r s_plainRows l_pixels l_wide l_high)) (wr := List.filterMap (fun (i : Nat) => (W_SL s_0 s_layers_a l_0 l_pixels_a s_layers_k l_pixels_k s_coder_p s_layers_r s_plainRows l_pixels l_wide l_high)[i]?) ([0, 1] : List Nat)) (va_runV (As := [.int i_x, .int (i_y - (2 : Int32))]) (rest := [.int ((2 : Int32) * x4_46)]) ⟨hx, hb, hml, hown, hts⟩ (c_Pic_pixel l dC dI l_0 l_pixels_a l_pixels_k i_x (i_y - (2 : Int32)) l_pixels l_wide l_high z1  hz1 H.size) ⟨callB_of 2 hts (gT tt237 TT_good) rfl rfl rfl (hts _ tt46) (hts _ tt439) (by decide +kernel) ⟨Nat.le_of_ble_eq_true rfl, Nat.le_of_ble_eq_true rfl⟩, hts _ tt235, hts _ tt236⟩ (x_preV (q := (R_Pic, F_Pic, 3)) (As := [.int i_x, .int (i_y - (2 : Int32))]) (x_pre (wc := (W_P l_0 l_pixels_a l_pixels_k l_pixels l_wide l_high)) (av := (.ref l_0 :: [.int i_x, .int (i_y - (2 : Int32))])) hK hP hD hS hA hG [1] [2, 3] rfl rfl (by decide)) hK hP (q0 := 2) rfl rfl) rfl rfl hl.1 rfl (lv_room (Nat.le_of_ble_eq_true rfl)) d_Stk_lowestContext_85 ⟨Nat.zero_le _, Nat.zero_le _⟩) hP hD hS hA [2, 3] [0, 1] [0, 1, 2, 3] rfl rfl (by decide) (by decide) (by decide) rfl (fun H locs hP hD hS => ?_)
            refine lv_iadd hx hb d_Stk_lowestContext_88 ?_
            obtain rfl := Option.some.inj h
            exact hret H locs 89 ls d_Stk_lowestContext_89 (vp_nar_int _) hP hD hS
          · replace h := of hc h
            refine lv_iconst (v := (2 : Int32)) hx hb d_Stk_lowestContext_54 (by decide) ?_
            refine lv_iload hx hb d_Stk_lowestContext_55 (lv_at hl 3 rfl) ?_
            refine lv_imul hx hb d_Stk_lowestContext_57 ?_
            refine lv_aload_n hx hb d_Stk_lowestContext_58 rfl (lv_at hl 2 rfl) ?_
            refine lv_iload hx hb d_Stk_lowestContext_59 (lv_at hl 4 rfl) ?_
            refine lv_iload_n hx hb d_Stk_lowestContext_61 rfl (lv_at hl 1 rfl) ?_
            refine lv_iconst (v := (1 : Int32)) hx hb d_Stk_lowestContext_62 (by decide) ?_
            refine lv_isub hx hb d_Stk_lowestContext_63 ?_
            obtain ⟨z2, hz2, h⟩ := ob h
            refine x_goI (res := z2) (w1 := (W_P l_0 l_pixels_a l_pixels_k l_pixels l_wide l_high)) (ws' := (W_SL s_0 s_layers_a l_0 l_pixels_a s_layers_k l_pixels_k s_coder_p s_layers_r s_plainRows l_pixels l_wide l_high)) (wr := List.filterMap (fun (i : Nat) => (W_SL s_0 s_layers_a l_0 l_pixels_a s_layers_k l_pixels_k s_coder_p s_layers_r s_plainRows l_pixels l_wide l_high)[i]?) ([0, 1] : List Nat)) (va_runV (As := [.int x5_46, .int (i_y - (1 : Int32))]) (rest := [.int ((2 : Int32) * x4_46)]) ⟨hx, hb, hml, hown, hts⟩ (c_Pic_pixel l dC dI l_0 l_pixels_a l_pixels_k x5_46 (i_y - (1 : Int32)) l_pixels l_wide l_high z2  hz2 H.size) ⟨callB_of 2 hts (gT tt237 TT_good) rfl rfl rfl (hts _ tt46) (hts _ tt439) (by decide +kernel) ⟨Nat.le_of_ble_eq_true rfl, Nat.le_of_ble_eq_true rfl⟩, hts _ tt235, hts _ tt236⟩ (x_preV (q := (R_Pic, F_Pic, 3)) (As := [.int x5_46, .int (i_y - (1 : Int32))]) (x_pre (wc := (W_P l_0 l_pixels_a l_pixels_k l_pixels l_wide l_high)) (av := (.ref l_0 :: [.int x5_46, .int (i_y - (1 : Int32))])) hK hP hD hS hA hG [1] [2, 3] rfl rfl (by decide)) hK hP (q0 := 2) rfl rfl) rfl rfl hl.1 rfl (lv_room (Nat.le_of_ble_eq_true rfl)) d_Stk_lowestContext_64 ⟨Nat.zero_le _, Nat.zero_le _⟩) hP hD hS hA [2, 3] [0, 1] [0, 1, 2, 3] rfl rfl (by decide) (by decide) (by decide) rfl (fun H locs hP hD hS => ?_)
            refine lv_iadd hx hb d_Stk_lowestContext_67 ?_
            refine lv_istore (lv' := [(4, .int (((2 : Int32) * x4_46) + z2)), (1, .int i_x), (2, .int i_y), (3, .ref l_0), (5, .int x5_46)]) hx hb d_Stk_lowestContext_68 hl (by decide) rfl (fun ls hl => ?_)
            refine lv_iinc (k := 4) (v := x5_46 + (1 : Int32)) (lv' := [(5, .int (x5_46 + (1 : Int32))), (4, .int (((2 : Int32) * x4_46) + z2)), (1, .int i_x), (2, .int i_y), (3, .ref l_0)]) hx hb d_Stk_lowestContext_70 hl rfl rfl (by decide) rfl (fun ls hl => ?_)
            refine lv_goto (tgt := 46) hx hb d_Stk_lowestContext_73 rfl ?_
            exact ih46 (((2 : Int32) * x4_46) + z2) (x5_46 + (1 : Int32)) H locs ls (lv_sub hl [2, 3, 4, 1, 0] rfl) hP hD hS h
      have h := hq15
      refine lv_iload hx hb d_Stk_lowestContext_15 (lv_at hl 4 rfl) ?_
      refine lv_iload_n hx hb d_Stk_lowestContext_17 rfl (lv_at hl 0 rfl) ?_
      refine lv_icmp_ge (tgt := 41) hx hb d_Stk_lowestContext_18 rfl (fun hc => ?_) (fun hc => ?_)
      · replace h := ot hc h
        refine lv_iload_n hx hb d_Stk_lowestContext_41 rfl (lv_at hl 0 rfl) ?_
        refine lv_iconst (v := (2 : Int32)) hx hb d_Stk_lowestContext_42 (by decide) ?_
        refine lv_isub hx hb d_Stk_lowestContext_43 ?_
        refine lv_istore (lv' := [(5, .int (i_x - (2 : Int32))), (1, .int i_x), (2, .int i_y), (3, .ref l_0), (4, .int x4_15)]) hx hb d_Stk_lowestContext_44 hl (by decide) rfl (fun ls hl => ?_)
        exact L46 5000 x4_15 (i_x - (2 : Int32)) H locs ls (lv_sub hl [1, 2, 3, 4, 0] rfl) hP hD hS h
      · replace h := of hc h
        refine lv_iconst (v := (2 : Int32)) hx hb d_Stk_lowestContext_21 (by decide) ?_
        refine lv_iload hx hb d_Stk_lowestContext_22 (lv_at hl 3 rfl) ?_
        refine lv_imul hx hb d_Stk_lowestContext_24 ?_
        refine lv_aload_n hx hb d_Stk_lowestContext_25 rfl (lv_at hl 2 rfl) ?_
        refine lv_iload hx hb d_Stk_lowestContext_26 (lv_at hl 4 rfl) ?_
        refine lv_iload_n hx hb d_Stk_lowestContext_28 rfl (lv_at hl 1 rfl) ?_
        obtain ⟨z3, hz3, h⟩ := ob h
        refine x_goI (res := z3) (w1 := (W_P l_0 l_pixels_a l_pixels_k l_pixels l_wide l_high)) (ws' := (W_SL s_0 s_layers_a l_0 l_pixels_a s_layers_k l_pixels_k s_coder_p s_layers_r s_plainRows l_pixels l_wide l_high)) (wr := List.filterMap (fun (i : Nat) => (W_SL s_0 s_layers_a l_0 l_pixels_a s_layers_k l_pixels_k s_coder_p s_layers_r s_plainRows l_pixels l_wide l_high)[i]?) ([0, 1] : List Nat)) (va_runV (As := [.int x5_15, .int i_y]) (rest := [.int ((2 : Int32) * x4_15)]) ⟨hx, hb, hml, hown, hts⟩ (c_Pic_pixel l dC dI l_0 l_pixels_a l_pixels_k x5_15 i_y l_pixels l_wide l_high z3  hz3 H.size) ⟨callB_of 2 hts (gT tt237 TT_good) rfl rfl rfl (hts _ tt46) (hts _ tt439) (by decide +kernel) ⟨Nat.le_of_ble_eq_true rfl, Nat.le_of_ble_eq_true rfl⟩, hts _ tt235, hts _ tt236⟩ (x_preV (q := (R_Pic, F_Pic, 3)) (As := [.int x5_15, .int i_y]) (x_pre (wc := (W_P l_0 l_pixels_a l_pixels_k l_pixels l_wide l_high)) (av := (.ref l_0 :: [.int x5_15, .int i_y])) hK hP hD hS hA hG [1] [2, 3] rfl rfl (by decide)) hK hP (q0 := 2) rfl rfl) rfl rfl hl.1 rfl (lv_room (Nat.le_of_ble_eq_true rfl)) d_Stk_lowestContext_29 ⟨Nat.zero_le _, Nat.zero_le _⟩) hP hD hS hA [2, 3] [0, 1] [0, 1, 2, 3] rfl rfl (by decide) (by decide) (by decide) rfl (fun H locs hP hD hS => ?_)
        refine lv_iadd hx hb d_Stk_lowestContext_32 ?_
        refine lv_istore (lv' := [(4, .int (((2 : Int32) * x4_15) + z3)), (1, .int i_x), (2, .int i_y), (3, .ref l_0), (5, .int x5_15)]) hx hb d_Stk_lowestContext_33 hl (by decide) rfl (fun ls hl => ?_)
        refine lv_iinc (k := 4) (v := x5_15 + (1 : Int32)) (lv' := [(5, .int (x5_15 + (1 : Int32))), (4, .int (((2 : Int32) * x4_15) + z3)), (1, .int i_x), (2, .int i_y), (3, .ref l_0)]) hx hb d_Stk_lowestContext_35 hl rfl rfl (by decide) rfl (fun ls hl => ?_)
        refine lv_goto (tgt := 15) hx hb d_Stk_lowestContext_38 rfl ?_
        exact ih15 (((2 : Int32) * x4_15) + z3) (x5_15 + (1 : Int32)) H locs ls (lv_sub hl [2, 3, 4, 1, 0] rfl) hP hD hS h
  have h := hq
  refine lv_aload_n hx hb d_Stk_lowestContext_0 rfl (lv_at hl 0 rfl) ?_
  refine va_get (D := (dC, dI)) (ci := 1) (v := .ref s_layers_a) (C := R_Stk) (T := F_Stk) (N := 3) hx hb hts in_Stk hown hK hP 0 rfl rfl 0 (by decide) (hts _ tt163) (fun _ h9 => h9) rfl d_Stk_lowestContext_1 ?_
  refine lv_iconst (v := (0 : Int32)) hx hb d_Stk_lowestContext_4 (by decide) ?_
  refine va_aldq hx hb hK hP 1 0 rfl rfl (vpb_in (by decide)) d_Stk_lowestContext_5 ?_
  refine x_cv (y := .ref l_0) (by rw [hL0]; rfl) ?_
  refine lv_astore_n (lv' := [(3, .ref l_0), (0, .ref s_0), (1, .int i_x), (2, .int i_y)]) hx hb d_Stk_lowestContext_6 rfl hl (by decide) rfl (fun ls hl => ?_)
  refine lv_iconst (v := (0 : Int32)) hx hb d_Stk_lowestContext_7 (by decide) ?_
  refine lv_istore (lv' := [(4, .int (0 : Int32)), (3, .ref l_0), (0, .ref s_0), (1, .int i_x), (2, .int i_y)]) hx hb d_Stk_lowestContext_8 hl (by decide) rfl (fun ls hl => ?_)
  refine lv_iload_n hx hb d_Stk_lowestContext_10 rfl (lv_at hl 3 rfl) ?_
  refine lv_iconst (v := (4 : Int32)) hx hb d_Stk_lowestContext_11 (by decide) ?_
  refine lv_isub hx hb d_Stk_lowestContext_12 ?_
  refine lv_istore (lv' := [(5, .int (i_x - (4 : Int32))), (4, .int (0 : Int32)), (3, .ref l_0), (0, .ref s_0), (1, .int i_x), (2, .int i_y)]) hx hb d_Stk_lowestContext_13 hl (by decide) rfl (fun ls hl => ?_)
  exact L15 5000 (0 : Int32) (i_x - (4 : Int32)) H locs ls (lv_sub hl [4, 5, 2, 1, 0] rfl) hP hD hS h
theorem d_Stk_upperContext_0 : decode b_Stk_upperContext 0 = .ok (.aload_n 0, 1) := by decide +kernel
theorem d_Stk_upperContext_1 : decode b_Stk_upperContext 1 = .ok (.getfield 12, 3) := by decide +kernel
theorem d_Stk_upperContext_4 : decode b_Stk_upperContext 4 = .ok (.iload_n 1, 1) := by decide +kernel
theorem d_Stk_upperContext_5 : decode b_Stk_upperContext 5 = .ok (.aaload, 1) := by decide +kernel
theorem d_Stk_upperContext_6 : decode b_Stk_upperContext 6 = .ok (.astore 4, 2) := by decide +kernel
theorem d_Stk_upperContext_8 : decode b_Stk_upperContext 8 = .ok (.aload_n 0, 1) := by decide +kernel
theorem d_Stk_upperContext_9 : decode b_Stk_upperContext 9 = .ok (.getfield 12, 3) := by decide +kernel
theorem d_Stk_upperContext_12 : decode b_Stk_upperContext 12 = .ok (.iload_n 1, 1) := by decide +kernel
theorem d_Stk_upperContext_13 : decode b_Stk_upperContext 13 = .ok (.iconst (1), 1) := by decide +kernel
theorem d_Stk_upperContext_14 : decode b_Stk_upperContext 14 = .ok (.isub, 1) := by decide +kernel
theorem d_Stk_upperContext_15 : decode b_Stk_upperContext 15 = .ok (.aaload, 1) := by decide +kernel
theorem d_Stk_upperContext_16 : decode b_Stk_upperContext 16 = .ok (.astore 5, 2) := by decide +kernel
theorem d_Stk_upperContext_18 : decode b_Stk_upperContext 18 = .ok (.iload_n 2, 1) := by decide +kernel
theorem d_Stk_upperContext_19 : decode b_Stk_upperContext 19 = .ok (.iconst (2), 1) := by decide +kernel
theorem d_Stk_upperContext_20 : decode b_Stk_upperContext 20 = .ok (.idiv, 1) := by decide +kernel
theorem d_Stk_upperContext_21 : decode b_Stk_upperContext 21 = .ok (.istore 6, 2) := by decide +kernel
theorem d_Stk_upperContext_23 : decode b_Stk_upperContext 23 = .ok (.iload_n 3, 1) := by decide +kernel
theorem d_Stk_upperContext_24 : decode b_Stk_upperContext 24 = .ok (.iconst (2), 1) := by decide +kernel
theorem d_Stk_upperContext_25 : decode b_Stk_upperContext 25 = .ok (.idiv, 1) := by decide +kernel
theorem d_Stk_upperContext_26 : decode b_Stk_upperContext 26 = .ok (.istore 7, 2) := by decide +kernel
theorem d_Stk_upperContext_28 : decode b_Stk_upperContext 28 = .ok (.iconst (2), 1) := by decide +kernel
theorem d_Stk_upperContext_29 : decode b_Stk_upperContext 29 = .ok (.iload_n 2, 1) := by decide +kernel
theorem d_Stk_upperContext_30 : decode b_Stk_upperContext 30 = .ok (.iconst (2), 1) := by decide +kernel
theorem d_Stk_upperContext_31 : decode b_Stk_upperContext 31 = .ok (.irem, 1) := by decide +kernel
theorem d_Stk_upperContext_32 : decode b_Stk_upperContext 32 = .ok (.imul, 1) := by decide +kernel
theorem d_Stk_upperContext_33 : decode b_Stk_upperContext 33 = .ok (.iload_n 3, 1) := by decide +kernel
theorem d_Stk_upperContext_34 : decode b_Stk_upperContext 34 = .ok (.iconst (2), 1) := by decide +kernel
theorem d_Stk_upperContext_35 : decode b_Stk_upperContext 35 = .ok (.irem, 1) := by decide +kernel
theorem d_Stk_upperContext_36 : decode b_Stk_upperContext 36 = .ok (.iadd, 1) := by decide +kernel
theorem d_Stk_upperContext_37 : decode b_Stk_upperContext 37 = .ok (.istore 8, 2) := by decide +kernel
theorem d_Stk_upperContext_39 : decode b_Stk_upperContext 39 = .ok (.iconst (2), 1) := by decide +kernel
theorem d_Stk_upperContext_40 : decode b_Stk_upperContext 40 = .ok (.iload 8, 2) := by decide +kernel
theorem d_Stk_upperContext_42 : decode b_Stk_upperContext 42 = .ok (.imul, 1) := by decide +kernel
theorem d_Stk_upperContext_43 : decode b_Stk_upperContext 43 = .ok (.aload 5, 2) := by decide +kernel
theorem d_Stk_upperContext_45 : decode b_Stk_upperContext 45 = .ok (.iload 6, 2) := by decide +kernel
theorem d_Stk_upperContext_47 : decode b_Stk_upperContext 47 = .ok (.iload 7, 2) := by decide +kernel
theorem d_Stk_upperContext_49 : decode b_Stk_upperContext 49 = .ok (.invokevirtual 76, 3) := by decide +kernel
theorem d_Stk_upperContext_52 : decode b_Stk_upperContext 52 = .ok (.iadd, 1) := by decide +kernel
theorem d_Stk_upperContext_53 : decode b_Stk_upperContext 53 = .ok (.istore 8, 2) := by decide +kernel
theorem d_Stk_upperContext_55 : decode b_Stk_upperContext 55 = .ok (.iconst (2), 1) := by decide +kernel
theorem d_Stk_upperContext_56 : decode b_Stk_upperContext 56 = .ok (.iload 8, 2) := by decide +kernel
theorem d_Stk_upperContext_58 : decode b_Stk_upperContext 58 = .ok (.imul, 1) := by decide +kernel
theorem d_Stk_upperContext_59 : decode b_Stk_upperContext 59 = .ok (.aload 5, 2) := by decide +kernel
theorem d_Stk_upperContext_61 : decode b_Stk_upperContext 61 = .ok (.iload_n 2, 1) := by decide +kernel
theorem d_Stk_upperContext_62 : decode b_Stk_upperContext 62 = .ok (.iconst (2), 1) := by decide +kernel
theorem d_Stk_upperContext_63 : decode b_Stk_upperContext 63 = .ok (.irem, 1) := by decide +kernel
theorem d_Stk_upperContext_64 : decode b_Stk_upperContext 64 = .ok (.ifCond .ne (10), 3) := by decide +kernel
theorem d_Stk_upperContext_67 : decode b_Stk_upperContext 67 = .ok (.iload 6, 2) := by decide +kernel
theorem d_Stk_upperContext_69 : decode b_Stk_upperContext 69 = .ok (.iconst (1), 1) := by decide +kernel
theorem d_Stk_upperContext_70 : decode b_Stk_upperContext 70 = .ok (.isub, 1) := by decide +kernel
theorem d_Stk_upperContext_71 : decode b_Stk_upperContext 71 = .ok (.goto (7), 3) := by decide +kernel
theorem d_Stk_upperContext_74 : decode b_Stk_upperContext 74 = .ok (.iload 6, 2) := by decide +kernel
theorem d_Stk_upperContext_76 : decode b_Stk_upperContext 76 = .ok (.iconst (1), 1) := by decide +kernel
theorem d_Stk_upperContext_77 : decode b_Stk_upperContext 77 = .ok (.iadd, 1) := by decide +kernel
theorem d_Stk_upperContext_78 : decode b_Stk_upperContext 78 = .ok (.iload 7, 2) := by decide +kernel
theorem d_Stk_upperContext_80 : decode b_Stk_upperContext 80 = .ok (.invokevirtual 76, 3) := by decide +kernel
theorem d_Stk_upperContext_83 : decode b_Stk_upperContext 83 = .ok (.iadd, 1) := by decide +kernel
theorem d_Stk_upperContext_84 : decode b_Stk_upperContext 84 = .ok (.istore 8, 2) := by decide +kernel
theorem d_Stk_upperContext_86 : decode b_Stk_upperContext 86 = .ok (.iconst (2), 1) := by decide +kernel
theorem d_Stk_upperContext_87 : decode b_Stk_upperContext 87 = .ok (.iload 8, 2) := by decide +kernel
theorem d_Stk_upperContext_89 : decode b_Stk_upperContext 89 = .ok (.imul, 1) := by decide +kernel
theorem d_Stk_upperContext_90 : decode b_Stk_upperContext 90 = .ok (.aload 5, 2) := by decide +kernel
theorem d_Stk_upperContext_92 : decode b_Stk_upperContext 92 = .ok (.iload 6, 2) := by decide +kernel
theorem d_Stk_upperContext_94 : decode b_Stk_upperContext 94 = .ok (.iload_n 3, 1) := by decide +kernel
theorem d_Stk_upperContext_95 : decode b_Stk_upperContext 95 = .ok (.iconst (2), 1) := by decide +kernel
theorem d_Stk_upperContext_96 : decode b_Stk_upperContext 96 = .ok (.irem, 1) := by decide +kernel
theorem d_Stk_upperContext_97 : decode b_Stk_upperContext 97 = .ok (.ifCond .ne (10), 3) := by decide +kernel
theorem d_Stk_upperContext_100 : decode b_Stk_upperContext 100 = .ok (.iload 7, 2) := by decide +kernel
theorem d_Stk_upperContext_102 : decode b_Stk_upperContext 102 = .ok (.iconst (1), 1) := by decide +kernel
theorem d_Stk_upperContext_103 : decode b_Stk_upperContext 103 = .ok (.isub, 1) := by decide +kernel
theorem d_Stk_upperContext_104 : decode b_Stk_upperContext 104 = .ok (.goto (7), 3) := by decide +kernel
theorem d_Stk_upperContext_107 : decode b_Stk_upperContext 107 = .ok (.iload 7, 2) := by decide +kernel
theorem d_Stk_upperContext_109 : decode b_Stk_upperContext 109 = .ok (.iconst (1), 1) := by decide +kernel
theorem d_Stk_upperContext_110 : decode b_Stk_upperContext 110 = .ok (.iadd, 1) := by decide +kernel
theorem d_Stk_upperContext_111 : decode b_Stk_upperContext 111 = .ok (.invokevirtual 76, 3) := by decide +kernel
theorem d_Stk_upperContext_114 : decode b_Stk_upperContext 114 = .ok (.iadd, 1) := by decide +kernel
theorem d_Stk_upperContext_115 : decode b_Stk_upperContext 115 = .ok (.istore 8, 2) := by decide +kernel
theorem d_Stk_upperContext_117 : decode b_Stk_upperContext 117 = .ok (.iconst (2), 1) := by decide +kernel
theorem d_Stk_upperContext_118 : decode b_Stk_upperContext 118 = .ok (.iload 8, 2) := by decide +kernel
theorem d_Stk_upperContext_120 : decode b_Stk_upperContext 120 = .ok (.imul, 1) := by decide +kernel
theorem d_Stk_upperContext_121 : decode b_Stk_upperContext 121 = .ok (.aload 4, 2) := by decide +kernel
theorem d_Stk_upperContext_123 : decode b_Stk_upperContext 123 = .ok (.iload_n 2, 1) := by decide +kernel
theorem d_Stk_upperContext_124 : decode b_Stk_upperContext 124 = .ok (.iconst (1), 1) := by decide +kernel
theorem d_Stk_upperContext_125 : decode b_Stk_upperContext 125 = .ok (.isub, 1) := by decide +kernel
theorem d_Stk_upperContext_126 : decode b_Stk_upperContext 126 = .ok (.iload_n 3, 1) := by decide +kernel
theorem d_Stk_upperContext_127 : decode b_Stk_upperContext 127 = .ok (.invokevirtual 76, 3) := by decide +kernel
theorem d_Stk_upperContext_130 : decode b_Stk_upperContext 130 = .ok (.iadd, 1) := by decide +kernel
theorem d_Stk_upperContext_131 : decode b_Stk_upperContext 131 = .ok (.istore 8, 2) := by decide +kernel
theorem d_Stk_upperContext_133 : decode b_Stk_upperContext 133 = .ok (.iload_n 2, 1) := by decide +kernel
theorem d_Stk_upperContext_134 : decode b_Stk_upperContext 134 = .ok (.iconst (1), 1) := by decide +kernel
theorem d_Stk_upperContext_135 : decode b_Stk_upperContext 135 = .ok (.isub, 1) := by decide +kernel
theorem d_Stk_upperContext_136 : decode b_Stk_upperContext 136 = .ok (.istore 9, 2) := by decide +kernel
theorem d_Stk_upperContext_138 : decode b_Stk_upperContext 138 = .ok (.iload 9, 2) := by decide +kernel
theorem d_Stk_upperContext_140 : decode b_Stk_upperContext 140 = .ok (.iload_n 2, 1) := by decide +kernel
theorem d_Stk_upperContext_141 : decode b_Stk_upperContext 141 = .ok (.iconst (1), 1) := by decide +kernel
theorem d_Stk_upperContext_142 : decode b_Stk_upperContext 142 = .ok (.iadd, 1) := by decide +kernel
theorem d_Stk_upperContext_143 : decode b_Stk_upperContext 143 = .ok (.if_icmp .gt (26), 3) := by decide +kernel
theorem d_Stk_upperContext_146 : decode b_Stk_upperContext 146 = .ok (.iconst (2), 1) := by decide +kernel
theorem d_Stk_upperContext_147 : decode b_Stk_upperContext 147 = .ok (.iload 8, 2) := by decide +kernel
theorem d_Stk_upperContext_149 : decode b_Stk_upperContext 149 = .ok (.imul, 1) := by decide +kernel
theorem d_Stk_upperContext_150 : decode b_Stk_upperContext 150 = .ok (.aload 4, 2) := by decide +kernel
theorem d_Stk_upperContext_152 : decode b_Stk_upperContext 152 = .ok (.iload 9, 2) := by decide +kernel
theorem d_Stk_upperContext_154 : decode b_Stk_upperContext 154 = .ok (.iload_n 3, 1) := by decide +kernel
theorem d_Stk_upperContext_155 : decode b_Stk_upperContext 155 = .ok (.iconst (1), 1) := by decide +kernel
theorem d_Stk_upperContext_156 : decode b_Stk_upperContext 156 = .ok (.isub, 1) := by decide +kernel
theorem d_Stk_upperContext_157 : decode b_Stk_upperContext 157 = .ok (.invokevirtual 76, 3) := by decide +kernel
theorem d_Stk_upperContext_160 : decode b_Stk_upperContext 160 = .ok (.iadd, 1) := by decide +kernel
theorem d_Stk_upperContext_161 : decode b_Stk_upperContext 161 = .ok (.istore 8, 2) := by decide +kernel
theorem d_Stk_upperContext_163 : decode b_Stk_upperContext 163 = .ok (.iinc 9 (1), 3) := by decide +kernel
theorem d_Stk_upperContext_166 : decode b_Stk_upperContext 166 = .ok (.goto (-28), 3) := by decide +kernel
theorem d_Stk_upperContext_169 : decode b_Stk_upperContext 169 = .ok (.sipush (512), 3) := by decide +kernel
theorem d_Stk_upperContext_172 : decode b_Stk_upperContext 172 = .ok (.iload_n 1, 1) := by decide +kernel
theorem d_Stk_upperContext_173 : decode b_Stk_upperContext 173 = .ok (.imul, 1) := by decide +kernel
theorem d_Stk_upperContext_174 : decode b_Stk_upperContext 174 = .ok (.sipush (512), 3) := by decide +kernel
theorem d_Stk_upperContext_177 : decode b_Stk_upperContext 177 = .ok (.iadd, 1) := by decide +kernel
theorem d_Stk_upperContext_178 : decode b_Stk_upperContext 178 = .ok (.iload 8, 2) := by decide +kernel
theorem d_Stk_upperContext_180 : decode b_Stk_upperContext 180 = .ok (.iadd, 1) := by decide +kernel
theorem d_Stk_upperContext_181 : decode b_Stk_upperContext 181 = .ok (.ireturn, 1) := by decide +kernel
def q_Stk_upperContext_138 (i_k : Int32) (i_x : Int32) (i_y : Int32) (l_pixels : Nat → Int32) (l_wide : Int32) (l_high : Int32) (b_pixels : Nat → Int32) (b_wide : Int32) (b_high : Int32)  : Nat → Int32 → Int32 → Option (Int32)
  | 0, _, _ => none
  | n + 1, x8_138, x9_138 => (if (i_x + (1 : Int32)) < x9_138 then some ((((512 : Int32) * i_k) + (512 : Int32)) + x8_138) else ((q_Pic_pixel x9_138 (i_y - (1 : Int32)) l_pixels l_wide l_high).bind fun z1 => (q_Stk_upperContext_138 i_k i_x i_y l_pixels l_wide l_high b_pixels b_wide b_high n (((2 : Int32) * x8_138) + z1) (x9_138 + (1 : Int32)))))
def q_Stk_upperContext_111 (i_k : Int32) (i_x : Int32) (i_y : Int32) (l_pixels : Nat → Int32) (l_wide : Int32) (l_high : Int32) (b_pixels : Nat → Int32) (b_wide : Int32) (b_high : Int32)  (k0_111 : Int32) (k2_111 : Int32) (k3_111 : Int32) : Option (Int32) := ((q_Pic_pixel k2_111 k3_111 b_pixels b_wide b_high).bind fun z2 => ((q_Pic_pixel (i_x - (1 : Int32)) i_y l_pixels l_wide l_high).bind fun z3 => (q_Stk_upperContext_138 i_k i_x i_y l_pixels l_wide l_high b_pixels b_wide b_high  5000 (((2 : Int32) * (k0_111 + z2)) + z3) (i_x - (1 : Int32)))))
def q_Stk_upperContext_78 (i_k : Int32) (i_x : Int32) (i_y : Int32) (l_pixels : Nat → Int32) (l_wide : Int32) (l_high : Int32) (b_pixels : Nat → Int32) (b_wide : Int32) (b_high : Int32)  (x6_78 : Int32) (x7_78 : Int32) (k0_78 : Int32) (k2_78 : Int32) : Option (Int32) := ((q_Pic_pixel k2_78 x7_78 b_pixels b_wide b_high).bind fun z4 => (if (i_y - i_y / (2 : Int32) * (2 : Int32)) = 0 then (q_Stk_upperContext_111 i_k i_x i_y l_pixels l_wide l_high b_pixels b_wide b_high  ((2 : Int32) * (k0_78 + z4)) x6_78 (x7_78 - (1 : Int32))) else (q_Stk_upperContext_111 i_k i_x i_y l_pixels l_wide l_high b_pixels b_wide b_high  ((2 : Int32) * (k0_78 + z4)) x6_78 (x7_78 + (1 : Int32)))))
def q_Stk_upperContext (i_k : Int32) (i_x : Int32) (i_y : Int32) (l_pixels : Nat → Int32) (l_wide : Int32) (l_high : Int32) (b_pixels : Nat → Int32) (b_wide : Int32) (b_high : Int32) : Option (Int32) := (if vpb i_k 3 = true then (if vpb (i_k - (1 : Int32)) 3 = true then ((q_Pic_pixel (i_x / (2 : Int32)) (i_y / (2 : Int32)) b_pixels b_wide b_high).bind fun z5 => (if (i_x - i_x / (2 : Int32) * (2 : Int32)) = 0 then (q_Stk_upperContext_78 i_k i_x i_y l_pixels l_wide l_high b_pixels b_wide b_high  (i_x / (2 : Int32)) (i_y / (2 : Int32)) ((2 : Int32) * (((2 : Int32) * (((2 : Int32) * (i_x - i_x / (2 : Int32) * (2 : Int32))) + (i_y - i_y / (2 : Int32) * (2 : Int32)))) + z5)) ((i_x / (2 : Int32)) - (1 : Int32))) else (q_Stk_upperContext_78 i_k i_x i_y l_pixels l_wide l_high b_pixels b_wide b_high  (i_x / (2 : Int32)) (i_y / (2 : Int32)) ((2 : Int32) * (((2 : Int32) * (((2 : Int32) * (i_x - i_x / (2 : Int32) * (2 : Int32))) + (i_y - i_y / (2 : Int32) * (2 : Int32)))) + z5)) ((i_x / (2 : Int32)) + (1 : Int32))))) else none) else none)
abbrev rm_Stk_upperContext : Room := { frames := 2, cells := 0, slots := 0, locals := 44 }
set_option maxHeartbeats 4000000 in
set_option maxRecDepth 100000 in
theorem c_Stk_upperContext (l : Launch) (dC : Nat → ClassId) (dI : Nat → Nat → Nat) (s_0 s_layers_a l_0 l_pixels_a b_0 b_pixels_a : Nat) (s_layers_k l_pixels_k b_pixels_k : ClassId) (s_coder_p : Nat) (s_layers_r : Nat → Option Nat) (i_k : Int32) (i_x : Int32) (i_y : Int32) (s_plainRows : Int32) (l_pixels : Nat → Int32) (l_wide : Int32) (l_high : Int32) (b_pixels : Nat → Int32) (b_wide : Int32) (b_high : Int32) (z : Int32) (hL : s_layers_r i_k.toNatClampNeg = some l_0) (hB : s_layers_r (i_k - (1 : Int32)).toNatClampNeg = some b_0) (hq : q_Stk_upperContext i_k i_x i_y l_pixels l_wide l_high b_pixels b_wide b_high = some z) (sz : Nat) : MetI l y_Stk_upperContext b_Stk_upperContext 10 .int TT rm_Stk_upperContext (dC, dI) vcl [(s_layers_k, .object "LayeredBits$Picture"), (l_pixels_k, .int), (b_pixels_k, .int)] (W_SLB s_0 s_layers_a l_0 l_pixels_a b_0 b_pixels_a s_layers_k l_pixels_k b_pixels_k s_coder_p s_layers_r s_plainRows l_pixels l_wide l_high b_pixels b_wide b_high) (W_SLB s_0 s_layers_a l_0 l_pixels_a b_0 b_pixels_a s_layers_k l_pixels_k b_pixels_k s_coder_p s_layers_r s_plainRows l_pixels l_wide l_high b_pixels b_wide b_high) [.ref s_0, .int i_k, .int i_x, .int i_y] z sz := by
  refine x_ofI (by decide) (Nat.le_of_ble_eq_true rfl) ?_ sz
  intro p e s m args below meth c A Q ls hx hb hml hown hts hA hG hK hP hD hS hl hret
  have hown : s.vm.findClass R_Stk = some m.cls := hown
  have hl : lv_has ls 10 [(0, .ref s_0), (1, .int i_k), (2, .int i_x), (3, .int i_y)] := hl
  obtain ⟨⟨tq, hZ, hTq⟩, hN⟩ := id hG
  obtain ⟨H, hH⟩ : ∃ H, H = s.heap := ⟨_, rfl⟩
  obtain ⟨locs, hlocs⟩ : ∃ locs : List Loc, locs = [] := ⟨_, rfl⟩
  rw [← hH] at hP
  have hS : va_S A s.heap H locs := by rw [hH, hlocs]; exact hS
  suffices hgo : W p l e rm_Stk_upperContext s m args below meth c H locs 0 0 Q (F0 m 0 ls []) by rw [hH, hlocs] at hgo; exact hgo
  unfold q_Stk_upperContext at hq
  have L78 : ∀ (x6_78 : Int32) (x7_78 : Int32) (k0_78 : Int32) (k2_78 : Int32) (H : Heap) (locs : List Loc) (ls : Array Slot), lv_has ls 10 [(1, .int i_k), (2, .int i_x), (3, .int i_y), (4, .ref l_0), (5, .ref b_0), (6, .int x6_78), (7, .int x7_78)] → va_P (dC, dI) vcl (W_SLB s_0 s_layers_a l_0 l_pixels_a b_0 b_pixels_a s_layers_k l_pixels_k b_pixels_k s_coder_p s_layers_r s_plainRows l_pixels l_wide l_high b_pixels b_wide b_high) H → va_D A (W_SLB s_0 s_layers_a l_0 l_pixels_a b_0 b_pixels_a s_layers_k l_pixels_k b_pixels_k s_coder_p s_layers_r s_plainRows l_pixels l_wide l_high b_pixels b_wide b_high) → va_S A s.heap H locs → q_Stk_upperContext_78 i_k i_x i_y l_pixels l_wide l_high b_pixels b_wide b_high  x6_78 x7_78 k0_78 k2_78 = some z → W p l e rm_Stk_upperContext s m args below meth c H locs 0 0 Q (F0 m 78 ls [.int k2_78, .ref b_0, .int k0_78]) := by
    intro x6_78 x7_78 k0_78 k2_78 H locs ls hl hP hD hS hq78
    unfold q_Stk_upperContext_78 at hq78
    have L111 : ∀ (k0_111 : Int32) (k2_111 : Int32) (k3_111 : Int32) (H : Heap) (locs : List Loc) (ls : Array Slot), lv_has ls 10 [(1, .int i_k), (2, .int i_x), (3, .int i_y), (4, .ref l_0)] → va_P (dC, dI) vcl (W_SLB s_0 s_layers_a l_0 l_pixels_a b_0 b_pixels_a s_layers_k l_pixels_k b_pixels_k s_coder_p s_layers_r s_plainRows l_pixels l_wide l_high b_pixels b_wide b_high) H → va_D A (W_SLB s_0 s_layers_a l_0 l_pixels_a b_0 b_pixels_a s_layers_k l_pixels_k b_pixels_k s_coder_p s_layers_r s_plainRows l_pixels l_wide l_high b_pixels b_wide b_high) → va_S A s.heap H locs → q_Stk_upperContext_111 i_k i_x i_y l_pixels l_wide l_high b_pixels b_wide b_high  k0_111 k2_111 k3_111 = some z → W p l e rm_Stk_upperContext s m args below meth c H locs 0 0 Q (F0 m 111 ls [.int k3_111, .int k2_111, .ref b_0, .int k0_111]) := by
      intro k0_111 k2_111 k3_111 H locs ls hl hP hD hS hq111
      unfold q_Stk_upperContext_111 at hq111
      have L138 : ∀ (n138 : Nat) (x8_138 : Int32) (x9_138 : Int32) (H : Heap) (locs : List Loc) (ls : Array Slot), lv_has ls 10 [(1, .int i_k), (2, .int i_x), (3, .int i_y), (4, .ref l_0), (8, .int x8_138), (9, .int x9_138)] → va_P (dC, dI) vcl (W_SLB s_0 s_layers_a l_0 l_pixels_a b_0 b_pixels_a s_layers_k l_pixels_k b_pixels_k s_coder_p s_layers_r s_plainRows l_pixels l_wide l_high b_pixels b_wide b_high) H → va_D A (W_SLB s_0 s_layers_a l_0 l_pixels_a b_0 b_pixels_a s_layers_k l_pixels_k b_pixels_k s_coder_p s_layers_r s_plainRows l_pixels l_wide l_high b_pixels b_wide b_high) → va_S A s.heap H locs → q_Stk_upperContext_138 i_k i_x i_y l_pixels l_wide l_high b_pixels b_wide b_high  n138 x8_138 x9_138 = some z → W p l e rm_Stk_upperContext s m args below meth c H locs 0 0 Q (F0 m 138 ls []) := by
        intro n138
        induction n138 with
        | zero =>
          intro x8_138 x9_138 H locs ls hl hP hD hS hq
          rw [q_Stk_upperContext_138] at hq
          cases hq
        | succ n138 ih138 =>
          intro x8_138 x9_138 H locs ls hl hP hD hS hq138
          rw [q_Stk_upperContext_138] at hq138
          have h := hq138
          refine lv_iload hx hb d_Stk_upperContext_138 (lv_at hl 5 rfl) ?_
          refine lv_iload_n hx hb d_Stk_upperContext_140 rfl (lv_at hl 1 rfl) ?_
          refine lv_iconst (v := (1 : Int32)) hx hb d_Stk_upperContext_141 (by decide) ?_
          refine lv_iadd hx hb d_Stk_upperContext_142 ?_
          refine lv_icmp_gt (tgt := 169) hx hb d_Stk_upperContext_143 rfl (fun hc => ?_) (fun hc => ?_)
          · replace h := ot hc h
            refine lv_sipush (v := (512 : Int32)) hx hb d_Stk_upperContext_169 (by decide) ?_
            refine lv_iload_n hx hb d_Stk_upperContext_172 rfl (lv_at hl 0 rfl) ?_
            refine lv_imul hx hb d_Stk_upperContext_173 ?_
            refine lv_sipush (v := (512 : Int32)) hx hb d_Stk_upperContext_174 (by decide) ?_
            refine lv_iadd hx hb d_Stk_upperContext_177 ?_
            refine lv_iload hx hb d_Stk_upperContext_178 (lv_at hl 4 rfl) ?_
            refine lv_iadd hx hb d_Stk_upperContext_180 ?_
            obtain rfl := Option.some.inj h
            exact hret H locs 181 ls d_Stk_upperContext_181 (vp_nar_int _) hP hD hS
          · replace h := of hc h
            refine lv_iconst (v := (2 : Int32)) hx hb d_Stk_upperContext_146 (by decide) ?_
            refine lv_iload hx hb d_Stk_upperContext_147 (lv_at hl 4 rfl) ?_
            refine lv_imul hx hb d_Stk_upperContext_149 ?_
            refine lv_aload hx hb d_Stk_upperContext_150 (lv_at hl 3 rfl) ?_
            refine lv_iload hx hb d_Stk_upperContext_152 (lv_at hl 5 rfl) ?_
            refine lv_iload_n hx hb d_Stk_upperContext_154 rfl (lv_at hl 2 rfl) ?_
            refine lv_iconst (v := (1 : Int32)) hx hb d_Stk_upperContext_155 (by decide) ?_
            refine lv_isub hx hb d_Stk_upperContext_156 ?_
            obtain ⟨z1, hz1, h⟩ := ob h
            refine x_goI (res := z1) (w1 := (W_P l_0 l_pixels_a l_pixels_k l_pixels l_wide l_high)) (ws' := (W_SLB s_0 s_layers_a l_0 l_pixels_a b_0 b_pixels_a s_layers_k l_pixels_k b_pixels_k s_coder_p s_layers_r s_plainRows l_pixels l_wide l_high b_pixels b_wide b_high)) (wr := List.filterMap (fun (i : Nat) => (W_SLB s_0 s_layers_a l_0 l_pixels_a b_0 b_pixels_a s_layers_k l_pixels_k b_pixels_k s_coder_p s_layers_r s_plainRows l_pixels l_wide l_high b_pixels b_wide b_high)[i]?) ([0, 1, 4, 5] : List Nat)) (va_runV (As := [.int x9_138, .int (i_y - (1 : Int32))]) (rest := [.int ((2 : Int32) * x8_138)]) ⟨hx, hb, hml, hown, hts⟩ (c_Pic_pixel l dC dI l_0 l_pixels_a l_pixels_k x9_138 (i_y - (1 : Int32)) l_pixels l_wide l_high z1  hz1 H.size) ⟨callB_of 2 hts (gT tt237 TT_good) rfl rfl rfl (hts _ tt46) (hts _ tt439) (by decide +kernel) ⟨Nat.le_of_ble_eq_true rfl, Nat.le_of_ble_eq_true rfl⟩, hts _ tt235, hts _ tt236⟩ (x_preV (q := (R_Pic, F_Pic, 3)) (As := [.int x9_138, .int (i_y - (1 : Int32))]) (x_pre (wc := (W_P l_0 l_pixels_a l_pixels_k l_pixels l_wide l_high)) (av := (.ref l_0 :: [.int x9_138, .int (i_y - (1 : Int32))])) hK hP hD hS hA hG [1] [2, 3] rfl rfl (by decide)) hK hP (q0 := 2) rfl rfl) rfl rfl hl.1 rfl (lv_room (Nat.le_of_ble_eq_true rfl)) d_Stk_upperContext_157 ⟨Nat.zero_le _, Nat.zero_le _⟩) hP hD hS hA [2, 3] [0, 1, 4, 5] [0, 1, 4, 5, 2, 3] rfl rfl (by decide) (by decide) (by decide) rfl (fun H locs hP hD hS => ?_)
            refine lv_iadd hx hb d_Stk_upperContext_160 ?_
            refine lv_istore (lv' := [(8, .int (((2 : Int32) * x8_138) + z1)), (1, .int i_k), (2, .int i_x), (3, .int i_y), (4, .ref l_0), (9, .int x9_138)]) hx hb d_Stk_upperContext_161 hl (by decide) rfl (fun ls hl => ?_)
            refine lv_iinc (k := 5) (v := x9_138 + (1 : Int32)) (lv' := [(9, .int (x9_138 + (1 : Int32))), (8, .int (((2 : Int32) * x8_138) + z1)), (1, .int i_k), (2, .int i_x), (3, .int i_y), (4, .ref l_0)]) hx hb d_Stk_upperContext_163 hl rfl rfl (by decide) rfl (fun ls hl => ?_)
            refine lv_goto (tgt := 138) hx hb d_Stk_upperContext_166 rfl ?_
            exact ih138 (((2 : Int32) * x8_138) + z1) (x9_138 + (1 : Int32)) H locs ls (lv_sub hl [2, 3, 4, 5, 1, 0] rfl) hP hD hS h
      have h := hq111
      obtain ⟨z2, hz2, h⟩ := ob h
      refine x_goI (res := z2) (w1 := (W_P b_0 b_pixels_a b_pixels_k b_pixels b_wide b_high)) (ws' := (W_SLB s_0 s_layers_a l_0 l_pixels_a b_0 b_pixels_a s_layers_k l_pixels_k b_pixels_k s_coder_p s_layers_r s_plainRows l_pixels l_wide l_high b_pixels b_wide b_high)) (wr := List.filterMap (fun (i : Nat) => (W_SLB s_0 s_layers_a l_0 l_pixels_a b_0 b_pixels_a s_layers_k l_pixels_k b_pixels_k s_coder_p s_layers_r s_plainRows l_pixels l_wide l_high b_pixels b_wide b_high)[i]?) ([0, 1, 2, 3] : List Nat)) (va_runV (As := [.int k2_111, .int k3_111]) (rest := [.int k0_111]) ⟨hx, hb, hml, hown, hts⟩ (c_Pic_pixel l dC dI b_0 b_pixels_a b_pixels_k k2_111 k3_111 b_pixels b_wide b_high z2  hz2 H.size) ⟨callB_of 2 hts (gT tt237 TT_good) rfl rfl rfl (hts _ tt46) (hts _ tt439) (by decide +kernel) ⟨Nat.le_of_ble_eq_true rfl, Nat.le_of_ble_eq_true rfl⟩, hts _ tt235, hts _ tt236⟩ (x_preV (q := (R_Pic, F_Pic, 3)) (As := [.int k2_111, .int k3_111]) (x_pre (wc := (W_P b_0 b_pixels_a b_pixels_k b_pixels b_wide b_high)) (av := (.ref b_0 :: [.int k2_111, .int k3_111])) hK hP hD hS hA hG [2] [4, 5] rfl rfl (by decide)) hK hP (q0 := 4) rfl rfl) rfl rfl hl.1 rfl (lv_room (Nat.le_of_ble_eq_true rfl)) d_Stk_upperContext_111 ⟨Nat.zero_le _, Nat.zero_le _⟩) hP hD hS hA [4, 5] [0, 1, 2, 3] [0, 1, 2, 3, 4, 5] rfl rfl (by decide) (by decide) (by decide) rfl (fun H locs hP hD hS => ?_)
      refine lv_iadd hx hb d_Stk_upperContext_114 ?_
      refine lv_istore (lv' := [(8, .int (k0_111 + z2)), (1, .int i_k), (2, .int i_x), (3, .int i_y), (4, .ref l_0)]) hx hb d_Stk_upperContext_115 hl (by decide) rfl (fun ls hl => ?_)
      refine lv_iconst (v := (2 : Int32)) hx hb d_Stk_upperContext_117 (by decide) ?_
      refine lv_iload hx hb d_Stk_upperContext_118 (lv_at hl 0 rfl) ?_
      refine lv_imul hx hb d_Stk_upperContext_120 ?_
      refine lv_aload hx hb d_Stk_upperContext_121 (lv_at hl 4 rfl) ?_
      refine lv_iload_n hx hb d_Stk_upperContext_123 rfl (lv_at hl 2 rfl) ?_
      refine lv_iconst (v := (1 : Int32)) hx hb d_Stk_upperContext_124 (by decide) ?_
      refine lv_isub hx hb d_Stk_upperContext_125 ?_
      refine lv_iload_n hx hb d_Stk_upperContext_126 rfl (lv_at hl 3 rfl) ?_
      obtain ⟨z3, hz3, h⟩ := ob h
      refine x_goI (res := z3) (w1 := (W_P l_0 l_pixels_a l_pixels_k l_pixels l_wide l_high)) (ws' := (W_SLB s_0 s_layers_a l_0 l_pixels_a b_0 b_pixels_a s_layers_k l_pixels_k b_pixels_k s_coder_p s_layers_r s_plainRows l_pixels l_wide l_high b_pixels b_wide b_high)) (wr := List.filterMap (fun (i : Nat) => (W_SLB s_0 s_layers_a l_0 l_pixels_a b_0 b_pixels_a s_layers_k l_pixels_k b_pixels_k s_coder_p s_layers_r s_plainRows l_pixels l_wide l_high b_pixels b_wide b_high)[i]?) ([0, 1, 4, 5] : List Nat)) (va_runV (As := [.int (i_x - (1 : Int32)), .int i_y]) (rest := [.int ((2 : Int32) * (k0_111 + z2))]) ⟨hx, hb, hml, hown, hts⟩ (c_Pic_pixel l dC dI l_0 l_pixels_a l_pixels_k (i_x - (1 : Int32)) i_y l_pixels l_wide l_high z3  hz3 H.size) ⟨callB_of 2 hts (gT tt237 TT_good) rfl rfl rfl (hts _ tt46) (hts _ tt439) (by decide +kernel) ⟨Nat.le_of_ble_eq_true rfl, Nat.le_of_ble_eq_true rfl⟩, hts _ tt235, hts _ tt236⟩ (x_preV (q := (R_Pic, F_Pic, 3)) (As := [.int (i_x - (1 : Int32)), .int i_y]) (x_pre (wc := (W_P l_0 l_pixels_a l_pixels_k l_pixels l_wide l_high)) (av := (.ref l_0 :: [.int (i_x - (1 : Int32)), .int i_y])) hK hP hD hS hA hG [1] [2, 3] rfl rfl (by decide)) hK hP (q0 := 2) rfl rfl) rfl rfl hl.1 rfl (lv_room (Nat.le_of_ble_eq_true rfl)) d_Stk_upperContext_127 ⟨Nat.zero_le _, Nat.zero_le _⟩) hP hD hS hA [2, 3] [0, 1, 4, 5] [0, 1, 4, 5, 2, 3] rfl rfl (by decide) (by decide) (by decide) rfl (fun H locs hP hD hS => ?_)
      refine lv_iadd hx hb d_Stk_upperContext_130 ?_
      refine lv_istore (lv' := [(8, .int (((2 : Int32) * (k0_111 + z2)) + z3)), (1, .int i_k), (2, .int i_x), (3, .int i_y), (4, .ref l_0)]) hx hb d_Stk_upperContext_131 hl (by decide) rfl (fun ls hl => ?_)
      refine lv_iload_n hx hb d_Stk_upperContext_133 rfl (lv_at hl 2 rfl) ?_
      refine lv_iconst (v := (1 : Int32)) hx hb d_Stk_upperContext_134 (by decide) ?_
      refine lv_isub hx hb d_Stk_upperContext_135 ?_
      refine lv_istore (lv' := [(9, .int (i_x - (1 : Int32))), (8, .int (((2 : Int32) * (k0_111 + z2)) + z3)), (1, .int i_k), (2, .int i_x), (3, .int i_y), (4, .ref l_0)]) hx hb d_Stk_upperContext_136 hl (by decide) rfl (fun ls hl => ?_)
      exact L138 5000 (((2 : Int32) * (k0_111 + z2)) + z3) (i_x - (1 : Int32)) H locs ls (lv_sub hl [2, 3, 4, 5, 1, 0] rfl) hP hD hS h
    have h := hq78
    refine lv_iload hx hb d_Stk_upperContext_78 (lv_at hl 6 rfl) ?_
    obtain ⟨z4, hz4, h⟩ := ob h
    refine x_goI (res := z4) (w1 := (W_P b_0 b_pixels_a b_pixels_k b_pixels b_wide b_high)) (ws' := (W_SLB s_0 s_layers_a l_0 l_pixels_a b_0 b_pixels_a s_layers_k l_pixels_k b_pixels_k s_coder_p s_layers_r s_plainRows l_pixels l_wide l_high b_pixels b_wide b_high)) (wr := List.filterMap (fun (i : Nat) => (W_SLB s_0 s_layers_a l_0 l_pixels_a b_0 b_pixels_a s_layers_k l_pixels_k b_pixels_k s_coder_p s_layers_r s_plainRows l_pixels l_wide l_high b_pixels b_wide b_high)[i]?) ([0, 1, 2, 3] : List Nat)) (va_runV (As := [.int k2_78, .int x7_78]) (rest := [.int k0_78]) ⟨hx, hb, hml, hown, hts⟩ (c_Pic_pixel l dC dI b_0 b_pixels_a b_pixels_k k2_78 x7_78 b_pixels b_wide b_high z4  hz4 H.size) ⟨callB_of 2 hts (gT tt237 TT_good) rfl rfl rfl (hts _ tt46) (hts _ tt439) (by decide +kernel) ⟨Nat.le_of_ble_eq_true rfl, Nat.le_of_ble_eq_true rfl⟩, hts _ tt235, hts _ tt236⟩ (x_preV (q := (R_Pic, F_Pic, 3)) (As := [.int k2_78, .int x7_78]) (x_pre (wc := (W_P b_0 b_pixels_a b_pixels_k b_pixels b_wide b_high)) (av := (.ref b_0 :: [.int k2_78, .int x7_78])) hK hP hD hS hA hG [2] [4, 5] rfl rfl (by decide)) hK hP (q0 := 4) rfl rfl) rfl rfl hl.1 rfl (lv_room (Nat.le_of_ble_eq_true rfl)) d_Stk_upperContext_80 ⟨Nat.zero_le _, Nat.zero_le _⟩) hP hD hS hA [4, 5] [0, 1, 2, 3] [0, 1, 2, 3, 4, 5] rfl rfl (by decide) (by decide) (by decide) rfl (fun H locs hP hD hS => ?_)
    refine lv_iadd hx hb d_Stk_upperContext_83 ?_
    refine lv_istore (lv' := [(8, .int (k0_78 + z4)), (1, .int i_k), (2, .int i_x), (3, .int i_y), (4, .ref l_0), (5, .ref b_0), (6, .int x6_78), (7, .int x7_78)]) hx hb d_Stk_upperContext_84 hl (by decide) rfl (fun ls hl => ?_)
    refine lv_iconst (v := (2 : Int32)) hx hb d_Stk_upperContext_86 (by decide) ?_
    refine lv_iload hx hb d_Stk_upperContext_87 (lv_at hl 0 rfl) ?_
    refine lv_imul hx hb d_Stk_upperContext_89 ?_
    refine lv_aload hx hb d_Stk_upperContext_90 (lv_at hl 5 rfl) ?_
    refine lv_iload hx hb d_Stk_upperContext_92 (lv_at hl 6 rfl) ?_
    refine lv_iload_n hx hb d_Stk_upperContext_94 rfl (lv_at hl 3 rfl) ?_
    refine lv_iconst (v := (2 : Int32)) hx hb d_Stk_upperContext_95 (by decide) ?_
    refine lv_irem hx hb d_Stk_upperContext_96 (by decide) ?_
    refine lv_if_ne (tgt := 107) hx hb d_Stk_upperContext_97 rfl (fun hc => ?_) (fun hc => ?_)
    · replace h := of hc h
      refine lv_iload hx hb d_Stk_upperContext_107 (lv_at hl 7 rfl) ?_
      refine lv_iconst (v := (1 : Int32)) hx hb d_Stk_upperContext_109 (by decide) ?_
      refine lv_iadd hx hb d_Stk_upperContext_110 ?_
      exact L111 ((2 : Int32) * (k0_78 + z4)) x6_78 (x7_78 + (1 : Int32)) H locs ls (lv_sub hl [1, 2, 3, 4] rfl) hP hD hS h
    · replace h := ot hc h
      refine lv_iload hx hb d_Stk_upperContext_100 (lv_at hl 7 rfl) ?_
      refine lv_iconst (v := (1 : Int32)) hx hb d_Stk_upperContext_102 (by decide) ?_
      refine lv_isub hx hb d_Stk_upperContext_103 ?_
      refine lv_goto (tgt := 111) hx hb d_Stk_upperContext_104 rfl ?_
      exact L111 ((2 : Int32) * (k0_78 + z4)) x6_78 (x7_78 - (1 : Int32)) H locs ls (lv_sub hl [1, 2, 3, 4] rfl) hP hD hS h
  have h := hq
  refine lv_aload_n hx hb d_Stk_upperContext_0 rfl (lv_at hl 0 rfl) ?_
  refine va_get (D := (dC, dI)) (ci := 1) (v := .ref s_layers_a) (C := R_Stk) (T := F_Stk) (N := 3) hx hb hts in_Stk hown hK hP 0 rfl rfl 0 (by decide) (hts _ tt163) (fun _ h9 => h9) rfl d_Stk_upperContext_1 ?_
  refine lv_iload_n hx hb d_Stk_upperContext_4 rfl (lv_at hl 1 rfl) ?_
  obtain ⟨hin, h⟩ := og h
  refine va_aldq hx hb hK hP 1 0 rfl rfl (vpb_in hin) d_Stk_upperContext_5 ?_
  refine x_cv (y := .ref l_0) (by rw [hL]; rfl) ?_
  refine lv_astore (lv' := [(4, .ref l_0), (0, .ref s_0), (1, .int i_k), (2, .int i_x), (3, .int i_y)]) hx hb d_Stk_upperContext_6 hl (by decide) rfl (fun ls hl => ?_)
  refine lv_aload_n hx hb d_Stk_upperContext_8 rfl (lv_at hl 1 rfl) ?_
  refine va_get (D := (dC, dI)) (ci := 1) (v := .ref s_layers_a) (C := R_Stk) (T := F_Stk) (N := 3) hx hb hts in_Stk hown hK hP 0 rfl rfl 0 (by decide) (hts _ tt163) (fun _ h9 => h9) rfl d_Stk_upperContext_9 ?_
  refine lv_iload_n hx hb d_Stk_upperContext_12 rfl (lv_at hl 2 rfl) ?_
  refine lv_iconst (v := (1 : Int32)) hx hb d_Stk_upperContext_13 (by decide) ?_
  refine lv_isub hx hb d_Stk_upperContext_14 ?_
  obtain ⟨hin, h⟩ := og h
  refine va_aldq hx hb hK hP 1 0 rfl rfl (vpb_in hin) d_Stk_upperContext_15 ?_
  refine x_cv (y := .ref b_0) (by rw [hB]; rfl) ?_
  refine lv_astore (lv' := [(5, .ref b_0), (4, .ref l_0), (0, .ref s_0), (1, .int i_k), (2, .int i_x), (3, .int i_y)]) hx hb d_Stk_upperContext_16 hl (by decide) rfl (fun ls hl => ?_)
  refine lv_iload_n hx hb d_Stk_upperContext_18 rfl (lv_at hl 4 rfl) ?_
  refine lv_iconst (v := (2 : Int32)) hx hb d_Stk_upperContext_19 (by decide) ?_
  refine lv_idiv hx hb d_Stk_upperContext_20 (by decide) ?_
  refine lv_istore (lv' := [(6, .int (i_x / (2 : Int32))), (5, .ref b_0), (4, .ref l_0), (0, .ref s_0), (1, .int i_k), (2, .int i_x), (3, .int i_y)]) hx hb d_Stk_upperContext_21 hl (by decide) rfl (fun ls hl => ?_)
  refine lv_iload_n hx hb d_Stk_upperContext_23 rfl (lv_at hl 6 rfl) ?_
  refine lv_iconst (v := (2 : Int32)) hx hb d_Stk_upperContext_24 (by decide) ?_
  refine lv_idiv hx hb d_Stk_upperContext_25 (by decide) ?_
  refine lv_istore (lv' := [(7, .int (i_y / (2 : Int32))), (6, .int (i_x / (2 : Int32))), (5, .ref b_0), (4, .ref l_0), (0, .ref s_0), (1, .int i_k), (2, .int i_x), (3, .int i_y)]) hx hb d_Stk_upperContext_26 hl (by decide) rfl (fun ls hl => ?_)
  refine lv_iconst (v := (2 : Int32)) hx hb d_Stk_upperContext_28 (by decide) ?_
  refine lv_iload_n hx hb d_Stk_upperContext_29 rfl (lv_at hl 6 rfl) ?_
  refine lv_iconst (v := (2 : Int32)) hx hb d_Stk_upperContext_30 (by decide) ?_
  refine lv_irem hx hb d_Stk_upperContext_31 (by decide) ?_
  refine lv_imul hx hb d_Stk_upperContext_32 ?_
  refine lv_iload_n hx hb d_Stk_upperContext_33 rfl (lv_at hl 7 rfl) ?_
  refine lv_iconst (v := (2 : Int32)) hx hb d_Stk_upperContext_34 (by decide) ?_
  refine lv_irem hx hb d_Stk_upperContext_35 (by decide) ?_
  refine lv_iadd hx hb d_Stk_upperContext_36 ?_
  refine lv_istore (lv' := [(8, .int (((2 : Int32) * (i_x - i_x / (2 : Int32) * (2 : Int32))) + (i_y - i_y / (2 : Int32) * (2 : Int32)))), (7, .int (i_y / (2 : Int32))), (6, .int (i_x / (2 : Int32))), (5, .ref b_0), (4, .ref l_0), (0, .ref s_0), (1, .int i_k), (2, .int i_x), (3, .int i_y)]) hx hb d_Stk_upperContext_37 hl (by decide) rfl (fun ls hl => ?_)
  refine lv_iconst (v := (2 : Int32)) hx hb d_Stk_upperContext_39 (by decide) ?_
  refine lv_iload hx hb d_Stk_upperContext_40 (lv_at hl 0 rfl) ?_
  refine lv_imul hx hb d_Stk_upperContext_42 ?_
  refine lv_aload hx hb d_Stk_upperContext_43 (lv_at hl 3 rfl) ?_
  refine lv_iload hx hb d_Stk_upperContext_45 (lv_at hl 2 rfl) ?_
  refine lv_iload hx hb d_Stk_upperContext_47 (lv_at hl 1 rfl) ?_
  obtain ⟨z5, hz5, h⟩ := ob h
  refine x_goI (res := z5) (w1 := (W_P b_0 b_pixels_a b_pixels_k b_pixels b_wide b_high)) (ws' := (W_SLB s_0 s_layers_a l_0 l_pixels_a b_0 b_pixels_a s_layers_k l_pixels_k b_pixels_k s_coder_p s_layers_r s_plainRows l_pixels l_wide l_high b_pixels b_wide b_high)) (wr := List.filterMap (fun (i : Nat) => (W_SLB s_0 s_layers_a l_0 l_pixels_a b_0 b_pixels_a s_layers_k l_pixels_k b_pixels_k s_coder_p s_layers_r s_plainRows l_pixels l_wide l_high b_pixels b_wide b_high)[i]?) ([0, 1, 2, 3] : List Nat)) (va_runV (As := [.int (i_x / (2 : Int32)), .int (i_y / (2 : Int32))]) (rest := [.int ((2 : Int32) * (((2 : Int32) * (i_x - i_x / (2 : Int32) * (2 : Int32))) + (i_y - i_y / (2 : Int32) * (2 : Int32))))]) ⟨hx, hb, hml, hown, hts⟩ (c_Pic_pixel l dC dI b_0 b_pixels_a b_pixels_k (i_x / (2 : Int32)) (i_y / (2 : Int32)) b_pixels b_wide b_high z5  hz5 H.size) ⟨callB_of 2 hts (gT tt237 TT_good) rfl rfl rfl (hts _ tt46) (hts _ tt439) (by decide +kernel) ⟨Nat.le_of_ble_eq_true rfl, Nat.le_of_ble_eq_true rfl⟩, hts _ tt235, hts _ tt236⟩ (x_preV (q := (R_Pic, F_Pic, 3)) (As := [.int (i_x / (2 : Int32)), .int (i_y / (2 : Int32))]) (x_pre (wc := (W_P b_0 b_pixels_a b_pixels_k b_pixels b_wide b_high)) (av := (.ref b_0 :: [.int (i_x / (2 : Int32)), .int (i_y / (2 : Int32))])) hK hP hD hS hA hG [2] [4, 5] rfl rfl (by decide)) hK hP (q0 := 4) rfl rfl) rfl rfl hl.1 rfl (lv_room (Nat.le_of_ble_eq_true rfl)) d_Stk_upperContext_49 ⟨Nat.zero_le _, Nat.zero_le _⟩) hP hD hS hA [4, 5] [0, 1, 2, 3] [0, 1, 2, 3, 4, 5] rfl rfl (by decide) (by decide) (by decide) rfl (fun H locs hP hD hS => ?_)
  refine lv_iadd hx hb d_Stk_upperContext_52 ?_
  refine lv_istore (lv' := [(8, .int (((2 : Int32) * (((2 : Int32) * (i_x - i_x / (2 : Int32) * (2 : Int32))) + (i_y - i_y / (2 : Int32) * (2 : Int32)))) + z5)), (7, .int (i_y / (2 : Int32))), (6, .int (i_x / (2 : Int32))), (5, .ref b_0), (4, .ref l_0), (0, .ref s_0), (1, .int i_k), (2, .int i_x), (3, .int i_y)]) hx hb d_Stk_upperContext_53 hl (by decide) rfl (fun ls hl => ?_)
  refine lv_iconst (v := (2 : Int32)) hx hb d_Stk_upperContext_55 (by decide) ?_
  refine lv_iload hx hb d_Stk_upperContext_56 (lv_at hl 0 rfl) ?_
  refine lv_imul hx hb d_Stk_upperContext_58 ?_
  refine lv_aload hx hb d_Stk_upperContext_59 (lv_at hl 3 rfl) ?_
  refine lv_iload_n hx hb d_Stk_upperContext_61 rfl (lv_at hl 7 rfl) ?_
  refine lv_iconst (v := (2 : Int32)) hx hb d_Stk_upperContext_62 (by decide) ?_
  refine lv_irem hx hb d_Stk_upperContext_63 (by decide) ?_
  refine lv_if_ne (tgt := 74) hx hb d_Stk_upperContext_64 rfl (fun hc => ?_) (fun hc => ?_)
  · replace h := of hc h
    refine lv_iload hx hb d_Stk_upperContext_74 (lv_at hl 2 rfl) ?_
    refine lv_iconst (v := (1 : Int32)) hx hb d_Stk_upperContext_76 (by decide) ?_
    refine lv_iadd hx hb d_Stk_upperContext_77 ?_
    exact L78 (i_x / (2 : Int32)) (i_y / (2 : Int32)) ((2 : Int32) * (((2 : Int32) * (((2 : Int32) * (i_x - i_x / (2 : Int32) * (2 : Int32))) + (i_y - i_y / (2 : Int32) * (2 : Int32)))) + z5)) ((i_x / (2 : Int32)) + (1 : Int32)) H locs ls (lv_sub hl [6, 7, 8, 4, 3, 2, 1] rfl) hP hD hS h
  · replace h := ot hc h
    refine lv_iload hx hb d_Stk_upperContext_67 (lv_at hl 2 rfl) ?_
    refine lv_iconst (v := (1 : Int32)) hx hb d_Stk_upperContext_69 (by decide) ?_
    refine lv_isub hx hb d_Stk_upperContext_70 ?_
    refine lv_goto (tgt := 78) hx hb d_Stk_upperContext_71 rfl ?_
    exact L78 (i_x / (2 : Int32)) (i_y / (2 : Int32)) ((2 : Int32) * (((2 : Int32) * (((2 : Int32) * (i_x - i_x / (2 : Int32) * (2 : Int32))) + (i_y - i_y / (2 : Int32) * (2 : Int32)))) + z5)) ((i_x / (2 : Int32)) - (1 : Int32)) H locs ls (lv_sub hl [6, 7, 8, 4, 3, 2, 1] rfl) hP hD hS h
theorem d_Stk_plainPixel_0 : decode b_Stk_plainPixel 0 = .ok (.iload_n 1, 1) := by decide +kernel
theorem d_Stk_plainPixel_1 : decode b_Stk_plainPixel 1 = .ok (.ifCond .ne (19), 3) := by decide +kernel
theorem d_Stk_plainPixel_4 : decode b_Stk_plainPixel 4 = .ok (.aload_n 0, 1) := by decide +kernel
theorem d_Stk_plainPixel_5 : decode b_Stk_plainPixel 5 = .ok (.getfield 12, 3) := by decide +kernel
theorem d_Stk_plainPixel_8 : decode b_Stk_plainPixel 8 = .ok (.iconst (0), 1) := by decide +kernel
theorem d_Stk_plainPixel_9 : decode b_Stk_plainPixel 9 = .ok (.aaload, 1) := by decide +kernel
theorem d_Stk_plainPixel_10 : decode b_Stk_plainPixel 10 = .ok (.iload_n 2, 1) := by decide +kernel
theorem d_Stk_plainPixel_11 : decode b_Stk_plainPixel 11 = .ok (.iload_n 3, 1) := by decide +kernel
theorem d_Stk_plainPixel_12 : decode b_Stk_plainPixel 12 = .ok (.iconst (1), 1) := by decide +kernel
theorem d_Stk_plainPixel_13 : decode b_Stk_plainPixel 13 = .ok (.isub, 1) := by decide +kernel
theorem d_Stk_plainPixel_14 : decode b_Stk_plainPixel 14 = .ok (.invokevirtual 76, 3) := by decide +kernel
theorem d_Stk_plainPixel_17 : decode b_Stk_plainPixel 17 = .ok (.goto (20), 3) := by decide +kernel
theorem d_Stk_plainPixel_20 : decode b_Stk_plainPixel 20 = .ok (.aload_n 0, 1) := by decide +kernel
theorem d_Stk_plainPixel_21 : decode b_Stk_plainPixel 21 = .ok (.getfield 12, 3) := by decide +kernel
theorem d_Stk_plainPixel_24 : decode b_Stk_plainPixel 24 = .ok (.iload_n 1, 1) := by decide +kernel
theorem d_Stk_plainPixel_25 : decode b_Stk_plainPixel 25 = .ok (.iconst (1), 1) := by decide +kernel
theorem d_Stk_plainPixel_26 : decode b_Stk_plainPixel 26 = .ok (.isub, 1) := by decide +kernel
theorem d_Stk_plainPixel_27 : decode b_Stk_plainPixel 27 = .ok (.aaload, 1) := by decide +kernel
theorem d_Stk_plainPixel_28 : decode b_Stk_plainPixel 28 = .ok (.iload_n 2, 1) := by decide +kernel
theorem d_Stk_plainPixel_29 : decode b_Stk_plainPixel 29 = .ok (.iconst (2), 1) := by decide +kernel
theorem d_Stk_plainPixel_30 : decode b_Stk_plainPixel 30 = .ok (.idiv, 1) := by decide +kernel
theorem d_Stk_plainPixel_31 : decode b_Stk_plainPixel 31 = .ok (.iload_n 3, 1) := by decide +kernel
theorem d_Stk_plainPixel_32 : decode b_Stk_plainPixel 32 = .ok (.iconst (2), 1) := by decide +kernel
theorem d_Stk_plainPixel_33 : decode b_Stk_plainPixel 33 = .ok (.idiv, 1) := by decide +kernel
theorem d_Stk_plainPixel_34 : decode b_Stk_plainPixel 34 = .ok (.invokevirtual 76, 3) := by decide +kernel
theorem d_Stk_plainPixel_37 : decode b_Stk_plainPixel 37 = .ok (.ireturn, 1) := by decide +kernel
def q_Stk_plainPixel (i_k : Int32) (i_x : Int32) (i_y : Int32) (l_pixels : Nat → Int32) (l_wide : Int32) (l_high : Int32) (b_pixels : Nat → Int32) (b_wide : Int32) (b_high : Int32) : Option (Int32) := (if i_k = 0 then ((q_Pic_pixel i_x (i_y - (1 : Int32)) l_pixels l_wide l_high).bind fun z2 => some (z2)) else (if vpb (i_k - (1 : Int32)) 3 = true then ((q_Pic_pixel (i_x / (2 : Int32)) (i_y / (2 : Int32)) b_pixels b_wide b_high).bind fun z1 => some (z1)) else none))
abbrev rm_Stk_plainPixel : Room := { frames := 2, cells := 0, slots := 0, locals := 44 }
set_option maxHeartbeats 4000000 in
set_option maxRecDepth 100000 in
theorem c_Stk_plainPixel (l : Launch) (dC : Nat → ClassId) (dI : Nat → Nat → Nat) (s_0 s_layers_a l_0 l_pixels_a b_0 b_pixels_a : Nat) (s_layers_k l_pixels_k b_pixels_k : ClassId) (s_coder_p : Nat) (s_layers_r : Nat → Option Nat) (i_k : Int32) (i_x : Int32) (i_y : Int32) (s_plainRows : Int32) (l_pixels : Nat → Int32) (l_wide : Int32) (l_high : Int32) (b_pixels : Nat → Int32) (b_wide : Int32) (b_high : Int32) (z : Int32) (hL : s_layers_r i_k.toNatClampNeg = some l_0) (hB : ¬ i_k = 0 → s_layers_r (i_k - (1 : Int32)).toNatClampNeg = some b_0) (hq : q_Stk_plainPixel i_k i_x i_y l_pixels l_wide l_high b_pixels b_wide b_high = some z) (sz : Nat) : MetI l y_Stk_plainPixel b_Stk_plainPixel 4 .int TT rm_Stk_plainPixel (dC, dI) vcl [(s_layers_k, .object "LayeredBits$Picture"), (l_pixels_k, .int), (b_pixels_k, .int)] (W_SLB s_0 s_layers_a l_0 l_pixels_a b_0 b_pixels_a s_layers_k l_pixels_k b_pixels_k s_coder_p s_layers_r s_plainRows l_pixels l_wide l_high b_pixels b_wide b_high) (W_SLB s_0 s_layers_a l_0 l_pixels_a b_0 b_pixels_a s_layers_k l_pixels_k b_pixels_k s_coder_p s_layers_r s_plainRows l_pixels l_wide l_high b_pixels b_wide b_high) [.ref s_0, .int i_k, .int i_x, .int i_y] z sz := by
  refine x_ofI (by decide) (Nat.le_of_ble_eq_true rfl) ?_ sz
  intro p e s m args below meth c A Q ls hx hb hml hown hts hA hG hK hP hD hS hl hret
  have hown : s.vm.findClass R_Stk = some m.cls := hown
  have hl : lv_has ls 4 [(0, .ref s_0), (1, .int i_k), (2, .int i_x), (3, .int i_y)] := hl
  obtain ⟨⟨tq, hZ, hTq⟩, hN⟩ := id hG
  obtain ⟨H, hH⟩ : ∃ H, H = s.heap := ⟨_, rfl⟩
  obtain ⟨locs, hlocs⟩ : ∃ locs : List Loc, locs = [] := ⟨_, rfl⟩
  rw [← hH] at hP
  have hS : va_S A s.heap H locs := by rw [hH, hlocs]; exact hS
  suffices hgo : W p l e rm_Stk_plainPixel s m args below meth c H locs 0 0 Q (F0 m 0 ls []) by rw [hH, hlocs] at hgo; exact hgo
  unfold q_Stk_plainPixel at hq
  have h := hq
  refine lv_iload_n hx hb d_Stk_plainPixel_0 rfl (lv_at hl 1 rfl) ?_
  refine lv_if_ne (tgt := 20) hx hb d_Stk_plainPixel_1 rfl (fun hc => ?_) (fun hc => ?_)
  · replace h := of hc h
    refine lv_aload_n hx hb d_Stk_plainPixel_20 rfl (lv_at hl 0 rfl) ?_
    refine va_get (D := (dC, dI)) (ci := 1) (v := .ref s_layers_a) (C := R_Stk) (T := F_Stk) (N := 3) hx hb hts in_Stk hown hK hP 0 rfl rfl 0 (by decide) (hts _ tt163) (fun _ h9 => h9) rfl d_Stk_plainPixel_21 ?_
    refine lv_iload_n hx hb d_Stk_plainPixel_24 rfl (lv_at hl 1 rfl) ?_
    refine lv_iconst (v := (1 : Int32)) hx hb d_Stk_plainPixel_25 (by decide) ?_
    refine lv_isub hx hb d_Stk_plainPixel_26 ?_
    obtain ⟨hin, h⟩ := og h
    refine va_aldq hx hb hK hP 1 0 rfl rfl (vpb_in hin) d_Stk_plainPixel_27 ?_
    refine x_cv (y := .ref b_0) (by rw [hB hc]; rfl) ?_
    refine lv_iload_n hx hb d_Stk_plainPixel_28 rfl (lv_at hl 2 rfl) ?_
    refine lv_iconst (v := (2 : Int32)) hx hb d_Stk_plainPixel_29 (by decide) ?_
    refine lv_idiv hx hb d_Stk_plainPixel_30 (by decide) ?_
    refine lv_iload_n hx hb d_Stk_plainPixel_31 rfl (lv_at hl 3 rfl) ?_
    refine lv_iconst (v := (2 : Int32)) hx hb d_Stk_plainPixel_32 (by decide) ?_
    refine lv_idiv hx hb d_Stk_plainPixel_33 (by decide) ?_
    obtain ⟨z1, hz1, h⟩ := ob h
    refine x_goI (res := z1) (w1 := (W_P b_0 b_pixels_a b_pixels_k b_pixels b_wide b_high)) (ws' := (W_SLB s_0 s_layers_a l_0 l_pixels_a b_0 b_pixels_a s_layers_k l_pixels_k b_pixels_k s_coder_p s_layers_r s_plainRows l_pixels l_wide l_high b_pixels b_wide b_high)) (wr := List.filterMap (fun (i : Nat) => (W_SLB s_0 s_layers_a l_0 l_pixels_a b_0 b_pixels_a s_layers_k l_pixels_k b_pixels_k s_coder_p s_layers_r s_plainRows l_pixels l_wide l_high b_pixels b_wide b_high)[i]?) ([0, 1, 2, 3] : List Nat)) (va_runV (As := [.int (i_x / (2 : Int32)), .int (i_y / (2 : Int32))]) (rest := []) ⟨hx, hb, hml, hown, hts⟩ (c_Pic_pixel l dC dI b_0 b_pixels_a b_pixels_k (i_x / (2 : Int32)) (i_y / (2 : Int32)) b_pixels b_wide b_high z1  hz1 H.size) ⟨callB_of 2 hts (gT tt237 TT_good) rfl rfl rfl (hts _ tt46) (hts _ tt439) (by decide +kernel) ⟨Nat.le_of_ble_eq_true rfl, Nat.le_of_ble_eq_true rfl⟩, hts _ tt235, hts _ tt236⟩ (x_preV (q := (R_Pic, F_Pic, 3)) (As := [.int (i_x / (2 : Int32)), .int (i_y / (2 : Int32))]) (x_pre (wc := (W_P b_0 b_pixels_a b_pixels_k b_pixels b_wide b_high)) (av := (.ref b_0 :: [.int (i_x / (2 : Int32)), .int (i_y / (2 : Int32))])) hK hP hD hS hA hG [2] [4, 5] rfl rfl (by decide)) hK hP (q0 := 4) rfl rfl) rfl rfl hl.1 rfl (lv_room (Nat.le_of_ble_eq_true rfl)) d_Stk_plainPixel_34 ⟨Nat.zero_le _, Nat.zero_le _⟩) hP hD hS hA [4, 5] [0, 1, 2, 3] [0, 1, 2, 3, 4, 5] rfl rfl (by decide) (by decide) (by decide) rfl (fun H locs hP hD hS => ?_)
    obtain rfl := Option.some.inj h
    exact hret H locs 37 ls d_Stk_plainPixel_37 (vp_nar_int _) hP hD hS
  · replace h := ot hc h
    refine lv_aload_n hx hb d_Stk_plainPixel_4 rfl (lv_at hl 0 rfl) ?_
    refine va_get (D := (dC, dI)) (ci := 1) (v := .ref s_layers_a) (C := R_Stk) (T := F_Stk) (N := 3) hx hb hts in_Stk hown hK hP 0 rfl rfl 0 (by decide) (hts _ tt163) (fun _ h9 => h9) rfl d_Stk_plainPixel_5 ?_
    refine lv_iconst (v := (0 : Int32)) hx hb d_Stk_plainPixel_8 (by decide) ?_
    refine va_aldq hx hb hK hP 1 0 rfl rfl (vpb_in (by decide)) d_Stk_plainPixel_9 ?_
    refine x_cv (y := .ref l_0) (by have e := hL; rw [hc] at e; rw [e]; rfl) ?_
    refine lv_iload_n hx hb d_Stk_plainPixel_10 rfl (lv_at hl 2 rfl) ?_
    refine lv_iload_n hx hb d_Stk_plainPixel_11 rfl (lv_at hl 3 rfl) ?_
    refine lv_iconst (v := (1 : Int32)) hx hb d_Stk_plainPixel_12 (by decide) ?_
    refine lv_isub hx hb d_Stk_plainPixel_13 ?_
    obtain ⟨z2, hz2, h⟩ := ob h
    refine x_goI (res := z2) (w1 := (W_P l_0 l_pixels_a l_pixels_k l_pixels l_wide l_high)) (ws' := (W_SLB s_0 s_layers_a l_0 l_pixels_a b_0 b_pixels_a s_layers_k l_pixels_k b_pixels_k s_coder_p s_layers_r s_plainRows l_pixels l_wide l_high b_pixels b_wide b_high)) (wr := List.filterMap (fun (i : Nat) => (W_SLB s_0 s_layers_a l_0 l_pixels_a b_0 b_pixels_a s_layers_k l_pixels_k b_pixels_k s_coder_p s_layers_r s_plainRows l_pixels l_wide l_high b_pixels b_wide b_high)[i]?) ([0, 1, 4, 5] : List Nat)) (va_runV (As := [.int i_x, .int (i_y - (1 : Int32))]) (rest := []) ⟨hx, hb, hml, hown, hts⟩ (c_Pic_pixel l dC dI l_0 l_pixels_a l_pixels_k i_x (i_y - (1 : Int32)) l_pixels l_wide l_high z2  hz2 H.size) ⟨callB_of 2 hts (gT tt237 TT_good) rfl rfl rfl (hts _ tt46) (hts _ tt439) (by decide +kernel) ⟨Nat.le_of_ble_eq_true rfl, Nat.le_of_ble_eq_true rfl⟩, hts _ tt235, hts _ tt236⟩ (x_preV (q := (R_Pic, F_Pic, 3)) (As := [.int i_x, .int (i_y - (1 : Int32))]) (x_pre (wc := (W_P l_0 l_pixels_a l_pixels_k l_pixels l_wide l_high)) (av := (.ref l_0 :: [.int i_x, .int (i_y - (1 : Int32))])) hK hP hD hS hA hG [1] [2, 3] rfl rfl (by decide)) hK hP (q0 := 2) rfl rfl) rfl rfl hl.1 rfl (lv_room (Nat.le_of_ble_eq_true rfl)) d_Stk_plainPixel_14 ⟨Nat.zero_le _, Nat.zero_le _⟩) hP hD hS hA [2, 3] [0, 1, 4, 5] [0, 1, 4, 5, 2, 3] rfl rfl (by decide) (by decide) (by decide) rfl (fun H locs hP hD hS => ?_)
    refine lv_goto (tgt := 37) hx hb d_Stk_plainPixel_17 rfl ?_
    obtain rfl := Option.some.inj h
    exact hret H locs 37 ls d_Stk_plainPixel_37 (vp_nar_int _) hP hD hS
theorem d_Stk_isPlain_0 : decode b_Stk_isPlain 0 = .ok (.iconst (0), 1) := by decide +kernel
theorem d_Stk_isPlain_1 : decode b_Stk_isPlain 1 = .ok (.istore_n 3, 1) := by decide +kernel
theorem d_Stk_isPlain_2 : decode b_Stk_isPlain 2 = .ok (.iload_n 3, 1) := by decide +kernel
theorem d_Stk_isPlain_3 : decode b_Stk_isPlain 3 = .ok (.aload_n 0, 1) := by decide +kernel
theorem d_Stk_isPlain_4 : decode b_Stk_isPlain 4 = .ok (.getfield 12, 3) := by decide +kernel
theorem d_Stk_isPlain_7 : decode b_Stk_isPlain 7 = .ok (.iload_n 1, 1) := by decide +kernel
theorem d_Stk_isPlain_8 : decode b_Stk_isPlain 8 = .ok (.aaload, 1) := by decide +kernel
theorem d_Stk_isPlain_9 : decode b_Stk_isPlain 9 = .ok (.getfield 65, 3) := by decide +kernel
theorem d_Stk_isPlain_12 : decode b_Stk_isPlain 12 = .ok (.if_icmp .ge (32), 3) := by decide +kernel
theorem d_Stk_isPlain_15 : decode b_Stk_isPlain 15 = .ok (.aload_n 0, 1) := by decide +kernel
theorem d_Stk_isPlain_16 : decode b_Stk_isPlain 16 = .ok (.getfield 12, 3) := by decide +kernel
theorem d_Stk_isPlain_19 : decode b_Stk_isPlain 19 = .ok (.iload_n 1, 1) := by decide +kernel
theorem d_Stk_isPlain_20 : decode b_Stk_isPlain 20 = .ok (.aaload, 1) := by decide +kernel
theorem d_Stk_isPlain_21 : decode b_Stk_isPlain 21 = .ok (.iload_n 3, 1) := by decide +kernel
theorem d_Stk_isPlain_22 : decode b_Stk_isPlain 22 = .ok (.iload_n 2, 1) := by decide +kernel
theorem d_Stk_isPlain_23 : decode b_Stk_isPlain 23 = .ok (.invokevirtual 76, 3) := by decide +kernel
theorem d_Stk_isPlain_26 : decode b_Stk_isPlain 26 = .ok (.aload_n 0, 1) := by decide +kernel
theorem d_Stk_isPlain_27 : decode b_Stk_isPlain 27 = .ok (.iload_n 1, 1) := by decide +kernel
theorem d_Stk_isPlain_28 : decode b_Stk_isPlain 28 = .ok (.iload_n 3, 1) := by decide +kernel
theorem d_Stk_isPlain_29 : decode b_Stk_isPlain 29 = .ok (.iload_n 2, 1) := by decide +kernel
theorem d_Stk_isPlain_30 : decode b_Stk_isPlain 30 = .ok (.invokevirtual 83, 3) := by decide +kernel
theorem d_Stk_isPlain_33 : decode b_Stk_isPlain 33 = .ok (.if_icmp .eq (5), 3) := by decide +kernel
theorem d_Stk_isPlain_36 : decode b_Stk_isPlain 36 = .ok (.iconst (0), 1) := by decide +kernel
theorem d_Stk_isPlain_37 : decode b_Stk_isPlain 37 = .ok (.ireturn, 1) := by decide +kernel
theorem d_Stk_isPlain_38 : decode b_Stk_isPlain 38 = .ok (.iinc 3 (1), 3) := by decide +kernel
theorem d_Stk_isPlain_41 : decode b_Stk_isPlain 41 = .ok (.goto (-39), 3) := by decide +kernel
theorem d_Stk_isPlain_44 : decode b_Stk_isPlain 44 = .ok (.iconst (1), 1) := by decide +kernel
theorem d_Stk_isPlain_45 : decode b_Stk_isPlain 45 = .ok (.ireturn, 1) := by decide +kernel
def q_Stk_isPlain_2 (i_k : Int32) (i_y : Int32) (l_pixels : Nat → Int32) (l_wide : Int32) (l_high : Int32) (b_pixels : Nat → Int32) (b_wide : Int32) (b_high : Int32)  : Nat → Int32 → Option (Int32)
  | 0, _ => none
  | n + 1, x3_2 => (if vpb i_k 3 = true then (if l_wide ≤ x3_2 then some ((1 : Int32)) else (if vpb i_k 3 = true then ((q_Pic_pixel x3_2 i_y l_pixels l_wide l_high).bind fun z1 => ((q_Stk_plainPixel i_k x3_2 i_y l_pixels l_wide l_high b_pixels b_wide b_high).bind fun z2 => (if z1 = z2 then (q_Stk_isPlain_2 i_k i_y l_pixels l_wide l_high b_pixels b_wide b_high n (x3_2 + (1 : Int32))) else some ((0 : Int32))))) else none)) else none)
def q_Stk_isPlain (i_k : Int32) (i_y : Int32) (l_pixels : Nat → Int32) (l_wide : Int32) (l_high : Int32) (b_pixels : Nat → Int32) (b_wide : Int32) (b_high : Int32) : Option (Int32) := (q_Stk_isPlain_2 i_k i_y l_pixels l_wide l_high b_pixels b_wide b_high  5000 (0 : Int32))
abbrev rm_Stk_isPlain : Room := { frames := 3, cells := 0, slots := 0, locals := 67 }
set_option maxHeartbeats 4000000 in
set_option maxRecDepth 100000 in
theorem c_Stk_isPlain (l : Launch) (dC : Nat → ClassId) (dI : Nat → Nat → Nat) (s_0 s_layers_a l_0 l_pixels_a b_0 b_pixels_a : Nat) (s_layers_k l_pixels_k b_pixels_k : ClassId) (s_coder_p : Nat) (s_layers_r : Nat → Option Nat) (i_k : Int32) (i_y : Int32) (s_plainRows : Int32) (l_pixels : Nat → Int32) (l_wide : Int32) (l_high : Int32) (b_pixels : Nat → Int32) (b_wide : Int32) (b_high : Int32) (z : Int32) (hL : s_layers_r i_k.toNatClampNeg = some l_0) (hB : ¬ i_k = 0 → s_layers_r (i_k - (1 : Int32)).toNatClampNeg = some b_0) (hq : q_Stk_isPlain i_k i_y l_pixels l_wide l_high b_pixels b_wide b_high = some z) (sz : Nat) : MetI l y_Stk_isPlain b_Stk_isPlain 4 .boolean TT rm_Stk_isPlain (dC, dI) vcl [(s_layers_k, .object "LayeredBits$Picture"), (l_pixels_k, .int), (b_pixels_k, .int)] (W_SLB s_0 s_layers_a l_0 l_pixels_a b_0 b_pixels_a s_layers_k l_pixels_k b_pixels_k s_coder_p s_layers_r s_plainRows l_pixels l_wide l_high b_pixels b_wide b_high) (W_SLB s_0 s_layers_a l_0 l_pixels_a b_0 b_pixels_a s_layers_k l_pixels_k b_pixels_k s_coder_p s_layers_r s_plainRows l_pixels l_wide l_high b_pixels b_wide b_high) [.ref s_0, .int i_k, .int i_y] z sz := by
  refine x_ofI (by decide) (Nat.le_of_ble_eq_true rfl) ?_ sz
  intro p e s m args below meth c A Q ls hx hb hml hown hts hA hG hK hP hD hS hl hret
  have hown : s.vm.findClass R_Stk = some m.cls := hown
  have hl : lv_has ls 4 [(0, .ref s_0), (1, .int i_k), (2, .int i_y)] := hl
  obtain ⟨⟨tq, hZ, hTq⟩, hN⟩ := id hG
  obtain ⟨H, hH⟩ : ∃ H, H = s.heap := ⟨_, rfl⟩
  obtain ⟨locs, hlocs⟩ : ∃ locs : List Loc, locs = [] := ⟨_, rfl⟩
  rw [← hH] at hP
  have hS : va_S A s.heap H locs := by rw [hH, hlocs]; exact hS
  suffices hgo : W p l e rm_Stk_isPlain s m args below meth c H locs 0 0 Q (F0 m 0 ls []) by rw [hH, hlocs] at hgo; exact hgo
  unfold q_Stk_isPlain at hq
  have L2 : ∀ (n2 : Nat) (x3_2 : Int32) (H : Heap) (locs : List Loc) (ls : Array Slot), lv_has ls 4 [(0, .ref s_0), (1, .int i_k), (2, .int i_y), (3, .int x3_2)] → va_P (dC, dI) vcl (W_SLB s_0 s_layers_a l_0 l_pixels_a b_0 b_pixels_a s_layers_k l_pixels_k b_pixels_k s_coder_p s_layers_r s_plainRows l_pixels l_wide l_high b_pixels b_wide b_high) H → va_D A (W_SLB s_0 s_layers_a l_0 l_pixels_a b_0 b_pixels_a s_layers_k l_pixels_k b_pixels_k s_coder_p s_layers_r s_plainRows l_pixels l_wide l_high b_pixels b_wide b_high) → va_S A s.heap H locs → q_Stk_isPlain_2 i_k i_y l_pixels l_wide l_high b_pixels b_wide b_high  n2 x3_2 = some z → W p l e rm_Stk_isPlain s m args below meth c H locs 0 0 Q (F0 m 2 ls []) := by
    intro n2
    induction n2 with
    | zero =>
      intro x3_2 H locs ls hl hP hD hS hq
      rw [q_Stk_isPlain_2] at hq
      cases hq
    | succ n2 ih2 =>
      intro x3_2 H locs ls hl hP hD hS hq2
      rw [q_Stk_isPlain_2] at hq2
      have h := hq2
      refine lv_iload_n hx hb d_Stk_isPlain_2 rfl (lv_at hl 3 rfl) ?_
      refine lv_aload_n hx hb d_Stk_isPlain_3 rfl (lv_at hl 0 rfl) ?_
      refine va_get (D := (dC, dI)) (ci := 1) (v := .ref s_layers_a) (C := R_Stk) (T := F_Stk) (N := 3) hx hb hts in_Stk hown hK hP 0 rfl rfl 0 (by decide) (hts _ tt163) (fun _ h9 => h9) rfl d_Stk_isPlain_4 ?_
      refine lv_iload_n hx hb d_Stk_isPlain_7 rfl (lv_at hl 1 rfl) ?_
      obtain ⟨hin, h⟩ := og h
      refine va_aldq hx hb hK hP 1 0 rfl rfl (vpb_in hin) d_Stk_isPlain_8 ?_
      refine x_cv (y := .ref l_0) (by rw [hL]; rfl) ?_
      refine va_getN (D := (dC, dI)) (ci := 4) (v := .int l_wide) (C := R_Pic) (T := F_Pic) (N := 3) hx hb hts in_Pic hown hK hP 2 rfl rfl 1 (by decide) (va_Nw.use rfl (hN _ nn80)) (fun _ h9 => h9) rfl d_Stk_isPlain_9 ?_
      refine lv_icmp_ge (tgt := 44) hx hb d_Stk_isPlain_12 rfl (fun hc => ?_) (fun hc => ?_)
      · replace h := ot hc h
        refine lv_iconst (v := (1 : Int32)) hx hb d_Stk_isPlain_44 (by decide) ?_
        obtain rfl := Option.some.inj h
        exact hret H locs 45 ls d_Stk_isPlain_45 narrow_b1 hP hD hS
      · replace h := of hc h
        refine lv_aload_n hx hb d_Stk_isPlain_15 rfl (lv_at hl 0 rfl) ?_
        refine va_get (D := (dC, dI)) (ci := 1) (v := .ref s_layers_a) (C := R_Stk) (T := F_Stk) (N := 3) hx hb hts in_Stk hown hK hP 0 rfl rfl 0 (by decide) (hts _ tt163) (fun _ h9 => h9) rfl d_Stk_isPlain_16 ?_
        refine lv_iload_n hx hb d_Stk_isPlain_19 rfl (lv_at hl 1 rfl) ?_
        obtain ⟨hin, h⟩ := og h
        refine va_aldq hx hb hK hP 1 0 rfl rfl (vpb_in hin) d_Stk_isPlain_20 ?_
        refine x_cv (y := .ref l_0) (by rw [hL]; rfl) ?_
        refine lv_iload_n hx hb d_Stk_isPlain_21 rfl (lv_at hl 3 rfl) ?_
        refine lv_iload_n hx hb d_Stk_isPlain_22 rfl (lv_at hl 2 rfl) ?_
        obtain ⟨z1, hz1, h⟩ := ob h
        refine x_goI (res := z1) (w1 := (W_P l_0 l_pixels_a l_pixels_k l_pixels l_wide l_high)) (ws' := (W_SLB s_0 s_layers_a l_0 l_pixels_a b_0 b_pixels_a s_layers_k l_pixels_k b_pixels_k s_coder_p s_layers_r s_plainRows l_pixels l_wide l_high b_pixels b_wide b_high)) (wr := List.filterMap (fun (i : Nat) => (W_SLB s_0 s_layers_a l_0 l_pixels_a b_0 b_pixels_a s_layers_k l_pixels_k b_pixels_k s_coder_p s_layers_r s_plainRows l_pixels l_wide l_high b_pixels b_wide b_high)[i]?) ([0, 1, 4, 5] : List Nat)) (va_runV (As := [.int x3_2, .int i_y]) (rest := []) ⟨hx, hb, hml, hown, hts⟩ (c_Pic_pixel l dC dI l_0 l_pixels_a l_pixels_k x3_2 i_y l_pixels l_wide l_high z1  hz1 H.size) ⟨callB_of 2 hts (gT tt237 TT_good) rfl rfl rfl (hts _ tt46) (hts _ tt439) (by decide +kernel) ⟨Nat.le_of_ble_eq_true rfl, Nat.le_of_ble_eq_true rfl⟩, hts _ tt235, hts _ tt236⟩ (x_preV (q := (R_Pic, F_Pic, 3)) (As := [.int x3_2, .int i_y]) (x_pre (wc := (W_P l_0 l_pixels_a l_pixels_k l_pixels l_wide l_high)) (av := (.ref l_0 :: [.int x3_2, .int i_y])) hK hP hD hS hA hG [1] [2, 3] rfl rfl (by decide)) hK hP (q0 := 2) rfl rfl) rfl rfl hl.1 rfl (lv_room (Nat.le_of_ble_eq_true rfl)) d_Stk_isPlain_23 ⟨Nat.zero_le _, Nat.zero_le _⟩) hP hD hS hA [2, 3] [0, 1, 4, 5] [0, 1, 4, 5, 2, 3] rfl rfl (by decide) (by decide) (by decide) rfl (fun H locs hP hD hS => ?_)
        refine lv_aload_n hx hb d_Stk_isPlain_26 rfl (lv_at hl 0 rfl) ?_
        refine lv_iload_n hx hb d_Stk_isPlain_27 rfl (lv_at hl 1 rfl) ?_
        refine lv_iload_n hx hb d_Stk_isPlain_28 rfl (lv_at hl 3 rfl) ?_
        refine lv_iload_n hx hb d_Stk_isPlain_29 rfl (lv_at hl 2 rfl) ?_
        obtain ⟨z2, hz2, h⟩ := ob h
        refine x_goI (res := z2) (w1 := (W_SLB s_0 s_layers_a l_0 l_pixels_a b_0 b_pixels_a s_layers_k l_pixels_k b_pixels_k s_coder_p s_layers_r s_plainRows l_pixels l_wide l_high b_pixels b_wide b_high)) (ws' := (W_SLB s_0 s_layers_a l_0 l_pixels_a b_0 b_pixels_a s_layers_k l_pixels_k b_pixels_k s_coder_p s_layers_r s_plainRows l_pixels l_wide l_high b_pixels b_wide b_high)) (wr := List.filterMap (fun (i : Nat) => (W_SLB s_0 s_layers_a l_0 l_pixels_a b_0 b_pixels_a s_layers_k l_pixels_k b_pixels_k s_coder_p s_layers_r s_plainRows l_pixels l_wide l_high b_pixels b_wide b_high)[i]?) ([] : List Nat)) (va_runV (As := [.int i_k, .int x3_2, .int i_y]) (rest := [.int z1]) ⟨hx, hb, hml, hown, hts⟩ (c_Stk_plainPixel l dC dI s_0 s_layers_a l_0 l_pixels_a b_0 b_pixels_a s_layers_k l_pixels_k b_pixels_k s_coder_p s_layers_r i_k x3_2 i_y s_plainRows l_pixels l_wide l_high b_pixels b_wide b_high z2 hL hB hz2 H.size) ⟨callB_of 3 hts (gT tt443 TT_good) rfl rfl rfl (hts _ tt48) (hts _ tt440) (by decide +kernel) ⟨Nat.le_of_ble_eq_true rfl, Nat.le_of_ble_eq_true rfl⟩, hts _ tt442, hts _ tt4⟩ (x_preV (q := (R_Stk, F_Stk, 3)) (As := [.int i_k, .int x3_2, .int i_y]) (x_pre (wc := (W_SLB s_0 s_layers_a l_0 l_pixels_a b_0 b_pixels_a s_layers_k l_pixels_k b_pixels_k s_coder_p s_layers_r s_plainRows l_pixels l_wide l_high b_pixels b_wide b_high)) (av := (.ref s_0 :: [.int i_k, .int x3_2, .int i_y])) hK hP hD hS hA hG [0, 1, 2] [0, 1, 2, 3, 4, 5] rfl rfl (by decide)) hK hP (q0 := 0) rfl rfl) rfl rfl hl.1 rfl (lv_room (Nat.le_of_ble_eq_true rfl)) d_Stk_isPlain_30 ⟨Nat.zero_le _, Nat.zero_le _⟩) hP hD hS hA [0, 1, 2, 3, 4, 5] [] [0, 1, 2, 3, 4, 5] rfl rfl (by decide) (by decide) (by decide) rfl (fun H locs hP hD hS => ?_)
        refine lv_icmp_eq (tgt := 38) hx hb d_Stk_isPlain_33 rfl (fun hc => ?_) (fun hc => ?_)
        · replace h := ot hc h
          refine lv_iinc (k := 3) (v := x3_2 + (1 : Int32)) (lv' := [(3, .int (x3_2 + (1 : Int32))), (0, .ref s_0), (1, .int i_k), (2, .int i_y)]) hx hb d_Stk_isPlain_38 hl rfl rfl (by decide) rfl (fun ls hl => ?_)
          refine lv_goto (tgt := 2) hx hb d_Stk_isPlain_41 rfl ?_
          exact ih2 (x3_2 + (1 : Int32)) H locs ls (lv_sub hl [1, 2, 3, 0] rfl) hP hD hS h
        · replace h := of hc h
          refine lv_iconst (v := (0 : Int32)) hx hb d_Stk_isPlain_36 (by decide) ?_
          obtain rfl := Option.some.inj h
          exact hret H locs 37 ls d_Stk_isPlain_37 narrow_b0 hP hD hS
  have h := hq
  refine lv_iconst (v := (0 : Int32)) hx hb d_Stk_isPlain_0 (by decide) ?_
  refine lv_istore_n (lv' := [(3, .int (0 : Int32)), (0, .ref s_0), (1, .int i_k), (2, .int i_y)]) hx hb d_Stk_isPlain_1 rfl hl (by decide) rfl (fun ls hl => ?_)
  exact L2 5000 (0 : Int32) H locs ls (lv_sub hl [1, 2, 3, 0] rfl) hP hD hS h
theorem d_Stk_paintPlain_0 : decode b_Stk_paintPlain 0 = .ok (.iconst (0), 1) := by decide +kernel
theorem d_Stk_paintPlain_1 : decode b_Stk_paintPlain 1 = .ok (.istore_n 3, 1) := by decide +kernel
theorem d_Stk_paintPlain_2 : decode b_Stk_paintPlain 2 = .ok (.iload_n 3, 1) := by decide +kernel
theorem d_Stk_paintPlain_3 : decode b_Stk_paintPlain 3 = .ok (.aload_n 0, 1) := by decide +kernel
theorem d_Stk_paintPlain_4 : decode b_Stk_paintPlain 4 = .ok (.getfield 12, 3) := by decide +kernel
theorem d_Stk_paintPlain_7 : decode b_Stk_paintPlain 7 = .ok (.iload_n 1, 1) := by decide +kernel
theorem d_Stk_paintPlain_8 : decode b_Stk_paintPlain 8 = .ok (.aaload, 1) := by decide +kernel
theorem d_Stk_paintPlain_9 : decode b_Stk_paintPlain 9 = .ok (.getfield 65, 3) := by decide +kernel
theorem d_Stk_paintPlain_12 : decode b_Stk_paintPlain 12 = .ok (.if_icmp .ge (27), 3) := by decide +kernel
theorem d_Stk_paintPlain_15 : decode b_Stk_paintPlain 15 = .ok (.aload_n 0, 1) := by decide +kernel
theorem d_Stk_paintPlain_16 : decode b_Stk_paintPlain 16 = .ok (.getfield 12, 3) := by decide +kernel
theorem d_Stk_paintPlain_19 : decode b_Stk_paintPlain 19 = .ok (.iload_n 1, 1) := by decide +kernel
theorem d_Stk_paintPlain_20 : decode b_Stk_paintPlain 20 = .ok (.aaload, 1) := by decide +kernel
theorem d_Stk_paintPlain_21 : decode b_Stk_paintPlain 21 = .ok (.iload_n 3, 1) := by decide +kernel
theorem d_Stk_paintPlain_22 : decode b_Stk_paintPlain 22 = .ok (.iload_n 2, 1) := by decide +kernel
theorem d_Stk_paintPlain_23 : decode b_Stk_paintPlain 23 = .ok (.aload_n 0, 1) := by decide +kernel
theorem d_Stk_paintPlain_24 : decode b_Stk_paintPlain 24 = .ok (.iload_n 1, 1) := by decide +kernel
theorem d_Stk_paintPlain_25 : decode b_Stk_paintPlain 25 = .ok (.iload_n 3, 1) := by decide +kernel
theorem d_Stk_paintPlain_26 : decode b_Stk_paintPlain 26 = .ok (.iload_n 2, 1) := by decide +kernel
theorem d_Stk_paintPlain_27 : decode b_Stk_paintPlain 27 = .ok (.invokevirtual 83, 3) := by decide +kernel
theorem d_Stk_paintPlain_30 : decode b_Stk_paintPlain 30 = .ok (.invokevirtual 79, 3) := by decide +kernel
theorem d_Stk_paintPlain_33 : decode b_Stk_paintPlain 33 = .ok (.iinc 3 (1), 3) := by decide +kernel
theorem d_Stk_paintPlain_36 : decode b_Stk_paintPlain 36 = .ok (.goto (-34), 3) := by decide +kernel
theorem d_Stk_paintPlain_39 : decode b_Stk_paintPlain 39 = .ok (.return_, 1) := by decide +kernel
def q_Stk_paintPlain_2 (i_k : Int32) (i_y : Int32) (l_wide : Int32) (l_high : Int32) (b_pixels : Nat → Int32) (b_wide : Int32) (b_high : Int32)  : Nat → Int32 → (Nat → Int32) → Option ((Nat → Int32))
  | 0, _, _ => none
  | n + 1, x3_2, l_pixels_2 => (if vpb i_k 3 = true then (if l_wide ≤ x3_2 then some (l_pixels_2) else (if vpb i_k 3 = true then ((q_Stk_plainPixel i_k x3_2 i_y l_pixels_2 l_wide l_high b_pixels b_wide b_high).bind fun z1 => ((q_Pic_paint x3_2 i_y z1 l_pixels_2 l_wide l_high).bind fun z2 => (q_Stk_paintPlain_2 i_k i_y l_wide l_high b_pixels b_wide b_high n (x3_2 + (1 : Int32)) z2))) else none)) else none)
def q_Stk_paintPlain (i_k : Int32) (i_y : Int32) (l_pixels : Nat → Int32) (l_wide : Int32) (l_high : Int32) (b_pixels : Nat → Int32) (b_wide : Int32) (b_high : Int32) : Option ((Nat → Int32)) := (q_Stk_paintPlain_2 i_k i_y l_wide l_high b_pixels b_wide b_high  5000 (0 : Int32) l_pixels)
abbrev rm_Stk_paintPlain : Room := { frames := 3, cells := 0, slots := 0, locals := 67 }
set_option maxHeartbeats 4000000 in
set_option maxRecDepth 100000 in
theorem c_Stk_paintPlain (l : Launch) (dC : Nat → ClassId) (dI : Nat → Nat → Nat) (s_0 s_layers_a l_0 l_pixels_a b_0 b_pixels_a : Nat) (s_layers_k l_pixels_k b_pixels_k : ClassId) (s_coder_p : Nat) (s_layers_r : Nat → Option Nat) (i_k : Int32) (i_y : Int32) (s_plainRows : Int32) (l_pixels : Nat → Int32) (l_wide : Int32) (l_high : Int32) (b_pixels : Nat → Int32) (b_wide : Int32) (b_high : Int32) (z : (Nat → Int32)) (hL : s_layers_r i_k.toNatClampNeg = some l_0) (hB : ¬ i_k = 0 → s_layers_r (i_k - (1 : Int32)).toNatClampNeg = some b_0) (hq : q_Stk_paintPlain i_k i_y l_pixels l_wide l_high b_pixels b_wide b_high = some z) (sz : Nat) : MetV l y_Stk_paintPlain b_Stk_paintPlain 4 TT rm_Stk_paintPlain (dC, dI) vcl [(s_layers_k, .object "LayeredBits$Picture"), (l_pixels_k, .int), (b_pixels_k, .int)] (W_SLB s_0 s_layers_a l_0 l_pixels_a b_0 b_pixels_a s_layers_k l_pixels_k b_pixels_k s_coder_p s_layers_r s_plainRows l_pixels l_wide l_high b_pixels b_wide b_high) (W_SLB s_0 s_layers_a l_0 l_pixels_a b_0 b_pixels_a s_layers_k l_pixels_k b_pixels_k s_coder_p s_layers_r s_plainRows z l_wide l_high b_pixels b_wide b_high) [.ref s_0, .int i_k, .int i_y] sz := by
  refine x_ofV (by decide) (Nat.le_of_ble_eq_true rfl) ?_ sz
  intro p e s m args below meth c A Q ls hx hb hml hown hts hA hG hK hP hD hS hl hret
  have hown : s.vm.findClass R_Stk = some m.cls := hown
  have hl : lv_has ls 4 [(0, .ref s_0), (1, .int i_k), (2, .int i_y)] := hl
  obtain ⟨⟨tq, hZ, hTq⟩, hN⟩ := id hG
  obtain ⟨H, hH⟩ : ∃ H, H = s.heap := ⟨_, rfl⟩
  obtain ⟨locs, hlocs⟩ : ∃ locs : List Loc, locs = [] := ⟨_, rfl⟩
  rw [← hH] at hP
  have hS : va_S A s.heap H locs := by rw [hH, hlocs]; exact hS
  suffices hgo : W p l e rm_Stk_paintPlain s m args below meth c H locs 0 0 Q (F0 m 0 ls []) by rw [hH, hlocs] at hgo; exact hgo
  unfold q_Stk_paintPlain at hq
  have L2 : ∀ (n2 : Nat) (x3_2 : Int32) (l_pixels_2 : Nat → Int32) (H : Heap) (locs : List Loc) (ls : Array Slot), lv_has ls 4 [(0, .ref s_0), (1, .int i_k), (2, .int i_y), (3, .int x3_2)] → va_P (dC, dI) vcl (W_SLB s_0 s_layers_a l_0 l_pixels_a b_0 b_pixels_a s_layers_k l_pixels_k b_pixels_k s_coder_p s_layers_r s_plainRows l_pixels_2 l_wide l_high b_pixels b_wide b_high) H → va_D A (W_SLB s_0 s_layers_a l_0 l_pixels_a b_0 b_pixels_a s_layers_k l_pixels_k b_pixels_k s_coder_p s_layers_r s_plainRows l_pixels_2 l_wide l_high b_pixels b_wide b_high) → va_S A s.heap H locs → q_Stk_paintPlain_2 i_k i_y l_wide l_high b_pixels b_wide b_high  n2 x3_2 l_pixels_2 = some z → W p l e rm_Stk_paintPlain s m args below meth c H locs 0 0 Q (F0 m 2 ls []) := by
    intro n2
    induction n2 with
    | zero =>
      intro x3_2 l_pixels_2 H locs ls hl hP hD hS hq
      rw [q_Stk_paintPlain_2] at hq
      cases hq
    | succ n2 ih2 =>
      intro x3_2 l_pixels_2 H locs ls hl hP hD hS hq2
      rw [q_Stk_paintPlain_2] at hq2
      have h := hq2
      refine lv_iload_n hx hb d_Stk_paintPlain_2 rfl (lv_at hl 3 rfl) ?_
      refine lv_aload_n hx hb d_Stk_paintPlain_3 rfl (lv_at hl 0 rfl) ?_
      refine va_get (D := (dC, dI)) (ci := 1) (v := .ref s_layers_a) (C := R_Stk) (T := F_Stk) (N := 3) hx hb hts in_Stk hown hK hP 0 rfl rfl 0 (by decide) (hts _ tt163) (fun _ h9 => h9) rfl d_Stk_paintPlain_4 ?_
      refine lv_iload_n hx hb d_Stk_paintPlain_7 rfl (lv_at hl 1 rfl) ?_
      obtain ⟨hin, h⟩ := og h
      refine va_aldq hx hb hK hP 1 0 rfl rfl (vpb_in hin) d_Stk_paintPlain_8 ?_
      refine x_cv (y := .ref l_0) (by rw [hL]; rfl) ?_
      refine va_getN (D := (dC, dI)) (ci := 4) (v := .int l_wide) (C := R_Pic) (T := F_Pic) (N := 3) hx hb hts in_Pic hown hK hP 2 rfl rfl 1 (by decide) (va_Nw.use rfl (hN _ nn80)) (fun _ h9 => h9) rfl d_Stk_paintPlain_9 ?_
      refine lv_icmp_ge (tgt := 39) hx hb d_Stk_paintPlain_12 rfl (fun hc => ?_) (fun hc => ?_)
      · replace h := ot hc h
        obtain rfl := Option.some.inj h
        exact hret H locs 39 ls d_Stk_paintPlain_39 hP hD hS
      · replace h := of hc h
        refine lv_aload_n hx hb d_Stk_paintPlain_15 rfl (lv_at hl 0 rfl) ?_
        refine va_get (D := (dC, dI)) (ci := 1) (v := .ref s_layers_a) (C := R_Stk) (T := F_Stk) (N := 3) hx hb hts in_Stk hown hK hP 0 rfl rfl 0 (by decide) (hts _ tt163) (fun _ h9 => h9) rfl d_Stk_paintPlain_16 ?_
        refine lv_iload_n hx hb d_Stk_paintPlain_19 rfl (lv_at hl 1 rfl) ?_
        obtain ⟨hin, h⟩ := og h
        refine va_aldq hx hb hK hP 1 0 rfl rfl (vpb_in hin) d_Stk_paintPlain_20 ?_
        refine x_cv (y := .ref l_0) (by rw [hL]; rfl) ?_
        refine lv_iload_n hx hb d_Stk_paintPlain_21 rfl (lv_at hl 3 rfl) ?_
        refine lv_iload_n hx hb d_Stk_paintPlain_22 rfl (lv_at hl 2 rfl) ?_
        refine lv_aload_n hx hb d_Stk_paintPlain_23 rfl (lv_at hl 0 rfl) ?_
        refine lv_iload_n hx hb d_Stk_paintPlain_24 rfl (lv_at hl 1 rfl) ?_
        refine lv_iload_n hx hb d_Stk_paintPlain_25 rfl (lv_at hl 3 rfl) ?_
        refine lv_iload_n hx hb d_Stk_paintPlain_26 rfl (lv_at hl 2 rfl) ?_
        obtain ⟨z1, hz1, h⟩ := ob h
        refine x_goI (res := z1) (w1 := (W_SLB s_0 s_layers_a l_0 l_pixels_a b_0 b_pixels_a s_layers_k l_pixels_k b_pixels_k s_coder_p s_layers_r s_plainRows l_pixels_2 l_wide l_high b_pixels b_wide b_high)) (ws' := (W_SLB s_0 s_layers_a l_0 l_pixels_a b_0 b_pixels_a s_layers_k l_pixels_k b_pixels_k s_coder_p s_layers_r s_plainRows l_pixels_2 l_wide l_high b_pixels b_wide b_high)) (wr := List.filterMap (fun (i : Nat) => (W_SLB s_0 s_layers_a l_0 l_pixels_a b_0 b_pixels_a s_layers_k l_pixels_k b_pixels_k s_coder_p s_layers_r s_plainRows l_pixels_2 l_wide l_high b_pixels b_wide b_high)[i]?) ([] : List Nat)) (va_runV (As := [.int i_k, .int x3_2, .int i_y]) (rest := [.int i_y, .int x3_2, .ref l_0]) ⟨hx, hb, hml, hown, hts⟩ (c_Stk_plainPixel l dC dI s_0 s_layers_a l_0 l_pixels_a b_0 b_pixels_a s_layers_k l_pixels_k b_pixels_k s_coder_p s_layers_r i_k x3_2 i_y s_plainRows l_pixels_2 l_wide l_high b_pixels b_wide b_high z1 hL hB hz1 H.size) ⟨callB_of 3 hts (gT tt443 TT_good) rfl rfl rfl (hts _ tt48) (hts _ tt440) (by decide +kernel) ⟨Nat.le_of_ble_eq_true rfl, Nat.le_of_ble_eq_true rfl⟩, hts _ tt442, hts _ tt4⟩ (x_preV (q := (R_Stk, F_Stk, 3)) (As := [.int i_k, .int x3_2, .int i_y]) (x_pre (wc := (W_SLB s_0 s_layers_a l_0 l_pixels_a b_0 b_pixels_a s_layers_k l_pixels_k b_pixels_k s_coder_p s_layers_r s_plainRows l_pixels_2 l_wide l_high b_pixels b_wide b_high)) (av := (.ref s_0 :: [.int i_k, .int x3_2, .int i_y])) hK hP hD hS hA hG [0, 1, 2] [0, 1, 2, 3, 4, 5] rfl rfl (by decide)) hK hP (q0 := 0) rfl rfl) rfl rfl hl.1 rfl (lv_room (Nat.le_of_ble_eq_true rfl)) d_Stk_paintPlain_27 ⟨Nat.zero_le _, Nat.zero_le _⟩) hP hD hS hA [0, 1, 2, 3, 4, 5] [] [0, 1, 2, 3, 4, 5] rfl rfl (by decide) (by decide) (by decide) rfl (fun H locs hP hD hS => ?_)
        obtain ⟨z2, hz2, h⟩ := ob h
        refine x_goV (w1 := (W_P l_0 l_pixels_a l_pixels_k z2 l_wide l_high)) (ws' := (W_SLB s_0 s_layers_a l_0 l_pixels_a b_0 b_pixels_a s_layers_k l_pixels_k b_pixels_k s_coder_p s_layers_r s_plainRows z2 l_wide l_high b_pixels b_wide b_high)) (wr := List.filterMap (fun (i : Nat) => (W_SLB s_0 s_layers_a l_0 l_pixels_a b_0 b_pixels_a s_layers_k l_pixels_k b_pixels_k s_coder_p s_layers_r s_plainRows l_pixels_2 l_wide l_high b_pixels b_wide b_high)[i]?) ([0, 1, 4, 5] : List Nat)) (va_runV (As := [.int x3_2, .int i_y, .int z1]) (rest := []) ⟨hx, hb, hml, hown, hts⟩ (c_Pic_paint l dC dI l_0 l_pixels_a l_pixels_k x3_2 i_y z1 l_pixels_2 l_wide l_high z2  hz2 H.size) ⟨callB_of 3 hts (gT tt291 TT_good) rfl rfl rfl (hts _ tt46) (hts _ tt496) (by decide +kernel) ⟨Nat.le_of_ble_eq_true rfl, Nat.le_of_ble_eq_true rfl⟩, hts _ tt289, hts _ tt290⟩ (x_preV (q := (R_Pic, F_Pic, 3)) (As := [.int x3_2, .int i_y, .int z1]) (x_pre (wc := (W_P l_0 l_pixels_a l_pixels_k l_pixels_2 l_wide l_high)) (av := (.ref l_0 :: [.int x3_2, .int i_y, .int z1])) hK hP hD hS hA hG [1] [2, 3] rfl rfl (by decide)) hK hP (q0 := 2) rfl rfl) rfl rfl hl.1 rfl (lv_room (Nat.le_of_ble_eq_true rfl)) d_Stk_paintPlain_30 ⟨Nat.zero_le _, Nat.zero_le _⟩) hP hD hS hA [2, 3] [0, 1, 4, 5] [0, 1, 4, 5, 2, 3] rfl rfl (by decide) (by decide) (by decide) rfl (fun H locs hP hD hS => ?_)
        refine lv_iinc (k := 3) (v := x3_2 + (1 : Int32)) (lv' := [(3, .int (x3_2 + (1 : Int32))), (0, .ref s_0), (1, .int i_k), (2, .int i_y)]) hx hb d_Stk_paintPlain_33 hl rfl rfl (by decide) rfl (fun ls hl => ?_)
        refine lv_goto (tgt := 2) hx hb d_Stk_paintPlain_36 rfl ?_
        exact ih2 (x3_2 + (1 : Int32)) z2 H locs ls (lv_sub hl [1, 2, 3, 0] rfl) hP hD hS h
  have h := hq
  refine lv_iconst (v := (0 : Int32)) hx hb d_Stk_paintPlain_0 (by decide) ?_
  refine lv_istore_n (lv' := [(3, .int (0 : Int32)), (0, .ref s_0), (1, .int i_k), (2, .int i_y)]) hx hb d_Stk_paintPlain_1 rfl hl (by decide) rfl (fun ls hl => ?_)
  exact L2 5000 (0 : Int32) l_pixels H locs ls (lv_sub hl [1, 2, 3, 0] rfl) hP hD hS h
