/-! the law's loop, and its start -/
def q_law_23 (xs : Nat → Int32) (L : Nat) : Nat → Int32 → XS → MS → (Nat → Int64) → Option Int32
  | 0, _, _, _, _ => none
  | n + 1, x4, x, y, o => (if (Int32.ofNat L - (4 : Int32)) < x4 then some (1 : Int32) else (if vpb x4 L = true then (if (xs x4.toNatClampNeg &&& (15 : Int32)) = (0 : Int32) then q_lawcase_0 xs L x4 x y o (q_law_23 xs L n (x4 + (4 : Int32))) else (if (xs x4.toNatClampNeg &&& (15 : Int32)) = (1 : Int32) then q_lawcase_1 xs L x4 x y o (q_law_23 xs L n (x4 + (4 : Int32))) else (if (xs x4.toNatClampNeg &&& (15 : Int32)) = (2 : Int32) then q_lawcase_2 xs L x4 x y o (q_law_23 xs L n (x4 + (4 : Int32))) else (if (xs x4.toNatClampNeg &&& (15 : Int32)) = (3 : Int32) then q_lawcase_3 xs L x4 x y o (q_law_23 xs L n (x4 + (4 : Int32))) else (if (xs x4.toNatClampNeg &&& (15 : Int32)) = (4 : Int32) then q_lawcase_4 xs L x4 x y o (q_law_23 xs L n (x4 + (4 : Int32))) else (if (xs x4.toNatClampNeg &&& (15 : Int32)) = (5 : Int32) then q_lawcase_5 xs L x4 x y o (q_law_23 xs L n (x4 + (4 : Int32))) else (if (xs x4.toNatClampNeg &&& (15 : Int32)) = (6 : Int32) then q_lawcase_6 xs L x4 x y o (q_law_23 xs L n (x4 + (4 : Int32))) else (if (xs x4.toNatClampNeg &&& (15 : Int32)) = (7 : Int32) then q_lawcase_7 xs L x4 x y o (q_law_23 xs L n (x4 + (4 : Int32))) else (if (xs x4.toNatClampNeg &&& (15 : Int32)) = (8 : Int32) then q_lawcase_8 xs L x4 x y o (q_law_23 xs L n (x4 + (4 : Int32))) else (if (xs x4.toNatClampNeg &&& (15 : Int32)) = (9 : Int32) then q_lawcase_9 xs L x4 x y o (q_law_23 xs L n (x4 + (4 : Int32))) else (if (xs x4.toNatClampNeg &&& (15 : Int32)) = (10 : Int32) then q_lawcase_10 xs L x4 x y o (q_law_23 xs L n (x4 + (4 : Int32))) else (if (xs x4.toNatClampNeg &&& (15 : Int32)) = (11 : Int32) then q_lawcase_11 xs L x4 x y o (q_law_23 xs L n (x4 + (4 : Int32))) else (if (xs x4.toNatClampNeg &&& (15 : Int32)) = (12 : Int32) then q_lawcase_12 xs L x4 x y o (q_law_23 xs L n (x4 + (4 : Int32))) else (if (xs x4.toNatClampNeg &&& (15 : Int32)) = (13 : Int32) then q_lawcase_13 xs L x4 x y o (q_law_23 xs L n (x4 + (4 : Int32))) else (if (xs x4.toNatClampNeg &&& (15 : Int32)) = (14 : Int32) then q_lawcase_14 xs L x4 x y o (q_law_23 xs L n (x4 + (4 : Int32))) else q_law_23 xs L n (x4 + (4 : Int32)) x y o))))))))))))))) else none))
set_option maxHeartbeats 4000000 in
set_option maxRecDepth 100000 in
theorem law_loop {p : Program} {e : Env} {s : State} {m : MethodId} {below : List Frame} {meth : Method} {c : Code} {l : Launch} {b L : Nat} {xs : Nat → Int32} {A : Nat → Prop} (dC : Nat → ClassId) (dI : Nat → Nat → Nat) (t_0 p_0 p_pixels_a f_0 f_bytes_a f_starts_a f_ends_a s_0 s_layers_a u_0 u_pixels_a v_0 v_pixels_a w_0 w_pixels_a c_0 c_states_a c_favourites_a n_0 n_digits_a k_0 k_bytes_a o_arr_a m_0 m_picture_a m_file_a m_layers_a m_wide_a m_high_a m_half_a m_states_a m_favourites_a m_quotas_a m_digits_a m_draft_a m_given_a m_begins_a : Nat) (p_pixels_k f_bytes_k f_starts_k f_ends_k s_layers_k u_pixels_k v_pixels_k w_pixels_k c_states_k c_favourites_k n_digits_k k_bytes_k o_arr_k m_picture_k m_file_k m_layers_k m_wide_k m_high_k m_half_k m_states_k m_favourites_k m_quotas_k m_digits_k m_draft_k m_given_k m_begins_k : ClassId) (s_layers_r : Nat → Option Nat) (C1 : lawC p l s m meth c b L xs A dC dI t_0 p_0 p_pixels_a f_0 f_bytes_a f_starts_a f_ends_a s_0 s_layers_a u_0 u_pixels_a v_0 v_pixels_a w_0 w_pixels_a c_0 c_states_a c_favourites_a n_0 n_digits_a k_0 k_bytes_a o_arr_a m_0 m_picture_a m_file_a m_layers_a m_wide_a m_high_a m_half_a m_states_a m_favourites_a m_quotas_a m_digits_a m_draft_a m_given_a m_begins_a p_pixels_k f_bytes_k f_starts_k f_ends_k s_layers_k u_pixels_k v_pixels_k w_pixels_k c_states_k c_favourites_k n_digits_k k_bytes_k o_arr_k m_picture_k m_file_k m_layers_k m_wide_k m_high_k m_half_k m_states_k m_favourites_k m_quotas_k m_digits_k m_draft_k m_given_k m_begins_k s_layers_r) (hAs : ∀ q, A q → s.heap.size ≤ q) (hr : meth.sig.returnType = ret) (hlocks : meth.locks = false) :
    ∀ (n : Nat) (x4 : Int32) (x : XS) (y : MS) (o : Nat → Int64) (H : Heap) (locs : List Loc) (ls : Array Slot) (cells slots : Nat), cells + n ≤ 1076 → slots + 6 * n ≤ 31919 → lv_has ls 7 [(4, .int x4), (0, .ref b), (1, .ref t_0), (2, .ref m_0), (3, .ref o_arr_a)] → va_P (dC, dI) vcl (W_L2 t_0 p_0 p_pixels_a f_0 f_bytes_a f_starts_a f_ends_a s_0 s_layers_a u_0 u_pixels_a v_0 v_pixels_a w_0 w_pixels_a c_0 c_states_a c_favourites_a n_0 n_digits_a k_0 k_bytes_a o_arr_a m_0 m_picture_a m_file_a m_layers_a m_wide_a m_high_a m_half_a m_states_a m_favourites_a m_quotas_a m_digits_a m_draft_a m_given_a m_begins_a p_pixels_k f_bytes_k f_starts_k f_ends_k s_layers_k u_pixels_k v_pixels_k w_pixels_k c_states_k c_favourites_k n_digits_k k_bytes_k o_arr_k m_picture_k m_file_k m_layers_k m_wide_k m_high_k m_half_k m_states_k m_favourites_k m_quotas_k m_digits_k m_draft_k m_given_k m_begins_k s_layers_r x y o) H → va_D A (W_L2 t_0 p_0 p_pixels_a f_0 f_bytes_a f_starts_a f_ends_a s_0 s_layers_a u_0 u_pixels_a v_0 v_pixels_a w_0 w_pixels_a c_0 c_states_a c_favourites_a n_0 n_digits_a k_0 k_bytes_a o_arr_a m_0 m_picture_a m_file_a m_layers_a m_wide_a m_high_a m_half_a m_states_a m_favourites_a m_quotas_a m_digits_a m_draft_a m_given_a m_begins_a p_pixels_k f_bytes_k f_starts_k f_ends_k s_layers_k u_pixels_k v_pixels_k w_pixels_k c_states_k c_favourites_k n_digits_k k_bytes_k o_arr_k m_picture_k m_file_k m_layers_k m_wide_k m_high_k m_half_k m_states_k m_favourites_k m_quotas_k m_digits_k m_draft_k m_given_k m_begins_k s_layers_r x y o) → va_S A s.heap H locs → q_law_23 xs L n x4 x y o = some 1 → W p l e room_1 s m #[Value.ref b] below meth c H locs cells slots (lw_Z below #[Value.ref b] s) (F0 m 23 ls []) := by
  obtain ⟨hx, hb, hml, hown, hts, hA, hG, hE, hNc1, hNc2, hX, hbl, hbA, hK, hR0, hR1, hR2, htr⟩ := id C1
  intro n
  induction n with
  | zero =>
    intro x4 x y o H locs ls cells slots hcl hsl hl hP hD hS h
    rw [q_law_23] at h
    cases h
  | succ n ih =>
    intro x4 x y o H locs ls cells slots hcl hsl hl hP hD hS h
    rw [q_law_23] at h
    refine lv_iload hx hb d_Law_law_23 (lv_at hl 0 rfl) ?_
    refine lv_aload_n hx hb d_Law_law_25 rfl (lv_at hl 1 rfl) ?_
    refine va_slen hx hb hX hbl hbA hS d_Law_law_26 ?_
    refine lv_iconst (v := (4 : Int32)) hx hb d_Law_law_27 (by decide) ?_
    refine lv_isub hx hb d_Law_law_28 ?_
    refine lv_icmp_gt (tgt := 789) hx hb d_Law_law_29 rfl (fun hc => ?_) (fun hc => ?_)
    · refine lv_iconst (v := (1 : Int32)) hx hb d_Law_law_789 (by decide) ?_
      refine va_forget (fun q hq => hAs _ (hS.2.2 q hq)) ?_
      refine W.widen (k := 1076) (n := 31919) (by omega) (by omega) ?_
      exact lw_ret hx hb hr hlocks d_Law_law_790
    · replace h := of hc h
      refine lv_aload_n hx hb d_Law_law_32 rfl (lv_at hl 1 rfl) ?_
      refine lv_iload hx hb d_Law_law_33 (lv_at hl 0 rfl) ?_
      obtain ⟨hin, h⟩ := og h
      refine va_sld hx hb hX hbl hbA hS (vpb_in hin) d_Law_law_35 ?_
      refine lv_bipush (v := (15 : Int32)) hx hb d_Law_law_36 (by decide) ?_
      refine lv_iand hx hb d_Law_law_38 ?_
      have hk : ∀ (x' : XS) (y' : MS) (o' : Nat → Int64) (H : Heap) (locs : List Loc) (ls : Array Slot) (cells' slots' : Nat), cells' ≤ cells + 1 → slots' ≤ slots + 6 → lv_has ls 7 [(4, .int x4), (0, .ref b), (1, .ref t_0), (2, .ref m_0), (3, .ref o_arr_a)] → va_P (dC, dI) vcl (W_L2 t_0 p_0 p_pixels_a f_0 f_bytes_a f_starts_a f_ends_a s_0 s_layers_a u_0 u_pixels_a v_0 v_pixels_a w_0 w_pixels_a c_0 c_states_a c_favourites_a n_0 n_digits_a k_0 k_bytes_a o_arr_a m_0 m_picture_a m_file_a m_layers_a m_wide_a m_high_a m_half_a m_states_a m_favourites_a m_quotas_a m_digits_a m_draft_a m_given_a m_begins_a p_pixels_k f_bytes_k f_starts_k f_ends_k s_layers_k u_pixels_k v_pixels_k w_pixels_k c_states_k c_favourites_k n_digits_k k_bytes_k o_arr_k m_picture_k m_file_k m_layers_k m_wide_k m_high_k m_half_k m_states_k m_favourites_k m_quotas_k m_digits_k m_draft_k m_given_k m_begins_k s_layers_r x' y' o') H → va_D A (W_L2 t_0 p_0 p_pixels_a f_0 f_bytes_a f_starts_a f_ends_a s_0 s_layers_a u_0 u_pixels_a v_0 v_pixels_a w_0 w_pixels_a c_0 c_states_a c_favourites_a n_0 n_digits_a k_0 k_bytes_a o_arr_a m_0 m_picture_a m_file_a m_layers_a m_wide_a m_high_a m_half_a m_states_a m_favourites_a m_quotas_a m_digits_a m_draft_a m_given_a m_begins_a p_pixels_k f_bytes_k f_starts_k f_ends_k s_layers_k u_pixels_k v_pixels_k w_pixels_k c_states_k c_favourites_k n_digits_k k_bytes_k o_arr_k m_picture_k m_file_k m_layers_k m_wide_k m_high_k m_half_k m_states_k m_favourites_k m_quotas_k m_digits_k m_draft_k m_given_k m_begins_k s_layers_r x' y' o') → va_S A s.heap H locs → q_law_23 xs L n (x4 + (4 : Int32)) x' y' o' = some 1 → W p l e room_1 s m #[Value.ref b] below meth c H locs cells' slots' (lw_Z below #[Value.ref b] s) (F0 m 783 ls []) := by
        intro x' y' o' H locs ls cells' slots' hc' hs' hl hP hD hS h
        refine lv_iinc (k := 0) (v := x4 + (4 : Int32)) (lv' := [(4, .int (x4 + (4 : Int32))), (0, .ref b), (1, .ref t_0), (2, .ref m_0), (3, .ref o_arr_a)]) hx hb d_Law_law_783 hl rfl rfl (by decide) rfl (fun ls hl => ?_)
        refine lv_goto (tgt := 23) hx hb d_Law_law_786 rfl ?_
        exact ih (x4 + (4 : Int32)) x' y' o' H locs ls cells' slots' (by omega) (by omega) hl hP hD hS h
      by_cases hv0 : (xs x4.toNatClampNeg &&& (15 : Int32)) = (0 : Int32)
      · replace h := ot hv0 h
        refine lv_tableIn (off := 73) (tgt := 112) hx hb d_Law_law_39 (by rw [hv0]; decide) (by rw [hv0]; decide) (by rw [hv0]; decide) rfl ?_
        exact w_lawcase_0 dC dI t_0 p_0 p_pixels_a f_0 f_bytes_a f_starts_a f_ends_a s_0 s_layers_a u_0 u_pixels_a v_0 v_pixels_a w_0 w_pixels_a c_0 c_states_a c_favourites_a n_0 n_digits_a k_0 k_bytes_a o_arr_a m_0 m_picture_a m_file_a m_layers_a m_wide_a m_high_a m_half_a m_states_a m_favourites_a m_quotas_a m_digits_a m_draft_a m_given_a m_begins_a p_pixels_k f_bytes_k f_starts_k f_ends_k s_layers_k u_pixels_k v_pixels_k w_pixels_k c_states_k c_favourites_k n_digits_k k_bytes_k o_arr_k m_picture_k m_file_k m_layers_k m_wide_k m_high_k m_half_k m_states_k m_favourites_k m_quotas_k m_digits_k m_draft_k m_given_k m_begins_k s_layers_r C1 x4 x y o _ H locs ls cells slots (by omega) (by omega) hl hP hD hS h hk
      replace h := of hv0 h
      by_cases hv1 : (xs x4.toNatClampNeg &&& (15 : Int32)) = (1 : Int32)
      · replace h := ot hv1 h
        refine lv_tableIn (off := 121) (tgt := 160) hx hb d_Law_law_39 (by rw [hv1]; decide) (by rw [hv1]; decide) (by rw [hv1]; decide) rfl ?_
        exact w_lawcase_1 dC dI t_0 p_0 p_pixels_a f_0 f_bytes_a f_starts_a f_ends_a s_0 s_layers_a u_0 u_pixels_a v_0 v_pixels_a w_0 w_pixels_a c_0 c_states_a c_favourites_a n_0 n_digits_a k_0 k_bytes_a o_arr_a m_0 m_picture_a m_file_a m_layers_a m_wide_a m_high_a m_half_a m_states_a m_favourites_a m_quotas_a m_digits_a m_draft_a m_given_a m_begins_a p_pixels_k f_bytes_k f_starts_k f_ends_k s_layers_k u_pixels_k v_pixels_k w_pixels_k c_states_k c_favourites_k n_digits_k k_bytes_k o_arr_k m_picture_k m_file_k m_layers_k m_wide_k m_high_k m_half_k m_states_k m_favourites_k m_quotas_k m_digits_k m_draft_k m_given_k m_begins_k s_layers_r C1 x4 x y o _ H locs ls cells slots (by omega) (by omega) hl hP hD hS h hk
      replace h := of hv1 h
      by_cases hv2 : (xs x4.toNatClampNeg &&& (15 : Int32)) = (2 : Int32)
      · replace h := ot hv2 h
        refine lv_tableIn (off := 201) (tgt := 240) hx hb d_Law_law_39 (by rw [hv2]; decide) (by rw [hv2]; decide) (by rw [hv2]; decide) rfl ?_
        exact w_lawcase_2 dC dI t_0 p_0 p_pixels_a f_0 f_bytes_a f_starts_a f_ends_a s_0 s_layers_a u_0 u_pixels_a v_0 v_pixels_a w_0 w_pixels_a c_0 c_states_a c_favourites_a n_0 n_digits_a k_0 k_bytes_a o_arr_a m_0 m_picture_a m_file_a m_layers_a m_wide_a m_high_a m_half_a m_states_a m_favourites_a m_quotas_a m_digits_a m_draft_a m_given_a m_begins_a p_pixels_k f_bytes_k f_starts_k f_ends_k s_layers_k u_pixels_k v_pixels_k w_pixels_k c_states_k c_favourites_k n_digits_k k_bytes_k o_arr_k m_picture_k m_file_k m_layers_k m_wide_k m_high_k m_half_k m_states_k m_favourites_k m_quotas_k m_digits_k m_draft_k m_given_k m_begins_k s_layers_r C1 x4 x y o _ H locs ls cells slots (by omega) (by omega) hl hP hD hS h hk
      replace h := of hv2 h
      by_cases hv3 : (xs x4.toNatClampNeg &&& (15 : Int32)) = (3 : Int32)
      · replace h := ot hv3 h
        refine lv_tableIn (off := 249) (tgt := 288) hx hb d_Law_law_39 (by rw [hv3]; decide) (by rw [hv3]; decide) (by rw [hv3]; decide) rfl ?_
        exact w_lawcase_3 dC dI t_0 p_0 p_pixels_a f_0 f_bytes_a f_starts_a f_ends_a s_0 s_layers_a u_0 u_pixels_a v_0 v_pixels_a w_0 w_pixels_a c_0 c_states_a c_favourites_a n_0 n_digits_a k_0 k_bytes_a o_arr_a m_0 m_picture_a m_file_a m_layers_a m_wide_a m_high_a m_half_a m_states_a m_favourites_a m_quotas_a m_digits_a m_draft_a m_given_a m_begins_a p_pixels_k f_bytes_k f_starts_k f_ends_k s_layers_k u_pixels_k v_pixels_k w_pixels_k c_states_k c_favourites_k n_digits_k k_bytes_k o_arr_k m_picture_k m_file_k m_layers_k m_wide_k m_high_k m_half_k m_states_k m_favourites_k m_quotas_k m_digits_k m_draft_k m_given_k m_begins_k s_layers_r C1 x4 x y o _ H locs ls cells slots (by omega) (by omega) hl hP hD hS h hk
      replace h := of hv3 h
      by_cases hv4 : (xs x4.toNatClampNeg &&& (15 : Int32)) = (4 : Int32)
      · replace h := ot hv4 h
        refine lv_tableIn (off := 286) (tgt := 325) hx hb d_Law_law_39 (by rw [hv4]; decide) (by rw [hv4]; decide) (by rw [hv4]; decide) rfl ?_
        exact w_lawcase_4 dC dI t_0 p_0 p_pixels_a f_0 f_bytes_a f_starts_a f_ends_a s_0 s_layers_a u_0 u_pixels_a v_0 v_pixels_a w_0 w_pixels_a c_0 c_states_a c_favourites_a n_0 n_digits_a k_0 k_bytes_a o_arr_a m_0 m_picture_a m_file_a m_layers_a m_wide_a m_high_a m_half_a m_states_a m_favourites_a m_quotas_a m_digits_a m_draft_a m_given_a m_begins_a p_pixels_k f_bytes_k f_starts_k f_ends_k s_layers_k u_pixels_k v_pixels_k w_pixels_k c_states_k c_favourites_k n_digits_k k_bytes_k o_arr_k m_picture_k m_file_k m_layers_k m_wide_k m_high_k m_half_k m_states_k m_favourites_k m_quotas_k m_digits_k m_draft_k m_given_k m_begins_k s_layers_r C1 x4 x y o _ H locs ls cells slots (by omega) (by omega) hl hP hD hS h hk
      replace h := of hv4 h
      by_cases hv5 : (xs x4.toNatClampNeg &&& (15 : Int32)) = (5 : Int32)
      · replace h := ot hv5 h
        refine lv_tableIn (off := 299) (tgt := 338) hx hb d_Law_law_39 (by rw [hv5]; decide) (by rw [hv5]; decide) (by rw [hv5]; decide) rfl ?_
        exact w_lawcase_5 dC dI t_0 p_0 p_pixels_a f_0 f_bytes_a f_starts_a f_ends_a s_0 s_layers_a u_0 u_pixels_a v_0 v_pixels_a w_0 w_pixels_a c_0 c_states_a c_favourites_a n_0 n_digits_a k_0 k_bytes_a o_arr_a m_0 m_picture_a m_file_a m_layers_a m_wide_a m_high_a m_half_a m_states_a m_favourites_a m_quotas_a m_digits_a m_draft_a m_given_a m_begins_a p_pixels_k f_bytes_k f_starts_k f_ends_k s_layers_k u_pixels_k v_pixels_k w_pixels_k c_states_k c_favourites_k n_digits_k k_bytes_k o_arr_k m_picture_k m_file_k m_layers_k m_wide_k m_high_k m_half_k m_states_k m_favourites_k m_quotas_k m_digits_k m_draft_k m_given_k m_begins_k s_layers_r C1 x4 x y o _ H locs ls cells slots (by omega) (by omega) hl hP hD hS h hk
      replace h := of hv5 h
      by_cases hv6 : (xs x4.toNatClampNeg &&& (15 : Int32)) = (6 : Int32)
      · replace h := ot hv6 h
        refine lv_tableIn (off := 312) (tgt := 351) hx hb d_Law_law_39 (by rw [hv6]; decide) (by rw [hv6]; decide) (by rw [hv6]; decide) rfl ?_
        exact w_lawcase_6 dC dI t_0 p_0 p_pixels_a f_0 f_bytes_a f_starts_a f_ends_a s_0 s_layers_a u_0 u_pixels_a v_0 v_pixels_a w_0 w_pixels_a c_0 c_states_a c_favourites_a n_0 n_digits_a k_0 k_bytes_a o_arr_a m_0 m_picture_a m_file_a m_layers_a m_wide_a m_high_a m_half_a m_states_a m_favourites_a m_quotas_a m_digits_a m_draft_a m_given_a m_begins_a p_pixels_k f_bytes_k f_starts_k f_ends_k s_layers_k u_pixels_k v_pixels_k w_pixels_k c_states_k c_favourites_k n_digits_k k_bytes_k o_arr_k m_picture_k m_file_k m_layers_k m_wide_k m_high_k m_half_k m_states_k m_favourites_k m_quotas_k m_digits_k m_draft_k m_given_k m_begins_k s_layers_r C1 x4 x y o _ H locs ls cells slots (by omega) (by omega) hl hP hD hS h hk
      replace h := of hv6 h
      by_cases hv7 : (xs x4.toNatClampNeg &&& (15 : Int32)) = (7 : Int32)
      · replace h := ot hv7 h
        refine lv_tableIn (off := 323) (tgt := 362) hx hb d_Law_law_39 (by rw [hv7]; decide) (by rw [hv7]; decide) (by rw [hv7]; decide) rfl ?_
        exact w_lawcase_7 dC dI t_0 p_0 p_pixels_a f_0 f_bytes_a f_starts_a f_ends_a s_0 s_layers_a u_0 u_pixels_a v_0 v_pixels_a w_0 w_pixels_a c_0 c_states_a c_favourites_a n_0 n_digits_a k_0 k_bytes_a o_arr_a m_0 m_picture_a m_file_a m_layers_a m_wide_a m_high_a m_half_a m_states_a m_favourites_a m_quotas_a m_digits_a m_draft_a m_given_a m_begins_a p_pixels_k f_bytes_k f_starts_k f_ends_k s_layers_k u_pixels_k v_pixels_k w_pixels_k c_states_k c_favourites_k n_digits_k k_bytes_k o_arr_k m_picture_k m_file_k m_layers_k m_wide_k m_high_k m_half_k m_states_k m_favourites_k m_quotas_k m_digits_k m_draft_k m_given_k m_begins_k s_layers_r C1 x4 x y o _ H locs ls cells slots (by omega) (by omega) hl hP hD hS h hk
      replace h := of hv7 h
      by_cases hv8 : (xs x4.toNatClampNeg &&& (15 : Int32)) = (8 : Int32)
      · replace h := ot hv8 h
        refine lv_tableIn (off := 379) (tgt := 418) hx hb d_Law_law_39 (by rw [hv8]; decide) (by rw [hv8]; decide) (by rw [hv8]; decide) rfl ?_
        exact w_lawcase_8 dC dI t_0 p_0 p_pixels_a f_0 f_bytes_a f_starts_a f_ends_a s_0 s_layers_a u_0 u_pixels_a v_0 v_pixels_a w_0 w_pixels_a c_0 c_states_a c_favourites_a n_0 n_digits_a k_0 k_bytes_a o_arr_a m_0 m_picture_a m_file_a m_layers_a m_wide_a m_high_a m_half_a m_states_a m_favourites_a m_quotas_a m_digits_a m_draft_a m_given_a m_begins_a p_pixels_k f_bytes_k f_starts_k f_ends_k s_layers_k u_pixels_k v_pixels_k w_pixels_k c_states_k c_favourites_k n_digits_k k_bytes_k o_arr_k m_picture_k m_file_k m_layers_k m_wide_k m_high_k m_half_k m_states_k m_favourites_k m_quotas_k m_digits_k m_draft_k m_given_k m_begins_k s_layers_r C1 x4 x y o _ H locs ls cells slots (by omega) (by omega) hl hP hD hS h hk
      replace h := of hv8 h
      by_cases hv9 : (xs x4.toNatClampNeg &&& (15 : Int32)) = (9 : Int32)
      · replace h := ot hv9 h
        refine lv_tableIn (off := 435) (tgt := 474) hx hb d_Law_law_39 (by rw [hv9]; decide) (by rw [hv9]; decide) (by rw [hv9]; decide) rfl ?_
        exact w_lawcase_9 dC dI t_0 p_0 p_pixels_a f_0 f_bytes_a f_starts_a f_ends_a s_0 s_layers_a u_0 u_pixels_a v_0 v_pixels_a w_0 w_pixels_a c_0 c_states_a c_favourites_a n_0 n_digits_a k_0 k_bytes_a o_arr_a m_0 m_picture_a m_file_a m_layers_a m_wide_a m_high_a m_half_a m_states_a m_favourites_a m_quotas_a m_digits_a m_draft_a m_given_a m_begins_a p_pixels_k f_bytes_k f_starts_k f_ends_k s_layers_k u_pixels_k v_pixels_k w_pixels_k c_states_k c_favourites_k n_digits_k k_bytes_k o_arr_k m_picture_k m_file_k m_layers_k m_wide_k m_high_k m_half_k m_states_k m_favourites_k m_quotas_k m_digits_k m_draft_k m_given_k m_begins_k s_layers_r C1 x4 x y o _ H locs ls cells slots (by omega) (by omega) hl hP hD hS h hk
      replace h := of hv9 h
      by_cases hv10 : (xs x4.toNatClampNeg &&& (15 : Int32)) = (10 : Int32)
      · replace h := ot hv10 h
        refine lv_tableIn (off := 491) (tgt := 530) hx hb d_Law_law_39 (by rw [hv10]; decide) (by rw [hv10]; decide) (by rw [hv10]; decide) rfl ?_
        exact w_lawcase_10 dC dI t_0 p_0 p_pixels_a f_0 f_bytes_a f_starts_a f_ends_a s_0 s_layers_a u_0 u_pixels_a v_0 v_pixels_a w_0 w_pixels_a c_0 c_states_a c_favourites_a n_0 n_digits_a k_0 k_bytes_a o_arr_a m_0 m_picture_a m_file_a m_layers_a m_wide_a m_high_a m_half_a m_states_a m_favourites_a m_quotas_a m_digits_a m_draft_a m_given_a m_begins_a p_pixels_k f_bytes_k f_starts_k f_ends_k s_layers_k u_pixels_k v_pixels_k w_pixels_k c_states_k c_favourites_k n_digits_k k_bytes_k o_arr_k m_picture_k m_file_k m_layers_k m_wide_k m_high_k m_half_k m_states_k m_favourites_k m_quotas_k m_digits_k m_draft_k m_given_k m_begins_k s_layers_r C1 x4 x y o _ H locs ls cells slots (by omega) (by omega) hl hP hD hS h hk
      replace h := of hv10 h
      by_cases hv11 : (xs x4.toNatClampNeg &&& (15 : Int32)) = (11 : Int32)
      · replace h := ot hv11 h
        refine lv_tableIn (off := 504) (tgt := 543) hx hb d_Law_law_39 (by rw [hv11]; decide) (by rw [hv11]; decide) (by rw [hv11]; decide) rfl ?_
        exact w_lawcase_11 dC dI t_0 p_0 p_pixels_a f_0 f_bytes_a f_starts_a f_ends_a s_0 s_layers_a u_0 u_pixels_a v_0 v_pixels_a w_0 w_pixels_a c_0 c_states_a c_favourites_a n_0 n_digits_a k_0 k_bytes_a o_arr_a m_0 m_picture_a m_file_a m_layers_a m_wide_a m_high_a m_half_a m_states_a m_favourites_a m_quotas_a m_digits_a m_draft_a m_given_a m_begins_a p_pixels_k f_bytes_k f_starts_k f_ends_k s_layers_k u_pixels_k v_pixels_k w_pixels_k c_states_k c_favourites_k n_digits_k k_bytes_k o_arr_k m_picture_k m_file_k m_layers_k m_wide_k m_high_k m_half_k m_states_k m_favourites_k m_quotas_k m_digits_k m_draft_k m_given_k m_begins_k s_layers_r C1 x4 x y o _ H locs ls cells slots (by omega) (by omega) hl hP hD hS h hk
      replace h := of hv11 h
      by_cases hv12 : (xs x4.toNatClampNeg &&& (15 : Int32)) = (12 : Int32)
      · replace h := ot hv12 h
        refine lv_tableIn (off := 560) (tgt := 599) hx hb d_Law_law_39 (by rw [hv12]; decide) (by rw [hv12]; decide) (by rw [hv12]; decide) rfl ?_
        exact w_lawcase_12 dC dI t_0 p_0 p_pixels_a f_0 f_bytes_a f_starts_a f_ends_a s_0 s_layers_a u_0 u_pixels_a v_0 v_pixels_a w_0 w_pixels_a c_0 c_states_a c_favourites_a n_0 n_digits_a k_0 k_bytes_a o_arr_a m_0 m_picture_a m_file_a m_layers_a m_wide_a m_high_a m_half_a m_states_a m_favourites_a m_quotas_a m_digits_a m_draft_a m_given_a m_begins_a p_pixels_k f_bytes_k f_starts_k f_ends_k s_layers_k u_pixels_k v_pixels_k w_pixels_k c_states_k c_favourites_k n_digits_k k_bytes_k o_arr_k m_picture_k m_file_k m_layers_k m_wide_k m_high_k m_half_k m_states_k m_favourites_k m_quotas_k m_digits_k m_draft_k m_given_k m_begins_k s_layers_r C1 x4 x y o _ H locs ls cells slots (by omega) (by omega) hl hP hD hS h hk
      replace h := of hv12 h
      by_cases hv13 : (xs x4.toNatClampNeg &&& (15 : Int32)) = (13 : Int32)
      · replace h := ot hv13 h
        refine lv_tableIn (off := 608) (tgt := 647) hx hb d_Law_law_39 (by rw [hv13]; decide) (by rw [hv13]; decide) (by rw [hv13]; decide) rfl ?_
        exact w_lawcase_13 dC dI t_0 p_0 p_pixels_a f_0 f_bytes_a f_starts_a f_ends_a s_0 s_layers_a u_0 u_pixels_a v_0 v_pixels_a w_0 w_pixels_a c_0 c_states_a c_favourites_a n_0 n_digits_a k_0 k_bytes_a o_arr_a m_0 m_picture_a m_file_a m_layers_a m_wide_a m_high_a m_half_a m_states_a m_favourites_a m_quotas_a m_digits_a m_draft_a m_given_a m_begins_a p_pixels_k f_bytes_k f_starts_k f_ends_k s_layers_k u_pixels_k v_pixels_k w_pixels_k c_states_k c_favourites_k n_digits_k k_bytes_k o_arr_k m_picture_k m_file_k m_layers_k m_wide_k m_high_k m_half_k m_states_k m_favourites_k m_quotas_k m_digits_k m_draft_k m_given_k m_begins_k s_layers_r C1 x4 x y o _ H locs ls cells slots (by omega) (by omega) hl hP hD hS h hk
      replace h := of hv13 h
      by_cases hv14 : (xs x4.toNatClampNeg &&& (15 : Int32)) = (14 : Int32)
      · replace h := ot hv14 h
        refine lv_tableIn (off := 708) (tgt := 747) hx hb d_Law_law_39 (by rw [hv14]; decide) (by rw [hv14]; decide) (by rw [hv14]; decide) rfl ?_
        exact w_lawcase_14 dC dI t_0 p_0 p_pixels_a f_0 f_bytes_a f_starts_a f_ends_a s_0 s_layers_a u_0 u_pixels_a v_0 v_pixels_a w_0 w_pixels_a c_0 c_states_a c_favourites_a n_0 n_digits_a k_0 k_bytes_a o_arr_a m_0 m_picture_a m_file_a m_layers_a m_wide_a m_high_a m_half_a m_states_a m_favourites_a m_quotas_a m_digits_a m_draft_a m_given_a m_begins_a p_pixels_k f_bytes_k f_starts_k f_ends_k s_layers_k u_pixels_k v_pixels_k w_pixels_k c_states_k c_favourites_k n_digits_k k_bytes_k o_arr_k m_picture_k m_file_k m_layers_k m_wide_k m_high_k m_half_k m_states_k m_favourites_k m_quotas_k m_digits_k m_draft_k m_given_k m_begins_k s_layers_r C1 x4 x y o _ H locs ls cells slots (by omega) (by omega) hl hP hD hS h hk
      replace h := of hv14 h
      have hout : (xs x4.toNatClampNeg &&& (15 : Int32)).toInt < 0 ∨ 14 < (xs x4.toNatClampNeg &&& (15 : Int32)).toInt := by
        right
        obtain ⟨j, hj, hv⟩ := pk_andE (xs x4.toNatClampNeg) (m := 15) 4 (by decide)
        rw [hv] at hv0 hv1 hv2 hv3 hv4 hv5 hv6 hv7 hv8 hv9 hv10 hv11 hv12 hv13 hv14 ⊢
        rw [nI_toInt (by omega)]
        have hj' : j < 16 := hj
        have : j = 15 := by
          rcases (by omega : j = 0 ∨ j = 1 ∨ j = 2 ∨ j = 3 ∨ j = 4 ∨ j = 5 ∨ j = 6 ∨ j = 7 ∨ j = 8 ∨ j = 9 ∨ j = 10 ∨ j = 11 ∨ j = 12 ∨ j = 13 ∨ j = 14 ∨ j = 15) with rfl | rfl | rfl | rfl | rfl | rfl | rfl | rfl | rfl | rfl | rfl | rfl | rfl | rfl | rfl | rfl
          · exact absurd rfl hv0
          · exact absurd rfl hv1
          · exact absurd rfl hv2
          · exact absurd rfl hv3
          · exact absurd rfl hv4
          · exact absurd rfl hv5
          · exact absurd rfl hv6
          · exact absurd rfl hv7
          · exact absurd rfl hv8
          · exact absurd rfl hv9
          · exact absurd rfl hv10
          · exact absurd rfl hv11
          · exact absurd rfl hv12
          · exact absurd rfl hv13
          · exact absurd rfl hv14
          · rfl
        omega
      refine lv_tableOut (tgt := 783) hx hb d_Law_law_39 hout rfl ?_
      exact hk x y o H locs ls cells slots (by omega) (by omega) hl hP hD hS h
