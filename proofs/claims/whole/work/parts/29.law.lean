/-! THE CLAIM OUT OF ONE WALK OF THE LAW'S BODY. Your part is whole_start (and what it stands on); all else here is the same for every law, but numbers. -/
def R_law : String := "LayeredBitsLaw"
def lw_P (b : Addr) (xs : List Int32) (args : Array Value) (s : State) : Prop := args = #[.ref b] ∧ s.IntsAt b xs ∧ xs.length ≤ 2048 ∧ (Jvm.Cond.and given_1 narrow_1).before args s = true
def lw_Q (_ : Array Value) (s : State) (o : Outcome) (t : State) : Prop := o = .returned (some (.int 1)) ∧ Framed s o t [] 1076 31919
def lw_Z (below : List Frame) (a : Array Value) (s : State) : State → Prop := fun t => ∃ o, t.status = .running ∧ Ended t below o ∧ lw_Q a s o t
/-- the law's own end, with 1 on the stack, nothing written that was there before, its room as the claim has it -/
theorem lw_ret {p : Program} {l : Launch} {e : Env} {s : State} {m : MethodId} {below : List Frame} {meth : Method} {c : Code} {b : Nat} (hx : p.tables.exec = Jvm.exec) (hb : c.code = code) (hr : meth.sig.returnType = ret) (hlocks : meth.locks = false) {pc : Nat} {H : Heap} {ls : Array Slot} (hdg : decode code pc = .ok (.ireturn, 1)) : W p l e room_1 s m #[Value.ref b] below meth c H [] 1076 31919 (lw_Z below #[Value.ref b] s) (F0 m pc ls [.int 1]) := by
  intro T hT X
  obtain ⟨fs, hret, hrun, hended, hW, hframe⟩ := X.leave (v := some (.int 1)) (hlocks := hlocks) (fun h => by rw [hr] at h; cases h)
  have hmeth' : T.vm.method? m = some meth := X.method'
  refine ⟨T.setFrames fs, ?_, .returned (some (.int 1)), hrun, hended, rfl, ⟨_, rfl⟩, hW, hframe⟩
  jvm_step X.here [X.here.top, hx, hb, hdg, hmeth', hr, ret, narrow_b1]
  (try refine ⟨rfl, ?_⟩); (try refine ⟨rfl, ?_⟩)
  first | (intro acts; rw [hret _ acts rfl rfl rfl]) | rw [hret _ _ rfl rfl rfl]
  exact Steps.refl _
/-- what holds at the law's entry: the machine, the code, the tables' words (any of lw_tbl by 'hts w (by decide +kernel)'), the script of L ints xs at the cell b, what the Statement gives of the start (any of its parts by flat_of_before) -/
def lw_At (p : Program) (s : State) (m : MethodId) (meth : Method) (c : Code) (b L : Nat) (xs : Nat → Int32) : Prop :=
  p.tables.exec = Jvm.exec ∧ c.code = code ∧ meth.sig.returnType = ret ∧ c.maxLocals = 7 ∧ s.vm.findClass R_law = some m.cls ∧ (∀ w ∈ lw_tbl, w.before #[Value.ref b] s = true) ∧ va_X b L xs s s.heap ∧ b < s.heap.size ∧ meth.locks = false ∧ (Jvm.Cond.and given_1 narrow_1).before #[Value.ref b] s = true
abbrev b_Law_law : ByteArray := code
def W_L (t_0 p_0 p_pixels_a f_0 f_bytes_a f_starts_a f_ends_a s_0 s_layers_a u_0 u_pixels_a v_0 v_pixels_a w_0 w_pixels_a c_0 c_states_a c_favourites_a n_0 n_digits_a k_0 k_bytes_a o_arr_a m_0 m_picture_a m_file_a m_layers_a m_wide_a m_high_a m_half_a m_states_a m_favourites_a m_quotas_a m_digits_a m_draft_a m_given_a m_begins_a : Nat) (p_pixels_k f_bytes_k f_starts_k f_ends_k s_layers_k u_pixels_k v_pixels_k w_pixels_k c_states_k c_favourites_k n_digits_k k_bytes_k o_arr_k m_picture_k m_file_k m_layers_k m_wide_k m_high_k m_half_k m_states_k m_favourites_k m_quotas_k m_digits_k m_draft_k m_given_k m_begins_k : ClassId) (s_layers_r : Nat → Option Nat) (t_anyLayerCoded : Int32) (p_pixels : Nat → Int32) (p_wide : Int32) (p_high : Int32) (f_bytes : Nat → Int32) (f_starts : Nat → Int32) (f_ends : Nat → Int32) (f_length : Int32) (f_wide : Int32) (f_high : Int32) (f_layerCount : Int32) (f_place : Int32) (s_plainRows : Int32) (u_pixels : Nat → Int32) (u_wide : Int32) (u_high : Int32) (v_pixels : Nat → Int32) (v_wide : Int32) (v_high : Int32) (w_pixels : Nat → Int32) (w_wide : Int32) (w_high : Int32) (c_states : Nat → Int32) (c_favourites : Nat → Int32) (c_span : Int32) (c_decisions : Int32) (c_doublings : Int32) (n_digits : Nat → Int32) (n_digitCount : Int32) (k_bytes : Nat → Int32) (k_byteCount : Int32) (k_nextDigit : Int32) (k_rest : Int32) (o_arr : Nat → Int64) (m_code : Int32) (m_width : Int32) (m_height : Int32) (m_picture : Nat → Int32) (m_length : Int32) (m_file : Nat → Int32) (m_any : Int32) (m_decisions : Int32) (m_plains : Int32) (m_doubles : Int32) (m_layers : Nat → Int32) (m_wide : Nat → Int32) (m_high : Nat → Int32) (m_half : Nat → Int32) (m_states : Nat → Int32) (m_favourites : Nat → Int32) (m_quotas : Nat → Int32) (m_span : Int32) (m_nowDecisions : Int32) (m_nowPlains : Int32) (m_nowDoubles : Int32) (m_digits : Nat → Int32) (m_digitCount : Int32) (m_draft : Nat → Int32) (m_draftSize : Int32) (m_taking : Int32) (m_given : Nat → Int32) (m_givenSize : Int32) (m_next : Int32) (m_above : Int32) (m_begins : Nat → Int32) (m_layerCount : Int32) (m_newWidth : Int32) (m_newHeight : Int32) : va_W := [(t_0, .inr (6, [.ref p_0, .ref f_0, .ref s_0, .ref n_0, .ref k_0, .int t_anyLayerCoded])), (p_0, .inr (4, [.ref p_pixels_a, .int p_wide, .int p_high])), (p_pixels_a, .inl (p_pixels_k, 256, .inl p_pixels)), (f_0, .inr (2, [.ref f_bytes_a, .ref f_starts_a, .ref f_ends_a, .int f_length, .int f_wide, .int f_high, .int f_layerCount, .int f_place])), (f_bytes_a, .inl (f_bytes_k, 900, .inl f_bytes)), (f_starts_a, .inl (f_starts_k, 3, .inl f_starts)), (f_ends_a, .inl (f_ends_k, 3, .inl f_ends)), (s_0, .inr (1, [.ref s_layers_a, .ref c_0, .int s_plainRows])), (s_layers_a, .inl (s_layers_k, 3, .inr (.inr (.inr (.inr s_layers_r))))), (u_0, .inr (4, [.ref u_pixels_a, .int u_wide, .int u_high])), (u_pixels_a, .inl (u_pixels_k, 256, .inl u_pixels)), (v_0, .inr (4, [.ref v_pixels_a, .int v_wide, .int v_high])), (v_pixels_a, .inl (v_pixels_k, 256, .inl v_pixels)), (w_0, .inr (4, [.ref w_pixels_a, .int w_wide, .int w_high])), (w_pixels_a, .inl (w_pixels_k, 256, .inl w_pixels)), (c_0, .inr (0, [.ref c_states_a, .ref c_favourites_a, .int c_span, .int c_decisions, .int c_doublings])), (c_states_a, .inl (c_states_k, 2563, .inl c_states)), (c_favourites_a, .inl (c_favourites_k, 2563, .inl c_favourites)), (n_0, .inr (3, [.ref n_digits_a, .int n_digitCount])), (n_digits_a, .inl (n_digits_k, 2464, .inl n_digits)), (k_0, .inr (5, [.ref k_bytes_a, .int k_byteCount, .int k_nextDigit, .int k_rest])), (k_bytes_a, .inl (k_bytes_k, 900, .inl k_bytes)), (o_arr_a, .inl (o_arr_k, 1, .inr (.inl o_arr))), (m_0, .inr (7, [.int m_code, .int m_width, .int m_height, .ref m_picture_a, .int m_length, .ref m_file_a, .int m_any, .int m_decisions, .int m_plains, .int m_doubles, .ref m_layers_a, .ref m_wide_a, .ref m_high_a, .ref m_half_a, .ref m_states_a, .ref m_favourites_a, .ref m_quotas_a, .int m_span, .int m_nowDecisions, .int m_nowPlains, .int m_nowDoubles, .ref m_digits_a, .int m_digitCount, .ref m_draft_a, .int m_draftSize, .int m_taking, .ref m_given_a, .int m_givenSize, .int m_next, .int m_above, .ref m_begins_a, .int m_layerCount, .int m_newWidth, .int m_newHeight])), (m_picture_a, .inl (m_picture_k, 256, .inl m_picture)), (m_file_a, .inl (m_file_k, 900, .inl m_file)), (m_layers_a, .inl (m_layers_k, 768, .inl m_layers)), (m_wide_a, .inl (m_wide_k, 3, .inl m_wide)), (m_high_a, .inl (m_high_k, 3, .inl m_high)), (m_half_a, .inl (m_half_k, 256, .inl m_half)), (m_states_a, .inl (m_states_k, 2563, .inl m_states)), (m_favourites_a, .inl (m_favourites_k, 2563, .inl m_favourites)), (m_quotas_a, .inl (m_quotas_k, 24, .inl m_quotas)), (m_digits_a, .inl (m_digits_k, 4000, .inl m_digits)), (m_draft_a, .inl (m_draft_k, 900, .inl m_draft)), (m_given_a, .inl (m_given_k, 900, .inl m_given)), (m_begins_a, .inl (m_begins_k, 3, .inl m_begins))]
abbrev XS : Type := Int32 × (Nat → Int32) × Int32 × Int32 × (Nat → Int32) × (Nat → Int32) × (Nat → Int32) × Int32 × Int32 × Int32 × Int32 × Int32 × Int32 × (Nat → Int32) × Int32 × Int32 × (Nat → Int32) × Int32 × Int32 × (Nat → Int32) × Int32 × Int32 × (Nat → Int32) × (Nat → Int32) × Int32 × Int32 × Int32 × (Nat → Int32) × Int32 × (Nat → Int32) × Int32 × Int32 × Int32
abbrev MS : Type := Int32 × Int32 × Int32 × (Nat → Int32) × Int32 × (Nat → Int32) × Int32 × Int32 × Int32 × Int32 × (Nat → Int32) × (Nat → Int32) × (Nat → Int32) × (Nat → Int32) × (Nat → Int32) × (Nat → Int32) × (Nat → Int32) × Int32 × Int32 × Int32 × Int32 × (Nat → Int32) × Int32 × (Nat → Int32) × Int32 × Int32 × (Nat → Int32) × Int32 × Int32 × Int32 × (Nat → Int32) × Int32 × Int32 × Int32
abbrev W_L2 (t_0 p_0 p_pixels_a f_0 f_bytes_a f_starts_a f_ends_a s_0 s_layers_a u_0 u_pixels_a v_0 v_pixels_a w_0 w_pixels_a c_0 c_states_a c_favourites_a n_0 n_digits_a k_0 k_bytes_a o_arr_a m_0 m_picture_a m_file_a m_layers_a m_wide_a m_high_a m_half_a m_states_a m_favourites_a m_quotas_a m_digits_a m_draft_a m_given_a m_begins_a : Nat) (p_pixels_k f_bytes_k f_starts_k f_ends_k s_layers_k u_pixels_k v_pixels_k w_pixels_k c_states_k c_favourites_k n_digits_k k_bytes_k o_arr_k m_picture_k m_file_k m_layers_k m_wide_k m_high_k m_half_k m_states_k m_favourites_k m_quotas_k m_digits_k m_draft_k m_given_k m_begins_k : ClassId) (s_layers_r : Nat → Option Nat) (x : XS) (y : MS) (o : Nat → Int64) : va_W := (W_L t_0 p_0 p_pixels_a f_0 f_bytes_a f_starts_a f_ends_a s_0 s_layers_a u_0 u_pixels_a v_0 v_pixels_a w_0 w_pixels_a c_0 c_states_a c_favourites_a n_0 n_digits_a k_0 k_bytes_a o_arr_a m_0 m_picture_a m_file_a m_layers_a m_wide_a m_high_a m_half_a m_states_a m_favourites_a m_quotas_a m_digits_a m_draft_a m_given_a m_begins_a p_pixels_k f_bytes_k f_starts_k f_ends_k s_layers_k u_pixels_k v_pixels_k w_pixels_k c_states_k c_favourites_k n_digits_k k_bytes_k o_arr_k m_picture_k m_file_k m_layers_k m_wide_k m_high_k m_half_k m_states_k m_favourites_k m_quotas_k m_digits_k m_draft_k m_given_k m_begins_k s_layers_r x.1 x.2.1 x.2.2.1 x.2.2.2.1 x.2.2.2.2.1 x.2.2.2.2.2.1 x.2.2.2.2.2.2.1 x.2.2.2.2.2.2.2.1 x.2.2.2.2.2.2.2.2.1 x.2.2.2.2.2.2.2.2.2.1 x.2.2.2.2.2.2.2.2.2.2.1 x.2.2.2.2.2.2.2.2.2.2.2.1 x.2.2.2.2.2.2.2.2.2.2.2.2.1 x.2.2.2.2.2.2.2.2.2.2.2.2.2.1 x.2.2.2.2.2.2.2.2.2.2.2.2.2.2.1 x.2.2.2.2.2.2.2.2.2.2.2.2.2.2.2.1 x.2.2.2.2.2.2.2.2.2.2.2.2.2.2.2.2.1 x.2.2.2.2.2.2.2.2.2.2.2.2.2.2.2.2.2.1 x.2.2.2.2.2.2.2.2.2.2.2.2.2.2.2.2.2.2.1 x.2.2.2.2.2.2.2.2.2.2.2.2.2.2.2.2.2.2.2.1 x.2.2.2.2.2.2.2.2.2.2.2.2.2.2.2.2.2.2.2.2.1 x.2.2.2.2.2.2.2.2.2.2.2.2.2.2.2.2.2.2.2.2.2.1 x.2.2.2.2.2.2.2.2.2.2.2.2.2.2.2.2.2.2.2.2.2.2.1 x.2.2.2.2.2.2.2.2.2.2.2.2.2.2.2.2.2.2.2.2.2.2.2.1 x.2.2.2.2.2.2.2.2.2.2.2.2.2.2.2.2.2.2.2.2.2.2.2.2.1 x.2.2.2.2.2.2.2.2.2.2.2.2.2.2.2.2.2.2.2.2.2.2.2.2.2.1 x.2.2.2.2.2.2.2.2.2.2.2.2.2.2.2.2.2.2.2.2.2.2.2.2.2.2.1 x.2.2.2.2.2.2.2.2.2.2.2.2.2.2.2.2.2.2.2.2.2.2.2.2.2.2.2.1 x.2.2.2.2.2.2.2.2.2.2.2.2.2.2.2.2.2.2.2.2.2.2.2.2.2.2.2.2.1 x.2.2.2.2.2.2.2.2.2.2.2.2.2.2.2.2.2.2.2.2.2.2.2.2.2.2.2.2.2.1 x.2.2.2.2.2.2.2.2.2.2.2.2.2.2.2.2.2.2.2.2.2.2.2.2.2.2.2.2.2.2.1 x.2.2.2.2.2.2.2.2.2.2.2.2.2.2.2.2.2.2.2.2.2.2.2.2.2.2.2.2.2.2.2.1 x.2.2.2.2.2.2.2.2.2.2.2.2.2.2.2.2.2.2.2.2.2.2.2.2.2.2.2.2.2.2.2.2 o y.1 y.2.1 y.2.2.1 y.2.2.2.1 y.2.2.2.2.1 y.2.2.2.2.2.1 y.2.2.2.2.2.2.1 y.2.2.2.2.2.2.2.1 y.2.2.2.2.2.2.2.2.1 y.2.2.2.2.2.2.2.2.2.1 y.2.2.2.2.2.2.2.2.2.2.1 y.2.2.2.2.2.2.2.2.2.2.2.1 y.2.2.2.2.2.2.2.2.2.2.2.2.1 y.2.2.2.2.2.2.2.2.2.2.2.2.2.1 y.2.2.2.2.2.2.2.2.2.2.2.2.2.2.1 y.2.2.2.2.2.2.2.2.2.2.2.2.2.2.2.1 y.2.2.2.2.2.2.2.2.2.2.2.2.2.2.2.2.1 y.2.2.2.2.2.2.2.2.2.2.2.2.2.2.2.2.2.1 y.2.2.2.2.2.2.2.2.2.2.2.2.2.2.2.2.2.2.1 y.2.2.2.2.2.2.2.2.2.2.2.2.2.2.2.2.2.2.2.1 y.2.2.2.2.2.2.2.2.2.2.2.2.2.2.2.2.2.2.2.2.1 y.2.2.2.2.2.2.2.2.2.2.2.2.2.2.2.2.2.2.2.2.2.1 y.2.2.2.2.2.2.2.2.2.2.2.2.2.2.2.2.2.2.2.2.2.2.1 y.2.2.2.2.2.2.2.2.2.2.2.2.2.2.2.2.2.2.2.2.2.2.2.1 y.2.2.2.2.2.2.2.2.2.2.2.2.2.2.2.2.2.2.2.2.2.2.2.2.1 y.2.2.2.2.2.2.2.2.2.2.2.2.2.2.2.2.2.2.2.2.2.2.2.2.2.1 y.2.2.2.2.2.2.2.2.2.2.2.2.2.2.2.2.2.2.2.2.2.2.2.2.2.2.1 y.2.2.2.2.2.2.2.2.2.2.2.2.2.2.2.2.2.2.2.2.2.2.2.2.2.2.2.1 y.2.2.2.2.2.2.2.2.2.2.2.2.2.2.2.2.2.2.2.2.2.2.2.2.2.2.2.2.1 y.2.2.2.2.2.2.2.2.2.2.2.2.2.2.2.2.2.2.2.2.2.2.2.2.2.2.2.2.2.1 y.2.2.2.2.2.2.2.2.2.2.2.2.2.2.2.2.2.2.2.2.2.2.2.2.2.2.2.2.2.2.1 y.2.2.2.2.2.2.2.2.2.2.2.2.2.2.2.2.2.2.2.2.2.2.2.2.2.2.2.2.2.2.2.1 y.2.2.2.2.2.2.2.2.2.2.2.2.2.2.2.2.2.2.2.2.2.2.2.2.2.2.2.2.2.2.2.2.1 y.2.2.2.2.2.2.2.2.2.2.2.2.2.2.2.2.2.2.2.2.2.2.2.2.2.2.2.2.2.2.2.2.2)
def lawC (p : Program) (l : Launch) (s : State) (m : MethodId) (meth : Method) (c : Code) (b L : Nat) (xs : Nat → Int32) (A : Nat → Prop) (dC : Nat → ClassId) (dI : Nat → Nat → Nat) (t_0 p_0 p_pixels_a f_0 f_bytes_a f_starts_a f_ends_a s_0 s_layers_a u_0 u_pixels_a v_0 v_pixels_a w_0 w_pixels_a c_0 c_states_a c_favourites_a n_0 n_digits_a k_0 k_bytes_a o_arr_a m_0 m_picture_a m_file_a m_layers_a m_wide_a m_high_a m_half_a m_states_a m_favourites_a m_quotas_a m_digits_a m_draft_a m_given_a m_begins_a : Nat) (p_pixels_k f_bytes_k f_starts_k f_ends_k s_layers_k u_pixels_k v_pixels_k w_pixels_k c_states_k c_favourites_k n_digits_k k_bytes_k o_arr_k m_picture_k m_file_k m_layers_k m_wide_k m_high_k m_half_k m_states_k m_favourites_k m_quotas_k m_digits_k m_draft_k m_given_k m_begins_k : ClassId) (s_layers_r : Nat → Option Nat) : Prop := p.tables.exec = Jvm.exec ∧ c.code = b_Law_law ∧ c.maxLocals = 7 ∧ s.vm.findClass "LayeredBitsLaw" = some m.cls ∧ (∀ w ∈ TT, w.before #[Value.ref b] s = true) ∧ (∀ q, s.heap.size ≤ q → A q) ∧ xG A s s.heap ∧ yE A s s.heap ∧ va_Nc "java/lang/IllegalArgumentException" "java/lang/IndexOutOfBoundsException" s ∧ va_Nc "java/lang/IllegalStateException" "java/lang/IllegalArgumentException" s ∧ va_X b L xs s s.heap ∧ b < s.heap.size ∧ ¬ A b ∧ va_K (dC, dI) vcl [(p_pixels_k, .int), (f_bytes_k, .int), (f_starts_k, .int), (f_ends_k, .int), (s_layers_k, .object "LayeredBits$Picture"), (u_pixels_k, .int), (v_pixels_k, .int), (w_pixels_k, .int), (c_states_k, .int), (c_favourites_k, .int), (n_digits_k, .int), (k_bytes_k, .int), (o_arr_k, .long), (m_picture_k, .int), (m_file_k, .int), (m_layers_k, .int), (m_wide_k, .int), (m_high_k, .int), (m_half_k, .int), (m_states_k, .int), (m_favourites_k, .int), (m_quotas_k, .int), (m_digits_k, .int), (m_draft_k, .int), (m_given_k, .int), (m_begins_k, .int)] s ∧ s_layers_r (0 : Int32).toNatClampNeg = some u_0 ∧ s_layers_r (1 : Int32).toNatClampNeg = some v_0 ∧ s_layers_r (2 : Int32).toNatClampNeg = some w_0 ∧ l.stackTraces = false
theorem d_Law_law_0 : decode b_Law_law 0 = .ok (.new 8, 3) := by decide +kernel
theorem d_Law_law_3 : decode b_Law_law 3 = .ok (.dup, 1) := by decide +kernel
theorem d_Law_law_4 : decode b_Law_law 4 = .ok (.invokespecial 50, 3) := by decide +kernel
theorem d_Law_law_7 : decode b_Law_law 7 = .ok (.astore_n 1, 1) := by decide +kernel
theorem d_Law_law_8 : decode b_Law_law 8 = .ok (.new 51, 3) := by decide +kernel
theorem d_Law_law_11 : decode b_Law_law 11 = .ok (.dup, 1) := by decide +kernel
theorem d_Law_law_12 : decode b_Law_law 12 = .ok (.invokespecial 53, 3) := by decide +kernel
theorem d_Law_law_15 : decode b_Law_law 15 = .ok (.astore_n 2, 1) := by decide +kernel
theorem d_Law_law_16 : decode b_Law_law 16 = .ok (.iconst (1), 1) := by decide +kernel
theorem d_Law_law_17 : decode b_Law_law 17 = .ok (.newarray .long, 2) := by decide +kernel
theorem d_Law_law_19 : decode b_Law_law 19 = .ok (.astore_n 3, 1) := by decide +kernel
theorem d_Law_law_20 : decode b_Law_law 20 = .ok (.iconst (0), 1) := by decide +kernel
theorem d_Law_law_21 : decode b_Law_law 21 = .ok (.istore 4, 2) := by decide +kernel
theorem d_Law_law_23 : decode b_Law_law 23 = .ok (.iload 4, 2) := by decide +kernel
theorem d_Law_law_25 : decode b_Law_law 25 = .ok (.aload_n 0, 1) := by decide +kernel
theorem d_Law_law_26 : decode b_Law_law 26 = .ok (.arraylength, 1) := by decide +kernel
theorem d_Law_law_27 : decode b_Law_law 27 = .ok (.iconst (4), 1) := by decide +kernel
theorem d_Law_law_28 : decode b_Law_law 28 = .ok (.isub, 1) := by decide +kernel
theorem d_Law_law_29 : decode b_Law_law 29 = .ok (.if_icmp .gt (760), 3) := by decide +kernel
theorem d_Law_law_32 : decode b_Law_law 32 = .ok (.aload_n 0, 1) := by decide +kernel
theorem d_Law_law_33 : decode b_Law_law 33 = .ok (.iload 4, 2) := by decide +kernel
theorem d_Law_law_35 : decode b_Law_law 35 = .ok (.iaload, 1) := by decide +kernel
theorem d_Law_law_36 : decode b_Law_law 36 = .ok (.bipush (15), 2) := by decide +kernel
theorem d_Law_law_38 : decode b_Law_law 38 = .ok (.iand, 1) := by decide +kernel
theorem d_Law_law_112 : decode b_Law_law 112 = .ok (.aload_n 1, 1) := by decide +kernel
theorem d_Law_law_113 : decode b_Law_law 113 = .ok (.aload_n 0, 1) := by decide +kernel
theorem d_Law_law_114 : decode b_Law_law 114 = .ok (.iload 4, 2) := by decide +kernel
theorem d_Law_law_116 : decode b_Law_law 116 = .ok (.iconst (1), 1) := by decide +kernel
theorem d_Law_law_117 : decode b_Law_law 117 = .ok (.iadd, 1) := by decide +kernel
theorem d_Law_law_118 : decode b_Law_law 118 = .ok (.iaload, 1) := by decide +kernel
theorem d_Law_law_119 : decode b_Law_law 119 = .ok (.aload_n 0, 1) := by decide +kernel
theorem d_Law_law_120 : decode b_Law_law 120 = .ok (.iload 4, 2) := by decide +kernel
theorem d_Law_law_122 : decode b_Law_law 122 = .ok (.iconst (2), 1) := by decide +kernel
theorem d_Law_law_123 : decode b_Law_law 123 = .ok (.iadd, 1) := by decide +kernel
theorem d_Law_law_124 : decode b_Law_law 124 = .ok (.iaload, 1) := by decide +kernel
theorem d_Law_law_125 : decode b_Law_law 125 = .ok (.invokestatic 54, 3) := by decide +kernel
theorem d_Law_law_128 : decode b_Law_law 128 = .ok (.istore 5, 2) := by decide +kernel
theorem d_Law_law_130 : decode b_Law_law 130 = .ok (.aload_n 2, 1) := by decide +kernel
theorem d_Law_law_131 : decode b_Law_law 131 = .ok (.aload_n 0, 1) := by decide +kernel
theorem d_Law_law_132 : decode b_Law_law 132 = .ok (.iload 4, 2) := by decide +kernel
theorem d_Law_law_134 : decode b_Law_law 134 = .ok (.iconst (1), 1) := by decide +kernel
theorem d_Law_law_135 : decode b_Law_law 135 = .ok (.iadd, 1) := by decide +kernel
theorem d_Law_law_136 : decode b_Law_law 136 = .ok (.iaload, 1) := by decide +kernel
theorem d_Law_law_137 : decode b_Law_law 137 = .ok (.aload_n 0, 1) := by decide +kernel
theorem d_Law_law_138 : decode b_Law_law 138 = .ok (.iload 4, 2) := by decide +kernel
theorem d_Law_law_140 : decode b_Law_law 140 = .ok (.iconst (2), 1) := by decide +kernel
theorem d_Law_law_141 : decode b_Law_law 141 = .ok (.iadd, 1) := by decide +kernel
theorem d_Law_law_142 : decode b_Law_law 142 = .ok (.iaload, 1) := by decide +kernel
theorem d_Law_law_143 : decode b_Law_law 143 = .ok (.invokevirtual 59, 3) := by decide +kernel
theorem d_Law_law_146 : decode b_Law_law 146 = .ok (.aload_n 2, 1) := by decide +kernel
theorem d_Law_law_147 : decode b_Law_law 147 = .ok (.invokevirtual 60, 3) := by decide +kernel
theorem d_Law_law_150 : decode b_Law_law 150 = .ok (.iload 5, 2) := by decide +kernel
theorem d_Law_law_152 : decode b_Law_law 152 = .ok (.if_icmp .eq (5), 3) := by decide +kernel
theorem d_Law_law_155 : decode b_Law_law 155 = .ok (.iconst (0), 1) := by decide +kernel
theorem d_Law_law_156 : decode b_Law_law 156 = .ok (.ireturn, 1) := by decide +kernel
theorem d_Law_law_157 : decode b_Law_law 157 = .ok (.goto (626), 3) := by decide +kernel
theorem d_Law_law_160 : decode b_Law_law 160 = .ok (.aload_n 1, 1) := by decide +kernel
theorem d_Law_law_161 : decode b_Law_law 161 = .ok (.aload_n 0, 1) := by decide +kernel
theorem d_Law_law_162 : decode b_Law_law 162 = .ok (.iload 4, 2) := by decide +kernel
theorem d_Law_law_164 : decode b_Law_law 164 = .ok (.iconst (1), 1) := by decide +kernel
theorem d_Law_law_165 : decode b_Law_law 165 = .ok (.iadd, 1) := by decide +kernel
theorem d_Law_law_166 : decode b_Law_law 166 = .ok (.iaload, 1) := by decide +kernel
theorem d_Law_law_167 : decode b_Law_law 167 = .ok (.aload_n 0, 1) := by decide +kernel
theorem d_Law_law_168 : decode b_Law_law 168 = .ok (.iload 4, 2) := by decide +kernel
theorem d_Law_law_170 : decode b_Law_law 170 = .ok (.iconst (2), 1) := by decide +kernel
theorem d_Law_law_171 : decode b_Law_law 171 = .ok (.iadd, 1) := by decide +kernel
theorem d_Law_law_172 : decode b_Law_law 172 = .ok (.iaload, 1) := by decide +kernel
theorem d_Law_law_173 : decode b_Law_law 173 = .ok (.aload_n 0, 1) := by decide +kernel
theorem d_Law_law_174 : decode b_Law_law 174 = .ok (.iload 4, 2) := by decide +kernel
theorem d_Law_law_176 : decode b_Law_law 176 = .ok (.iconst (3), 1) := by decide +kernel
theorem d_Law_law_177 : decode b_Law_law 177 = .ok (.iadd, 1) := by decide +kernel
theorem d_Law_law_178 : decode b_Law_law 178 = .ok (.iaload, 1) := by decide +kernel
theorem d_Law_law_179 : decode b_Law_law 179 = .ok (.aload_n 3, 1) := by decide +kernel
theorem d_Law_law_180 : decode b_Law_law 180 = .ok (.invokestatic 64, 3) := by decide +kernel
theorem d_Law_law_183 : decode b_Law_law 183 = .ok (.istore 5, 2) := by decide +kernel
theorem d_Law_law_185 : decode b_Law_law 185 = .ok (.aload_n 2, 1) := by decide +kernel
theorem d_Law_law_186 : decode b_Law_law 186 = .ok (.aload_n 0, 1) := by decide +kernel
theorem d_Law_law_187 : decode b_Law_law 187 = .ok (.iload 4, 2) := by decide +kernel
theorem d_Law_law_189 : decode b_Law_law 189 = .ok (.iconst (1), 1) := by decide +kernel
theorem d_Law_law_190 : decode b_Law_law 190 = .ok (.iadd, 1) := by decide +kernel
theorem d_Law_law_191 : decode b_Law_law 191 = .ok (.iaload, 1) := by decide +kernel
theorem d_Law_law_192 : decode b_Law_law 192 = .ok (.aload_n 0, 1) := by decide +kernel
theorem d_Law_law_193 : decode b_Law_law 193 = .ok (.iload 4, 2) := by decide +kernel
theorem d_Law_law_195 : decode b_Law_law 195 = .ok (.iconst (2), 1) := by decide +kernel
theorem d_Law_law_196 : decode b_Law_law 196 = .ok (.iadd, 1) := by decide +kernel
theorem d_Law_law_197 : decode b_Law_law 197 = .ok (.iaload, 1) := by decide +kernel
theorem d_Law_law_198 : decode b_Law_law 198 = .ok (.aload_n 0, 1) := by decide +kernel
theorem d_Law_law_199 : decode b_Law_law 199 = .ok (.iload 4, 2) := by decide +kernel
theorem d_Law_law_201 : decode b_Law_law 201 = .ok (.iconst (3), 1) := by decide +kernel
theorem d_Law_law_202 : decode b_Law_law 202 = .ok (.iadd, 1) := by decide +kernel
theorem d_Law_law_203 : decode b_Law_law 203 = .ok (.iaload, 1) := by decide +kernel
theorem d_Law_law_204 : decode b_Law_law 204 = .ok (.invokevirtual 67, 3) := by decide +kernel
theorem d_Law_law_207 : decode b_Law_law 207 = .ok (.istore 6, 2) := by decide +kernel
theorem d_Law_law_209 : decode b_Law_law 209 = .ok (.aload_n 2, 1) := by decide +kernel
theorem d_Law_law_210 : decode b_Law_law 210 = .ok (.invokevirtual 60, 3) := by decide +kernel
theorem d_Law_law_213 : decode b_Law_law 213 = .ok (.iload 5, 2) := by decide +kernel
theorem d_Law_law_215 : decode b_Law_law 215 = .ok (.if_icmp .eq (5), 3) := by decide +kernel
theorem d_Law_law_218 : decode b_Law_law 218 = .ok (.iconst (0), 1) := by decide +kernel
theorem d_Law_law_219 : decode b_Law_law 219 = .ok (.ireturn, 1) := by decide +kernel
theorem d_Law_law_220 : decode b_Law_law 220 = .ok (.iload 5, 2) := by decide +kernel
theorem d_Law_law_222 : decode b_Law_law 222 = .ok (.ifCond .ne (15), 3) := by decide +kernel
theorem d_Law_law_225 : decode b_Law_law 225 = .ok (.aload_n 3, 1) := by decide +kernel
theorem d_Law_law_226 : decode b_Law_law 226 = .ok (.iconst (0), 1) := by decide +kernel
theorem d_Law_law_227 : decode b_Law_law 227 = .ok (.laload, 1) := by decide +kernel
theorem d_Law_law_228 : decode b_Law_law 228 = .ok (.iload 6, 2) := by decide +kernel
theorem d_Law_law_230 : decode b_Law_law 230 = .ok (.i2l, 1) := by decide +kernel
theorem d_Law_law_231 : decode b_Law_law 231 = .ok (.lcmp, 1) := by decide +kernel
theorem d_Law_law_232 : decode b_Law_law 232 = .ok (.ifCond .eq (5), 3) := by decide +kernel
theorem d_Law_law_235 : decode b_Law_law 235 = .ok (.iconst (0), 1) := by decide +kernel
theorem d_Law_law_236 : decode b_Law_law 236 = .ok (.ireturn, 1) := by decide +kernel
theorem d_Law_law_237 : decode b_Law_law 237 = .ok (.goto (546), 3) := by decide +kernel
theorem d_Law_law_240 : decode b_Law_law 240 = .ok (.aload_n 1, 1) := by decide +kernel
theorem d_Law_law_241 : decode b_Law_law 241 = .ok (.aload_n 0, 1) := by decide +kernel
theorem d_Law_law_242 : decode b_Law_law 242 = .ok (.iload 4, 2) := by decide +kernel
theorem d_Law_law_244 : decode b_Law_law 244 = .ok (.iconst (1), 1) := by decide +kernel
theorem d_Law_law_245 : decode b_Law_law 245 = .ok (.iadd, 1) := by decide +kernel
theorem d_Law_law_246 : decode b_Law_law 246 = .ok (.iaload, 1) := by decide +kernel
theorem d_Law_law_247 : decode b_Law_law 247 = .ok (.aload_n 0, 1) := by decide +kernel
theorem d_Law_law_248 : decode b_Law_law 248 = .ok (.iload 4, 2) := by decide +kernel
theorem d_Law_law_250 : decode b_Law_law 250 = .ok (.iconst (2), 1) := by decide +kernel
theorem d_Law_law_251 : decode b_Law_law 251 = .ok (.iadd, 1) := by decide +kernel
theorem d_Law_law_252 : decode b_Law_law 252 = .ok (.iaload, 1) := by decide +kernel
theorem d_Law_law_253 : decode b_Law_law 253 = .ok (.invokestatic 68, 3) := by decide +kernel
theorem d_Law_law_256 : decode b_Law_law 256 = .ok (.istore 5, 2) := by decide +kernel
theorem d_Law_law_258 : decode b_Law_law 258 = .ok (.aload_n 2, 1) := by decide +kernel
theorem d_Law_law_259 : decode b_Law_law 259 = .ok (.aload_n 0, 1) := by decide +kernel
theorem d_Law_law_260 : decode b_Law_law 260 = .ok (.iload 4, 2) := by decide +kernel
theorem d_Law_law_262 : decode b_Law_law 262 = .ok (.iconst (1), 1) := by decide +kernel
theorem d_Law_law_263 : decode b_Law_law 263 = .ok (.iadd, 1) := by decide +kernel
theorem d_Law_law_264 : decode b_Law_law 264 = .ok (.iaload, 1) := by decide +kernel
theorem d_Law_law_265 : decode b_Law_law 265 = .ok (.aload_n 0, 1) := by decide +kernel
theorem d_Law_law_266 : decode b_Law_law 266 = .ok (.iload 4, 2) := by decide +kernel
theorem d_Law_law_268 : decode b_Law_law 268 = .ok (.iconst (2), 1) := by decide +kernel
theorem d_Law_law_269 : decode b_Law_law 269 = .ok (.iadd, 1) := by decide +kernel
theorem d_Law_law_270 : decode b_Law_law 270 = .ok (.iaload, 1) := by decide +kernel
theorem d_Law_law_271 : decode b_Law_law 271 = .ok (.invokevirtual 70, 3) := by decide +kernel
theorem d_Law_law_274 : decode b_Law_law 274 = .ok (.aload_n 2, 1) := by decide +kernel
theorem d_Law_law_275 : decode b_Law_law 275 = .ok (.invokevirtual 60, 3) := by decide +kernel
theorem d_Law_law_278 : decode b_Law_law 278 = .ok (.iload 5, 2) := by decide +kernel
theorem d_Law_law_280 : decode b_Law_law 280 = .ok (.if_icmp .eq (5), 3) := by decide +kernel
theorem d_Law_law_283 : decode b_Law_law 283 = .ok (.iconst (0), 1) := by decide +kernel
theorem d_Law_law_284 : decode b_Law_law 284 = .ok (.ireturn, 1) := by decide +kernel
theorem d_Law_law_285 : decode b_Law_law 285 = .ok (.goto (498), 3) := by decide +kernel
theorem d_Law_law_288 : decode b_Law_law 288 = .ok (.aload_n 1, 1) := by decide +kernel
theorem d_Law_law_289 : decode b_Law_law 289 = .ok (.aload_n 0, 1) := by decide +kernel
theorem d_Law_law_290 : decode b_Law_law 290 = .ok (.iload 4, 2) := by decide +kernel
theorem d_Law_law_292 : decode b_Law_law 292 = .ok (.iconst (1), 1) := by decide +kernel
theorem d_Law_law_293 : decode b_Law_law 293 = .ok (.iadd, 1) := by decide +kernel
theorem d_Law_law_294 : decode b_Law_law 294 = .ok (.iaload, 1) := by decide +kernel
theorem d_Law_law_295 : decode b_Law_law 295 = .ok (.aload_n 0, 1) := by decide +kernel
theorem d_Law_law_296 : decode b_Law_law 296 = .ok (.iload 4, 2) := by decide +kernel
theorem d_Law_law_298 : decode b_Law_law 298 = .ok (.iconst (2), 1) := by decide +kernel
theorem d_Law_law_299 : decode b_Law_law 299 = .ok (.iadd, 1) := by decide +kernel
theorem d_Law_law_300 : decode b_Law_law 300 = .ok (.iaload, 1) := by decide +kernel
theorem d_Law_law_301 : decode b_Law_law 301 = .ok (.invokevirtual 71, 3) := by decide +kernel
theorem d_Law_law_304 : decode b_Law_law 304 = .ok (.aload_n 2, 1) := by decide +kernel
theorem d_Law_law_305 : decode b_Law_law 305 = .ok (.aload_n 0, 1) := by decide +kernel
theorem d_Law_law_306 : decode b_Law_law 306 = .ok (.iload 4, 2) := by decide +kernel
theorem d_Law_law_308 : decode b_Law_law 308 = .ok (.iconst (1), 1) := by decide +kernel
theorem d_Law_law_309 : decode b_Law_law 309 = .ok (.iadd, 1) := by decide +kernel
theorem d_Law_law_310 : decode b_Law_law 310 = .ok (.iaload, 1) := by decide +kernel
theorem d_Law_law_311 : decode b_Law_law 311 = .ok (.aload_n 0, 1) := by decide +kernel
theorem d_Law_law_312 : decode b_Law_law 312 = .ok (.iload 4, 2) := by decide +kernel
theorem d_Law_law_314 : decode b_Law_law 314 = .ok (.iconst (2), 1) := by decide +kernel
theorem d_Law_law_315 : decode b_Law_law 315 = .ok (.iadd, 1) := by decide +kernel
theorem d_Law_law_316 : decode b_Law_law 316 = .ok (.iaload, 1) := by decide +kernel
theorem d_Law_law_317 : decode b_Law_law 317 = .ok (.invokevirtual 75, 3) := by decide +kernel
theorem d_Law_law_320 : decode b_Law_law 320 = .ok (.if_icmp .eq (463), 3) := by decide +kernel
theorem d_Law_law_323 : decode b_Law_law 323 = .ok (.iconst (0), 1) := by decide +kernel
theorem d_Law_law_324 : decode b_Law_law 324 = .ok (.ireturn, 1) := by decide +kernel
theorem d_Law_law_325 : decode b_Law_law 325 = .ok (.aload_n 1, 1) := by decide +kernel
theorem d_Law_law_326 : decode b_Law_law 326 = .ok (.invokevirtual 76, 3) := by decide +kernel
theorem d_Law_law_329 : decode b_Law_law 329 = .ok (.aload_n 2, 1) := by decide +kernel
theorem d_Law_law_330 : decode b_Law_law 330 = .ok (.invokevirtual 79, 3) := by decide +kernel
theorem d_Law_law_333 : decode b_Law_law 333 = .ok (.if_icmp .eq (450), 3) := by decide +kernel
theorem d_Law_law_336 : decode b_Law_law 336 = .ok (.iconst (0), 1) := by decide +kernel
theorem d_Law_law_337 : decode b_Law_law 337 = .ok (.ireturn, 1) := by decide +kernel
theorem d_Law_law_338 : decode b_Law_law 338 = .ok (.aload_n 1, 1) := by decide +kernel
theorem d_Law_law_339 : decode b_Law_law 339 = .ok (.invokevirtual 80, 3) := by decide +kernel
theorem d_Law_law_342 : decode b_Law_law 342 = .ok (.aload_n 2, 1) := by decide +kernel
theorem d_Law_law_343 : decode b_Law_law 343 = .ok (.invokevirtual 83, 3) := by decide +kernel
theorem d_Law_law_346 : decode b_Law_law 346 = .ok (.if_icmp .eq (437), 3) := by decide +kernel
theorem d_Law_law_349 : decode b_Law_law 349 = .ok (.iconst (0), 1) := by decide +kernel
theorem d_Law_law_350 : decode b_Law_law 350 = .ok (.ireturn, 1) := by decide +kernel
theorem d_Law_law_351 : decode b_Law_law 351 = .ok (.aload_n 1, 1) := by decide +kernel
theorem d_Law_law_352 : decode b_Law_law 352 = .ok (.invokevirtual 84, 3) := by decide +kernel
theorem d_Law_law_355 : decode b_Law_law 355 = .ok (.aload_n 2, 1) := by decide +kernel
theorem d_Law_law_356 : decode b_Law_law 356 = .ok (.invokevirtual 87, 3) := by decide +kernel
theorem d_Law_law_359 : decode b_Law_law 359 = .ok (.goto (424), 3) := by decide +kernel
theorem d_Law_law_362 : decode b_Law_law 362 = .ok (.aload_n 1, 1) := by decide +kernel
theorem d_Law_law_363 : decode b_Law_law 363 = .ok (.aload_n 0, 1) := by decide +kernel
theorem d_Law_law_364 : decode b_Law_law 364 = .ok (.iload 4, 2) := by decide +kernel
theorem d_Law_law_366 : decode b_Law_law 366 = .ok (.iconst (1), 1) := by decide +kernel
theorem d_Law_law_367 : decode b_Law_law 367 = .ok (.iadd, 1) := by decide +kernel
theorem d_Law_law_368 : decode b_Law_law 368 = .ok (.iaload, 1) := by decide +kernel
theorem d_Law_law_369 : decode b_Law_law 369 = .ok (.aload_n 3, 1) := by decide +kernel
theorem d_Law_law_370 : decode b_Law_law 370 = .ok (.invokestatic 88, 3) := by decide +kernel
theorem d_Law_law_373 : decode b_Law_law 373 = .ok (.istore 5, 2) := by decide +kernel
theorem d_Law_law_375 : decode b_Law_law 375 = .ok (.aload_n 2, 1) := by decide +kernel
theorem d_Law_law_376 : decode b_Law_law 376 = .ok (.aload_n 0, 1) := by decide +kernel
theorem d_Law_law_377 : decode b_Law_law 377 = .ok (.iload 4, 2) := by decide +kernel
theorem d_Law_law_379 : decode b_Law_law 379 = .ok (.iconst (1), 1) := by decide +kernel
theorem d_Law_law_380 : decode b_Law_law 380 = .ok (.iadd, 1) := by decide +kernel
theorem d_Law_law_381 : decode b_Law_law 381 = .ok (.iaload, 1) := by decide +kernel
theorem d_Law_law_382 : decode b_Law_law 382 = .ok (.invokevirtual 91, 3) := by decide +kernel
theorem d_Law_law_385 : decode b_Law_law 385 = .ok (.istore 6, 2) := by decide +kernel
theorem d_Law_law_387 : decode b_Law_law 387 = .ok (.aload_n 2, 1) := by decide +kernel
theorem d_Law_law_388 : decode b_Law_law 388 = .ok (.invokevirtual 60, 3) := by decide +kernel
theorem d_Law_law_391 : decode b_Law_law 391 = .ok (.iload 5, 2) := by decide +kernel
theorem d_Law_law_393 : decode b_Law_law 393 = .ok (.if_icmp .eq (5), 3) := by decide +kernel
theorem d_Law_law_396 : decode b_Law_law 396 = .ok (.iconst (0), 1) := by decide +kernel
theorem d_Law_law_397 : decode b_Law_law 397 = .ok (.ireturn, 1) := by decide +kernel
theorem d_Law_law_398 : decode b_Law_law 398 = .ok (.iload 5, 2) := by decide +kernel
theorem d_Law_law_400 : decode b_Law_law 400 = .ok (.ifCond .ne (15), 3) := by decide +kernel
theorem d_Law_law_403 : decode b_Law_law 403 = .ok (.aload_n 3, 1) := by decide +kernel
theorem d_Law_law_404 : decode b_Law_law 404 = .ok (.iconst (0), 1) := by decide +kernel
theorem d_Law_law_405 : decode b_Law_law 405 = .ok (.laload, 1) := by decide +kernel
theorem d_Law_law_406 : decode b_Law_law 406 = .ok (.iload 6, 2) := by decide +kernel
theorem d_Law_law_408 : decode b_Law_law 408 = .ok (.i2l, 1) := by decide +kernel
theorem d_Law_law_409 : decode b_Law_law 409 = .ok (.lcmp, 1) := by decide +kernel
theorem d_Law_law_410 : decode b_Law_law 410 = .ok (.ifCond .eq (5), 3) := by decide +kernel
theorem d_Law_law_413 : decode b_Law_law 413 = .ok (.iconst (0), 1) := by decide +kernel
theorem d_Law_law_414 : decode b_Law_law 414 = .ok (.ireturn, 1) := by decide +kernel
theorem d_Law_law_415 : decode b_Law_law 415 = .ok (.goto (368), 3) := by decide +kernel
theorem d_Law_law_418 : decode b_Law_law 418 = .ok (.aload_n 1, 1) := by decide +kernel
theorem d_Law_law_419 : decode b_Law_law 419 = .ok (.aload_n 0, 1) := by decide +kernel
theorem d_Law_law_420 : decode b_Law_law 420 = .ok (.iload 4, 2) := by decide +kernel
theorem d_Law_law_422 : decode b_Law_law 422 = .ok (.iconst (1), 1) := by decide +kernel
theorem d_Law_law_423 : decode b_Law_law 423 = .ok (.iadd, 1) := by decide +kernel
theorem d_Law_law_424 : decode b_Law_law 424 = .ok (.iaload, 1) := by decide +kernel
theorem d_Law_law_425 : decode b_Law_law 425 = .ok (.aload_n 3, 1) := by decide +kernel
theorem d_Law_law_426 : decode b_Law_law 426 = .ok (.invokestatic 92, 3) := by decide +kernel
theorem d_Law_law_429 : decode b_Law_law 429 = .ok (.istore 5, 2) := by decide +kernel
theorem d_Law_law_431 : decode b_Law_law 431 = .ok (.aload_n 2, 1) := by decide +kernel
theorem d_Law_law_432 : decode b_Law_law 432 = .ok (.aload_n 0, 1) := by decide +kernel
theorem d_Law_law_433 : decode b_Law_law 433 = .ok (.iload 4, 2) := by decide +kernel
theorem d_Law_law_435 : decode b_Law_law 435 = .ok (.iconst (1), 1) := by decide +kernel
theorem d_Law_law_436 : decode b_Law_law 436 = .ok (.iadd, 1) := by decide +kernel
theorem d_Law_law_437 : decode b_Law_law 437 = .ok (.iaload, 1) := by decide +kernel
theorem d_Law_law_438 : decode b_Law_law 438 = .ok (.invokevirtual 94, 3) := by decide +kernel
