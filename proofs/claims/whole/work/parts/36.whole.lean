/-! what the Statement gives at the start; the claim -/
theorem yS_of {args : Array Value} {s : State} {n d : String} {A : Nat → Prop} (hl : (Cond.laysStatic Bundle.tN n d).before args s = true) (h : (Cond.isRef (.static Bundle.tN n d)).before args s = true) (hA : ∀ a : Nat, a < s.heap.size → ¬ A a) : yS n d A s s.heap := by
  obtain ⟨c, k, i, f, a, cell, hc, hi, hst, ha, hcell, hs, hcls, hlt, hty⟩ := Cond.laysStatic_spec hl
  obtain ⟨v, hv⟩ : ∃ v, cell.slots[f.slot]? = some v := ⟨cell.slots[f.slot], by simp [hlt]⟩
  have he : (Term.static Bundle.tN n d).eval args s none [] s = some v := by
    simp [Term.eval, State.fieldNamed?, hi, hst, ha, hcell, hs, hv]
  refine ⟨c, k, i, f, a, cell, v, hc, hi, hst, ha, hcell, hs, hcls, hlt, hty, hv, ?_, hA a (Array.getElem?_eq_some_iff.mp hcell).1⟩
  simp only [Cond.before, Cond.holds, Cond.value, he] at h
  cases v with
  | null => exact Or.inl rfl
  | ref r => exact Or.inr ⟨r, rfl⟩
  | _ => simp at h
set_option maxRecDepth 100000 in
theorem flatQ : ∀ j, j < 24 → Cond.eq (.elem (.static "LayeredBits" "Q" "[I") (.int (Int32.ofNat j))) (.int (qtab j)) ∈ flatC (Jvm.Cond.and given_1 narrow_1) := by decide +kernel
set_option maxHeartbeats 4000000 in
set_option maxRecDepth 100000 in
theorem whole_go {p : Program} {e : Env} {s : State} {m : MethodId} {below : List Frame} {meth : Method} {c : Code} (l : Launch) (htr : l.stackTraces = false) {b L : Nat} {xs : Nat → Int32} (hq : q_law xs L = some 1) (C0 : lw_At p s m meth c b L xs) : W p l e room_1 s m #[Value.ref b] below meth c s.heap [] 0 0 (lw_Z below #[Value.ref b] s) (entryFrame m ([Value.ref b] : List Value).toArray 7) := by
  obtain ⟨hx, hb, hr, hml, hown, hts0, hX, hbl, hlocks, hgv⟩ := C0
  have hts : ∀ w ∈ TT, w.before #[Value.ref b] s = true := fun w h => hts0 w (List.mem_filter.mp h).1
  have hfl := flat_of_before _ hgv
  have hAn : ∀ a : Nat, a < s.heap.size → ¬ (fun q => s.heap.size ≤ q) a := fun a h z => Nat.lt_irrefl _ (Nat.lt_of_lt_of_le h z)
  have hN : xN s := by
    intro w hw
    have h1 := hts0 w (List.mem_filter.mp hw).1
    have h2 := (List.mem_filter.mp hw).2
    cases w <;> first | exact Bool.noConfusion (show false = true from h2) | exact va_Nw.of rfl h1
  obtain ⟨tq, htq, hTq⟩ := va_Tof (tm := .static "LayeredBits" "Q" "[I") (ty := .int) (N := 24) (f := qF) (A := fun q => s.heap.size ≤ q) (by decide) (hfl _ (by decide +kernel)) (va_eqt (z := Int32.ofNat 24) (hfl _ (by decide +kernel))) (fun j hj => va_eqt (hfl _ (flatQ j hj))) hAn
  have hZ : va_Z "LayeredBits" "Q" "[I" (.ref tq) (fun q => s.heap.size ≤ q) s s.heap := va_Zof (hts0 _ (List.mem_of_getElem? (i := 449) rfl)) (hts0 _ (List.mem_of_getElem? (i := 45) rfl)) htq hAn
  have hE : yE (fun q => s.heap.size ≤ q) s s.heap := ⟨yS_of (hts0 _ (List.mem_of_getElem? (i := 332) rfl)) (hfl _ (by decide +kernel)) hAn, yS_of (hts0 _ (List.mem_of_getElem? (i := 334) rfl)) (hfl _ (by decide +kernel)) hAn⟩
  have hNc1 : va_Nc "java/lang/IllegalArgumentException" "java/lang/IndexOutOfBoundsException" s := va_Nc.of (hfl _ (by decide +kernel))
  have hNc2 : va_Nc "java/lang/IllegalStateException" "java/lang/IllegalArgumentException" s := va_Nc.of (hfl _ (by decide +kernel))
  have hAO : va_AO "LayeredBits$Picture" s := va_AO.of (hts0 _ (List.mem_of_getElem? (i := 136) rfl))
  obtain ⟨c0, i0, hk0⟩ := u_known hts in_Cod (hts _ tt139)
  obtain ⟨c1, i1, hk1⟩ := u_known hts in_Stk (hts _ tt130)
  obtain ⟨c2, i2, hk2⟩ := u_known hts in_Fil (hts _ tt93)
  obtain ⟨c3, i3, hk3⟩ := u_known hts in_Mad (hts _ tt177)
  obtain ⟨c4, i4, hk4⟩ := u_known hts in_Pic (hts _ tt72)
  obtain ⟨c5, i5, hk5⟩ := u_known hts in_Tak (hts _ tt193)
  obtain ⟨c6, i6, hk6⟩ := u_known hts in_Top (hts _ tt64)
  obtain ⟨c7, i7, hk7⟩ := u_known hts in_Mod (hts _ tt632)
  have hK : va_K (fun i => ([c0, c1, c2, c3, c4, c5, c6, c7] : List ClassId).getD i 0, fun i => ([i0, i1, i2, i3, i4, i5, i6, i7] : List (Nat → Nat)).getD i (fun _ => 0)) vcl [] s := by
    refine ⟨fun c q hq => ?_, fun k q hk => by simp at hk⟩
    match c, hq with
    | 0, hq => cases hq; exact hk0
    | 1, hq => cases hq; exact hk1
    | 2, hq => cases hq; exact hk2
    | 3, hq => cases hq; exact hk3
    | 4, hq => cases hq; exact hk4
    | 5, hq => cases hq; exact hk5
    | 6, hq => cases hq; exact hk6
    | 7, hq => cases hq; exact hk7
    | _ + 8, hq => cases hq
  have hl := lv_entry [Value.ref b] (n := 7) (Nat.le_of_ble_eq_true rfl)
  rw [lg_entry_eq]
  exact law_go _ _ hx hb hr hml hown hts (fun q h => h) (fun q h => h) ⟨⟨tq, hZ, hTq⟩, hN⟩ hE hNc1 hNc2 hX hbl hlocks hAO htr hK _ hl hq
