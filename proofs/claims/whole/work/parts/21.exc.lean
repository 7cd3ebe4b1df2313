/-! exceptions: thrown by a method of the class (new, dup, <init>, athrow), caught by its caller's table; launches without stack traces -/
def yN : List String := ["java/lang/RuntimeException", "java/lang/Exception"]
/-- a static of Throwable: where it lies, that it holds a reference or null, that nobody here writes it -/
def yS (n d : String) (A : Nat → Prop) (U : State) (H : Heap) : Prop := ∃ (c : ClassId) (k : Class) (i : Nat) (f : Field) (a : Nat) (cell : Cell) (v : Value), U.vm.findClass Bundle.tN = some c ∧ U.fieldFound? Bundle.tN n d = some (c, k, i, f) ∧ f.isStatic = true ∧ k.statics = some a ∧ H[a]? = some cell ∧ cell.vm.isStatics = true ∧ cell.cls = c ∧ f.slot < cell.slots.size ∧ k.staticTypes[f.slot]? = some f.type ∧ cell.slots[f.slot]? = some v ∧ (v = .null ∨ ∃ r, v = .ref r) ∧ ¬ A a
theorem yS.moved {n d : String} {A : Nat → Prop} {u U : State} {H : Heap} (hvm : u.vm.Alike U.vm) (h : yS n d A u H) : yS n d A U H := by
  obtain ⟨c, k, i, f, a, cell, v, h0, h1, h2, h3, h4, h5, h6, h7, h8, h9⟩ := h
  obtain ⟨k', hi', he⟩ := State.fieldFound?_setVm hvm h1
  exact ⟨c, k', i, f, a, cell, v, by rw [hvm.findClass]; exact h0, hi', h2, by rw [he]; exact h3, h4, h5, h6, h7, by rw [he]; exact h8, h9⟩
theorem yS.kept {n d : String} {A : Nat → Prop} {U : State} {H H1 : Heap} (h : yS n d A U H) (hq : ∀ a : Nat, a < H.size → ¬ A a → H1[a]? = H[a]?) : yS n d A U H1 := by
  obtain ⟨c, k, i, f, a, cell, v, h0, h1, h2, h3, h4, h5, h6, h7, h8, h9, h10, h11⟩ := h
  exact ⟨c, k, i, f, a, cell, v, h0, h1, h2, h3, by rw [hq a (Array.getElem?_eq_some_iff.mp h4).1 h11]; exact h4, h5, h6, h7, h8, h9, h10, h11⟩
theorem yS.narrow {n d : String} {A B : Nat → Prop} {U : State} {H : Heap} (h : yS n d A U H) (hAB : ∀ q, B q → A q) : yS n d B U H := by
  obtain ⟨c, k, i, f, a, cell, v, h0, h1, h2, h3, h4, h5, h6, h7, h8, h9, h10, h11⟩ := h
  exact ⟨c, k, i, f, a, cell, v, h0, h1, h2, h3, h4, h5, h6, h7, h8, h9, h10, fun z => h11 (hAB a z)⟩
theorem yS.lays {n d : String} {A : Nat → Prop} {s : State} {args : Array Value} (h : yS n d A s s.heap) : (Cond.laysStatic Bundle.tN n d).before args s = true := by
  obtain ⟨c, k, i, f, a, cell, v, h0, h1, h2, h3, h4, h5, h6, h7, h8, h9, h10, h11⟩ := h
  exact Cond.laysStatic_of h0 h1 h2 h3 h4 h5 h6 h7 h8
theorem yS.ref {n d : String} {A : Nat → Prop} {s : State} {args : Array Value} (h : yS n d A s s.heap) : (Cond.isRef (.static Bundle.tN n d)).before args s = true := by
  obtain ⟨c, k, i, f, a, cell, v, h0, h1, h2, h3, h4, h5, h6, h7, h8, h9, h10, h11⟩ := h
  have he : (Term.static Bundle.tN n d).eval args s none [] s = some v := by
    simp [Term.eval, State.fieldNamed?, h1, h2, h3, h4, h5, h9]
  rcases h10 with rfl | ⟨r, rfl⟩ <;> simp [Cond.before, Cond.holds, Cond.value, he]
def yE (A : Nat → Prop) (U : State) (H : Heap) : Prop := yS "UNASSIGNED_STACK" Bundle.steD A U H ∧ yS "SUPPRESSED_SENTINEL" Bundle.listD A U H
theorem yE.moved {A : Nat → Prop} {u U : State} {H : Heap} (hvm : u.vm.Alike U.vm) (h : yE A u H) : yE A U H := ⟨h.1.moved hvm, h.2.moved hvm⟩
theorem yE.kept {A : Nat → Prop} {U : State} {H H1 : Heap} (h : yE A U H) (hq : ∀ a : Nat, a < H.size → ¬ A a → H1[a]? = H[a]?) : yE A U H1 := ⟨h.1.kept hq, h.2.kept hq⟩
theorem yE.narrow {A B : Nat → Prop} {U : State} {H : Heap} (h : yE A U H) (hAB : ∀ q, B q → A q) : yE B U H := ⟨h.1.narrow hAB, h.2.narrow hAB⟩
def yFour : List Cond := [.laysStatic Bundle.tN "UNASSIGNED_STACK" Bundle.steD, .laysStatic Bundle.tN "SUPPRESSED_SENTINEL" Bundle.listD, .isRef (.static Bundle.tN "UNASSIGNED_STACK" Bundle.steD), .isRef (.static Bundle.tN "SUPPRESSED_SENTINEL" Bundle.listD)]
theorem yE.four {A : Nat → Prop} {s : State} {args : Array Value} (h : yE A s s.heap) : ∀ w ∈ yFour, w.before args s = true := by
  intro w hw
  simp only [yFour, List.mem_cons, List.not_mem_nil, or_false] at hw
  rcases hw with rfl | rfl | rfl | rfl
  · exact h.1.lays
  · exact h.2.lays
  · exact h.1.ref
  · exact h.2.ref
section YT
variable {p : Program} {l : Launch} {e : Env} {R : Room} {s : State} {m : MethodId} {args : Array Value} {below : List Frame} {meth : Method} {c : Code} {H : Heap} {locs : List Loc} {cells slots : Nat} {Q : State → Prop}
/-- the same frame, seen from where it stands: the state at its start with this heap -/
theorem y_from {T : State} (X : Stand p l e R s m args below meth c T locs cells slots) {R' : Room} (hf : R'.frames ≤ R.frames) (hl : R'.locals ≤ R.locals) (hc : cells + R'.cells ≤ R.cells) (hs : slots + R'.slots ≤ R.slots) :
    Stand p l e R' ({ s with heap := T.heap, slotsUsed := T.slotsUsed } : State) m args below meth c T [] 0 0 where
  admits := X.admits
  cas := X.cas
  clock := X.clock
  frames := X.frames
  room := by
    have h := X.room
    have q1 := X.heapSize
    have q2 := X.used
    have q3 := X.book
    simp only [State.hasRoom, Bool.and_eq_true, decide_eq_true_eq] at h ⊢
    obtain ⟨⟨⟨⟨h1, h2, h3, h4, h5, h6⟩, h7⟩, h8⟩, -⟩ := h
    refine ⟨⟨⟨⟨?_, ?_, ?_, ?_, ?_, h6⟩, ?_⟩, ?_⟩, q3⟩
    · exact Nat.le_trans (Nat.add_le_add_right (Nat.add_le_add_left hl _) _) h1
    · exact Nat.le_trans (Nat.add_le_add_left hf _) h2
    · exact Nat.le_trans (Nat.add_le_add_left hf _) h3
    · exact Nat.le_trans (Nat.add_le_add_left hl _) h4
    · exact Nat.le_trans (Nat.add_le_add_left hl _) h5
    · show T.heap.size + R'.cells ≤ _
      omega
    · show T.slotsUsed + R'.slots ≤ _
      omega
  hears := X.hears
  method := X.method
  code := X.code
  here := X.here
  tail := X.tail
  warmed := X.warmed
  limits := X.limits
  bytes := X.bytes
  same := by
    refine ⟨X.same.1, Nat.le_refl _, Nat.le_refl _, ?_, ?_, fun a c9 h9 => ⟨c9, h9, rfl, rfl, fun _ _ => rfl⟩⟩
    · show T.slotsUsed = T.slotsUsed + ((T.heap.toList.drop T.heap.size).map (·.slots.size)).sum
      rw [List.drop_eq_nil_of_le (Nat.le_of_eq Array.length_toList)]
      rfl
    · show ((T.heap.toList.drop T.heap.size).map (·.slots.size)).sum ≤ 0
      rw [List.drop_eq_nil_of_le (Nat.le_of_eq Array.length_toList)]
      exact Nat.le_refl _
theorem y_throw {cc : ByteArray} {pc ik ic : Nat} {ls : Array Slot} {E own : String} {A : Nat → Prop} (hexec : p.tables.exec = Jvm.exec) (hb : c.code = cc) (htr : l.stackTraces = false) (hown : s.vm.findClass own = some m.cls) (hfit : Bundle.fit E = true)
    (hw : ∀ w ∈ Cond.classLink own ik E :: Cond.initialized E :: Bundle.ownAtoms0 own ic E yN, w ∉ yFour → w.onTables = true ∧ w.before args s = true)
    (hE : yE A s s.heap) (hS : va_S A s.heap H locs) (hsize : ls.size = c.maxLocals)
    (d0 : decode cc pc = .ok (.new ik, 3)) (d3 : decode cc (pc + 3) = .ok (.dup, 1)) (d4 : decode cc (pc + 4) = .ok (.invokespecial ic, 3)) (d7 : decode cc (pc + 7) = .ok (.athrow, 1))
    (hout : ∀ x ∈ c.exceptionTable.toList, covers x (pc + 7) = false) (hRf : 5 < R.frames) (hRl : 81 ≤ R.locals) (hc : cells + 1 ≤ R.cells) (hs : slots + 6 ≤ R.slots) (hlocks : meth.locks = false)
    (hq : ∀ (U : State) (q : Nat) (ce : Cell), U.status = .running → Ended U below (.threw q) → U.heap[q]? = some ce → ce.vm = .none → s.vm.findClass E = some ce.cls → s.WarmedH U.vm → s.sameButNew ({ U with vm := s.vm } : State) locs (cells + 1) (slots + 6) → H.size ≤ U.heap.size → (∀ a : Nat, a < H.size → U.heap[a]? = H[a]?) → Q U) :
    W p l e R s m args below meth c H locs cells slots Q (F0 m pc ls []) := by
  intro T hT X
  subst hT
  have X1 := y_from X (R' := { frames := R.frames, cells := 1, slots := 6, locals := R.locals }) (Nat.le_refl _) (Nat.le_refl _) hc hs
  have hE1 : yE A ({ s with heap := T.heap, slotsUsed := T.slotsUsed } : State) T.heap := (hE.kept hS.2.1).moved (Vm.Alike.refl s.vm)
  have h1s : s.sameButNew ({ s with heap := T.heap, slotsUsed := T.slotsUsed } : State) locs cells slots := by
    obtain ⟨t, ht, -⟩ := State.frames_cons X.frames
    refine ⟨?_, X.same.2⟩
    show ({ s with heap := T.heap, slotsUsed := T.slotsUsed } : State) = { s.setFrames s.frames with heap := T.heap, slotsUsed := T.slotsUsed }
    rw [State.setFrames_self ht]
  have cv : ∀ vm : Vm, ({ s with heap := T.heap, slotsUsed := T.slotsUsed } : State).WarmedH vm → s.WarmedH vm := fun _ h => h
  have hvm : ({ s with heap := T.heap, slotsUsed := T.slotsUsed } : State).vm = s.vm := rfl
  have hhp : ({ s with heap := T.heap, slotsUsed := T.slotsUsed } : State).heap = T.heap := rfl
  generalize ({ s with heap := T.heap, slotsUsed := T.slotsUsed } : State) = S1 at X1 hE1 h1s cv hvm hhp
  have tr : ∀ w ∈ Cond.classLink own ik E :: Cond.initialized E :: Bundle.ownAtoms0 own ic E yN, w.before args S1 = true := by
    intro w hm
    by_cases h4 : w ∈ yFour
    · rw [← hhp] at hE1
      exact yE.four hE1 w h4
    · obtain ⟨h1, h2⟩ := hw w hm h4
      exact va_tabs (u := s) h1 hvm.symm h2
  have hin : Cond.instantiable E 6 ∈ Bundle.ownAtoms0 own ic E yN := by simp [Bundle.ownAtoms0]
  have w1 : (Cond.classLink own ik E).before args S1 = true := tr _ (List.mem_cons_self ..)
  have w2 : (Cond.initialized E).before args S1 = true := tr _ (List.mem_cons_of_mem _ (List.mem_cons_self ..))
  have w3 : (Cond.instantiable E 6).before args S1 = true := tr _ (List.mem_cons_of_mem _ (List.mem_cons_of_mem _ hin))
  have w4 : ∀ w ∈ Bundle.ownAtoms0 own ic E yN, w.before args S1 = true := fun w hm => tr w (List.mem_cons_of_mem _ (List.mem_cons_of_mem _ hm))
  have hown1 : S1.vm.findClass own = some m.cls := by rw [hvm]; exact hown
  clear tr hw
  have key : W p l e { frames := R.frames, cells := 1, slots := 6, locals := R.locals } S1 m args below meth c T.heap [] 0 0 Q (F0 m pc ls []) := by
    refine W.newc (own := own) (C := E) (index := ik) (n := 6) hexec hb hown1 w1 w3 w2 rfl d0 (Nat.le_refl _) (Nat.le_refl _) (fun cC kC h1 h2 h3 h4 => ?_)
    refine W.eq (g2 := F0 m (pc + 3) ls [.ref T.heap.size]) rfl ?_
    refine lv_dup hexec hb d3 rfl ?_
    intro T2 hT2 X2
    have hcell : T2.heap[T.heap.size]? = some (freshCell cC kC) := by rw [hT2]; simp [freshCell]
    obtain ⟨U, g1, g2, g3, g4, g5, ce, g6, g7⟩ := X2.ctorThrow0 (own := own) (cls := E) (names := yN) (ic := ic) hexec (by rw [X.admits.platform]; exact htr) hown1 hfit (by decide) w4
      (fun x hx => by cases hx) h1 h2 hcell (by rw [hhp]; exact Nat.le_refl _) (g := F0 m (pc + 3 + 1) ls [.ref T.heap.size, .ref T.heap.size]) rfl hsize rfl rfl rfl (by rw [hb]; exact d4) (by rw [hb]; exact d7) hout hRf hRl hlocks
    refine ⟨U, g1, ?_⟩
    have hge : T.heap.size ≤ U.heap.size := by rw [← hhp]; exact g5.2.1
    refine hq U T.heap.size ce g2 g3 g6 g7.vm (by rw [← hvm]; exact g7.cls) (cv _ g4) ?_ hge ?_
    · have h9 := h1s.trans g5
      rw [List.append_nil] at h9
      rw [hvm] at h9
      exact h9
    · intro a ha
      obtain ⟨cA, hcA⟩ : ∃ cA, T.heap[a]? = some cA := ⟨T.heap[a], by simp [ha]⟩
      obtain ⟨c', k1, k2, k3, k4⟩ := g5.2.2.2.2.2 a cA (by rw [hhp]; exact hcA)
      have k1 : U.heap[a]? = some c' := k1
      have hsl : c'.slots = cA.slots := Array.ext_getElem? (fun i => k4 i (by simp))
      rw [k1, hcA, k2, hsl]
  exact key T rfl X1
end YT
