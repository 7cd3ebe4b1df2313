/-! methods of the law that have a table: contracts in one form -/
def Z_in (D : va_G) (cl : List vw_C) (tys : List (ClassId × FieldType)) (w0 : va_W) (av : List Value) (sz : Nat) : Array Value → State → Prop := fun a U => Y_in D cl tys w0 av sz a U ∧ va_Nc "java/lang/IllegalArgumentException" "java/lang/IndexOutOfBoundsException" U ∧ va_Nc "java/lang/IllegalStateException" "java/lang/IllegalArgumentException" U
def MetH (l : Launch) (y : MethodName) (cc : ByteArray) (maxL : Nat) (hh : List (Nat × Nat × Nat × Nat)) (T : List Cond) (rm : Room) (D : va_G) (cl : List vw_C) (tys : List (ClassId × FieldType)) (w0 w1 : va_W) (av : List Value) (res : Int32) (sz : Nat) : Prop :=
  Met l y (.codeWith y cc maxL (some .int) hh :: T) rm (Z_in D cl tys w0 av sz) (va_Qi (fun r (_ : Unit) => r = res) (X_B D cl tys w0 w1 sz) (va_A w0 sz)) 1 6 (va_A w0 sz)
def yTab (hh : List (Nat × Nat × Nat × Nat)) : List ExceptionTableEntry := hh.map (fun q => { startPc := q.1, endPc := q.2.1, handlerPc := q.2.2.1, catchType := q.2.2.2 })
theorem yTab_of {l : List ExceptionTableEntry} {hh : List (Nat × Nat × Nat × Nat)} (h : l.map (fun h => (h.startPc, h.endPc, h.handlerPc, h.catchType)) = hh) : l = yTab hh := by
  rw [← h, yTab, List.map_map]
  induction l generalizing hh with
  | nil => rfl
  | cons a l ih => rw [List.map_cons, ← ih rfl]; rfl
theorem x_ofH {l : Launch} {y : MethodName} {cc : ByteArray} {maxL : Nat} {hh : List (Nat × Nat × Nat × Nat)} {T : List Cond} {rm : Room} {D : va_G} {cl : List vw_C} {tys : List (ClassId × FieldType)} {w0 w1 : va_W} {av : List Value} {res : Int32}
    (hy : plainName y.cls = true) (hlen : (lg_sl av).length ≤ maxL) (hrc : rm.cells = 1) (hrs : rm.slots = 6)
    (body : ∀ (p : Program) (e : Env) (s : State) (m : MethodId) (args : Array Value) (below : List Frame) (meth : Method) (c : Code) (A : Nat → Prop) (Q : State → Prop) (ls : Array Slot),
      p.tables.exec = Jvm.exec → c.code = cc → c.maxLocals = maxL → s.vm.findClass y.cls = some m.cls → (∀ w ∈ T, w.before args s = true) → (∀ q, s.heap.size ≤ q → A q) → xG A s s.heap → va_K D cl tys s → va_P D cl w0 s.heap → va_D A w0 → va_S A s.heap s.heap [] → lv_has ls maxL (lv_args 0 av) →
      yE A s s.heap → va_Nc "java/lang/IllegalArgumentException" "java/lang/IndexOutOfBoundsException" s → va_Nc "java/lang/IllegalStateException" "java/lang/IllegalArgumentException" s → c.exceptionTable.toList = yTab hh →
      (∀ (H : Heap) (locs : List Loc) (cells slots pc : Nat) (ls' : Array Slot), cells ≤ 1 → slots ≤ 6 → decode cc pc = .ok (.ireturn, 1) → va_P D cl w1 H → va_D A w1 → va_S A s.heap H locs → W p l e rm s m args below meth c H locs cells slots Q (F0 m pc ls' [.int res])) →
      W p l e rm s m args below meth c s.heap [] 0 0 Q (F0 m 0 ls [])) (sz : Nat) : MetH l y cc maxL hh T rm D cl tys w0 w1 av res sz := by
  refine va_MetW (cc := cc) (maxL := maxL) (ret := some .int) (hh := hh) hy rfl ?_
  intro p e s m args below meth c s₁ B hml hv
  obtain ⟨⟨⟨rfl, hsz, hP, hK, hD0, hG⟩, hE⟩, hN1, hN2⟩ := hv
  subst hsz
  have hD := hD0.self (sz := s.heap.size)
  have hl := lv_entry av (n := maxL) hlen
  have htab : c.exceptionTable.toList = yTab hh := by
    obtain ⟨m9, meth9, c9, hn9, h1, h2, -, -, h6, -⟩ := Cond.codeWith_spec (atoms_spec (ws := .codeWith y cc maxL (some .int) hh :: T) B.pre _ List.mem_cons_self)
    cases Option.some.inj (hn9.symm.trans B.named)
    cases Option.some.inj (h1.symm.trans B.method)
    cases Option.some.inj (h2.symm.trans (Stand.of_body B).code)
    exact yTab_of h6
  rw [lg_entry_eq]
  refine body p e s m _ below meth c (va_A w0 s.heap.size) _ _ B.exec B.bytes hml (findClass_of_methodNamed B.named) (fun w hw => atoms_spec B.pre w (List.mem_cons_of_mem _ hw)) (fun q h => Or.inr h) hG hK hP hD va_S.rf hl hE hN1 hN2 htab ?_
  intro H locs cells slots pc ls' hc hs hd hP1 hD1 hS1
  refine W.widen (k := 1) (n := 6) hc hs ?_
  exact W.iret B.exec B.bytes B.returns (fun t ht hW => ⟨⟨res, (), rfl, rfl, by rw [ht]; exact hP1, va_K.moved hW.alike hK, hD1⟩, hS1.F ht⟩) hS1.2.2 hd B.notSynchronized
set_option maxRecDepth 20000 in
theorem tt299 : Cond.codeWith ⟨"LayeredBitsLaw", "clear", "(LLayeredBits;II)I"⟩ method_3_code 4 (some FieldType.int) [(0, 6, 9, 13)] ∈ TT := TT_in 299 rfl rfl
set_option maxRecDepth 20000 in
theorem nn307 : Cond.castable "java/lang/IllegalArgumentException" "java/lang/IllegalArgumentException" ∈ NW := NW_in 307 rfl rfl
set_option maxRecDepth 20000 in
theorem tt371 : Cond.codeWith ⟨"LayeredBitsLaw", "set", "(LLayeredBits;III[J)I"⟩ method_4_code 6 (some FieldType.int) [(0, 12, 15, 19), (0, 12, 19, 13)] ∈ TT := TT_in 371 rfl rfl
set_option maxRecDepth 20000 in
theorem nn380 : Cond.castable "java/lang/IndexOutOfBoundsException" "java/lang/IndexOutOfBoundsException" ∈ NW := NW_in 380 rfl rfl
set_option maxRecDepth 20000 in
theorem tt396 : Cond.codeWith ⟨"LayeredBitsLaw", "row", "(LLayeredBits;II)I"⟩ method_5_code 4 (some FieldType.int) [(0, 6, 9, 19)] ∈ TT := TT_in 396 rfl rfl
set_option maxRecDepth 20000 in
theorem tt403 : Cond.codeWith ⟨"LayeredBitsLaw", "write", "(LLayeredBits;I[J)I"⟩ method_6_code 4 (some FieldType.int) [(0, 9, 12, 13)] ∈ TT := TT_in 403 rfl rfl
set_option maxRecDepth 20000 in
theorem tt524 : Cond.codeWith ⟨"LayeredBitsLaw", "read", "(LLayeredBits;I[J)I"⟩ method_7_code 4 (some FieldType.int) [(0, 9, 12, 13), (0, 9, 15, 31)] ∈ TT := TT_in 524 rfl rfl
set_option maxRecDepth 20000 in
theorem nn565 : Cond.castable "java/lang/IllegalStateException" "java/lang/IllegalStateException" ∈ NW := NW_in 565 rfl rfl
set_option maxRecDepth 20000 in
theorem tt592 : Cond.codeWith ⟨"LayeredBitsLaw", "told", "(LLayeredBits;I[J)I"⟩ method_8_code 4 (some FieldType.int) [(0, 9, 12, 13), (0, 9, 15, 31)] ∈ TT := TT_in 592 rfl rfl
set_option maxRecDepth 20000 in
theorem tt599 : Cond.codeWith ⟨"LayeredBitsLaw", "byteAt", "(LLayeredBits;I[J)I"⟩ method_9_code 4 (some FieldType.int) [(0, 9, 12, 19)] ∈ TT := TT_in 599 rfl rfl
set_option maxRecDepth 20000 in
theorem tt608 : Cond.codeWith ⟨"LayeredBitsLaw", "poke", "(LLayeredBits;II)I"⟩ method_10_code 4 (some FieldType.int) [(0, 6, 9, 19), (0, 6, 12, 13)] ∈ TT := TT_in 608 rfl rfl
set_option maxRecDepth 20000 in
theorem tt619 : Cond.codeWith ⟨"LayeredBitsLaw", "type", "(LLayeredBits;JI[J)I"⟩ method_11_code 6 (some FieldType.int) [(0, 11, 14, 13), (0, 11, 18, 31)] ∈ TT := TT_in 619 rfl rfl
set_option maxRecDepth 20000 in
theorem tt626 : Cond.codeWith ⟨"LayeredBitsLaw", "cut", "(LLayeredBits;I)I"⟩ method_12_code 3 (some FieldType.int) [(0, 5, 8, 13)] ∈ TT := TT_in 626 rfl rfl
