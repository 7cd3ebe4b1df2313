/-! what a method that throws owes; its caller, by whose table the exception is caught; calls of methods that have a table -/
def yQ (D : va_G) (cl : List vw_C) (w0 w1 : va_W) (sz : Nat) (E : String) : Array Value → State → Outcome → State → Prop := fun _ st o t => ∃ (q : Nat) (ce : Cell) (L : List Loc), o = .threw q ∧ t.heap[q]? = some ce ∧ ce.vm = .none ∧ st.vm.findClass E = some ce.cls ∧ st.WarmedH t.vm ∧ st.sameButNew ({ t with vm := st.vm } : State) L 1 6 ∧ (∀ z ∈ L, va_A w0 sz z.base) ∧ va_P D cl w1 t.heap ∧ va_D (va_A w0 sz) w1 ∧ va_F (va_A w0 sz) st t
def Y_in (D : va_G) (cl : List vw_C) (tys : List (ClassId × FieldType)) (w0 : va_W) (av : List Value) (sz : Nat) : Array Value → State → Prop := fun a U => X_in D cl tys w0 av sz a U ∧ yE (va_A w0 sz) U U.heap
def MetT (l : Launch) (y : MethodName) (cc : ByteArray) (maxL : Nat) (rt : Option FieldType) (T : List Cond) (rm : Room) (D : va_G) (cl : List vw_C) (tys : List (ClassId × FieldType)) (w0 w1 : va_W) (av : List Value) (E : String) (sz : Nat) : Prop :=
  MetFree l y (headSpec (.code y cc maxL rt :: T) rm) (Y_in D cl tys w0 av sz) (fun _ _ _ _ _ => True) (yQ D cl w0 w1 sz E)
theorem y_words {s : State} {args : Array Value} {L : List Cond} (h : ∀ w ∈ L, w ∉ yFour → w.onTables = true ∧ (w ∈ TT ∨ w ∈ NW)) (hts : ∀ w ∈ TT, w.before args s = true) (hN : xN s) : ∀ w ∈ L, w ∉ yFour → w.onTables = true ∧ w.before args s = true := by
  intro w hw h4
  obtain ⟨h1, h2 | h2⟩ := h w hw h4
  · exact ⟨h1, hts w h2⟩
  · exact ⟨h1, va_Nw.use h1 (hN w h2)⟩
theorem x_ofT {l : Launch} {y : MethodName} {cc : ByteArray} {maxL : Nat} {rt : Option FieldType} {T : List Cond} {rm : Room} {D : va_G} {cl : List vw_C} {tys : List (ClassId × FieldType)} {w0 w1 : va_W} {av : List Value} {E : String}
    (hy : plainName y.cls = true) (hlen : (lg_sl av).length ≤ maxL) (htr : l.stackTraces = false) (hfit : Bundle.fit E = true) (hrf : 5 < rm.frames) (hrl : 81 ≤ rm.locals) (hrc : rm.cells = 1) (hrs : rm.slots = 6)
    (body : ∀ (p : Program) (e : Env) (s : State) (m : MethodId) (args : Array Value) (below : List Frame) (meth : Method) (c : Code) (A : Nat → Prop) (Q : State → Prop) (ls : Array Slot),
      p.tables.exec = Jvm.exec → c.code = cc → c.maxLocals = maxL → s.vm.findClass y.cls = some m.cls → (∀ w ∈ T, w.before args s = true) → (∀ q, s.heap.size ≤ q → A q) → xG A s s.heap → va_K D cl tys s → va_P D cl w0 s.heap → va_D A w0 → va_S A s.heap s.heap [] → lv_has ls maxL (lv_args 0 av) →
      (∀ (H : Heap) (locs : List Loc) (pc : Nat) (ls' : Array Slot) (ik ic : Nat), decode cc pc = .ok (.new ik, 3) → decode cc (pc + 3) = .ok (.dup, 1) → decode cc (pc + 4) = .ok (.invokespecial ic, 3) → decode cc (pc + 7) = .ok (.athrow, 1) →
        (∀ w ∈ Cond.classLink y.cls ik E :: Cond.initialized E :: Bundle.ownAtoms0 y.cls ic E yN, w ∉ yFour → w.onTables = true ∧ w.before args s = true) → ls'.size = maxL → va_P D cl w1 H → va_D A w1 → va_S A s.heap H locs → W p l e rm s m args below meth c H locs 0 0 Q (F0 m pc ls' [])) →
      W p l e rm s m args below meth c s.heap [] 0 0 Q (F0 m 0 ls [])) (sz : Nat) : MetT l y cc maxL rt T rm D cl tys w0 w1 av E sz := by
  refine MetFree.of_bodyS (code := cc) (maxLocals := maxL) (ret := rt) hy ?_ ?_
  · intro args s m h hn
    obtain ⟨meth, c, h1, h2, h3, h4, h5, h6, -, -⟩ := Cond.code_spec hn (atoms_spec (ws := .code y cc maxL rt :: T) h _ List.mem_cons_self)
    exact ⟨meth, c, h1, h2, h3, h4, h5, h6⟩
  · intro p e s m args below meth c s₁ B hml hv _
    have hh0 : s₁.heap = s.heap := by rw [B.state]; rfl
    obtain ⟨⟨rfl, hsz, hP, hK, hD0, hG⟩, hE⟩ := hv
    subst hsz
    have hD := hD0.self (sz := s.heap.size)
    have hl := lv_entry av (n := maxL) hlen
    have hne : c.exceptionTable.isEmpty = true := B.noHandlers (atoms_spec (ws := .code y cc maxL rt :: T) B.pre _ List.mem_cons_self)
    have key : W p l e rm s m av.toArray below meth c s.heap [] 0 0 (fun t => ∃ o, t.status = .running ∧ Ended t below o ∧ yQ D cl w0 w1 s.heap.size E av.toArray s o t) (entryFrame m av.toArray maxL) := by
      rw [lg_entry_eq]
      refine body p e s m _ below meth c (va_A w0 s.heap.size) _ _ B.exec B.bytes hml (findClass_of_methodNamed B.named) (fun w hw => atoms_spec B.pre w (List.mem_cons_of_mem _ hw)) (fun q h => Or.inr h) hG hK hP hD va_S.rf hl ?_
      intro H locs pc ls' ik ic d0 d3 d4 d7 hw hsize hP1 hD1 hS1
      refine y_throw B.exec B.bytes htr (findClass_of_methodNamed B.named) hfit hw hE hS1 (hsize.trans hml.symm) d0 d3 d4 d7 (fun x hx => ?_) hrf hrl (by omega) (by omega) B.notSynchronized (fun U q ce g1 g2 g3 g4 g5 g6 g7 g8 g9 => ?_)
      · rw [Array.isEmpty_iff.mp hne] at hx
        cases hx
      · refine ⟨_, g1, g2, q, ce, locs, rfl, g3, g4, g5, g6, g7, hS1.2.2, ?_, hD1, ?_⟩
        · exact hP1.kept (fun k x hk => g9 x.1 (hP1 k x hk).lt)
        · exact ⟨Nat.le_trans hS1.1 g8, fun a h1 h2 => (g9 a (Nat.lt_of_lt_of_le h1 hS1.1)).trans (hS1.2.1 a h1 h2)⟩
    obtain ⟨t, a1, o, b1, b2, b3⟩ := key s₁ hh0 (Stand.of_body B)
    exact ⟨t, o, a1, b1, b2, b3⟩
/-- the search through a table whose row names a class that may not have been resolved yet -/
theorem y_go {Q : Handler → Pre} {E : CtlPost} {e : Env} {d : Bool} {acts : List Action} {S : State} {f : JFrame} {a : Addr} {x : ExceptionTableEntry} {t : List ExceptionTableEntry} {c : ClassId} {cell : Cell} (hx : covers x f.pc = true) (h0 : x.catchType ≠ 0)
    (hl : S.vm.ClassLinks e.platform f.method.cls x.catchType c) (hcell : S.heap[a]? = some cell) (hobj : ∀ k, cell.vm ≠ .statics k) (hk : ∃ k, S.vm.classes[cell.cls]? = some k) (hc : ∃ k, S.vm.classes[c]? = some k) :
    wp (findHandler.go f a (x :: t)) Q E e d acts S ↔ if S.vm.assignable cell.cls c = true then Q (.found x.handlerPc) d acts (S.setVm (S.vm.noted f.method.cls x.catchType (.cls c))) else wp (findHandler.go f a t) Q E e d acts (S.setVm (S.vm.noted f.method.cls x.catchType (.cls c))) := by
  have hx' := hx
  simp only [covers] at hx'
  obtain ⟨ha, ht⟩ := (resolveClass_links e.toSetting hl).op (op := VmOp.resolveClass f.method.cls x.catchType) rfl
  have hal : S.vm.Alike (S.vm.noted f.method.cls x.catchType (.cls c)) := (Vm.Alike.refl S.vm).noted _ _ _
  obtain ⟨k1, hk1⟩ := hk
  obtain ⟨k2, hk2⟩ := hc
  obtain ⟨k1', hk1', -⟩ := hal.2.2 _ _ hk1
  obtain ⟨k2', hk2', -⟩ := hal.2.2 _ _ hk2
  cases hf : S.vm.assignable cell.cls c with
  | true =>
    have hf' : (S.vm.noted f.method.cls x.catchType (.cls c)).assignable cell.cls c = true := by rw [hal.assignable]; exact hf
    simp [findHandler.go, hx', h0, ha, ht, hcell, hobj, hk1', hk2', hf', VmOp.dirties, VmOp.acts]
  | false =>
    have hf' : (S.vm.noted f.method.cls x.catchType (.cls c)).assignable cell.cls c = false := by rw [hal.assignable]; exact hf
    simp [findHandler.go, hx', h0, ha, ht, hcell, hobj, hk1', hk2', hf', VmOp.dirties, VmOp.acts]
def yFind (e : Env) (S : State) (f : JFrame) (a : Addr) (pc : Nat) (vm' : Vm) : Prop := ∀ (Q : Handler → Pre) (E : CtlPost) (d : Bool) (acts : List Action), wp (findHandler f a) Q E e d acts S ↔ Q (.found pc) d acts (S.setVm vm')
/-- a row of the table that the exception passes: it names another class -/
def yPass (args : Array Value) (s : State) (own E : String) (pc : Nat) (z : ExceptionTableEntry) : Prop := covers z pc = true ∧ z.catchType ≠ 0 ∧ ∃ nm : String, (Cond.classLink own z.catchType nm).before args s = true ∧ va_Nc E nm s
section YC
variable {p : Program} {l : Launch} {e : Env} {R : Room} {s : State} {m : MethodId} {args : Array Value} {below : List Frame} {meth : Method} {c : Code} {H : Heap} {locs : List Loc} {cells slots : Nat} {Q : State → Prop}
theorem y_find {T : State} (X : Stand p l e R s m args below meth c T locs cells slots) {own E nm : String} (hown : s.vm.findClass own = some m.cls) {g : JFrame} (hg : g.method = m) {q : Addr} {ce : Cell} (hcell : T.heap[q]? = some ce) (hcv : ce.vm = .none) (hcl : s.vm.findClass E = some ce.cls)
    (pre : List ExceptionTableEntry) (x : ExceptionTableEntry) (suf : List ExceptionTableEntry) (hsplit : c.exceptionTable.toList = pre ++ x :: suf) (hpass : ∀ z ∈ pre, yPass args s own E g.pc z) (hx : covers x g.pc = true) (h0 : x.catchType ≠ 0)
    (hlink : (Cond.classLink own x.catchType nm).before args s = true) (hcast : (Cond.castable E nm).before args s = true) :
    ∃ vm', s.WarmedH vm' ∧ yFind e ((T.setTop g).pushFrame (.throwing q)) g q x.handlerPc vm' := by
  have hpl : e.platform.magicAccessors = ({} : Platform).magicAccessors := by rw [X.admits.platform]
  obtain ⟨c3, c4, hc3, hc4, hasg⟩ := Cond.castable_spec hcast
  cases Option.some.inj (hc3.symm.trans hcl)
  obtain ⟨c5, hc5, hcl5⟩ := Cond.classLink_spec hown hlink e.platform hpl
  cases Option.some.inj (hc4.symm.trans hc5)
  obtain ⟨k9, hk9, -⟩ := Vm.findClass_spec hcl
  have hobj : ∀ k, ce.vm ≠ .statics k := fun k h => by rw [hcv] at h; cases h
  have go : ∀ (ps : List ExceptionTableEntry) (S : State), (∀ z ∈ ps, yPass args s own E g.pc z) → s.WarmedH S.vm → S.heap[q]? = some ce → ∃ vm', s.WarmedH vm' ∧ ∀ (Q : Handler → Pre) (E : CtlPost) (d : Bool) (acts : List Action), wp (findHandler.go g q (ps ++ x :: suf)) Q E e d acts S ↔ Q (.found x.handlerPc) d acts (S.setVm vm') := by
    intro ps
    induction ps with
    | nil =>
      intro S _ hW hS
      have hl5 := hcl5
      obtain ⟨dk, _, _, kt, hd, _, _, _, _, hkt, _, hopen⟩ := hl5.here
      obtain ⟨k0', hk0', -⟩ := hW.alike.2.2 _ _ hk9
      obtain ⟨kt', hkt', -⟩ := hW.alike.2.2 _ _ hkt
      refine ⟨_, hW.noted hd hopen (State.rightAt_cls hcl5), fun Q E d acts => ?_⟩
      rw [List.nil_append, y_go hx h0 (c := c4) (by rw [hg]; exact hW.classLinks hcl5) hS hobj ⟨k0', hk0'⟩ ⟨kt', hkt'⟩, if_pos (by rw [hW.alike.assignable]; exact hasg), hg]
    | cons z zs ih =>
      intro S hp hW hS
      obtain ⟨hz1, hz0, nm1, hl1, a8, b8, h1, h2, h3⟩ := hp z (List.mem_cons_self ..)
      obtain ⟨c6, hc6, hcl6⟩ := Cond.classLink_spec hown hl1 e.platform hpl
      cases Option.some.inj (h1.symm.trans hcl)
      cases Option.some.inj (h2.symm.trans hc6)
      have hl6 := hcl6
      obtain ⟨dk, _, _, kt, hd, _, _, _, _, hkt, _, hopen⟩ := hl6.here
      obtain ⟨k0', hk0', -⟩ := hW.alike.2.2 _ _ hk9
      obtain ⟨kt', hkt', -⟩ := hW.alike.2.2 _ _ hkt
      obtain ⟨vm', hW', hq'⟩ := ih (S.setVm (S.vm.noted m.cls z.catchType (.cls b8))) (fun y hy => hp y (List.mem_cons_of_mem _ hy)) (hW.noted hd hopen (State.rightAt_cls hcl6)) hS
      refine ⟨vm', hW', fun Q E d acts => ?_⟩
      rw [List.cons_append, y_go hz1 hz0 (c := b8) (by rw [hg]; exact hW.classLinks hcl6) hS hobj ⟨k0', hk0'⟩ ⟨kt', hkt'⟩, if_neg (by rw [hW.alike.assignable, h3]; decide), hg]
      exact hq' Q E d acts
  obtain ⟨vm', hW', hq'⟩ := go pre ((T.setTop g).pushFrame (.throwing q)) hpass (by rw [Stand.throwing_vm]; exact X.warmed) (by rw [Stand.throwing_heap]; exact hcell)
  refine ⟨vm', hW', fun Q E d acts => ?_⟩
  rw [_root_.Jvm.W.findHandler_eq (meth := meth) (code := c) (by rw [Stand.throwing_vm, hg]; exact X.method') X.code, hsplit]
  exact hq' Q E d acts
theorem y_caught {T : State} (X : Stand p l e R s m args below meth c T locs cells slots) {g : JFrame} (hg : g.method = m) {q : Addr} {pc : Nat} {vm' : Vm} (hfind : yFind e ((T.setTop g).pushFrame (.throwing q)) g q pc vm') {target : State} (hrest : Steps p.tables e below ((T.setVm vm').setTop { g with pc := pc, stack := [.ref q] }) target) :
    Steps p.tables e below ((T.setTop g).pushFrame (.throwing q)) target := by
  have h : At T g.method c below := by rw [hg]; exact X.here
  obtain ⟨hgo, hw⟩ := h.throwing q
  have hstep : (stepThrowing e ((T.setTop g).pushFrame (.throwing q)) q (.java g :: T.frames.tail)).Is ((((T.setTop g).pushFrame (.throwing q)).setVm vm').setFrames (.java { g with pc := pc, stack := [.ref q] } :: T.frames.tail)) [] := by
    simp only [stepThrowing, searchFrame, vmDo]
    generalize hr : Sem.go _ e false [] ((T.setTop g).pushFrame (.throwing q)) = res
    obtain ⟨as, rfl, ha⟩ := Sem.eq_ok_of hr (a := Handler.found pc) (s' := ((T.setTop g).pushFrame (.throwing q)).setVm vm') (acts' := []) (by simp [hfind _ _ _ _])
    exact ⟨rfl, ha⟩
  refine Steps.head hgo hw ?_
  rw [stepThread_throwing (frames_entered h.top _), hstep.1]
  obtain ⟨g₀, hg0⟩ := Option.isSome_iff_exists.mp h.top
  obtain ⟨r, hr⟩ := State.topJava?_eq_some.mp hg0
  have hr' : (T.setVm vm').frames = .java g₀ :: r := hr
  rw [State.setTop_of_frames _ hr'] at hrest
  have e1 : ((T.setTop g).pushFrame (.throwing q)).setVm vm' = (T.setVm vm').setFrames (.throwing q :: .java g :: r) := by
    rw [State.pushFrame, State.setTop_of_frames _ hr, State.setFrames_setFrames, State.frames_setFrames _ (State.cur_lt_of_frames hr)]
    rfl
  rw [e1, State.setFrames_setFrames, hr]
  exact hrest
end YC
section YK
variable {p : Program} {l : Launch} {e : Env} {R : Room} {s : State} {m : MethodId} {args : Array Value} {below : List Frame} {meth : Method} {c : Code} {H : Heap} {locs : List Loc} {cells slots : Nat} {Q : State → Prop}
variable {pc : Nat} {ls : Array Slot} {rest st0 : List Value} {A : Nat → Prop} {D : va_G} {cl : List vw_C} {tys tysC : List (ClassId × FieldType)} {ws wc wr w1 ws' : va_W} {T : List Cond}
/-- invokevirtual of a method that throws E; a row of this method's table catches it -/
theorem y_callT {cc bytes : ByteArray} {nL maxL n index b q0 ci : Nat} {rt : Option FieldType} {rm : Room} {y : MethodName} {own E nm : String} {As : List Value} {qc : vw_C} {fs : List Value}
    (hx : p.tables.exec = Jvm.exec) (hb : c.code = cc) (hml : c.maxLocals = nL) (hown : s.vm.findClass own = some m.cls) (hts : ∀ w ∈ T, w.before args s = true) (hTg : T.all goodWord = true)
    (hK : va_K D cl tys s) (hP : va_P D cl ws H) (hD : va_D A ws) (hS : va_S A s.heap H locs) (hA : ∀ q, s.heap.size ≤ q → A q) (hG : xG A s s.heap) (hE : yE A s s.heap)
    (hM : MetT l y bytes maxL rt T rm D cl tysC wc w1 (.ref b :: As) E H.size)
    (hl : Cond.methodLink own index y ∈ T) (hi : Cond.instanceMethod y ∈ T) (hse : Cond.selects y.cls y y ∈ T) (hini : Cond.initialized y.cls ∈ T) (hcd : Cond.code y bytes maxL rt ∈ T)
    (hy : y.cls ≠ "java/lang/invoke/MethodHandle" ∧ y.cls ≠ "java/lang/invoke/VarHandle") (hd : (parseMethodDescriptor y.desc).map (fun d => d.parameters.length) = some n) (hn : As.length = n)
    (hrc : rm.cells = 1) (hrs : rm.slots = 6) (hrf : rm.frames + 1 ≤ R.frames) (hrl : 8 + (maxL + 11) + rm.locals ≤ R.locals) (hcc : cells + 1 ≤ R.cells) (hcs : slots + 6 ≤ R.slots)
    (he : ws[q0]? = some (b, .inr (ci, fs))) (hc : cl[ci]? = some qc) (hqc : qc.1 = y.cls)
    (ist isC isR is : List Nat) (hKt : ist.filterMap (fun i => tys[i]?) = tysC) (hC : isC.map (fun i => ws[i]?) = wc.map some) (hnC : va_nd isC = true) (hR : isR.map (fun i => ws[i]?) = wr.map some) (hnR : va_nd isR = true) (hdis : ∀ i ∈ isR, i ∉ isC) (hn2 : va_nd is = true) (hp : is.map (fun i => (wr ++ w1)[i]?) = ws'.map some)
    (hsz : ls.size = nL) (hst : st0 = As.reverse ++ .ref b :: rest) (hW8 : (rest.map fun v => v.category).sum ≤ 8) (hdg : decode cc pc = .ok (.invokevirtual index, 3))
    (pre : List ExceptionTableEntry) (x : ExceptionTableEntry) (suf : List ExceptionTableEntry) (hsplit : c.exceptionTable.toList = pre ++ x :: suf) (hpass : ∀ z ∈ pre, yPass args s own E pc z) (hcov : covers x pc = true) (h0 : x.catchType ≠ 0)
    (hlink : (Cond.classLink own x.catchType nm).before args s = true) (hcast : (Cond.castable E nm).before args s = true)
    (kk : ∀ (H1 : Heap) (locs1 : List Loc) (q9 : Nat), va_P D cl ws' H1 → va_D A ws' → va_S A s.heap H1 locs1 → W p l e R s m args below meth c H1 locs1 (cells + 1) (slots + 6) Q (F0 m x.handlerPc ls [.ref q9])) :
    W p l e R s m args below meth c H locs cells slots Q (F0 m pc ls st0) := by
  intro T0 hT X
  subst hT
  obtain ⟨mk, methM, hnamed, hmethM, hstM, habM⟩ := Cond.instanceMethod_spec (hts _ hi)
  obtain ⟨methM', cM, hmethM', hcM, -, hlM, -, -, -, hsigM⟩ := Cond.code_spec hnamed (hts _ hcd)
  cases hmethM.symm.trans hmethM'
  obtain ⟨cellB, hcB, hoB, hclB⟩ := va_recv hK hP hc he
  rw [hqc] at hclB
  obtain ⟨c2, r2, m2, q1, q2, q3, q4, kP, hkP, hkPi⟩ := Cond.selects_spec (hts _ hse)
  cases hclB.symm.trans q1
  cases (State.methodFound?_of_named hnamed hy).symm.trans q2
  cases hnamed.symm.trans q3
  have hselP : selectMethod e.platform s.vm cellB.cls mk = .method mk := by rw [Launch.admits_selectMethod X.admits]; exact q4
  have hlen : As.length = methM.sig.parameters.length := by
    rw [hsigM] at hd
    exact hn.trans (Option.some.inj hd).symm
  obtain ⟨vm₁, X₁, hstep⟩ := X.invokevirtual hx hown (hts _ hl) hnamed hmethM hstM hkP hkPi hy (a := b) (cell := cellB) hcB
    (fun z h => by rw [h] at hoB; cases hoB) hselP hmethM habM hkP hkPi (g := F0 m pc ls st0) rfl (argsL := As) (rest := rest) hlen hst (by rw [hb]; exact hdg)
  have hpay := pay_in hts (gT hcd hTg)
  have hF := va_free hD hS hA isC hC
  have hpre : PreS s T0.heap (X_in D cl tysC wc (.ref b :: As) T0.heap.size) (.ref b :: As) := x_pre hK hP hD hS hA hG ist isC hKt hC hnC
  have hEc : yE (va_A wc T0.heap.size) (T0.setVm vm₁) T0.heap := ((hE.kept hS.2.1).narrow hF).moved X₁.warmed.alike
  have hat : At (T0.setVm vm₁) m c below := X₁.here
  have hnm : (T0.setVm vm₁).methodNamed? y = some mk := X₁.named hnamed
  obtain ⟨kY, hkY, -⟩ := className_of_methodNamed hnm
  have hinitY : kY.init = .initialized := Cond.initialized_spec (findClass_of_methodNamed hnm) hkY (hpay _ (List.mem_cons_of_mem _ hini) (Value.ref b :: As).toArray (T0.setVm vm₁) X₁.warmed)
  obtain ⟨methY, cY, hmY, hcY, -, hlY, -, -, -, -⟩ := Cond.code_spec hnm (hpay _ (List.mem_cons_self ..) (Value.ref b :: As).toArray (T0.setVm vm₁) X₁.warmed)
  have happ : (headSpec (.code y bytes maxL rt :: T) rm).appliesLoose y e.platform ((T0.setVm vm₁).calling (F0 m pc ls rest) mk (Value.ref b :: As).toArray) = true :=
    Spec.appliesLoose_calling (g := F0 m pc ls rest) hat (by rw [hb]; exact hdg) hnm hkY hinitY
      (X₁.room_calling (g := F0 m pc ls rest) (R' := rm) (hsz.trans hml.symm) hmY hcY hrf (by rw [hlY]; have : (F0 m pc ls rest).monitorRoom = 0 := rfl; rw [this]; show 2 * 0 + (rest.map fun v => v.category).sum + (maxL + 11) + rm.locals ≤ R.locals; omega) (by rw [hrc]; exact hcc) (by rw [hrs]; exact hcs))
      (atoms_intro fun w hw => hpay w hw _ _ X₁.warmed)
  have hPc : Y_in D cl tysC wc (.ref b :: As) T0.heap.size (Value.ref b :: As).toArray ((T0.setVm vm₁).calling (F0 m pc ls rest) mk (Value.ref b :: As).toArray) :=
    ⟨hpre.1 _ _ _ _ (hpre.2 (T0.setVm vm₁) rfl X₁.warmed), hEc.moved (Vm.Alike.refl _)⟩
  obtain ⟨mid, hmid⟩ := hat.above
  have hfr : ((T0.setVm vm₁).setTop (F0 m pc ls rest)).frames = (.java (F0 m pc ls rest) :: mid) ++ below := by rw [State.frames_setTop' _ hat.top, hmid]; rfl
  obtain ⟨o, s₂, hsteps, -, hend, hq⟩ := Steps.callFree hM p X₁.admits X₁.cas X₁.clock (acts := []) hfr happ hPc trivial
  have hq2 : yQ D cl wc w1 T0.heap.size E (Value.ref b :: As).toArray ((T0.setVm vm₁).calling (F0 m pc ls rest) mk (Value.ref b :: As).toArray) o s₂ := hq
  rw [State.frames_setTop' _ hat.top] at hend
  obtain ⟨q9, ce, L, rfl, hce, hcv, hcl, hW₂, hsm, hL, hP1, hD1, hF1⟩ := hq2
  have hf₂ : s₂.frames = .throwing q9 :: .java (F0 m pc ls rest) :: (T0.setVm vm₁).frames.tail := hend
  have hW' : (T0.setVm vm₁).WarmedH s₂.vm := hW₂
  obtain ⟨g₀, hg0⟩ := Option.isSome_iff_exists.mp hat.top
  obtain ⟨r, hr⟩ := State.topJava?_eq_some.mp hg0
  have hr' : (({ T0.setVm vm₁ with heap := s₂.heap, slotsUsed := s₂.slotsUsed } : State).setVm s₂.vm).frames = .java g₀ :: r := hr
  have e3 : s₂ = ({ ((T0.setVm vm₁).calling (F0 m pc ls rest) mk (Value.ref b :: As).toArray).setFrames s₂.frames with heap := s₂.heap, slotsUsed := s₂.slotsUsed } : State).setVm s₂.vm := by
    have h9 : s₂ = ({ s₂ with vm := ((T0.setVm vm₁).calling (F0 m pc ls rest) mk (Value.ref b :: As).toArray).vm } : State).setVm s₂.vm := rfl
    rw [hsm.1] at h9
    exact h9
  have hs₂ : s₂ = ((({ T0.setVm vm₁ with heap := s₂.heap, slotsUsed := s₂.slotsUsed } : State).setVm s₂.vm).setTop (F0 m pc ls rest)).pushFrame (.throwing q9) := by
    refine e3.trans ?_
    rw [hf₂, State.calling_eq hat.top, State.setFrames_setFrames, State.pushFrame, State.frames_setTop _ hr', State.setTop_of_frames _ hr', State.setFrames_setFrames, hr]
    rfl
  have hsame : (T0.setVm vm₁).sameButNew ({ T0.setVm vm₁ with heap := s₂.heap, slotsUsed := s₂.slotsUsed } : State) L 1 6 := by
    refine ⟨?_, hsm.2⟩
    obtain ⟨t, ht, -⟩ := State.frames_cons hr
    show ({ T0.setVm vm₁ with heap := s₂.heap, slotsUsed := s₂.slotsUsed } : State) = { (T0.setVm vm₁).setFrames (T0.setVm vm₁).frames with heap := s₂.heap, slotsUsed := s₂.slotsUsed }
    rw [State.setFrames_self ht]
  have X2 : Stand p l e R s m args below meth c (({ T0.setVm vm₁ with heap := s₂.heap, slotsUsed := s₂.slotsUsed } : State).setVm s₂.vm) (locs ++ L) (cells + 1) (slots + 6) :=
    ⟨X₁.admits, X₁.cas, X₁.clock, X₁.frames, X₁.room, X₁.hears, X₁.method, X₁.code, (X₁.here.setHeapUsed s₂.heap s₂.slotsUsed).setVm hW'.alike, X₁.tail, State.WarmedH.trans X₁.warmed hW', X₁.limits, X₁.bytes, X₁.same.trans (hsame.setVm s.vm)⟩
  have hcl2 : s.vm.findClass E = some ce.cls := by
    have h9 : (T0.setVm vm₁).vm.findClass E = some ce.cls := hcl
    rw [X₁.warmed.alike.findClass] at h9
    exact h9
  obtain ⟨vm', hW9, hfind⟩ := y_find X2 hown (g := F0 m pc ls rest) rfl (q := q9) (ce := ce) hce hcv hcl2 pre x suf hsplit hpass hcov h0 hlink hcast
  have X3 := X2.noted hW9
  have hk1 : ∀ q : Nat, q < T0.heap.size → ¬ va_A wc T0.heap.size q → s₂.heap[q]? = T0.heap[q]? := hF1.2
  obtain ⟨hP2, hD2⟩ := va_join hP hD isC isR hC hR hnR hdis hk1 hF hP1 hD1
  have hS2 : va_S A s.heap s₂.heap (locs ++ L) := ⟨Nat.le_trans hS.1 hF1.1, fun q h1 h2 => by rw [hk1 q (Nat.lt_of_lt_of_le h1 hS.1) (fun z => h2 (hF q z))]; exact hS.2.1 q h1 h2, fun q hq => by
    rcases List.mem_append.mp hq with h | h
    · exact hS.2.2 q h
    · exact hF _ (hL q h)⟩
  obtain ⟨t, a1, b1⟩ := kk s₂.heap (locs ++ L) q9 (hP2.sub is (fm_of hp)) (hD2.sub is hn2 hp) hS2 ((({ T0.setVm vm₁ with heap := s₂.heap, slotsUsed := s₂.slotsUsed } : State).setVm s₂.vm).setVm vm') rfl X3
  refine ⟨t, hstep t (fun acts => ?_), b1⟩
  rw [doInvoke_state]
  refine hsteps.trans ?_
  rw [hs₂]
  exact y_caught X2 rfl hfind a1
/-- invokestatic of a method that has a table -/
theorem y_runSW {y : MethodName} {bytes cc : ByteArray} {maxL nL mc ms n index : Nat} {ret : Option FieldType} {hh : List (Nat × Nat × Nat × Nat)} {rm : Room} {Pc : Array Value → State → Prop} {Qc : Array Value → State → Outcome → State → Prop} {free : Addr → Prop} {Ts wsM : List Cond} {own : String} {As : List Value} {g : JFrame}
    (S : CallFix p m c cc nL s args Ts own) (hM : Met l y wsM rm Pc Qc mc ms free) (hG : GoodIn Ts wsM) (hcw : Cond.codeWith y bytes maxL ret hh ∈ wsM) (hl : (Cond.methodLink own index y).before args s = true) (hstt : (Cond.static y).before args s = true) (hini : Cond.initialized y.cls ∈ Ts) (hTg : goodWord (Cond.initialized y.cls) = true)
    (hrc : rm.cells = mc) (hrs : rm.slots = ms) (hrf : rm.frames + 1 ≤ R.frames) (hrl : 8 + (maxL + 11) + rm.locals ≤ R.locals) (hy : y.cls ≠ "java/lang/invoke/MethodHandle" ∧ y.cls ≠ "java/lang/invoke/VarHandle") (hd : (parseMethodDescriptor y.desc).map (fun d => d.parameters.length) = some n)
    (hp : PreS s H Pc As) (hg : g.method = m) (hn : As.length = n) (hsize : g.locals.size = nL) (hstack : g.stack = As.reverse ++ rest) (hW : 2 * g.monitorRoom + (rest.map fun v => v.category).sum ≤ 8) (hdg : decode cc g.pc = .ok (.invokestatic index, 3)) (hf : cells + mc ≤ R.cells ∧ slots + ms ≤ R.slots) :
    va_Run p l e R s m args below meth c H locs cells slots mc ms g rest (Qc As.toArray) free := by
  obtain ⟨hx, hb, hml, ho, hts⟩ := S
  have hws := pay_in hts hG
  have hK : Back l R p e below s args y 3 8 (PreOf R mc ms Pc) (PostOf Qc mc ms free) := va_backW (hh := hh) (bytes := bytes) (maxL := maxL) (ret := ret) hM hp.1 hrc hrs hrf hrl hws hcw (fun a' U hW => word_at hW (good_of_word hTg) (hts _ hini))
  obtain ⟨mk, methM, cM, hnamed, hmethM, -, -, -, -, -, -, hsigM⟩ := Cond.codeWith_spec (hts _ (hG _ hcw).1)
  have hstatic : methM.isStatic = true := Cond.static_spec hnamed hmethM hstt
  obtain ⟨kP, hkP, -⟩ := className_of_methodNamed hnamed
  have hinitP : kP.init = .initialized := Cond.initialized_spec (findClass_of_methodNamed hnamed) hkP (hts _ hini)
  have hlen : As.length = methM.sig.parameters.length := by
    rw [hsigM] at hd
    exact hn.trans (Option.some.inj hd).symm
  intro T0 hT X
  obtain ⟨vm₁, X₁, hstep₁⟩ := X.invokestatic hx ho hl hnamed hmethM hstatic hkP hinitP hy (g := g) hg (argsL := As) (rest := rest) hlen hstack (by rw [hb]; exact hdg)
  obtain ⟨v, ⟨U', l2, c2, s2⟩, X', ⟨g', mk', t, L, e1, e2, hq, h1, hL, h2, h3⟩, hsteps⟩ := hK m meth c ⟨T0.setVm vm₁, locs, cells, slots⟩ { g with stack := rest } (.invokestatic index) mk As.toArray X₁ hg (hsize.trans hml.symm) (by rw [hb]; exact hdg) hW (X₁.named hnamed) ⟨hf.1, hf.2, hp.2 (T0.setVm vm₁) hT X₁.warmed⟩
  dsimp only [Pt.U, Pt.locs, Pt.cells, Pt.slots] at X' e1 e2 h1 h2 h3 hsteps
  subst h1; subst h2; subst h3
  exact ⟨v, (T0.setVm vm₁).calling g' mk' As.toArray, t, U', L, hT, X', hL, e1, e2, hq, fun target h => hstep₁ _ fun acts => by rw [doInvoke_state]; exact hsteps.trans h⟩
end YK
