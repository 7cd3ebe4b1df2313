/-! pure programs' guards; contracts in one form ('MetI', 'MetV': the world before, the world behind, the answer); calls over them -/
def vpb (i : Int32) (n : Nat) : Bool := !(decide (i < 0) || decide (n ≤ i.toNatClampNeg))
theorem vpb_in {i : Int32} {n : Nat} (h : vpb i n = true) : vp_in i n := by
  intro hc
  have h1 : (decide (i < 0) || decide (n ≤ i.toNatClampNeg)) = true := by
    rcases hc with h1 | h1
    · rw [decide_eq_true h1, Bool.true_or]
    · rw [decide_eq_true h1, Bool.or_true]
  unfold vpb at h
  rw [h1] at h
  exact absurd h (by decide)
theorem og {α : Type} {c : Prop} [Decidable c] {x : Option α} {y : α} (h : (if c then x else none) = some y) : c ∧ x = some y := by
  by_cases hc : c
  · rw [if_pos hc] at h; exact ⟨hc, h⟩
  · rw [if_neg hc] at h; cases h
theorem ob {α β : Type} {x : Option α} {k : α → Option β} {y : β} (h : x.bind k = some y) : ∃ z, x = some z ∧ k z = some y := by
  cases x with
  | none => cases h
  | some z => exact ⟨z, rfl, h⟩
theorem ot {α : Type} {c : Prop} [Decidable c] {a b : Option α} {y : α} (hc : c) (h : (if c then a else b) = some y) : a = some y := by
  rwa [if_pos hc] at h
theorem of {α : Type} {c : Prop} [Decidable c] {a b : Option α} {y : α} (hc : ¬ c) (h : (if c then a else b) = some y) : b = some y := by
  rwa [if_neg hc] at h
theorem fm_of {α β : Type} {f : α → Option β} {l : List α} {r : List β} (h : l.map f = r.map some) : l.filterMap f = r := by
  induction l generalizing r with
  | nil =>
    cases r with
    | nil => rfl
    | cons a r => cases h
  | cons a l ih =>
    cases r with
    | nil => cases h
    | cons b r =>
      simp only [List.map_cons, List.cons.injEq] at h
      rw [List.filterMap_cons_some h.1, ih h.2]
theorem nar_b {v : Int32} (h : v = 0 ∨ v = 1) : narrow .boolean (.int v) = .int v := by
  rcases h with rfl | rfl <;> rfl
theorem fit_b {v : Int32} (h : v = 0 ∨ v = 1) : fits .boolean (.int v) = true := by
  rcases h with rfl | rfl <;> rfl
/-- the class's table Q -/
def qtab (i : Nat) : Int32 := ([23068, 19000, 15000, 12000, 9600, 7600, 6000, 4800, 3800, 3000, 2400, 1900, 1500, 1200, 950, 750, 600, 480, 380, 300, 240, 190, 150, 120] : List Int32).getD i 0
def qF (i : Nat) : Value := .int (qtab i)
/-- words on nest mates and on declared methods: they hold in every state that comes later -/
def nk : Cond → Bool
  | .fieldLinkNest .. => true
  | .methodLinkNest .. => true
  | .declares _ => true
  | .castable .. => true
  | _ => false
def NW : List Cond := lw_tbl.filter nk
theorem NW_in {w : Cond} (i : Nat) (h : lw_tbl[i]? = some w) (g : nk w = true) : w ∈ NW := List.mem_filter.mpr ⟨List.mem_of_getElem? h, g⟩
def xN (U : State) : Prop := ∀ w ∈ NW, va_Nw w U
theorem xN.warm {s U : State} (hW : s.WarmedH U.vm) (h : xN s) : xN U := by
  intro w hw
  have h1 := h w hw
  have h2 := (List.mem_filter.mp hw).2
  cases w <;> first | exact Bool.noConfusion (show false = true from h2) | exact va_Nw.warmF hW h1 | exact va_Nw.warmM hW h1 | exact va_Nw.warmD hW h1 | exact va_tabs rfl (rfl : (s.setVm U.vm).vm = U.vm) (by rw [Cond.castable_setVm hW.alike]; exact h1)
theorem xN.same {u U : State} (hv : u.vm = U.vm) (h : xN u) : xN U := by
  intro w hw
  have h1 := h w hw
  have h2 := (List.mem_filter.mp hw).2
  cases w <;> first | exact Bool.noConfusion (show false = true from h2) | exact va_Nw.same rfl hv h1
def xG (A : Nat → Prop) (U : State) (H : Heap) : Prop := (∃ tq : Nat, va_Z "LayeredBits" "Q" "[I" (.ref tq) A U H ∧ va_T .int tq 24 qF A U H) ∧ xN U
theorem xG.warm {A : Nat → Prop} {s U : State} {H : Heap} (hW : s.WarmedH U.vm) (h : xG A s H) : xG A U H := by
  obtain ⟨⟨t, h1, h2⟩, h3⟩ := h
  exact ⟨⟨t, h1.moved hW.alike, h2.moved hW.alike⟩, h3.warm hW⟩
theorem xG.same {A : Nat → Prop} {u U : State} {H : Heap} (hv : u.vm = U.vm) (h : xG A u H) : xG A U H := by
  obtain ⟨⟨t, h1, h2⟩, h3⟩ := h
  have ha : u.vm.Alike U.vm := by rw [hv]; exact Vm.Alike.refl _
  exact ⟨⟨t, h1.moved ha, h2.moved ha⟩, h3.same hv⟩
theorem xG.kept {A : Nat → Prop} {U : State} {H H1 : Heap} (h : xG A U H) (hq : ∀ a : Nat, a < H.size → ¬ A a → H1[a]? = H[a]?) : xG A U H1 := by
  obtain ⟨⟨t, h1, h2⟩, h3⟩ := h
  exact ⟨⟨t, h1.kept hq, h2.kept hq⟩, h3⟩
theorem xG.narrow {A B : Nat → Prop} {U : State} {H : Heap} (h : xG A U H) (hAB : ∀ q, B q → A q) : xG B U H := by
  obtain ⟨⟨t, h1, h2⟩, h3⟩ := h
  exact ⟨⟨t, h1.narrow hAB, h2.narrow hAB⟩, h3⟩
def X_in (D : va_G) (cl : List vw_C) (tys : List (ClassId × FieldType)) (w0 : va_W) (av : List Value) (sz : Nat) : Array Value → State → Prop :=
  va_Pc av (fun U => U.heap.size = sz ∧ va_P D cl w0 U.heap ∧ va_K D cl tys U ∧ va_D (fun _ => True) w0 ∧ xG (va_A w0 sz) U U.heap)
def X_B (D : va_G) (cl : List vw_C) (tys : List (ClassId × FieldType)) (w0 w1 : va_W) (sz : Nat) : Unit → State → Prop := fun _ t => va_P D cl w1 t.heap ∧ va_K D cl tys t ∧ va_D (va_A w0 sz) w1
def MetI (l : Launch) (y : MethodName) (cc : ByteArray) (maxL : Nat) (rt : FieldType) (T : List Cond) (rm : Room) (D : va_G) (cl : List vw_C) (tys : List (ClassId × FieldType)) (w0 w1 : va_W) (av : List Value) (res : Int32) (sz : Nat) : Prop :=
  Met l y (.code y cc maxL (some rt) :: T) rm (X_in D cl tys w0 av sz) (va_Qi (fun r (_ : Unit) => r = res) (X_B D cl tys w0 w1 sz) (va_A w0 sz)) 0 0 (va_A w0 sz)
def MetV (l : Launch) (y : MethodName) (cc : ByteArray) (maxL : Nat) (T : List Cond) (rm : Room) (D : va_G) (cl : List vw_C) (tys : List (ClassId × FieldType)) (w0 w1 : va_W) (av : List Value) (sz : Nat) : Prop :=
  Met l y (.code y cc maxL none :: T) rm (X_in D cl tys w0 av sz) (va_Qv (fun _ : Unit => True) (X_B D cl tys w0 w1 sz) (va_A w0 sz)) 0 0 (va_A w0 sz)
theorem x_ofI {l : Launch} {y : MethodName} {cc : ByteArray} {maxL : Nat} {rt : FieldType} {T : List Cond} {rm : Room} {D : va_G} {cl : List vw_C} {tys : List (ClassId × FieldType)} {w0 w1 : va_W} {av : List Value} {res : Int32}
    (hy : plainName y.cls = true) (hlen : (lg_sl av).length ≤ maxL)
    (body : ∀ (p : Program) (e : Env) (s : State) (m : MethodId) (args : Array Value) (below : List Frame) (meth : Method) (c : Code) (A : Nat → Prop) (Q : State → Prop) (ls : Array Slot),
      p.tables.exec = Jvm.exec → c.code = cc → c.maxLocals = maxL → s.vm.findClass y.cls = some m.cls → (∀ w ∈ T, w.before args s = true) → (∀ q, s.heap.size ≤ q → A q) → xG A s s.heap → va_K D cl tys s → va_P D cl w0 s.heap → va_D A w0 → va_S A s.heap s.heap [] → lv_has ls maxL (lv_args 0 av) →
      (∀ (H : Heap) (locs : List Loc) (pc : Nat) (ls' : Array Slot), decode cc pc = .ok (.ireturn, 1) → narrow rt (.int res) = .int res → va_P D cl w1 H → va_D A w1 → va_S A s.heap H locs → W p l e rm s m args below meth c H locs 0 0 Q (F0 m pc ls' [.int res])) →
      W p l e rm s m args below meth c s.heap [] 0 0 Q (F0 m 0 ls [])) (sz : Nat) : MetI l y cc maxL rt T rm D cl tys w0 w1 av res sz := by
  refine Met.ofW (cc := cc) (maxL := maxL) (ret := some rt) hy rfl ?_
  intro p e s m args below meth c s₁ B hml hv
  obtain ⟨rfl, hsz, hP, hK, hD0, hG⟩ := hv
  subst hsz
  have hD := hD0.self (sz := s.heap.size)
  have hl := lv_entry av (n := maxL) hlen
  rw [lg_entry_eq]
  refine body p e s m _ below meth c (va_A w0 s.heap.size) _ _ B.exec B.bytes hml (findClass_of_methodNamed B.named) (fun w hw => atoms_spec B.pre w (List.mem_cons_of_mem _ hw)) (fun q h => Or.inr h) hG hK hP hD va_S.rf hl ?_
  intro H locs pc ls' hd hn hP1 hD1 hS1
  exact W.zret B.exec B.bytes B.returns hn (fun t ht hW => ⟨⟨res, (), rfl, rfl, by rw [ht]; exact hP1, va_K.moved hW.alike hK, hD1⟩, hS1.F ht⟩) hS1.2.2 hd B.notSynchronized
theorem x_ofV {l : Launch} {y : MethodName} {cc : ByteArray} {maxL : Nat} {T : List Cond} {rm : Room} {D : va_G} {cl : List vw_C} {tys : List (ClassId × FieldType)} {w0 w1 : va_W} {av : List Value}
    (hy : plainName y.cls = true) (hlen : (lg_sl av).length ≤ maxL)
    (body : ∀ (p : Program) (e : Env) (s : State) (m : MethodId) (args : Array Value) (below : List Frame) (meth : Method) (c : Code) (A : Nat → Prop) (Q : State → Prop) (ls : Array Slot),
      p.tables.exec = Jvm.exec → c.code = cc → c.maxLocals = maxL → s.vm.findClass y.cls = some m.cls → (∀ w ∈ T, w.before args s = true) → (∀ q, s.heap.size ≤ q → A q) → xG A s s.heap → va_K D cl tys s → va_P D cl w0 s.heap → va_D A w0 → va_S A s.heap s.heap [] → lv_has ls maxL (lv_args 0 av) →
      (∀ (H : Heap) (locs : List Loc) (pc : Nat) (ls' : Array Slot), decode cc pc = .ok (.return_, 1) → va_P D cl w1 H → va_D A w1 → va_S A s.heap H locs → W p l e rm s m args below meth c H locs 0 0 Q (F0 m pc ls' [])) →
      W p l e rm s m args below meth c s.heap [] 0 0 Q (F0 m 0 ls [])) (sz : Nat) : MetV l y cc maxL T rm D cl tys w0 w1 av sz := by
  refine Met.ofW (cc := cc) (maxL := maxL) (ret := none) hy rfl ?_
  intro p e s m args below meth c s₁ B hml hv
  obtain ⟨rfl, hsz, hP, hK, hD0, hG⟩ := hv
  subst hsz
  have hD := hD0.self (sz := s.heap.size)
  have hl := lv_entry av (n := maxL) hlen
  rw [lg_entry_eq]
  refine body p e s m _ below meth c (va_A w0 s.heap.size) _ _ B.exec B.bytes hml (findClass_of_methodNamed B.named) (fun w hw => atoms_spec B.pre w (List.mem_cons_of_mem _ hw)) (fun q h => Or.inr h) hG hK hP hD va_S.rf hl ?_
  intro H locs pc ls' hd hP1 hD1 hS1
  exact W.vret B.exec B.bytes B.returns (fun t ht hW => ⟨⟨(), rfl, trivial, by rw [ht]; exact hP1, va_K.moved hW.alike hK, hD1⟩, hS1.F ht⟩) hS1.2.2 hd B.notSynchronized
/-- the words of every method's contract: its own code and one list T of good words -/
theorem gT {T : List Cond} {w : Cond} (h : w ∈ T) (hT : T.all goodWord = true) : GoodIn T (w :: T) := fun v hv => by
  have hv' : v ∈ T := (List.mem_cons.mp hv).elim (fun e => by rw [e]; exact h) id
  exact ⟨hv', good_of_word (List.all_eq_true.mp hT v hv')⟩
theorem gTa {T a b : List Cond} (ha : ∀ w ∈ a, w ∈ T) (hT : T.all goodWord = true) (hb : GoodIn T b) : GoodIn T (a ++ b) := fun v hv =>
  (List.mem_append.mp hv).elim (fun h => ⟨ha v h, good_of_word (List.all_eq_true.mp hT v (ha v h))⟩) (hb v)
theorem x_m5 {T : List Cond} {a b c d e : Cond} (h1 : a ∈ T) (h2 : b ∈ T) (h3 : c ∈ T) (h4 : d ∈ T) (h5 : e ∈ T) : ∀ w ∈ [a, b, c, d, e], w ∈ T := by
  intro w hw
  simp only [List.mem_cons, List.not_mem_nil, or_false] at hw
  rcases hw with rfl | rfl | rfl | rfl | rfl <;> assumption
section XC
variable {p : Program} {l : Launch} {e : Env} {R : Room} {s : State} {m : MethodId} {args : Array Value} {below : List Frame} {meth : Method} {c : Code} {H : Heap} {locs : List Loc} {cells slots : Nat} {Q : State → Prop}
variable {pc : Nat} {ls : Array Slot} {rest st0 : List Value} {a : Array Value} {A : Nat → Prop} {D : va_G} {cl : List vw_C} {tys tysC : List (ClassId × FieldType)} {ws wc wr w1 ws' : va_W}
theorem x_pre {av : List Value} (hK : va_K D cl tys s) (hP : va_P D cl ws H) (hD : va_D A ws) (hS : va_S A s.heap H locs) (hA : ∀ q, s.heap.size ≤ q → A q) (hG : xG A s s.heap) (ist isC : List Nat) (hKt : ist.filterMap (fun i => tys[i]?) = tysC) (hC : isC.map (fun i => ws[i]?) = wc.map some) (hn : va_nd isC = true) : PreS s H (X_in D cl tysC wc av H.size) av := by
  refine ⟨fun a U g mk q => ?_, fun U hU hW => ?_⟩
  · obtain ⟨q0, q1, qP, qK, qD, qG⟩ := q
    exact ⟨q0, q1, qP, va_K.moved (u := U) (U := U.calling g mk a) (Vm.Alike.refl U.vm) qK, qD, xG.same (u := U) (U := U.calling g mk a) rfl qG⟩
  · have hF := va_free hD hS hA isC hC
    refine ⟨rfl, by rw [hU], by rw [hU]; exact hP.sub isC (fm_of hC), va_K.moved hW.alike (hK.sub ist hKt), (hD.sub isC hn hC).weaken (fun _ _ _ _ => trivial), ?_⟩
    rw [hU]
    exact ((hG.kept hS.2.1).narrow hF).warm hW
theorem x_preV {As : List Value} {b q0 ci : Nat} {q : vw_C} {fs : List Value} (hp : PreS s H (X_in D cl tysC wc (.ref b :: As) H.size) (.ref b :: As)) (hK : va_K D cl tys s) (hP : va_P D cl ws H) (he : ws[q0]? = some (b, .inr (ci, fs))) (hc : cl[ci]? = some q) : PreV s H q.1 b (X_in D cl tysC wc (.ref b :: As) H.size) As := ⟨hp.1, va_recv hK hP hc he, hp.2⟩
theorem x_goI {res : Int32} (hr : va_Run p l e R s m args below meth c H locs cells slots 0 0 (F0 m pc ls st0) rest (va_Qi (fun r (_ : Unit) => r = res) (X_B D cl tysC wc w1 H.size) (va_A wc H.size) a) (va_A wc H.size))
    (hP : va_P D cl ws H) (hD : va_D A ws) (hS : va_S A s.heap H locs) (hA : ∀ q, s.heap.size ≤ q → A q) (isC isR is : List Nat) (hC : isC.map (fun i => ws[i]?) = wc.map some) (hR : isR.map (fun i => ws[i]?) = wr.map some) (hn : va_nd isR = true) (hdis : ∀ i ∈ isR, i ∉ isC) (hn2 : va_nd is = true) (hp : is.map (fun i => (wr ++ w1)[i]?) = ws'.map some)
    (kk : ∀ (H1 : Heap) (locs1 : List Loc), va_P D cl ws' H1 → va_D A ws' → va_S A s.heap H1 locs1 → W p l e R s m args below meth c H1 locs1 cells slots Q (F0 m (pc + 3) ls (.int res :: rest))) : W p l e R s m args below meth c H locs cells slots Q (F0 m pc ls st0) := by
  have hF := va_free hD hS hA isC hC
  refine va_calli hr hS (fun q _ h => hF q h) hF (fun r u t H1 locs1 ht hvm hw hB hz1 hk1 hS1 => ?_)
  obtain ⟨hP1, hK1, hD1⟩ := hB
  rw [ht] at hP1
  obtain ⟨hP2, hD2⟩ := va_join hP hD isC isR hC hR hn hdis hk1 hF hP1 hD1
  rw [hw]
  exact kk H1 locs1 (hP2.sub is (fm_of hp)) (hD2.sub is hn2 hp) hS1
theorem x_goV (hr : va_Run p l e R s m args below meth c H locs cells slots 0 0 (F0 m pc ls st0) rest (va_Qv (fun _ : Unit => True) (X_B D cl tysC wc w1 H.size) (va_A wc H.size) a) (va_A wc H.size))
    (hP : va_P D cl ws H) (hD : va_D A ws) (hS : va_S A s.heap H locs) (hA : ∀ q, s.heap.size ≤ q → A q) (isC isR is : List Nat) (hC : isC.map (fun i => ws[i]?) = wc.map some) (hR : isR.map (fun i => ws[i]?) = wr.map some) (hn : va_nd isR = true) (hdis : ∀ i ∈ isR, i ∉ isC) (hn2 : va_nd is = true) (hp : is.map (fun i => (wr ++ w1)[i]?) = ws'.map some)
    (kk : ∀ (H1 : Heap) (locs1 : List Loc), va_P D cl ws' H1 → va_D A ws' → va_S A s.heap H1 locs1 → W p l e R s m args below meth c H1 locs1 cells slots Q (F0 m (pc + 3) ls rest)) : W p l e R s m args below meth c H locs cells slots Q (F0 m pc ls st0) := by
  have hF := va_free hD hS hA isC hC
  refine va_callv hr hS (fun q _ h => hF q h) hF (fun u t H1 locs1 ht hvm hw hB hz1 hk1 hS1 => ?_)
  obtain ⟨hP1, hK1, hD1⟩ := hB
  rw [ht] at hP1
  obtain ⟨hP2, hD2⟩ := va_join hP hD isC isR hC hR hn hdis hk1 hF hP1 hD1
  exact kk H1 locs1 (hP2.sub is (fm_of hp)) (hD2.sub is hn2 hp) hS1
/-- a number on the stack, by another name -/
theorem x_ci {x y : Int32} (h : x = y) (k : W p l e R s m args below meth c H locs cells slots Q (F0 m pc ls (.int y :: rest))) : W p l e R s m args below meth c H locs cells slots Q (F0 m pc ls (.int x :: rest)) := by
  rw [h]; exact k
theorem x_cv {x y : Value} (h : x = y) (k : W p l e R s m args below meth c H locs cells slots Q (F0 m pc ls (y :: rest))) : W p l e R s m args below meth c H locs cells slots Q (F0 m pc ls (x :: rest)) := by
  rw [h]; exact k
end XC
