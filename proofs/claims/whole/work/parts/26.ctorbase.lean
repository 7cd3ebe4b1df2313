/-! constructors: what they make comes by addresses u.1 and array classes u.2 -/
abbrev nU : Type := (Nat → Nat) × (Nat → ClassId)
def N_in (D : va_G) (cl : List vw_C) (w0 : va_W) (av : List Value) (sz : Nat) : Array Value → State → Prop := fun a U => X_in D cl [] w0 av sz a U ∧ va_AO "LayeredBits$Picture" U
def N_B (D : va_G) (cl : List vw_C) (tf : nU → List (ClassId × FieldType)) (w0 : va_W) (wf : nU → va_W) (sz : Nat) : nU → State → Prop := fun u t => va_P D cl (wf u) t.heap ∧ va_K D cl (tf u) t ∧ va_D (va_A w0 sz) (wf u)
def MetN (l : Launch) (y : MethodName) (cc : ByteArray) (maxL : Nat) (T : List Cond) (rm : Room) (D : va_G) (cl : List vw_C) (tf : nU → List (ClassId × FieldType)) (w0 : va_W) (wf : nU → va_W) (av : List Value) (sz : Nat) : Prop :=
  Met l y (.code y cc maxL none :: T) rm (N_in D cl w0 av sz) (va_Qv (fun _ : nU => True) (N_B D cl tf w0 wf sz) (va_A w0 sz)) rm.cells rm.slots (va_A w0 sz)
theorem x_ofN {l : Launch} {y : MethodName} {cc : ByteArray} {maxL : Nat} {T : List Cond} {rm : Room} {D : va_G} {cl : List vw_C} {tf : nU → List (ClassId × FieldType)} {w0 : va_W} {wf : nU → va_W} {av : List Value}
    (hy : plainName y.cls = true) (hlen : (lg_sl av).length ≤ maxL)
    (body : ∀ (p : Program) (e : Env) (s : State) (m : MethodId) (args : Array Value) (below : List Frame) (meth : Method) (c : Code) (A : Nat → Prop) (Q : State → Prop) (ls : Array Slot),
      p.tables.exec = Jvm.exec → c.code = cc → c.maxLocals = maxL → s.vm.findClass y.cls = some m.cls → (∀ w ∈ T, w.before args s = true) → (∀ q, s.heap.size ≤ q → A q) → xG A s s.heap → va_K D cl [] s → va_P D cl w0 s.heap → va_D A w0 → va_S A s.heap s.heap [] → lv_has ls maxL (lv_args 0 av) → meth.name = y.name → va_AO "LayeredBits$Picture" s →
      (∀ (u : nU) (H : Heap) (locs : List Loc) (cells slots pc : Nat) (ls' : Array Slot), cells ≤ rm.cells → slots ≤ rm.slots → decode cc pc = .ok (.return_, 1) → va_K D cl (tf u) s → va_P D cl (wf u) H → va_D A (wf u) → va_S A s.heap H locs → W p l e rm s m args below meth c H locs cells slots Q (F0 m pc ls' [])) →
      W p l e rm s m args below meth c s.heap [] 0 0 Q (F0 m 0 ls [])) (sz : Nat) : MetN l y cc maxL T rm D cl tf w0 wf av sz := by
  refine Met.ofW (cc := cc) (maxL := maxL) (ret := none) hy rfl ?_
  intro p e s m args below meth c s₁ B hml hv
  obtain ⟨⟨rfl, hsz, hP, hK, hD0, hG⟩, hAO⟩ := hv
  subst hsz
  have hD := hD0.self (sz := s.heap.size)
  have hl := lv_entry av (n := maxL) hlen
  rw [lg_entry_eq]
  refine body p e s m _ below meth c (va_A w0 s.heap.size) _ _ B.exec B.bytes hml (findClass_of_methodNamed B.named) (fun w hw => atoms_spec B.pre w (List.mem_cons_of_mem _ hw)) (fun q h => Or.inr h) hG hK hP hD va_S.rf hl (name_of_methodNamed B.named B.method).1 hAO ?_
  intro u H locs cells slots pc ls' hc hs hd hK1 hP1 hD1 hS1
  refine W.widen hc hs ?_
  exact W.vret B.exec B.bytes B.returns (fun t ht hW => ⟨⟨u, rfl, trivial, by rw [ht]; exact hP1, va_K.moved hW.alike hK1, hD1⟩, hS1.F ht⟩) hS1.2.2 hd B.notSynchronized
section XN
variable {p : Program} {l : Launch} {e : Env} {R : Room} {s : State} {m : MethodId} {args : Array Value} {below : List Frame} {meth : Method} {c : Code} {H : Heap} {locs : List Loc} {cells slots : Nat} {Q : State → Prop}
variable {pc : Nat} {ls : Array Slot} {rest st0 : List Value} {a : Array Value} {A : Nat → Prop} {D : va_G} {cl : List vw_C} {tys : List (ClassId × FieldType)} {ws wc wr : va_W} {tf : nU → List (ClassId × FieldType)} {wf : nU → va_W} {mc ms : Nat}
theorem x_preN {av : List Value} (hK : va_K D cl tys s) (hP : va_P D cl ws H) (hD : va_D A ws) (hS : va_S A s.heap H locs) (hA : ∀ q, s.heap.size ≤ q → A q) (hG : xG A s s.heap) (hAO : va_AO "LayeredBits$Picture" s) (isC : List Nat) (hC : isC.map (fun i => ws[i]?) = wc.map some) (hn : va_nd isC = true) : PreS s H (N_in D cl wc av H.size) av := by
  have h := x_pre (av := av) hK hP hD hS hA hG [] isC (tysC := []) rfl hC hn
  refine ⟨fun a U g mk q => ⟨h.1 a U g mk q.1, va_AO.moved (Vm.Alike.refl U.vm) q.2⟩, fun U hU hW => ⟨h.2 U hU hW, va_AO.moved hW.alike hAO⟩⟩
theorem x_goN (hr : va_Run p l e R s m args below meth c H locs cells slots mc ms (F0 m pc ls st0) rest (va_Qv (fun _ : nU => True) (N_B D cl tf wc wf H.size) (va_A wc H.size) a) (va_A wc H.size))
    (hK : va_K D cl tys s) (hP : va_P D cl ws H) (hD : va_D A ws) (hS : va_S A s.heap H locs) (hA : ∀ q, s.heap.size ≤ q → A q) (isC isR : List Nat) (hC : isC.map (fun i => ws[i]?) = wc.map some) (hR : isR.map (fun i => ws[i]?) = wr.map some) (hn : va_nd isR = true) (hdis : ∀ i ∈ isR, i ∉ isC)
    (kk : ∀ (u : nU) (H1 : Heap) (locs1 : List Loc), va_K D cl (tys ++ tf u) s → va_P D cl (wr ++ wf u) H1 → va_D A (wr ++ wf u) → va_S A s.heap H1 locs1 → W p l e R s m args below meth c H1 locs1 (cells + mc) (slots + ms) Q (F0 m (pc + 3) ls rest)) : W p l e R s m args below meth c H locs cells slots Q (F0 m pc ls st0) := by
  have hF := va_free hD hS hA isC hC
  refine va_callv hr hS (fun q _ h => hF q h) hF (fun u t H1 locs1 ht hvm hw hB hz1 hk1 hS1 => ?_)
  obtain ⟨hP1, hK1, hD1⟩ := hB
  rw [ht] at hP1
  obtain ⟨hP2, hD2⟩ := va_join hP hD isC isR hC hR hn hdis hk1 hF hP1 hD1
  exact kk u H1 locs1 (hK.app (va_K.moved hvm.symm hK1)) hP2 hD2 hS1
end XN
