/-! the relation between the class's state and the reference's; the easy cases -/
def Rel (x : XS) (y : MS) : Prop :=
  RP x.2.1 x.2.2.1 x.2.2.2.1 y.2.2.2.1 y.2.1 y.2.2.1 ∧ RF x.2.2.2.2.1 x.2.2.2.2.2.2.2.1 y.2.2.2.2.2.1 y.2.2.2.2.1 ∧
  RT x.1 x.2.2.2.2.2.2.2.2.2.2.2.2.1 x.2.2.2.2.2.2.2.2.2.2.2.2.2.2.2.2.2.2.2.2.2.2.2.2.2.1 x.2.2.2.2.2.2.2.2.2.2.2.2.2.2.2.2.2.2.2.2.2.2.2.2.2.2.1 y.2.2.2.2.2.2.1 y.2.2.2.2.2.2.2.1 y.2.2.2.2.2.2.2.2.1 y.2.2.2.2.2.2.2.2.2.1 ∧ RQ y.2.2.2.2.2.2.2.2.2.2.2.2.2.2.2.2.1
/-- a case of the law keeps the relation and goes on -/
def Keeps1 (q : (XS → MS → (Nat → Int64) → Option Int32) → Option Int32) : Prop := ∃ (x' : XS) (y' : MS) (o' : Nat → Int64), Rel x' y' ∧ ∀ rec, q rec = rec x' y' o'
theorem Keeps1.mk {q : (XS → MS → (Nat → Int64) → Option Int32) → Option Int32} {x' : XS} {y' : MS} {o' : Nat → Int64} (h : ∀ rec, q rec = rec x' y' o') (hR : Rel x' y') : Keeps1 q := ⟨x', y', o', hR, h⟩
theorem case_4 {xs : Nat → Int32} {L : Nat} {x4 : Int32} {x : XS} {y : MS} {o : Nat → Int64} (h : Rel x y) : Keeps1 (q_lawcase_4 xs L x4 x y o) := by
  obtain ⟨⟨a, b, a1, a2, b1, b2, e1, e2, e3, e4, hp⟩, hf, ht, hq⟩ := h
  apply Keeps1.mk
  · intro rec
    unfold q_lawcase_4 q_Top_width q_Mod_width
    rw [ob_s, ob_s, if_pos (by rw [e1, e3])]
  · exact ⟨⟨a, b, a1, a2, b1, b2, e1, e2, e3, e4, hp⟩, hf, ht, hq⟩
theorem case_5 {xs : Nat → Int32} {L : Nat} {x4 : Int32} {x : XS} {y : MS} {o : Nat → Int64} (h : Rel x y) : Keeps1 (q_lawcase_5 xs L x4 x y o) := by
  obtain ⟨⟨a, b, a1, a2, b1, b2, e1, e2, e3, e4, hp⟩, hf, ht, hq⟩ := h
  apply Keeps1.mk
  · intro rec
    unfold q_lawcase_5 q_Top_height q_Mod_height
    rw [ob_s, ob_s, if_pos (by rw [e2, e4])]
  · exact ⟨⟨a, b, a1, a2, b1, b2, e1, e2, e3, e4, hp⟩, hf, ht, hq⟩
theorem case_10 {xs : Nat → Int32} {L : Nat} {x4 : Int32} {x : XS} {y : MS} {o : Nat → Int64} (h : Rel x y) : Keeps1 (q_lawcase_10 xs L x4 x y o) := by
  obtain ⟨hp, ⟨n, h1, h2, h3, h4⟩, ht, hq⟩ := h
  apply Keeps1.mk
  · intro rec
    unfold q_lawcase_10 q_Top_size q_Mod_size
    rw [ob_s, ob_s, if_pos (by rw [h2, h3])]
  · exact ⟨hp, ⟨n, h1, h2, h3, h4⟩, ht, hq⟩
theorem case_3 {xs : Nat → Int32} {L : Nat} {x4 : Int32} {x : XS} {y : MS} {o : Nat → Int64} (h : Rel x y) (i1 : vpb (x4 + (1 : Int32)) L = true) (i2 : vpb (x4 + (2 : Int32)) L = true) : Keeps1 (q_lawcase_3 xs L x4 x y o) := by
  obtain ⟨⟨a, b, a1, a2, b1, b2, e1, e2, e3, e4, hp⟩, hf, ht, hq⟩ := h
  apply Keeps1.mk
  · intro rec
    unfold q_lawcase_3 q_Top_get
    rw [if_pos i1, if_pos i2, e1, e2, pix a2 b2, ob_s, ob_s, if_pos i1, if_pos i2, e3, e4, mget a1 b1 a2 b2, ob_s, if_pos (pv_eq a2 b2 (fun i j hi hj => (hp i j hi hj).1) _ _)]
  · exact ⟨⟨a, b, a1, a2, b1, b2, rfl, rfl, rfl, rfl, hp⟩, hf, ht, hq⟩
