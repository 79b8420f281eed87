theorem and_nI (a b : Nat) : nI a &&& nI b = nI (a &&& b) := by
  apply Int32.toBitVec_inj.1
  show BitVec.ofNat 32 a &&& BitVec.ofNat 32 b = BitVec.ofNat 32 (a &&& b)
  apply BitVec.eq_of_getLsbD_eq
  intro i hi
  simp [hi]
theorem and_le {x y : Int32} (hx : 0 ≤ x.toInt) (hy : 0 ≤ y.toInt) : 0 ≤ (x &&& y).toInt ∧ (x &&& y).toInt ≤ x.toInt ∧ (x &&& y).toInt ≤ y.toInt := by
  have h0 : (0 : Int32).toInt = 0 := rfl
  obtain ⟨a, ha, rfl⟩ := nI_of (x := x) (by rw [Int32.lt_iff_toInt_lt]; omega)
  obtain ⟨b, hb, rfl⟩ := nI_of (x := y) (by rw [Int32.lt_iff_toInt_lt]; omega)
  have h1 : a &&& b ≤ a := Nat.and_le_left
  have h2 : a &&& b ≤ b := Nat.and_le_right
  rw [and_nI, nI_toInt (by omega), nI_toInt ha, nI_toInt hb]
  omega
theorem n_iand {X : CTX} {cc : ByteArray} {nL : Nat} {own : String} {rm : Room} {P : List Nat} {K : Nat → Nat} {I : Nat → Nat → Int32} {O : Nat → Nat → Option Nat} {J : Nat → Nat → Int64} {nc ns pc : Nat} {L : List (Nat × Value)} {st : List Value} {x y : Int32} (C : Cx X cc nL own rm) (d : decode cc pc = .ok (.iand, 1)) (h : 0 ≤ x.toInt ∧ 0 ≤ y.toInt) (k : ∀ z : Int32, 0 ≤ z.toInt ∧ z.toInt ≤ x.toInt ∧ z.toInt ≤ y.toInt → GG X nL P K I O J nc ns (pc + 1) L (.int z :: st)) : GG X nL P K I O J nc ns pc L (.int y :: .int x :: st) := g_iand C d (k _ (and_le h.1 h.2))
theorem up2_dis {I : Nat → Nat → Int32} {a c : Nat} {i x : Int32} {v : Int} (h : 0 ≤ i.toInt) (hv : x.toInt = v) : (i.toInt = c ∧ (up2 I a i.toNatClampNeg x a c).toInt = v) ∨ (¬ i.toInt = c ∧ (up2 I a i.toNatClampNeg x a c).toInt = (I a c).toInt) := by
  have e : i.toNatClampNeg = i.toInt.toNat := rfl
  by_cases q : i.toInt = c
  · have : i.toNatClampNeg = c := by omega
    refine Or.inl ⟨q, ?_⟩
    rw [this, up2_self]; exact hv
  · exact Or.inr ⟨q, by rw [up2_ne _ _ (fun z => by omega)]⟩
def frX10 : Nat → Bool := frL [10]
