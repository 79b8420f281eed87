def mxI (x y : Int32) : Int32 := if x < y then y else x
def mnI (x y : Int32) : Int32 := if y < x then y else x
def abI (x : Int32) : Int32 := if 0 ≤ x then x else 0 - x
theorem rfA_ok {P : List Nat} {K : Nat → Nat} {O : WO} {a : Nat} {i : Int32} (hT : TR P K O) (ha : a ∈ P ∧ K a = 24) (hi : 0 ≤ i.toInt ∧ i.toInt < (6 : Int)) : rf O a i.toInt.toNat ∈ P ∧ K (rf O a i.toInt.toNat) = 0 := by
  have hs : sp 24 i.toInt.toNat = some 0 := by
    rcases (show i.toInt.toNat = 0 ∨ i.toInt.toNat = 1 ∨ i.toInt.toNat = 2 ∨ i.toInt.toNat = 3 ∨ i.toInt.toNat = 4 ∨ i.toInt.toNat = 5 by omega) with q | q | q | q | q | q <;> rw [q] <;> rfl
  exact rf_ok hT ha hs
section XMATH
variable {X : CTX} {cc : ByteArray} {nL : Nat} {own : String} {rm : Room} {P : List Nat} {K : Nat → Nat} {I : WI} {O : WO} {J : WJ} {nc ns pc : Nat} {L : List (Nat × Value)} {st : List Value}
theorem x_max {idx : Nat} {x y : Int32} (C : Cx X cc nL own rm) (d : decode cc pc = .ok (.invokestatic idx, 3)) (hl0 : Cond.methodLink own idx Lib.Math.max.name ∈ wG) (hw : (st.map fun v => v.category).sum ≤ 8) (hf : 1 ≤ rm.frames ∧ 21 ≤ rm.locals) (hro : nc ≤ rm.cells ∧ ns ≤ rm.slots) (k : GG X nL P K I O J nc ns (pc + 3) L (.int (mxI x y) :: st)) : GG X nL P K I O J nc ns pc L (.int y :: .int x :: st) := by
  obtain ⟨p, l, e, R, s, m, args, below, meth, c, Q, A, D, cy, ad⟩ := X
  obtain ⟨⟨hx, hb, hml, hown, hts⟩, hK, hA, hlk, hSC, hR⟩ := C
  subst hR
  exact fun ls H locs hl hP hD hS => va_mmax hx hb (by rw [hml]; exact hl.1.symm) hown (hts _ hl0) (hts _ ms_max) (hts _ mi_Math) (hts _ mc_max) hf.1 (by omega) hro.1 hro.2 d (k ls H locs hl hP hD hS)
theorem x_min {idx : Nat} {x y : Int32} (C : Cx X cc nL own rm) (d : decode cc pc = .ok (.invokestatic idx, 3)) (hl0 : Cond.methodLink own idx Lib.Math.min.name ∈ wG) (hw : (st.map fun v => v.category).sum ≤ 8) (hf : 1 ≤ rm.frames ∧ 21 ≤ rm.locals) (hro : nc ≤ rm.cells ∧ ns ≤ rm.slots) (k : GG X nL P K I O J nc ns (pc + 3) L (.int (mnI x y) :: st)) : GG X nL P K I O J nc ns pc L (.int y :: .int x :: st) := by
  obtain ⟨p, l, e, R, s, m, args, below, meth, c, Q, A, D, cy, ad⟩ := X
  obtain ⟨⟨hx, hb, hml, hown, hts⟩, hK, hA, hlk, hSC, hR⟩ := C
  subst hR
  exact fun ls H locs hl hP hD hS => va_mmin hx hb (by rw [hml]; exact hl.1.symm) hown (hts _ hl0) (hts _ ms_min) (hts _ mi_Math) (hts _ mc_min) hf.1 (by omega) hro.1 hro.2 d (k ls H locs hl hP hD hS)
theorem x_abs {idx : Nat} {x : Int32} (C : Cx X cc nL own rm) (d : decode cc pc = .ok (.invokestatic idx, 3)) (hl0 : Cond.methodLink own idx Lib.Math.abs.name ∈ wG) (hw : (st.map fun v => v.category).sum ≤ 8) (hf : 1 ≤ rm.frames ∧ 21 ≤ rm.locals) (hro : nc ≤ rm.cells ∧ ns ≤ rm.slots) (k : GG X nL P K I O J nc ns (pc + 3) L (.int (abI x) :: st)) : GG X nL P K I O J nc ns pc L (.int x :: st) := by
  obtain ⟨p, l, e, R, s, m, args, below, meth, c, Q, A, D, cy, ad⟩ := X
  obtain ⟨⟨hx, hb, hml, hown, hts⟩, hK, hA, hlk, hSC, hR⟩ := C
  subst hR
  exact fun ls H locs hl hP hD hS => va_mabs hx hb (by rw [hml]; exact hl.1.symm) hown (hts _ hl0) (hts _ ms_abs) (hts _ mi_Math) (hts _ mc_abs) hf.1 (by omega) hro.1 hro.2 d (k ls H locs hl hP hD hS)
end XMATH
