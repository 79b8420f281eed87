theorem g_ldcwS {X : CTX} {cc : ByteArray} {nL : Nat} {own : String} {rm : Room} {P : List Nat} {K : Nat → Nat} {I : Nat → Nat → Int32} {O : Nat → Nat → Option Nat} {J : Nat → Nat → Int64} {nc ns pc : Nat} {L : List (Nat × Value)} {st : List Value} {index : Nat} (i : Nat) {tx : String} (C : Cx X cc nL own rm) (d : decode cc pc = .ok (.ldc_w index, 3)) (h : sTab[i]? = some (own, index, tx)) (k : GG X nL P K I O J nc ns (pc + 3) L (.ref ((adX X).1 i) :: st)) : GG X nL P K I O J nc ns pc L st := by
  obtain ⟨p, l, e, R, s, m, args, below, meth, c, Q, A, D, cy, ad⟩ := X
  obtain ⟨⟨hx, hb, hml, hown, hts⟩, hK, hA, hlk, hSC, hR⟩ := C
  intro ls H locs hl hP hD hS T hT X
  obtain ⟨t, a1, b1⟩ := k ls H locs hl hP hD hS T hT X
  have hZ := hSC.2.1 i _ h
  exact ⟨t, X.ldcStringW hx hown (text := tx) (a := ad.1 i) hZ.1 hZ.2 (g := F0 m pc ls st) rfl (by rw [hb]; exact d) t a1, b1⟩
