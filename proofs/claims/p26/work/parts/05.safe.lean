theorem wr32 (z : Int) : z.bmod (2 ^ 32) = (z + 2147483648) % 4294967296 - 2147483648 := by
  rw [Int.bmod_def]; split <;> omega
theorem ofI {n : Int} (h : -2147483648 ≤ n ∧ n < 2147483648) : (Int32.ofInt n).toInt = n := by
  rw [Int32.toInt_ofInt, wr32]; omega
theorem rg (x : Int32) : -2147483648 ≤ x.toInt ∧ x.toInt < 2147483648 := by
  have h1 := Int32.le_toInt x
  have h2 := Int32.toInt_lt x
  exact ⟨h1, h2⟩
theorem rgL (x : Int64) : -9223372036854775808 ≤ x.toInt ∧ x.toInt < 9223372036854775808 := ⟨Int64.le_toInt x, Int64.toInt_lt x⟩
def B01 (x : Int32) : Prop := x.toInt = 0 ∨ x.toInt = 1
theorem B01.e {x : Int32} (h : B01 x) : x = 0 ∨ x = 1 := by
  rcases h with h | h
  · exact Or.inl (Int32.toInt_inj.mp (by rw [h]; rfl))
  · exact Or.inr (Int32.toInt_inj.mp (by rw [h]; rfl))
/-- what an int at a place of a label keeps to -/
def okI (κ k : Nat) (x : Int32) : Prop :=
  bif Nat.beq κ 0 then (bif Nat.beq k 5 then B01 x else True)
  else bif Nat.beq κ 3 then (bif Nat.beq k 7 then (0 ≤ x.toInt ∧ x.toInt ≤ 5) else bif Nat.beq k 8 then (0 ≤ x.toInt ∧ x.toInt ≤ 4) else True)
  else bif Nat.beq κ 4 then (bif Nat.beq k 5 then B01 x else True)
  else bif Nat.beq κ 6 then (bif Nat.beq k 7 then B01 x else True)
  else bif Nat.beq κ 7 then (bif Nat.beq k 3 then (0 ≤ x.toInt ∧ x.toInt ≤ 8) else bif Nat.beq k 4 then (0 ≤ x.toInt ∧ x.toInt ≤ 8) else True)
  else bif Nat.beq κ 8 then (bif Nat.beq k 13 then (0 ≤ x.toInt ∧ x.toInt ≤ 240) else True)
  else bif Nat.beq κ 10 then (bif Nat.beq k 23 then (0 ≤ x.toInt ∧ x.toInt ≤ 24) else bif Nat.beq k 29 then (0 ≤ x.toInt ∧ x.toInt ≤ 5) else bif Nat.beq k 6 then (0 ≤ x.toInt ∧ x.toInt ≤ 700) else bif Nat.beq k 7 then (0 ≤ x.toInt ∧ x.toInt ≤ 700) else bif Nat.beq k 8 then (0 ≤ x.toInt ∧ x.toInt ≤ 700) else bif Nat.beq k 18 then (0 ≤ x.toInt ∧ x.toInt ≤ 240) else True)
  else bif Nat.beq κ 9 then (bif Nat.beq k 7 then (0 ≤ x.toInt ∧ x.toInt ≤ 6) else bif Nat.beq k 8 then (0 ≤ x.toInt ∧ x.toInt ≤ 5) else bif Nat.beq k 9 then (0 ≤ x.toInt ∧ x.toInt ≤ 4) else bif Nat.beq k 10 then (0 ≤ x.toInt ∧ x.toInt ≤ 9) else True)
  else bif Nat.beq κ 34 then (0 ≤ x.toInt ∧ x.toInt ≤ 3)
  else bif Nat.beq κ 36 then (0 ≤ x.toInt ∧ x.toInt ≤ 6)
  else bif Nat.beq κ 39 then (0 ≤ x.toInt ∧ x.toInt ≤ 8)
  else bif Nat.beq κ 44 then (0 ≤ x.toInt ∧ x.toInt ≤ 9)
  else bif Nat.beq κ 47 then (-1 ≤ x.toInt ∧ x.toInt ≤ 4)
  else bif Nat.beq κ 31 then (bif Nat.beq k 27 then (0 ≤ x.toInt ∧ x.toInt ≤ 240) else bif Nat.beq k 36 then (0 ≤ x.toInt ∧ x.toInt ≤ 3) else True)
  else bif Nat.beq κ 49 then (bif Nat.beq k 27 then (0 ≤ x.toInt ∧ x.toInt ≤ 252) else bif Nat.beq k 36 then (0 ≤ x.toInt ∧ x.toInt ≤ 3) else True)
  else bif Nat.beq κ 50 then (bif Nat.beq k 27 then (0 ≤ x.toInt ∧ x.toInt ≤ 252) else bif Nat.beq k 36 then (0 ≤ x.toInt ∧ x.toInt ≤ 3) else True)
  else True
theorem beq_ne {a b : Nat} (h : a ≠ b) : Nat.beq a b = false := by
  cases q : Nat.beq a b with
  | true => exact absurd (Nat.eq_of_beq_eq_true q) h
  | false => rfl
theorem okS {κ k : Nat} {x : Int32} (hκ : κ = 31 ∨ κ = 49 ∨ κ = 50) (h1 : k ≠ 27) (h2 : k ≠ 36) : okI κ k x := by
  rcases hκ with rfl | rfl | rfl
  · show (bif Nat.beq k 27 then _ else bif Nat.beq k 36 then _ else True); rw [beq_ne h1, beq_ne h2]; trivial
  · show (bif Nat.beq k 27 then _ else bif Nat.beq k 36 then _ else True); rw [beq_ne h1, beq_ne h2]; trivial
  · show (bif Nat.beq k 27 then _ else bif Nat.beq k 36 then _ else True); rw [beq_ne h1, beq_ne h2]; trivial
theorem okS_at {κ k : Nat} {x : Int32} (hκ : κ = 31 ∨ κ = 49 ∨ κ = 50) (h1 : k = 27 → 0 ≤ x.toInt ∧ x.toInt ≤ 240) (h2 : k = 36 → 0 ≤ x.toInt ∧ x.toInt ≤ 3) : okI κ k x := by
  by_cases e1 : k = 27
  · subst e1; have := h1 rfl; rcases hκ with rfl | rfl | rfl <;> (show 0 ≤ Int32.toInt _ ∧ Int32.toInt _ ≤ _; omega)
  by_cases e2 : k = 36
  · subst e2; have := h2 rfl; rcases hκ with rfl | rfl | rfl <;> exact this
  exact okS hκ e1 e2
theorem okS_0 {κ k : Nat} (hκ : κ = 31 ∨ κ = 49 ∨ κ = 50) : okI κ k (Int32.ofInt 0) := okS_at hκ (fun _ => by rw [ofI (by decide)]; decide) (fun _ => by rw [ofI (by decide)]; decide)
theorem okS_31 {k : Nat} {x : Int32} (h : okI 31 k x) : okI 49 k x := by
  by_cases e1 : k = 27
  · subst e1; have h : 0 ≤ x.toInt ∧ x.toInt ≤ 240 := h; show 0 ≤ x.toInt ∧ x.toInt ≤ 252; omega
  by_cases e2 : k = 36
  · subst e2; exact h
  exact okS (by decide) e1 e2
theorem okS_49 {k : Nat} {x : Int32} (h : okI 49 k x) : okI 50 k x := by
  by_cases e1 : k = 27
  · subst e1; exact h
  by_cases e2 : k = 36
  · subst e2; exact h
  exact okS (by decide) e1 e2
/-- the MILL that was taken: what the hours divide by -/
def GM (I : Nat → Nat → Int32) (M : Nat) : Prop := 1 ≤ (I M 0).toInt ∧ 1 ≤ (I M 4).toInt ∧ 1 ≤ (I M 7).toInt
theorem GM.keep {I0 I : Nat → Nat → Int32} {M : Nat} (h : GM I0 M) (e : ∀ k, I M k = I0 M k) : GM I M := by unfold GM; rw [e, e, e]; exact h
def TR (P : List Nat) (K : Nat → Nat) (O : Nat → Nat → Option Nat) : Prop := ∀ a, a ∈ P → ∀ k κ', sp (K a) k = some κ' → ∃ b, O a k = some b ∧ b ∈ P ∧ K b = κ'
def IV (P : List Nat) (K : Nat → Nat) (I : Nat → Nat → Int32) (O : Nat → Nat → Option Nat) : Prop := TR P K O ∧ ∀ a, a ∈ P → ∀ k, okI (K a) k (I a k)
def FR (fr : Nat → Bool) (K : Nat → Nat) (I0 : Nat → Nat → Int32) (J0 : Nat → Nat → Int64) (I : Nat → Nat → Int32) (J : Nat → Nat → Int64) : Prop := ∀ a, fr (K a) = true → (∀ k, I a k = I0 a k) ∧ ∀ k, J a k = J0 a k
def SV (fr : Nat → Bool) (P : List Nat) (K : Nat → Nat) (O : Nat → Nat → Option Nat) (I0 : Nat → Nat → Int32) (J0 : Nat → Nat → Int64) (I : Nat → Nat → Int32) (J : Nat → Nat → Int64) : Prop := IV P K I O ∧ FR fr K I0 J0 I J
theorem FR.rf {fr : Nat → Bool} {K : Nat → Nat} {I : Nat → Nat → Int32} {J : Nat → Nat → Int64} : FR fr K I J I J := fun _ _ => ⟨fun _ => rfl, fun _ => rfl⟩
theorem SV.rf {fr : Nat → Bool} {P : List Nat} {K : Nat → Nat} {O : Nat → Nat → Option Nat} {I : Nat → Nat → Int32} {J : Nat → Nat → Int64} (h : IV P K I O) : SV fr P K O I J I J := ⟨h, FR.rf⟩
theorem SV.putI {fr : Nat → Bool} {P : List Nat} {K : Nat → Nat} {O : Nat → Nat → Option Nat} {I0 I : Nat → Nat → Int32} {J0 J : Nat → Nat → Int64} {a κ k : Nat} {x : Int32} (h : SV fr P K O I0 J0 I J) (ha : K a = κ) (hf : fr κ = false) (hx : okI κ k x) : SV fr P K O I0 J0 (up2 I a k x) J := by
  refine ⟨⟨h.1.1, fun b hb j => ?_⟩, fun b hb => ⟨fun j => ?_, (h.2 b hb).2⟩⟩
  · by_cases q : b = a ∧ j = k
    · obtain ⟨rfl, rfl⟩ := q; rw [up2_self, ha]; exact hx
    · rw [up2_ne _ _ q]; exact h.1.2 b hb j
  · have hne : ¬ b = a := fun z => by rw [z, ha, hf] at hb; cases hb
    rw [up2_row _ _ hne]; exact (h.2 b hb).1 j
theorem SV.putJ {fr : Nat → Bool} {P : List Nat} {K : Nat → Nat} {O : Nat → Nat → Option Nat} {I0 I : Nat → Nat → Int32} {J0 J : Nat → Nat → Int64} {a κ k : Nat} {x : Int64} (h : SV fr P K O I0 J0 I J) (ha : K a = κ) (hf : fr κ = false) : SV fr P K O I0 J0 I (up2 J a k x) := by
  refine ⟨h.1, fun b hb => ⟨(h.2 b hb).1, fun j => ?_⟩⟩
  have hne : ¬ b = a := fun z => by rw [z, ha, hf] at hb; cases hb
  rw [up2_row _ _ hne]; exact (h.2 b hb).2 j
theorem SV.call {fr fr' : Nat → Bool} {P : List Nat} {K : Nat → Nat} {O : Nat → Nat → Option Nat} {I0 I I' : Nat → Nat → Int32} {J0 J J' : Nat → Nat → Int64} (h : SV fr P K O I0 J0 I J) (hf : ∀ κ, fr κ = true → fr' κ = true) (h1 : IV P K I' O) (h2 : FR fr' K I J I' J') : SV fr P K O I0 J0 I' J' :=
  ⟨h1, fun a ha => ⟨fun k => ((h2 a (hf _ ha)).1 k).trans ((h.2 a ha).1 k), fun k => ((h2 a (hf _ ha)).2 k).trans ((h.2 a ha).2 k)⟩⟩
/-- labels that a call leaves as they were: the reference's (frC); and the reader's too (frN); the class's (frR) -/
def frC (κ : Nat) : Bool := Nat.beq κ 9 || Nat.beq κ 10 || Nat.ble 29 κ
def frN (κ : Nat) : Bool := frC κ || Nat.beq κ 5 || Nat.beq κ 15 || Nat.beq κ 16 || Nat.beq κ 17
def frR (κ : Nat) : Bool := !frC κ
def frP (_ : Nat) : Bool := true
theorem FR.pure {K : Nat → Nat} {I0 I : Nat → Nat → Int32} {J0 J : Nat → Nat → Int64} (h : FR frP K I0 J0 I J) : I = I0 ∧ J = J0 := ⟨by funext a k; exact (h a rfl).1 k, by funext a k; exact (h a rfl).2 k⟩
def frL (l : List Nat) (κ : Nat) : Bool := !(l.any (fun x => Nat.beq x κ))
theorem frL_le {fr : Nat → Bool} {l : List Nat} (h : l.all (fun x => !(fr x)) = true) : ∀ κ, fr κ = true → frL l κ = true := by
  intro κ hκ
  unfold frL
  cases q : l.any (fun x => Nat.beq x κ) with
  | false => rfl
  | true =>
    obtain ⟨x, hx, e⟩ := List.any_eq_true.mp q
    have e1 : x = κ := Nat.eq_of_beq_eq_true e
    have h2 := List.all_eq_true.mp h x hx
    rw [e1, hκ] at h2
    cases h2
def frT : Nat → Bool := frL [49, 50, 37, 38, 41]
def frM : Nat → Bool := frL [10, 30, 31, 32, 33, 34, 35, 36, 37, 38, 39, 40, 41, 49, 50]
def frQ : Nat → Bool := frL [9, 10, 42, 43, 44, 45, 46, 47]
def frX31 : Nat → Bool := frL [31]
def frX49 : Nat → Bool := frL [49]
def frX50 : Nat → Bool := frL [50]
theorem fr_MP : ∀ κ, frM κ = true → frP κ = true := fun _ _ => rfl
theorem fr_TP : ∀ κ, frT κ = true → frP κ = true := fun _ _ => rfl
theorem fr_XP {fr : Nat → Bool} : ∀ κ, fr κ = true → frP κ = true := fun _ _ => rfl
theorem fr_QP : ∀ κ, frQ κ = true → frP κ = true := fun _ _ => rfl
theorem fr_NN : ∀ κ, frN κ = true → frN κ = true := fun _ h => h
theorem fr_CC : ∀ κ, frC κ = true → frC κ = true := fun _ h => h
theorem fr_RR : ∀ κ, frR κ = true → frR κ = true := fun _ h => h
theorem fr_NP : ∀ κ, frN κ = true → frP κ = true := fun _ _ => rfl
theorem fr_CP : ∀ κ, frC κ = true → frP κ = true := fun _ _ => rfl
theorem fr_RP : ∀ κ, frR κ = true → frP κ = true := fun _ _ => rfl
theorem fr_PP : ∀ κ, frP κ = true → frP κ = true := fun _ _ => rfl
theorem fr_CN : ∀ κ, frC κ = true → frN κ = true := fun κ h => by unfold frN; rw [h]; rfl
def rOK (rc : Nat) (ρ : Int32 → (Nat → Nat → Int32) → Prop) (r : Option Value) (I' : Nat → Nat → Int32) : Prop := match rc with
  | 0 => r = none ∧ ρ 0 I'
  | 1 => ∃ x : Int32, r = some (.int x) ∧ ρ x I'
  | 2 => ∃ x : Int32, r = some (.int x) ∧ B01 x ∧ ρ x I'
  | _ => ∃ x : Int64, r = some (.long x) ∧ ρ 0 I'
def tt : Int32 → (Nat → Nat → Int32) → Prop := fun _ _ => True
/-- the end of a call that is only safe: labels, addresses and references as they were, the invariant, what is left as it was -/
def SPo (fr : Nat → Bool) (rc : Nat) (ρ : Int32 → (Nat → Nat → Int32) → Prop) (P : List Nat) (K : Nat → Nat) (I : Nat → Nat → Int32) (O : Nat → Nat → Option Nat) (J : Nat → Nat → Int64) : PST := fun r P' K' I' O' J' => P' = P ∧ K' = K ∧ O' = O ∧ IV P K I' O ∧ FR fr K I J I' J' ∧ rOK rc ρ r I'
def PL (fr : Nat → Bool) (κ : Nat) : Prop := ¬ κ < 11 ∧ aty κ = 1 ∧ fr κ = false ∧ (∀ k x, okI κ k x) ∧ alen κ < 10000
section TROWS
variable {X : CTX} {cc : ByteArray} {nL : Nat} {own : String} {rm : Room} {P : List Nat} {K : Nat → Nat} {I I0 : Nat → Nat → Int32} {O : Nat → Nat → Option Nat} {J J0 : Nat → Nat → Int64} {nc ns pc : Nat} {L : List (Nat × Value)} {st : List Value} {fr : Nat → Bool}
theorem gt_iadd {x y : Int32} {xi yi : Int} (C : Cx X cc nL own rm) (d : decode cc pc = .ok (.iadd, 1)) (hx : x.toInt = xi) (hy : y.toInt = yi) (k : ∀ z : Int32, z.toInt = ((xi + yi) + 2147483648) % 4294967296 - 2147483648 → GG X nL P K I O J nc ns (pc + 1) L (.int z :: st)) : GG X nL P K I O J nc ns pc L (.int y :: .int x :: st) :=
  g_iadd C d (k _ (by rw [Int32.toInt_add, wr32, hx, hy]))
theorem gt_isub {x y : Int32} {xi yi : Int} (C : Cx X cc nL own rm) (d : decode cc pc = .ok (.isub, 1)) (hx : x.toInt = xi) (hy : y.toInt = yi) (k : ∀ z : Int32, z.toInt = ((xi - yi) + 2147483648) % 4294967296 - 2147483648 → GG X nL P K I O J nc ns (pc + 1) L (.int z :: st)) : GG X nL P K I O J nc ns pc L (.int y :: .int x :: st) :=
  g_isub C d (k _ (by rw [Int32.toInt_sub, wr32, hx, hy]))
theorem gt_imul {x y : Int32} {xi yi : Int} (C : Cx X cc nL own rm) (d : decode cc pc = .ok (.imul, 1)) (hx : x.toInt = xi) (hy : y.toInt = yi) (k : ∀ z : Int32, z.toInt = ((xi * yi) + 2147483648) % 4294967296 - 2147483648 → GG X nL P K I O J nc ns (pc + 1) L (.int z :: st)) : GG X nL P K I O J nc ns pc L (.int y :: .int x :: st) :=
  g_imul C d (k _ (by rw [Int32.toInt_mul, wr32, hx, hy]))
theorem n_iadd {x y : Int32} {xi yi : Int} (C : Cx X cc nL own rm) (d : decode cc pc = .ok (.iadd, 1)) (hx : x.toInt = xi) (hy : y.toInt = yi) (h : -2147483648 ≤ xi + yi ∧ xi + yi < 2147483648) (k : ∀ z : Int32, z.toInt = xi + yi → GG X nL P K I O J nc ns (pc + 1) L (.int z :: st)) : GG X nL P K I O J nc ns pc L (.int y :: .int x :: st) :=
  g_iadd C d (k _ (by rw [Int32.toInt_add, wr32, hx, hy]; omega))
theorem n_isub {x y : Int32} {xi yi : Int} (C : Cx X cc nL own rm) (d : decode cc pc = .ok (.isub, 1)) (hx : x.toInt = xi) (hy : y.toInt = yi) (h : -2147483648 ≤ xi - yi ∧ xi - yi < 2147483648) (k : ∀ z : Int32, z.toInt = xi - yi → GG X nL P K I O J nc ns (pc + 1) L (.int z :: st)) : GG X nL P K I O J nc ns pc L (.int y :: .int x :: st) :=
  g_isub C d (k _ (by rw [Int32.toInt_sub, wr32, hx, hy]; omega))
theorem n_imul {x y : Int32} {xi yi : Int} (C : Cx X cc nL own rm) (d : decode cc pc = .ok (.imul, 1)) (hx : x.toInt = xi) (hy : y.toInt = yi) (h : -2147483648 ≤ xi * yi ∧ xi * yi < 2147483648) (k : ∀ z : Int32, z.toInt = xi * yi → GG X nL P K I O J nc ns (pc + 1) L (.int z :: st)) : GG X nL P K I O J nc ns pc L (.int y :: .int x :: st) :=
  g_imul C d (k _ (by rw [Int32.toInt_mul, wr32, hx, hy]; omega))
theorem a_iadd {x y : Int32} (C : Cx X cc nL own rm) (d : decode cc pc = .ok (.iadd, 1)) (k : ∀ z : Int32, GG X nL P K I O J nc ns (pc + 1) L (.int z :: st)) : GG X nL P K I O J nc ns pc L (.int y :: .int x :: st) := g_iadd C d (k _)
theorem a_isub {x y : Int32} (C : Cx X cc nL own rm) (d : decode cc pc = .ok (.isub, 1)) (k : ∀ z : Int32, GG X nL P K I O J nc ns (pc + 1) L (.int z :: st)) : GG X nL P K I O J nc ns pc L (.int y :: .int x :: st) := g_isub C d (k _)
theorem a_imul {x y : Int32} (C : Cx X cc nL own rm) (d : decode cc pc = .ok (.imul, 1)) (k : ∀ z : Int32, GG X nL P K I O J nc ns (pc + 1) L (.int z :: st)) : GG X nL P K I O J nc ns pc L (.int y :: .int x :: st) := g_imul C d (k _)
theorem a_iand {x y : Int32} (C : Cx X cc nL own rm) (d : decode cc pc = .ok (.iand, 1)) (k : ∀ z : Int32, GG X nL P K I O J nc ns (pc + 1) L (.int z :: st)) : GG X nL P K I O J nc ns pc L (.int y :: .int x :: st) := g_iand C d (k _)
theorem a_ishl {x y : Int32} (C : Cx X cc nL own rm) (d : decode cc pc = .ok (.ishl, 1)) (k : ∀ z : Int32, GG X nL P K I O J nc ns (pc + 1) L (.int z :: st)) : GG X nL P K I O J nc ns pc L (.int y :: .int x :: st) := g_ishl C d (k _)
theorem a_ishr {x y : Int32} (C : Cx X cc nL own rm) (d : decode cc pc = .ok (.ishr, 1)) (k : ∀ z : Int32, GG X nL P K I O J nc ns (pc + 1) L (.int z :: st)) : GG X nL P K I O J nc ns pc L (.int y :: .int x :: st) := g_ishr C d (k _)
theorem a_ladd {x y : Int64} (C : Cx X cc nL own rm) (d : decode cc pc = .ok (.ladd, 1)) (k : ∀ z : Int64, GG X nL P K I O J nc ns (pc + 1) L (.long z :: st)) : GG X nL P K I O J nc ns pc L (.long y :: .long x :: st) := g_ladd C d (k _)
theorem a_lsub {x y : Int64} (C : Cx X cc nL own rm) (d : decode cc pc = .ok (.lsub, 1)) (k : ∀ z : Int64, GG X nL P K I O J nc ns (pc + 1) L (.long z :: st)) : GG X nL P K I O J nc ns pc L (.long y :: .long x :: st) := g_lsub C d (k _)
theorem a_lmul {x y : Int64} (C : Cx X cc nL own rm) (d : decode cc pc = .ok (.lmul, 1)) (k : ∀ z : Int64, GG X nL P K I O J nc ns (pc + 1) L (.long z :: st)) : GG X nL P K I O J nc ns pc L (.long y :: .long x :: st) := g_lmul C d (k _)
theorem a_ineg {x : Int32} (C : Cx X cc nL own rm) (d : decode cc pc = .ok (.ineg, 1)) (k : ∀ z : Int32, GG X nL P K I O J nc ns (pc + 1) L (.int z :: st)) : GG X nL P K I O J nc ns pc L (.int x :: st) := g_ineg C d (k _)
theorem a_i2b {x : Int32} (C : Cx X cc nL own rm) (d : decode cc pc = .ok (.i2b, 1)) (k : ∀ z : Int32, GG X nL P K I O J nc ns (pc + 1) L (.int z :: st)) : GG X nL P K I O J nc ns pc L (.int x :: st) := g_i2b C d (k _)
theorem a_l2i {x : Int64} (C : Cx X cc nL own rm) (d : decode cc pc = .ok (.l2i, 1)) (k : ∀ z : Int32, GG X nL P K I O J nc ns (pc + 1) L (.int z :: st)) : GG X nL P K I O J nc ns pc L (.long x :: st) := g_l2i C d (k _)
theorem a_i2l {x : Int32} (C : Cx X cc nL own rm) (d : decode cc pc = .ok (.i2l, 1)) (k : ∀ z : Int64, GG X nL P K I O J nc ns (pc + 1) L (.long z :: st)) : GG X nL P K I O J nc ns pc L (.int x :: st) := g_i2l C d (k _)
theorem a_lcmp {x y : Int64} (C : Cx X cc nL own rm) (d : decode cc pc = .ok (.lcmp, 1)) (k : ∀ z : Int32, GG X nL P K I O J nc ns (pc + 1) L (.int z :: st)) : GG X nL P K I O J nc ns pc L (.long y :: .long x :: st) := g_lcmp C d (k _)
theorem a_idiv {x y : Int32} (C : Cx X cc nL own rm) (d : decode cc pc = .ok (.idiv, 1)) (hne : ¬ y.toInt = 0) (k : ∀ z : Int32, GG X nL P K I O J nc ns (pc + 1) L (.int z :: st)) : GG X nL P K I O J nc ns pc L (.int y :: .int x :: st) := g_idiv C d (fun z => hne (by rw [z]; rfl)) (k _)
theorem a_irem {x y : Int32} (C : Cx X cc nL own rm) (d : decode cc pc = .ok (.irem, 1)) (hne : ¬ y.toInt = 0) (k : ∀ z : Int32, GG X nL P K I O J nc ns (pc + 1) L (.int z :: st)) : GG X nL P K I O J nc ns pc L (.int y :: .int x :: st) := g_irem C d (fun z => hne (by rw [z]; rfl)) (k _)
theorem a_ldiv {x y : Int64} (C : Cx X cc nL own rm) (d : decode cc pc = .ok (.ldiv, 1)) (hne : ¬ y.toInt = 0) (k : ∀ z : Int64, GG X nL P K I O J nc ns (pc + 1) L (.long z :: st)) : GG X nL P K I O J nc ns pc L (.long y :: .long x :: st) := g_ldiv C d (fun z => hne (by rw [z]; rfl)) (k _)
theorem gt_i2l {x : Int32} (C : Cx X cc nL own rm) (d : decode cc pc = .ok (.i2l, 1)) (k : ∀ z : Int64, z.toInt = x.toInt → GG X nL P K I O J nc ns (pc + 1) L (.long z :: st)) : GG X nL P K I O J nc ns pc L (.int x :: st) := g_i2l C d (k _ (Int32.toInt_toInt64 x))
theorem tdivF {x y : Int32} {xi dv : Int} (hx : x.toInt = xi) (hy : y.toInt = dv) (hd : 0 < dv) : (0 ≤ xi → (x / y).toInt = xi / dv) ∧ (xi < 0 → (x / y).toInt = -((-xi) / dv)) := by
  have hr := rg x
  have e : (x / y).toInt = (xi.tdiv dv).bmod (2 ^ 32) := by rw [Int32.toInt_div, hx, hy]
  have key : ∀ z : Int, -2147483648 ≤ z → z < 2147483648 → z.bmod (2 ^ 32) = z := fun z h1 h2 => by rw [wr32]; omega
  rw [hx] at hr
  constructor
  · intro h
    rw [e, Int.tdiv_eq_ediv_of_nonneg h]
    have h1 : 0 ≤ xi / dv := Int.ediv_nonneg h (by omega)
    have h2 : xi / dv ≤ xi := Int.ediv_le_self _ h
    exact key _ (by omega) (by omega)
  · intro h
    have h3 : xi.tdiv dv = -((-xi) / dv) := by
      rw [← Int.tdiv_eq_ediv_of_nonneg (by omega), Int.neg_tdiv, Int.neg_neg]
    rw [e, h3]
    have h1 : 0 ≤ (-xi) / dv := Int.ediv_nonneg (by omega) (by omega)
    have h2 : (-xi) / dv ≤ -xi := Int.ediv_le_self _ (by omega)
    exact key _ (by omega) (by omega)
theorem gt_idiv {x y : Int32} {xi : Int} (dv : Int) (C : Cx X cc nL own rm) (d : decode cc pc = .ok (.idiv, 1)) (hx : x.toInt = xi) (hy : y.toInt = dv) (hd : 0 < dv) (k : ∀ z : Int32, (0 ≤ xi → z.toInt = xi / dv) ∧ (xi < 0 → z.toInt = -((-xi) / dv)) → GG X nL P K I O J nc ns (pc + 1) L (.int z :: st)) : GG X nL P K I O J nc ns pc L (.int y :: .int x :: st) :=
  g_idiv C d (fun z => by rw [z] at hy; have : (0 : Int32).toInt = 0 := rfl; omega) (k _ (tdivF hx hy hd))
theorem gt_irem {x y : Int32} {xi : Int} (dv : Int) (C : Cx X cc nL own rm) (d : decode cc pc = .ok (.irem, 1)) (hx : x.toInt = xi) (hy : y.toInt = dv) (hd : 0 < dv) (k : ∀ z : Int32, (0 ≤ xi → 0 ≤ z.toInt ∧ z.toInt < dv) → GG X nL P K I O J nc ns (pc + 1) L (.int z :: st)) : GG X nL P K I O J nc ns pc L (.int y :: .int x :: st) := by
  refine g_irem C d (fun z => by rw [z] at hy; have : (0 : Int32).toInt = 0 := rfl; omega) (k _ (fun h => ?_))
  have hq := (tdivF hx hy hd).1 h
  have hr := rg x
  rw [Int32.toInt_sub, Int32.toInt_mul, hq, hx, hy, wr32, wr32]
  have h1 := Int.emod_add_mul_ediv xi dv
  have h2 := Int.emod_nonneg xi (show dv ≠ 0 by omega)
  have h3 := Int.emod_lt_of_pos xi hd
  have h4 : xi / dv * dv = dv * (xi / dv) := Int.mul_comm _ _
  have h5 : 0 ≤ dv * (xi / dv) := Int.mul_nonneg (by omega) (Int.ediv_nonneg h (by omega))
  rw [h4]
  rw [hx] at hr
  generalize dv * (xi / dv) = w at *
  omega
theorem gt_icmp_eq {x y : Int32} {xi yi : Int} {off : Int} (tgt : Nat) (C : Cx X cc nL own rm) (d : decode cc pc = .ok (.if_icmp .eq off, 3)) (ht : (pc : Int) + off = (tgt : Int)) (hx : x.toInt = xi) (hy : y.toInt = yi) (kt : xi = yi → GG X nL P K I O J nc ns tgt L st) (kf : ¬ xi = yi → GG X nL P K I O J nc ns (pc + 3) L st) : GG X nL P K I O J nc ns pc L (.int y :: .int x :: st) :=
  g_icmp_eq tgt C d ht (fun h => kt (by have := h; first | (rw [Int32.le_iff_toInt_le] at this; omega) | (rw [Int32.lt_iff_toInt_lt] at this; omega) | (rw [← Int32.toInt_inj] at this; omega))) (fun h => kf (by have := h; first | (rw [Int32.le_iff_toInt_le] at this; omega) | (rw [Int32.lt_iff_toInt_lt] at this; omega) | (rw [← Int32.toInt_inj] at this; omega)))
theorem gt_if_eq {x : Int32} {xi : Int} {off : Int} (tgt : Nat) (C : Cx X cc nL own rm) (d : decode cc pc = .ok (.ifCond .eq off, 3)) (ht : (pc : Int) + off = (tgt : Int)) (hx : x.toInt = xi) (kt : xi = 0 → GG X nL P K I O J nc ns tgt L st) (kf : ¬ xi = 0 → GG X nL P K I O J nc ns (pc + 3) L st) : GG X nL P K I O J nc ns pc L (.int x :: st) := by
  have h0 : (0 : Int32).toInt = 0 := rfl
  exact g_if_eq tgt C d ht (fun h => kt (by have := h; first | (rw [Int32.le_iff_toInt_le] at this; omega) | (rw [Int32.lt_iff_toInt_lt] at this; omega) | (rw [← Int32.toInt_inj] at this; omega))) (fun h => kf (by have := h; first | (rw [Int32.le_iff_toInt_le] at this; omega) | (rw [Int32.lt_iff_toInt_lt] at this; omega) | (rw [← Int32.toInt_inj] at this; omega)))
theorem gt_icmp_ne {x y : Int32} {xi yi : Int} {off : Int} (tgt : Nat) (C : Cx X cc nL own rm) (d : decode cc pc = .ok (.if_icmp .ne off, 3)) (ht : (pc : Int) + off = (tgt : Int)) (hx : x.toInt = xi) (hy : y.toInt = yi) (kt : ¬ xi = yi → GG X nL P K I O J nc ns tgt L st) (kf : xi = yi → GG X nL P K I O J nc ns (pc + 3) L st) : GG X nL P K I O J nc ns pc L (.int y :: .int x :: st) :=
  g_icmp_ne tgt C d ht (fun h => kt (by have := h; first | (rw [Int32.le_iff_toInt_le] at this; omega) | (rw [Int32.lt_iff_toInt_lt] at this; omega) | (rw [← Int32.toInt_inj] at this; omega))) (fun h => kf (by have := h; first | (rw [Int32.le_iff_toInt_le] at this; omega) | (rw [Int32.lt_iff_toInt_lt] at this; omega) | (rw [← Int32.toInt_inj] at this; omega)))
theorem gt_if_ne {x : Int32} {xi : Int} {off : Int} (tgt : Nat) (C : Cx X cc nL own rm) (d : decode cc pc = .ok (.ifCond .ne off, 3)) (ht : (pc : Int) + off = (tgt : Int)) (hx : x.toInt = xi) (kt : ¬ xi = 0 → GG X nL P K I O J nc ns tgt L st) (kf : xi = 0 → GG X nL P K I O J nc ns (pc + 3) L st) : GG X nL P K I O J nc ns pc L (.int x :: st) := by
  have h0 : (0 : Int32).toInt = 0 := rfl
  exact g_if_ne tgt C d ht (fun h => kt (by have := h; first | (rw [Int32.le_iff_toInt_le] at this; omega) | (rw [Int32.lt_iff_toInt_lt] at this; omega) | (rw [← Int32.toInt_inj] at this; omega))) (fun h => kf (by have := h; first | (rw [Int32.le_iff_toInt_le] at this; omega) | (rw [Int32.lt_iff_toInt_lt] at this; omega) | (rw [← Int32.toInt_inj] at this; omega)))
theorem gt_icmp_lt {x y : Int32} {xi yi : Int} {off : Int} (tgt : Nat) (C : Cx X cc nL own rm) (d : decode cc pc = .ok (.if_icmp .lt off, 3)) (ht : (pc : Int) + off = (tgt : Int)) (hx : x.toInt = xi) (hy : y.toInt = yi) (kt : xi < yi → GG X nL P K I O J nc ns tgt L st) (kf : yi ≤ xi → GG X nL P K I O J nc ns (pc + 3) L st) : GG X nL P K I O J nc ns pc L (.int y :: .int x :: st) :=
  g_icmp_lt tgt C d ht (fun h => kt (by have := h; first | (rw [Int32.le_iff_toInt_le] at this; omega) | (rw [Int32.lt_iff_toInt_lt] at this; omega) | (rw [← Int32.toInt_inj] at this; omega))) (fun h => kf (by have := h; first | (rw [Int32.le_iff_toInt_le] at this; omega) | (rw [Int32.lt_iff_toInt_lt] at this; omega) | (rw [← Int32.toInt_inj] at this; omega)))
theorem gt_if_lt {x : Int32} {xi : Int} {off : Int} (tgt : Nat) (C : Cx X cc nL own rm) (d : decode cc pc = .ok (.ifCond .lt off, 3)) (ht : (pc : Int) + off = (tgt : Int)) (hx : x.toInt = xi) (kt : xi < 0 → GG X nL P K I O J nc ns tgt L st) (kf : 0 ≤ xi → GG X nL P K I O J nc ns (pc + 3) L st) : GG X nL P K I O J nc ns pc L (.int x :: st) := by
  have h0 : (0 : Int32).toInt = 0 := rfl
  exact g_if_lt tgt C d ht (fun h => kt (by have := h; first | (rw [Int32.le_iff_toInt_le] at this; omega) | (rw [Int32.lt_iff_toInt_lt] at this; omega) | (rw [← Int32.toInt_inj] at this; omega))) (fun h => kf (by have := h; first | (rw [Int32.le_iff_toInt_le] at this; omega) | (rw [Int32.lt_iff_toInt_lt] at this; omega) | (rw [← Int32.toInt_inj] at this; omega)))
theorem gt_icmp_ge {x y : Int32} {xi yi : Int} {off : Int} (tgt : Nat) (C : Cx X cc nL own rm) (d : decode cc pc = .ok (.if_icmp .ge off, 3)) (ht : (pc : Int) + off = (tgt : Int)) (hx : x.toInt = xi) (hy : y.toInt = yi) (kt : yi ≤ xi → GG X nL P K I O J nc ns tgt L st) (kf : xi < yi → GG X nL P K I O J nc ns (pc + 3) L st) : GG X nL P K I O J nc ns pc L (.int y :: .int x :: st) :=
  g_icmp_ge tgt C d ht (fun h => kt (by have := h; first | (rw [Int32.le_iff_toInt_le] at this; omega) | (rw [Int32.lt_iff_toInt_lt] at this; omega) | (rw [← Int32.toInt_inj] at this; omega))) (fun h => kf (by have := h; first | (rw [Int32.le_iff_toInt_le] at this; omega) | (rw [Int32.lt_iff_toInt_lt] at this; omega) | (rw [← Int32.toInt_inj] at this; omega)))
theorem gt_if_ge {x : Int32} {xi : Int} {off : Int} (tgt : Nat) (C : Cx X cc nL own rm) (d : decode cc pc = .ok (.ifCond .ge off, 3)) (ht : (pc : Int) + off = (tgt : Int)) (hx : x.toInt = xi) (kt : 0 ≤ xi → GG X nL P K I O J nc ns tgt L st) (kf : xi < 0 → GG X nL P K I O J nc ns (pc + 3) L st) : GG X nL P K I O J nc ns pc L (.int x :: st) := by
  have h0 : (0 : Int32).toInt = 0 := rfl
  exact g_if_ge tgt C d ht (fun h => kt (by have := h; first | (rw [Int32.le_iff_toInt_le] at this; omega) | (rw [Int32.lt_iff_toInt_lt] at this; omega) | (rw [← Int32.toInt_inj] at this; omega))) (fun h => kf (by have := h; first | (rw [Int32.le_iff_toInt_le] at this; omega) | (rw [Int32.lt_iff_toInt_lt] at this; omega) | (rw [← Int32.toInt_inj] at this; omega)))
theorem gt_icmp_gt {x y : Int32} {xi yi : Int} {off : Int} (tgt : Nat) (C : Cx X cc nL own rm) (d : decode cc pc = .ok (.if_icmp .gt off, 3)) (ht : (pc : Int) + off = (tgt : Int)) (hx : x.toInt = xi) (hy : y.toInt = yi) (kt : yi < xi → GG X nL P K I O J nc ns tgt L st) (kf : xi ≤ yi → GG X nL P K I O J nc ns (pc + 3) L st) : GG X nL P K I O J nc ns pc L (.int y :: .int x :: st) :=
  g_icmp_gt tgt C d ht (fun h => kt (by have := h; first | (rw [Int32.le_iff_toInt_le] at this; omega) | (rw [Int32.lt_iff_toInt_lt] at this; omega) | (rw [← Int32.toInt_inj] at this; omega))) (fun h => kf (by have := h; first | (rw [Int32.le_iff_toInt_le] at this; omega) | (rw [Int32.lt_iff_toInt_lt] at this; omega) | (rw [← Int32.toInt_inj] at this; omega)))
theorem gt_if_gt {x : Int32} {xi : Int} {off : Int} (tgt : Nat) (C : Cx X cc nL own rm) (d : decode cc pc = .ok (.ifCond .gt off, 3)) (ht : (pc : Int) + off = (tgt : Int)) (hx : x.toInt = xi) (kt : 0 < xi → GG X nL P K I O J nc ns tgt L st) (kf : xi ≤ 0 → GG X nL P K I O J nc ns (pc + 3) L st) : GG X nL P K I O J nc ns pc L (.int x :: st) := by
  have h0 : (0 : Int32).toInt = 0 := rfl
  exact g_if_gt tgt C d ht (fun h => kt (by have := h; first | (rw [Int32.le_iff_toInt_le] at this; omega) | (rw [Int32.lt_iff_toInt_lt] at this; omega) | (rw [← Int32.toInt_inj] at this; omega))) (fun h => kf (by have := h; first | (rw [Int32.le_iff_toInt_le] at this; omega) | (rw [Int32.lt_iff_toInt_lt] at this; omega) | (rw [← Int32.toInt_inj] at this; omega)))
theorem gt_icmp_le {x y : Int32} {xi yi : Int} {off : Int} (tgt : Nat) (C : Cx X cc nL own rm) (d : decode cc pc = .ok (.if_icmp .le off, 3)) (ht : (pc : Int) + off = (tgt : Int)) (hx : x.toInt = xi) (hy : y.toInt = yi) (kt : xi ≤ yi → GG X nL P K I O J nc ns tgt L st) (kf : yi < xi → GG X nL P K I O J nc ns (pc + 3) L st) : GG X nL P K I O J nc ns pc L (.int y :: .int x :: st) :=
  g_icmp_le tgt C d ht (fun h => kt (by have := h; first | (rw [Int32.le_iff_toInt_le] at this; omega) | (rw [Int32.lt_iff_toInt_lt] at this; omega) | (rw [← Int32.toInt_inj] at this; omega))) (fun h => kf (by have := h; first | (rw [Int32.le_iff_toInt_le] at this; omega) | (rw [Int32.lt_iff_toInt_lt] at this; omega) | (rw [← Int32.toInt_inj] at this; omega)))
theorem gt_if_le {x : Int32} {xi : Int} {off : Int} (tgt : Nat) (C : Cx X cc nL own rm) (d : decode cc pc = .ok (.ifCond .le off, 3)) (ht : (pc : Int) + off = (tgt : Int)) (hx : x.toInt = xi) (kt : xi ≤ 0 → GG X nL P K I O J nc ns tgt L st) (kf : 0 < xi → GG X nL P K I O J nc ns (pc + 3) L st) : GG X nL P K I O J nc ns pc L (.int x :: st) := by
  have h0 : (0 : Int32).toInt = 0 := rfl
  exact g_if_le tgt C d ht (fun h => kt (by have := h; first | (rw [Int32.le_iff_toInt_le] at this; omega) | (rw [Int32.lt_iff_toInt_lt] at this; omega) | (rw [← Int32.toInt_inj] at this; omega))) (fun h => kf (by have := h; first | (rw [Int32.le_iff_toInt_le] at this; omega) | (rw [Int32.lt_iff_toInt_lt] at this; omega) | (rw [← Int32.toInt_inj] at this; omega)))
theorem gt_iinc {i : Nat} {n : Int} {x : Int32} {xi : Int} (C : Cx X cc nL own rm) (d : decode cc pc = .ok (.iinc i n, 3)) (h : lkp L i = some (.int x)) (hx : x.toInt = xi) (hn : i < nL) (hr : -2147483648 ≤ n ∧ n < 2147483648) (k : ∀ z : Int32, z.toInt = ((xi + n) + 2147483648) % 4294967296 - 2147483648 → GG X nL P K I O J nc ns (pc + 3) (sto L i (.int z)) st) : GG X nL P K I O J nc ns pc L st :=
  g_iinc C d h rfl hn (k _ (by rw [Int32.toInt_add, wr32, hx, ofI hr]))
theorem n_iinc {i : Nat} {n : Int} {x : Int32} {xi : Int} (C : Cx X cc nL own rm) (d : decode cc pc = .ok (.iinc i n, 3)) (h : lkp L i = some (.int x)) (hx : x.toInt = xi) (hn : i < nL) (hr : -2147483648 ≤ n ∧ n < 2147483648) (ho : -2147483648 ≤ xi + n ∧ xi + n < 2147483648) (k : ∀ z : Int32, z.toInt = xi + n → GG X nL P K I O J nc ns (pc + 3) (sto L i (.int z)) st) : GG X nL P K I O J nc ns pc L st :=
  g_iinc C d h rfl hn (k _ (by rw [Int32.toInt_add, wr32, hx, ofI hr]; omega))
theorem a_iinc {i : Nat} {n : Int} {x : Int32} (C : Cx X cc nL own rm) (d : decode cc pc = .ok (.iinc i n, 3)) (h : lkp L i = some (.int x)) (hn : i < nL) (k : ∀ z : Int32, GG X nL P K I O J nc ns (pc + 3) (sto L i (.int z)) st) : GG X nL P K I O J nc ns pc L st :=
  g_iinc C d h rfl hn (k _)
theorem gt_getr {idx κ κ' f a : Nat} (C : Cx X cc nL own rm) (d : decode cc pc = .ok (.getfield idx, 3)) (h : FL own idx κ f 1) (ha : a ∈ P ∧ K a = κ) (hT : TR P K O) (hs : sp κ f = some κ') (k : ∀ b, O a f = some b → b ∈ P ∧ K b = κ' → GG X nL P K I O J nc ns (pc + 3) L (.ref b :: st)) : GG X nL P K I O J nc ns pc L (.ref a :: st) := by
  obtain ⟨b, h1, h2, h3⟩ := hT a ha.1 f κ' (by rw [ha.2]; exact hs)
  have := k b h1 ⟨h2, h3⟩
  refine g_getr C d h ha ?_
  rw [h1]; exact this
theorem gt_aald {a : Nat} {i : Int32} {ii : Int} (C : Cx X cc nL own rm) (d : decode cc pc = .ok (.aaload, 1)) (ha : a ∈ P ∧ K a = 24) (hT : TR P K O) (hii : i.toInt = ii) (hi : 0 ≤ ii ∧ ii < 6) (k : ∀ b, O a i.toNatClampNeg = some b → b ∈ P ∧ K b = 0 → GG X nL P K I O J nc ns (pc + 1) L (.ref b :: st)) : GG X nL P K I O J nc ns pc L (.int i :: .ref a :: st) := by
  have hin : vp_in i (alen 24) := vp_in_iff.mpr (by rw [hii]; exact hi)
  have hlt : i.toNatClampNeg < 6 := by
    have : i.toNatClampNeg = i.toInt.toNat := rfl
    omega
  obtain ⟨b, h1, h2, h3⟩ := hT a ha.1 i.toNatClampNeg 0 (by rw [ha.2]; show (bif Nat.blt i.toNatClampNeg 6 then some 0 else none) = some 0; rw [show Nat.blt i.toNatClampNeg 6 = true from Nat.ble_eq.mpr hlt]; rfl)
  have := k b h1 ⟨h2, h3⟩
  refine g_aald C d ha (by decide) rfl hin ?_
  rw [h1]; exact this
theorem gt_puti {idx κ f a : Nat} {x : Int32} (C : Cx X cc nL own rm) (d : decode cc pc = .ok (.putfield idx, 3)) (h : FL own idx κ f 0) (ha : a ∈ P ∧ K a = κ) (hV : SV fr P K O I0 J0 I J) (hfr : fr κ = false) (hok : okI κ f x) (hfin : (cT κ f).2.2.2 = false) (hty : cY κ f = .int ∨ (cY κ f = .boolean ∧ B01 x)) (k : ∀ I', I' = up2 I a f x → SV fr P K O I0 J0 I' J → GG X nL P K I' O J nc ns (pc + 3) L st) : GG X nL P K I O J nc ns pc L (.int x :: .ref a :: st) := by
  have hn : narrow (cY κ f) (.int x) = .int x ∧ fits (cY κ f) (.int x) = true := by
    rcases hty with e | ⟨e, hb⟩
    · rw [e]; exact ⟨rfl, rfl⟩
    · rw [e]; rcases hb.e with rfl | rfl <;> exact ⟨rfl, rfl⟩
  exact g_puti C d h ha hfin hn.1 hn.2 (k _ rfl (hV.putI ha.2 hfr hok))
theorem gt_putl {idx κ f a : Nat} {x : Int64} (C : Cx X cc nL own rm) (d : decode cc pc = .ok (.putfield idx, 3)) (h : FL own idx κ f 2) (ha : a ∈ P ∧ K a = κ) (hV : SV fr P K O I0 J0 I J) (hfr : fr κ = false) (hfin : (cT κ f).2.2.2 = false) (hty : cY κ f = .long) (k : ∀ J', J' = up2 J a f x → SV fr P K O I0 J0 I J' → GG X nL P K I O J' nc ns (pc + 3) L st) : GG X nL P K I O J nc ns pc L (.long x :: .ref a :: st) := by
  exact g_putl C d h ha hfin (by rw [hty]; rfl) (by rw [hty]; rfl) (k _ rfl (hV.putJ ha.2 hfr))
theorem gt_iald {a κ : Nat} {i : Int32} {ii : Int} (C : Cx X cc nL own rm) (d : decode cc pc = .ok (.iaload, 1)) (ha : a ∈ P ∧ K a = κ) (hκ : ¬ κ < 11) (ht : aty κ = 1) (hii : i.toInt = ii) {n : Int} (hn : ((alen κ : Nat) : Int) = n) (hi : 0 ≤ ii ∧ ii < n) (k : GG X nL P K I O J nc ns (pc + 1) L (.int (I a i.toNatClampNeg) :: st)) : GG X nL P K I O J nc ns pc L (.int i :: .ref a :: st) :=
  g_iald C d ha hκ ht (vp_in_iff.mpr (by rw [hii, hn]; exact hi)) k
theorem gt_bald {a κ : Nat} {i : Int32} {ii : Int} (C : Cx X cc nL own rm) (d : decode cc pc = .ok (.baload, 1)) (ha : a ∈ P ∧ K a = κ) (hκ : ¬ κ < 11) (ht : aty κ = 0) (hii : i.toInt = ii) {n : Int} (hn : ((alen κ : Nat) : Int) = n) (hi : 0 ≤ ii ∧ ii < n) (k : GG X nL P K I O J nc ns (pc + 1) L (.int (I a i.toNatClampNeg) :: st)) : GG X nL P K I O J nc ns pc L (.int i :: .ref a :: st) :=
  g_bald C d ha hκ ht (vp_in_iff.mpr (by rw [hii, hn]; exact hi)) k
theorem gt_zald {a κ : Nat} {i : Int32} {ii : Int} (C : Cx X cc nL own rm) (d : decode cc pc = .ok (.baload, 1)) (ha : a ∈ P ∧ K a = κ) (hκ : ¬ κ < 11) (ht : aty κ = 3) (hii : i.toInt = ii) {n : Int} (hn : ((alen κ : Nat) : Int) = n) (hi : 0 ≤ ii ∧ ii < n) (k : GG X nL P K I O J nc ns (pc + 1) L (.int (I a i.toNatClampNeg) :: st)) : GG X nL P K I O J nc ns pc L (.int i :: .ref a :: st) :=
  g_zald C d ha hκ ht (vp_in_iff.mpr (by rw [hii, hn]; exact hi)) k
theorem gt_lald {a κ : Nat} {i : Int32} {ii : Int} (C : Cx X cc nL own rm) (d : decode cc pc = .ok (.laload, 1)) (ha : a ∈ P ∧ K a = κ) (hκ : ¬ κ < 11) (ht : aty κ = 2) (hii : i.toInt = ii) {n : Int} (hn : ((alen κ : Nat) : Int) = n) (hi : 0 ≤ ii ∧ ii < n) (k : GG X nL P K I O J nc ns (pc + 1) L (.long (J a i.toNatClampNeg) :: st)) : GG X nL P K I O J nc ns pc L (.int i :: .ref a :: st) :=
  g_lald C d ha hκ ht (vp_in_iff.mpr (by rw [hii, hn]; exact hi)) k
theorem gt_iast {a κ : Nat} {i : Int32} {x : Int32} {ii : Int} (C : Cx X cc nL own rm) (d : decode cc pc = .ok (.iastore, 1)) (ha : a ∈ P ∧ K a = κ) (hκ : ¬ κ < 11) (ht : aty κ = 1) (hii : i.toInt = ii) {n : Int} (hn : ((alen κ : Nat) : Int) = n) (hi : 0 ≤ ii ∧ ii < n) (hV : SV fr P K O I0 J0 I J) (hfr : fr κ = false) (hok : okI κ i.toNatClampNeg x) (k : ∀ I', I' = up2 I a i.toNatClampNeg x → SV fr P K O I0 J0 I' J → GG X nL P K I' O J nc ns (pc + 1) L st) : GG X nL P K I O J nc ns pc L (.int x :: .int i :: .ref a :: st) :=
  g_iast C d ha hκ ht (vp_in_iff.mpr (by rw [hii, hn]; exact hi)) (k _ rfl (hV.putI ha.2 hfr hok))
theorem gt_bast {a κ : Nat} {i : Int32} {x : Int32} {ii : Int} (C : Cx X cc nL own rm) (d : decode cc pc = .ok (.bastore, 1)) (ha : a ∈ P ∧ K a = κ) (hκ : ¬ κ < 11) (ht : aty κ = 0) (hii : i.toInt = ii) {n : Int} (hn : ((alen κ : Nat) : Int) = n) (hi : 0 ≤ ii ∧ ii < n) (hV : SV fr P K O I0 J0 I J) (hfr : fr κ = false) (hok : okI κ i.toNatClampNeg (vp_nar .byte x)) (k : ∀ I', I' = up2 I a i.toNatClampNeg (vp_nar .byte x) → SV fr P K O I0 J0 I' J → GG X nL P K I' O J nc ns (pc + 1) L st) : GG X nL P K I O J nc ns pc L (.int x :: .int i :: .ref a :: st) :=
  g_bast C d ha hκ ht (vp_in_iff.mpr (by rw [hii, hn]; exact hi)) (k _ rfl (hV.putI ha.2 hfr hok))
theorem gt_zast {a κ : Nat} {i : Int32} {x : Int32} {ii : Int} (C : Cx X cc nL own rm) (d : decode cc pc = .ok (.bastore, 1)) (ha : a ∈ P ∧ K a = κ) (hκ : ¬ κ < 11) (ht : aty κ = 3) (hii : i.toInt = ii) {n : Int} (hn : ((alen κ : Nat) : Int) = n) (hi : 0 ≤ ii ∧ ii < n) (hV : SV fr P K O I0 J0 I J) (hfr : fr κ = false) (hok : okI κ i.toNatClampNeg (vp_nar .boolean x)) (k : ∀ I', I' = up2 I a i.toNatClampNeg (vp_nar .boolean x) → SV fr P K O I0 J0 I' J → GG X nL P K I' O J nc ns (pc + 1) L st) : GG X nL P K I O J nc ns pc L (.int x :: .int i :: .ref a :: st) :=
  g_zast C d ha hκ ht (vp_in_iff.mpr (by rw [hii, hn]; exact hi)) (k _ rfl (hV.putI ha.2 hfr hok))
theorem gt_last {a κ : Nat} {i : Int32} {x : Int64} {ii : Int} (C : Cx X cc nL own rm) (d : decode cc pc = .ok (.lastore, 1)) (ha : a ∈ P ∧ K a = κ) (hκ : ¬ κ < 11) (ht : aty κ = 2) (hii : i.toInt = ii) {n : Int} (hn : ((alen κ : Nat) : Int) = n) (hi : 0 ≤ ii ∧ ii < n) (hV : SV fr P K O I0 J0 I J) (hfr : fr κ = false) (k : ∀ J', J' = up2 J a i.toNatClampNeg x → SV fr P K O I0 J0 I J' → GG X nL P K I O J' nc ns (pc + 1) L st) : GG X nL P K I O J nc ns pc L (.long x :: .int i :: .ref a :: st) :=
  g_last C d ha hκ ht (vp_in_iff.mpr (by rw [hii, hn]; exact hi)) (k _ rfl (hV.putJ ha.2 hfr))
theorem gt_alen {a κ : Nat} (C : Cx X cc nL own rm) (d : decode cc pc = .ok (.arraylength, 1)) (ha : a ∈ P ∧ K a = κ) (hκ : ¬ κ < 11) (ht : aty κ < 5) (hb : alen κ < 10000) {n : Int} (hn : ((alen κ : Nat) : Int) = n) (k : ∀ z : Int32, z.toInt = n → GG X nL P K I O J nc ns (pc + 1) L (.int z :: st)) : GG X nL P K I O J nc ns pc L (.ref a :: st) :=
  g_alen C d ha hκ ht rfl (k _ (by rw [← hn]; exact nI_toInt (n := alen κ) (by omega)))
theorem mc_max : Cond.code Lib.Math.max.name Lib.Math.max.code 2 (some .int) ∈ wG := wG_p4 18 rfl (by decide +kernel)
theorem ms_max : Cond.static Lib.Math.max.name ∈ wG := wG_p4 17 (by decide +kernel) (by decide +kernel)
theorem ml_Dr_147 : Cond.methodLink "RoarMill$Drum" 147 Lib.Math.max.name ∈ wG := wG_p4 16 (by decide +kernel) (by decide +kernel)
theorem ml_RM_331 : Cond.methodLink "RoarMill" 331 Lib.Math.max.name ∈ wG := wG_p5 43 (by decide +kernel) (by decide +kernel)
theorem mc_min : Cond.code Lib.Math.min.name Lib.Math.min.code 2 (some .int) ∈ wG := wG_p4 5 rfl (by decide +kernel)
theorem ms_min : Cond.static Lib.Math.min.name ∈ wG := wG_p4 4 (by decide +kernel) (by decide +kernel)
theorem ml_Ld_35 : Cond.methodLink "RoarMill$Load" 35 Lib.Math.min.name ∈ wG := wG_p4 3 (by decide +kernel) (by decide +kernel)
theorem ml_Dr_172 : Cond.methodLink "RoarMill$Drum" 172 Lib.Math.min.name ∈ wG := wG_p4 40 (by decide +kernel) (by decide +kernel)
theorem mc_abs : Cond.code Lib.Math.abs.name Lib.Math.abs.code 1 (some .int) ∈ wG := wG_p4 15 rfl (by decide +kernel)
theorem ms_abs : Cond.static Lib.Math.abs.name ∈ wG := wG_p4 14 (by decide +kernel) (by decide +kernel)
theorem ml_Dr_163 : Cond.methodLink "RoarMill$Drum" 163 Lib.Math.abs.name ∈ wG := wG_p4 13 (by decide +kernel) (by decide +kernel)
theorem ml_Si_51 : Cond.methodLink "RoarMill$Sight" 51 Lib.Math.abs.name ∈ wG := wG_p4 130 (by decide +kernel) (by decide +kernel)
theorem mi_Math : Cond.initialized "java/lang/Math" ∈ wG := wG_p1 16 (by decide +kernel) (by decide +kernel)
theorem gt_max {idx : Nat} {x y : Int32} (C : Cx X cc nL own rm) (d : decode cc pc = .ok (.invokestatic idx, 3)) (hl0 : Cond.methodLink own idx Lib.Math.max.name ∈ wG) (hw : (st.map fun v => v.category).sum ≤ 8) (hf : 1 ≤ rm.frames ∧ 21 ≤ rm.locals) (hro : nc ≤ rm.cells ∧ ns ≤ rm.slots) (k : ∀ z : Int32, x.toInt ≤ z.toInt ∧ y.toInt ≤ z.toInt ∧ (z.toInt = x.toInt ∨ z.toInt = y.toInt) → GG X nL P K I O J nc ns (pc + 3) L (.int z :: st)) : GG X nL P K I O J nc ns pc L (.int y :: .int x :: st) := by
  obtain ⟨p, l, e, R, s, m, args, below, meth, c, Q, A, D, cy, ad⟩ := X
  obtain ⟨⟨hx, hb, hml, hown, hts⟩, hK, hA, hlk, hSC, hR⟩ := C
  subst hR
  refine fun ls H locs hl hP hD hS => va_mmax hx hb (by rw [hml]; exact hl.1.symm) hown (hts _ hl0) (hts _ ms_max) (hts _ mi_Math) (hts _ mc_max) hf.1 (by omega) hro.1 hro.2 d (k _ ?_ ls H locs hl hP hD hS)
  by_cases q : x < y
  · rw [if_pos q]; rw [Int32.lt_iff_toInt_lt] at q; exact ⟨by omega, by omega, Or.inr rfl⟩
  · rw [if_neg q]; rw [Int32.lt_iff_toInt_lt] at q; exact ⟨by omega, by omega, Or.inl rfl⟩
theorem gt_min {idx : Nat} {x y : Int32} (C : Cx X cc nL own rm) (d : decode cc pc = .ok (.invokestatic idx, 3)) (hl0 : Cond.methodLink own idx Lib.Math.min.name ∈ wG) (hw : (st.map fun v => v.category).sum ≤ 8) (hf : 1 ≤ rm.frames ∧ 21 ≤ rm.locals) (hro : nc ≤ rm.cells ∧ ns ≤ rm.slots) (k : ∀ z : Int32, z.toInt ≤ x.toInt ∧ z.toInt ≤ y.toInt ∧ (z.toInt = x.toInt ∨ z.toInt = y.toInt) → GG X nL P K I O J nc ns (pc + 3) L (.int z :: st)) : GG X nL P K I O J nc ns pc L (.int y :: .int x :: st) := by
  obtain ⟨p, l, e, R, s, m, args, below, meth, c, Q, A, D, cy, ad⟩ := X
  obtain ⟨⟨hx, hb, hml, hown, hts⟩, hK, hA, hlk, hSC, hR⟩ := C
  subst hR
  refine fun ls H locs hl hP hD hS => va_mmin hx hb (by rw [hml]; exact hl.1.symm) hown (hts _ hl0) (hts _ ms_min) (hts _ mi_Math) (hts _ mc_min) hf.1 (by omega) hro.1 hro.2 d (k _ ?_ ls H locs hl hP hD hS)
  by_cases q : y < x
  · first | (rw [if_pos q]; rw [Int32.lt_iff_toInt_lt] at q; exact ⟨by omega, by omega, Or.inr rfl⟩) | skip
  · first | (rw [if_neg q]; rw [Int32.lt_iff_toInt_lt] at q; exact ⟨by omega, by omega, Or.inl rfl⟩) | skip
theorem a_abs {idx : Nat} {x : Int32} (C : Cx X cc nL own rm) (d : decode cc pc = .ok (.invokestatic idx, 3)) (hl0 : Cond.methodLink own idx Lib.Math.abs.name ∈ wG) (hw : (st.map fun v => v.category).sum ≤ 8) (hf : 1 ≤ rm.frames ∧ 21 ≤ rm.locals) (hro : nc ≤ rm.cells ∧ ns ≤ rm.slots) (k : ∀ z : Int32, GG X nL P K I O J nc ns (pc + 3) L (.int z :: st)) : GG X nL P K I O J nc ns pc L (.int x :: st) := by
  obtain ⟨p, l, e, R, s, m, args, below, meth, c, Q, A, D, cy, ad⟩ := X
  obtain ⟨⟨hx, hb, hml, hown, hts⟩, hK, hA, hlk, hSC, hR⟩ := C
  subst hR
  exact fun ls H locs hl hP hD hS => va_mabs hx hb (by rw [hml]; exact hl.1.symm) hown (hts _ hl0) (hts _ ms_abs) (hts _ mi_Math) (hts _ mc_abs) hf.1 (by omega) hro.1 hro.2 d (k _ ls H locs hl hP hD hS)
theorem gt_ialdc {a κ c : Nat} {i : Int32} {ii : Int} (C : Cx X cc nL own rm) (d : decode cc pc = .ok (.iaload, 1)) (ha : a ∈ P ∧ K a = κ) (hκ : ¬ κ < 11) (ht : aty κ = 1) (hii : i.toInt = ii) {n : Int} (hn : ((alen κ : Nat) : Int) = n) (hi : 0 ≤ ii ∧ ii < n) (hc : Int.toNat ii = c) (k : GG X nL P K I O J nc ns (pc + 1) L (.int (I a c) :: st)) : GG X nL P K I O J nc ns pc L (.int i :: .ref a :: st) := by
  have e : i.toNatClampNeg = c := by rw [← hc, ← hii]; rfl
  refine g_iald C d ha hκ ht (vp_in_iff.mpr (by rw [hii, hn]; exact hi)) ?_
  rw [e]; exact k
theorem gt_iastc {a κ c : Nat} {i x : Int32} {ii : Int} (C : Cx X cc nL own rm) (d : decode cc pc = .ok (.iastore, 1)) (ha : a ∈ P ∧ K a = κ) (hκ : ¬ κ < 11) (ht : aty κ = 1) (hii : i.toInt = ii) {n : Int} (hn : ((alen κ : Nat) : Int) = n) (hi : 0 ≤ ii ∧ ii < n) (hc : Int.toNat ii = c) (hV : SV fr P K O I0 J0 I J) (hfr : fr κ = false) (hok : okI κ c x) (k : ∀ I', I' = up2 I a c x → SV fr P K O I0 J0 I' J → GG X nL P K I' O J nc ns (pc + 1) L st) : GG X nL P K I O J nc ns pc L (.int x :: .int i :: .ref a :: st) := by
  have e : i.toNatClampNeg = c := by rw [← hc, ← hii]; rfl
  refine g_iast C d ha hκ ht (vp_in_iff.mpr (by rw [hii, hn]; exact hi)) ?_
  rw [e]; exact k _ rfl (hV.putI ha.2 hfr hok)
theorem gt_getS {idx κ f a b : Nat} (C : Cx X cc nL own rm) (d : decode cc pc = .ok (.getfield idx, 3)) (h : FL own idx κ f 1) (ha : a ∈ P ∧ K a = κ) (ho : O a f = some b) (k : GG X nL P K I O J nc ns (pc + 3) L (.ref b :: st)) : GG X nL P K I O J nc ns pc L (.ref a :: st) := by
  refine g_getr C d h ha ?_
  rw [ho]; exact k
theorem gt_getN {idx κ f a : Nat} (C : Cx X cc nL own rm) (d : decode cc pc = .ok (.getfield idx, 3)) (h : FL own idx κ f 1) (ha : a ∈ P ∧ K a = κ) (ho : O a f = none) (k : GG X nL P K I O J nc ns (pc + 3) L (.null :: st)) : GG X nL P K I O J nc ns pc L (.ref a :: st) := by
  refine g_getr C d h ha ?_
  rw [ho]; exact k

theorem s_callV_v {idx n nL' κ a : Nat} {y : MethodName} {cc' : ByteArray} {rt' : Option FieldType} {rm' : Room} {fr' : Nat → Bool} {ρ : Int32 → (Nat → Nat → Int32) → Prop} {av : AD → List Value} {rest : List Value} (C : Cx X cc nL own rm) (d : decode cc pc = .ok (.invokevirtual idx, 3)) (hm : MF y cc' nL' rt' n) (hv : MV y) (hl0 : LN own idx y) (ha : a ∈ P ∧ K a = κ) (hκ : κ < 11) (hcn : cN κ = y.cls) (hV : SV fr P K O I0 J0 I J) (hfr : ∀ κ, fr κ = true → fr' κ = true) (hc : ConA y cc' nL' rt' rm' P K I O J (fun ad => .ref a :: av ad) (SPo fr' 0 ρ P K I O J)) (hn : (av (adX X)).length = n) (hst : st = (av (adX X)).reverse ++ .ref a :: rest) (hw : (rest.map fun v => v.category).sum ≤ 8) (hR' : rm'.frames + 1 ≤ rm.frames ∧ 8 + (nL' + 11) + rm'.locals ≤ rm.locals) (hz : rm'.cells = 0 ∧ rm'.slots = 0) (hro : nc ≤ rm.cells ∧ ns ≤ rm.slots) (k : ∀ (I' : Nat → Nat → Int32) (J' : Nat → Nat → Int64), SV fr P K O I0 J0 I' J' → FR fr' K I J I' J' → ρ 0 I' → GG X nL P K I' O J' nc ns (pc + 3) L rest) : GG X nL P K I O J nc ns pc L st := by
  refine g_callV C d hm hv hl0 ha hκ hcn hc hn hst hw hR' (by rw [hz.1, hz.2]; exact hro) (fun r P' K' I' O' J' hp => ?_)
  obtain ⟨rfl, rfl, rfl, h1, h2, h3⟩ := hp
  rw [hz.1, hz.2]
  obtain ⟨rfl, hz3⟩ := h3; exact k I' J' (hV.call hfr h1 h2) h2 hz3
theorem s_callV_i {idx n nL' κ a : Nat} {y : MethodName} {cc' : ByteArray} {rt' : Option FieldType} {rm' : Room} {fr' : Nat → Bool} {ρ : Int32 → (Nat → Nat → Int32) → Prop} {av : AD → List Value} {rest : List Value} (C : Cx X cc nL own rm) (d : decode cc pc = .ok (.invokevirtual idx, 3)) (hm : MF y cc' nL' rt' n) (hv : MV y) (hl0 : LN own idx y) (ha : a ∈ P ∧ K a = κ) (hκ : κ < 11) (hcn : cN κ = y.cls) (hV : SV fr P K O I0 J0 I J) (hfr : ∀ κ, fr κ = true → fr' κ = true) (hc : ConA y cc' nL' rt' rm' P K I O J (fun ad => .ref a :: av ad) (SPo fr' 1 ρ P K I O J)) (hn : (av (adX X)).length = n) (hst : st = (av (adX X)).reverse ++ .ref a :: rest) (hw : (rest.map fun v => v.category).sum ≤ 8) (hR' : rm'.frames + 1 ≤ rm.frames ∧ 8 + (nL' + 11) + rm'.locals ≤ rm.locals) (hz : rm'.cells = 0 ∧ rm'.slots = 0) (hro : nc ≤ rm.cells ∧ ns ≤ rm.slots) (k : ∀ (I' : Nat → Nat → Int32) (J' : Nat → Nat → Int64), SV fr P K O I0 J0 I' J' → FR fr' K I J I' J' → (z : Int32) → ρ z I' → GG X nL P K I' O J' nc ns (pc + 3) L (.int z :: rest)) : GG X nL P K I O J nc ns pc L st := by
  refine g_callV C d hm hv hl0 ha hκ hcn hc hn hst hw hR' (by rw [hz.1, hz.2]; exact hro) (fun r P' K' I' O' J' hp => ?_)
  obtain ⟨rfl, rfl, rfl, h1, h2, h3⟩ := hp
  rw [hz.1, hz.2]
  obtain ⟨z, rfl, hz3⟩ := h3; exact k I' J' (hV.call hfr h1 h2) h2 z hz3
theorem s_callV_z {idx n nL' κ a : Nat} {y : MethodName} {cc' : ByteArray} {rt' : Option FieldType} {rm' : Room} {fr' : Nat → Bool} {ρ : Int32 → (Nat → Nat → Int32) → Prop} {av : AD → List Value} {rest : List Value} (C : Cx X cc nL own rm) (d : decode cc pc = .ok (.invokevirtual idx, 3)) (hm : MF y cc' nL' rt' n) (hv : MV y) (hl0 : LN own idx y) (ha : a ∈ P ∧ K a = κ) (hκ : κ < 11) (hcn : cN κ = y.cls) (hV : SV fr P K O I0 J0 I J) (hfr : ∀ κ, fr κ = true → fr' κ = true) (hc : ConA y cc' nL' rt' rm' P K I O J (fun ad => .ref a :: av ad) (SPo fr' 2 ρ P K I O J)) (hn : (av (adX X)).length = n) (hst : st = (av (adX X)).reverse ++ .ref a :: rest) (hw : (rest.map fun v => v.category).sum ≤ 8) (hR' : rm'.frames + 1 ≤ rm.frames ∧ 8 + (nL' + 11) + rm'.locals ≤ rm.locals) (hz : rm'.cells = 0 ∧ rm'.slots = 0) (hro : nc ≤ rm.cells ∧ ns ≤ rm.slots) (k : ∀ (I' : Nat → Nat → Int32) (J' : Nat → Nat → Int64), SV fr P K O I0 J0 I' J' → FR fr' K I J I' J' → (z : Int32) → B01 z → ρ z I' → GG X nL P K I' O J' nc ns (pc + 3) L (.int z :: rest)) : GG X nL P K I O J nc ns pc L st := by
  refine g_callV C d hm hv hl0 ha hκ hcn hc hn hst hw hR' (by rw [hz.1, hz.2]; exact hro) (fun r P' K' I' O' J' hp => ?_)
  obtain ⟨rfl, rfl, rfl, h1, h2, h3⟩ := hp
  rw [hz.1, hz.2]
  obtain ⟨z, rfl, hb, hz3⟩ := h3; exact k I' J' (hV.call hfr h1 h2) h2 z hb hz3
theorem s_callV_l {idx n nL' κ a : Nat} {y : MethodName} {cc' : ByteArray} {rt' : Option FieldType} {rm' : Room} {fr' : Nat → Bool} {ρ : Int32 → (Nat → Nat → Int32) → Prop} {av : AD → List Value} {rest : List Value} (C : Cx X cc nL own rm) (d : decode cc pc = .ok (.invokevirtual idx, 3)) (hm : MF y cc' nL' rt' n) (hv : MV y) (hl0 : LN own idx y) (ha : a ∈ P ∧ K a = κ) (hκ : κ < 11) (hcn : cN κ = y.cls) (hV : SV fr P K O I0 J0 I J) (hfr : ∀ κ, fr κ = true → fr' κ = true) (hc : ConA y cc' nL' rt' rm' P K I O J (fun ad => .ref a :: av ad) (SPo fr' 3 ρ P K I O J)) (hn : (av (adX X)).length = n) (hst : st = (av (adX X)).reverse ++ .ref a :: rest) (hw : (rest.map fun v => v.category).sum ≤ 8) (hR' : rm'.frames + 1 ≤ rm.frames ∧ 8 + (nL' + 11) + rm'.locals ≤ rm.locals) (hz : rm'.cells = 0 ∧ rm'.slots = 0) (hro : nc ≤ rm.cells ∧ ns ≤ rm.slots) (k : ∀ (I' : Nat → Nat → Int32) (J' : Nat → Nat → Int64), SV fr P K O I0 J0 I' J' → FR fr' K I J I' J' → (z : Int64) → ρ 0 I' → GG X nL P K I' O J' nc ns (pc + 3) L (.long z :: rest)) : GG X nL P K I O J nc ns pc L st := by
  refine g_callV C d hm hv hl0 ha hκ hcn hc hn hst hw hR' (by rw [hz.1, hz.2]; exact hro) (fun r P' K' I' O' J' hp => ?_)
  obtain ⟨rfl, rfl, rfl, h1, h2, h3⟩ := hp
  rw [hz.1, hz.2]
  obtain ⟨z, rfl, hz3⟩ := h3; exact k I' J' (hV.call hfr h1 h2) h2 z hz3
theorem s_callS_v {idx n nL' : Nat} {y : MethodName} {cc' : ByteArray} {rt' : Option FieldType} {rm' : Room} {fr' : Nat → Bool} {ρ : Int32 → (Nat → Nat → Int32) → Prop} {av : AD → List Value} {rest : List Value} (C : Cx X cc nL own rm) (d : decode cc pc = .ok (.invokestatic idx, 3)) (hm : MF y cc' nL' rt' n) (hv : Cond.static y ∈ wG) (hl0 : LN own idx y) (hV : SV fr P K O I0 J0 I J) (hfr : ∀ κ, fr κ = true → fr' κ = true) (hc : ConA y cc' nL' rt' rm' P K I O J av (SPo fr' 0 ρ P K I O J)) (hn : (av (adX X)).length = n) (hst : st = (av (adX X)).reverse ++ rest) (hw : (rest.map fun v => v.category).sum ≤ 8) (hR' : rm'.frames + 1 ≤ rm.frames ∧ 8 + (nL' + 11) + rm'.locals ≤ rm.locals) (hz : rm'.cells = 0 ∧ rm'.slots = 0) (hro : nc ≤ rm.cells ∧ ns ≤ rm.slots) (k : ∀ (I' : Nat → Nat → Int32) (J' : Nat → Nat → Int64), SV fr P K O I0 J0 I' J' → FR fr' K I J I' J' → ρ 0 I' → GG X nL P K I' O J' nc ns (pc + 3) L rest) : GG X nL P K I O J nc ns pc L st := by
  refine g_callS C d hm hv hl0 hc hn hst hw hR' (by rw [hz.1, hz.2]; exact hro) (fun r P' K' I' O' J' hp => ?_)
  obtain ⟨rfl, rfl, rfl, h1, h2, h3⟩ := hp
  rw [hz.1, hz.2]
  obtain ⟨rfl, hz3⟩ := h3; exact k I' J' (hV.call hfr h1 h2) h2 hz3
theorem s_callS_i {idx n nL' : Nat} {y : MethodName} {cc' : ByteArray} {rt' : Option FieldType} {rm' : Room} {fr' : Nat → Bool} {ρ : Int32 → (Nat → Nat → Int32) → Prop} {av : AD → List Value} {rest : List Value} (C : Cx X cc nL own rm) (d : decode cc pc = .ok (.invokestatic idx, 3)) (hm : MF y cc' nL' rt' n) (hv : Cond.static y ∈ wG) (hl0 : LN own idx y) (hV : SV fr P K O I0 J0 I J) (hfr : ∀ κ, fr κ = true → fr' κ = true) (hc : ConA y cc' nL' rt' rm' P K I O J av (SPo fr' 1 ρ P K I O J)) (hn : (av (adX X)).length = n) (hst : st = (av (adX X)).reverse ++ rest) (hw : (rest.map fun v => v.category).sum ≤ 8) (hR' : rm'.frames + 1 ≤ rm.frames ∧ 8 + (nL' + 11) + rm'.locals ≤ rm.locals) (hz : rm'.cells = 0 ∧ rm'.slots = 0) (hro : nc ≤ rm.cells ∧ ns ≤ rm.slots) (k : ∀ (I' : Nat → Nat → Int32) (J' : Nat → Nat → Int64), SV fr P K O I0 J0 I' J' → FR fr' K I J I' J' → (z : Int32) → ρ z I' → GG X nL P K I' O J' nc ns (pc + 3) L (.int z :: rest)) : GG X nL P K I O J nc ns pc L st := by
  refine g_callS C d hm hv hl0 hc hn hst hw hR' (by rw [hz.1, hz.2]; exact hro) (fun r P' K' I' O' J' hp => ?_)
  obtain ⟨rfl, rfl, rfl, h1, h2, h3⟩ := hp
  rw [hz.1, hz.2]
  obtain ⟨z, rfl, hz3⟩ := h3; exact k I' J' (hV.call hfr h1 h2) h2 z hz3
theorem s_callS_z {idx n nL' : Nat} {y : MethodName} {cc' : ByteArray} {rt' : Option FieldType} {rm' : Room} {fr' : Nat → Bool} {ρ : Int32 → (Nat → Nat → Int32) → Prop} {av : AD → List Value} {rest : List Value} (C : Cx X cc nL own rm) (d : decode cc pc = .ok (.invokestatic idx, 3)) (hm : MF y cc' nL' rt' n) (hv : Cond.static y ∈ wG) (hl0 : LN own idx y) (hV : SV fr P K O I0 J0 I J) (hfr : ∀ κ, fr κ = true → fr' κ = true) (hc : ConA y cc' nL' rt' rm' P K I O J av (SPo fr' 2 ρ P K I O J)) (hn : (av (adX X)).length = n) (hst : st = (av (adX X)).reverse ++ rest) (hw : (rest.map fun v => v.category).sum ≤ 8) (hR' : rm'.frames + 1 ≤ rm.frames ∧ 8 + (nL' + 11) + rm'.locals ≤ rm.locals) (hz : rm'.cells = 0 ∧ rm'.slots = 0) (hro : nc ≤ rm.cells ∧ ns ≤ rm.slots) (k : ∀ (I' : Nat → Nat → Int32) (J' : Nat → Nat → Int64), SV fr P K O I0 J0 I' J' → FR fr' K I J I' J' → (z : Int32) → B01 z → ρ z I' → GG X nL P K I' O J' nc ns (pc + 3) L (.int z :: rest)) : GG X nL P K I O J nc ns pc L st := by
  refine g_callS C d hm hv hl0 hc hn hst hw hR' (by rw [hz.1, hz.2]; exact hro) (fun r P' K' I' O' J' hp => ?_)
  obtain ⟨rfl, rfl, rfl, h1, h2, h3⟩ := hp
  rw [hz.1, hz.2]
  obtain ⟨z, rfl, hb, hz3⟩ := h3; exact k I' J' (hV.call hfr h1 h2) h2 z hb hz3
theorem s_callS_l {idx n nL' : Nat} {y : MethodName} {cc' : ByteArray} {rt' : Option FieldType} {rm' : Room} {fr' : Nat → Bool} {ρ : Int32 → (Nat → Nat → Int32) → Prop} {av : AD → List Value} {rest : List Value} (C : Cx X cc nL own rm) (d : decode cc pc = .ok (.invokestatic idx, 3)) (hm : MF y cc' nL' rt' n) (hv : Cond.static y ∈ wG) (hl0 : LN own idx y) (hV : SV fr P K O I0 J0 I J) (hfr : ∀ κ, fr κ = true → fr' κ = true) (hc : ConA y cc' nL' rt' rm' P K I O J av (SPo fr' 3 ρ P K I O J)) (hn : (av (adX X)).length = n) (hst : st = (av (adX X)).reverse ++ rest) (hw : (rest.map fun v => v.category).sum ≤ 8) (hR' : rm'.frames + 1 ≤ rm.frames ∧ 8 + (nL' + 11) + rm'.locals ≤ rm.locals) (hz : rm'.cells = 0 ∧ rm'.slots = 0) (hro : nc ≤ rm.cells ∧ ns ≤ rm.slots) (k : ∀ (I' : Nat → Nat → Int32) (J' : Nat → Nat → Int64), SV fr P K O I0 J0 I' J' → FR fr' K I J I' J' → (z : Int64) → ρ 0 I' → GG X nL P K I' O J' nc ns (pc + 3) L (.long z :: rest)) : GG X nL P K I O J nc ns pc L st := by
  refine g_callS C d hm hv hl0 hc hn hst hw hR' (by rw [hz.1, hz.2]; exact hro) (fun r P' K' I' O' J' hp => ?_)
  obtain ⟨rfl, rfl, rfl, h1, h2, h3⟩ := hp
  rw [hz.1, hz.2]
  obtain ⟨z, rfl, hz3⟩ := h3; exact k I' J' (hV.call hfr h1 h2) h2 z hz3
theorem s_callV_vp {idx n nL' κ a : Nat} {y : MethodName} {cc' : ByteArray} {rt' : Option FieldType} {rm' : Room} {ρ : Int32 → (Nat → Nat → Int32) → Prop} {av : AD → List Value} {rest : List Value} (C : Cx X cc nL own rm) (d : decode cc pc = .ok (.invokevirtual idx, 3)) (hm : MF y cc' nL' rt' n) (hv : MV y) (hl0 : LN own idx y) (ha : a ∈ P ∧ K a = κ) (hκ : κ < 11) (hcn : cN κ = y.cls) (hc : ConA y cc' nL' rt' rm' P K I O J (fun ad => .ref a :: av ad) (SPo frP 0 ρ P K I O J)) (hn : (av (adX X)).length = n) (hst : st = (av (adX X)).reverse ++ .ref a :: rest) (hw : (rest.map fun v => v.category).sum ≤ 8) (hR' : rm'.frames + 1 ≤ rm.frames ∧ 8 + (nL' + 11) + rm'.locals ≤ rm.locals) (hz : rm'.cells = 0 ∧ rm'.slots = 0) (hro : nc ≤ rm.cells ∧ ns ≤ rm.slots) (k : ρ 0 I → GG X nL P K I O J nc ns (pc + 3) L rest) : GG X nL P K I O J nc ns pc L st := by
  refine g_callV C d hm hv hl0 ha hκ hcn hc hn hst hw hR' (by rw [hz.1, hz.2]; exact hro) (fun r P' K' I' O' J' hp => ?_)
  obtain ⟨rfl, rfl, rfl, h1, h2, h3⟩ := hp
  rw [hz.1, hz.2]
  obtain ⟨e1, e2⟩ := h2.pure; subst e1; subst e2; obtain ⟨rfl, hz3⟩ := h3; exact k hz3
theorem s_callV_ip {idx n nL' κ a : Nat} {y : MethodName} {cc' : ByteArray} {rt' : Option FieldType} {rm' : Room} {ρ : Int32 → (Nat → Nat → Int32) → Prop} {av : AD → List Value} {rest : List Value} (C : Cx X cc nL own rm) (d : decode cc pc = .ok (.invokevirtual idx, 3)) (hm : MF y cc' nL' rt' n) (hv : MV y) (hl0 : LN own idx y) (ha : a ∈ P ∧ K a = κ) (hκ : κ < 11) (hcn : cN κ = y.cls) (hc : ConA y cc' nL' rt' rm' P K I O J (fun ad => .ref a :: av ad) (SPo frP 1 ρ P K I O J)) (hn : (av (adX X)).length = n) (hst : st = (av (adX X)).reverse ++ .ref a :: rest) (hw : (rest.map fun v => v.category).sum ≤ 8) (hR' : rm'.frames + 1 ≤ rm.frames ∧ 8 + (nL' + 11) + rm'.locals ≤ rm.locals) (hz : rm'.cells = 0 ∧ rm'.slots = 0) (hro : nc ≤ rm.cells ∧ ns ≤ rm.slots) (k : (z : Int32) → ρ z I → GG X nL P K I O J nc ns (pc + 3) L (.int z :: rest)) : GG X nL P K I O J nc ns pc L st := by
  refine g_callV C d hm hv hl0 ha hκ hcn hc hn hst hw hR' (by rw [hz.1, hz.2]; exact hro) (fun r P' K' I' O' J' hp => ?_)
  obtain ⟨rfl, rfl, rfl, h1, h2, h3⟩ := hp
  rw [hz.1, hz.2]
  obtain ⟨e1, e2⟩ := h2.pure; subst e1; subst e2; obtain ⟨z, rfl, hz3⟩ := h3; exact k z hz3
theorem s_callV_zp {idx n nL' κ a : Nat} {y : MethodName} {cc' : ByteArray} {rt' : Option FieldType} {rm' : Room} {ρ : Int32 → (Nat → Nat → Int32) → Prop} {av : AD → List Value} {rest : List Value} (C : Cx X cc nL own rm) (d : decode cc pc = .ok (.invokevirtual idx, 3)) (hm : MF y cc' nL' rt' n) (hv : MV y) (hl0 : LN own idx y) (ha : a ∈ P ∧ K a = κ) (hκ : κ < 11) (hcn : cN κ = y.cls) (hc : ConA y cc' nL' rt' rm' P K I O J (fun ad => .ref a :: av ad) (SPo frP 2 ρ P K I O J)) (hn : (av (adX X)).length = n) (hst : st = (av (adX X)).reverse ++ .ref a :: rest) (hw : (rest.map fun v => v.category).sum ≤ 8) (hR' : rm'.frames + 1 ≤ rm.frames ∧ 8 + (nL' + 11) + rm'.locals ≤ rm.locals) (hz : rm'.cells = 0 ∧ rm'.slots = 0) (hro : nc ≤ rm.cells ∧ ns ≤ rm.slots) (k : (z : Int32) → B01 z → ρ z I → GG X nL P K I O J nc ns (pc + 3) L (.int z :: rest)) : GG X nL P K I O J nc ns pc L st := by
  refine g_callV C d hm hv hl0 ha hκ hcn hc hn hst hw hR' (by rw [hz.1, hz.2]; exact hro) (fun r P' K' I' O' J' hp => ?_)
  obtain ⟨rfl, rfl, rfl, h1, h2, h3⟩ := hp
  rw [hz.1, hz.2]
  obtain ⟨e1, e2⟩ := h2.pure; subst e1; subst e2; obtain ⟨z, rfl, hb, hz3⟩ := h3; exact k z hb hz3
theorem s_callV_lp {idx n nL' κ a : Nat} {y : MethodName} {cc' : ByteArray} {rt' : Option FieldType} {rm' : Room} {ρ : Int32 → (Nat → Nat → Int32) → Prop} {av : AD → List Value} {rest : List Value} (C : Cx X cc nL own rm) (d : decode cc pc = .ok (.invokevirtual idx, 3)) (hm : MF y cc' nL' rt' n) (hv : MV y) (hl0 : LN own idx y) (ha : a ∈ P ∧ K a = κ) (hκ : κ < 11) (hcn : cN κ = y.cls) (hc : ConA y cc' nL' rt' rm' P K I O J (fun ad => .ref a :: av ad) (SPo frP 3 ρ P K I O J)) (hn : (av (adX X)).length = n) (hst : st = (av (adX X)).reverse ++ .ref a :: rest) (hw : (rest.map fun v => v.category).sum ≤ 8) (hR' : rm'.frames + 1 ≤ rm.frames ∧ 8 + (nL' + 11) + rm'.locals ≤ rm.locals) (hz : rm'.cells = 0 ∧ rm'.slots = 0) (hro : nc ≤ rm.cells ∧ ns ≤ rm.slots) (k : (z : Int64) → ρ 0 I → GG X nL P K I O J nc ns (pc + 3) L (.long z :: rest)) : GG X nL P K I O J nc ns pc L st := by
  refine g_callV C d hm hv hl0 ha hκ hcn hc hn hst hw hR' (by rw [hz.1, hz.2]; exact hro) (fun r P' K' I' O' J' hp => ?_)
  obtain ⟨rfl, rfl, rfl, h1, h2, h3⟩ := hp
  rw [hz.1, hz.2]
  obtain ⟨e1, e2⟩ := h2.pure; subst e1; subst e2; obtain ⟨z, rfl, hz3⟩ := h3; exact k z hz3
theorem s_callS_vp {idx n nL' : Nat} {y : MethodName} {cc' : ByteArray} {rt' : Option FieldType} {rm' : Room} {ρ : Int32 → (Nat → Nat → Int32) → Prop} {av : AD → List Value} {rest : List Value} (C : Cx X cc nL own rm) (d : decode cc pc = .ok (.invokestatic idx, 3)) (hm : MF y cc' nL' rt' n) (hv : Cond.static y ∈ wG) (hl0 : LN own idx y) (hc : ConA y cc' nL' rt' rm' P K I O J av (SPo frP 0 ρ P K I O J)) (hn : (av (adX X)).length = n) (hst : st = (av (adX X)).reverse ++ rest) (hw : (rest.map fun v => v.category).sum ≤ 8) (hR' : rm'.frames + 1 ≤ rm.frames ∧ 8 + (nL' + 11) + rm'.locals ≤ rm.locals) (hz : rm'.cells = 0 ∧ rm'.slots = 0) (hro : nc ≤ rm.cells ∧ ns ≤ rm.slots) (k : ρ 0 I → GG X nL P K I O J nc ns (pc + 3) L rest) : GG X nL P K I O J nc ns pc L st := by
  refine g_callS C d hm hv hl0 hc hn hst hw hR' (by rw [hz.1, hz.2]; exact hro) (fun r P' K' I' O' J' hp => ?_)
  obtain ⟨rfl, rfl, rfl, h1, h2, h3⟩ := hp
  rw [hz.1, hz.2]
  obtain ⟨e1, e2⟩ := h2.pure; subst e1; subst e2; obtain ⟨rfl, hz3⟩ := h3; exact k hz3
theorem s_callS_ip {idx n nL' : Nat} {y : MethodName} {cc' : ByteArray} {rt' : Option FieldType} {rm' : Room} {ρ : Int32 → (Nat → Nat → Int32) → Prop} {av : AD → List Value} {rest : List Value} (C : Cx X cc nL own rm) (d : decode cc pc = .ok (.invokestatic idx, 3)) (hm : MF y cc' nL' rt' n) (hv : Cond.static y ∈ wG) (hl0 : LN own idx y) (hc : ConA y cc' nL' rt' rm' P K I O J av (SPo frP 1 ρ P K I O J)) (hn : (av (adX X)).length = n) (hst : st = (av (adX X)).reverse ++ rest) (hw : (rest.map fun v => v.category).sum ≤ 8) (hR' : rm'.frames + 1 ≤ rm.frames ∧ 8 + (nL' + 11) + rm'.locals ≤ rm.locals) (hz : rm'.cells = 0 ∧ rm'.slots = 0) (hro : nc ≤ rm.cells ∧ ns ≤ rm.slots) (k : (z : Int32) → ρ z I → GG X nL P K I O J nc ns (pc + 3) L (.int z :: rest)) : GG X nL P K I O J nc ns pc L st := by
  refine g_callS C d hm hv hl0 hc hn hst hw hR' (by rw [hz.1, hz.2]; exact hro) (fun r P' K' I' O' J' hp => ?_)
  obtain ⟨rfl, rfl, rfl, h1, h2, h3⟩ := hp
  rw [hz.1, hz.2]
  obtain ⟨e1, e2⟩ := h2.pure; subst e1; subst e2; obtain ⟨z, rfl, hz3⟩ := h3; exact k z hz3
theorem s_callS_zp {idx n nL' : Nat} {y : MethodName} {cc' : ByteArray} {rt' : Option FieldType} {rm' : Room} {ρ : Int32 → (Nat → Nat → Int32) → Prop} {av : AD → List Value} {rest : List Value} (C : Cx X cc nL own rm) (d : decode cc pc = .ok (.invokestatic idx, 3)) (hm : MF y cc' nL' rt' n) (hv : Cond.static y ∈ wG) (hl0 : LN own idx y) (hc : ConA y cc' nL' rt' rm' P K I O J av (SPo frP 2 ρ P K I O J)) (hn : (av (adX X)).length = n) (hst : st = (av (adX X)).reverse ++ rest) (hw : (rest.map fun v => v.category).sum ≤ 8) (hR' : rm'.frames + 1 ≤ rm.frames ∧ 8 + (nL' + 11) + rm'.locals ≤ rm.locals) (hz : rm'.cells = 0 ∧ rm'.slots = 0) (hro : nc ≤ rm.cells ∧ ns ≤ rm.slots) (k : (z : Int32) → B01 z → ρ z I → GG X nL P K I O J nc ns (pc + 3) L (.int z :: rest)) : GG X nL P K I O J nc ns pc L st := by
  refine g_callS C d hm hv hl0 hc hn hst hw hR' (by rw [hz.1, hz.2]; exact hro) (fun r P' K' I' O' J' hp => ?_)
  obtain ⟨rfl, rfl, rfl, h1, h2, h3⟩ := hp
  rw [hz.1, hz.2]
  obtain ⟨e1, e2⟩ := h2.pure; subst e1; subst e2; obtain ⟨z, rfl, hb, hz3⟩ := h3; exact k z hb hz3
theorem s_callS_lp {idx n nL' : Nat} {y : MethodName} {cc' : ByteArray} {rt' : Option FieldType} {rm' : Room} {ρ : Int32 → (Nat → Nat → Int32) → Prop} {av : AD → List Value} {rest : List Value} (C : Cx X cc nL own rm) (d : decode cc pc = .ok (.invokestatic idx, 3)) (hm : MF y cc' nL' rt' n) (hv : Cond.static y ∈ wG) (hl0 : LN own idx y) (hc : ConA y cc' nL' rt' rm' P K I O J av (SPo frP 3 ρ P K I O J)) (hn : (av (adX X)).length = n) (hst : st = (av (adX X)).reverse ++ rest) (hw : (rest.map fun v => v.category).sum ≤ 8) (hR' : rm'.frames + 1 ≤ rm.frames ∧ 8 + (nL' + 11) + rm'.locals ≤ rm.locals) (hz : rm'.cells = 0 ∧ rm'.slots = 0) (hro : nc ≤ rm.cells ∧ ns ≤ rm.slots) (k : (z : Int64) → ρ 0 I → GG X nL P K I O J nc ns (pc + 3) L (.long z :: rest)) : GG X nL P K I O J nc ns pc L st := by
  refine g_callS C d hm hv hl0 hc hn hst hw hR' (by rw [hz.1, hz.2]; exact hro) (fun r P' K' I' O' J' hp => ?_)
  obtain ⟨rfl, rfl, rfl, h1, h2, h3⟩ := hp
  rw [hz.1, hz.2]
  obtain ⟨e1, e2⟩ := h2.pure; subst e1; subst e2; obtain ⟨z, rfl, hz3⟩ := h3; exact k z hz3
theorem s_vret {I : Nat → Nat → Int32} {J : Nat → Nat → Int64} {ρ : Int32 → (Nat → Nat → Int32) → Prop} (C : Cx X cc nL own rm) (E : Rx X none (SPo fr 0 ρ P K I0 O J0) rm) (d : decode cc pc = .ok (.return_, 1)) (hro : nc ≤ rm.cells ∧ ns ≤ rm.slots) (hV : SV fr P K O I0 J0 I J) (hρ : ρ 0 I) : GG X nL P K I O J nc ns pc L [] := g_vret C E d hro.1 hro.2 ⟨rfl, rfl, rfl, hV.1, hV.2, rfl, hρ⟩
theorem s_iret {v : Int32} {ρ : Int32 → (Nat → Nat → Int32) → Prop} (C : Cx X cc nL own rm) (E : Rx X (some .int) (SPo fr 1 ρ P K I0 O J0) rm) (d : decode cc pc = .ok (.ireturn, 1)) (hro : nc ≤ rm.cells ∧ ns ≤ rm.slots) (hV : SV fr P K O I0 J0 I J) (hρ : ρ v I) : GG X nL P K I O J nc ns pc L [.int v] := g_iret C E d hro.1 hro.2 ⟨rfl, rfl, rfl, hV.1, hV.2, v, rfl, hρ⟩
theorem s_zret {v : Int32} {ρ : Int32 → (Nat → Nat → Int32) → Prop} (C : Cx X cc nL own rm) (E : Rx X (some .boolean) (SPo fr 2 ρ P K I0 O J0) rm) (d : decode cc pc = .ok (.ireturn, 1)) (hro : nc ≤ rm.cells ∧ ns ≤ rm.slots) (hV : SV fr P K O I0 J0 I J) (hb : B01 v) (hρ : ρ v I) : GG X nL P K I O J nc ns pc L [.int v] := g_zret C E d hb.e hro.1 hro.2 ⟨rfl, rfl, rfl, hV.1, hV.2, v, rfl, hb, hρ⟩
theorem s_lret {v : Int64} {ρ : Int32 → (Nat → Nat → Int32) → Prop} (C : Cx X cc nL own rm) (E : Rx X (some .long) (SPo fr 3 ρ P K I0 O J0) rm) (d : decode cc pc = .ok (.lreturn, 1)) (hro : nc ≤ rm.cells ∧ ns ≤ rm.slots) (hV : SV fr P K O I0 J0 I J) (hρ : ρ 0 I) : GG X nL P K I O J nc ns pc L [.long v] := g_lret C E d hro.1 hro.2 ⟨rfl, rfl, rfl, hV.1, hV.2, v, rfl, hρ⟩
theorem s_callW_ip {idx n nL' i : Nat} {y : MethodName} {cc' : ByteArray} {rt' : Option FieldType} {rm' : Room} {ρ : Int32 → (Nat → Nat → Int32) → Prop} {av : AD → List Value} {rest : List Value} (C : Cx X cc nL own rm) (d : decode cc pc = .ok (.invokevirtual idx, 3)) (hm : MF y cc' nL' rt' n) (hv : MV y) (hl0 : LN own idx y) (hi : i < 31) (hcn : y.cls = "java/lang/String") (hc : ConA y cc' nL' rt' rm' P K I O J (fun ad => .ref (ad.1 i) :: av ad) (SPo frP 1 ρ P K I O J)) (hn : (av (adX X)).length = n) (hst : st = (av (adX X)).reverse ++ .ref ((adX X).1 i) :: rest) (hw : (rest.map fun v => v.category).sum ≤ 8) (hR' : rm'.frames + 1 ≤ rm.frames ∧ 8 + (nL' + 11) + rm'.locals ≤ rm.locals) (hz : rm'.cells = 0 ∧ rm'.slots = 0) (hro : nc ≤ rm.cells ∧ ns ≤ rm.slots) (k : (z : Int32) → ρ z I → GG X nL P K I O J nc ns (pc + 3) L (.int z :: rest)) : GG X nL P K I O J nc ns pc L st := by
  have hrc : RC X P K I O J ((adX X).1 i) y.cls := by rw [hcn]; exact RC.str C hi
  refine g_callVR2 (ra := fun ad => ad.1 i) C d hm hv hl0 hrc hc hn hst hw hR' (by rw [hz.1, hz.2]; exact hro) (fun r P' K' I' O' J' hp => ?_)
  obtain ⟨rfl, rfl, rfl, h1, h2, h3⟩ := hp
  rw [hz.1, hz.2]
  obtain ⟨e1, e2⟩ := h2.pure; subst e1; subst e2
  obtain ⟨z, rfl, hz3⟩ := h3; exact k z hz3
end TROWS
