section HROWS
variable {X : CTX} {cc : ByteArray} {nL : Nat} {own : String} {rm : Room} {P : List Nat} {K : Nat → Nat} {I I0 : Nat → Nat → Int32} {O : Nat → Nat → Option Nat} {J J0 : Nat → Nat → Int64} {nc ns pc : Nat} {L : List (Nat × Value)} {st : List Value}
theorem h_iret {fr : Nat → Bool} {post : PST} {v : Int32} {ρ : Int32 → (Nat → Nat → Int32) → Prop} (C : Cx X cc nL own rm) (E : Rx X (some .int) post rm) (hpost : ∀ z I_ J_, SV fr P K O I0 J0 I_ J_ → ρ z I_ → post (some (.int z)) P K I_ O J_) (d : decode cc pc = .ok (.ireturn, 1)) (hro : nc ≤ rm.cells ∧ ns ≤ rm.slots) (hV : SV fr P K O I0 J0 I J) (hρ : ρ v I) : GG X nL P K I O J nc ns pc L [.int v] := g_iret C E d hro.1 hro.2 (hpost v I J hV hρ)
theorem pw_relab {cy : Nat → ClassId} {K' : Nat → Nat} (h : ∀ b, b ∈ P → K' b = K b) : pw cy P K' I O J = pw cy P K I O J := by
  unfold pw va_pl
  refine List.map_congr_left (fun b hb => ?_)
  show (b, cEr cy (K' b) (I b) (O b) (J b)) = (b, cEr cy (K b) (I b) (O b) (J b))
  rw [h b hb]
theorem g_relab {K' : Nat → Nat} (h : ∀ b, b ∈ P → K' b = K b) (k : GG X nL P K' I O J nc ns pc L st) : GG X nL P K I O J nc ns pc L st := by
  obtain ⟨p, l, e, R, s, m, args, below, meth, c, Q, A, D, cy, ad⟩ := X
  intro ls H locs hl hP hD hS
  have e1 := pw_relab (cy := cy) (I := I) (O := O) (J := J) h
  exact k ls H locs hl (by rw [e1]; exact hP) (by rw [e1]; exact hD) hS
theorem fresh_out (P : List Nat) : ∃ B, B ∉ P := by
  have h : ∀ (P : List Nat), ∃ n, ∀ b, b ∈ P → b < n := by
    intro P
    induction P with
    | nil => exact ⟨0, fun b hb => absurd hb List.not_mem_nil⟩
    | cons c t ih =>
      obtain ⟨n, hn⟩ := ih
      refine ⟨n + c + 1, fun b hb => ?_⟩
      rcases List.mem_cons.mp hb with e | e
      · omega
      · have := hn b e; omega
  obtain ⟨n, hn⟩ := h P
  exact ⟨n, fun z => Nat.lt_irrefl _ (hn n z)⟩
theorem GM.mk {M : Nat} (h1 : 1 ≤ (I M 0).toInt) (h2 : 1 ≤ (I M 4).toInt) (h3 : 1 ≤ (I M 7).toInt) : GM I M := by unfold GM; exact ⟨h1, h2, h3⟩
end HROWS
/-- the end of the reference's mill: cells may have come, the MILL may be another -/
def MMo (a S : Nat) (x : Int32) (P : List Nat) (K : Nat → Nat) (I : Nat → Nat → Int32) (O : Nat → Nat → Option Nat) (J : Nat → Nat → Int64) : PST := fun r P' K' I' O' _ => (∃ z, r = some (.int z)) ∧ (∀ b, b ∈ P → b ∈ P' ∧ K' b = K b ∧ (frR (K b) = true → ∀ k, I' b k = I b k) ∧ (b ≠ a → O' b = O b)) ∧ IV P' K' I' O' ∧ (∀ f, f ≠ 3 → f ≠ 4 → O' a f = O a f) ∧ (O' a 3 = none ∨ ∃ M, O' a 3 = some M ∧ (M ∈ P' ∧ K' M = 9) ∧ GM I' M) ∧ (((I' a 18).toInt = (I a 18).toInt ∧ (I' S 27).toInt = (I S 27).toInt) ∨ (I' a 18).toInt = 0) ∧ (((Int32.toInt x < 0 ∨ (I a 6).toInt < Int32.toInt x) ∧ (I' a 6).toInt = (I a 6).toInt) ∨ (0 ≤ Int32.toInt x ∧ Int32.toInt x ≤ (I a 6).toInt ∧ (I' a 6).toInt = 0))
