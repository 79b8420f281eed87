/-! ownership: the references of new cells go to new cells, and no two of them to the same -/
def CI (P0 P : List Nat) (O : WO) (a : Nat) : Prop := (∀ b f c, b ∈ P → (b ∉ P0 ∨ b = a) → O b f = some c → c ∈ P ∧ c ∉ P0) ∧ (∀ b f b' f' c, b ∈ P → (b ∉ P0 ∨ b = a) → b' ∈ P → (b' ∉ P0 ∨ b' = a) → O b f = some c → O b' f' = some c → b = b' ∧ f = f')
theorem CI.start {P : List Nat} {O : WO} {a : Nat} (ho : ∀ k, O a k = none) : CI P P O a := by
  have h : ∀ b f c, b ∈ P → (b ∉ P ∨ b = a) → O b f = some c → False := fun b f c hb hn hc => by
    rcases hn with z | z
    · exact z hb
    · rw [z, ho] at hc; cases hc
  exact ⟨fun b f c hb hn hc => (h b f c hb hn hc).elim, fun b f b' f' c hb hn _ _ hc _ => (h b f c hb hn hc).elim⟩
theorem CI.cell {P0 P : List Nat} {O : WO} {a q : Nat} (h : CI P0 P O a) (hP : ∀ b, b ∈ P0 → b ∈ P) (ha : a ∈ P0) (hq : q ∉ P) (f : Nat) : CI P0 (P ++ [q]) (up2 (clr O q none) a f (some q)) a := by
  have hne : ∀ b, b ∈ P → ¬ b = q := fun b hb z => hq (z ▸ hb)
  have naq : ¬ q = a := fun z => hq (by rw [z]; exact hP a ha)
  have key : ∀ b g c, b ∈ P ++ [q] → up2 (clr O q none) a f (some q) b g = some c → (b = a ∧ g = f ∧ c = q) ∨ (b ∈ P ∧ O b g = some c) := by
    intro b g c hb hc
    by_cases e : b = a ∧ g = f
    · rw [e.1, e.2, up2_self] at hc; exact Or.inl ⟨e.1, e.2, (Option.some.inj hc).symm⟩
    · rw [up2_ne _ _ e] at hc
      rcases List.mem_append.mp hb with z | z
      · rw [clr_ne _ _ (hne b z)] at hc; exact Or.inr ⟨z, hc⟩
      · rw [List.mem_singleton.mp z, clr_self] at hc; cases hc
  refine ⟨fun b g c hb hn hc => ?_, fun b g b' g' c hb hn hb' hn' hc hc' => ?_⟩
  · rcases key b g c hb hc with ⟨_, _, e3⟩ | ⟨e1, e2⟩
    · rw [e3]; exact ⟨List.mem_append_right _ (List.mem_singleton.mpr rfl), fun z => hq (hP q z)⟩
    · obtain ⟨z1, z2⟩ := h.1 b g c e1 hn e2
      exact ⟨List.mem_append_left _ z1, z2⟩
  · rcases key b g c hb hc with ⟨e1, e2, e3⟩ | ⟨e1, e2⟩
    · rcases key b' g' c hb' hc' with ⟨f1, f2, f3⟩ | ⟨f1, f2⟩
      · exact ⟨e1.trans f1.symm, e2.trans f2.symm⟩
      · exact absurd (h.1 b' g' c f1 hn' f2).1 (by rw [e3]; exact hq)
    · rcases key b' g' c hb' hc' with ⟨f1, f2, f3⟩ | ⟨f1, f2⟩
      · exact absurd (h.1 b g c e1 hn e2).1 (by rw [f3]; exact hq)
      · exact h.2 b g b' g' c e1 hn f1 hn' e2 f2
theorem CI.sub {P0 P P2 : List Nat} {O O2 : WO} {a q : Nat} (h : CI P0 P O a) (hP : ∀ b, b ∈ P0 → b ∈ P) (ha : a ∈ P0) (hq : q ∉ P) (hc : CI (P ++ [q]) P2 O2 q) (hold : ∀ b, b ∈ P → b ∈ P2 ∧ O2 b = O b) (hq2 : q ∈ P2) (f : Nat) : CI P0 P2 (up2 O2 a f (some q)) a := by
  have haP := hP a ha
  have hqq : q ∈ P ++ [q] := List.mem_append_right _ (List.mem_singleton.mpr rfl)
  have key : ∀ b g c, b ∈ P2 → (b ∉ P0 ∨ b = a) → up2 O2 a f (some q) b g = some c → (b = a ∧ g = f ∧ c = q) ∨ (b ∈ P ∧ O b g = some c ∧ c ∈ P ∧ c ∉ P0) ∨ (b ∉ P ∧ (b ∉ P ++ [q] ∨ b = q) ∧ O2 b g = some c ∧ c ∈ P2 ∧ c ∉ P ++ [q]) := by
    intro b g c hb hn hcc
    by_cases e : b = a ∧ g = f
    · rw [e.1, e.2, up2_self] at hcc; exact Or.inl ⟨e.1, e.2, (Option.some.inj hcc).symm⟩
    · rw [up2_ne _ _ e] at hcc
      by_cases z : b ∈ P
      · rw [(hold b z).2] at hcc
        obtain ⟨z1, z2⟩ := h.1 b g c z hn hcc
        exact Or.inr (Or.inl ⟨z, hcc, z1, z2⟩)
      · have w : b ∉ P ++ [q] ∨ b = q := by
          by_cases y : b = q
          · exact Or.inr y
          · exact Or.inl (fun v => (List.mem_append.mp v).elim z (fun v => y (List.mem_singleton.mp v)))
        obtain ⟨z1, z2⟩ := hc.1 b g c hb w hcc
        exact Or.inr (Or.inr ⟨z, w, hcc, z1, z2⟩)
  refine ⟨fun b g c hb hn hcc => ?_, fun b g b' g' c hb hn hb' hn' hcc hcc' => ?_⟩
  · rcases key b g c hb hn hcc with ⟨_, _, e3⟩ | ⟨e1, e2, e3, e4⟩ | ⟨e1, e2, e3, e4, e5⟩
    · rw [e3]; exact ⟨hq2, fun z => hq (hP q z)⟩
    · exact ⟨(hold c e3).1, e4⟩
    · exact ⟨e4, fun z => e5 (List.mem_append_left _ (hP c z))⟩
  · rcases key b g c hb hn hcc with ⟨e1, e2, e3⟩ | ⟨e1, e2, e3, e4⟩ | ⟨e1, e2, e3, e4, e5⟩
    · rcases key b' g' c hb' hn' hcc' with ⟨f1, f2, f3⟩ | ⟨f1, f2, f3, f4⟩ | ⟨f1, f2, f3, f4, f5⟩
      · exact ⟨e1.trans f1.symm, e2.trans f2.symm⟩
      · exact absurd f3 (by rw [e3]; exact hq)
      · exact absurd hqq (fun z => f5 (by rw [e3]; exact z))
    · rcases key b' g' c hb' hn' hcc' with ⟨f1, f2, f3⟩ | ⟨f1, f2, f3, f4⟩ | ⟨f1, f2, f3, f4, f5⟩
      · exact absurd e3 (by rw [f3]; exact hq)
      · exact h.2 b g b' g' c e1 hn f1 hn' e2 f2
      · exact absurd (List.mem_append_left _ e3) f5
    · rcases key b' g' c hb' hn' hcc' with ⟨f1, f2, f3⟩ | ⟨f1, f2, f3, f4⟩ | ⟨f1, f2, f3, f4, f5⟩
      · exact absurd hqq (fun z => e5 (by rw [f3]; exact z))
      · exact absurd (List.mem_append_left _ f3) e5
      · exact hc.2 b g b' g' c hb e2 hb' f2 e3 f3
def CQo (D : List Nat) (ext : WI → WO → Prop) (P : List Nat) (K : Nat → Nat) (I : WI) (O : WO) (J : WJ) (a : Nat) : PST := fun r P' K' I' O' J' => CPo D ext P K I O J a r P' K' I' O' J' ∧ CI P P' O' a
section OROWS
variable {X : CTX} {cc : ByteArray} {nL : Nat} {own : String} {rm : Room} {P : List Nat} {K : Nat → Nat} {I : WI} {O : WO} {J : WJ} {nc ns pc : Nat} {L : List (Nat × Value)} {st : List Value} {P0 : List Nat} {K0 : Nat → Nat} {I0 : WI} {O0 : WO} {J0 : WJ} {a : Nat} {D : List Nat}
theorem gq_newa {atype : ArrayType} {κ : Nat} {n : Int32} {ty : FieldType} (C : Cx X cc nL own rm) (hC : CT P0 K0 I0 O0 J0 P K I O J a D) (hI : CI P0 P O a) (ha : a ∈ P0) (d : decode cc pc = .ok (.newarray atype, 2)) (hκ : ¬ κ < 11) (hs : ∀ f, sp κ f = none) (hw : Cond.arrayClass (newarray.typeOf atype) ∈ wG) (hty : newarray.typeOf atype = ty) (hc : (aty κ = 0 ∧ ty = .byte) ∨ (aty κ = 1 ∧ ty = .int) ∨ (aty κ = 2 ∧ ty = .long) ∨ (aty κ = 3 ∧ ty = .boolean)) (hn : n.toInt = ((alen κ : Nat) : Int)) (hb0 : alen κ < 10000) (hro : nc + 1 ≤ rm.cells ∧ ns + alen κ ≤ rm.slots) (k : ∀ (P' : List Nat) (K' : Nat → Nat) (I' : WI) (O' : WO) (J' : WJ) (q : Nat), CT P0 K0 I0 O0 J0 P' K' I' O' J' a D → (q ∈ P' ∧ K' q = κ) → I' a = I a → O' a = O a → (∀ f, CI P0 P' (up2 O' a f (some q)) a) → GG X nL P' K' I' O' J' (nc + 1) (ns + alen κ) (pc + 2) L (.ref q :: st)) : GG X nL P K I O J nc ns pc L (.int n :: st) := by
  have haP := (hC.1 a ha).1
  refine g_newa C d hκ hw hty hc hn hb0 hro (fun q hq => ?_)
  have hne : ¬ a = q := fun z => hq (z ▸ haP)
  exact k _ _ _ _ _ q (hC.cell ha hq hs (by omega)) ⟨List.mem_append_right _ (List.mem_singleton.mpr rfl), lab_self _ _ _⟩ (clr_ne _ _ hne) (clr_ne _ _ hne) (fun f => hI.cell (fun b hb => (hC.1 b hb).1) ha hq f)
theorem gq_sub {idx idx2 κ nL' : Nat} {y : MethodName} {cc' : ByteArray} {rm' : Room} {Dq : List Nat} {ext : Nat → WI → WO → Prop} (C : Cx X cc nL own rm) (hC : CT P0 K0 I0 O0 J0 P K I O J a D) (hI : CI P0 P O a) (ha : a ∈ P0) (d : decode cc pc = .ok (.new idx, 3)) (d3 : decode cc (pc + 3) = .ok (.dup, 1)) (d4 : decode cc (pc + 4) = .ok (.invokespecial idx2, 3)) (hκ : κ < 11) (hw : Cond.classLink own idx (cN κ) ∈ wG) (hi : Cond.instantiable (cN κ) (nf κ) ∈ wG) (hn : Cond.initialized (cN κ) ∈ wG) (hm : MF y cc' nL' none 0) (hv : Cond.instanceMethod y ∈ wG) (hyn : y.name = "<init>") (hl0 : LN own idx2 y) (hs : ∀ f κ', sp κ f = some κ' → f ∈ Dq)
    (hc : ∀ (P : List Nat) (K : Nat → Nat) (I : WI) (O : WO) (J : WJ) (b : Nat), b ∈ P ∧ K b = κ → (∀ k, I b k = 0) → (∀ k, O b k = none) → Con y cc' nL' none rm' P K I O J [.ref b] (CQo Dq (ext b) P K I O J b)) (hst : ((st).map fun v => v.category).sum ≤ 7) (hR' : rm'.frames + 1 ≤ rm.frames ∧ 8 + (nL' + 11) + rm'.locals ≤ rm.locals) (hro : nc + 1 + rm'.cells ≤ rm.cells ∧ ns + nf κ + rm'.slots ≤ rm.slots)
    (k : ∀ (P' : List Nat) (K' : Nat → Nat) (I' : WI) (O' : WO) (J' : WJ) (q : Nat), CT P0 K0 I0 O0 J0 P' K' I' O' J' a D → (q ∈ P' ∧ K' q = κ) → I' a = I a → O' a = O a → ext q I' O' → (∀ c, c ∈ P → c ∈ P' ∧ K' c = K c) → (∀ f, CI P0 P' (up2 O' a f (some q)) a) → GG X nL P' K' I' O' J' (nc + 1 + rm'.cells) (ns + nf κ + rm'.slots) (pc + 7) L (.ref q :: st)) : GG X nL P K I O J nc ns pc L st := by
  refine g_new C d hκ hw hi hn ⟨by omega, by omega⟩ (fun q hq => ?_)
  refine g_dup C d3 rfl ?_
  refine g_callI (av := fun _ => []) C d4 hm hv hyn hl0 (hc _ _ _ _ _ q ⟨List.mem_append_right _ (List.mem_singleton.mpr rfl), lab_self _ _ _⟩ (fun k => by rw [clr_self]) (fun k => by rw [clr_self])) rfl rfl (by simp only [List.map_cons, List.sum_cons]; have : (Value.ref q).category = 1 := rfl; omega) hR' hro (fun r P' K' I' O' J' hp => ?_)
  obtain ⟨⟨rfl, h1, h2⟩, h3⟩ := hp
  obtain ⟨e1, e2, e3, e4, e5⟩ := hC.sub ha hq h1 hs
  have hne : ∀ b, b ∈ P → ¬ b = q := fun b hb z => hq (z ▸ hb)
  refine k _ _ _ _ _ q e1 e2 e3 e4 h2 e5 (fun f => hI.sub (fun b hb => (hC.1 b hb).1) ha hq h3 (fun b hb => ⟨(e5 b hb).1, ?_⟩) e2.1 f)
  rw [((h1.1 b (List.mem_append_left _ hb)).2.2 (hne b hb)).2.1, clr_ne _ _ (hne b hb)]
end OROWS
