/-! what lies apart in a class's object -/
theorem sep_all {P : List Nat} {K : Nat → Nat} {O : WO} {x mo : Nat} {Q : List Nat} (hT : TR P K O) (hx : x ∈ P ∧ K x = 8) (hQ : OW Q P O x mo) : SPd O (rf O x 3) (rf O x 1) ∧ (¬ WD O (rf O x 3) (rf O x 4) ∧ ¬ WD O (rf O x 3) x ∧ ¬ WD O (rf O x 3) (rf O x 12)) ∧ (¬ rf O x 12 = x ∧ ¬ rf O x 4 = x ∧ ¬ rf O x 4 = rf O x 12 ∧ ¬ rf O x 1 = x ∧ ¬ rf O x 1 = rf O x 12 ∧ ¬ rf O x 1 = rf O x 4 ∧ ¬ rf O x 3 = x) ∧ (∀ j, j < 5 → ¬ rf O (rf O x 1) (10 + j) = x ∧ ¬ rf O (rf O x 1) (10 + j) = rf O x 12 ∧ ¬ rf O (rf O x 1) (10 + j) = rf O x 4) ∧ ¬ TB O x (rf O x 5) := by
  have nlb : ∀ {c d κ κ' : Nat}, K c = κ → K d = κ' → κ ≠ κ' → ¬ c = d := fun h1 h2 h3 z => h3 (by rw [← h1, ← h2, z])
  have t1 := rf_ok hT hx (show sp 8 1 = some 3 from rfl)
  have t3 := rf_ok hT hx (show sp 8 3 = some 0 from rfl)
  have t4 := rf_ok hT hx (show sp 8 4 = some 18 from rfl)
  have t5 := rf_ok hT hx (show sp 8 5 = some 19 from rfl)
  have t12 := rf_ok hT hx (show sp 8 12 = some 28 from rfl)
  have tL := rf_ok hT t3 (show sp 0 0 = some 2 from rfl)
  have tA := rf_ok hT t3 (show sp 0 1 = some 11 from rfl)
  have tH := rf_ok hT tL (show sp 2 0 = some 11 from rfl)
  have tB := rf_ok hT tL (show sp 2 1 = some 11 from rfl)
  have tP := rf_ok hT tL (show sp 2 2 = some 11 from rfl)
  have cl : ∀ a f κ κ', a ∈ Q → (a ∈ P ∧ K a = κ) → sp κ f = some κ' → rf O a f ∈ Q := fun a f κ κ' h1 h2 h3 => hQ.2.2.2.1 a f _ h1 (rf_o hT h2 h3)
  have q1 := cl x 1 8 3 hQ.1 hx rfl
  have q3 := cl x 3 8 0 hQ.1 hx rfl
  have qL := cl _ 0 0 2 q3 t3 rfl
  have nj : ∀ {a f κ κ' b g μ μ' : Nat}, a ∈ Q → (a ∈ P ∧ K a = κ) → sp κ f = some κ' → b ∈ Q → (b ∈ P ∧ K b = μ) → sp μ g = some μ' → (κ ≠ μ ∨ f ≠ g) → ¬ rf O a f = rf O b g := fun h1 h2 h3 h4 h5 h6 h7 z => by
    have o1 := rf_o hT h2 h3
    have o2 := rf_o hT h5 h6
    rw [z] at o1
    have e := hQ.2.2.2.2 _ _ _ _ _ h1 h4 o1 o2
    rcases h7 with w | w
    · exact w (by rw [← h2.2, ← h5.2, e.1])
    · exact w e.2
  have tj : ∀ j, j < 5 → ∃ κ', sp 3 (10 + j) = some κ' ∧ 11 ≤ κ' ∧ κ' ≤ 14 := fun j hj => by
    have : j = 0 ∨ j = 1 ∨ j = 2 ∨ j = 3 ∨ j = 4 := by omega
    rcases this with rfl | rfl | rfl | rfl | rfl
    · exact ⟨13, rfl, by decide, by decide⟩
    · exact ⟨11, rfl, by decide, by decide⟩
    · exact ⟨11, rfl, by decide, by decide⟩
    · exact ⟨12, rfl, by decide, by decide⟩
    · exact ⟨14, rfl, by decide, by decide⟩
  refine ⟨⟨⟨nj qL tL rfl qL tL rfl (Or.inr (by decide)), nj qL tL rfl qL tL rfl (Or.inr (by decide)), nj qL tL rfl q3 t3 rfl (Or.inl (by decide)), nj qL tL rfl qL tL rfl (Or.inr (by decide)), nj qL tL rfl q3 t3 rfl (Or.inl (by decide)), nj qL tL rfl q3 t3 rfl (Or.inl (by decide))⟩, ⟨nlb tH.2 t3.2 (by decide), nlb tB.2 t3.2 (by decide), nlb tP.2 t3.2 (by decide), nlb tA.2 t3.2 (by decide)⟩, fun w hw => ?_⟩, ⟨fun h => ?_, fun h => ?_, fun h => ?_⟩, ⟨nlb t12.2 hx.2 (by decide), nlb t4.2 hx.2 (by decide), nlb t4.2 t12.2 (by decide), nlb t1.2 hx.2 (by decide), nlb t1.2 t12.2 (by decide), nlb t1.2 t4.2 (by decide), nlb t3.2 hx.2 (by decide)⟩, fun j hj => ?_, fun h => ?_⟩
  · refine ⟨?_, fun j hj => ?_⟩
    · rcases hw with h | h | h | h | h
      · rw [h]; exact nlb t1.2 t3.2 (by decide)
      · rw [h]; exact nlb t1.2 tH.2 (by decide)
      · rw [h]; exact nlb t1.2 tB.2 (by decide)
      · rw [h]; exact nlb t1.2 tP.2 (by decide)
      · rw [h]; exact nlb t1.2 tA.2 (by decide)
    · obtain ⟨κ', s1, s2, s3⟩ := tj j hj
      have tk := rf_ok hT t1 s1
      rcases hw with h | h | h | h | h
      · rw [h]; exact nlb tk.2 t3.2 (by omega)
      · rw [h]; exact nj q1 t1 s1 qL tL (show sp 2 0 = some 11 from rfl) (Or.inl (by decide))
      · rw [h]; exact nj q1 t1 s1 qL tL (show sp 2 1 = some 11 from rfl) (Or.inl (by decide))
      · rw [h]; exact nj q1 t1 s1 qL tL (show sp 2 2 = some 11 from rfl) (Or.inl (by decide))
      · rw [h]; exact nj q1 t1 s1 q3 t3 (show sp 0 1 = some 11 from rfl) (Or.inl (by decide))
  · rcases h with h | h | h | h | h
    · exact nlb t4.2 t3.2 (by decide) h
    · exact nlb t4.2 tH.2 (by decide) h
    · exact nlb t4.2 tB.2 (by decide) h
    · exact nlb t4.2 tP.2 (by decide) h
    · exact nlb t4.2 tA.2 (by decide) h
  · rcases h with h | h | h | h | h
    · exact nlb hx.2 t3.2 (by decide) h
    · exact nlb hx.2 tH.2 (by decide) h
    · exact nlb hx.2 tB.2 (by decide) h
    · exact nlb hx.2 tP.2 (by decide) h
    · exact nlb hx.2 tA.2 (by decide) h
  · rcases h with h | h | h | h | h
    · exact nlb t12.2 t3.2 (by decide) h
    · exact nlb t12.2 tH.2 (by decide) h
    · exact nlb t12.2 tB.2 (by decide) h
    · exact nlb t12.2 tP.2 (by decide) h
    · exact nlb t12.2 tA.2 (by decide) h
  · obtain ⟨κ', s1, s2, s3⟩ := tj j hj
    have tk := rf_ok hT t1 s1
    exact ⟨nlb tk.2 hx.2 (by omega), nlb tk.2 t12.2 (by omega), nlb tk.2 t4.2 (by omega)⟩
  · exact (WQ.fld hT hx hQ (show sp 8 5 = some 19 from rfl) (by decide)).2 h
theorem Wp.both {α : Type} {o : Option α} {Q R : α → Prop} (h : Wp o Q) (k : Pp o R) : Wp o (fun q => Q q ∧ R q) := by
  obtain ⟨a, e, q⟩ := h
  exact ⟨a, e, q, k a e⟩
