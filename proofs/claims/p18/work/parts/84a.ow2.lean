theorem OW.sw {Q P : List Nat} {O : WO} {x mo : Nat} {c1 c2 : Nat} (h : OW Q P O x mo) (h1 : O x 1 = some c1) (h2 : O x 2 = some c2) : OW Q P (sw12 O x) x mo := by
  obtain ⟨q1, q2, q3, q4, q5⟩ := h
  have r1 : rf O x 1 = c1 := by unfold rf; rw [h1]; rfl
  have r2 : rf O x 2 = c2 := by unfold rf; rw [h2]; rfl
  have key : ∀ b f c, sw12 O x b f = some c → O b (if b = x then (if f = 1 then 2 else if f = 2 then 1 else f) else f) = some c := by
    intro b f c hc
    by_cases e : b = x
    · subst e
      rw [if_pos rfl]
      by_cases e1 : f = 1
      · subst e1
        rw [if_pos rfl, h2]
        unfold sw12 at hc
        rw [up2_ne _ _ (fun z => absurd z.2 (by decide)), up2_self, r2] at hc
        exact hc
      · rw [if_neg e1]
        by_cases e2 : f = 2
        · subst e2
          rw [if_pos rfl, h1]
          unfold sw12 at hc
          rw [up2_self, r1] at hc
          exact hc
        · rw [if_neg e2]
          rw [sw12_o e1 e2] at hc; exact hc
    · rw [if_neg e]; rw [sw12_r e] at hc; exact hc
  refine ⟨q1, q2, q3, fun b f c hb hc => q4 b _ c hb (key b f c hc), fun b f b' f' c hb hb' hc hc' => ?_⟩
  have k1 := q5 b _ b' _ c hb hb' (key b f c hc) (key b' f' c hc')
  refine ⟨k1.1, ?_⟩
  have k2 := k1.2
  rw [← k1.1] at k2
  by_cases e : b = x
  · rw [if_pos e, if_pos e] at k2
    by_cases a1 : f = 1
    · by_cases b1 : f' = 1
      · rw [a1, b1]
      · by_cases b2 : f' = 2
        · subst a1 b2; simp at k2
        · subst a1; simp [b1, b2] at k2; omega
    · by_cases a2 : f = 2
      · by_cases b1 : f' = 1
        · subst a2 b1; simp at k2
        · by_cases b2 : f' = 2
          · rw [a2, b2]
          · subst a2; simp [b1, b2] at k2; omega
      · by_cases b1 : f' = 1
        · subst b1; simp [a1, a2] at k2
        · by_cases b2 : f' = 2
          · subst b2; simp [a1, a2] at k2
          · simp [a1, a2, b1, b2] at k2; exact k2
  · rw [if_neg e, if_neg e] at k2; exact k2
theorem OW.up {Q P P2 : List Nat} {O O2 : WO} {x mo : Nat} (h : OW Q P O x mo) (hP : ∀ b, b ∈ P → b ∈ P2) (hO : ∀ b, b ∈ Q → O2 b = O b) : OW Q P2 O2 x mo := by
  obtain ⟨q1, q2, q3, q4, q5⟩ := h
  exact ⟨q1, q2, fun b hb => hP b (q3 b hb), fun b f c hb hc => q4 b f c hb (by rw [← hO b hb]; exact hc), fun b f b' f' c hb hb' hc hc' => q5 b f b' f' c hb hb' (by rw [← hO b hb]; exact hc) (by rw [← hO b' hb']; exact hc')⟩
