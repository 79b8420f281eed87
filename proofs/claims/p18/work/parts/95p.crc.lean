/-- the program, alike -/
def CRC (I : WI) (O : WO) (x mo : Nat) : Prop := RI O mo ∧ ∃ c : CO, CCr I (rf O x 5) c ∧ PCr I O mo c ∧ (¬ O mo 3 = none → CVo c (I (rf O x 1) 8).toInt)
theorem CRC.keep {I I2 : WI} {O : WO} {x mo : Nat} (h : CRC I O x mo) (e5 : I2 (rf O x 5) = I (rf O x 5)) (e1 : I2 (rf O x 1) = I (rf O x 1)) (m20 : I2 (rf O mo 20) = I (rf O mo 20)) (m21 : I2 (rf O mo 21) = I (rf O mo 21)) (m22 : I2 (rf O mo 22) = I (rf O mo 22)) : CRC I2 O x mo := by
  obtain ⟨ri, c, c1, c2, c3⟩ := h
  refine ⟨ri, c, ?_, ?_, ?_⟩
  · unfold CCr; rw [e5]; exact c1
  · unfold PCr; rw [m20, m21, m22]; exact c2
  · rw [e1]; exact c3
theorem CRC.o {I : WI} {O O2 : WO} {x mo : Nat} (h : CRC I O x mo) (e5 : rf O2 x 5 = rf O x 5) (e1 : rf O2 x 1 = rf O x 1) (em : ∀ f, f ≠ 3 → f ≠ 4 → rf O2 mo f = rf O mo f) (e3 : O2 mo 3 = O mo 3) : CRC I O2 x mo := by
  obtain ⟨ri, c, c1, c2, c3⟩ := h
  refine ⟨ri.o em, c, by rw [e5]; exact c1, ?_, by rw [e3, e1]; exact c3⟩
  unfold PCr; rw [em 20 (by decide) (by decide), em 21 (by decide) (by decide), em 22 (by decide) (by decide)]; exact c2
/-- a mill begun anew -/
theorem CRC.anew {I : WI} {O : WO} {x mo : Nat} (ri : RI O mo) (hc : ∀ h, h < 12 → (I (rf O x 5) (3 * h)).toInt = 1 ∧ (I (rf O x 5) (3 * h + 1)).toInt = 1 ∧ (I (rf O x 5) (3 * h + 2)).toInt = 0) (hp : ∀ h, h < 12 → (I (rf O mo 20) h).toInt = 1 ∧ (I (rf O mo 21) h).toInt = 1 ∧ (I (rf O mo 22) h).toInt = 0) (ho : 0 < (I (rf O x 1) 8).toInt) : CRC I O x mo := ⟨ri, fun _ => (1, 1, 0), hc, hp, fun _ h _ => ⟨(by decide : (0 : Int) ≤ 1 ∧ (1 : Int) ≤ 3), (by decide : (0 : Int) ≤ 1 ∧ (1 : Int) ≤ 3), Int.le_refl _, ho⟩⟩
/-- a program told -/
theorem CRC.prog {I I1 I2 : WI} {O : WO} {x mo : Nat} (h : CRC I O x mo) {z1 z2 x1 x2 x3 x4 : Int32} (q1 : PQc O I x x1 x2 x3 x4 (z1, I1)) (q2 : PQr O I1 mo x1 x2 x3 x4 (z2, I2)) (hz : z1.toInt = z2.toInt) (rb : z1.toInt = 1 → (0 ≤ x2.toInt ∧ x2.toInt ≤ 3) ∧ (0 ≤ x3.toInt ∧ x3.toInt ≤ 3) ∧ 0 ≤ x4.toInt ∧ x4.toInt < (I (rf O x 1) 8).toInt)
    (nx : ∀ p, (p = rf O x 5 ∨ p = rf O x 1 ∨ p = rf O mo 20 ∨ p = rf O mo 21 ∨ p = rf O mo 22) → ¬ p = x) (nc : ∀ p, (p = rf O x 1 ∨ p = rf O mo 20 ∨ p = rf O mo 21 ∨ p = rf O mo 22) → ¬ p = rf O x 5 ∧ ¬ p = rf O (rf O x 6) 1 ∧ ¬ p = rf O x 7) (cc : ∀ p, (p = rf O x 5 ∨ p = rf O x 1) → I2 p = I1 p) (m0 : ¬ rf O mo 20 = mo ∧ ¬ rf O mo 21 = mo ∧ ¬ rf O mo 22 = mo) : CRC I2 O x mo := by
  have i5 : I2 (rf O x 5) = I1 (rf O x 5) := cc _ (Or.inl rfl)
  have i1 : I2 (rf O x 1) = I1 (rf O x 1) := cc _ (Or.inr rfl)
  rcases q1 with ⟨p1, p2⟩ | ⟨p1, p2, p3, p4, p5, p6, p7⟩
  · rcases q2 with ⟨r1, r2⟩ | ⟨r1, r2, r3, r4⟩
    · dsimp only at p2 r2
      exact h.keep (by rw [i5, p2 _ (nx _ (Or.inl rfl))]) (by rw [i1, p2 _ (nx _ (Or.inr (Or.inl rfl)))]) (by rw [r2 _ m0.1, p2 _ (nx _ (Or.inr (Or.inr (Or.inl rfl))))]) (by rw [r2 _ m0.2.1, p2 _ (nx _ (Or.inr (Or.inr (Or.inr (Or.inl rfl)))))]) (by rw [r2 _ m0.2.2, p2 _ (nx _ (Or.inr (Or.inr (Or.inr (Or.inr rfl)))))])
    · exfalso; dsimp only at p1 r1; omega
  · rcases q2 with ⟨r1, r2⟩ | ⟨r1, r2, r3, r4⟩
    · exfalso; dsimp only at p1 r1; omega
    · dsimp only at p1 p3 p4 p7 r2 r3 r4
      obtain ⟨ri, c, c1, c2, c3⟩ := h
      have R := rb p1
      have u : ∀ p, (p = rf O x 1 ∨ p = rf O mo 20 ∨ p = rf O mo 21 ∨ p = rf O mo 22) → ¬ p = x → I1 p = I p := fun p hp hpx => p7 p hpx (nc p hp).1 (nc p hp).2.1 (nc p hp).2.2
      have u20 : I1 (rf O mo 20) = I (rf O mo 20) := u _ (Or.inr (Or.inl rfl)) (nx _ (Or.inr (Or.inr (Or.inl rfl))))
      have u21 : I1 (rf O mo 21) = I (rf O mo 21) := u _ (Or.inr (Or.inr (Or.inl rfl))) (nx _ (Or.inr (Or.inr (Or.inr (Or.inl rfl)))))
      have u22 : I1 (rf O mo 22) = I (rf O mo 22) := u _ (Or.inr (Or.inr (Or.inr rfl))) (nx _ (Or.inr (Or.inr (Or.inr (Or.inr rfl)))))
      refine ⟨ri, fun h => if h = x1.toInt.toNat then (x2.toInt, x3.toInt, x4.toInt) else c h, fun h hh => ?_, fun h hh => ?_, fun q h hh => ?_⟩
      · rw [i5, p3 (3 * h), p3 (3 * h + 1), p3 (3 * h + 2)]
        by_cases e : h = x1.toInt.toNat
        · subst e
          rw [if_pos rfl, if_neg (by omega), if_pos rfl, if_neg (by omega), if_neg (by omega), if_pos rfl]
          dsimp only
          rw [if_pos rfl]
          exact ⟨rfl, rfl, rfl⟩
        · rw [if_neg (by omega), if_neg (by omega), if_neg (by omega), if_neg (by omega), if_neg (by omega), if_neg (by omega), if_neg (by omega), if_neg (by omega), if_neg (by omega)]
          dsimp only
          rw [if_neg e]; exact c1 h hh
      · rw [r2 h, r3 h, r4 h, u20, u21, u22]
        by_cases e : h = x1.toInt.toNat
        · rw [if_pos e, if_pos e, if_pos e]; dsimp only; rw [if_pos e]; exact ⟨rfl, rfl, rfl⟩
        · rw [if_neg e, if_neg e, if_neg e]; dsimp only; rw [if_neg e]; exact c2 h hh
      · rw [i1, u _ (Or.inl rfl) (nx _ (Or.inr (Or.inl rfl)))]
        dsimp only
        by_cases e : h = x1.toInt.toNat
        · rw [if_pos e]; exact R
        · rw [if_neg e]; exact c3 q h hh
