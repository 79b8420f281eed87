/-! the program, the guesses and the sights, alike -/
def sLs : List (List Nat) := [[5], [1], [10, 1], [11, 1], [12, 1], [13, 1], [14, 1], [0, 6], [1, 6], [7], [0, 7], [1, 7], [2, 7], [3, 7], [5, 7]]
def sKs : List Nat := [19, 3, 13, 11, 12, 14, 20, 21, 6, 22, 23]
def sOKs (l : List Nat) : Bool := match pLb l with
  | some κ => decide (κ ∈ sKs)
  | none => false
/-- the class's cells of these stay -/
def SE (I I2 : WI) (O : WO) (x : Nat) : Prop := ∀ l, l ∈ sLs → I2 (pAt O x l) = I (pAt O x l)
theorem SE.of {P : List Nat} {K : Nat → Nat} {I I2 : WI} {O : WO} {x : Nat} (hT : TR P K O) (hx : x ∈ P ∧ K x = 8) (f : ∀ b κ, K b = κ → κ ∈ sKs → I2 b = I b) : SE I I2 O x := fun l hl => by
  have h : sOKs l = true := (by decide : ∀ l ∈ sLs, sOKs l = true) l hl
  unfold sOKs at h
  cases hp : pLb l with
  | none => rw [hp] at h; cases h
  | some κ =>
    rw [hp] at h
    exact f _ κ (pAt_ok hT hx l κ hp).2 (of_decide_eq_true h)
/-- the reference's rows of these stay -/
def ME (I I2 : WI) (O : WO) (mo : Nat) : Prop := I2 (rf O mo 20) = I (rf O mo 20) ∧ I2 (rf O mo 21) = I (rf O mo 21) ∧ I2 (rf O mo 22) = I (rf O mo 22) ∧ I2 (rf O mo 24) = I (rf O mo 24) ∧ I2 (rf O mo 25) = I (rf O mo 25) ∧ I2 (rf O mo 26) = I (rf O mo 26) ∧ I2 (rf O mo 27) = I (rf O mo 27) ∧ I2 mo 23 = I mo 23
theorem ME.of {P : List Nat} {K : Nat → Nat} {I I2 : WI} {O : WO} {mo : Nat} (hT : TR P K O) (hm : mo ∈ P ∧ K mo = 10) (f : ∀ b κ, K b = κ → κ ∈ [33, 34, 35, 36] → I2 b = I b) (e : I2 mo 23 = I mo 23) : ME I I2 O mo :=
  ⟨f _ 33 (rf_ok hT hm (show sp 10 20 = some 33 from rfl)).2 (by decide), f _ 33 (rf_ok hT hm (show sp 10 21 = some 33 from rfl)).2 (by decide), f _ 34 (rf_ok hT hm (show sp 10 22 = some 34 from rfl)).2 (by decide), f _ 35 (rf_ok hT hm (show sp 10 24 = some 35 from rfl)).2 (by decide), f _ 36 (rf_ok hT hm (show sp 10 25 = some 36 from rfl)).2 (by decide), f _ 35 (rf_ok hT hm (show sp 10 26 = some 35 from rfl)).2 (by decide), f _ 35 (rf_ok hT hm (show sp 10 27 = some 35 from rfl)).2 (by decide), e⟩
/-- the sights, alike, and what is known of them -/
def SGs (I : WI) (O : WO) (x mo : Nat) (c : CO) : Prop := ∃ (q : SQs) (n : Nat), CSn I O (rf O x 7) q n ∧ RSn I O mo q n ∧ SNb q n (I (rf O x 1) 7).toInt ∧ ∀ M, MB M → CMl I O (rf O x 1) M → GCa I O (rf O x 6) M c ∧ FTc I O (rf O x 7) M c q n
def CRS (I : WI) (O : WO) (x mo : Nat) : Prop := RI O mo ∧ ∃ c : CO, CCr I (rf O x 5) c ∧ PCr I O mo c ∧ (¬ O mo 3 = none → CVo c (I (rf O x 1) 8).toInt ∧ SGs I O x mo c)
theorem SE.ml {I I2 : WI} {O : WO} {x : Nat} {M : MM} (s : SE I I2 O x) (hc : CMl I2 O (rf O x 1) M) : CMl I O (rf O x 1) M := by
  have e1 : I2 (rf O x 1) = I (rf O x 1) := s [1] (by decide)
  refine hc.fr e1.symm (fun j hj => ?_)
  have : j = 0 ∨ j = 1 ∨ j = 2 ∨ j = 3 ∨ j = 4 := by omega
  rcases this with rfl | rfl | rfl | rfl | rfl
  · exact (s [10, 1] (by decide)).symm
  · exact (s [11, 1] (by decide)).symm
  · exact (s [12, 1] (by decide)).symm
  · exact (s [13, 1] (by decide)).symm
  · exact (s [14, 1] (by decide)).symm
theorem CRS.keep {I I2 : WI} {O : WO} {x mo : Nat} (h : CRS I O x mo) (s : SE I I2 O x) (m : ME I I2 O mo) : CRS I2 O x mo := by
  obtain ⟨ri, c, c1, c2, c3⟩ := h
  obtain ⟨m20, m21, m22, m24, m25, m26, m27, m23⟩ := m
  have e5 : I2 (rf O x 5) = I (rf O x 5) := s [5] (by decide)
  have e1 : I2 (rf O x 1) = I (rf O x 1) := s [1] (by decide)
  have e60 : I2 (rf O (rf O x 6) 0) = I (rf O (rf O x 6) 0) := s [0, 6] (by decide)
  have e61 : I2 (rf O (rf O x 6) 1) = I (rf O (rf O x 6) 1) := s [1, 6] (by decide)
  have e7 : I2 (rf O x 7) = I (rf O x 7) := s [7] (by decide)
  have e70 : I2 (rf O (rf O x 7) 0) = I (rf O (rf O x 7) 0) := s [0, 7] (by decide)
  have e71 : I2 (rf O (rf O x 7) 1) = I (rf O (rf O x 7) 1) := s [1, 7] (by decide)
  have e72 : I2 (rf O (rf O x 7) 2) = I (rf O (rf O x 7) 2) := s [2, 7] (by decide)
  have e73 : I2 (rf O (rf O x 7) 3) = I (rf O (rf O x 7) 3) := s [3, 7] (by decide)
  have e75 : I2 (rf O (rf O x 7) 5) = I (rf O (rf O x 7) 5) := s [5, 7] (by decide)
  refine ⟨ri, c, ?_, ?_, fun w => ?_⟩
  · unfold CCr; rw [e5]; exact c1
  · unfold PCr; rw [m20, m21, m22]; exact c2
  · obtain ⟨v1, q, n, s1, s2, s3, s4⟩ := c3 w
    refine ⟨by rw [e1]; exact v1, q, n, ?_, ?_, by rw [e1]; exact s3, fun M hM hc => ?_⟩
    · unfold CSn; rw [e7, e70, e71, e72, e73]; exact s1
    · unfold RSn; rw [m23, m24, m25, m26, m27]; exact s2
    · have g := s4 M hM (s.ml hc)
      refine ⟨?_, ?_⟩
      · unfold GCa; rw [e60, e61]; exact g.1
      · unfold FTc FTs; rw [e7, e75]; exact g.2
theorem CRS.o {I : WI} {O O2 : WO} {x mo : Nat} (h : CRS I O x mo) (e : ∀ l, l ∈ ([6] :: sLs) → pAt O2 x l = pAt O x l) (em : ∀ f, f ≠ 3 → f ≠ 4 → rf O2 mo f = rf O mo f) (e3 : O2 mo 3 = O mo 3) : CRS I O2 x mo := by
  obtain ⟨ri, c, c1, c2, c3⟩ := h
  have e5 : rf O2 x 5 = rf O x 5 := e [5] (by decide)
  have e1 : rf O2 x 1 = rf O x 1 := e [1] (by decide)
  have e60 : rf O2 (rf O2 x 6) 0 = rf O (rf O x 6) 0 := e [0, 6] (by decide)
  have e61 : rf O2 (rf O2 x 6) 1 = rf O (rf O x 6) 1 := e [1, 6] (by decide)
  have e7 : rf O2 x 7 = rf O x 7 := e [7] (by decide)
  have e70 : rf O2 (rf O2 x 7) 0 = rf O (rf O x 7) 0 := e [0, 7] (by decide)
  have e71 : rf O2 (rf O2 x 7) 1 = rf O (rf O x 7) 1 := e [1, 7] (by decide)
  have e72 : rf O2 (rf O2 x 7) 2 = rf O (rf O x 7) 2 := e [2, 7] (by decide)
  have e73 : rf O2 (rf O2 x 7) 3 = rf O (rf O x 7) 3 := e [3, 7] (by decide)
  have e75 : rf O2 (rf O2 x 7) 5 = rf O (rf O x 7) 5 := e [5, 7] (by decide)
  refine ⟨ri.o em, c, by rw [e5]; exact c1, ?_, fun w => ?_⟩
  · unfold PCr; rw [em 20 (by decide) (by decide), em 21 (by decide) (by decide), em 22 (by decide) (by decide)]; exact c2
  · rw [e3] at w
    obtain ⟨v1, q, n, s1, s2, s3, s4⟩ := c3 w
    refine ⟨by rw [e1]; exact v1, q, n, ?_, ?_, by rw [e1]; exact s3, fun M hM hc => ?_⟩
    · unfold CSn; rw [e70, e71, e72, e73, e7]; exact s1
    · unfold RSn; rw [em 24 (by decide) (by decide), em 25 (by decide) (by decide), em 26 (by decide) (by decide), em 27 (by decide) (by decide)]; exact s2
    · have hc' : CMl I O (rf O x 1) M := ⟨fun k hk => by rw [← e1]; exact hc.1 k hk, fun j i hj hi => by
        have ej : rf O2 (rf O2 x 1) (10 + j) = rf O (rf O x 1) (10 + j) := by
          have : j = 0 ∨ j = 1 ∨ j = 2 ∨ j = 3 ∨ j = 4 := by omega
          rcases this with rfl | rfl | rfl | rfl | rfl
          · exact e [10, 1] (by decide)
          · exact e [11, 1] (by decide)
          · exact e [12, 1] (by decide)
          · exact e [13, 1] (by decide)
          · exact e [14, 1] (by decide)
        rw [← ej]; exact hc.2 j i hj hi⟩
      have g := s4 M hM hc'
      refine ⟨?_, ?_⟩
      · unfold GCa; rw [e60, e61]; exact g.1
      · unfold FTc FTs; rw [e75, e7]; exact g.2
theorem CRS.anew {I : WI} {O : WO} {x mo : Nat} (ri : RI O mo) (hc : ∀ h, h < 12 → (I (rf O x 5) (3 * h)).toInt = 1 ∧ (I (rf O x 5) (3 * h + 1)).toInt = 1 ∧ (I (rf O x 5) (3 * h + 2)).toInt = 0) (hp : ∀ h, h < 12 → (I (rf O mo 20) h).toInt = 1 ∧ (I (rf O mo 21) h).toInt = 1 ∧ (I (rf O mo 22) h).toInt = 0) (ho : 0 < (I (rf O x 1) 8).toInt) (hk : ∀ st, st < 100 → (I (rf O (rf O x 6) 1) st).toInt = 0) (h74 : (I (rf O x 7) 4).toInt = 0) (h77 : (I (rf O x 7) 7).toInt = 0) (h23 : (I mo 23).toInt = 0) : CRS I O x mo :=
  ⟨ri, fun _ => (1, 1, 0), hc, hp, fun _ => ⟨fun h _ => ⟨(by decide : (0 : Int) ≤ 1 ∧ (1 : Int) ≤ 3), (by decide : (0 : Int) ≤ 1 ∧ (1 : Int) ≤ 3), Int.le_refl _, ho⟩, (fun _ => 0, fun _ => 0, fun _ => 0, fun _ => 0), 0, ⟨by rw [h74]; rfl, fun k hk => absurd hk (Nat.not_lt_zero _)⟩, ⟨by rw [h23]; rfl, fun k hk => absurd hk (Nat.not_lt_zero _)⟩, ⟨by decide, fun k hk => absurd hk (Nat.not_lt_zero _)⟩, fun M _ _ => ⟨fun st hst hn => absurd (hk st hst) hn, fun z => absurd h77 z⟩⟩⟩
/-- a program told -/
theorem CRS.prog {I I1 I2 : WI} {O : WO} {x mo : Nat} (h : CRS I O x mo) {z1 z2 x1 x2 x3 x4 : Int32} (q1 : PQc O I x x1 x2 x3 x4 (z1, I1)) (q2 : PQr O I1 mo x1 x2 x3 x4 (z2, I2)) (hz : z1.toInt = z2.toInt) (rb : z1.toInt = 1 → (0 ≤ x2.toInt ∧ x2.toInt ≤ 3) ∧ (0 ≤ x3.toInt ∧ x3.toInt ≤ 3) ∧ 0 ≤ x4.toInt ∧ x4.toInt < (I (rf O x 1) 8).toInt)
    (nx : ∀ l, l ∈ sLs → ¬ pAt O x l = x) (nc : ∀ l, l ∈ sLs → ¬ l = [5] → ¬ l = [1, 6] → ¬ l = [7] → ¬ pAt O x l = rf O x 5 ∧ ¬ pAt O x l = rf O (rf O x 6) 1 ∧ ¬ pAt O x l = rf O x 7) (cc : SE I1 I2 O x) (m0 : ¬ rf O mo 20 = mo ∧ ¬ rf O mo 21 = mo ∧ ¬ rf O mo 22 = mo) (k1 : ME I I1 O mo) (k2 : I2 (rf O mo 24) = I1 (rf O mo 24) ∧ I2 (rf O mo 25) = I1 (rf O mo 25) ∧ I2 (rf O mo 26) = I1 (rf O mo 26) ∧ I2 (rf O mo 27) = I1 (rf O mo 27) ∧ I2 mo 23 = I1 mo 23) : CRS I2 O x mo := by
  rcases q1 with ⟨p1, p2⟩ | ⟨p1, p2, p3, p4, p5, p6, p7⟩
  · rcases q2 with ⟨r1, r2⟩ | ⟨r1, r2, r3, r4⟩
    · dsimp only at p2 r2
      refine h.keep (fun l hl => by rw [cc l hl, p2 _ (nx l hl)]) ⟨?_, ?_, ?_, ?_, ?_, ?_, ?_, ?_⟩
      · rw [r2 _ m0.1, k1.1]
      · rw [r2 _ m0.2.1, k1.2.1]
      · rw [r2 _ m0.2.2, k1.2.2.1]
      · rw [k2.1, k1.2.2.2.1]
      · rw [k2.2.1, k1.2.2.2.2.1]
      · rw [k2.2.2.1, k1.2.2.2.2.2.1]
      · rw [k2.2.2.2.1, k1.2.2.2.2.2.2.1]
      · rw [k2.2.2.2.2, k1.2.2.2.2.2.2.2]
    · exfalso; dsimp only at p1 r1; omega
  · rcases q2 with ⟨r1, r2⟩ | ⟨r1, r2, r3, r4⟩
    · exfalso; dsimp only at p1 r1; omega
    · dsimp only at p1 p3 p4 p5 p6 p7 r2 r3 r4
      obtain ⟨ri, c, c1, c2, c3⟩ := h
      have R := rb p1
      have i5 : I2 (rf O x 5) = I1 (rf O x 5) := cc [5] (by decide)
      have i61 : I2 (rf O (rf O x 6) 1) = I1 (rf O (rf O x 6) 1) := cc [1, 6] (by decide)
      have i7 : I2 (rf O x 7) = I1 (rf O x 7) := cc [7] (by decide)
      have u : ∀ l, l ∈ sLs → ¬ l = [5] → ¬ l = [1, 6] → ¬ l = [7] → I2 (pAt O x l) = I (pAt O x l) := fun l hl h1 h2 h3 => by
        rw [cc l hl]
        have q := nc l hl h1 h2 h3
        exact p7 _ (nx l hl) q.1 q.2.1 q.2.2
      have e1 : I2 (rf O x 1) = I (rf O x 1) := u [1] (by decide) (by decide) (by decide) (by decide)
      have e70 : I2 (rf O (rf O x 7) 0) = I (rf O (rf O x 7) 0) := u [0, 7] (by decide) (by decide) (by decide) (by decide)
      have e71 : I2 (rf O (rf O x 7) 1) = I (rf O (rf O x 7) 1) := u [1, 7] (by decide) (by decide) (by decide) (by decide)
      have e72 : I2 (rf O (rf O x 7) 2) = I (rf O (rf O x 7) 2) := u [2, 7] (by decide) (by decide) (by decide) (by decide)
      have e73 : I2 (rf O (rf O x 7) 3) = I (rf O (rf O x 7) 3) := u [3, 7] (by decide) (by decide) (by decide) (by decide)
      refine ⟨ri, fun h => if h = x1.toInt.toNat then (x2.toInt, x3.toInt, x4.toInt) else c h, fun h hh => ?_, fun h hh => ?_, fun w => ?_⟩
      · rw [i5, p3 (3 * h), p3 (3 * h + 1), p3 (3 * h + 2)]
        by_cases e : h = x1.toInt.toNat
        · subst e
          rw [if_pos rfl, if_neg (by omega), if_pos rfl, if_neg (by omega), if_neg (by omega), if_pos rfl]
          dsimp only
          rw [if_pos rfl]
          exact ⟨rfl, rfl, rfl⟩
        · rw [if_neg (by omega), if_neg (by omega), if_neg (by omega), if_neg (by omega), if_neg (by omega), if_neg (by omega), if_neg (by omega), if_neg (by omega), if_neg (by omega)]
          dsimp only
          rw [if_neg e]; exact c1 h hh
      · rw [r2 h, r3 h, r4 h, k1.1, k1.2.1, k1.2.2.1]
        by_cases e : h = x1.toInt.toNat
        · rw [if_pos e, if_pos e, if_pos e]; dsimp only; rw [if_pos e]; exact ⟨rfl, rfl, rfl⟩
        · rw [if_neg e, if_neg e, if_neg e]; dsimp only; rw [if_neg e]; exact c2 h hh
      · obtain ⟨v1, q, n, s1, s2, s3, s4⟩ := c3 w
        refine ⟨fun h hh => ?_, q, n, ?_, ?_, by rw [e1]; exact s3, fun M hM hc => ⟨fun st hst hk => ?_, fun hk => ?_⟩⟩
        · rw [e1]
          dsimp only
          by_cases e : h = x1.toInt.toNat
          · rw [if_pos e]; exact R
          · rw [if_neg e]; exact v1 h hh
        · unfold CSn; rw [i7, p6 4 (by decide), e70, e71, e72, e73]; exact s1
        · unfold RSn; rw [k2.1, k2.2.1, k2.2.2.1, k2.2.2.2.1, k2.2.2.2.2, k1.2.2.2.1, k1.2.2.2.2.1, k1.2.2.2.2.2.1, k1.2.2.2.2.2.2.1, k1.2.2.2.2.2.2.2]; exact s2
        · exfalso
          rw [i61] at hk
          exact hk (p4 st hst)
        · exfalso
          rw [i7] at hk
          exact hk p5
