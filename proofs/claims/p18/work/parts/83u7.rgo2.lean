section RGO2
variable {N : Nat} {O : WO} {I : WI} {J : WJ} {a S : Nat} {M : MM} {r w o : Int} {σ : Nat → Int}
/-- the state behind the taking of ore and of what went back -/
def tk (M : MM) (r o : Int) (σ : Nat → Int) (k : Nat) : Int := if k < 5 then hT M r o σ k else if k < 15 then 0 else if k = 33 then σ 33 + s5 (qT M r o σ) else σ k
def midT (M : MM) (r w o : Int) (σ : Nat → Int) (k : Nat) : Int := if k < 5 then hdT M r w o σ k else if k < 10 then bcT M r w o σ (k - 5) else if k < 15 then paT M r w o σ (k - 10) else if k < 20 then σ k + paT M r w o σ (k - 15) else if k = 21 then spT M r o σ else if k = 26 then (if fullT M r o σ ≤ M.1 0 then 0 else 1) else if k = 28 then fullT M r o σ else if k = 29 then efT M r o σ else if k = 30 then pwT M r o σ else if k = 33 then σ 33 + s5 (qT M r o σ) else σ k
theorem brk1_c {e : Int} {k : Nat} {f g : Nat → Int} (hM : MB M) (hk : k + 1 < 5) (h : ∀ j, j < 5 → f j = g j) : ∀ j, j < 5 → brk1 M e k f j = brk1 M e k g j := by
  intro j hj
  have m7 := hM.2.2.2.2.2.2.1
  have zb : zN M ≤ 5 := by unfold zN; omega
  have eb : bkn M e k f = bkn M e k g := by unfold bkn; rw [h k (by omega)]
  unfold brk1
  rw [eb]
  by_cases c : k + 2 < zN M
  · rw [if_pos c, if_pos c]
    unfold u1
    rw [h k (by omega), h (k + 1) hk, h (k + 2) (by omega), h j hj]
  · rw [if_neg c, if_neg c]
    unfold u1
    rw [h k (by omega), h (k + 1) hk, h j hj]
theorem brk_c {e : Int} (hM : MB M) : ∀ (n : Nat) (f g : Nat → Int), n < 5 → (∀ j, j < 5 → f j = g j) → ∀ j, j < 5 → brk M e n f j = brk M e n g j := by
  intro n
  induction n with
  | zero => intro f g _ h; exact h
  | succ n ih => intro f g hn h; exact ih (brk1 M e n f) (brk1 M e n g) (by omega) (brk1_c hM (by omega) h)
set_option maxHeartbeats 4000000 in
theorem r_goes {Q : WI → Prop} (hN : 8 ≤ N) (hM : MB M) (hs : ST3 M r w o) (hσ : SI M σ) (hm : RMl I O (rf O a 3) M) (sr : SR O (rf O a 3) S) (hA : RA1 I S σ) (h34 : σ 34 = r) (h35 : σ 35 = w) (h36 : σ 36 = o)
    (hQ : ∀ I', RA1 I' S (HH M r w o σ) → (∀ b, ¬ b = S → I' b = I b) → Q I') : Wp (F_Mo_goesS N O I J a S) Q := by
  obtain ⟨b1, b2, b3, b4, b5, b6⟩ := HH_b hM hσ hs
  have hb := hT_b hM hσ hs
  obtain ⟨s1, s2, s3, s4, s5', s6, s7, s8, s9, s10⟩ := id hσ
  have m0 := hM.1; have m1 := hM.2.1; have m5 := hM.2.2.2.2.1; have m6 := hM.2.2.2.2.2.1
  have m7 := hM.2.2.2.2.2.2.1
  have m8 := hM.2.2.2.2.2.2.2.1
  have m9 := hM.2.2.2.2.2.2.2.2.1
  have ob := hs.2.2
  have ez : ((zN M : Nat) : Int) = M.1 7 := by unfold zN; omega
  have u21 := s9 21 (by omega); have u22 := s9 22 (by omega); have u23 := s9 23 (by omega); have u32 := s9 32 (by omega); have u33 := s9 33 (by omega)
  have kH : ∀ k, k < 5 → 0 ≤ hT M r o σ k ∧ hT M r o σ k ≤ 10000000 := fun k hk => by
    have := s5_le hb.1 hk
    have e : s5 (hT M r o σ) = fullT M r o σ := rfl
    have := hb.1 k hk; omega
  have hZ : ∀ k : Nat, k < 5 → M.1 7 ≤ (k : Int) → hT M r o σ k = 0 := fun k hk hz => hT_z hM hσ hs hk hz
  unfold F_Mo_goesS
  refine forU (n := zN M) (fun i I1 => RA1 I1 S (fun k => if k < 5 then (if k < i then hT M r o σ k else σ k) else if k < 10 then (if k - 5 < i then 0 else σ k) else if k < 15 then (if k - 10 < i then 0 else σ k) else if k = 33 then σ 33 + psum (qT M r o σ) i else σ k) ∧ (∀ b, ¬ b = S → I1 b = I b)) (by omega) ⟨fun k hk => ?_, fun _ _ => rfl⟩ ?_ ?_
  · rw [hA k hk]
    simp only [Nat.not_lt_zero, if_false]
    split
    · rfl
    · split
      · rfl
      · split
        · rfl
        · split
          · rename_i c; rw [c]; show σ 33 = σ 33 + 0; omega
          · rfl
  · intro rec x i I1 hx hi ⟨v0, v1⟩ kk
    have hmI := RMl.fr hm sr v1
    have q8 := hmI.1.2.2.2.2.2.2.2.2.1
    have a0 : (I1 S i).toInt = σ i := by have := v0 i (by omega); (try dsimp only at this); rw [if_pos (by omega), if_neg (by omega)] at this; exact this
    have a5 : (I1 S (5 + i)).toInt = σ (5 + i) := by have := v0 (5 + i) (by omega); (try dsimp only at this); rw [if_neg (by omega), if_pos (by omega), if_neg (by omega)] at this; exact this
    have a33 : (I1 S 33).toInt = σ 33 + psum (qT M r o σ) i := by have := v0 33 (by omega); (try dsimp only at this); rw [if_neg (by omega), if_neg (by omega), if_neg (by omega), if_pos rfl] at this; exact this
    have a26 : (I1 S 26).toInt = σ 26 := by have := v0 26 (by omega); (try dsimp only at this); rw [if_neg (by omega), if_neg (by omega), if_neg (by omega), if_neg (by omega)] at this; exact this
    have a34 : (I1 S 34).toInt = r := by have := v0 34 (by omega); (try dsimp only at this); rw [if_neg (by omega), if_neg (by omega), if_neg (by omega), if_neg (by omega), h34] at this; exact this
    have a36 : (I1 S 36).toInt = o := by have := v0 36 (by omega); (try dsimp only at this); rw [if_neg (by omega), if_neg (by omega), if_neg (by omega), if_neg (by omega), h36] at this; exact this
    have qb := qT_b (σ := σ) hM hs (show i < 5 by omega)
    have pb := psum_b (f := qT M r o σ) (C := 150) i (fun k hk => qT_b (σ := σ) hM hs (by omega))
    have hi0 := s1 i (by omega)
    have kHi := kH i (by omega)
    unfold B_Mo_goesS_2
    have e0 := t_add k_0 hx (by omega)
    generalize Int32.ofInt 0 + x = X0 at e0 ⊢
    have e5 := t_add (ofI (n := 5) (by decide)) hx (by omega)
    generalize Int32.ofInt 5 + x = X5 at e5 ⊢
    have e10 := t_add (ofI (n := 10) (by decide)) hx (by omega)
    generalize Int32.ofInt 10 + x = X10 at e10 ⊢
    have eo := t_add (t_mul (ofI (n := 5) (by decide)) a36 (by omega)) hx (by omega)
    generalize Int32.ofInt 5 * I1 S 36 + x = XO at eo ⊢
    have n0 : X0.toInt.toNat = i := by rw [e0]; omega
    have n5 : X5.toInt.toNat = 5 + i := by rw [e5]; omega
    have n10 : X10.toInt.toNat = 10 + i := by rw [e10]; omega
    have nO : XO.toInt.toNat = 5 * o.toNat + i := by rw [eo]; omega
    refine Wp.neg (by omega) (Wp.jn ?_)
    rw [n0, n5, n10, nO]
    have fin : ∀ s : Int32, s.toInt = qT M r o σ i → Wp (lb (up2 I1 S 33 ((I1 S 33) + s)) fun I19 => if 0 ≤ X0.toInt ∧ X0.toInt < 37 then (if 0 ≤ X5.toInt ∧ X5.toInt < 37 then (if 0 ≤ X0.toInt ∧ X0.toInt < 37 then (lb (up2 I19 S i ((I19 S i) + (s + (I19 S (5 + i))))) fun I20 => if 0 ≤ X5.toInt ∧ X5.toInt < 37 then (lb (up2 I20 S (5 + i) (Int32.ofInt (0))) fun I21 => if 0 ≤ X10.toInt ∧ X10.toInt < 37 then (lb (up2 I21 S (10 + i) (Int32.ofInt (0))) fun I22 => lb (x + Int32.ofInt (1)) fun v2_83 => rec (v2_83) I22) else none) else none) else none) else none) else none) Q := fun s hs' => by
      refine Wp_lb (fun I19 x19 => Wp.pos (by omega) (Wp.pos (by omega) (Wp.pos (by omega) (Wp_lb (fun I20 x20 => Wp.pos (by omega) (Wp_lb (fun I21 x21 => Wp.pos (by omega) (Wp_lb (fun I22 x22 => Wp_lb (fun v ev => ?_)))))))))) 
      have c0 : (I19 S i).toInt = σ i := by rw [x19, up2_ne _ _ (fun z => by omega)]; exact a0
      have c5 : (I19 S (5 + i)).toInt = σ (5 + i) := by rw [x19, up2_ne _ _ (fun z => by omega)]; exact a5
      have eh : hT M r o σ i = σ i + qT M r o σ i + σ (5 + i) := rfl
      have r0 := t_add c0 (t_add hs' c5 (by omega)) (by omega)
      have r33 := t_add a33 hs' (by omega)
      refine kk v I22 (by rw [ev]; exact inc1 hx (by omega)) ⟨fun k hk => ?_, fun b hb => by rw [x22, up2_row _ _ hb, x21, up2_row _ _ hb, x20, up2_row _ _ hb, x19, up2_row _ _ hb]; exact v1 b hb⟩
      try dsimp only
      rw [x22]
      by_cases k10 : k = 10 + i
      · subst k10; rw [up2_self, if_neg (by omega), if_neg (by omega), if_pos (by omega), if_pos (by omega)]; exact k_0
      rw [up2_ne _ _ (fun z => k10 z.2), x21]
      by_cases k5 : k = 5 + i
      · subst k5; rw [up2_self, if_neg (by omega), if_pos (by omega), if_pos (by omega)]; exact k_0
      rw [up2_ne _ _ (fun z => k5 z.2), x20]
      by_cases k0 : k = i
      · subst k0; rw [up2_self, if_pos (by omega), if_pos (by omega), r0, eh]; omega
      rw [up2_ne _ _ (fun z => k0 z.2), x19]
      by_cases k33 : k = 33
      · subst k33; rw [up2_self, if_neg (by omega), if_neg (by omega), if_neg (by omega), if_pos rfl, r33]
        show _ = σ 33 + (psum _ i + _); omega
      rw [up2_ne _ _ (fun z => k33 z.2), v0 k hk]; try dsimp only
      by_cases d5 : k < 5
      · rw [if_pos d5, if_pos d5]; exact stp k0
      rw [if_neg d5, if_neg d5]
      by_cases d10 : k < 10
      · rw [if_pos d10, if_pos d10]; exact stp (by omega)
      rw [if_neg d10, if_neg d10]
      by_cases d15 : k < 15
      · rw [if_pos d15, if_pos d15]; exact stp (by omega)
      rw [if_neg d15, if_neg d15, if_neg k33, if_neg k33]
    by_cases c : σ 26 = 1
    · exact Wp.pos (by omega) (fin _ (by unfold qT; rw [if_pos c]; exact k_0))
    · have tv : (I1 (rf O (rf O a 3) 15) (5 * o.toNat + i)).toInt = M.2.1 4 (5 * o.toNat + i) := hmI.2 4 _ (by decide) (by show _ < 20; omega)
      have eq : qT M r o σ i = r * M.2.1 4 (5 * o.toNat + i) := by unfold qT; rw [if_neg c]
      exact Wp.neg (by omega) (Wp.pos (by omega) (fin _ (by rw [eq]; exact t_mul a34 tv (by omega))))
  · intro rec x I1 hx ⟨v0, v1⟩
    have hmI := RMl.fr hm sr v1
    have q8 := hmI.1.2.2.2.2.2.2.2.2.1
    have A1 : RA1 I1 S (tk M r o σ) := v0.eq (fun k hk => by
      try dsimp only
      unfold tk
      by_cases d5 : k < 5
      · simp only [if_pos d5]
        by_cases c : k < zN M
        · rw [if_pos c]
        · rw [if_neg c, hZ k d5 (by omega)]; exact (s10 k d5 (by omega)).1
      simp only [if_neg d5]
      by_cases d15 : k < 15
      · simp only [if_pos d15]
        by_cases d10 : k < 10
        · simp only [if_pos d10]
          by_cases c : k - 5 < zN M
          · rw [if_pos c]
          · have y := (s10 (k - 5) (by omega) (by omega)).2.1
            rw [show 5 + (k - 5) = k by omega] at y
            rw [if_neg c, y]
        · simp only [if_neg d10]
          by_cases c : k - 10 < zN M
          · rw [if_pos c]
          · have y := (s10 (k - 10) (by omega) (by omega)).2.2.1
            rw [show 10 + (k - 10) = k by omega] at y
            rw [if_neg c, y]
      · have d10 : ¬ k < 10 := by omega
        simp only [if_neg d10, if_neg d15]
        by_cases k33 : k = 33
        · rw [if_pos k33, if_pos k33, psum_z hM (fun j hj hz => qT_z hM hs hj hz)]
        · rw [if_neg k33, if_neg k33])
    have T5 : ∀ k, k < 5 → tk M r o σ k = hT M r o σ k := fun k hk => by unfold tk; rw [if_pos hk]
    have Tk : ∀ k, 15 ≤ k → ¬ k = 33 → tk M r o σ k = σ k := fun k h1 h2 => by unfold tk; rw [if_neg (by omega), if_neg (by omega), if_neg h2]
    have Tz : ∀ k, 5 ≤ k → k < 15 → tk M r o σ k = 0 := fun k h1 h2 => by unfold tk; rw [if_neg (by omega), if_pos h2]
    have ts : s5 (fun k => tk M r o σ (0 + k)) = fullT M r o σ := by
      unfold s5 fullT s5
      try dsimp only
      rw [T5 _ (by decide), T5 _ (by decide), T5 _ (by decide), T5 _ (by decide), T5 _ (by decide)]
    unfold B_Mo_goesS_2
    refine Wp.pos (by omega) (Wp.bd1 (r_sumOf (b := 0) hN hM hmI k_0 (by decide) A1 (fun k hk => by rw [Nat.zero_add, T5 k hk]; exact kH k hk) (fun k hk hz => by rw [Nat.zero_add, T5 k hk]; exact hZ k hk hz) (fun z hz => ?_)))
    rw [ts] at hz
    refine Wp_lb (fun I2 x2 => Wp.jn ?_)
    have A2 : RA1 I2 S (u1 (tk M r o σ) 28 (fullT M r o σ)) := by rw [x2]; exact A1.put hz
    have f2 : ∀ b, ¬ b = S → I2 b = I b := fun b hb => by rw [x2, up2_row _ _ hb]; exact v1 b hb
    have q0 := (RMl.fr hm sr f2).1.1
    have p28 : (I2 S 28).toInt = fullT M r o σ := by rw [A2 28 (by decide), u1_s]
    have key : ∀ IJ : WI, RA1 IJ S (midT M r w o σ) → (∀ b, ¬ b = S → IJ b = I b) → Wp (bd1 (F_Mo_sumOfS N O IJ J a S (Int32.ofInt (10))) fun z_161 => lb (up2 IJ S 20 ((IJ S 20) + z_161)) fun I7 => jn (fun (s0_196 : Int32) => lb (up2 I7 S 21 ((I7 S 21) + s0_196)) fun I8 => lb (up2 I8 S 20 ((I8 S 20) - s0_196)) fun I9 => jn (fun (s0_241 : Int32) => lb (up2 I9 S 20 ((I9 S 20) - s0_241)) fun I10 => lb (up2 I10 S 22 ((I10 S 22) + s0_241)) fun I11 => lb (up2 I11 S 23 ((I11 S 23) + ((I11 (rf O a 3) 6) - s0_241))) fun I12 => if ¬ ((I12 (rf O a 3) 0)).toInt = 0 then (lb (((I12 (rf O a 3) 1) - (((I12 (rf O a 3) 1) * (I12 S 28)) / (I12 (rf O a 3) 0)))) fun v4_302 => jn (fun (s0_318 : Int32) => lb (up2 I12 S 31 s0_318) fun I13 => if ¬ ((I13 (rf O a 3) 7)).toInt = 0 then (if 0 ≤ (((I13 S 27) - (I13 S 27) / (I13 (rf O a 3) 7) * (I13 (rf O a 3) 7))).toInt ∧ (((I13 S 27) - (I13 S 27) / (I13 (rf O a 3) 7) * (I13 (rf O a 3) 7))).toInt < 6 then (lb (up2 I13 S 32 ((I13 S 32) + ((I13 S 30) * (I13 (rf O (rf O a 3) 11) (((I13 S 27) - (I13 S 27) / (I13 (rf O a 3) 7) * (I13 (rf O a 3) 7))).toInt.toNat)))) fun I14 => lb (up2 I14 S 24 ((I14 S 24) + (Int32.ofInt (1)))) fun I15 => lb (up2 I15 S 27 ((I15 S 27) + (Int32.ofInt (1)))) fun I16 => some I16) else none) else none) fun k_318 => if 0 ≤ (v4_302).toInt then (k_318 (v4_302)) else (k_318 ((Int32.ofInt (0))))) else none) fun k_241 => if ((I9 (rf O a 3) 6)).toInt ≤ ((I9 S 20)).toInt then (k_241 ((I9 (rf O a 3) 6))) else (k_241 ((I9 S 20)))) fun k_196 => if ((I7 S 20)).toInt ≤ ((I7 (rf O a 3) 5)).toInt then (k_196 ((Int32.ofInt (0)))) else (k_196 (((I7 S 20) - (I7 (rf O a 3) 5))))) Q := by
      intro IJ jA jf
      have jm := RMl.fr hm sr jf
      have sp5 : 0 ≤ s5 (paT M r w o σ) ∧ s5 (paT M r w o σ) ≤ 1750 := by
        have p0 := b1 0 (by decide); have p1 := b1 1 (by decide); have p2 := b1 2 (by decide); have p3 := b1 3 (by decide); have p4 := b1 4 (by decide)
        have e := b2; unfold s5 at e ⊢; omega
      have eb1 : bn1 M r w o σ = σ 20 + s5 (paT M r w o σ) := rfl
      have eb2 : bn2 M r w o σ = min (bn1 M r w o σ) (M.1 5) := rfl
      have eb3 : drT M r w o σ = min (bn2 M r w o σ) (M.1 6) := rfl
      have M10 : ∀ k, k < 5 → midT M r w o σ (10 + k) = paT M r w o σ k := fun k hk => by unfold midT; rw [if_neg (by omega), if_neg (by omega), if_pos (by omega), show 10 + k - 10 = k by omega]
      have ms : s5 (fun k => midT M r w o σ (10 + k)) = s5 (paT M r w o σ) := by
        unfold s5
        try dsimp only
        rw [M10 0 (by decide), M10 1 (by decide), M10 2 (by decide), M10 3 (by decide), M10 4 (by decide)]
      refine Wp.bd1 (r_sumOf (b := 10) hN hM jm (ofI (n := 10) (by decide)) (by decide) jA (fun k hk => by rw [M10 k hk]; have := s5_le (fun i hi => (b1 i hi).2.2) hk; have := (b1 k hk).2.2; omega) (fun k hk hz => by rw [M10 k hk]; exact (b6 k hk hz).2.2) (fun z1 hz1 => ?_))
      rw [ms] at hz1
      refine Wp_lb (fun I7 x7 => ?_)
      have j20 : (IJ S 20).toInt = σ 20 := jA 20 (by decide)
      have A7 : RA1 I7 S (u1 (midT M r w o σ) 20 (bn1 M r w o σ)) := by rw [x7]; exact jA.put (t_add j20 hz1 (by omega))
      have f7 : ∀ b, ¬ b = S → I7 b = I b := fun b hb => by rw [x7, up2_row _ _ hb]; exact jf b hb
      have r5 := (RMl.fr hm sr f7).1.2.2.2.2.2.1
      have y20 : (I7 S 20).toInt = bn1 M r w o σ := A7 20 (by decide)
      have y21 : (I7 S 21).toInt = spT M r o σ := A7 21 (by decide)
      refine Wp_jq (fun k => ∀ s : Int32, s.toInt = bn1 M r w o σ - bn2 M r w o σ → Wp (k s) Q) (fun s hs' => ?_) (fun k hk => ?_)
      · refine Wp_lb (fun I8 x8 => Wp_lb (fun I9 x9 => ?_))
        have A8 : RA1 I8 S (u1 (u1 (midT M r w o σ) 20 (bn1 M r w o σ)) 21 (spT M r o σ + (bn1 M r w o σ - bn2 M r w o σ))) := by rw [x8]; exact A7.put (t_add y21 hs' (by omega))
        have z20 : (I8 S 20).toInt = bn1 M r w o σ := A8 20 (by decide)
        have A9 : RA1 I9 S (u1 (u1 (u1 (midT M r w o σ) 20 (bn1 M r w o σ)) 21 (spT M r o σ + (bn1 M r w o σ - bn2 M r w o σ))) 20 (bn2 M r w o σ)) := by rw [x9]; exact A8.put (by rw [t_sub z20 hs' (by omega)]; omega)
        have f9 : ∀ b, ¬ b = S → I9 b = I b := fun b hb => by rw [x9, up2_row _ _ hb, x8, up2_row _ _ hb]; exact f7 b hb
        have r6 := (RMl.fr hm sr f9).1.2.2.2.2.2.2.1
        have w20 : (I9 S 20).toInt = bn2 M r w o σ := A9 20 (by decide)
        refine Wp_jq (fun k => ∀ s : Int32, s.toInt = drT M r w o σ → Wp (k s) Q) (fun s2 hs2 => ?_) (fun k hk => ?_)
        · refine Wp_lb (fun I10 x10 => Wp_lb (fun I11 x11 => Wp_lb (fun I12 x12 => ?_)))
          have A10 := A9.put (k := 20) (t_sub w20 hs2 (by omega))
          rw [← x10] at A10
          have v22 : (I10 S 22).toInt = σ 22 := A10 22 (by decide)
          have A11 := A10.put (k := 22) (t_add v22 hs2 (by omega))
          rw [← x11] at A11
          have f11 : ∀ b, ¬ b = S → I11 b = I b := fun b hb => by rw [x11, up2_row _ _ hb, x10, up2_row _ _ hb]; exact f9 b hb
          have r6' := (RMl.fr hm sr f11).1.2.2.2.2.2.2.1
          have v23 : (I11 S 23).toInt = σ 23 := A11 23 (by decide)
          have A12 := A11.put (k := 23) (t_add v23 (t_sub r6' hs2 (by omega)) (by omega))
          rw [← x12] at A12
          have f12 : ∀ b, ¬ b = S → I12 b = I b := fun b hb => by rw [x12, up2_row _ _ hb]; exact f11 b hb
          obtain ⟨⟨g0, g1, _, _, _, _, _, _, _, _⟩, _⟩ := RMl.fr hm sr f12
          have v28 : (I12 S 28).toInt = fullT M r o σ := A12 28 (by decide)
          have lf := mulb m1.1 m1.2 hb.2.1 hb.2.2
          have ll := Int.ediv_le_self (M.1 0) lf.1
          have ln := Int.ediv_nonneg lf.1 (show 0 ≤ M.1 0 by omega)
          refine Wp.pos (by omega) (Wp_lb (fun v4 ev4 => ?_))
          have h4 : v4.toInt = M.1 1 - M.1 1 * fullT M r o σ / M.1 0 := by rw [ev4]; exact t_sub g1 ((tdivF (t_mul g1 v28 (by omega)) g0 (by omega)).1 lf.1) (by omega)
          refine Wp_jq (fun k => ∀ s : Int32, s.toInt = max (M.1 1 - M.1 1 * fullT M r o σ / M.1 0) 0 → Wp (k s) Q) (fun s3 hs3 => ?_) (fun k hk => ?_)
          · refine Wp_lb (fun I13 x13 => ?_)
            have A13 := A12.put (k := 31) hs3
            rw [← x13] at A13
            have f13 : ∀ b, ¬ b = S → I13 b = I b := fun b hb => by rw [x13, up2_row _ _ hb]; exact f12 b hb
            have hm13 := RMl.fr hm sr f13
            have g7 := hm13.1.2.2.2.2.2.2.2.1
            have v27 : (I13 S 27).toInt = σ 27 := A13 27 (by decide)
            have v30 : (I13 S 30).toInt = pwT M r o σ := A13 30 (by decide)
            have v32 : (I13 S 32).toInt = σ 32 := A13 32 (by decide)
            have er := tremV v27 g7 (by omega) s5'.1
            have er1 := Int.emod_nonneg (σ 27) (show M.1 9 ≠ 0 by omega)
            have er2 := Int.emod_lt_of_pos (σ 27) (show 0 < M.1 9 by omega)
            rw [er]
            have xb := hM.2.2.2.2.2.2.2.2.2.1 (σ 27 % M.1 9).toNat (by omega)
            have vp : (I13 (rf O (rf O a 3) 11) (σ 27 % M.1 9).toNat).toInt = prT M (σ 27) := hm13.2 0 _ (by decide) (by show _ < 6; omega)
            have pw := mulb b4.1 b4.2 xb.1 xb.2
            have pw2 : 0 ≤ pwT M r o σ * prT M (σ 27) ∧ pwT M r o σ * prT M (σ 27) ≤ 999 * 99 := pw
            refine Wp.pos (by omega) (Wp.pos (by omega) (Wp_lb (fun I14 x14 => Wp_lb (fun I15 x15 => Wp_lb (fun I16 x16 => Wp.ret ?_)))))
            have A14 := A13.put (k := 32) (t_add v32 (t_mul v30 vp (by omega)) (by omega))
            rw [← x14] at A14
            have v24 : (I14 S 24).toInt = σ 24 := A14 24 (by decide)
            have A15 := A14.put (k := 24) (t_add v24 k_1 (by omega))
            rw [← x15] at A15
            have v27' : (I15 S 27).toInt = σ 27 := A15 27 (by decide)
            have A16 := A15.put (k := 27) (t_add v27' k_1 (by omega))
            rw [← x16] at A16
            refine hQ I16 (A16.eq (fun k hk => ?_)) (fun b hb => by rw [x16, up2_row _ _ hb, x15, up2_row _ _ hb, x14, up2_row _ _ hb]; exact f13 b hb)
            by_cases k27 : k = 27
            · subst k27; rfl
            rw [u1_n k27]
            by_cases k24 : k = 24
            · subst k24; rfl
            rw [u1_n k24]
            by_cases k32 : k = 32
            · subst k32; rfl
            rw [u1_n k32]
            by_cases k31 : k = 31
            · subst k31; rfl
            rw [u1_n k31]
            by_cases k23 : k = 23
            · subst k23; rfl
            rw [u1_n k23]
            by_cases k22 : k = 22
            · subst k22; rfl
            rw [u1_n k22]
            by_cases k20 : k = 20
            · subst k20; rfl
            rw [u1_n k20, u1_n k20]
            by_cases k21 : k = 21
            · subst k21; rfl
            rw [u1_n k21, u1_n k20]
            unfold midT HH
            rw [if_neg k20, if_neg k21, if_neg k21, if_neg k22, if_neg k23, if_neg k24, if_neg k27, if_neg k31, if_neg k32]
          · by_cases c : 0 ≤ M.1 1 - M.1 1 * fullT M r o σ / M.1 0
            · exact Wp.pos (by omega) (hk _ (by omega))
            · exact Wp.neg (by omega) (hk _ (by rw [k_0]; omega))
        · by_cases c : M.1 6 ≤ bn2 M r w o σ
          · exact Wp.pos (by omega) (hk _ (by omega))
          · exact Wp.neg (by omega) (hk _ (by omega))
      · by_cases c : bn1 M r w o σ ≤ M.1 5
        · exact Wp.pos (by omega) (hk _ (by rw [k_0]; omega))
        · exact Wp.neg (by omega) (hk _ (by rw [t_sub y20 r5 (by omega)]; omega))
    by_cases hg : fullT M r o σ ≤ M.1 0
    · refine Wp.pos (by omega) (Wp_lb (fun I3 x3 => Wp_lb (fun I4 x4 => Wp_lb (fun I5 x5 => Wp.jn ?_))))
      have A3 := A2.put (k := 26) k_0
      rw [← x3] at A3
      have A4 := A3.put (k := 29) k_0
      rw [← x4] at A4
      have A5 := A4.put (k := 30) k_0
      rw [← x5] at A5
      have f5 : ∀ b, ¬ b = S → I5 b = I b := fun b hb => by rw [x5, up2_row _ _ hb, x4, up2_row _ _ hb, x3, up2_row _ _ hb]; exact f2 b hb
      have w26 : (I5 S 26).toInt = 0 := A5 26 (by decide)
      have U : ∀ k, ¬ k = 28 → ¬ k = 26 → ¬ k = 29 → ¬ k = 30 → u1 (u1 (u1 (u1 (tk M r o σ) 28 (fullT M r o σ)) 26 0) 29 0) 30 0 k = tk M r o σ k := fun k h1 h2 h3 h4 => by rw [u1_n h4, u1_n h3, u1_n h2, u1_n h1]
      have U5 : ∀ k, k < 5 → u1 (u1 (u1 (u1 (tk M r o σ) 28 (fullT M r o σ)) 26 0) 29 0) 30 0 k = hT M r o σ k := fun k hk => by rw [U k (by omega) (by omega) (by omega) (by omega)]; exact T5 k hk
      have u24 : u1 (u1 (u1 (u1 (tk M r o σ) 28 (fullT M r o σ)) 26 0) 29 0) 30 0 24 = σ 24 := rfl
      refine Wp.pos w26 (Wp.bd1 ?_)
      refine r_grinds (full := fullT M r o σ) (tears := σ 25) hN hM hs (RMl.fr hm sr f5) sr A5 (fun k hk => by rw [U5 k hk]; exact hb.1 k hk) ?_ ⟨hb.2.1, hg⟩ rfl (by rw [u24]; omega) h36 h35 rfl s7 (fun k hk hz => ⟨by rw [U5 k hk]; exact hZ k hk hz, ?_, ?_⟩) (fun k hk => ?_) (fun I18 k1 k2 => key I18 (k1.eq (fun k hk => ?_)) (fun b hb => by rw [k2 b hb]; exact f5 b hb))
      · show s5 _ = s5 (hT M r o σ)
        unfold s5
        rw [U5 0 (by decide), U5 1 (by decide), U5 2 (by decide), U5 3 (by decide), U5 4 (by decide)]
      · rw [U _ (by omega) (by omega) (by omega) (by omega)]; exact Tz _ (by omega) (by omega)
      · rw [U _ (by omega) (by omega) (by omega) (by omega)]; exact Tz _ (by omega) (by omega)
      · rw [U _ (by omega) (by omega) (by omega) (by omega), Tk _ (by omega) (by omega)]
        have := s9 (15 + k) (by omega); omega
      · try dsimp only
        rw [u24]
        have bc : ∀ j, j < 5 → brk M (effT M o (fullT M r o σ) (σ 24)) (zN M - 1) (u1 (u1 (u1 (u1 (tk M r o σ) 28 (fullT M r o σ)) 26 0) 29 0) 30 0) j = hB M r o σ j := fun j hj => brk_c hM _ _ _ (by omega) U5 j hj
        unfold midT
        by_cases d5 : k < 5
        · simp only [if_pos d5]; unfold hdT; rw [if_pos hg, bc k d5]
        simp only [if_neg d5]
        by_cases d10 : k < 10
        · simp only [if_pos d10]; unfold bcT; rw [if_pos hg, bc (k - 5) (by omega)]
        simp only [if_neg d10]
        by_cases d15 : k < 15
        · simp only [if_pos d15]; unfold paT; rw [if_pos hg, bc (k - 10) (by omega)]
        simp only [if_neg d15]
        by_cases d20 : k < 20
        · simp only [if_pos d20]; unfold paT; rw [if_pos hg, bc (k - 15) (by omega), U _ (by omega) (by omega) (by omega) (by omega), Tk _ (by omega) (by omega)]
        simp only [if_neg d20]
        by_cases k29 : k = 29
        · subst k29; show effT M o (fullT M r o σ) (σ 24) = efT M r o σ; unfold efT; rw [if_pos hg]
        by_cases k30 : k = 30
        · subst k30; show fullT M r o σ * effT M o (fullT M r o σ) (σ 24) / 100 = pwT M r o σ; unfold pwT; rw [if_pos hg]
        by_cases k21 : k = 21
        · subst k21; show σ 21 = spT M r o σ; unfold spT; rw [if_pos hg]
        by_cases k26 : k = 26
        · subst k26; show (0 : Int) = if fullT M r o σ ≤ M.1 0 then 0 else 1; rw [if_pos hg]
        by_cases k28 : k = 28
        · subst k28; show fullT M r o σ = fullT M r o σ; rfl
        simp only [if_neg k29, if_neg k30, if_neg k21, if_neg k26, if_neg k28]
        rw [U k k28 k26 k29 k30]
        unfold tk
        simp only [if_neg d5, if_neg d15]
    · refine Wp.neg (by omega) (Wp_lb (fun I3 x3 => Wp_lb (fun I4 x4 => Wp_lb (fun I5 x5 => Wp.jn ?_))))
      have A3 := A2.put (k := 26) k_1
      rw [← x3] at A3
      have A4 := A3.put (k := 29) k_0
      rw [← x4] at A4
      have A5 := A4.put (k := 30) k_0
      rw [← x5] at A5
      have f5 : ∀ b, ¬ b = S → I5 b = I b := fun b hb => by rw [x5, up2_row _ _ hb, x4, up2_row _ _ hb, x3, up2_row _ _ hb]; exact f2 b hb
      have w26 : (I5 S 26).toInt = 1 := A5 26 (by decide)
      have U : ∀ k, ¬ k = 28 → ¬ k = 26 → ¬ k = 29 → ¬ k = 30 → u1 (u1 (u1 (u1 (tk M r o σ) 28 (fullT M r o σ)) 26 1) 29 0) 30 0 k = tk M r o σ k := fun k h1 h2 h3 h4 => by rw [u1_n h4, u1_n h3, u1_n h2, u1_n h1]
      have U5 : ∀ k, k < 5 → u1 (u1 (u1 (u1 (tk M r o σ) 28 (fullT M r o σ)) 26 1) 29 0) 30 0 k = hT M r o σ k := fun k hk => by rw [U k (by omega) (by omega) (by omega) (by omega)]; exact T5 k hk
      have u21' : u1 (u1 (u1 (u1 (tk M r o σ) 28 (fullT M r o σ)) 26 1) 29 0) 30 0 21 = σ 21 := rfl
      refine Wp.neg (by omega) (Wp.bd1 ?_)
      refine r_digs (h := σ) hN hM (RMl.fr hm sr f5) sr A5 (fun k hk => by rw [U5 k hk]; exact kH k hk) (fun k hk hz => by rw [U5 k hk]; exact hZ k hk hz) (by rw [u21']; omega) (fun I18 k1 k2 => key I18 (k1.eq (fun k hk => ?_)) (fun b hb => by rw [k2 b hb]; exact f5 b hb))
      have ds : s5 (fun j => dgT (u1 (u1 (u1 (u1 (tk M r o σ) 28 (fullT M r o σ)) 26 1) 29 0) 30 0 j)) = s5 (fun j => dgT (hT M r o σ j)) := by
        unfold s5
        try dsimp only
        rw [U5 0 (by decide), U5 1 (by decide), U5 2 (by decide), U5 3 (by decide), U5 4 (by decide)]
      try dsimp only
      unfold midT
      by_cases d5 : k < 5
      · simp only [if_pos d5]; unfold hdT; rw [if_neg hg, U5 k d5]
      simp only [if_neg d5]
      by_cases k21 : k = 21
      · subst k21; rw [if_pos rfl, ds]; show σ 21 + s5 (fun j => dgT (hT M r o σ j)) = spT M r o σ; unfold spT; rw [if_neg hg]
      simp only [if_neg k21]
      by_cases d10 : k < 10
      · simp only [if_pos d10]; unfold bcT; rw [if_neg hg, U _ (by omega) (by omega) (by omega) (by omega)]; exact Tz k (by omega) (by omega)
      simp only [if_neg d10]
      by_cases d15 : k < 15
      · simp only [if_pos d15]; unfold paT; rw [if_neg hg, U _ (by omega) (by omega) (by omega) (by omega)]; exact Tz k (by omega) (by omega)
      simp only [if_neg d15]
      by_cases d20 : k < 20
      · simp only [if_pos d20]; unfold paT; rw [if_neg hg, U _ (by omega) (by omega) (by omega) (by omega), Tk _ (by omega) (by omega)]; omega
      simp only [if_neg d20]
      by_cases k26 : k = 26
      · subst k26; show (1 : Int) = if fullT M r o σ ≤ M.1 0 then 0 else 1; rw [if_neg hg]
      by_cases k28 : k = 28
      · subst k28; show fullT M r o σ = fullT M r o σ; rfl
      by_cases k29 : k = 29
      · subst k29; show (0 : Int) = efT M r o σ; unfold efT; rw [if_neg hg]
      by_cases k30 : k = 30
      · subst k30; show (0 : Int) = pwT M r o σ; unfold pwT; rw [if_neg hg]
      simp only [if_neg k26, if_neg k28, if_neg k29, if_neg k30]
      rw [U k k28 k26 k29 k30]
      unfold tk
      simp only [if_neg d5, if_neg d15]
end RGO2
