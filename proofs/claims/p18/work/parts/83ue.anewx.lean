/-! what a beginning anew leaves of the program, the guesses, the sight and the plans -/
def CN (I : WI) (O : WO) (a : Nat) : Prop := (∀ h, h < 12 → (I (rf O a 5) (3 * h)).toInt = 1 ∧ (I (rf O a 5) (3 * h + 1)).toInt = 1 ∧ (I (rf O a 5) (3 * h + 2)).toInt = 0) ∧ (∀ st, st < 100 → (I (rf O (rf O a 6) 1) st).toInt = 0) ∧ (I (rf O a 7) 4).toInt = 0 ∧ (I (rf O a 7) 7).toInt = 0 ∧ (I (rf O a 8) 7).toInt = 0
section ANEWX
variable {P : List Nat} {K : Nat → Nat} {N : Nat} {O : WO} {I : WI} {J : WJ} {g x : Nat}
theorem nar0 : (vp_nar .boolean (Int32.ofInt 0)).toInt = 0 := by decide
theorem nar1 : (vp_nar .boolean (Int32.ofInt 1)).toInt = 1 := by decide
theorem c_makeStale {Q : WI → Prop} (hN : 200 ≤ N) (hQ : ∀ I', (∀ st, st < 100 → (I' (rf O g 1) st).toInt = 0) → (∀ b, ¬ b = rf O g 1 → I' b = I b) → Q I') : Wp (F_Gu_makeStale N O I J g) Q := by
  unfold F_Gu_makeStale
  refine forU (n := 100) (fun i I1 => (∀ k, k < i → (I1 (rf O g 1) k).toInt = 0) ∧ (∀ b, ¬ b = rf O g 1 → I1 b = I b)) (by omega) ⟨fun k hk => absurd hk (Nat.not_lt_zero _), fun _ _ => rfl⟩ ?_ ?_
  · intro rec y i I1 hy hi ⟨v0, v1⟩ kk
    have ey : y.toInt.toNat = i := tn_i hy
    unfold B_Gu_makeStale_2
    refine Wp.neg (by omega) (Wp.pos (by omega) (Wp_lb (fun I2 e2 => Wp_lb (fun v ev => ?_))))
    rw [ey] at e2
    refine kk v I2 (by rw [ev]; exact inc1 hy (by omega)) ⟨fun k hk => ?_, fun b hb => by rw [e2, up2_row _ _ hb]; exact v1 b hb⟩
    rw [e2]
    by_cases e : k = i
    · subst e; rw [up2_self]; exact nar0
    · rw [up2_ne _ _ (fun z => e z.2)]; exact v0 k (by omega)
  · intro rec y I1 hy ⟨v0, v1⟩
    unfold B_Gu_makeStale_2
    exact Wp.pos (by omega) (Wp.ret (hQ I1 v0 v1))
theorem c_anewX (hN : 200 ≤ N) (hT : TR P K O) (hx : x ∈ P ∧ K x = 8) : Pp (F_RM_beginAnew N O I J x) (fun I' => CN I' O x) := by
  have nlb : ∀ {c d κ κ' : Nat}, K c = κ → K d = κ' → κ ≠ κ' → ¬ c = d := fun h1 h2 h3 z => h3 (by rw [← h1, ← h2, z])
  have t5 := rf_ok hT hx (show sp 8 5 = some 19 from rfl)
  have t6 := rf_ok hT hx (show sp 8 6 = some 1 from rfl)
  have t61 := rf_ok hT t6 (show sp 1 1 = some 21 from rfl)
  have t7 := rf_ok hT hx (show sp 8 7 = some 6 from rfl)
  have t8 := rf_ok hT hx (show sp 8 8 = some 4 from rfl)
  have t9 := rf_ok hT hx (show sp 8 9 = some 7 from rfl)
  unfold F_RM_beginAnew
  refine Ppa1 (fun I1 => Pp_lb (fun I2 _ => Pp_lb (fun I3 _ => Pp_lb (fun I4 _ => Wp.pp ?_))))
  refine forU (n := 12) (fun i I5 => ∀ h, h < i → (I5 (rf O x 5) (3 * h)).toInt = 1 ∧ (I5 (rf O x 5) (3 * h + 1)).toInt = 1 ∧ (I5 (rf O x 5) (3 * h + 2)).toInt = 0) (by omega) (fun h hh => absurd hh (Nat.not_lt_zero _)) ?_ ?_
  · intro rec y i I5 hy hi v kk
    have e3 := t_mul hy (ofI (n := 3) (by decide)) (by omega)
    have q0 : (y * Int32.ofInt 3 + Int32.ofInt 0).toInt = ((3 * i : Nat) : Int) := by rw [t_add e3 k_0 (by omega)]; omega
    have q1 : (y * Int32.ofInt 3 + Int32.ofInt 1).toInt = ((3 * i + 1 : Nat) : Int) := by rw [t_add e3 k_1 (by omega)]; omega
    have q2 : (y * Int32.ofInt 3 + Int32.ofInt 2).toInt = ((3 * i + 2 : Nat) : Int) := by rw [t_add e3 (ofI (n := 2) (by decide)) (by omega)]; omega
    unfold B_RM_beginAnew_30
    refine Wp.neg (by omega) (Wp.pos (by omega) (Wp_lb (fun I6 x6 => Wp.pos (by omega) (Wp_lb (fun I7 x7 => Wp.pos (by omega) (Wp_lb (fun I8 x8 => Wp_lb (fun w ew => ?_))))))))
    rw [tn_i q0] at x6
    rw [tn_i q1] at x7
    rw [tn_i q2] at x8
    refine kk w I8 (by rw [ew]; exact inc1 hy (by omega)) (fun h hh => ?_)
    rw [x8]
    by_cases e : h = i
    · subst e
      refine ⟨?_, ?_, ?_⟩
      · rw [up2_ne _ _ (fun z => by omega), x7, up2_ne _ _ (fun z => by omega), x6, up2_self]; exact k_1
      · rw [up2_ne _ _ (fun z => by omega), x7, up2_self]; exact k_1
      · rw [up2_self]; exact k_0
    · rw [up2_ne _ _ (fun z => by omega), up2_ne _ _ (fun z => by omega), up2_ne _ _ (fun z => by omega), x7, up2_ne _ _ (fun z => by omega), up2_ne _ _ (fun z => by omega), up2_ne _ _ (fun z => by omega), x6, up2_ne _ _ (fun z => by omega), up2_ne _ _ (fun z => by omega), up2_ne _ _ (fun z => by omega)]
      exact v h (by omega)
  · intro rec y I5 hy v
    unfold B_RM_beginAnew_30
    refine Wp.pos (by omega) (Wp.bd1 (c_makeStale hN (fun I6 s1 s2 => ?_)))
    unfold F_Si_drop F_Tr_drop F_Pl_drop
    refine Wp.bd2 (Wp_lb (fun _ _ => Wp_lb (fun I7 x7 => Wp_lb (fun I8 x8 => Wp.ret (Wp.bd2 (Wp_lb (fun _ _ => Wp_lb (fun I9 x9 => Wp_lb (fun I10 x10 => Wp.ret (Wp.bd1 (Wp_lb (fun I11 x11 => Wp.ret (Wp_lb (fun I12 x12 => Wp.ret ?_))))))))))))))
    have f : ∀ b κ, K b = κ → κ ≠ 6 → κ ≠ 7 → κ ≠ 4 → κ ≠ 8 → I12 b = I6 b := fun b κ h1 h6 h7 h4 h8 => by
      have x12' : I12 = up2 I11 x 13 (Int32.ofInt 0) := x12
      have x11' : I11 = up2 I10 (rf O x 8) 7 (Int32.ofInt 0) := x11
      have x9' : I9 = up2 I8 (rf O x 9) 3 (Int32.ofInt 0) := x9
      rw [x12', up2_row _ _ (nlb h1 hx.2 h8), x11', up2_row _ _ (nlb h1 t8.2 h4), x10, up2_row _ _ (nlb h1 t9.2 h7), x9', up2_row _ _ (nlb h1 t9.2 h7), x8, up2_row _ _ (nlb h1 t7.2 h6), x7, up2_row _ _ (nlb h1 t7.2 h6)]
    have f7 : I12 (rf O x 7) = I8 (rf O x 7) := by
      have x12' : I12 = up2 I11 x 13 (Int32.ofInt 0) := x12
      have x11' : I11 = up2 I10 (rf O x 8) 7 (Int32.ofInt 0) := x11
      have x9' : I9 = up2 I8 (rf O x 9) 3 (Int32.ofInt 0) := x9
      rw [x12', up2_row _ _ (nlb t7.2 hx.2 (by decide)), x11', up2_row _ _ (nlb t7.2 t8.2 (by decide)), x10, up2_row _ _ (nlb t7.2 t9.2 (by decide)), x9', up2_row _ _ (nlb t7.2 t9.2 (by decide))]
    refine ⟨fun h hh => ?_, fun st hst => ?_, ?_, ?_, ?_⟩
    · rw [f _ 19 t5.2 (by decide) (by decide) (by decide) (by decide), s2 _ (nlb t5.2 t61.2 (by decide))]; exact v h hh
    · rw [f _ 21 t61.2 (by decide) (by decide) (by decide) (by decide)]; exact s1 st hst
    · rw [f7, x8, up2_ne _ _ (fun z => absurd z.2 (by decide)), x7, up2_self]; exact k_0
    · rw [f7, x8, up2_self]; exact k_0
    · have x12' : I12 = up2 I11 x 13 (Int32.ofInt 0) := x12
      have x11' : I11 = up2 I10 (rf O x 8) 7 (Int32.ofInt 0) := x11
      rw [x12', up2_row _ _ (nlb t8.2 hx.2 (by decide)), x11', up2_self]; exact k_0
end ANEWX
