/-! guesses, on both sides -/
/-- a row of settings by hours -/
def CCr (I : WI) (b : Nat) (c : CO) : Prop := ∀ h, h < 12 → (I b (3 * h)).toInt = (c h).1 ∧ (I b (3 * h + 1)).toInt = (c h).2.1 ∧ (I b (3 * h + 2)).toInt = (c h).2.2
def PCr (I : WI) (O : WO) (a : Nat) (c : CO) : Prop := ∀ h, h < 12 → (I (rf O a 20) h).toInt = (c h).1 ∧ (I (rf O a 21) h).toInt = (c h).2.1 ∧ (I (rf O a 22) h).toInt = (c h).2.2
/-- what is known was told -/
def GCa (I : WI) (O : WO) (g : Nat) (M : MM) (c : CO) : Prop := ∀ st, st < 100 → ¬ (I (rf O g 1) st).toInt = 0 → ∀ h, h < 12 → ∀ w, w < 7 → (I (rf O g 0) (84 * st + 7 * h + w)).toInt = TT M c st h w
def SGu (O : WO) (g m a2 : Nat) : Prop := SPd O (rf O g 2) m ∧ ¬ WD O (rf O g 2) (rf O g 0) ∧ ¬ WD O (rf O g 2) (rf O g 1) ∧ ¬ WD O (rf O g 2) a2 ∧ ¬ rf O g 0 = rf O g 1 ∧ ¬ a2 = rf O g 0 ∧ ¬ a2 = rf O g 1 ∧ (∀ b, b = rf O g 0 ∨ b = rf O g 1 → ¬ m = b ∧ ∀ j, j < 5 → ¬ rf O m (10 + j) = b)
section TELLS
variable {N : Nat} {O : WO} {I : WI} {J : WJ} {M : MM} {c : CO} {g m a2 a S : Nat}
theorem SGu.mf {I1 : WI} (s : SGu O g m a2) (hm : CMl I O m M) (f : ∀ b, ¬ WD O (rf O g 2) b → ¬ b = rf O g 0 → ¬ b = rf O g 1 → I1 b = I b) : CMl I1 O m M := by
  obtain ⟨s1, s2, s3, s4, s5', s6, s7, s8⟩ := s
  exact hm.fr (f m (fun z => (s1.2.2 m z).1 rfl) (s8 _ (Or.inl rfl)).1 (s8 _ (Or.inr rfl)).1) (fun j hj => f _ (fun z => (s1.2.2 _ z).2 j hj rfl) ((s8 _ (Or.inl rfl)).2 j hj) ((s8 _ (Or.inr rfl)).2 j hj))
theorem SGu.cf {I1 : WI} (s : SGu O g m a2) (hc : CCr I a2 c) (f : ∀ b, ¬ WD O (rf O g 2) b → ¬ b = rf O g 0 → ¬ b = rf O g 1 → I1 b = I b) : CCr I1 a2 c := fun h hh => by
  rw [f a2 s.2.2.2.1 s.2.2.2.2.2.1 s.2.2.2.2.2.2.1]; exact hc h hh
theorem c_tellOne {x3 : Int32} {st : Nat} {Q : WI → Prop} (hN : 20 ≤ N) (hM : MB M) (hcv : CV M c) (hm : CMl I O m M) (hc : CCr I a2 c) (s : SGu O g m a2) (hx : x3.toInt = (st : Int)) (hst : st < 100) (hG : GCa I O g M c)
    (hQ : ∀ I', GCa I' O g M c → ¬ (I' (rf O g 1) st).toInt = 0 → (∀ k, ¬ (I (rf O g 1) k).toInt = 0 → ¬ (I' (rf O g 1) k).toInt = 0) → (∀ b, ¬ WD O (rf O g 2) b → ¬ b = rf O g 0 → ¬ b = rf O g 1 → I' b = I b) → Q I') : Wp (F_Gu_tellOne N O I J g m a2 x3) Q := by
  obtain ⟨s1, s2, s3, s4, s5', s6, s7, s8⟩ := id s
  have ex3 : x3.toInt.toNat = st := tn_i hx
  unfold F_Gu_tellOne
  refine Wp.neg (by omega) (Wp.neg (by omega) (Wp.pos (by omega) ?_))
  rw [ex3]
  by_cases kn : (I (rf O g 1) st).toInt = 0
  · refine Wp.pos kn (Wp.bd1 (c_beginStart (t := st / 25) (l := st / 5 % 5) (f := st % 5) (by omega) hM hm s1 (by rw [hx]; omega) (by omega) (by omega) (by omega) (fun I1 a1 a2' => ?_)))
    have hS := bsT_SI hM hst
    have a1' : DRs I1 O (rf O g 2) (bsT M st) := a1
    refine forU (n := 12) (fun i I2 => DRs I2 O (rf O g 2) (tj M c (bsT M st) i) ∧ (∀ h, h < i → ∀ w, w < 7 → (I2 (rf O g 0) (84 * st + 7 * h + w)).toInt = TT M c st h w) ∧ (∀ k, (k < 84 * st ∨ 84 * st + 84 ≤ k) → I2 (rf O g 0) k = I (rf O g 0) k) ∧ (∀ b, ¬ WD O (rf O g 2) b → ¬ b = rf O g 0 → I2 b = I b)) (by omega) ⟨a1', fun h hh => absurd hh (Nat.not_lt_zero _), fun k _ => by rw [a2' _ s2], fun b hb _ => a2' b hb⟩ ?_ ?_
    · intro rec x i I2 hx2 hi ⟨v1, v2, v3, v4⟩ kk
      have tI := tj_I hM hcv hS.1 hS.2 i (by omega)
      have fr2 : ∀ b, ¬ WD O (rf O g 2) b → ¬ b = rf O g 0 → ¬ b = rf O g 1 → I2 b = I b := fun b b1 b2 _ => v4 b b1 b2
      have hc2 := s.cf hc fr2 i hi
      unfold B_Gu_tellOne_32
      have e3 : (x * Int32.ofInt 3).toInt = ((3 * i : Nat) : Int) := by rw [t_mul hx2 (ofI (n := 3) (by decide)) (by omega)]; omega
      refine Wp.neg (by omega) (Wp.bd1 (c_runHour (p := 3 * i) (by omega) hM (hcv i hi) tI.1 (s.mf hm fr2) s1 s4 e3 (by show 3 * i + 3 ≤ 36; omega) (by decide) hc2.1 hc2.2.1 hc2.2.2 v1 (fun I3 d1 d2 d3 => Wp_lb (fun v5 e5 => ?_))))
      have d1' : DRs I3 O (rf O g 2) (tj M c (bsT M st) (i + 1)) := d1
      have h5 : v5.toInt = ((84 * st + 7 * i : Nat) : Int) := by
        rw [e5, t_mul (t_add (t_mul hx (ofI (n := 12) (by decide)) (by omega)) hx2 (by omega)) (ofI (n := 7) (by decide)) (by omega)]; omega
      have h51 : (v5 + Int32.ofInt 1).toInt = ((84 * st + 7 * i + 1 : Nat) : Int) := by rw [t_add h5 k_1 (by omega)]; omega
      clear e5
      refine Wp.pos (by omega) (Wp_lb (fun I4 x4 => Wp.pos (by omega) (Wp_lb (fun I5 x5 => ?_))))
      rw [tn_i h5] at x4
      rw [tn_i h51] at x5
      have nd : ¬ rf O g 2 = rf O g 0 := fun z => s2 (Or.inl z.symm)
      have f5 : ∀ b, ¬ b = rf O g 0 → I5 b = I3 b := fun b hb => by rw [x5, up2_row _ _ hb, x4, up2_row _ _ hb]
      have wne : ∀ b, WD O (rf O g 2) b → ¬ b = rf O g 0 := fun b hb z => s2 (by rw [← z]; exact hb)
      have D5 : DRs I5 O (rf O g 2) (tj M c (bsT M st) (i + 1)) := d1'.fr2 (fun b hb => f5 b (wne b hb))
      have t0 : (I5 (rf O g 0) (84 * st + 7 * i)).toInt = TT M c st i 0 := by
        rw [x5, up2_ne _ _ (fun z => by omega), x4, up2_self]; exact d1'.2.2.2.2.2.2.2.2.2.2.2.2.1
      have t1 : (I5 (rf O g 0) (84 * st + 7 * i + 1)).toInt = TT M c st i 1 := by
        rw [x5, up2_self, x4, up2_row _ _ nd]; exact d1'.2.2.2.2.2.2.2.2.2.2.2.1
      have o5 : ∀ k, ¬ k = 84 * st + 7 * i → ¬ k = 84 * st + 7 * i + 1 → I5 (rf O g 0) k = I2 (rf O g 0) k := fun k k0 k1 => by
        rw [x5, up2_ne _ _ (fun z => k1 z.2), x4, up2_ne _ _ (fun z => k0 z.2), d3 _ s2]
      clear x5 x4 d1 d1'
      refine forU (n := 5) (fun j I6 => DRs I6 O (rf O g 2) (tj M c (bsT M st) (i + 1)) ∧ (∀ w, w < 2 + j → (I6 (rf O g 0) (84 * st + 7 * i + w)).toInt = TT M c st i w) ∧ (∀ k, (k < 84 * st + 7 * i ∨ 84 * st + 7 * i + 7 ≤ k) → I6 (rf O g 0) k = I2 (rf O g 0) k) ∧ (∀ b, ¬ b = rf O g 0 → I6 b = I3 b)) (by omega) ⟨D5, fun w hw => ?_, fun k hk => o5 k (by omega) (by omega), f5⟩ ?_ ?_
      · have : w = 0 ∨ w = 1 := by omega
        rcases this with rfl | rfl
        · exact t0
        · exact t1
      · intro rec2 y j I6 hy hj ⟨u1', u2, u3, u4⟩ kk2
        have ey : y.toInt.toNat = j := tn_i hy
        have e6 : (v5 + Int32.ofInt 2 + y).toInt = ((84 * st + 7 * i + (2 + j) : Nat) : Int) := by rw [t_add (t_add h5 (ofI (n := 2) (by decide)) (by omega)) hy (by omega)]; omega
        unfold B_Gu_tellOne_97
        refine Wp.neg (by omega) (Wp.pos (by omega) (Wp.pos (by omega) (Wp_lb (fun I7 x7 => Wp_lb (fun v ev => ?_)))))
        rw [tn_i e6, ey] at x7
        have f7 : ∀ b, ¬ b = rf O g 0 → I7 b = I6 b := fun b hb => by rw [x7, up2_row _ _ hb]
        refine kk2 v I7 (by rw [ev]; exact inc1 hy (by omega)) ⟨u1'.fr2 (fun b hb => f7 b (wne b hb)), fun w hw => ?_, fun k hk => ?_, fun b hb => by rw [f7 b hb]; exact u4 b hb⟩
        · rw [x7]
          by_cases e : w = 2 + j
          · subst e
            rw [up2_self, (u1'.1 j hj).2.2.1]
            show _ = (if 2 + j = 0 then _ else if 2 + j = 1 then _ else tj M c (bsT M st) (i + 1) (8 + (2 + j)))
            rw [if_neg (by omega), if_neg (by omega), show 8 + (2 + j) = 10 + j by omega]
          · rw [up2_ne _ _ (fun z => e (by omega))]; exact u2 w (by omega)
        · rw [x7, up2_ne _ _ (fun z => by omega)]; exact u3 k hk
      · intro rec2 y I6 hy ⟨u1', u2, u3, u4⟩
        unfold B_Gu_tellOne_97
        refine Wp.pos (by omega) (Wp_lb (fun v ev => kk v I6 (by rw [ev]; exact inc1 hx2 (by omega)) ⟨u1', fun h hh w hw => ?_, fun k hk => ?_, fun b b1 b2 => ?_⟩))
        · by_cases e : h = i
          · subst e; exact u2 w (by omega)
          · rw [u3 _ (by omega)]; exact v2 h (by omega) w hw
        · rw [u3 k (by omega)]; exact v3 k hk
        · rw [u4 b b2, d3 b b1]; exact v4 b b1 b2
    · intro rec x I2 hx2 ⟨v1, v2, v3, v4⟩
      unfold B_Gu_tellOne_32
      refine Wp.pos (by omega) (Wp.pos (by omega) (Wp_lb (fun I3 x3' => Wp.ret ?_)))
      rw [ex3] at x3'
      have n01 : ¬ rf O g 0 = rf O g 1 := s5'
      have k4 : I2 (rf O g 1) = I (rf O g 1) := v4 _ s3 (fun z => n01 z.symm)
      refine hQ I3 (fun s' hs' hk' h hh w hw => ?_) ?_ (fun k hk => ?_) (fun b b1 b2 b3 => by rw [x3', up2_row _ _ b3]; exact v4 b b1 b2)
      · rw [x3', up2_row _ _ n01]
        by_cases e : s' = st
        · subst e; exact v2 h hh w hw
        · rw [v3 _ (by omega)]
          rw [x3', up2_ne _ _ (fun z => e z.2), k4] at hk'
          exact hG s' hs' hk' h hh w hw
      · rw [x3', up2_self, nar1]; decide
      · rw [x3']
        by_cases e : k = st
        · subst e; rw [up2_self, nar1]; decide
        · rw [up2_ne _ _ (fun z => e z.2), k4]; exact hk
  · exact Wp.neg kn (Wp.ret (hQ I hG kn (fun _ h => h) (fun _ _ _ _ => rfl)))
theorem c_tellAll {Q : WI → Prop} (hN : 200 ≤ N) (hM : MB M) (hcv : CV M c) (hm : CMl I O m M) (hc : CCr I a2 c) (s : SGu O g m a2) (hG : GCa I O g M c)
    (hQ : ∀ I', (∀ st, st < 100 → ∀ h, h < 12 → ∀ w, w < 7 → (I' (rf O g 0) (84 * st + 7 * h + w)).toInt = TT M c st h w) → GCa I' O g M c → (∀ b, ¬ WD O (rf O g 2) b → ¬ b = rf O g 0 → ¬ b = rf O g 1 → I' b = I b) → Q I') : Wp (F_Gu_tellAll N O I J g m a2) Q := by
  unfold F_Gu_tellAll
  refine forU (n := 100) (fun i I1 => GCa I1 O g M c ∧ (∀ k, k < i → ¬ (I1 (rf O g 1) k).toInt = 0) ∧ (∀ b, ¬ WD O (rf O g 2) b → ¬ b = rf O g 0 → ¬ b = rf O g 1 → I1 b = I b)) (by omega) ⟨hG, fun k hk => absurd hk (Nat.not_lt_zero _), fun _ _ _ _ => rfl⟩ ?_ ?_
  · intro rec x i I1 hx hi ⟨v1, v2, v3⟩ kk
    unfold B_Gu_tellAll_2
    refine Wp.neg (by omega) (Wp.bd1 (c_tellOne (st := i) (by omega) hM hcv (s.mf hm v3) (s.cf hc v3) s hx hi v1 (fun I2 q1 q2 q3 q4 => Wp_lb (fun v ev => kk v I2 (by rw [ev]; exact inc1 hx (by omega)) ⟨q1, fun k hk => ?_, fun b b1 b2 b3 => by rw [q4 b b1 b2 b3]; exact v3 b b1 b2 b3⟩))))
    by_cases e : k = i
    · rw [e]; exact q2
    · exact q3 k (v2 k (by omega))
  · intro rec x I1 hx ⟨v1, v2, v3⟩
    unfold B_Gu_tellAll_2
    exact Wp.pos (by omega) (Wp.ret (hQ I1 (fun st hst => v1 st hst (v2 st hst)) v1 v3))
theorem c_isHour {x : Int32} : F_RM_isHour N O I J x = some (bI (decide (0 ≤ x.toInt ∧ x.toInt ≤ 11))) := by
  unfold F_RM_isHour bI
  by_cases q : x.toInt < 0
  · rw [if_pos q, if_neg (by simp; omega)]
  · rw [if_neg q]
    by_cases q2 : 12 ≤ x.toInt
    · rw [if_pos q2, if_neg (by simp; omega)]
    · rw [if_neg q2, if_pos (by simp; omega)]
theorem c_isHeard {x : Int32} (hb : 0 ≤ (I (rf O a 1) 7).toInt ∧ (I (rf O a 1) 7).toInt ≤ 5) : F_RM_isHeard N O I J a x = some (bI (decide (0 ≤ x.toInt ∧ x.toInt ≤ 1 + (I (rf O a 1) 7).toInt))) := by
  unfold F_RM_isHeard bI
  have e : (Int32.ofInt 2 + I (rf O a 1) 7).toInt = 2 + (I (rf O a 1) 7).toInt := t_add (ofI (by decide)) rfl (by omega)
  by_cases q : x.toInt < 0
  · rw [if_pos q, if_neg (by simp; omega)]
  · rw [if_neg q]
    by_cases q2 : (Int32.ofInt 2 + I (rf O a 1) 7).toInt ≤ x.toInt
    · rw [if_pos q2, if_neg (by simp; omega)]
    · rw [if_neg q2, if_pos (by simp; omega)]
theorem c_isStart {x y z : Int32} : F_RM_isStart N O I J x y z = some (bI (decide ((0 ≤ x.toInt ∧ x.toInt ≤ 3) ∧ (0 ≤ y.toInt ∧ y.toInt ≤ 4) ∧ 0 ≤ z.toInt ∧ z.toInt ≤ 4))) := by
  unfold F_RM_isStart bI
  by_cases q1 : x.toInt < 0
  · rw [if_pos q1, if_neg (by simp; omega)]
  rw [if_neg q1]
  by_cases q2 : 3 < x.toInt
  · rw [if_pos q2, if_neg (by simp; omega)]
  rw [if_neg q2]
  by_cases q3 : y.toInt < 0
  · rw [if_pos q3, if_neg (by simp; omega)]
  rw [if_neg q3]
  by_cases q4 : 5 ≤ y.toInt
  · rw [if_pos q4, if_neg (by simp; omega)]
  rw [if_neg q4]
  by_cases q5 : z.toInt < 0
  · rw [if_pos q5, if_neg (by simp; omega)]
  rw [if_neg q5]
  by_cases q6 : 5 ≤ z.toInt
  · rw [if_pos q6, if_neg (by simp; omega)]
  rw [if_neg q6, if_pos (by simp; omega)]
theorem r_isStart {x y z : Int32} : F_Mo_isStart N O I J x y z = some (bI (decide ((0 ≤ x.toInt ∧ x.toInt ≤ 3) ∧ (0 ≤ y.toInt ∧ y.toInt ≤ 4) ∧ 0 ≤ z.toInt ∧ z.toInt ≤ 4))) := by
  have k3 : (Int32.ofInt 3).toInt = 3 := ofI (by decide)
  have k4 : (Int32.ofInt 4).toInt = 4 := ofI (by decide)
  unfold F_Mo_isStart
  rw [r_in, r_in, r_in, k_0, k3, k4]
  show (if (bI (decide (0 ≤ x.toInt ∧ x.toInt ≤ 3))).toInt = 0 then some (Int32.ofInt 0) else (if (bI (decide (0 ≤ y.toInt ∧ y.toInt ≤ 4))).toInt = 0 then some (Int32.ofInt 0) else (if (bI (decide (0 ≤ z.toInt ∧ z.toInt ≤ 4))).toInt = 0 then some (Int32.ofInt 0) else some (Int32.ofInt 1)))) = _
  by_cases q1 : 0 ≤ x.toInt ∧ x.toInt ≤ 3
  · rw [if_neg (fun h => bI_d0.mp h q1)]
    by_cases q2 : 0 ≤ y.toInt ∧ y.toInt ≤ 4
    · rw [if_neg (fun h => bI_d0.mp h q2)]
      by_cases q3 : 0 ≤ z.toInt ∧ z.toInt ≤ 4
      · rw [if_neg (fun h => bI_d0.mp h q3)]; unfold bI; rw [if_pos (decide_eq_true ⟨q1, q2, q3⟩)]
      · rw [if_pos (bI_d0.mpr q3)]; unfold bI; rw [if_neg (fun h => q3 (of_decide_eq_true h).2.2)]
    · rw [if_pos (bI_d0.mpr q2)]; unfold bI; rw [if_neg (fun h => q2 (of_decide_eq_true h).2.1)]
  · rw [if_pos (bI_d0.mpr q1)]; unfold bI; rw [if_neg (fun h => q1 (of_decide_eq_true h).1)]
theorem c_toldOf {x1 x2 x3 : Int32} {st h w : Nat} (h1 : x1.toInt = (st : Int)) (h2 : x2.toInt = (h : Int)) (h3 : x3.toInt = (w : Int)) (b1 : st < 100) (b2 : h < 12) (b3 : w < 7) : F_Gu_toldOf N O I J g x1 x2 x3 = some (I (rf O g 0) (84 * st + 7 * h + w)) := by
  unfold F_Gu_toldOf
  have e : ((x1 * Int32.ofInt 12 + x2) * Int32.ofInt 7 + x3).toInt = ((84 * st + 7 * h + w : Nat) : Int) := by
    rw [t_add (t_mul (t_add (t_mul h1 (ofI (n := 12) (by decide)) (by omega)) h2 (by omega)) (ofI (n := 7) (by decide)) (by omega)) h3 (by omega)]; omega
  rw [if_neg (by omega), if_neg (by omega), c_isHour]
  show (if (bI (decide (0 ≤ x2.toInt ∧ x2.toInt ≤ 11))).toInt = 0 then _ else _) = _
  rw [if_neg (fun q => bI_d0.mp q (by omega)), if_neg (by omega), if_pos (by omega), if_pos (by omega), tn_i e]
end TELLS
/-! guess, whole -/
def gq (c : Prop) (s : Int) (x1 x2 x3 x4 x5 : Int32) (v : Nat → Nat → Nat → Int) (z : Int32) : Prop := ((c ∨ ¬ (0 ≤ x4.toInt ∧ x4.toInt ≤ 11) ∨ ¬ (0 ≤ x5.toInt ∧ x5.toInt ≤ 1 + s) ∨ ¬ ((0 ≤ x1.toInt ∧ x1.toInt ≤ 3) ∧ (0 ≤ x2.toInt ∧ x2.toInt ≤ 4) ∧ 0 ≤ x3.toInt ∧ x3.toInt ≤ 4)) ∧ z.toInt = -1) ∨ (¬ c ∧ (0 ≤ x4.toInt ∧ x4.toInt ≤ 11) ∧ (0 ≤ x5.toInt ∧ x5.toInt ≤ 1 + s) ∧ ((0 ≤ x1.toInt ∧ x1.toInt ≤ 3) ∧ (0 ≤ x2.toInt ∧ x2.toInt ≤ 4) ∧ 0 ≤ x3.toInt ∧ x3.toInt ≤ 4) ∧ z.toInt = v (25 * x1.toInt.toNat + 5 * x2.toInt.toNat + x3.toInt.toNat) x4.toInt.toNat x5.toInt.toNat)
def GQc (O : WO) (I : WI) (a : Nat) (M : MM) (c : CO) (x1 x2 x3 x4 x5 : Int32) (q : Int32 × WI) : Prop := gq ((I (rf O a 1) 7).toInt = 0) (I (rf O a 1) 7).toInt x1 x2 x3 x4 x5 (TT M c) q.1 ∧ (¬ (I (rf O a 1) 7).toInt = 0 → GCa q.2 O (rf O a 6) M c) ∧ (∀ b, ¬ b = a → ¬ WD O (rf O (rf O a 6) 2) b → ¬ b = rf O (rf O a 6) 0 → ¬ b = rf O (rf O a 6) 1 → q.2 b = I b)
section GUESS
variable {N : Nat} {O : WO} {I : WI} {J : WJ} {M : MM} {c : CO} {a : Nat}
theorem c_guessP {x1 x2 x3 x4 x5 : Int32} (hN : 20 ≤ N) (hb : 0 ≤ (I (rf O a 1) 7).toInt ∧ (I (rf O a 1) 7).toInt ≤ 5) (s : SGu O (rf O a 6) (rf O a 1) (rf O a 5)) (nx : ¬ rf O (rf O a 6) 0 = a ∧ ¬ rf O (rf O a 6) 1 = a) (hm : ¬ (I (rf O a 1) 7).toInt = 0 → MB M ∧ CV M c ∧ CMl I O (rf O a 1) M ∧ CCr I (rf O a 5) c ∧ GCa I O (rf O a 6) M c) : Pp (F_RM_guess N O I J a x1 x2 x3 x4 x5) (GQc O I a M c x1 x2 x3 x4 x5) := by
  have rj : ∀ w' : Int32, ((I (rf O a 1) 7).toInt = 0 ∨ ¬ (0 ≤ x4.toInt ∧ x4.toInt ≤ 11) ∨ ¬ (0 ≤ x5.toInt ∧ x5.toInt ≤ 1 + (I (rf O a 1) 7).toInt) ∨ ¬ ((0 ≤ x1.toInt ∧ x1.toInt ≤ 3) ∧ (0 ≤ x2.toInt ∧ x2.toInt ≤ 4) ∧ 0 ≤ x3.toInt ∧ x3.toInt ≤ 4)) → Pp (bd2 (F_RM_refuse N O I J a w') fun z I2 => some (z, I2)) (GQc O I a M c x1 x2 x3 x4 x5) := fun w' hc => by
    unfold F_RM_refuse
    refine Ppc2 (Pp_lb (fun I1 e1 => Pp.ret (Pp.ret ⟨Or.inl ⟨hc, ofI (by decide)⟩, fun h0 => ?_, fun b b1 _ _ _ => ?_⟩)))
    · have f1 : ∀ b, ¬ b = a → I1 b = I b := fun b hb => by rw [e1, up2_row _ _ hb]
      have g := (hm h0).2.2.2.2
      show GCa I1 O (rf O a 6) M c
      unfold GCa
      rw [f1 _ nx.1, f1 _ nx.2]; exact g
    · show I1 b = I b
      rw [e1, up2_row _ _ b1]
  unfold F_RM_guess F_RM_noMill
  rw [c_isHour, c_isHeard hb, c_isStart]
  refine Ppc1 (Pp.ite (fun c0 => Pp.ret ?_) (fun c0 => Pp.ret ?_))
  · exact Pp_jq (fun k => Pp k (GQc O I a M c x1 x2 x3 x4 x5)) (rj _ (Or.inl c0)) (fun k24 hk => Pp.ite (fun q => absurd q (by rw [k_1]; decide)) (fun _ => hk))
  refine Pp_jq (fun k => ((I (rf O a 1) 7).toInt = 0 ∨ ¬ (0 ≤ x4.toInt ∧ x4.toInt ≤ 11) ∨ ¬ (0 ≤ x5.toInt ∧ x5.toInt ≤ 1 + (I (rf O a 1) 7).toInt) ∨ ¬ ((0 ≤ x1.toInt ∧ x1.toInt ≤ 3) ∧ (0 ≤ x2.toInt ∧ x2.toInt ≤ 4) ∧ 0 ≤ x3.toInt ∧ x3.toInt ≤ 4)) → Pp k (GQc O I a M c x1 x2 x3 x4 x5)) (rj _) (fun k24 hk => ?_)
  refine Pp.ite (fun _ => ?_) (fun q => absurd k_0 q)
  refine Ppc1 (Pp.ret (Pp.ite (fun q => hk (Or.inr (Or.inl (bI_d0.mp q)))) (fun q4 => Ppc1 (Pp.ret (Pp.ite (fun q => hk (Or.inr (Or.inr (Or.inl (bI_d0.mp q))))) (fun q5 => Ppc1 (Pp.ret (Pp.ite (fun q => rj _ (Or.inr (Or.inr (Or.inr (bI_d0.mp q))))) (fun q1 => ?_)))))))))
  have h4 := Classical.not_not.mp (fun z => q4 (bI_d0.mpr z))
  have h5 := Classical.not_not.mp (fun z => q5 (bI_d0.mpr z))
  have h1 := Classical.not_not.mp (fun z => q1 (bI_d0.mpr z))
  obtain ⟨m1, m2, m3, m4, m5⟩ := hm c0
  have est : (((x1 * Int32.ofInt 5) + x2) * Int32.ofInt 5 + x3).toInt = ((25 * x1.toInt.toNat + 5 * x2.toInt.toNat + x3.toInt.toNat : Nat) : Int) := by
    rw [t_add (t_mul (t_add (t_mul rfl (ofI (n := 5) (by decide)) (by omega)) rfl (by omega)) (ofI (n := 5) (by decide)) (by omega)) rfl (by omega)]; omega
  unfold F_RM_startOf
  refine Ppc1 (Pp.ret ?_)
  refine Ppc1 (Wp.pp (c_tellOne (st := 25 * x1.toInt.toNat + 5 * x2.toInt.toNat + x3.toInt.toNat) hN m1 m2 m3 m4 s est (by omega) m5 (fun I1 g1 g2 g3 g4 => ?_)))
  rw [c_toldOf (st := 25 * x1.toInt.toNat + 5 * x2.toInt.toNat + x3.toInt.toNat) (h := x4.toInt.toNat) (w := x5.toInt.toNat) est (by omega) (by omega) (by omega) (by omega) (by omega)]
  refine Ppc1 (Pp.ret ?_)
  unfold F_RM_accept
  refine Ppc2 (Pp_lb (fun I2 e2 => Pp.ret (Pp.ret ⟨Or.inr ⟨c0, h4, h5, h1, ?_⟩, fun _ => ?_, fun b b1 b2 b3 b4 => ?_⟩)))
  · exact g1 _ (by omega) g2 _ (by omega) _ (by omega)
  · have f2 : ∀ b, ¬ b = a → I2 b = I1 b := fun b hb => by rw [e2, up2_row _ _ hb]
    show GCa I2 O (rf O a 6) M c
    unfold GCa
    rw [f2 _ nx.1, f2 _ nx.2]; exact g1
  · show I2 b = I b
    rw [e2, up2_row _ _ b1]; exact g4 b b2 b3 b4
theorem r_byProgram {x2 : Int32} {S i : Nat} {σ : Nat → Int} {Q : WI → Prop} (hN : 8 ≤ N) (hM : MB M) (hcv : CV M c) (hσ : SI M σ) (hm : RMl I O (rf O a 3) M) (sr : SR O (rf O a 3) S) (n20 : ¬ rf O a 20 = S) (n21 : ¬ rf O a 21 = S) (n22 : ¬ rf O a 22 = S) (hp : PCr I O a c) (hA : ∀ k, k < 34 → (I S k).toInt = σ k) (hx : x2.toInt = (i : Int)) (hi : i < 12)
    (hQ : ∀ I', (∀ k, k < 34 → (I' S k).toInt = HH M (c i).1 (c i).2.1 (c i).2.2 σ k) → (I' S 35).toInt = (c i).2.1 → (∀ b, ¬ b = S → I' b = I b) → Q I') : Wp (F_Mo_byProgram N O I J a S x2) Q := by
  have ex : x2.toInt.toNat = i := tn_i hx
  unfold F_Mo_byProgram
  refine Wp.pos (by omega) (Wp_lb (fun I1 e1 => Wp.pos (by omega) (Wp_lb (fun I2 e2 => Wp.pos (by omega) (Wp_lb (fun I3 e3 => Wp.bd1 ?_))))))
  rw [ex] at e1 e2 e3
  have f3 : ∀ b, ¬ b = S → I3 b = I b := fun b hb => by rw [e3, up2_row _ _ hb, e2, up2_row _ _ hb, e1, up2_row _ _ hb]
  have q34 : (I3 S 34).toInt = (c i).1 := by rw [e3, up2_ne _ _ (fun z => absurd z.2 (by decide)), e2, up2_ne _ _ (fun z => absurd z.2 (by decide)), e1, up2_self]; exact (hp i hi).1
  have q35 : (I3 S 35).toInt = (c i).2.1 := by rw [e3, up2_ne _ _ (fun z => absurd z.2 (by decide)), e2, up2_self, e1, up2_row _ _ n21]; exact (hp i hi).2.1
  have q36 : (I3 S 36).toInt = (c i).2.2 := by rw [e3, up2_self, e2, up2_row _ _ n22, e1, up2_row _ _ n22]; exact (hp i hi).2.2
  have qk : ∀ k, k < 34 → (I3 S k).toInt = σ k := fun k hk => by rw [e3, up2_ne _ _ (fun z => by omega), e2, up2_ne _ _ (fun z => by omega), e1, up2_ne _ _ (fun z => by omega)]; exact hA k hk
  have A3 : RA1 I3 S (fun k => if k < 34 then σ k else if k = 34 then (c i).1 else if k = 35 then (c i).2.1 else (c i).2.2) := fun k hk => by
    dsimp only
    by_cases c34 : k < 34
    · rw [if_pos c34]; exact qk k c34
    rw [if_neg c34]
    by_cases d34 : k = 34
    · rw [if_pos d34, d34]; exact q34
    rw [if_neg d34]
    by_cases d35 : k = 35
    · rw [if_pos d35, d35]; exact q35
    rw [if_neg d35, show k = 36 by omega]; exact q36
  have cg : ∀ k, k < 34 → (fun k => if k < 34 then σ k else if k = 34 then (c i).1 else if k = 35 then (c i).2.1 else (c i).2.2) k = σ k := fun k hk => if_pos hk
  refine r_goesT (r := (c i).1) (w := (c i).2.1) (o := (c i).2.2) hN hM (hcv i hi) (hσ.c34 cg) (hm.fr sr f3) sr A3 rfl rfl rfl (fun I4 g1 g2 => Wp.ret (hQ I4 (fun k hk => ?_) ?_ (fun b hb => by rw [g2 b hb]; exact f3 b hb)))
  · rw [g1 k (by omega)]; exact HH_cg hM cg k hk
  · rw [g1 35 (by decide)]; rfl
theorem r_isWhat {x1 x2 : Int32} (hb : ¬ O a 3 = none → 0 ≤ (I (rf O a 3) 8).toInt ∧ (I (rf O a 3) 8).toInt ≤ 5) : ∃ z, F_Mo_isWhat N O I J a x1 x2 = some z ∧ (z.toInt = 0 ↔ (O a 3 = none ∨ ¬ (0 ≤ x1.toInt ∧ x1.toInt ≤ 11) ∨ ¬ (0 ≤ x2.toInt ∧ x2.toInt ≤ 1 + (I (rf O a 3) 8).toInt))) := by
  have k11 : (Int32.ofInt 11).toInt = 11 := ofI (by decide)
  unfold F_Mo_isWhat
  by_cases c0 : O a 3 = none
  · rw [if_pos c0]; exact ⟨_, rfl, fun _ => Or.inl c0, fun _ => k_0⟩
  · rw [if_neg c0, r_in, r_in, k_0, k11, t_add (a := (I (rf O a 3) 8).toInt) rfl k_1 (by have := hb c0; omega)]
    show ∃ z, (if (bI (decide (0 ≤ x1.toInt ∧ x1.toInt ≤ 11))).toInt = 0 then some (Int32.ofInt 0) else (if (bI (decide (0 ≤ x2.toInt ∧ x2.toInt ≤ (I (rf O a 3) 8).toInt + 1))).toInt = 0 then some (Int32.ofInt 0) else some (Int32.ofInt 1))) = some z ∧ _
    by_cases q1 : 0 ≤ x1.toInt ∧ x1.toInt ≤ 11
    · rw [if_neg (fun h => bI_d0.mp h q1)]
      by_cases q2 : 0 ≤ x2.toInt ∧ x2.toInt ≤ (I (rf O a 3) 8).toInt + 1
      · rw [if_neg (fun h => bI_d0.mp h q2)]
        refine ⟨_, rfl, fun h => absurd h (by rw [k_1]; decide), fun h => ?_⟩
        exfalso
        rcases h with h | h | h
        · exact c0 h
        · exact h q1
        · omega
      · rw [if_pos (bI_d0.mpr q2)]
        exact ⟨_, rfl, fun _ => Or.inr (Or.inr (by omega)), fun _ => k_0⟩
    · rw [if_pos (bI_d0.mpr q1)]
      exact ⟨_, rfl, fun _ => Or.inr (Or.inl q1), fun _ => k_0⟩
theorem r_valueOf {x1 : Int32} {S w : Nat} {σ : Nat → Int} (h1 : x1.toInt = (w : Int)) (hw : w < 7) (hA : ∀ k, k < 34 → (I S k).toInt = σ k) : ∃ z, F_Mo_valueOf N O I J S x1 = some z ∧ z.toInt = vT σ w := by
  unfold F_Mo_valueOf vT
  by_cases c0 : w = 0
  · rw [if_pos (by omega), if_pos c0]; exact ⟨_, rfl, hA 31 (by decide)⟩
  rw [if_neg (by omega), if_neg c0]
  by_cases c1 : w = 1
  · rw [if_pos (by omega), if_pos c1]; exact ⟨_, rfl, hA 30 (by decide)⟩
  have e : (Int32.ofInt 10 + x1 - Int32.ofInt 2).toInt = ((8 + w : Nat) : Int) := by rw [t_sub (t_add (ofI (n := 10) (by decide)) h1 (by omega)) (ofI (n := 2) (by decide)) (by omega)]; omega
  rw [if_neg (by omega), if_neg c1, if_pos (by omega), tn_i e]
  exact ⟨_, rfl, hA _ (by omega)⟩
theorem r_guessP {x1 x2 x3 x4 x5 : Int32} (hN : 40 ≤ N) (hb : ¬ O a 3 = none → 0 ≤ (I (rf O a 3) 8).toInt ∧ (I (rf O a 3) 8).toInt ≤ 5) (n20 : ¬ rf O a 20 = rf O a 17) (n21 : ¬ rf O a 21 = rf O a 17) (n22 : ¬ rf O a 22 = rf O a 17) (na : ¬ rf O a 20 = a ∧ ¬ rf O a 21 = a ∧ ¬ rf O a 22 = a) (hm : ¬ O a 3 = none → MB M ∧ CV M c ∧ RMl I O (rf O a 3) M ∧ PCr I O a c ∧ SR O (rf O a 3) (rf O a 17) ∧ SR O (rf O a 3) a) : Pp (F_Mo_guess N O I J a x1 x2 x3 x4 x5) (fun q => gq (O a 3 = none) (I (rf O a 3) 8).toInt x1 x2 x3 x4 x5 (TT M c) q.1) := by
  unfold F_Mo_guess
  refine Pp_lb (fun I1 e1 => ?_)
  have f1 : ∀ b, ¬ b = a → I1 b = I b := fun b hb => by rw [e1, up2_row _ _ hb]
  have m8 : ¬ O a 3 = none → I1 (rf O a 3) = I (rf O a 3) := fun q => f1 _ (hm q).2.2.2.2.2.1
  have rj : ∀ w' : Int32, (O a 3 = none ∨ ¬ (0 ≤ x4.toInt ∧ x4.toInt ≤ 11) ∨ ¬ (0 ≤ x5.toInt ∧ x5.toInt ≤ 1 + (I (rf O a 3) 8).toInt) ∨ ¬ ((0 ≤ x1.toInt ∧ x1.toInt ≤ 3) ∧ (0 ≤ x2.toInt ∧ x2.toInt ≤ 4) ∧ 0 ≤ x3.toInt ∧ x3.toInt ≤ 4)) → Pp (bd2 (F_Mo_refused N O I1 J a w') fun z I2 => some (z, I2)) (fun q => gq (O a 3 = none) (I (rf O a 3) 8).toInt x1 x2 x3 x4 x5 (TT M c) q.1) := fun w' hc => by
    unfold F_Mo_refused
    exact Ppc2 (Pp_lb (fun I2 e2 => Pp_lb (fun I3 e3 => Pp.ret (Pp.ret (Or.inl ⟨hc, ofI (by decide)⟩)))))
  obtain ⟨z10, w10, h10⟩ := r_isWhat (N := N) (O := O) (I := I1) (J := J) (a := a) (x1 := x4) (x2 := x5) (fun q => by rw [m8 q]; exact hb q)
  rw [w10]
  refine Ppc1 (Pp.ret (Pp.ite (fun q => rj _ ?_) (fun q => ?_)))
  · rcases h10.mp q with h | h | h
    · exact Or.inl h
    · exact Or.inr (Or.inl h)
    · by_cases c0 : O a 3 = none
      · exact Or.inl c0
      · rw [m8 c0] at h; exact Or.inr (Or.inr (Or.inl h))
  · have c0 : ¬ O a 3 = none := fun z => q (h10.mpr (Or.inl z))
    have h4 := Classical.not_not.mp (fun z => q (h10.mpr (Or.inr (Or.inl z))))
    have h5 := Classical.not_not.mp (fun z => q (h10.mpr (Or.inr (Or.inr z))))
    rw [m8 c0] at h5
    have b8 := hb c0
    rw [r_isStart]
    refine Ppc1 (Pp.ret (Pp.ite (fun q => rj _ (Or.inr (Or.inr (Or.inr (bI_d0.mp q))))) (fun q1 => ?_)))
    have h1 := Classical.not_not.mp (fun z => q1 (bI_d0.mpr z))
    obtain ⟨m1, m2, m3, m4, m5, m6⟩ := hm c0
    refine Wp.pp (Wp.bd1 (r_begins (t := x1.toInt.toNat) (l := x2.toInt.toNat) (f := x3.toInt.toNat) (by omega) m1 (m3.fr m6 f1) m5 (by omega) (by omega) (by omega) (by omega) (by omega) (by omega) (fun I2 a1 a2 => ?_)))
    have hst : 25 * x1.toInt.toNat + 5 * x2.toInt.toNat + x3.toInt.toNat < 100 := by omega
    have eS : ∀ k, bgS M (x1.toInt.toNat : Int) (x2.toInt.toNat : Int) (x3.toInt.toNat : Int) k = bsT M (25 * x1.toInt.toNat + 5 * x2.toInt.toNat + x3.toInt.toNat) k := fun k => by
      unfold bsT
      rw [show (25 * x1.toInt.toNat + 5 * x2.toInt.toNat + x3.toInt.toNat) / 25 = x1.toInt.toNat by omega, show (25 * x1.toInt.toNat + 5 * x2.toInt.toNat + x3.toInt.toNat) / 5 % 5 = x2.toInt.toNat by omega, show (25 * x1.toInt.toNat + 5 * x2.toInt.toNat + x3.toInt.toNat) % 5 = x3.toInt.toNat by omega]
    generalize hs : 25 * x1.toInt.toNat + 5 * x2.toInt.toNat + x3.toInt.toNat = st at hst eS
    have hS := bsT_SI m1 hst
    refine forU (n := x4.toInt.toNat + 1) (fun i I3 => (∀ k, k < 34 → (I3 (rf O a 17) k).toInt = tj M c (bsT M st) i k) ∧ (∀ b, ¬ b = rf O a 17 → I3 b = I1 b)) (by omega) ⟨fun k hk => by rw [a1 k (by omega)]; exact eS k, a2⟩ ?_ ?_
    · intro rec x i I3 hx hi ⟨v1, v2⟩ kk
      have tI := tj_I m1 m2 hS.1 hS.2 i (by omega)
      unfold B_Mo_guess_51
      refine Wp.neg (by omega) (Wp.bd1 (r_byProgram (i := i) (by omega) m1 m2 tI.1 ((m3.fr m6 f1).fr m5 v2) m5 n20 n21 n22 (fun h hh => ?_) v1 hx (by omega) (fun I4 g1 _ g2 => Wp_lb (fun v ev => kk v I4 (by rw [ev]; exact inc1 hx (by omega)) ⟨g1, fun b hb => by rw [g2 b hb]; exact v2 b hb⟩))))
      rw [v2 _ n20, v2 _ n21, v2 _ n22, f1 _ na.1, f1 _ na.2.1, f1 _ na.2.2]; exact m4 h hh
    · intro rec x I3 hx ⟨v1, v2⟩
      unfold B_Mo_guess_51
      obtain ⟨z, wz, hz⟩ := r_valueOf (N := N) (O := O) (I := I3) (J := J) (x1 := x5) (S := rf O a 17) (w := x5.toInt.toNat) (σ := tj M c (bsT M st) (x4.toInt.toNat + 1)) (by omega) (by omega) v1
      rw [wz]
      refine Wp.pos (by omega) (Wp.bd1 (Wp.ret ?_))
      unfold F_Mo_done
      refine Wp.bd2 (Wp_lb (fun I4 e4 => Wp_lb (fun I5 e5 => Wp.ret (Wp.ret (Or.inr ⟨c0, h4, h5, h1, ?_⟩)))))
      rw [hs]; exact hz
end GUESS
