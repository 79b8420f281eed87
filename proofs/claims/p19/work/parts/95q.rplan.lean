/-! plan: the reference -/
def WR (p : Option (Nat → Int)) (z v : Int) : Prop := (p = none ∧ z = 0) ∨ (∃ τ, p = some τ ∧ z = 1 ∧ v = τ 32)
theorem and3 (v : Nat) : v &&& 3 = v % 4 := Nat.and_two_pow_sub_one_eq_mod v 2
section RPLAN
variable {N : Nat} {O : WO} {I : WI} {J : WJ} {M : MM} {w o : Int} {σ : Nat → Int} {a : Nat}
theorem r_digit {x1 x2 y : Int32} {n s i : Nat} (hx1 : x1.toInt = (n : Int)) (hn : n ≤ 5) (hx2 : x2.toInt = (s : Int)) (hy : y.toInt = (i : Int)) (hi : i < n) : ((x2 >>> ((Int32.ofInt 2 * ((x1 - Int32.ofInt 1) - y)) &&& 31)) &&& Int32.ofInt 3).toInt = ((s / 4 ^ (n - 1 - i) % 4 : Nat) : Int) := by
  have e1 : (Int32.ofInt 2 * ((x1 - Int32.ofInt 1) - y)).toInt = ((2 * (n - 1 - i) : Nat) : Int) := by
    rw [t_mul (ofI (n := 2) (by decide)) (t_sub (t_sub hx1 k_1 (by omega)) hy (by omega)) (by omega)]; omega
  rw [and_tI (shr_tI hx2 e1 (by omega)) (show (Int32.ofInt 3).toInt = ((3 : Nat) : Int) from ofI (by decide)), and3, Nat.pow_mul]
theorem r_isWell {x1 x2 : Int32} {n s : Nat} {Q : Int32 × WI → Prop} (hN : 38 ≤ N) (hM : MB M) (hw : 0 ≤ w ∧ w ≤ 3) (ho : 0 ≤ o ∧ o < M.1 8) (hσ : SI M σ) (h27 : σ 27 + n ≤ 252) (hm : RMl I O (rf O a 3) M) (srT : SR O (rf O a 3) (rf O a 17)) (sr31 : SR O (rf O a 3) (rf O a 31)) (n12 : ¬ rf O a 16 = rf O a 17) (n13 : ¬ rf O a 17 = rf O a 31) (n14 : ¬ rf O a 16 = rf O a 31) (hA : RA1 I (rf O a 16) σ) (h35 : σ 35 = w) (h36 : σ 36 = o) (hx1 : x1.toInt = (n : Int)) (hn : n ≤ 5) (hx2 : x2.toInt = (s : Int)) (hs : s < 4 ^ n)
    (hQ : ∀ (z : Int32) I', WR (pth M w o n s σ) z.toInt (I' (rf O a 17) 32).toInt → (∀ b, ¬ b = rf O a 17 → ¬ b = rf O a 31 → I' b = I b) → Q (z, I')) : Wp (F_Mo_isWell N O I J a x1 x2) Q := by
  unfold F_Mo_isWell
  refine Wp.bd1 (r_copies hN n12 (fun I1 a1 a2 => ?_))
  refine forU (n := n) (fun i I3 => (∃ τ υ : Nat → Int, RA1 I3 (rf O a 17) τ ∧ LK υ τ w o ∧ SI M υ ∧ υ 27 = σ 27 + (i : Int) ∧ υ 23 = σ 23 ∧ pth M w o n s σ = pth M w o (n - i) (s % 4 ^ (n - i)) υ) ∧ (∀ b, ¬ b = rf O a 17 → ¬ b = rf O a 31 → I3 b = I b)) (by omega) ⟨⟨σ, σ, fun k hk => by rw [a1 k hk]; exact hA k hk, ⟨fun _ _ => rfl, h35, h36⟩, hσ, by omega, rfl, by rw [Nat.sub_zero, Nat.mod_eq_of_lt hs]⟩, fun b b1 b2 => a2 b b1⟩ ?_ ?_
  · intro rec y i I3 hy hi ⟨⟨τ, υ, v1, v2, v3, v5, v6, v7⟩, v4⟩ kk
    have ey : y.toInt.toNat = i := tn_i hy
    have hd := r_digit hx1 hn hx2 hy hi
    have d3 : s / 4 ^ (n - 1 - i) % 4 ≤ 3 := by omega
    unfold B_Mo_isWell_6
    refine Wp.neg (by omega) (Wp.pos (by omega) (Wp_lb (fun I4 e4 => Wp.pos (by omega) (Wp_lb (fun I5 e5 => Wp.bd1 ?_)))))
    rw [ey] at e4 e5
    have hpp : pth M w o n s σ = if wel M w o υ (s / 4 ^ (n - 1 - i) % 4) = true then pth M w o (n - (i + 1)) (s % 4 ^ (n - (i + 1))) (HH M ((s / 4 ^ (n - 1 - i) % 4 : Nat) : Int) w o υ) else none := by
      rw [v7, show n - i = (n - 1 - i) + 1 by omega, show n - (i + 1) = n - 1 - i by omega]
      show (if wel M w o υ ((s % 4 ^ (n - 1 - i + 1)) / 4 ^ (n - 1 - i)) = true then pth M w o (n - 1 - i) ((s % 4 ^ (n - 1 - i + 1)) % 4 ^ (n - 1 - i)) (HH M (((s % 4 ^ (n - 1 - i + 1)) / 4 ^ (n - 1 - i) : Nat) : Int) w o υ) else none) = _
      rw [Nat.pow_succ, Nat.mod_mul_right_div_self, Nat.mod_mod_of_dvd s (Nat.dvd_mul_right _ _)]
    generalize s / 4 ^ (n - 1 - i) % 4 = d at hd d3 hpp
    have L2 := v2.u (d : Int)
    have A5 : RA1 I5 (rf O a 17) (u1 τ 34 (d : Int)) := fun k hk => by
      rw [e5]
      by_cases e : k = 34
      · subst e; rw [up2_self, u1_s, e4, up2_self]; exact hd
      · rw [up2_ne _ _ (fun z => e z.2), u1_n e, e4, up2_row _ _ n13]; exact v1 k hk
    have f5 : ∀ b, ¬ b = rf O a 17 → ¬ b = rf O a 31 → I5 b = I b := fun b b1 b2 => by rw [e5, up2_row _ _ b1, e4, up2_row _ _ b2]; exact v4 b b1 b2
    have m5 : RMl I5 O (rf O a 3) M := hm.fr2 (f5 _ srT.1 sr31.1) (fun j hj => f5 _ (srT.2 j hj) (sr31.2 j hj))
    refine r_goesT (r := (d : Int)) (w := w) (o := o) (by omega) hM ⟨by omega, hw, ho⟩ (v3.c34 L2.1) m5 srT A5 (by rw [u1_s]) L2.2.1 L2.2.2 (fun I6 g1 g2 => ?_)
    have L3 := LK.h hM L2 (d : Int)
    have L3' : LK (HH M (d : Int) w o υ) (HH M (d : Int) w o (u1 τ 34 (d : Int))) w o := L3
    have q26 : (I6 (rf O a 17) 26).toInt = HH M (d : Int) w o υ 26 := by rw [g1 26 (by decide)]; exact L3'.1 26 (by decide)
    have q23 : (I6 (rf O a 17) 23).toInt = HH M (d : Int) w o υ 23 := by rw [g1 23 (by decide)]; exact L3'.1 23 (by decide)
    have q16 : (I6 (rf O a 16) 23).toInt = σ 23 := by rw [g2 _ n12, f5 _ n12 n14]; exact hA 23 (by decide)
    have f6 : ∀ b, ¬ b = rf O a 17 → ¬ b = rf O a 31 → I6 b = I b := fun b b1 b2 => by rw [g2 b b1]; exact f5 b b1 b2
    have hsi := HH_SId (d := d) hM v3 hw ho d3 (by omega)
    have wl : wel M w o υ d = true ↔ HH M (d : Int) w o υ 26 = 0 ∧ HH M (d : Int) w o υ 23 = υ 23 := by
      unfold wel
      rw [Bool.and_eq_true, decide_eq_true_iff, decide_eq_true_iff]
    have c01 : HH M (d : Int) w o υ 26 = 0 ∨ HH M (d : Int) w o υ 26 = 1 := hsi.1.2.2.2.1
    by_cases c1 : HH M (d : Int) w o υ 26 = 0
    · refine Wp.neg (by omega) ?_
      by_cases c2 : HH M (d : Int) w o υ 23 = υ 23
      · refine Wp.pos (by omega) (Wp.lb (kk _ I6 (inc1 hy (by omega)) ⟨⟨_, _, g1, L3', hsi.1, by rw [hsi.2, v5]; omega, by omega, ?_⟩, f6⟩))
        rw [hpp, if_pos (wl.mpr ⟨c1, c2⟩)]
      · exact Wp.neg (by omega) (Wp.ret (hQ _ I6 (Or.inl ⟨by rw [hpp, if_neg (fun z => c2 (wl.mp z).2)], k_0⟩) f6))
    · exact Wp.pos (by omega) (Wp.ret (hQ _ I6 (Or.inl ⟨by rw [hpp, if_neg (fun z => c1 (wl.mp z).1)], k_0⟩) f6))
  · intro rec y I3 hy ⟨⟨τ, υ, v1, v2, v3, v5, v6, v7⟩, v4⟩
    unfold B_Mo_isWell_6
    refine Wp.pos (by omega) (Wp.ret (hQ _ I3 (Or.inr ⟨υ, ?_, k_1, ?_⟩) v4))
    · rw [v7, Nat.sub_self]; rfl
    · rw [v1 32 (by decide)]; exact v2.1 32 (by decide)
/-- the best so far, in the reference's hands -/
def BSo (σ : Nat → Int) (b : BBt) (x2 x3 : Int32) : Prop := (b = none ∧ x2.toInt = -1) ∨ (∃ (c : Int) (j : Nat), b = some (c, j) ∧ x2.toInt = c - σ 32 ∧ 0 ≤ c - σ 32 ∧ x3.toInt = (j : Int))
theorem r_planP {x1 : Int32} (hN : 2000 ≤ N) (n12 : ¬ rf O a 16 = rf O a 17) (n13 : ¬ rf O a 17 = rf O a 31) (n14 : ¬ rf O a 16 = rf O a 31) (n15 : ¬ rf O a 16 = a) (n16 : ¬ rf O a 30 = a) (n17 : ¬ rf O a 30 = rf O a 17) (n18 : ¬ rf O a 30 = rf O a 31) (n19 : ¬ a = rf O a 17) (n20 : ¬ a = rf O a 31) (sr : ¬ O a 3 = none → SR O (rf O a 3) (rf O a 31) ∧ SR O (rf O a 3) (rf O a 17) ∧ SR O (rf O a 3) a) (hA : RA1 I (rf O a 16) σ) (h35 : σ 35 = w) (h36 : σ 36 = o) (hm : ¬ O a 3 = none → MB M ∧ RMl I O (rf O a 3) M ∧ (0 ≤ w ∧ w ≤ 3) ∧ (0 ≤ o ∧ o < M.1 8) ∧ SI M σ ∧ σ 27 ≤ 240) : Pp (F_Mo_plan N O I J a x1) (fun q => plQ (O a 3 = none) x1 (plB M w o σ x1.toInt.toNat) (σ 32) (q.2 a 29 = I a 29 ∧ q.2 (rf O a 30) = I (rf O a 30)) (fun n j => (q.2 a 29).toInt = (n : Int) ∧ ∀ k, k < n → (q.2 (rf O a 30) k).toInt = (dig n j k : Int)) q.1) := by
  have k5 : (Int32.ofInt 5).toInt = 5 := ofI (by decide)
  unfold F_Mo_plan
  refine Pp_lb (fun I1 e1 => ?_)
  have f1 : ∀ b, ¬ b = a → I1 b = I b := fun b hb => by rw [e1, up2_row _ _ hb]
  have a1 : I1 a 29 = I a 29 := by rw [e1, up2_ne _ _ (fun z => absurd z.2 (by decide))]
  have rj : ∀ (w' : Int32) (I2 : WI), I2 a 29 = I a 29 → I2 (rf O a 30) = I (rf O a 30) → ((O a 3 = none ∨ x1.toInt < 1 ∨ 5 < x1.toInt) ∨ (¬ O a 3 = none ∧ 1 ≤ x1.toInt ∧ x1.toInt ≤ 5 ∧ plB M w o σ x1.toInt.toNat = none)) → Wp (bd2 (F_Mo_refused N O I2 J a w') fun z I2 => some (z, I2)) (fun q => plQ (O a 3 = none) x1 (plB M w o σ x1.toInt.toNat) (σ 32) (q.2 a 29 = I a 29 ∧ q.2 (rf O a 30) = I (rf O a 30)) (fun n j => (q.2 a 29).toInt = (n : Int) ∧ ∀ k, k < n → (q.2 (rf O a 30) k).toInt = (dig n j k : Int)) q.1) := fun w' I2 k1 k2 hc => by
    refine Wp.bd2 ?_
    unfold F_Mo_refused
    refine Wp_lb (fun I3 e3 => Wp_lb (fun I4 e4 => Wp.ret (Wp.ret ?_)))
    have kp : I4 a 29 = I a 29 ∧ I4 (rf O a 30) = I (rf O a 30) := ⟨by rw [e4, up2_ne _ _ (fun z => absurd z.2 (by decide)), e3, up2_ne _ _ (fun z => absurd z.2 (by decide))]; exact k1, by rw [e4, up2_row _ _ n16, e3, up2_row _ _ n16]; exact k2⟩
    rcases hc with hc | ⟨a1, a2, a3, a4⟩
    · exact Or.inl ⟨hc, ofI (by decide), kp⟩
    · exact Or.inr (Or.inl ⟨a1, a2, a3, a4, ofI (by decide), kp⟩)
  refine Pp.ite (fun c0 => Wp.pp (rj _ I1 a1 (f1 _ n16) (Or.inl (Or.inl c0)))) (fun c0 => ?_)
  rw [r_in, k_1, k5]
  refine Ppc1 (Pp.ret (Pp.ite (fun w0 => Wp.pp (rj _ I1 a1 (f1 _ n16) (Or.inl (Or.inr ?_)))) (fun w0 => Wp.pp ?_)))
  · have := bI_d0.mp w0
    omega
  have hr := Classical.not_not.mp (fun z => w0 (bI_d0.mpr z))
  obtain ⟨m1, m2, m3, m4, m5, m6⟩ := hm c0
  obtain ⟨s1, s2, s3⟩ := sr c0
  have hn : x1.toInt = (x1.toInt.toNat : Int) := by omega
  have hn5 : x1.toInt.toNat ≤ 5 := by omega
  have hn1 : 1 ≤ x1.toInt.toNat := by omega
  have hP : ((Int32.ofInt 1) <<< ((Int32.ofInt 2 * x1) &&& 31)).toInt = ((4 ^ x1.toInt.toNat : Nat) : Int) := by
    have e2 : (Int32.ofInt 2 * x1).toInt = ((2 * x1.toInt.toNat : Nat) : Int) := by rw [t_mul (ofI (n := 2) (by decide)) rfl (by omega)]; omega
    rw [shp_tI e2 (by omega), Nat.pow_mul]
  have hpw : 4 ^ x1.toInt.toNat ≤ 1024 := by
    have : 4 ^ x1.toInt.toNat ≤ 4 ^ 5 := Nat.pow_le_pow_right (by decide) hn5
    exact this
  have q32 := m5.2.2.2.2.2.2.2.2.1 32 (by omega)
  have main : ∀ (f m : Nat) (x2 x3 x4 : Int32) (I2 : WI), x4.toInt = (m : Int) → m ≤ 4 ^ x1.toInt.toNat → 4 ^ x1.toInt.toNat - m < f → BSo σ (fol M w o x1.toInt.toNat σ 0 m none) x2 x3 → (∀ b, ¬ b = rf O a 17 → ¬ b = rf O a 31 → I2 b = I1 b) → Wp (lp (B_Mo_plan_40 N O a x1 J) (fun _ _ _ _ => none) f x2 x3 x4 I2) (fun q => plQ (O a 3 = none) x1 (plB M w o σ x1.toInt.toNat) (σ 32) (q.2 a 29 = I a 29 ∧ q.2 (rf O a 30) = I (rf O a 30)) (fun n j => (q.2 a 29).toInt = (n : Int) ∧ ∀ k, k < n → (q.2 (rf O a 30) k).toInt = (dig n j k : Int)) q.1) := by
    intro f
    induction f with
    | zero => intro m x2 x3 x4 I2 _ _ h; omega
    | succ f ih =>
      intro m x2 x3 x4 I2 h4 hm4 hf hB hF
      show Wp (B_Mo_plan_40 N O a x1 J (lp (B_Mo_plan_40 N O a x1 J) (fun _ _ _ _ => none) f) x2 x3 x4 I2) _
      unfold B_Mo_plan_40
      have i29 : I2 a 29 = I a 29 := by rw [hF a n19 n20]; exact a1
      have i30 : I2 (rf O a 30) = I (rf O a 30) := by rw [hF _ n17 n18]; exact f1 _ n16
      by_cases e : m = 4 ^ x1.toInt.toNat
      · refine Wp.pos (by rw [hP, h4]; omega) ?_
        have hpl : fol M w o x1.toInt.toNat σ 0 m none = plB M w o σ x1.toInt.toNat := by unfold plB; rw [e]
        rw [hpl] at hB
        rcases hB with ⟨b1, b2⟩ | ⟨c, j, b1, b2, b3, b4⟩
        · exact Wp.pos b2 (rj _ I2 i29 i30 (Or.inr ⟨c0, by omega, by omega, b1⟩))
        · refine Wp.neg (by omega) (Wp_lb (fun I3 e3 => ?_))
          refine forU (n := x1.toInt.toNat) (fun i I4 => (I4 a 29 = x1) ∧ ∀ k, k < i → (I4 (rf O a 30) k).toInt = (dig x1.toInt.toNat j k : Int)) (by omega) ⟨by rw [e3, up2_self], fun k hk => absurd hk (Nat.not_lt_zero _)⟩ ?_ ?_
          · intro rec y i I4 hy hi ⟨v1, v2⟩ kk
            have ey : y.toInt.toNat = i := tn_i hy
            unfold B_Mo_plan_126
            refine Wp.neg (by omega) (Wp.pos (by omega) (Wp_lb (fun I5 e5 => Wp.lb (kk _ I5 (inc1 hy (by omega)) ⟨?_, fun k hk => ?_⟩))))
            · rw [e5, up2_row _ _ (fun z => n16 z.symm)]; exact v1
            · rw [e5, ey]
              by_cases ek : k = i
              · subst ek
                rw [up2_self]
                exact r_digit hn hn5 b4 hy hi
              · rw [up2_ne _ _ (fun z => ek z.2)]; exact v2 k (by omega)
          · intro rec y I4 hy ⟨v1, v2⟩
            unfold B_Mo_plan_126
            refine Wp.pos (by omega) (Wp.bd2 ?_)
            unfold F_Mo_done
            refine Wp_lb (fun I5 e5 => Wp_lb (fun I6 e6 => Wp.ret (Wp.ret (Or.inr (Or.inr ⟨c0, by omega, by omega, c, j, b1, b2, b3, ?_, fun k hk => ?_⟩)))))
            · show (I6 a 29).toInt = _
              rw [e6, up2_ne _ _ (fun z => absurd z.2 (by decide)), e5, up2_ne _ _ (fun z => absurd z.2 (by decide)), v1]; exact hn
            · show (I6 (rf O a 30) k).toInt = _
              rw [e6, up2_row _ _ n16, e5, up2_row _ _ n16]; exact v2 k hk
      · refine Wp.neg (by rw [hP, h4]; omega) ?_
        have m2' : RMl I2 O (rf O a 3) M := m2.fr2 (by rw [hF _ s2.1 s1.1, f1 _ s3.1]) (fun j hj => by rw [hF _ (s2.2 j hj) (s1.2 j hj), f1 _ (s3.2 j hj)])
        have A2 : RA1 I2 (rf O a 16) σ := fun k hk => by rw [hF _ n12 n14, f1 _ n15]; exact hA k hk
        refine Wp.bd2 (r_isWell (n := x1.toInt.toNat) (s := m) (by omega) m1 m3 m4 m5 (by omega) m2' s2 s1 n12 n13 n14 A2 h35 h36 hn hn5 h4 (by omega) (fun z I8 hW hF8 => ?_))
        have F8 : ∀ b, ¬ b = rf O a 17 → ¬ b = rf O a 31 → I8 b = I1 b := fun b b1 b2 => by rw [hF8 b b1 b2]; exact hF b b1 b2
        have t16 : (I8 (rf O a 16) 32).toInt = σ 32 := by rw [hF8 _ n12 n14]; exact A2 32 (by decide)
        have nxt : ∀ y2 y3 : Int32, BSo σ (fol M w o x1.toInt.toNat σ 0 (m + 1) none) y2 y3 → Wp (lb (x4 + Int32.ofInt 1) fun v4 => lp (B_Mo_plan_40 N O a x1 J) (fun _ _ _ _ => none) f y2 y3 v4 I8) (fun q => plQ (O a 3 = none) x1 (plB M w o σ x1.toInt.toNat) (σ 32) (q.2 a 29 = I a 29 ∧ q.2 (rf O a 30) = I (rf O a 30)) (fun n j => (q.2 a 29).toInt = (n : Int) ∧ ∀ k, k < n → (q.2 (rf O a 30) k).toInt = (dig n j k : Int)) q.1) := fun y2 y3 hb => Wp.lb (ih (m + 1) y2 y3 _ I8 (incB h4 (by omega)) (by omega) (by omega) hb F8)
        refine Wp.jn ?_
        rcases hW with ⟨w1, w2⟩ | ⟨τ, w1, w2, w3⟩
        · refine Wp.pos w2 (nxt _ _ ?_)
          show BSo σ (updB (fol M w o x1.toInt.toNat σ 0 m none) (0 + m) (pth M w o x1.toInt.toNat m σ)) x2 x3
          rw [w1]; exact hB
        · refine Wp.neg (fun q => absurd (q.symm.trans w2) (by decide)) (Wp_lb (fun v5 e5 => Wp.jn ?_))
          have p1 := pth_32 m1 m3 m4 x1.toInt.toNat m σ τ m5 (by omega) (by omega) w1
          have p2 := pth_SI m1 m3 m4 x1.toInt.toNat m σ τ m5 (by omega) (by omega) w1
          have p3 := p2.1.2.2.2.2.2.2.2.2.1 32 (by omega)
          have p4' := p2.1.2.2.2.2.1
          have hv : v5.toInt = τ 32 - σ 32 := by rw [e5]; exact t_sub w3 t16 (by omega)
          have tk : ltB (τ 32) (fol M w o x1.toInt.toNat σ 0 m none) = true → BSo σ (fol M w o x1.toInt.toNat σ 0 (m + 1) none) v5 x4 := fun hl => by
            show BSo σ (updB (fol M w o x1.toInt.toNat σ 0 m none) (0 + m) (pth M w o x1.toInt.toNat m σ)) v5 x4
            rw [w1]
            show BSo σ (if ltB (τ 32) (fol M w o x1.toInt.toNat σ 0 m none) = true then some (τ 32, 0 + m) else fol M w o x1.toInt.toNat σ 0 m none) v5 x4
            rw [if_pos hl]
            exact Or.inr ⟨τ 32, 0 + m, rfl, hv, by omega, by rw [h4, Nat.zero_add]⟩
          have lv : ¬ ltB (τ 32) (fol M w o x1.toInt.toNat σ 0 m none) = true → BSo σ (fol M w o x1.toInt.toNat σ 0 (m + 1) none) x2 x3 := fun hl => by
            show BSo σ (updB (fol M w o x1.toInt.toNat σ 0 m none) (0 + m) (pth M w o x1.toInt.toNat m σ)) x2 x3
            rw [w1]
            show BSo σ (if ltB (τ 32) (fol M w o x1.toInt.toNat σ 0 m none) = true then some (τ 32, 0 + m) else fol M w o x1.toInt.toNat σ 0 m none) x2 x3
            rw [if_neg hl]; exact hB
          rcases id hB with ⟨b1, b2⟩ | ⟨c, j, b1, b2, b3, b4⟩
          · exact Wp.pos b2 (nxt _ _ (tk (by rw [b1]; rfl)))
          · refine Wp.neg (by omega) ?_
            by_cases el : τ 32 < c
            · exact Wp.pos (by omega) (nxt _ _ (tk (by rw [b1]; exact decide_eq_true el)))
            · exact Wp.neg (by omega) (nxt _ _ (lv (fun z => by rw [b1] at z; exact el (of_decide_eq_true z))))
  exact main N 0 _ _ _ I1 k_0 (Nat.zero_le _) (by omega) (Or.inl ⟨rfl, ofI (by decide)⟩) (fun _ _ _ => rfl)
end RPLAN
