/-! go, whole -/
def gqC (I : WI) (O : WO) (x : Nat) (M : MM) (r w o : Int) (t : GT) (x1 : Int32) (q : Int32 × WI) : Prop := (((I (rf O x 1) 7).toInt = 0 ∨ x1.toInt < 1 ∨ 24 < x1.toInt ∨ 240 < t.1 27 + x1.toInt) ∧ q.1.toInt = -1 ∧ (∀ b, ¬ b = x → q.2 b = I b) ∧ q.2 x 13 = I x 13) ∨ (¬ (I (rf O x 1) 7).toInt = 0 ∧ (1 ≤ x1.toInt ∧ x1.toInt ≤ 24 ∧ t.1 27 + x1.toInt ≤ 240) ∧ q.1.toInt = (gIt M r w o x1.toInt.toNat t).2.2.2 ∧ GC q.2 O x (gIt M r w o x1.toInt.toNat t) ∧ GI M (gIt M r w o x1.toInt.toNat t) ∧ (∀ b, ¬ WD O (rf O x 3) b → ¬ b = x → ¬ b = rf O x 12 → q.2 b = I b))
def gqR (I : WI) (O : WO) (a : Nat) (M : MM) (r w o : Int) (t : GT) (x1 : Int32) (q : Int32 × WI) : Prop := ((O a 3 = none ∨ x1.toInt < 1 ∨ 24 < x1.toInt ∨ 240 < t.1 27 + x1.toInt) ∧ q.1.toInt = -1 ∧ (∀ b, ¬ b = a → q.2 b = I b) ∧ q.2 a 18 = I a 18) ∨ (¬ O a 3 = none ∧ (1 ≤ x1.toInt ∧ x1.toInt ≤ 24 ∧ t.1 27 + x1.toInt ≤ 240) ∧ q.1.toInt = (gIt M r w o x1.toInt.toNat t).2.2.2 ∧ GR q.2 O a (gIt M r w o x1.toInt.toNat t) ∧ GI M (gIt M r w o x1.toInt.toNat t) ∧ (∀ b, ¬ b = rf O a 16 → ¬ b = a → ¬ b = rf O a 19 → q.2 b = I b))
section GOP
variable {N : Nat} {O : WO} {I : WI} {J : WJ} {x a : Nat} {M : MM} {r w o : Int}
theorem c_goP {x1 : Int32} {t : GT} (hN : 32 ≤ N) (sp : SPd O (rf O x 3) (rf O x 1)) (ra : ¬ WD O (rf O x 3) (rf O x 4)) (rx : ¬ WD O (rf O x 3) x) (r12 : ¬ WD O (rf O x 3) (rf O x 12)) (n1 : ¬ rf O x 12 = x) (n2 : ¬ rf O x 4 = x) (n3 : ¬ rf O x 4 = rf O x 12) (n4 : ¬ rf O x 1 = x) (n5 : ¬ rf O x 1 = rf O x 12) (n6 : ∀ j, j < 5 → ¬ rf O (rf O x 1) (10 + j) = x ∧ ¬ rf O (rf O x 1) (10 + j) = rf O x 12) (h34 : (I (rf O x 4) 0).toInt = r) (h35 : (I (rf O x 4) 1).toInt = w) (h36 : (I (rf O x 4) 2).toInt = o) (hC : GC I O x t) (hm : ¬ (I (rf O x 1) 7).toInt = 0 → MB M ∧ CMl I O (rf O x 1) M ∧ ST3 M r w o ∧ GI M t ∧ t.2.2.2 = 0 ∧ t.1 27 ≤ 240) : Pp (F_RM_go N O I J x x1) (gqC I O x M r w o t x1) := by
  have rj : ∀ w' : Int32, ((I (rf O x 1) 7).toInt = 0 ∨ x1.toInt < 1 ∨ 24 < x1.toInt ∨ 240 < t.1 27 + x1.toInt) → Pp (bd2 (F_RM_refuse N O I J x w') fun z I2 => some (z, I2)) (gqC I O x M r w o t x1) := fun w' hc => by
    unfold F_RM_refuse
    refine Ppc2 (Pp_lb (fun I1 e1 => Pp.ret (Pp.ret (Or.inl ⟨hc, ofI (by decide), fun b hb => ?_, ?_⟩))))
    · show I1 b = I b; rw [e1, up2_row _ _ hb]
    · show I1 x 13 = I x 13; rw [e1, up2_ne _ _ (fun z => absurd z.2 (by decide))]
  unfold F_RM_go F_RM_noMill
  refine Ppc1 (Pp.ite (fun c => Pp.ret (Pp.ite (fun q => absurd q (by rw [k_1]; decide)) (fun _ => rj _ (Or.inl c)))) (fun c => Pp.ret (Pp.ite (fun _ => ?_) (fun q => absurd k_0 q))))
  obtain ⟨m1, m2, m3, m4, m5, m6⟩ := hm c
  have i27 := hC.1.2.2.2.2.2.2.2.2.1
  have b27 := m4.1.2.2.2.2.1
  refine Pp_jq (fun k => (x1.toInt < 1 ∨ 24 < x1.toInt) → Pp k (gqC I O x M r w o t x1)) (fun h => rj _ (by omega)) (fun k24 hk => Pp.ite (fun h => hk (Or.inl h)) (fun h1 => Pp.ite (fun h2 => Pp.ite (fun h3 => ?_) (fun h3 => ?_)) (fun h2 => hk (Or.inr (by omega)))))
  · have e := t_add i27 (rfl : x1.toInt = x1.toInt) (by omega)
    rw [e] at h3
    refine Wp.pp (c_go (n := x1.toInt.toNat) (t := t) (by omega) m1 m3 m2 sp ra rx r12 n1 n2 n3 n4 n5 n6 h34 h35 h36 (by omega) (by omega) m4 m5 (by omega) hC (fun z I' g1 g2 g3 g4 => Or.inr ⟨c, by omega, g1, g2, g3, g4⟩))
  · have e := t_add i27 (rfl : x1.toInt = x1.toInt) (by omega)
    rw [e] at h3
    exact rj _ (by omega)
theorem r_goP {x1 : Int32} {t : GT} (hN : 32 ≤ N) (sr : ¬ O a 3 = none → SR O (rf O a 3) (rf O a 16) ∧ SR O (rf O a 3) (rf O a 19) ∧ SR O (rf O a 3) a) (n1 : ¬ rf O a 19 = rf O a 16) (n2 : ¬ a = rf O a 16) (n3 : ¬ rf O a 19 = a) (h34 : t.1 34 = r) (h35 : t.1 35 = w) (h36 : t.1 36 = o) (hC : GR I O a t) (hm : ¬ O a 3 = none → MB M ∧ RMl I O (rf O a 3) M ∧ ST3 M r w o ∧ GI M t ∧ t.2.2.2 = 0 ∧ t.1 27 ≤ 240) : Pp (F_Mo_go N O I J a x1) (gqR I O a M r w o t x1) := by
  have k1 : (Int32.ofInt 1).toInt = 1 := ofI (by decide)
  have k24 : (Int32.ofInt 24).toInt = 24 := ofI (by decide)
  unfold F_Mo_go
  refine Pp_lb (fun I1 e1 => ?_)
  have f1 : ∀ b, ¬ b = a → I1 b = I b := fun b hb => by rw [e1, up2_row _ _ hb]
  have f18 : I1 a 18 = I a 18 := by rw [e1, up2_ne _ _ (fun z => absurd z.2 (by decide))]
  have rj : ∀ w' : Int32, (O a 3 = none ∨ x1.toInt < 1 ∨ 24 < x1.toInt ∨ 240 < t.1 27 + x1.toInt) → Pp (bd2 (F_Mo_refused N O I1 J a w') fun z I2 => some (z, I2)) (gqR I O a M r w o t x1) := fun w' hc => by
    unfold F_Mo_refused
    refine Ppc2 (Pp_lb (fun I2 e2 => Pp_lb (fun I3 e3 => Pp.ret (Pp.ret (Or.inl ⟨hc, ofI (by decide), fun b hb => ?_, ?_⟩)))))
    · show I3 b = I b; rw [e3, up2_row _ _ hb, e2, up2_row _ _ hb]; exact f1 b hb
    · show I3 a 18 = I a 18; rw [e3, up2_ne _ _ (fun z => absurd z.2 (by decide)), e2, up2_ne _ _ (fun z => absurd z.2 (by decide))]; exact f18
  refine Pp.ite (fun c => rj _ (Or.inl c)) (fun c => ?_)
  obtain ⟨m1, m2, m3, m4, m5, m6⟩ := hm c
  obtain ⟨sr1, sr2, sr3⟩ := sr c
  have C1 : GR I1 O a t := ⟨fun k hk => by rw [f1 _ (fun z => n2 z.symm)]; exact hC.1 k hk, by rw [f18]; exact hC.2.1, fun j hj => by rw [f1 _ n3]; exact hC.2.2 j hj⟩
  have i27 : (I1 (rf O a 16) 27).toInt = t.1 27 := C1.1 27 (by decide)
  have b27 := m4.1.2.2.2.2.1
  have M1 : RMl I1 O (rf O a 3) M := ⟨by rw [f1 _ sr3.1]; exact m2.1, fun j i hj hi => by rw [f1 _ (sr3.2 j hj)]; exact m2.2 j i hj hi⟩
  rw [r_in]
  refine Ppc1 (Pp.ret (Pp.ite (fun h => rj _ ?_) (fun h => ?_)))
  · have h2 := bI_d0.mp h
    rw [k1, k24] at h2; omega
  · have h2 : ¬ ¬ ((Int32.ofInt 1).toInt ≤ x1.toInt ∧ x1.toInt ≤ (Int32.ofInt 24).toInt) := fun q => h (bI_d0.mpr q)
    rw [k1, k24] at h2
    have h3 := Classical.not_not.mp h2
    have e := t_add i27 (rfl : x1.toInt = x1.toInt) (by omega)
    refine Pp.ite (fun h4 => ?_) (fun h4 => rj _ (by rw [e] at h4; omega))
    rw [e] at h4
    exact Wp.pp (r_go (n := x1.toInt.toNat) (t := t) hN m1 m3 M1 sr1 sr2 sr3 n1 n2 n3 h34 h35 h36 (by omega) (by omega) m4 m5 (by omega) C1 (fun z I' g1 g2 g3 g4 => Or.inr ⟨c, by omega, g1, g2, g3, fun b b1 b2 b3 => by show I' b = I b; rw [g4 b b1 b2 b3]; exact f1 b b2⟩))
end GOP
