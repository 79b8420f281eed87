/-! rule and lacks, whole -/
def rq (c : Prop) (v : Int) (x1 z : Int32) : Prop := ((c ∨ x1.toInt < 1 ∨ 5 < x1.toInt) ∧ z.toInt = -1) ∨ (¬ c ∧ 1 ≤ x1.toInt ∧ x1.toInt ≤ 5 ∧ z.toInt = v)
section RULEP
variable {N : Nat} {O : WO} {I : WI} {J : WJ} {M : MM} {w o : Int} {σ : Nat → Int} {P : List Nat} {K : Nat → Nat} {x mo a : Nat} {Q0 : List Nat}
theorem c_ruleP {x1 : Int32} (hN : 38 ≤ N) (hT : TR P K O) (hx : x ∈ P ∧ K x = 8) (hO : OW Q0 P O x mo) (hD : DRs I O (rf O x 3) σ) (h1 : (I (rf O x 4) 1).toInt = w) (h2 : (I (rf O x 4) 2).toInt = o) (hm : ¬ (I (rf O x 1) 7).toInt = 0 → MB M ∧ CMl I O (rf O x 1) M ∧ (0 ≤ w ∧ w ≤ 3) ∧ (0 ≤ o ∧ o < M.1 8) ∧ SI M σ ∧ σ 27 ≤ 240) : Pp (F_RM_rule N O I J x x1) (fun q => rq ((I (rf O x 1) 7).toInt = 0) (rIt M w o x1.toInt.toNat σ 32 - σ 32) x1 q.1) := by
  have rj : ∀ w' : Int32, ((I (rf O x 1) 7).toInt = 0 ∨ x1.toInt < 1 ∨ 5 < x1.toInt) → Pp (bd2 (F_RM_refuse N O I J x w') fun z I2 => some (z, I2)) (fun q => rq ((I (rf O x 1) 7).toInt = 0) (rIt M w o x1.toInt.toNat σ 32 - σ 32) x1 q.1) := fun w' hc => by
    unfold F_RM_refuse
    exact Ppc2 (Pp_lb (fun I1 e1 => Pp.ret (Pp.ret (Or.inl ⟨hc, ofI (by decide)⟩))))
  unfold F_RM_rule F_RM_noMill F_RM_isPlanLength
  refine Ppc1 (Pp.ite (fun c => Pp.ret (Pp.ite (fun q => absurd q (by rw [k_1]; decide)) (fun _ => rj _ (Or.inl c)))) (fun c => Pp.ret (Pp.ite (fun _ => ?_) (fun q => absurd k_0 q))))
  refine Ppc1 (Pp.ite (fun h => Pp.ret (Pp.ite (fun _ => rj _ (by omega)) (fun q => absurd k_0 q))) (fun h3 => Pp.ite (fun h => Pp.ret (Pp.ite (fun _ => rj _ (by omega)) (fun q => absurd k_0 q))) (fun h4 => Pp.ret (Pp.ite (fun q => absurd q (by rw [k_1]; decide)) (fun _ => ?_)))))
  obtain ⟨m1, m2, m3, m4, m5, m6⟩ := hm c
  have n8 : ¬ WD O (rf O (rf O x 8) 8) (rf O x 3) := pND hT hx hO (l := [8, 8]) (p := [3]) rfl rfl (by decide)
  have n9 : ¬ WD O (rf O (rf O x 8) 9) (rf O x 3) := pND hT hx hO (l := [9, 8]) (p := [3]) rfl rfl (by decide)
  have n1 : ¬ rf O x 3 = rf O (rf O x 8) 1 := pNe hT hx hO (l := [3]) (l' := [1, 8]) rfl rfl (by decide)
  have hI := rIt_I (w := w) (o := o) m1 m3 m4 m5 x1.toInt.toNat (by omega)
  have b1 := m5.2.2.2.2.2.2.2.2.1 32 (by omega)
  have b2 := hI.1.2.2.2.2.2.2.2.2.1 32 (by omega)
  have b3 := m5.2.2.2.2.1
  refine Wp.pp (Wp.bd1 (c_keepRule (n := x1.toInt.toNat) (by omega) m1 m3 m4 m5 m6 hT hx hO m2 hD h1 h2 (by omega) (by omega) (fun I3 d1 d2 => ?_)))
  unfold F_RM_accept
  refine Wp.bd2 (Wp_lb (fun I4 e4 => Wp.ret (Wp.ret (Or.inr ⟨c, by omega, by omega, ?_⟩))))
  show ((I3 (rf O (rf O x 8) 9) 15) - (I3 (rf O x 3) 15)).toInt = _
  rw [d2 _ n8 n9 n1]
  have v1 : (I3 (rf O (rf O x 8) 9) 15).toInt = rIt M w o x1.toInt.toNat σ 32 := d1.2.2.2.2.2.2.2.2.2.2.2.2.2.1
  have v2 : (I (rf O x 3) 15).toInt = σ 32 := hD.2.2.2.2.2.2.2.2.2.2.2.2.2.1
  exact t_sub v1 v2 (by rw [hI.2] at b2; omega)
theorem r_ruleP {x1 : Int32} (hN : 38 ≤ N) (n12 : ¬ rf O a 16 = rf O a 17) (n13 : ¬ rf O a 17 = rf O a 32) (n14 : ¬ rf O a 16 = rf O a 32) (n15 : ¬ rf O a 16 = a) (sr : ¬ O a 3 = none → SR O (rf O a 3) (rf O a 32) ∧ SR O (rf O a 3) (rf O a 17) ∧ SR O (rf O a 3) a) (hA : RA1 I (rf O a 16) σ) (h35 : σ 35 = w) (h36 : σ 36 = o) (hm : ¬ O a 3 = none → MB M ∧ RMl I O (rf O a 3) M ∧ (0 ≤ w ∧ w ≤ 3) ∧ (0 ≤ o ∧ o < M.1 8) ∧ SI M σ ∧ σ 27 ≤ 240) : Pp (F_Mo_rule N O I J a x1) (fun q => rq (O a 3 = none) (rIt M w o x1.toInt.toNat σ 32 - σ 32) x1 q.1) := by
  have k5 : (Int32.ofInt 5).toInt = 5 := ofI (by decide)
  unfold F_Mo_rule
  refine Pp_lb (fun I1 e1 => ?_)
  have f1 : ∀ b, ¬ b = a → I1 b = I b := fun b hb => by rw [e1, up2_row _ _ hb]
  have rj : ∀ w' : Int32, (O a 3 = none ∨ x1.toInt < 1 ∨ 5 < x1.toInt) → Pp (bd2 (F_Mo_refused N O I1 J a w') fun z I2 => some (z, I2)) (fun q => rq (O a 3 = none) (rIt M w o x1.toInt.toNat σ 32 - σ 32) x1 q.1) := fun w' hc => by
    unfold F_Mo_refused
    exact Ppc2 (Pp_lb (fun I2 e2 => Pp_lb (fun I3 e3 => Pp.ret (Pp.ret (Or.inl ⟨hc, ofI (by decide)⟩)))))
  refine Pp.ite (fun c => rj _ (Or.inl c)) (fun c => ?_)
  obtain ⟨m1, m2, m3, m4, m5, m6⟩ := hm c
  obtain ⟨s1, s2, s3⟩ := sr c
  rw [r_in]
  refine Ppc1 (Pp.ret (Pp.ite (fun h => rj _ ?_) (fun h => ?_)))
  · have h2 := bI_d0.mp h
    rw [k_1, k5] at h2; omega
  · have h2 : ¬ ¬ ((Int32.ofInt 1).toInt ≤ x1.toInt ∧ x1.toInt ≤ (Int32.ofInt 5).toInt) := fun q => h (bI_d0.mpr q)
    rw [k_1, k5] at h2
    have h3 := Classical.not_not.mp h2
    have hI := rIt_I (w := w) (o := o) m1 m3 m4 m5 x1.toInt.toNat (by omega)
    have b1 := m5.2.2.2.2.2.2.2.2.1 32 (by omega)
    have b2 := hI.1.2.2.2.2.2.2.2.2.1 32 (by omega)
    have b3 := m5.2.2.2.2.1
    have A1 : RA1 I1 (rf O a 16) σ := fun k hk => by rw [f1 _ n15]; exact hA k hk
    refine Wp.pp (Wp.bd1 (r_rules (n := x1.toInt.toNat) hN m1 m3 m4 m5 m6 (m2.fr2 (f1 _ s3.1) (fun j hj => f1 _ (s3.2 j hj))) s1 s2 n12 n13 n14 A1 h35 h36 (by omega) (by omega) (fun I4 τ g1 g2 g3 => ?_)))
    unfold F_Mo_done
    refine Wp.bd2 (Wp_lb (fun I5 e5 => Wp_lb (fun I6 e6 => Wp.ret (Wp.ret (Or.inr ⟨c, by omega, by omega, ?_⟩)))))
    show ((I4 (rf O a 17) 32) - (I4 (rf O a 16) 32)).toInt = _
    have v1 : (I4 (rf O a 17) 32).toInt = rIt M w o x1.toInt.toNat σ 32 := by rw [g1 32 (by decide)]; exact g2 32 (by decide)
    have v2 : (I4 (rf O a 16) 32).toInt = σ 32 := by rw [g3 _ n12 n14]; exact A1 32 (by decide)
    exact t_sub v1 v2 (by rw [hI.2] at b2; omega)
theorem c_lacksP {x1 : Int32} (hN : 38 ≤ N) (hT : TR P K O) (hx : x ∈ P ∧ K x = 8) (hO : OW Q0 P O x mo) (hD : DRs I O (rf O x 3) σ) (h1 : (I (rf O x 4) 1).toInt = w) (h2 : (I (rf O x 4) 2).toInt = o) (hm : ¬ (I (rf O x 1) 7).toInt = 0 → MB M ∧ CMl I O (rf O x 1) M ∧ (0 ≤ w ∧ w ≤ 3) ∧ (0 ≤ o ∧ o < M.1 8) ∧ SI M σ ∧ σ 27 ≤ 240) : Pp (F_RM_lacks N O I J x x1) (fun q => rq ((I (rf O x 1) 7).toInt = 0) (rIt M w o x1.toInt.toNat σ 23 - σ 23) x1 q.1) := by
  have rj : ∀ w' : Int32, ((I (rf O x 1) 7).toInt = 0 ∨ x1.toInt < 1 ∨ 5 < x1.toInt) → Pp (bd2 (F_RM_refuse N O I J x w') fun z I2 => some (z, I2)) (fun q => rq ((I (rf O x 1) 7).toInt = 0) (rIt M w o x1.toInt.toNat σ 23 - σ 23) x1 q.1) := fun w' hc => by
    unfold F_RM_refuse
    exact Ppc2 (Pp_lb (fun I1 e1 => Pp.ret (Pp.ret (Or.inl ⟨hc, ofI (by decide)⟩))))
  unfold F_RM_lacks F_RM_noMill F_RM_isPlanLength
  refine Ppc1 (Pp.ite (fun c => Pp.ret (Pp.ite (fun q => absurd q (by rw [k_1]; decide)) (fun _ => rj _ (Or.inl c)))) (fun c => Pp.ret (Pp.ite (fun _ => ?_) (fun q => absurd k_0 q))))
  refine Ppc1 (Pp.ite (fun h => Pp.ret (Pp.ite (fun _ => rj _ (by omega)) (fun q => absurd k_0 q))) (fun h3 => Pp.ite (fun h => Pp.ret (Pp.ite (fun _ => rj _ (by omega)) (fun q => absurd k_0 q))) (fun h4 => Pp.ret (Pp.ite (fun q => absurd q (by rw [k_1]; decide)) (fun _ => ?_)))))
  obtain ⟨m1, m2, m3, m4, m5, m6⟩ := hm c
  have n8 : ¬ WD O (rf O (rf O x 8) 8) (rf O x 3) := pND hT hx hO (l := [8, 8]) (p := [3]) rfl rfl (by decide)
  have n9 : ¬ WD O (rf O (rf O x 8) 9) (rf O x 3) := pND hT hx hO (l := [9, 8]) (p := [3]) rfl rfl (by decide)
  have n1 : ¬ rf O x 3 = rf O (rf O x 8) 1 := pNe hT hx hO (l := [3]) (l' := [1, 8]) rfl rfl (by decide)
  have hI := rIt_I (w := w) (o := o) m1 m3 m4 m5 x1.toInt.toNat (by omega)
  have b1 := m5.2.2.2.2.2.2.2.2.1 23 (by omega)
  have b2 := hI.1.2.2.2.2.2.2.2.2.1 23 (by omega)
  have b3 := m5.2.2.2.2.1
  refine Wp.pp (Wp.bd1 (c_keepRule (n := x1.toInt.toNat) (by omega) m1 m3 m4 m5 m6 hT hx hO m2 hD h1 h2 (by omega) (by omega) (fun I3 d1 d2 => ?_)))
  unfold F_RM_accept
  refine Wp.bd2 (Wp_lb (fun I4 e4 => Wp.ret (Wp.ret (Or.inr ⟨c, by omega, by omega, ?_⟩))))
  show ((I3 (rf O (rf O x 8) 9) 12) - (I3 (rf O x 3) 12)).toInt = _
  rw [d2 _ n8 n9 n1]
  have v1 : (I3 (rf O (rf O x 8) 9) 12).toInt = rIt M w o x1.toInt.toNat σ 23 := d1.2.2.2.2.1
  have v2 : (I (rf O x 3) 12).toInt = σ 23 := hD.2.2.2.2.1
  exact t_sub v1 v2 (by rw [hI.2] at b2; omega)
theorem r_lacksP {x1 : Int32} (hN : 38 ≤ N) (n12 : ¬ rf O a 16 = rf O a 17) (n13 : ¬ rf O a 17 = rf O a 32) (n14 : ¬ rf O a 16 = rf O a 32) (n15 : ¬ rf O a 16 = a) (sr : ¬ O a 3 = none → SR O (rf O a 3) (rf O a 32) ∧ SR O (rf O a 3) (rf O a 17) ∧ SR O (rf O a 3) a) (hA : RA1 I (rf O a 16) σ) (h35 : σ 35 = w) (h36 : σ 36 = o) (hm : ¬ O a 3 = none → MB M ∧ RMl I O (rf O a 3) M ∧ (0 ≤ w ∧ w ≤ 3) ∧ (0 ≤ o ∧ o < M.1 8) ∧ SI M σ ∧ σ 27 ≤ 240) : Pp (F_Mo_lacks N O I J a x1) (fun q => rq (O a 3 = none) (rIt M w o x1.toInt.toNat σ 23 - σ 23) x1 q.1) := by
  have k5 : (Int32.ofInt 5).toInt = 5 := ofI (by decide)
  unfold F_Mo_lacks
  refine Pp_lb (fun I1 e1 => ?_)
  have f1 : ∀ b, ¬ b = a → I1 b = I b := fun b hb => by rw [e1, up2_row _ _ hb]
  have rj : ∀ w' : Int32, (O a 3 = none ∨ x1.toInt < 1 ∨ 5 < x1.toInt) → Pp (bd2 (F_Mo_refused N O I1 J a w') fun z I2 => some (z, I2)) (fun q => rq (O a 3 = none) (rIt M w o x1.toInt.toNat σ 23 - σ 23) x1 q.1) := fun w' hc => by
    unfold F_Mo_refused
    exact Ppc2 (Pp_lb (fun I2 e2 => Pp_lb (fun I3 e3 => Pp.ret (Pp.ret (Or.inl ⟨hc, ofI (by decide)⟩)))))
  refine Pp.ite (fun c => rj _ (Or.inl c)) (fun c => ?_)
  obtain ⟨m1, m2, m3, m4, m5, m6⟩ := hm c
  obtain ⟨s1, s2, s3⟩ := sr c
  rw [r_in]
  refine Ppc1 (Pp.ret (Pp.ite (fun h => rj _ ?_) (fun h => ?_)))
  · have h2 := bI_d0.mp h
    rw [k_1, k5] at h2; omega
  · have h2 : ¬ ¬ ((Int32.ofInt 1).toInt ≤ x1.toInt ∧ x1.toInt ≤ (Int32.ofInt 5).toInt) := fun q => h (bI_d0.mpr q)
    rw [k_1, k5] at h2
    have h3 := Classical.not_not.mp h2
    have hI := rIt_I (w := w) (o := o) m1 m3 m4 m5 x1.toInt.toNat (by omega)
    have b1 := m5.2.2.2.2.2.2.2.2.1 23 (by omega)
    have b2 := hI.1.2.2.2.2.2.2.2.2.1 23 (by omega)
    have b3 := m5.2.2.2.2.1
    have A1 : RA1 I1 (rf O a 16) σ := fun k hk => by rw [f1 _ n15]; exact hA k hk
    refine Wp.pp (Wp.bd1 (r_rules (n := x1.toInt.toNat) hN m1 m3 m4 m5 m6 (m2.fr2 (f1 _ s3.1) (fun j hj => f1 _ (s3.2 j hj))) s1 s2 n12 n13 n14 A1 h35 h36 (by omega) (by omega) (fun I4 τ g1 g2 g3 => ?_)))
    unfold F_Mo_done
    refine Wp.bd2 (Wp_lb (fun I5 e5 => Wp_lb (fun I6 e6 => Wp.ret (Wp.ret (Or.inr ⟨c, by omega, by omega, ?_⟩)))))
    show ((I4 (rf O a 17) 23) - (I4 (rf O a 16) 23)).toInt = _
    have v1 : (I4 (rf O a 17) 23).toInt = rIt M w o x1.toInt.toNat σ 23 := by rw [g1 23 (by decide)]; exact g2 23 (by decide)
    have v2 : (I4 (rf O a 16) 23).toInt = σ 23 := by rw [g3 _ n12 n14]; exact A1 23 (by decide)
    exact t_sub v1 v2 (by rw [hI.2] at b2; omega)
end RULEP
