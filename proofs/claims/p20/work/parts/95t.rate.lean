/-! the rates kept: rule and lacks leave them; rate tells them -/
section RATE
variable {P : List Nat} {K : Nat → Nat} {N : Nat} {O : WO} {I : WI} {J : WJ} {M : MM} {w o : Int} {σ : Nat → Int} {x mo : Nat} {Q0 : List Nat}
def KR (I I2 : WI) (O : WO) (x : Nat) : Prop := I2 (rf O x 8) = I (rf O x 8) ∧ I2 (rf O (rf O x 8) 6) = I (rf O (rf O x 8) 6)
theorem c_rejK (n8 : ¬ rf O x 8 = x) (n6 : ¬ rf O (rf O x 8) 6 = x) (w' : Int32) : Pp (bd2 (F_RM_refuse N O I J x w') fun z I2 => some (z, I2)) (fun q => KR I q.2 O x) := by
  unfold F_RM_refuse
  refine Ppc2 (Pp_lb (fun I1 e1 => Pp.ret (Pp.ret ⟨?_, ?_⟩)))
  · show I1 (rf O x 8) = _; rw [e1, up2_row _ _ n8]
  · show I1 (rf O (rf O x 8) 6) = _; rw [e1, up2_row _ _ n6]
theorem c_ruleK {x1 : Int32} (hN : 38 ≤ N) (hT : TR P K O) (hx : x ∈ P ∧ K x = 8) (hO : OW Q0 P O x mo) (hD : DRs I O (rf O x 3) σ) (h1 : (I (rf O x 4) 1).toInt = w) (h2 : (I (rf O x 4) 2).toInt = o) (hm : ¬ (I (rf O x 1) 7).toInt = 0 → MB M ∧ CMl I O (rf O x 1) M ∧ (0 ≤ w ∧ w ≤ 3) ∧ (0 ≤ o ∧ o < M.1 8) ∧ SI M σ ∧ σ 27 ≤ 240) : Pp (F_RM_rule N O I J x x1) (fun q => KR I q.2 O x) := by
  have n8 : ¬ rf O x 8 = x := pNe hT hx hO (l := [8]) (l' := []) rfl rfl (by decide)
  have n6 : ¬ rf O (rf O x 8) 6 = x := pNe hT hx hO (l := [6, 8]) (l' := []) rfl rfl (by decide)
  unfold F_RM_rule F_RM_noMill F_RM_isPlanLength
  refine Ppc1 (Pp.ite (fun c => Pp.ret (Pp.ite (fun q => absurd q (by rw [k_1]; decide)) (fun _ => c_rejK n8 n6 _))) (fun c => Pp.ret (Pp.ite (fun _ => ?_) (fun q => absurd k_0 q))))
  refine Ppc1 (Pp.ite (fun h => Pp.ret (Pp.ite (fun _ => c_rejK n8 n6 _) (fun q => absurd k_0 q))) (fun h3 => Pp.ite (fun h => Pp.ret (Pp.ite (fun _ => c_rejK n8 n6 _) (fun q => absurd k_0 q))) (fun h4 => Pp.ret (Pp.ite (fun q => absurd q (by rw [k_1]; decide)) (fun _ => ?_)))))
  obtain ⟨m1, m2, m3, m4, m5, m6⟩ := hm c
  refine Wp.pp (Wp.bd1 (c_keepRule (n := x1.toInt.toNat) (by omega) m1 m3 m4 m5 m6 hT hx hO m2 hD h1 h2 (by omega) (by omega) (fun I3 d1 d2 => ?_)))
  unfold F_RM_accept
  refine Wp.bd2 (Wp_lb (fun I4 e4 => Wp.ret (Wp.ret ⟨?_, ?_⟩)))
  · show I4 (rf O x 8) = _
    rw [e4, up2_row _ _ n8]
    exact d2 _ (pND hT hx hO (l := [8, 8]) (p := [8]) rfl rfl (by decide)) (pND hT hx hO (l := [9, 8]) (p := [8]) rfl rfl (by decide)) (pNe hT hx hO (l := [8]) (l' := [1, 8]) rfl rfl (by decide))
  · show I4 (rf O (rf O x 8) 6) = _
    rw [e4, up2_row _ _ n6]
    exact d2 _ (pND hT hx hO (l := [8, 8]) (p := [6, 8]) rfl rfl (by decide)) (pND hT hx hO (l := [9, 8]) (p := [6, 8]) rfl rfl (by decide)) (pNe hT hx hO (l := [6, 8]) (l' := [1, 8]) rfl rfl (by decide))
theorem c_lacksK {x1 : Int32} (hN : 38 ≤ N) (hT : TR P K O) (hx : x ∈ P ∧ K x = 8) (hO : OW Q0 P O x mo) (hD : DRs I O (rf O x 3) σ) (h1 : (I (rf O x 4) 1).toInt = w) (h2 : (I (rf O x 4) 2).toInt = o) (hm : ¬ (I (rf O x 1) 7).toInt = 0 → MB M ∧ CMl I O (rf O x 1) M ∧ (0 ≤ w ∧ w ≤ 3) ∧ (0 ≤ o ∧ o < M.1 8) ∧ SI M σ ∧ σ 27 ≤ 240) : Pp (F_RM_lacks N O I J x x1) (fun q => KR I q.2 O x) := by
  have n8 : ¬ rf O x 8 = x := pNe hT hx hO (l := [8]) (l' := []) rfl rfl (by decide)
  have n6 : ¬ rf O (rf O x 8) 6 = x := pNe hT hx hO (l := [6, 8]) (l' := []) rfl rfl (by decide)
  unfold F_RM_lacks F_RM_noMill F_RM_isPlanLength
  refine Ppc1 (Pp.ite (fun c => Pp.ret (Pp.ite (fun q => absurd q (by rw [k_1]; decide)) (fun _ => c_rejK n8 n6 _))) (fun c => Pp.ret (Pp.ite (fun _ => ?_) (fun q => absurd k_0 q))))
  refine Ppc1 (Pp.ite (fun h => Pp.ret (Pp.ite (fun _ => c_rejK n8 n6 _) (fun q => absurd k_0 q))) (fun h3 => Pp.ite (fun h => Pp.ret (Pp.ite (fun _ => c_rejK n8 n6 _) (fun q => absurd k_0 q))) (fun h4 => Pp.ret (Pp.ite (fun q => absurd q (by rw [k_1]; decide)) (fun _ => ?_)))))
  obtain ⟨m1, m2, m3, m4, m5, m6⟩ := hm c
  refine Wp.pp (Wp.bd1 (c_keepRule (n := x1.toInt.toNat) (by omega) m1 m3 m4 m5 m6 hT hx hO m2 hD h1 h2 (by omega) (by omega) (fun I3 d1 d2 => ?_)))
  unfold F_RM_accept
  refine Wp.bd2 (Wp_lb (fun I4 e4 => Wp.ret (Wp.ret ⟨?_, ?_⟩)))
  · show I4 (rf O x 8) = _
    rw [e4, up2_row _ _ n8]
    exact d2 _ (pND hT hx hO (l := [8, 8]) (p := [8]) rfl rfl (by decide)) (pND hT hx hO (l := [9, 8]) (p := [8]) rfl rfl (by decide)) (pNe hT hx hO (l := [8]) (l' := [1, 8]) rfl rfl (by decide))
  · show I4 (rf O (rf O x 8) 6) = _
    rw [e4, up2_row _ _ n6]
    exact d2 _ (pND hT hx hO (l := [8, 8]) (p := [6, 8]) rfl rfl (by decide)) (pND hT hx hO (l := [9, 8]) (p := [6, 8]) rfl rfl (by decide)) (pNe hT hx hO (l := [6, 8]) (l' := [1, 8]) rfl rfl (by decide))
/-- what rate answers -/
def raQ (n : Nat) (ρ : Nat → Int) (x1 z : Int32) : Prop := ((x1.toInt < 0 ∨ (n : Int) ≤ x1.toInt) ∧ z.toInt = -1) ∨ ((0 ≤ x1.toInt ∧ x1.toInt < (n : Int)) ∧ z.toInt = ρ x1.toInt.toNat)
theorem raQ.u {n : Nat} {ρ : Nat → Int} {x1 z z' : Int32} (h : raQ n ρ x1 z) (h' : raQ n ρ x1 z') : z.toInt = z'.toInt := by
  unfold raQ at h h'
  rcases h with ⟨a1, a2⟩ | ⟨a1, a2⟩
  · rcases h' with ⟨b1, b2⟩ | ⟨b1, b2⟩
    · rw [a2, b2]
    · omega
  · rcases h' with ⟨b1, b2⟩ | ⟨b1, b2⟩
    · omega
    · rw [a2, b2]
theorem c_rateP {x1 : Int32} {n : Nat} {ρ : Nat → Int} (hn : n ≤ 5) (h7 : (I (rf O x 8) 7).toInt = (n : Int)) (h6 : ∀ k, k < n → (I (rf O (rf O x 8) 6) k).toInt = ρ k) : Pp (F_RM_rate N O I J x x1) (fun q => raQ n ρ x1 q) := by
  unfold F_RM_rate F_Pl_keptRate
  refine Ppc1 (Pp.ite (fun c => Pp.ret (Pp.ret (Or.inl ⟨Or.inl c, ofI (by decide)⟩))) (fun c => Pp.ite (fun d => Pp.ret (Pp.ret (Or.inl ⟨Or.inr (by omega), ofI (by decide)⟩))) (fun d => Pp.ite (fun e => absurd e (by omega)) (fun e => Pp.g (fun _ => Pp.ret (Pp.ret (Or.inr ⟨by omega, h6 _ (by omega)⟩)))))))
theorem r_rateP {a : Nat} {x1 : Int32} {n : Nat} {ρ : Nat → Int} (n30 : ¬ rf O a 30 = a) (h7 : (I a 29).toInt = (n : Int)) (h6 : ∀ k, k < n → (I (rf O a 30) k).toInt = ρ k) : Pp (F_Mo_rate N O I J a x1) (fun q => raQ n ρ x1 q.1) := by
  unfold F_Mo_rate
  refine Pp_lb (fun I1 e1 => ?_)
  have a1 : I1 a 29 = I a 29 := by rw [e1, up2_ne _ _ (fun z => absurd z.2 (by decide))]
  have f1 : I1 (rf O a 30) = I (rf O a 30) := by rw [e1, up2_row _ _ n30]
  rw [a1, f1]
  exact Pp.ite (fun c => Pp.ret (Or.inl ⟨Or.inl c, ofI (by decide)⟩)) (fun c => Pp.ite (fun d => Pp.ret (Or.inl ⟨Or.inr (by omega), ofI (by decide)⟩)) (fun d => Pp.g (fun _ => Pp.ret (Or.inr ⟨by omega, h6 _ (by omega)⟩))))
end RATE
