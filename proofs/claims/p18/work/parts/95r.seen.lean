/-! seen and forget, both sides; answers of one kind -/
theorem SE.kt {I I1 : WI} {O : WO} {x : Nat} {fs : List Nat} (kT : ∀ p κ, pLb p = some κ → p ≠ [] → rt p ∉ fs → I1 (pAt O x p) = I (pAt O x p)) : ∀ l, l ∈ sLs → rt l ∉ fs → I1 (pAt O x l) = I (pAt O x l) := fun l hl h => by
  have h' : sOKs l = true := (by decide : ∀ l ∈ sLs, sOKs l = true) l hl
  unfold sOKs at h'
  cases hp : pLb l with
  | none => rw [hp] at h'; cases h'
  | some κ => exact kT l κ hp ((by decide : ∀ l ∈ sLs, l ≠ []) l hl) h
theorem ME.tr {I I1 I2 : WI} {O : WO} {mo : Nat} (a : ME I I1 O mo) (b : ME I1 I2 O mo) : ME I I2 O mo := by
  obtain ⟨a1, a2, a3, a4, a5, a6, a7, a8⟩ := a
  obtain ⟨b1, b2, b3, b4, b5, b6, b7, b8⟩ := b
  exact ⟨b1.trans a1, b2.trans a2, b3.trans a3, b4.trans a4, b5.trans a5, b6.trans a6, b7.trans a7, b8.trans a8⟩
theorem gq.u {c c' : Prop} {s : Int} {x1 x2 x3 x4 x5 z z' : Int32} {v : Nat → Nat → Nat → Int} (hcc : c ↔ c') (h : gq c s x1 x2 x3 x4 x5 v z) (h' : gq c' s x1 x2 x3 x4 x5 v z') : z.toInt = z'.toInt := by
  unfold gq at h h'
  rcases h with ⟨a1, a2⟩ | ⟨a1, a2, a3, a4, a5⟩
  · rcases h' with ⟨b1, b2⟩ | ⟨b1, b2, b3, b4, b5⟩
    · rw [a2, b2]
    · exfalso
      rcases a1 with y | y | y | y
      · exact b1 (hcc.mp y)
      · exact y b2
      · exact y b3
      · exact y b4
  · rcases h' with ⟨b1, b2⟩ | ⟨b1, b2, b3, b4, b5⟩
    · exfalso
      rcases b1 with y | y | y | y
      · exact a1 (hcc.mpr y)
      · exact y a2
      · exact y a3
      · exact y a4
    · rw [a5, b5]
theorem faQ.u {p : Nat → Bool} {x1 x2 z z' : Int32} (h : faQ p x1 x2 z) (h' : faQ p x1 x2 z') : z.toInt = z'.toInt := by
  unfold faQ at h h'
  rcases h with ⟨a1, a2⟩ | ⟨a1, a2, a3⟩
  · rcases h' with ⟨b1, b2⟩ | ⟨b1, b2, b3⟩
    · rw [a2, b2]
    · exfalso
      rcases a1 with y | y
      · exact y b1
      · exact y b2
  · rcases h' with ⟨b1, b2⟩ | ⟨b1, b2, b3⟩
    · exfalso
      rcases b1 with y | y
      · exact y a1
      · exact y a2
    · obtain ⟨st, s1, s2, s3⟩ := scn_ex (p := p) 100 x1.toInt.toNat (by omega)
      rw [a3 st ⟨s1, s2, s3⟩, b3 st ⟨s1, s2, s3⟩]
theorem SRb.of {P : List Nat} {K : Nat → Nat} {O : WO} {mo : Nat} (hT : TR P K O) (hm : mo ∈ P ∧ K mo = 10) : SRb O mo := by
  have nlb : ∀ {c d κ κ' : Nat}, K c = κ → K d = κ' → κ ≠ κ' → ¬ c = d := fun h1 h2 h3 z => h3 (by rw [← h1, ← h2, z])
  have t17 := (rf_ok hT hm (show sp 10 17 = some 49 from rfl)).2
  have t20 := (rf_ok hT hm (show sp 10 20 = some 33 from rfl)).2
  have t21 := (rf_ok hT hm (show sp 10 21 = some 33 from rfl)).2
  have t22 := (rf_ok hT hm (show sp 10 22 = some 34 from rfl)).2
  have t24 := (rf_ok hT hm (show sp 10 24 = some 35 from rfl)).2
  have t25 := (rf_ok hT hm (show sp 10 25 = some 36 from rfl)).2
  have t26 := (rf_ok hT hm (show sp 10 26 = some 35 from rfl)).2
  have t27 := (rf_ok hT hm (show sp 10 27 = some 35 from rfl)).2
  have t28 := (rf_ok hT hm (show sp 10 28 = some 37 from rfl)).2
  refine ⟨fun f hf => ?_, fun f hf => ?_, fun f hf => ?_⟩
  · rcases hf with rfl | rfl | rfl | rfl | rfl | rfl | rfl | rfl
    · exact nlb t20 t17 (by decide)
    · exact nlb t21 t17 (by decide)
    · exact nlb t22 t17 (by decide)
    · exact nlb t24 t17 (by decide)
    · exact nlb t25 t17 (by decide)
    · exact nlb t26 t17 (by decide)
    · exact nlb t27 t17 (by decide)
    · exact nlb t28 t17 (by decide)
  · rcases hf with rfl | rfl | rfl | rfl | rfl | rfl | rfl
    · exact nlb t20 t28 (by decide)
    · exact nlb t21 t28 (by decide)
    · exact nlb t22 t28 (by decide)
    · exact nlb t24 t28 (by decide)
    · exact nlb t25 t28 (by decide)
    · exact nlb t26 t28 (by decide)
    · exact nlb t27 t28 (by decide)
  · rcases hf with rfl | rfl | rfl | rfl | rfl | rfl | rfl | rfl | rfl
    · exact nlb t17 hm.2 (by decide)
    · exact nlb t20 hm.2 (by decide)
    · exact nlb t21 hm.2 (by decide)
    · exact nlb t22 hm.2 (by decide)
    · exact nlb t24 hm.2 (by decide)
    · exact nlb t25 hm.2 (by decide)
    · exact nlb t26 hm.2 (by decide)
    · exact nlb t27 hm.2 (by decide)
    · exact nlb t28 hm.2 (by decide)
def seOK (s n : Int) (x1 x2 x3 x4 : Int32) : Prop := (0 ≤ x1.toInt ∧ x1.toInt ≤ 11) ∧ (0 ≤ x2.toInt ∧ x2.toInt ≤ 1 + s) ∧ (0 ≤ x3.toInt ∧ x3.toInt ≤ 999999) ∧ (0 ≤ x4.toInt ∧ x4.toInt ≤ 999) ∧ n < 24
section SEEN
variable {N : Nat} {O : WO} {I : WI} {J : WJ} {a : Nat}
def SEc (O : WO) (I : WI) (a s : Nat) (x1 x2 x3 x4 : Int32) (q : Int32 × WI) : Prop := (¬ seOK (I (rf O a 1) 7).toInt (I s 4).toInt x1 x2 x3 x4 ∧ ∀ b, ¬ b = a → q.2 b = I b) ∨ (seOK (I (rf O a 1) 7).toInt (I s 4).toInt x1 x2 x3 x4 ∧ AP1 I q.2 (rf O s 0) (I s 4).toInt.toNat x1 ∧ AP1 I q.2 (rf O s 1) (I s 4).toInt.toNat x2 ∧ AP1 I q.2 (rf O s 2) (I s 4).toInt.toNat x3 ∧ AP1 I q.2 (rf O s 3) (I s 4).toInt.toNat x4 ∧ (q.2 s 4).toInt = (I s 4).toInt + 1 ∧ (q.2 s 7).toInt = 0)
theorem c_seenQ {x1 x2 x3 x4 : Int32} (hb : 0 ≤ (I (rf O a 1) 7).toInt ∧ (I (rf O a 1) 7).toInt ≤ 5) (hn : 0 ≤ (I (rf O a 7) 4).toInt) (na : ¬ rf O a 7 = a) (nj : ∀ j, j < 4 → ¬ rf O (rf O a 7) j = a ∧ ¬ rf O (rf O a 7) j = rf O a 7) (nij : ∀ i j, i < 4 → j < 4 → ¬ i = j → ¬ rf O (rf O a 7) i = rf O (rf O a 7) j) : Pp (F_RM_seen N O I J a x1 x2 x3 x4) (SEc O I a (rf O a 7) x1 x2 x3 x4) := by
  have rj : ∀ w : Int32, ¬ seOK (I (rf O a 1) 7).toInt (I (rf O a 7) 4).toInt x1 x2 x3 x4 → Pp (bd2 (F_RM_refuse N O I J a w) fun z I2 => some (z, I2)) (SEc O I a (rf O a 7) x1 x2 x3 x4) := fun w hc => by
    unfold F_RM_refuse
    refine Ppc2 (Pp_lb (fun I1 e1 => Pp.ret (Pp.ret (Or.inl ⟨hc, fun b hb => ?_⟩))))
    show I1 b = I b
    rw [e1, up2_row _ _ hb]
  unfold F_RM_seen
  rw [c_isHour]
  refine Ppc1 (Pp.ret (Pp_jq (fun k => ¬ seOK (I (rf O a 1) 7).toInt (I (rf O a 7) 4).toInt x1 x2 x3 x4 → Pp k (SEc O I a (rf O a 7) x1 x2 x3 x4)) (rj _) (fun k15 hk => Pp.ite (fun w => hk (fun z => bI_d0.mp w z.1)) (fun w1 => ?_))))
  rw [c_isHeard hb]
  refine Ppc1 (Pp.ret (Pp.ite (fun w => hk (fun z => bI_d0.mp w z.2.1)) (fun w2 => ?_)))
  clear hk
  refine Pp_jq (fun k => ¬ seOK (I (rf O a 1) 7).toInt (I (rf O a 7) 4).toInt x1 x2 x3 x4 → Pp k (SEc O I a (rf O a 7) x1 x2 x3 x4)) (rj _) (fun k44 hk => Pp.ite (fun w => hk (fun z => by have := z.2.2.1; omega)) (fun w3 => Pp.ite (fun w => hk (fun z => by have := z.2.2.1; omega)) (fun w3' => Pp.ite (fun w => hk (fun z => by have := z.2.2.2.1; omega)) (fun w4 => Pp.ite (fun w4' => ?_) (fun w => hk (fun z => by have := z.2.2.2.1; omega))))))
  clear hk
  have h1 := Classical.not_not.mp (fun z => w1 (bI_d0.mpr z))
  have h2 := Classical.not_not.mp (fun z => w2 (bI_d0.mpr z))
  unfold F_Si_isFilled
  refine Ppc1 (Pp.ite (fun f => Pp.ret (Pp.ite (fun _ => ?_) (fun w => absurd k_0 w))) (fun f => Pp.ret (Pp.ite (fun w => absurd w (by rw [k_1]; decide)) (fun _ => rj _ (fun z => f z.2.2.2.2)))))
  have hok : seOK (I (rf O a 1) 7).toInt (I (rf O a 7) 4).toInt x1 x2 x3 x4 := ⟨h1, h2, by omega, by omega, f⟩
  unfold F_Si_note
  refine Ppc2 (Pp.ite (fun w => absurd w (by omega)) (fun _ => Pp.ite (fun w => absurd w (by omega)) (fun _ => Pp.g (fun _ => Pp_lb (fun I1 e1 => Pp.g (fun _ => Pp_lb (fun I2 e2 => Pp.g (fun _ => Pp_lb (fun I3 e3 => Pp.g (fun _ => Pp_lb (fun I4 e4 => Pp_lb (fun I5 e5 => Pp_lb (fun I6 e6 => Pp.ret ?_)))))))))))))
  show Pp (bd2 (F_RM_accept N O I6 J a (I6 (rf O a 7) 4)) fun z I7 => some (z, I7)) _
  unfold F_RM_accept
  refine Ppc2 (Pp_lb (fun I7 e7 => Pp.ret (Pp.ret (Or.inr ⟨hok, ?_, ?_, ?_, ?_, ?_, ?_⟩))))
  all_goals
    have s0 := nj 0 (by decide)
    have s1 := nj 1 (by decide)
    have s2 := nj 2 (by decide)
    have s3 := nj 3 (by decide)
    have g1 : I1 (rf O a 7) = I (rf O a 7) := by rw [e1, up2_row _ _ (fun z => s0.2 z.symm)]
    have g2 : I2 (rf O a 7) = I (rf O a 7) := by rw [e2, up2_row _ _ (fun z => s1.2 z.symm), g1]
    have g3 : I3 (rf O a 7) = I (rf O a 7) := by rw [e3, up2_row _ _ (fun z => s2.2 z.symm), g2]
    have g4 : I4 (rf O a 7) = I (rf O a 7) := by rw [e4, up2_row _ _ (fun z => s3.2 z.symm), g3]
    have n01 := nij 0 1 (by decide) (by decide) (by decide)
    have n02 := nij 0 2 (by decide) (by decide) (by decide)
    have n03 := nij 0 3 (by decide) (by decide) (by decide)
    have n12 := nij 1 2 (by decide) (by decide) (by decide)
    have n13 := nij 1 3 (by decide) (by decide) (by decide)
    have n23 := nij 2 3 (by decide) (by decide) (by decide)
    rw [g1] at e2
    rw [g2] at e3
    rw [g3] at e4
    have t7 : ∀ b, ¬ b = a → ¬ b = rf O a 7 → I7 b = I4 b := fun b b1 b2 => by rw [e7, up2_row _ _ b1, e6, up2_row _ _ b2, e5, up2_row _ _ b2]
  · exact AP1.up (I2 := I7) e1 (fun k => by rw [t7 _ s0.1 s0.2, e4, up2_row _ _ n03, e3, up2_row _ _ n02, e2, up2_row _ _ n01])
  · intro k
    have q := AP1.up (I2 := I7) e2 (fun k => by rw [t7 _ s1.1 s1.2, e4, up2_row _ _ n13, e3, up2_row _ _ n12]) k
    rw [e1, up2_row _ _ (fun z => n01 z.symm)] at q; exact q
  · intro k
    have q := AP1.up (I2 := I7) e3 (fun k => by rw [t7 _ s2.1 s2.2, e4, up2_row _ _ n23]) k
    rw [e2, up2_row _ _ (fun z => n12 z.symm), e1, up2_row _ _ (fun z => n02 z.symm)] at q; exact q
  · intro k
    have q := AP1.up (I2 := I7) e4 (fun k => by rw [t7 _ s3.1 s3.2]) k
    rw [e3, up2_row _ _ (fun z => n23 z.symm), e2, up2_row _ _ (fun z => n13 z.symm), e1, up2_row _ _ (fun z => n03 z.symm)] at q; exact q
  · show (I7 (rf O a 7) 4).toInt = _
    rw [e7, up2_row _ _ na, e6, up2_ne _ _ (fun z => absurd z.2 (by decide)), e5, up2_self, g4]
    exact t_add rfl k_1 (by omega)
  · show (I7 (rf O a 7) 7).toInt = _
    rw [e7, up2_row _ _ na, e6, up2_self]; exact k_0
def SEr (O : WO) (I : WI) (a : Nat) (x1 x2 x3 x4 : Int32) (q : Int32 × WI) : Prop := (¬ seOK (I (rf O a 3) 8).toInt (I a 23).toInt x1 x2 x3 x4 ∧ (∀ b, ¬ b = a → q.2 b = I b) ∧ q.2 a 23 = I a 23) ∨ (seOK (I (rf O a 3) 8).toInt (I a 23).toInt x1 x2 x3 x4 ∧ AP1 I q.2 (rf O a 24) (I a 23).toInt.toNat x1 ∧ AP1 I q.2 (rf O a 25) (I a 23).toInt.toNat x2 ∧ AP1 I q.2 (rf O a 26) (I a 23).toInt.toNat x3 ∧ AP1 I q.2 (rf O a 27) (I a 23).toInt.toNat x4 ∧ (q.2 a 23).toInt = (I a 23).toInt + 1)
theorem r_seenQ {x1 x2 x3 x4 : Int32} (hm : ¬ O a 3 = none) (hb : 0 ≤ (I (rf O a 3) 8).toInt ∧ (I (rf O a 3) 8).toInt ≤ 5) (hn : 0 ≤ (I a 23).toInt ∧ (I a 23).toInt ≤ 24) (n3 : ¬ rf O a 3 = a) (s4 : ¬ rf O a 24 = a) (s5 : ¬ rf O a 25 = a) (s6 : ¬ rf O a 26 = a) (s7 : ¬ rf O a 27 = a) (n45 : ¬ rf O a 24 = rf O a 25) (n46 : ¬ rf O a 24 = rf O a 26) (n47 : ¬ rf O a 24 = rf O a 27) (n56 : ¬ rf O a 25 = rf O a 26) (n57 : ¬ rf O a 25 = rf O a 27) (n67 : ¬ rf O a 26 = rf O a 27) : Pp (F_Mo_seen N O I J a x1 x2 x3 x4) (SEr O I a x1 x2 x3 x4) := by
  unfold F_Mo_seen
  refine Pp_lb (fun I1 e1 => ?_)
  have f1 : ∀ b, ¬ b = a → I1 b = I b := fun b hb => by rw [e1, up2_row _ _ hb]
  have a1 : I1 a 23 = I a 23 := by rw [e1, up2_ne _ _ (fun z => absurd z.2 (by decide))]
  have rj : ∀ w : Int32, ¬ seOK (I (rf O a 3) 8).toInt (I a 23).toInt x1 x2 x3 x4 → Pp (bd2 (F_Mo_refused N O I1 J a w) fun z I2 => some (z, I2)) (SEr O I a x1 x2 x3 x4) := fun w hc => by
    unfold F_Mo_refused
    refine Ppc2 (Pp_lb (fun I2 e2 => Pp_lb (fun I3 e3 => Pp.ret (Pp.ret (Or.inl ⟨hc, fun b hb => ?_, ?_⟩)))))
    · show I3 b = I b
      rw [e3, up2_row _ _ hb, e2, up2_row _ _ hb]; exact f1 b hb
    · show I3 a 23 = I a 23
      rw [e3, up2_ne _ _ (fun z => absurd z.2 (by decide)), e2, up2_ne _ _ (fun z => absurd z.2 (by decide))]; exact a1
  obtain ⟨z8, w8, h8⟩ := r_isWhat (N := N) (O := O) (I := I1) (J := J) (a := a) (x1 := x1) (x2 := x2) (fun _ => by rw [f1 _ n3]; exact hb)
  rw [f1 _ n3] at h8
  rw [w8]
  refine Ppc1 (Pp.ret (Pp.ite (fun w => rj _ (fun z => ?_)) (fun w => ?_)))
  · rcases h8.mp w with y | y | y
    · exact hm y
    · exact y z.1
    · exact y z.2.1
  have h1 : 0 ≤ x1.toInt ∧ x1.toInt ≤ 11 := Classical.not_not.mp (fun z => w (h8.mpr (Or.inr (Or.inl z))))
  have h2 : 0 ≤ x2.toInt ∧ x2.toInt ≤ 1 + (I (rf O a 3) 8).toInt := Classical.not_not.mp (fun z => w (h8.mpr (Or.inr (Or.inr z))))
  have k9 : (Int32.ofInt 999999).toInt = 999999 := ofI (by decide)
  have k99 : (Int32.ofInt 999).toInt = 999 := ofI (by decide)
  rw [r_in, k_0, k9]
  refine Ppc1 (Pp.ret (Pp_jq (fun k => ¬ seOK (I (rf O a 3) 8).toInt (I a 23).toInt x1 x2 x3 x4 → Pp k (SEr O I a x1 x2 x3 x4)) (rj _) (fun k43 hk => Pp.ite (fun w => hk (fun z => bI_d0.mp w z.2.2.1)) (fun w3 => ?_))))
  rw [r_in, k_0, k99]
  refine Ppc1 (Pp.ret (Pp.ite (fun w => hk (fun z => bI_d0.mp w z.2.2.2.1)) (fun w4 => ?_)))
  clear hk
  have h3 := Classical.not_not.mp (fun z => w3 (bI_d0.mpr z))
  have h4 := Classical.not_not.mp (fun z => w4 (bI_d0.mpr z))
  rw [a1]
  refine Pp.ite (fun f => rj _ (fun z => by have := z.2.2.2.2; omega)) (fun f => ?_)
  have hok : seOK (I (rf O a 3) 8).toInt (I a 23).toInt x1 x2 x3 x4 := ⟨h1, h2, h3, h4, by omega⟩
  refine Pp.g (fun _ => Pp_lb (fun I6 e6 => Pp.g (fun _ => Pp_lb (fun I7 e7 => Pp.g (fun _ => Pp_lb (fun I8 e8 => Pp.g (fun _ => Pp_lb (fun I9 e9 => Pp_lb (fun I10 e10 => ?_)))))))))
  unfold F_Mo_done
  refine Ppc2 (Pp_lb (fun I11 e11 => Pp_lb (fun I12 e12 => Pp.ret (Pp.ret (Or.inr ⟨hok, ?_, ?_, ?_, ?_, ?_⟩)))))
  all_goals
    have g6 : I6 a 23 = I a 23 := by rw [e6, up2_row _ _ (fun z => s4 z.symm), a1]
    have g7 : I7 a 23 = I a 23 := by rw [e7, up2_row _ _ (fun z => s5 z.symm), g6]
    have g8 : I8 a 23 = I a 23 := by rw [e8, up2_row _ _ (fun z => s6 z.symm), g7]
    have g9 : I9 a 23 = I a 23 := by rw [e9, up2_row _ _ (fun z => s7 z.symm), g8]
    rw [g6] at e7
    rw [g7] at e8
    rw [g8] at e9
    have t12 : ∀ b, ¬ b = a → I12 b = I9 b := fun b b1 => by rw [e12, up2_row _ _ b1, e11, up2_row _ _ b1, e10, up2_row _ _ b1]
  · intro k
    have q := AP1.up (I2 := I12) e6 (fun k => by rw [t12 _ s4, e9, up2_row _ _ n47, e8, up2_row _ _ n46, e7, up2_row _ _ n45]) k
    rw [f1 _ s4] at q; exact q
  · intro k
    have q := AP1.up (I2 := I12) e7 (fun k => by rw [t12 _ s5, e9, up2_row _ _ n57, e8, up2_row _ _ n56]) k
    rw [e6, up2_row _ _ (fun z => n45 z.symm), f1 _ s5] at q; exact q
  · intro k
    have q := AP1.up (I2 := I12) e8 (fun k => by rw [t12 _ s6, e9, up2_row _ _ n67]) k
    rw [e7, up2_row _ _ (fun z => n56 z.symm), e6, up2_row _ _ (fun z => n46 z.symm), f1 _ s6] at q; exact q
  · intro k
    have q := AP1.up (I2 := I12) e9 (fun k => by rw [t12 _ s7]) k
    rw [e8, up2_row _ _ (fun z => n67 z.symm), e7, up2_row _ _ (fun z => n57 z.symm), e6, up2_row _ _ (fun z => n47 z.symm), f1 _ s7] at q; exact q
  · show (I12 a 23).toInt = _
    rw [e12, up2_ne _ _ (fun z => absurd z.2 (by decide)), e11, up2_ne _ _ (fun z => absurd z.2 (by decide)), e10, up2_self, g9]
    exact t_add rfl k_1 (by omega)
theorem c_forgetQ : Pp (F_RM_forget N O I J a) (fun q => (q.2 (rf O a 7) 4).toInt = 0 ∧ (q.2 (rf O a 7) 7).toInt = 0 ∧ ∀ b, ¬ b = rf O a 7 → q.2 b = I b) := by
  unfold F_RM_forget F_Si_drop
  refine Ppc2 (Pp_lb (fun v e => Pp_lb (fun I1 e1 => Pp_lb (fun I2 e2 => Pp.ret (Pp.ret ⟨?_, ?_, fun b hb => ?_⟩)))))
  · show (I2 (rf O a 7) 4).toInt = 0
    rw [e2, up2_ne _ _ (fun z => absurd z.2 (by decide)), e1, up2_self]; exact k_0
  · show (I2 (rf O a 7) 7).toInt = 0
    rw [e2, up2_self]; exact k_0
  · show I2 b = I b
    rw [e2, up2_row _ _ hb, e1, up2_row _ _ hb]
theorem r_forgetQ : Pp (F_Mo_forget N O I J a) (fun q => (q.2 a 23).toInt = 0) := by
  unfold F_Mo_forget
  refine Pp_lb (fun I1 e1 => Pp_lb (fun v e => Pp_lb (fun I2 e2 => Pp.ret ?_)))
  show (I2 a 23).toInt = 0
  rw [e2, up2_self]; exact k_0
end SEEN
theorem sLab (l : List Nat) (hl : l ∈ ([6] :: sLs)) : ∃ κ, pLb l = some κ := Option.isSome_iff_exists.mp ((by decide : ∀ l ∈ ([6] :: sLs), (pLb l).isSome = true) l hl)
theorem SE.mk' {I I2 : WI} {O : WO} {x : Nat} (a1 : I2 (rf O x 5) = I (rf O x 5)) (a2 : I2 (rf O x 1) = I (rf O x 1)) (a3 : I2 (rf O (rf O x 1) 10) = I (rf O (rf O x 1) 10)) (a4 : I2 (rf O (rf O x 1) 11) = I (rf O (rf O x 1) 11)) (a5 : I2 (rf O (rf O x 1) 12) = I (rf O (rf O x 1) 12)) (a6 : I2 (rf O (rf O x 1) 13) = I (rf O (rf O x 1) 13)) (a7 : I2 (rf O (rf O x 1) 14) = I (rf O (rf O x 1) 14)) (a8 : I2 (rf O (rf O x 6) 0) = I (rf O (rf O x 6) 0)) (a9 : I2 (rf O (rf O x 6) 1) = I (rf O (rf O x 6) 1)) (a10 : I2 (rf O x 7) = I (rf O x 7)) (a11 : I2 (rf O (rf O x 7) 0) = I (rf O (rf O x 7) 0)) (a12 : I2 (rf O (rf O x 7) 1) = I (rf O (rf O x 7) 1)) (a13 : I2 (rf O (rf O x 7) 2) = I (rf O (rf O x 7) 2)) (a14 : I2 (rf O (rf O x 7) 3) = I (rf O (rf O x 7) 3)) (a15 : I2 (rf O (rf O x 7) 5) = I (rf O (rf O x 7) 5)) : SE I I2 O x := fun l hl => by
  simp only [sLs, List.mem_cons, List.not_mem_nil, or_false] at hl
  rcases hl with rfl | rfl | rfl | rfl | rfl | rfl | rfl | rfl | rfl | rfl | rfl | rfl | rfl | rfl | rfl
  · exact a1
  · exact a2
  · exact a3
  · exact a4
  · exact a5
  · exact a6
  · exact a7
  · exact a8
  · exact a9
  · exact a10
  · exact a11
  · exact a12
  · exact a13
  · exact a14
  · exact a15
