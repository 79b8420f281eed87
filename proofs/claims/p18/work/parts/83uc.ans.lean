/-! repairs, and what both tell of the state -/
def mqC (O : WO) (I : WI) (x : Nat) (x1 x2 : Int32) (q : Int32 × WI) : Prop := (q.1.toInt = 1 ∧ (¬ rf O x 3 = x → q.2 (rf O x 3) 4 = x1 ∧ q.2 (rf O x 3) 3 = (if x2.toInt = 0 then I (rf O x 3) 3 else Int32.ofInt 0) ∧ (∀ k, ¬ k = 3 → ¬ k = 4 → q.2 (rf O x 3) k = I (rf O x 3) k)) ∧ (∀ b, ¬ b = x → ¬ b = rf O x 3 → q.2 b = I b)) ∨ (q.1.toInt = 0 ∧ ∀ b, ¬ b = x → q.2 b = I b)
def mqR (O : WO) (I : WI) (a : Nat) (x1 x2 : Int32) (q : Int32 × WI) : Prop := (q.1.toInt = 1 ∧ (¬ rf O a 16 = a → q.2 (rf O a 16) 25 = x1 ∧ q.2 (rf O a 16) 24 = (if x2.toInt = 0 then I (rf O a 16) 24 else Int32.ofInt 0) ∧ ∀ k, ¬ k = 24 → ¬ k = 25 → q.2 (rf O a 16) k = I (rf O a 16) k) ∧ (∀ b, ¬ b = a → ¬ b = rf O a 16 → q.2 b = I b)) ∨ (q.1.toInt = 0 ∧ ∀ b, ¬ b = a → q.2 b = I b)
section ANS
variable {P : List Nat} {K : Nat → Nat} {N : Nat} {O : WO} {I : WI} {J : WJ} {x a : Nat}
theorem c_mendP {x1 x2 : Int32} : Pp (F_RM_mend N O I J x x1 x2) (mqC O I x x1 x2) := by
  have dny : ∀ w : Int32, Pp (bd2 (F_RM_deny N O I J x w) fun z I9 => if z.toInt = 0 ∨ z.toInt = 1 then (some (z, I9)) else none) (mqC O I x x1 x2) := fun w => by
    unfold F_RM_deny
    exact Ppc2 (Pp_lb (fun I1 e1 => Pp.ret (Pp.g (fun _ => Pp.ret (Or.inr ⟨k_0, fun b hb => by (try dsimp only); rw [e1, up2_row _ _ hb]⟩)))))
  unfold F_RM_mend
  refine Ppa1 (fun z1 => Pp.ite (fun _ => Pp_jq (fun k => Pp k _) (dny _) (fun k22 hk => Pp.ite (fun _ => hk) (fun _ => Pp.ite (fun _ => Pp_lb (fun I3 e3 => ?_)) (fun _ => hk)))) (fun _ => dny _))
  unfold F_RM_allow
  refine Pp_jq (fun k => ∀ I4 : WI, (I4 (rf O x 3) 4 = x1 ∧ I4 (rf O x 3) 3 = (if x2.toInt = 0 then I (rf O x 3) 3 else Int32.ofInt 0) ∧ (∀ k, ¬ k = 3 → ¬ k = 4 → I4 (rf O x 3) k = I (rf O x 3) k)) → (∀ b, ¬ b = rf O x 3 → I4 b = I b) → Pp (k I4) (mqC O I x x1 x2)) (fun I4 h1 h2 => ?_) (fun k48 hk => ?_)
  · refine Ppc2 (Pp_lb (fun I5 e5 => Pp.ret (Pp.g (fun _ => Pp.ret (Or.inl ⟨k_1, fun hn => ?_, fun b hb hb3 => by (try dsimp only); rw [e5, up2_row _ _ hb]; exact h2 b hb3⟩)))))
    show I5 (rf O x 3) 4 = x1 ∧ I5 (rf O x 3) 3 = _ ∧ ∀ k, ¬ k = 3 → ¬ k = 4 → I5 (rf O x 3) k = _
    rw [e5, up2_row _ _ hn]; exact h1
  · refine Pp.ite (fun c => hk I3 ⟨by rw [e3, up2_self], ?_, fun k _ k4 => by rw [e3, up2_ne _ _ (fun z => k4 z.2)]⟩ (fun b hb => by rw [e3, up2_row _ _ hb])) (fun c => Pp_lb (fun I5 e5 => hk I5 ⟨?_, ?_, fun k k3 k4 => ?_⟩ (fun b hb => by rw [e5, up2_row _ _ hb, e3, up2_row _ _ hb])))
    · rw [if_pos c, e3, up2_ne _ _ (fun z => absurd z.2 (by decide))]
    · rw [e5, up2_ne _ _ (fun z => absurd z.2 (by decide)), e3, up2_self]
    · rw [if_neg c, e5, up2_self]
    · rw [e5, up2_ne _ _ (fun z => k3 z.2), e3, up2_ne _ _ (fun z => k4 z.2)]
/-- what is told of a state by its number; what is told of tons -/
def stA (σ : Nat → Int) (v : Int) : Int := if 0 ≤ v ∧ v ≤ 16 then σ (20 + v.toNat) else -1
def tnA (s : Int) (σ : Nat → Int) (z v : Int) : Int := if 0 ≤ z ∧ z < s ∧ z < 5 ∧ 0 ≤ v ∧ v ≤ 3 then σ (5 * v.toNat + z.toNat) else -1
theorem c_stateP {x1 : Int32} {σ : Nat → Int} (hD : DRs I O (rf O x 3) σ) (h26 : σ 26 = 0 ∨ σ 26 = 1) (h34 : (I (rf O x 4) 0).toInt = σ 34 ∧ (I (rf O x 4) 1).toInt = σ 35 ∧ (I (rf O x 4) 2).toInt = σ 36) : Pp (F_RM_state N O I J x x1) (fun z => z.toInt = stA σ x1.toInt) := by
  obtain ⟨i0, i20, i21, i22, i23, i24, i25, i26, i27, i28, i29, i30, i31, i32, i33⟩ := hD
  have km : (Int32.ofInt (-1)).toInt = -1 := ofI (by decide)
  have st : ∀ (k : Nat) (c : x1.toInt = (k : Int)), k ≤ 16 → stA σ x1.toInt = σ (20 + k) := fun k c hk => by unfold stA; rw [if_pos (by omega), c]; rfl
  unfold F_RM_state
  refine Pp.ite (fun c => Pp.ret (by rw [st 0 c (by decide)]; exact i20)) (fun c0 => Pp.ite (fun c => Pp.ret (by rw [st 1 c (by decide)]; exact i21)) (fun c1 => Pp.ite (fun c => Pp.ret (by rw [st 2 c (by decide)]; exact i22)) (fun c2 => Pp.ite (fun c => Pp.ret (by rw [st 3 c (by decide)]; exact i23)) (fun c3 => Pp.ite (fun c => Pp.ret (by rw [st 4 c (by decide)]; exact i24)) (fun c4 => Pp.ite (fun c => Pp.ret (by rw [st 5 c (by decide)]; exact i25)) (fun c5 => Pp.ite (fun c => Pp.ite (fun q => Pp.ret (by rw [st 6 c (by decide), k_0]; show (0 : Int) = σ 26; omega)) (fun q => Pp.ret (by rw [st 6 c (by decide), k_1]; show (1 : Int) = σ 26; omega))) (fun c6 => ?_)))))))
  refine Pp.ite (fun c => Pp.ret (by rw [st 7 c (by decide)]; exact i27)) (fun c7 => Pp.ite (fun c => Pp.ret (by rw [st 8 c (by decide)]; exact i28)) (fun c8 => Pp.ite (fun c => Pp.ret (by rw [st 9 c (by decide)]; exact i29)) (fun c9 => Pp.ite (fun c => Pp.ret (by rw [st 10 c (by decide)]; exact i30)) (fun c10 => Pp.ite (fun c => Pp.ret (by rw [st 11 c (by decide)]; exact i31)) (fun c11 => Pp.ite (fun c => Pp.ret (by rw [st 12 c (by decide)]; exact i32)) (fun c12 => Pp.ite (fun c => Pp.ret (by rw [st 13 c (by decide)]; exact i33)) (fun c13 => ?_)))))))
  refine Pp.ite (fun c => Pp.ret (by rw [st 14 c (by decide)]; exact h34.1)) (fun c14 => Pp.ite (fun c => Pp.ret (by rw [st 15 c (by decide)]; exact h34.2.1)) (fun c15 => Pp.ite (fun c => Pp.ret (by rw [st 16 c (by decide)]; exact h34.2.2)) (fun c16 => Pp.ret ?_)))
  rw [km]; unfold stA; rw [if_neg (by omega)]
theorem c_tonsP {x1 x2 : Int32} {σ : Nat → Int} {s : Int} (hD : DRs I O (rf O x 3) σ) (hs : (I (rf O x 1) 7).toInt = s) : Pp (F_RM_tons N O I J x x1 x2) (fun z => z.toInt = tnA s σ x1.toInt x2.toInt) := by
  have i0 := hD.1
  have km : (Int32.ofInt (-1)).toInt = -1 := ofI (by decide)
  unfold F_RM_tons F_RM_isSize
  have no : ∀ (_ : ¬ (0 ≤ x1.toInt ∧ x1.toInt < s ∧ x1.toInt < 5 ∧ 0 ≤ x2.toInt ∧ x2.toInt ≤ 3)), Pp (some (Int32.ofInt (-1))) (fun z : Int32 => z.toInt = tnA s σ x1.toInt x2.toInt) := fun h => Pp.ret (by rw [km]; unfold tnA; rw [if_neg h])
  refine Ppc1 (Pp.ite (fun c => Pp.ret (Pp.ite (fun _ => no (by omega)) (fun q => absurd k_0 q))) (fun c0 => Pp.ite (fun c => Pp.ret (Pp.ite (fun _ => no (by omega)) (fun q => absurd k_0 q))) (fun c1 => Pp.ite (fun c => Pp.ret (Pp.ite (fun _ => no (by omega)) (fun q => absurd k_0 q))) (fun c2 => Pp.ret (Pp.ite (fun q => absurd q (by rw [k_1]; decide)) (fun _ => ?_))))))
  have yes : ∀ (k : Nat), x2.toInt = (k : Int) → k ≤ 3 → tnA s σ x1.toInt x2.toInt = σ (5 * k + x1.toInt.toNat) := fun k hk h3 => by unfold tnA; rw [if_pos (by omega), hk]; rfl
  have i1 := i0 x1.toInt.toNat (by omega)
  refine Pp.ite (fun c => Pp.g (fun _ => Pp.ret (by rw [yes 0 c (by decide), Nat.mul_zero, Nat.zero_add]; exact i1.1))) (fun d0 => Pp.ite (fun c => Pp.g (fun _ => Pp.ret (by rw [yes 1 c (by decide)]; exact i1.2.1))) (fun d1 => Pp.ite (fun c => Pp.g (fun _ => Pp.ret (by rw [yes 2 c (by decide)]; exact i1.2.2.1))) (fun d2 => Pp.ite (fun c => Pp.g (fun _ => Pp.ret (by rw [yes 3 c (by decide)]; exact i1.2.2.2))) (fun d3 => no (by omega)))))
theorem r_stateP {x1 : Int32} {σ : Nat → Int} (n16 : ¬ rf O a 16 = a) (hA : RA1 I (rf O a 16) σ) : Pp (F_Mo_state N O I J a x1) (fun q => q.1.toInt = stA σ x1.toInt) := by
  have km : (Int32.ofInt (-1)).toInt = -1 := ofI (by decide)
  unfold F_Mo_state
  refine Pp_lb (fun I1 e1 => ?_)
  have A1 : RA1 I1 (rf O a 16) σ := fun k hk => by rw [e1, up2_row _ _ n16]; exact hA k hk
  have k16 : (Int32.ofInt 16).toInt = 16 := ofI (by decide)
  rw [r_in]
  refine Ppc1 (Pp.ret (Pp.ite (fun c => Pp.ret ?_) (fun c => Pp.g (fun g => Pp.ret ?_))))
  · have c2 := bI_d0.mp c
    rw [k_0, k16] at c2
    show (Int32.ofInt (-1)).toInt = _
    rw [km]; unfold stA; rw [if_neg c2]
  · have c2 : ¬ ¬ ((Int32.ofInt 0).toInt ≤ x1.toInt ∧ x1.toInt ≤ (Int32.ofInt 16).toInt) := fun h => c (bI_d0.mpr h)
    rw [k_0, k16] at c2
    have c3 := Classical.not_not.mp c2
    show (I1 (rf O a 16) (Int32.ofInt 20 + x1).toInt.toNat).toInt = _
    have e := t_add (ofI (n := 20) (by decide)) (rfl : x1.toInt = x1.toInt) (by omega)
    rw [e, show (20 + x1.toInt).toNat = 20 + x1.toInt.toNat by omega, A1 _ (by omega)]
    unfold stA; rw [if_pos c3]
theorem r_tonsP {x1 x2 : Int32} {σ : Nat → Int} {s : Int} (n16 : ¬ rf O a 16 = a) (hA : RA1 I (rf O a 16) σ) (s5' : s ≤ 5) (h0 : O a 3 = none → s = 0) (h1 : ¬ O a 3 = none → (I (rf O a 3) 8).toInt = s ∧ ¬ rf O a 3 = a) : Pp (F_Mo_tons N O I J a x1 x2) (fun q => q.1.toInt = tnA s σ x1.toInt x2.toInt) := by
  have km : (Int32.ofInt (-1)).toInt = -1 := ofI (by decide)
  have k3 : (Int32.ofInt 3).toInt = 3 := ofI (by decide)
  unfold F_Mo_tons F_Mo_isSize
  refine Pp_lb (fun I1 e1 => ?_)
  have A1 : RA1 I1 (rf O a 16) σ := fun k hk => by rw [e1, up2_row _ _ n16]; exact hA k hk
  have no : ∀ (_ : ¬ (0 ≤ x1.toInt ∧ x1.toInt < s ∧ x1.toInt < 5 ∧ 0 ≤ x2.toInt ∧ x2.toInt ≤ 3)), Pp (some ((Int32.ofInt (-1)), I1)) (fun q : Int32 × WI => q.1.toInt = tnA s σ x1.toInt x2.toInt) := fun h => Pp.ret (by show (Int32.ofInt (-1)).toInt = _; rw [km]; unfold tnA; rw [if_neg h])
  refine Ppc1 (Pp.ite (fun c => Pp.ret (Pp.ite (fun _ => no (by have := h0 c; omega)) (fun q => absurd k_0 q))) (fun cn => Pp.ite (fun c => Pp.ret (Pp.ite (fun _ => no (by omega)) (fun q => absurd k_0 q))) (fun c0 => Pp.ite (fun c => Pp.ret (Pp.ite (fun _ => no ?_) (fun q => absurd k_0 q))) (fun c1 => Pp.ret (Pp.ite (fun q => absurd q (by rw [k_1]; decide)) (fun _ => ?_))))))
  · have q := h1 cn
    rw [e1, up2_row _ _ q.2, q.1] at c
    omega
  · have q := h1 cn
    rw [e1, up2_row _ _ q.2, q.1] at c1
    rw [r_in]
    refine Ppc1 (Pp.ret (Pp.ite (fun c => no ?_) (fun c => ?_)))
    · have c2 := bI_d0.mp c
      rw [k_0, k3] at c2
      omega
    · have c2 : ¬ ¬ ((Int32.ofInt 0).toInt ≤ x2.toInt ∧ x2.toInt ≤ (Int32.ofInt 3).toInt) := fun h => c (bI_d0.mpr h)
      rw [k_0, k3] at c2
      have c3 := Classical.not_not.mp c2
      have yes : ∀ (k : Nat), x2.toInt = (k : Int) → k ≤ 3 → tnA s σ x1.toInt x2.toInt = σ (5 * k + x1.toInt.toNat) := fun k hk h3 => by unfold tnA; rw [if_pos (by omega), hk]; rfl
      have val : ∀ (b : Int) (k : Nat), b = 5 * (k : Int) → k ≤ 3 → (I1 (rf O a 16) (Int32.ofInt b + x1).toInt.toNat).toInt = σ (5 * k + x1.toInt.toNat) := fun b k hb hk => by
        have e := t_add (ofI (n := b) (by omega)) (rfl : x1.toInt = x1.toInt) (by omega)
        rw [e, show (b + x1.toInt).toNat = 5 * k + x1.toInt.toNat by omega, A1 _ (by omega)]
      refine Pp.ite (fun d => Pp.g (fun _ => Pp.ret ?_)) (fun d0 => Pp.ite (fun d => Pp.g (fun _ => Pp.ret ?_)) (fun d1 => Pp.ite (fun d => Pp.g (fun _ => Pp.ret ?_)) (fun d2 => Pp.g (fun _ => Pp.ret ?_))))
      · rw [yes 0 d (by decide)]; exact val 0 0 rfl (by decide)
      · rw [yes 1 d (by decide)]; exact val 5 1 rfl (by decide)
      · rw [yes 2 d (by decide)]; exact val 10 2 rfl (by decide)
      · rw [yes 3 (by omega) (by decide)]; exact val 15 3 rfl (by decide)
theorem r_setP {x1 x2 x3 : Int32} : Pp (F_Mo_set N O I J a x1 x2 x3) (fun q => (q.1.toInt = 1 ∧ (¬ rf O a 16 = a → q.2 (rf O a 16) 34 = x1 ∧ q.2 (rf O a 16) 35 = x2 ∧ q.2 (rf O a 16) 36 = x3 ∧ ∀ k, k < 34 → q.2 (rf O a 16) k = I (rf O a 16) k) ∧ (∀ b, ¬ b = a → ¬ b = rf O a 16 → q.2 b = I b)) ∨ (q.1.toInt = 0 ∧ ∀ b, ¬ b = a → q.2 b = I b)) := by
  unfold F_Mo_set
  refine Pp_lb (fun I1 e1 => ?_)
  have f1 : ∀ b, ¬ b = a → I1 b = I b := fun b hb => by rw [e1, up2_row _ _ hb]
  have dny : ∀ w : Int32, Pp (bd2 (F_Mo_denied N O I1 J a w) fun z I9 => if z.toInt = 0 ∨ z.toInt = 1 then (some (z, I9)) else none) (fun q => (q.1.toInt = 1 ∧ (¬ rf O a 16 = a → q.2 (rf O a 16) 34 = x1 ∧ q.2 (rf O a 16) 35 = x2 ∧ q.2 (rf O a 16) 36 = x3 ∧ ∀ k, k < 34 → q.2 (rf O a 16) k = I (rf O a 16) k) ∧ (∀ b, ¬ b = a → ¬ b = rf O a 16 → q.2 b = I b)) ∨ (q.1.toInt = 0 ∧ ∀ b, ¬ b = a → q.2 b = I b)) := fun w => by
    unfold F_Mo_denied
    exact Ppc2 (Pp_lb (fun I2 e2 => Pp_lb (fun I3 e3 => Pp.ret (Pp.g (fun _ => Pp.ret (Or.inr ⟨k_0, fun b hb => by (try dsimp only); rw [e3, up2_row _ _ hb, e2, up2_row _ _ hb]; exact f1 b hb⟩))))))
  refine Ppa1 (fun z2 => Pp.ite (fun _ => dny _) (fun _ => Ppa1 (fun z15 => Pp_jq (fun k => Pp k _) (dny _) (fun k28 hk => Pp.ite (fun _ => hk) (fun _ => Ppa1 (fun z22 => Pp.ite (fun _ => hk) (fun _ => Pp_lb (fun I5 e5 => Pp_lb (fun I6 e6 => Pp_lb (fun I7 e7 => ?_))))))))))
  unfold F_Mo_granted
  refine Ppc2 (Pp_lb (fun I8 e8 => Pp_lb (fun I9 e9 => Pp.ret (Pp.g (fun _ => Pp.ret (Or.inl ⟨k_1, fun hn => ⟨?_, ?_, ?_, fun k hk => ?_⟩, fun b hb hb4 => ?_⟩))))))
  · try dsimp only
    rw [e9, up2_row _ _ hn, e8, up2_row _ _ hn, e7, up2_ne _ _ (fun z => absurd z.2 (by decide)), e6, up2_ne _ _ (fun z => absurd z.2 (by decide)), e5, up2_self]
  · try dsimp only
    rw [e9, up2_row _ _ hn, e8, up2_row _ _ hn, e7, up2_ne _ _ (fun z => absurd z.2 (by decide)), e6, up2_self]
  · try dsimp only
    rw [e9, up2_row _ _ hn, e8, up2_row _ _ hn, e7, up2_self]
  · try dsimp only
    rw [e9, up2_row _ _ hn, e8, up2_row _ _ hn, e7, up2_ne _ _ (fun z => absurd z.2 (by omega)), e6, up2_ne _ _ (fun z => absurd z.2 (by omega)), e5, up2_ne _ _ (fun z => absurd z.2 (by omega)), f1 _ hn]
  · try dsimp only
    rw [e9, up2_row _ _ hb, e8, up2_row _ _ hb, e7, up2_row _ _ hb4, e6, up2_row _ _ hb4, e5, up2_row _ _ hb4]; exact f1 b hb
theorem r_mendP {x1 x2 : Int32} : Pp (F_Mo_mend N O I J a x1 x2) (mqR O I a x1 x2) := by
  unfold F_Mo_mend
  refine Pp_lb (fun I1 e1 => ?_)
  have f1 : ∀ b, ¬ b = a → I1 b = I b := fun b hb => by rw [e1, up2_row _ _ hb]
  have dny : ∀ w : Int32, Pp (bd2 (F_Mo_denied N O I1 J a w) fun z I9 => if z.toInt = 0 ∨ z.toInt = 1 then (some (z, I9)) else none) (mqR O I a x1 x2) := fun w => by
    unfold F_Mo_denied
    exact Ppc2 (Pp_lb (fun I2 e2 => Pp_lb (fun I3 e3 => Pp.ret (Pp.g (fun _ => Pp.ret (Or.inr ⟨k_0, fun b hb => by (try dsimp only); rw [e3, up2_row _ _ hb, e2, up2_row _ _ hb]; exact f1 b hb⟩))))))
  refine Pp.ite (fun _ => dny _) (fun _ => Ppa1 (fun z21 => Pp.ite (fun _ => dny _) (fun _ => Pp_lb (fun I4 e4 => ?_))))
  unfold F_Mo_granted
  refine Pp_jq (fun k => ∀ I5 : WI, (¬ rf O a 16 = a → I5 (rf O a 16) 25 = x1 ∧ I5 (rf O a 16) 24 = (if x2.toInt = 0 then I (rf O a 16) 24 else Int32.ofInt 0) ∧ ∀ k, ¬ k = 24 → ¬ k = 25 → I5 (rf O a 16) k = I (rf O a 16) k) → (∀ b, ¬ b = a → ¬ b = rf O a 16 → I5 b = I b) → Pp (k I5) (mqR O I a x1 x2)) (fun I5 h1 h2 => ?_) (fun k53 hk => ?_)
  · refine Ppc2 (Pp_lb (fun I8 e8 => Pp_lb (fun I9 e9 => Pp.ret (Pp.g (fun _ => Pp.ret (Or.inl ⟨k_1, fun hn => ?_, fun b hb hb3 => by (try dsimp only); rw [e9, up2_row _ _ hb, e8, up2_row _ _ hb]; exact h2 b hb hb3⟩))))))
    show I9 (rf O a 16) 25 = x1 ∧ I9 (rf O a 16) 24 = _ ∧ ∀ k, ¬ k = 24 → ¬ k = 25 → I9 (rf O a 16) k = _
    rw [e9, up2_row _ _ hn, e8, up2_row _ _ hn]; exact h1 hn
  · refine Pp.ite (fun c => hk I4 (fun hn => ⟨by rw [e4, up2_self], ?_, fun k _ k25 => by rw [e4, up2_ne _ _ (fun z => k25 z.2), f1 _ hn]⟩) (fun b hb hb3 => by rw [e4, up2_row _ _ hb3]; exact f1 b hb)) (fun c => Pp_lb (fun I5 e5 => hk I5 (fun hn => ⟨?_, ?_, fun k k24 k25 => ?_⟩) (fun b hb hb3 => by rw [e5, up2_row _ _ hb3, e4, up2_row _ _ hb3]; exact f1 b hb)))
    · rw [if_pos c, e4, up2_ne _ _ (fun z => absurd z.2 (by decide)), f1 _ hn]
    · rw [e5, up2_ne _ _ (fun z => absurd z.2 (by decide)), e4, up2_self]
    · rw [if_neg c, e5, up2_self]
    · rw [e5, up2_ne _ _ (fun z => k24 z.2), e4, up2_ne _ _ (fun z => k25 z.2), f1 _ hn]
end ANS
