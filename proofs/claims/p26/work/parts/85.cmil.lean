/-! what the class's mill answers -/
def mres (e : ER) : Int := match e with
  | .ok q => q.2.1 7
  | .error _ => -1
theorem fr_CK0 : ∀ κ, frC κ = true → frK κ = true := fun κ h => by unfold frK frN; rw [h]; rfl
theorem fr_K3 : frK 3 = true := rfl
theorem read_SV {P : List Nat} {K : Nat → Nat} {O : WO} {I0 I I' : WI} {J0 J J' : WJ} {a m : Nat} (hV : SV frC P K O I0 J0 I J) (ha : a ∈ P ∧ K a = 5) (hm : m ∈ P ∧ K m = 3) (h1 : FC O a m I I') (h2 : FJ O a J J') (h3 : 0 ≤ (I' m 7).toInt ∧ (I' m 7).toInt ≤ 5) (h4 : 0 ≤ (I' m 8).toInt ∧ (I' m 8).toInt ≤ 4) : SV frC P K O I0 J0 I' J' := by
  have q0 := rf_ok hV.1.1 hm (show sp 3 10 = some 13 from rfl)
  have q1 := rf_ok hV.1.1 hm (show sp 3 11 = some 11 from rfl)
  have q2 := rf_ok hV.1.1 hm (show sp 3 12 = some 11 from rfl)
  have q3 := rf_ok hV.1.1 hm (show sp 3 13 = some 12 from rfl)
  have q4 := rf_ok hV.1.1 hm (show sp 3 14 = some 14 from rfl)
  have q8 := rf_ok hV.1.1 ha (show sp 5 8 = some 16 from rfl)
  have q9 := rf_ok hV.1.1 ha (show sp 5 9 = some 17 from rfl)
  refine hV.call (fun _ h => h) ⟨hV.1.1, fun b hb k => ?_⟩ (fun b hb => ⟨fun k => ?_, fun k => ?_⟩)
  · by_cases e1 : b = a
    · rw [e1, ha.2]; trivial
    by_cases e2 : b = m
    · rw [e2, hm.2]
      by_cases k7 : k = 7
      · subst k7; exact h3
      by_cases k8 : k = 8
      · subst k8; exact h4
      show (bif Nat.beq k 7 then _ else bif Nat.beq k 8 then _ else True)
      rw [beq_ne k7, beq_ne k8]; trivial
    by_cases e3 : ∀ j, j < 5 → b ≠ rf O m (10 + j)
    · rw [h1.2 b e1 e2 e3]; exact hV.1.2 b hb k
    · have e4 : b = rf O m 10 ∨ b = rf O m 11 ∨ b = rf O m 12 ∨ b = rf O m 13 ∨ b = rf O m 14 := by
        apply Classical.byContradiction
        intro z
        refine e3 (fun j hj e => z ?_)
        have : j = 0 ∨ j = 1 ∨ j = 2 ∨ j = 3 ∨ j = 4 := by omega
        rcases this with rfl | rfl | rfl | rfl | rfl
        · exact Or.inl e
        · exact Or.inr (Or.inl e)
        · exact Or.inr (Or.inr (Or.inl e))
        · exact Or.inr (Or.inr (Or.inr (Or.inl e)))
        · exact Or.inr (Or.inr (Or.inr (Or.inr e)))
      rcases e4 with e | e | e | e | e
      · rw [e, q0.2]; trivial
      · rw [e, q1.2]; trivial
      · rw [e, q2.2]; trivial
      · rw [e, q3.2]; trivial
      · rw [e, q4.2]; trivial
  · have nn : ∀ c κ, K c = κ → frC κ = false → b ≠ c := fun c κ e1 e2 z => by rw [z, e1, e2] at hb; cases hb
    rw [h1.2 b (nn _ _ ha.2 rfl) (nn _ _ hm.2 rfl) (fun j hj => ?_)]
    have : j = 0 ∨ j = 1 ∨ j = 2 ∨ j = 3 ∨ j = 4 := by omega
    rcases this with rfl | rfl | rfl | rfl | rfl
    · exact nn _ _ q0.2 rfl
    · exact nn _ _ q1.2 rfl
    · exact nn _ _ q2.2 rfl
    · exact nn _ _ q3.2 rfl
    · exact nn _ _ q4.2 rfl
  · have nn : ∀ c κ, K c = κ → frC κ = false → b ≠ c := fun c κ e1 e2 z => by rw [z, e1, e2] at hb; cases hb
    rw [h2 b (nn _ _ q8.2 rfl) (nn _ _ q9.2 rfl)]
/-- what the class's mill leaves of a text that was read -/
def MC (O : WO) (a : Nat) (I : WI) (t : Nat → Int) (n : Nat) (I' : WI) (O' : WO) : Prop := (∀ w, spMill t n = .error w → O' = O ∧ (I' a 14).toInt = 4 ∧ (I' a 15).toInt = w.1 ∧ (I' a 16).toInt = (w.2 : Int) ∧ ∀ b, b ≠ a → b ≠ rf O a 0 → b ≠ rf O a 2 → (∀ j, j < 5 → b ≠ rf O (rf O a 2) (10 + j)) → I' b = I b) ∧ (∀ q, spMill t n = .ok q → O' = sw12 O a ∧ (I' a 14).toInt = 0 ∧ (I' a 15).toInt = 0 ∧ (∀ k, k < 10 → (I' (rf O a 2) k).toInt = q.2.1 k) ∧ (I' (rf O a 9) 3).toInt = 0 ∧ (I' (rf O a 9) 4).toInt = 0)
theorem c_mill {P : List Nat} {K : Nat → Nat} {N : Nat} {O : WO} {I : WI} {J : WJ} (hN : 2147483648 ≤ N) (hV : IV P K I O) {a n : Nat} (h0 : a ∈ P ∧ K a = 8) (S : Sep O (rf O a 0) (rf O a 2)) {x : Int32} {t : Nat → Int} (hl : (I (rf O a 0) 1).toInt = (n : Int)) (hn : n ≤ 700) (ht : ∀ i, i < n → (I (rf O (rf O a 0) 0) i).toInt = t i) {Q : Int32 × WI × WJ × WO → Prop}
    (hQ : ∀ r I' J' O', IV P K I' O' → FR frC K I J I' J' → (O' = O ∨ O' = sw12 O a) → (((x.toInt < 0 ∨ (n : Int) < x.toInt) ∧ r.toInt = -1 ∧ (∀ b, b ≠ a → I' b = I b) ∧ O' = O ∧ (I' a 14).toInt = 2 ∧ I' a 15 = I a 15) ∨ (0 ≤ x.toInt ∧ x.toInt ≤ (n : Int) ∧ (I' (rf O a 0) 1).toInt = 0 ∧ r.toInt = mres (spMill t x.toInt.toNat) ∧ MC O a I t x.toInt.toNat I' O')) → Q (r, I', J', O')) : Wp (F_RM_mill N O I J a x) Q := by
  have t0 := rf_ok hV.1 h0 (show sp 8 0 = some 5 from rfl)
  have t2 := rf_ok hV.1 h0 (show sp 8 2 = some 3 from rfl)
  have hV0 : SV frC P K O I J I J := SV.rf hV
  have n0 : rf O a 0 ≠ a := fun z => by have q := t0.2; rw [z, h0.2] at q; cases q
  have n2 : rf O a 2 ≠ a := fun z => by have q := t2.2; rw [z, h0.2] at q; cases q
  have bad : (x.toInt < 0 ∨ (n : Int) < x.toInt) → Wp (bd2 (F_RM_refuse N O I J a (Int32.ofInt (2))) fun r I1 => some (r, I1, J, O)) Q := by
    intro hx
    unfold F_RM_refuse
    have hV1 := hV0.putI (k := 14) (x := Int32.ofInt 2) h0.2 rfl trivial
    exact Wp.bd2 (Wp.lb (Wp.ret (Wp.ret (hQ _ _ _ _ hV1.1 hV1.2 (Or.inl rfl) (Or.inl ⟨hx, ofI (by decide), fun b hb => up2_row _ _ hb, rfl, by show ((up2 I a 14 (Int32.ofInt 2)) a 14).toInt = 2; rw [up2_self]; exact ofI (by decide), up2_ne _ _ (fun z => absurd z.2 (by decide))⟩)))))
  unfold F_RM_mill
  refine Wp.ite (fun c => bad (Or.inl c)) (fun c => Wp.ite (fun c2 => ?_) (fun c2 => bad (Or.inr (by omega))))
  rw [hl] at c2
  refine Wp.bd3 (c_read (n := x.toInt.toNat) (t := t) S (by omega) (by omega) (by omega) (fun i hi => ht i (by omega)) (fun r I1 J1 hC => ?_))
  have hS1 : SV frC P K O I J I1 J1 := by
    unfold CP at hC
    split at hC
    · obtain ⟨_, _, h2, _, h4, h5⟩ := hC
      have e7 := h2.1 7 (by omega)
      have e8 := h2.1 8 (by omega)
      have b := h2.2.2.1
      exact read_SV hV0 t0 t2 h4 h5 (by omega) (by omega)
    · obtain ⟨_, _, _, h4, h5, b⟩ := hC
      exact read_SV hV0 t0 t2 h4 h5 (by omega) (by omega)
  refine Wp_lb (fun I2 eI2 => Wp_lb (fun I3 eI3 => Wp_lb (fun I4 eI4 => ?_)))
  have hS2 : SV frC P K O I J I2 J1 := by rw [eI2]; exact hS1.putI t0.2 rfl trivial
  have hS3 : SV frC P K O I J I3 J1 := by rw [eI3]; exact hS2.putI h0.2 rfl trivial
  have hS4 : SV frC P K O I J I4 J1 := by rw [eI4]; exact hS3.putI h0.2 rfl trivial
  have r1 : (I4 (rf O a 0) 1).toInt = 0 := by rw [eI4, up2_row _ _ n0, eI3, up2_row _ _ n0, eI2, up2_self]; exact ofI (by decide)
  have m7 : ∀ k, I4 (rf O a 2) k = I1 (rf O a 2) k := fun k => by rw [eI4, up2_row _ _ n2, eI3, up2_row _ _ n2, eI2, up2_row _ _ S.1]
  have b15 : I4 a 15 = I1 (rf O a 0) 2 := by rw [eI4, up2_ne _ _ (fun z => absurd z.2 (by decide)), eI3, up2_self, eI2, up2_ne _ _ (fun z => absurd z.2 (by decide))]
  have b16 : I4 a 16 = I1 (rf O a 0) 3 := by rw [eI4, up2_self, eI3, up2_row _ _ n0, eI2, up2_ne _ _ (fun z => absurd z.2 (by decide))]
  have bB : ∀ b, b ≠ a → b ≠ rf O a 0 → I4 b = I1 b := fun b h1 h2 => by rw [eI4, up2_row _ _ h1, eI3, up2_row _ _ h1, eI2, up2_row _ _ h2]
  unfold CP at hC
  split at hC
  · rename_i q hq
    obtain ⟨er, _, h2, hz2, _⟩ := hC
    refine Wp.neg (show ¬ r.toInt = 0 by rw [er]; decide) ?_
    have hT2 := sw12_TR hV.1 h0
    refine Wp.bd1 (s_RM_beginAnew (P := P) (K := K) hN ⟨hT2, hS4.1.2⟩ h0 (fun I5 hV5 hF5 tr5 => ?_))
    have hS5 : SV frC P K (sw12 O a) I J I5 J1 := SV.call ⟨⟨hT2, hS4.1.2⟩, hS4.2⟩ fr_CK0 hV5 (FQ.fr hF5)
    unfold F_RM_accept
    have hS6 := hS5.putI (k := 14) (x := Int32.ofInt 0) h0.2 rfl trivial
    refine Wp.bd2 (Wp.lb (Wp.ret (Wp.ret (hQ _ _ _ _ hS6.1 hS6.2 (Or.inr rfl) (Or.inr ⟨by omega, c2, ?_, ?_, ?_⟩)))))
    · show ((up2 I5 a 14 (Int32.ofInt 0)) (rf O a 0) 1).toInt = 0
      rw [up2_row _ _ n0, (hF5 _ 1 (by rw [t0.2]; rfl)).1]; exact r1
    · show (I5 (rf (sw12 O a) a 1) 7).toInt = _
      rw [sw12_1, (hF5 _ 7 (by rw [t2.2]; rfl)).1, m7, h2.1 7 (by omega), hq]; rfl
    · show MC O a I t x.toInt.toNat (up2 I5 a 14 (Int32.ofInt 0)) (sw12 O a)
      refine ⟨fun w hw => (by rw [hq] at hw; cases hw), fun q' hq' => ?_⟩
      rw [hq] at hq'; cases hq'
      have t9 := rf_ok hV.1 h0 (show sp 8 9 = some 7 from rfl)
      have n9 : ¬ rf O a 9 = a := fun z => by have q := t9.2; rw [z, h0.2] at q; cases q
      have r9 : rf (sw12 O a) a 9 = rf O a 9 := by unfold rf; rw [sw12_o (by decide) (by decide)]
      rw [r9] at tr5
      refine ⟨rfl, by rw [up2_self]; exact ofI (by decide), ?_, fun k hk => ?_, ?_, ?_⟩
      · rw [up2_ne _ _ (fun z => absurd z.2 (by decide)), (hF5 a 15 (by rw [h0.2]; rfl)).1, b15]; exact hz2
      · rw [up2_row _ _ n2, (hF5 _ k (by rw [t2.2]; rfl)).1, m7]; exact h2.1 k hk
      · rw [up2_row _ _ n9]; exact tr5.1
      · rw [up2_row _ _ n9]; exact tr5.2
  · rename_i w hw
    obtain ⟨er, w2, w3, hfc, _⟩ := hC
    refine Wp.pos (show r.toInt = 0 by rw [er]; decide) ?_
    unfold F_RM_refuse
    have hS5 := hS4.putI (k := 14) (x := Int32.ofInt 4) h0.2 rfl trivial
    refine Wp.bd2 (Wp.lb (Wp.ret (Wp.ret (hQ _ _ _ _ hS5.1 hS5.2 (Or.inl rfl) (Or.inr ⟨by omega, c2, ?_, ?_, ?_⟩)))))
    · show ((up2 I4 a 14 (Int32.ofInt 4)) (rf O a 0) 1).toInt = 0
      rw [up2_row _ _ n0]; exact r1
    · rw [hw]; exact ofI (by decide)
    · show MC O a I t x.toInt.toNat (up2 I4 a 14 (Int32.ofInt 4)) O
      refine ⟨fun w' hw' => ?_, fun q hq => by rw [hw] at hq; cases hq⟩
      rw [hw] at hw'; cases hw'
      refine ⟨rfl, by rw [up2_self]; exact ofI (by decide), ?_, ?_, fun b h1 h2 h3 h4 => ?_⟩
      · rw [up2_ne _ _ (fun z => absurd z.2 (by decide)), b15]; exact w2
      · rw [up2_ne _ _ (fun z => absurd z.2 (by decide)), b16]; exact w3
      · rw [up2_row _ _ h1, bB b h1 h2]; exact hfc.2 b h2 h3 h4
