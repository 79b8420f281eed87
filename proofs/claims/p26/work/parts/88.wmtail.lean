/-! what the tail of the reference's mill leaves -/
theorem w_mill136 {P : List Nat} {K : Nat → Nat} {N : Nat} {O : WO} {I : WI} {J : WJ} (hT : TR P K O) {a : Nat} (h0 : a ∈ P ∧ K a = 10) (hN3 : NN P K O a 3 9) {Q : Int32 × WI → Prop}
    (hQ : ∀ I', SV frM2 P K O I J I' J → (I' a 18).toInt = 0 → (∀ k, k = 6 ∨ k = 13 → I' a k = I a k) → (I' a 2).toInt = -1 → (I' (rf O a 33) 0).toInt = 0 → (I' (rf O a 33) 1).toInt = 0 → Q (I (rf O a 3) 8, I')) :
    ∀ (m : Nat) (x : Int32) (I1 : WI), 0 ≤ x.toInt ∧ x.toInt ≤ 12 → Int.toNat (12 - x.toInt) < m → SV frM2 P K O I J I1 J → (∀ k, k = 6 ∨ k = 13 → I1 a k = I a k) → Wp (lp (B_Mo_mill_136 N O a J) (fun _ _ => none) m x I1) Q := by
  have t20 := rf_ok hT h0 (show sp 10 20 = some 33 from rfl)
  have t21 := rf_ok hT h0 (show sp 10 21 = some 33 from rfl)
  have t22 := rf_ok hT h0 (show sp 10 22 = some 34 from rfl)
  have t33 := rf_ok hT h0 (show sp 10 33 = some 39 from rfl)
  have ne : ∀ b κ, b ∈ P ∧ K b = κ → κ ≠ 10 → ¬ a = b := fun b κ h1 h2 z => h2 (by rw [← h1.2, ← z]; exact h0.2)
  intro m
  induction m with
  | zero => intro x I1 _ h; exact absurd h (Nat.not_lt_zero _)
  | succ m ih =>
    intro x I1 hx hm hS h6
    show Wp (B_Mo_mill_136 N O a J (lp _ _ m) x I1) Q
    unfold B_Mo_mill_136
    refine Wp.ite (fun c => ?_) (fun c => ?_)
    · refine Wp_lb (fun I3 e3 => Wp_lb (fun I4 e4 => Wp_lb (fun I5 e5 => Wp_lb (fun I6 e6 => Wp_lb (fun I7 e7 => ?_)))))
      have s3 : SV frM2 P K O I J I3 J := by rw [e3]; exact hS.putI h0.2 rfl (by show 0 ≤ Int32.toInt _ ∧ Int32.toInt _ ≤ 24; rw [ofI (by decide)]; omega)
      have s4 : SV frM2 P K O I J I4 J := by rw [e4]; exact s3.putI t33.2 rfl (by show 0 ≤ Int32.toInt _ ∧ Int32.toInt _ ≤ 8; rw [ofI (by decide)]; omega)
      have s5 : SV frM2 P K O I J I5 J := by rw [e5]; exact s4.putI t33.2 rfl (by show 0 ≤ Int32.toInt _ ∧ Int32.toInt _ ≤ 8; rw [ofI (by decide)]; omega)
      have s6 : SV frM2 P K O I J I6 J := by rw [e6]; exact s5.putI h0.2 rfl (by show 0 ≤ Int32.toInt _ ∧ Int32.toInt _ ≤ 5; rw [ofI (by decide)]; omega)
      have s7 : SV frM2 P K O I J I7 J := by rw [e7]; exact s6.putI h0.2 rfl (by show 0 ≤ Int32.toInt _ ∧ Int32.toInt _ ≤ 240; rw [ofI (by decide)]; omega)
      have k6 : ∀ k, k = 6 ∨ k = 13 → I7 a k = I a k := fun k hk => by
        rw [e7, up2_ne _ _ (fun z => absurd z.2 (by omega)), e6, up2_ne _ _ (fun z => absurd z.2 (by omega)), e5, up2_row _ _ (ne _ _ t33 (by decide)), e4, up2_row _ _ (ne _ _ t33 (by decide)), e3, up2_ne _ _ (fun z => absurd z.2 (by omega))]; exact h6 k hk
      have n33 : ¬ rf O a 33 = a := fun z => ne _ _ t33 (by decide) z.symm
      have w0 : (I7 (rf O a 33) 0).toInt = 0 := by rw [e7, up2_row _ _ n33, e6, up2_row _ _ n33, e5, up2_ne _ _ (fun z => absurd z.2 (by decide)), e4, up2_self]; exact ofI (by decide)
      have w1 : (I7 (rf O a 33) 1).toInt = 0 := by rw [e7, up2_row _ _ n33, e6, up2_row _ _ n33, e5, up2_self]; exact ofI (by decide)
      have k18 : (I7 a 18).toInt = 0 := by rw [e7, up2_self]; exact ofI (by decide)
      have k8 : I7 (rf O a 3) 8 = I (rf O a 3) 8 := (s7.2 _ (by rw [hN3.2.2]; rfl)).1 8
      unfold F_Mo_done
      refine Wp.bd2 (Wp_lb (fun I8 e8 => Wp_lb (fun I9 e9 => Wp.ret (Wp.ret ?_))))
      have s8 : SV frM2 P K O I J I8 J := by rw [e8]; exact s7.putI h0.2 rfl trivial
      have s9 : SV frM2 P K O I J I9 J := by rw [e9]; exact s8.putI h0.2 rfl trivial
      show Q (I7 (rf O a 3) 8, I9)
      rw [k8]
      refine hQ I9 s9 ?_ (fun k hk => ?_) ?_ ?_ ?_
      · rw [e9, up2_ne _ _ (fun z => absurd z.2 (by decide)), e8, up2_ne _ _ (fun z => absurd z.2 (by decide))]; exact k18
      · rw [e9, up2_ne _ _ (fun z => absurd z.2 (by omega)), e8, up2_ne _ _ (fun z => absurd z.2 (by omega))]; exact k6 k hk
      · rw [e9, up2_self]; exact ofI (by decide)
      · rw [e9, up2_row _ _ n33, e8, up2_row _ _ n33]; exact w0
      · rw [e9, up2_row _ _ n33, e8, up2_row _ _ n33]; exact w1
    · refine Wp.pos (by omega) (Wp_lb (fun I9 e9 => Wp.pos (by omega) (Wp_lb (fun I10 e10 => Wp.pos (by omega) (Wp_lb (fun I11 e11 => Wp_lb (fun v ev => ?_)))))))
      have s9 : SV frM2 P K O I J I9 J := by rw [e9]; exact hS.putI t20.2 rfl trivial
      have s10 : SV frM2 P K O I J I10 J := by rw [e10]; exact s9.putI t21.2 rfl trivial
      have s11 : SV frM2 P K O I J I11 J := by rw [e11]; exact s10.putI t22.2 rfl (by show 0 ≤ Int32.toInt _ ∧ Int32.toInt _ ≤ 3; rw [ofI (by decide)]; omega)
      have hv : v.toInt = x.toInt + 1 := by rw [ev]; exact t_add rfl (ofI (by decide)) (by omega)
      clear ev
      refine ih v I11 (by omega) (by omega) s11 (fun k hk => ?_)
      rw [e11, up2_row _ _ (ne _ _ t22 (by decide)), e10, up2_row _ _ (ne _ _ t21 (by decide)), e9, up2_row _ _ (ne _ _ t20 (by decide))]; exact h6 k hk
theorem w_millD {P : List Nat} {K : Nat → Nat} {N : Nat} {O : WO} {I : WI} {J : WJ} (hN : 2147483648 ≤ N) (hV : IV P K I O) {a : Nat} (h0 : a ∈ P ∧ K a = 10) (hN3 : NN P K O a 3 9) {x : Int32} {Q : Int32 × WI → Prop}
    (hQ : ∀ I', SV frM2 P K O I J I' J → (I' a 18).toInt = 0 → (∀ k, k = 6 ∨ k = 13 → I' a k = I a k) → (I' a 2).toInt = -1 → (I' (rf O a 33) 0).toInt = 0 → (I' (rf O a 33) 1).toInt = 0 → Q (I (rf O a 3) 8, I')) : Wp (F_Mo_millD N O I J a x) Q := by
  have t16 := rf_ok hV.1 h0 (show sp 10 16 = some 31 from rfl)
  have ne : ∀ b κ, b ∈ P ∧ K b = κ → κ ≠ 10 → ¬ a = b := fun b κ h1 h2 z => h2 (by rw [← h1.2, ← z]; exact h0.2)
  have main : ∀ (m : Nat) (x : Int32) (I1 : WI), 0 ≤ x.toInt ∧ x.toInt ≤ 37 → Int.toNat (37 - x.toInt) < m → SV frM2 P K O I J I1 J → (∀ k, k = 6 ∨ k = 13 → I1 a k = I a k) → Wp (lp (B_Mo_mill_99 N O a J) (fun _ _ => none) m x I1) Q := by
    intro m
    induction m with
    | zero => intro x I1 _ h; exact absurd h (Nat.not_lt_zero _)
    | succ m ih =>
      intro x I1 hx hm hS h6
      show Wp (B_Mo_mill_99 N O a J (lp _ _ m) x I1) Q
      unfold B_Mo_mill_99
      refine Wp.ite (fun c => ?_) (fun c => ?_)
      · refine Wp_lb (fun I3 e3 => Wp_lb (fun I4 e4 => ?_))
        have s3 : SV frM2 P K O I J I3 J := by rw [e3]; exact hS.putI t16.2 rfl trivial
        have s4 : SV frM2 P K O I J I4 J := by rw [e4]; exact s3.putI t16.2 rfl trivial
        have hz : (Int32.ofInt 0).toInt = 0 := ofI (by decide)
        refine w_mill136 hV.1 h0 hN3 hQ N (Int32.ofInt 0) I4 (by omega) (by omega) s4 (fun k hk => ?_)
        rw [e4, up2_row _ _ (ne _ _ t16 (by decide)), e3, up2_row _ _ (ne _ _ t16 (by decide))]; exact h6 k hk
      · refine Wp.pos (by omega) (Wp_lb (fun I9 e9 => Wp_lb (fun v ev => ?_)))
        have s9 : SV frM2 P K O I J I9 J := by rw [e9]; exact hS.putI t16.2 rfl (okS_0 (by decide))
        have hv : v.toInt = x.toInt + 1 := by rw [ev]; exact t_add rfl (ofI (by decide)) (by omega)
        clear ev
        refine ih v I9 (by omega) (by omega) s9 (fun k hk => ?_)
        rw [e9, up2_row _ _ (ne _ _ t16 (by decide))]; exact h6 k hk
  have hz : (Int32.ofInt 0).toInt = 0 := ofI (by decide)
  exact main N (Int32.ofInt 0) I (by omega) (by omega) (SV.rf hV) (fun _ _ => rfl)
