/-! the reference's mill behind the making of the new mill: reading, then the refusal or the tail -/
theorem read_IV {P : List Nat} {K : Nat → Nat} {I I' : WI} {O : WO} {a F : Nat} (hV : IV P K I O) (h0 : a ∈ P ∧ K a = 10) (hFk : F ∈ P ∧ K F = 9) (rf4 : rf O a 4 = F) (h1 : ∀ k, k ∉ [8, 9, 10, 11, 12, 13, 14] → I' a k = I a k) (h2 : ∀ b, b ≠ a → b ≠ F → (∀ j, j < 7 → b ≠ rf O F (11 + j)) → I' b = I b) (hO : OKX O a I') : IV P K I' O := by
  obtain ⟨o1, o2, o3, o4, o5, o6, o7⟩ := hO
  rw [rf4] at o2 o3 o4 o5 o6 o7
  have q0 := rf_ok hV.1 hFk (show sp 9 11 = some 42 from rfl)
  have q1 := rf_ok hV.1 hFk (show sp 9 12 = some 43 from rfl)
  have q2 := rf_ok hV.1 hFk (show sp 9 13 = some 43 from rfl)
  have q3 := rf_ok hV.1 hFk (show sp 9 14 = some 44 from rfl)
  have q4 := rf_ok hV.1 hFk (show sp 9 15 = some 45 from rfl)
  have q5 := rf_ok hV.1 hFk (show sp 9 16 = some 46 from rfl)
  have q6 := rf_ok hV.1 hFk (show sp 9 17 = some 47 from rfl)
  refine ⟨hV.1, fun b hb k => ?_⟩
  by_cases e1 : b = a
  · subst e1
    by_cases c : k ∈ [8, 9, 10, 11, 12, 13, 14]
    · rw [h0.2]
      have c2 : k = 8 ∨ k = 9 ∨ k = 10 ∨ k = 11 ∨ k = 12 ∨ k = 13 ∨ k = 14 := by simpa using c
      rcases c2 with rfl | rfl | rfl | rfl | rfl | rfl | rfl
      · exact o1
      all_goals trivial
    · rw [h1 k c]; exact hV.2 b hb k
  by_cases e2 : b = F
  · rw [e2, hFk.2]
    by_cases k7 : k = 7
    · subst k7; exact o2
    by_cases k8 : k = 8
    · subst k8; exact o3
    by_cases k9 : k = 9
    · subst k9; exact o4
    by_cases k10 : k = 10
    · subst k10; exact o5
    show (bif Nat.beq k 7 then _ else bif Nat.beq k 8 then _ else bif Nat.beq k 9 then _ else bif Nat.beq k 10 then _ else True)
    rw [beq_ne k7, beq_ne k8, beq_ne k9, beq_ne k10]; trivial
  by_cases e3 : ∀ j, j < 7 → b ≠ rf O F (11 + j)
  · rw [h2 b e1 e2 e3]; exact hV.2 b hb k
  · have e4 : b = rf O F 11 ∨ b = rf O F 12 ∨ b = rf O F 13 ∨ b = rf O F 14 ∨ b = rf O F 15 ∨ b = rf O F 16 ∨ b = rf O F 17 := by
      apply Classical.byContradiction
      intro z
      refine e3 (fun j hj e => z ?_)
      have : j = 0 ∨ j = 1 ∨ j = 2 ∨ j = 3 ∨ j = 4 ∨ j = 5 ∨ j = 6 := by omega
      rcases this with rfl | rfl | rfl | rfl | rfl | rfl | rfl
      · exact Or.inl e
      · exact Or.inr (Or.inl e)
      · exact Or.inr (Or.inr (Or.inl e))
      · exact Or.inr (Or.inr (Or.inr (Or.inl e)))
      · exact Or.inr (Or.inr (Or.inr (Or.inr (Or.inl e))))
      · exact Or.inr (Or.inr (Or.inr (Or.inr (Or.inr (Or.inl e)))))
      · exact Or.inr (Or.inr (Or.inr (Or.inr (Or.inr (Or.inr e)))))
    rcases e4 with e | e | e | e | e | e | e
    · rw [e, q0.2]; trivial
    · rw [e, q1.2]; trivial
    · rw [e, q2.2]; trivial
    · rw [e, q3.2]; exact o6 k
    · rw [e, q4.2]; trivial
    · rw [e, q5.2]; trivial
    · rw [e, q6.2]; exact o7 k
set_option maxHeartbeats 4000000 in
theorem x_millB {X : CTX} {P : List Nat} {K : Nat → Nat} {I : WI} {O : WO} {J : WJ} {post : PST} (C : Cx X bMo_mill 3 "RoarMillModel" ({ frames := 11, cells := 8, slots := 76, locals := 237 } : Room)) (E : Rx X (some .int) post ({ frames := 11, cells := 8, slots := 76, locals := 237 } : Room)) (hV : IV P K I O) {a F n : Nat} {x : Int32} {t : Nat → Int} (h0 : a ∈ P ∧ K a = 10) (hF4 : O a 4 = some F) (hFk : F ∈ P ∧ K F = 9) (S0 : SX0 O a) (hx7 : (I a 7).toInt = (n : Int)) (hn : n ≤ 700) (h8 : (I a 8).toInt = 0) (h13 : (I a 13).toInt = 0)
    (hF : ∀ k, I F k = if k = 0 ∨ k = 2 ∨ k = 4 ∨ k = 5 then Int32.ofInt (-1) else 0) (hArr : ∀ j, j < 7 → ∀ k, I (rf O F (11 + j)) k = 0) (ht : ∀ i, i < n → (I (rf O a 5) i).toInt = t i ∧ -128 ≤ t i ∧ t i ≤ 127)
    (hE : ∀ w I' J', spMill t n = .error w → IV P K I' O → (∀ k, k ∉ [1, 2, 8, 9, 10, 11, 12, 13, 14] → I' a k = I a k) → (∀ b, b ≠ a → b ≠ F → (∀ j, j < 7 → b ≠ rf O F (11 + j)) → I' b = I b) → (I' a 13).toInt = w.1 → (I' a 2).toInt = (w.2 : Int) → (I' a 1).toInt = 4 → post (some (.int (Int32.ofInt (-1)))) P K I' O J')
    (hK : ∀ q I1 J1 I', spMill t n = .ok q → IV P K I1 O → (∀ k, k ∉ [8, 9, 10, 11, 12, 13, 14] → I1 a k = I a k) → (∀ b, b ≠ a → b ≠ F → (∀ j, j < 7 → b ≠ rf O F (11 + j)) → I1 b = I b) → (I1 a 13).toInt = 0 → XR O F I1 J1 q.2 → GM I1 F → SV frM2 P K (up2 O a 3 (some F)) I1 J1 I' J1 → (I' a 18).toInt = 0 → (∀ k, k = 6 ∨ k = 13 → I' a k = I1 a k) → (I1 F 8).toInt = q.2.1 7 → (I' a 2).toInt = -1 → (I' (rf O a 33) 0).toInt = 0 → (I' (rf O a 33) 1).toInt = 0 → post (some (.int (I1 F 8))) P K I' (up2 O a 3 (some F)) J1) :
    GG X 3 P K I O J 8 76 54 [(0, .ref a), (1, .int x)] [] := by
  have rf4 : rf O a 4 = F := by unfold rf; rw [hF4]; rfl
  have hN4 : NN P K O a 4 9 := ⟨by rw [rf4]; exact hF4, by rw [rf4]; exact hFk⟩
  refine g_aload_n C dMo_mill_54 rfl ?_
  refine g_iconst (v := Int32.ofInt (0)) C dMo_mill_55 (by decide) ?_
  refine g_puti (x := Int32.ofInt 0) C dMo_mill_56 fl_Mo_94 h0 rfl rfl rfl ?_
  generalize e7 : up2 I a 9 (Int32.ofInt 0) = I7
  have E7 : EX a [9] I I7 := by rw [← e7]; exact EX.up
  have T7 : XT O a I7 t n := ⟨hn, S0.2.1, by rw [E7.at (by decide)]; exact hx7, fun i hi => by rw [E7.ne S0.2.1]; exact ht i hi⟩
  have z9 : ¬ (I7 a 9).toInt = 5 := by rw [← e7, up2_self]; decide
  have z8 : (I7 a 8).toInt = ((0 : Nat) : Int) := by rw [E7.at (by decide)]; exact h8
  obtain ⟨⟨I8, J8⟩, eN, E8, Y8, R8⟩ := r_next (N := 2147483648) (J := J) (Q := fun w => EX a [8, 9, 10, 11, 12] I7 w.1 ∧ EY a [15] J w.2 ∧ RX O a w.1 w.2 t n (rB t n 0)) (by decide) T7 z9 z8 (Nat.zero_le n) (fun I' J' e y r => ⟨e, y, r⟩)
  have E8 : EX a [8, 9, 10, 11, 12] I7 I8 := E8
  have R8 : RX O a I8 J8 t n (rB t n 0) := R8
  refine g_aload_n C dMo_mill_59 rfl ?_
  refine x_callVv (av := fun ad => []) C dMo_mill_60 mfMo_next mvMo_next ln_Mo_146 h0 (by decide) rfl (f_Mo_next hV.1 h0 eN) rfl rfl (Nat.le_of_ble_eq_true rfl) ⟨Nat.le_of_ble_eq_true rfl, Nat.le_of_ble_eq_true rfl⟩ ⟨rfl, rfl⟩ ⟨Nat.le_of_ble_eq_true rfl, Nat.le_of_ble_eq_true rfl⟩ ?_
  have f8 : ∀ k, I8 (rf O a 4) k = if k = 0 ∨ k = 2 ∨ k = 4 ∨ k = 5 then Int32.ofInt (-1) else 0 := fun k => by rw [E8.ne S0.1, E7.ne S0.1, rf4]; exact hF k
  have a8 : ∀ j, j < 7 → ∀ k, I8 (rf O (rf O a 4) (11 + j)) k = 0 := fun j hj k => by rw [E8.ne (S0.2.2.2.1 j hj).1, E7.ne (S0.2.2.2.1 j hj).1, rf4]; exact hArr j hj k
  have s13 : (I8 a 13).toInt = 0 := by rw [E8.at (by decide), E7.at (by decide)]; exact h13
  have sx : SX O a t n I8 J8 I8 J8 (rB t n 0) M0 := by
    refine ⟨R8, s13, ⟨⟨by rw [f8]; decide, by rw [f8]; decide, by rw [f8]; decide, by rw [f8]; decide, by rw [f8]; decide, by rw [f8]; decide, by rw [f8]; decide, by rw [f8]; decide, by rw [f8]; decide, by rw [f8]; decide, by rw [f8]; decide, by decide, by decide, by decide⟩, fun j i hj _ => by rw [a8 j (by omega)]; rfl, fun k q h => absurd h (by simp [M0])⟩, ⟨R8.2.2.2.2.2.1, by rw [f8]; decide, by rw [f8]; decide, by rw [f8]; decide, by rw [f8]; decide, fun k => by rw [a8 3 (by decide)]; decide, fun k => by rw [a8 6 (by decide)]; decide⟩, ⟨fun _ _ => rfl, fun _ _ _ _ => rfl⟩, ⟨fun _ _ => rfl, fun _ _ _ => rfl⟩⟩
  obtain ⟨⟨I9, J9⟩, eR, hSO⟩ := r_read (N := 2147483648) (Q := fun w => SO O a t n I8 J8 (spMill t n) w.1 w.2) S0 (by decide) sx (fun _ _ h => h)
  refine g_aload_n C dMo_mill_63 rfl ?_
  refine x_callVv (av := fun ad => []) C dMo_mill_64 mfMo_readMill mvMo_readMill ln_Mo_287 h0 (by decide) rfl (f_Mo_readMill hV.1 h0 hN4 eR) rfl rfl (Nat.le_of_ble_eq_true rfl) ⟨Nat.le_of_ble_eq_true rfl, Nat.le_of_ble_eq_true rfl⟩ ⟨rfl, rfl⟩ ⟨Nat.le_of_ble_eq_true rfl, Nat.le_of_ble_eq_true rfl⟩ ?_
  have hSO2 : SO O a t n I8 J8 (spMill t n) I9 J9 := hSO
  have fx : FX O a I8 I9 ∧ OKX O a I9 := by
    unfold SO at hSO2
    split at hSO2
    · exact ⟨hSO2.2.2.2.2.1, hSO2.2.2.2.1⟩
    · exact ⟨hSO2.2.2.2.2.1, hSO2.2.2.2.1⟩
  have A9 : ∀ k, k ∉ [8, 9, 10, 11, 12, 13, 14] → I9 a k = I a k := fun k hk => by
    rw [fx.1.1 k hk, E8.at (fun z => hk (by simp at z ⊢; omega)), E7.at (fun z => hk (by simp at z ⊢; omega))]
  have B9 : ∀ b, b ≠ a → b ≠ F → (∀ j, j < 7 → b ≠ rf O F (11 + j)) → I9 b = I b := fun b b1 b2 b3 => by
    rw [fx.1.2 b b1 (by rw [rf4]; exact b2) (by rw [rf4]; exact b3), E8.ne b1, E7.ne b1]
  have V9 : IV P K I9 O := read_IV hV h0 hFk rf4 A9 B9 fx.2
  refine g_aload_n C dMo_mill_67 rfl ?_
  refine g_geti C dMo_mill_68 fl_Mo_128 h0 ?_
  cases hm : spMill t n with
  | error w =>
    have hw := mill_er hm
    rw [hm] at hSO2
    obtain ⟨_, k13, k14, _⟩ := hSO2
    refine gt_if_le 89 C dMo_mill_71 (by decide) rfl (fun c => absurd c (by omega)) (fun c => ?_)
    refine g_aload_n C dMo_mill_74 rfl ?_
    refine g_iconst (v := Int32.ofInt (4)) C dMo_mill_75 (by decide) ?_
    refine g_puti (x := Int32.ofInt 4) C dMo_mill_76 fl_Mo_76 h0 rfl rfl rfl ?_
    generalize e10 : up2 I9 a 1 (Int32.ofInt 4) = I10
    have E10 : EX a [1] I9 I10 := by rw [← e10]; exact EX.up
    have s10 : SV frM2 P K O I9 J9 I10 J9 := by rw [← e10]; exact (SV.rf V9).putI h0.2 rfl trivial
    refine g_aload_n C dMo_mill_79 rfl ?_
    refine g_aload_n C dMo_mill_80 rfl ?_
    refine g_geti C dMo_mill_81 fl_Mo_131 h0 ?_
    refine g_puti (x := I10 a 14) C dMo_mill_84 fl_Mo_9 h0 rfl rfl rfl ?_
    generalize e11 : up2 I10 a 2 (I10 a 14) = I11
    have E11 : EX a [2] I10 I11 := by rw [← e11]; exact EX.up
    have s11 : SV frM2 P K O I9 J9 I11 J9 := by rw [← e11]; exact s10.putI h0.2 rfl trivial
    refine g_iconst (v := Int32.ofInt (-1)) C dMo_mill_87 (by decide) ?_
    refine g_iret C E dMo_mill_88 (Nat.le_of_ble_eq_true rfl) (Nat.le_of_ble_eq_true rfl) (hE w I11 J9 hm s11.1 (fun k hk => ?_) (fun b b1 b2 b3 => ?_) ?_ ?_ ?_)
    · rw [E11.at (fun z => hk (by simp at z ⊢; omega)), E10.at (fun z => hk (by simp at z ⊢; omega))]
      exact A9 k (fun z => hk (by simp at z ⊢; omega))
    · rw [E11.ne b1, E10.ne b1]; exact B9 b b1 b2 b3
    · rw [E11.at (by decide), E10.at (by decide)]; exact k13
    · rw [← e11, up2_self, E10.at (by decide)]; exact k14
    · rw [E11.at (by decide), ← e10, up2_self]; exact ofI (by decide)
  | ok q =>
    have hw := mill_ok hm
    rw [hm] at hSO2
    obtain ⟨_, k13, xr, _⟩ := hSO2
    rw [rf4] at xr
    refine gt_if_le 89 C dMo_mill_71 (by decide) rfl (fun c => ?_) (fun c => absurd c (by omega))
    refine g_aload_n C dMo_mill_89 rfl ?_
    refine g_aload_n C dMo_mill_90 rfl ?_
    refine gt_getS C dMo_mill_91 fl_Mo_172 h0 hF4 ?_
    refine g_putr (x := some F) C dMo_mill_94 fl_Mo_290 h0 rfl rfl rfl ?_
    have hT2 : TR P K (up2 O a 3 (some F)) := by
      intro b hb k κ' hs2
      by_cases e : b = a ∧ k = 3
      · exfalso
        rw [e.1, e.2, h0.2] at hs2
        have hs3 : (none : Option Nat) = some κ' := hs2
        cases hs3
      · rw [up2_ne _ _ e]; exact hV.1 b hb k κ' hs2
    have r3 : rf (up2 O a 3 (some F)) a 3 = F := by unfold rf; rw [up2_self]; rfl
    have hN3 : NN P K (up2 O a 3 (some F)) a 3 9 := ⟨by rw [r3]; exact up2_self _ _ _ _, by rw [r3]; exact hFk⟩
    have ok7 := fx.2.2.1
    rw [rf4] at ok7
    have x0 := xr.1.1
    have x4 := xr.1.2.2.2.2.1
    have x7 := xr.1.2.2.2.2.2.2.2.1
    have x8 := xr.1.2.2.2.2.2.2.2.2.1
    have p0 := xr.1.2.2.2.2.2.2.2.2.2.2.2
    have gm : GM I9 F := by
      refine GM.mk ?_ ?_ ?_
      · rw [x0]; unfold nz; rw [if_neg hw.1]; omega
      · rw [x4]; unfold nz; rw [if_neg hw.2.1]; omega
      · rw [x7]; rw [x7] at ok7; omega
    obtain ⟨⟨r, I10⟩, eD, eq1, s10, k18, k6, k2, kr0, kr1⟩ := w_millD (N := 2147483648) (J := J9) (x := x) (Q := fun w => w.1 = I9 F 8 ∧ SV frM2 P K (up2 O a 3 (some F)) I9 J9 w.2 J9 ∧ (w.2 a 18).toInt = 0 ∧ (∀ k, k = 6 ∨ k = 13 → w.2 a k = I9 a k) ∧ (w.2 a 2).toInt = -1 ∧ (w.2 (rf (up2 O a 3 (some F)) a 33) 0).toInt = 0 ∧ (w.2 (rf (up2 O a 3 (some F)) a 33) 1).toInt = 0) (by decide) ⟨hT2, V9.2⟩ h0 hN3 (fun I' s1 s2 s3 s4 s5 s6 => ⟨by rw [r3], s1, s2, s3, s4, s5, s6⟩)
    have eq2 : r = I9 F 8 := eq1
    subst eq2
    have r33 : rf (up2 O a 3 (some F)) a 33 = rf O a 33 := by unfold rf; rw [up2_ne _ _ (fun z => absurd z.2 (by decide))]
    rw [r33] at kr0 kr1
    exact g_Mo_millD C E (hK q I9 J9 I10 hm V9 A9 B9 k13 xr gm s10 k18 k6 x8 k2 kr0 kr1) hT2 h0 hN3 eD
