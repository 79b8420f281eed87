/-! some hours in a row: the state, the hours in which it stood, how many it ran -/
abbrev GT : Type := (Nat → Int) × (Nat → Int) × Nat × Int
def gst (M : MM) (r w o : Int) (t : GT) : GT := if HH M r w o t.1 26 = 0 then (HH M r w o t.1, t.2.1, t.2.2.1, t.2.2.2 + 1) else (HH M r w o t.1, u1 t.2.1 t.2.2.1 (t.1 27), t.2.2.1 + 1, t.2.2.2)
def gIt (M : MM) (r w o : Int) : Nat → GT → GT
  | 0, t => t
  | n + 1, t => gst M r w o (gIt M r w o n t)
/-- what holds of such a state -/
def GI (M : MM) (t : GT) : Prop := SI M t.1 ∧ ((t.2.2.1 : Nat) : Int) ≤ t.1 27 ∧ 0 ≤ t.2.2.2 ∧ t.2.2.2 ≤ 1000
section CGO
variable {N : Nat} {O : WO} {I : WI} {J : WJ} {x : Nat} {M : MM} {r w o : Int}
theorem gst1 {t : GT} : (gst M r w o t).1 = HH M r w o t.1 := by unfold gst; split <;> rfl
theorem gst_I {t : GT} (hM : MB M) (hs : ST3 M r w o) (h : GI M t) (hn : t.1 27 < 252) (hy : t.2.2.2 < 1000) : GI M (gst M r w o t) := by
  obtain ⟨h1, h2, h3, h4⟩ := h
  have f27 : HH M r w o t.1 27 = t.1 27 + 1 := rfl
  refine ⟨by rw [gst1]; exact HH_SI hM h1 hs hn, ?_, ?_, ?_⟩
  · rw [gst1, f27]; unfold gst; split
    · show ((t.2.2.1 : Nat) : Int) ≤ _; omega
    · show ((t.2.2.1 + 1 : Nat) : Int) ≤ _; omega
  · unfold gst; split
    · show 0 ≤ t.2.2.2 + 1; omega
    · exact h3
  · unfold gst; split
    · show t.2.2.2 + 1 ≤ 1000; omega
    · exact h4
/-- what a class's drum, ledger and settings hold -/
def GC (I : WI) (O : WO) (x : Nat) (t : GT) : Prop := DRs I O (rf O x 3) t.1 ∧ (I x 13).toInt = (t.2.2.1 : Int) ∧ (∀ j, j < t.2.2.1 → (I (rf O x 12) j).toInt = t.2.1 j)
theorem c_go {x1 : Int32} {n : Nat} {t : GT} {Q : Int32 × WI → Prop} (hN : 32 ≤ N) (hM : MB M) (hs : ST3 M r w o) (hm : CMl I O (rf O x 1) M) (sp : SPd O (rf O x 3) (rf O x 1)) (ra : ¬ WD O (rf O x 3) (rf O x 4)) (rx : ¬ WD O (rf O x 3) x) (r12 : ¬ WD O (rf O x 3) (rf O x 12)) (n1 : ¬ rf O x 12 = x) (n2 : ¬ rf O x 4 = x) (n3 : ¬ rf O x 4 = rf O x 12) (n4 : ¬ rf O x 1 = x) (n5 : ¬ rf O x 1 = rf O x 12) (n6 : ∀ j, j < 5 → ¬ rf O (rf O x 1) (10 + j) = x ∧ ¬ rf O (rf O x 1) (10 + j) = rf O x 12) (h34 : (I (rf O x 4) 0).toInt = r) (h35 : (I (rf O x 4) 1).toInt = w) (h36 : (I (rf O x 4) 2).toInt = o) (hx1 : x1.toInt = (n : Int)) (hn : n ≤ 24) (hG : GI M t) (hy : t.2.2.2 = 0) (hr : t.1 27 + n ≤ 240) (hC : GC I O x t)
    (hQ : ∀ (z : Int32) I', z.toInt = (gIt M r w o n t).2.2.2 → GC I' O x (gIt M r w o n t) → GI M (gIt M r w o n t) → (∀ b, ¬ WD O (rf O x 3) b → ¬ b = x → ¬ b = rf O x 12 → I' b = I b) → Q (z, I')) : Wp (lp (B_RM_go_55 N O x x1 J) (fun _ _ _ => none) N (Int32.ofInt 0) (Int32.ofInt 0) I) Q := by
  refine forD (n := n) (fun i y I1 => y.toInt = (gIt M r w o i t).2.2.2 ∧ GC I1 O x (gIt M r w o i t) ∧ GI M (gIt M r w o i t) ∧ (gIt M r w o i t).1 27 = t.1 27 + i ∧ (gIt M r w o i t).2.2.2 ≤ i ∧ (∀ b, ¬ WD O (rf O x 3) b → ¬ b = x → ¬ b = rf O x 12 → I1 b = I b)) (by omega) ⟨by rw [k_0]; exact hy.symm, hC, hG, by show t.1 27 = t.1 27 + ((0 : Nat) : Int); omega, by show t.2.2.2 ≤ 0; omega, fun _ _ _ _ => rfl⟩ ?_ ?_
  · intro rec y z i I1 hz hi ⟨v0, ⟨v1, v2, v3⟩, v4, v5, v6, v7⟩ kk
    have vy : (I1 (rf O x 3) 6).toInt = (gIt M r w o i t).1 27 := v1.2.2.2.2.2.2.2.2.1
    have c0 : (gIt M r w o i t).1 27 < 252 := by omega
    have hS := gst_I (r := r) (w := w) (o := o) hM hs v4 c0 (by omega)
    have hm1 : CMl I1 O (rf O x 1) M := ⟨fun k hk => by rw [v7 _ (fun q => (sp.2.2 _ q).1 rfl) n4 n5]; exact hm.1 k hk, fun j i2 hj hi2 => by rw [v7 _ (fun q => (sp.2.2 _ q).2 j hj rfl) (n6 j hj).1 (n6 j hj).2]; exact hm.2 j i2 hj hi2⟩
    have es : ∀ k, I1 (rf O x 4) k = I (rf O x 4) k := fun k => by rw [v7 _ ra n2 n3]
    unfold B_RM_go_55
    refine Wp.neg (by omega) (Wp_lb (fun v4' e4 => Wp.bd1 ?_))
    refine c_runHour (p := 0) (by omega) hM hs v4.1 hm1 sp ra (k_0) (by decide) (by decide) (by rw [es]; exact h34) (by rw [es]; exact h35) (by rw [es]; exact h36) v1 (fun I4 d1 d2 d3 => ?_)
    have e13 : I4 x = I1 x := d3 x rx
    have e12 : I4 (rf O x 12) = I1 (rf O x 12) := d3 _ r12
    have eg : gIt M r w o (i + 1) t = gst M r w o (gIt M r w o i t) := rfl
    have d5 : (I4 (rf O x 3) 5).toInt = HH M r w o (gIt M r w o i t).1 26 := d1.2.2.2.2.2.2.2.1
    have f27 : HH M r w o (gIt M r w o i t).1 27 = (gIt M r w o i t).1 27 + 1 := rfl
    have dn := inc1 hz (by omega)
    generalize z + Int32.ofInt 1 = Z1 at dn ⊢
    refine Wp.jn ?_
    by_cases c : HH M r w o (gIt M r w o i t).1 26 = 0
    · have ge : gIt M r w o (i + 1) t = (HH M r w o (gIt M r w o i t).1, (gIt M r w o i t).2.1, (gIt M r w o i t).2.2.1, (gIt M r w o i t).2.2.2 + 1) := by rw [eg]; unfold gst; rw [if_pos c]
      have y1 := t_add v0 k_1 (by have := v4.2.2; omega)
      refine Wp.pos (by omega) (Wp_lb (fun v2' e2 => Wp.lb (kk _ _ I4 dn ⟨by rw [e2, y1, ge], ⟨?_, ?_, ?_⟩, by rw [eg]; exact hS, ?_, ?_, ?_⟩)))
      · rw [ge]; exact d1
      · rw [ge, e13]; exact v2
      · rw [ge]; intro j hj; rw [e12]; exact v3 j hj
      · rw [ge]; show HH M r w o (gIt M r w o i t).1 27 = _; rw [f27]; omega
      · rw [ge]; show (gIt M r w o i t).2.2.2 + 1 ≤ _; omega
      · intro b b1 b2 b3; rw [d3 b b1]; exact v7 b b1 b2 b3
    · have ge : gIt M r w o (i + 1) t = (HH M r w o (gIt M r w o i t).1, u1 (gIt M r w o i t).2.1 (gIt M r w o i t).2.2.1 ((gIt M r w o i t).1 27), (gIt M r w o i t).2.2.1 + 1, (gIt M r w o i t).2.2.2) := by rw [eg]; unfold gst; rw [if_neg c]
      have q13 : (I4 x 13).toInt = ((gIt M r w o i t).2.2.1 : Int) := by rw [e13]; exact v2
      have cb := v4.2.1
      have qn : (I4 x 13).toInt.toNat = (gIt M r w o i t).2.2.1 := by rw [q13]; rfl
      refine Wp.neg (by omega) (Wp.bd1 ?_)
      unfold F_RM_noteStood
      refine Wp.neg (by omega) (Wp.pos (by omega) (Wp_lb (fun I5 e5 => Wp_lb (fun I6 e6 => Wp.ret ?_))))
      rw [qn] at e5
      have w13 : (I5 x 13).toInt = ((gIt M r w o i t).2.2.1 : Int) := by rw [e5, up2_row _ _ (fun q => n1 q.symm)]; exact q13
      have w14 := t_add w13 k_1 (by omega)
      have f6 : ∀ b, ¬ b = x → ¬ b = rf O x 12 → I6 b = I4 b := fun b b1 b2 => by rw [e6, up2_row _ _ b1, e5, up2_row _ _ b2]
      refine Wp.lb (kk _ _ I6 dn ⟨by rw [ge]; exact v0, ⟨?_, ?_, ?_⟩, by rw [eg]; exact hS, ?_, ?_, ?_⟩)
      · rw [ge]
        have fd : ∀ b, WD O (rf O x 3) b → I6 b = I4 b := fun b hb => f6 b (fun q => rx (by have h2 := hb; rw [q] at h2; exact h2)) (fun q => r12 (by have h2 := hb; rw [q] at h2; exact h2))
        obtain ⟨g0, g1⟩ := d1
        refine ⟨fun k hk => ?_, ?_⟩
        · rw [fd _ (Or.inr (Or.inl rfl)), fd _ (Or.inr (Or.inr (Or.inl rfl))), fd _ (Or.inr (Or.inr (Or.inr (Or.inl rfl)))), fd _ (Or.inr (Or.inr (Or.inr (Or.inr rfl))))]; exact g0 k hk
        · rw [fd _ (Or.inl rfl)]; exact g1
      · rw [ge, e6, up2_self, w14]; show _ = (((gIt M r w o i t).2.2.1 + 1 : Nat) : Int); omega
      · rw [ge]; intro j hj
        rw [e6, up2_row _ _ n1, e5]
        show _ = u1 _ _ _ j
        by_cases e : j = (gIt M r w o i t).2.2.1
        · subst e; rw [up2_self, u1_s, e4]; exact vy
        · rw [up2_ne _ _ (fun q => e q.2), u1_n e, e12]
          exact v3 j (by have hj' : j < (gIt M r w o i t).2.2.1 + 1 := hj; omega)
      · rw [ge]; show HH M r w o (gIt M r w o i t).1 27 = _; rw [f27]; omega
      · rw [ge]; show (gIt M r w o i t).2.2.2 ≤ _; omega
      · intro b b1 b2 b3; rw [f6 b b2 b3, d3 b b1]; exact v7 b b1 b2 b3
  · intro rec y z I1 hz ⟨v0, v1, v4, v5, v6, v7⟩
    unfold B_RM_go_55
    refine Wp.pos (by omega) ?_
    unfold F_RM_accept
    refine Wp.bd2 (Wp_lb (fun I2 e2 => Wp.ret (Wp.ret (hQ _ I2 v0 ⟨?_, ?_, ?_⟩ v4 (fun b b1 b2 b3 => by rw [e2, up2_row _ _ b2]; exact v7 b b1 b2 b3)))))
    · obtain ⟨g0, g1⟩ := v1.1
      have fd : ∀ b, WD O (rf O x 3) b → I2 b = I1 b := fun b hb => by rw [e2, up2_row _ _ (fun q => rx (by have h2 := hb; rw [q] at h2; exact h2))]
      refine ⟨fun k hk => ?_, ?_⟩
      · rw [fd _ (Or.inr (Or.inl rfl)), fd _ (Or.inr (Or.inr (Or.inl rfl))), fd _ (Or.inr (Or.inr (Or.inr (Or.inl rfl)))), fd _ (Or.inr (Or.inr (Or.inr (Or.inr rfl))))]; exact g0 k hk
      · rw [fd _ (Or.inl rfl)]; exact g1
    · rw [e2, up2_ne _ _ (fun q => absurd q.2 (by decide))]; exact v1.2.1
    · intro j hj; rw [e2, up2_row _ _ n1]; exact v1.2.2 j hj
end CGO
