section RGO
variable {N : Nat} {O : WO} {I : WI} {J : WJ} {a : Nat} {M : MM} {r w o : Int}
/-- what the reference's state and ledger hold -/
def GR (I : WI) (O : WO) (a : Nat) (t : GT) : Prop := RA1 I (rf O a 16) t.1 ∧ (I a 18).toInt = (t.2.2.1 : Int) ∧ (∀ j, j < t.2.2.1 → (I (rf O a 19) j).toInt = t.2.1 j)
theorem r_go {x1 : Int32} {n : Nat} {t : GT} {Q : Int32 × WI → Prop} (hN : 32 ≤ N) (hM : MB M) (hs : ST3 M r w o) (hm : RMl I O (rf O a 3) M) (sr : SR O (rf O a 3) (rf O a 16)) (sr2 : SR O (rf O a 3) (rf O a 19)) (sr3 : SR O (rf O a 3) a) (n1 : ¬ rf O a 19 = rf O a 16) (n2 : ¬ a = rf O a 16) (n3 : ¬ rf O a 19 = a) (h34 : t.1 34 = r) (h35 : t.1 35 = w) (h36 : t.1 36 = o) (hx1 : x1.toInt = (n : Int)) (hn : n ≤ 24) (hG : GI M t) (hy : t.2.2.2 = 0) (hr : t.1 27 + n ≤ 240) (hC : GR I O a t)
    (hQ : ∀ (z : Int32) I', z.toInt = (gIt M r w o n t).2.2.2 → GR I' O a (gIt M r w o n t) → GI M (gIt M r w o n t) → (∀ b, ¬ b = rf O a 16 → ¬ b = a → ¬ b = rf O a 19 → I' b = I b) → Q (z, I')) : Wp (lp (B_Mo_go_59 N O a x1 J) (fun _ _ _ => none) N (Int32.ofInt 0) (Int32.ofInt 0) I) Q := by
  refine forD (n := n) (fun i y I1 => y.toInt = (gIt M r w o i t).2.2.2 ∧ GR I1 O a (gIt M r w o i t) ∧ GI M (gIt M r w o i t) ∧ (gIt M r w o i t).1 27 = t.1 27 + i ∧ (gIt M r w o i t).2.2.2 ≤ i ∧ ((gIt M r w o i t).1 34 = r ∧ (gIt M r w o i t).1 35 = w ∧ (gIt M r w o i t).1 36 = o) ∧ (∀ b, ¬ b = rf O a 16 → ¬ b = a → ¬ b = rf O a 19 → I1 b = I b)) (by omega) ⟨by rw [k_0]; exact hy.symm, hC, hG, by show t.1 27 = t.1 27 + ((0 : Nat) : Int); omega, by show t.2.2.2 ≤ 0; omega, ⟨h34, h35, h36⟩, fun _ _ _ _ => rfl⟩ ?_ ?_
  · intro rec y z i I1 hz hi ⟨v0, ⟨v1, v2, v3⟩, v4, v5, v6, vs, v7⟩ kk
    have c0 : (gIt M r w o i t).1 27 < 252 := by omega
    have hS := gst_I (r := r) (w := w) (o := o) hM hs v4 c0 (by omega)
    have hm1 : RMl I1 O (rf O a 3) M := ⟨by rw [v7 _ sr.1 sr3.1 sr2.1]; exact hm.1, fun j i2 hj hi2 => by rw [v7 _ (sr.2 j hj) (sr3.2 j hj) (sr2.2 j hj)]; exact hm.2 j i2 hj hi2⟩
    unfold B_Mo_go_59
    refine Wp.neg (by omega) (Wp.bd1 ?_)
    refine r_goes (by omega) hM hs v4.1 hm1 sr v1 vs.1 vs.2.1 vs.2.2 (fun I5 d1 d3 => ?_)
    have e18 : I5 a = I1 a := d3 a n2
    have e19 : I5 (rf O a 19) = I1 (rf O a 19) := d3 _ n1
    have eg : gIt M r w o (i + 1) t = gst M r w o (gIt M r w o i t) := rfl
    have d5 : (I5 (rf O a 16) 26).toInt = HH M r w o (gIt M r w o i t).1 26 := d1 26 (by decide)
    have d27 : (I5 (rf O a 16) 27).toInt = (gIt M r w o i t).1 27 + 1 := d1 27 (by decide)
    have f27 : HH M r w o (gIt M r w o i t).1 27 = (gIt M r w o i t).1 27 + 1 := rfl
    have dn := inc1 hz (by omega)
    generalize z + Int32.ofInt 1 = Z1 at dn ⊢
    refine Wp.jn ?_
    by_cases c : HH M r w o (gIt M r w o i t).1 26 = 0
    · have ge : gIt M r w o (i + 1) t = (HH M r w o (gIt M r w o i t).1, (gIt M r w o i t).2.1, (gIt M r w o i t).2.2.1, (gIt M r w o i t).2.2.2 + 1) := by rw [eg]; unfold gst; rw [if_pos c]
      have y1 := t_add v0 k_1 (by have := v4.2.2; omega)
      refine Wp.pos (by omega) (Wp_lb (fun v2' e2 => Wp.lb (kk _ _ I5 dn ⟨by rw [e2, y1, ge], ⟨?_, ?_, ?_⟩, by rw [eg]; exact hS, ?_, ?_, ?_, ?_⟩)))
      · rw [ge]; exact d1
      · rw [ge, e18]; exact v2
      · rw [ge]; intro j hj; rw [e19]; exact v3 j hj
      · rw [ge]; show HH M r w o (gIt M r w o i t).1 27 = _; rw [f27]; omega
      · rw [ge]; show (gIt M r w o i t).2.2.2 + 1 ≤ _; omega
      · rw [ge]; exact vs
      · intro b b1 b2 b3; rw [d3 b b1]; exact v7 b b1 b2 b3
    · have ge : gIt M r w o (i + 1) t = (HH M r w o (gIt M r w o i t).1, u1 (gIt M r w o i t).2.1 (gIt M r w o i t).2.2.1 ((gIt M r w o i t).1 27), (gIt M r w o i t).2.2.1 + 1, (gIt M r w o i t).2.2.2) := by rw [eg]; unfold gst; rw [if_neg c]
      have q18 : (I5 a 18).toInt = ((gIt M r w o i t).2.2.1 : Int) := by rw [e18]; exact v2
      have cb := v4.2.1
      have qn : (I5 a 18).toInt.toNat = (gIt M r w o i t).2.2.1 := by rw [q18]; rfl
      have n27 := v4.1.2.2.2.2.1
      refine Wp.neg (by omega) (Wp.pos (by omega) (Wp_lb (fun I6 e6 => Wp_lb (fun I7 e7 => ?_))))
      rw [qn] at e6
      have w18 : (I6 a 18).toInt = ((gIt M r w o i t).2.2.1 : Int) := by rw [e6, up2_row _ _ (fun q => n3 q.symm)]; exact q18
      have w19 := t_add w18 k_1 (by omega)
      have hh := t_sub d27 k_1 (by omega)
      have f7 : ∀ b, ¬ b = a → ¬ b = rf O a 19 → I7 b = I5 b := fun b b1 b2 => by rw [e7, up2_row _ _ b1, e6, up2_row _ _ b2]
      refine Wp.lb (kk _ _ I7 dn ⟨by rw [ge]; exact v0, ⟨?_, ?_, ?_⟩, by rw [eg]; exact hS, ?_, ?_, ?_, ?_⟩)
      · rw [ge]; intro k hk; rw [f7 _ (fun q => n2 q.symm) (fun q => n1 q.symm)]; exact d1 k hk
      · rw [ge, e7, up2_self, w19]; show _ = (((gIt M r w o i t).2.2.1 + 1 : Nat) : Int); omega
      · rw [ge]; intro j hj
        rw [e7, up2_row _ _ n3, e6]
        show _ = u1 _ _ _ j
        by_cases e : j = (gIt M r w o i t).2.2.1
        · subst e; rw [up2_self, u1_s, hh]; omega
        · rw [up2_ne _ _ (fun q => e q.2), u1_n e, e19]
          exact v3 j (by have hj' : j < (gIt M r w o i t).2.2.1 + 1 := hj; omega)
      · rw [ge]; show HH M r w o (gIt M r w o i t).1 27 = _; rw [f27]; omega
      · rw [ge]; show (gIt M r w o i t).2.2.2 ≤ _; omega
      · rw [ge]; exact vs
      · intro b b1 b2 b3; rw [f7 b b2 b3, d3 b b1]; exact v7 b b1 b2 b3
  · intro rec y z I1 hz ⟨v0, v1, v4, v5, v6, vs, v7⟩
    unfold B_Mo_go_59
    refine Wp.pos (by omega) ?_
    unfold F_Mo_done
    refine Wp.bd2 (Wp_lb (fun I2 e2 => Wp_lb (fun I3 e3 => Wp.ret (Wp.ret (hQ _ I3 v0 ⟨?_, ?_, ?_⟩ v4 (fun b b1 b2 b3 => by rw [e3, up2_row _ _ b2, e2, up2_row _ _ b2]; exact v7 b b1 b2 b3))))))
    · intro k hk; rw [e3, up2_row _ _ (fun q => n2 q.symm), e2, up2_row _ _ (fun q => n2 q.symm)]; exact v1.1 k hk
    · rw [e3, up2_ne _ _ (fun q => absurd q.2 (by decide)), e2, up2_ne _ _ (fun q => absurd q.2 (by decide))]; exact v1.2.1
    · intro j hj; rw [e3, up2_row _ _ n3, e2, up2_row _ _ n3]; exact v1.2.2 j hj
end RGO
