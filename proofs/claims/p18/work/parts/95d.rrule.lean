/-! the rule of the reference -/
section RRULE
variable {N : Nat} {O : WO} {I : WI} {J : WJ} {M : MM} {r w o : Int} {σ : Nat → Int} {a S : Nat}
theorem goesT_S : F_Mo_goesT N O I J a S = F_Mo_goesS N O I J a S := rfl
theorem goesU_S : F_Mo_goesU N O I J a S = F_Mo_goesS N O I J a S := rfl
theorem r_goesT {Q : WI → Prop} (hN : 8 ≤ N) (hM : MB M) (hs : ST3 M r w o) (hσ : SI M σ) (hm : RMl I O (rf O a 3) M) (sr : SR O (rf O a 3) S) (hA : RA1 I S σ) (h34 : σ 34 = r) (h35 : σ 35 = w) (h36 : σ 36 = o)
    (hQ : ∀ I', RA1 I' S (HH M r w o σ) → (∀ b, ¬ b = S → I' b = I b) → Q I') : Wp (F_Mo_goesT N O I J a S) Q := by
  rw [goesT_S]; exact r_goes hN hM hs hσ hm sr hA h34 h35 h36 hQ
theorem r_goesU {Q : WI → Prop} (hN : 8 ≤ N) (hM : MB M) (hs : ST3 M r w o) (hσ : SI M σ) (hm : RMl I O (rf O a 3) M) (sr : SR O (rf O a 3) S) (hA : RA1 I S σ) (h34 : σ 34 = r) (h35 : σ 35 = w) (h36 : σ 36 = o)
    (hQ : ∀ I', RA1 I' S (HH M r w o σ) → (∀ b, ¬ b = S → I' b = I b) → Q I') : Wp (F_Mo_goesU N O I J a S) Q := by
  rw [goesU_S]; exact r_goes hN hM hs hσ hm sr hA h34 h35 h36 hQ
/-- a state like another but for the rate -/
def LK (σ τ : Nat → Int) (w o : Int) : Prop := (∀ k, k < 34 → τ k = σ k) ∧ τ 35 = w ∧ τ 36 = o
theorem LK.u {τ : Nat → Int} (h : LK σ τ w o) (r : Int) : LK σ (u1 τ 34 r) w o := ⟨fun k hk => by rw [u1_n (by omega)]; exact h.1 k hk, by rw [u1_n (by decide)]; exact h.2.1, by rw [u1_n (by decide)]; exact h.2.2⟩
theorem LK.h {τ : Nat → Int} (hM : MB M) (h : LK σ τ w o) (r : Int) : LK (HH M r w o σ) (HH M r w o τ) w o := ⟨fun k hk => HH_cg hM h.1 k hk, h.2.1, h.2.2⟩
theorem r_copies {Q : WI → Prop} (hN : 38 ≤ N) (n12 : ¬ rf O a 16 = rf O a 17) (hQ : ∀ I', (∀ k, k < 37 → I' (rf O a 17) k = I (rf O a 16) k) → (∀ b, ¬ b = rf O a 17 → I' b = I b) → Q I') : Wp (F_Mo_copies N O I J a) Q := by
  unfold F_Mo_copies
  refine forU (n := 37) (fun i I1 => (∀ k, k < i → I1 (rf O a 17) k = I (rf O a 16) k) ∧ (∀ c, ¬ c = rf O a 17 → I1 c = I c)) (by omega) ⟨fun k hk => absurd hk (Nat.not_lt_zero _), fun _ _ => rfl⟩ ?_ ?_
  · intro rec x i I1 hx hi ⟨v1, v2⟩ kk
    have ex : x.toInt.toNat = i := tn_i hx
    unfold B_Mo_copies_2
    refine Wp.neg (by omega) (Wp.pos (by omega) (Wp.pos (by omega) (Wp_lb (fun I2 e2 => Wp_lb (fun v ev => ?_)))))
    rw [ex] at e2
    refine kk v I2 (by rw [ev]; exact inc1 hx (by omega)) ⟨fun k hk => ?_, fun c c1 => ?_⟩
    · rw [e2]
      by_cases e : k = i
      · subst e; rw [up2_self, v2 _ n12]
      · rw [up2_ne _ _ (fun z => e z.2)]; exact v1 k (by omega)
    · rw [e2, up2_row _ _ c1]; exact v2 c c1
  · intro rec x I1 hx ⟨v1, v2⟩
    unfold B_Mo_copies_2
    exact Wp.pos (by omega) (Wp.ret (hQ I1 v1 v2))
theorem r_try {x3 x4 : Int32} {i : Nat} {τ : Nat → Int} {rec : Int32 → Int32 → WI → Option WI} {Q : WI → Prop} (hN : 38 ≤ N) (hM : MB M) (hw : 0 ≤ w ∧ w ≤ 3) (ho : 0 ≤ o ∧ o < M.1 8) (hσ : SI M σ) (hm : RMl I O (rf O a 3) M) (sr : SR O (rf O a 3) (rf O a 32)) (n12 : ¬ rf O a 17 = rf O a 32) (hA : RA1 I (rf O a 17) τ) (hL : LK σ τ w o) (hx4 : x4.toInt = (i : Int)) (hi : i < 4) (h3 : x3.toInt = -1)
    (hk : ∀ (y v : Int32) I', v.toInt = ((i + 1 : Nat) : Int) → y.toInt = (if HH M (i : Int) w o σ 26 = 0 ∧ HH M (i : Int) w o σ 23 = σ 23 then (i : Int) else -1) → (∀ b, ¬ b = rf O a 32 → I' b = I b) → Wp (rec y v I') Q) : Wp (lp (B_Mo_rules_30 N O a J x3 x4 rec) (fun _ _ => none) N (Int32.ofInt 0) I) Q := by
  refine forU (n := 37) (fun i I1 => (∀ k, k < i → I1 (rf O a 32) k = I (rf O a 17) k) ∧ (∀ c, ¬ c = rf O a 32 → I1 c = I c)) (by omega) ⟨fun k hk => absurd hk (Nat.not_lt_zero _), fun _ _ => rfl⟩ ?_ ?_
  · intro rec2 x i2 I1 hx hi2 ⟨v1, v2⟩ kk
    have ex : x.toInt.toNat = i2 := tn_i hx
    unfold B_Mo_rules_30
    refine Wp.neg (by omega) (Wp.pos (by omega) (Wp.pos (by omega) (Wp_lb (fun I2 e2 => Wp_lb (fun v ev => ?_)))))
    rw [ex] at e2
    refine kk v I2 (by rw [ev]; exact inc1 hx (by omega)) ⟨fun k hk => ?_, fun c c1 => ?_⟩
    · rw [e2]
      by_cases e : k = i2
      · subst e; rw [up2_self, v2 _ n12]
      · rw [up2_ne _ _ (fun z => e z.2)]; exact v1 k (by omega)
    · rw [e2, up2_row _ _ c1]; exact v2 c c1
  · intro rec2 x I1 hx ⟨v1, v2⟩
    unfold B_Mo_rules_30
    refine Wp.pos (by omega) (Wp_lb (fun I2 e2 => Wp.bd1 ?_))
    have A2 : RA1 I2 (rf O a 32) (u1 τ 34 (i : Int)) := fun k hk => by
      rw [e2]
      by_cases e : k = 34
      · subst e; rw [up2_self, u1_s]; exact hx4
      · rw [up2_ne _ _ (fun z => e z.2), u1_n e, v1 k hk]; exact hA k hk
    have f2 : ∀ b, ¬ b = rf O a 32 → I2 b = I b := fun b hb => by rw [e2, up2_row _ _ hb]; exact v2 b hb
    have L2 := hL.u (i : Int)
    refine r_goesU (r := (i : Int)) (w := w) (o := o) (by omega) hM ⟨by omega, hw, ho⟩ (hσ.c34 L2.1) (hm.fr2 (f2 _ sr.1) (fun j hj => f2 _ (sr.2 j hj))) sr A2 (by rw [u1_s]) L2.2.1 L2.2.2 (fun I3 g1 g2 => ?_)
    have L3 := LK.h hM L2 (i : Int)
    have q26 : (I3 (rf O a 32) 26).toInt = HH M (i : Int) w o σ 26 := by rw [g1 26 (by decide)]; exact L3.1 26 (by decide)
    have q23 : (I3 (rf O a 32) 23).toInt = HH M (i : Int) w o σ 23 := by rw [g1 23 (by decide)]; exact L3.1 23 (by decide)
    have t23 : (I3 (rf O a 17) 23).toInt = σ 23 := by rw [g2 _ n12, f2 _ n12, hA 23 (by decide)]; exact hL.1 23 (by decide)
    have f3 : ∀ b, ¬ b = rf O a 32 → I3 b = I b := fun b hb => by rw [g2 b hb]; exact f2 b hb
    have bad : ¬ (HH M (i : Int) w o σ 26 = 0 ∧ HH M (i : Int) w o σ 23 = σ 23) → Wp (rec x3 (x4 + Int32.ofInt 1) I3) Q := fun c => hk _ _ _ (inc1 hx4 (by omega)) (by rw [if_neg c]; exact h3) f3
    refine Wp.jn ?_
    by_cases c1 : HH M (i : Int) w o σ 26 = 0
    · refine Wp.pos (by omega) ?_
      by_cases c2 : HH M (i : Int) w o σ 23 = σ 23
      · exact Wp.pos (by omega) (Wp.lb (hk _ _ _ (inc1 hx4 (by omega)) (by rw [if_pos ⟨c1, c2⟩]; exact hx4) f3))
      · exact Wp.neg (by omega) (Wp.lb (bad (fun z => c2 z.2)))
    · exact Wp.neg (by omega) (Wp.lb (bad (fun z => c1 z.1)))
theorem r_rules {x1 : Int32} {n : Nat} {Q : WI → Prop} (hN : 38 ≤ N) (hM : MB M) (hw : 0 ≤ w ∧ w ≤ 3) (ho : 0 ≤ o ∧ o < M.1 8) (hσ : SI M σ) (h27 : σ 27 ≤ 240) (hm : RMl I O (rf O a 3) M) (srU : SR O (rf O a 3) (rf O a 32)) (srT : SR O (rf O a 3) (rf O a 17)) (n12 : ¬ rf O a 16 = rf O a 17) (n13 : ¬ rf O a 17 = rf O a 32) (n14 : ¬ rf O a 16 = rf O a 32) (hA : RA1 I (rf O a 16) σ) (h35 : σ 35 = w) (h36 : σ 36 = o) (hx1 : x1.toInt = (n : Int)) (hn : n ≤ 5)
    (hQ : ∀ I' τ, RA1 I' (rf O a 17) τ → (∀ k, k < 34 → τ k = rIt M w o n σ k) → (∀ b, ¬ b = rf O a 17 → ¬ b = rf O a 32 → I' b = I b) → Q I') : Wp (F_Mo_rules N O I J a x1) Q := by
  unfold F_Mo_rules
  refine Wp.bd1 (r_copies hN n12 (fun I1 a1 a2 => ?_))
  refine forU (n := n) (fun i I3 => (∃ τ, RA1 I3 (rf O a 17) τ ∧ LK (rIt M w o i σ) τ w o) ∧ (∀ b, ¬ b = rf O a 17 → ¬ b = rf O a 32 → I3 b = I b)) (by omega) ⟨⟨σ, fun k hk => by rw [a1 k hk]; exact hA k hk, fun _ _ => rfl, h35, h36⟩, fun b b1 b2 => a2 b b1⟩ ?_ ?_
  · intro rec y i I3 hy hi ⟨⟨τ, v1, v2⟩, v4⟩ kk
    obtain ⟨q1, q2⟩ := rIt_I (w := w) (o := o) hM hw ho hσ i (by omega)
    unfold B_Mo_rules_6
    refine Wp.neg (by omega) ?_
    have main : ∀ (m j : Nat) (x3 x4 : Int32) (I4 : WI), x4.toInt = (j : Int) → j ≤ 4 → 5 - j < m → x3.toInt = lrN M w o (rIt M w o i σ) j → (∀ b, ¬ b = rf O a 32 → I4 b = I3 b) → Wp (lp (B_Mo_rules_16 N O a J y rec) (fun _ _ _ => none) m x3 x4 I4) Q := by
      intro m
      induction m with
      | zero => intro j x3 x4 I4 _ _ h; omega
      | succ m ih =>
        intro j x3 x4 I4 h4 hj hmj h3 hf
        show Wp (B_Mo_rules_16 N O a J y rec (lp (B_Mo_rules_16 N O a J y rec) (fun _ _ _ => none) m) x3 x4 I4) Q
        have A4 : RA1 I4 (rf O a 17) τ := fun k hk => by rw [hf _ n13]; exact v1 k hk
        have m4 : RMl I4 O (rf O a 3) M := hm.fr2 (by rw [hf _ srU.1, v4 _ srT.1 srU.1]) (fun j hj => by rw [hf _ (srU.2 j hj), v4 _ (srT.2 j hj) (srU.2 j hj)])
        unfold B_Mo_rules_16
        refine Wp_jq (fun k => ∀ (y3 y4 : Int32) (I5 : WI), y3.toInt = lrN M w o (rIt M w o i σ) 4 → I5 = I4 → Wp (k y3 y4 I5) Q) (fun y3 y4 I5 e3 e5 => ?_) (fun k110 hk => ?_)
        · subst e5
          have go : ∀ z : Int32, z.toInt = lrZ M w o (rIt M w o i σ) → Wp (lb (up2 I5 (rf O a 17) 34 z) fun I2 => bd1 (F_Mo_goesT N O I2 J a (rf O a 17)) fun I3 => lb (y + Int32.ofInt 1) fun v2_135 => rec v2_135 I3) Q := fun z hz => by
            refine Wp_lb (fun I6 e6 => Wp.bd1 ?_)
            have L2 := v2.u (lrZ M w o (rIt M w o i σ))
            have A2 : RA1 I6 (rf O a 17) (u1 τ 34 (lrZ M w o (rIt M w o i σ))) := fun k hk => by
              rw [e6]
              by_cases e : k = 34
              · subst e; rw [up2_self, u1_s]; exact hz
              · rw [up2_ne _ _ (fun z => e z.2), u1_n e]; exact A4 k hk
            have f6 : ∀ b, ¬ b = rf O a 17 → I6 b = I5 b := fun b hb => by rw [e6, up2_row _ _ hb]
            refine r_goesT (r := lrZ M w o (rIt M w o i σ)) (w := w) (o := o) (by omega) hM ⟨lrZ_b, hw, ho⟩ (q1.c34 L2.1) (m4.fr2 (f6 _ srT.1) (fun j hj => f6 _ (srT.2 j hj))) srT A2 (by rw [u1_s]) L2.2.1 L2.2.2 (fun I7 g1 g2 => Wp_lb (fun v ev => kk v I7 (by rw [ev]; exact inc1 hy (by omega)) ⟨⟨_, g1, LK.h hM L2 _⟩, fun b b1 b2 => ?_⟩))
            rw [g2 b b1, f6 b b1, hf b b2]; exact v4 b b1 b2
          refine Wp.jn ?_
          by_cases c : lrN M w o (rIt M w o i σ) 4 = -1
          · exact Wp.pos (by omega) (go _ (by unfold lrZ; rw [if_pos c]; exact k_0))
          · exact Wp.neg (by omega) (go _ (by unfold lrZ; rw [if_neg c]; exact e3))
        · by_cases c4 : j = 4
          · subst c4
            exact Wp.pos (by omega) (hk _ _ _ h3 rfl)
          · refine Wp.neg (by omega) ?_
            by_cases c3 : lrN M w o (rIt M w o i σ) j = -1
            · refine Wp.pos (by omega) (r_try (i := j) hN hM hw ho q1 m4 srU n13 A4 v2 h4 (by omega) (by omega) (fun y3 v I6 hv hy3 hf6 => ih (j + 1) y3 v I6 hv (by omega) (by omega) (by rw [hy3]; show _ = (if _ then _ else _); rw [if_pos c3]) (fun b hb => by rw [hf6 b hb]; exact hf b hb)))
            · refine Wp.neg (by omega) (hk _ _ _ ?_ rfl)
              have := lrN_s (M := M) (w := w) (o := o) (σ := rIt M w o i σ) (i := j) c3 (4 - j)
              rw [show j + (4 - j) = 4 by omega] at this
              rw [this]; exact h3
    exact main N 0 _ _ I3 k_0 (by omega) (by omega) (ofI (by decide)) (fun _ _ => rfl)
  · intro rec y I3 hy ⟨⟨τ, v1, v2⟩, v4⟩
    unfold B_Mo_rules_6
    exact Wp.pos (by omega) (Wp.ret (hQ I3 τ v1 v2.1 v4))
end RRULE
