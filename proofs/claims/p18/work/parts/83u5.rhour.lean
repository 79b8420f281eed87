/-! the reference's hour, exactly -/
def RMl (I : WI) (O : WO) (F : Nat) (M : MM) : Prop := ((I F 0).toInt = M.1 0 ∧ (I F 1).toInt = M.1 1 ∧ (I F 2).toInt = M.1 2 ∧ (I F 3).toInt = M.1 3 ∧ (I F 4).toInt = M.1 4 ∧ (I F 5).toInt = M.1 5 ∧ (I F 6).toInt = M.1 6 ∧ (I F 7).toInt = M.1 9 ∧ (I F 8).toInt = M.1 7 ∧ (I F 9).toInt = M.1 8) ∧ (∀ j i, j < 5 → i < mln j → (I (rf O F (11 + j)) i).toInt = M.2.1 j i)
def RA1 (I : WI) (S : Nat) (τ : Nat → Int) : Prop := ∀ k, k < 37 → (I S k).toInt = τ k
theorem RA1.put {I : WI} {S k : Nat} {τ : Nat → Int} {x : Int32} {v : Int} (h : RA1 I S τ) (hx : x.toInt = v) : RA1 (up2 I S k x) S (u1 τ k v) := fun j hj => by
  unfold u1
  by_cases e : j = k
  · subst e; rw [up2_self, if_pos rfl]; exact hx
  · rw [up2_ne _ _ (fun z => e z.2), if_neg e]; exact h j hj
theorem RA1.eq {I : WI} {S : Nat} {τ τ' : Nat → Int} (h : RA1 I S τ) (e : ∀ k, k < 37 → τ k = τ' k) : RA1 I S τ' := fun k hk => by rw [h k hk]; exact e k hk
def SR (O : WO) (F S : Nat) : Prop := ¬ F = S ∧ ∀ j, j < 5 → ¬ rf O F (11 + j) = S
theorem psum_z {f : Nat → Int} {M : MM} (hM : MB M) (h : ∀ k : Nat, k < 5 → M.1 7 ≤ (k : Int) → f k = 0) : psum f (zN M) = s5 f := by
  have m7 := hM.2.2.2.2.2.2.1
  have e : zN M = 2 ∨ zN M = 3 ∨ zN M = 4 ∨ zN M = 5 := by unfold zN; omega
  have hz : ((zN M : Nat) : Int) = M.1 7 := by unfold zN; omega
  rcases e with e | e | e | e
  · rw [e]; have := h 2 (by decide) (by omega); have := h 3 (by decide) (by omega); have := h 4 (by decide) (by omega); simp only [psum, s5]; omega
  · rw [e]; have := h 3 (by decide) (by omega); have := h 4 (by decide) (by omega); simp only [psum, s5]; omega
  · rw [e]; have := h 4 (by decide) (by omega); simp only [psum, s5]; omega
  · rw [e]; simp only [psum, s5]; omega
section RHOUR
variable {N : Nat} {O : WO} {I : WI} {J : WJ} {a S : Nat} {M : MM} {r w o : Int} {σ τ : Nat → Int}
theorem RMl.fr {I1 : WI} {F : Nat} (h : RMl I O F M) (sr : SR O F S) (hf : ∀ b, ¬ b = S → I1 b = I b) : RMl I1 O F M := by
  refine ⟨by rw [hf F sr.1]; exact h.1, fun j i hj hi => by rw [hf _ (sr.2 j hj)]; exact h.2 j i hj hi⟩
theorem r_sumOf {x2 : Int32} {b : Nat} {Q : Int32 → Prop} (hN : 8 ≤ N) (hM : MB M) (hm : RMl I O (rf O a 3) M) (hx2 : x2.toInt = (b : Int)) (hb : b ≤ 30) (hA : RA1 I S τ) (bd : ∀ k, k < 5 → 0 ≤ τ (b + k) ∧ τ (b + k) ≤ 10000000) (hz : ∀ k : Nat, k < 5 → M.1 7 ≤ (k : Int) → τ (b + k) = 0) (hQ : ∀ z : Int32, z.toInt = s5 (fun k => τ (b + k)) → Q z) : Wp (F_Mo_sumOfS N O I J a S x2) Q := by
  have m7 := hM.2.2.2.2.2.2.1
  have ez : ((zN M : Nat) : Int) = M.1 7 := by unfold zN; omega
  have q8 := hm.1.2.2.2.2.2.2.2.2.1
  unfold F_Mo_sumOfS
  refine forS (n := zN M) (fun i y => y.toInt = psum (fun k => τ (b + k)) i) (by omega) k_0 ?_ ?_
  · intro rec y x i hx hi hy kk
    have e := t_add hx2 hx (by omega)
    have en : (x2 + x).toInt.toNat = b + i := by rw [e]; omega
    unfold B_Mo_sumOfS_5
    refine Wp.neg (by omega) (Wp.pos (by omega) (Wp_lb (fun u eu => Wp_lb (fun v ev => ?_))))
    rw [en] at eu
    have pb := psum_b (f := fun k => τ (b + k)) (C := 10000000) i (fun k hk => bd k (by omega))
    have b1 := bd i (by omega)
    refine kk u v (by rw [ev]; exact inc1 hx (by omega)) ?_
    have rr := t_add hy (hA (b + i) (by omega)) (by omega)
    rw [eu]; exact rr
  · intro rec y x hx hy
    unfold B_Mo_sumOfS_5
    exact Wp.pos (by omega) (Wp.ret (hQ y (by rw [hy, psum_z hM hz])))
theorem r_digs {h : Nat → Int} {Q : WI → Prop} (hN : 8 ≤ N) (hM : MB M) (hm : RMl I O (rf O a 3) M) (sr : SR O (rf O a 3) S) (hA : RA1 I S τ) (bd : ∀ k, k < 5 → 0 ≤ τ k ∧ τ k ≤ 10000000) (hz : ∀ k : Nat, k < 5 → M.1 7 ≤ (k : Int) → τ k = 0) (sb : 0 ≤ τ 21 ∧ τ 21 ≤ 1000000000)
    (hQ : ∀ I', RA1 I' S (fun k => if k < 5 then τ k - dgT (τ k) else if k = 21 then τ 21 + s5 (fun j => dgT (τ j)) else τ k) → (∀ b, ¬ b = S → I' b = I b) → Q I') : Wp (F_Mo_digsS N O I J a S) Q := by
  have m7 := hM.2.2.2.2.2.2.1
  have ez : ((zN M : Nat) : Int) = M.1 7 := by unfold zN; omega
  have db : ∀ k, k < 5 → 0 ≤ dgT (τ k) ∧ dgT (τ k) ≤ 10000000 := fun k hk => by have := bd k hk; unfold dgT; omega
  unfold F_Mo_digsS
  refine forU (n := zN M) (fun i I1 => RA1 I1 S (fun k => if k < i then τ k - dgT (τ k) else if k = 21 then τ 21 + psum (fun j => dgT (τ j)) i else τ k) ∧ (∀ b, ¬ b = S → I1 b = I b)) (by omega) ⟨fun k hk => ?_, fun _ _ => rfl⟩ ?_ ?_
  · show _ = if k < 0 then _ else if k = 21 then τ 21 + 0 else τ k
    rw [if_neg (by omega), hA k hk]
    split
    · rename_i e; rw [e]; omega
    · rfl
  · intro rec x i I1 hx hi ⟨v0, v1⟩ kk
    have e0 : (Int32.ofInt 0 + x).toInt = (i : Int) := by rw [t_add k_0 hx (by omega)]; omega
    have en : (Int32.ofInt 0 + x).toInt.toNat = i := by rw [e0]; rfl
    have q8 := (RMl.fr hm sr v1).1.2.2.2.2.2.2.2.2.1
    have a0 : (I1 S i).toInt = τ i := by have := v0 i (by omega); (try dsimp only at this); rw [if_neg (by omega), if_neg (by omega)] at this; exact this
    have a21 : (I1 S 21).toInt = τ 21 + psum (fun j => dgT (τ j)) i := by have := v0 21 (by omega); (try dsimp only at this); rw [if_neg (by omega), if_pos rfl] at this; exact this
    have b := bd i (by omega)
    have pb := psum_b (f := fun j => dgT (τ j)) (C := 10000000) i (fun k hk => db k (by omega))
    have d1 := db i (by omega)
    have q1 := (tdivF a0 (ofI (n := 10) (by decide)) (by decide)).1 b.1
    have q2 := t_add q1 k_1 (by omega)
    unfold B_Mo_digsS_2
    refine Wp.neg (by omega) (Wp.pos (by omega) (Wp.pos (by omega) (Wp.jn ?_)))
    rw [en]
    have fin : ∀ s : Int32, s.toInt = dgT (τ i) → Wp (if 0 ≤ (((Int32.ofInt (0)) + x)).toInt ∧ (((Int32.ofInt (0)) + x)).toInt < 37 then (if 0 ≤ (((Int32.ofInt (0)) + x)).toInt ∧ (((Int32.ofInt (0)) + x)).toInt < 37 then (lb (up2 I1 S i ((I1 S i) - s)) fun I2 => lb (up2 I2 S 21 ((I2 S 21) + s)) fun I3 => lb (x + Int32.ofInt (1)) fun v2_67 => rec (v2_67) I3) else none) else none) Q := fun s hs => by
      refine Wp.pos (by omega) (Wp.pos (by omega) (Wp_lb (fun I2 e2 => Wp_lb (fun I3 e3 => Wp_lb (fun v ev => ?_)))))
      have c21 : (I2 S 21).toInt = τ 21 + psum (fun j => dgT (τ j)) i := by rw [e2, up2_ne _ _ (fun z => by omega)]; exact a21
      refine kk v I3 (by rw [ev]; exact inc1 hx (by omega)) ⟨fun k hk => ?_, fun b hb => by rw [e3, up2_row _ _ hb, e2, up2_row _ _ hb]; exact v1 b hb⟩
      try dsimp only
      rw [e3]
      by_cases c1 : k = 21
      · subst c1; rw [up2_self, if_neg (by omega), if_pos rfl, t_add c21 hs (by omega)]
        show _ = τ 21 + (psum (fun j => dgT (τ j)) i + dgT (τ i)); omega
      · rw [up2_ne _ _ (fun z => c1 z.2), e2]
        by_cases c2 : k = i
        · subst c2; rw [up2_self, if_pos (by omega)]; exact t_sub a0 hs (by omega)
        · rw [up2_ne _ _ (fun z => c2 z.2), v0 k hk]; try dsimp only
          by_cases c3 : k < i
          · rw [if_pos c3, if_pos (by omega)]
          · rw [if_neg c3, if_neg c1, if_neg (show ¬ k < i + 1 by omega), if_neg c1]
    by_cases c : τ i / 10 + 1 ≤ τ i
    · exact Wp.pos (by omega) (Wp.pos (by omega) (fin _ (by rw [q2]; unfold dgT; omega)))
    · exact Wp.neg (by omega) (Wp.pos (by omega) (fin _ (by rw [a0]; unfold dgT; omega)))
  · intro rec x I1 hx ⟨v0, v1⟩
    have q8 := (RMl.fr hm sr v1).1.2.2.2.2.2.2.2.2.1
    unfold B_Mo_digsS_2
    refine Wp.pos (by omega) (Wp.ret (hQ I1 (v0.eq (fun k hk => ?_)) v1))
    try dsimp only
    by_cases c1 : k < zN M
    · rw [if_pos c1, if_pos (by omega)]
    · rw [if_neg c1]
      by_cases c2 : k < 5
      · rw [if_pos c2, if_neg (by omega), hz k c2 (by omega)]; rfl
      · rw [if_neg c2]
        by_cases c3 : k = 21
        · rw [if_pos c3, if_pos c3, psum_z hM (fun j hj hz2 => by rw [hz j hj hz2]; rfl)]
        · rw [if_neg c3, if_neg c3]
theorem r_effectOf {x1 x2 x3 : Int32} {full liner : Int} {Q : Int32 → Prop} (hM : MB M) (hs : ST3 M r w o) (hm : RMl I O (rf O a 3) M) (h1 : x1.toInt = full) (fb : 0 ≤ full ∧ full ≤ M.1 0) (h2 : x2.toInt = liner) (lbd : 0 ≤ liner ∧ liner ≤ 100000) (h3 : x3.toInt = o) (hQ : ∀ z : Int32, z.toInt = effT M o full liner → Q z) : Wp (F_Mo_effectOf N O I J a x1 x2 x3) Q := by
  obtain ⟨e1, e2, e3, e4, e5⟩ := effT_b hM hs fb lbd.1
  obtain ⟨⟨q0, q1, q2, q3, q4, q5, q6, q7, q8, q9⟩, qa⟩ := hm
  have m0 := hM.1
  have m4 := hM.2.2.2.1
  have m8 := hM.2.2.2.2.2.2.2.1
  have ob := hs.2.2
  have hd := hM.2.2.2.2.2.2.2.2.2.2.2.2.1 o.toNat (by omega)
  unfold F_Mo_effectOf
  refine Wp.pos (by omega) (Wp_lb (fun v4 e4' => Wp_lb (fun v5 e5' => Wp.jn ?_)))
  have hf := t_mul (ofI (n := 100) (by decide)) h1 (by omega)
  have hv4 : v4.toInt = 100 * full / M.1 0 - 50 := by rw [e4']; exact t_sub ((tdivF hf q0 (by omega)).1 (by omega)) (ofI (by decide)) (by omega)
  have hv5 : v5.toInt = M.1 4 / 2 := by rw [e5']; exact (tdivF q4 (ofI (n := 2) (by decide)) (by decide)).1 (by omega)
  have hl := t_sub q4 h2 (by omega)
  have h7 : (I (rf O (rf O a 3) 14) o.toNat).toInt = M.2.1 3 o.toNat := qa 3 _ (by decide) (by show o.toNat < 4; omega)
  have h8 := t_add (ofI (n := 9) (by decide)) h7 (by omega)
  have en : x3.toInt.toNat = o.toNat := by rw [h3]
  have fin : ∀ s s2 : Int32, s.toInt = max (M.1 4 - liner) (M.1 4 / 2) → s2.toInt = (if 100 * full / M.1 0 - 50 < 0 then -(100 * full / M.1 0 - 50) else 100 * full / M.1 0 - 50) → Wp (if ¬ ((I (rf O a 3) 4)).toInt = 0 then (lb (((((Int32.ofInt (100)) - s2) * s) / (I (rf O a 3) 4))) fun v7_85 => if 0 ≤ (x3).toInt ∧ (x3).toInt < 4 then (if ¬ (((Int32.ofInt (9)) + (I (rf O (rf O a 3) 14) (x3).toInt.toNat))).toInt = 0 then (some (((Int32.ofInt (10)) * v7_85) / ((Int32.ofInt (9)) + (I (rf O (rf O a 3) 14) (x3).toInt.toNat)))) else none) else none) else none) Q := fun s s2 hs1 hs2 => by
    rw [en]
    have a1 := t_sub (ofI (n := 100) (by decide)) hs2 (by split <;> omega)
    have a2 := t_mul a1 hs1 (by omega)
    have a3 := (tdivF a2 q4 (by omega)).1 e3.1
    refine Wp.pos (by omega) (Wp_lb (fun v7 e7 => Wp.pos (by omega) (Wp.pos (by omega) (Wp.ret (hQ _ ?_)))))
    rw [← e7] at a3
    have a4 := t_mul (ofI (n := 10) (by decide)) a3 (by omega)
    exact (tdivF a4 h8 (by omega)).1 (by omega)
  by_cases c : M.1 4 / 2 ≤ M.1 4 - liner
  · refine Wp.pos (by omega) (Wp.jn ?_)
    by_cases c2 : 0 ≤ 100 * full / M.1 0 - 50
    · exact Wp.pos (by omega) (fin _ _ (by omega) (by rw [if_neg (by omega)]; exact hv4))
    · exact Wp.neg (by omega) (fin _ _ (by omega) (by rw [if_pos (by omega), Int32.toInt_neg, wr32, hv4]; omega))
  · refine Wp.neg (by omega) (Wp.jn ?_)
    by_cases c2 : 0 ≤ 100 * full / M.1 0 - 50
    · exact Wp.pos (by omega) (fin _ _ (by omega) (by rw [if_neg (by omega)]; exact hv4))
    · exact Wp.neg (by omega) (fin _ _ (by omega) (by rw [if_pos (by omega), Int32.toInt_neg, wr32, hv4]; omega))
end RHOUR
