/-! the class's reader: a line, the whole text -/
section CMILL
variable {N : Nat} {O : WO} {I I0 : WI} {J J0 : WJ} {a m : Nat} {t : Nat → Int} {n f : Nat} {M : MM}
theorem c_line (S : Sep O a m) (hN : 800 ≤ N) {Q : Int32 × WI × WJ → Prop} (h : CS O a m t n I0 J0 I J f M) (k : ∀ r I' J', CP O a m t n I0 J0 (spLine t n f M) r I' J' → Q (r, I', J')) : Wp (F_Rd_readLine N O I J a m) Q := by
  unfold F_Rd_readLine
  unfold spLine at k
  obtain ⟨x1, x2, x3, x4⟩ := h.2.1
  have fl : ∀ {x : Int32} {w : Int}, x.toInt = w → (∀ r I' J', CP O a m t n I0 J0 (.error (w, f)) r I' J' → Q (r, I', J')) → Wp (bd2 (F_Rd_fail N O I J a x) (fun z I' => if z.toInt = 0 ∨ z.toInt = 1 then some (z, I', J) else none)) Q := fun hx k => h.failr S hx (g := fun z I' => some (z, I', J)) (fun I2 h2 => Wp.ret (k _ _ _ (CP.er rfl h2)))
  refine Wp.eq (by rw [c_isWord hN (by decide) (by decide) h.1]) (Wp.bd1 (Wp.ret ?_))
  cases q0 : isw t n 0 f with
  | true =>
    rw [q0, if_pos rfl] at k
    refine Wp.neg (by rw [bI_t]; decide) (Wp.ite (fun w => ?_) (fun w => ?_))
    · rw [x1 0 (by omega)] at w
      exact Wp.bd2 (c_drum S hN h (by omega) (fun r I' hp => Wp.pos hp.r01 (Wp.ret (k _ _ _ hp))))
    · rw [x1 0 (by omega)] at w
      unfold spDrum at k; rw [if_pos (by omega)] at k
      exact fl (ofI (by decide)) k
  | false =>
  rw [q0, if_neg (by decide)] at k
  refine Wp.pos bI_f (Wp.eq (by rw [c_isWord hN (by decide) (by decide) h.1]) (Wp.bd1 (Wp.ret ?_)))
  cases q3 : isw t n 3 f with
  | true =>
    rw [q3, if_pos rfl] at k
    refine Wp.neg (by rw [bI_t]; decide) (Wp.ite (fun w => ?_) (fun w => ?_))
    · rw [x1 2 (by omega)] at w
      exact Wp.bd2 (c_sieve S hN h w (fun r I' hp => Wp.pos hp.r01 (Wp.ret (k _ _ _ hp))))
    · rw [x1 2 (by omega)] at w
      unfold spSieve at k; rw [if_pos w] at k
      exact fl (ofI (by decide)) k
  | false =>
  rw [q3, if_neg (by decide)] at k
  refine Wp.pos bI_f (Wp.eq (by rw [c_isWord hN (by decide) (by decide) h.1]) (Wp.bd1 (Wp.ret ?_)))
  cases q4 : isw t n 4 f with
  | true =>
    rw [q4, if_pos rfl] at k
    refine Wp.neg (by rw [bI_t]; decide) (Wp.ite (fun w => ?_) (fun w => ?_))
    · rw [x1 4 (by omega)] at w
      exact Wp.bd2 (c_liner S hN h (by omega) (fun r I' hp => Wp.pos hp.r01 (Wp.ret (k _ _ _ hp))))
    · rw [x1 4 (by omega)] at w
      unfold spLiner at k; rw [if_pos (by omega)] at k
      exact fl (ofI (by decide)) k
  | false =>
  rw [q4, if_neg (by decide)] at k
  refine Wp.pos bI_f (Wp.eq (by rw [c_isWord hN (by decide) (by decide) h.1]) (Wp.bd1 (Wp.ret ?_)))
  cases q5 : isw t n 5 f with
  | true =>
    rw [q5, if_pos rfl] at k
    refine Wp.neg (by rw [bI_t]; decide) (Wp.ite (fun w => ?_) (fun w => ?_))
    · rw [x1 5 (by omega)] at w
      exact Wp.bd2 (c_bin S hN h (by omega) (fun r I' hp => Wp.pos hp.r01 (Wp.ret (k _ _ _ hp))))
    · rw [x1 5 (by omega)] at w
      unfold spBin at k; rw [if_pos (by omega)] at k
      exact fl (ofI (by decide)) k
  | false =>
  rw [q5, if_neg (by decide)] at k
  refine Wp.pos bI_f (Wp.eq (by rw [c_isWord hN (by decide) (by decide) h.1]) (Wp.bd1 (Wp.ret ?_)))
  cases q6 : isw t n 6 f with
  | true =>
    rw [q6, if_pos rfl] at k
    refine Wp.neg (by rw [bI_t]; decide) (Wp.ite (fun w => ?_) (fun w => ?_))
    · rw [x1 9 (by omega)] at w
      exact Wp.bd2 (c_prices S hN h (by omega) (fun r I' hp => Wp.pos hp.r01 (Wp.ret (k _ _ _ hp))))
    · rw [x1 9 (by omega)] at w
      unfold spPrices at k; rw [if_pos (by omega)] at k
      exact fl (ofI (by decide)) k
  | false =>
  rw [q6, if_neg (by decide)] at k
  refine Wp.pos bI_f (Wp.eq (by rw [c_isWord hN (by decide) (by decide) h.1]) (Wp.bd1 (Wp.ret ?_)))
  cases q7 : isw t n 7 f with
  | true =>
    rw [q7, if_pos rfl] at k
    refine Wp.neg (by rw [bI_t]; decide) (Wp.ite (fun w => ?_) (fun w => ?_))
    · rw [x1 7 (by omega)] at w
      exact Wp.bd3 (c_size S hN h (x1 7 (by omega)) (by omega) (fun r I' J' hp => Wp.pos hp.r01 (Wp.ret (k _ _ _ hp))))
    · rw [x1 7 (by omega)] at w
      unfold spSize at k; rw [if_pos (by omega)] at k
      exact fl (ofI (by decide)) k
  | false =>
  rw [q7, if_neg (by decide)] at k
  refine Wp.pos bI_f (Wp.eq (by rw [c_isWord hN (by decide) (by decide) h.1]) (Wp.bd1 (Wp.ret ?_)))
  cases q8 : isw t n 8 f with
  | true =>
    rw [q8, if_pos rfl] at k
    refine Wp.neg (by rw [bI_t]; decide) (Wp.ite (fun w => ?_) (fun w => ?_))
    · rw [x1 8 (by omega)] at w
      unfold spOre at k
      refine Wp.bd3 (c_ore S hN h (x1 8 (by omega)) (by omega) (fun r I' J' hp => ?_))
      cases hA : spOreA t n f M with
      | error e =>
        rw [hA] at hp k
        obtain ⟨rfl, he⟩ := hp
        exact Wp.pos k_0 (Wp.ret (k _ _ _ (CP.er rfl he)))
      | ok q =>
        rw [hA] at hp k
        obtain ⟨rfl, hs⟩ := hp
        refine Wp.neg (by rw [k_1]; decide) ?_
        have h8 : q.2.1 8 = M.1 8 + 1 := by
          unfold spOreA at hA
          rw [if_neg (by omega)] at hA
          split at hA
          · split at hA
            · unfold ww wl at hA
              split at hA
              · rw [Ex_ok] at hA
                split at hA
                · split at hA
                  · rw [Ex_ok] at hA
                    split at hA
                    · cases hA; rfl
                    · cases hA
                  · cases hA
                · cases hA
              · cases hA
            · cases hA
          · cases hA
        have e8 := hs.2.1.1 8 (by omega)
        refine Wp.bd2 (c_tons S hN hs (by rw [t_sub e8 k_1 (by omega)]) (by omega) (fun r2 I2 hp2 => ?_))
        cases hB : tnl t n 6 0 (nx t n q.1) q.2 with
        | error e =>
          have k2 := k (Int32.ofInt 0) I2 J'
          rw [Ex_ok, hB] at k2
          rw [hB] at hp2
          obtain ⟨rfl, he⟩ := hp2
          exact Wp.pos k_0 (Wp.ret (k2 (CP.er rfl he)))
        | ok q2 =>
          have k2 := k (Int32.ofInt 1) I2 J'
          rw [Ex_ok, hB] at k2
          rw [hB] at hp2
          obtain ⟨rfl, hs2⟩ := hp2
          exact Wp.neg (by rw [k_1]; decide) (Wp.ret (k2 (CP.ok rfl hs2)))
    · rw [x1 8 (by omega)] at w
      have eA : spOre t n f M = .error (5, f) := by unfold spOre spOreA; rw [if_pos (by omega)]; rfl
      rw [eA] at k
      exact fl (ofI (by decide)) k
  | false =>
  rw [q8, if_neg (by decide)] at k
  exact Wp.pos bI_f (fl k_1 k)
theorem c_lacks (h : MR O a m I J M) : F_Ml_lacksLine N O I J m = some (bI (lks M)) := by
  obtain ⟨x1, x2, x3, x4⟩ := h
  unfold F_Ml_lacksLine
  simp only [jn]
  rw [x1 0 (by omega), x1 2 (by omega), x1 4 (by omega), x1 5 (by omega), x1 9 (by omega), x1 7 (by omega), x1 8 (by omega)]
  unfold lks
  by_cases q0 : M.1 0 = 0
  · rw [if_pos q0, decide_eq_true (Or.inl q0)]; rfl
  by_cases q2 : M.1 2 = -1
  · rw [if_neg q0, if_pos q2, decide_eq_true (by simp [q2])]; rfl
  by_cases q4 : M.1 4 = 0
  · rw [if_neg q0, if_neg q2, if_pos q4, decide_eq_true (by simp [q4])]; rfl
  by_cases q5 : M.1 5 = 0
  · rw [if_neg q0, if_neg q2, if_neg q4, if_pos q5, decide_eq_true (by simp [q5])]; rfl
  by_cases q9 : M.1 9 = 0
  · rw [if_neg q0, if_neg q2, if_neg q4, if_neg q5, if_pos q9, decide_eq_true (by simp [q9])]; rfl
  by_cases q7 : M.1 7 < 2
  · rw [if_neg q0, if_neg q2, if_neg q4, if_neg q5, if_neg q9, if_pos q7, decide_eq_true (by simp [q7])]; rfl
  by_cases q8 : M.1 8 = 0
  · rw [if_neg q0, if_neg q2, if_neg q4, if_neg q5, if_neg q9, if_neg q7, if_pos q8, decide_eq_true (by simp [q8])]; rfl
  rw [if_neg q0, if_neg q2, if_neg q4, if_neg q5, if_neg q9, if_neg q7, if_neg q8, decide_eq_false (by simp [q0, q2, q4, q5, q9, q7, q8])]; rfl
theorem c_wipe (hN : 800 ≤ N) {b κ : Nat} (hκ : alen κ < 700) {Q : WI → Prop} (k : ∀ I', (∀ i, i < alen κ → I' b i = Int32.ofInt 0) → (∀ c, c ≠ b → I' c = I c) → Q I') : Wp (F_RM_wipe N O I J b κ) Q := by
  unfold F_RM_wipe
  have hl : (Int32.ofNat (alen κ)).toInt = (alen κ : Int) := by
    rw [show Int32.ofNat (alen κ) = Int32.ofInt (alen κ : Int) from rfl]; exact ofI (by omega)
  have main : ∀ (mf p : Nat) (y : Int32) (I1 : WI), y.toInt = (p : Int) → p ≤ alen κ → (∀ i, i < p → I1 b i = Int32.ofInt 0) → (∀ c, c ≠ b → I1 c = I c) → alen κ - p < mf → Wp (lp (B_RM_wipe_2 N O b κ) (fun _ _ => none) mf y I1) Q := by
    intro mf
    induction mf with
    | zero => intro p y I1 _ _ _ _ h; omega
    | succ mf ih =>
      intro p y I1 hy hp h0 hc hm
      show Wp (B_RM_wipe_2 N O b κ (lp (B_RM_wipe_2 N O b κ) (fun _ _ => none) mf) y I1) Q
      unfold B_RM_wipe_2
      refine Wp.ite (fun q => Wp.ret (k _ (fun i hi => h0 i (by omega)) hc)) (fun q => Wp.pos (by omega) (Wp.lb (Wp.lb ?_)))
      refine ih (p + 1) _ _ (by rw [t_add hy k_1 (by omega)]; omega) (by omega) (fun i hi => ?_) (fun c h => by rw [up2_row _ _ h]; exact hc c h) (by omega)
      rcases Nat.lt_or_ge i p with w | w
      · rw [up2_ne _ _ (fun z => by omega)]; exact h0 i w
      · rw [show i = y.toInt.toNat by omega, up2_self]
  exact main N 0 _ I k_0 (by omega) (fun i h => absurd h (Nat.not_lt_zero i)) (fun _ _ => rfl) (by omega)
theorem c_empty (S : Sep O a m) (hN : 800 ≤ N) {Q : WI → Prop} (k : ∀ I', MR O a m I' J M0 → FC O a m I I' → I' a = I a → Q I') : Wp (F_Ml_makeEmpty N O I J m) Q := by
  unfold F_Ml_makeEmpty
  refine Wp.lb (Wp.lb (Wp.lb (Wp.lb (Wp.lb (Wp.lb (Wp.lb (Wp.lb (Wp.lb (Wp.lb ?_)))))))))
  generalize hI1 : up2 (up2 (up2 (up2 (up2 (up2 (up2 (up2 (up2 (up2 I m 0 (Int32.ofInt 0)) m 1 (Int32.ofInt 0)) m 2 (Int32.ofInt (-1))) m 3 (Int32.ofInt 0)) m 4 (Int32.ofInt 0)) m 5 (Int32.ofInt 0)) m 6 (Int32.ofInt 0)) m 7 (Int32.ofInt 0)) m 8 (Int32.ofInt 0)) m 9 (Int32.ofInt 0) = I1
  have hm : ∀ c, c ≠ m → I1 c = I c := fun c hc => by rw [← hI1]; simp only [up2_row _ _ hc]
  have hv : ∀ j, j < 10 → (I1 m j).toInt = M0.1 j := fun j hj => by
    rw [← hI1]
    rcases (show j = 0 ∨ j = 1 ∨ j = 2 ∨ j = 3 ∨ j = 4 ∨ j = 5 ∨ j = 6 ∨ j = 7 ∨ j = 8 ∨ j = 9 by omega) with rfl | rfl | rfl | rfl | rfl | rfl | rfl | rfl | rfl | rfl <;> (repeat (first | rw [up2_self] | rw [up2_ne _ _ (by omega)])) <;> rfl
  have d : ∀ i j, i < 5 → j < 5 → i ≠ j → rf O m (10 + i) ≠ rf O m (10 + j) := fun i j hi hj h z => h (S.2.2.2.2.2 i j hi hj z)
  have dm : ∀ j, j < 5 → m ≠ rf O m (10 + j) := fun j hj z => (S.2.2.2.2.1 j hj).2.1 z.symm
  have da : ∀ j, j < 5 → a ≠ rf O m (10 + j) := fun j hj z => (S.2.2.2.2.1 j hj).1 z.symm
  refine Wp.bd1 (c_wipe hN (by decide) (fun I2 z2 f2 => Wp.bd1 (c_wipe hN (by decide) (fun I3 z3 f3 => Wp.bd1 (c_wipe hN (by decide) (fun I4 z4 f4 => Wp.bd1 (c_wipe hN (by decide) (fun I5 z5 f5 => Wp.bd1 (c_wipe hN (by decide) (fun I6 z6 f6 => Wp.ret (k _ ?_ ?_ ?_)))))))))))
  · refine ⟨fun j hj => ?_, fun j i hj hi => ?_, by decide, ?_⟩
    · rw [f6 m (dm 4 (by omega)), f5 m (dm 3 (by omega)), f4 m (dm 2 (by omega)), f3 m (dm 1 (by omega)), f2 m (dm 0 (by omega))]; exact hv j hj
    · show _ = (0 : Int)
      rcases (show j = 0 ∨ j = 1 ∨ j = 2 ∨ j = 3 ∨ j = 4 by omega) with rfl | rfl | rfl | rfl | rfl
      · rw [f6 _ (d 0 4 (by omega) (by omega) (by omega)), f5 _ (d 0 3 (by omega) (by omega) (by omega)), f4 _ (d 0 2 (by omega) (by omega) (by omega)), f3 _ (d 0 1 (by omega) (by omega) (by omega)), z2 i hi]; exact k_0
      · rw [f6 _ (d 1 4 (by omega) (by omega) (by omega)), f5 _ (d 1 3 (by omega) (by omega) (by omega)), f4 _ (d 1 2 (by omega) (by omega) (by omega)), z3 i hi]; exact k_0
      · rw [f6 _ (d 2 4 (by omega) (by omega) (by omega)), f5 _ (d 2 3 (by omega) (by omega) (by omega)), z4 i hi]; exact k_0
      · rw [f6 _ (d 3 4 (by omega) (by omega) (by omega)), z5 i hi]; exact k_0
      · rw [z6 i hi]; exact k_0
    · refine ⟨fun i hi => ?_, fun i hi => ?_, fun q hq => (by cases hq), List.nodup_nil⟩
      · exfalso; have : (i : Int) < 0 := hi; omega
      · exfalso; have : (i : Int) < 0 := hi; omega
  · refine ⟨?_, fun b b1 b2 b3 => ?_⟩
    · rw [f6 a (da 4 (by omega)), f5 a (da 3 (by omega)), f4 a (da 2 (by omega)), f3 a (da 1 (by omega)), f2 a (da 0 (by omega)), hm a (fun z => S.1 z.symm)]
    · rw [f6 b (b3 4 (by omega)), f5 b (b3 3 (by omega)), f4 b (b3 2 (by omega)), f3 b (b3 1 (by omega)), f2 b (b3 0 (by omega)), hm b b2]
  · rw [f6 a (da 4 (by omega)), f5 a (da 3 (by omega)), f4 a (da 2 (by omega)), f3 a (da 1 (by omega)), f2 a (da 0 (by omega)), hm a (fun z => S.1 z.symm)]
theorem c_read (S : Sep O a m) (hN : 800 ≤ N) {x : Int32} {Q : Int32 × WI × WJ → Prop} (hx : x.toInt = (n : Int)) (hn : n ≤ 700) (ht : ∀ i, i < n → (I (rf O a 0) i).toInt = t i) (k : ∀ r I' J', CP O a m t n I J (spMill t n) r I' J' → Q (r, I', J')) : Wp (F_Rd_read N O I J a x m) Q := by
  unfold F_Rd_read
  refine Wp.bd1 (c_empty (a := a) S hN (fun I1 m1 f1 e1 => Wp.lb (Wp.lb (Wp.lb ?_))))
  generalize hI4 : up2 (up2 (up2 I1 a 2 (Int32.ofInt 0)) a 4 x) a 5 (Int32.ofInt 0) = I4
  have hE : EX a [2, 4, 5] I1 I4 := by
    rw [← hI4]
    exact ((EX.up.w (by decide) : EX a [2, 4, 5] I1 _).trans (EX.up.w (by decide))).trans (EX.up.w (by decide))
  have hT : TC O a I4 t n := ⟨hn, S.2.1, by rw [← hI4, up2_ne _ _ (by omega), up2_self]; exact hx, fun i hi => by
    rw [hE.ne S.2.1, f1.2 _ S.2.1 S.2.2.1 (fun j hj z => (S.2.2.2.2.1 j hj).2.2 z.symm)]; exact ht i hi⟩
  have e5 : (I4 a 5).toInt = ((0 : Nat) : Int) := by rw [← hI4, up2_self]; exact k_0
  refine Wp.bd1 (c_step hN hT e5 (by omega) (fun I5 x5 r5 => ?_))
  have h5 : CS O a m t n I J I5 J (rB t n 0) M0 := ⟨r5, (m1.ex S hE).ex S x5, by rw [x5.at (by decide), ← hI4, up2_ne _ _ (by omega), up2_ne _ _ (by omega), up2_self]; exact k_0, (f1.trans (FC.ex hE (by decide))).trans (FC.ex x5 (by decide)), fun _ _ _ => rfl⟩
  have main : ∀ (mf i : Nat) (y : Int32) (I1 : WI) (J1 : WJ) (f1 : Nat) (M1 : MM), CS O a m t n I J I1 J1 f1 M1 → y.toInt = (i : Int) → i ≤ 701 → 701 - i < mf → (∀ r I' J', CP O a m t n I J (spLs t n (701 - i) f1 M1) r I' J' → Q (r, I', J')) → Wp (lp (B_Rd_read_25 N O a m) (fun _ _ _ => none) mf y I1 J1) Q := by
    intro mf
    induction mf with
    | zero => intro i y I1 J1 f1 M1 _ _ _ h; omega
    | succ mf ih =>
      intro i y I1 J1 f1 M1 h1 hy hi hm k
      show Wp (B_Rd_read_25 N O a m (lp (B_Rd_read_25 N O a m) (fun _ _ _ => none) mf) y I1 J1) Q
      unfold B_Rd_read_25
      refine Wp.ite (fun q => ?_) (fun q => ?_)
      · rw [show 701 - i = 0 by omega] at k
        exact h1.failr S k_1 (g := fun z I' => some (z, I', J1)) (fun I2 h2 => Wp.ret (k _ _ _ (CP.er rfl h2)))
      · rw [show 701 - i = (700 - i) + 1 by omega] at k
        unfold spLs at k
        refine Wp.bd3 (c_line S hN h1 (fun r I' J' hp => ?_))
        cases hL : spLine t n f1 M1 with
        | error e =>
          rw [hL] at hp k
          obtain ⟨rfl, he⟩ := hp
          exact Wp.pos k_0 (Wp.ret (k _ _ _ (CP.er rfl he)))
        | ok w =>
          rw [hL] at hp k
          obtain ⟨rfl, hs⟩ := hp
          rw [Ex_ok] at k
          refine Wp.neg (by rw [k_1]; decide) ?_
          have h6 := hs.1.2.2.2.2.1
          refine Wp.ite (fun q0 => ?_) (fun q0 => ?_)
          · rw [if_pos (by rw [← h6]; exact q0)] at k
            refine Wp.eq (by rw [c_lacks hs.2.1]) (Wp.bd1 (Wp.ret ?_))
            cases hl : lks w.2 with
            | false =>
              rw [hl, if_neg (by decide)] at k
              exact Wp.pos bI_f (Wp.ret (k _ _ _ (CP.ok rfl hs)))
            | true =>
              rw [hl, if_pos rfl] at k
              exact Wp.neg (by rw [bI_t]; decide) (hs.failr S (w := 6) (ofI (by decide)) (g := fun z I2 => some (z, I2, J')) (fun I2 h2 => Wp.ret (k _ _ _ (CP.er rfl h2))))
          · rw [if_neg (by rw [← h6]; exact q0)] at k
            refine Wp.eq (by rw [c_isSign hs.1]) (Wp.bd1 (Wp.ret ?_))
            have ec : decide (kd t n w.1 = 4 ∧ t w.1 = (Int32.ofInt 59).toInt) = sc t n w.1 := by
              unfold sc; rw [show (Int32.ofInt 59).toInt = 59 from ofI (by decide)]
            rw [ec]
            cases hc : sc t n w.1 with
            | false =>
              rw [hc, if_neg (by decide)] at k
              exact Wp.pos bI_f (hs.failr S k_1 (g := fun z I2 => some (z, I2, J')) (fun I2 h2 => Wp.ret (k _ _ _ (CP.er rfl h2))))
            | true =>
              rw [hc, if_pos rfl] at k
              refine Wp.neg (by rw [bI_t]; decide) (Wp.bd1 (hs.next S hN (fun I9 h9 => Wp.lb (ih (i + 1) _ I9 J' _ _ h9 (by rw [t_add hy k_1 (by omega)]; omega) (by omega) (by omega) ?_))))
              rw [show 701 - (i + 1) = 700 - i by omega]; exact k
  exact main N 0 _ I5 J (rB t n 0) M0 h5 k_0 (by omega) (by omega) k
end CMILL
