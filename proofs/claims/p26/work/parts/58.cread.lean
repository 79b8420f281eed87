/-! the class's reader: the other lines, the whole text -/
theorem isnm_2 {t : Nat → Int} {n f : Nat} (h : isnm t n f = true) : kd t n f = 2 := by
  unfold isnm at h
  by_cases q : kd t n f = 2
  · exact q
  · simp [q] at h
theorem CP.r01 {O : WO} {a m : Nat} {t : Nat → Int} {n : Nat} {I0 : WI} {J0 : WJ} {e : ER} {r : Int32} {I : WI} {J : WJ} (h : CP O a m t n I0 J0 e r I J) : r.toInt = 0 ∨ r.toInt = 1 := by
  cases e with
  | ok q => rw [h.1]; exact Or.inr k_1
  | error w => rw [h.1]; exact Or.inl k_0
section CREAD
variable {N : Nat} {O : WO} {I I0 : WI} {J J0 : WJ} {a m : Nat} {t : Nat → Int} {n f : Nat} {M : MM}
theorem CS.name (hN : 800 ≤ N) (h : CS O a m t n I0 J0 I J f M) : F_Rd_isName N O I J a = some (bI (isnm t n f)) := c_isName hN h.1
theorem c_sieve (S : Sep O a m) (hN : 800 ≤ N) {Q : Int32 × WI → Prop} (h : CS O a m t n I0 J0 I J f M) (hz : M.1 2 = -1) (k : ∀ r I', CP O a m t n I0 J0 (spSieve t n f M) r I' J → Q (r, I')) : Wp (F_Rd_readSieve N O I J a m) Q := by
  unfold F_Rd_readSieve
  unfold spSieve at k
  rw [if_neg (fun z => z hz)] at k
  refine Wp.bd1 (h.next S hN (fun I1 h1 => ?_))
  refine Wp.eq (by rw [h1.name hN]) (Wp.bd1 (Wp.ret ?_))
  cases q : isnm t n (nx t n f) with
  | false =>
    rw [q, if_neg (by decide)] at k
    exact Wp.pos bI_f (h1.failr S k_1 (g := fun z I' => some (z, I')) (fun I2 h2 => Wp.ret (k _ _ (CP.er rfl h2))))
  | true =>
    rw [q, if_pos rfl] at k
    refine Wp.neg (by rw [bI_t]; decide) ?_
    obtain ⟨c, hc, ec⟩ := c_code (N := N) (J := J) hN h1.1 (isnm_2 q)
    obtain ⟨x1, x2, x3, x4⟩ := h1.2.1
    have e7 := x1 7 (by omega)
    obtain ⟨r, hr, pr⟩ := c_placeS (N := N) (O := O) (I := I1) (J := J) hN (c := c) (s := rf O a 8) (x := I1 m 7) (cnt := (M.1 7).toNat) (by omega) (by omega)
    rw [ec] at pr
    have hsz : r.toInt = szAt M.2.2 (cd t n (nx t n f)) := x4.sz (c := cd t n (nx t n f)) (by
      rcases pr with ⟨p1, p2⟩ | ⟨i, i1, i2, i3⟩
      · exact Or.inl ⟨p1, fun i hi => p2 i (by omega)⟩
      · exact Or.inr ⟨i, by omega, i2, i3⟩)
    refine Wp.eq (by rw [hc]) (Wp.bd1 (Wp.ret ?_))
    refine Wp.eq (by rw [hr]) (Wp.bd1 (Wp.ret ?_))
    refine Wp.ite (fun w => ?_) (fun w => ?_)
    · rw [if_pos (by rw [← hsz]; exact w)] at k
      exact h1.failr S (w := 2) (ofI (by decide)) (g := fun z I' => some (z, I')) (fun I2 h2 => Wp.ret (k _ _ (CP.er rfl h2)))
    · rw [if_neg (by rw [← hsz]; exact w)] at k
      refine Wp.lb (Wp.bd1 ((h1.put S (by decide) hsz).next S hN (fun I5 h5 => Wp.bd2 (h5.pass S hN (by decide) (by decide) (fun I6 w5 h6 => ?_) (fun I6 w5 h6 => ?_)))))
      · rw [ww_t w5, Ex_ok] at k
        refine Wp.neg (by rw [k_1]; decide) (Wp.bd2 (h6.whole S (ofI (by decide)) (ofI (by decide)) (fun w6 w7 w8 => ?_) (fun I7 w w6 h7 => ?_)))
        · rw [wl_t w6 w7] at k
          refine Wp.neg (by rw [k_1]; decide) (Wp.lb (Wp.bd1 ((h6.put S (by decide) w8).next S hN (fun I9 h9 => Wp.ret (k _ _ (CP.ok rfl h9))))))
        · rw [w6] at k
          exact Wp.pos k_0 (Wp.ret (k _ _ (CP.er rfl h7)))
      · rw [ww_f w5] at k
        exact Wp.pos k_0 (Wp.ret (k _ _ (CP.er rfl h6)))
theorem c_liner (S : Sep O a m) (hN : 800 ≤ N) {Q : Int32 × WI → Prop} (h : CS O a m t n I0 J0 I J f M) (hz : ¬ 0 < M.1 4) (k : ∀ r I', CP O a m t n I0 J0 (spLiner t n f M) r I' J → Q (r, I')) : Wp (F_Rd_readLiner N O I J a m) Q := by
  unfold F_Rd_readLiner
  unfold spLiner at k
  rw [if_neg hz] at k
  refine Wp.bd1 (h.next S hN (fun I2 h2 => Wp.bd2 (h2.whole S (ofI (by decide)) (ofI (by decide)) (fun w2 w3 w4 => ?_) (fun I3 w w2 h3 => ?_))))
  · rw [wl_t w2 w3] at k
    exact Wp.neg (by rw [k_1]; decide) (Wp.lb (Wp.bd1 ((h2.put S (by decide) w4).next S hN (fun I5 h5 => Wp.ret (k _ _ (CP.ok rfl h5))))))
  · rw [w2] at k
    exact Wp.pos k_0 (Wp.ret (k _ _ (CP.er rfl h3)))
theorem c_bin (S : Sep O a m) (hN : 800 ≤ N) {Q : Int32 × WI → Prop} (h : CS O a m t n I0 J0 I J f M) (hz : ¬ 0 < M.1 5) (k : ∀ r I', CP O a m t n I0 J0 (spBin t n f M) r I' J → Q (r, I')) : Wp (F_Rd_readBin N O I J a m) Q := by
  unfold F_Rd_readBin
  unfold spBin at k
  rw [if_neg hz] at k
  refine Wp.bd1 (h.next S hN (fun I2 h2 => Wp.bd2 (h2.whole S (ofI (by decide)) (ofI (by decide)) (fun w2 w3 w4 => ?_) (fun I3 w w2 h3 => ?_))))
  · rw [wl_t w2 w3, Ex_ok] at k
    refine Wp.neg (by rw [k_1]; decide) (Wp.lb (Wp.bd1 ((h2.put S (by decide) w4).next S hN (fun I5 h5 => Wp.bd2 (h5.pass S hN (by decide) (by decide) (fun I6 w5 h6 => ?_) (fun I6 w5 h6 => ?_))))))
    · rw [ww_t w5, Ex_ok] at k
      refine Wp.neg (by rw [k_1]; decide) (Wp.bd2 (h6.whole S (ofI (by decide)) (ofI (by decide)) (fun w6 w7 w8 => ?_) (fun I7 w w6 h7 => ?_)))
      · rw [wl_t w6 w7] at k
        refine Wp.neg (by rw [k_1]; decide) (Wp.lb (Wp.bd1 ((h6.put S (by decide) w8).next S hN (fun I9 h9 => Wp.ret (k _ _ (CP.ok rfl h9))))))
      · rw [w6] at k
        exact Wp.pos k_0 (Wp.ret (k _ _ (CP.er rfl h7)))
    · rw [ww_f w5] at k
      exact Wp.pos k_0 (Wp.ret (k _ _ (CP.er rfl h6)))
  · rw [w2] at k
    exact Wp.pos k_0 (Wp.ret (k _ _ (CP.er rfl h3)))
theorem c_prices (S : Sep O a m) (hN : 800 ≤ N) {Q : Int32 × WI → Prop} (h : CS O a m t n I0 J0 I J f M) (hz : ¬ 0 < M.1 9) (k : ∀ r I', CP O a m t n I0 J0 (spPrices t n f M) r I' J → Q (r, I')) : Wp (F_Rd_readPrices N O I J a m) Q := by
  unfold F_Rd_readPrices
  unfold spPrices at k
  rw [if_neg hz] at k
  have main : ∀ (mf i : Nat) (y : Int32) (I1 : WI) (f1 : Nat) (M1 : MM), CS O a m t n I0 J0 I1 J f1 M1 → y.toInt = (i : Int) → i ≤ 6 → 7 - i < mf → (∀ r I', CP O a m t n I0 J0 (prl t n (7 - i) i (nx t n f1) M1) r I' J → Q (r, I')) → Wp (lp (B_Rd_readPrices_2 N O a m J) (fun _ _ => none) mf y I1) Q := by
    intro mf
    induction mf with
    | zero => intro i y I1 f1 M1 _ _ _ h; omega
    | succ mf ih =>
      intro i y I1 f1 M1 h1 hy hi hm k
      show Wp (B_Rd_readPrices_2 N O a m J (lp (B_Rd_readPrices_2 N O a m J) (fun _ _ => none) mf) y I1) Q
      unfold B_Rd_readPrices_2
      rw [show 7 - i = (6 - i) + 1 by omega] at k
      unfold prl at k
      refine Wp.neg (by omega) (Wp.bd1 (h1.next S hN (fun I2 h2 => Wp.bd2 (h2.whole S (ofI (by decide)) (ofI (by decide)) (fun w2 w3 w4 => ?_) (fun I3 w w2 h3 => ?_)))))
      · rw [wl_t w2 w3, Ex_ok] at k
        refine Wp.neg (by rw [k_1]; decide) (Wp.ite (fun q => ?_) (fun q => ?_))
        · rw [if_neg (by omega)] at k
          refine Wp.pos (by omega) (Wp.lb (Wp.lb ?_))
          rw [show y.toInt.toNat = i by omega]
          have h4 := (h2.arr (j := 0) (i := i) S rfl (by decide) w4).put9 S (v := y + Int32.ofInt 1) (w := (i : Int) + 1) (t_add hy k_1 (by omega)) (by omega)
          refine Wp.bd1 (h4.next S hN (fun I6 h6 => ?_))
          refine Wp.eq (by rw [c_isSign h6.1]) (Wp.bd1 (Wp.ret ?_))
          have ec : decide (kd t n (nx t n (nx t n f1)) = 4 ∧ t (nx t n (nx t n f1)) = (Int32.ofInt 44).toInt) = cm t n (nx t n (nx t n f1)) := by
            unfold cm; rw [show (Int32.ofInt 44).toInt = 44 from ofI (by decide)]
          rw [ec]
          cases w : cm t n (nx t n (nx t n f1)) with
          | false =>
            rw [w, if_neg (by decide)] at k
            exact Wp.pos bI_f (Wp.ret (k _ _ (CP.ok rfl h6)))
          | true =>
            rw [w, if_pos rfl] at k
            refine Wp.neg (by rw [bI_t]; decide) (Wp.lb (ih (i + 1) _ I6 _ _ h6 (by rw [t_add hy k_1 (by omega)]; omega) (by omega) (by omega) ?_))
            rw [show 7 - (i + 1) = 6 - i by omega]; exact k
        · rw [if_pos (by omega)] at k
          exact h2.failr S (w := 5) (ofI (by decide)) (g := fun z I' => some (z, I')) (fun I3 h3 => Wp.ret (k _ _ (CP.er rfl h3)))
      · rw [w2] at k
        exact Wp.pos k_0 (Wp.ret (k _ _ (CP.er rfl h3)))
  exact main N 0 _ I f M h k_0 (by omega) (by omega) k
theorem c_size (S : Sep O a m) (hN : 800 ≤ N) {x : Int32} {Q : Int32 × WI × WJ → Prop} (h : CS O a m t n I0 J0 I J f M) (hx : x.toInt = M.1 7) (hz : ¬ 5 ≤ M.1 7) (k : ∀ r I' J', CP O a m t n I0 J0 (spSize t n f M) r I' J' → Q (r, I', J')) : Wp (F_Rd_readSize N O I J a m x) Q := by
  unfold F_Rd_readSize
  unfold spSize at k
  rw [if_neg hz] at k
  have r7 := h.2.1.2.2.1.1
  have ei : x.toInt.toNat = (M.1 7).toNat := by rw [hx]
  refine Wp.bd1 (h.next S hN (fun I1 h1 => ?_))
  refine Wp.eq (by rw [h1.name hN]) (Wp.bd1 (Wp.ret ?_))
  cases q : isnm t n (nx t n f) with
  | false =>
    rw [q, if_neg (by decide)] at k
    exact Wp.pos bI_f (h1.failr S k_1 (g := fun z I' => some (z, I', J)) (fun I2 h2 => Wp.ret (k _ _ _ (CP.er rfl h2))))
  | true =>
    rw [q, if_pos rfl] at k
    refine Wp.neg (by rw [bI_t]; decide) ?_
    refine Wp.eq (by rw [h1.told hN (isnm_2 q)]) (Wp.bd1 (Wp.ret ?_))
    refine Wp.ite (fun w => ?_) (fun w => ?_)
    · rw [bI_d0, Decidable.not_not] at w
      rw [if_pos w] at k
      refine Wp.jn (Wp.neg (by omega) (Wp.pos (by omega) ?_))
      obtain ⟨c, hc, ec⟩ := c_code (N := N) (J := J) hN h1.1 (isnm_2 q)
      refine Wp.eq (by rw [hc]) (Wp.bd1 (Wp.ret ?_))
      refine Wp.pos (by omega) (Wp.lb (Wp.lb ?_))
      have h7 := h1.size (x := x) (v := x + Int32.ofInt 1) S hx (by omega) (by rw [← hx]; exact t_add rfl k_1 (by omega)) ec w
      refine Wp.bd1 (h7.next S hN (fun I8 h8 => ?_))
      refine Wp.eq (by rw [c_isWord hN (by decide) (by decide) h8.1]) (Wp.bd1 (Wp.ret ?_))
      cases q2 : isw t n 11 (nx t n (nx t n f)) with
      | false =>
        rw [q2, if_neg (by decide)] at k
        exact Wp.pos bI_f (Wp.ret (k _ _ _ (CP.ok rfl h8)))
      | true =>
        rw [q2, if_pos rfl] at k
        refine Wp.neg (by rw [bI_t]; decide) (Wp.bd1 (h8.next S hN (fun I10 h10 => Wp.bd2 (h10.whole S (ofI (by decide)) (ofI (by decide)) (fun w2 w3 w4 => ?_) (fun I3 w w2 h3 => ?_)))))
        · rw [wl_t w2 w3, Ex_ok] at k
          have h12 := h10.arr (j := 1) (i := x.toInt.toNat) S rfl (by decide) w4
          refine Wp.neg (by rw [k_1]; decide) (Wp.pos (by omega) (Wp.lb (Wp.bd1 (h12.next S hN (fun I13 h13 => Wp.bd2 (h13.pass S hN (by decide) (by decide) (fun I14 w5 h14 => ?_) (fun I14 w5 h14 => ?_)))))))
          · rw [ww_t w5, Ex_ok] at k
            refine Wp.neg (by rw [k_1]; decide) (Wp.bd2 (h14.whole S (ofI (by decide)) (ofI (by decide)) (fun w6 w7 w8 => ?_) (fun I15 w w6 h15 => ?_)))
            · rw [wl_t w6 w7] at k
              have h16 := h14.arr (j := 2) (i := x.toInt.toNat) S rfl (by decide) w8
              refine Wp.neg (by rw [k_1]; decide) (Wp.pos (by omega) (Wp.lb (Wp.bd1 (h16.next S hN (fun I17 h17 => Wp.ret (k _ _ _ (CP.ok rfl ?_)))))))
              rw [ei] at h17 ⊢; exact h17
            · rw [w6] at k
              exact Wp.pos k_0 (Wp.ret (k _ _ _ (CP.er rfl h15)))
          · rw [ww_f w5] at k
            exact Wp.pos k_0 (Wp.ret (k _ _ _ (CP.er rfl h14)))
        · rw [w2] at k
          exact Wp.pos k_0 (Wp.ret (k _ _ _ (CP.er rfl h3)))
    · rw [bI_d0, Decidable.not_not] at w
      rw [if_neg w] at k
      exact h1.failr S (w := 3) (ofI (by decide)) (g := fun z I' => some (z, I', J)) (fun I2 h2 => Wp.ret (k _ _ _ (CP.er rfl h2)))
theorem c_ore (S : Sep O a m) (hN : 800 ≤ N) {x : Int32} {Q : Int32 × WI × WJ → Prop} (h : CS O a m t n I0 J0 I J f M) (hx : x.toInt = M.1 8) (hz : ¬ 4 ≤ M.1 8) (k : ∀ r I' J', CP O a m t n I0 J0 (spOreA t n f M) r I' J' → Q (r, I', J')) : Wp (F_Rd_readOre N O I J a m x) Q := by
  unfold F_Rd_readOre
  unfold spOreA at k
  rw [if_neg hz] at k
  have r7 := h.2.1.2.2.1.2.2.1
  have ei : x.toInt.toNat = (M.1 8).toNat := by rw [hx]
  refine Wp.bd1 (h.next S hN (fun I1 h1 => ?_))
  refine Wp.eq (by rw [h1.name hN]) (Wp.bd1 (Wp.ret ?_))
  cases q : isnm t n (nx t n f) with
  | false =>
    rw [q, if_neg (by decide)] at k
    exact Wp.pos bI_f (h1.failr S k_1 (g := fun z I' => some (z, I', J)) (fun I2 h2 => Wp.ret (k _ _ _ (CP.er rfl h2))))
  | true =>
    rw [q, if_pos rfl] at k
    refine Wp.neg (by rw [bI_t]; decide) ?_
    refine Wp.eq (by rw [h1.told hN (isnm_2 q)]) (Wp.bd1 (Wp.ret ?_))
    refine Wp.ite (fun w => ?_) (fun w => ?_)
    · rw [bI_d0, Decidable.not_not] at w
      rw [if_pos w] at k
      refine Wp.jn (Wp.neg (by omega) (Wp.pos (by omega) ?_))
      obtain ⟨c, hc, ec⟩ := c_code (N := N) (J := J) hN h1.1 (isnm_2 q)
      refine Wp.eq (by rw [hc]) (Wp.bd1 (Wp.ret ?_))
      refine Wp.pos (by omega) (Wp.lb (Wp.lb ?_))
      have h7 := h1.ore (x := x) (v := x + Int32.ofInt 1) S hx (by omega) (by rw [← hx]; exact t_add rfl k_1 (by omega)) ec w
      refine Wp.bd1 (h7.next S hN (fun I8 h8 => Wp.bd2 (h8.pass S hN (by decide) (by decide) (fun I9 w5 h9 => ?_) (fun I9 w5 h9 => ?_))))
      · rw [ww_t w5, Ex_ok] at k
        refine Wp.neg (by rw [k_1]; decide) (Wp.bd2 (h9.whole S (ofI (by decide)) (ofI (by decide)) (fun w2 w3 w4 => ?_) (fun I3 w w2 h3 => ?_)))
        · rw [wl_t w2 w3, Ex_ok] at k
          have h11 := h9.arr (j := 3) (i := x.toInt.toNat) S rfl (by decide) w4
          refine Wp.neg (by rw [k_1]; decide) (Wp.pos (by omega) (Wp.lb (Wp.bd1 (h11.next S hN (fun I12 h12 => ?_)))))
          refine Wp.eq (by rw [c_isWord hN (by decide) (by decide) h12.1]) (Wp.bd1 (Wp.ret ?_))
          revert k
          generalize hf3 : nx t n (nx t n (nx t n f)) = f3 at *
          intro k
          cases q2 : isw t n 14 (nx t n f3) with
          | false =>
            rw [q2, if_neg (by decide)] at k
            exact Wp.pos bI_f (h12.failr S k_1 (g := fun z I' => some (z, I', _)) (fun I2 h2 => Wp.ret (k _ _ _ (CP.er rfl h2))))
          | true =>
            rw [q2, if_pos rfl] at k
            refine Wp.neg (by rw [bI_t]; decide) (Wp.ret (k _ _ _ (CP.ok rfl ?_)))
            rw [ei] at h12 ⊢; exact h12
        · rw [w2] at k
          exact Wp.pos k_0 (Wp.ret (k _ _ _ (CP.er rfl h3)))
      · rw [ww_f w5] at k
        exact Wp.pos k_0 (Wp.ret (k _ _ _ (CP.er rfl h9)))
    · rw [bI_d0, Decidable.not_not] at w
      rw [if_neg w] at k
      exact h1.failr S (w := 3) (ofI (by decide)) (g := fun z I' => some (z, I', J)) (fun I2 h2 => Wp.ret (k _ _ _ (CP.er rfl h2)))
theorem c_tons (S : Sep O a m) (hN : 800 ≤ N) {x : Int32} {Q : Int32 × WI → Prop} (h : CS O a m t n I0 J0 I J f M) (hx : x.toInt = M.1 8 - 1) (h1o : 1 ≤ M.1 8) (k : ∀ r I', CP O a m t n I0 J0 (tnl t n 6 0 (nx t n f) M) r I' J → Q (r, I')) : Wp (F_Rd_readTons N O I J a m x) Q := by
  unfold F_Rd_readTons
  obtain ⟨g1, g2, g3, g4, g5, g6⟩ := h.2.1.2.2.1
  refine Wp.lb ?_
  have hv : (x * Int32.ofInt 5).toInt = (M.1 8 - 1) * 5 := t_mul hx (ofI (by decide)) (by omega)
  generalize x * Int32.ofInt 5 = v at hv ⊢
  have main : ∀ (mf i : Nat) (y : Int32) (I1 : WI) (f1 : Nat) (M1 : MM), CS O a m t n I0 J0 I1 J f1 M1 → M1.1 = M.1 → y.toInt = (i : Int) → i ≤ 5 → 6 - i < mf → (∀ r I', CP O a m t n I0 J0 (tnl t n (6 - i) i (nx t n f1) M1) r I' J → Q (r, I')) → Wp (lp (B_Rd_readTons_7 N O a m J v) (fun _ _ => none) mf y I1) Q := by
    intro mf
    induction mf with
    | zero => intro i y I1 f1 M1 _ _ _ _ h; omega
    | succ mf ih =>
      intro i y I1 f1 M1 h1 hM hy hi hm k
      show Wp (B_Rd_readTons_7 N O a m J v (lp (B_Rd_readTons_7 N O a m J v) (fun _ _ => none) mf) y I1) Q
      unfold B_Rd_readTons_7
      rw [show 6 - i = (5 - i) + 1 by omega] at k
      unfold tnl at k
      rw [hM] at k
      refine Wp.neg (by omega) (Wp.bd1 (h1.next S hN (fun I2 h2 => Wp.bd2 (h2.whole S (ofI (by decide)) (ofI (by decide)) (fun w2 w3 w4 => ?_) (fun I3 w w2 h3 => ?_)))))
      · rw [wl_t w2 w3, Ex_ok] at k
        have e7 : (I2 m 7).toInt = M.1 7 := by rw [h2.2.1.1 7 (by omega), hM]
        have evy : (v + y).toInt = (M.1 8 - 1) * 5 + i := t_add hv hy (by omega)
        refine Wp.neg (by rw [k_1]; decide) (Wp_jq (fun kk => M.1 7 ≤ (i : Int) → Wp kk Q) (fun q => ?_) (fun kk hk => ?_))
        · rw [if_pos q] at k
          exact h2.failr S (w := 5) (ofI (by decide)) (g := fun z I' => some (z, I')) (fun I3 h3 => Wp.ret (k _ _ (CP.er rfl h3)))
        · refine Wp.ite (fun q => hk (by have q : (I2 m 7).toInt ≤ y.toInt := q; omega)) (fun q => ?_)
          replace q : ¬ (I2 m 7).toInt ≤ y.toInt := q
          rw [if_neg (by omega)] at k
          refine Wp.neg (by omega) (Wp.pos (by omega) (Wp.pos (by omega) (Wp.lb ?_)))
          rw [show (v + y).toInt.toNat = 5 * (M.1 8 - 1).toNat + i by omega]
          have h4 := h2.arr (j := 4) (i := 5 * (M.1 8 - 1).toNat + i) S rfl (by decide) w4
          refine Wp.bd1 (h4.next S hN (fun I6 h6 => ?_))
          refine Wp.eq (by rw [c_isSign h6.1]) (Wp.bd1 (Wp.ret ?_))
          have ec : decide (kd t n (nx t n (nx t n f1)) = 4 ∧ t (nx t n (nx t n f1)) = (Int32.ofInt 44).toInt) = cm t n (nx t n (nx t n f1)) := by
            unfold cm; rw [show (Int32.ofInt 44).toInt = 44 from ofI (by decide)]
          rw [ec]
          cases w : cm t n (nx t n (nx t n f1)) with
          | false =>
            rw [w, if_neg (by decide)] at k
            exact Wp.pos bI_f (Wp.ret (k _ _ (CP.ok rfl h6)))
          | true =>
            rw [w, if_pos rfl] at k
            refine Wp.neg (by rw [bI_t]; decide) (Wp.lb (ih (i + 1) _ I6 _ _ h6 hM (by rw [t_add hy k_1 (by omega)]; omega) (by omega) (by omega) ?_))
            rw [show 6 - (i + 1) = 5 - i by omega]; exact k
      · rw [w2] at k
        exact Wp.pos k_0 (Wp.ret (k _ _ (CP.er rfl h3)))
  exact main N 0 _ I f M h rfl k_0 (by omega) (by omega) k
end CREAD
