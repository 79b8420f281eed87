/-! the reference's reader: its lines (3): prices, names, sizes, ores -/
section RSIZE
variable {N : Nat} {O : WO} {I I0 : WI} {J J0 : WJ} {a : Nat} {t : Nat → Int} {n f : Nat} {M : MM} {e : ER}
theorem XR.arr {j i : Nat} {v : Int32} {w : Int} (S : SX0 O a) (h : XR O (rf O a 4) I J M) (hj : j < 5) (hv : v.toInt = w) : XR O (rf O a 4) (up2 I (rf O (rf O a 4) (11 + j)) i v) J (sa M j i w) := by
  obtain ⟨h1, h2, h3⟩ := h
  have Sj := S.2.2.2.1 j (by omega)
  have eF : up2 I (rf O (rf O a 4) (11 + j)) i v (rf O a 4) = I (rf O a 4) := up2_row _ _ (fun z => Sj.2.1 z.symm)
  refine ⟨by rw [eF]; exact h1, fun j' i' hj' hi' => ?_, fun k q hq => ?_⟩
  · by_cases e : j' = j ∧ i' = i
    · obtain ⟨rfl, rfl⟩ := e
      rw [up2_self]; show _ = up2 M.2.1 j' i' w j' i'; rw [up2_self]; exact hv
    · rw [up2_ne _ _ (fun z => e ⟨S.2.2.2.2 j' j (by omega) (by omega) z.1, z.2⟩)]
      show _ = up2 M.2.1 j i w j' i'; rw [up2_ne _ _ e]; exact h2 j' i' hj' hi'
  · rw [up2_ne _ _ (fun z => by have := S.2.2.2.2 6 j (by omega) (by omega) z.1; omega)]; exact h3 k q hq
theorem OKX.arr {j i : Nat} {v : Int32} (S : SX0 O a) (h : OKX O a I) (hj : j < 5) (hv : j = 3 → 0 ≤ v.toInt ∧ v.toInt ≤ 9) : OKX O a (up2 I (rf O (rf O a 4) (11 + j)) i v) := by
  obtain ⟨h1, h2, h3, h4, h5, h6, h7⟩ := h
  have Sj := S.2.2.2.1 j (by omega)
  have eF : up2 I (rf O (rf O a 4) (11 + j)) i v (rf O a 4) = I (rf O a 4) := up2_row _ _ (fun z => Sj.2.1 z.symm)
  have ea : up2 I (rf O (rf O a 4) (11 + j)) i v a = I a := up2_row _ _ (fun z => Sj.1 z.symm)
  refine ⟨by rw [ea]; exact h1, by rw [eF]; exact h2, by rw [eF]; exact h3, by rw [eF]; exact h4, by rw [eF]; exact h5, fun k => ?_, fun k => ?_⟩
  · by_cases q : rf O (rf O a 4) 14 = rf O (rf O a 4) (11 + j) ∧ k = i
    · have hj3 : 3 = j := S.2.2.2.2 3 j (by omega) (by omega) q.1
      subst hj3; rw [q.2, up2_self]; exact hv rfl
    · rw [up2_ne _ _ q]; exact h6 k
  · rw [up2_ne _ _ (fun z => by have := S.2.2.2.2 6 j (by omega) (by omega) z.1; omega)]; exact h7 k
theorem SX.arr {b j i : Nat} {v : Int32} {w : Int} (S : SX0 O a) (h : SX O a t n I0 J0 I J f M) (hb : b = rf O (rf O a 4) (11 + j)) (hj : j < 5) (hv : v.toInt = w) (h3 : j = 3 → 0 ≤ w ∧ w ≤ 9) : SX O a t n I0 J0 (up2 I b i v) J f (sa M j i w) := by
  subst hb
  obtain ⟨h1, h2, h3', h4, h5, h6⟩ := h
  have Sj := S.2.2.2.1 j (by omega)
  exact ⟨h1.nw Sj.1 Sj.2.2 (fun c hc => up2_row _ _ hc), by rw [up2_ne _ _ (fun z => Sj.1 z.1.symm)]; exact h2, h3'.arr S hj hv, h4.arr S hj (by rw [hv]; exact h3), h5.arr S (by omega), h6⟩
theorem OX.arr {b j i : Nat} {v : Int32} {w : Int} {p : Nat} (S : SX0 O a) (h : OX O a I0 J0 I J w p) (hb : b = rf O (rf O a 4) (11 + j)) (hj : j < 5) (h3 : j ≠ 3) : OX O a I0 J0 (up2 I b i v) J w p := by
  subst hb
  obtain ⟨h1, h2, h3', h4, h5, h6⟩ := h
  have Sj := S.2.2.2.1 j (by omega)
  have ea : up2 I (rf O (rf O a 4) (11 + j)) i v a = I a := up2_row _ _ (fun z => Sj.1 z.symm)
  exact ⟨by rw [ea]; exact h1, by rw [ea]; exact h2, by rw [ea]; exact h3', h4.arr S hj (fun z => absurd z h3), h5.arr S (by omega), h6⟩
theorem SOV.arr {b j i : Nat} {e : EV} {v : Int32} (S : SX0 O a) (h : SOV O a t n I0 J0 e v I J) (hb : b = rf O (rf O a 4) (11 + j)) (hj : j < 5) (h3 : j ≠ 3) : SO O a t n I0 J0 (eA j i e) (up2 I b i v) J := by
  cases e with
  | ok w => exact SX.arr S h.2 hb hj h.1 (fun z => absurd z h3)
  | error w => exact OX.arr S h hb hj h3
theorem SX.put7 {v : Int32} {w : Int} (S : SX0 O a) (h : SX O a t n I0 J0 I J f M) (hv : v.toInt = w) (hw : 0 ≤ w ∧ w ≤ 6) : SX O a t n I0 J0 (up2 I (rf O a 4) 7 v) J f (sg M 9 w) := by
  obtain ⟨h1, h2, ⟨⟨a0, a1, a2, a3, a4, a5, a6, a7, a8, a9, a10, b0, b4, b5⟩, g2, g3⟩, ⟨o1, o2, o3, o4, o5, o6, o7⟩, h5, h6⟩ := h
  have ea : up2 I (rf O a 4) 7 v a = I a := up2_row _ _ (fun z => S.1 z.symm)
  have hne : ∀ j, j < 7 → rf O (rf O a 4) (11 + j) ≠ rf O a 4 := fun j hj => (S.2.2.2.1 j hj).2.1
  refine ⟨h1.nw S.1 (fun z => S.2.2.1 z.symm) (fun c hc => up2_row _ _ hc), by rw [ea]; exact h2, ⟨?_, fun j i hj hi => by rw [up2_ne _ _ (fun z => hne j (by omega) z.1)]; exact g2 j i hj hi, fun j q hq => by rw [up2_ne _ _ (fun z => hne 6 (by omega) z.1)]; exact g3 j q hq⟩, ⟨by rw [ea]; exact o1, by rw [up2_self, hv]; exact hw, by rw [up2_ne _ _ (by omega)]; exact o3, by rw [up2_ne _ _ (by omega)]; exact o4, by rw [up2_ne _ _ (by omega)]; exact o5, fun k => by rw [up2_ne _ _ (fun z => hne 3 (by omega) z.1)]; exact o6 k, fun k => by rw [up2_ne _ _ (fun z => hne 6 (by omega) z.1)]; exact o7 k⟩, h5.f S, h6⟩
  simp [up2, sg, u1, a0, a1, a2, a3, a4, a5, a6, a8, a9, a10, b0, b4, b5, hv]
theorem SX.put8 {v : Int32} {w : Int} (S : SX0 O a) (h : SX O a t n I0 J0 I J f M) (hv : v.toInt = w) (hw : 0 ≤ w ∧ w ≤ 5) : SX O a t n I0 J0 (up2 I (rf O a 4) 8 v) J f (sg M 7 w) := by
  obtain ⟨h1, h2, ⟨⟨a0, a1, a2, a3, a4, a5, a6, a7, a8, a9, a10, b0, b4, b5⟩, g2, g3⟩, ⟨o1, o2, o3, o4, o5, o6, o7⟩, h5, h6⟩ := h
  have ea : up2 I (rf O a 4) 8 v a = I a := up2_row _ _ (fun z => S.1 z.symm)
  have hne : ∀ j, j < 7 → rf O (rf O a 4) (11 + j) ≠ rf O a 4 := fun j hj => (S.2.2.2.1 j hj).2.1
  refine ⟨h1.nw S.1 (fun z => S.2.2.1 z.symm) (fun c hc => up2_row _ _ hc), by rw [ea]; exact h2, ⟨?_, fun j i hj hi => by rw [up2_ne _ _ (fun z => hne j (by omega) z.1)]; exact g2 j i hj hi, fun j q hq => by rw [up2_ne _ _ (fun z => hne 6 (by omega) z.1)]; exact g3 j q hq⟩, ⟨by rw [ea]; exact o1, by rw [up2_ne _ _ (by omega)]; exact o2, by rw [up2_self, hv]; exact hw, by rw [up2_ne _ _ (by omega)]; exact o4, by rw [up2_ne _ _ (by omega)]; exact o5, fun k => by rw [up2_ne _ _ (fun z => hne 3 (by omega) z.1)]; exact o6 k, fun k => by rw [up2_ne _ _ (fun z => hne 6 (by omega) z.1)]; exact o7 k⟩, h5.f S, h6⟩
  simp [up2, sg, u1, a0, a1, a2, a3, a4, a5, a6, a7, a9, a10, b0, b4, b5, hv]
theorem SX.put9 {v : Int32} {w : Int} (S : SX0 O a) (h : SX O a t n I0 J0 I J f M) (hv : v.toInt = w) (hw : 0 ≤ w ∧ w ≤ 4) : SX O a t n I0 J0 (up2 I (rf O a 4) 9 v) J f (sg M 8 w) := by
  obtain ⟨h1, h2, ⟨⟨a0, a1, a2, a3, a4, a5, a6, a7, a8, a9, a10, b0, b4, b5⟩, g2, g3⟩, ⟨o1, o2, o3, o4, o5, o6, o7⟩, h5, h6⟩ := h
  have ea : up2 I (rf O a 4) 9 v a = I a := up2_row _ _ (fun z => S.1 z.symm)
  have hne : ∀ j, j < 7 → rf O (rf O a 4) (11 + j) ≠ rf O a 4 := fun j hj => (S.2.2.2.1 j hj).2.1
  refine ⟨h1.nw S.1 (fun z => S.2.2.1 z.symm) (fun c hc => up2_row _ _ hc), by rw [ea]; exact h2, ⟨?_, fun j i hj hi => by rw [up2_ne _ _ (fun z => hne j (by omega) z.1)]; exact g2 j i hj hi, fun j q hq => by rw [up2_ne _ _ (fun z => hne 6 (by omega) z.1)]; exact g3 j q hq⟩, ⟨by rw [ea]; exact o1, by rw [up2_ne _ _ (by omega)]; exact o2, by rw [up2_ne _ _ (by omega)]; exact o3, by rw [up2_self, hv]; exact hw, by rw [up2_ne _ _ (by omega)]; exact o5, fun k => by rw [up2_ne _ _ (fun z => hne 3 (by omega) z.1)]; exact o6 k, fun k => by rw [up2_ne _ _ (fun z => hne 6 (by omega) z.1)]; exact o7 k⟩, h5.f S, h6⟩
  simp [up2, sg, u1, a0, a1, a2, a3, a4, a5, a6, a7, a8, a10, b0, b4, b5, hv]
theorem SX.name {x v : Int32} {c : Int64} {w s : Int} (S : SX0 O a) (h : SX O a t n I0 J0 I J f M) (hl : M.2.2.length < 9) (hc : c.toInt = w) (hx : x.toInt = s) (hs : -1 ≤ s ∧ s ≤ 4) (hv : v.toInt = (M.2.2.length : Int) + 1) : SX O a t n I0 J0 (up2 (up2 I (rf O (rf O a 4) 17) M.2.2.length x) (rf O a 4) 10 v) (up2 J (rf O (rf O a 4) 16) M.2.2.length c) f (sn M w s) := by
  obtain ⟨h1, h2, ⟨⟨a0, a1, a2, a3, a4, a5, a6, a7, a8, a9, a10, b0, b4, b5⟩, g2, g3⟩, ⟨o1, o2, o3, o4, o5, o6, o7⟩, h5, h6⟩ := h
  have S17 := S.2.2.2.1 6 (by omega)
  have S16 := S.2.2.2.1 5 (by omega)
  have hne : ∀ j, j < 7 → rf O (rf O a 4) (11 + j) ≠ rf O a 4 := fun j hj => (S.2.2.2.1 j hj).2.1
  have hne7 : ∀ j, j < 6 → rf O (rf O a 4) (11 + j) ≠ rf O (rf O a 4) 17 := fun j hj z => by have := S.2.2.2.2 j 6 (by omega) (by omega) z; omega
  have eI : ∀ b k, b ≠ rf O a 4 → b ≠ rf O (rf O a 4) 17 → up2 (up2 I (rf O (rf O a 4) 17) M.2.2.length x) (rf O a 4) 10 v b k = I b k := fun b k q1 q2 => by rw [up2_ne _ _ (fun z => q1 z.1), up2_ne _ _ (fun z => q2 z.1)]
  have eF : ∀ k, k ≠ 10 → up2 (up2 I (rf O (rf O a 4) 17) M.2.2.length x) (rf O a 4) 10 v (rf O a 4) k = I (rf O a 4) k := fun k q => by rw [up2_ne _ _ (fun z => q z.2), up2_ne _ _ (fun z => S17.2.1 z.1.symm)]
  have ea : up2 (up2 I (rf O (rf O a 4) 17) M.2.2.length x) (rf O a 4) 10 v a = I a := by funext k; exact eI a k (fun z => S.1 z.symm) (fun z => S17.1 z.symm)
  have eJa : up2 J (rf O (rf O a 4) 16) M.2.2.length c a = J a := up2_row _ _ (fun z => S16.1 z.symm)
  refine ⟨?_, by rw [ea]; exact h2, ⟨⟨by rw [eF 0 (by omega)]; exact a0, by rw [eF 1 (by omega)]; exact a1, by rw [eF 2 (by omega)]; exact a2, by rw [eF 3 (by omega)]; exact a3, by rw [eF 4 (by omega)]; exact a4, by rw [eF 5 (by omega)]; exact a5, by rw [eF 6 (by omega)]; exact a6, by rw [eF 7 (by omega)]; exact a7, by rw [eF 8 (by omega)]; exact a8, by rw [eF 9 (by omega)]; exact a9, ?_, b0, b4, b5⟩, fun j i hj hi => by rw [eI _ _ (hne j (by omega)) (hne7 j (by omega))]; exact g2 j i hj hi, fun k q hq => ?_⟩, ⟨by rw [ea]; exact o1, by rw [eF 7 (by omega)]; exact o2, by rw [eF 8 (by omega)]; exact o3, by rw [eF 9 (by omega)]; exact o4, by rw [up2_self, hv]; omega, fun k => by rw [eI _ _ (hne 3 (by omega)) (hne7 3 (by omega))]; exact o6 k, fun k => ?_⟩, (h5.arr (j := 6) S (by omega)).f S, ?_⟩
  · obtain ⟨⟨y1, y2, y3, y4⟩, y⟩ := h1
    refine ⟨⟨y1, y2, by rw [ea]; exact y3, fun i hi => by rw [eI _ _ S.2.2.1 (fun z => S17.2.2 z.symm)]; exact y4 i hi⟩, ?_⟩
    rw [ea, eJa]; exact y
  · rw [up2_self, hv]; show _ = ((M.2.2 ++ [(w, s)]).length : Int); rw [List.length_append]; rfl
  · have hq : (M.2.2 ++ [(w, s)])[k]? = some q := hq
    rcases Nat.lt_or_ge k M.2.2.length with r | r
    · rw [List.getElem?_append_left r] at hq
      rw [up2_ne _ _ (fun z => by omega), up2_ne _ _ (fun z => hne 6 (by omega) z.1), up2_ne _ _ (fun z => by omega)]; exact g3 k q hq
    · have ek : k = M.2.2.length := by
        have := (List.getElem?_eq_some_iff.mp hq).1
        rw [List.length_append] at this
        have : k < M.2.2.length + 1 := this
        omega
      subst ek
      rw [List.getElem?_append_right (Nat.le_refl _), Nat.sub_self] at hq
      have : (w, s) = q := by simpa using hq
      subst this
      rw [up2_self, up2_ne _ _ (fun z => hne 6 (by omega) z.1), up2_self]; exact ⟨hc, hx⟩
  · by_cases r : k = M.2.2.length
    · rw [r, up2_ne _ _ (fun z => hne 6 (by omega) z.1), up2_self, hx]; exact hs
    · rw [up2_ne _ _ (fun z => hne 6 (by omega) z.1), up2_ne _ _ (fun z => r z.2)]; exact o7 k
  · exact ⟨fun k q => by rw [eJa]; exact h6.1 k q, fun b b1 b2 => by rw [up2_row _ _ b2]; exact h6.2 b b1 b2⟩
theorem SX.s5 (h : SX O a t n I0 J0 I J f M) : ¬ (I a 9).toInt = 5 := by rw [h.1.2.2.1]; exact sx5
theorem r_prices (S : SX0 O a) (hN : 800 ≤ N) {Q : WI × WJ → Prop} (h : SX O a t n I0 J0 I J f M) (hk : kd t n f ≠ 1) (k : ∀ I' J', SO O a t n I0 J0 (spPrices t n f M) I' J' → Q (I', J')) : Wp (F_Mo_readPrices N O I J a) Q := by
  unfold F_Mo_readPrices
  have x := h.F.1.2.2.2.2.2.2.2.1
  have o7 := h.2.2.2.1.2.1
  have main : ∀ (mf i : Nat) (y : Int32) (I1 : WI) (J1 : WJ) (f1 : Nat) (M1 : MM), SX O a t n I0 J0 I1 J1 f1 M1 → M1.1 9 = (i : Int) → y.toInt = 1 → i ≤ 6 → 7 - i < mf → (∀ I' J', SO O a t n I0 J0 (prl t n (7 - i) i f1 M1) I' J' → Q (I', J')) → Wp (lp (B_Mo_readPrices_21 N O a) (fun _ _ _ => none) mf y I1 J1) Q := by
    intro mf
    induction mf with
    | zero => intro i y I1 J1 f1 M1 _ _ _ _ h; omega
    | succ mf ih =>
      intro i y I1 J1 f1 M1 h1 h9 hy hi hm k
      show Wp (B_Mo_readPrices_21 N O a (lp (B_Mo_readPrices_21 N O a) (fun _ _ _ => none) mf) y I1 J1) Q
      unfold B_Mo_readPrices_21
      rw [show 7 - i = (6 - i) + 1 by omega] at k
      unfold prl at k
      have h0 : SO O a t n I0 J0 (.ok (f1, M1)) I1 J1 := h1
      refine Wp.neg (by omega) (Wp.lb (Wp.bd3 (h0.whole S hN (ofI (by decide)) (ofI (by decide)) (fun v I2 J2 _ h2 => ?_))))
      refine Wp_jq (fun kk => ∀ I3, ((∃ w, SO O a t n I0 J0 (.error w) I3 J2 ∧ (∀ I' J', SO O a t n I0 J0 (.error w) I' J' → Q (I', J'))) ∨ (I3 = I2 ∧ ∃ v', wl t n 0 99 f1 = .ok v' ∧ i < 6 ∧ v.toInt = v' ∧ SX O a t n I0 J0 I2 J2 (nx t n f1) M1)) → Wp (kk I3) Q) (fun I3 hI3 => ?_) (fun kk hk => ?_)
      · rcases hI3 with ⟨w, hw, hq⟩ | ⟨rfl, v', hwl, hi6, hv, h3⟩
        · exact Wp.pos hw.1 (Wp.ret (hq _ _ hw))
        · rw [hwl, Ex_ok, if_neg (by omega)] at k
          have e7 := h3.F.1.2.2.2.2.2.2.2.1
          rw [h9] at e7
          refine Wp.neg h3.s5 (Wp.pos (by omega) (Wp.lb (Wp.lb ?_)))
          rw [show (I3 (rf O a 4) 7).toInt.toNat = i by omega]
          have h4 := h3.arr (j := 0) (i := i) S rfl (by decide) hv (fun z => by omega)
          have e7b : (up2 I3 (rf O (rf O a 4) 11) i v (rf O a 4) 7).toInt = (i : Int) := by rw [up2_ne _ _ (fun z => (S.2.2.2.1 0 (by omega)).2.1 z.1.symm)]; exact e7
          have h5 := h4.put7 (v := up2 I3 (rf O (rf O a 4) 11) i v (rf O a 4) 7 + Int32.ofInt 1) (w := (i : Int) + 1) S (t_add e7b k_1 (by omega)) (by omega)
          have h5' : SO O a t n I0 J0 (.ok (nx t n f1, _)) _ J2 := h5
          refine Wp.eq (by rw [h5'.is]) (Wp.bd1 (Wp.ret ?_))
          have ec : decide (kd t n (nx t n f1) = 4 ∧ t (nx t n f1) = (Int32.ofInt 44).toInt) = cm t n (nx t n f1) := by
            unfold cm; rw [show (Int32.ofInt 44).toInt = 44 from ofI (by decide)]
          show Wp (jn (fun IJ JJ => lp (B_Mo_readPrices_21 N O a) (fun _ _ _ => none) mf (bI (decide (kd t n (nx t n f1) = 4 ∧ t (nx t n f1) = (Int32.ofInt 44).toInt))) IJ JJ) fun kk => if (bI (decide (kd t n (nx t n f1) = 4 ∧ t (nx t n f1) = (Int32.ofInt 44).toInt))).toInt = 0 then _ else _) Q
          rw [ec]
          refine Wp.jn ?_
          cases w : cm t n (nx t n f1) with
          | false =>
            rw [w, if_neg (by decide)] at k
            refine Wp.pos bI_f ?_
            obtain ⟨mf', rfl⟩ : ∃ mf', mf = mf' + 1 := ⟨mf - 1, by omega⟩
            show Wp (B_Mo_readPrices_21 N O a _ (bI false) _ J2) Q
            unfold B_Mo_readPrices_21
            exact Wp.pos bI_f (Wp.ret (k _ _ h5))
          | true =>
            rw [w, if_pos rfl] at k
            have hk4 : kd t n (nx t n f1) = 4 := by have : cm t n (nx t n f1) = true := w; unfold cm at this; exact (of_decide_eq_true this).1
            refine Wp.neg (by rw [bI_t]; decide) (Wp.bd2 (h5'.next S hN (fun w hw => by cases hw; show kd t n (nx t n f1) ≠ 1; omega) (fun I6 J6 _ h6 => ih (i + 1) _ I6 J6 _ _ h6 ?_ bI_t (by omega) (by omega) ?_)))
            · show (i : Int) + 1 = ((i + 1 : Nat) : Int); omega
            · rw [show 7 - (i + 1) = 6 - i by omega]; exact k
      · cases hwl : wl t n 0 99 f1 with
        | error w =>
          have ee : eV t n 0 99 (.ok (f1, M1)) = .error w := by show (wl t n 0 99 f1).bind _ = _; rw [hwl]; rfl
          rw [ee] at h2
          rw [hwl] at k
          have h2' : SO O a t n I0 J0 (.error w) I2 J2 := h2
          refine Wp.ite (fun q => Wp.bd1 (h2'.wrongHere (p := f1) S (w := 5) (ofI (by decide)) h1.1.2.2.2.1 (fun I3 _ h3 => hk I3 (Or.inl ⟨w, h3, k⟩)))) (fun q => hk I2 (Or.inl ⟨w, h2', k⟩))
        | ok v' =>
          have ee : eV t n 0 99 (.ok (f1, M1)) = .ok (v', nx t n f1, M1) := by show (wl t n 0 99 f1).bind _ = _; rw [hwl]; rfl
          rw [ee] at h2
          have h2' : SO O a t n I0 J0 (.ok (nx t n f1, M1)) I2 J2 := h2.2
          have e7 := h2.2.F.1.2.2.2.2.2.2.2.1
          rw [h9] at e7
          refine Wp.ite (fun q => ?_) (fun q => hk I2 (Or.inr ⟨rfl, v', hwl, ?_, h2.1, h2.2⟩))
          · rw [hwl, Ex_ok, if_pos (by have q : (I2 (rf O a 4) 7).toInt = 6 := q; omega)] at k
            exact Wp.bd1 (h2'.wrongHere (p := f1) S (w := 5) (ofI (by decide)) h1.1.2.2.2.1 (fun I3 _ h3 => hk I3 (Or.inl ⟨(5, f1), h3, k⟩)))
          · have q : ¬ (I2 (rf O a 4) 7).toInt = 6 := q; omega
  refine Wp_jq (fun kk => Wp (kk (bI (decide (0 < M.1 9)))) Q) ?_ (fun kk hk => ?_)
  · refine Wp.bd2 (SO.once S hN h hk (fun I1 J1 h1 => ?_))
    unfold spPrices at k
    by_cases q : 0 < M.1 9
    · rw [if_pos (decide_eq_true q)] at h1
      rw [if_pos q] at k
      obtain ⟨N', rfl⟩ : ∃ N', N = N' + 1 := ⟨N - 1, by omega⟩
      show Wp (B_Mo_readPrices_21 (N' + 1) O a _ (Int32.ofInt 1) I1 J1) Q
      unfold B_Mo_readPrices_21
      have h1' : SO O a t n I0 J0 (.error (3, f)) I1 J1 := h1
      refine Wp.neg (by rw [k_1]; decide) (Wp.lb (Wp.bd3 (h1'.whole S hN (ofI (by decide)) (ofI (by decide)) (fun v I2 J2 _ h2 => ?_))))
      have h2' : SO O a t n I0 J0 (.error (3, f)) I2 J2 := h2
      refine Wp_jq (fun kk => ∀ I3, SO O a t n I0 J0 (.error (3, f)) I3 J2 → Wp (kk I3) Q) (fun I3 h3 => Wp.pos h3.1 (Wp.ret (k _ _ h3))) (fun kk hk => ?_)
      refine Wp.ite (fun q => ?_) (fun q => hk I2 h2')
      refine Wp.bd1 ?_
      unfold F_Mo_wrongHere
      exact Wp.pos h2'.1 (Wp.ret (hk I2 h2'))
    · rw [if_neg (by simp [q])] at h1
      rw [if_neg q] at k
      exact main N 0 _ I1 J1 _ _ h1 (by show M.1 9 = 0; omega) k_1 (by omega) (by omega) k
  · rw [x]
    refine Wp.ite (fun q => ?_) (fun q => ?_)
    · rw [decide_eq_false (by omega)] at hk; exact hk
    · rw [decide_eq_true (by omega)] at hk; exact hk
end RSIZE
