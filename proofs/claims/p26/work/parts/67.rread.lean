/-! the reference's reader: a line, the whole text -/
section RREAD
variable {N : Nat} {O : WO} {I I0 : WI} {J J0 : WJ} {a : Nat} {t : Nat → Int} {n f : Nat} {M : MM} {e : ER}
theorem r_line (S : SX0 O a) (hN : 800 ≤ N) {Q : WI × WJ → Prop} (h : SX O a t n I0 J0 I J f M) (hl : LNm M) (k : ∀ I' J', SO O a t n I0 J0 (spLine t n f M) I' J' → Q (I', J')) : Wp (F_Mo_readLine N O I J a) Q := by
  unfold F_Mo_readLine
  unfold spLine at k
  have h0 : SO O a t n I0 J0 (.ok (f, M)) I J := h
  have iw : ∀ {i : Nat}, i < 15 → F_Mo_isWord N O I J a (i + 16) = some (bI (isw t n i f)) := fun hi => h0.isWord hN hi
  refine Wp.eq (by rw [show (16 : Nat) = 0 + 16 from rfl, iw (by decide)]) (Wp.bd1 (Wp.ret ?_))
  cases q0 : isw t n 0 f with
  | true =>
    rw [q0, if_pos rfl] at k
    exact Wp.neg (by rw [bI_t]; decide) (Wp.bd2 (r_drum S hN h (isw_k q0) (fun I' J' h' => Wp.ret (k _ _ h'))))
  | false =>
  rw [q0, if_neg (by decide)] at k
  refine Wp.pos bI_f (Wp.eq (by rw [show (19 : Nat) = 3 + 16 from rfl, iw (by decide)]) (Wp.bd1 (Wp.ret ?_)))
  cases q3 : isw t n 3 f with
  | true =>
    rw [q3, if_pos rfl] at k
    exact Wp.neg (by rw [bI_t]; decide) (Wp.bd2 (r_sieve S hN h (isw_k q3) (fun I' J' h' => Wp.ret (k _ _ h'))))
  | false =>
  rw [q3, if_neg (by decide)] at k
  refine Wp.pos bI_f (Wp.eq (by rw [show (20 : Nat) = 4 + 16 from rfl, iw (by decide)]) (Wp.bd1 (Wp.ret ?_)))
  cases q4 : isw t n 4 f with
  | true =>
    rw [q4, if_pos rfl] at k
    exact Wp.neg (by rw [bI_t]; decide) (Wp.bd2 (r_liner S hN h (isw_k q4) (fun I' J' h' => Wp.ret (k _ _ h'))))
  | false =>
  rw [q4, if_neg (by decide)] at k
  refine Wp.pos bI_f (Wp.eq (by rw [show (21 : Nat) = 5 + 16 from rfl, iw (by decide)]) (Wp.bd1 (Wp.ret ?_)))
  cases q5 : isw t n 5 f with
  | true =>
    rw [q5, if_pos rfl] at k
    exact Wp.neg (by rw [bI_t]; decide) (Wp.bd2 (r_bin S hN h (isw_k q5) (fun I' J' h' => Wp.ret (k _ _ h'))))
  | false =>
  rw [q5, if_neg (by decide)] at k
  refine Wp.pos bI_f (Wp.eq (by rw [show (22 : Nat) = 6 + 16 from rfl, iw (by decide)]) (Wp.bd1 (Wp.ret ?_)))
  cases q6 : isw t n 6 f with
  | true =>
    rw [q6, if_pos rfl] at k
    exact Wp.neg (by rw [bI_t]; decide) (Wp.bd2 (r_prices S hN h (isw_k q6) (fun I' J' h' => Wp.ret (k _ _ h'))))
  | false =>
  rw [q6, if_neg (by decide)] at k
  refine Wp.pos bI_f (Wp.eq (by rw [show (23 : Nat) = 7 + 16 from rfl, iw (by decide)]) (Wp.bd1 (Wp.ret ?_)))
  cases q7 : isw t n 7 f with
  | true =>
    rw [q7, if_pos rfl] at k
    exact Wp.neg (by rw [bI_t]; decide) (Wp.bd2 (r_size S hN h (isw_k q7) hl (fun I' J' h' => Wp.ret (k _ _ h'))))
  | false =>
  rw [q7, if_neg (by decide)] at k
  refine Wp.pos bI_f (Wp.eq (by rw [show (24 : Nat) = 8 + 16 from rfl, iw (by decide)]) (Wp.bd1 (Wp.ret ?_)))
  cases q8 : isw t n 8 f with
  | true =>
    rw [q8, if_pos rfl] at k
    exact Wp.neg (by rw [bI_t]; decide) (Wp.bd2 (r_ore S hN h (isw_k q8) hl (fun I' J' h' => Wp.ret (k _ _ h'))))
  | false =>
  rw [q8, if_neg (by decide)] at k
  exact Wp.pos bI_f (Wp.bd1 (h0.wrong S (w := 1) k_1 (fun I' _ h' => Wp.ret (k _ _ h'))))
theorem SX.le (h : SX O a t n I0 J0 I J f M) : f ≤ n := h.1.2.1
/-- the end of the text: no more lines -/
def endE (t : Nat → Int) (n : Nat) (e : ER) : ER := e.bind fun q => if kd t n q.1 = 0 then (if lks q.2 = true then .error (6, q.1) else .ok q) else .error (1, q.1)
theorem r_end (S : SX0 O a) {x : Int32} {rec : Int32 → WI → WJ → Option (WI × WJ)} {Q : WI × WJ → Prop} (h : SO O a t n I0 J0 e I J) (hx : x.toInt = 0) (k : ∀ I' J', SO O a t n I0 J0 (endE t n e) I' J' → Q (I', J')) : Wp (B_Mo_readMill_2 N O a rec x I J) Q := by
  unfold B_Mo_readMill_2
  refine Wp.pos hx ?_
  refine Wp_jq (fun kk => ∀ I1 e1, SO O a t n I0 J0 e1 I1 J → (e1 = e.bind fun q => if kd t n q.1 = 0 then .ok q else .error (1, q.1)) → Wp (kk I1) Q) (fun I1 e1 h1 he1 => ?_) (fun kk hk => ?_)
  · refine Wp_jq (fun kk => ∀ b : Bool, (∀ w, e1 = .ok w → b = lks w.2) → Wp (kk (bI b)) Q) (fun b hb => ?_) (fun kk hk => ?_)
    · cases e1 with
      | error w =>
        have he : endE t n e = .error w := by
          unfold endE
          cases e with
          | error q => exact he1.symm
          | ok q =>
            simp only [Ex_ok] at he1 ⊢
            by_cases q0 : kd t n q.1 = 0
            · rw [if_pos q0] at he1; cases he1
            · rw [if_neg q0] at he1 ⊢; exact he1.symm
        rw [he] at k
        refine Wp.ite (fun q => Wp.ret (k _ _ h1)) (fun q => Wp.bd1 (SO.wrong (e := .error w) (w := 6) S h1 (ofI (by decide)) (fun I2 _ h2 => Wp.ret (k _ _ h2))))
      | ok w =>
        have hb := hb w rfl
        subst hb
        have he : e = .ok w ∧ kd t n w.1 = 0 := by
          cases e with
          | error q => cases he1
          | ok q =>
            simp only [Ex_ok] at he1
            by_cases q0 : kd t n q.1 = 0
            · rw [if_pos q0] at he1; cases he1; exact ⟨rfl, q0⟩
            · rw [if_neg q0] at he1; cases he1
        have hE : endE t n e = if lks w.2 = true then .error (6, w.1) else .ok w := by
          unfold endE; rw [he.1, Ex_ok, if_pos he.2]
        rw [hE] at k
        cases hL : lks w.2 with
        | false =>
          rw [hL, if_neg (by decide)] at k
          exact Wp.pos bI_f (Wp.ret (k _ _ h1))
        | true =>
          rw [hL, if_pos rfl] at k
          exact Wp.neg (by rw [bI_t]; decide) (Wp.bd1 (SO.wrong (e := .ok w) (w := 6) S h1 (ofI (by decide)) (fun I2 _ h2 => Wp.ret (k _ _ h2))))
    · have yes : (∀ w, e1 = .ok w → true = lks w.2) → Wp (kk (Int32.ofInt 1)) Q := fun h => hk true h
      have no : (∀ w, e1 = .ok w → false = lks w.2) → Wp (kk (Int32.ofInt 0)) Q := fun h => hk false h
      refine Wp_jq (fun k2 => (∀ w, e1 = .ok w → true = lks w.2) → Wp k2 Q) yes (fun k2 hk2 => ?_)
      have fld : ∀ w, e1 = .ok w → XR O (rf O a 4) I1 J w.2 := fun w hw => by subst hw; exact h1.2.2.1
      refine Wp.ite (fun q => hk2 (fun w hw => ?_)) (fun q0 => Wp.ite (fun q => hk2 (fun w hw => ?_)) (fun q2 => Wp.ite (fun q => hk2 (fun w hw => ?_)) (fun q4 => Wp.ite (fun q => hk2 (fun w hw => ?_)) (fun q5 => Wp.ite (fun q => hk2 (fun w hw => ?_)) (fun q7 => Wp.ite (fun q => hk2 (fun w hw => ?_)) (fun q8 => Wp.ite (fun q => hk2 (fun w hw => ?_)) (fun q9 => no (fun w hw => ?_))))))))
      all_goals
        obtain ⟨⟨a0, a1, a2, a3, a4, a5, a6, a7, a8, a9, a10, b0, b4, b5⟩, _, _⟩ := fld w hw
        symm
      · exact decide_eq_true (Or.inl (by have := (nz_m b0).mp (a0 ▸ q); omega))
      · exact decide_eq_true (Or.inr (Or.inl (a2 ▸ q)))
      · exact decide_eq_true (Or.inr (Or.inr (Or.inl (by have := (nz_m b4).mp (a4 ▸ q); omega))))
      · exact decide_eq_true (Or.inr (Or.inr (Or.inr (Or.inl (by have := (nz_m b5).mp (a5 ▸ q); omega)))))
      · exact decide_eq_true (Or.inr (Or.inr (Or.inr (Or.inr (Or.inl (by omega))))))
      · exact decide_eq_true (Or.inr (Or.inr (Or.inr (Or.inr (Or.inr (Or.inl (by omega)))))))
      · exact decide_eq_true (Or.inr (Or.inr (Or.inr (Or.inr (Or.inr (Or.inr (by omega)))))))
      · refine decide_eq_false ?_
        rintro (z | z | z | z | z | z | z)
        · exact q0 (by rw [a0]; exact (nz_m b0).mpr (by omega))
        · exact q2 (by rw [a2]; exact z)
        · exact q4 (by rw [a4]; exact (nz_m b4).mpr (by omega))
        · exact q5 (by rw [a5]; exact (nz_m b5).mpr (by omega))
        · omega
        · omega
        · omega
  · refine Wp.ite (fun q => hk I e h ?_) (fun q => Wp.bd1 (h.wrong S (w := 1) k_1 (fun I1 _ h1 => hk I1 _ h1 ?_)))
    · cases e with
      | error w => rfl
      | ok w =>
        simp only [Ex_ok]; rw [if_pos (sx_1.mp (by rw [← h.1.2.2.1]; exact q))]
    · cases e with
      | error w => rfl
      | ok w =>
        unfold eE; simp only [Ex_ok]; rw [if_neg (fun z => q (by rw [h.1.2.2.1]; exact sx_1.mpr z))]
theorem r_read (S : SX0 O a) (hN : 800 ≤ N) {Q : WI × WJ → Prop} (h : SX O a t n I0 J0 I J (rB t n 0) M0) (k : ∀ I' J', SO O a t n I0 J0 (spMill t n) I' J' → Q (I', J')) : Wp (F_Mo_readMill N O I J a) Q := by
  unfold F_Mo_readMill
  have main : ∀ (mf i : Nat) (x : Int32) (I1 : WI) (J1 : WJ) (f1 : Nat) (M1 : MM), SX O a t n I0 J0 I1 J1 f1 M1 → LNm M1 → x.toInt = 1 → 701 ≤ f1 + i → i + 1 < mf → (∀ I' J', SO O a t n I0 J0 (spLs t n i f1 M1) I' J' → Q (I', J')) → Wp (lp (B_Mo_readMill_2 N O a) (fun _ _ _ => none) mf x I1 J1) Q := by
    intro mf
    induction mf with
    | zero => intro i x I1 J1 f1 M1 _ _ _ _ h; omega
    | succ mf ih =>
      intro i x I1 J1 f1 M1 h1 hl hx hi hm k
      have hn := h1.1.1.1
      have hf := h1.1.2.1
      obtain ⟨i, rfl⟩ : ∃ i', i = i' + 1 := ⟨i - 1, by omega⟩
      unfold spLs at k
      show Wp (B_Mo_readMill_2 N O a (lp (B_Mo_readMill_2 N O a) (fun _ _ _ => none) mf) x I1 J1) Q
      unfold B_Mo_readMill_2
      refine Wp.neg (by omega) (Wp.bd2 (r_line S hN h1 hl (fun I2 J2 h2 => ?_)))
      obtain ⟨mf, rfl⟩ : ∃ mf', mf = mf' + 1 := ⟨mf - 1, by omega⟩
      cases hL : spLine t n f1 M1 with
      | error w =>
        rw [hL] at h2 k
        have his := SO.is (N := N) (x := Int32.ofInt 59) h2
        refine Wp.eq (by rw [his]) (Wp.bd1 (Wp.ret ?_))
        exact Wp.pos bI_f (r_end S h2 bI_f k)
      | ok w =>
        rw [hL] at h2 k
        have his := SO.is (N := N) (x := Int32.ofInt 59) h2
        rw [Ex_ok] at k
        refine Wp.eq (by rw [his]) (Wp.bd1 (Wp.ret ?_))
        have ec : decide (kd t n w.1 = 4 ∧ t w.1 = (Int32.ofInt 59).toInt) = sc t n w.1 := by
          unfold sc; rw [show (Int32.ofInt 59).toInt = 59 from ofI (by decide)]
        show Wp (if (bI (decide (kd t n w.1 = 4 ∧ t w.1 = (Int32.ofInt 59).toInt))).toInt = 0 then lp (B_Mo_readMill_2 N O a) (fun _ _ _ => none) (mf + 1) (bI (decide (kd t n w.1 = 4 ∧ t w.1 = (Int32.ofInt 59).toInt))) I2 J2 else bd2 (F_Mo_next N O I2 J2 a) fun I5 J5 => lp (B_Mo_readMill_2 N O a) (fun _ _ _ => none) (mf + 1) (bI (decide (kd t n w.1 = 4 ∧ t w.1 = (Int32.ofInt 59).toInt))) I5 J5) Q
        rw [ec]
        have hp := sp_line hf hl hL
        cases hc : sc t n w.1 with
        | false =>
          refine Wp.pos bI_f (r_end S h2 bI_f (fun I' J' h' => k I' J' ?_))
          rw [hc]
          unfold endE at h'
          rw [Ex_ok] at h'
          by_cases q0 : kd t n w.1 = 0
          · rw [if_pos q0] at h' ⊢; exact h'
          · rw [if_neg q0] at h' ⊢
            rw [if_neg (by decide)]; exact h'
        | true =>
          have hk4 : kd t n w.1 = 4 := by have : sc t n w.1 = true := hc; unfold sc at this; exact (of_decide_eq_true this).1
          rw [hc, if_neg (by omega), if_pos rfl] at k
          refine Wp.neg (by rw [bI_t]; decide) (Wp.bd2 (SO.next S hN h2 (fun w' hw => by cases hw; omega) (fun I5 J5 _ h5 => ?_)))
          have h5' : SX O a t n I0 J0 I5 J5 (nx t n w.1) w.2 := h5
          have hw : w.1 ≤ n := SX.le h2
          have hb := (kd4 hk4).2.2
          have hb2 := rB_b (t := t) (n := n) (p := bh t n w.1) (bh_b (t := t) hw).2
          refine ih i _ I5 J5 _ _ h5' hp.2 bI_t ?_ (by omega) k
          show 701 ≤ rB t n (bh t n w.1) + i
          omega
  refine main N 701 _ I J _ _ h (by show ((0 : Nat) : Int) = 0 + 0; rfl) k_1 (by omega) (by omega) k
end RREAD
