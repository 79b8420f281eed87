/-! the reference's reader: its lines (4): sizes, ores -/
def frE (t : Nat → Int) (n : Nat) (s : Int) (e : ER) : ER := e.bind fun w => if isnm t n w.1 = true then (if fndN w.2.2.2 (cd t n w.1) = none then .ok (nx t n w.1, sn w.2 (cd t n w.1) s) else .error (3, w.1)) else .error (1, w.1)
section RORE
variable {N : Nat} {O : WO} {I I0 : WI} {J J0 : WJ} {a : Nat} {t : Nat → Int} {n f : Nat} {M : MM} {e : ER}
theorem SX.okx2 (h : SX O a t n I0 J0 I J f M) : 0 ≤ M.1 7 ∧ M.1 7 ≤ 5 := by
  have x := h.F.1.2.2.2.2.2.2.2.2.1
  have o := h.2.2.2.1.2.2.1
  omega
theorem SX.okx3 (h : SX O a t n I0 J0 I J f M) : 0 ≤ M.1 8 ∧ M.1 8 ≤ 4 := by
  have x := h.F.1.2.2.2.2.2.2.2.2.2.1
  have o := h.2.2.2.1.2.2.2.1
  omega
theorem r_fresh (S : SX0 O a) (hN : 800 ≤ N) {x : Int32} {s : Int} {Q : WI × WJ → Prop} (h : SO O a t n I0 J0 e I J) (hl : ∀ w, e = .ok w → w.2.2.2.length < 9 ∧ x.toInt = s ∧ -1 ≤ s ∧ s ≤ 4) (k : ∀ I' J', SO O a t n I0 J0 (frE t n s e) I' J' → Q (I', J')) : Wp (F_Mo_readFresh N O I J a x) Q := by
  unfold F_Mo_readFresh
  refine Wp.eq (by rw [h.isName hN]) (Wp.bd1 (Wp.ret ?_))
  refine Wp_jq (fun kk => ∀ I2 e2, SO O a t n I0 J0 e2 I2 J → (∀ w, e2 = .ok w → isnm t n w.1 = true ∧ e = .ok w) → (e2 = e.bind fun w => if isnm t n w.1 = true then .ok w else .error (1, w.1)) → Wp (kk I2) Q) (fun I2 e2 h2 hn he2 => ?_) (fun kk hk => ?_)
  · obtain ⟨z, hz, zb, zv0⟩ := h2.find hN
    have zv := fun w hw => zv0 w hw (isnm_2 (hn w hw).1)
    refine Wp.eq (by rw [hz]) (Wp.bd1 (Wp.ret ?_))
    refine Wp_jq (fun kk => ∀ I3 e3, SO O a t n I0 J0 e3 I3 J → (∀ w, e3 = .ok w → e2 = .ok w ∧ fndN w.2.2.2 (cd t n w.1) = none) → (e3 = e2.bind fun w => if fndN w.2.2.2 (cd t n w.1) = none then .ok w else .error (3, w.1)) → Wp (kk I3) Q) (fun I3 e3 h3 hs he3 => ?_) (fun kk32 hk32 => ?_)
    · cases e3 with
      | error w =>
        refine Wp.pos h3.1 (Wp.ret (k _ _ ?_))
        have : frE t n s e = .error w := by
          unfold frE
          cases e with
          | error q => rw [he2] at he3; exact he3.symm
          | ok q =>
            rw [he2] at he3
            simp only [Ex_ok] at he3 ⊢
            by_cases q1 : isnm t n q.1 = true
            · rw [if_pos q1] at he3 ⊢
              simp only [Ex_ok] at he3
              by_cases q2 : fndN q.2.2.2 (cd t n q.1) = none
              · rw [if_pos q2] at he3; cases he3
              · rw [if_neg q2] at he3 ⊢; exact he3.symm
            · rw [if_neg q1] at he3 ⊢; exact he3.symm
        rw [this]; exact h3
      | ok w =>
        obtain ⟨w1, w2⟩ := hs w rfl
        obtain ⟨n1, n2⟩ := hn w w1
        obtain ⟨l1, l2, l3⟩ := hl w n2
        have h3' : SX O a t n I0 J0 I3 J w.1 w.2 := h3
        have e10 := h3'.F.1.2.2.2.2.2.2.2.2.2.2.1
        have hcd := h3'.1.2.2.2.2.2.2.2.2 (isnm_2 n1)
        have el : (I3 (rf O a 4) 10).toInt.toNat = w.2.2.2.length := by omega
        refine Wp.neg h3'.s5 (Wp.pos (by omega) (Wp.lb (Wp.pos (by omega) (Wp.lb (Wp.lb ?_)))))
        rw [el]
        have h4 := h3'.name (x := x) (v := up2 I3 (rf O (rf O a 4) 17) w.2.2.2.length x (rf O a 4) 10 + Int32.ofInt 1) (c := J a 15) S l1 hcd l2 l3 (by
          rw [up2_ne _ _ (fun z => (S.2.2.2.1 6 (by omega)).2.1 z.1.symm)]; exact t_add e10 k_1 (by omega))
        have h4' : SO O a t n I0 J0 (.ok (w.1, sn w.2 (cd t n w.1) s)) _ _ := h4
        refine Wp.bd2 (h4'.next S hN (fun w' hw => by cases hw; have := isnm_2 n1; show kd t n w.1 ≠ 1; omega) (fun I5 J5 _ h5 => Wp.ret (k _ _ ?_)))
        have : frE t n s e = .ok (nx t n w.1, sn w.2 (cd t n w.1) s) := by
          unfold frE
          rw [n2, Ex_ok, if_pos n1, if_pos w2]
        rw [this]; exact h5
    · refine Wp.ite (fun q => hk32 I2 e2 h2 (fun w hw => ⟨hw, ?_⟩) ?_) (fun q => Wp.bd1 (h2.wrong S (w := 3) (ofI (by decide)) (fun I3 _ h3 => hk32 I3 (eE 3 e2) h3 (fun w hw => by cases e2 <;> cases hw) ?_)))
      · rcases zv w hw with ⟨_, v2⟩ | ⟨q', v1, v2, v3⟩
        · exact v2
        · omega
      · cases e2 with
        | error w => rfl
        | ok w =>
          rcases zv w rfl with ⟨_, v2⟩ | ⟨q', v1, v2, v3⟩
          · simp only [Ex_ok]; rw [if_pos v2]
          · omega
      · cases e2 with
        | error w => rfl
        | ok w =>
          rcases zv w rfl with ⟨v1, v2⟩ | ⟨q', v1, v2, v3⟩
          · omega
          · unfold eE; simp only [Ex_ok]; rw [if_neg (by rw [v2]; exact fun z => by cases z)]
  · cases e with
    | error w => exact Wp.pos bI_f (Wp.bd1 (SO.wrong (e := .error w) S h k_1 (fun I2 _ h2 => hk I2 (.error w) h2 (fun w hw => by cases hw) rfl)))
    | ok w =>
      show Wp (if (bI (isnm t n w.1)).toInt = 0 then _ else _) Q
      cases q : isnm t n w.1 with
      | false =>
        refine Wp.pos bI_f (Wp.bd1 (SO.wrong (e := .ok w) (w := 1) S h k_1 (fun I2 _ h2 => hk I2 (.error (1, w.1)) h2 (fun w hw => by cases hw) ?_)))
        simp only [Ex_ok]; rw [if_neg (by rw [q]; decide)]
      | true =>
        refine Wp.neg (by rw [bI_t]; decide) (hk I (.ok w) h (fun w' hw => by cases hw; exact ⟨q, rfl⟩) ?_)
        simp only [Ex_ok]; rw [if_pos q]
theorem r_size (S : SX0 O a) (hN : 800 ≤ N) {Q : WI × WJ → Prop} (h : SX O a t n I0 J0 I J f M) (hk : kd t n f ≠ 1) (hl : (M.2.2.length : Int) = M.1 7 + M.1 8) (k : ∀ I' J', SO O a t n I0 J0 (spSize t n f M) I' J' → Q (I', J')) : Wp (F_Mo_readSize N O I J a) Q := by
  unfold F_Mo_readSize
  have x8 := h.F.1.2.2.2.2.2.2.2.2.1
  have x9 := h.F.1.2.2.2.2.2.2.2.2.2.1
  have o8 := h.okx2
  have o9 := h.okx3
  refine Wp_jq (fun kk => ∀ I1 e0, SO O a t n I0 J0 e0 I1 J → (e0 = if 5 ≤ M.1 7 then .error (5, f) else .ok (f, M)) → Wp (kk I1) Q) (fun I1 e0 h1 he0 => ?_) (fun kk hk' => ?_)
  · refine Wp.bd2 (h1.next S hN (fun w hw => ?_) (fun I2 J2 _ h2 => ?_))
    · rw [he0] at hw
      split at hw
      · cases hw
      · cases hw; exact hk
    · unfold spSize at k
      by_cases q5 : 5 ≤ M.1 7
      · rw [if_pos q5] at he0 k
        subst he0
        refine Wp.bd2 (r_fresh (e := .error (5, f)) (s := 0) S hN h2 (fun w hw => by cases hw) (fun I3 J3 h3 => Wp.pos h3.1 (Wp.ret (k _ _ h3))))
      · rw [if_neg q5] at he0 k
        subst he0
        have h2' : SX O a t n I0 J0 I2 J2 (nx t n f) M := h2
        have y8 := h2'.F.1.2.2.2.2.2.2.2.2.1
        refine Wp.bd2 (r_fresh (e := .ok (nx t n f, M)) (s := M.1 7) S hN h2 (fun w hw => by cases hw; exact ⟨by show M.2.2.length < 9; omega, y8, by omega, by omega⟩) (fun I3 J3 h3 => ?_))
        unfold frE at h3
        rw [Ex_ok] at h3
        by_cases qn : isnm t n (nx t n f) = true
        · rw [if_pos qn] at h3 k
          by_cases qf : fndN M.2.2 (cd t n (nx t n f)) = none
          · rw [if_pos qf] at h3 k
            have h3' : SX O a t n I0 J0 I3 J3 (nx t n (nx t n f)) (sn M (cd t n (nx t n f)) (M.1 7)) := h3
            refine Wp.neg h3'.s5 ?_
            refine Wp.eq (by rw [show (27 : Nat) = 11 + 16 from rfl, SO.isWord hN (by decide) h3]) (Wp.bd1 (Wp.ret ?_))
            show Wp (jn _ fun kk => if (bI (isw t n 11 (nx t n (nx t n f)))).toInt = 0 then _ else _) Q
            refine Wp_jq (fun kk => ∀ I9 J9 e9, SO O a t n I0 J0 e9 I9 J9 → (∀ I' J', SO O a t n I0 J0 (e9.bind fun w => .ok (w.1, sg w.2 7 (M.1 7 + 1))) I' J' → Q (I', J')) → (∀ w, e9 = .ok w → w.2.1 7 = M.1 7) → (I9 (rf O a 4) 8).toInt = M.1 7 → Wp (kk I9 J9) Q) (fun I9 J9 e9 h9 k9 hw9 v9 => ?_) (fun kk hk9 => ?_)
            · refine Wp.lb (Wp.ret (k9 _ _ ?_))
              cases e9 with
              | error w =>
                obtain ⟨g1, g2, g3, ⟨o1, o2, o3, o4, o5, o6, o7⟩, g5, g6⟩ := h9
                have ea : up2 I9 (rf O a 4) 8 (I9 (rf O a 4) 8 + Int32.ofInt 1) a = I9 a := up2_row _ _ (fun z => S.1 z.symm)
                have hne : ∀ j, j < 7 → rf O (rf O a 4) (11 + j) ≠ rf O a 4 := fun j hj => (S.2.2.2.1 j hj).2.1
                exact ⟨by rw [ea]; exact g1, by rw [ea]; exact g2, by rw [ea]; exact g3, ⟨by rw [ea]; exact o1, by rw [up2_ne _ _ (by omega)]; exact o2, by rw [up2_self, t_add v9 k_1 (by omega)]; omega, by rw [up2_ne _ _ (by omega)]; exact o4, by rw [up2_ne _ _ (by omega)]; exact o5, fun k => by rw [up2_ne _ _ (fun z => hne 3 (by omega) z.1)]; exact o6 k, fun k => by rw [up2_ne _ _ (fun z => hne 6 (by omega) z.1)]; exact o7 k⟩, g5.f S, g6⟩
              | ok w => exact SX.put8 S h9 (t_add v9 k_1 (by omega)) (by omega)
            · have z8 := h3'.F.1.2.2.2.2.2.2.2.2.1
              have z8 : (I3 (rf O a 4) 8).toInt = M.1 7 := z8
              cases qb : isw t n 11 (nx t n (nx t n f)) with
              | false =>
                rw [qb, if_neg (by decide)] at k
                exact Wp.pos bI_f (hk9 I3 J3 _ h3 k (fun w hw => by cases hw; rfl) z8)
              | true =>
                rw [qb, if_pos rfl] at k
                refine Wp.neg (by rw [bI_t]; decide) (Wp.bd2 (SO.next S hN h3 (fun w hw => by cases hw; exact isw_k qb) (fun I5 J5 ex5 h5 => Wp.bd3 (h5.whole S hN (ofI (by decide)) (ofI (by decide)) (fun v I6 J6 ex6 h6 => ?_)))))
                have z5 : (I5 (rf O a 4) 8).toInt = M.1 7 := by rw [ex5.ne S.1]; exact z8
                have z6 : (I6 (rf O a 4) 8).toInt = M.1 7 := by rw [ex6.ne S.1]; exact z5
                refine Wp.pos (show 0 ≤ (I5 (rf O a 4) 8).toInt ∧ (I5 (rf O a 4) 8).toInt < 5 by omega) (Wp.lb ?_)
                have e5 : ((I5, J5).1 (rf O a 4) 8).toInt.toNat = (M.1 7).toNat := by show (I5 (rf O a 4) 8).toInt.toNat = _; omega
                rw [e5]
                have h7 := h6.arr (j := 1) (i := (M.1 7).toNat) S rfl (by decide) (by decide)
                have z7 : (up2 I6 (rf O (rf O a 4) 12) (M.1 7).toNat v (rf O a 4) 8).toInt = M.1 7 := by rw [up2_ne _ _ (fun z => (S.2.2.2.1 1 (by omega)).2.1 z.1.symm)]; exact z6
                refine Wp.bd2 (h7.need S hN (i := 12) (by decide) (fun I8 J8 ex8 h8 => Wp.bd3 (h8.whole S hN (ofI (by decide)) (ofI (by decide)) (fun v2 I9 J9 ex9 h9 => ?_))))
                have z8' : (I8 (rf O a 4) 8).toInt = M.1 7 := by rw [ex8.ne S.1]; exact z7
                have z9 : (I9 (rf O a 4) 8).toInt = M.1 7 := by rw [ex9.ne S.1]; exact z8'
                refine Wp.pos (show 0 ≤ (I8 (rf O a 4) 8).toInt ∧ (I8 (rf O a 4) 8).toInt < 5 by omega) (Wp.lb ?_)
                have e8 : ((I8, J8).1 (rf O a 4) 8).toInt.toNat = (M.1 7).toNat := by show (I8 (rf O a 4) 8).toInt.toNat = _; omega
                rw [e8]
                have h10 := h9.arr (j := 2) (i := (M.1 7).toNat) S rfl (by decide) (by decide)
                refine hk9 _ J9 _ h10 ?_ ?_ (by rw [up2_ne _ _ (fun z => (S.2.2.2.1 2 (by omega)).2.1 z.1.symm)]; exact z9)
                · intro I' J' hf
                  refine k I' J' ?_
                  refine Eq.subst (motive := fun z => SO O a t n I0 J0 z _ _) ?_ hf
                  unfold eA eV eW eN
                  simp only [Ex_ok]
                  cases wl t n 0 100 (nx t n (nx t n (nx t n f))) with
                  | error w => rfl
                  | ok v =>
                    simp only [Ex_ok]
                    cases ww t n 12 (nx t n (nx t n (nx t n (nx t n f)))) with
                    | error w => rfl
                    | ok f4 =>
                      simp only [Ex_ok]
                      cases wl t n 0 100 f4 with
                      | error w => rfl
                      | ok v2 => rfl
                · intro w hw
                  obtain ⟨w1, e1, hw⟩ := bind_ok hw
                  obtain ⟨w2, e2, e1⟩ := bind_ok e1
                  obtain ⟨w3, e3, e1⟩ := bind_ok e1
                  obtain ⟨w4, e4, e2⟩ := bind_ok e2
                  obtain ⟨w5, e5, e2⟩ := bind_ok e2
                  obtain ⟨w6, e6, e4⟩ := bind_ok e4
                  obtain ⟨w7, e7, e6⟩ := bind_ok e6
                  obtain ⟨w8, e8, e6⟩ := bind_ok e6
                  obtain ⟨w9, e9, e7⟩ := bind_ok e7
                  cases e9; cases e7; cases e6; cases e4; cases e2; cases e1; cases hw; rfl
          · rw [if_neg qf] at h3 k
            exact Wp.pos h3.1 (Wp.ret (k _ _ h3))
        · rw [if_neg qn] at h3 k
          exact Wp.pos h3.1 (Wp.ret (k _ _ h3))
  · have h0 : SO O a t n I0 J0 (.ok (f, M)) I J := h
    refine Wp.ite (fun q => Wp.bd1 (h0.wrong S (w := 5) (ofI (by decide)) (fun I1 _ h1 => hk' I1 _ h1 (by rw [if_pos (by omega)]; rfl)))) (fun q => hk' I _ h0 (by rw [if_neg (by omega)]))
end RORE
