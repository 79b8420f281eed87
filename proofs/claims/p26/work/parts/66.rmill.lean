/-! the reference's reader: ores, a line, the whole text -/
def LNm (M : MM) : Prop := (M.2.2.length : Int) = M.1 7 + M.1 8
theorem LNm.pg {M : MM} {k : Nat} {v : Int} (h : LNm M) (hk : k ≠ 7 ∧ k ≠ 8) : LNm (sg M k v) := by
  show (M.2.2.length : Int) = u1 M.1 k v 7 + u1 M.1 k v 8
  rw [u1_n (Ne.symm hk.1), u1_n (Ne.symm hk.2)]; exact h
theorem LNm.pa {M : MM} {j i : Nat} {v : Int} (h : LNm M) : LNm (sa M j i v) := h
theorem LNm.ps {M : MM} {c s : Int} (h : LNm M) : LNm (sg (sn M c s) 7 (M.1 7 + 1)) := by
  show ((M.2.2 ++ [(c, s)]).length : Int) = M.1 7 + 1 + M.1 8
  rw [List.length_append]; unfold LNm at h; show ((M.2.2.length + 1 : Nat) : Int) = _; omega
theorem LNm.po {M : MM} {c s : Int} (h : LNm M) : LNm (sg (sn M c s) 8 (M.1 8 + 1)) := by
  show ((M.2.2 ++ [(c, s)]).length : Int) = M.1 7 + (M.1 8 + 1)
  rw [List.length_append]; unfold LNm at h; show ((M.2.2.length + 1 : Nat) : Int) = _; omega
section SPL
variable {t : Nat → Int} {n f : Nat} {M : MM} {q : Nat × MM}
theorem sp_drum (hf : f ≤ n) (hl : LNm M) (h : spDrum t n f M = .ok q) : f ≤ q.1 ∧ LNm q.2 := by
  unfold spDrum at h
  split at h
  · cases h
  · obtain ⟨f2, e1, h⟩ := bind_ok h
    obtain ⟨v, e2, h⟩ := bind_ok h
    obtain ⟨f4, e3, h⟩ := bind_ok h
    obtain ⟨v2, e4, h⟩ := bind_ok h
    cases h
    have a1 := nx_b (t := t) hf
    have a2 := nx_b (t := t) a1.2
    rw [← ww_ok e1] at a2
    have a3 := nx_b (t := t) a2.2
    have a4 := nx_b (t := t) a3.2
    rw [← ww_ok e3] at a4
    have a5 := nx_b (t := t) a4.2
    exact ⟨by show f ≤ nx t n f4; omega, (hl.pg (by decide)).pg (by decide)⟩
theorem sp_sieve (hf : f ≤ n) (hl : LNm M) (h : spSieve t n f M = .ok q) : f ≤ q.1 ∧ LNm q.2 := by
  unfold spSieve at h
  split at h
  · cases h
  · split at h
    · split at h
      · cases h
      · obtain ⟨f2, e1, h⟩ := bind_ok h
        obtain ⟨v, e2, h⟩ := bind_ok h
        cases h
        have a1 := nx_b (t := t) hf
        have a2 := nx_b (t := t) a1.2
        have a3 := nx_b (t := t) a2.2
        rw [← ww_ok e1] at a3
        have a4 := nx_b (t := t) a3.2
        exact ⟨by show f ≤ nx t n f2; omega, (hl.pg (by decide)).pg (by decide)⟩
    · cases h
theorem sp_liner (hf : f ≤ n) (hl : LNm M) (h : spLiner t n f M = .ok q) : f ≤ q.1 ∧ LNm q.2 := by
  unfold spLiner at h
  split at h
  · cases h
  · obtain ⟨v, e2, h⟩ := bind_ok h
    cases h
    have a1 := nx_b (t := t) hf
    have a2 := nx_b (t := t) a1.2
    exact ⟨by show f ≤ nx t n (nx t n f); omega, hl.pg (by decide)⟩
theorem sp_bin (hf : f ≤ n) (hl : LNm M) (h : spBin t n f M = .ok q) : f ≤ q.1 ∧ LNm q.2 := by
  unfold spBin at h
  split at h
  · cases h
  · obtain ⟨v, e1, h⟩ := bind_ok h
    obtain ⟨f3, e2, h⟩ := bind_ok h
    obtain ⟨v2, e3, h⟩ := bind_ok h
    cases h
    have a1 := nx_b (t := t) hf
    have a2 := nx_b (t := t) a1.2
    have a3 := nx_b (t := t) a2.2
    rw [← ww_ok e2] at a3
    have a4 := nx_b (t := t) a3.2
    exact ⟨by show f ≤ nx t n f3; omega, (hl.pg (by decide)).pg (by decide)⟩
theorem sp_prl : ∀ (k i f : Nat) (M : MM), f ≤ n → LNm M → prl t n k i f M = .ok q → f ≤ q.1 ∧ LNm q.2
  | 0, i, f, M, _, _, h => by unfold prl at h; cases h
  | k + 1, i, f, M, hf, hl, h => by
    unfold prl at h
    obtain ⟨v, e1, h⟩ := bind_ok h
    have a1 := nx_b (t := t) hf
    split at h
    · cases h
    · split at h
      · have a2 := nx_b (t := t) a1.2
        have := sp_prl k (i + 1) _ _ a2.2 (hl.pa.pg (by decide)) h
        exact ⟨by omega, this.2⟩
      · cases h; exact ⟨a1.1, hl.pa.pg (by decide)⟩
theorem sp_tnl : ∀ (k i f : Nat) (M : MM), f ≤ n → LNm M → tnl t n k i f M = .ok q → f ≤ q.1 ∧ LNm q.2
  | 0, i, f, M, _, _, h => by unfold tnl at h; cases h
  | k + 1, i, f, M, hf, hl, h => by
    unfold tnl at h
    obtain ⟨v, e1, h⟩ := bind_ok h
    have a1 := nx_b (t := t) hf
    split at h
    · cases h
    · split at h
      · have a2 := nx_b (t := t) a1.2
        have := sp_tnl k (i + 1) _ _ a2.2 hl.pa h
        exact ⟨by omega, this.2⟩
      · cases h; exact ⟨a1.1, hl.pa⟩
theorem sp_size (hf : f ≤ n) (hl : LNm M) (h : spSize t n f M = .ok q) : f ≤ q.1 ∧ LNm q.2 := by
  unfold spSize at h
  have a1 := nx_b (t := t) hf
  have a2 := nx_b (t := t) a1.2
  have a3 := nx_b (t := t) a2.2
  have a4 := nx_b (t := t) a3.2
  split at h
  · cases h
  · split at h
    · split at h
      · split at h
        · obtain ⟨v, e1, h⟩ := bind_ok h
          obtain ⟨f3, e2, h⟩ := bind_ok h
          obtain ⟨v2, e3, h⟩ := bind_ok h
          cases h
          have a5 := nx_b (t := t) a4.2
          rw [← ww_ok e2] at a5
          have a6 := nx_b (t := t) a5.2
          exact ⟨by show f ≤ nx t n f3; omega, hl.ps⟩
        · cases h
          exact ⟨by show f ≤ nx t n (nx t n f); omega, hl.ps⟩
      · cases h
    · cases h
theorem sp_oreA (hf : f ≤ n) (hl : LNm M) (h : spOreA t n f M = .ok q) : f ≤ q.1 ∧ q.1 ≤ n ∧ LNm q.2 := by
  unfold spOreA at h
  have a1 := nx_b (t := t) hf
  have a2 := nx_b (t := t) a1.2
  have a3 := nx_b (t := t) a2.2
  split at h
  · cases h
  · split at h
    · split at h
      · obtain ⟨f3, e1, h⟩ := bind_ok h
        obtain ⟨v, e2, h⟩ := bind_ok h
        rw [← ww_ok e1] at a3
        have a4 := nx_b (t := t) a3.2
        split at h
        · cases h
          exact ⟨by show f ≤ nx t n f3; omega, a4.2, hl.po⟩
        · cases h
      · cases h
    · cases h
theorem sp_line (hf : f ≤ n) (hl : LNm M) (h : spLine t n f M = .ok q) : f ≤ q.1 ∧ LNm q.2 := by
  unfold spLine at h
  split at h
  · exact sp_drum hf hl h
  split at h
  · exact sp_sieve hf hl h
  split at h
  · exact sp_liner hf hl h
  split at h
  · exact sp_bin hf hl h
  split at h
  · unfold spPrices at h
    split at h
    · cases h
    · have a1 := nx_b (t := t) hf
      have := sp_prl _ _ _ _ a1.2 hl h
      exact ⟨by omega, this.2⟩
  split at h
  · exact sp_size hf hl h
  split at h
  · unfold spOre at h
    obtain ⟨w, e1, h⟩ := bind_ok h
    have a := sp_oreA hf hl e1
    have a1 := nx_b (t := t) a.2.1
    have := sp_tnl _ _ _ _ a1.2 a.2.2 h
    exact ⟨by omega, this.2⟩
  · cases h
end SPL
section RMILL
variable {N : Nat} {O : WO} {I I0 : WI} {J J0 : WJ} {a : Nat} {t : Nat → Int} {n f : Nat} {M : MM} {e : ER}
theorem SOV.so {e : EV} {v : Int32} (h : SOV O a t n I0 J0 e v I J) : SO O a t n I0 J0 (e.bind fun w => .ok w.2) I J := by
  cases e with
  | ok w => exact h.2
  | error w => exact h
theorem r_tons (S : SX0 O a) (hN : 800 ≤ N) {Q : WI × WJ → Prop} (h : SX O a t n I0 J0 I J f M) (h4 : M.1 8 < 4) (k : ∀ I' J', SO O a t n I0 J0 (tnl t n 6 0 f (sg M 8 (M.1 8 + 1))) I' J' → Q (I', J')) : Wp (lp (B_Mo_readOre_76 N O a) (fun _ _ _ _ => none) N (Int32.ofInt 1) (Int32.ofInt 0) I J) Q := by
  have o8 := h.okx3
  have o7 := h.okx2
  have main : ∀ (mf i : Nat) (x y : Int32) (I1 : WI) (J1 : WJ) (f1 : Nat) (M1 : MM), SX O a t n I0 J0 I1 J1 f1 M1 → M1.1 = M.1 → x.toInt = 1 → y.toInt = (i : Int) → i ≤ 5 → 6 - i < mf → (∀ I' J', SO O a t n I0 J0 (tnl t n (6 - i) i f1 (sg M1 8 (M.1 8 + 1))) I' J' → Q (I', J')) → Wp (lp (B_Mo_readOre_76 N O a) (fun _ _ _ _ => none) mf x y I1 J1) Q := by
    intro mf
    induction mf with
    | zero => intro i x y I1 J1 f1 M1 _ _ _ _ _ h; omega
    | succ mf ih =>
      intro i x y I1 J1 f1 M1 h1 hM hx hy hi hm k
      show Wp (B_Mo_readOre_76 N O a (lp (B_Mo_readOre_76 N O a) (fun _ _ _ _ => none) mf) x y I1 J1) Q
      unfold B_Mo_readOre_76
      rw [show 6 - i = (5 - i) + 1 by omega] at k
      unfold tnl at k
      have e7 : (sg M1 8 (M.1 8 + 1)).1 7 = M.1 7 := by show u1 M1.1 8 (M.1 8 + 1) 7 = M.1 7; rw [u1_n (by omega), hM]
      have e8 : (sg M1 8 (M.1 8 + 1)).1 8 - 1 = M.1 8 := by show u1 M1.1 8 (M.1 8 + 1) 8 - 1 = M.1 8; rw [u1_s]; omega
      rw [e7, e8] at k
      have h0 : SO O a t n I0 J0 (.ok (f1, M1)) I1 J1 := h1
      refine Wp.neg (by omega) (Wp.lb (Wp.bd3 (h0.whole S hN (ofI (by decide)) (ofI (by decide)) (fun v I2 J2 ex2 h2 => ?_))))
      refine Wp_jq (fun kk => ∀ I3, ((∃ w, SO O a t n I0 J0 (.error w) I3 J2 ∧ (∀ I' J', SO O a t n I0 J0 (.error w) I' J' → Q (I', J'))) ∨ (I3 = I2 ∧ ∃ v', wl t n 0 50 f1 = .ok v' ∧ (i : Int) < M.1 7 ∧ v.toInt = v' ∧ SX O a t n I0 J0 I2 J2 (nx t n f1) M1)) → Wp (kk I3) Q) (fun I3 hI3 => ?_) (fun kk hk => ?_)
      · rcases hI3 with ⟨w, hw, hq⟩ | ⟨rfl, v', hwl, hi6, hv, h3⟩
        · exact Wp.pos hw.1 (Wp.ret (hq _ _ hw))
        · rw [hwl, Ex_ok, if_neg (by omega)] at k
          have e9 := h3.F.1.2.2.2.2.2.2.2.2.2.1
          rw [hM] at e9
          have em : (Int32.ofInt 5 * I3 (rf O a 4) 9).toInt = 5 * M.1 8 := t_mul (ofI (by decide)) e9 (by omega)
          have ei : (Int32.ofInt 5 * I3 (rf O a 4) 9 + y).toInt = 5 * M.1 8 + i := t_add em hy (by omega)
          refine Wp.neg h3.s5 (Wp.pos (by omega) (Wp.lb ?_))
          rw [show (Int32.ofInt 5 * I3 (rf O a 4) 9 + y).toInt.toNat = 5 * (M.1 8).toNat + i by omega]
          have h4' := h3.arr (j := 4) (i := 5 * (M.1 8).toNat + i) S rfl (by decide) hv (fun z => by omega)
          have h5' : SO O a t n I0 J0 (.ok (nx t n f1, _)) _ J2 := h4'
          refine Wp.eq (by rw [h5'.is]) (Wp.bd1 (Wp.ret ?_))
          have ec : decide (kd t n (nx t n f1) = 4 ∧ t (nx t n f1) = (Int32.ofInt 44).toInt) = cm t n (nx t n f1) := by
            unfold cm; rw [show (Int32.ofInt 44).toInt = 44 from ofI (by decide)]
          show Wp (jn (fun IJ JJ => lb (y + Int32.ofInt 1) fun y' => lp (B_Mo_readOre_76 N O a) (fun _ _ _ _ => none) mf (bI (decide (kd t n (nx t n f1) = 4 ∧ t (nx t n f1) = (Int32.ofInt 44).toInt))) y' IJ JJ) fun kk => if (bI (decide (kd t n (nx t n f1) = 4 ∧ t (nx t n f1) = (Int32.ofInt 44).toInt))).toInt = 0 then _ else _) Q
          rw [ec]
          refine Wp.jn ?_
          cases w : cm t n (nx t n f1) with
          | false =>
            rw [w, if_neg (by decide)] at k
            refine Wp.pos bI_f (Wp.lb ?_)
            obtain ⟨mf', rfl⟩ : ∃ mf', mf = mf' + 1 := ⟨mf - 1, by omega⟩
            show Wp (B_Mo_readOre_76 N O a _ (bI false) _ _ J2) Q
            unfold B_Mo_readOre_76
            have e9' : (up2 I3 (rf O (rf O a 4) 15) (5 * (M.1 8).toNat + i) v (rf O a 4) 9).toInt = M.1 8 := by rw [up2_ne _ _ (fun z => (S.2.2.2.1 4 (by omega)).2.1 z.1.symm)]; exact e9
            exact Wp.pos bI_f (Wp.lb (Wp.ret (k _ _ (h4'.put9 S (t_add e9' k_1 (by omega)) (by omega)))))
          | true =>
            rw [w, if_pos rfl] at k
            have hk4 : kd t n (nx t n f1) = 4 := by have : cm t n (nx t n f1) = true := w; unfold cm at this; exact (of_decide_eq_true this).1
            refine Wp.neg (by rw [bI_t]; decide) (Wp.bd2 (h5'.next S hN (fun w hw => by cases hw; show kd t n (nx t n f1) ≠ 1; omega) (fun I6 J6 _ h6 => Wp.lb (ih (i + 1) _ _ I6 J6 _ _ h6 hM bI_t (by rw [t_add hy k_1 (by omega)]; omega) (by omega) (by omega) ?_))))
            rw [show 6 - (i + 1) = 5 - i by omega]; exact k
      · have e8' : (I2 (rf O a 4) 8).toInt = M.1 7 := by rw [ex2.ne S.1, h1.F.1.2.2.2.2.2.2.2.2.1, hM]
        have e8'' : ((v, I2, J2).2.1 (rf O a 4) 8).toInt = M.1 7 := e8'
        rw [e8'']
        cases hwl : wl t n 0 50 f1 with
        | error w =>
          have ee : eV t n 0 50 (.ok (f1, M1)) = .error w := by show (wl t n 0 50 f1).bind _ = _; rw [hwl]; rfl
          rw [ee] at h2
          rw [hwl] at k
          have h2' : SO O a t n I0 J0 (.error w) I2 J2 := h2
          exact Wp.ite (fun q => hk I2 (Or.inl ⟨w, h2', k⟩)) (fun q => Wp.bd1 (h2'.wrongHere (p := f1) S (w := 5) (ofI (by decide)) h1.1.2.2.2.1 (fun I3 _ h3 => hk I3 (Or.inl ⟨w, h3, k⟩))))
        | ok v' =>
          have ee : eV t n 0 50 (.ok (f1, M1)) = .ok (v', nx t n f1, M1) := by show (wl t n 0 50 f1).bind _ = _; rw [hwl]; rfl
          rw [ee] at h2
          have h2' : SO O a t n I0 J0 (.ok (nx t n f1, M1)) I2 J2 := h2.2
          refine Wp.ite (fun q => hk I2 (Or.inr ⟨rfl, v', hwl, by omega, h2.1, h2.2⟩)) (fun q => ?_)
          rw [hwl, Ex_ok, if_pos (by omega)] at k
          exact Wp.bd1 (h2'.wrongHere (p := f1) S (w := 5) (ofI (by decide)) h1.1.2.2.2.1 (fun I3 _ h3 => hk I3 (Or.inl ⟨(5, f1), h3, k⟩)))
  exact main N 0 _ _ I J f M h rfl k_1 k_0 (by omega) (by omega) k
theorem r_ore (S : SX0 O a) (hN : 800 ≤ N) {Q : WI × WJ → Prop} (h : SX O a t n I0 J0 I J f M) (hk : kd t n f ≠ 1) (hl : (M.2.2.length : Int) = M.1 7 + M.1 8) (k : ∀ I' J', SO O a t n I0 J0 (spOre t n f M) I' J' → Q (I', J')) : Wp (F_Mo_readOre N O I J a) Q := by
  unfold F_Mo_readOre
  have x8 := h.F.1.2.2.2.2.2.2.2.2.1
  have x9 := h.F.1.2.2.2.2.2.2.2.2.2.1
  have o8 := h.okx2
  have o9 := h.okx3
  refine Wp_jq (fun kk => ∀ I1 e0, SO O a t n I0 J0 e0 I1 J → (e0 = if 4 ≤ M.1 8 then .error (5, f) else .ok (f, M)) → Wp (kk I1) Q) (fun I1 e0 h1 he0 => ?_) (fun kk hk' => ?_)
  · refine Wp.bd2 (h1.next S hN (fun w hw => ?_) (fun I2 J2 _ h2 => ?_))
    · rw [he0] at hw
      split at hw
      · cases hw
      · cases hw; exact hk
    · refine Wp.bd2 (r_fresh (s := -1) S hN h2 (fun w hw => ?_) (fun I3 J3 h3 => ?_))
      · rw [he0] at hw
        split at hw
        · cases hw
        · cases hw; exact ⟨by show M.2.2.length < 9; omega, k_m1, by omega, by omega⟩
      · refine Wp.bd2 (h3.need S hN (i := 13) (by decide) (fun I4 J4 _ h4 => Wp.bd3 (h4.whole S hN (ofI (by decide)) (ofI (by decide)) (fun v I5 J5 _ h5 => Wp.bd2 (h5.so.need S hN (i := 14) (by decide) (fun I6 J6 ex6 h6 => ?_))))))
        generalize he : eW t n 14 ((eV t n 1 9 (eW t n 13 (frE t n (-1) (eN t n e0)))).bind fun w => .ok w.2) = e6 at h6
        generalize hev : eV t n 1 9 (eW t n 13 (frE t n (-1) (eN t n e0))) = ev at h5 he
        cases e6 with
        | error w =>
          refine Wp.pos h6.1 (Wp.ret (k _ _ ?_))
          have : spOre t n f M = .error w := by
            have hA : spOreA t n f M = .error w := by
              rw [← hev, he0] at he
              unfold spOreA
              unfold eW eV frE eN at he
              by_cases q4 : 4 ≤ M.1 8
              · rw [if_pos q4] at he ⊢; exact he
              · rw [if_neg q4] at he ⊢
                simp only [Ex_ok] at he
                by_cases qn : isnm t n (nx t n f) = true
                · rw [if_pos qn] at he ⊢
                  by_cases qf : fndN M.2.2 (cd t n (nx t n f)) = none
                  · rw [if_pos qf] at he ⊢
                    simp only [Ex_ok] at he
                    cases hw : ww t n 13 (nx t n (nx t n f)) with
                    | error z => rw [hw] at he; exact he
                    | ok f3 =>
                      rw [hw] at he
                      simp only [Ex_ok] at he ⊢
                      cases hv : wl t n 1 9 f3 with
                      | error z => rw [hv] at he; exact he
                      | ok v' =>
                        rw [hv] at he
                        simp only [Ex_ok] at he ⊢
                        unfold ww at he
                        by_cases q14 : isw t n 14 (nx t n f3) = true
                        · rw [if_pos q14] at he; cases he
                        · rw [if_neg q14] at he ⊢; exact he
                  · rw [if_neg qf] at he ⊢; exact he
                · rw [if_neg qn] at he ⊢; exact he
            unfold spOre; rw [hA]; rfl
          rw [this]; exact h6
        | ok w =>
          have h6' : SX O a t n I0 J0 I6 J6 w.1 w.2 := h6
          -- what came before
          obtain ⟨f3, v', hA, hw, hv', h48, hvr⟩ : ∃ f3 v', spOreA t n f M = .ok (nx t n f3, sa (sg (sn M (cd t n (nx t n f)) (-1)) 8 (M.1 8 + 1)) 3 (M.1 8).toNat v') ∧ w = (nx t n (nx t n f3), sn M (cd t n (nx t n f)) (-1)) ∧ v.toInt = v' ∧ M.1 8 < 4 ∧ 1 ≤ v' ∧ v' ≤ 9 := by
            unfold eW at he
            obtain ⟨w1, g1, he⟩ := bind_ok he
            obtain ⟨f5, g2, he⟩ := bind_ok he
            obtain ⟨w2, g3, g1⟩ := bind_ok g1
            cases g1
            rw [g3] at h5 hev
            have hvv := h5.1
            obtain ⟨w3, g4, g5⟩ := bind_ok hev
            obtain ⟨v', g6, g5⟩ := bind_ok g5
            cases g5
            obtain ⟨w4, g7, g8⟩ := bind_ok g4
            obtain ⟨f3, g9, g8⟩ := bind_ok g8
            cases g8
            obtain ⟨w5, g10, g11⟩ := bind_ok g7
            obtain ⟨w6, g12, g10⟩ := bind_ok g10
            cases g10
            rw [he0] at g12
            by_cases q4 : 4 ≤ M.1 8
            · rw [if_pos q4] at g12; cases g12
            · rw [if_neg q4] at g12; cases g12
              unfold spOreA
              rw [if_neg q4]
              by_cases qn : isnm t n (nx t n f) = true
              · rw [if_pos qn] at g11 ⊢
                by_cases qf : fndN M.2.2 (cd t n (nx t n f)) = none
                · rw [if_pos qf] at g11 ⊢
                  cases g11
                  have g2' : isw t n 14 (nx t n f3) = true := by
                    unfold ww at g2
                    split at g2
                    · rename_i q; exact q
                    · cases g2
                  have e5 := ww_ok g2
                  subst e5
                  cases he
                  refine ⟨f3, v', ?_, rfl, hvv, by omega, wl_r g6⟩
                  rw [g9, Ex_ok, g6, Ex_ok, if_pos g2']
                · rw [if_neg qf] at g11; cases g11
              · rw [if_neg qn] at g11; cases g11
          subst hw
          have e9 : (I6 (rf O a 4) 9).toInt = M.1 8 := h6'.F.1.2.2.2.2.2.2.2.2.2.1
          have e9' : ((I6, J6).1 (rf O a 4) 9).toInt = M.1 8 := e9
          refine Wp.neg h6'.s5 ?_
          rw [e9']
          refine Wp.pos (by omega) (Wp.lb ?_)
          have h7 := h6'.arr (j := 3) (i := (M.1 8).toNat) S rfl (by decide) hv' (fun _ => by omega)
          refine r_tons S hN h7 h48 (fun I' J' hf => k I' J' ?_)
          unfold spOre
          rw [hA, Ex_ok]; exact hf
  · have h0 : SO O a t n I0 J0 (.ok (f, M)) I J := h
    refine Wp.ite (fun q => Wp.bd1 (h0.wrong S (w := 5) (ofI (by decide)) (fun I1 _ h1 => hk' I1 _ h1 (by rw [if_pos (by omega)]; rfl)))) (fun q => hk' I _ h0 (by rw [if_neg (by omega)]))
end RMILL
