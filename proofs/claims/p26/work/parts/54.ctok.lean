/-! the class's reader at a token -/
theorem Wp_jq {α ρ : Type} {x : α} {f : α → Option ρ} {Q : ρ → Prop} (Pm : α → Prop) (hk : Pm x) (c : ∀ k, Pm k → Wp (f k) Q) : Wp (jn x f) Q := c x hk
def TC (O : WO) (a : Nat) (I : WI) (t : Nat → Int) (n : Nat) : Prop := n ≤ 700 ∧ rf O a 0 ≠ a ∧ (I a 4).toInt = (n : Int) ∧ ∀ i, i < n → (I (rf O a 0) i).toInt = t i
theorem TC.ex {O : WO} {a : Nat} {I I' : WI} {t : Nat → Int} {n : Nat} {ks : List Nat} (h : TC O a I t n) (e : EX a ks I I') (hk : 4 ∉ ks) : TC O a I' t n :=
  ⟨h.1, h.2.1, by rw [e.at hk]; exact h.2.2.1, fun i hi => by rw [e.ne h.2.1]; exact h.2.2.2 i hi⟩
section CTOK
variable {N : Nat} {O : WO} {I : WI} {J : WJ} {a : Nat} {t : Nat → Int} {n : Nat}
theorem cb_in (h : TC O a I t n) {x : Int32} {p : Nat} (hx : x.toInt = (p : Int)) (hp : p < n) : F_Rd_byteAt N O I J a x = some (I (rf O a 0) p) := by
  obtain ⟨h1, h2, h3, h4⟩ := h
  unfold F_Rd_byteAt
  rw [if_neg (by omega), if_neg (by omega), if_neg (by omega), if_pos (by omega), hx]; rfl
theorem cb_out (h : TC O a I t n) {x : Int32} (hx : ¬ (0 ≤ x.toInt ∧ x.toInt < (n : Int))) : F_Rd_byteAt N O I J a x = some (Int32.ofInt (-1)) := by
  obtain ⟨h1, h2, h3, h4⟩ := h
  unfold F_Rd_byteAt
  by_cases q : x.toInt < 0
  · rw [if_pos q]
  · rw [if_neg q, if_pos (by omega)]
theorem c_isL {x : Int32} : F_Rd_isLetter N O I J x = some (bI (decide (97 ≤ x.toInt ∧ x.toInt ≤ 122))) := by
  unfold F_Rd_isLetter bI
  by_cases q : x.toInt < 97
  · rw [if_pos q, if_neg (by simp; omega)]
  · rw [if_neg q]
    by_cases q2 : 122 < x.toInt
    · rw [if_pos q2, if_neg (by simp; omega)]
    · rw [if_neg q2, if_pos (by simp; omega)]
theorem c_isD {x : Int32} : F_Rd_isDigit N O I J x = some (bI (decide (48 ≤ x.toInt ∧ x.toInt ≤ 57))) := by
  unfold F_Rd_isDigit bI
  by_cases q : x.toInt < 48
  · rw [if_pos q, if_neg (by simp; omega)]
  · rw [if_neg q]
    by_cases q2 : 57 < x.toInt
    · rw [if_pos q2, if_neg (by simp; omega)]
    · rw [if_neg q2, if_pos (by simp; omega)]
theorem bI_d0 {p : Prop} [Decidable p] : (bI (decide p)).toInt = 0 ↔ ¬ p := by
  by_cases h : p <;> simp [h, bI_t, bI_f]
theorem k_1 : (Int32.ofInt 1).toInt = 1 := ofI (by decide)
theorem k_0 : (Int32.ofInt 0).toInt = 0 := ofI (by decide)
theorem cw_loop {f : Nat} : ∀ (m : Nat) (I : WI) (p : Nat) (Q : WI → Prop), TC O a I t n → (I a 3).toInt = (f : Int) → (I a 5).toInt = (p : Int) → f ≤ p → p ≤ n → n - p < m → (∀ I', EX a [5, 6] I I' → (I' a 5).toInt = (rL t n p : Int) → (I' a 6).toInt = (if rL t n p ≤ f + 8 then 2 else 1) → Q I') → Wp (lp (B_Rd_stepWord_0 N O a J) (fun _ => none) m I) Q := by
  intro m
  induction m with
  | zero => intro I p Q _ _ _ _ _ h; omega
  | succ m ih =>
    intro I p Q hT hf hp h1 h2 h3 k
    show Wp (B_Rd_stepWord_0 N O a J (lp (B_Rd_stepWord_0 N O a J) (fun _ => none) m) I) Q
    unfold B_Rd_stepWord_0
    have h700 := hT.1
    refine Wp_jq (fun kk => ¬ (p < n ∧ 97 ≤ t p ∧ t p ≤ 122) → Wp (kk I) Q) (fun hs => ?_) (fun kk hk => ?_)
    · have e := rL_n hs
      have es : (I a 5 - I a 3).toInt = (p : Int) - f := t_sub hp hf (by omega)
      refine Wp.jn ?_
      by_cases q : (I a 5 - I a 3).toInt ≤ 8
      · refine Wp.pos q (Wp.ret (k _ (EX.up.w (by decide)) ?_ ?_))
        · rw [up2_ne _ _ (by omega), hp, e]
        · rw [up2_self, e, if_pos (by omega)]; exact ofI (by decide)
      · refine Wp.neg q (Wp.ret (k _ (EX.up.w (by decide)) ?_ ?_))
        · rw [up2_ne _ _ (by omega), hp, e]
        · rw [up2_self, e, if_neg (by omega)]; exact ofI (by decide)
    · have hn := hT.2.2.1
      refine Wp.ite (fun q => hk (by omega)) (fun q => ?_)
      refine Wp.eq (by rw [cb_in hT hp (by omega)]) (Wp.bd1 (Wp.ret ?_))
      refine Wp.eq (by rw [c_isL]) (Wp.bd1 (Wp.ret ?_))
      have ht := hT.2.2.2 p (by omega)
      refine Wp.ite (fun q2 => hk (by rw [bI_d0, ht] at q2; exact fun z => q2 z.2)) (fun q2 => ?_)
      rw [bI_d0, ht, Decidable.not_not] at q2
      refine Wp.lb ?_
      have e5 : (I a 5 + Int32.ofInt 1).toInt = ((p + 1 : Nat) : Int) := by rw [t_add hp k_1 (by omega)]; omega
      have hE : EX a [5, 6] I (up2 I a 5 (I a 5 + Int32.ofInt 1)) := EX.up.w (by decide)
      refine ih _ (p + 1) Q (hT.ex hE (by decide)) (by rw [hE.at (by decide)]; exact hf) (by rw [up2_self]; exact e5) (by omega) (by omega) (by omega) (fun I' x1 x2 x3 => ?_)
      have er : rL t n p = rL t n (p + 1) := rL_y ⟨by omega, q2⟩
      exact k I' (hE.trans x1) (by rw [er]; exact x2) (by rw [er]; exact x3)
theorem dg3 {d : Nat → Int} : ∀ k, k ≤ 3 → (∀ j, j < k → 48 ≤ d j ∧ d j ≤ 57) → 0 ≤ dg 10 48 d k ∧ dg 10 48 d k < 1000 := by
  intro k hk h
  rcases (show k = 0 ∨ k = 1 ∨ k = 2 ∨ k = 3 by omega) with rfl | rfl | rfl | rfl
  · show (0 : Int) ≤ 0 ∧ (0 : Int) < 1000; decide
  · have h0 := h 0 (by omega); simp only [dg]; omega
  · have h0 := h 0 (by omega); have h1 := h 1 (by omega); simp only [dg]; omega
  · have h0 := h 0 (by omega); have h1 := h 1 (by omega); have h2 := h 2 (by omega); simp only [dg]; omega
theorem cn_loop {f : Nat} : ∀ (m : Nat) (I : WI) (p : Nat) (Q : WI → Prop), TC O a I t n → (I a 3).toInt = (f : Int) → (I a 5).toInt = (p : Int) → f ≤ p → p ≤ n → (∀ j, f ≤ j → j < p → 48 ≤ t j ∧ t j ≤ 57) → (p ≤ f + 3 → (I a 7).toInt = dg 10 48 (fun j => t (f + j)) (p - f)) → n - p < m → (∀ I', EX a [5, 6, 7] I I' → (I' a 5).toInt = (rD t n p : Int) → (I' a 6).toInt = (if rD t n p ≤ f + 3 then 3 else 1) → (rD t n p ≤ f + 3 → (I' a 7).toInt = dg 10 48 (fun j => t (f + j)) (rD t n p - f)) → Q I') → Wp (lp (B_Rd_stepWhole_5 N O a J) (fun _ => none) m I) Q := by
  intro m
  induction m with
  | zero => intro I p Q _ _ _ _ _ _ _ h; omega
  | succ m ih =>
    intro I p Q hT hf hp h1 h2 hdig hval h3 k
    show Wp (B_Rd_stepWhole_5 N O a J (lp (B_Rd_stepWhole_5 N O a J) (fun _ => none) m) I) Q
    unfold B_Rd_stepWhole_5
    have h700 := hT.1
    refine Wp_jq (fun kk => ¬ (p < n ∧ 48 ≤ t p ∧ t p ≤ 57) → Wp (kk I) Q) (fun hs => ?_) (fun kk hk => ?_)
    · have e := rD_n hs
      have es : (I a 5 - I a 3).toInt = (p : Int) - f := t_sub hp hf (by omega)
      refine Wp.jn ?_
      by_cases q : (I a 5 - I a 3).toInt ≤ 3
      · refine Wp.pos q (Wp.ret (k _ (EX.up.w (by decide)) ?_ ?_ ?_))
        · rw [up2_ne _ _ (by omega), hp, e]
        · rw [up2_self, e, if_pos (by omega)]; exact ofI (by decide)
        · rw [up2_ne _ _ (by omega), e]; exact hval
      · refine Wp.neg q (Wp.ret (k _ (EX.up.w (by decide)) ?_ ?_ ?_))
        · rw [up2_ne _ _ (by omega), hp, e]
        · rw [up2_self, e, if_neg (by omega)]; exact ofI (by decide)
        · rw [up2_ne _ _ (by omega), e]; exact hval
    · have hn := hT.2.2.1
      refine Wp.ite (fun q => hk (by omega)) (fun q => ?_)
      have hb := cb_in (N := N) (J := J) hT hp (by omega)
      refine Wp.eq (by rw [hb]) (Wp.bd1 (Wp.ret ?_))
      refine Wp.eq (by rw [c_isD]) (Wp.bd1 (Wp.ret ?_))
      have ht := hT.2.2.2 p (by omega)
      refine Wp.ite (fun q2 => hk (by rw [bI_d0, ht] at q2; exact fun z => q2 z.2)) (fun q2 => ?_)
      rw [bI_d0, ht, Decidable.not_not] at q2
      refine Wp.bd1 (Wp.ret ?_)
      refine Wp.lb (Wp.lb ?_)
      have e5 : (I a 5 + Int32.ofInt 1).toInt = ((p + 1 : Nat) : Int) := by rw [t_add hp k_1 (by omega)]; omega
      have hE : EX a [5, 6, 7] I (up2 I a 7 (I a 7 * Int32.ofInt 10 + I (rf O a 0) p - Int32.ofInt 48)) := EX.up.w (by decide)
      have hE2 : EX a [5, 6, 7] I (up2 (up2 I a 7 (I a 7 * Int32.ofInt 10 + I (rf O a 0) p - Int32.ofInt 48)) a 5 (up2 I a 7 (I a 7 * Int32.ofInt 10 + I (rf O a 0) p - Int32.ofInt 48) a 5 + Int32.ofInt 1)) := hE.trans (EX.up.w (by decide))
      refine ih _ (p + 1) Q (hT.ex hE2 (by decide)) (by rw [hE2.at (by decide)]; exact hf) (by rw [up2_self, up2_ne _ _ (by omega)]; exact e5) (by omega) (by omega) (fun j j1 j2 => ?_) (fun hp3 => ?_) (by omega) (fun I' x1 x2 x3 x4 => ?_)
      · rcases Nat.lt_or_ge j p with w | w
        · exact hdig j j1 w
        · rw [show j = p by omega]; exact q2
      · rw [up2_ne _ _ (by omega), up2_self]
        have hv := hval (by omega)
        have hd := dg3 (d := fun j => t (f + j)) (p - f) (by omega) (fun j hj => hdig (f + j) (by omega) (by omega))
        have e10 : (I a 7 * Int32.ofInt 10).toInt = dg 10 48 (fun j => t (f + j)) (p - f) * 10 := t_mul hv (ofI (by decide)) (by omega)
        have e11 := t_add e10 ht (by omega)
        have e12 := t_sub e11 (show (Int32.ofInt 48).toInt = 48 from ofI (by decide)) (by omega)
        rw [e12, show p + 1 - f = (p - f) + 1 by omega]
        show _ = dg 10 48 (fun j => t (f + j)) (p - f) * 10 + (t (f + (p - f)) - 48)
        rw [show f + (p - f) = p by omega]; omega
      · have er : rD t n p = rD t n (p + 1) := rD_y ⟨by omega, q2⟩
        exact k I' (hE2.trans x1) (by rw [er]; exact x2) (by rw [er]; exact x3) (by rw [er]; exact x4)
/-- the reader stands at the token that begins at f -/
def RA (O : WO) (a : Nat) (I : WI) (t : Nat → Int) (n f : Nat) : Prop := TC O a I t n ∧ f ≤ n ∧ (I a 3).toInt = (f : Int) ∧ (I a 5).toInt = (bh t n f : Int) ∧ (I a 6).toInt = kd t n f ∧ (kd t n f = 3 → (I a 7).toInt = vl t n f)
theorem RA.ex {I' : WI} {f : Nat} {ks : List Nat} (h : RA O a I t n f) (e : EX a ks I I') (h3 : 3 ∉ ks) (h4 : 4 ∉ ks) (h5 : 5 ∉ ks) (h6 : 6 ∉ ks) (h7 : 7 ∉ ks) : RA O a I' t n f := by
  obtain ⟨x1, x2, x3, x4, x5, x6⟩ := h
  exact ⟨x1.ex e h4, x2, by rw [e.at h3]; exact x3, by rw [e.at h5]; exact x4, by rw [e.at h6]; exact x5, by rw [e.at h7]; exact x6⟩
theorem RA.nw {I' : WI} {f b : Nat} (h : RA O a I t n f) (hb : b ≠ a) (hb2 : b ≠ rf O a 0) (e : ∀ c, c ≠ b → I' c = I c) : RA O a I' t n f := by
  obtain ⟨⟨y1, y2, y3, y4⟩, x2, x3, x4, x5, x6⟩ := h
  have ea : I' a = I a := e a (fun z => hb z.symm)
  exact ⟨⟨y1, y2, by rw [ea]; exact y3, fun i hi => by rw [e _ (fun z => hb2 z.symm)]; exact y4 i hi⟩, x2, by rw [ea]; exact x3, by rw [ea]; exact x4, by rw [ea]; exact x5, by rw [ea]; exact x6⟩
theorem c_step (hN : 800 ≤ N) {p : Nat} {Q : WI → Prop} (hT : TC O a I t n) (hp : (I a 5).toInt = (p : Int)) (hpn : p ≤ n) (k : ∀ I', EX a [3, 5, 6, 7] I I' → RA O a I' t n (rB t n p) → Q I') : Wp (F_Rd_step N O I J a) Q := by
  unfold F_Rd_step
  refine Wp.lb ?_
  have h700 := hT.1
  have main : ∀ (m : Nat) (I1 : WI) (p : Nat), EX a [3, 5, 6, 7] I I1 → (I1 a 3).toInt = (p : Int) → p ≤ n → n - p < m → (∀ I', EX a [3, 5, 6, 7] I I' → RA O a I' t n (rB t n p) → Q I') → Wp (lp (B_Rd_step_8 N O a J) (fun _ => none) m I1) Q := by
    intro m
    induction m with
    | zero => intro I1 p _ _ _ h; omega
    | succ m ih =>
      intro I1 p hE hf h2 h3 k
      show Wp (B_Rd_step_8 N O a J (lp (B_Rd_step_8 N O a J) (fun _ => none) m) I1) Q
      unfold B_Rd_step_8
      have hT1 := hT.ex hE (by decide)
      refine Wp_jq (fun kk => ¬ (p < n ∧ t p = 32) → Wp (kk I1) Q) (fun hs => ?_) (fun kk hk => ?_)
      · have e := rB_n hs
        rw [e] at k
        refine Wp.lb ?_
        generalize hI2 : up2 I1 a 5 (I1 a 3) = I2
        have hE2 : EX a [5] I1 I2 := by rw [← hI2]; exact EX.up
        have hT2 := hT1.ex hE2 (by decide)
        have e3 : (I2 a 3).toInt = (p : Int) := by rw [hE2.at (by decide)]; exact hf
        have e5 : (I2 a 5).toInt = (p : Int) := by rw [← hI2, up2_self]; exact hf
        have hE2' : EX a [3, 5, 6, 7] I I2 := hE.trans (hE2.w (by decide))
        have hn := hT2.2.2.1
        by_cases hlt : p < n
        · refine Wp.eq (by rw [cb_in hT2 e3 hlt]) (Wp.bd1 (Wp.ret ?_))
          have ht := hT2.2.2.2 p hlt
          refine Wp.pos (by omega) ?_
          refine Wp.eq (by rw [c_isL]) (Wp.bd1 (Wp.ret ?_))
          refine Wp.ite (fun q2 => ?_) (fun q2 => ?_)
          · rw [bI_d0, ht] at q2
            refine Wp.eq (by rw [c_isD]) (Wp.bd1 (Wp.ret ?_))
            refine Wp.ite (fun q3 => ?_) (fun q3 => ?_)
            · rw [bI_d0, ht] at q3
              refine Wp_jq (fun kk => ∀ z : Int32, z.toInt = kd t n p → Wp (kk z) Q) (fun z hz => ?_) (fun kk hk => ?_)
              · refine Wp.lb (Wp.lb (Wp.ret ?_))
                have hx : EX a [3, 5, 6, 7] I2 (up2 (up2 I2 a 6 z) a 5 (up2 I2 a 6 z a 3 + Int32.ofInt 1)) := (EX.up.w (by decide) : EX a [3, 5, 6, 7] I2 (up2 I2 a 6 z)).trans (EX.up.w (by decide))
                refine k _ (hE2'.trans hx) ⟨hT2.ex hx (by decide), h2, ?_, ?_, ?_, ?_⟩
                · rw [up2_ne _ _ (by omega), up2_ne _ _ (by omega)]; exact e3
                · rw [up2_self, up2_ne _ _ (by omega), t_add e3 k_1 (by omega)]
                  unfold bh; rw [if_pos hlt, if_neg q2, if_neg q3]; omega
                · rw [up2_ne _ _ (by omega), up2_self]; exact hz
                · intro q; exfalso
                  unfold kd at q; rw [if_pos hlt, if_neg q2, if_neg q3] at q
                  split at q <;> omega
              · have hkd : kd t n p = if t p = 59 ∨ t p = 44 then 4 else 1 := by unfold kd; rw [if_pos hlt, if_neg q2, if_neg q3]
                refine Wp_jq (fun kk2 => (t p = 59 ∨ t p = 44) → Wp kk2 Q) (fun h => hk _ ?_) (fun kk2 hk2 => ?_)
                · rw [hkd, if_pos h]; exact ofI (by decide)
                · refine Wp.ite (fun w => hk2 (by omega)) (fun w => Wp.ite (fun w2 => hk2 (by omega)) (fun w2 => hk _ ?_))
                  rw [hkd, if_neg (by omega)]; exact ofI (by decide)
            · rw [bI_d0, ht, Decidable.not_not] at q3
              refine Wp.bd1 ?_
              unfold F_Rd_stepWhole
              refine Wp.lb ?_
              have hx : EX a [5, 6, 7] I2 (up2 I2 a 7 (Int32.ofInt 0)) := EX.up.w (by decide)
              refine cn_loop (f := p) N _ p _ (hT2.ex hx (by decide)) (by rw [up2_ne _ _ (by omega)]; exact e3) (by rw [up2_ne _ _ (by omega)]; exact e5) (Nat.le_refl p) h2 (fun j j1 j2 => by omega) (fun _ => by rw [up2_self, Nat.sub_self]; exact k_0) (by omega) (fun I' x1 x2 x3 x4 => Wp.ret ?_)
              have hy := hx.trans x1
              refine k I' (hE2'.trans (hy.w (by decide))) ⟨hT2.ex hy (by decide), h2, ?_, ?_, ?_, ?_⟩
              · rw [hy.at (by decide)]; exact e3
              · rw [x2]; unfold bh; rw [if_pos hlt, if_neg q2, if_pos q3]
              · rw [x3]; unfold kd; rw [if_pos hlt, if_neg q2, if_pos q3]
              · intro q
                unfold kd at q; rw [if_pos hlt, if_neg q2, if_pos q3] at q
                split at q
                · rename_i w; exact x4 w
                · omega
          · rw [bI_d0, ht, Decidable.not_not] at q2
            refine Wp.bd1 ?_
            unfold F_Rd_stepWord
            refine cw_loop (f := p) N _ p _ hT2 e3 e5 (Nat.le_refl p) h2 (by omega) (fun I' x1 x2 x3 => Wp.ret ?_)
            refine k I' (hE2'.trans (x1.w (by decide))) ⟨hT2.ex x1 (by decide), h2, ?_, ?_, ?_, ?_⟩
            · rw [x1.at (by decide)]; exact e3
            · rw [x2]; unfold bh; rw [if_pos hlt, if_pos q2]
            · rw [x3]; unfold kd; rw [if_pos hlt, if_pos q2]
            · intro q
              unfold kd at q; rw [if_pos hlt, if_pos q2] at q
              split at q <;> omega
        · refine Wp.eq (by rw [cb_out hT2 (by omega)]) (Wp.bd1 (Wp.ret ?_))
          refine Wp.neg (by omega) (Wp.lb (Wp.ret ?_))
          have hx : EX a [6] I2 (up2 I2 a 6 (Int32.ofInt 0)) := EX.up
          refine k _ (hE2'.trans (hx.w (by decide))) ⟨hT2.ex hx (by decide), h2, ?_, ?_, ?_, ?_⟩
          · rw [hx.at (by decide)]; exact e3
          · rw [hx.at (by decide), e5]; unfold bh; rw [if_neg hlt]
          · rw [up2_self]; unfold kd; rw [if_neg hlt]; exact k_0
          · intro q; unfold kd at q; rw [if_neg hlt] at q; omega
      · have hn := hT1.2.2.1
        refine Wp.ite (fun q => hk (by omega)) (fun q => ?_)
        refine Wp.eq (by rw [cb_in hT1 hf (by omega)]) (Wp.bd1 (Wp.ret ?_))
        have ht := hT1.2.2.2 p (by omega)
        refine Wp.ite (fun q2 => ?_) (fun q2 => hk (by omega))
        refine Wp.lb ?_
        have hx : EX a [3, 5, 6, 7] I1 (up2 I1 a 3 (I1 a 3 + Int32.ofInt 1)) := EX.up.w (by decide)
        refine ih _ (p + 1) (hE.trans hx) (by rw [up2_self, t_add hf k_1 (by omega)]; omega) (by omega) (by omega) (fun I' y1 y2 => k I' y1 ?_)
        rw [rB_y ⟨by omega, by omega⟩]; exact y2
  exact main N _ p (EX.up.w (by decide)) (by rw [up2_self]; exact hp) hpn (by omega) k
theorem c_next (hN : 800 ≤ N) {f : Nat} {Q : WI → Prop} (hA : RA O a I t n f) (k : ∀ I', EX a [3, 5, 6, 7] I I' → RA O a I' t n (nx t n f) → Q I') : Wp (F_Rd_step N O I J a) Q := by
  have h := bh_b (t := t) hA.2.1
  exact c_step hN hA.1 hA.2.2.2.1 h.2 k
end CTOK
