/-! words and names of the class's reader -/
theorem kd2 {t : Nat → Int} {n f : Nat} (h : kd t n f = 2) : f < n ∧ 97 ≤ t f ∧ t f ≤ 122 ∧ rL t n f ≤ f + 8 ∧ bh t n f = rL t n f := by
  unfold kd at h
  split at h
  · rename_i h1
    split at h
    · rename_i h2
      split at h
      · rename_i h3; exact ⟨h1, h2.1, h2.2, h3, by unfold bh; rw [if_pos h1, if_pos h2]⟩
      · omega
    · split at h
      · split at h <;> omega
      · split at h <;> omega
  · omega
theorem kd3 {t : Nat → Int} {n f : Nat} (h : kd t n f = 3) : f < n ∧ 48 ≤ t f ∧ t f ≤ 57 ∧ rD t n f ≤ f + 3 ∧ bh t n f = rD t n f := by
  unfold kd at h
  split at h
  · rename_i h1
    split at h
    · split at h <;> omega
    · rename_i h2
      split at h
      · rename_i h3
        split at h
        · rename_i h4; exact ⟨h1, h3.1, h3.2, h4, by unfold bh; rw [if_pos h1, if_neg h2, if_pos h3]⟩
        · omega
      · split at h <;> omega
  · omega
theorem kd4 {t : Nat → Int} {n f : Nat} (h : kd t n f = 4) : f < n ∧ (t f = 59 ∨ t f = 44) ∧ bh t n f = f + 1 := by
  unfold kd at h
  split at h
  · rename_i h1
    split at h
    · split at h <;> omega
    · rename_i h2
      split at h
      · split at h <;> omega
      · rename_i h3
        split at h
        · rename_i h4; exact ⟨h1, h4, by unfold bh; rw [if_pos h1, if_neg h2, if_neg h3]⟩
        · omega
  · omega
theorem kd0 {t : Nat → Int} {n f : Nat} (h : kd t n f = 0) : n ≤ f := by
  unfold kd at h
  split at h
  · exfalso
    split at h
    · split at h <;> omega
    · split at h
      · split at h <;> omega
      · split at h <;> omega
  · omega
theorem dg_congr {b m : Int} {d e : Nat → Int} : ∀ k, (∀ j, j < k → d j = e j) → dg b m d k = dg b m e k
  | 0, _ => rfl
  | k + 1, h => by unfold dg; rw [dg_congr k (fun j hj => h j (by omega)), h k (by omega)]
theorem dg8 {d : Nat → Int} : ∀ k, k ≤ 8 → (∀ j, j < k → 97 ≤ d j ∧ d j ≤ 122) → 0 ≤ dg 32 96 d k ∧ dg 32 96 d k < 1099511627776 := by
  intro k hk h
  rcases (show k = 0 ∨ k = 1 ∨ k = 2 ∨ k = 3 ∨ k = 4 ∨ k = 5 ∨ k = 6 ∨ k = 7 ∨ k = 8 by omega) with rfl | rfl | rfl | rfl | rfl | rfl | rfl | rfl | rfl
  · show (0 : Int) ≤ 0 ∧ (0 : Int) < 1099511627776; decide
  · have h0 := h 0 (by omega); simp only [dg]; omega
  · have h0 := h 0 (by omega); have h1 := h 1 (by omega); simp only [dg]; omega
  · have h0 := h 0 (by omega); have h1 := h 1 (by omega); have h2 := h 2 (by omega); simp only [dg]; omega
  · have h0 := h 0 (by omega); have h1 := h 1 (by omega); have h2 := h 2 (by omega); have h3 := h 3 (by omega); simp only [dg]; omega
  · have h0 := h 0 (by omega); have h1 := h 1 (by omega); have h2 := h 2 (by omega); have h3 := h 3 (by omega); have h4 := h 4 (by omega); simp only [dg]; omega
  · have h0 := h 0 (by omega); have h1 := h 1 (by omega); have h2 := h 2 (by omega); have h3 := h 3 (by omega); have h4 := h 4 (by omega); have h5 := h 5 (by omega); simp only [dg]; omega
  · have h0 := h 0 (by omega); have h1 := h 1 (by omega); have h2 := h 2 (by omega); have h3 := h 3 (by omega); have h4 := h 4 (by omega); have h5 := h 5 (by omega); have h6 := h 6 (by omega); simp only [dg]; omega
  · have h0 := h 0 (by omega); have h1 := h 1 (by omega); have h2 := h 2 (by omega); have h3 := h 3 (by omega); have h4 := h 4 (by omega); have h5 := h 5 (by omega); have h6 := h 6 (by omega); have h7 := h 7 (by omega); simp only [dg]; omega
theorem wr64 (z : Int) : z.bmod (2 ^ 64) = (z + 9223372036854775808) % 18446744073709551616 - 9223372036854775808 := by
  rw [Int.bmod_def]; split <;> omega
theorem l_add {x y : Int64} {a b : Int} (hx : x.toInt = a) (hy : y.toInt = b) (h : -9223372036854775808 ≤ a + b ∧ a + b < 9223372036854775808) : (x + y).toInt = a + b := by
  rw [Int64.toInt_add, wr64, hx, hy]; omega
theorem l_sub {x y : Int64} {a b : Int} (hx : x.toInt = a) (hy : y.toInt = b) (h : -9223372036854775808 ≤ a - b ∧ a - b < 9223372036854775808) : (x - y).toInt = a - b := by
  rw [Int64.toInt_sub, wr64, hx, hy]; omega
theorem l_mul {x y : Int64} {a b : Int} (hx : x.toInt = a) (hy : y.toInt = b) (h : -9223372036854775808 ≤ a * b ∧ a * b < 9223372036854775808) : (x * y).toInt = a * b := by
  rw [Int64.toInt_mul, wr64, hx, hy]; omega
theorem cmp0 {x y : Int64} : (lg_cmp x y).toInt = 0 ↔ x.toInt = y.toInt := by
  unfold lg_cmp
  by_cases h : x = y
  · subst h
    rw [if_neg (by show ¬ (x < x); rw [Int64.lt_iff_toInt_lt]; omega), if_pos rfl]
    exact ⟨fun _ => rfl, fun _ => rfl⟩
  · have hne : ¬ x.toInt = y.toInt := fun z => h (Int64.toInt_inj.mp z)
    by_cases q : x > y
    · rw [if_pos q]; exact ⟨fun z => absurd z (by decide), fun z => absurd z hne⟩
    · rw [if_neg q, if_neg h]; exact ⟨fun z => absurd z (by decide), fun z => absurd z hne⟩
section CWORD
variable {N : Nat} {O : WO} {I : WI} {J : WJ} {a : Nat} {t : Nat → Int} {n f : Nat}
theorem isw_2 {i : Nat} (h : isw t n i f = true) : kd t n f = 2 ∧ cd t n f = wc i := by simpa [isw] using h
theorem isw_n {i : Nat} (h : isw t n i f = false) (h2 : kd t n f = 2) : ¬ cd t n f = wc i := by
  intro z; have : isw t n i f = true := by simp [isw, h2, z]
  rw [h] at this; cases this
theorem cd_iff {i : Nat} (hi : i < 31) (h15 : i ≠ 15) (h2 : kd t n f = 2) : cd t n f = wc i ↔ rL t n f - f = sLen.getD i 0 ∧ ∀ j, j < sLen.getD i 0 → t (f + j) = (sC i j).toInt := by
  have hk := kd2 h2
  constructor
  · intro h
    have := dg_inj _ _ (fun j hj => by have := rL_in (t := t) (n := n) (p := f) (j := f + j) (by omega) (by omega); exact this.2) (wc_let i hi h15) h
    exact ⟨this.1, fun j hj => this.2 j (by rw [this.1]; exact hj)⟩
  · intro h
    unfold cd wc
    rw [h.1]; exact dg_congr _ h.2
theorem c_isWord (hN : 800 ≤ N) {i : Nat} (hi : i < 31) (h15 : i ≠ 15) (hA : RA O a I t n f) : F_Rd_isWord N O I J a i = some (bI (isw t n i f)) := by
  obtain ⟨hT, hfn, h3, h5, h6, h7⟩ := hA
  unfold F_Rd_isWord
  have hl := sL_i i hi
  have hl8 := wc_len i hi h15
  have h700 := hT.1
  by_cases q : kd t n f = 2
  · rw [if_pos (by rw [h6]; exact q)]
    have hk := kd2 q
    have hr := rL_b (t := t) hfn
    have es : (I a 5 - I a 3).toInt = (rL t n f : Int) - f := t_sub (by rw [h5, hk.2.2.2.2]) h3 (by omega)
    by_cases q2 : (I a 5 - I a 3).toInt = (sL i).toInt
    · rw [if_pos q2]
      have main : ∀ (m : Nat) (x : Int32) (p : Nat), x.toInt = (p : Int) → p ≤ sLen.getD i 0 → (∀ j, j < p → t (f + j) = (sC i j).toInt) → sLen.getD i 0 - p < m → lp (B_Rd_isWord_28 N O a i I J) (fun _ => none) m x = some (bI (isw t n i f)) := by
        intro m
        induction m with
        | zero => intro x p _ _ _ h; omega
        | succ m ih =>
          intro x p hx hp hj hm
          show B_Rd_isWord_28 N O a i I J (lp (B_Rd_isWord_28 N O a i I J) (fun _ => none) m) x = _
          unfold B_Rd_isWord_28
          by_cases q3 : (sL i).toInt ≤ x.toInt
          · rw [if_pos q3]
            have : isw t n i f = true := by
              simp only [isw, q, decide_true, Bool.true_and, decide_eq_true_eq]
              exact (cd_iff hi h15 q).mpr ⟨by omega, fun j hj2 => hj j (by omega)⟩
            rw [this]; rfl
          · rw [if_neg q3]
            have e3 : (I a 3 + x).toInt = ((f + p : Nat) : Int) := by rw [t_add h3 hx (by omega)]; omega
            have hin := rL_in (t := t) (n := n) (p := f) (j := f + p) (by omega) (by omega)
            rw [cb_in hT e3 hin.1]
            show (if 0 ≤ x.toInt ∧ x.toInt < ((sLen.getD i 0 : Nat) : Int) then _ else none) = _
            rw [if_pos (by omega), show x.toInt.toNat = p by omega, hT.2.2.2 _ hin.1]
            by_cases q4 : t (f + p) = (sC i p).toInt
            · rw [if_pos q4]
              show lp (B_Rd_isWord_28 N O a i I J) (fun _ => none) m (x + Int32.ofInt 1) = _
              refine ih _ (p + 1) (by rw [t_add hx k_1 (by omega)]; omega) (by omega) (fun j hj2 => ?_) (by omega)
              rcases Nat.lt_or_ge j p with w | w
              · exact hj j w
              · rw [show j = p by omega]; exact q4
            · rw [if_neg q4]
              have : isw t n i f = false := by
                simp only [isw, q, decide_true, Bool.true_and, decide_eq_false_iff_not]
                intro z; exact q4 (((cd_iff hi h15 q).mp z).2 p (by omega))
              rw [this]; rfl
      exact main N _ 0 k_0 (by omega) (fun j h => absurd h (Nat.not_lt_zero j)) (by omega)
    · rw [if_neg q2]
      have : isw t n i f = false := by
        simp only [isw, q, decide_true, Bool.true_and, decide_eq_false_iff_not]
        intro z; exact q2 (by have := ((cd_iff hi h15 q).mp z).1; omega)
      rw [this]; rfl
  · rw [if_neg (by rw [h6]; exact q)]
    have : isw t n i f = false := by simp [isw, q]
    rw [this]; rfl
theorem c_isName (hN : 800 ≤ N) (hA : RA O a I t n f) : F_Rd_isName N O I J a = some (bI (isnm t n f)) := by
  unfold F_Rd_isName isnm
  rw [c_isWord hN (by decide) (by decide) hA, c_isWord hN (by decide) (by decide) hA, c_isWord hN (by decide) (by decide) hA, c_isWord hN (by decide) (by decide) hA, c_isWord hN (by decide) (by decide) hA, c_isWord hN (by decide) (by decide) hA, c_isWord hN (by decide) (by decide) hA]
  have h6 := hA.2.2.2.2.1
  rw [h6]
  simp only [bd1, bI_i]
  by_cases q : kd t n f = 2
  · simp only [q, if_true, decide_true, Bool.true_and]
    cases isw t n 0 f
    · cases isw t n 3 f
      · cases isw t n 4 f
        · cases isw t n 5 f
          · cases isw t n 6 f
            · cases isw t n 7 f
              · cases isw t n 8 f
                · rfl
                · rfl
              · rfl
            · rfl
          · rfl
        · rfl
      · rfl
    · rfl
  · simp only [q, if_false, decide_false, Bool.false_and]; rfl
theorem c_code (hN : 800 ≤ N) (hA : RA O a I t n f) (h2 : kd t n f = 2) : ∃ c : Int64, F_Rd_nameCode N O I J a = some c ∧ c.toInt = cd t n f := by
  obtain ⟨hT, hfn, h3, h5, h6, h7⟩ := hA
  have h700 := hT.1
  have hk := kd2 h2
  have hr := rL_b (t := t) hfn
  have hlet : ∀ j, f ≤ j → j < rL t n f → j < n ∧ 97 ≤ t j ∧ t j ≤ 122 := fun j q1 q2 => rL_in q1 q2
  have main : ∀ (m : Nat) (c : Int64) (x : Int32) (p : Nat), x.toInt = (p : Int) → f ≤ p → p ≤ rL t n f → c.toInt = dg 32 96 (fun j => t (f + j)) (p - f) → rL t n f - p < m → ∃ c' : Int64, lp (B_Rd_nameCode_7 N O a I J) (fun _ _ => none) m c x = some c' ∧ c'.toInt = cd t n f := by
    intro m
    induction m with
    | zero => intro c x p _ _ _ _ h; omega
    | succ m ih =>
      intro c x p hx hp1 hp2 hc hm
      show ∃ c' : Int64, B_Rd_nameCode_7 N O a I J (lp (B_Rd_nameCode_7 N O a I J) (fun _ _ => none) m) c x = some c' ∧ c'.toInt = cd t n f
      unfold B_Rd_nameCode_7
      by_cases q3 : (I a 5).toInt ≤ x.toInt
      · rw [if_pos q3]
        refine ⟨c, rfl, ?_⟩
        rw [hc, show p = rL t n f by omega]; rfl
      · rw [if_neg q3]
        have hin := hlet p hp1 (by omega)
        rw [cb_in hT hx hin.1]
        have ht := hT.2.2.2 p hin.1
        have hd := dg8 (d := fun j => t (f + j)) (p - f) (by omega) (fun j hj => (hlet (f + j) (by omega) (by omega)).2)
        have e1 : (I (rf O a 0) p - Int32.ofInt 97).toInt = t p - 97 := t_sub ht (ofI (by decide)) (by omega)
        have e2 : (I (rf O a 0) p - Int32.ofInt 97 + Int32.ofInt 1).toInt = t p - 97 + 1 := t_add e1 k_1 (by omega)
        have e3 : (I (rf O a 0) p - Int32.ofInt 97 + Int32.ofInt 1).toInt64.toInt = t p - 97 + 1 := by rw [Int32.toInt_toInt64]; exact e2
        have e4 : (c * 32).toInt = dg 32 96 (fun j => t (f + j)) (p - f) * 32 := l_mul hc rfl (by omega)
        have e5 := l_add e4 e3 (by omega)
        refine ih _ _ (p + 1) (by rw [t_add hx k_1 (by omega)]; omega) (by omega) (by omega) ?_ (by omega)
        rw [e5, show p + 1 - f = (p - f) + 1 by omega]
        show _ = dg 32 96 (fun j => t (f + j)) (p - f) * 32 + (t (f + (p - f)) - 96)
        rw [show f + (p - f) = p by omega]; omega
  unfold F_Rd_nameCode
  exact main N 0 (I a 3) f h3 (Nat.le_refl f) hr.1 (by rw [Nat.sub_self]; rfl) (by omega)
theorem c_placeS (hN : 800 ≤ N) {c : Int64} {s : Nat} {x : Int32} {cnt : Nat} (hx : x.toInt = (cnt : Int)) (hc : cnt ≤ 5) : ∃ r : Int32, F_Rd_placeOfS N O I J c s x = some r ∧ ((r.toInt = -1 ∧ ∀ i, i < cnt → ¬ (J s i).toInt = c.toInt) ∨ ∃ i : Nat, i < cnt ∧ r.toInt = (i : Int) ∧ (J s i).toInt = c.toInt) := by
  have main : ∀ (m : Nat) (y : Int32) (p : Nat), y.toInt = (p : Int) → p ≤ cnt → (∀ i, i < p → ¬ (J s i).toInt = c.toInt) → cnt - p < m → ∃ r : Int32, lp (B_Rd_placeOfS_3 N O c s x J) (fun _ => none) m y = some r ∧ ((r.toInt = -1 ∧ ∀ i, i < cnt → ¬ (J s i).toInt = c.toInt) ∨ ∃ i : Nat, i < cnt ∧ r.toInt = (i : Int) ∧ (J s i).toInt = c.toInt) := by
    intro m
    induction m with
    | zero => intro y p _ _ _ h; omega
    | succ m ih =>
      intro y p hy hp hj hm
      show ∃ r : Int32, B_Rd_placeOfS_3 N O c s x J (lp (B_Rd_placeOfS_3 N O c s x J) (fun _ => none) m) y = some r ∧ _
      unfold B_Rd_placeOfS_3
      by_cases q : x.toInt ≤ y.toInt
      · rw [if_pos q]; exact ⟨_, rfl, Or.inl ⟨ofI (by decide), fun i hi => hj i (by omega)⟩⟩
      · rw [if_neg q, if_neg (by omega), if_pos (by omega), show y.toInt.toNat = p by omega]
        by_cases q2 : (lg_cmp (J s p) c).toInt = 0
        · rw [if_pos q2]; exact ⟨_, rfl, Or.inr ⟨p, by omega, hy, cmp0.mp q2⟩⟩
        · rw [if_neg q2]
          refine ih _ (p + 1) (by rw [t_add hy k_1 (by omega)]; omega) (by omega) (fun i hi => ?_) (by omega)
          rcases Nat.lt_or_ge i p with w | w
          · exact hj i w
          · rw [show i = p by omega]; exact fun z => q2 (cmp0.mpr z)
  exact main N _ 0 k_0 (by omega) (fun i h => absurd h (Nat.not_lt_zero i)) (by omega)
theorem c_placeO (hN : 800 ≤ N) {c : Int64} {s : Nat} {x : Int32} {cnt : Nat} (hx : x.toInt = (cnt : Int)) (hc : cnt ≤ 4) : ∃ r : Int32, F_Rd_placeOfO N O I J c s x = some r ∧ ((r.toInt = -1 ∧ ∀ i, i < cnt → ¬ (J s i).toInt = c.toInt) ∨ ∃ i : Nat, i < cnt ∧ r.toInt = (i : Int) ∧ (J s i).toInt = c.toInt) := by
  have main : ∀ (m : Nat) (y : Int32) (p : Nat), y.toInt = (p : Int) → p ≤ cnt → (∀ i, i < p → ¬ (J s i).toInt = c.toInt) → cnt - p < m → ∃ r : Int32, lp (B_Rd_placeOfO_3 N O c s x J) (fun _ => none) m y = some r ∧ ((r.toInt = -1 ∧ ∀ i, i < cnt → ¬ (J s i).toInt = c.toInt) ∨ ∃ i : Nat, i < cnt ∧ r.toInt = (i : Int) ∧ (J s i).toInt = c.toInt) := by
    intro m
    induction m with
    | zero => intro y p _ _ _ h; omega
    | succ m ih =>
      intro y p hy hp hj hm
      show ∃ r : Int32, B_Rd_placeOfO_3 N O c s x J (lp (B_Rd_placeOfO_3 N O c s x J) (fun _ => none) m) y = some r ∧ _
      unfold B_Rd_placeOfO_3
      by_cases q : x.toInt ≤ y.toInt
      · rw [if_pos q]; exact ⟨_, rfl, Or.inl ⟨ofI (by decide), fun i hi => hj i (by omega)⟩⟩
      · rw [if_neg q, if_neg (by omega), if_pos (by omega), show y.toInt.toNat = p by omega]
        by_cases q2 : (lg_cmp (J s p) c).toInt = 0
        · rw [if_pos q2]; exact ⟨_, rfl, Or.inr ⟨p, by omega, hy, cmp0.mp q2⟩⟩
        · rw [if_neg q2]
          refine ih _ (p + 1) (by rw [t_add hy k_1 (by omega)]; omega) (by omega) (fun i hi => ?_) (by omega)
          rcases Nat.lt_or_ge i p with w | w
          · exact hj i w
          · rw [show i = p by omega]; exact fun z => q2 (cmp0.mpr z)
  exact main N _ 0 k_0 (by omega) (fun i h => absurd h (Nat.not_lt_zero i)) (by omega)
theorem c_isSign {x : Int32} (hA : RA O a I t n f) : F_Rd_isSign N O I J a x = some (bI (decide (kd t n f = 4 ∧ t f = x.toInt))) := by
  obtain ⟨hT, hfn, h3, h5, h6, h7⟩ := hA
  unfold F_Rd_isSign
  by_cases q : kd t n f = 4
  · rw [if_pos (by rw [h6]; exact q), cb_in hT h3 (kd4 q).1]
    have ht := hT.2.2.2 f (kd4 q).1
    by_cases q2 : t f = x.toInt
    · simp only [bd1]; rw [if_pos (by rw [ht]; exact q2), decide_eq_true ⟨q, q2⟩]; rfl
    · simp only [bd1]; rw [if_neg (by rw [ht]; exact q2), decide_eq_false (fun z => q2 z.2)]; rfl
  · rw [if_neg (by rw [h6]; exact q), decide_eq_false (fun z => q z.1)]; rfl
end CWORD
