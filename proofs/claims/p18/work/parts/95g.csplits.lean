/-! the class's counts -/
def ssm (f : Nat → Int) : Nat → Int
  | 0 => 0
  | i + 1 => ssm f i + f i
theorem ssm_b {f : Nat → Int} {n : Nat} (hf : ∀ k, k < n → 0 ≤ f k ∧ f k ≤ 999) : ∀ i, i ≤ n → 0 ≤ ssm f i ∧ ssm f i ≤ 999 * (i : Int)
  | 0, _ => ⟨Int.le_refl _, Int.le_refl _⟩
  | i + 1, h => by
    have ih := ssm_b hf i (by omega)
    have := hf i (by omega)
    show 0 ≤ ssm f i + f i ∧ ssm f i + f i ≤ 999 * ((i + 1 : Nat) : Int)
    omega
theorem ssm_cg {f g : Nat → Int} : ∀ i, (∀ k, k < i → f k = g k) → ssm f i = ssm g i
  | 0, _ => rfl
  | i + 1, h => by
    show ssm f i + f i = ssm g i + g i
    rw [ssm_cg i (fun k hk => h k (by omega)), h i (by omega)]
def wys (b : Nat) : Nat → Int
  | 0 => 1
  | i + 1 => wys b i * ((b : Int) + ((i : Int) + 1)) / ((i : Int) + 1)
theorem wys_b : ∀ b, b < 9 → ∀ i, i < 9 → (0 ≤ wys b i ∧ wys b i ≤ 12870) ∧ wys b i = (sch (b + i) i : Int) := by decide +kernel
section CSPL
variable {N : Nat} {O : WO} {I : WI} {J : WJ} {a : Nat}
theorem c_countFrom {f : Nat → Int} {n : Nat} (hn : n ≤ 16) (hf : ∀ k, k < n → (I a k).toInt = f k) (hb : ∀ k, k < n → 0 ≤ f k ∧ f k ≤ 999) : ∀ (m c i k : Nat) (s : Int) (x1 x2 x3 x4 : Int32) (Q : Int32 → Prop), x1.toInt = (i : Int) → x2.toInt = (n : Int) → x3.toInt = (k : Int) → x4.toInt = s → i + c = n → k ≤ 16 → -999 * (i : Int) ≤ s → s ≤ 20000 → c < m → (∀ z : Int32, z.toInt = (sct (ssg f i c) k s : Int) → Q z) → Wp (lp (B_Tr_countFrom_self N O I J) (fun _ _ _ _ _ => none) m a x1 x2 x3 x4) Q := by
  intro m
  induction m with
  | zero => intro c i k s x1 x2 x3 x4 Q _ _ _ _ _ _ _ _ h; omega
  | succ m ih =>
    intro c i k s x1 x2 x3 x4 Q h1 h2 h3 h4 hc hk hs1 hs2 hm hQ
    show Wp (B_Tr_countFrom_self N O I J (lp (B_Tr_countFrom_self N O I J) (fun _ _ _ _ _ => none) m) a x1 x2 x3 x4) Q
    unfold B_Tr_countFrom_self
    cases k with
    | zero =>
      refine Wp.neg (by omega) ?_
      have e := sct_0 (ssg f i c) s
      by_cases c0 : s ≤ 0
      · rw [if_pos c0] at e
        exact Wp.neg (by omega) (Wp.ret (hQ _ (by rw [e]; exact k_1)))
      · rw [if_neg c0] at e
        exact Wp.pos (by omega) (Wp.ret (hQ _ (by rw [e]; exact k_0)))
    | succ k =>
      refine Wp.pos (by omega) (Wp.neg (by omega) ?_)
      by_cases c0 : c = 0
      · refine Wp.pos (by omega) (Wp.ret (hQ _ ?_))
        rw [c0, sct_gt _ _ _ (show (ssg f i 0).length < k + 1 by rw [ssg_len]; omega)]; exact k_0
      · refine Wp.neg (by omega) (Wp.neg (by omega) ?_)
        have es : (x2 - x1).toInt = (n : Int) - i := t_sub h2 h1 (by omega)
        by_cases c1 : k + 1 ≤ c
        · refine Wp.pos (by omega) (Wp.pos (by omega) ?_)
          have ei : x1.toInt.toNat = i := tn_i h1
          have hfi := hf i (by omega)
          have hbi := hb i (by omega)
          obtain ⟨c', rfl⟩ : ∃ c', c = c' + 1 := ⟨c - 1, by omega⟩
          refine Wp.bd1 (ih c' (i + 1) k (s - f i) _ _ _ _ _ (incB h1 (by omega)) h2 (by rw [t_sub h3 k_1 (by omega)]; omega) (by rw [ei]; exact t_sub h4 hfi (by omega)) (by omega) (by omega) (by omega) (by omega) (by omega) (fun z1 hz1 => Wp.bd1 (ih c' (i + 1) (k + 1) s _ _ _ _ _ (incB h1 (by omega)) h2 h3 h4 (by omega) hk (by omega) hs2 (by omega) (fun z2 hz2 => Wp.ret (hQ _ ?_)))))
          have l1 := sct_le (ssg f (i + 1) c') k (s - f i)
          have l2 := sct_le (ssg f (i + 1) c') (k + 1) s
          rw [ssg_len] at l1 l2
          have l3 := p16 (n := c') (by omega)
          rw [t_add hz1 hz2 (by omega)]
          show _ = ((sct (ssg f (i + 1) c') k (s - f i) + sct (ssg f (i + 1) c') (k + 1) s : Nat) : Int)
          omega
        · refine Wp.neg (by omega) (Wp.ret (hQ _ ?_))
          rw [sct_gt _ _ _ (by rw [ssg_len]; omega)]; exact k_0
/-- a row of a try -/
def trw (I : WI) (b : Nat) (k : Nat) : Int := (I b k).toInt
theorem c_countNoLess {b c : Nat} {Q : Int32 × WI → Prop} (hN : 20 ≤ N) (n0 : ¬ rf O a 0 = rf O a 2) (n1 : ¬ rf O a 1 = rf O a 2) (n2 : ¬ a = rf O a 2) (h3 : (I a 3).toInt = (b : Int)) (h4 : (I a 4).toInt = (c : Int)) (hb : b ≤ 8) (hc : c ≤ 8) (r0 : ∀ k, k < b → 0 ≤ trw I (rf O a 0) k ∧ trw I (rf O a 0) k ≤ 999) (r1 : ∀ k, k < c → 0 ≤ trw I (rf O a 1) k ∧ trw I (rf O a 1) k ≤ 999)
    (hQ : ∀ (z : Int32) I', z.toInt = (sct (ssg (trw I (rf O a 1)) 0 c ++ ssg (trw I (rf O a 0)) 0 b) c (ssm (trw I (rf O a 1)) c) : Int) → (∀ d, ¬ d = rf O a 2 → I' d = I d) → Q (z, I')) : Wp (F_Tr_countNoLess N O I J a) Q := by
  unfold F_Tr_countNoLess
  refine forD (n := c) (fun i y I1 => y.toInt = ssm (trw I (rf O a 1)) i ∧ (∀ k, k < i → I1 (rf O a 2) k = I (rf O a 1) k) ∧ (∀ d, ¬ d = rf O a 2 → I1 d = I d)) (by omega) ⟨k_0, fun k hk => absurd hk (Nat.not_lt_zero _), fun _ _ => rfl⟩ ?_ ?_
  · intro rec y x i I1 hx hi ⟨v1, v2, v3⟩ kk
    have ex : x.toInt.toNat = i := tn_i hx
    have q4 : (I1 a 4).toInt = (c : Int) := by rw [v3 a n2]; exact h4
    have bs := ssm_b r1 i (by omega)
    have bi := r1 i hi
    unfold B_Tr_countNoLess_4
    refine Wp.jn (Wp.neg (by omega) (Wp.neg (by omega) (Wp.pos (by omega) (Wp.pos (by omega) (Wp_lb (fun I2 e2 => Wp.pos (by omega) (Wp_lb (fun u eu => Wp_lb (fun v ev => ?_)))))))))
    rw [ex] at e2 eu
    have f2 : ∀ d, ¬ d = rf O a 2 → I2 d = I1 d := fun d hd => by rw [e2, up2_row _ _ hd]
    refine kk u v I2 (by rw [ev]; exact incB hx (by omega)) ⟨?_, fun k hk => ?_, fun d hd => by rw [f2 d hd]; exact v3 d hd⟩
    · rw [eu, f2 _ n1, v3 _ n1]
      exact t_add v1 rfl (by show _ ≤ _ + trw I (rf O a 1) i ∧ _ + trw I (rf O a 1) i < _; omega)
    · rw [e2]
      by_cases e : k = i
      · subst e; rw [up2_self, v3 _ n1]
      · rw [up2_ne _ _ (fun z => e z.2)]; exact v2 k (by omega)
  · intro rec y x I1 hx ⟨v1, v2, v3⟩
    have q4 : (I1 a 4).toInt = (c : Int) := by rw [v3 a n2]; exact h4
    unfold B_Tr_countNoLess_4
    refine Wp.jn (Wp.pos (by omega) ?_)
    refine forU (n := b) (fun i I2 => (∀ k, k < c → I2 (rf O a 2) k = I (rf O a 1) k) ∧ (∀ k, k < i → I2 (rf O a 2) (c + k) = I (rf O a 0) k) ∧ (∀ d, ¬ d = rf O a 2 → I2 d = I d)) (by omega) ⟨v2, fun k hk => absurd hk (Nat.not_lt_zero _), v3⟩ ?_ ?_
    · intro rec2 x2 i I2 hx2 hi ⟨u1', u2, u3⟩ kk
      have ex : x2.toInt.toNat = i := tn_i hx2
      have p3 : (I2 a 3).toInt = (b : Int) := by rw [u3 a n2]; exact h3
      have p4 : (I2 a 4).toInt = (c : Int) := by rw [u3 a n2]; exact h4
      have ec : (I2 a 4 + x2).toInt = ((c + i : Nat) : Int) := by rw [t_add p4 hx2 (by omega)]; omega
      have ec2 : (I2 a 4 + x2).toInt.toNat = c + i := tn_i ec
      unfold B_Tr_countNoLess_47
      refine Wp.jn (Wp.neg (by omega) (Wp.neg (by omega) (Wp.neg (by omega) (Wp.pos (by omega) (Wp.pos (by omega) (Wp_lb (fun I3 e3 => Wp_lb (fun v ev => ?_))))))))
      rw [ec2, ex] at e3
      refine kk v I3 (by rw [ev]; exact incB hx2 (by omega)) ⟨fun k hk => ?_, fun k hk => ?_, fun d hd => by rw [e3, up2_row _ _ hd]; exact u3 d hd⟩
      · rw [e3, up2_ne _ _ (fun z => by omega)]; exact u1' k hk
      · rw [e3]
        by_cases e : k = i
        · subst e; rw [up2_self, u3 _ n0]
        · rw [up2_ne _ _ (fun z => e (by omega))]; exact u2 k (by omega)
    · intro rec2 x2 I2 hx2 ⟨u1', u2, u3⟩
      have p3 : (I2 a 3).toInt = (b : Int) := by rw [u3 a n2]; exact h3
      have p4 : (I2 a 4).toInt = (c : Int) := by rw [u3 a n2]; exact h4
      unfold B_Tr_countNoLess_47
      refine Wp.jn (Wp.pos (by omega) (Wp.bd1 ?_))
      unfold F_Tr_countFrom
      have bs := ssm_b r1 c (by omega)
      have lA : ∀ k, k < c → trw I2 (rf O a 2) k = trw I (rf O a 1) k := fun k hk => by unfold trw; rw [u1' k hk]
      have lB : ∀ k, k < b → trw I2 (rf O a 2) (c + k) = trw I (rf O a 0) k := fun k hk => by unfold trw; rw [u2 k hk]
      refine c_countFrom (f := trw I2 (rf O a 2)) (n := c + b) (by omega) (fun k _ => rfl) (fun k hk => ?_) 18 (c + b) 0 c (ssm (trw I (rf O a 1)) c) _ _ _ _ _ k_0 (by rw [t_add p3 p4 (by omega)]; omega) p4 v1 (by omega) (by omega) (by omega) (by omega) (by omega) (fun z hz => Wp.ret (hQ z I2 ?_ u3))
      · by_cases e : k < c
        · rw [lA k e]; exact r1 k e
        · have q := lB (k - c) (by omega)
          rw [show c + (k - c) = k by omega] at q
          rw [q]; exact r0 _ (by omega)
      · rw [hz, ssg_app, ssg_cg (g := trw I (rf O a 1)) c 0 0 (fun k hk => by rw [Nat.zero_add]; exact lA k hk), ssg_cg (g := trw I (rf O a 0)) b (0 + c) 0 (fun k hk => by rw [Nat.zero_add, Nat.zero_add]; exact lB k hk)]
theorem c_countAll {b c : Nat} {Q : Int32 → Prop} (hN : 20 ≤ N) (h3 : (I a 3).toInt = (b : Int)) (h4 : (I a 4).toInt = (c : Int)) (hb : b ≤ 8) (hc : c ≤ 8) (hQ : ∀ z : Int32, z.toInt = (sch (b + c) c : Int) → Q z) : Wp (F_Tr_countAll N O I J a) Q := by
  unfold F_Tr_countAll
  have main : ∀ (m i : Nat) (v : Int64) (x : Int32), x.toInt = ((i + 1 : Nat) : Int) → v.toInt = wys b i → i ≤ c → c - i < m → Wp (lp (B_Tr_countAll_4 N O a I) (fun _ _ => none) m v x) Q := by
    intro m
    induction m with
    | zero => intro i v x _ _ _ h; omega
    | succ m ih =>
      intro i v x hx hv hi hm
      show Wp (B_Tr_countAll_4 N O a I (lp (B_Tr_countAll_4 N O a I) (fun _ _ => none) m) v x) Q
      unfold B_Tr_countAll_4
      have bw := wys_b b (by omega) i (by omega)
      by_cases e : i = c
      · refine Wp.pos (by omega) (Wp.ret (hQ _ ?_))
        rw [Int64.toInt_toInt32, hv, wr32, ← e, ← bw.2]
        have := bw.1; omega
      · have bw1 := wys_b b (by omega) (i + 1) (by omega)
        refine Wp.neg (by omega) (Wp.pos (by rw [Int32.toInt_toInt64]; omega) (Wp.lb (Wp.lb (ih (i + 1) _ _ (by rw [t_add hx k_1 (by omega)]; omega) ?_ (by omega) (by omega)))))
        have ea : (I a 3 + x).toInt = (b : Int) + ((i : Int) + 1) := by rw [t_add h3 hx (by omega)]; omega
        have hp := mulb bw.1.1 bw.1.2 (show 0 ≤ (b : Int) + ((i : Int) + 1) by omega) (show (b : Int) + ((i : Int) + 1) ≤ 16 by omega)
        have e1 : (v * (I a 3 + x).toInt64).toInt = wys b i * ((b : Int) + ((i : Int) + 1)) := by rw [Int64.toInt_mul, Int32.toInt_toInt64, ea, hv, wr64]; omega
        have ew : wys b (i + 1) = wys b i * ((b : Int) + ((i : Int) + 1)) / ((i : Int) + 1) := rfl
        have ex : x.toInt = (i : Int) + 1 := by omega
        rw [Int64.toInt_div, e1, Int32.toInt_toInt64, ex, Int.tdiv_eq_ediv_of_nonneg hp.1, ← ew, wr64]
        have := bw1.1; omega
  exact main N 0 _ _ (by rw [k_1]; rfl) rfl (by omega) (by omega)
end CSPL
/-! chance and splits, both sides -/
section SPLB
variable {N : Nat} {O : WO} {I : WI} {J : WJ} {a : Nat}
theorem c_chanceP {b c : Nat} (hN : 20 ≤ N) (n0 : ¬ rf O (rf O a 9) 0 = rf O (rf O a 9) 2) (n1 : ¬ rf O (rf O a 9) 1 = rf O (rf O a 9) 2) (n2 : ¬ rf O a 9 = rf O (rf O a 9) 2) (h3 : (I (rf O a 9) 3).toInt = (b : Int)) (h4 : (I (rf O a 9) 4).toInt = (c : Int)) (hb : b ≤ 8) (hc : c ≤ 8) (r0 : ∀ k, k < b → 0 ≤ trw I (rf O (rf O a 9) 0) k ∧ trw I (rf O (rf O a 9) 0) k ≤ 999) (r1 : ∀ k, k < c → 0 ≤ trw I (rf O (rf O a 9) 1) k ∧ trw I (rf O (rf O a 9) 1) k ≤ 999) {z : Int32} {I' : WI} (h : F_RM_chance N O I J a = some (z, I')) : (z.toInt = if b = 0 ∨ c = 0 then -1 else (sct (ssg (trw I (rf O (rf O a 9) 1)) 0 c ++ ssg (trw I (rf O (rf O a 9) 0)) 0 b) c (ssm (trw I (rf O (rf O a 9) 1)) c) : Int)) ∧ ∀ d, ¬ d = a → ¬ d = rf O (rf O a 9) 2 → I' d = I d := by
  have w : Wp (F_RM_chance N O I J a) (fun q => (q.1.toInt = if b = 0 ∨ c = 0 then -1 else (sct (ssg (trw I (rf O (rf O a 9) 1)) 0 c ++ ssg (trw I (rf O (rf O a 9) 0)) 0 b) c (ssm (trw I (rf O (rf O a 9) 1)) c) : Int)) ∧ ∀ d, ¬ d = a → ¬ d = rf O (rf O a 9) 2 → q.2 d = I d) := by
    unfold F_RM_chance F_Tr_lacksRow
    have bad : (b = 0 ∨ c = 0) → Wp (if (Int32.ofInt 1).toInt = 0 then (bd2 (F_Tr_countNoLess N O I J (rf O a 9)) fun z_23 I2 => bd2 (F_RM_accept N O I2 J a z_23) fun z_26 I3 => some (z_26, I3)) else (bd2 (F_RM_refuse N O I J a (Int32.ofInt 5)) fun z_12 I4 => some (z_12, I4))) (fun q => (q.1.toInt = if b = 0 ∨ c = 0 then -1 else (sct (ssg (trw I (rf O (rf O a 9) 1)) 0 c ++ ssg (trw I (rf O (rf O a 9) 0)) 0 b) c (ssm (trw I (rf O (rf O a 9) 1)) c) : Int)) ∧ ∀ d, ¬ d = a → ¬ d = rf O (rf O a 9) 2 → q.2 d = I d) := fun hz => by
      refine Wp.neg (by rw [k_1]; decide) (Wp.bd2 ?_)
      unfold F_RM_refuse
      refine Wp_lb (fun I1 e1 => Wp.ret (Wp.ret ⟨?_, fun d d1 _ => ?_⟩))
      · rw [if_pos hz]; exact ofI (by decide)
      · show I1 d = I d
        rw [e1, up2_row _ _ d1]
    refine Wp.bd1 (Wp.jn ?_)
    by_cases c0 : b = 0
    · exact Wp.pos (by omega) (Wp.ret (bad (Or.inl c0)))
    · refine Wp.neg (by omega) ?_
      by_cases c1 : c = 0
      · exact Wp.pos (by omega) (Wp.ret (bad (Or.inr c1)))
      · refine Wp.neg (by omega) (Wp.ret (Wp.pos k_0 (Wp.bd2 (c_countNoLess hN n0 n1 n2 h3 h4 hb hc r0 r1 (fun z1 I1 hz hI => Wp.bd2 ?_)))))
        unfold F_RM_accept
        refine Wp_lb (fun I2 e2 => Wp.ret (Wp.ret ⟨?_, fun d d1 d2 => ?_⟩))
        · rw [if_neg (by omega)]; exact hz
        · show I2 d = I d
          rw [e2, up2_row _ _ d1]; exact hI d d2
  obtain ⟨q, e, hq⟩ := w
  rw [h] at e
  cases e
  exact hq
theorem c_splitsP {b c : Nat} (hN : 20 ≤ N) (h3 : (I (rf O a 9) 3).toInt = (b : Int)) (h4 : (I (rf O a 9) 4).toInt = (c : Int)) (hb : b ≤ 8) (hc : c ≤ 8) {z : Int32} {I' : WI} (h : F_RM_splits N O I J a = some (z, I')) : z.toInt = if b = 0 ∨ c = 0 then -1 else (sch (b + c) c : Int) := by
  have w : Wp (F_RM_splits N O I J a) (fun q => q.1.toInt = if b = 0 ∨ c = 0 then -1 else (sch (b + c) c : Int)) := by
    unfold F_RM_splits F_Tr_lacksRow
    have bad : (b = 0 ∨ c = 0) → Wp (if (Int32.ofInt 1).toInt = 0 then (bd1 (F_Tr_countAll N O I J (rf O a 9)) fun z_23 => bd2 (F_RM_accept N O I J a z_23) fun z_26 I3 => some (z_26, I3)) else (bd2 (F_RM_refuse N O I J a (Int32.ofInt 5)) fun z_12 I4 => some (z_12, I4))) (fun q => q.1.toInt = if b = 0 ∨ c = 0 then -1 else (sch (b + c) c : Int)) := fun hz => by
      refine Wp.neg (by rw [k_1]; decide) (Wp.bd2 ?_)
      unfold F_RM_refuse
      refine Wp_lb (fun I1 e1 => Wp.ret (Wp.ret ?_))
      rw [if_pos hz]; exact ofI (by decide)
    refine Wp.bd1 (Wp.jn ?_)
    by_cases c0 : b = 0
    · exact Wp.pos (by omega) (Wp.ret (bad (Or.inl c0)))
    · refine Wp.neg (by omega) ?_
      by_cases c1 : c = 0
      · exact Wp.pos (by omega) (Wp.ret (bad (Or.inr c1)))
      · refine Wp.neg (by omega) (Wp.ret (Wp.pos k_0 (Wp.bd1 (c_countAll hN h3 h4 hb hc (fun z1 hz => Wp.bd2 ?_)))))
        unfold F_RM_accept
        refine Wp_lb (fun I2 e2 => Wp.ret (Wp.ret ?_))
        rw [if_neg (by omega)]; exact hz
  obtain ⟨q, e, hq⟩ := w
  rw [h] at e
  cases e
  exact hq
theorem tol_b {b c : Nat} (ra : ∀ k, k < b → 0 ≤ trw I (rf O a 34) k ∧ trw I (rf O a 34) k ≤ 999) (rb : ∀ k, k < c → 0 ≤ trw I (rf O a 34) (8 + k) ∧ trw I (rf O a 34) (8 + k) ≤ 999) : ∀ k, k < b + c → 0 ≤ tol I O a b k ∧ tol I O a b k ≤ 999 := fun k hk => by
  unfold tol
  by_cases e : k < b
  · rw [if_pos e]; exact ra k e
  · rw [if_neg e, show 8 + k - b = 8 + (k - b) by omega]; exact rb _ (by omega)
theorem r_chanceP {b c : Nat} (hN : 100000 ≤ N) (n33 : ¬ rf O a 33 = a) (n34 : ¬ rf O a 34 = a) (h3 : (I (rf O a 33) 0).toInt = (b : Int)) (h4 : (I (rf O a 33) 1).toInt = (c : Int)) (hb : b ≤ 8) (hc : c ≤ 8) (ra : ∀ k, k < b → 0 ≤ trw I (rf O a 34) k ∧ trw I (rf O a 34) k ≤ 999) (rb : ∀ k, k < c → 0 ≤ trw I (rf O a 34) (8 + k) ∧ trw I (rf O a 34) (8 + k) ≤ 999) {z : Int32} {I' : WI} (h : F_Mo_chance N O I J a = some (z, I')) : z.toInt = if b = 0 ∨ c = 0 then -1 else (sct (ssg (tol I O a b) 0 (b + c)) c (ssm (fun k => trw I (rf O a 34) (8 + k)) c) : Int) := by
  have w : Wp (F_Mo_chance N O I J a) (fun q => q.1.toInt = if b = 0 ∨ c = 0 then -1 else (sct (ssg (tol I O a b) 0 (b + c)) c (ssm (fun k => trw I (rf O a 34) (8 + k)) c) : Int)) := by
    unfold F_Mo_chance
    refine Wp_lb (fun I1 e1 => ?_)
    have f1 : ∀ d, ¬ d = a → I1 d = I d := fun d hd => by rw [e1, up2_row _ _ hd]
    have g33 := f1 _ n33
    have g34 := f1 _ n34
    have et : tol I1 O a b = tol I O a b := by funext k; unfold tol; rw [g34]
    have tolb := tol_b ra rb
    refine Wp_jq (fun k => (b = 0 ∨ c = 0) → Wp k (fun q => q.1.toInt = if b = 0 ∨ c = 0 then -1 else (sct (ssg (tol I O a b) 0 (b + c)) c (ssm (fun k => trw I (rf O a 34) (8 + k)) c) : Int))) (fun hz => ?_) (fun k23 hk => ?_)
    · refine Wp.bd2 ?_
      unfold F_Mo_refused
      refine Wp_lb (fun I2 e2 => Wp_lb (fun I3 e3 => Wp.ret (Wp.ret ?_)))
      rw [if_pos hz]; exact ofI (by decide)
    · by_cases c0 : b = 0
      · exact Wp.pos (by rw [g33]; omega) (hk (Or.inl c0))
      · refine Wp.neg (by rw [g33]; omega) ?_
        by_cases c1 : c = 0
        · exact Wp.pos (by rw [g33]; omega) (hk (Or.inr c1))
        · refine Wp.neg (by rw [g33]; omega) ?_
          refine forS (n := c) (fun i y => y.toInt = ssm (fun k => trw I (rf O a 34) (8 + k)) i) (by omega) k_0 ?_ ?_
          · intro rec y x i hx hi hy kk
            unfold B_Mo_chance_33
            have bs := ssm_b (n := c) (f := fun k => trw I (rf O a 34) (8 + k)) rb i (by omega)
            have bi := rb i (by omega)
            have e8 : (Int32.ofInt 8 + x).toInt = ((8 + i : Nat) : Int) := by rw [t_add (ofI (by decide)) hx (by omega)]; omega
            have e8' : (Int32.ofInt 8 + x).toInt.toNat = 8 + i := tn_i e8
            refine Wp.neg (by rw [g33]; omega) (Wp.pos (by omega) (Wp.lb (Wp.lb (kk _ _ (incB hx (by omega)) ?_))))
            rw [e8', g34]
            exact t_add hy rfl (by show _ ≤ _ + trw I (rf O a 34) (8 + i) ∧ _ + trw I (rf O a 34) (8 + i) < _; omega)
          · intro rec y x hx hy
            unfold B_Mo_chance_33
            refine Wp.pos (by rw [g33]; omega) (Wp.bd1 (r_splitsFrom (r0 := b) (r1 := c) hN (by rw [g33]; exact h3) (by rw [g33]; exact h4) hb hc hy (fun k hk => by rw [et]; exact tolb k hk) (fun z1 hz => Wp.bd2 ?_)))
            unfold F_Mo_done
            refine Wp_lb (fun I2 e2 => Wp_lb (fun I3 e3 => Wp.ret (Wp.ret ?_)))
            rw [if_neg (by omega), ← et]; exact hz
  obtain ⟨q, e, hq⟩ := w
  rw [h] at e
  cases e
  exact hq
theorem r_splitsP {b c : Nat} (hN : 100000 ≤ N) (n33 : ¬ rf O a 33 = a) (n34 : ¬ rf O a 34 = a) (h3 : (I (rf O a 33) 0).toInt = (b : Int)) (h4 : (I (rf O a 33) 1).toInt = (c : Int)) (hb : b ≤ 8) (hc : c ≤ 8) (ra : ∀ k, k < b → 0 ≤ trw I (rf O a 34) k ∧ trw I (rf O a 34) k ≤ 999) (rb : ∀ k, k < c → 0 ≤ trw I (rf O a 34) (8 + k) ∧ trw I (rf O a 34) (8 + k) ≤ 999) {z : Int32} {I' : WI} (h : F_Mo_splits N O I J a = some (z, I')) : z.toInt = if b = 0 ∨ c = 0 then -1 else (sch (b + c) c : Int) := by
  have w : Wp (F_Mo_splits N O I J a) (fun q => q.1.toInt = if b = 0 ∨ c = 0 then -1 else (sch (b + c) c : Int)) := by
    unfold F_Mo_splits
    refine Wp_lb (fun I1 e1 => ?_)
    have f1 : ∀ d, ¬ d = a → I1 d = I d := fun d hd => by rw [e1, up2_row _ _ hd]
    have g33 := f1 _ n33
    have g34 := f1 _ n34
    have et : tol I1 O a b = tol I O a b := by funext k; unfold tol; rw [g34]
    have tolb := tol_b ra rb
    refine Wp_jq (fun k => (b = 0 ∨ c = 0) → Wp k (fun q => q.1.toInt = if b = 0 ∨ c = 0 then -1 else (sch (b + c) c : Int))) (fun hz => ?_) (fun k23 hk => ?_)
    · refine Wp.bd2 ?_
      unfold F_Mo_refused
      refine Wp_lb (fun I2 e2 => Wp_lb (fun I3 e3 => Wp.ret (Wp.ret ?_)))
      rw [if_pos hz]; exact ofI (by decide)
    · by_cases c0 : b = 0
      · exact Wp.pos (by rw [g33]; omega) (hk (Or.inl c0))
      · refine Wp.neg (by rw [g33]; omega) ?_
        by_cases c1 : c = 0
        · exact Wp.pos (by rw [g33]; omega) (hk (Or.inr c1))
        · refine Wp.neg (by rw [g33]; omega) (Wp.bd1 (r_splitsFrom (r0 := b) (r1 := c) hN (by rw [g33]; exact h3) (by rw [g33]; exact h4) hb hc k_0 (fun k hk => by rw [et]; exact tolb k hk) (fun z1 hz => Wp.bd2 ?_)))
          unfold F_Mo_done
          refine Wp_lb (fun I2 e2 => Wp_lb (fun I3 e3 => Wp.ret (Wp.ret ?_)))
          rw [if_neg (by omega)]
          have l := sct_ch (ssg (tol I1 O a b) 0 (b + c)) c 0 (Int.le_refl _) (fun v hv => by
            obtain ⟨k, k1, k2⟩ := ssg_mem _ _ hv
            rw [k2, et]
            exact (tolb _ (by omega)).1)
          rw [ssg_len] at l
          show z1.toInt = _
          rw [hz, l]
  obtain ⟨q, e, hq⟩ := w
  rw [h] at e
  cases e
  exact hq
end SPLB
