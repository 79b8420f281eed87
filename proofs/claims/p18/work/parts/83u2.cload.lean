/-! the class's loads, exactly -/
theorem inc1 {x : Int32} {i : Nat} (hx : x.toInt = (i : Int)) (hi : i < 1000) : (x + Int32.ofInt 1).toInt = ((i + 1 : Nat) : Int) := by rw [t_add hx k_1 (by omega)]; omega
theorem tn_i {x : Int32} {i : Nat} (hx : x.toInt = (i : Int)) : x.toInt.toNat = i := by rw [hx]; rfl
theorem stp {k i : Nat} {A B : Int} (e : ¬ k = i) : (if k < i then A else B) = if k < i + 1 then A else B := by
  by_cases h : k < i
  · rw [if_pos h, if_pos (by omega)]
  · rw [if_neg h, if_neg (by omega)]
theorem stS {i : Nat} {A B : Int} : (if i < i + 1 then A else B) = A := if_pos (by omega)
theorem st0 {i : Nat} {A B : Int} : (if i < i then A else B) = B := if_neg (by omega)
theorem stz {i : Nat} {A B : Int} : (if i < 0 then A else B) = B := if_neg (by omega)
theorem forU {ρ : Type} {N n : Nat} {B : (Int32 → WI → Option ρ) → Int32 → WI → Option ρ} {z : Int32 → WI → Option ρ} {I : WI} {Q : ρ → Prop} (Inv : Nat → WI → Prop) (hn : n < N) (h0 : Inv 0 I)
    (step : ∀ (rec : Int32 → WI → Option ρ) (x : Int32) (i : Nat) (I1 : WI), x.toInt = (i : Int) → i < n → Inv i I1 → (∀ (v : Int32) (I2 : WI), v.toInt = ((i + 1 : Nat) : Int) → Inv (i + 1) I2 → Wp (rec v I2) Q) → Wp (B rec x I1) Q)
    (fin : ∀ (rec : Int32 → WI → Option ρ) (x : Int32) (I1 : WI), x.toInt = (n : Int) → Inv n I1 → Wp (B rec x I1) Q) : Wp (lp B z N (Int32.ofInt 0) I) Q := by
  have main : ∀ (m i : Nat) (x : Int32) (I1 : WI), x.toInt = (i : Int) → i ≤ n → n - i < m → Inv i I1 → Wp (lp B z m x I1) Q := by
    intro m
    induction m with
    | zero => intro i x I1 _ _ h; omega
    | succ m ih =>
      intro i x I1 hx hi hm hI
      show Wp (B (lp B z m) x I1) Q
      by_cases e : i = n
      · subst e; exact fin _ x I1 hx hI
      · exact step _ x i I1 hx (by omega) hI (fun v I2 hv h2 => ih (i + 1) v I2 hv (by omega) (by omega) h2)
  exact main N 0 _ I (ofI (by decide)) (by omega) (by omega) h0
theorem forS {ρ : Type} {N n : Nat} {B : (Int32 → Int32 → Option ρ) → Int32 → Int32 → Option ρ} {z : Int32 → Int32 → Option ρ} {Q : ρ → Prop} (Inv : Nat → Int32 → Prop) (hn : n < N) (h0 : Inv 0 (Int32.ofInt 0))
    (step : ∀ (rec : Int32 → Int32 → Option ρ) (y x : Int32) (i : Nat), x.toInt = (i : Int) → i < n → Inv i y → (∀ (u v : Int32), v.toInt = ((i + 1 : Nat) : Int) → Inv (i + 1) u → Wp (rec u v) Q) → Wp (B rec y x) Q)
    (fin : ∀ (rec : Int32 → Int32 → Option ρ) (y x : Int32), x.toInt = (n : Int) → Inv n y → Wp (B rec y x) Q) : Wp (lp B z N (Int32.ofInt 0) (Int32.ofInt 0)) Q := by
  have main : ∀ (m i : Nat) (y x : Int32), x.toInt = (i : Int) → i ≤ n → n - i < m → Inv i y → Wp (lp B z m y x) Q := by
    intro m
    induction m with
    | zero => intro i y x _ _ h; omega
    | succ m ih =>
      intro i y x hx hi hm hI
      show Wp (B (lp B z m) y x) Q
      by_cases e : i = n
      · subst e; exact fin _ y x hx hI
      · exact step _ y x i hx (by omega) hI (fun u v hv h2 => ih (i + 1) u v hv (by omega) (by omega) h2)
  exact main N 0 _ _ (ofI (by decide)) (by omega) (by omega) h0
theorem forD {ρ : Type} {N n : Nat} {B : (Int32 → Int32 → WI → Option ρ) → Int32 → Int32 → WI → Option ρ} {z : Int32 → Int32 → WI → Option ρ} {I : WI} {Q : ρ → Prop} (Inv : Nat → Int32 → WI → Prop) (hn : n < N) (h0 : Inv 0 (Int32.ofInt 0) I)
    (step : ∀ (rec : Int32 → Int32 → WI → Option ρ) (y x : Int32) (i : Nat) (I1 : WI), x.toInt = (i : Int) → i < n → Inv i y I1 → (∀ (u v : Int32) (I2 : WI), v.toInt = ((i + 1 : Nat) : Int) → Inv (i + 1) u I2 → Wp (rec u v I2) Q) → Wp (B rec y x I1) Q)
    (fin : ∀ (rec : Int32 → Int32 → WI → Option ρ) (y x : Int32) (I1 : WI), x.toInt = (n : Int) → Inv n y I1 → Wp (B rec y x I1) Q) : Wp (lp B z N (Int32.ofInt 0) (Int32.ofInt 0) I) Q := by
  have main : ∀ (m i : Nat) (y x : Int32) (I1 : WI), x.toInt = (i : Int) → i ≤ n → n - i < m → Inv i y I1 → Wp (lp B z m y x I1) Q := by
    intro m
    induction m with
    | zero => intro i y x I1 _ _ h; omega
    | succ m ih =>
      intro i y x I1 hx hi hm hI
      show Wp (B (lp B z m) y x I1) Q
      by_cases e : i = n
      · subst e; exact fin _ y x I1 hx hI
      · exact step _ y x i I1 hx (by omega) hI (fun u v I2 hv h2 => ih (i + 1) u v I2 hv (by omega) (by omega) h2)
  exact main N 0 _ _ I (ofI (by decide)) (by omega) (by omega) h0
theorem forN {ρ : Type} {N n : Nat} {B : (Int32 → WI → Option ρ) → Int32 → WI → Option ρ} {z : Int32 → WI → Option ρ} {I : WI} {x0 : Int32} {Q : ρ → Prop} (Inv : Nat → WI → Prop) (hx0 : x0.toInt = (n : Int) - 1) (hn : n < N) (h0 : Inv n I)
    (step : ∀ (rec : Int32 → WI → Option ρ) (x : Int32) (i : Nat) (I1 : WI), x.toInt = (i : Int) → i < n → Inv (i + 1) I1 → (∀ (v : Int32) (I2 : WI), v.toInt = (i : Int) - 1 → Inv i I2 → Wp (rec v I2) Q) → Wp (B rec x I1) Q)
    (fin : ∀ (rec : Int32 → WI → Option ρ) (x : Int32) (I1 : WI), x.toInt = -1 → Inv 0 I1 → Wp (B rec x I1) Q) : Wp (lp B z N x0 I) Q := by
  have main : ∀ (m i : Nat) (x : Int32) (I1 : WI), x.toInt = (i : Int) - 1 → i ≤ n → i < m → Inv i I1 → Wp (lp B z m x I1) Q := by
    intro m
    induction m with
    | zero => intro i x I1 _ _ h; omega
    | succ m ih =>
      intro i x I1 hx hi hm hI
      show Wp (B (lp B z m) x I1) Q
      cases i with
      | zero => exact fin _ x I1 (by omega) hI
      | succ i => exact step _ x i I1 (by omega) (by omega) hI (fun v I2 hv h2 => ih i v I2 hv (by omega) (by omega) h2)
  exact main N n _ I hx0 (Nat.le_refl _) hn h0
theorem c_share {N : Nat} {O : WO} {I : WI} {J : WJ} {x0 x1 x2 : Int32} {a t b : Int} {Q : Int32 → Prop} (h0 : x0.toInt = a) (h1 : x1.toInt = t) (h2 : x2.toInt = b) (hb : 0 < b) (hp : 0 ≤ a * t ∧ a * t < 4611686018427387904) (hr : a * t / b < 2147483648) (hQ : ∀ z : Int32, z.toInt = a * t / b → Q z) : Wp (F_RM_share N O I J x0 x1 x2) Q := by
  unfold F_RM_share
  refine Wp.neg (by rw [h2]; omega) (Wp.pos (by rw [Int32.toInt_toInt64, h2]; omega) (Wp.ret (hQ _ ?_)))
  have e1 : (x0.toInt64 * x1.toInt64).toInt = a * t := by rw [Int64.toInt_mul, Int32.toInt_toInt64, Int32.toInt_toInt64, h0, h1, wr64]; omega
  have n1 : 0 ≤ a * t / b := Int.ediv_nonneg hp.1 (by omega)
  have n2 : a * t / b ≤ a * t := Int.ediv_le_self _ hp.1
  have e2 : (x0.toInt64 * x1.toInt64 / x2.toInt64).toInt = a * t / b := by rw [Int64.toInt_div, e1, Int32.toInt_toInt64, h2, Int.tdiv_eq_ediv_of_nonneg hp.1, wr64]; omega
  rw [Int64.toInt_toInt32, e2, wr32]; omega
def psum (f : Nat → Int) : Nat → Int
  | 0 => 0
  | i + 1 => psum f i + f i
theorem psum5 (f : Nat → Int) : psum f 5 = s5 f := by simp [psum, s5]
theorem psum_b {f : Nat → Int} {C : Int} (n : Nat) (h : ∀ k, k < n → 0 ≤ f k ∧ f k ≤ C) : 0 ≤ psum f n ∧ psum f n ≤ C * n := by
  induction n with
  | zero => simp [psum]
  | succ n ih =>
    have a := ih (fun k hk => h k (by omega))
    have b := h n (by omega)
    have e : C * ((n + 1 : Nat) : Int) = C * (n : Int) + C := by rw [Int.natCast_add, Int.mul_add]; simp
    show 0 ≤ psum f n + f n ∧ psum f n + f n ≤ _
    rw [e]; omega
section CLOAD
variable {N : Nat} {O : WO} {I : WI} {J : WJ} {a m d : Nat} {M : MM}
theorem c_takeBack {h b : Nat → Int} {Q : WI → Prop} (hN : 8 ≤ N) (n01 : ¬ rf O a 0 = rf O a 1) (hh : ∀ k, k < 5 → (I (rf O a 0) k).toInt = h k) (hb : ∀ k, k < 5 → (I (rf O a 1) k).toInt = b k) (bd : ∀ k, k < 5 → 0 ≤ h k ∧ h k ≤ 10000000 ∧ 0 ≤ b k ∧ b k ≤ 10000000)
    (hQ : ∀ I', (∀ k, k < 5 → (I' (rf O a 0) k).toInt = h k + b k) → (∀ k, k < 5 → (I' (rf O a 1) k).toInt = 0) → (∀ c, ¬ c = rf O a 0 → ¬ c = rf O a 1 → I' c = I c) → Q I') : Wp (F_Ld_takeBack N O I J a) Q := by
  unfold F_Ld_takeBack
  refine forU (n := 5) (fun i I1 => (∀ k, k < 5 → (I1 (rf O a 0) k).toInt = if k < i then h k + b k else h k) ∧ (∀ k, k < 5 → (I1 (rf O a 1) k).toInt = if k < i then 0 else b k) ∧ (∀ c, ¬ c = rf O a 0 → ¬ c = rf O a 1 → I1 c = I c)) (by omega) ⟨fun k hk => by rw [stz]; exact hh k hk, fun k hk => by rw [stz]; exact hb k hk, fun _ _ _ => rfl⟩ ?_ ?_
  · intro rec x i I1 hx hi ⟨v1, v2, v3⟩ kk
    have ex : x.toInt.toNat = i := tn_i hx
    unfold B_Ld_takeBack_2
    refine Wp.neg (by omega) (Wp.pos (by omega) (Wp.pos (by omega) (Wp.pos (by omega) (Wp_lb (fun I2 e2 => Wp.pos (by omega) (Wp_lb (fun I3 e3 => Wp_lb (fun v ev => ?_))))))))
    rw [ex] at e2 e3
    have a0 := v1 i hi
    have a1 := v2 i hi
    rw [st0] at a0 a1
    have bb := bd i hi
    have sm := t_add a0 a1 (by omega)
    refine kk v I3 (by rw [ev]; exact inc1 hx (by omega)) ⟨fun k hk => ?_, fun k hk => ?_, fun c c1 c2 => ?_⟩
    · rw [e3, up2_row _ _ n01, e2]
      by_cases e : k = i
      · subst e; rw [up2_self, stS]; exact sm
      · rw [up2_ne _ _ (fun z => e z.2), v1 k hk]; exact stp e
    · rw [e3]
      by_cases e : k = i
      · subst e; rw [up2_self, stS]; exact k_0
      · rw [up2_ne _ _ (fun z => e z.2), e2, up2_row _ _ (fun z => n01 z.symm), v2 k hk]; exact stp e
    · rw [e3, up2_row _ _ c2, e2, up2_row _ _ c1]; exact v3 c c1 c2
  · intro rec x I1 hx ⟨v1, v2, v3⟩
    unfold B_Ld_takeBack_2
    exact Wp.pos (by omega) (Wp.ret (hQ I1 (fun k hk => by rw [v1 k hk, if_pos hk]) (fun k hk => by rw [v2 k hk, if_pos hk]) v3))
theorem c_wipe5 {Q : WI → Prop} (hN : 8 ≤ N) (hQ : ∀ I', (∀ k, k < 5 → (I' a k).toInt = 0) → (∀ c, ¬ c = a → I' c = I c) → Q I') : Wp (F_RM_wipe N O I J a 11) Q := by
  have e5 : (Int32.ofNat (alen 11)).toInt = 5 := by decide
  have e6 : ((alen 11 : Nat) : Int) = 5 := rfl
  unfold F_RM_wipe
  refine forU (n := 5) (fun i I1 => (∀ k, k < i → (I1 a k).toInt = 0) ∧ (∀ c, ¬ c = a → I1 c = I c)) (by omega) ⟨fun k hk => absurd hk (Nat.not_lt_zero _), fun _ _ => rfl⟩ ?_ ?_
  · intro rec x i I1 hx hi ⟨v1, v2⟩ kk
    have ex : x.toInt.toNat = i := tn_i hx
    unfold B_RM_wipe_2
    refine Wp.neg (by rw [e5]; omega) (Wp.pos (by rw [e6]; omega) (Wp_lb (fun I2 e2 => Wp_lb (fun v ev => ?_))))
    rw [ex] at e2
    refine kk v I2 (by rw [ev]; exact inc1 hx (by omega)) ⟨fun k hk => ?_, fun c c1 => ?_⟩
    · rw [e2]
      by_cases e : k = i
      · subst e; rw [up2_self]; exact k_0
      · rw [up2_ne _ _ (fun z => e z.2)]; exact v1 k (by omega)
    · rw [e2, up2_row _ _ c1]; exact v2 c c1
  · intro rec x I1 hx ⟨v1, v2⟩
    unfold B_RM_wipe_2
    exact Wp.pos (by rw [e5]; omega) (Wp.ret (hQ I1 v1 v2))
theorem c_sumOf {h : Nat → Int} {Q : Int32 → Prop} (hN : 8 ≤ N) (hh : ∀ k, k < 5 → (I a k).toInt = h k) (bd : ∀ k, k < 5 → 0 ≤ h k ∧ h k ≤ 10000000) (hQ : ∀ z : Int32, z.toInt = s5 h → Q z) : Wp (F_RM_sumOf N O I J a) Q := by
  unfold F_RM_sumOf
  refine forS (n := 5) (fun i y => y.toInt = psum h i) (by omega) k_0 ?_ ?_
  · intro rec y x i hx hi hy kk
    have ex : x.toInt.toNat = i := tn_i hx
    unfold B_RM_sumOf_4
    refine Wp.neg (by omega) (Wp.pos (by omega) (Wp_lb (fun u eu => Wp_lb (fun v ev => ?_))))
    rw [ex] at eu
    have pb := psum_b (f := h) (C := 10000000) i (fun k hk => bd k (by omega))
    have b := bd i hi
    refine kk u v (by rw [ev]; exact inc1 hx (by omega)) ?_
    rw [eu]; exact t_add hy (hh i hi) (by omega)
  · intro rec y x hx hy
    unfold B_RM_sumOf_4
    exact Wp.pos (by omega) (Wp.ret (hQ y (by rw [hy, psum5])))
theorem c_digOut {h : Nat → Int} {Q : Int32 × WI → Prop} (hN : 8 ≤ N) (hh : ∀ k, k < 5 → (I (rf O a 0) k).toInt = h k) (bd : ∀ k, k < 5 → 0 ≤ h k ∧ h k ≤ 10000000) (hQ : ∀ (z : Int32) I', z.toInt = s5 (fun k => dgT (h k)) → (∀ k, k < 5 → (I' (rf O a 0) k).toInt = h k - dgT (h k)) → (∀ c, ¬ c = rf O a 0 → I' c = I c) → Q (z, I')) : Wp (F_Ld_digOut N O I J a) Q := by
  have db : ∀ k, k < 5 → 0 ≤ dgT (h k) ∧ dgT (h k) ≤ 10000000 := fun k hk => by have := bd k hk; unfold dgT; omega
  unfold F_Ld_digOut
  refine forD (n := 5) (fun i y I1 => y.toInt = psum (fun k => dgT (h k)) i ∧ (∀ k, k < 5 → (I1 (rf O a 0) k).toInt = if k < i then h k - dgT (h k) else h k) ∧ (∀ c, ¬ c = rf O a 0 → I1 c = I c)) (by omega) ⟨k_0, fun k hk => by rw [stz]; exact hh k hk, fun _ _ => rfl⟩ ?_ ?_
  · intro rec y x i I1 hx hi ⟨v0, v1, v2⟩ kk
    have ex : x.toInt.toNat = i := tn_i hx
    unfold B_Ld_digOut_4
    refine Wp.neg (by omega) (Wp.pos (by omega) (Wp.pos (by omega) (Wp_lb (fun p ep => Wp.pos (by omega) (Wp.pos (by omega) (Wp_lb (fun I2 e2 => Wp_lb (fun u eu => Wp_lb (fun v ev => ?_)))))))))
    rw [ex] at ep e2
    have a0 := v1 i hi
    rw [st0] at a0
    have b := bd i hi
    have q1 := (tdivF a0 (ofI (n := 10) (by decide)) (by decide)).1 b.1
    have q2 := t_add q1 k_1 (by omega)
    have q3 := mn_f (x := I1 (rf O a 0) i) (y := I1 (rf O a 0) i / Int32.ofInt 10 + Int32.ofInt 1)
    have hp : p.toInt = dgT (h i) := by rw [ep]; unfold dgT; rw [a0, q2] at q3; omega
    have pb := psum_b (f := fun k => dgT (h k)) (C := 10000000) i (fun k hk => db k (by omega))
    have b2 := db i hi
    refine kk u v I2 (by rw [ev]; exact inc1 hx (by omega)) ⟨by rw [eu]; exact t_add v0 hp (show _ ≤ psum (fun k => dgT (h k)) i + dgT (h i) ∧ psum (fun k => dgT (h k)) i + dgT (h i) < _ by omega), fun k hk => ?_, fun c c1 => ?_⟩
    · rw [e2]
      by_cases e : k = i
      · subst e; rw [up2_self, stS]; exact t_sub a0 hp (by omega)
      · rw [up2_ne _ _ (fun z => e z.2), v1 k hk]; exact stp e
    · rw [e2, up2_row _ _ c1]; exact v2 c c1
  · intro rec y x I1 hx ⟨v0, v1, v2⟩
    unfold B_Ld_digOut_4
    exact Wp.pos (by omega) (Wp.ret (hQ y I1 (by rw [v0, psum5]) (fun k hk => by rw [v1 k hk, if_pos hk]) v2))
/-- the class's mill holds what a text told -/
def CMl (I : WI) (O : WO) (m : Nat) (M : MM) : Prop := (∀ k, k < 10 → (I m k).toInt = M.1 k) ∧ (∀ j i, j < 5 → i < mln j → (I (rf O m (10 + j)) i).toInt = M.2.1 j i)
theorem c_breakUp {x2 : Int32} {e : Int} {h : Nat → Int} {Q : WI → Prop} (hN : 8 ≤ N) (hM : MB M) (hm : CMl I O m M) (s1 : ¬ rf O m 11 = rf O a 0) (s2 : ¬ rf O m 12 = rf O a 0) (s3 : ¬ m = rf O a 0) (he : x2.toInt = e) (eb : 0 ≤ e ∧ e ≤ 100) (hh : ∀ k, k < 5 → (I (rf O a 0) k).toInt = h k) (bd : ∀ k, k < 5 → 0 ≤ h k) (bs : s5 h ≤ 1000000)
    (hQ : ∀ I', (∀ k, k < 5 → (I' (rf O a 0) k).toInt = brk M e (zN M - 1) h k) → (∀ c, ¬ c = rf O a 0 → I' c = I c) → Q I') : Wp (F_Ld_breakUp N O I J a m x2) Q := by
  have m7 := hM.2.2.2.2.2.2.1
  have hz : ((zN M : Nat) : Int) = M.1 7 := by unfold zN; omega
  have k5 : (Int32.ofInt 5).toInt = 5 := ofI (by decide)
  have k2 : (Int32.ofInt 2).toInt = 2 := ofI (by decide)
  unfold F_Ld_breakUp
  refine Wp_lb (fun v3 e3 => Wp_lb (fun v4 e4 => ?_))
  have q7 := hm.1 7 (by decide)
  have mn := mn_f (x := I m 7) (y := Int32.ofInt 5)
  rw [q7, k5] at mn
  have h3 : v3.toInt = M.1 7 - 1 := by rw [e3]; exact t_sub (a := M.1 7) (by omega) k_1 (by omega)
  have h4 : v4.toInt = ((zN M - 1 : Nat) : Int) - 1 := by rw [e4, t_sub h3 k_1 (by omega)]; omega
  refine forN (n := zN M - 1) (fun i I1 => ∃ g : Nat → Int, (∀ k, k < 5 → (I1 (rf O a 0) k).toInt = g k) ∧ brk M e i g = brk M e (zN M - 1) h ∧ (∀ j, j < 5 → 0 ≤ g j) ∧ s5 g = s5 h ∧ (∀ c, ¬ c = rf O a 0 → I1 c = I c)) h4 (by omega) ⟨h, hh, rfl, bd, rfl, fun _ _ => rfl⟩ ?_ ?_
  · intro rec x i I1 hx hi ⟨g, g1, g2, g3, g4, g5⟩ kk
    have ex : x.toInt.toNat = i := tn_i hx
    have b := bkn_b (h := g) hM eb (show i < 5 by omega) (g3 i (by omega))
    have f := frs_b (k := i) hM (by omega) b.2.1
    have gi := s5_le g3 (show i < 5 by omega)
    have gj := s5_le g3 (show i + 1 < 5 by omega)
    have gjn := g3 (i + 1) (by omega)
    have h11 : (I1 (rf O m 11) i).toInt = M.2.1 1 i := by rw [g5 _ s1]; exact hm.2 1 i (by decide) (by show i < 5; omega)
    have h12 : (I1 (rf O m 12) i).toInt = M.2.1 2 i := by rw [g5 _ s2]; exact hm.2 2 i (by decide) (by show i < 5; omega)
    have mb := hM.2.2.2.2.2.2.2.2.2.2.1 i (by omega)
    have me : (I1 (rf O m 11) i * x2).toInt = M.2.1 1 i * e := t_mul h11 he (by omega)
    have pr := mulb (g3 i (by omega)) (show g i ≤ 1000000 by omega) b.1.1 b.1.2
    unfold B_Ld_breakUp_16
    have dn := t_add hx (ofI (n := -1) (by decide)) (by omega)
    generalize x + Int32.ofInt (-1) = Xm at dn ⊢
    have e1 := t_add hx k_1 (by omega)
    have e2 := t_add hx k2 (by omega)
    generalize x + Int32.ofInt 1 = X1 at e1 ⊢
    generalize x + Int32.ofInt 2 = X2 at e2 ⊢
    have nx1 : X1.toInt.toNat = i + 1 := by rw [e1]; omega
    have nx2 : X2.toInt.toNat = i + 2 := by rw [e2]; omega
    refine Wp.neg (by omega) (Wp.pos (by omega) (Wp.pos (by omega) (Wp.bd1 ?_)))
    rw [ex]
    refine c_share (g1 i (by omega)) me (ofI (n := 10000) (by decide)) (by decide) ⟨pr.1, by omega⟩ (show bkn M e i g < _ by omega) (fun z hz1 => ?_)
    have hz2 : z.toInt = bkn M e i g := hz1
    have b1 := b.2
    have pf := mulb b1.1 (show bkn M e i g ≤ 1000000 by omega) (hM.2.2.2.2.2.2.2.2.2.2.2.1 i (by omega)).1 (hM.2.2.2.2.2.2.2.2.2.2.2.1 i (by omega)).2
    have key : ∀ I4 : WI, (∀ k, k < 5 → (I4 (rf O a 0) k).toInt = brk1 M e i g k) → (∀ c, ¬ c = rf O a 0 → I4 c = I c) → Wp (lb Xm fun v4_125 => rec (v4_125) I4) Q := fun I4 j1 j2 => by
      have bb := brk1_b (k := i) hM eb (by omega) g3
      exact Wp.lb (kk _ I4 (by rw [dn]; omega) ⟨brk1 M e i g, j1, g2, bb.1, bb.2.trans g4, j2⟩)
    refine Wp.jn ?_
    by_cases c : (i : Int) + 2 ≤ M.1 7 - 1
    · have gk := s5_le g3 (show i + 2 < 5 by omega)
      have gkn := g3 (i + 2) (by omega)
      refine Wp.pos (by rw [e2, h3]; exact c) (Wp.pos (by omega) (Wp.bd1 ?_))
      refine c_share hz2 h12 (ofI (n := 100) (by decide)) (by decide) ⟨pf.1, by omega⟩ (by omega) (fun y hy => ?_)
      refine Wp.pos (by omega) (Wp.pos (by omega) (Wp_lb (fun I2 ei2 => ?_)))
      refine Wp.pos (by omega) (Wp.pos (by omega) (Wp_lb (fun I3 ei3 => ?_)))
      refine Wp.jn ?_
      refine Wp.neg (by rw [e2, h3]; omega) (Wp.pos (by omega) (Wp.pos (by omega) (Wp_lb (fun I4 ei4 => ?_))))
      rw [nx1] at ei3
      rw [nx2] at ei4
      have w0 := t_sub (g1 i (by omega)) hz2 (by omega)
      have w1 : (I2 (rf O a 0) (i + 1)).toInt = g (i + 1) := by rw [ei2, up2_ne _ _ (fun z => by omega)]; exact g1 _ (by omega)
      have w2 := t_add w1 hy (by omega)
      have w3 : (I3 (rf O a 0) (i + 2)).toInt = g (i + 2) := by rw [ei3, up2_ne _ _ (fun z => by omega), ei2, up2_ne _ _ (fun z => by omega)]; exact g1 _ (by omega)
      have w4 := t_add w3 (t_sub hz2 hy (by omega)) (by omega)
      refine key I4 (fun k hk => ?_) (fun c0 c1 => by rw [ei4, up2_row _ _ c1, ei3, up2_row _ _ c1, ei2, up2_row _ _ c1]; exact g5 c0 c1)
      unfold brk1
      rw [if_pos (by omega)]
      unfold u1
      rw [ei4]
      by_cases c2 : k = i + 2
      · subst c2; rw [up2_self, if_pos rfl]; exact w4
      · rw [up2_ne _ _ (fun z => c2 z.2), if_neg c2, ei3]
        by_cases c3 : k = i + 1
        · subst c3; rw [up2_self, if_pos rfl]; exact w2
        · rw [up2_ne _ _ (fun z => c3 z.2), if_neg c3, ei2]
          by_cases c4 : k = i
          · subst c4; rw [up2_self, if_pos rfl]; exact w0
          · rw [up2_ne _ _ (fun z => c4 z.2), if_neg c4]; exact g1 k hk
    · refine Wp.neg (by rw [e2, h3]; exact c) ?_
      refine Wp.pos (by omega) (Wp.pos (by omega) (Wp_lb (fun I2 ei2 => ?_)))
      refine Wp.pos (by omega) (Wp.pos (by omega) (Wp_lb (fun I3 ei3 => ?_)))
      refine Wp.jn ?_
      refine Wp.pos (by rw [e2, h3]; omega) ?_
      rw [nx1] at ei3
      have w0 := t_sub (g1 i (by omega)) hz2 (by omega)
      have w1 : (I2 (rf O a 0) (i + 1)).toInt = g (i + 1) := by rw [ei2, up2_ne _ _ (fun z => by omega)]; exact g1 _ (by omega)
      have w2 := t_add w1 hz2 (by omega)
      refine key I3 (fun k hk => ?_) (fun c0 c1 => by rw [ei3, up2_row _ _ c1, ei2, up2_row _ _ c1]; exact g5 c0 c1)
      unfold brk1
      rw [if_neg (by omega)]
      unfold u1
      rw [ei3]
      by_cases c3 : k = i + 1
      · subst c3; rw [up2_self, if_pos rfl]; exact w2
      · rw [up2_ne _ _ (fun z => c3 z.2), if_neg c3, ei2]
        by_cases c4 : k = i
        · subst c4; rw [up2_self, if_pos rfl]; exact w0
        · rw [up2_ne _ _ (fun z => c4 z.2), if_neg c4]; exact g1 k hk
  · intro rec x I1 hx ⟨g, g1, g2, g3, g4, g5⟩
    unfold B_Ld_breakUp_16
    refine Wp.pos (by omega) (Wp.ret (hQ I1 (fun k hk => ?_) g5))
    rw [← g2]; exact g1 k hk
theorem c_sift {x2 x3 : Int32} {r w o tears : Int} {h : Nat → Int} {Q : WI → Prop} (hN : 8 ≤ N) (hM : MB M) (hs : ST3 M r w o) (hm : CMl I O m M) (n1 : ¬ rf O a 0 = rf O a 1) (n2 : ¬ rf O a 0 = rf O a 2) (n3 : ¬ rf O a 1 = rf O a 2) (s3 : ¬ m = rf O a 0 ∧ ¬ m = rf O a 1 ∧ ¬ m = rf O a 2) (hw : x2.toInt = w) (ht : x3.toInt = tears) (tb : 0 ≤ tears ∧ tears ≤ 3) (hh : ∀ k, k < 5 → (I (rf O a 0) k).toInt = h k) (bd : ∀ k, k < 5 → 0 ≤ h k ∧ h k ≤ 1000000)
    (hQ : ∀ I', (∀ k, k < 5 → (I' (rf O a 0) k).toInt = h k - outT w (h k)) → (∀ k, k < 5 → (I' (rf O a 2) k).toInt = psT M tears k (outT w (h k))) → (∀ k, k < 5 → (I' (rf O a 1) k).toInt = outT w (h k) - psT M tears k (outT w (h k))) → (∀ c, ¬ c = rf O a 0 → ¬ c = rf O a 1 → ¬ c = rf O a 2 → I' c = I c) → Q I') : Wp (F_Ld_sift N O I J a m x2 x3) Q := by
  have k100 : (Int32.ofInt 100).toInt = 100 := ofI (by decide)
  have wb := hs.2.1
  unfold F_Ld_sift
  refine Wp_lb (fun v4 e4 => ?_)
  have p0 := psT_b (x := 0) (k := 0) hM tb (Int.le_refl _)
  have q3 := t_mul ht (hm.1 3 (by decide)) (by omega)
  have mn := mn_f (x := x3 * I m 3) (y := Int32.ofInt 100)
  rw [q3, k100] at mn
  have h4 : v4.toInt = min (tears * M.1 3) 100 := by rw [e4]; omega
  have w1 : (Int32.ofInt 20 + Int32.ofInt 10 * x2).toInt = 20 + 10 * w := t_add (ofI (by decide)) (t_mul (ofI (n := 10) (by decide)) hw (by omega)) (by omega)
  refine forU (n := 5) (fun i I1 => (∀ k, k < 5 → (I1 (rf O a 0) k).toInt = if k < i then h k - outT w (h k) else h k) ∧ (∀ k, k < i → (I1 (rf O a 2) k).toInt = psT M tears k (outT w (h k))) ∧ (∀ k, k < i → (I1 (rf O a 1) k).toInt = outT w (h k) - psT M tears k (outT w (h k))) ∧ (∀ c, ¬ c = rf O a 0 → ¬ c = rf O a 1 → ¬ c = rf O a 2 → I1 c = I c)) (by omega) ⟨fun k hk => by rw [stz]; exact hh k hk, fun k hk => absurd hk (Nat.not_lt_zero _), fun k hk => absurd hk (Nat.not_lt_zero _), fun _ _ _ _ => rfl⟩ ?_ ?_
  · intro rec x i I1 hx hi ⟨v0, v1, v2, v3⟩ kk
    have ex : x.toInt.toNat = i := tn_i hx
    have a0 := v0 i hi
    rw [st0] at a0
    have bi := bd i hi
    have ob := outT_b (x := h i) hs bi.1
    have pb := psT_b (k := i) hM tb ob.2.1
    unfold B_Ld_sift_16
    refine Wp.neg (by omega) (Wp.pos (by omega) (Wp.bd1 ?_))
    rw [ex]
    refine c_share a0 w1 k100 (by decide) ⟨ob.1.1, by omega⟩ (show outT w (h i) < _ by omega) (fun z hz => ?_)
    have hz : z.toInt = outT w (h i) := hz
    refine Wp.pos (by omega) (Wp.pos (by omega) (Wp_lb (fun I2 e2 => Wp.jn ?_)))
    have fin : ∀ s : Int32, s.toInt = psT M tears i (outT w (h i)) → Wp (if 0 ≤ x.toInt ∧ x.toInt < 5 then (lb (up2 I2 (rf O a 2) i s) fun I3 => if 0 ≤ x.toInt ∧ x.toInt < 5 then (if 0 ≤ x.toInt ∧ x.toInt < 5 then (lb (up2 I3 (rf O a 1) i (z - (I3 (rf O a 2) i))) fun I4 => lb (x + Int32.ofInt (1)) fun v5_102 => rec (v5_102) I4) else none) else none) else none) Q := fun s hs' => by
      refine Wp.pos (by omega) (Wp_lb (fun I3 e3 => Wp.pos (by omega) (Wp.pos (by omega) (Wp_lb (fun I4 e4 => Wp_lb (fun v ev => ?_))))))
      have w3 : (I3 (rf O a 2) i).toInt = psT M tears i (outT w (h i)) := by rw [e3, up2_self]; exact hs'
      refine kk v I4 (by rw [ev]; exact inc1 hx (by omega)) ⟨fun k hk => ?_, fun k hk => ?_, fun k hk => ?_, fun c c1 c2 c3 => ?_⟩
      · rw [e4, up2_row _ _ n1, e3, up2_row _ _ n2, e2]
        by_cases e : k = i
        · subst e; rw [up2_self, stS]; exact t_sub a0 hz (by omega)
        · rw [up2_ne _ _ (fun z => e z.2), v0 k hk]; exact stp e
      · rw [e4, up2_row _ _ (fun z => n3 z.symm), e3]
        by_cases e : k = i
        · subst e; rw [up2_self]; exact hs'
        · rw [up2_ne _ _ (fun z => e z.2), e2, up2_row _ _ (fun z => n2 z.symm)]; exact v1 k (by omega)
      · rw [e4]
        by_cases e : k = i
        · subst e; rw [up2_self]; exact t_sub hz w3 (by omega)
        · rw [up2_ne _ _ (fun z => e z.2), e3, up2_row _ _ n3, e2, up2_row _ _ (fun z => n1 z.symm)]; exact v2 k (by omega)
      · rw [e4, up2_row _ _ c2, e3, up2_row _ _ c3, e2, up2_row _ _ c1]; exact v3 c c1 c2 c3
    have hs2 : (I2 m 2).toInt = M.1 2 := by rw [e2, up2_row _ _ s3.1, v3 m s3.1 s3.2.1 s3.2.2]; exact hm.1 2 (by decide)
    by_cases c : (i : Int) < M.1 2
    · refine Wp.neg (by omega) (Wp.bd1 ?_)
      have mm := mulb ob.2.1 (show outT w (h i) ≤ 1000000 by omega) (show 0 ≤ min (tears * M.1 3) 100 by omega) (show min (tears * M.1 3) 100 ≤ 100 by omega)
      have ep : psT M tears i (outT w (h i)) = outT w (h i) * min (tears * M.1 3) 100 / 100 := by unfold psT; rw [if_pos c]
      refine c_share hz h4 k100 (by decide) ⟨mm.1, by omega⟩ (by omega) (fun y hy => fin y (by rw [hy, ep]))
    · refine Wp.pos (by omega) (fin z ?_)
      rw [hz]; unfold psT; rw [if_neg c]
  · intro rec x I1 hx ⟨v0, v1, v2, v3⟩
    unfold B_Ld_sift_16
    exact Wp.pos (by omega) (Wp.ret (hQ I1 (fun k hk => by rw [v0 k hk, if_pos hk]) v1 v2 v3))
end CLOAD
