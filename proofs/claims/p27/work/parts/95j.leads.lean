/-! marks led through, on both sides -/
theorem forUg {σ ρ : Type} {N n : Nat} {B : (Int32 → σ → Option ρ) → Int32 → σ → Option ρ} {z : Int32 → σ → Option ρ} {s : σ} {Q : ρ → Prop} (Inv : Nat → σ → Prop) (hn : n < N) (h0 : Inv 0 s)
    (step : ∀ (rec : Int32 → σ → Option ρ) (x : Int32) (i : Nat) (s1 : σ), x.toInt = (i : Int) → i < n → Inv i s1 → (∀ (v : Int32) (s2 : σ), v.toInt = ((i + 1 : Nat) : Int) → Inv (i + 1) s2 → Wp (rec v s2) Q) → Wp (B rec x s1) Q)
    (fin : ∀ (rec : Int32 → σ → Option ρ) (x : Int32) (s1 : σ), x.toInt = (n : Int) → Inv n s1 → Wp (B rec x s1) Q) : Wp (lp B z N (Int32.ofInt 0) s) Q := by
  have main : ∀ (m i : Nat) (x : Int32) (s1 : σ), x.toInt = (i : Int) → i ≤ n → n - i < m → Inv i s1 → Wp (lp B z m x s1) Q := by
    intro m
    induction m with
    | zero => intro i x s1 _ _ h; omega
    | succ m ih =>
      intro i x s1 hx hi hm hI
      show Wp (B (lp B z m) x s1) Q
      by_cases e : i = n
      · subst e; exact fin _ x s1 hx hI
      · exact step _ x i s1 hx (by omega) hI (fun v s2 hv h2 => ih (i + 1) v s2 hv (by omega) (by omega) h2)
  exact main N 0 _ s (ofI (by decide)) (by omega) (by omega) h0
theorem forDg {α σ ρ : Type} {N n : Nat} {B : (α → Int32 → σ → Option ρ) → α → Int32 → σ → Option ρ} {z : α → Int32 → σ → Option ρ} {y0 : α} {s : σ} {Q : ρ → Prop} (Inv : Nat → α → σ → Prop) (hn : n < N) (h0 : Inv 0 y0 s)
    (step : ∀ (rec : α → Int32 → σ → Option ρ) (y : α) (x : Int32) (i : Nat) (s1 : σ), x.toInt = (i : Int) → i < n → Inv i y s1 → (∀ (u : α) (v : Int32) (s2 : σ), v.toInt = ((i + 1 : Nat) : Int) → Inv (i + 1) u s2 → Wp (rec u v s2) Q) → Wp (B rec y x s1) Q)
    (fin : ∀ (rec : α → Int32 → σ → Option ρ) (y : α) (x : Int32) (s1 : σ), x.toInt = (n : Int) → Inv n y s1 → Wp (B rec y x s1) Q) : Wp (lp B z N y0 (Int32.ofInt 0) s) Q := by
  have main : ∀ (m i : Nat) (y : α) (x : Int32) (s1 : σ), x.toInt = (i : Int) → i ≤ n → n - i < m → Inv i y s1 → Wp (lp B z m y x s1) Q := by
    intro m
    induction m with
    | zero => intro i y x s1 _ _ h; omega
    | succ m ih =>
      intro i y x s1 hx hi hm hI
      show Wp (B (lp B z m) y x s1) Q
      by_cases e : i = n
      · subst e; exact fin _ y x s1 hx hI
      · exact step _ y x i s1 hx (by omega) hI (fun u v s2 hv h2 => ih (i + 1) u v s2 hv (by omega) (by omega) h2)
  exact main N 0 _ _ s (ofI (by decide)) (by omega) (by omega) h0
theorem forNg {σ ρ : Type} {N n : Nat} {B : (Int32 → σ → Option ρ) → Int32 → σ → Option ρ} {z : Int32 → σ → Option ρ} {s : σ} {x0 : Int32} {Q : ρ → Prop} (Inv : Nat → σ → Prop) (hx0 : x0.toInt = (n : Int) - 1) (hn : n < N) (h0 : Inv n s)
    (step : ∀ (rec : Int32 → σ → Option ρ) (x : Int32) (i : Nat) (s1 : σ), x.toInt = (i : Int) → i < n → Inv (i + 1) s1 → (∀ (v : Int32) (s2 : σ), v.toInt = (i : Int) - 1 → Inv i s2 → Wp (rec v s2) Q) → Wp (B rec x s1) Q)
    (fin : ∀ (rec : Int32 → σ → Option ρ) (x : Int32) (s1 : σ), x.toInt = -1 → Inv 0 s1 → Wp (B rec x s1) Q) : Wp (lp B z N x0 s) Q := by
  have main : ∀ (m i : Nat) (x : Int32) (s1 : σ), x.toInt = (i : Int) - 1 → i ≤ n → i < m → Inv i s1 → Wp (lp B z m x s1) Q := by
    intro m
    induction m with
    | zero => intro i x s1 _ _ h; omega
    | succ m ih =>
      intro i x s1 hx hi hm hI
      show Wp (B (lp B z m) x s1) Q
      cases i with
      | zero => exact fin _ x s1 (by omega) hI
      | succ i => exact step _ x i s1 (by omega) (by omega) hI (fun v s2 hv h2 => ih i v s2 hv (by omega) (by omega) h2)
  exact main N n _ s hx0 (Nat.le_refl _) hn h0
theorem l_div {x y : Int64} {a b : Int} (hx : x.toInt = a) (hy : y.toInt = b) (ha : 0 ≤ a) (hb : 0 < b) (hl : a < 4611686018427387904) : (x / y).toInt = a / b := by
  have n1 : 0 ≤ a / b := Int.ediv_nonneg ha (by omega)
  have n2 : a / b ≤ a := Int.ediv_le_self _ ha
  rw [Int64.toInt_div, hx, hy, Int.tdiv_eq_ediv_of_nonneg ha, wr64]; omega
theorem L100 : (100 : Int64).toInt = 100 := by decide
theorem L10000 : (10000 : Int64).toInt = 10000 := by decide
def ldG (M : MM) (e : Int) (h b : Nat → Int) : Nat → Int := brk M e (zN M - 1) (fun k => h k + b k)
def ldH (M : MM) (sd w e : Int) (h b : Nat → Int) (k : Nat) : Int := if sd = 1 then h k + b k else ldG M e h b k - outT w (ldG M e h b k)
def ldB (M : MM) (sd w tears e : Int) (h b : Nat → Int) (k : Nat) : Int := if sd = 1 then 0 else outT w (ldG M e h b k) - psT M tears k (outT w (ldG M e h b k))
def ldS (M : MM) (sd w tears e : Int) (h b : Nat → Int) : Int := if sd = 1 then 0 else s5 (fun k => psT M tears k (outT w (ldG M e h b k)))
/-- marks in their bounds -/
def MKb (M : MM) (h b : Nat → Int) : Prop := (∀ k, k < 5 → 0 ≤ h k ∧ 0 ≤ b k) ∧ s5 h + s5 b ≤ 1000000 ∧ (∀ k, k < 5 → zN M ≤ k → h k = 0 ∧ b k = 0)
section LEADS
variable {N : Nat} {O : WO} {I : WI} {J : WJ} {M : MM} {r w o e sd tears : Int} {h b : Nat → Int} {a : Nat}
theorem ldG_b (hM : MB M) (hb : MKb M h b) (he : 0 ≤ e ∧ e ≤ 100) : (∀ k, k < 5 → 0 ≤ ldG M e h b k) ∧ s5 (ldG M e h b) = s5 h + s5 b ∧ (∀ k, k < 5 → zN M ≤ k → ldG M e h b k = 0) := by
  have m7 := hM.2.2.2.2.2.2.1
  have z1 : 1 ≤ zN M := by unfold zN; omega
  obtain ⟨q1, q2, q3⟩ := brk_b hM he (zN M - 1) (fun k => h k + b k) (by omega) (fun j hj => by have := hb.1 j hj; (try dsimp only); omega) (fun j hj hz => by have := hb.2.2 j hj hz; (try dsimp only); omega)
  refine ⟨q1, ?_, q3⟩
  show s5 (brk M e (zN M - 1) (fun k => h k + b k)) = _
  rw [q2]
  unfold s5; (try dsimp only); omega
theorem ld_MK (hM : MB M) (hs : ST3 M r w o) (hb : MKb M h b) (he : 0 ≤ e ∧ e ≤ 100) (tb : 0 ≤ tears ∧ tears ≤ 3) : MKb M (ldH M sd w e h b) (ldB M sd w tears e h b) ∧ 0 ≤ ldS M sd w tears e h b ∧ s5 (ldH M sd w e h b) + s5 (ldB M sd w tears e h b) + ldS M sd w tears e h b = s5 h + s5 b := by
  obtain ⟨g1, g2, g3⟩ := ldG_b hM hb he
  unfold ldH ldB ldS
  by_cases c : sd = 1
  · have e1 : (fun k => if sd = 1 then h k + b k else ldG M e h b k - outT w (ldG M e h b k)) = fun k => h k + b k := by funext k; rw [if_pos c]
    have e2 : (fun k => if sd = 1 then 0 else outT w (ldG M e h b k) - psT M tears k (outT w (ldG M e h b k))) = fun _ => 0 := by funext k; rw [if_pos c]
    have es : s5 (fun k => h k + b k) = s5 h + s5 b := by unfold s5; (try dsimp only); omega
    have ez : s5 (fun _ => (0 : Int)) = 0 := rfl
    rw [e1, e2, if_pos c, es, ez]
    refine ⟨⟨fun k hk => ?_, by rw [es, ez]; have := hb.2.1; omega, fun k hk hz => ?_⟩, Int.le_refl _, by omega⟩
    · have := hb.1 k hk; (try dsimp only); omega
    · have := hb.2.2 k hk hz; (try dsimp only); omega
  · have e1 : (fun k => if sd = 1 then h k + b k else ldG M e h b k - outT w (ldG M e h b k)) = fun k => ldG M e h b k - outT w (ldG M e h b k) := by funext k; rw [if_neg c]
    have e2 : (fun k => if sd = 1 then 0 else outT w (ldG M e h b k) - psT M tears k (outT w (ldG M e h b k))) = fun k => outT w (ldG M e h b k) - psT M tears k (outT w (ldG M e h b k)) := by funext k; rw [if_neg c]
    rw [e1, e2, if_neg c]
    generalize ldG M e h b = g at g1 g2 g3
    have ob := fun k hk => (outT_b (x := g k) hs (g1 k hk)).2
    have pb := fun k hk => (psT_b (x := outT w (g k)) (k := k) hM tb (ob k hk).1).2
    have sum : s5 (fun k => g k - outT w (g k)) + s5 (fun k => outT w (g k) - psT M tears k (outT w (g k))) + s5 (fun k => psT M tears k (outT w (g k))) = s5 g := by
      show (g 0 - outT w (g 0)) + (g 1 - outT w (g 1)) + (g 2 - outT w (g 2)) + (g 3 - outT w (g 3)) + (g 4 - outT w (g 4)) + ((outT w (g 0) - psT M tears 0 (outT w (g 0))) + (outT w (g 1) - psT M tears 1 (outT w (g 1))) + (outT w (g 2) - psT M tears 2 (outT w (g 2))) + (outT w (g 3) - psT M tears 3 (outT w (g 3))) + (outT w (g 4) - psT M tears 4 (outT w (g 4)))) + (psT M tears 0 (outT w (g 0)) + psT M tears 1 (outT w (g 1)) + psT M tears 2 (outT w (g 2)) + psT M tears 3 (outT w (g 3)) + psT M tears 4 (outT w (g 4))) = g 0 + g 1 + g 2 + g 3 + g 4
      omega
    have s0 : 0 ≤ s5 (fun k => psT M tears k (outT w (g k))) := by
      have := (pb 0 (by decide)).1; have := (pb 1 (by decide)).1; have := (pb 2 (by decide)).1; have := (pb 3 (by decide)).1; have := (pb 4 (by decide)).1
      show 0 ≤ psT M tears 0 (outT w (g 0)) + psT M tears 1 (outT w (g 1)) + psT M tears 2 (outT w (g 2)) + psT M tears 3 (outT w (g 3)) + psT M tears 4 (outT w (g 4))
      omega
    have bl := hb.2.1
    refine ⟨⟨fun k hk => ?_, by omega, fun k hk hz => ?_⟩, s0, by omega⟩
    · have := ob k hk; have := pb k hk; (try dsimp only); omega
    · have z := g3 k hk hz
      have e0 : outT w 0 = 0 := by unfold outT; rw [Int.zero_mul]; rfl
      have p0 : psT M tears k 0 = 0 := by have := (psT_b (x := 0) (k := k) hM tb (Int.le_refl _)).2; omega
      dsimp only
      rw [z, e0, p0]
      exact ⟨by decide, by decide⟩
theorem psum_zN {f : Nat → Int} (hM : MB M) (hz : ∀ k, k < 5 → zN M ≤ k → f k = 0) : psum f (zN M) = s5 f := psum_z hM (fun k hk h7 => hz k hk (by unfold zN; omega))
theorem r_leads {Q : Int64 × WI × WJ → Prop} (hN : 8 ≤ N) (hM : MB M) (hs : ST3 M r w o) (hm : RMl I O (rf O a 3) M) (nAB : ¬ rf O a 35 = rf O a 36) (hA : ∀ k, k < 5 → (J (rf O a 35) k).toInt = h k) (hB : ∀ k, k < 5 → (J (rf O a 36) k).toInt = b k) (hb : MKb M h b) (h26 : (I (rf O a 17) 26).toInt = sd) (h29 : (I (rf O a 17) 29).toInt = e) (he : 0 ≤ e ∧ e ≤ 100) (h25 : (I (rf O a 17) 25).toInt = tears) (tb : 0 ≤ tears ∧ tears ≤ 3) (h35 : (I (rf O a 17) 35).toInt = w)
    (hQ : ∀ (z : Int64) J', z.toInt = ldS M sd w tears e h b → (∀ k, k < 5 → (J' (rf O a 35) k).toInt = ldH M sd w e h b k) → (∀ k, k < 5 → (J' (rf O a 36) k).toInt = ldB M sd w tears e h b k) → (∀ c, ¬ c = rf O a 35 → ¬ c = rf O a 36 → J' c = J c) → Q (z, I, J')) : Wp (F_Mo_leads N O I J a) Q := by
  have m7 := hM.2.2.2.2.2.2.1
  have ez : ((zN M : Nat) : Int) = M.1 7 := by unfold zN; omega
  have q8 := hm.1.2.2.2.2.2.2.2.2.1
  have k2 : (Int32.ofInt 2).toInt = 2 := ofI (by decide)
  have hle : ∀ k, k < 5 → h k + b k ≤ 1000000 := fun k hk => by
    have q := fun j hj => (hb.1 j hj).1
    have q' := fun j hj => (hb.1 j hj).2
    have := s5_le q hk; have := s5_le q' hk; have := hb.2.1; omega
  unfold F_Mo_leads
  refine forUg (n := zN M) (fun i J1 => (∀ k, k < 5 → (J1 (rf O a 35) k).toInt = if k < i then h k + b k else h k) ∧ (∀ k, k < 5 → (J1 (rf O a 36) k).toInt = if k < i then 0 else b k) ∧ (∀ c, ¬ c = rf O a 35 → ¬ c = rf O a 36 → J1 c = J c)) (by omega) ⟨fun k hk => by rw [stz]; exact hA k hk, fun k hk => by rw [stz]; exact hB k hk, fun _ _ _ => rfl⟩ ?_ ?_
  · intro rec x i J1 hx hi ⟨v0, v1, v2⟩ kk
    have i5 : i < 5 := by omega
    have ex : x.toInt.toNat = i := tn_i hx
    have a0 := v0 i i5; rw [st0] at a0
    have a1 := v1 i i5; rw [st0] at a1
    have bi := hb.1 i i5
    have li := hle i i5
    unfold B_Mo_leads_2
    have G : 0 ≤ x.toInt ∧ x.toInt < 5 := by omega
    refine Wp.neg (by omega) (Wp.pos G (Wp.pos G (Wp.pos G (Wp_lb (fun J2 e2 => Wp.pos G (Wp_lb (fun J3 e3 => Wp_lb (fun v ev => ?_))))))))
    rw [ex] at e2 e3
    refine kk v J3 (by rw [ev]; exact inc1 hx (by omega)) ⟨fun k hk => ?_, fun k hk => ?_, fun c c1 c2 => ?_⟩
    · rw [e3, up2_row _ _ nAB, e2]
      by_cases q : k = i
      · subst q; rw [up2_self, stS]; exact l_add a0 a1 (by omega)
      · rw [up2_ne _ _ (fun z => q z.2), v0 k hk]; exact stp q
    · rw [e3]
      by_cases q : k = i
      · subst q; rw [up2_self, stS]; rfl
      · rw [up2_ne _ _ (fun z => q z.2), e2, up2_row _ _ (fun z => nAB z.symm), v1 k hk]; exact stp q
    · rw [e3, up2_row _ _ c2, e2, up2_row _ _ c1]; exact v2 c c1 c2
  · intro rec x J1 hx ⟨v0, v1, v2⟩
    have A1 : ∀ k, k < 5 → (J1 (rf O a 35) k).toInt = h k + b k := fun k hk => by
      rw [v0 k hk]
      by_cases q : k < zN M
      · rw [if_pos q]
      · rw [if_neg q]; have := hb.2.2 k hk (by omega); omega
    have B1 : ∀ k, k < 5 → (J1 (rf O a 36) k).toInt = 0 := fun k hk => by
      rw [v1 k hk]
      by_cases q : k < zN M
      · rw [if_pos q]
      · rw [if_neg q]; exact (hb.2.2 k hk (by omega)).2
    unfold B_Mo_leads_2
    refine Wp.pos (by omega) ?_
    by_cases c1 : sd = 1
    · refine Wp.pos (by omega) (Wp.ret (hQ _ J1 ?_ (fun k hk => ?_) (fun k hk => ?_) v2))
      · unfold ldS; rw [if_pos c1]; rfl
      · unfold ldH; rw [if_pos c1]; exact A1 k hk
      · unfold ldB; rw [if_pos c1]; exact B1 k hk
    · refine Wp.neg (by omega) (Wp_lb (fun v1' e1' => ?_))
      have h1' : v1'.toInt = ((zN M - 1 : Nat) : Int) - 1 := by rw [e1', t_sub q8 k2 (by omega)]; omega
      clear v0 v1
      have sT : s5 (fun k => h k + b k) = s5 h + s5 b := by unfold s5; (try dsimp only); omega
      refine forNg (n := zN M - 1) (fun i J2 => ∃ g : Nat → Int, (∀ k, k < 5 → (J2 (rf O a 35) k).toInt = g k) ∧ brk M e i g = ldG M e h b ∧ (∀ j, j < 5 → 0 ≤ g j) ∧ s5 g = s5 h + s5 b ∧ (∀ c, ¬ c = rf O a 35 → J2 c = J1 c)) h1' (by omega) ⟨fun k => h k + b k, A1, rfl, fun j hj => by have := hb.1 j hj; (try dsimp only); omega, sT, fun _ _ => rfl⟩ ?_ ?_
      · intro rec2 y i J2 hy hi ⟨g, g1, g2, g3, g4, g5⟩ kk2
        have i5 : i < 5 := by omega
        have j5 : i + 1 < 5 := by omega
        have bl := hb.2.1
        have bb := bkn_b (h := g) hM he i5 (g3 i i5)
        have ff := frs_b (k := i) hM i5 bb.2.1
        have gi := s5_le g3 i5
        have gj := s5_le g3 j5
        have gin := g3 i i5
        have gjn := g3 (i + 1) j5
        have mb := hM.2.2.2.2.2.2.2.2.2.2.1 i i5
        have mc := hM.2.2.2.2.2.2.2.2.2.2.2.1 i i5
        have h12 : (I (rf O (rf O a 3) 12) i).toInt = M.2.1 1 i := hm.2 1 i (by decide) (show i < 5 from i5)
        have h13 : (I (rf O (rf O a 3) 13) i).toInt = M.2.1 2 i := hm.2 2 i (by decide) (show i < 5 from i5)
        have pr1 := mulb gin (show g i ≤ 1000000 by omega) mb.1 mb.2
        have pr2 := mulb pr1.1 (show g i * M.2.1 1 i ≤ 100000000 from pr1.2) he.1 he.2
        have pf := mulb bb.2.1 (show bkn M e i g ≤ 1000000 by omega) mc.1 mc.2
        have a0 := g1 i i5
        have a1 := g1 (i + 1) j5
        unfold B_Mo_leads_64
        have ey : y.toInt.toNat = i := tn_i hy
        have G : 0 ≤ y.toInt ∧ y.toInt < 5 := by omega
        have dn := ixm hy (by omega)
        generalize y + Int32.ofInt (-1) = Ym at dn ⊢
        have y1 := inc1 hy (by omega)
        generalize y + Int32.ofInt 1 = Y1 at y1 ⊢
        have y2 := ix2 hy (by omega)
        generalize y + Int32.ofInt 2 = Y2 at y2 ⊢
        have n1 : Y1.toInt.toNat = i + 1 := tn_i y1
        have G1 : 0 ≤ Y1.toInt ∧ Y1.toInt < 5 := by omega
        rw [ey, n1]
        refine Wp.neg (by omega) (Wp.pos G (Wp.pos G (Wp_lb (fun v2' e2' => Wp.pos G (Wp_lb (fun v4' e4' => Wp.pos G (Wp.pos G (Wp_lb (fun J4 e4 => Wp.pos G1 (Wp.pos G1 (Wp_lb (fun J5 e5 => ?_))))))))))))
        have h2' : v2'.toInt = bkn M e i g := by
          rw [e2', l_div (l_mul (l_mul a0 (by rw [Int32.toInt_toInt64]; exact h12) (by omega)) (by rw [Int32.toInt_toInt64]; exact h29) (by omega)) L10000 pr2.1 (by decide) (by omega)]
          unfold bkn; rw [Int.mul_assoc]
        have h4' : v4'.toInt = bkn M e i g * M.2.1 2 i / 100 := by
          rw [e4']; exact l_div (l_mul h2' (by rw [Int32.toInt_toInt64]; exact h13) (by omega)) L100 pf.1 (by decide) (by omega)
        clear e2' e4' pr1 pr2 pf
        have r0 := l_sub a0 h2' (by omega)
        have c1' : (J4 (rf O a 35) (i + 1)).toInt = g (i + 1) := by rw [e4, up2_ne _ _ (fun z => absurd z.2 (Nat.succ_ne_self i))]; exact a1
        have r1 := l_add c1' h4' (by omega)
        have r2 := l_sub h2' h4' (by omega)
        have f5 : ∀ c, ¬ c = rf O a 35 → J5 c = J1 c := fun c hc => by rw [e5, up2_row _ _ hc, e4, up2_row _ _ hc]; exact g5 c hc
        have kb := brk1_b (k := i) hM he j5 g3
        refine Wp.jn ?_
        by_cases c : i + 2 < zN M
        · have k5 : i + 2 < 5 := by omega
          have n2 : Y2.toInt.toNat = i + 2 := tn_i y2
          have G2 : 0 ≤ Y2.toInt ∧ Y2.toInt < 5 := by omega
          refine Wp.neg (by omega) ?_
          dsimp only
          rw [n2]
          refine Wp.pos G2 (Wp.pos G2 (Wp_lb (fun J6 e6 => Wp.lb (kk2 _ J6 dn ⟨brk1 M e i g, fun k hk => ?_, g2, kb.1, by rw [kb.2]; exact g4, fun c0 hc => by rw [e6, up2_row _ _ hc]; exact f5 c0 hc⟩))))
          have gkn := g3 (i + 2) k5
          have gk := s5_le g3 k5
          have c2' : (J5 (rf O a 35) (i + 2)).toInt = g (i + 2) := by rw [e5, up2_ne _ _ (fun z => absurd z.2 (by omega)), e4, up2_ne _ _ (fun z => absurd z.2 (by omega))]; exact g1 _ k5
          have r3 := l_add c2' r2 (by omega)
          unfold brk1
          rw [if_pos c, e6]
          by_cases q2 : k = i + 2
          · subst q2; rw [up2_self, u1_s]; exact r3
          rw [up2_ne _ _ (fun z => q2 z.2), u1_n q2, e5]
          by_cases q1 : k = i + 1
          · subst q1; rw [up2_self, u1_s]; exact r1
          rw [up2_ne _ _ (fun z => q1 z.2), u1_n q1, e4]
          by_cases q0 : k = i
          · subst q0; rw [up2_self, u1_s]; exact r0
          rw [up2_ne _ _ (fun z => q0 z.2), u1_n q0]; exact g1 k hk
        · refine Wp.pos (by omega) ?_
          dsimp only
          rw [n1]
          refine Wp.pos G1 (Wp.pos G1 (Wp_lb (fun J6 e6 => Wp.lb (kk2 _ J6 dn ⟨brk1 M e i g, fun k hk => ?_, g2, kb.1, by rw [kb.2]; exact g4, fun c0 hc => by rw [e6, up2_row _ _ hc]; exact f5 c0 hc⟩))))
          have c2' : (J5 (rf O a 35) (i + 1)).toInt = g (i + 1) + bkn M e i g * M.2.1 2 i / 100 := by rw [e5, up2_self]; exact r1
          have r3 := l_add c2' r2 (by omega)
          have r4 : (J5 (rf O a 35) (i + 1) + (v2' - v4')).toInt = g (i + 1) + bkn M e i g := by rw [r3]; omega
          unfold brk1
          rw [if_neg c, e6]
          by_cases q1 : k = i + 1
          · subst q1; rw [up2_self, u1_s]; exact r4
          rw [up2_ne _ _ (fun z => q1 z.2), u1_n q1, e5, up2_ne _ _ (fun z => q1 z.2), e4]
          by_cases q0 : k = i
          · subst q0; rw [up2_self, u1_s]; exact r0
          rw [up2_ne _ _ (fun z => q0 z.2), u1_n q0]; exact g1 k hk
      · intro rec2 y J2 hy ⟨g, g1, g2, g3, g4, g5⟩
        have g2' : g = ldG M e h b := g2
        subst g2'
        obtain ⟨gb, gs, gz⟩ := ldG_b hM hb he
        have bl := hb.2.1
        unfold B_Mo_leads_64
        refine Wp.pos (by omega) ?_
        refine forDg (n := zN M) (fun i (y : Int64) J3 => y.toInt = psum (fun k => psT M tears k (outT w (ldG M e h b k))) i ∧ (∀ k, k < 5 → (J3 (rf O a 35) k).toInt = if k < i then ldG M e h b k - outT w (ldG M e h b k) else ldG M e h b k) ∧ (∀ k, k < 5 → (J3 (rf O a 36) k).toInt = if k < i then outT w (ldG M e h b k) - psT M tears k (outT w (ldG M e h b k)) else 0) ∧ (∀ c, ¬ c = rf O a 35 → ¬ c = rf O a 36 → J3 c = J c)) (by omega) ⟨rfl, fun k hk => by rw [stz]; exact g1 k hk, fun k hk => by rw [stz, g5 _ (fun z => nAB z.symm)]; exact B1 k hk, fun c c1 c2 => by rw [g5 c c1]; exact v2 c c1 c2⟩ ?_ ?_
        · intro rec3 z x3 i J3 hx3 hi ⟨w0, w1, w2, w3⟩ kk3
          have i5 : i < 5 := by omega
          have ex : x3.toInt.toNat = i := tn_i hx3
          have G : 0 ≤ x3.toInt ∧ x3.toInt < 5 := by omega
          have a0 := w1 i i5; rw [st0] at a0
          have gi := s5_le gb i5
          have gin := gb i i5
          have ob := outT_b (x := ldG M e h b i) hs gin
          have pb := psT_b (x := outT w (ldG M e h b i)) (k := i) hM tb ob.2.1
          obtain ⟨zp, wp, hp⟩ := r_passes (N := N) (O := O) (I := I) (J := J3) (a := a) (x1 := x3) (x2 := I (rf O a 17) 25) hM hm hx3 h25 tb
          have k20 : (Int32.ofInt 20 + Int32.ofInt 10 * I (rf O a 17) 35).toInt = 20 + 10 * w := by
            have := hs.2.1
            exact t_add (ofI (by decide)) (t_mul (ofI (by decide)) h35 (by omega)) (by omega)
          have psb : 0 ≤ psum (fun k => psT M tears k (outT w (ldG M e h b k))) i ∧ psum (fun k => psT M tears k (outT w (ldG M e h b k))) i ≤ 1000000 * (i : Int) := psum_b i (fun k hk => by
            have o2 := (outT_b (x := ldG M e h b k) hs (gb k (by omega))).2
            have p2 := (psT_b (x := outT w (ldG M e h b k)) (k := k) hM tb o2.1).2
            have l2 := s5_le gb (show k < 5 by omega)
            (try dsimp only)
            omega)
          unfold B_Mo_leads_184
          rw [ex, wp]
          refine Wp.neg (by omega) (Wp.pos G (Wp_lb (fun v4' e4' => Wp.bd1 (Wp.ret (Wp_lb (fun v6' e6' => Wp.pos G (Wp.pos G (Wp_lb (fun J4 e4 => Wp.pos G (Wp_lb (fun J5 e5 => Wp_lb (fun u eu => Wp_lb (fun v ev => ?_)))))))))))))
          have h4' : v4'.toInt = outT w (ldG M e h b i) := by
            rw [e4']; exact l_div (l_mul a0 (by rw [Int32.toInt_toInt64]; exact k20) (by omega)) L100 ob.1.1 (by decide) (by omega)
          have h6' : v6'.toInt = psT M tears i (outT w (ldG M e h b i)) := by
            rw [e6']
            have pz : zp.toInt64.toInt = (if (i : Int) < M.1 2 then min (tears * M.1 3) 100 else 100) := by rw [Int32.toInt_toInt64]; exact hp
            unfold psT
            by_cases cc : (i : Int) < M.1 2
            · rw [if_pos cc] at pz ⊢
              have mm := mulb ob.2.1 (show outT w (ldG M e h b i) ≤ 1000000 by omega) (show 0 ≤ min (tears * M.1 3) 100 by omega) (show min (tears * M.1 3) 100 ≤ 100 by omega)
              exact l_div (l_mul h4' pz (by omega)) L100 mm.1 (by decide) (by omega)
            · rw [if_neg cc] at pz ⊢
              rw [l_div (l_mul h4' pz (by omega)) L100 (by omega) (by decide) (by omega)]; omega
          clear e4' e6'
          refine kk3 u v J5 (by rw [ev]; exact inc1 hx3 (by omega)) ⟨?_, fun k hk => ?_, fun k hk => ?_, fun c c1 c2 => ?_⟩
          · rw [eu, l_add w0 h6' (by omega)]; rfl
          · rw [e5, up2_row _ _ nAB, e4]
            by_cases q : k = i
            · subst q; rw [up2_self, stS]; exact l_sub a0 h4' (by omega)
            · rw [up2_ne _ _ (fun z => q z.2), w1 k hk]; exact stp q
          · rw [e5]
            by_cases q : k = i
            · subst q; rw [up2_self, stS]; exact l_sub h4' h6' (by omega)
            · rw [up2_ne _ _ (fun z => q z.2), e4, up2_row _ _ (fun z => nAB z.symm), w2 k hk]; exact stp q
          · rw [e5, up2_row _ _ c2, e4, up2_row _ _ c1]; exact w3 c c1 c2
        · intro rec3 z x3 J3 hx3 ⟨w0, w1, w2, w3⟩
          unfold B_Mo_leads_184
          have o0 : outT w 0 = 0 := by unfold outT; rw [Int.zero_mul]; rfl
          have p0 : ∀ k, psT M tears k 0 = 0 := fun k => by have := (psT_b (x := 0) (k := k) hM tb (Int.le_refl _)).2; omega
          refine Wp.pos (by omega) (Wp.ret (hQ z J3 ?_ (fun k hk => ?_) (fun k hk => ?_) w3))
          · unfold ldS; rw [if_neg c1, w0]
            exact psum_zN hM (fun k hk hz => by (try dsimp only); rw [gz k hk hz, o0, p0])
          · unfold ldH; rw [if_neg c1, w1 k hk]
            by_cases q : k < zN M
            · rw [if_pos q]
            · rw [if_neg q, gz k hk (by omega), o0]; rfl
          · unfold ldB; rw [if_neg c1, w2 k hk]
            by_cases q : k < zN M
            · rw [if_pos q]
            · rw [if_neg q, gz k hk (by omega), o0, p0]; rfl
theorem c_leadMarks {x1 : Int32} {Q : Int32 × WI → Prop} (hN : 8 ≤ N) (hM : MB M) (hs : ST3 M r w o) (hm : CMl I O (rf O a 1) M) (n1 : ¬ rf O (rf O a 10) 0 = rf O (rf O a 10) 1) (n2 : ¬ rf O (rf O a 10) 0 = rf O (rf O a 10) 2) (n3 : ¬ rf O (rf O a 10) 1 = rf O (rf O a 10) 2) (nm : ∀ j, j < 3 → ¬ rf O a 1 = rf O (rf O a 10) j ∧ ∀ i, i < 5 → ¬ rf O (rf O a 1) (10 + i) = rf O (rf O a 10) j) (nd : ∀ j, j < 3 → ¬ rf O a 11 = rf O (rf O a 10) j)
    (hA : ∀ k, k < 5 → (I (rf O (rf O a 10) 0) k).toInt = h k) (hB : ∀ k, k < 5 → (I (rf O (rf O a 10) 1) k).toInt = b k) (hb : MKb M h b) (h26 : (I (rf O a 11) 5).toInt = sd) (sdb : sd = 0 ∨ sd = 1) (h29 : (I (rf O a 11) 8).toInt = e) (he : 0 ≤ e ∧ e ≤ 100) (h25 : (I (rf O a 11) 4).toInt = tears) (tb : 0 ≤ tears ∧ tears ≤ 3) (hx1 : x1.toInt = w)
    (hQ : ∀ (z : Int32) I', z.toInt = ldS M sd w tears e h b → (∀ k, k < 5 → (I' (rf O (rf O a 10) 0) k).toInt = ldH M sd w e h b k) → (∀ k, k < 5 → (I' (rf O (rf O a 10) 1) k).toInt = ldB M sd w tears e h b k) → (∀ c, ¬ c = rf O (rf O a 10) 0 → ¬ c = rf O (rf O a 10) 1 → ¬ c = rf O (rf O a 10) 2 → I' c = I c) → Q (z, I')) : Wp (F_RM_leadMarks N O I J a x1) Q := by
  have bl := hb.2.1
  have q := fun j hj => (hb.1 j hj).1
  have q' := fun j hj => (hb.1 j hj).2
  obtain ⟨gb, gs, gz⟩ := ldG_b hM hb he
  have sT : s5 (fun k => h k + b k) = s5 h + s5 b := by unfold s5; (try dsimp only); omega
  unfold F_RM_leadMarks
  refine Wp.bd1 (c_takeBack hN n1 hA hB (fun k hk => ?_) (fun I1 t1 t2 t3 => ?_))
  · have := s5_le q hk; have := s5_le q' hk
    have := s5_le q (show 0 < 5 by decide); have h0 := q 0 (by decide); have h0' := q' 0 (by decide)
    have p1 : 0 ≤ s5 h := Int.le_trans h0 this
    have p2 : 0 ≤ s5 b := Int.le_trans h0' (s5_le q' (show 0 < 5 by decide))
    have := q k hk; have := q' k hk
    omega
  have m1 : CMl I1 O (rf O a 1) M := hm.fr (t3 _ (nm 0 (by decide)).1 (nm 1 (by decide)).1) (fun j hj => t3 _ ((nm 0 (by decide)).2 j hj) ((nm 1 (by decide)).2 j hj))
  have d1 : I1 (rf O a 11) = I (rf O a 11) := t3 _ (nd 0 (by decide)) (nd 1 (by decide))
  by_cases c1 : sd = 1
  · refine Wp.neg (by rw [d1, h26]; omega) (Wp.ret (hQ _ I1 ?_ (fun k hk => ?_) (fun k hk => ?_) (fun c c1 c2 _ => t3 c c1 c2)))
    · unfold ldS; rw [if_pos c1]; exact k_0
    · unfold ldH; rw [if_pos c1]; exact t1 k hk
    · unfold ldB; rw [if_pos c1]; exact t2 k hk
  · have c0 : sd = 0 := by omega
    refine Wp.pos (by rw [d1, h26]; exact c0) (Wp.bd1 (c_breakUp hN hM m1 ((nm 0 (by decide)).2 1 (by decide)) ((nm 0 (by decide)).2 2 (by decide)) (nm 0 (by decide)).1 (by rw [d1]; exact h29) he t1 (fun k hk => by have := q k hk; have := q' k hk; (try dsimp only); omega) (by rw [sT]; exact bl) (fun I2 u1' u2 => ?_)))
    have u1'' : ∀ k, k < 5 → (I2 (rf O (rf O a 10) 0) k).toInt = ldG M e h b k := u1'
    have m2 : CMl I2 O (rf O a 1) M := m1.fr (u2 _ (nm 0 (by decide)).1) (fun j hj => u2 _ ((nm 0 (by decide)).2 j hj))
    have d2 : I2 (rf O a 11) = I (rf O a 11) := by rw [u2 _ (nd 0 (by decide)), d1]
    refine Wp.bd1 (c_sift hN hM hs m2 n1 n2 n3 ⟨(nm 0 (by decide)).1, (nm 1 (by decide)).1, (nm 2 (by decide)).1⟩ hx1 (by rw [d2]; exact h25) tb u1'' (fun k hk => ⟨gb k hk, by have := s5_le gb hk; omega⟩) (fun I3 w1 w2 w3 w4 => ?_))
    refine Wp.bd1 (c_sumOf hN w2 (fun k hk => ?_) (fun z hz => Wp.ret (hQ z I3 ?_ (fun k hk => ?_) (fun k hk => ?_) (fun c c1' c2 c3 => ?_))))
    · have o2 := (outT_b (x := ldG M e h b k) hs (gb k hk)).2
      have p2 := (psT_b (x := outT w (ldG M e h b k)) (k := k) hM tb o2.1).2
      have := s5_le gb hk
      (try dsimp only)
      omega
    · unfold ldS; rw [if_neg c1]; exact hz
    · unfold ldH; rw [if_neg c1]; exact w1 k hk
    · unfold ldB; rw [if_neg c1]; exact w3 k hk
    · rw [w4 c c1' c2 c3, u2 c c1', t3 c c1' c2]
end LEADS
