/-! the rule of the class -/
def lrN (M : MM) (w o : Int) (σ : Nat → Int) : Nat → Int
  | 0 => -1
  | i + 1 => if lrN M w o σ i = -1 then (if HH M (i : Int) w o σ 26 = 0 ∧ HH M (i : Int) w o σ 23 = σ 23 then (i : Int) else -1) else lrN M w o σ i
def lrZ (M : MM) (w o : Int) (σ : Nat → Int) : Int := if lrN M w o σ 4 = -1 then 0 else lrN M w o σ 4
def rIt (M : MM) (w o : Int) : Nat → (Nat → Int) → Nat → Int
  | 0, σ => σ
  | n + 1, σ => HH M (lrZ M w o (rIt M w o n σ)) w o (rIt M w o n σ)
section CRULE
variable {N : Nat} {O : WO} {I : WI} {J : WJ} {M : MM} {w o : Int} {σ : Nat → Int} {P : List Nat} {K : Nat → Nat} {x mo : Nat} {Q0 : List Nat}
theorem SI.c34 {σ' : Nat → Int} (h : SI M σ) (e : ∀ k, k < 34 → σ' k = σ k) : SI M σ' := by
  obtain ⟨s1, s2, s3, s4, s5', s6, s7, s8, s9, s10⟩ := h
  have ss : s5 σ' = s5 σ := by
    show σ' 0 + σ' 1 + σ' 2 + σ' 3 + σ' 4 = σ 0 + σ 1 + σ 2 + σ 3 + σ 4
    rw [e 0 (by decide), e 1 (by decide), e 2 (by decide), e 3 (by decide), e 4 (by decide)]
  have sb : s5 (fun k => σ' (5 + k)) = s5 (fun k => σ (5 + k)) := by
    show σ' 5 + σ' 6 + σ' 7 + σ' 8 + σ' 9 = σ 5 + σ 6 + σ 7 + σ 8 + σ 9
    rw [e 5 (by decide), e 6 (by decide), e 7 (by decide), e 8 (by decide), e 9 (by decide)]
  refine ⟨fun k hk => by rw [e k (by omega), e (5 + k) (by omega)]; exact s1 k hk, by rw [ss, sb]; exact s2, by rw [ss, sb, e 26 (by decide)]; exact s3, by rw [e 26 (by decide)]; exact s4, by rw [e 27 (by decide)]; exact s5', by rw [e 24 (by decide), e 27 (by decide)]; exact s6, by rw [e 25 (by decide)]; exact s7, by rw [e 20 (by decide)]; exact s8, fun k hk => by rw [e k (by omega), e 27 (by decide)]; exact s9 k hk, fun k hk hz => by rw [e k (by omega), e (5 + k) (by omega), e (10 + k) (by omega), e (15 + k) (by omega)]; exact s10 k hk hz⟩
theorem lrN_b : ∀ i : Nat, -1 ≤ lrN M w o σ i ∧ lrN M w o σ i < (i : Int) := by
  intro i
  induction i with
  | zero => exact ⟨Int.le_refl _, (show (-1 : Int) < 0 by decide)⟩
  | succ i ih =>
    unfold lrN
    split
    · split <;> omega
    · omega
theorem lrZ_b : 0 ≤ lrZ M w o σ ∧ lrZ M w o σ ≤ 3 := by
  have := lrN_b (M := M) (w := w) (o := o) (σ := σ) 4
  unfold lrZ; split <;> omega
theorem lrN_s {i : Nat} (h : ¬ lrN M w o σ i = -1) : ∀ d, lrN M w o σ (i + d) = lrN M w o σ i := by
  intro d
  induction d with
  | zero => rfl
  | succ d ih =>
    show (if lrN M w o σ (i + d) = -1 then (if HH M ((i + d : Nat) : Int) w o σ 26 = 0 ∧ HH M ((i + d : Nat) : Int) w o σ 23 = σ 23 then ((i + d : Nat) : Int) else -1) else lrN M w o σ (i + d)) = _
    rw [if_neg (by rw [ih]; exact h)]; exact ih
theorem lrN_f {i : Nat} (hi : i < 4) (h : lrN M w o σ i = -1) (c : HH M (i : Int) w o σ 26 = 0 ∧ HH M (i : Int) w o σ 23 = σ 23) : lrZ M w o σ = (i : Int) := by
  have e : lrN M w o σ (i + 1) = (i : Int) := by show (if _ then _ else _) = _; rw [if_pos h, if_pos c]
  have e2 : lrN M w o σ 4 = (i : Int) := by
    have := lrN_s (M := M) (w := w) (o := o) (σ := σ) (i := i + 1) (by omega) (3 - i)
    rw [show i + 1 + (3 - i) = 4 by omega] at this
    rw [this, e]
  unfold lrZ; rw [e2, if_neg (by omega)]
theorem lrN_n {i : Nat} (h : lrN M w o σ i = -1) (c : ¬ (HH M (i : Int) w o σ 26 = 0 ∧ HH M (i : Int) w o σ 23 = σ 23)) : lrN M w o σ (i + 1) = -1 := by show (if _ then _ else _) = _; rw [if_pos h, if_neg c]
theorem rIt_I (hM : MB M) (hw : 0 ≤ w ∧ w ≤ 3) (ho : 0 ≤ o ∧ o < M.1 8) (hσ : SI M σ) : ∀ n : Nat, σ 27 + n ≤ 252 → SI M (rIt M w o n σ) ∧ rIt M w o n σ 27 = σ 27 + n := by
  intro n
  induction n with
  | zero => intro _; exact ⟨hσ, by show σ 27 = σ 27 + ((0 : Nat) : Int); omega⟩
  | succ n ih =>
    intro h
    obtain ⟨i1, i2⟩ := ih (by omega)
    refine ⟨HH_SI hM i1 ⟨lrZ_b, hw, ho⟩ (by omega), ?_⟩
    show rIt M w o n σ 27 + 1 = _
    rw [i2]; omega
theorem c_leastRate {Q : Int32 × WI → Prop} (hN : 8 ≤ N) (hM : MB M) (hw : 0 ≤ w ∧ w ≤ 3) (ho : 0 ≤ o ∧ o < M.1 8) (hσ : SI M σ) (hT : TR P K O) (hx : x ∈ P ∧ K x = 8) (hO : OW Q0 P O x mo) (hm : CMl I O (rf O x 1) M) (hD : DRs I O (rf O (rf O x 8) 9) σ) (h1 : (I (rf O (rf O x 8) 1) 1).toInt = w) (h2 : (I (rf O (rf O x 8) 1) 2).toInt = o)
    (hQ : ∀ (z : Int32) I', z.toInt = lrZ M w o σ → (I' (rf O (rf O x 8) 1) 1).toInt = w → (I' (rf O (rf O x 8) 1) 2).toInt = o → (∀ b, ¬ WD O (rf O (rf O x 8) 8) b → ¬ b = rf O (rf O x 8) 1 → I' b = I b) → Q (z, I')) : Wp (F_Pl_leastRate N O I J (rf O x 8) (rf O x 1)) Q := by
  have sp8 : SPd O (rf O (rf O x 8) 8) (rf O x 1) := pSP hT hx hO (l := [8, 8]) (m := [1]) rfl rfl (by decide)
  have sd : SD O (rf O (rf O x 8) 8) (rf O (rf O x 8) 9) := pSD hT hx hO (l := [8, 8]) (l' := [9, 8]) rfl rfl (by decide)
  have ra : ¬ WD O (rf O (rf O x 8) 8) (rf O (rf O x 8) 1) := pND hT hx hO (l := [8, 8]) (p := [1, 8]) rfl rfl (by decide)
  have r9 : ¬ WD O (rf O (rf O x 8) 9) (rf O (rf O x 8) 1) := pND hT hx hO (l := [9, 8]) (p := [1, 8]) rfl rfl (by decide)
  have nm := pNM hT hx hO (m := [1]) (p := [1, 8]) rfl rfl (by decide)
  have k3 : ∀ {z : Int32}, z.toInt = 0 → ¬ z.toInt = 0 → False := fun a b => b a
  unfold F_Pl_leastRate
  refine forU (n := 4) (fun i I1 => lrN M w o σ i = -1 ∧ (I1 (rf O (rf O x 8) 1) 1).toInt = w ∧ (I1 (rf O (rf O x 8) 1) 2).toInt = o ∧ (∀ b, ¬ WD O (rf O (rf O x 8) 8) b → ¬ b = rf O (rf O x 8) 1 → I1 b = I b)) (by omega) ⟨rfl, h1, h2, fun _ _ _ => rfl⟩ ?_ ?_
  · intro rec y i I1 hy hi ⟨v1, v2, v3, v4⟩ kk
    unfold B_Pl_leastRate_2
    refine Wp.neg (by omega) (Wp_lb (fun I2 e2 => ?_))
    have f2 : ∀ b, ¬ WD O (rf O (rf O x 8) 8) b → ¬ b = rf O (rf O x 8) 1 → I2 b = I b := fun b b1 b2 => by rw [e2, up2_row _ _ b2]; exact v4 b b1 b2
    have D2 : DRs I2 O (rf O (rf O x 8) 9) σ := hD.fr2 (fun b hb => f2 b (fun q => sd b q hb) (fun q => r9 (by rw [← q]; exact hb)))
    have w0 : (I2 (rf O (rf O x 8) 1) 0).toInt = (i : Int) := by rw [e2, up2_self]; exact hy
    have w1 : (I2 (rf O (rf O x 8) 1) 1).toInt = w := by rw [e2, up2_ne _ _ (fun z => absurd z.2 (by decide))]; exact v2
    have w2 : (I2 (rf O (rf O x 8) 1) 2).toInt = o := by rw [e2, up2_ne _ _ (fun z => absurd z.2 (by decide))]; exact v3
    refine Wp.bd1 (c_copyFrom hN sp8 sd D2 hσ.2.2.2.1 (fun I3 g1 g2 => Wp.bd1 ?_))
    have hm3 : CMl I3 O (rf O x 1) M := hm.fr (by rw [g2 _ (fun q => (sp8.2.2 _ q).1 rfl), f2 _ (fun q => (sp8.2.2 _ q).1 rfl) nm.1]) (fun j hj => by rw [g2 _ (fun q => (sp8.2.2 _ q).2 j hj rfl), f2 _ (fun q => (sp8.2.2 _ q).2 j hj rfl) (nm.2 j hj)])
    have e3 : I3 (rf O (rf O x 8) 1) = I2 (rf O (rf O x 8) 1) := g2 _ ra
    refine c_runHour (p := 0) (r := (i : Int)) (w := w) (o := o) hN hM ⟨by omega, hw, ho⟩ hσ hm3 sp8 ra k_0 (by decide) (by decide) (by rw [e3]; exact w0) (by rw [e3]; exact w1) (by rw [e3]; exact w2) g1 (fun I4 d1 d2 d3 => Wp.bd1 ?_)
    have d5 : (I4 (rf O (rf O x 8) 8) 5).toInt = HH M (i : Int) w o σ 26 := d1.2.2.2.2.2.2.2.1
    have e23 : HH M (i : Int) w o σ 23 = σ 23 + (M.1 6 - drT M (i : Int) w o σ) := rfl
    have f4 : ∀ b, ¬ WD O (rf O (rf O x 8) 8) b → ¬ b = rf O (rf O x 8) 1 → I4 b = I b := fun b b1 b2 => by rw [d3 b b1, g2 b b1]; exact f2 b b1 b2
    have r4 : I4 (rf O (rf O x 8) 1) = I2 (rf O (rf O x 8) 1) := by rw [d3 _ ra, e3]
    unfold F_Dr_wentWell
    have bad : ¬ (HH M (i : Int) w o σ 26 = 0 ∧ HH M (i : Int) w o σ 23 = σ 23) → Wp (lb (y + Int32.ofInt 1) fun v2_50 => rec v2_50 I4) Q := fun c => Wp_lb (fun v ev => kk v I4 (by rw [ev]; exact inc1 hy (by omega)) ⟨lrN_n v1 c, by rw [r4]; exact w1, by rw [r4]; exact w2, f4⟩)
    by_cases c1 : HH M (i : Int) w o σ 26 = 0
    · refine Wp.pos (by omega) ?_
      by_cases c2 : HH M (i : Int) w o σ 23 = σ 23
      · refine Wp.pos (by omega) (Wp.ret (Wp.neg (by rw [k_1]; decide) (Wp.ret (hQ y I4 (by rw [lrN_f hi v1 ⟨c1, c2⟩]; exact hy) (by rw [r4]; exact w1) (by rw [r4]; exact w2) f4))))
      · exact Wp.neg (by omega) (Wp.ret (Wp.pos k_0 (bad (fun z => c2 z.2))))
    · exact Wp.neg (by omega) (Wp.ret (Wp.pos k_0 (bad (fun z => c1 z.1))))
  · intro rec y I1 hy ⟨v1, v2, v3, v4⟩
    unfold B_Pl_leastRate_2
    exact Wp.pos (by omega) (Wp.ret (hQ _ I1 (by unfold lrZ; rw [if_pos v1]; exact k_0) v2 v3 v4))
theorem c_keepRule {x4 : Int32} {n : Nat} {Q : WI → Prop} (hN : 8 ≤ N) (hM : MB M) (hw : 0 ≤ w ∧ w ≤ 3) (ho : 0 ≤ o ∧ o < M.1 8) (hσ : SI M σ) (h27 : σ 27 ≤ 240) (hT : TR P K O) (hx : x ∈ P ∧ K x = 8) (hO : OW Q0 P O x mo) (hm : CMl I O (rf O x 1) M) (hD : DRs I O (rf O x 3) σ) (h1 : (I (rf O x 4) 1).toInt = w) (h2 : (I (rf O x 4) 2).toInt = o) (hx4 : x4.toInt = (n : Int)) (hn : n ≤ 5)
    (hQ : ∀ I', DRs I' O (rf O (rf O x 8) 9) (rIt M w o n σ) → (∀ b, ¬ WD O (rf O (rf O x 8) 8) b → ¬ WD O (rf O (rf O x 8) 9) b → ¬ b = rf O (rf O x 8) 1 → I' b = I b) → Q I') : Wp (F_Pl_keepRule N O I J (rf O x 8) (rf O x 1) (rf O x 3) (rf O x 4) x4) Q := by
  have sp9 : SPd O (rf O (rf O x 8) 9) (rf O x 1) := pSP hT hx hO (l := [9, 8]) (m := [1]) rfl rfl (by decide)
  have sp8 : SPd O (rf O (rf O x 8) 8) (rf O x 1) := pSP hT hx hO (l := [8, 8]) (m := [1]) rfl rfl (by decide)
  have sd : SD O (rf O (rf O x 8) 8) (rf O (rf O x 8) 9) := pSD hT hx hO (l := [8, 8]) (l' := [9, 8]) rfl rfl (by decide)
  have sd3 : SD O (rf O (rf O x 8) 9) (rf O x 3) := pSD hT hx hO (l := [9, 8]) (l' := [3]) rfl rfl (by decide)
  have ra : ¬ WD O (rf O (rf O x 8) 8) (rf O (rf O x 8) 1) := pND hT hx hO (l := [8, 8]) (p := [1, 8]) rfl rfl (by decide)
  have r9 : ¬ WD O (rf O (rf O x 8) 9) (rf O (rf O x 8) 1) := pND hT hx hO (l := [9, 8]) (p := [1, 8]) rfl rfl (by decide)
  have r4 : ¬ WD O (rf O (rf O x 8) 9) (rf O x 4) := pND hT hx hO (l := [9, 8]) (p := [4]) rfl rfl (by decide)
  have n4 : ¬ rf O x 4 = rf O (rf O x 8) 1 := pNe hT hx hO (l := [4]) (l' := [1, 8]) rfl rfl (by decide)
  have nm := pNM hT hx hO (m := [1]) (p := [1, 8]) rfl rfl (by decide)
  unfold F_Pl_keepRule
  refine Wp.bd1 (c_copyFrom hN sp9 sd3 hD hσ.2.2.2.1 (fun I1 g1 g2 => Wp.bd1 (c_copyRow (n := 3) rfl (by decide) (by omega) n4 (fun I2 a1 a2 => ?_))))
  have e4 : I1 (rf O x 4) = I (rf O x 4) := g2 _ r4
  refine forU (n := n) (fun i I3 => DRs I3 O (rf O (rf O x 8) 9) (rIt M w o i σ) ∧ (I3 (rf O (rf O x 8) 1) 1).toInt = w ∧ (I3 (rf O (rf O x 8) 1) 2).toInt = o ∧ (∀ b, ¬ WD O (rf O (rf O x 8) 8) b → ¬ WD O (rf O (rf O x 8) 9) b → ¬ b = rf O (rf O x 8) 1 → I3 b = I b)) (by omega) ⟨g1.fr2 (fun b hb => a2 b (fun q => r9 (by rw [← q]; exact hb))), by rw [a1 1 (by decide), e4]; exact h1, by rw [a1 2 (by decide), e4]; exact h2, fun b b1 b2 b3 => by rw [a2 b b3]; exact g2 b b2⟩ ?_ ?_
  · intro rec y i I3 hy hi ⟨v1, v2, v3, v4⟩ kk
    obtain ⟨q1, q2⟩ := rIt_I (w := w) (o := o) hM hw ho hσ i (by omega)
    have hmf : ∀ I4 : WI, (∀ b, ¬ WD O (rf O (rf O x 8) 8) b → ¬ WD O (rf O (rf O x 8) 9) b → ¬ b = rf O (rf O x 8) 1 → I4 b = I b) → CMl I4 O (rf O x 1) M := fun I4 hf => hm.fr (hf _ (fun q => (sp8.2.2 _ q).1 rfl) (fun q => (sp9.2.2 _ q).1 rfl) nm.1) (fun j hj => hf _ (fun q => (sp8.2.2 _ q).2 j hj rfl) (fun q => (sp9.2.2 _ q).2 j hj rfl) (nm.2 j hj))
    unfold B_Pl_keepRule_19
    refine Wp.neg (by omega) (Wp.neg (by omega) (Wp.bd2 (c_leastRate hN hM hw ho q1 hT hx hO (hmf I3 v4) v1 v2 v3 (fun z I4 z1 z2 z3 z4 => Wp_lb (fun I5 e5 => Wp.bd1 ?_)))))
    have f5 : ∀ b, ¬ WD O (rf O (rf O x 8) 8) b → ¬ b = rf O (rf O x 8) 1 → I5 b = I3 b := fun b b1 b3 => by rw [e5, up2_row _ _ b3]; exact z4 b b1 b3
    refine c_runHour (p := 0) (r := lrZ M w o (rIt M w o i σ)) (w := w) (o := o) hN hM ⟨lrZ_b, hw, ho⟩ q1 (hmf I5 (fun b b1 b2 b3 => by rw [f5 b b1 b3]; exact v4 b b1 b2 b3)) sp9 r9 k_0 (by decide) (by decide) (by rw [e5, up2_self]; exact z1) (by rw [e5, up2_ne _ _ (fun q => absurd q.2 (by decide))]; exact z2) (by rw [e5, up2_ne _ _ (fun q => absurd q.2 (by decide))]; exact z3) (v1.fr2 (fun b hb => f5 b (fun q => sd b q hb) (fun q => r9 (by rw [← q]; exact hb)))) (fun I6 d1 d2 d3 => Wp_lb (fun v ev => kk v I6 (by rw [ev]; exact inc1 hy (by omega)) ⟨d1, ?_, ?_, fun b b1 b2 b3 => ?_⟩))
    · rw [d3 _ r9, e5, up2_ne _ _ (fun q => absurd q.2 (by decide))]; exact z2
    · rw [d3 _ r9, e5, up2_ne _ _ (fun q => absurd q.2 (by decide))]; exact z3
    · rw [d3 b b2, f5 b b1 b3]; exact v4 b b1 b2 b3
  · intro rec y I3 hy ⟨v1, v2, v3, v4⟩
    unfold B_Pl_keepRule_19
    exact Wp.pos (by omega) (Wp.ret (hQ I3 v1 v4))
end CRULE
