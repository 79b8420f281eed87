/-! marks, whole -/
def mkL (M : MM) (c : CO) (σ : Nat → Int) (hr sz : Nat) : Nat → (Nat → Int) × (Nat → Int) × Int
  | 0 => (fun k => if k = sz then 1000000 else 0, fun _ => 0, 0)
  | n + 1 => (ldH M (tj M c σ (hr + n + 1) 26) (c (hr + n)).2.1 (tj M c σ (hr + n + 1) 29) (mkL M c σ hr sz n).1 (mkL M c σ hr sz n).2.1, ldB M (tj M c σ (hr + n + 1) 26) (c (hr + n)).2.1 (tj M c σ (hr + n + 1) 25) (tj M c σ (hr + n + 1) 29) (mkL M c σ hr sz n).1 (mkL M c σ hr sz n).2.1, (mkL M c σ hr sz n).2.2 + ldS M (tj M c σ (hr + n + 1) 26) (c (hr + n)).2.1 (tj M c σ (hr + n + 1) 25) (tj M c σ (hr + n + 1) 29) (mkL M c σ hr sz n).1 (mkL M c σ hr sz n).2.1)
theorem tj_e {M : MM} {c : CO} {σ : Nat → Int} (hM : MB M) (hc : CV M c) (hσ : SI M σ) (h27 : σ 27 = 0) {n : Nat} (hn : n < 12) : (tj M c σ (n + 1) 26 = 0 ∨ tj M c σ (n + 1) 26 = 1) ∧ (0 ≤ tj M c σ (n + 1) 25 ∧ tj M c σ (n + 1) 25 ≤ 3) ∧ (0 ≤ tj M c σ (n + 1) 29 ∧ tj M c σ (n + 1) 29 ≤ 100) := by
  have i0 := tj_I hM hc hσ h27 n (by omega)
  have i1 := tj_I hM hc hσ h27 (n + 1) (by omega)
  exact ⟨i1.1.2.2.2.1, i1.1.2.2.2.2.2.2.1, (HH_b hM i0.1 (hc n hn)).2.2.1⟩
theorem mkL_I {M : MM} {c : CO} {σ : Nat → Int} {hr sz : Nat} (hM : MB M) (hc : CV M c) (hσ : SI M σ) (h27 : σ 27 = 0) (hz : sz < zN M) : ∀ n : Nat, hr + n ≤ 12 → MKb M (mkL M c σ hr sz n).1 (mkL M c σ hr sz n).2.1 ∧ 0 ≤ (mkL M c σ hr sz n).2.2 ∧ s5 (mkL M c σ hr sz n).1 + s5 (mkL M c σ hr sz n).2.1 + (mkL M c σ hr sz n).2.2 = 1000000 := by
  have m7 := hM.2.2.2.2.2.2.1
  have z5 : zN M ≤ 5 := by unfold zN; omega
  intro n
  induction n with
  | zero =>
    intro _
    have s0 : s5 (fun k => if k = sz then (1000000 : Int) else 0) = 1000000 := by
      have : sz = 0 ∨ sz = 1 ∨ sz = 2 ∨ sz = 3 ∨ sz = 4 := by omega
      rcases this with rfl | rfl | rfl | rfl | rfl <;> rfl
    refine ⟨⟨fun k hk => ⟨?_, Int.le_refl _⟩, ?_, fun k hk hk2 => ⟨if_neg (by omega), rfl⟩⟩, Int.le_refl _, ?_⟩
    · show 0 ≤ (if k = sz then (1000000 : Int) else 0)
      split <;> omega
    · show s5 (fun k => if k = sz then (1000000 : Int) else 0) + 0 ≤ 1000000
      rw [s0]; decide
    · show s5 (fun k => if k = sz then (1000000 : Int) else 0) + 0 + 0 = 1000000
      rw [s0]; rfl
  | succ n ih =>
    intro hn
    obtain ⟨i1, i2, i3⟩ := ih (by omega)
    have te := tj_e hM hc hσ h27 (n := hr + n) (by omega)
    have q := ld_MK (sd := tj M c σ (hr + n + 1) 26) hM (hc (hr + n) (by omega)) i1 te.2.2 te.2.1
    refine ⟨q.1, ?_, ?_⟩
    · show 0 ≤ (mkL M c σ hr sz n).2.2 + _
      have := q.2.1; omega
    · show s5 (ldH _ _ _ _ _ _) + s5 (ldB _ _ _ _ _ _ _) + ((mkL M c σ hr sz n).2.2 + ldS _ _ _ _ _ _ _) = 1000000
      have := q.2.2; omega
theorem MK_z {M : MM} {h b : Nat → Int} (hb : MKb M h b) (hs : s5 h + s5 b = 0) {k : Nat} (hk : k < 5) : h k = 0 ∧ b k = 0 := by
  have q := fun j hj => (hb.1 j hj).1
  have q' := fun j hj => (hb.1 j hj).2
  have a1 := s5_le q hk
  have a2 := s5_le q' hk
  have a3 := q k hk
  have a4 := q' k hk
  have a5 := Int.le_trans (q 0 (by decide)) (s5_le q (show 0 < 5 by decide))
  have a6 := Int.le_trans (q' 0 (by decide)) (s5_le q' (show 0 < 5 by decide))
  omega
theorem ld_z {M : MM} {r w o e sd tears : Int} (hM : MB M) (hs : ST3 M r w o) (he : 0 ≤ e ∧ e ≤ 100) (tb : 0 ≤ tears ∧ tears ≤ 3) : (∀ k, k < 5 → ldH M sd w e (fun _ => 0) (fun _ => 0) k = 0 ∧ ldB M sd w tears e (fun _ => 0) (fun _ => 0) k = 0) ∧ ldS M sd w tears e (fun _ => 0) (fun _ => 0) = 0 := by
  have b0 : MKb M (fun _ => 0) (fun _ => 0) := ⟨fun _ _ => ⟨Int.le_refl _, Int.le_refl _⟩, by decide, fun _ _ _ => ⟨rfl, rfl⟩⟩
  obtain ⟨q1, q2, q3⟩ := ld_MK (sd := sd) hM hs b0 he tb
  have q4 : s5 (ldH M sd w e (fun _ => 0) (fun _ => 0)) + s5 (ldB M sd w tears e (fun _ => 0) (fun _ => 0)) + ldS M sd w tears e (fun _ => 0) (fun _ => 0) = 0 := q3
  have u := fun j hj => (q1.1 j hj).1
  have u' := fun j hj => (q1.1 j hj).2
  have a5 := Int.le_trans (u 0 (by decide)) (s5_le u (show 0 < 5 by decide))
  have a6 := Int.le_trans (u' 0 (by decide)) (s5_le u' (show 0 < 5 by decide))
  exact ⟨fun k hk => MK_z q1 (by omega) hk, by omega⟩
def mq (s : Int) (x1 x2 x3 x4 x5 x6 : Int32) (v : Int) (z : Int32) : Prop := ((¬ (0 ≤ x4.toInt ∧ x4.toInt < s) ∨ ¬ (0 ≤ x5.toInt ∧ x5.toInt ≤ 11) ∨ ¬ (0 ≤ x6.toInt ∧ x6.toInt ≤ 11) ∨ ¬ ((0 ≤ x1.toInt ∧ x1.toInt ≤ 3) ∧ (0 ≤ x2.toInt ∧ x2.toInt ≤ 4) ∧ 0 ≤ x3.toInt ∧ x3.toInt ≤ 4) ∨ x6.toInt < x5.toInt) ∧ z.toInt = -1) ∨ ((0 ≤ x4.toInt ∧ x4.toInt < s) ∧ (0 ≤ x5.toInt ∧ x5.toInt ≤ 11) ∧ (0 ≤ x6.toInt ∧ x6.toInt ≤ 11) ∧ ((0 ≤ x1.toInt ∧ x1.toInt ≤ 3) ∧ (0 ≤ x2.toInt ∧ x2.toInt ≤ 4) ∧ 0 ≤ x3.toInt ∧ x3.toInt ≤ 4) ∧ ¬ x6.toInt < x5.toInt ∧ z.toInt = v)
def mv (M : MM) (c : CO) (x1 x2 x3 x4 x5 x6 : Int32) : Int := (mkL M c (bgS M x1.toInt.toNat x2.toInt.toNat x3.toInt.toNat) x5.toInt.toNat x4.toInt.toNat (x6.toInt.toNat + 1 - x5.toInt.toNat)).2.2
def SMk (O : WO) (a : Nat) : Prop := SPd O (rf O a 11) (rf O a 1) ∧ ¬ WD O (rf O a 11) (rf O a 5) ∧ (∀ j, j < 3 → ¬ WD O (rf O a 11) (rf O (rf O a 10) j) ∧ ¬ rf O a 5 = rf O (rf O a 10) j ∧ ¬ rf O a 1 = rf O (rf O a 10) j ∧ ∀ i, i < 5 → ¬ rf O (rf O a 1) (10 + i) = rf O (rf O a 10) j) ∧ ¬ rf O (rf O a 10) 0 = rf O (rf O a 10) 1 ∧ ¬ rf O (rf O a 10) 0 = rf O (rf O a 10) 2 ∧ ¬ rf O (rf O a 10) 1 = rf O (rf O a 10) 2
section MARKS
variable {N : Nat} {O : WO} {I : WI} {J : WJ} {M : MM} {c : CO} {a : Nat}
theorem c_isSize {x : Int32} (hb : (I (rf O a 1) 7).toInt ≤ 5) : F_RM_isSize N O I J a x = some (bI (decide (0 ≤ x.toInt ∧ x.toInt < (I (rf O a 1) 7).toInt))) := by
  unfold F_RM_isSize bI
  by_cases q : x.toInt < 0
  · rw [if_pos q, if_neg (by simp; omega)]
  rw [if_neg q]
  by_cases q2 : (I (rf O a 1) 7).toInt ≤ x.toInt
  · rw [if_pos q2, if_neg (by simp; omega)]
  rw [if_neg q2, if_neg (by omega), if_pos (by simp; omega)]
set_option maxHeartbeats 4000000 in
theorem c_marksP {x1 x2 x3 x4 x5 x6 : Int32} (hN : 20 ≤ N) (hb : 0 ≤ (I (rf O a 1) 7).toInt ∧ (I (rf O a 1) 7).toInt ≤ 5) (s : SMk O a) (hm : ¬ (I (rf O a 1) 7).toInt = 0 → MB M ∧ CV M c ∧ CMl I O (rf O a 1) M ∧ CCr I (rf O a 5) c) : Pp (F_RM_marks N O I J a x1 x2 x3 x4 x5 x6) (fun q => mq (I (rf O a 1) 7).toInt x1 x2 x3 x4 x5 x6 (mv M c x1 x2 x3 x4 x5 x6) q.1) := by
  have rj : ∀ w' : Int32, (¬ (0 ≤ x4.toInt ∧ x4.toInt < (I (rf O a 1) 7).toInt) ∨ ¬ (0 ≤ x5.toInt ∧ x5.toInt ≤ 11) ∨ ¬ (0 ≤ x6.toInt ∧ x6.toInt ≤ 11) ∨ ¬ ((0 ≤ x1.toInt ∧ x1.toInt ≤ 3) ∧ (0 ≤ x2.toInt ∧ x2.toInt ≤ 4) ∧ 0 ≤ x3.toInt ∧ x3.toInt ≤ 4) ∨ x6.toInt < x5.toInt) → Pp (bd2 (F_RM_refuse N O I J a w') fun z I2 => some (z, I2)) (fun q => mq (I (rf O a 1) 7).toInt x1 x2 x3 x4 x5 x6 (mv M c x1 x2 x3 x4 x5 x6) q.1) := fun w' hc => by
    unfold F_RM_refuse
    exact Ppc2 (Pp_lb (fun I1 e1 => Pp.ret (Pp.ret (Or.inl ⟨hc, ofI (by decide)⟩))))
  unfold F_RM_marks
  rw [c_isSize hb.2, c_isHour, c_isHour, c_isStart]
  refine Ppc1 (Pp.ret (Pp_jq (fun k => (¬ (0 ≤ x4.toInt ∧ x4.toInt < (I (rf O a 1) 7).toInt) ∨ ¬ (0 ≤ x5.toInt ∧ x5.toInt ≤ 11) ∨ ¬ (0 ≤ x6.toInt ∧ x6.toInt ≤ 11) ∨ ¬ ((0 ≤ x1.toInt ∧ x1.toInt ≤ 3) ∧ (0 ≤ x2.toInt ∧ x2.toInt ≤ 4) ∧ 0 ≤ x3.toInt ∧ x3.toInt ≤ 4) ∨ x6.toInt < x5.toInt) → Pp k (fun q => mq (I (rf O a 1) 7).toInt x1 x2 x3 x4 x5 x6 (mv M c x1 x2 x3 x4 x5 x6) q.1)) (rj _) (fun k25 hk => ?_)))
  refine Pp.ite (fun q => hk (Or.inl (bI_d0.mp q))) (fun q4 => Ppc1 (Pp.ret (Pp.ite (fun q => hk (Or.inr (Or.inl (bI_d0.mp q)))) (fun q5 => Ppc1 (Pp.ret (Pp.ite (fun q => hk (Or.inr (Or.inr (Or.inl (bI_d0.mp q))))) (fun q6 => Ppc1 (Pp.ret ?_))))))))
  refine Pp_jq (fun k => (¬ (0 ≤ x4.toInt ∧ x4.toInt < (I (rf O a 1) 7).toInt) ∨ ¬ (0 ≤ x5.toInt ∧ x5.toInt ≤ 11) ∨ ¬ (0 ≤ x6.toInt ∧ x6.toInt ≤ 11) ∨ ¬ ((0 ≤ x1.toInt ∧ x1.toInt ≤ 3) ∧ (0 ≤ x2.toInt ∧ x2.toInt ≤ 4) ∧ 0 ≤ x3.toInt ∧ x3.toInt ≤ 4) ∨ x6.toInt < x5.toInt) → Pp k (fun q => mq (I (rf O a 1) 7).toInt x1 x2 x3 x4 x5 x6 (mv M c x1 x2 x3 x4 x5 x6) q.1)) (rj _) (fun k47 hk2 => ?_)
  refine Pp.ite (fun q => hk2 (Or.inr (Or.inr (Or.inr (Or.inl (bI_d0.mp q)))))) (fun q1 => Pp.ite (fun hle => ?_) (fun hlt => hk2 (Or.inr (Or.inr (Or.inr (Or.inr (by omega)))))))
  clear hk hk2
  have h4 := Classical.not_not.mp (fun z => q4 (bI_d0.mpr z))
  have h5 := Classical.not_not.mp (fun z => q5 (bI_d0.mpr z))
  have h6 := Classical.not_not.mp (fun z => q6 (bI_d0.mpr z))
  have h1 := Classical.not_not.mp (fun z => q1 (bI_d0.mpr z))
  obtain ⟨m1, m2, m3, m4⟩ := hm (by omega)
  obtain ⟨s1, s2, s3, s4, s5', s6⟩ := s
  have m37 := m3.1 7 (by decide)
  have ez : ((zN M : Nat) : Int) = M.1 7 := by have := m1.2.2.2.2.2.2.1; unfold zN; omega
  have est : (((x1 * Int32.ofInt 5) + x2) * Int32.ofInt 5 + x3).toInt = ((25 * x1.toInt.toNat + 5 * x2.toInt.toNat + x3.toInt.toNat : Nat) : Int) := by
    rw [t_add (t_mul (t_add (t_mul rfl (ofI (n := 5) (by decide)) (by omega)) rfl (by omega)) (ofI (n := 5) (by decide)) (by omega)) rfl (by omega)]; omega
  unfold F_RM_startOf
  refine Ppc1 (Pp.ret (Wp.pp (Wp.bd1 (c_beginStart (t := x1.toInt.toNat) (l := x2.toInt.toNat) (f := x3.toInt.toNat) (by omega) m1 m3 s1 est (by omega) (by omega) (by omega) (fun I8 a1 a2 => Wp.bd1 ?_)))))
  unfold F_Ld_makeEmpty
  refine Wp.bd1 (c_wipe5 (by omega) (fun I9 b1 b2 => Wp.bd1 (c_wipe5 (by omega) (fun I10 b3 b4 => Wp.bd1 (c_wipe5 (by omega) (fun I11 b5 b6 => Wp.ret ?_))))))
  have f11 : ∀ b, ¬ b = rf O (rf O a 10) 0 → ¬ b = rf O (rf O a 10) 1 → ¬ b = rf O (rf O a 10) 2 → I11 b = I8 b := fun b c1 c2 c3 => by rw [b6 b c3, b4 b c2, b2 b c1]
  have H0 : ∀ k, k < 5 → (I11 (rf O (rf O a 10) 0) k).toInt = 0 := fun k hk => by rw [b6 _ s5', b4 _ s4]; exact b1 k hk
  have B0 : ∀ k, k < 5 → (I11 (rf O (rf O a 10) 1) k).toInt = 0 := fun k hk => by rw [b6 _ s6]; exact b3 k hk
  have wne : ∀ b, WD O (rf O a 11) b → ∀ j, j < 3 → ¬ b = rf O (rf O a 10) j := fun b hb j hj z => (s3 j hj).1 (by rw [← z]; exact hb)
  have D11 : DRs I11 O (rf O a 11) (bgS M x1.toInt.toNat x2.toInt.toNat x3.toInt.toNat) := a1.fr2 (fun b hb => f11 b (wne b hb 0 (by decide)) (wne b hb 1 (by decide)) (wne b hb 2 (by decide)))
  have hS : SI M (bgS M x1.toInt.toNat x2.toInt.toNat x3.toInt.toNat) := bgS_SI m1 (by omega) (by omega) (by omega)
  have h27 : bgS M (x1.toInt.toNat : Int) (x2.toInt.toNat : Int) (x3.toInt.toNat : Int) 27 = 0 := bgS_z (by decide) (by decide) (by decide) (by decide)
  have fO : ∀ b, ¬ WD O (rf O a 11) b → ¬ b = rf O (rf O a 10) 0 → ¬ b = rf O (rf O a 10) 1 → ¬ b = rf O (rf O a 10) 2 → I11 b = I b := fun b c0 c1 c2 c3 => by rw [f11 b c1 c2 c3]; exact a2 b c0
  clear b1 b2 b3 b4 b5 b6 a1 a2
  show Wp _ (fun q : Int32 × WI => mq (I (rf O a 1) 7).toInt x1 x2 x3 x4 x5 x6 (mv M c x1 x2 x3 x4 x5 x6) q.1)
  unfold mv
  generalize hσ : bgS M (x1.toInt.toNat : Int) (x2.toInt.toNat : Int) (x3.toInt.toNat : Int) = σ at D11 hS h27
  generalize hhr : x5.toInt.toNat = hr
  generalize hsz : x4.toInt.toNat = sz
  have LI := fun n hn => mkL_I (sz := sz) (hr := hr) m1 m2 hS h27 (by omega) n hn
  refine forD (n := x6.toInt.toNat + 1) (fun i y I1 => DRs I1 O (rf O a 11) (tj M c σ i) ∧ (if i ≤ hr then (y.toInt = 0 ∧ (∀ k, k < 5 → (I1 (rf O (rf O a 10) 0) k).toInt = 0) ∧ (∀ k, k < 5 → (I1 (rf O (rf O a 10) 1) k).toInt = 0)) else (y.toInt = (mkL M c σ hr sz (i - hr)).2.2 ∧ (∀ k, k < 5 → (I1 (rf O (rf O a 10) 0) k).toInt = (mkL M c σ hr sz (i - hr)).1 k) ∧ (∀ k, k < 5 → (I1 (rf O (rf O a 10) 1) k).toInt = (mkL M c σ hr sz (i - hr)).2.1 k))) ∧ (∀ b, ¬ WD O (rf O a 11) b → ¬ b = rf O (rf O a 10) 0 → ¬ b = rf O (rf O a 10) 1 → ¬ b = rf O (rf O a 10) 2 → I1 b = I b)) (by omega) ⟨D11, by rw [if_pos (Nat.zero_le _)]; exact ⟨k_0, H0, B0⟩, fO⟩ ?_ ?_
  · intro rec y x i I1 hx hi ⟨v1, v2, v3⟩ kk
    have tI := tj_I m1 m2 hS h27 i (by omega)
    have te := tj_e m1 m2 hS h27 (n := i) (by omega)
    have ST := m2 i (by omega)
    have n5 := fun j hj => (s3 j hj).2.1
    have cI : ∀ I2 : WI, (∀ b, ¬ WD O (rf O a 11) b → ¬ b = rf O (rf O a 10) 0 → ¬ b = rf O (rf O a 10) 1 → ¬ b = rf O (rf O a 10) 2 → I2 b = I b) → CMl I2 O (rf O a 1) M ∧ CCr I2 (rf O a 5) c := fun I2 h2 => ⟨m3.fr (h2 _ (fun z => (s1.2.2 _ z).1 rfl) (s3 0 (by decide)).2.2.1 (s3 1 (by decide)).2.2.1 (s3 2 (by decide)).2.2.1) (fun j hj => h2 _ (fun z => (s1.2.2 _ z).2 j hj rfl) ((s3 0 (by decide)).2.2.2 j hj) ((s3 1 (by decide)).2.2.2 j hj) ((s3 2 (by decide)).2.2.2 j hj)), fun h hh => by rw [h2 _ s2 (n5 0 (by decide)) (n5 1 (by decide)) (n5 2 (by decide))]; exact m4 h hh⟩
    have e3 : (x * Int32.ofInt 3).toInt = ((3 * i : Nat) : Int) := by rw [t_mul hx (ofI (n := 3) (by decide)) (by omega)]; omega
    have e31 : (x * Int32.ofInt 3 + Int32.ofInt 1).toInt = ((3 * i + 1 : Nat) : Int) := by rw [t_add e3 k_1 (by omega)]; omega
    -- the hour, and the marks behind it
    have go : ∀ (I2 : WI) (h b : Nat → Int) (p : Int), MKb M h b → y.toInt = p → 0 ≤ p → p ≤ 1000000 → (∀ k, k < 5 → (I2 (rf O (rf O a 10) 0) k).toInt = h k) → (∀ k, k < 5 → (I2 (rf O (rf O a 10) 1) k).toInt = b k) → DRs I2 O (rf O a 11) (tj M c σ i) → (∀ d, ¬ WD O (rf O a 11) d → ¬ d = rf O (rf O a 10) 0 → ¬ d = rf O (rf O a 10) 1 → ¬ d = rf O (rf O a 10) 2 → I2 d = I d) → (∀ (u v : Int32) (I4 : WI), v.toInt = ((i + 1 : Nat) : Int) → u.toInt = p + ldS M (tj M c σ (i + 1) 26) (c i).2.1 (tj M c σ (i + 1) 25) (tj M c σ (i + 1) 29) h b → (∀ k, k < 5 → (I4 (rf O (rf O a 10) 0) k).toInt = ldH M (tj M c σ (i + 1) 26) (c i).2.1 (tj M c σ (i + 1) 29) h b k) → (∀ k, k < 5 → (I4 (rf O (rf O a 10) 1) k).toInt = ldB M (tj M c σ (i + 1) 26) (c i).2.1 (tj M c σ (i + 1) 25) (tj M c σ (i + 1) 29) h b k) → DRs I4 O (rf O a 11) (tj M c σ (i + 1)) → (∀ d, ¬ WD O (rf O a 11) d → ¬ d = rf O (rf O a 10) 0 → ¬ d = rf O (rf O a 10) 1 → ¬ d = rf O (rf O a 10) 2 → I4 d = I d) → Wp (rec u v I4) (fun q => mq (I (rf O a 1) 7).toInt x1 x2 x3 x4 x5 x6 (mkL M c σ hr sz (x6.toInt.toNat + 1 - hr)).2.2 q.1)) → Wp (bd1 (F_Dr_runHour N O I2 J (rf O a 11) (rf O a 1) (rf O a 5) 19 (x * Int32.ofInt 3)) fun I11 => if 0 ≤ (x * Int32.ofInt 3 + Int32.ofInt 1).toInt ∧ (x * Int32.ofInt 3 + Int32.ofInt 1).toInt < 36 then (bd2 (F_RM_leadMarks N O I11 J a (I11 (rf O a 5) (x * Int32.ofInt 3 + Int32.ofInt 1).toInt.toNat)) fun z_143 I12 => lb (y + z_143) fun v7 => lb (x + Int32.ofInt 1) fun v8 => rec v7 v8 I12) else none) (fun q => mq (I (rf O a 1) 7).toInt x1 x2 x3 x4 x5 x6 (mkL M c σ hr sz (x6.toInt.toNat + 1 - hr)).2.2 q.1) := by
      intro I2 h b p mk hp p0 p1 hA hB hD hF kk2
      obtain ⟨c1, c2⟩ := cI I2 hF
      have cc := c2 i (by omega)
      refine Wp.bd1 (c_runHour (p := 3 * i) (by omega) m1 ST tI.1 c1 s1 s2 e3 (by show 3 * i + 3 ≤ 36; omega) (by decide) cc.1 cc.2.1 cc.2.2 hD (fun I3 d1 d2 d3 => ?_))
      have d1' : DRs I3 O (rf O a 11) (tj M c σ (i + 1)) := d1
      have F3 : ∀ d, ¬ WD O (rf O a 11) d → ¬ d = rf O (rf O a 10) 0 → ¬ d = rf O (rf O a 10) 1 → ¬ d = rf O (rf O a 10) 2 → I3 d = I d := fun d x0 y0 y1 y2 => by rw [d3 d x0]; exact hF d x0 y0 y1 y2
      obtain ⟨c3, c4⟩ := cI I3 F3
      have cc3 := c4 i (by omega)
      refine Wp.pos (by omega) ?_
      rw [tn_i e31]
      have lk := ld_MK (sd := tj M c σ (i + 1) 26) m1 ST mk te.2.2 te.2.1
      have mkl := mk.2.1
      have u0 := fun j hj => (lk.1.1 j hj).1
      have u0' := fun j hj => (lk.1.1 j hj).2
      have a5 := Int.le_trans (u0 0 (by decide)) (s5_le u0 (show 0 < 5 by decide))
      have a6 := Int.le_trans (u0' 0 (by decide)) (s5_le u0' (show 0 < 5 by decide))
      refine Wp.bd2 (c_leadMarks (h := h) (b := b) (by omega) m1 ST c3 s4 s5' s6 (fun j hj => ⟨(s3 j hj).2.2.1, (s3 j hj).2.2.2⟩) (fun j hj z => (s3 j hj).1 (by rw [← z]; exact Or.inl rfl)) (fun k hk => by rw [d3 _ (s3 0 (by decide)).1]; exact hA k hk) (fun k hk => by rw [d3 _ (s3 1 (by decide)).1]; exact hB k hk) mk d1'.2.2.2.2.2.2.2.1 te.1 d1'.2.2.2.2.2.2.2.2.2.2.1 te.2.2 d1'.2.2.2.2.2.2.1 te.2.1 cc3.2.1 (fun z I4 l1 l2 l3 l4 => ?_))
      refine Wp.lb (Wp.lb (kk2 _ _ I4 (inc1 hx (by omega)) ?_ l2 l3 (d1'.fr2 (fun d hd => l4 d (wne d hd 0 (by decide)) (wne d hd 1 (by decide)) (wne d hd 2 (by decide)))) (fun d x0 y0 y1 y2 => by rw [l4 d y0 y1 y2]; exact F3 d x0 y0 y1 y2)))
      exact t_add hp l1 (by have := lk.2.1; have := lk.2.2; omega)
    unfold B_RM_marks_83
    refine Wp.neg (by omega) (Wp.jn ?_)
    by_cases c1 : i < hr
    · rw [if_pos (by omega)] at v2
      refine Wp.neg (by omega) (go I1 (fun _ => 0) (fun _ => 0) 0 ⟨fun _ _ => ⟨Int.le_refl _, Int.le_refl _⟩, by decide, fun _ _ _ => ⟨rfl, rfl⟩⟩ v2.1 (Int.le_refl _) (by decide) v2.2.1 v2.2.2 v1 v3 (fun u v I4 g1 g2 g3 g4 g5 g6 => kk u v I4 g1 ⟨g5, ?_, g6⟩))
      have lz := ld_z (sd := tj M c σ (i + 1) 26) m1 ST te.2.2 te.2.1
      rw [if_pos (by omega)]
      exact ⟨by rw [g2, lz.2]; rfl, fun k hk => by rw [g3 k hk]; exact (lz.1 k hk).1, fun k hk => by rw [g4 k hk]; exact (lz.1 k hk).2⟩
    · by_cases c2 : i = hr
      · rw [if_pos (by omega)] at v2
        have sz5 : sz < 5 := by omega
        have L0 := LI 0 (by omega)
        refine Wp.pos (by omega) (Wp.pos (by omega) (Wp_lb (fun I2 e2 => ?_)))
        rw [hsz] at e2
        have f2 : ∀ d, ¬ d = rf O (rf O a 10) 0 → I2 d = I1 d := fun d hd => by rw [e2, up2_row _ _ hd]
        refine go I2 (mkL M c σ hr sz 0).1 (mkL M c σ hr sz 0).2.1 0 L0.1 v2.1 (Int.le_refl _) (by decide) (fun k hk => ?_) (fun k hk => by rw [f2 _ (fun z => s4 z.symm)]; exact v2.2.2 k hk) (v1.fr2 (fun d hd => f2 d (wne d hd 0 (by decide)))) (fun d x0 y0 y1 y2 => by rw [f2 d y0]; exact v3 d x0 y0 y1 y2) (fun u v I4 g1 g2 g3 g4 g5 g6 => kk u v I4 g1 ⟨g5, ?_, g6⟩)
        · show _ = (if k = sz then (1000000 : Int) else 0)
          rw [e2]
          by_cases e : k = sz
          · rw [if_pos e, e, up2_self]; exact ofI (by decide)
          · rw [if_neg e, up2_ne _ _ (fun z => e z.2)]; exact v2.2.1 k hk
        · rw [if_neg (by omega), show i + 1 - hr = 0 + 1 by omega]
          subst c2
          exact ⟨g2, g3, g4⟩
      · rw [if_neg (by omega)] at v2
        have L0 := LI (i - hr) (by omega)
        have u0 := fun j hj => (L0.1.1 j hj).1
        have u0' := fun j hj => (L0.1.1 j hj).2
        have a5 := Int.le_trans (u0 0 (by decide)) (s5_le u0 (show 0 < 5 by decide))
        have a6 := Int.le_trans (u0' 0 (by decide)) (s5_le u0' (show 0 < 5 by decide))
        refine Wp.neg (by omega) (go I1 (mkL M c σ hr sz (i - hr)).1 (mkL M c σ hr sz (i - hr)).2.1 (mkL M c σ hr sz (i - hr)).2.2 L0.1 v2.1 L0.2.1 (by have := L0.2.2; omega) v2.2.1 v2.2.2 v1 v3 (fun u v I4 g1 g2 g3 g4 g5 g6 => kk u v I4 g1 ⟨g5, ?_, g6⟩))
        rw [if_neg (by omega), show i + 1 - hr = (i - hr) + 1 by omega]
        have ei : hr + (i - hr) = i := by omega
        unfold mkL
        rw [ei]
        exact ⟨g2, g3, g4⟩
  · intro rec y x I1 hx ⟨v1, v2, v3⟩
    unfold B_RM_marks_83
    rw [if_neg (by omega)] at v2
    refine Wp.pos (by omega) (Wp.bd2 ?_)
    unfold F_RM_accept
    exact Wp_lb (fun I2 e2 => Wp.ret (Wp.ret (Or.inr ⟨h4, h5, h6, h1, by omega, v2.1⟩)))
set_option maxHeartbeats 4000000 in
theorem r_marksP {x1 x2 x3 x4 x5 x6 : Int32} (hN : 40 ≤ N) (hb : ¬ O a 3 = none → 0 ≤ (I (rf O a 3) 8).toInt ∧ (I (rf O a 3) 8).toInt ≤ 5) (nAB : ¬ rf O a 35 = rf O a 36) (n20 : ¬ rf O a 20 = rf O a 17) (n21 : ¬ rf O a 21 = rf O a 17) (n22 : ¬ rf O a 22 = rf O a 17) (na : ¬ rf O a 20 = a ∧ ¬ rf O a 21 = a ∧ ¬ rf O a 22 = a) (hm : ¬ O a 3 = none → MB M ∧ CV M c ∧ RMl I O (rf O a 3) M ∧ PCr I O a c ∧ SR O (rf O a 3) (rf O a 17) ∧ SR O (rf O a 3) a) : Pp (F_Mo_marks N O I J a x1 x2 x3 x4 x5 x6) (fun q => mq (if O a 3 = none then 0 else (I (rf O a 3) 8).toInt) x1 x2 x3 x4 x5 x6 (mv M c x1 x2 x3 x4 x5 x6) q.1) := by
  unfold F_Mo_marks
  refine Pp_lb (fun I1 e1 => ?_)
  have f1 : ∀ b, ¬ b = a → I1 b = I b := fun b hb => by rw [e1, up2_row _ _ hb]
  have m8 : ¬ O a 3 = none → I1 (rf O a 3) = I (rf O a 3) := fun q => f1 _ (hm q).2.2.2.2.2.1
  generalize hs : (if O a 3 = none then (0 : Int) else (I (rf O a 3) 8).toInt) = s
  have rj : ∀ w' : Int32, (¬ (0 ≤ x4.toInt ∧ x4.toInt < s) ∨ ¬ (0 ≤ x5.toInt ∧ x5.toInt ≤ 11) ∨ ¬ (0 ≤ x6.toInt ∧ x6.toInt ≤ 11) ∨ ¬ ((0 ≤ x1.toInt ∧ x1.toInt ≤ 3) ∧ (0 ≤ x2.toInt ∧ x2.toInt ≤ 4) ∧ 0 ≤ x3.toInt ∧ x3.toInt ≤ 4) ∨ x6.toInt < x5.toInt) → Pp (bd2 (F_Mo_refused N O I1 J a w') fun z I2 => some (z, I2, J)) (fun q => mq s x1 x2 x3 x4 x5 x6 (mv M c x1 x2 x3 x4 x5 x6) q.1) := fun w' hc => by
    unfold F_Mo_refused
    exact Ppc2 (Pp_lb (fun I2 e2 => Pp_lb (fun I3 e3 => Pp.ret (Pp.ret (Or.inl ⟨hc, ofI (by decide)⟩)))))
  have k11 : (Int32.ofInt 11).toInt = 11 := ofI (by decide)
  have zs : ∃ z, F_Mo_isSize N O I1 J a x4 = some z ∧ (z.toInt = 0 ↔ ¬ (0 ≤ x4.toInt ∧ x4.toInt < s)) := by
    unfold F_Mo_isSize
    by_cases c0 : O a 3 = none
    · rw [if_pos c0] at hs ⊢
      exact ⟨_, rfl, fun _ => by omega, fun _ => k_0⟩
    · rw [if_neg c0] at hs ⊢
      rw [m8 c0]
      by_cases q : x4.toInt < 0
      · rw [if_pos q]; exact ⟨_, rfl, fun _ => by omega, fun _ => k_0⟩
      rw [if_neg q]
      by_cases q2 : (I (rf O a 3) 8).toInt ≤ x4.toInt
      · rw [if_pos q2]; exact ⟨_, rfl, fun _ => by omega, fun _ => k_0⟩
      rw [if_neg q2]; exact ⟨_, rfl, fun h => absurd h (by rw [k_1]; decide), fun h => by exfalso; omega⟩
  obtain ⟨z8, w8, h8⟩ := zs
  rw [w8, r_in, r_in, r_isStart, k_0, k11]
  refine Ppc1 (Pp.ret (Pp_jq (fun k => (¬ (0 ≤ x4.toInt ∧ x4.toInt < s) ∨ ¬ (0 ≤ x5.toInt ∧ x5.toInt ≤ 11) ∨ ¬ (0 ≤ x6.toInt ∧ x6.toInt ≤ 11) ∨ ¬ ((0 ≤ x1.toInt ∧ x1.toInt ≤ 3) ∧ (0 ≤ x2.toInt ∧ x2.toInt ≤ 4) ∧ 0 ≤ x3.toInt ∧ x3.toInt ≤ 4) ∨ x6.toInt < x5.toInt) → Pp k (fun q => mq s x1 x2 x3 x4 x5 x6 (mv M c x1 x2 x3 x4 x5 x6) q.1)) (rj _) (fun k25 hk => ?_)))
  refine Pp.ite (fun q => hk (Or.inl (h8.mp q))) (fun q4 => Ppc1 (Pp.ret (Pp.ite (fun q => hk (Or.inr (Or.inl (bI_d0.mp q)))) (fun q5 => Ppc1 (Pp.ret (Pp.ite (fun q => hk (Or.inr (Or.inr (Or.inl (bI_d0.mp q))))) (fun q6 => Ppc1 (Pp.ret ?_))))))))
  refine Pp_jq (fun k => (¬ (0 ≤ x4.toInt ∧ x4.toInt < s) ∨ ¬ (0 ≤ x5.toInt ∧ x5.toInt ≤ 11) ∨ ¬ (0 ≤ x6.toInt ∧ x6.toInt ≤ 11) ∨ ¬ ((0 ≤ x1.toInt ∧ x1.toInt ≤ 3) ∧ (0 ≤ x2.toInt ∧ x2.toInt ≤ 4) ∧ 0 ≤ x3.toInt ∧ x3.toInt ≤ 4) ∨ x6.toInt < x5.toInt) → Pp k (fun q => mq s x1 x2 x3 x4 x5 x6 (mv M c x1 x2 x3 x4 x5 x6) q.1)) (rj _) (fun k47 hk2 => ?_)
  refine Pp.ite (fun q => hk2 (Or.inr (Or.inr (Or.inr (Or.inl (bI_d0.mp q)))))) (fun q1 => Pp.ite (fun hle => ?_) (fun hlt => hk2 (Or.inr (Or.inr (Or.inr (Or.inr (by omega)))))))
  clear hk hk2
  have h4 := Classical.not_not.mp (fun z => q4 (h8.mpr z))
  have h5 := Classical.not_not.mp (fun z => q5 (bI_d0.mpr z))
  have h6 := Classical.not_not.mp (fun z => q6 (bI_d0.mpr z))
  have h1 := Classical.not_not.mp (fun z => q1 (bI_d0.mpr z))
  have c0 : ¬ O a 3 = none := fun z => by rw [if_pos z] at hs; omega
  rw [if_neg c0] at hs
  obtain ⟨m1, m2, m3, m4, m5, m6⟩ := hm c0
  have b8 := hb c0
  have m38 := m3.1.2.2.2.2.2.2.2.2.1
  have ez : ((zN M : Nat) : Int) = M.1 7 := by have := m1.2.2.2.2.2.2.1; unfold zN; omega
  refine Wp.pp (Wp.bd1 (r_begins (t := x1.toInt.toNat) (l := x2.toInt.toNat) (f := x3.toInt.toNat) (by omega) m1 (m3.fr m6 f1) m5 (by omega) (by omega) (by omega) (by omega) (by omega) (by omega) (fun I8 a1 a2 => ?_)))
  have hS : SI M (bgS M x1.toInt.toNat x2.toInt.toNat x3.toInt.toNat) := bgS_SI m1 (by omega) (by omega) (by omega)
  have h27 : bgS M (x1.toInt.toNat : Int) (x2.toInt.toNat : Int) (x3.toInt.toNat : Int) 27 = 0 := bgS_z (by decide) (by decide) (by decide) (by decide)
  unfold mv
  generalize hσ : bgS M (x1.toInt.toNat : Int) (x2.toInt.toNat : Int) (x3.toInt.toNat : Int) = σ at a1 hS h27
  generalize hhr : x5.toInt.toNat = hr
  generalize hsz : x4.toInt.toNat = sz
  have LI := fun n hn => mkL_I (sz := sz) (hr := hr) m1 m2 hS h27 (by omega) n hn
  refine forUg (n := 5) (fun i J1 => (∀ k, k < i → (J1 (rf O a 35) k).toInt = if k = sz then 1000000 else 0) ∧ (∀ k, k < i → (J1 (rf O a 36) k).toInt = 0)) (by omega) ⟨fun k hk => absurd hk (Nat.not_lt_zero _), fun k hk => absurd hk (Nat.not_lt_zero _)⟩ ?_ ?_
  · intro rec x i J1 hx hi ⟨v0, v1⟩ kk
    have ex : x.toInt.toNat = i := tn_i hx
    have G : 0 ≤ x.toInt ∧ x.toInt < 5 := by omega
    unfold B_Mo_marks_78
    refine Wp.neg (by omega) ?_
    refine Wp_jq (fun k => ∀ v : Int64, v.toInt = (if i = sz then 1000000 else 0) → Wp (k v) (fun q => mq s x1 x2 x3 x4 x5 x6 (mkL M c σ hr sz (x6.toInt.toNat + 1 - hr)).2.2 q.1)) (fun v hv => ?_) (fun k104 hk => ?_)
    · refine Wp.pos G (Wp_lb (fun J2 e2 => Wp.pos G (Wp_lb (fun J3 e3 => Wp_lb (fun u eu => ?_)))))
      rw [ex] at e2 e3
      refine kk u J3 (by rw [eu]; exact inc1 hx (by omega)) ⟨fun k hk => ?_, fun k hk => ?_⟩
      · rw [e3, up2_row _ _ nAB, e2]
        by_cases q : k = i
        · subst q; rw [up2_self]; exact hv
        · rw [up2_ne _ _ (fun z => q z.2)]; exact v0 k (by omega)
      · rw [e3]
        by_cases q : k = i
        · subst q; rw [up2_self]; rfl
        · rw [up2_ne _ _ (fun z => q z.2), e2, up2_row _ _ (fun z => nAB z.symm)]; exact v1 k (by omega)
    · by_cases q : i = sz
      · exact Wp.pos (by omega) (hk _ (by rw [if_pos q]; decide))
      · exact Wp.neg (by omega) (hk _ (by rw [if_neg q]; rfl))
  · intro rec x J1 hx ⟨v0, v1⟩
    unfold B_Mo_marks_78
    refine Wp.pos (by omega) ?_
    -- hours
    have main : ∀ (m i : Nat) (y : Int64) (x9 : Int32) (I2 : WI) (J2 : WJ), x9.toInt = (i : Int) → i ≤ x6.toInt.toNat + 1 → x6.toInt.toNat + 1 - i < m → (∀ k, k < 34 → (I2 (rf O a 17) k).toInt = tj M c σ i k) → (∀ b, ¬ b = rf O a 17 → I2 b = I1 b) → y.toInt = (mkL M c σ hr sz (i - hr)).2.2 → (∀ k, k < 5 → (J2 (rf O a 35) k).toInt = (mkL M c σ hr sz (i - hr)).1 k) → (∀ k, k < 5 → (J2 (rf O a 36) k).toInt = (mkL M c σ hr sz (i - hr)).2.1 k) → Wp (lp (B_Mo_marks_125 N O a x5 x6) (fun _ _ _ _ => none) m y x9 I2 J2) (fun q => mq s x1 x2 x3 x4 x5 x6 (mkL M c σ hr sz (x6.toInt.toNat + 1 - hr)).2.2 q.1) := by
      intro m
      induction m with
      | zero => intro i y x9 I2 J2 _ _ hmm; omega
      | succ m ih =>
        intro i y x9 I2 J2 hx9 hi hmm hA hF hy hH hB
        show Wp (B_Mo_marks_125 N O a x5 x6 (lp (B_Mo_marks_125 N O a x5 x6) (fun _ _ _ _ => none) m) y x9 I2 J2) _
        unfold B_Mo_marks_125
        by_cases ce : i = x6.toInt.toNat + 1
        · refine Wp.pos (by omega) (Wp.bd2 ?_)
          unfold F_Mo_done
          refine Wp_lb (fun I3 e3 => Wp_lb (fun I4 e4 => Wp.ret (Wp.ret (Or.inr ⟨h4, h5, h6, h1, by omega, ?_⟩))))
          have L0 := LI (i - hr) (by omega)
          have u0 := fun j hj => (L0.1.1 j hj).1
          have u0' := fun j hj => (L0.1.1 j hj).2
          have a5 := Int.le_trans (u0 0 (by decide)) (s5_le u0 (show 0 < 5 by decide))
          have a6 := Int.le_trans (u0' 0 (by decide)) (s5_le u0' (show 0 < 5 by decide))
          show (y.toInt32).toInt = _
          rw [Int64.toInt_toInt32, hy, wr32, ← ce]
          have := L0.2.1; have := L0.2.2; omega
        · have tI := tj_I m1 m2 hS h27 i (by omega)
          have te := tj_e m1 m2 hS h27 (n := i) (by omega)
          refine Wp.neg (by omega) (Wp.bd1 (r_byProgram (i := i) (by omega) m1 m2 tI.1 ((m3.fr m6 f1).fr m5 hF) m5 n20 n21 n22 (fun h hh => ?_) hA hx9 (by omega) (fun I3 g1 g35 g2 => ?_)))
          · rw [hF _ n20, hF _ n21, hF _ n22, f1 _ na.1, f1 _ na.2.1, f1 _ na.2.2]; exact m4 h hh
          have g1' : ∀ k, k < 34 → (I3 (rf O a 17) k).toInt = tj M c σ (i + 1) k := g1
          have F3 : ∀ b, ¬ b = rf O a 17 → I3 b = I1 b := fun b hb => by rw [g2 b hb]; exact hF b hb
          refine Wp.jn ?_
          by_cases c1 : i < hr
          · refine Wp.pos (by omega) (Wp.lb (ih (i + 1) _ _ I3 J2 (inc1 hx9 (by omega)) (by omega) (by omega) g1' F3 ?_ (fun k hk => ?_) (fun k hk => ?_)))
            · rw [hy, show i + 1 - hr = i - hr by omega]
            · rw [hH k hk, show i + 1 - hr = i - hr by omega]
            · rw [hB k hk, show i + 1 - hr = i - hr by omega]
          · have L0 := LI (i - hr) (by omega)
            have L1 := LI (i - hr + 1) (by omega)
            have u1 := fun j hj => (L1.1.1 j hj).1
            have u1' := fun j hj => (L1.1.1 j hj).2
            have b5 := Int.le_trans (u1 0 (by decide)) (s5_le u1 (show 0 < 5 by decide))
            have b6 := Int.le_trans (u1' 0 (by decide)) (s5_le u1' (show 0 < 5 by decide))
            have lk := ld_MK (sd := tj M c σ (i + 1) 26) m1 (m2 i (by omega)) L0.1 te.2.2 te.2.1
            have ei : hr + (i - hr) = i := by omega
            have eL : mkL M c σ hr sz (i - hr + 1) = (ldH M (tj M c σ (i + 1) 26) (c i).2.1 (tj M c σ (i + 1) 29) (mkL M c σ hr sz (i - hr)).1 (mkL M c σ hr sz (i - hr)).2.1, ldB M (tj M c σ (i + 1) 26) (c i).2.1 (tj M c σ (i + 1) 25) (tj M c σ (i + 1) 29) (mkL M c σ hr sz (i - hr)).1 (mkL M c σ hr sz (i - hr)).2.1, (mkL M c σ hr sz (i - hr)).2.2 + ldS M (tj M c σ (i + 1) 26) (c i).2.1 (tj M c σ (i + 1) 25) (tj M c σ (i + 1) 29) (mkL M c σ hr sz (i - hr)).1 (mkL M c σ hr sz (i - hr)).2.1) := by
              show (ldH M (tj M c σ (hr + (i - hr) + 1) 26) (c (hr + (i - hr))).2.1 _ _ _, _, _) = _
              rw [ei]
            refine Wp.neg (by omega) (Wp.bd3 (r_leads (h := (mkL M c σ hr sz (i - hr)).1) (b := (mkL M c σ hr sz (i - hr)).2.1) (by omega) m1 (m2 i (by omega)) ((m3.fr m6 f1).fr m5 F3) nAB hH hB L0.1 (g1' 26 (by decide)) (g1' 29 (by decide)) te.2.2 (g1' 25 (by decide)) te.2.1 g35 (fun z J3 l1 l2 l3 l4 => ?_)))
            refine Wp.lb (Wp.lb (ih (i + 1) _ _ I3 J3 (inc1 hx9 (by omega)) (by omega) (by omega) g1' F3 ?_ (fun k hk => ?_) (fun k hk => ?_)))
            · rw [show i + 1 - hr = i - hr + 1 by omega, eL]
              refine l_add hy l1 ?_
              have := L0.2.1; have := lk.2.1
              have q := L1.2.2
              rw [eL] at q b5 b6
              (try dsimp only at q b5 b6)
              omega
            · rw [show i + 1 - hr = i - hr + 1 by omega, eL]; exact l2 k hk
            · rw [show i + 1 - hr = i - hr + 1 by omega, eL]; exact l3 k hk
    refine main N 0 _ _ I8 J1 k_0 (by omega) (by omega) (fun k hk => a1 k (by omega)) a2 ?_ (fun k hk => ?_) (fun k hk => ?_)
    · rw [Nat.zero_sub]; rfl
    · rw [Nat.zero_sub]; exact v0 k hk
    · rw [Nat.zero_sub]; exact v1 k hk
end MARKS
