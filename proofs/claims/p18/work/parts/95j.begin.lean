/-! starts, on both sides -/
def bgS (M : MM) (t l f : Int) (k : Nat) : Int := if k < 5 then f * M.2.1 4 k else if k = 20 then M.1 5 / 2 else if k = 24 then M.1 4 * l / 4 else if k = 25 then t else 0
section STARTS
variable {N : Nat} {O : WO} {I : WI} {J : WJ} {M : MM} {d m a S : Nat} {t l f : Nat}
theorem bgS_h {t l f : Int} {k : Nat} (hk : k < 5) : bgS M t l f k = f * M.2.1 4 k := if_pos hk
theorem bgS_z {t l f : Int} {k : Nat} (h1 : 5 ≤ k) (h2 : k ≠ 20) (h3 : k ≠ 24) (h4 : k ≠ 25) : bgS M t l f k = 0 := by
  unfold bgS
  rw [if_neg (by omega), if_neg h2, if_neg h3, if_neg h4]
theorem bgS_b (hM : MB M) (hf : f ≤ 4) {k : Nat} (hk : k < 5) : 0 ≤ (f : Int) * M.2.1 4 k ∧ (f : Int) * M.2.1 4 k ≤ 200 := by
  have q := hM.2.2.2.2.2.2.2.2.2.2.2.2.2.1 k (by omega)
  have p := mulb (show 0 ≤ (f : Int) by omega) (show (f : Int) ≤ 4 by omega) q.1 q.2
  omega
theorem bgS_l (hM : MB M) (hl : l ≤ 4) : (0 ≤ M.1 4 * (l : Int) ∧ M.1 4 * (l : Int) ≤ 800) ∧ 0 ≤ M.1 4 * (l : Int) / 4 ∧ M.1 4 * (l : Int) / 4 ≤ 200 := by
  have q := hM.2.2.2.1
  have p := mulb (show 0 ≤ M.1 4 by omega) q.2 (show 0 ≤ (l : Int) by omega) (show (l : Int) ≤ 4 by omega)
  generalize M.1 4 * (l : Int) = y at p ⊢
  omega
theorem bgS_SI (hM : MB M) (ht : t ≤ 3) (hl : l ≤ 4) (hf : f ≤ 4) : SI M (bgS M t l f) := by
  have hb := fun k hk => bgS_b (k := k) hM hf hk
  have h0 := hb 0 (by decide); have h1 := hb 1 (by decide); have h2 := hb 2 (by decide); have h3 := hb 3 (by decide); have h4 := hb 4 (by decide)
  have z : ∀ k, 5 ≤ k → k ≠ 20 → k ≠ 24 → k ≠ 25 → bgS M (t : Int) l f k = 0 := fun k a b c d => bgS_z a b c d
  have hL := bgS_l hM hl
  have e24 : bgS M (t : Int) l f 24 = M.1 4 * (l : Int) / 4 := rfl
  have e25 : bgS M (t : Int) l f 25 = t := rfl
  have e20 : bgS M (t : Int) l f 20 = M.1 5 / 2 := rfl
  have m5 := hM.2.2.2.2.1
  have sh : s5 (bgS M (t : Int) l f) = (f : Int) * M.2.1 4 0 + (f : Int) * M.2.1 4 1 + (f : Int) * M.2.1 4 2 + (f : Int) * M.2.1 4 3 + (f : Int) * M.2.1 4 4 := rfl
  have sb : s5 (fun k => bgS M (t : Int) l f (5 + k)) = 0 := by
    show bgS M (t : Int) l f 5 + bgS M (t : Int) l f 6 + bgS M (t : Int) l f 7 + bgS M (t : Int) l f 8 + bgS M (t : Int) l f 9 = 0
    rw [z 5 (by decide) (by decide) (by decide) (by decide), z 6 (by decide) (by decide) (by decide) (by decide), z 7 (by decide) (by decide) (by decide) (by decide), z 8 (by decide) (by decide) (by decide) (by decide), z 9 (by decide) (by decide) (by decide) (by decide)]; rfl
  have z27 : bgS M (t : Int) l f 27 = 0 := z 27 (by decide) (by decide) (by decide) (by decide)
  have z26 : bgS M (t : Int) l f 26 = 0 := z 26 (by decide) (by decide) (by decide) (by decide)
  refine ⟨fun k hk => ?_, by rw [sh, sb]; omega, fun _ => by rw [sh, sb]; omega, Or.inl z26, by rw [z27]; decide, by rw [e24, z27]; omega, by rw [e25]; omega, by rw [e20]; omega, fun k hk => ?_, fun k hk hz => ?_⟩
  · rw [bgS_h hk, z (5 + k) (by omega) (by omega) (by omega) (by omega)]
    exact ⟨(hb k hk).1, Int.le_refl _⟩
  · rw [z27, z k (by omega) (by omega) (by omega) (by omega)]; decide
  · have tz := hM.2.2.2.2.2.2.2.2.2.2.2.2.2.2.1 0 k (by decide) hk hz
    rw [show 5 * 0 + k = k by omega] at tz
    rw [bgS_h hk, tz, z (5 + k) (by omega) (by omega) (by omega) (by omega), z (10 + k) (by omega) (by omega) (by omega) (by omega), z (15 + k) (by omega) (by omega) (by omega) (by omega)]
    exact ⟨Int.mul_zero _, rfl, rfl, rfl⟩
theorem c_part {x0 x1 : Int32} {w : Nat} (h : x0.toInt = ((25 * t + 5 * l + f : Nat) : Int)) (ht : t ≤ 3) (hl : l ≤ 4) (hf : f ≤ 4) (hx1 : x1.toInt = (w : Int)) (hw : w ≤ 2) : ∃ z, F_RM_partOfStart N O I J x0 x1 = some z ∧ z.toInt = ((if w = 0 then t else if w = 1 then l else f : Nat) : Int) := by
  have d25 := (tdivF h (ofI (n := 25) (by decide)) (by decide)).1 (by omega)
  have d5 := (tdivF h (ofI (n := 5) (by decide)) (by decide)).1 (by omega)
  have d55 := (tdivF d5 (ofI (n := 5) (by decide)) (by decide)).1 (by omega)
  unfold F_RM_partOfStart
  have : w = 0 ∨ w = 1 ∨ w = 2 := by omega
  rcases this with rfl | rfl | rfl
  · rw [if_pos (by omega)]
    refine ⟨_, rfl, ?_⟩
    show _ = ((t : Nat) : Int)
    rw [d25]; omega
  · rw [if_neg (by omega), if_pos (by omega)]
    refine ⟨_, rfl, ?_⟩
    show _ = ((l : Nat) : Int)
    rw [t_sub d5 (t_mul d55 (ofI (n := 5) (by decide)) (by omega)) (by omega)]; omega
  · rw [if_neg (by omega), if_neg (by omega)]
    refine ⟨_, rfl, ?_⟩
    show _ = ((f : Nat) : Int)
    rw [t_sub h (t_mul d5 (ofI (n := 5) (by decide)) (by omega)) (by omega)]; omega
theorem c_beginStart {x2 : Int32} {Q : WI → Prop} (hN : 8 ≤ N) (hM : MB M) (hm : CMl I O m M) (sp : SPd O d m) (hx : x2.toInt = ((25 * t + 5 * l + f : Nat) : Int)) (ht : t ≤ 3) (hl : l ≤ 4) (hf : f ≤ 4) (hQ : ∀ I', DRs I' O d (bgS M t l f) → (∀ b, ¬ WD O d b → I' b = I b) → Q I') : Wp (F_Dr_beginStart N O I J d m x2) Q := by
  obtain ⟨⟨n01, n02, n03, n12, n13, n23⟩, ⟨d0, d1, d2, d3⟩, sm⟩ := id sp
  have hL := bgS_l hM hl
  have m5 := hM.2.2.2.2.1
  unfold F_Dr_beginStart
  refine Wp.bd1 (c_beginEmpty hN sp (fun I1 a1 a2 => ?_))
  have nm : ¬ WD O d m := fun z => (sm m z).1 rfl
  have nt : ¬ WD O d (rf O m 14) := fun z => (sm _ z).2 4 (by decide) rfl
  have nmd : ¬ m = d := (sm d (Or.inl rfl)).1
  obtain ⟨z7, e7, h7⟩ := c_part (N := N) (O := O) (I := I1) (J := J) (w := 0) hx ht hl hf k_0 (by decide)
  rw [e7]
  refine Wp.bd1 (Wp.ret (Wp_lb (fun I3 x3 => ?_)))
  obtain ⟨z20, e20, h20⟩ := c_part (N := N) (O := O) (I := I3) (J := J) (w := 1) hx ht hl hf k_1 (by decide)
  rw [e20]
  have m34 : (I3 m 4).toInt = M.1 4 := by rw [x3, up2_row _ _ nmd, a2 m nm]; exact hm.1 4 (by decide)
  refine Wp.bd1 (Wp.ret (Wp.bd1 (c_share (a := M.1 4) (t := (l : Int)) (b := 4) m34 h20 (ofI (by decide)) (by decide) (by omega) (by omega) (fun z24 h24 => Wp_lb (fun I6 x6 => Wp_lb (fun I7 x7 => ?_))))))
  obtain ⟨z42, e42, h42⟩ := c_part (N := N) (O := O) (I := I7) (J := J) (x1 := Int32.ofInt 2) (w := 2) hx ht hl hf (ofI (by decide)) (by decide)
  rw [e42]
  refine Wp.bd1 (Wp.ret ?_)
  have h7' : z7.toInt = (t : Int) := h7
  have h42' : z42.toInt = (f : Int) := h42
  have f7 : ∀ b, ¬ b = d → I7 b = I1 b := fun b hb => by rw [x7, up2_row _ _ hb, x6, up2_row _ _ hb, x3, up2_row _ _ hb]
  have m55 : (I6 m 5).toInt = M.1 5 := by rw [x6, up2_row _ _ nmd, x3, up2_row _ _ nmd, a2 m nm]; exact hm.1 5 (by decide)
  have v20 : (I7 d 2).toInt = M.1 5 / 2 := by rw [x7, up2_self]; exact (tdivF m55 (ofI (n := 2) (by decide)) (by decide)).1 (by omega)
  have v24 : (I7 d 3).toInt = M.1 4 * (l : Int) / 4 := by rw [x7, up2_ne _ _ (fun z => absurd z.2 (by decide)), x6, up2_self]; exact h24
  have v25 : (I7 d 4).toInt = (t : Int) := by rw [x7, up2_ne _ _ (fun z => absurd z.2 (by decide)), x6, up2_ne _ _ (fun z => absurd z.2 (by decide)), x3, up2_self]; exact h7'
  have vk : ∀ k, k ≠ 2 → k ≠ 3 → k ≠ 4 → I7 d k = I1 d k := fun k c2 c3 c4 => by rw [x7, up2_ne _ _ (fun z => c2 z.2), x6, up2_ne _ _ (fun z => c3 z.2), x3, up2_ne _ _ (fun z => c4 z.2)]
  clear x7 x6 x3
  obtain ⟨i0, i20, i21, i22, i23, i24, i25, i26, i27, i28, i29, i30, i31, i32, i33⟩ := a1
  refine forU (n := 5) (fun i I8 => (∀ k, k < 5 → (I8 (rf O (rf O d 0) 0) k).toInt = if k < i then (f : Int) * M.2.1 4 k else 0) ∧ (∀ b, ¬ b = rf O (rf O d 0) 0 → I8 b = I7 b)) (by omega) ⟨fun k hk => by rw [stz, f7 _ d0]; exact (i0 k hk).1, fun _ _ => rfl⟩ ?_ ?_
  · intro rec x i I8 hx8 hi ⟨v0, v1⟩ kk
    have ex : x.toInt.toNat = i := tn_i hx8
    have n14 : ¬ rf O m 14 = rf O (rf O d 0) 0 := (sm _ (Or.inr (Or.inl rfl))).2 4 (by decide)
    have n14d : ¬ rf O m 14 = d := (sm _ (Or.inl rfl)).2 4 (by decide)
    have tv : (I8 (rf O m 14) i).toInt = M.2.1 4 i := by rw [v1 _ n14, f7 _ n14d, a2 _ nt]; exact hm.2 4 i (by decide) (by show i < 20; omega)
    have b1 := bgS_b hM hf hi
    unfold B_Dr_beginStart_49
    refine Wp.neg (by omega) (Wp.bd1 ?_)
    rw [c_tonsOf (o := 0) k_0 (by decide) hx8 hi, show 5 * (0 : Int).toNat + i = i by simp]
    refine Wp.ret (Wp.pos (by omega) (Wp_lb (fun I9 e9 => Wp_lb (fun v ev => ?_))))
    rw [ex] at e9
    refine kk v I9 (by rw [ev]; exact inc1 hx8 (by omega)) ⟨fun k hk => ?_, fun b hb => by rw [e9, up2_row _ _ hb]; exact v1 b hb⟩
    rw [e9]
    by_cases e : k = i
    · subst e; rw [up2_self, stS]; exact t_mul h42' tv (by omega)
    · rw [up2_ne _ _ (fun z => e z.2), v0 k hk]; exact stp e
  · intro rec x I8 hx8 ⟨v0, v1⟩
    unfold B_Dr_beginStart_49
    refine Wp.pos (by omega) (Wp.ret (hQ I8 ⟨fun k hk => ⟨?_, ?_, ?_, ?_⟩, ?_, ?_, ?_, ?_, ?_, ?_, ?_, ?_, ?_, ?_, ?_, ?_, ?_, ?_⟩ (fun b hb => ?_)))
    · rw [v0 k hk, if_pos hk, bgS_h hk]
    · rw [v1 _ (fun z => n01 z.symm), f7 _ d1, bgS_z (by omega) (by omega) (by omega) (by omega)]; exact (i0 k hk).2.1
    · rw [v1 _ (fun z => n02 z.symm), f7 _ d2, bgS_z (by omega) (by omega) (by omega) (by omega)]; exact (i0 k hk).2.2.1
    · rw [v1 _ (fun z => n03 z.symm), f7 _ d3, bgS_z (by omega) (by omega) (by omega) (by omega)]; exact (i0 k hk).2.2.2
    · rw [v1 _ (fun z => d0 z.symm)]; exact v20
    · rw [v1 _ (fun z => d0 z.symm), vk 13 (by decide) (by decide) (by decide), bgS_z (by decide) (by decide) (by decide) (by decide)]; exact i21
    · rw [v1 _ (fun z => d0 z.symm), vk 14 (by decide) (by decide) (by decide), bgS_z (by decide) (by decide) (by decide) (by decide)]; exact i22
    · rw [v1 _ (fun z => d0 z.symm), vk 12 (by decide) (by decide) (by decide), bgS_z (by decide) (by decide) (by decide) (by decide)]; exact i23
    · rw [v1 _ (fun z => d0 z.symm)]; exact v24
    · rw [v1 _ (fun z => d0 z.symm)]; exact v25
    · rw [v1 _ (fun z => d0 z.symm), vk 5 (by decide) (by decide) (by decide), bgS_z (by decide) (by decide) (by decide) (by decide)]; exact i26
    · rw [v1 _ (fun z => d0 z.symm), vk 6 (by decide) (by decide) (by decide), bgS_z (by decide) (by decide) (by decide) (by decide)]; exact i27
    · rw [v1 _ (fun z => d0 z.symm), vk 7 (by decide) (by decide) (by decide), bgS_z (by decide) (by decide) (by decide) (by decide)]; exact i28
    · rw [v1 _ (fun z => d0 z.symm), vk 8 (by decide) (by decide) (by decide), bgS_z (by decide) (by decide) (by decide) (by decide)]; exact i29
    · rw [v1 _ (fun z => d0 z.symm), vk 9 (by decide) (by decide) (by decide), bgS_z (by decide) (by decide) (by decide) (by decide)]; exact i30
    · rw [v1 _ (fun z => d0 z.symm), vk 10 (by decide) (by decide) (by decide), bgS_z (by decide) (by decide) (by decide) (by decide)]; exact i31
    · rw [v1 _ (fun z => d0 z.symm), vk 15 (by decide) (by decide) (by decide), bgS_z (by decide) (by decide) (by decide) (by decide)]; exact i32
    · rw [v1 _ (fun z => d0 z.symm), vk 16 (by decide) (by decide) (by decide), bgS_z (by decide) (by decide) (by decide) (by decide)]; exact i33
    · rw [v1 b (fun z => hb (Or.inr (Or.inl z))), f7 b (fun z => hb (Or.inl z))]; exact a2 b hb
theorem r_begins {x2 x3 x4 : Int32} {Q : WI → Prop} (hN : 38 ≤ N) (hM : MB M) (hm : RMl I O (rf O a 3) M) (sr : SR O (rf O a 3) S) (h2 : x2.toInt = (t : Int)) (h3 : x3.toInt = (l : Int)) (h4 : x4.toInt = (f : Int)) (ht : t ≤ 3) (hl : l ≤ 4) (hf : f ≤ 4) (hQ : ∀ I', RA1 I' S (bgS M t l f) → (∀ b, ¬ b = S → I' b = I b) → Q I') : Wp (F_Mo_begins N O I J a S x2 x3 x4) Q := by
  have hL := bgS_l hM hl
  have m5 := hM.2.2.2.2.1
  have m7 := hM.2.2.2.2.2.2.1
  have m4 := hM.2.2.2.1
  have hz : ((zN M : Nat) : Int) = M.1 7 := by unfold zN; omega
  unfold F_Mo_begins
  refine forU (n := 37) (fun i I1 => (∀ k, k < i → (I1 S k).toInt = 0) ∧ (∀ b, ¬ b = S → I1 b = I b)) (by omega) ⟨fun k hk => absurd hk (Nat.not_lt_zero _), fun _ _ => rfl⟩ ?_ ?_
  · intro rec x i I1 hx hi ⟨v0, v1⟩ kk
    have ex : x.toInt.toNat = i := tn_i hx
    unfold B_Mo_begins_3
    refine Wp.neg (by omega) (Wp.pos (by omega) (Wp_lb (fun I2 e2 => Wp_lb (fun v ev => ?_))))
    rw [ex] at e2
    refine kk v I2 (by rw [ev]; exact inc1 hx (by omega)) ⟨fun k hk => ?_, fun b hb => by rw [e2, up2_row _ _ hb]; exact v1 b hb⟩
    rw [e2]
    by_cases e : k = i
    · subst e; rw [up2_self]; exact k_0
    · rw [up2_ne _ _ (fun z => e z.2)]; exact v0 k (by omega)
  · intro rec x I1 hx ⟨v0, v1⟩
    unfold B_Mo_begins_3
    refine Wp.pos (by omega) ?_
    refine forU (n := zN M) (fun i I2 => (∀ k, k < 37 → (I2 S k).toInt = if k < i then (f : Int) * M.2.1 4 k else 0) ∧ (∀ b, ¬ b = S → I2 b = I b)) (by omega) ⟨fun k hk => by rw [stz]; exact v0 k hk, v1⟩ ?_ ?_
    · intro rec2 y i I2 hy hi ⟨u0, u1'⟩ kk
      have ei : (Int32.ofInt 0 + y).toInt = (i : Int) := ix0 hy (by omega)
      have ei2 : (Int32.ofInt 0 + y).toInt.toNat = i := tn_i ei
      have ey : y.toInt.toNat = i := tn_i hy
      have s8 : (I2 (rf O a 3) 8).toInt = M.1 7 := by rw [u1' _ sr.1]; exact hm.1.2.2.2.2.2.2.2.2.1
      have tv : (I2 (rf O (rf O a 3) 15) i).toInt = M.2.1 4 i := by rw [u1' _ (sr.2 4 (by decide))]; exact hm.2 4 i (by decide) (by show i < 20; omega)
      have b1 := bgS_b hM hf (show i < 5 by omega)
      unfold B_Mo_begins_24
      refine Wp.neg (by omega) (Wp.pos (by omega) (Wp.pos (by omega) (Wp_lb (fun I3 e3 => Wp_lb (fun v ev => ?_)))))
      rw [ei2, ey] at e3
      refine kk v I3 (by rw [ev]; exact inc1 hy (by omega)) ⟨fun k hk => ?_, fun b hb => by rw [e3, up2_row _ _ hb]; exact u1' b hb⟩
      rw [e3]
      by_cases e : k = i
      · subst e; rw [up2_self, stS]; exact t_mul h4 tv (by omega)
      · rw [up2_ne _ _ (fun z => e z.2), u0 k hk]; exact stp e
    · intro rec2 y I2 hy ⟨u0, u1'⟩
      have s8 : (I2 (rf O a 3) 8).toInt = M.1 7 := by rw [u1' _ sr.1]; exact hm.1.2.2.2.2.2.2.2.2.1
      unfold B_Mo_begins_24
      refine Wp.pos (by omega) (Wp_lb (fun I3 e3 => Wp_lb (fun I4 e4 => Wp_lb (fun I5 e5 => Wp.ret (hQ I5 (fun k hk => ?_) (fun b hb => ?_))))))
      · have q4 : (I3 (rf O a 3) 4).toInt = M.1 4 := by rw [e3, up2_row _ _ sr.1, u1' _ sr.1]; exact hm.1.2.2.2.2.1
        have q5 : (I4 (rf O a 3) 5).toInt = M.1 5 := by rw [e4, up2_row _ _ sr.1, e3, up2_row _ _ sr.1, u1' _ sr.1]; exact hm.1.2.2.2.2.2.1
        have pm : (x3 * I3 (rf O a 3) 4).toInt = M.1 4 * (l : Int) := by rw [Int.mul_comm]; exact t_mul h3 q4 (by rw [Int.mul_comm]; omega)
        rw [e5]
        by_cases k20 : k = 20
        · subst k20; rw [up2_self]; exact (tdivF q5 (ofI (n := 2) (by decide)) (by decide)).1 (by omega)
        rw [up2_ne _ _ (fun z => k20 z.2), e4]
        by_cases k24 : k = 24
        · subst k24; rw [up2_self]; exact (tdivF pm (ofI (n := 4) (by decide)) (by decide)).1 (by omega)
        rw [up2_ne _ _ (fun z => k24 z.2), e3]
        by_cases k25 : k = 25
        · subst k25; rw [up2_self]; exact h2
        rw [up2_ne _ _ (fun z => k25 z.2), u0 k hk]
        by_cases k5 : k < 5
        · rw [bgS_h k5]
          by_cases kz : k < zN M
          · rw [if_pos kz]
          · have tz := hM.2.2.2.2.2.2.2.2.2.2.2.2.2.2.1 0 k (by decide) k5 (by omega)
            rw [show 5 * 0 + k = k by omega] at tz
            rw [if_neg kz, tz, Int.mul_zero]
        · rw [if_neg (by omega), bgS_z (by omega) k20 k24 k25]
      · rw [e5, up2_row _ _ hb, e4, up2_row _ _ hb, e3, up2_row _ _ hb]; exact u1' b hb
end STARTS
/-! some hours by a program -/
abbrev CO : Type := Nat → Int × Int × Int
def tj (M : MM) (c : CO) (σ : Nat → Int) : Nat → Nat → Int
  | 0 => σ
  | n + 1 => HH M (c n).1 (c n).2.1 (c n).2.2 (tj M c σ n)
def CV (M : MM) (c : CO) : Prop := ∀ h, h < 12 → ST3 M (c h).1 (c h).2.1 (c h).2.2
theorem tj_I {M : MM} {c : CO} {σ : Nat → Int} (hM : MB M) (hc : CV M c) (hσ : SI M σ) (h27 : σ 27 = 0) : ∀ n : Nat, n ≤ 12 → SI M (tj M c σ n) ∧ tj M c σ n 27 = n := by
  intro n
  induction n with
  | zero => intro _; exact ⟨hσ, h27⟩
  | succ n ih =>
    intro hn
    obtain ⟨i1, i2⟩ := ih (by omega)
    refine ⟨HH_SI hM i1 (hc n (by omega)) (by omega), ?_⟩
    show tj M c σ n 27 + 1 = _
    rw [i2]; omega
def vT (σ : Nat → Int) (w : Nat) : Int := if w = 0 then σ 31 else if w = 1 then σ 30 else σ (8 + w)
def bsT (M : MM) (st : Nat) : Nat → Int := bgS M ((st / 25 : Nat) : Int) ((st / 5 % 5 : Nat) : Int) ((st % 5 : Nat) : Int)
def TT (M : MM) (c : CO) (st h w : Nat) : Int := vT (tj M c (bsT M st) (h + 1)) w
theorem bsT_SI {M : MM} (hM : MB M) {st : Nat} (h : st < 100) : SI M (bsT M st) ∧ bsT M st 27 = 0 := ⟨bgS_SI hM (by omega) (by omega) (by omega), bgS_z (by decide) (by decide) (by decide) (by decide)⟩
