section RGOES
variable {N : Nat} {O : WO} {I : WI} {J : WJ} {a S : Nat} {M : MM} {r w o : Int} {σ τ : Nat → Int}
theorem r_passes {x1 x2 : Int32} {tears : Int} {i : Nat} (hM : MB M) (hm : RMl I O (rf O a 3) M) (h1 : x1.toInt = (i : Int)) (h2 : x2.toInt = tears) (tb : 0 ≤ tears ∧ tears ≤ 3) : ∃ z, F_Mo_passes N O I J a x1 x2 = some z ∧ z.toInt = if (i : Int) < M.1 2 then min (tears * M.1 3) 100 else 100 := by
  obtain ⟨⟨q0, q1, q2, q3, q4, q5, q6, q7, q8, q9⟩, qa⟩ := hm
  have p0 := (psT_b (x := 0) (k := 0) hM tb (Int.le_refl _)).1
  have t := t_mul h2 q3 (by omega)
  unfold F_Mo_passes
  by_cases c : (i : Int) < M.1 2
  · rw [if_pos (by omega)]
    by_cases c2 : tears * M.1 3 ≤ 100
    · rw [if_pos (by omega)]; exact ⟨_, rfl, by rw [t, if_pos c]; omega⟩
    · rw [if_neg (by omega)]; exact ⟨_, rfl, by rw [if_pos c, ofI (by decide)]; omega⟩
  · rw [if_neg (by omega)]; exact ⟨_, rfl, by rw [if_neg c]; exact ofI (by decide)⟩
theorem r_sift {g : Nat → Int} {tears : Int} {Q : WI → Prop} (hN : 8 ≤ N) (hM : MB M) (hs : ST3 M r w o) (hm : RMl I O (rf O a 3) M) (sr : SR O (rf O a 3) S) (hA : RA1 I S τ) (hg : ∀ k, k < 5 → τ k = g k) (gb : ∀ k, k < 5 → 0 ≤ g k ∧ g k ≤ 10000) (gz : ∀ k : Nat, k < 5 → M.1 7 ≤ (k : Int) → g k = 0 ∧ τ (5 + k) = 0 ∧ τ (10 + k) = 0) (h35 : τ 35 = w) (h25 : τ 25 = tears) (tb : 0 ≤ tears ∧ tears ≤ 3) (ab : ∀ k, k < 5 → 0 ≤ τ (15 + k) ∧ τ (15 + k) ≤ 1000000000)
    (hQ : ∀ I', RA1 I' S (fun k => if k < 5 then g k - outT w (g k) else if k < 10 then outT w (g (k - 5)) - psT M tears (k - 5) (outT w (g (k - 5))) else if k < 15 then psT M tears (k - 10) (outT w (g (k - 10))) else if k < 20 then τ k + psT M tears (k - 15) (outT w (g (k - 15))) else τ k) → (∀ b, ¬ b = S → I' b = I b) → Q I') : Wp (lp (B_Mo_grindsS_153 N O a S J) (fun _ _ => none) N (Int32.ofInt 0) I) Q := by
  have m7 := hM.2.2.2.2.2.2.1
  have ez : ((zN M : Nat) : Int) = M.1 7 := by unfold zN; omega
  have wb := hs.2.1
  refine forU (n := zN M) (fun i I1 => RA1 I1 S (fun k => if k < 5 then (if k < i then g k - outT w (g k) else g k) else if k < 10 then (if k - 5 < i then outT w (g (k - 5)) - psT M tears (k - 5) (outT w (g (k - 5))) else τ k) else if k < 15 then (if k - 10 < i then psT M tears (k - 10) (outT w (g (k - 10))) else τ k) else if k < 20 then (if k - 15 < i then τ k + psT M tears (k - 15) (outT w (g (k - 15))) else τ k) else τ k) ∧ (∀ b, ¬ b = S → I1 b = I b)) (by omega) ⟨fun k hk => ?_, fun _ _ => rfl⟩ ?_ ?_
  · rw [hA k hk]
    simp only [Nat.not_lt_zero, if_false]
    split
    · rename_i c; exact hg k c
    · split
      · rfl
      · split
        · rfl
        · split <;> rfl
  · intro rec x i I1 hx hi ⟨v0, v1⟩ kk
    have q8 := (RMl.fr hm sr v1).1.2.2.2.2.2.2.2.2.1
    have e0 : (Int32.ofInt 0 + x).toInt = (i : Int) := by rw [t_add k_0 hx (by omega)]; omega
    have e5 : (Int32.ofInt 5 + x).toInt = ((5 + i : Nat) : Int) := by rw [t_add (ofI (n := 5) (by decide)) hx (by omega)]; omega
    have e10 : (Int32.ofInt 10 + x).toInt = ((10 + i : Nat) : Int) := by rw [t_add (ofI (n := 10) (by decide)) hx (by omega)]; omega
    have e15 : (Int32.ofInt 15 + x).toInt = ((15 + i : Nat) : Int) := by rw [t_add (ofI (n := 15) (by decide)) hx (by omega)]; omega
    have n0 : (Int32.ofInt 0 + x).toInt.toNat = i := by rw [e0]; rfl
    have n5 : (Int32.ofInt 5 + x).toInt.toNat = 5 + i := by rw [e5]; rfl
    have n10 : (Int32.ofInt 10 + x).toInt.toNat = 10 + i := by rw [e10]; rfl
    have n15 : (Int32.ofInt 15 + x).toInt.toNat = 15 + i := by rw [e15]; rfl
    have a0 : (I1 S i).toInt = g i := by have := v0 i (by omega); (try dsimp only at this); rw [if_pos (by omega), if_neg (by omega)] at this; exact this
    have a15 : (I1 S (15 + i)).toInt = τ (15 + i) := by have := v0 (15 + i) (by omega); (try dsimp only at this); rw [if_neg (by omega), if_neg (by omega), if_neg (by omega), if_pos (by omega), if_neg (by omega)] at this; exact this
    have a35 : (I1 S 35).toInt = w := by have := v0 35 (by omega); (try dsimp only at this); rw [if_neg (by omega), if_neg (by omega), if_neg (by omega), if_neg (by omega)] at this; rw [this]; exact h35
    have a25 : (I1 S 25).toInt = tears := by have := v0 25 (by omega); (try dsimp only at this); rw [if_neg (by omega), if_neg (by omega), if_neg (by omega), if_neg (by omega)] at this; rw [this]; exact h25
    have gi := gb i (by omega)
    have ob := outT_b (x := g i) hs gi.1
    have pb := psT_b (k := i) hM tb ob.2.1
    have abi := ab i (by omega)
    unfold B_Mo_grindsS_153
    refine Wp.neg (by omega) (Wp.pos (by omega) (Wp_lb (fun v3 ev3 => Wp.bd1 ?_)))
    rw [n0] at ev3
    have w1 : (Int32.ofInt 20 + Int32.ofInt 10 * I1 S 35).toInt = 20 + 10 * w := t_add (ofI (by decide)) (t_mul (ofI (n := 10) (by decide)) a35 (by omega)) (by omega)
    have w2 := t_mul a0 w1 (by omega)
    have h3 : v3.toInt = outT w (g i) := by rw [ev3]; exact (tdivF w2 (ofI (n := 100) (by decide)) (by decide)).1 ob.1.1
    obtain ⟨zp, ezp, hzp⟩ := r_passes (N := N) (J := J) hM (RMl.fr hm sr v1) hx a25 tb
    rw [ezp]
    refine Wp.ret (Wp_lb (fun v4 ev4 => ?_))
    have zb : 0 ≤ zp.toInt ∧ zp.toInt ≤ 100 := by
      have := pb.1
      rw [hzp]; split <;> omega
    have mm := mulb ob.2.1 (show outT w (g i) ≤ 10000 by omega) zb.1 zb.2
    have w3 := t_mul h3 (rfl : zp.toInt = zp.toInt) (by omega)
    have h4 : v4.toInt = psT M tears i (outT w (g i)) := by
      rw [ev4, (tdivF w3 (ofI (n := 100) (by decide)) (by decide)).1 mm.1, hzp]
      unfold psT
      split
      · rfl
      · omega
    rw [n0, n5, n10, n15]
    refine Wp.pos (by omega) (Wp.pos (by omega) (Wp_lb (fun I5 x5 => Wp.pos (by omega) (Wp_lb (fun I6 x6 => Wp.pos (by omega) (Wp.pos (by omega) (Wp_lb (fun I7 x7 => Wp.pos (by omega) (Wp_lb (fun I8 x8 => Wp_lb (fun v ev => ?_)))))))))))
    have c15 : (I6 S (15 + i)).toInt = τ (15 + i) := by rw [x6, up2_ne _ _ (fun z => by omega), x5, up2_ne _ _ (fun z => by omega)]; exact a15
    have r0 := t_sub a0 h3 (by omega)
    have r15 := t_add c15 h4 (by omega)
    have r5 := t_sub h3 h4 (by omega)
    refine kk v I8 (by rw [ev]; exact inc1 hx (by omega)) ⟨fun k hk => ?_, fun b hb => by rw [x8, up2_row _ _ hb, x7, up2_row _ _ hb, x6, up2_row _ _ hb, x5, up2_row _ _ hb]; exact v1 b hb⟩
    try dsimp only
    rw [x8]
    by_cases c5 : k = 5 + i
    · subst c5; rw [up2_self, if_neg (by omega), if_pos (by omega), if_pos (by omega), show 5 + i - 5 = i by omega]; exact r5
    rw [up2_ne _ _ (fun z => c5 z.2), x7]
    by_cases c15' : k = 15 + i
    · subst c15'; rw [up2_self, if_neg (by omega), if_neg (by omega), if_neg (by omega), if_pos (by omega), if_pos (by omega), show 15 + i - 15 = i by omega]; exact r15
    rw [up2_ne _ _ (fun z => c15' z.2), x6]
    by_cases c10 : k = 10 + i
    · subst c10; rw [up2_self, if_neg (by omega), if_neg (by omega), if_pos (by omega), if_pos (by omega), show 10 + i - 10 = i by omega]; exact h4
    rw [up2_ne _ _ (fun z => c10 z.2), x5]
    by_cases c0 : k = i
    · subst c0; rw [up2_self, if_pos (by omega), if_pos (by omega)]; exact r0
    rw [up2_ne _ _ (fun z => c0 z.2), v0 k hk]; try dsimp only
    by_cases d5 : k < 5
    · rw [if_pos d5, if_pos d5]; exact stp c0
    rw [if_neg d5, if_neg d5]
    by_cases d10 : k < 10
    · rw [if_pos d10, if_pos d10]; exact stp (by omega)
    rw [if_neg d10, if_neg d10]
    by_cases d15 : k < 15
    · rw [if_pos d15, if_pos d15]; exact stp (by omega)
    rw [if_neg d15, if_neg d15]
    by_cases d20 : k < 20
    · rw [if_pos d20, if_pos d20]; exact stp (by omega)
    rw [if_neg d20, if_neg d20]
  · intro rec x I1 hx ⟨v0, v1⟩
    have q8 := (RMl.fr hm sr v1).1.2.2.2.2.2.2.2.2.1
    have zo : ∀ j : Nat, j < 5 → M.1 7 ≤ (j : Int) → outT w (g j) = 0 ∧ psT M tears j (outT w (g j)) = 0 := fun j hj hz => by
      have ob := (outT_b (x := g j) hs (gb j hj).1).2
      have pb := (psT_b (k := j) hM tb ob.1).2
      rw [(gz j hj hz).1] at ob pb ⊢
      omega
    unfold B_Mo_grindsS_153
    refine Wp.pos (by omega) (Wp.ret (hQ I1 (v0.eq (fun k hk => ?_)) v1))
    try dsimp only
    by_cases d5 : k < 5
    · rw [if_pos d5, if_pos d5]
      by_cases c : k < zN M
      · rw [if_pos c]
      · rw [if_neg c, (zo k d5 (by omega)).1]; omega
    rw [if_neg d5, if_neg d5]
    by_cases d10 : k < 10
    · rw [if_pos d10, if_pos d10]
      by_cases c : k - 5 < zN M
      · rw [if_pos c]
      · have z := zo (k - 5) (by omega) (by omega)
        have y := (gz (k - 5) (by omega) (by omega)).2.1
        rw [show 5 + (k - 5) = k by omega] at y
        rw [if_neg c, y, z.2, z.1]; rfl
    rw [if_neg d10, if_neg d10]
    by_cases d15 : k < 15
    · rw [if_pos d15, if_pos d15]
      by_cases c : k - 10 < zN M
      · rw [if_pos c]
      · have z := zo (k - 10) (by omega) (by omega)
        have y := (gz (k - 10) (by omega) (by omega)).2.2
        rw [show 10 + (k - 10) = k by omega] at y
        rw [if_neg c, y, z.2]
    rw [if_neg d15, if_neg d15]
    by_cases d20 : k < 20
    · rw [if_pos d20, if_pos d20]
      by_cases c : k - 15 < zN M
      · rw [if_pos c]
      · have z := zo (k - 15) (by omega) (by omega)
        rw [if_neg c, z.2]; omega
    rw [if_neg d20, if_neg d20]
theorem ixm {x : Int32} {i : Nat} (hx : x.toInt = (i : Int)) (hi : i < 1000) : (x + Int32.ofInt (-1)).toInt = (i : Int) - 1 := by rw [t_add hx (ofI (n := -1) (by decide)) (by omega)]; omega
theorem ix2 {x : Int32} {i : Nat} (hx : x.toInt = (i : Int)) (hi : i < 1000) : (x + Int32.ofInt 2).toInt = ((i + 2 : Nat) : Int) := by rw [t_add hx (ofI (n := 2) (by decide)) (by omega)]; omega
theorem ix0 {x : Int32} {i : Nat} (hx : x.toInt = (i : Int)) (hi : i < 1000) : (Int32.ofInt 0 + x).toInt = (i : Int) := by rw [t_add k_0 hx (by omega)]; omega
theorem gd37 {x : Int32} {i : Nat} (hx : x.toInt = (i : Int)) (hi : i < 37) : 0 ≤ x.toInt ∧ x.toInt < 37 := by omega
theorem gd5 {x : Int32} {i : Nat} (hx : x.toInt = (i : Int)) (hi : i < 5) : 0 ≤ x.toInt ∧ x.toInt < 5 := by omega
theorem bd_sub {a b : Int} (h1 : 0 ≤ b) (h2 : b ≤ a) (h3 : a ≤ 1000) : -2147483648 ≤ a - b ∧ a - b < 2147483648 := by omega
theorem bd_add {a b : Int} (h1 : 0 ≤ a) (h2 : a ≤ 1000) (h3 : 0 ≤ b) (h4 : b ≤ 1000) : -2147483648 ≤ a + b ∧ a + b < 2147483648 := by omega
theorem bd_big {a B : Int} (h1 : 0 ≤ a) (h2 : a ≤ B) (h3 : B ≤ 10000000) : -2147483648 ≤ a ∧ a < 2147483648 := by omega
set_option maxHeartbeats 4000000 in
theorem r_brkstep {e full : Int} {i : Nat} {x : Int32} {g : Nat → Int} {ν0 : Int} {I0 I1 : WI} {rec : Int32 → WI → Option WI} {Q : WI → Prop} (hM : MB M) (sr : SR O (rf O a 3) S) (hm : RMl I0 O (rf O a 3) M) (hx : x.toInt = (i : Int)) (i4 : i < 4) (iz : i + 1 < zN M) (eb : 0 ≤ e ∧ e ≤ 100) (fb : full ≤ 999) (g1 : RA1 I1 S (fun k => if k < 5 then g k else u1 (u1 τ 29 e) 30 ν0 k)) (g3 : ∀ j, j < 5 → 0 ≤ g j) (g4 : s5 g = full) (g5 : ∀ j, j < 5 → zN M ≤ j → g j = 0) (g6 : ∀ c, ¬ c = S → I1 c = I0 c)
    (kk : ∀ (v : Int32) (I2 : WI), v.toInt = (i : Int) - 1 → RA1 I2 S (fun k => if k < 5 then brk1 M e i g k else u1 (u1 τ 29 e) 30 ν0 k) → (∀ c, ¬ c = S → I2 c = I0 c) → Wp (rec v I2) Q) : Wp (B_Mo_grindsS_46 N O a S J rec x I1) Q := by
  have i5 : i < 5 := Nat.lt_succ_of_lt i4
  have j5 : i + 1 < 5 := Nat.succ_lt_succ i4
  have h37 : i < 37 := Nat.lt_trans i5 (by decide)
  have hm1 := RMl.fr hm sr g6
  have c0 : ¬ x.toInt < 0 := by omega
  have G5 := gd5 hx i5
  have ex : x.toInt.toNat = i := tn_i hx
  unfold B_Mo_grindsS_46
  have dn := ixm hx (Nat.lt_trans i5 (by decide))
  generalize x + Int32.ofInt (-1) = Xm at dn ⊢
  have e0 := ix0 hx (Nat.lt_trans i5 (by decide))
  generalize Int32.ofInt 0 + x = X0 at e0 ⊢
  have x1 := inc1 hx (Nat.lt_trans i5 (by decide))
  generalize x + Int32.ofInt 1 = X1 at x1 ⊢
  have x2 := ix2 hx (Nat.lt_trans i5 (by decide))
  generalize x + Int32.ofInt 2 = X2 at x2 ⊢
  have e1 := inc1 e0 (Nat.lt_trans i5 (by decide))
  generalize X0 + Int32.ofInt 1 = X01 at e1 ⊢
  have n0 : X0.toInt.toNat = i := tn_i e0
  have n1 : X01.toInt.toNat = i + 1 := tn_i e1
  have G0 := gd37 e0 h37
  have G1 := gd37 e1 (Nat.lt_trans j5 (by decide))
  have a0 : (I1 S i).toInt = g i := by have := g1 i h37; (try dsimp only at this); rw [if_pos i5] at this; exact this
  have a1 : (I1 S (i + 1)).toInt = g (i + 1) := by have := g1 (i + 1) (Nat.lt_trans j5 (by decide)); (try dsimp only at this); rw [if_pos j5] at this; exact this
  have a29 : (I1 S 29).toInt = e := g1 29 (by decide)
  have h12 : (I1 (rf O (rf O a 3) 12) i).toInt = M.2.1 1 i := hm1.2 1 i (by decide) (show i < 5 from i5)
  have h13 : (I1 (rf O (rf O a 3) 13) i).toInt = M.2.1 2 i := hm1.2 2 i (by decide) (show i < 5 from i5)
  have mb := hM.2.2.2.2.2.2.2.2.2.2.1 i i5
  have mc := hM.2.2.2.2.2.2.2.2.2.2.2.1 i i5
  have b := bkn_b (h := g) hM eb i5 (g3 i i5)
  have f := frs_b (k := i) hM i5 b.2.1
  have gi : g i ≤ 1000 := Int.le_trans (s5_le g3 i5) (by omega)
  have gj : g (i + 1) ≤ 1000 := Int.le_trans (s5_le g3 j5) (by omega)
  have gjn := g3 (i + 1) j5
  have gin := g3 i i5
  have pr1 := mulb gin gi mb.1 mb.2
  have pr2 := mulb pr1.1 (show g i * M.2.1 1 i ≤ 100000 from pr1.2) eb.1 eb.2
  have bl : bkn M e i g ≤ 1000 := Int.le_trans b.2.2 gi
  have pf := mulb b.2.1 bl mc.1 mc.2
  have fl : bkn M e i g * M.2.1 2 i / 100 ≤ 1000 := Int.le_trans f.2 bl
  refine Wp.neg c0 (Wp.pos G0 (Wp.pos G5 (Wp_lb (fun v3 ev3 => ?_))))
  rw [n0, ex] at ev3
  have h3 : v3.toInt = bkn M e i g := by
    rw [ev3, (tdivF (t_mul (t_mul a0 h12 (bd_big pr1.1 pr1.2 (by decide))) a29 (bd_big pr2.1 pr2.2 (by decide))) (ofI (n := 10000) (by decide)) (by decide)).1 pr2.1]
    unfold bkn; rw [Int.mul_assoc]
  refine Wp.pos G5 (Wp_lb (fun v4 ev4 => ?_))
  rw [ex] at ev4
  have h4 : v4.toInt = bkn M e i g * M.2.1 2 i / 100 := by rw [ev4]; exact (tdivF (t_mul h3 h13 (bd_big pf.1 pf.2 (by decide))) (ofI (n := 100) (by decide)) (by decide)).1 pf.1
  rw [n0, n1]
  refine Wp.pos G0 (Wp.pos G0 (Wp_lb (fun I9 x9 => Wp.pos G1 (Wp.pos G1 (Wp_lb (fun I10 x10 => Wp.jn ?_))))))
  have r0 := t_sub a0 h3 (bd_sub b.2.1 b.2.2 gi)
  have c1 : (I9 S (i + 1)).toInt = g (i + 1) := by rw [x9, up2_ne _ _ (fun z => absurd z.2 (Nat.succ_ne_self i))]; exact a1
  have r1 := t_add c1 h4 (bd_add gjn gj f.1 fl)
  have r2 := t_sub h3 h4 (bd_sub f.1 f.2 bl)
  have f10 : ∀ c, ¬ c = S → I10 c = I0 c := fun c hc => by rw [x10, up2_row _ _ hc, x9, up2_row _ _ hc]; exact g6 c hc
  have q8' := (RMl.fr hm sr f10).1.2.2.2.2.2.2.2.2.1
  have m7 := hM.2.2.2.2.2.2.1
  have ez : ((zN M : Nat) : Int) = M.1 7 := by unfold zN; omega
  have dl : 0 ≤ bkn M e i g - bkn M e i g * M.2.1 2 i / 100 ∧ bkn M e i g - bkn M e i g * M.2.1 2 i / 100 ≤ 1000 := by
    have := f.1; have := f.2; omega
  by_cases c : i + 2 < zN M
  · have k5 : i + 2 < 5 := Nat.lt_of_lt_of_le c (by omega)
    have cond : ¬ (I10 (rf O a 3) 8).toInt ≤ X2.toInt := by rw [q8', x2, ← ez]; omega
    have gk : g (i + 2) ≤ 1000 := Int.le_trans (s5_le g3 k5) (by omega)
    have gkn := g3 (i + 2) k5
    refine Wp.neg cond ?_
    dsimp only
    have y0 := ix0 x2 (Nat.lt_trans k5 (by decide))
    generalize Int32.ofInt 0 + X2 = Y0 at y0 ⊢
    have ny : Y0.toInt.toNat = i + 2 := tn_i y0
    have GY := gd37 y0 (Nat.lt_trans k5 (by decide))
    rw [ny]
    have c2 : (I10 S (i + 2)).toInt = g (i + 2) := by
      rw [x10, up2_ne _ _ (fun z => absurd z.2 (by omega)), x9, up2_ne _ _ (fun z => absurd z.2 (by omega))]
      have := g1 (i + 2) (Nat.lt_trans k5 (by decide)); (try dsimp only at this); rw [if_pos k5] at this; exact this
    have r3 := t_add c2 r2 (bd_add gkn gk dl.1 dl.2)
    refine Wp.pos GY (Wp.pos GY (Wp_lb (fun I11 x11 => Wp.lb (kk _ I11 dn (fun k hk => ?_) (fun c0 hc => by rw [x11, up2_row _ _ hc]; exact f10 c0 hc)))))
    clear kk cond GY G0 G1 G5 pr1 pr2 pf mb mc b f gi gj gjn gin bl fl dl gk gkn
    try dsimp only
    unfold brk1
    rw [if_pos c, x11]
    by_cases k2 : k = i + 2
    · subst k2; rw [up2_self, if_pos k5, u1_s]; exact r3
    rw [up2_ne _ _ (fun z => k2 z.2), u1_n k2, x10]
    by_cases k1 : k = i + 1
    · subst k1; rw [up2_self, if_pos j5, u1_s]; exact r1
    rw [up2_ne _ _ (fun z => k1 z.2), u1_n k1, x9]
    by_cases k0 : k = i
    · subst k0; rw [up2_self, if_pos i5, u1_s]; exact r0
    rw [up2_ne _ _ (fun z => k0 z.2), u1_n k0]; exact g1 k hk
  · have cond : (I10 (rf O a 3) 8).toInt ≤ X2.toInt := by rw [q8', x2, ← ez]; omega
    refine Wp.pos cond ?_
    dsimp only
    have y0 := ix0 x1 (Nat.lt_trans j5 (by decide))
    generalize Int32.ofInt 0 + X1 = Y0 at y0 ⊢
    have ny : Y0.toInt.toNat = i + 1 := tn_i y0
    have GY := gd37 y0 (Nat.lt_trans j5 (by decide))
    rw [ny]
    have c2 : (I10 S (i + 1)).toInt = g (i + 1) + bkn M e i g * M.2.1 2 i / 100 := by rw [x10, up2_self]; exact r1
    have r3 := t_add c2 r2 (by omega)
    refine Wp.pos GY (Wp.pos GY (Wp_lb (fun I11 x11 => Wp.lb (kk _ I11 dn (fun k hk => ?_) (fun c0 hc => by rw [x11, up2_row _ _ hc]; exact f10 c0 hc)))))
    have r4 : (I10 S (i + 1) + (v3 - v4)).toInt = g (i + 1) + bkn M e i g := by rw [r3]; omega
    clear kk cond GY G0 G1 G5 pr1 pr2 pf mb mc b f gi gj gjn gin bl fl dl
    try dsimp only
    unfold brk1
    rw [if_neg c, x11]
    by_cases k1 : k = i + 1
    · subst k1; rw [up2_self, if_pos j5, u1_s]; exact r4
    rw [up2_ne _ _ (fun z => k1 z.2), u1_n k1, x10, up2_ne _ _ (fun z => k1 z.2), x9]
    by_cases k0 : k = i
    · subst k0; rw [up2_self, if_pos i5, u1_s]; exact r0
    rw [up2_ne _ _ (fun z => k0 z.2), u1_n k0]; exact g1 k hk
theorem r_grinds {full tears : Int} {Q : WI → Prop} (hN : 8 ≤ N) (hM : MB M) (hs : ST3 M r w o) (hm : RMl I O (rf O a 3) M) (sr : SR O (rf O a 3) S) (hA : RA1 I S τ) (hb : ∀ k, k < 5 → 0 ≤ τ k) (hsm : s5 τ = full) (fb : 0 ≤ full ∧ full ≤ M.1 0) (h28 : τ 28 = full) (h24 : 0 ≤ τ 24 ∧ τ 24 ≤ 100000) (h36 : τ 36 = o) (h35 : τ 35 = w) (h25 : τ 25 = tears) (tb : 0 ≤ tears ∧ tears ≤ 3) (hz : ∀ k : Nat, k < 5 → M.1 7 ≤ (k : Int) → τ k = 0 ∧ τ (5 + k) = 0 ∧ τ (10 + k) = 0) (ab : ∀ k, k < 5 → 0 ≤ τ (15 + k) ∧ τ (15 + k) ≤ 1000000000)
    (hQ : ∀ I', RA1 I' S (fun k => if k < 5 then brk M (effT M o full (τ 24)) (zN M - 1) τ k - outT w (brk M (effT M o full (τ 24)) (zN M - 1) τ k) else if k < 10 then outT w (brk M (effT M o full (τ 24)) (zN M - 1) τ (k - 5)) - psT M tears (k - 5) (outT w (brk M (effT M o full (τ 24)) (zN M - 1) τ (k - 5))) else if k < 15 then psT M tears (k - 10) (outT w (brk M (effT M o full (τ 24)) (zN M - 1) τ (k - 10))) else if k < 20 then τ k + psT M tears (k - 15) (outT w (brk M (effT M o full (τ 24)) (zN M - 1) τ (k - 15))) else if k = 29 then effT M o full (τ 24) else if k = 30 then full * effT M o full (τ 24) / 100 else τ k) → (∀ b, ¬ b = S → I' b = I b) → Q I') : Wp (F_Mo_grindsS N O I J a S) Q := by
  have k2 : (Int32.ofInt 2).toInt = 2 := ofI (by decide)
  have m0 := hM.1
  have m7 := hM.2.2.2.2.2.2.1
  have ez : ((zN M : Nat) : Int) = M.1 7 := by unfold zN; omega
  have eb := (effT_b (full := full) (liner := τ 24) hM hs fb h24.1).2.2.2.2
  unfold F_Mo_grindsS
  refine Wp.bd1 (r_effectOf (full := full) (liner := τ 24) hM hs hm (by rw [hA 28 (by decide)]; exact h28) fb (hA 24 (by decide)) h24 (by rw [hA 36 (by decide)]; exact h36) (fun ze hze => ?_))
  generalize effT M o full (τ 24) = e at hze eb hQ
  refine Wp_lb (fun I2 e2 => Wp_lb (fun I3 e3 => Wp_lb (fun v2 ev2 => ?_)))
  have A2 : RA1 I2 S (u1 τ 29 e) := by rw [e2]; exact hA.put hze
  have p28 : (I2 S 28).toInt = full := by rw [A2 28 (by decide), u1_n (by decide)]; exact h28
  have p29 : (I2 S 29).toInt = e := by rw [A2 29 (by decide), u1_s]
  have pp := mulb fb.1 fb.2 eb.1 eb.2
  have p30 := (tdivF (t_mul p28 p29 (by omega)) (ofI (n := 100) (by decide)) (by decide)).1 pp.1
  have A3 : RA1 I3 S (u1 (u1 τ 29 e) 30 (full * e / 100)) := by rw [e3]; exact A2.put p30
  have f3 : ∀ b, ¬ b = S → I3 b = I b := fun b hb => by rw [e3, up2_row _ _ hb, e2, up2_row _ _ hb]
  have q8 := (RMl.fr hm sr f3).1.2.2.2.2.2.2.2.2.1
  have hv2 : v2.toInt = ((zN M - 1 : Nat) : Int) - 1 := by rw [ev2, t_sub q8 (ofI (n := 2) (by decide)) (by omega)]; omega
  refine forN (n := zN M - 1) (fun i I1 => ∃ g : Nat → Int, RA1 I1 S (fun k => if k < 5 then g k else u1 (u1 τ 29 e) 30 (full * e / 100) k) ∧ brk M e i g = brk M e (zN M - 1) τ ∧ (∀ j, j < 5 → 0 ≤ g j) ∧ s5 g = full ∧ (∀ j, j < 5 → zN M ≤ j → g j = 0) ∧ (∀ c, ¬ c = S → I1 c = I c)) hv2 (by omega) ⟨τ, A3.eq (fun k hk => ?_), rfl, hb, hsm, fun j hj hz2 => (hz j hj (by omega)).1, f3⟩ ?_ ?_
  · try dsimp only
    by_cases c : k < 5
    · rw [if_pos c, u1_n (by omega), u1_n (by omega)]
    · rw [if_neg c]
  · intro rec x i I1 hx hi ⟨g, g1, g2, g3, g4, g5, g6⟩ kk
    have i4 : i < 4 := by omega
    exact r_brkstep hM sr hm hx i4 (by omega) eb (by omega) g1 g3 g4 g5 g6 (fun v I2 hv h1 h2 => by
      have bb := brk1_b (k := i) hM eb (by omega) g3
      have bz := brk1_z (e := e) (k := i) (h := g) (by omega) g5
      exact kk v I2 hv ⟨brk1 M e i g, h1, g2, bb.1, bb.2.trans g4, bz, h2⟩)
  · intro rec x I1 hx ⟨g, g1, g2, g3, g4, g5, g6⟩
    unfold B_Mo_grindsS_46
    refine Wp.pos (by omega) ?_
    have gg : g = brk M e (zN M - 1) τ := g2
    have e25 : (if (25 : Nat) < 5 then g 25 else u1 (u1 τ 29 e) 30 (full * e / 100) 25) = tears := by rw [if_neg (by decide), u1_n (by decide), u1_n (by decide)]; exact h25
    have e35 : (if (35 : Nat) < 5 then g 35 else u1 (u1 τ 29 e) 30 (full * e / 100) 35) = w := by rw [if_neg (by decide), u1_n (by decide), u1_n (by decide)]; exact h35
    refine r_sift (g := g) hN hM hs (RMl.fr hm sr g6) sr g1 (fun k hk => by (try dsimp only); rw [if_pos hk]) (fun k hk => ⟨g3 k hk, by have := s5_le g3 hk; omega⟩) (fun k hk hz2 => ⟨g5 k hk (by omega), ?_, ?_⟩) e35 e25 tb (fun k hk => ?_) (fun I' k1 k2 => hQ I' (k1.eq (fun k hk => ?_)) (fun b hb => by rw [k2 b hb]; exact g6 b hb))
    · (try dsimp only); rw [if_neg (by omega), u1_n (by omega), u1_n (by omega)]; exact (hz k hk hz2).2.1
    · (try dsimp only); rw [if_neg (by omega), u1_n (by omega), u1_n (by omega)]; exact (hz k hk hz2).2.2
    · (try dsimp only); rw [if_neg (by omega), u1_n (by omega), u1_n (by omega)]; exact ab k hk
    · try dsimp only
      rw [← gg]
      by_cases d5 : k < 5
      · simp only [if_pos d5]
      simp only [if_neg d5]
      by_cases d10 : k < 10
      · simp only [if_pos d10]
      simp only [if_neg d10]
      by_cases d15 : k < 15
      · simp only [if_pos d15]
      simp only [if_neg d15]
      by_cases d20 : k < 20
      · simp only [if_pos d20]
        rw [u1_n (by omega), u1_n (by omega)]
      simp only [if_neg d20]
      by_cases k30 : k = 30
      · subst k30; rw [u1_s, if_neg (by decide), if_pos rfl]
      rw [u1_n k30]
      by_cases k29 : k = 29
      · subst k29; rw [u1_s, if_pos rfl]
      rw [u1_n k29, if_neg k29, if_neg k30]
end RGOES
