/-! feed, exactly: the twenty bytes that both sides lay on their tapes -/
def wd5 (x1 x2 x3 x4 x5 : Int32) (i : Nat) : Int32 := if i < 4 then x1 else if i < 8 then x2 else if i < 12 then x3 else if i < 16 then x4 else x5
def nb8 (x s : Int32) : Int32 := vp_nar .byte ((x >>> (s &&& 31))).toInt8.toInt32
def fb5 (x1 x2 x3 x4 x5 : Int32) (i : Nat) : Int32 := nb8 (wd5 x1 x2 x3 x4 x5 i) (Int32.ofInt (24 - 8 * ((i % 4 : Nat) : Int)))
theorem nb8_b (x s : Int32) : -128 ≤ (nb8 x s).toInt ∧ (nb8 x s).toInt ≤ 127 := by
  have e : nb8 x s = ((x >>> (s &&& 31))).toInt8.toInt32.toInt8.toInt32 := rfl
  rw [e, Int8.toInt_toInt32]
  have h1 := Int8.le_toInt ((x >>> (s &&& 31))).toInt8.toInt32.toInt8
  have h2 := Int8.toInt_lt ((x >>> (s &&& 31))).toInt8.toInt32.toInt8
  omega
def AP (I I' : WI) (T a f n m : Nat) (g : Nat → Int32) : Prop := (I' a f).toInt = ((n + m : Nat) : Int) ∧ (∀ i, i < m → I' T (n + i) = g i) ∧ ∀ b j, ¬ (b = T ∧ n ≤ j ∧ j < n + m) → ¬ (b = a ∧ j = f) → I' b j = I b j
theorem AP.zero {I : WI} {T a f n : Nat} {g : Nat → Int32} (h : (I a f).toInt = (n : Int)) : AP I I T a f n 0 g := ⟨h, fun i hi => absurd hi (Nat.not_lt_zero i), fun _ _ _ _ => rfl⟩
theorem AP.step {I I' : WI} {T a f n m : Nat} {g : Nat → Int32} {v : Int32} (h : AP I I' T a f n m g) (hne : T ≠ a) (hm : n + m < 700) (hv : v = g m) : AP I (up2 (up2 I' T (I' a f).toInt.toNat v) a f ((up2 I' T (I' a f).toInt.toNat v) a f + Int32.ofInt 1)) T a f n (m + 1) g := by
  have e0 : (I' a f).toInt.toNat = n + m := by rw [h.1]; rfl
  have e1 : (up2 I' T (n + m) v) a f = I' a f := up2_ne _ _ (fun z => hne z.1.symm)
  rw [e0]
  refine ⟨?_, fun i hi => ?_, fun b j h1 h2 => ?_⟩
  · rw [up2_self, e1, t_add h.1 (ofI (by decide)) (by omega)]; omega
  · rw [up2_ne _ _ (fun z => hne z.1)]
    by_cases q : i = m
    · subst q; rw [up2_self]; exact hv
    · rw [up2_ne _ _ (fun z => q (by omega))]; exact h.2.1 i (by omega)
  · rw [up2_ne _ _ h2, up2_ne _ _ (fun z => h1 ⟨z.1, by omega, by omega⟩)]
    exact h.2.2 b j (fun z => h1 ⟨z.1, z.2.1, by omega⟩) h2
theorem ca_step {N : Nat} {O : WO} {I I' : WI} {a n m : Nat} {g : Nat → Int32} {x s : Int32} {r : Int32 → WI → Option WI} {Q : WI → Prop} (h : AP I I' (rf O a 0) a 1 n m g) (hne : rf O a 0 ≠ a) (hm : n + m < 700) (hs : 0 ≤ s.toInt) (hg : nb8 x s = g m)
    (k : ∀ I'', AP I I'' (rf O a 0) a 1 n (m + 1) g → Wp (r (s + Int32.ofInt (-8)) I'') Q) : Wp (B_Rd_append_3 N O a x r s I') Q := by
  unfold B_Rd_append_3
  have h1 := h.1
  refine Wp.neg (by omega) (Wp.neg (by omega) (Wp.neg (by omega) (Wp.pos (by omega) ?_)))
  exact k _ (h.step hne hm hg)
theorem ca_app {N : Nat} {O : WO} {I I' : WI} {J : WJ} {a n m : Nat} {g : Nat → Int32} {x : Int32} {Q : WI → Prop} (hN : 5 ≤ N) (h : AP I I' (rf O a 0) a 1 n m g) (hne : rf O a 0 ≠ a) (hm : n + m + 4 ≤ 700)
    (g0 : nb8 x (Int32.ofInt 24) = g m) (g1 : nb8 x (Int32.ofInt 16) = g (m + 1)) (g2 : nb8 x (Int32.ofInt 8) = g (m + 2)) (g3 : nb8 x (Int32.ofInt 0) = g (m + 3))
    (k : ∀ I'', AP I I'' (rf O a 0) a 1 n (m + 4) g → Q I'') : Wp (F_Rd_append N O I' J a x) Q := by
  obtain ⟨M, rfl⟩ : ∃ M, N = M + 5 := ⟨N - 5, by omega⟩
  unfold F_Rd_append
  refine ca_step (g := g) h hne (by omega) (by decide) g0 (fun I1 h1 => ?_)
  refine ca_step (g := g) h1 hne (by omega) (by decide) (Eq.trans (congrArg (nb8 x) (by decide)) g1) (fun I2 h2 => ?_)
  refine ca_step (g := g) h2 hne (by omega) (by decide) (Eq.trans (congrArg (nb8 x) (by decide)) g2) (fun I3 h3 => ?_)
  refine ca_step (g := g) h3 hne (by omega) (by decide) (Eq.trans (congrArg (nb8 x) (by decide)) g3) (fun I4 h4 => ?_)
  show Wp (B_Rd_append_3 (M + 5) O a x _ _ I4) Q
  unfold B_Rd_append_3
  exact Wp.pos (by decide) (Wp.ret (k I4 h4))
theorem c_feed {N : Nat} {O : WO} {I : WI} {J : WJ} {a n : Nat} {x1 x2 x3 x4 x5 : Int32} {Q : Int32 × WI → Prop} (hN : 5 ≤ N) (hl : (I (rf O a 0) 1).toInt = (n : Int)) (hn : n ≤ 700) (hne : rf O (rf O a 0) 0 ≠ rf O a 0)
    (hq : n ≤ 680 → ∀ I', AP I I' (rf O (rf O a 0) 0) (rf O a 0) 1 n 20 (fb5 x1 x2 x3 x4 x5) → Q (I' (rf O a 0) 1, I')) (hz : 680 < n → Q (Int32.ofInt (-1), I)) : Wp (F_RM_feed N O I J a x1 x2 x3 x4 x5) Q := by
  unfold F_RM_feed F_Rd_hasRoomFor
  have e : ((I (rf O a 0) 1) + Int32.ofInt 20).toInt = (n : Int) + 20 := t_add hl (ofI (by decide)) (by omega)
  refine Wp.bd1 ?_
  by_cases c : n ≤ 680
  · refine Wp.neg (by omega) (Wp.ret (Wp.neg (by decide) ?_))
    refine Wp.bd1 (ca_app (g := fb5 x1 x2 x3 x4 x5) hN (AP.zero hl) hne (by omega) rfl rfl rfl rfl (fun I1 h1 => ?_))
    refine Wp.bd1 (ca_app (g := fb5 x1 x2 x3 x4 x5) hN h1 hne (by omega) rfl rfl rfl rfl (fun I2 h2 => ?_))
    refine Wp.bd1 (ca_app (g := fb5 x1 x2 x3 x4 x5) hN h2 hne (by omega) rfl rfl rfl rfl (fun I3 h3 => ?_))
    refine Wp.bd1 (ca_app (g := fb5 x1 x2 x3 x4 x5) hN h3 hne (by omega) rfl rfl rfl rfl (fun I4 h4 => ?_))
    refine Wp.bd1 (ca_app (g := fb5 x1 x2 x3 x4 x5) hN h4 hne (by omega) rfl rfl rfl rfl (fun I5 h5 => ?_))
    exact Wp.ret (hq c I5 h5)
  · exact Wp.pos (by omega) (Wp.ret (Wp.pos (by decide) (Wp.ret (hz (by omega)))))
theorem ra_sh : ∀ i, i < 20 → (Int32.ofInt 24 - Int32.ofInt 8 * (Int32.ofInt ((i : Nat) : Int) - Int32.ofInt (i : Int) / Int32.ofInt 4 * Int32.ofInt 4)) = Int32.ofInt (24 - 8 * ((i % 4 : Nat) : Int)) := by decide
theorem ra_loop {N : Nat} {O : WO} {I : WI} {a n : Nat} {x1 x2 x3 x4 x5 : Int32} {Q : Int32 × WI → Prop} (hn : n ≤ 680) (hne : rf O a 5 ≠ a) (hq : ∀ I', AP I I' (rf O a 5) a 6 n 20 (fb5 x1 x2 x3 x4 x5) → Q (I' a 6, I')) :
    ∀ (M i : Nat) (I' : WI), i ≤ 20 → 20 - i < M → AP I I' (rf O a 5) a 6 n i (fb5 x1 x2 x3 x4 x5) → Wp (lp (B_Mo_feed_23 N O a x1 x2 x3 x4 x5) (fun _ _ => none) M (Int32.ofInt (i : Int)) I') Q
  | 0, i, I', _, hM, _ => absurd hM (Nat.not_lt_zero _)
  | M + 1, i, I', hi, hM, h => by
    show Wp (B_Mo_feed_23 N O a x1 x2 x3 x4 x5 (lp _ _ M) (Int32.ofInt (i : Int)) I') Q
    unfold B_Mo_feed_23
    have e : (Int32.ofInt (i : Int)).toInt = (i : Int) := ofI (by omega)
    rw [e]
    by_cases c : i = 20
    · subst c; exact Wp.pos (by decide) (Wp.ret (hq I' h))
    · refine Wp.neg (by omega) (Wp.jn ?_)
      have h1 := h.1
      have hw : ∀ (k : Int32 → Option (Int32 × WI)), Wp (k (wd5 x1 x2 x3 x4 x5 i)) Q → Wp (if 4 ≤ (i : Int) then (if 8 ≤ (i : Int) then (if 12 ≤ (i : Int) then (if 16 ≤ (i : Int) then (k (x5)) else (k (x4))) else (k (x3))) else (k (x2))) else (k (x1))) Q := by
        intro k hk
        unfold wd5 at hk
        by_cases c1 : i < 4
        · rw [if_pos c1] at hk; exact Wp.neg (by omega) hk
        rw [if_neg c1] at hk
        refine Wp.pos (by omega) ?_
        by_cases c2 : i < 8
        · rw [if_pos c2] at hk; exact Wp.neg (by omega) hk
        rw [if_neg c2] at hk
        refine Wp.pos (by omega) ?_
        by_cases c3 : i < 12
        · rw [if_pos c3] at hk; exact Wp.neg (by omega) hk
        rw [if_neg c3] at hk
        refine Wp.pos (by omega) ?_
        by_cases c4 : i < 16
        · rw [if_pos c4] at hk; exact Wp.neg (by omega) hk
        rw [if_neg c4] at hk
        exact Wp.pos (by omega) hk
      refine hw (fun (s0_76 : Int32) => if 0 ≤ ((I' a 6)).toInt ∧ ((I' a 6)).toInt < 700 then (lb (up2 I' (rf O a 5) ((I' a 6)).toInt.toNat (vp_nar .byte ((s0_76 >>> (((Int32.ofInt (24)) - ((Int32.ofInt (8)) * (Int32.ofInt (i : Int) - Int32.ofInt (i : Int) / (Int32.ofInt (4)) * (Int32.ofInt (4))))) &&& 31))).toInt8.toInt32)) fun I2 => lb (up2 I2 a 6 ((I2 a 6) + (Int32.ofInt (1)))) fun I3 => lb (Int32.ofInt (i : Int) + Int32.ofInt (1)) fun v6_111 => lp (B_Mo_feed_23 N O a x1 x2 x3 x4 x5) (fun _ _ => none) M (v6_111) I3) else none) ?_
      refine Wp.pos (by omega) (Wp.lb (Wp.lb (Wp.lb ?_)))
      have e2 : Int32.ofInt (i : Int) + Int32.ofInt 1 = Int32.ofInt ((i + 1 : Nat) : Int) := by rw [← Int32.ofInt_add]; rfl
      rw [e2]
      exact ra_loop hn hne hq M (i + 1) _ (by omega) (by omega) (h.step hne (by omega) (by rw [ra_sh i (by omega)]; rfl))
theorem r_feed {N : Nat} {O : WO} {I : WI} {J : WJ} {a n : Nat} {x1 x2 x3 x4 x5 : Int32} {Q : Int32 × WI → Prop} (hN : 21 ≤ N) (hl : (I a 6).toInt = (n : Int)) (hn : n ≤ 700) (hne : rf O a 5 ≠ a)
    (hq : n ≤ 680 → ∀ I', AP (up2 I a 0 (Int32.ofInt 0)) I' (rf O a 5) a 6 n 20 (fb5 x1 x2 x3 x4 x5) → Q (I' a 6, I')) (hz : 680 < n → Q (Int32.ofInt (-1), up2 I a 0 (Int32.ofInt 0))) : Wp (F_Mo_feed N O I J a x1 x2 x3 x4 x5) Q := by
  unfold F_Mo_feed
  refine Wp.lb ?_
  have el : (up2 I a 0 (Int32.ofInt 0) a 6).toInt = (n : Int) := by rw [up2_ne _ _ (fun z => absurd z.2 (by decide))]; exact hl
  have e : ((up2 I a 0 (Int32.ofInt 0) a 6) + Int32.ofInt 20).toInt = (n : Int) + 20 := t_add el (ofI (by decide)) (by omega)
  by_cases c : n ≤ 680
  · exact Wp.pos (by omega) (ra_loop c hne (hq c) N 0 _ (by omega) (by omega) (AP.zero el))
  · exact Wp.neg (by omega) (Wp.ret (hz (by omega)))
