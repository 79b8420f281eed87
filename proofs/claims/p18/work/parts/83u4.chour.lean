section CHOUR
variable {N : Nat} {O : WO} {I : WI} {J : WJ} {m d : Nat} {M : MM} {r w o : Int} {σ : Nat → Int}
theorem hB_b (hM : MB M) (hσ : SI M σ) (hs : ST3 M r w o) (hg : fullT M r o σ ≤ M.1 0) : (∀ k, k < 5 → 0 ≤ hB M r o σ k) ∧ s5 (hB M r o σ) = fullT M r o σ ∧ (∀ k : Nat, k < 5 → M.1 7 ≤ (k : Int) → hB M r o σ k = 0) ∧ 0 ≤ effT M o (fullT M r o σ) (σ 24) ∧ effT M o (fullT M r o σ) (σ 24) ≤ 100 := by
  have hb := hT_b hM hσ hs
  have e := (effT_b (full := fullT M r o σ) (liner := σ 24) hM hs ⟨hb.2.1, hg⟩ (hσ.2.2.2.2.2.1).1).2.2.2.2
  have m7 := hM.2.2.2.2.2.2.1
  have hz : ((zN M : Nat) : Int) = M.1 7 := by unfold zN; omega
  have b := brk_b (e := effT M o (fullT M r o σ) (σ 24)) hM e (zN M - 1) (hT M r o σ) (by omega) hb.1 (fun j hj hz2 => hT_z hM hσ hs hj (by omega))
  exact ⟨b.1, b.2.1, fun k hk hz2 => b.2.2 k hk (by omega), e⟩
theorem HH_b (hM : MB M) (hσ : SI M σ) (hs : ST3 M r w o) : (∀ k, k < 5 → 0 ≤ hdT M r w o σ k ∧ 0 ≤ bcT M r w o σ k ∧ 0 ≤ paT M r w o σ k) ∧ s5 (hdT M r w o σ) + s5 (bcT M r w o σ) + s5 (paT M r w o σ) ≤ fullT M r o σ ∧ (0 ≤ efT M r o σ ∧ efT M r o σ ≤ 100) ∧ (0 ≤ pwT M r o σ ∧ pwT M r o σ ≤ 999) ∧ (σ 21 ≤ spT M r o σ ∧ spT M r o σ ≤ σ 21 + 1750) ∧ (∀ k : Nat, k < 5 → M.1 7 ≤ (k : Int) → hdT M r w o σ k = 0 ∧ bcT M r w o σ k = 0 ∧ paT M r w o σ k = 0) := by
  have hb := hT_b hM hσ hs
  have tb := hσ.2.2.2.2.2.2.1
  by_cases hg : fullT M r o σ ≤ M.1 0
  · obtain ⟨b1, b2, b3, b4⟩ := hB_b hM hσ hs hg
    have ob := fun k (hk : k < 5) => outT_b (x := hB M r o σ k) hs (b1 k hk)
    have pb := fun k (hk : k < 5) => psT_b (k := k) hM tb (ob k hk).2.1
    have m0 := hM.1
    have pw := mulb hb.2.1 hg b4.1 b4.2
    unfold hdT bcT paT efT pwT spT
    simp only [if_pos hg]
    refine ⟨fun k hk => ?_, ?_, b4, ⟨Int.ediv_nonneg pw.1 (by decide), Int.ediv_le_of_le_mul (by decide) (by omega)⟩, by omega, fun k hk hz => ?_⟩
    · have := (ob k hk).2; have := (pb k hk).2; omega
    · rw [← b2]
      unfold s5
      dsimp only
      omega
    · have z := b3 k hk hz
      have o2 := (ob k hk).2
      have p2 := (pb k hk).2
      rw [z] at o2 p2 ⊢
      omega
  · have db := fun k (hk : k < 5) => hb.1 k hk
    unfold hdT bcT paT efT pwT spT
    simp only [if_neg hg]
    have d5 : ∀ k, k < 5 → 0 ≤ dgT (hT M r o σ k) ∧ dgT (hT M r o σ k) ≤ hT M r o σ k := fun k hk => by have := db k hk; unfold dgT; omega
    have x0 := d5 0 (by decide); have x1 := d5 1 (by decide); have x2 := d5 2 (by decide); have x3 := d5 3 (by decide); have x4 := d5 4 (by decide)
    have fl := hb.2
    have ef : fullT M r o σ = s5 (hT M r o σ) := rfl
    unfold s5 at ef
    refine ⟨fun k hk => ?_, ?_, by omega, by omega, ?_, fun k hk hz => ?_⟩
    · have := d5 k hk; omega
    · unfold s5; dsimp only; omega
    · unfold s5; dsimp only; omega
    · have z := hT_z hM hσ hs hk hz
      rw [z]; simp [dgT]; decide
theorem HH_SI (hM : MB M) (hσ : SI M σ) (hs : ST3 M r w o) (hn : σ 27 < 252) : SI M (HH M r w o σ) := by
  obtain ⟨a1, a2, a3, a4, a5, a6⟩ := HH_b hM hσ hs
  have hb := hT_b hM hσ hs
  obtain ⟨s1, s2, s3, s4, s5', s6, s7, s8, s9, s10⟩ := hσ
  have p0 := a1 0 (by decide); have p1 := a1 1 (by decide); have p2 := a1 2 (by decide); have p3 := a1 3 (by decide); have p4 := a1 4 (by decide)
  have m0 := hM.1; have m5 := hM.2.2.2.2.1; have m6 := hM.2.2.2.2.2.1
  have m9 := hM.2.2.2.2.2.2.2.2.1
  have q5 : 0 ≤ s5 (qT M r o σ) ∧ s5 (qT M r o σ) ≤ 750 := by
    have q := fun k hk => qT_b (σ := σ) hM hs (k := k) hk
    have := q 0 (by decide); have := q 1 (by decide); have := q 2 (by decide); have := q 3 (by decide); have := q 4 (by decide)
    unfold s5; omega
  have sp5 : 0 ≤ s5 (paT M r w o σ) ∧ s5 (paT M r w o σ) ≤ 1750 := by
    have e := a2; unfold s5 at e ⊢; omega
  have b1 : bn1 M r w o σ = σ 20 + s5 (paT M r w o σ) := rfl
  have b2 : bn2 M r w o σ = min (bn1 M r w o σ) (M.1 5) := rfl
  have b3 : drT M r w o σ = min (bn2 M r w o σ) (M.1 6) := rfl
  have pr : 0 ≤ pwT M r o σ * prT M (σ 27) ∧ pwT M r o σ * prT M (σ 27) ≤ 99000 := by
    have x := hM.2.2.2.2.2.2.2.2.2.1 (σ 27 % M.1 9).toNat (by have := Int.emod_lt_of_pos (σ 27) (show 0 < M.1 9 by omega); have := Int.emod_nonneg (σ 27) (show M.1 9 ≠ 0 by omega); omega)
    have := mulb a4.1 a4.2 x.1 x.2
    unfold prT; omega
  have e0 : ∀ k, k < 5 → HH M r w o σ k = hdT M r w o σ k := fun k hk => by unfold HH; rw [if_pos hk]
  have e5 : ∀ k, k < 5 → HH M r w o σ (5 + k) = bcT M r w o σ k := fun k hk => by unfold HH; rw [if_neg (by omega), if_pos (by omega), show 5 + k - 5 = k by omega]
  have e10 : ∀ k, k < 5 → HH M r w o σ (10 + k) = paT M r w o σ k := fun k hk => by unfold HH; rw [if_neg (by omega), if_neg (by omega), if_pos (by omega), show 10 + k - 10 = k by omega]
  have e15 : ∀ k, k < 5 → HH M r w o σ (15 + k) = σ (15 + k) + paT M r w o σ k := fun k hk => by unfold HH; rw [if_neg (by omega), if_neg (by omega), if_neg (by omega), if_pos (by omega), show 15 + k - 15 = k by omega]
  have f26 : HH M r w o σ 26 = if fullT M r o σ ≤ M.1 0 then 0 else 1 := rfl
  have f27 : HH M r w o σ 27 = σ 27 + 1 := rfl
  have f24 : HH M r w o σ 24 = σ 24 + 1 := rfl
  have f25 : HH M r w o σ 25 = σ 25 := rfl
  have f20 : HH M r w o σ 20 = bn2 M r w o σ - drT M r w o σ := rfl
  have f21 : HH M r w o σ 21 = spT M r o σ + (bn1 M r w o σ - bn2 M r w o σ) := rfl
  have f22 : HH M r w o σ 22 = σ 22 + drT M r w o σ := rfl
  have f23 : HH M r w o σ 23 = σ 23 + (M.1 6 - drT M r w o σ) := rfl
  have f32 : HH M r w o σ 32 = σ 32 + pwT M r o σ * prT M (σ 27) := rfl
  have f33 : HH M r w o σ 33 = σ 33 + s5 (qT M r o σ) := rfl
  have sh : s5 (HH M r w o σ) + s5 (fun k => HH M r w o σ (5 + k)) ≤ fullT M r o σ := by
    have g := a2
    unfold s5 at g ⊢
    rw [e0 0 (by decide), e0 1 (by decide), e0 2 (by decide), e0 3 (by decide), e0 4 (by decide)]
    have h0 := e5 0 (by decide); have h1 := e5 1 (by decide); have h2 := e5 2 (by decide); have h3 := e5 3 (by decide); have h4 := e5 4 (by decide)
    simp only [h0, h1, h2, h3, h4]
    omega
  refine ⟨fun k hk => by rw [e0 k hk, e5 k hk]; exact ⟨(a1 k hk).1, (a1 k hk).2.1⟩, by omega, ?_, ?_, by rw [f27]; omega, by rw [f24, f27]; omega, by rw [f25]; exact s7, by rw [f20]; omega, ?_, fun k hk hz => ?_⟩
  · rw [f26]; intro q
    by_cases hg : fullT M r o σ ≤ M.1 0
    · omega
    · rw [if_neg hg] at q; exact absurd q (by decide)
  · rw [f26]; split
    · exact Or.inl rfl
    · exact Or.inr rfl
  · intro k hk
    rw [f27]
    have s21 := s9 21 (by omega); have s22 := s9 22 (by omega); have s23 := s9 23 (by omega); have s32 := s9 32 (by omega); have s33 := s9 33 (by omega)
    rcases hk with hk | rfl | rfl | rfl | rfl | rfl
    · obtain ⟨j, rfl⟩ : ∃ j, k = 15 + j := ⟨k - 15, by omega⟩
      rw [e15 j (by omega)]
      have s := s9 (15 + j) (by omega)
      have p := a1 j (by omega)
      have pj : paT M r w o σ j ≤ s5 (paT M r w o σ) := s5_le (fun i hi => (a1 i hi).2.2) (by omega)
      omega
    · rw [f21]; omega
    · rw [f22]; omega
    · rw [f23]; omega
    · rw [f32]; omega
    · rw [f33]; omega
  · have z := a6 k hk hz
    have y := s10 k hk hz
    rw [e0 k hk, e5 k hk, e10 k hk, e15 k hk, z.1, z.2.1, z.2.2, y.2.2.2]
    exact ⟨rfl, rfl, rfl, rfl⟩
theorem c_priceAt {x : Int32} {now : Int} (hM : MB M) (hm : CMl I O m M) (hx : x.toInt = now) (nb : 0 ≤ now) : ∃ z, F_Ml_priceAt N O I J m x = some z ∧ z.toInt = prT M now := by
  have m9 := hM.2.2.2.2.2.2.2.2.1
  have q9 := hm.1 9 (by decide)
  have e := tremV hx q9 (by omega) nb
  have e1 := Int.emod_nonneg now (show M.1 9 ≠ 0 by omega)
  have e2 := Int.emod_lt_of_pos now (show 0 < M.1 9 by omega)
  refine ⟨I (rf O m 10) (now % M.1 9).toNat, ?_, ?_⟩
  · unfold F_Ml_priceAt
    rw [if_neg (by omega), if_neg (by omega), if_pos (by omega), if_pos (by omega), if_pos (by omega), e]
  · exact hm.2 0 _ (by decide) (by show _ < 6; omega)
set_option maxHeartbeats 4000000 in
theorem c_runHour {a2 κ2 p : Nat} {x3 : Int32} {Q : WI → Prop} (hN : 8 ≤ N) (hM : MB M) (hs : ST3 M r w o) (hσ : SI M σ) (hm : CMl I O m M) (sp : SPd O d m) (ra : ¬ WD O d a2) (hp : x3.toInt = (p : Int)) (pl : p + 3 ≤ alen κ2) (al : alen κ2 < 10000) (h34 : (I a2 p).toInt = r) (h35 : (I a2 (p + 1)).toInt = w) (h36 : (I a2 (p + 2)).toInt = o) (hD : DRs I O d σ)
    (hQ : ∀ I', DRs I' O d (HH M r w o σ) → (I' d 11).toInt = M.1 6 - drT M r w o σ → (∀ b, ¬ WD O d b → I' b = I b) → Q I') : Wp (F_Dr_runHour N O I J d m a2 κ2 x3) Q := by
  obtain ⟨b1, b2, b3, b4, b5, b6⟩ := HH_b hM hσ hs
  have hb := hT_b hM hσ hs
  obtain ⟨i0, i20, i21, i22, i23, i24, i25, i26, i27, i28, i29, i30, i31, i32, i33⟩ := hD
  obtain ⟨⟨n01, n02, n03, n12, n13, n23⟩, ⟨d0, d1, d2, d3⟩, sm⟩ := sp
  have wd : WD O d d := Or.inl rfl
  have wH : WD O d (rf O (rf O d 0) 0) := Or.inr (Or.inl rfl)
  have wB : WD O d (rf O (rf O d 0) 1) := Or.inr (Or.inr (Or.inl rfl))
  have wP : WD O d (rf O (rf O d 0) 2) := Or.inr (Or.inr (Or.inr (Or.inl rfl)))
  have wA : WD O d (rf O d 1) := Or.inr (Or.inr (Or.inr (Or.inr rfl)))
  have nd : ∀ b, ¬ WD O d b → ¬ b = d ∧ ¬ b = rf O (rf O d 0) 0 ∧ ¬ b = rf O (rf O d 0) 1 ∧ ¬ b = rf O (rf O d 0) 2 ∧ ¬ b = rf O d 1 := fun b hb => ⟨fun z => hb (Or.inl z), fun z => hb (Or.inr (Or.inl z)), fun z => hb (Or.inr (Or.inr (Or.inl z))), fun z => hb (Or.inr (Or.inr (Or.inr (Or.inl z)))), fun z => hb (Or.inr (Or.inr (Or.inr (Or.inr z))))⟩
  have hmf : ∀ I1 : WI, (∀ b, ¬ WD O d b → I1 b = I b) → CMl I1 O m M := fun I1 hf => ⟨fun k hk => by rw [hf m (fun z => (sm m z).1 rfl)]; exact hm.1 k hk, fun j i hj hi => by rw [hf _ (fun z => (sm _ z).2 j hj rfl)]; exact hm.2 j i hj hi⟩
  obtain ⟨s1, s2, s3, s4, s5', s6, s7, s8, s9, s10⟩ := id hσ
  have m0 := hM.1; have m1 := hM.2.1; have m5 := hM.2.2.2.2.1; have m6 := hM.2.2.2.2.2.1
  have u21 := s9 21 (by omega); have u22 := s9 22 (by omega); have u23 := s9 23 (by omega); have u32 := s9 32 (by omega); have u33 := s9 33 (by omega)
  have eal : (Int32.ofNat (alen κ2)).toInt = ((alen κ2 : Nat) : Int) := ofNl al
  have y0 : (x3 + Int32.ofInt 0).toInt = (p : Int) := by rw [t_add hp k_0 (by omega)]; omega
  have y1 : (x3 + Int32.ofInt 1).toInt = (p : Int) + 1 := t_add hp k_1 (by omega)
  have y2 : (x3 + Int32.ofInt 2).toInt = (p : Int) + 2 := t_add hp (ofI (by decide)) (by omega)
  have y3 : (x3 + Int32.ofInt 3).toInt = (p : Int) + 3 := t_add hp (ofI (by decide)) (by omega)
  have t0 : (x3 + Int32.ofInt 0).toInt.toNat = p := by rw [y0]; rfl
  have t1 : (x3 + Int32.ofInt 1).toInt.toNat = p + 1 := by rw [y1]; omega
  have t2 : (x3 + Int32.ofInt 2).toInt.toNat = p + 2 := by rw [y2]; omega
  have kH : ∀ k, k < 5 → 0 ≤ hT M r o σ k ∧ hT M r o σ k ≤ 10000000 := fun k hk => by
    have := s5_le hb.1 hk
    have e : s5 (hT M r o σ) = fullT M r o σ := rfl
    have := hb.1 k hk; omega
  unfold F_Dr_runHour
  refine Wp.neg (by omega) (Wp.pos (by rw [eal, y3]; omega) ?_)
  refine Wp_jq (fun k => ∀ I1 : WI, (∀ j, j < 5 → (I1 (rf O (rf O d 0) 0) j).toInt = σ j + qT M r o σ j) → (I1 d 16).toInt = σ 33 + s5 (qT M r o σ) → (∀ j, ¬ j = 16 → I1 d j = I d j) → (∀ b, ¬ b = d → ¬ b = rf O (rf O d 0) 0 → I1 b = I b) → Wp (k I1) Q) (fun I1 g1 g2 g3 g4 => ?_) (fun k35 hk => ?_)
  · refine Wp.bd1 (c_takeBack (a := rf O d 0) (h := fun k => σ k + qT M r o σ k) (b := fun k => σ (5 + k)) hN n01 g1 (fun k hk => by rw [g4 _ d1 (fun z => n01 z.symm)]; exact (i0 k hk).2.1) (fun k hk => by have := kH k hk; have := qT_b (σ := σ) hM hs hk; have := s1 k hk; unfold hT at *; omega) (fun I2 f1 f2 f3 => ?_))
    have f1' : ∀ k, k < 5 → (I2 (rf O (rf O d 0) 0) k).toInt = hT M r o σ k := f1
    refine Wp.bd1 (c_sumOf (h := hT M r o σ) hN f1' kH (fun z hz => ?_))
    have hz : z.toInt = fullT M r o σ := hz
    refine Wp_lb (fun I3 e3 => ?_)
    have fr3 : ∀ b, ¬ WD O d b → I3 b = I b := fun b hb => by
      obtain ⟨z1, z2, z3, z4, z5⟩ := nd b hb
      rw [e3, up2_row _ _ z1, f3 b z2 z3]; exact g4 b z1 z2
    have q3d : ∀ k, ¬ k = 16 → ¬ k = 7 → I3 d k = I d k := fun k k16 k7 => by rw [e3, up2_ne _ _ (fun z => k7 z.2), f3 d (fun z => d0 z.symm) (fun z => d1 z.symm)]; exact g3 k k16
    have q37 : (I3 d 7).toInt = fullT M r o σ := by rw [e3, up2_self]; exact hz
    have q316 : (I3 d 16).toInt = σ 33 + s5 (qT M r o σ) := by rw [e3, up2_ne _ _ (fun z => absurd z.2 (by decide)), f3 d (fun z => d0 z.symm) (fun z => d1 z.symm)]; exact g2
    have q3H : ∀ k, k < 5 → (I3 (rf O (rf O d 0) 0) k).toInt = hT M r o σ k := fun k hk => by rw [e3, up2_row _ _ d0]; exact f1' k hk
    have q3B : ∀ k, k < 5 → (I3 (rf O (rf O d 0) 1) k).toInt = 0 := fun k hk => by rw [e3, up2_row _ _ d1]; exact f2 k hk
    have q3A : I3 (rf O d 1) = I (rf O d 1) := by rw [e3, up2_row _ _ d3, f3 _ (fun z => n03 z.symm) (fun z => n13 z.symm)]; exact g4 _ d3 (fun z => n03 z.symm)
    have q3m0 : (I3 m 0).toInt = M.1 0 := (hmf I3 fr3).1 0 (by decide)
    have key : ∀ IJ : WI, (∀ k, k < 5 → (IJ (rf O (rf O d 0) 0) k).toInt = hdT M r w o σ k ∧ (IJ (rf O (rf O d 0) 1) k).toInt = bcT M r w o σ k ∧ (IJ (rf O (rf O d 0) 2) k).toInt = paT M r w o σ k) → (IJ d 8).toInt = efT M r o σ → (IJ d 9).toInt = pwT M r o σ → (IJ d 13).toInt = spT M r o σ → (IJ d 5).toInt = (if fullT M r o σ ≤ M.1 0 then 0 else 1) → (IJ d 7).toInt = fullT M r o σ → (IJ d 16).toInt = σ 33 + s5 (qT M r o σ) → (∀ k, k = 2 ∨ k = 3 ∨ k = 4 ∨ k = 6 ∨ k = 12 ∨ k = 14 ∨ k = 15 → IJ d k = I d k) → IJ (rf O d 1) = I (rf O d 1) → (∀ b, ¬ WD O d b → IJ b = I b) → Wp (bd1 (F_Dr_fillBin N O IJ J d m) fun I5 => bd1 (F_Dr_drawFromBin N O I5 J d m) fun I6 => bd1 (F_RM_share N O I6 J (I6 m 1) (I6 d 7) (I6 m 0)) fun z_177 => lb (up2 I6 d 10 (mxI ((I6 m 1) - z_177) (Int32.ofInt (0)))) fun I8 => bd1 (F_Ml_priceAt N O I8 J m (I8 d 6)) fun z_202 => lb (up2 I8 d 15 ((I8 d 15) + ((I8 d 9) * z_202))) fun I10 => lb (up2 I10 d 3 ((I10 d 3) + (Int32.ofInt (1)))) fun I11 => lb (up2 I11 d 6 ((I11 d 6) + (Int32.ofInt (1)))) fun I12 => some I12) Q := by
      intro IJ j0 j8 j9 j13 j5 j7 j16 jk jA jf
      have jm := hmf IJ jf
      have sp5 : 0 ≤ s5 (paT M r w o σ) ∧ s5 (paT M r w o σ) ≤ 1750 := by
        have p0 := b1 0 (by decide); have p1 := b1 1 (by decide); have p2 := b1 2 (by decide); have p3 := b1 3 (by decide); have p4 := b1 4 (by decide)
        have e := b2; unfold s5 at e ⊢; omega
      have pj : ∀ k, k < 5 → 0 ≤ paT M r w o σ k ∧ paT M r w o σ k ≤ 1000000 := fun k hk => by
        have := s5_le (fun i hi => (b1 i hi).2.2) hk; have := (b1 k hk).2.2; omega
      have eb1 : bn1 M r w o σ = σ 20 + s5 (paT M r w o σ) := rfl
      have eb2 : bn2 M r w o σ = min (bn1 M r w o σ) (M.1 5) := rfl
      have eb3 : drT M r w o σ = min (bn2 M r w o σ) (M.1 6) := rfl
      refine Wp.bd1 (c_fillBin (p := paT M r w o σ) (al := fun k => σ (15 + k)) (bin := σ 20) (sp := spT M r o σ) (R := M.1 5) hN n23 d2 d3 (sm d wd).1 (sm _ wA).1 (jm.1 5 (by decide)) (fun k hk => (j0 k hk).2.2) pj (fun k hk => by rw [jA]; exact (i0 k hk).2.2.2) (fun k hk => by have := s9 (15 + k) (by omega); omega) (by rw [jk 2 (by omega)]; exact i20) (by omega) j13 (by omega) (by omega) (fun I5 w1 w2 w3 w4 w5 => ?_))
      refine Wp.bd1 (c_draw (bin := bn2 M r w o σ) (dr := σ 22) (sh := σ 23) (R := M.1 6) (sm d wd).1 (by rw [w5 m (sm d wd).1 (sm _ wA).1]; exact jm.1 6 (by decide)) (by omega) w2 (by omega) (by rw [w4 14 (by decide) (by decide), jk 14 (by omega)]; exact i22) (by omega) (by rw [w4 12 (by decide) (by decide), jk 12 (by omega)]; exact i23) (by omega) (fun I6 v1 v2 v3 v4 v5 v6 => ?_))
      have fr6 : ∀ b, ¬ WD O d b → I6 b = I b := fun b hb => by
        obtain ⟨z1, z2, z3, z4, z5⟩ := nd b hb
        rw [v6 b z1, w5 b z1 z5]; exact jf b hb
      have m6' := hmf I6 fr6
      have q7 : (I6 d 7).toInt = fullT M r o σ := by rw [v5 7 (by decide) (by decide) (by decide) (by decide), w4 7 (by decide) (by decide)]; exact j7
      have lf := mulb m1.1 m1.2 hb.2.1 hb.2.2
      have ll := Int.ediv_le_self (M.1 0) lf.1
      refine Wp.bd1 (c_share (m6'.1 1 (by decide)) q7 (m6'.1 0 (by decide)) (by omega) (by omega) (by omega) (fun z1 hz1 => ?_))
      have ln := Int.ediv_nonneg lf.1 (show 0 ≤ M.1 0 by omega)
      refine Wp_lb (fun I8 e8 => ?_)
      have q10 : (I8 d 10).toInt = max (M.1 1 - M.1 1 * fullT M r o σ / M.1 0) 0 := by rw [e8, up2_self]; exact mx_e (t_sub (m6'.1 1 (by decide)) hz1 (by omega)) k_0
      have k8 : ∀ k, ¬ k = 10 → I8 d k = I6 d k := fun k hk => by rw [e8, up2_ne _ _ (fun z => hk z.2)]
      have fr8 : ∀ b, ¬ WD O d b → I8 b = I b := fun b hb => by rw [e8, up2_row _ _ (nd b hb).1]; exact fr6 b hb
      have q6 : (I8 d 6).toInt = σ 27 := by rw [k8 6 (by decide), v5 6 (by decide) (by decide) (by decide) (by decide), w4 6 (by decide) (by decide), jk 6 (by omega)]; exact i27
      obtain ⟨zp, ezp, hzp⟩ := c_priceAt (N := N) (J := J) hM (hmf I8 fr8) q6 s5'.1
      refine Wp.bd1 ?_
      rw [ezp]
      refine Wp.ret (Wp_lb (fun I10 e10 => Wp_lb (fun I11 e11 => Wp_lb (fun I12 e12 => Wp.ret ?_))))
      have xb : 0 ≤ prT M (σ 27) ∧ prT M (σ 27) ≤ 99 := by
        have m9 := hM.2.2.2.2.2.2.2.2.1
        exact hM.2.2.2.2.2.2.2.2.2.1 (σ 27 % M.1 9).toNat (by have := Int.emod_lt_of_pos (σ 27) (show 0 < M.1 9 by omega); have := Int.emod_nonneg (σ 27) (show M.1 9 ≠ 0 by omega); omega)
      have pw := mulb b4.1 b4.2 xb.1 xb.2
      have q9 : (I8 d 9).toInt = pwT M r o σ := by rw [k8 9 (by decide), v5 9 (by decide) (by decide) (by decide) (by decide), w4 9 (by decide) (by decide)]; exact j9
      have q15 : (I8 d 15).toInt = σ 32 := by rw [k8 15 (by decide), v5 15 (by decide) (by decide) (by decide) (by decide), w4 15 (by decide) (by decide), jk 15 (by omega)]; exact i32
      have q3' : (I8 d 3).toInt = σ 24 := by rw [k8 3 (by decide), v5 3 (by decide) (by decide) (by decide) (by decide), w4 3 (by decide) (by decide), jk 3 (by omega)]; exact i24
      have c15 := t_add q15 (t_mul q9 hzp (by omega)) (by omega)
      have k12 : ∀ k, ¬ k = 15 → ¬ k = 3 → ¬ k = 6 → I12 d k = I8 d k := fun k k15 k3 k6 => by rw [e12, up2_ne _ _ (fun z => k6 z.2), e11, up2_ne _ _ (fun z => k3 z.2), e10, up2_ne _ _ (fun z => k15 z.2)]
      have f12 : ∀ b, ¬ b = d → I12 b = I6 b := fun b hb => by rw [e12, up2_row _ _ hb, e11, up2_row _ _ hb, e10, up2_row _ _ hb, e8, up2_row _ _ hb]
      have g5 : ∀ b, ¬ b = d → ¬ b = rf O d 1 → I12 b = IJ b := fun b hb1 hb2 => by rw [f12 b hb1, v6 b hb1, w5 b hb1 hb2]
      have g6 : ∀ k, ¬ k = 15 → ¬ k = 3 → ¬ k = 6 → ¬ k = 10 → ¬ k = 2 → ¬ k = 11 → ¬ k = 12 → ¬ k = 14 → ¬ k = 13 → I12 d k = IJ d k := fun k h1 h2 h3 h4 h5 h6 h7 h8 h9 => by rw [k12 k h1 h2 h3, k8 k h4, v5 k h5 h6 h7 h8, w4 k h5 h9]
      refine hQ I12 ⟨fun k hk => ⟨?_, ?_, ?_, ?_⟩, ?_, ?_, ?_, ?_, ?_, ?_, ?_, ?_, ?_, ?_, ?_, ?_, ?_, ?_⟩ ?_ (fun b hb => ?_)
      · rw [g5 _ d0 n03, show HH M r w o σ k = hdT M r w o σ k by unfold HH; rw [if_pos hk]]; exact (j0 k hk).1
      · rw [g5 _ d1 n13, show HH M r w o σ (5 + k) = bcT M r w o σ k by unfold HH; rw [if_neg (by omega), if_pos (by omega), show 5 + k - 5 = k by omega]]; exact (j0 k hk).2.1
      · rw [g5 _ d2 n23, show HH M r w o σ (10 + k) = paT M r w o σ k by unfold HH; rw [if_neg (by omega), if_neg (by omega), if_pos (by omega), show 10 + k - 10 = k by omega]]; exact (j0 k hk).2.2
      · rw [f12 _ d3, v6 _ d3, w1 k hk, show HH M r w o σ (15 + k) = σ (15 + k) + paT M r w o σ k by unfold HH; rw [if_neg (by omega), if_neg (by omega), if_neg (by omega), if_pos (by omega), show 15 + k - 15 = k by omega]]
      · rw [k12 2 (by decide) (by decide) (by decide), k8 2 (by decide)]; exact v1
      · rw [k12 13 (by decide) (by decide) (by decide), k8 13 (by decide), v5 13 (by decide) (by decide) (by decide) (by decide)]; exact w3
      · rw [k12 14 (by decide) (by decide) (by decide), k8 14 (by decide)]; exact v2
      · rw [k12 12 (by decide) (by decide) (by decide), k8 12 (by decide)]; exact v3
      · rw [e12, up2_ne _ _ (fun z => absurd z.2 (by decide)), e11, up2_self, e10, up2_ne _ _ (fun z => absurd z.2 (by decide)), t_add q3' k_1 (by omega)]; rfl
      · rw [g6 4 (by decide) (by decide) (by decide) (by decide) (by decide) (by decide) (by decide) (by decide) (by decide), jk 4 (by omega)]; exact i25
      · rw [g6 5 (by decide) (by decide) (by decide) (by decide) (by decide) (by decide) (by decide) (by decide) (by decide)]; exact j5
      · rw [e12, up2_self, e11, up2_ne _ _ (fun z => absurd z.2 (by decide)), e10, up2_ne _ _ (fun z => absurd z.2 (by decide)), t_add q6 k_1 (by omega)]; rfl
      · rw [g6 7 (by decide) (by decide) (by decide) (by decide) (by decide) (by decide) (by decide) (by decide) (by decide)]; exact j7
      · rw [g6 8 (by decide) (by decide) (by decide) (by decide) (by decide) (by decide) (by decide) (by decide) (by decide)]; exact j8
      · rw [g6 9 (by decide) (by decide) (by decide) (by decide) (by decide) (by decide) (by decide) (by decide) (by decide)]; exact j9
      · rw [k12 10 (by decide) (by decide) (by decide)]; exact q10
      · rw [e12, up2_ne _ _ (fun z => absurd z.2 (by decide)), e11, up2_ne _ _ (fun z => absurd z.2 (by decide)), e10, up2_self]; exact c15
      · rw [g6 16 (by decide) (by decide) (by decide) (by decide) (by decide) (by decide) (by decide) (by decide) (by decide)]; exact j16
      · rw [k12 11 (by decide) (by decide) (by decide), k8 11 (by decide)]; exact v4
      · rw [f12 b (nd b hb).1]; exact fr6 b hb
    refine Wp.jn ?_
    by_cases hg : fullT M r o σ ≤ M.1 0
    · refine Wp.pos (by omega) ?_
      refine Wp.pos (Or.inl k_0) (Wp_lb (fun I4 e4 => Wp.jn ?_))
      obtain ⟨h1, h2, h3, h4⟩ := hB_b hM hσ hs hg
      have k4 : ∀ k, ¬ k = 5 → I4 d k = I3 d k := fun k hk => by rw [e4, up2_ne _ _ (fun z => hk z.2)]
      have f4 : ∀ b, ¬ b = d → I4 b = I3 b := fun b hb => by rw [e4, up2_row _ _ hb]
      have fr4 : ∀ b, ¬ WD O d b → I4 b = I b := fun b hb => by rw [f4 b (nd b hb).1]; exact fr3 b hb
      refine Wp.pos (by rw [e4, up2_self]; exact k_0) (Wp.pos (by rw [y2]; omega) (Wp.bd1 ?_))
      rw [t2]
      refine c_effectOf (full := fullT M r o σ) (liner := σ 24) hM hs (hmf I4 fr4) (by rw [k4 7 (by decide)]; exact q37) ⟨hb.2.1, hg⟩ (by rw [k4 3 (by decide), q3d 3 (by decide) (by decide)]; exact i24) (by omega) (by rw [fr4 a2 ra]; exact h36) (fun ze hze => ?_)
      refine Wp_lb (fun I14 e14 => ?_)
      have p7 : (I14 d 7).toInt = fullT M r o σ := by rw [e14, up2_ne _ _ (fun z => absurd z.2 (by decide)), k4 7 (by decide)]; exact q37
      have p8 : (I14 d 8).toInt = effT M o (fullT M r o σ) (σ 24) := by rw [e14, up2_self]; exact hze
      have pp := mulb hb.2.1 hg h4.1 h4.2
      have pd := Int.ediv_le_self 100 pp.1
      refine Wp.bd1 (c_share p7 p8 (ofI (n := 100) (by decide)) (by decide) (by omega) (by omega) (fun zp hzp => ?_))
      refine Wp_lb (fun I16 e16 => ?_)
      have k16 : ∀ k, ¬ k = 5 → ¬ k = 8 → ¬ k = 9 → I16 d k = I3 d k := fun k h5 h8 h9 => by rw [e16, up2_ne _ _ (fun z => h9 z.2), e14, up2_ne _ _ (fun z => h8 z.2)]; exact k4 k h5
      have f16 : ∀ b, ¬ b = d → I16 b = I3 b := fun b hb => by rw [e16, up2_row _ _ hb, e14, up2_row _ _ hb]; exact f4 b hb
      have fr16 : ∀ b, ¬ WD O d b → I16 b = I b := fun b hb => by rw [f16 b (nd b hb).1]; exact fr3 b hb
      have p8' : (I16 d 8).toInt = effT M o (fullT M r o σ) (σ 24) := by rw [e16, up2_ne _ _ (fun z => absurd z.2 (by decide))]; exact p8
      have hfl : s5 (hT M r o σ) = fullT M r o σ := rfl
      refine Wp.bd1 (c_breakUp (a := rf O d 0) (h := hT M r o σ) hN hM (hmf I16 fr16) ((sm _ wH).2 1 (by decide)) ((sm _ wH).2 2 (by decide)) (sm _ wH).1 p8' h4 (fun k hk => by rw [f16 _ d0]; exact q3H k hk) hb.1 (by omega) (fun I17 r1 r2 => ?_))
      have r1' : ∀ k, k < 5 → (I17 (rf O (rf O d 0) 0) k).toInt = hB M r o σ k := r1
      have fr17 : ∀ b, ¬ WD O d b → I17 b = I b := fun b hb => by rw [r2 b (nd b hb).2.1]; exact fr16 b hb
      refine Wp.pos (by rw [y1]; omega) (Wp.bd1 ?_)
      rw [t1]
      have d17 : I17 d = I16 d := r2 d (fun z => d0 z.symm)
      refine c_sift (a := rf O d 0) (h := hB M r o σ) (tears := σ 25) hN hM hs (hmf I17 fr17) n01 n02 n12 ⟨(sm _ wH).1, (sm _ wB).1, (sm _ wP).1⟩ (by rw [fr17 a2 ra]; exact h35) (by rw [d17, k16 4 (by decide) (by decide) (by decide), q3d 4 (by decide) (by decide)]; exact i25) s7 r1' (fun k hk => by have := s5_le h1 hk; have := h1 k hk; omega) (fun I18 x1 x2 x3' x4 => ?_)
      have d18 : I18 d = I16 d := by rw [x4 d (fun z => d0 z.symm) (fun z => d1 z.symm) (fun z => d2 z.symm)]; exact d17
      refine key I18 (fun k hk => ⟨?_, ?_, ?_⟩) ?_ ?_ ?_ ?_ ?_ ?_ (fun k hk => ?_) ?_ (fun b hb => ?_)
      · rw [x1 k hk]; unfold hdT; rw [if_pos hg]
      · rw [x3' k hk]; unfold bcT; rw [if_pos hg]
      · rw [x2 k hk]; unfold paT; rw [if_pos hg]
      · rw [d18, p8']; unfold efT; rw [if_pos hg]
      · rw [d18, e16, up2_self, hzp]; unfold pwT; rw [if_pos hg]
      · rw [d18, k16 13 (by decide) (by decide) (by decide), q3d 13 (by decide) (by decide), i21]; unfold spT; rw [if_pos hg]
      · rw [d18, e16, up2_ne _ _ (fun z => absurd z.2 (by decide)), e14, up2_ne _ _ (fun z => absurd z.2 (by decide)), e4, up2_self, if_pos hg]; exact k_0
      · rw [d18, k16 7 (by decide) (by decide) (by decide)]; exact q37
      · rw [d18, k16 16 (by decide) (by decide) (by decide)]; exact q316
      · rw [d18, k16 k (by omega) (by omega) (by omega)]; exact q3d k (by omega) (by omega)
      · rw [x4 _ (fun z => n03 z.symm) (fun z => n13 z.symm) (fun z => n23 z.symm), r2 _ (fun z => n03 z.symm), f16 _ d3]; exact q3A
      · obtain ⟨z1, z2, z3, z4, z5⟩ := nd b hb
        rw [x4 b z2 z3 z4]; exact fr17 b hb
    · refine Wp.neg (by omega) ?_
      refine Wp.pos (Or.inr k_1) (Wp_lb (fun I4 e4 => Wp.jn ?_))
      have k4 : ∀ k, ¬ k = 5 → I4 d k = I3 d k := fun k hk => by rw [e4, up2_ne _ _ (fun z => hk z.2)]
      have f4 : ∀ b, ¬ b = d → I4 b = I3 b := fun b hb => by rw [e4, up2_row _ _ hb]
      refine Wp.neg (by rw [e4, up2_self, k_1]; decide) (Wp.bd1 ?_)
      refine c_stand (h := hT M r o σ) (sp := σ 21) hN n02 d0 d2 (fun k hk => by rw [f4 _ d0]; exact q3H k hk) kH (by rw [k4 13 (by decide), q3d 13 (by decide) (by decide)]; exact i21) (by omega) (fun I19 r1 r2 r3 r4 r5 r6 r7 => ?_)
      refine key I19 (fun k hk => ⟨?_, ?_, ?_⟩) ?_ ?_ ?_ ?_ ?_ ?_ (fun k hk => ?_) ?_ (fun b hb => ?_)
      · rw [r1 k hk]; unfold hdT; rw [if_neg hg]
      · rw [r7 _ d1 (fun z => n01 z.symm) n12, f4 _ d1, q3B k hk]; unfold bcT; rw [if_neg hg]
      · rw [r2 k hk]; unfold paT; rw [if_neg hg]
      · rw [r4]; unfold efT; rw [if_neg hg]
      · rw [r5]; unfold pwT; rw [if_neg hg]
      · rw [r3]; unfold spT; rw [if_neg hg]
      · rw [r6 5 (by decide) (by decide) (by decide), e4, up2_self, if_neg hg]; exact k_1
      · rw [r6 7 (by decide) (by decide) (by decide), k4 7 (by decide)]; exact q37
      · rw [r6 16 (by decide) (by decide) (by decide), k4 16 (by decide)]; exact q316
      · rw [r6 k (by omega) (by omega) (by omega), k4 k (by omega)]; exact q3d k (by omega) (by omega)
      · rw [r7 _ d3 (fun z => n03 z.symm) (fun z => n23 z.symm), f4 _ d3]; exact q3A
      · obtain ⟨z1, z2, z3, z4, z5⟩ := nd b hb
        rw [r7 b z1 z2 z4, f4 b z1]; exact fr3 b hb
  · by_cases e26 : σ 26 = 0
    · refine Wp.pos (by omega) (Wp.pos (by rw [y0]; omega) (Wp.pos (by rw [y2]; omega) (Wp.bd1 ?_)))
      rw [t0, t2]
      have eq : (fun k => r * M.2.1 4 (5 * o.toNat + k)) = qT M r o σ := by funext k; unfold qT; rw [if_neg (by omega)]
      refine c_takeOre (h := σ) (c := σ 33) hN hM hs hm ((sm _ wH).2 4 (by decide)) ((sm _ wd).2 4 (by decide)) d0 h34 h36 (fun k hk => (i0 k hk).1) (fun k hk => by have := kH k hk; have := qT_b (σ := σ) hM hs hk; have := s1 k hk; unfold hT at *; omega) i33 (by omega) (fun I1 g1 g2 g3 g4 => hk I1 (fun j hj => ?_) ?_ g3 g4)
      · rw [g1 j hj]; exact congrArg (fun f => σ j + f j) eq
      · rw [g2, eq]
    · have e1 : σ 26 = 1 := by omega
      have q0 : ∀ k, qT M r o σ k = 0 := fun k => by unfold qT; rw [if_pos e1]
      refine Wp.neg (by omega) (hk I (fun j hj => by rw [q0, (i0 j hj).1]; omega) ?_ (fun _ _ => rfl) (fun _ _ _ => rfl))
      rw [i33]; unfold s5; simp only [q0]; omega
end CHOUR
