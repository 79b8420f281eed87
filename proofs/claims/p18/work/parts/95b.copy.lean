/-! rows and drums copied; an hour sees the places below 34 alone -/
section CCOPY
variable {N : Nat} {O : WO} {I : WI} {J : WJ} {M : MM} {r w o : Int} {σ σ' : Nat → Int}
theorem c_copyRow {a b κ n : Nat} {Q : WI → Prop} (hk : alen κ = n) (hl : n ≤ 100) (hN : n < N) (hab : ¬ a = b) (hQ : ∀ I', (∀ k, k < n → I' b k = I a k) → (∀ c, ¬ c = b → I' c = I c) → Q I') : Wp (F_RM_copyRow N O I J a κ b κ) Q := by
  have e5 : (Int32.ofNat (alen κ)).toInt = (n : Int) := by rw [hk]; exact ofNl (by omega)
  unfold F_RM_copyRow
  refine forU (n := n) (fun i I1 => (∀ k, k < i → I1 b k = I a k) ∧ (∀ c, ¬ c = b → I1 c = I c)) hN ⟨fun k hk => absurd hk (Nat.not_lt_zero _), fun _ _ => rfl⟩ ?_ ?_
  · intro rec x i I1 hx hi ⟨v1, v2⟩ kk
    have ex : x.toInt.toNat = i := tn_i hx
    unfold B_RM_copyRow_2
    refine Wp.neg (by rw [e5]; omega) (Wp.neg (by rw [e5]; omega) (Wp.pos (by rw [hk]; omega) (Wp.pos (by rw [hk]; omega) (Wp_lb (fun I2 e2 => Wp_lb (fun v ev => ?_))))))
    rw [ex] at e2
    refine kk v I2 (by rw [ev]; exact inc1 hx (by omega)) ⟨fun k hk => ?_, fun c c1 => ?_⟩
    · rw [e2]
      by_cases e : k = i
      · subst e; rw [up2_self, v2 a hab]
      · rw [up2_ne _ _ (fun z => e z.2)]; exact v1 k (by omega)
    · rw [e2, up2_row _ _ c1]; exact v2 c c1
  · intro rec x I1 hx ⟨v1, v2⟩
    unfold B_RM_copyRow_2
    exact Wp.pos (by rw [e5]; omega) (Wp.ret (hQ I1 v1 v2))
theorem cpf {I0 I1 I2 : WI} {d e n : Nat} (hde : ¬ e = d) (h : I1 e = I0 e ∧ ∀ k, 2 ≤ k → k < n → I1 d k = I0 e k) (he : I2 = up2 I1 d n (I1 e n)) : I2 e = I0 e ∧ ∀ k, 2 ≤ k → k < n + 1 → I2 d k = I0 e k := by
  refine ⟨by rw [he, up2_row _ _ hde]; exact h.1, fun k h2 hk => ?_⟩
  rw [he]
  by_cases c : k = n
  · subst c; rw [up2_self, h.1]
  · rw [up2_ne _ _ (fun z => c z.2)]; exact h.2 k h2 (by omega)
theorem SD.symm {d e : Nat} (h : SD O d e) : SD O e d := fun b h1 h2 => h b h2 h1
set_option maxHeartbeats 4000000 in
theorem c_copyFrom {d e m : Nat} {Q : WI → Prop} (hN : 8 ≤ N) (sp : SPd O d m) (sd : SD O d e) (hD : DRs I O e σ) (h26 : σ 26 = 0 ∨ σ 26 = 1) (hQ : ∀ I', DRs I' O d σ → (∀ b, ¬ WD O d b → I' b = I b) → Q I') : Wp (F_Dr_copyFrom N O I J d e) Q := by
  obtain ⟨⟨n01, n02, n03, n12, n13, n23⟩, ⟨d0, d1, d2, d3⟩, sm⟩ := sp
  have wd : WD O d d := Or.inl rfl
  have wH : WD O d (rf O (rf O d 0) 0) := Or.inr (Or.inl rfl)
  have wB : WD O d (rf O (rf O d 0) 1) := Or.inr (Or.inr (Or.inl rfl))
  have wP : WD O d (rf O (rf O d 0) 2) := Or.inr (Or.inr (Or.inr (Or.inl rfl)))
  have wA : WD O d (rf O d 1) := Or.inr (Or.inr (Or.inr (Or.inr rfl)))
  have ne : ∀ b c, WD O d b → WD O e c → ¬ c = b := fun b c h1 h2 z => sd b h1 (by rw [← z]; exact h2)
  have xe : WD O e e := Or.inl rfl
  have xH : WD O e (rf O (rf O e 0) 0) := Or.inr (Or.inl rfl)
  have xB : WD O e (rf O (rf O e 0) 1) := Or.inr (Or.inr (Or.inl rfl))
  have xP : WD O e (rf O (rf O e 0) 2) := Or.inr (Or.inr (Or.inr (Or.inl rfl)))
  have xA : WD O e (rf O e 1) := Or.inr (Or.inr (Or.inr (Or.inr rfl)))
  obtain ⟨i0, i20, i21, i22, i23, i24, i25, i26, i27, i28, i29, i30, i31, i32, i33⟩ := hD
  unfold F_Dr_copyFrom F_Ld_copyFrom
  refine Wp.bd1 (Wp.bd1 (c_copyRow (n := 5) rfl (by decide) (by omega) (ne _ _ wH xH) (fun I1 a1 a2 => Wp.bd1 (c_copyRow (n := 5) rfl (by decide) (by omega) (ne _ _ wB xB) (fun I2 b1 b2 => Wp.bd1 (c_copyRow (n := 5) rfl (by decide) (by omega) (ne _ _ wP xP) (fun I3 c1 c2 => Wp.ret (Wp.bd1 (c_copyRow (n := 5) rfl (by decide) (by omega) (ne _ _ wA xA) (fun I4 e1 e2 => ?_))))))))))
  have ke : I4 e = I e := by rw [e2 _ (ne _ _ wA xe), c2 _ (ne _ _ wP xe), b2 _ (ne _ _ wB xe), a2 _ (ne _ _ wH xe)]
  have ned : ¬ e = d := ne _ _ wd xe
  refine Wp_lb (fun J2 x2 => Wp_lb (fun J3 x3 => Wp_lb (fun J4 x4 => ?_)))
  have z4 := cpf ned (cpf ned (cpf (I0 := I) ned ⟨ke, fun k h1 h2 => by omega⟩ x2) x3) x4
  refine Wp.pos (by rw [z4.1, i26]; exact h26) ?_
  refine Wp_lb (fun J5 x5 => Wp_lb (fun J6 x6 => Wp_lb (fun J7 x7 => Wp_lb (fun J8 x8 => Wp_lb (fun J9 x9 => Wp_lb (fun J10 x10 => Wp_lb (fun J11 x11 => Wp_lb (fun J12 x12 => Wp_lb (fun J13 x13 => Wp_lb (fun J14 x14 => Wp_lb (fun J15 x15 => Wp_lb (fun J16 x16 => Wp.ret ?_))))))))))))
  have z := cpf ned (cpf ned (cpf ned (cpf ned (cpf ned (cpf ned (cpf ned (cpf ned (cpf ned (cpf ned (cpf ned (cpf ned z4 x5) x6) x7) x8) x9) x10) x11) x12) x13) x14) x15) x16
  have fb : ∀ b, ¬ b = d → J16 b = I4 b := fun b hb => by rw [x16, up2_row _ _ hb, x15, up2_row _ _ hb, x14, up2_row _ _ hb, x13, up2_row _ _ hb, x12, up2_row _ _ hb, x11, up2_row _ _ hb, x10, up2_row _ _ hb, x9, up2_row _ _ hb, x8, up2_row _ _ hb, x7, up2_row _ _ hb, x6, up2_row _ _ hb, x5, up2_row _ _ hb, x4, up2_row _ _ hb, x3, up2_row _ _ hb, x2, up2_row _ _ hb]
  have zf : ∀ k, 2 ≤ k → k < 17 → J16 d k = I e k := z.2
  refine hQ J16 ⟨fun k hk => ⟨?_, ?_, ?_, ?_⟩, ?_, ?_, ?_, ?_, ?_, ?_, ?_, ?_, ?_, ?_, ?_, ?_, ?_, ?_⟩ (fun b hb => ?_)
  · rw [fb _ d0, e2 _ n03, c2 _ n02, b2 _ n01, a1 k hk]; exact (i0 k hk).1
  · rw [fb _ d1, e2 _ n13, c2 _ n12, b1 k hk, a2 _ (ne _ _ wH xB)]; exact (i0 k hk).2.1
  · rw [fb _ d2, e2 _ n23, c1 k hk, b2 _ (ne _ _ wB xP), a2 _ (ne _ _ wH xP)]; exact (i0 k hk).2.2.1
  · rw [fb _ d3, e1 k hk, c2 _ (ne _ _ wP xA), b2 _ (ne _ _ wB xA), a2 _ (ne _ _ wH xA)]; exact (i0 k hk).2.2.2
  · rw [zf 2 (by decide) (by decide)]; exact i20
  · rw [zf 13 (by decide) (by decide)]; exact i21
  · rw [zf 14 (by decide) (by decide)]; exact i22
  · rw [zf 12 (by decide) (by decide)]; exact i23
  · rw [zf 3 (by decide) (by decide)]; exact i24
  · rw [zf 4 (by decide) (by decide)]; exact i25
  · rw [zf 5 (by decide) (by decide)]; exact i26
  · rw [zf 6 (by decide) (by decide)]; exact i27
  · rw [zf 7 (by decide) (by decide)]; exact i28
  · rw [zf 8 (by decide) (by decide)]; exact i29
  · rw [zf 9 (by decide) (by decide)]; exact i30
  · rw [zf 10 (by decide) (by decide)]; exact i31
  · rw [zf 15 (by decide) (by decide)]; exact i32
  · rw [zf 16 (by decide) (by decide)]; exact i33
  · have h0 : ¬ b = d := fun z => hb (Or.inl z)
    have h1 : ¬ b = rf O (rf O d 0) 0 := fun z => hb (Or.inr (Or.inl z))
    have h2 : ¬ b = rf O (rf O d 0) 1 := fun z => hb (Or.inr (Or.inr (Or.inl z)))
    have h3 : ¬ b = rf O (rf O d 0) 2 := fun z => hb (Or.inr (Or.inr (Or.inr (Or.inl z))))
    have h4 : ¬ b = rf O d 1 := fun z => hb (Or.inr (Or.inr (Or.inr (Or.inr z))))
    rw [fb b h0, e2 b h4, c2 b h3, b2 b h2, a2 b h1]
theorem DRs.fr2 {I2 : WI} {d : Nat} (h : DRs I O d σ) (f : ∀ b, WD O d b → I2 b = I b) : DRs I2 O d σ := by
  obtain ⟨g0, g1⟩ := h
  refine ⟨fun k hk => ?_, ?_⟩
  · rw [f _ (Or.inr (Or.inl rfl)), f _ (Or.inr (Or.inr (Or.inl rfl))), f _ (Or.inr (Or.inr (Or.inr (Or.inl rfl)))), f _ (Or.inr (Or.inr (Or.inr (Or.inr rfl))))]; exact g0 k hk
  · rw [f _ (Or.inl rfl)]; exact g1
theorem CMl.fr {I2 : WI} {m : Nat} (h : CMl I O m M) (f1 : I2 m = I m) (f2 : ∀ j, j < 5 → I2 (rf O m (10 + j)) = I (rf O m (10 + j))) : CMl I2 O m M := ⟨fun k hk => by rw [f1]; exact h.1 k hk, fun j i hj hi => by rw [f2 j hj]; exact h.2 j i hj hi⟩
theorem RMl.fr2 {I2 : WI} {F : Nat} (h : RMl I O F M) (f1 : I2 F = I F) (f2 : ∀ j, j < 5 → I2 (rf O F (11 + j)) = I (rf O F (11 + j))) : RMl I2 O F M := ⟨by rw [f1]; exact h.1, fun j i hj hi => by rw [f2 j hj]; exact h.2 j i hj hi⟩
theorem HH_cg (hM : MB M) (e : ∀ k, k < 34 → σ' k = σ k) : ∀ k, k < 34 → HH M r w o σ' k = HH M r w o σ k := by
  have z7 := hM.2.2.2.2.2.2.1
  have q : ∀ k, qT M r o σ' k = qT M r o σ k := fun k => by unfold qT; rw [e 26 (by decide)]
  have h : ∀ k, k < 5 → hT M r o σ' k = hT M r o σ k := fun k hk => by unfold hT; rw [e k (by omega), e (5 + k) (by omega), q k]
  have f : fullT M r o σ' = fullT M r o σ := by
    unfold fullT s5; rw [h 0 (by decide), h 1 (by decide), h 2 (by decide), h 3 (by decide), h 4 (by decide)]
  have b : ∀ k, k < 5 → hB M r o σ' k = hB M r o σ k := fun k hk => by
    unfold hB; rw [f, e 24 (by decide)]; exact brk_c hM _ _ _ (by unfold zN; omega) h k hk
  have hd : ∀ k, k < 5 → hdT M r w o σ' k = hdT M r w o σ k := fun k hk => by unfold hdT; rw [f, b k hk, h k hk]
  have bc : ∀ k, k < 5 → bcT M r w o σ' k = bcT M r w o σ k := fun k hk => by unfold bcT; rw [f, b k hk, e 25 (by decide)]
  have pa : ∀ k, k < 5 → paT M r w o σ' k = paT M r w o σ k := fun k hk => by unfold paT; rw [f, b k hk, e 25 (by decide)]
  have b1 : bn1 M r w o σ' = bn1 M r w o σ := by
    unfold bn1 s5; rw [e 20 (by decide), pa 0 (by decide), pa 1 (by decide), pa 2 (by decide), pa 3 (by decide), pa 4 (by decide)]
  have b2 : bn2 M r w o σ' = bn2 M r w o σ := by unfold bn2; rw [b1]
  have dr : drT M r w o σ' = drT M r w o σ := by unfold drT; rw [b2]
  have sp : spT M r o σ' = spT M r o σ := by
    unfold spT s5; dsimp only; rw [f, e 21 (by decide), h 0 (by decide), h 1 (by decide), h 2 (by decide), h 3 (by decide), h 4 (by decide)]
  have ef : efT M r o σ' = efT M r o σ := by unfold efT; rw [f, e 24 (by decide)]
  have pw : pwT M r o σ' = pwT M r o σ := by unfold pwT; rw [f, e 24 (by decide)]
  have sq : s5 (qT M r o σ') = s5 (qT M r o σ) := by unfold s5; rw [q, q, q, q, q]
  intro k hk
  unfold HH
  by_cases c1 : k < 5
  · rw [if_pos c1, if_pos c1, hd k c1]
  rw [if_neg c1, if_neg c1]
  by_cases c2 : k < 10
  · rw [if_pos c2, if_pos c2, bc _ (by omega)]
  rw [if_neg c2, if_neg c2]
  by_cases c3 : k < 15
  · rw [if_pos c3, if_pos c3, pa _ (by omega)]
  rw [if_neg c3, if_neg c3]
  by_cases c4 : k < 20
  · rw [if_pos c4, if_pos c4, pa _ (by omega), e k hk]
  rw [if_neg c4, if_neg c4, b1, b2, dr, sp, ef, pw, sq, f, e 22 (by decide), e 23 (by decide), e 24 (by decide), e 27 (by decide), e 32 (by decide), e 33 (by decide), e k hk]
end CCOPY
