/-! plan, whole: the class and the reference -/
section PLANW
variable {M : MM} {w o : Int} {σ : Nat → Int}
theorem pth_SI (hM : MB M) (hw : 0 ≤ w ∧ w ≤ 3) (ho : 0 ≤ o ∧ o < M.1 8) : ∀ (r s : Nat) (σ τ : Nat → Int), SI M σ → σ 27 + r ≤ 252 → s < 4 ^ r → pth M w o r s σ = some τ → SI M τ ∧ τ 27 = σ 27 + r
  | 0, s, σ, τ, h1, _, _, h => by cases h; exact ⟨h1, by show σ 27 = σ 27 + ((0 : Nat) : Int); omega⟩
  | r + 1, s, σ, τ, hσ, h27, hs, h => by
    unfold pth at h
    have p := p4 r
    rw [Nat.pow_succ] at hs
    have hd : s / 4 ^ r ≤ 3 := by
      have : s / 4 ^ r < 4 := Nat.div_lt_of_lt_mul (by omega)
      omega
    by_cases e : wel M w o σ (s / 4 ^ r) = true
    · rw [if_pos e] at h
      have q := HH_SId hM hσ hw ho hd (by omega)
      have ih := pth_SI hM hw ho r (s % 4 ^ r) _ τ q.1 (by rw [q.2]; omega) (Nat.mod_lt _ p) h
      exact ⟨ih.1, by rw [ih.2, q.2]; omega⟩
    · rw [if_neg e] at h; cases h
theorem fol_ex {r B : Nat} {c : Int} {j : Nat} : ∀ m, fol M w o r σ B m none = some (c, j) → ∃ s τ, s < m ∧ j = B + s ∧ pth M w o r s σ = some τ ∧ c = τ 32
  | 0, h => by cases h
  | m + 1, h => by
    have h' : updB (fol M w o r σ B m none) (B + m) (pth M w o r m σ) = some (c, j) := h
    have old : fol M w o r σ B m none = some (c, j) → ∃ s τ, s < m + 1 ∧ j = B + s ∧ pth M w o r s σ = some τ ∧ c = τ 32 := fun z => by
      obtain ⟨s, τ, a1, a2, a3, a4⟩ := fol_ex m z
      exact ⟨s, τ, by omega, a2, a3, a4⟩
    cases e : pth M w o r m σ with
    | none => rw [e] at h'; exact old h'
    | some τ =>
      rw [e] at h'
      have h2 : (if ltB (τ 32) (fol M w o r σ B m none) = true then some (τ 32, B + m) else fol M w o r σ B m none) = some (c, j) := h'
      by_cases l : ltB (τ 32) (fol M w o r σ B m none) = true
      · rw [if_pos l] at h2
        injection h2 with h3
        injection h3 with h4 h5
        exact ⟨m, τ, by omega, h5.symm, e, h4.symm⟩
      · rw [if_neg l] at h2; exact old h2
theorem plB_b (hM : MB M) (hw : 0 ≤ w ∧ w ≤ 3) (ho : 0 ≤ o ∧ o < M.1 8) (hσ : SI M σ) {n : Nat} (h27 : σ 27 + n ≤ 252) {c : Int} {j : Nat} (h : plB M w o σ n = some (c, j)) : j < 4 ^ n ∧ σ 32 ≤ c ∧ c ≤ 60000000 ∧ 0 ≤ σ 32 := by
  obtain ⟨s, τ, a1, a2, a3, a4⟩ := fol_ex _ h
  have q1 := pth_32 hM hw ho n s σ τ hσ h27 a1 a3
  have q2 := pth_SI hM hw ho n s σ τ hσ h27 a1 a3
  have q3 := q2.1.2.2.2.2.2.2.2.2.1 32 (by omega)
  have q4 := hσ.2.2.2.2.2.2.2.2.1 32 (by omega)
  have q5 := q2.1.2.2.2.2.1
  exact ⟨by omega, by omega, by omega, q4.1⟩
end PLANW
/-- what plan answers, and what it leaves of the rates -/
def plQ (c : Prop) (x1 : Int32) (b : BBt) (s32 : Int) (kept : Prop) (rates : Nat → Nat → Prop) (z : Int32) : Prop := ((c ∨ x1.toInt < 1 ∨ 5 < x1.toInt) ∧ z.toInt = -1 ∧ kept) ∨ (¬ c ∧ 1 ≤ x1.toInt ∧ x1.toInt ≤ 5 ∧ b = none ∧ z.toInt = -1 ∧ kept) ∨ (¬ c ∧ 1 ≤ x1.toInt ∧ x1.toInt ≤ 5 ∧ ∃ v j, b = some (v, j) ∧ z.toInt = v - s32 ∧ 0 ≤ v - s32 ∧ rates x1.toInt.toNat j)
section CPL
variable {P : List Nat} {K : Nat → Nat} {N : Nat} {O : WO} {I : WI} {J : WJ} {M : MM} {w o : Int} {σ : Nat → Int} {x mo : Nat} {Q0 : List Nat}
theorem c_planP {x1 : Int32} (hN : 38 ≤ N) (hT : TR P K O) (hx : x ∈ P ∧ K x = 8) (hO : OW Q0 P O x mo) (hD : DRs I O (rf O x 3) σ) (h1 : (I (rf O x 4) 1).toInt = w) (h2 : (I (rf O x 4) 2).toInt = o) (h26 : σ 26 = 0 ∨ σ 26 = 1) (hm : ¬ (I (rf O x 1) 7).toInt = 0 → MB M ∧ CMl I O (rf O x 1) M ∧ (0 ≤ w ∧ w ≤ 3) ∧ (0 ≤ o ∧ o < M.1 8) ∧ SI M σ ∧ σ 27 ≤ 240) : Pp (F_RM_plan N O I J x x1) (fun q => plQ ((I (rf O x 1) 7).toInt = 0) x1 (plB M w o σ x1.toInt.toNat) (σ 32) (q.2 (rf O x 8) 7 = I (rf O x 8) 7 ∧ q.2 (rf O (rf O x 8) 6) = I (rf O (rf O x 8) 6)) (fun n j => (q.2 (rf O x 8) 7).toInt = (n : Int) ∧ ∀ k, k < n → (q.2 (rf O (rf O x 8) 6) k).toInt = (dig n j k : Int)) q.1) := by
  have ne := fun {p q : List Nat} {κ κ' : Nat} (a : pLb p = some κ) (b : pLb q = some κ') (c : p ≠ q) => pNe hT hx hO a b c
  have n8x : ¬ rf O x 8 = x := ne (p := [8]) (q := []) rfl rfl (by decide)
  have n6x : ¬ rf O (rf O x 8) 6 = x := ne (p := [6, 8]) (q := []) rfl rfl (by decide)
  have rj : ∀ (w' : Int32) (I1 : WI), I1 (rf O x 8) 7 = I (rf O x 8) 7 → I1 (rf O (rf O x 8) 6) = I (rf O (rf O x 8) 6) → (((I (rf O x 1) 7).toInt = 0 ∨ x1.toInt < 1 ∨ 5 < x1.toInt) ∨ (¬ (I (rf O x 1) 7).toInt = 0 ∧ 1 ≤ x1.toInt ∧ x1.toInt ≤ 5 ∧ plB M w o σ x1.toInt.toNat = none)) → Pp (bd2 (F_RM_refuse N O I1 J x w') fun z I2 => some (z, I2)) (fun q => plQ ((I (rf O x 1) 7).toInt = 0) x1 (plB M w o σ x1.toInt.toNat) (σ 32) (q.2 (rf O x 8) 7 = I (rf O x 8) 7 ∧ q.2 (rf O (rf O x 8) 6) = I (rf O (rf O x 8) 6)) (fun n j => (q.2 (rf O x 8) 7).toInt = (n : Int) ∧ ∀ k, k < n → (q.2 (rf O (rf O x 8) 6) k).toInt = (dig n j k : Int)) q.1) := fun w' I1 k1 k2 hc => by
    unfold F_RM_refuse
    refine Ppc2 (Pp_lb (fun I2 e2 => Pp.ret (Pp.ret ?_)))
    have kp : I2 (rf O x 8) 7 = I (rf O x 8) 7 ∧ I2 (rf O (rf O x 8) 6) = I (rf O (rf O x 8) 6) := ⟨by rw [e2, up2_row _ _ n8x]; exact k1, by rw [e2, up2_row _ _ n6x]; exact k2⟩
    rcases hc with hc | ⟨a1, a2, a3, a4⟩
    · exact Or.inl ⟨hc, ofI (by decide), kp⟩
    · exact Or.inr (Or.inl ⟨a1, a2, a3, a4, ofI (by decide), kp⟩)
  unfold F_RM_plan F_RM_noMill F_RM_isPlanLength
  refine Ppc1 (Pp.ite (fun c => Pp.ret (Pp.ite (fun q => absurd q (by rw [k_1]; decide)) (fun _ => rj _ I rfl rfl (Or.inl (Or.inl c))))) (fun c => Pp.ret (Pp.ite (fun _ => ?_) (fun q => absurd k_0 q))))
  refine Ppc1 (Pp.ite (fun h => Pp.ret (Pp.ite (fun _ => rj _ I rfl rfl (Or.inl (by omega))) (fun q => absurd k_0 q))) (fun h3 => Pp.ite (fun h => Pp.ret (Pp.ite (fun _ => rj _ I rfl rfl (Or.inl (by omega))) (fun q => absurd k_0 q))) (fun h4 => Pp.ret (Pp.ite (fun q => absurd q (by rw [k_1]; decide)) (fun _ => ?_)))))
  obtain ⟨m1, m2, m3, m4, m5, m6⟩ := hm c
  have zt : (Int32.ofInt 0).toInt.toNat = 0 := by rw [k_0]; rfl
  have n81 : ¬ rf O (rf O x 8) 1 = rf O x 8 := ne (p := [1, 8]) (q := [8]) rfl rfl (by decide)
  have n86 : ¬ rf O (rf O x 8) 6 = rf O x 8 := ne (p := [6, 8]) (q := [8]) rfl rfl (by decide)
  have n36 : ¬ rf O (rf O x 8) 3 = rf O (rf O x 8) 6 := ne (p := [3, 8]) (q := [6, 8]) rfl rfl (by decide)
  have n41 : ¬ rf O x 4 = rf O (rf O x 8) 1 := ne (p := [4]) (q := [1, 8]) rfl rfl (by decide)
  have dN : ∀ (p : List Nat) κ, pLb p = some κ → ((p.reverse).getD 1 99 ≠ 0 ∨ (p.reverse).getD 0 99 ≠ 8 ∨ p.length < 3) → ∀ i, i < 6 → ¬ WD O (dAt O x i) (pAt O x p) := fun p κ hp hd i hi => d_ND hT hx hO hi hp (nosuf hd)
  have nSW : ∀ (p : List Nat) κ, pLb p = some κ → ¬ p = [8] → ¬ p = [1, 8] → ¬ p = [2, 8] → ¬ p = [3, 8] → ((p.reverse).getD 1 99 ≠ 0 ∨ (p.reverse).getD 0 99 ≠ 8 ∨ p.length < 3) → ¬ SW O x 0 (pAt O x p) := fun p κ hp a1 a2 a3 a4 hd z => by
    rcases z with z | z | z | z | ⟨e, _, e2, e3⟩
    · exact ne (p := p) (q := [8]) hp rfl a1 z
    · exact ne (p := p) (q := [1, 8]) hp rfl a2 z
    · exact ne (p := p) (q := [2, 8]) hp rfl a3 z
    · exact ne (p := p) (q := [3, 8]) hp rfl a4 z
    · exact dN p κ hp hd e e2 e3
  have sp0 := d_SP hT hx hO (i := 0) (by decide)
  have sd0 : SD O (dAt O x 0) (rf O x 3) := pSD hT hx hO (l := [0, 0, 8]) (l' := [3]) rfl rfl (by decide)
  unfold F_Pl_findCheapest
  rw [zt]
  refine Ppc2 (Wp.pp (Wp.bd1 (c_copyFrom (d := dAt O x 0) (e := rf O x 3) (m := rf O x 1) (by omega) sp0 sd0 hD h26 (fun I1 a1 a2 => Wp.bd1 (c_copyRow (n := 3) rfl (by decide) (by omega) n41 (fun I2 b1 b2 => Wp_lb (fun I3 e3 => Wp.bd1 ?_)))))))
  have f3 : ∀ b, ¬ b = rf O x 8 → I3 b = I2 b := fun b hb => by rw [e3, up2_row _ _ hb]
  have o1 : ∀ (p : List Nat) κ, pLb p = some κ → ¬ p = [8] → ¬ p = [1, 8] → ((p.reverse).getD 1 99 ≠ 0 ∨ (p.reverse).getD 0 99 ≠ 8 ∨ p.length < 3) → I3 (pAt O x p) = I (pAt O x p) := fun p κ hp p8 p18 hd => by
    rw [f3 _ (ne (p := p) (q := [8]) hp rfl p8), b2 _ (ne (p := p) (q := [1, 8]) hp rfl p18), a2 _ (dN p κ hp hd 0 (by decide))]
  have ml3 : CMl I3 O (rf O x 1) M := m2.fr (o1 [1] 3 rfl (by decide) (by decide) (by decide)) (fun j hj => by
    have : j = 0 ∨ j = 1 ∨ j = 2 ∨ j = 3 ∨ j = 4 := by omega
    rcases this with rfl | rfl | rfl | rfl | rfl
    · exact o1 [10, 1] 13 rfl (by decide) (by decide) (by decide)
    · exact o1 [11, 1] 11 rfl (by decide) (by decide) (by decide)
    · exact o1 [12, 1] 11 rfl (by decide) (by decide) (by decide)
    · exact o1 [13, 1] 12 rfl (by decide) (by decide) (by decide)
    · exact o1 [14, 1] 14 rfl (by decide) (by decide) (by decide))
  have D3 : DRs I3 O (dAt O x 0) σ := a1.fr2 (fun b hb => by
    have n1 : ¬ b = rf O x 8 := fun z => dN [8] 4 rfl (by decide) 0 (by decide) (by rw [← show b = pAt O x [8] from z]; exact hb)
    have n2 : ¬ b = rf O (rf O x 8) 1 := fun z => dN [1, 8] 18 rfl (by decide) 0 (by decide) (by rw [← show b = pAt O x [1, 8] from z]; exact hb)
    rw [f3 b n1, b2 b n2])
  have d4 : ¬ WD O (dAt O x 0) (rf O x 4) := dN [4] 18 rfl (by decide) 0 (by decide)
  have r1 : (I3 (rf O (rf O x 8) 1) 1).toInt = w := by rw [f3 _ n81, b1 1 (by decide), a2 _ d4]; exact h1
  have r2 : (I3 (rf O (rf O x 8) 1) 2).toInt = o := by rw [f3 _ n81, b1 2 (by decide), a2 _ d4]; exact h2
  have hn : x1.toInt = (x1.toInt.toNat : Int) := by omega
  unfold F_Pl_search
  refine c_search (n := x1.toInt.toNat) (by omega) m1 m3 m4 hT hx hO (by omega) 7 0 0 σ I3 none (Int32.ofInt 0) x1 _ (by omega) (by omega) k_0 hn ml3 D3 m5 (by omega) r1 r2 (by rw [Nat.pow_zero]; decide) (fun k hk => absurd hk (Nat.not_lt_zero _)) (by show (I3 (rf O x 8) 5).toInt = 0; rw [e3, up2_self]; exact k_0) (fun z => by omega) (fun I4 j1 j2 j3 j4 j5 => ?_)
  rw [Nat.sub_zero, plB_s m1 m3 m4 m5 (by omega) (by omega)] at j1
  have k67 : I4 (rf O x 8) 7 = I (rf O x 8) 7 := by
    rw [j2 7 (by decide) (by decide), e3, up2_ne _ _ (fun z => absurd z.2 (by decide)), b2 _ (fun z => n81 z.symm), a2 (rf O x 8) (dN [8] 4 rfl (by decide) 0 (by decide))]
  have k66 : I4 (rf O (rf O x 8) 6) = I (rf O (rf O x 8) 6) := by
    rw [j5 (rf O (rf O x 8) 6) (nSW [6, 8] 11 rfl (by decide) (by decide) (by decide) (by decide) (by decide))]
    exact o1 [6, 8] 11 rfl (by decide) (by decide) (by decide)
  have k315 : I4 (rf O x 3) = I (rf O x 3) := by
    rw [j5 (rf O x 3) (nSW [3] 0 rfl (by decide) (by decide) (by decide) (by decide) (by decide))]
    exact o1 [3] 0 rfl (by decide) (by decide) (by decide)
  cases hb : plB M w o σ x1.toInt.toNat with
  | none =>
    rw [hb] at j1
    refine Wp.pos j1 (Wp.ret ?_)
    show Pp (if (Int32.ofInt (-1)).toInt = (-1) then _ else _) _
    refine Pp.ite (fun _ => ?_) (fun q => absurd (ofI (by decide)) q)
    rw [← hb]
    exact rj _ I4 k67 k66 (Or.inr ⟨c, by omega, by omega, hb⟩)
  | some cj =>
    obtain ⟨v, j⟩ := cj
    rw [hb] at j1
    obtain ⟨q1, q2, q3, q4⟩ := j1
    have bb := plB_b m1 m3 m4 m5 (by omega) hb
    refine Wp.neg q1 (Wp.bd1 (c_copyRow (n := 5) rfl (by decide) (by omega) n36 (fun I5 g1 g2 => Wp_lb (fun I6 e6 => Wp.ret ?_))))
    have c32 : (I (rf O x 3) 15).toInt = σ 32 := hD.2.2.2.2.2.2.2.2.2.2.2.2.2.1
    have n38 : ¬ rf O x 3 = rf O x 8 := ne (p := [3]) (q := [8]) rfl rfl (by decide)
    have n36' : ¬ rf O x 3 = rf O (rf O x 8) 6 := ne (p := [3]) (q := [6, 8]) rfl rfl (by decide)
    have zz : (I6 (rf O x 8) 4 - I6 (rf O x 3) 15).toInt = v - σ 32 := by
      refine t_sub ?_ ?_ (by omega)
      · rw [e6, up2_ne _ _ (fun z => absurd z.2 (by decide)), g2 _ (fun z => n86 z.symm)]; exact q2
      · rw [e6, up2_row _ _ n38, g2 _ n36', k315]; exact c32
    show Pp (if (I6 (rf O x 8) 4 - I6 (rf O x 3) 15).toInt = (-1) then _ else _) _
    refine Pp.ite (fun q => by rw [zz] at q; omega) (fun _ => ?_)
    unfold F_RM_accept
    refine Ppc2 (Pp_lb (fun I7 e7 => Pp.ret (Pp.ret (Or.inr (Or.inr ⟨c, by omega, by omega, v, j, rfl, zz, by omega, ?_, fun k hk => ?_⟩)))))
    · show (I7 (rf O x 8) 7).toInt = _
      rw [e7, up2_row _ _ n8x, e6, up2_self]; exact hn
    · show (I7 (rf O (rf O x 8) 6) k).toInt = _
      rw [e7, up2_row _ _ n6x, e6, up2_row _ _ n86, g1 k (by omega)]; exact q4 k hk
end CPL
