/-! the class's search -/
/-- the drum at a depth -/
def dAt (O : WO) (x i : Nat) : Nat := rf O (rf O (rf O x 8) 0) i
def BIs (I : WI) (O : WO) (p n : Nat) : BBt → Prop
  | none => (I p 5).toInt = 0
  | some (c, j) => ¬ (I p 5).toInt = 0 ∧ (I p 4).toInt = c ∧ j < 4 ^ n ∧ ∀ k, k < n → (I (rf O p 3) k).toInt = (dig n j k : Int)
section CPLAN
variable {P : List Nat} {K : Nat → Nat} {N : Nat} {O : WO} {I : WI} {J : WJ} {M : MM} {w o : Int} {σ : Nat → Int} {x mo : Nat} {Q0 : List Nat}
theorem d_lb {i : Nat} (hi : i < 6) : pLb [i, 0, 8] = some 0 := by
  have : i = 0 ∨ i = 1 ∨ i = 2 ∨ i = 3 ∨ i = 4 ∨ i = 5 := by omega
  rcases this with rfl | rfl | rfl | rfl | rfl | rfl <;> rfl
theorem d_SP (hT : TR P K O) (hx : x ∈ P ∧ K x = 8) (hO : OW Q0 P O x mo) {i : Nat} (hi : i < 6) : SPd O (dAt O x i) (rf O x 1) := by
  have : i = 0 ∨ i = 1 ∨ i = 2 ∨ i = 3 ∨ i = 4 ∨ i = 5 := by omega
  rcases this with rfl | rfl | rfl | rfl | rfl | rfl
  · exact pSP hT hx hO (l := [0, 0, 8]) (m := [1]) rfl rfl (by decide)
  · exact pSP hT hx hO (l := [1, 0, 8]) (m := [1]) rfl rfl (by decide)
  · exact pSP hT hx hO (l := [2, 0, 8]) (m := [1]) rfl rfl (by decide)
  · exact pSP hT hx hO (l := [3, 0, 8]) (m := [1]) rfl rfl (by decide)
  · exact pSP hT hx hO (l := [4, 0, 8]) (m := [1]) rfl rfl (by decide)
  · exact pSP hT hx hO (l := [5, 0, 8]) (m := [1]) rfl rfl (by decide)
theorem d_WD {i : Nat} {b : Nat} (h : WD O (dAt O x i) b) : ∃ p, p ∈ pWD [i, 0, 8] ∧ b = pAt O x p := pWD_o (l := [i, 0, 8]) h
/-- cells of two drums, by their paths -/
theorem d_in {i : Nat} {p : List Nat} (h : p ∈ pWD [i, 0, 8]) : ∃ l, p = l ++ [i, 0, 8] ∧ (l = [] ∨ l = [0, 0] ∨ l = [1, 0] ∨ l = [2, 0] ∨ l = [1]) := by
  simp only [pWD, List.mem_cons, List.not_mem_nil, or_false] at h
  rcases h with h | h | h | h | h
  · exact ⟨[], h, Or.inl rfl⟩
  · exact ⟨[0, 0], h, Or.inr (Or.inl rfl)⟩
  · exact ⟨[1, 0], h, Or.inr (Or.inr (Or.inl rfl))⟩
  · exact ⟨[2, 0], h, Or.inr (Or.inr (Or.inr (Or.inl rfl)))⟩
  · exact ⟨[1], h, Or.inr (Or.inr (Or.inr (Or.inr rfl)))⟩
theorem d_SD (hT : TR P K O) (hx : x ∈ P ∧ K x = 8) (hO : OW Q0 P O x mo) {i j : Nat} (hi : i < 6) (hj : j < 6) (hne : i ≠ j) : SD O (dAt O x i) (dAt O x j) := fun b z z' => by
  obtain ⟨p, p1, p2⟩ := d_WD z
  obtain ⟨q, q1, q2⟩ := d_WD z'
  obtain ⟨κ, k1⟩ := pWD_l (d_lb hi) p1
  obtain ⟨κ', k2⟩ := pWD_l (d_lb hj) q1
  have e := pAt_inj hT hx hO p q κ κ' k1 k2 (p2.symm.trans q2)
  obtain ⟨l, l1, l2⟩ := d_in p1
  obtain ⟨l', l1', l2'⟩ := d_in q1
  rw [l1, l1'] at e
  have e3 := congrArg (fun t => (t.reverse).getD 2 99) e
  rw [List.reverse_append, List.reverse_append] at e3
  exact hne e3
/-- a cell that lies in no drum of the search -/
theorem d_ND (hT : TR P K O) (hx : x ∈ P ∧ K x = 8) (hO : OW Q0 P O x mo) {i : Nat} (hi : i < 6) {p : List Nat} {κ : Nat} (hp : pLb p = some κ) (hd : ∀ l, ¬ p = l ++ [i, 0, 8]) : ¬ WD O (dAt O x i) (pAt O x p) := fun z => by
  obtain ⟨q, q1, q2⟩ := d_WD z
  obtain ⟨κ', k2⟩ := pWD_l (d_lb hi) q1
  have e := pAt_inj hT hx hO p q κ κ' hp k2 q2
  obtain ⟨l, l1, _⟩ := d_in q1
  exact hd l (e.trans l1)
theorem nosuf {p : List Nat} {i : Nat} (h : (p.reverse).getD 1 99 ≠ 0 ∨ (p.reverse).getD 0 99 ≠ 8 ∨ p.length < 3) : ∀ l, ¬ p = l ++ [i, 0, 8] := fun l e => by
  rw [e, List.reverse_append] at h
  rcases h with h | h | h
  · exact h rfl
  · exact h rfl
  · rw [List.length_append] at h
    simp at h
    omega
/-- the cells that a search from a depth on may write -/
def SW (O : WO) (x d b : Nat) : Prop := b = rf O x 8 ∨ b = rf O (rf O x 8) 1 ∨ b = rf O (rf O x 8) 2 ∨ b = rf O (rf O x 8) 3 ∨ ∃ e, d < e ∧ e < 6 ∧ WD O (dAt O x e) b
theorem SW.up {d e b : Nat} (h : SW O x e b) (hd : d ≤ e) : SW O x d b := by
  rcases h with h | h | h | h | ⟨f, f1, f2, f3⟩
  · exact Or.inl h
  · exact Or.inr (Or.inl h)
  · exact Or.inr (Or.inr (Or.inl h))
  · exact Or.inr (Or.inr (Or.inr (Or.inl h)))
  · exact Or.inr (Or.inr (Or.inr (Or.inr ⟨f, by omega, f2, f3⟩)))
set_option maxHeartbeats 4000000 in
theorem c_search {n : Nat} (hN : 8 ≤ N) (hM : MB M) (hw : 0 ≤ w ∧ w ≤ 3) (ho : 0 ≤ o ∧ o < M.1 8) (hT : TR P K O) (hx : x ∈ P ∧ K x = 8) (hO : OW Q0 P O x mo) (hn : n ≤ 5) : ∀ (m d pre : Nat) (σ : Nat → Int) (I : WI) (b : BBt) (x2 x3 : Int32) (Q : WI → Prop), n - d < m → d ≤ n → x2.toInt = (d : Int) → x3.toInt = (n : Int) → CMl I O (rf O x 1) M → DRs I O (dAt O x d) σ → SI M σ → σ 27 + ((n - d : Nat) : Int) ≤ 252 → (I (rf O (rf O x 8) 1) 1).toInt = w → (I (rf O (rf O x 8) 1) 2).toInt = o → pre < 4 ^ d → (∀ k, k < d → (I (rf O (rf O x 8) 2) k).toInt = (dig d pre k : Int)) → BIs I O (rf O x 8) n b → (d = n → ltB (σ 32) b = true) →
    (∀ I', BIs I' O (rf O x 8) n (src M w o (n - d) σ pre b) → (∀ k, ¬ k = 4 → ¬ k = 5 → I' (rf O x 8) k = I (rf O x 8) k) → (∀ k, k < d → I' (rf O (rf O x 8) 2) k = I (rf O (rf O x 8) 2) k) → (∀ k, ¬ k = 0 → I' (rf O (rf O x 8) 1) k = I (rf O (rf O x 8) 1) k) → (∀ c, ¬ SW O x d c → I' c = I c) → Q I') → Wp (lp (B_Pl_search_self N O J) (fun _ _ _ _ _ => none) m (rf O x 8) (rf O x 1) x2 x3 I) Q := by
  have ne := fun {p q : List Nat} {κ κ' : Nat} (a : pLb p = some κ) (b : pLb q = some κ') (c : p ≠ q) => pNe hT hx hO a b c
  have n81 : ¬ rf O (rf O x 8) 1 = rf O x 8 := ne (p := [1, 8]) (q := [8]) rfl rfl (by decide)
  have n82 : ¬ rf O (rf O x 8) 2 = rf O x 8 := ne (p := [2, 8]) (q := [8]) rfl rfl (by decide)
  have n83 : ¬ rf O (rf O x 8) 3 = rf O x 8 := ne (p := [3, 8]) (q := [8]) rfl rfl (by decide)
  have n12 : ¬ rf O (rf O x 8) 1 = rf O (rf O x 8) 2 := ne (p := [1, 8]) (q := [2, 8]) rfl rfl (by decide)
  have n13 : ¬ rf O (rf O x 8) 1 = rf O (rf O x 8) 3 := ne (p := [1, 8]) (q := [3, 8]) rfl rfl (by decide)
  have n23 : ¬ rf O (rf O x 8) 2 = rf O (rf O x 8) 3 := ne (p := [2, 8]) (q := [3, 8]) rfl rfl (by decide)
  have dN : ∀ i, i < 6 → ∀ (p : List Nat) κ, pLb p = some κ → ((p.reverse).getD 1 99 ≠ 0 ∨ (p.reverse).getD 0 99 ≠ 8 ∨ p.length < 3) → ¬ WD O (dAt O x i) (pAt O x p) := fun i hi p κ hp hd => d_ND hT hx hO hi hp (nosuf hd)
  have dp : ∀ i, i < 6 → ¬ WD O (dAt O x i) (rf O x 8) := fun i hi => dN i hi [8] 4 rfl (by decide)
  have d1 : ∀ i, i < 6 → ¬ WD O (dAt O x i) (rf O (rf O x 8) 1) := fun i hi => dN i hi [1, 8] 18 rfl (by decide)
  have d2 : ∀ i, i < 6 → ¬ WD O (dAt O x i) (rf O (rf O x 8) 2) := fun i hi => dN i hi [2, 8] 11 rfl (by decide)
  have d3 : ∀ i, i < 6 → ¬ WD O (dAt O x i) (rf O (rf O x 8) 3) := fun i hi => dN i hi [3, 8] 11 rfl (by decide)
  -- the mill is no cell of the search
  have mS : ∀ d, ¬ SW O x d (rf O x 1) ∧ ∀ j, j < 5 → ¬ SW O x d (rf O (rf O x 1) (10 + j)) := fun d => by
    have go : ∀ (p : List Nat) κ, pLb p = some κ → ¬ p = [8] → ¬ p = [1, 8] → ¬ p = [2, 8] → ¬ p = [3, 8] → ((p.reverse).getD 1 99 ≠ 0 ∨ (p.reverse).getD 0 99 ≠ 8 ∨ p.length < 3) → ¬ SW O x d (pAt O x p) := fun p κ hp a1 a2 a3 a4 hd z => by
      rcases z with z | z | z | z | ⟨e, _, e2, e3⟩
      · exact ne (p := p) (q := [8]) hp rfl a1 z
      · exact ne (p := p) (q := [1, 8]) hp rfl a2 z
      · exact ne (p := p) (q := [2, 8]) hp rfl a3 z
      · exact ne (p := p) (q := [3, 8]) hp rfl a4 z
      · exact dN e e2 p κ hp hd e3
    refine ⟨go [1] 3 rfl (by decide) (by decide) (by decide) (by decide) (by decide), fun j hj => ?_⟩
    have : j = 0 ∨ j = 1 ∨ j = 2 ∨ j = 3 ∨ j = 4 := by omega
    rcases this with rfl | rfl | rfl | rfl | rfl
    · exact go [10, 1] 13 rfl (by decide) (by decide) (by decide) (by decide) (by decide)
    · exact go [11, 1] 11 rfl (by decide) (by decide) (by decide) (by decide) (by decide)
    · exact go [12, 1] 11 rfl (by decide) (by decide) (by decide) (by decide) (by decide)
    · exact go [13, 1] 12 rfl (by decide) (by decide) (by decide) (by decide) (by decide)
    · exact go [14, 1] 14 rfl (by decide) (by decide) (by decide) (by decide) (by decide)
  intro m
  induction m with
  | zero => intro d pre σ I b x2 x3 Q h; omega
  | succ m ih =>
    intro d pre σ I b x2 x3 Q hm hd h2 h3 hml hD hσ h27 hr1 hr2 hpre hrt hB hlf hQ
    show Wp (B_Pl_search_self N O J (lp (B_Pl_search_self N O J) (fun _ _ _ _ _ => none) m) (rf O x 8) (rf O x 1) x2 x3 I) Q
    unfold B_Pl_search_self
    have ex : x2.toInt.toNat = d := tn_i h2
    rw [ex]
    refine Wp.neg (by omega) (Wp.pos (by omega) (Wp.pos (by omega) ?_))
    by_cases e : d = n
    · -- a leaf
      subst e
      refine Wp.jn (Wp.pos (by omega) (Wp.bd1 ?_))
      unfold F_Pl_keepBest
      refine Wp.bd1 (c_copyRow (n := 5) rfl (by decide) (by omega) n23 (fun I1 c1 c2 => Wp_lb (fun I2 e2 => Wp_lb (fun I3 e3 => Wp.ret (Wp.ret ?_)))))
      rw [Nat.sub_self] at hQ
      have c32 : (I (dAt O x d) 15).toInt = σ 32 := hD.2.2.2.2.2.2.2.2.2.2.2.2.2.1
      refine hQ I3 ⟨?_, ?_, hpre, fun k hk => ?_⟩ (fun k k4 k5 => ?_) (fun k hk => ?_) (fun k hk => ?_) (fun c hc => ?_)
      · rw [e3, up2_self, k_1]; decide
      · rw [e3, up2_ne _ _ (fun z => absurd z.2 (by decide)), e2, up2_self]; exact c32
      · rw [e3, up2_row _ _ n83, e2, up2_row _ _ n83, c1 k (by omega)]; exact hrt k hk
      · rw [e3, up2_ne _ _ (fun z => k5 z.2), e2, up2_ne _ _ (fun z => k4 z.2), c2 _ (fun z => n83 z.symm)]
      · rw [e3, up2_row _ _ n82, e2, up2_row _ _ n82, c2 _ n23]
      · rw [e3, up2_row _ _ n81, e2, up2_row _ _ n81, c2 _ n13]
      · rw [e3, up2_row _ _ (fun z => hc (Or.inl z)), e2, up2_row _ _ (fun z => hc (Or.inl z)), c2 c (fun z => hc (Or.inr (Or.inr (Or.inr (Or.inl z)))))]
    · have dn : d < n := by omega
      have y1 := inc1 h2 (by omega)
      have n1 : (x2 + Int32.ofInt 1).toInt.toNat = d + 1 := tn_i y1
      refine Wp.jn (Wp.neg (by omega) (Wp.pos (by omega) (Wp.pos (by omega) ?_)))
      have hrr : n - d = (n - (d + 1)) + 1 := by omega
      have sd := d_SD hT hx hO (i := d + 1) (j := d) (by omega) (by omega) (by omega)
      have sp1 := d_SP hT hx hO (i := d + 1) (by omega)
      have Dn : ∀ I2 : WI, (∀ c, ¬ SW O x d c → I2 c = I c) → DRs I2 O (dAt O x d) σ ∧ CMl I2 O (rf O x 1) M := fun I2 hf => ⟨hD.fr2 (fun c hc => hf c (fun z => by
        rcases z with z | z | z | z | ⟨f, f1, f2, f3⟩
        · rw [z] at hc; exact dp d (by omega) hc
        · rw [z] at hc; exact d1 d (by omega) hc
        · rw [z] at hc; exact d2 d (by omega) hc
        · rw [z] at hc; exact d3 d (by omega) hc
        · exact d_SD hT hx hO (i := f) (j := d) f2 (by omega) (by omega) c f3 hc)), hml.fr (hf _ (mS d).1) (fun j hj => hf _ ((mS d).2 j hj))⟩
      refine forU (n := 4) (fun i I2 => BIs I2 O (rf O x 8) n (srs M w o (src M w o (n - (d + 1))) σ pre i b) ∧ (∀ k, ¬ k = 4 → ¬ k = 5 → I2 (rf O x 8) k = I (rf O x 8) k) ∧ (∀ k, k < d → I2 (rf O (rf O x 8) 2) k = I (rf O (rf O x 8) 2) k) ∧ (∀ k, ¬ k = 0 → I2 (rf O (rf O x 8) 1) k = I (rf O (rf O x 8) 1) k) ∧ (∀ c, ¬ SW O x d c → I2 c = I c)) (by omega) ⟨hB, fun _ _ _ => rfl, fun _ _ => rfl, fun _ _ => rfl, fun _ _ => rfl⟩ ?_ ?_
      · intro rec y i I2 hy hi ⟨v1, v2, v3, v4, v5⟩ kk
        obtain ⟨D2, m2⟩ := Dn I2 v5
        have q := HH_SId (d := i) hM hσ hw ho (by omega) (by omega)
        have h26 := hσ.2.2.2.1
        unfold B_Pl_search_57
        rw [n1, ex]
        refine Wp.neg (by omega) (Wp_lb (fun I3 e3 => ?_))
        have f3 : ∀ c, ¬ c = rf O (rf O x 8) 1 → I3 c = I2 c := fun c hc => by rw [e3, up2_row _ _ hc]
        have D3 : DRs I3 O (dAt O x d) σ := D2.fr2 (fun c hc => f3 c (fun z => d1 d (by omega) (by rw [← z]; exact hc)))
        refine Wp.bd1 (c_copyFrom (d := dAt O x (d + 1)) (e := dAt O x d) (m := rf O x 1) hN sp1 sd D3 h26 (fun I4 g1 g2 => ?_))
        have m4 : CMl I4 O (rf O x 1) M := m2.fr (by rw [g2 _ (fun z => (sp1.2.2 _ z).1 rfl), f3 (rf O x 1) (ne (p := [1]) (q := [1, 8]) rfl rfl (by decide))]) (fun j hj => by
          have nj : ¬ rf O (rf O x 1) (10 + j) = rf O (rf O x 8) 1 := fun z => (mS d).2 j hj (Or.inr (Or.inl z))
          rw [g2 _ (fun z => (sp1.2.2 _ z).2 j hj rfl), f3 _ nj])
        have r0 : (I4 (rf O (rf O x 8) 1) 0).toInt = (i : Int) := by rw [g2 _ (d1 (d + 1) (by omega)), e3, up2_self]; exact hy
        have rk : ∀ k, ¬ k = 0 → I4 (rf O (rf O x 8) 1) k = I (rf O (rf O x 8) 1) k := fun k hk => by rw [g2 _ (d1 (d + 1) (by omega)), e3, up2_ne _ _ (fun z => hk z.2)]; exact v4 k hk
        refine Wp.bd1 (c_runHour (p := 0) (r := (i : Int)) (w := w) (o := o) hN hM ⟨by omega, hw, ho⟩ hσ m4 sp1 (d1 (d + 1) (by omega)) k_0 (by show 0 + 3 ≤ 3; omega) (by decide) r0 (by show (I4 (rf O (rf O x 8) 1) 1).toInt = w; rw [rk 1 (by decide)]; exact hr1) (by show (I4 (rf O (rf O x 8) 1) 2).toInt = o; rw [rk 2 (by decide)]; exact hr2) g1 (fun I5 k1 k2 k3 => ?_))
        have F5 : ∀ c, ¬ c = rf O (rf O x 8) 1 → ¬ WD O (dAt O x (d + 1)) c → I5 c = I2 c := fun c c1 c2 => by rw [k3 c c2, g2 c c2, f3 c c1]
        have S5 : ∀ c, ¬ SW O x d c → I5 c = I c := fun c hc => by
          rw [F5 c (fun z => hc (Or.inr (Or.inl z))) (fun z => hc (Or.inr (Or.inr (Or.inr (Or.inr ⟨d + 1, by omega, by omega, z⟩)))))]; exact v5 c hc
        have p5 : I5 (rf O x 8) = I2 (rf O x 8) := F5 _ (fun z => n81 z.symm) (dp (d + 1) (by omega))
        have b5 : I5 (rf O (rf O x 8) 3) = I2 (rf O (rf O x 8) 3) := F5 _ (fun z => n13 z.symm) (d3 (d + 1) (by omega))
        have t5 : I5 (rf O (rf O x 8) 2) = I2 (rf O (rf O x 8) 2) := F5 _ (fun z => n12 z.symm) (d2 (d + 1) (by omega))
        have w5 : ∀ k, ¬ k = 0 → I5 (rf O (rf O x 8) 1) k = I (rf O (rf O x 8) 1) k := fun k hk => by rw [k3 _ (d1 (d + 1) (by omega))]; exact rk k hk
        have B5 : ∀ bb, BIs I2 O (rf O x 8) n bb → BIs I5 O (rf O x 8) n bb := fun bb hb => by
          cases bb with
          | none => show (I5 (rf O x 8) 5).toInt = 0; rw [p5]; exact hb
          | some cj =>
            obtain ⟨q1, q2, q3, q4⟩ := hb
            exact ⟨by rw [p5]; exact q1, by rw [p5]; exact q2, q3, fun k hk => by rw [b5]; exact q4 k hk⟩
        have c26 : (I5 (dAt O x (d + 1)) 5).toInt = HH M (i : Int) w o σ 26 := k1.2.2.2.2.2.2.2.1
        have c32 : (I5 (dAt O x (d + 1)) 15).toInt = HH M (i : Int) w o σ 32 := k1.2.2.2.2.2.2.2.2.2.2.2.2.2.1
        have e23 : HH M (i : Int) w o σ 23 = σ 23 + (M.1 6 - drT M (i : Int) w o σ) := rfl
        -- leave it
        have skip : ¬ (wel M w o σ i = true ∧ ltB (HH M (i : Int) w o σ 32) (srs M w o (src M w o (n - (d + 1))) σ pre i b) = true) → Wp (lb (y + Int32.ofInt 1) fun v6 => rec v6 I5) Q := fun hc => Wp.lb (kk _ I5 (inc1 hy (by omega)) ⟨by
          show BIs I5 O (rf O x 8) n (if wel M w o σ i = true ∧ ltB (HH M (i : Int) w o σ 32) (srs M w o (src M w o (n - (d + 1))) σ pre i b) = true then _ else srs M w o (src M w o (n - (d + 1))) σ pre i b)
          rw [if_neg hc]; exact B5 _ v1, fun k a4 a5 => by rw [p5]; exact v2 k a4 a5, fun k hk => by rw [t5]; exact v3 k hk, w5, S5⟩)
        -- take it
        have take : wel M w o σ i = true → ltB (HH M (i : Int) w o σ 32) (srs M w o (src M w o (n - (d + 1))) σ pre i b) = true → Wp (if 0 ≤ x2.toInt ∧ x2.toInt < 5 then (lb (up2 I5 (rf O (rf O x 8) 2) d y) fun I6 => bd1 (lp (B_Pl_search_self N O J) (fun _ _ _ _ _ => none) m (rf O x 8) (rf O x 1) (x2 + Int32.ofInt 1) x3 I6) fun I7 => lb (y + Int32.ofInt 1) fun v6 => rec v6 I7) else none) Q := fun hwl hlt => by
          refine Wp.pos (by omega) (Wp_lb (fun I6 e6 => Wp.bd1 ?_))
          have f6 : ∀ c, ¬ c = rf O (rf O x 8) 2 → I6 c = I5 c := fun c hc => by rw [e6, up2_row _ _ hc]
          have m6 : CMl I6 O (rf O x 1) M := (Dn I5 S5).2.fr (f6 _ (ne (p := [1]) (q := [2, 8]) rfl rfl (by decide))) (fun j hj => f6 _ (fun z => (mS d).2 j hj (Or.inr (Or.inr (Or.inl z)))))
          have D6 : DRs I6 O (dAt O x (d + 1)) (HH M (i : Int) w o σ) := k1.fr2 (fun c hc => f6 c (fun z => d2 (d + 1) (by omega) (by rw [← z]; exact hc)))
          have p6 : I6 (rf O x 8) = I2 (rf O x 8) := by rw [f6 _ (fun z => n82 z.symm), p5]
          have b6 : I6 (rf O (rf O x 8) 3) = I2 (rf O (rf O x 8) 3) := by rw [f6 _ (fun z => n23 z.symm), b5]
          have B6 : BIs I6 O (rf O x 8) n (srs M w o (src M w o (n - (d + 1))) σ pre i b) := by
            have hb := v1
            cases hbb : srs M w o (src M w o (n - (d + 1))) σ pre i b with
            | none => rw [hbb] at hb; show (I6 (rf O x 8) 5).toInt = 0; rw [p6]; exact hb
            | some cj =>
              rw [hbb] at hb
              obtain ⟨q1, q2, q3, q4⟩ := hb
              exact ⟨by rw [p6]; exact q1, by rw [p6]; exact q2, q3, fun k hk => by rw [b6]; exact q4 k hk⟩
          have hp4 : pre < 4 ^ d := hpre
          refine ih (d + 1) (4 * pre + i) (HH M (i : Int) w o σ) I6 (srs M w o (src M w o (n - (d + 1))) σ pre i b) _ x3 _ (by omega) (by omega) y1 h3 m6 D6 q.1 (by rw [q.2]; omega) (by rw [f6 _ n12, w5 1 (by decide)]; exact hr1) (by rw [f6 _ n12, w5 2 (by decide)]; exact hr2) (by rw [Nat.pow_succ]; omega) (fun k hk => ?_) B6 (fun _ => hlt) (fun I7 j1 j2 j3 j4 j5 => ?_)
          · rw [e6]
            by_cases ek : k = d
            · subst ek
              rw [up2_self, hy]
              unfold dig
              rw [show k + 1 - 1 - k = 0 by omega, Nat.pow_zero, Nat.div_one]
              omega
            · rw [up2_ne _ _ (fun z => ek z.2), t5, v3 k (by omega), hrt k (by omega)]
              unfold dig
              rw [show d + 1 - 1 - k = (d - 1 - k) + 1 by omega, Nat.pow_succ, Nat.mul_comm (4 ^ (d - 1 - k)) 4, ← Nat.div_div_eq_div_mul, show (4 * pre + i) / 4 = pre by omega]
          · refine Wp.lb (kk _ I7 (inc1 hy (by omega)) ⟨?_, fun k a4 a5 => ?_, fun k hk => ?_, fun k hk => ?_, fun c hc => ?_⟩)
            · show BIs I7 O (rf O x 8) n (if wel M w o σ i = true ∧ ltB (HH M (i : Int) w o σ 32) (srs M w o (src M w o (n - (d + 1))) σ pre i b) = true then src M w o (n - (d + 1)) (HH M (i : Int) w o σ) (4 * pre + i) (srs M w o (src M w o (n - (d + 1))) σ pre i b) else _)
              rw [if_pos ⟨hwl, hlt⟩]; exact j1
            · rw [j2 k a4 a5, p6]; exact v2 k a4 a5
            · rw [j3 k (by omega), e6, up2_ne _ _ (fun z => by omega), t5]; exact v3 k hk
            · rw [j4 k hk, f6 _ n12]; exact w5 k hk
            · rw [j5 c (fun z => hc (z.up (by omega))), f6 c (fun z => hc (Or.inr (Or.inr (Or.inl z))))]; exact S5 c hc
        unfold F_Dr_wentWell
        have wi : wel M w o σ i = true ↔ HH M (i : Int) w o σ 26 = 0 ∧ M.1 6 - drT M (i : Int) w o σ = 0 := by
          unfold wel
          rw [Bool.and_eq_true, decide_eq_true_iff, decide_eq_true_iff, e23]
          constructor
          · rintro ⟨a1, a2⟩; exact ⟨a1, by omega⟩
          · rintro ⟨a1, a2⟩; exact ⟨a1, by omega⟩
        have z0 : (wel M w o σ i = true → Wp (jn (if 0 ≤ x2.toInt ∧ x2.toInt < 5 then (lb (up2 I5 (rf O (rf O x 8) 2) d y) fun I6 => bd1 (lp (B_Pl_search_self N O J) (fun _ _ _ _ _ => none) m (rf O x 8) (rf O x 1) (x2 + Int32.ofInt 1) x3 I6) fun I7 => lb (y + Int32.ofInt 1) fun v6 => rec v6 I7) else none) fun k_121 => if (I5 (rf O x 8) 5).toInt = 0 then k_121 else (if (I5 (rf O x 8) 4).toInt ≤ (I5 (dAt O x (d + 1)) 15).toInt then (lb (y + Int32.ofInt 1) fun v6 => rec v6 I5) else k_121)) Q) := fun hwl => by
          refine Wp.jn ?_
          have hb := B5 _ v1
          cases hbb : srs M w o (src M w o (n - (d + 1))) σ pre i b with
          | none =>
            rw [hbb] at hb
            exact Wp.pos hb (take hwl (by rw [hbb]; rfl))
          | some cj =>
            rw [hbb] at hb
            obtain ⟨q1, q2, q3, q4⟩ := hb
            refine Wp.neg q1 ?_
            rw [q2, c32]
            by_cases el : HH M (i : Int) w o σ 32 < cj.1
            · exact Wp.neg (by omega) (take hwl (by rw [hbb]; exact decide_eq_true el))
            · refine Wp.pos (by omega) (skip (fun z => ?_))
              have z2 := z.2
              rw [hbb] at z2
              exact el (of_decide_eq_true z2)
        have no : ¬ wel M w o σ i = true → Wp (lb (y + Int32.ofInt 1) fun v6 => rec v6 I5) Q := fun h => skip (fun z => h z.1)
        refine Wp.bd1 ?_
        by_cases w1 : HH M (i : Int) w o σ 26 = 0
        · refine Wp.pos (by show (I5 (dAt O x (d + 1)) 5).toInt = 0; omega) ?_
          by_cases w2 : M.1 6 - drT M (i : Int) w o σ = 0
          · refine Wp.pos (by show (I5 (dAt O x (d + 1)) 11).toInt = 0; exact k2.trans w2) (Wp.ret (Wp.jn (Wp.neg (by rw [k_1]; decide) (z0 (wi.mpr ⟨w1, w2⟩)))))
          · refine Wp.neg (by show ¬ (I5 (dAt O x (d + 1)) 11).toInt = 0; exact fun z => w2 (k2.symm.trans z)) (Wp.ret (Wp.jn (Wp.pos k_0 (no (fun z => w2 (wi.mp z).2)))))
        · refine Wp.neg (by show ¬ (I5 (dAt O x (d + 1)) 5).toInt = 0; omega) (Wp.ret (Wp.jn (Wp.pos k_0 (no (fun z => w1 (wi.mp z).1)))))
      · intro rec y I2 hy ⟨v1, v2, v3, v4, v5⟩
        unfold B_Pl_search_57
        rw [hrr] at hQ
        exact Wp.pos (by omega) (Wp.ret (hQ I2 v1 v2 v3 v4 v5))
end CPLAN
