/-! fits, fitAt, certain, swapped: the reference -/
def RFi (I : WI) (O : WO) (a : Nat) (M : MM) (c : CO) (q : SQs) (n : Nat) : Prop := RMl I O (rf O a 3) M ∧ PCr I O a c ∧ RSn I O a q n
def SRa (O : WO) (a : Nat) : Prop := SR O (rf O a 3) (rf O a 17) ∧ SR O (rf O a 3) (rf O a 28) ∧ SR O (rf O a 3) a
def SRb (O : WO) (a : Nat) : Prop := (∀ f, f = 20 ∨ f = 21 ∨ f = 22 ∨ f = 24 ∨ f = 25 ∨ f = 26 ∨ f = 27 ∨ f = 28 → ¬ rf O a f = rf O a 17) ∧ (∀ f, f = 20 ∨ f = 21 ∨ f = 22 ∨ f = 24 ∨ f = 25 ∨ f = 26 ∨ f = 27 → ¬ rf O a f = rf O a 28) ∧ (∀ f, f = 17 ∨ f = 20 ∨ f = 21 ∨ f = 22 ∨ f = 24 ∨ f = 25 ∨ f = 26 ∨ f = 27 ∨ f = 28 → ¬ rf O a f = a)
def pG (M : MM) (c : CO) (q : SQs) (n : Nat) (l o : Int) (st : Nat) : Bool := agB M c q l o st n
section RFITS
variable {N : Nat} {O : WO} {I : WI} {J : WJ} {M : MM} {c : CO} {q : SQs} {n : Nat} {a : Nat} {l o : Int}
theorem RFi.f {I2 : WI} (h : RFi I O a M c q n) (sa : SRa O a) (sb : SRb O a) (ha : I2 a 23 = I a 23) (f : ∀ b, ¬ b = rf O a 17 → ¬ b = rf O a 28 → ¬ b = a → I2 b = I b) : RFi I2 O a M c q n := by
  obtain ⟨s1, s2, s3⟩ := sa
  obtain ⟨b1, b2, b3⟩ := sb
  have k : ∀ g, (g = 20 ∨ g = 21 ∨ g = 22 ∨ g = 24 ∨ g = 25 ∨ g = 26 ∨ g = 27) → I2 (rf O a g) = I (rf O a g) := fun g hg => f _ (b1 g (by omega)) (b2 g (by omega)) (b3 g (by omega))
  obtain ⟨h1, h2, h3⟩ := h
  refine ⟨h1.fr2 (f _ s1.1 s2.1 s3.1) (fun j hj => f _ (s1.2 j hj) (s2.2 j hj) (s3.2 j hj)), ?_, ?_⟩
  · unfold PCr; rw [k 20 (by omega), k 21 (by omega), k 22 (by omega)]; exact h2
  · unfold RSn; rw [ha, k 24 (by omega), k 25 (by omega), k 26 (by omega), k 27 (by omega)]; exact h3
theorem r_allF {x1 x2 : Int32} {Q : Int32 × WI → Prop} (hN : 200 ≤ N) (hM : MB M) (hc : CV M c) (hb : SNb q n (M.1 7)) (h : RFi I O a M c q n) (sa : SRa O a) (sb : SRb O a) (h2 : x1.toInt = l) (h3 : x2.toInt = o) (hl : (-1 ≤ l ∧ l ≤ 11) ∧ -1 ≤ o ∧ o ≤ 11) (hlo : (0 ≤ l ∧ 0 ≤ o) ∨ (l = -1 ∧ o = -1))
    (hQ : ∀ (z : Int32) I', z.toInt = (scn (pG M c q n l o) 100 : Int) → FTs I' (rf O a 28) (pG M c q n l o) 100 → RFi I' O a M c q n → I' a = I a → Q (z, I')) : Wp (F_Mo_allFits N O I J a x1 x2) Q := by
  obtain ⟨s1, s2, s3⟩ := id sa
  obtain ⟨b1, b2, b3⟩ := id sb
  refine r_allFits (q := q) (n := n) (l := l) (o := o) hN hM hc h.1 s1 s2 (b1 20 (by omega)) (b1 21 (by omega)) (b1 22 (by omega)) b2 (b1 28 (by omega)) h.2.1 h.2.2 hb (fun z => b3 17 (by omega) z.symm) (fun z => b3 28 (by omega) z.symm) (fun f hf => b1 f (by omega)) h2 h3 hl hlo (fun z I' u1' u2 u3 => hQ z I' u1' u2 (h.f sa sb ?_ (fun b c1 c2 _ => u3 b c1 c2)) ?_)
  · rw [u3 a (fun z => b3 17 (by omega) z.symm) (fun z => b3 28 (by omega) z.symm)]
  · exact u3 a (fun z => b3 17 (by omega) z.symm) (fun z => b3 28 (by omega) z.symm)
theorem pG_F (hb : SNb q n (M.1 7)) : pG M c q n (-1) (-1) = pF M c q n := by
  funext st
  exact (agB_id hb).symm
def RHy (I : WI) (O : WO) (a : Nat) (M : MM) (c : CO) (q : SQs) (n : Nat) : Prop := MB M ∧ CV M c ∧ SNb q n (M.1 7) ∧ RFi I O a M c q n ∧ SRa O a
theorem k_m1y : (Int32.ofInt (-1)).toInt = -1 := ofI (by decide)
theorem RHy.t {v : Int32} (h : RHy I O a M c q n) (sb : SRb O a) : RFi (up2 I a 0 v) O a M c q n := h.2.2.2.1.f h.2.2.2.2 sb (up2_ne _ _ (fun z => absurd z.2 (by decide))) (fun b _ _ c3 => up2_row _ _ c3)
theorem r_fitsP (hN : 200 ≤ N) (sb : SRb O a) (hm : ¬ O a 3 = none → RHy I O a M c q n) : Pp (F_Mo_fits N O I J a) (fun r => (O a 3 = none ∧ r.1.toInt = -1) ∨ (¬ O a 3 = none ∧ r.1.toInt = (scn (pF M c q n) 100 : Int))) := by
  unfold F_Mo_fits
  refine Pp_lb (fun I1 e1 => Pp.ite (fun c0 => ?_) (fun c0 => ?_))
  · unfold F_Mo_refused
    exact Ppc2 (Pp_lb (fun I2 e2 => Pp_lb (fun I3 e3 => Pp.ret (Pp.ret (Or.inl ⟨c0, ofI (by decide)⟩)))))
  · have h := hm c0
    have r1 := h.t (v := Int32.ofInt 0) sb
    rw [← e1] at r1
    refine Wp.pp (Wp.bd2 (r_allF hN h.1 h.2.1 h.2.2.1 r1 h.2.2.2.2 sb k_m1y k_m1y (by decide) (by decide) (fun z I2 u1' u2 u3 u4 => Wp.bd2 ?_)))
    rw [pG_F h.2.2.1] at u1'
    unfold F_Mo_done
    exact Wp_lb (fun I3 e3 => Wp_lb (fun I4 e4 => Wp.ret (Wp.ret (Or.inr ⟨c0, u1'⟩))))
theorem r_fitAtP {x1 x2 : Int32} (hN : 200 ≤ N) (sb : SRb O a) (hm : ¬ O a 3 = none → RHy I O a M c q n) : Pp (F_Mo_fitAt N O I J a x1 x2) (fun r => (O a 3 = none ∧ r.1.toInt = -1) ∨ (¬ O a 3 = none ∧ faQ (pF M c q n) x1 x2 r.1)) := by
  have k2 : (Int32.ofInt 2).toInt = 2 := ofI (by decide)
  unfold F_Mo_fitAt
  refine Pp_lb (fun I1 e1 => ?_)
  have rj : ∀ I2 : WI, ((O a 3 = none) ∨ (¬ O a 3 = none ∧ (¬ (0 ≤ x2.toInt ∧ x2.toInt ≤ 2) ∨ ¬ (0 ≤ x1.toInt ∧ x1.toInt < (scn (pF M c q n) 100 : Int))))) → Pp (bd2 (F_Mo_refused N O I2 J a (Int32.ofInt 1)) fun z_23 I2 => some (z_23, I2)) (fun r => (O a 3 = none ∧ r.1.toInt = -1) ∨ (¬ O a 3 = none ∧ faQ (pF M c q n) x1 x2 r.1)) := fun I2 h => by
    unfold F_Mo_refused
    refine Ppc2 (Pp_lb (fun I3 e3 => Pp_lb (fun I4 e4 => Pp.ret (Pp.ret ?_))))
    rcases h with h | ⟨h, h1⟩
    · exact Or.inl ⟨h, ofI (by decide)⟩
    · exact Or.inr ⟨h, Or.inl ⟨h1, ofI (by decide)⟩⟩
  refine Pp_jq (fun k => ((O a 3 = none) ∨ (¬ O a 3 = none ∧ (¬ (0 ≤ x2.toInt ∧ x2.toInt ≤ 2) ∨ ¬ (0 ≤ x1.toInt ∧ x1.toInt < (scn (pF M c q n) 100 : Int))))) → Pp k _) (rj I1) (fun k21 hk => Pp.ite (fun c0 => hk (Or.inl c0)) (fun c0 => ?_))
  rw [r_in, k_0, k2]
  refine Ppc1 (Pp.ret (Pp.ite (fun w => hk (Or.inr ⟨c0, Or.inl (bI_d0.mp w)⟩)) (fun w2 => ?_)))
  clear hk
  have h2 := Classical.not_not.mp (fun z => w2 (bI_d0.mpr z))
  have h := hm c0
  have r1 := h.t (v := Int32.ofInt 0) sb
  rw [← e1] at r1
  refine Ppc2 (Wp.pp (r_allF hN h.1 h.2.1 h.2.2.1 r1 h.2.2.2.2 sb k_m1y k_m1y (by decide) (by decide) (fun z I2 u1' u2 u3 u4 => ?_)))
  rw [pG_F h.2.2.1] at u1' u2
  show Pp (jn _ _) _
  have sl := scn_le (pF M c q n) 100
  refine Pp_jq (fun k => ∀ I3 : WI, (¬ (0 ≤ x1.toInt ∧ x1.toInt < (scn (pF M c q n) 100 : Int))) → Pp (k I3) _) (fun I3 hh => rj I3 (Or.inr ⟨c0, Or.inr hh⟩)) (fun k60 hk => Pp.ite (fun h3 => hk I2 (by omega)) (fun h3 => Pp.ite (fun h4 => hk I2 (by omega)) (fun h4 => Pp.g (fun _ => ?_))))
  obtain ⟨st, st1, st2, st3⟩ := scn_ex (p := pF M c q n) 100 x1.toInt.toNat (by omega)
  have fv := u2 st st1 st2
  rw [st3] at fv
  obtain ⟨zp, wp, hp⟩ := r_prt (N := N) (O := O) (I := I2) (J := J) (x0 := I2 (rf O a 28) x1.toInt.toNat) (x1 := x2) (w := x2.toInt.toNat) fv st1 (by omega) (by omega)
  rw [wp]
  refine Ppc1 (Pp.ret ?_)
  unfold F_Mo_done
  refine Ppc2 (Pp_lb (fun I3 e3 => Pp_lb (fun I4 e4 => Pp.ret (Pp.ret (Or.inr ⟨c0, Or.inr ⟨h2, by omega, fun st' hs' => ?_⟩⟩)))))
  show zp.toInt = _
  rw [hp, IsF.u hs' ⟨st1, st2, st3⟩]
theorem r_certainP {x1 : Int32} (hN : 200 ≤ N) (sb : SRb O a) (hm : ¬ O a 3 = none → RHy I O a M c q n) : Pp (F_Mo_certain N O I J a x1) (fun r => (O a 3 = none ∧ r.1.toInt = -1) ∨ (¬ O a 3 = none ∧ ceQ (pF M c q n) x1 r.1)) := by
  have k2 : (Int32.ofInt 2).toInt = 2 := ofI (by decide)
  unfold F_Mo_certain
  refine Pp_lb (fun I1 e1 => ?_)
  refine Pp_jq (fun k => ((O a 3 = none) ∨ (¬ O a 3 = none ∧ ¬ (0 ≤ x1.toInt ∧ x1.toInt ≤ 2))) → Pp k _) (fun h => ?_) (fun k21 hk => Pp.ite (fun c0 => hk (Or.inl c0)) (fun c0 => ?_))
  · unfold F_Mo_refused
    refine Ppc2 (Pp_lb (fun I3 e3 => Pp_lb (fun I4 e4 => Pp.ret (Pp.ret ?_))))
    rcases h with h | ⟨h, h1⟩
    · exact Or.inl ⟨h, ofI (by decide)⟩
    · exact Or.inr ⟨h, Or.inl ⟨h1, ofI (by decide)⟩⟩
  rw [r_in, k_0, k2]
  refine Ppc1 (Pp.ret (Pp.ite (fun w => hk (Or.inr ⟨c0, bI_d0.mp w⟩)) (fun w2 => ?_)))
  clear hk
  have hr := Classical.not_not.mp (fun z => w2 (bI_d0.mpr z))
  have h := hm c0
  have r1 := h.t (v := Int32.ofInt 0) sb
  rw [← e1] at r1
  refine Ppc2 (Wp.pp (r_allF hN h.1 h.2.1 h.2.2.1 r1 h.2.2.2.2 sb k_m1y k_m1y (by decide) (by decide) (fun z I2 u1' u2 u3 u4 => ?_)))
  rw [pG_F h.2.2.1] at u1' u2
  show Pp (if z.toInt = 0 then _ else _) _
  have sl := scn_le (pF M c q n) 100
  have acc : ∀ v : Int32, ceQ (pF M c q n) x1 v → Wp (bd2 (F_Mo_done N O I2 J a v) fun z I3 => some (z, I3)) (fun r => (O a 3 = none ∧ r.1.toInt = -1) ∨ (¬ O a 3 = none ∧ ceQ (pF M c q n) x1 r.1)) := fun v hv => by
    refine Wp.bd2 ?_
    unfold F_Mo_done
    exact Wp_lb (fun I3 e3 => Wp_lb (fun I4 e4 => Wp.ret (Wp.ret (Or.inr ⟨c0, hv⟩))))
  refine Pp.ite (fun hz => ?_) (fun hz => Wp.pp ?_)
  · unfold F_Mo_refused
    exact Ppc2 (Pp_lb (fun I3 e3 => Pp_lb (fun I4 e4 => Pp.ret (Pp.ret (Or.inr ⟨c0, Or.inr (Or.inl ⟨hr, by omega, ofI (by decide)⟩)⟩)))))
  · have fit : ∀ i : Nat, i < scn (pF M c q n) 100 → ∃ st, st < 100 ∧ pF M c q n st = true ∧ scn (pF M c q n) st = i ∧ (I2 (rf O a 28) i).toInt = (st : Int) := fun i hi => by
      obtain ⟨st, s1, s2, s3⟩ := scn_ex (p := pF M c q n) 100 i hi
      have fv := u2 st s1 s2
      rw [s3] at fv
      exact ⟨st, s1, s2, s3, fv⟩
    obtain ⟨st0, s1, s2, s3, s5'⟩ := fit 0 (by omega)
    obtain ⟨z47, w47, h47⟩ := r_prt (N := N) (O := O) (I := I2) (J := J) (x0 := I2 (rf O a 28) 0) (x1 := x1) (w := x1.toInt.toNat) s5' s1 (by omega) (by omega)
    have main : ∀ (m i : Nat) (y : Int32), y.toInt = (i : Int) → 1 ≤ i → i ≤ scn (pF M c q n) 100 → scn (pF M c q n) 100 - i < m → (∀ st, st < 100 → pF M c q n st = true → scn (pF M c q n) st < i → prt st x1.toInt.toNat = prt st0 x1.toInt.toNat) → Wp (lp (B_Mo_certain_47 N O a x1 J z) (fun _ _ => none) m y I2) (fun r => (O a 3 = none ∧ r.1.toInt = -1) ∨ (¬ O a 3 = none ∧ ceQ (pF M c q n) x1 r.1)) := by
      intro m
      induction m with
      | zero => intro i y _ _ _ hmm; omega
      | succ m ih =>
        intro i y hy hi1 hi2 hmm hinv
        show Wp (B_Mo_certain_47 N O a x1 J z (lp (B_Mo_certain_47 N O a x1 J z) (fun _ _ => none) m) y I2) _
        unfold B_Mo_certain_47
        rw [w47]
        by_cases e : i = scn (pF M c q n) 100
        · refine Wp.pos (by omega) (Wp.bd1 (Wp.ret (acc z47 (Or.inr (Or.inr ⟨hr, by omega, Or.inr (fun st t1 t2 => ?_)⟩)))))
          have lt : scn (pF M c q n) st < i := by
            rw [e]
            have : ∀ b, st + 1 ≤ b → scn (pF M c q n) st < scn (pF M c q n) b := by
              intro b
              induction b with
              | zero => intro h; omega
              | succ b ihb =>
                intro h
                show _ < scn (pF M c q n) b + (if pF M c q n b = true then 1 else 0)
                by_cases e3 : st = b
                · subst e3; rw [if_pos t2]; omega
                · have := ihb (by omega); omega
            exact this 100 (by omega)
          rw [h47, hinv st t1 t2 lt]
        · obtain ⟨st, t1, t2, t3, t5⟩ := fit i (by omega)
          obtain ⟨z70, w70, h70⟩ := r_prt (N := N) (O := O) (I := I2) (J := J) (x0 := I2 (rf O a 28) i) (x1 := x1) (w := x1.toInt.toNat) t5 t1 (by omega) (by omega)
          rw [tn_i hy, w70]
          refine Wp.neg (by omega) (Wp.pos (by omega) (Wp.bd1 (Wp.ret (Wp.bd1 (Wp.ret ?_)))))
          by_cases e2 : prt st x1.toInt.toNat = prt st0 x1.toInt.toNat
          · refine Wp.pos (by rw [h70, h47, e2]) (Wp.lb (ih (i + 1) _ (inc1 hy (by omega)) (by omega) (by omega) (by omega) (fun s' q1 q2 q3 => ?_)))
            by_cases e4 : scn (pF M c q n) s' = i
            · rw [IsF.u ⟨q1, q2, e4⟩ ⟨t1, t2, t3⟩]; exact e2
            · exact hinv s' q1 q2 (by omega)
          · refine Wp.neg (by rw [h70, h47]; omega) (acc _ (Or.inr (Or.inr ⟨hr, by omega, Or.inl ⟨⟨st, st0, t1, s1, t2, s2, e2⟩, ofI (by decide)⟩⟩)))
    refine main N 1 _ k_1 (by omega) (by omega) (by omega) (fun st t1 t2 t3 => ?_)
    rw [IsF.u (p := pF M c q n) (i := 0) ⟨t1, t2, by omega⟩ ⟨s1, s2, s3⟩]
theorem r_swappedP (hN : 200 ≤ N) (sb : SRb O a) (hm : ¬ O a 3 = none → RHy I O a M c q n) : Pp (F_Mo_swapped N O I J a) (fun r => (O a 3 = none ∧ r.1.toInt = -1) ∨ (¬ O a 3 = none ∧ ((¬ scn (pF M c q n) 100 = 0 ∧ r.1.toInt = -1) ∨ (scn (pF M c q n) 100 = 0 ∧ swQ (fun l o st => agB M c q l o st n) r.1)))) := by
  unfold F_Mo_swapped
  refine Pp_lb (fun I1 e1 => Pp.ite (fun c0 => ?_) (fun c0 => ?_))
  · unfold F_Mo_refused
    exact Ppc2 (Pp_lb (fun I2 e2 => Pp_lb (fun I3 e3 => Pp.ret (Pp.ret (Or.inl ⟨c0, ofI (by decide)⟩)))))
  · have h := hm c0
    have r1 := h.t (v := Int32.ofInt 0) sb
    rw [← e1] at r1
    refine Ppc2 (Wp.pp (r_allF hN h.1 h.2.1 h.2.2.1 r1 h.2.2.2.2 sb k_m1y k_m1y (by decide) (by decide) (fun z I2 u1' u2 u3 u4 => ?_)))
    rw [pG_F h.2.2.1] at u1'
    show Pp (if z.toInt ≤ 0 then _ else _) _
    refine Pp.ite (fun hz => Wp.pp ?_) (fun hz => ?_)
    · have acc : ∀ (v : Int32) (I3 : WI), swQ (fun l o st => agB M c q l o st n) v → Wp (bd2 (F_Mo_done N O I3 J a v) fun z I3 => some (z, I3)) (fun r => (O a 3 = none ∧ r.1.toInt = -1) ∨ (¬ O a 3 = none ∧ ((¬ scn (pF M c q n) 100 = 0 ∧ r.1.toInt = -1) ∨ (scn (pF M c q n) 100 = 0 ∧ swQ (fun l o st => agB M c q l o st n) r.1)))) := fun v I3 hv => by
        refine Wp.bd2 ?_
        unfold F_Mo_done
        exact Wp_lb (fun I4 e4 => Wp_lb (fun I5 e5 => Wp.ret (Wp.ret (Or.inr ⟨c0, Or.inr ⟨by omega, hv⟩⟩))))
      refine forU (n := 12) (fun i I3 => RFi I3 O a M c q n ∧ ∀ l o : Nat, l < i → l < o → o < 12 → scn (fun st => agB M c q l o st n) 100 = 0) (by omega) ⟨u3, fun l o h => absurd h (Nat.not_lt_zero _)⟩ ?_ ?_
      · rintro rec x i I3 hx2 hi ⟨f3, hv⟩ kk
        unfold B_Mo_swapped_35
        refine Wp.neg (by omega) (Wp_lb (fun v2 e2 => ?_))
        have hv2 : v2.toInt = ((i + 1 : Nat) : Int) := by rw [e2]; exact inc1 hx2 (by omega)
        have main : ∀ (m j : Nat) (y : Int32) (I4 : WI), y.toInt = (j : Int) → i < j → j ≤ 12 → 12 - j < m → RFi I4 O a M c q n → (∀ o : Nat, i < o → o < j → scn (fun st => agB M c q i o st n) 100 = 0) → Wp (lp (B_Mo_swapped_45 N O a J x rec) (fun _ _ => none) m y I4) (fun r => (O a 3 = none ∧ r.1.toInt = -1) ∨ (¬ O a 3 = none ∧ ((¬ scn (pF M c q n) 100 = 0 ∧ r.1.toInt = -1) ∨ (scn (pF M c q n) 100 = 0 ∧ swQ (fun l o st => agB M c q l o st n) r.1)))) := by
          intro m
          induction m with
          | zero => intro j y I4 _ _ _ hmm; omega
          | succ m ih =>
            intro j y I4 hy hij hj hmm f4 hinv
            show Wp (B_Mo_swapped_45 N O a J x rec (lp (B_Mo_swapped_45 N O a J x rec) (fun _ _ => none) m) y I4) _
            unfold B_Mo_swapped_45
            by_cases e : j = 12
            · refine Wp.pos (by omega) (Wp.lb (kk _ I4 (inc1 hx2 (by omega)) ⟨f4, fun l o h1 h2 h3 => ?_⟩))
              by_cases e3 : l = i
              · subst e3; exact hinv o h2 (by omega)
              · exact hv l o (by omega) h2 h3
            · refine Wp.neg (by omega) (Wp.bd2 (r_allF (l := (i : Int)) (o := (j : Int)) hN h.1 h.2.1 h.2.2.1 f4 h.2.2.2.2 sb hx2 hy (by omega) (Or.inl (by omega)) (fun zz I5 y1 y2 y3 y4 => ?_)))
              show Wp (if zz.toInt ≤ 0 then _ else _) _
              have y1' : zz.toInt = (scn (fun st => agB M c q (i : Int) (j : Int) st n) 100 : Int) := y1
              by_cases e2 : scn (fun st => agB M c q (i : Int) (j : Int) st n) 100 = 0
              · refine Wp.pos (by omega) (Wp.lb (ih (j + 1) _ I5 (inc1 hy (by omega)) (by omega) (by omega) (by omega) y3 (fun o h1 h2 => ?_)))
                by_cases e3 : o = j
                · subst e3; exact e2
                · exact hinv o h1 (by omega)
              · refine Wp.neg (by omega) (acc _ I5 (Or.inl ⟨i, j, hij, by omega, e2, ?_, fun l' o' h1 h2 h3 => ?_⟩))
                · rw [t_add (t_mul (ofI (n := 100) (by decide)) hx2 (by omega)) hy (by omega)]
                · rcases h3 with h3 | ⟨h3, h4⟩
                  · exact hv l' o' h3 h1 h2
                  · subst h3; exact hinv o' h1 h4
        exact main N (i + 1) v2 I3 hv2 (by omega) (by omega) (by omega) f3 (fun o h1 h2 => by omega)
      · rintro rec x I3 hx2 ⟨f3, hv⟩
        unfold B_Mo_swapped_35
        exact Wp.pos (by omega) (acc _ I3 (Or.inr ⟨ofI (by decide), fun l o h1 h2 => hv l o (by omega) h1 h2⟩))
    · unfold F_Mo_refused
      exact Ppc2 (Pp_lb (fun I3 e3 => Pp_lb (fun I4 e4 => Pp.ret (Pp.ret (Or.inr ⟨c0, Or.inl ⟨by omega, ofI (by decide)⟩⟩)))))
end RFITS
