/-! fits, fitAt, certain, swapped: the class -/
def CFi (I : WI) (O : WO) (a : Nat) (M : MM) (c : CO) (q : SQs) (n : Nat) : Prop := CMl I O (rf O a 1) M ∧ CCr I (rf O a 5) c ∧ GCa I O (rf O a 6) M c ∧ CSn I O (rf O a 7) q n ∧ FTc I O (rf O a 7) M c q n
def pF (M : MM) (c : CO) (q : SQs) (n : Nat) (st : Nat) : Bool := agB M c q 0 0 st n
def prt (st : Nat) (w : Nat) : Nat := if w = 0 then st / 25 else if w = 1 then st / 5 % 5 else st % 5
/-- the start of a place among those that agree -/
def IsF (p : Nat → Bool) (i st : Nat) : Prop := st < 100 ∧ p st = true ∧ scn p st = i
section CFITS
variable {P : List Nat} {K : Nat → Nat} {N : Nat} {O : WO} {I : WI} {J : WJ} {M : MM} {c : CO} {q : SQs} {n : Nat} {a mo : Nat} {Q0 : List Nat}
theorem c_sgu (hT : TR P K O) (hx : a ∈ P ∧ K a = 8) (hO : OW Q0 P O a mo) : SGu O (rf O a 6) (rf O a 1) (rf O a 5) := by
  have ne := fun {p q : List Nat} {κ κ' : Nat} (a : pLb p = some κ) (b : pLb q = some κ') (c : p ≠ q) => pNe hT hx hO a b c
  refine ⟨pSP hT hx hO (l := [2, 6]) (m := [1]) rfl rfl (by decide), pND hT hx hO (l := [2, 6]) (p := [0, 6]) rfl rfl (by decide), pND hT hx hO (l := [2, 6]) (p := [1, 6]) rfl rfl (by decide), pND hT hx hO (l := [2, 6]) (p := [5]) rfl rfl (by decide), ne (p := [0, 6]) (q := [1, 6]) rfl rfl (by decide), ne (p := [5]) (q := [0, 6]) rfl rfl (by decide), ne (p := [5]) (q := [1, 6]) rfl rfl (by decide), fun b hb => ?_⟩
  rcases hb with hb | hb
  · rw [hb]; exact pNM hT hx hO (m := [1]) (p := [0, 6]) rfl rfl (by decide)
  · rw [hb]; exact pNM hT hx hO (m := [1]) (p := [1, 6]) rfl rfl (by decide)
theorem c_findFits {Q : Int32 × WI → Prop} (hN : 200 ≤ N) (hT : TR P K O) (hx : a ∈ P ∧ K a = 8) (hO : OW Q0 P O a mo) (hM : MB M) (hc : CV M c) (hb : SNb q n (M.1 7)) (h : CFi I O a M c q n)
    (hQ : ∀ (z : Int32) I', z.toInt = (scn (pF M c q n) 100 : Int) → CFi I' O a M c q n → (I' (rf O a 7) 6).toInt = (scn (pF M c q n) 100 : Int) → FTs I' (rf O (rf O a 7) 5) (pF M c q n) 100 → (∀ st, st < 100 → ∀ h, h < 12 → ∀ w, w < 7 → (I' (rf O (rf O a 6) 0) (84 * st + 7 * h + w)).toInt = TT M c st h w) → I' a = I a → Q (z, I')) : Wp (F_RM_findFits N O I J a) Q := by
  obtain ⟨h1, h2, h3, h4, h5⟩ := h
  have s := c_sgu hT hx hO
  have nlb : ∀ {c d κ κ' : Nat}, K c = κ → K d = κ' → κ ≠ κ' → ¬ c = d := fun h1 h2 h3 z => h3 (by rw [← h1, ← h2, z])
  have t1 := rf_ok hT hx (show sp 8 1 = some 3 from rfl)
  have t5 := rf_ok hT hx (show sp 8 5 = some 19 from rfl)
  have t6 := rf_ok hT hx (show sp 8 6 = some 1 from rfl)
  have t60 := rf_ok hT t6 (show sp 1 0 = some 20 from rfl)
  have t61 := rf_ok hT t6 (show sp 1 1 = some 21 from rfl)
  have t7 := rf_ok hT hx (show sp 8 7 = some 6 from rfl)
  have t70 := rf_ok hT t7 (show sp 6 0 = some 22 from rfl)
  have t71 := rf_ok hT t7 (show sp 6 1 = some 22 from rfl)
  have t72 := rf_ok hT t7 (show sp 6 2 = some 22 from rfl)
  have t73 := rf_ok hT t7 (show sp 6 3 = some 22 from rfl)
  have t75 := rf_ok hT t7 (show sp 6 5 = some 23 from rfl)
  have wl : ∀ b κ, K b = κ → κ ≠ 0 → κ ≠ 11 → ¬ WD O (rf O (rf O a 6) 2) b := fun b κ h1 h2 h3 z => by
    obtain ⟨p, p1, p2⟩ := pWD_o (l := [2, 6]) z
    have hl : pLb [2, 6] = some 0 := rfl
    simp only [pWD, List.mem_cons, List.not_mem_nil, or_false] at p1
    have kb : K b = 0 ∨ K b = 11 := by
      rcases p1 with e | e | e | e | e
      · rw [p2, e, (pAt_ok hT hx [2, 6] 0 rfl).2]; exact Or.inl rfl
      · rw [p2, e, (pAt_ok hT hx [0, 0, 2, 6] 11 rfl).2]; exact Or.inr rfl
      · rw [p2, e, (pAt_ok hT hx [1, 0, 2, 6] 11 rfl).2]; exact Or.inr rfl
      · rw [p2, e, (pAt_ok hT hx [2, 0, 2, 6] 11 rfl).2]; exact Or.inr rfl
      · rw [p2, e, (pAt_ok hT hx [1, 2, 6] 11 rfl).2]; exact Or.inr rfl
    omega
  unfold F_RM_findFits
  refine Wp.bd1 (c_tellAll (by omega) hM hc h1 h2 s h3 (fun I1 g1 g2 g3 => ?_))
  have k1 : ∀ b κ, K b = κ → κ ≠ 0 → κ ≠ 11 → κ ≠ 20 → κ ≠ 21 → I1 b = I b := fun b κ e n0 n11 n20 n21 => g3 b (wl b κ e n0 n11) (nlb e t60.2 n20) (nlb e t61.2 n21)
  have cs1 : CSn I1 O (rf O a 7) q n := ⟨by rw [k1 _ 6 t7.2 (by decide) (by decide) (by decide) (by decide)]; exact h4.1, fun k hk => by rw [k1 _ 22 t70.2 (by decide) (by decide) (by decide) (by decide), k1 _ 22 t71.2 (by decide) (by decide) (by decide) (by decide), k1 _ 22 t72.2 (by decide) (by decide) (by decide) (by decide), k1 _ 22 t73.2 (by decide) (by decide) (by decide) (by decide)]; exact h4.2 k hk⟩
  have ft1 : FTc I1 O (rf O a 7) M c q n := by
    unfold FTc FTs
    rw [k1 _ 6 t7.2 (by decide) (by decide) (by decide) (by decide), k1 _ 23 t75.2 (by decide) (by decide) (by decide) (by decide)]; exact h5
  refine Wp.bd2 (c_siFits (q := q) (n := n) hN hM hc cs1 hb g1 ft1 (nlb t75.2 t7.2 (by decide)) ⟨nlb t60.2 t7.2 (by decide), nlb t60.2 t75.2 (by decide)⟩ (fun j hj => ?_) (fun z I2 u1' u2 u3 u4 u5 u6 => Wp.ret (hQ z I2 u1' ?_ u3 u4 (fun st hst h hh w hw => by rw [u6 _ (nlb t60.2 t7.2 (by decide)) (nlb t60.2 t75.2 (by decide))]; exact g1 st hst h hh w hw) (by rw [u6 _ (nlb hx.2 t7.2 (by decide)) (nlb hx.2 t75.2 (by decide)), k1 _ 8 hx.2 (by decide) (by decide) (by decide) (by decide)]))))
  · have : j = 0 ∨ j = 1 ∨ j = 2 ∨ j = 3 := by omega
    rcases this with rfl | rfl | rfl | rfl
    · exact ⟨nlb t70.2 t7.2 (by decide), nlb t70.2 t75.2 (by decide)⟩
    · exact ⟨nlb t71.2 t7.2 (by decide), nlb t71.2 t75.2 (by decide)⟩
    · exact ⟨nlb t72.2 t7.2 (by decide), nlb t72.2 t75.2 (by decide)⟩
    · exact ⟨nlb t73.2 t7.2 (by decide), nlb t73.2 t75.2 (by decide)⟩
  · have k2 : ∀ b κ, K b = κ → κ ≠ 6 → κ ≠ 23 → I2 b = I1 b := fun b κ e n6 n23 => u6 b (nlb e t7.2 n6) (nlb e t75.2 n23)
    refine ⟨?_, ?_, ?_, ⟨by rw [u5]; exact cs1.1, fun k hk => by rw [k2 _ 22 t70.2 (by decide) (by decide), k2 _ 22 t71.2 (by decide) (by decide), k2 _ 22 t72.2 (by decide) (by decide), k2 _ 22 t73.2 (by decide) (by decide)]; exact cs1.2 k hk⟩, fun _ => ⟨u3, u4⟩⟩
    · refine (s.mf h1 g3).fr (k2 _ 3 t1.2 (by decide) (by decide)) (fun j hj => ?_)
      have : j = 0 ∨ j = 1 ∨ j = 2 ∨ j = 3 ∨ j = 4 := by omega
      rcases this with rfl | rfl | rfl | rfl | rfl
      · exact k2 _ 13 (rf_ok hT t1 (show sp 3 (10 + 0) = some 13 from rfl)).2 (by decide) (by decide)
      · exact k2 _ 11 (rf_ok hT t1 (show sp 3 (10 + 1) = some 11 from rfl)).2 (by decide) (by decide)
      · exact k2 _ 11 (rf_ok hT t1 (show sp 3 (10 + 2) = some 11 from rfl)).2 (by decide) (by decide)
      · exact k2 _ 12 (rf_ok hT t1 (show sp 3 (10 + 3) = some 12 from rfl)).2 (by decide) (by decide)
      · exact k2 _ 14 (rf_ok hT t1 (show sp 3 (10 + 4) = some 14 from rfl)).2 (by decide) (by decide)
    · have cc1 := s.cf h2 g3
      unfold CCr; rw [k2 _ 19 t5.2 (by decide) (by decide)]; exact cc1
    · unfold GCa; rw [k2 _ 20 t60.2 (by decide) (by decide), k2 _ 21 t61.2 (by decide) (by decide)]; exact g2
/-- the bundle doesn't see the object's own fields -/
theorem CFi.x {I2 : WI} (h : CFi I O a M c q n) (hT : TR P K O) (hx : a ∈ P ∧ K a = 8) (f : ∀ b, ¬ b = a → I2 b = I b) : CFi I2 O a M c q n := by
  have nx : ∀ (p : List Nat) κ, pLb p = some κ → κ ≠ 8 → I2 (pAt O a p) = I (pAt O a p) := fun p κ h1 h2 => f _ (fun z => h2 (by rw [← (pAt_ok hT hx p κ h1).2, z]; exact hx.2))
  have n1 : I2 (rf O a 1) = I (rf O a 1) := nx [1] 3 rfl (by decide)
  have n5 : I2 (rf O a 5) = I (rf O a 5) := nx [5] 19 rfl (by decide)
  have n60 : I2 (rf O (rf O a 6) 0) = I (rf O (rf O a 6) 0) := nx [0, 6] 20 rfl (by decide)
  have n61 : I2 (rf O (rf O a 6) 1) = I (rf O (rf O a 6) 1) := nx [1, 6] 21 rfl (by decide)
  have n7 : I2 (rf O a 7) = I (rf O a 7) := nx [7] 6 rfl (by decide)
  have n70 : I2 (rf O (rf O a 7) 0) = I (rf O (rf O a 7) 0) := nx [0, 7] 22 rfl (by decide)
  have n71 : I2 (rf O (rf O a 7) 1) = I (rf O (rf O a 7) 1) := nx [1, 7] 22 rfl (by decide)
  have n72 : I2 (rf O (rf O a 7) 2) = I (rf O (rf O a 7) 2) := nx [2, 7] 22 rfl (by decide)
  have n73 : I2 (rf O (rf O a 7) 3) = I (rf O (rf O a 7) 3) := nx [3, 7] 22 rfl (by decide)
  have n75 : I2 (rf O (rf O a 7) 5) = I (rf O (rf O a 7) 5) := nx [5, 7] 23 rfl (by decide)
  obtain ⟨h1, h2, h3, h4, h5⟩ := h
  refine ⟨h1.fr n1 (fun j hj => ?_), by unfold CCr; rw [n5]; exact h2, by unfold GCa; rw [n60, n61]; exact h3, by unfold CSn; rw [n7, n70, n71, n72, n73]; exact h4, by unfold FTc FTs; rw [n7, n75]; exact h5⟩
  have : j = 0 ∨ j = 1 ∨ j = 2 ∨ j = 3 ∨ j = 4 := by omega
  rcases this with rfl | rfl | rfl | rfl | rfl
  · exact nx [10, 1] 13 rfl (by decide)
  · exact nx [11, 1] 11 rfl (by decide)
  · exact nx [12, 1] 11 rfl (by decide)
  · exact nx [13, 1] 12 rfl (by decide)
  · exact nx [14, 1] 14 rfl (by decide)
theorem c_fitOf {x1 : Int32} {s i m : Nat} {p : Nat → Bool} (h6 : (I s 6).toInt = (m : Int)) (hm : m ≤ 100) (h1 : x1.toInt = (i : Int)) (hi : i < m) : F_Si_fitOf N O I J s x1 = some (I (rf O s 5) i) := by
  unfold F_Si_fitOf
  rw [if_neg (by omega), if_neg (by omega), if_neg (by omega), if_pos (by omega), tn_i h1]
theorem c_prt {x0 x1 : Int32} {st w : Nat} (h : x0.toInt = (st : Int)) (hst : st < 100) (h1 : x1.toInt = (w : Int)) (hw : w ≤ 2) : ∃ z, F_RM_partOfStart N O I J x0 x1 = some z ∧ z.toInt = (prt st w : Int) := by
  obtain ⟨z, e, hz⟩ := c_part (N := N) (O := O) (I := I) (J := J) (x0 := x0) (x1 := x1) (t := st / 25) (l := st / 5 % 5) (f := st % 5) (w := w) (by rw [h]; omega) (by omega) (by omega) (by omega) h1 hw
  exact ⟨z, e, hz⟩
theorem r_prt {x0 x1 : Int32} {st w : Nat} (h : x0.toInt = (st : Int)) (hst : st < 100) (h1 : x1.toInt = (w : Int)) (hw : w ≤ 2) : ∃ z, F_Mo_partOf N O I J x0 x1 = some z ∧ z.toInt = (prt st w : Int) := c_prt (N := N) (O := O) (I := I) (J := J) h hst h1 hw
/-- what these calls have to go by -/
def FHy (I : WI) (O : WO) (a : Nat) (M : MM) (c : CO) (q : SQs) (n : Nat) : Prop := MB M ∧ CV M c ∧ SNb q n (M.1 7) ∧ CFi I O a M c q n
theorem c_fitsP (hN : 200 ≤ N) (hT : TR P K O) (hx : a ∈ P ∧ K a = 8) (hO : OW Q0 P O a mo) (hm : ¬ (I (rf O a 1) 7).toInt = 0 → FHy I O a M c q n) : Pp (F_RM_fits N O I J a) (fun r => (((I (rf O a 1) 7).toInt = 0 ∧ r.1.toInt = -1) ∨ (¬ (I (rf O a 1) 7).toInt = 0 ∧ r.1.toInt = (scn (pF M c q n) 100 : Int))) ∧ (¬ (I (rf O a 1) 7).toInt = 0 → CFi r.2 O a M c q n)) := by
  unfold F_RM_fits F_RM_noMill
  refine Ppc1 (Pp.ite (fun c0 => Pp.ret (Pp.ite (fun w => absurd w (by rw [k_1]; decide)) (fun _ => ?_))) (fun c0 => Pp.ret (Pp.ite (fun _ => ?_) (fun w => absurd k_0 w))))
  · unfold F_RM_refuse
    exact Ppc2 (Pp_lb (fun I1 e1 => Pp.ret (Pp.ret ⟨Or.inl ⟨c0, ofI (by decide)⟩, fun w => absurd c0 w⟩)))
  · obtain ⟨m1, m2, m3, m4⟩ := hm c0
    refine Wp.pp (Wp.bd2 (c_findFits hN hT hx hO m1 m2 m3 m4 (fun z I1 u1' u2 u3 u4 u5 u6 => Wp.bd2 ?_)))
    unfold F_RM_accept
    exact Wp_lb (fun I2 e2 => Wp.ret (Wp.ret ⟨Or.inr ⟨c0, u1'⟩, fun _ => u2.x hT hx (fun b hb => by show I2 b = I1 b; rw [e2, up2_row _ _ hb])⟩))
/-- what fitAt answers -/
def faQ (p : Nat → Bool) (x1 x2 z : Int32) : Prop := ((¬ (0 ≤ x2.toInt ∧ x2.toInt ≤ 2) ∨ ¬ (0 ≤ x1.toInt ∧ x1.toInt < (scn p 100 : Int))) ∧ z.toInt = -1) ∨ ((0 ≤ x2.toInt ∧ x2.toInt ≤ 2) ∧ (0 ≤ x1.toInt ∧ x1.toInt < (scn p 100 : Int)) ∧ ∀ st, IsF p x1.toInt.toNat st → z.toInt = (prt st x2.toInt.toNat : Int))
theorem IsF.u {p : Nat → Bool} {i st st' : Nat} (h : IsF p i st) (h' : IsF p i st') : st = st' := by
  have mono : ∀ a b, a + 1 ≤ b → p a = true → scn p a < scn p b := by
    intro a b
    induction b with
    | zero => intro h _; omega
    | succ b ih =>
      intro h hp
      show scn p a < scn p b + (if p b = true then 1 else 0)
      by_cases e : a = b
      · subst e; rw [if_pos hp]; omega
      · have := ih (by omega) hp
        omega
  have l1 := fun (z : st + 1 ≤ st') => mono st st' z h.2.1
  have l2 := fun (z : st' + 1 ≤ st) => mono st' st z h'.2.1
  have e1 := h.2.2
  have e2 := h'.2.2
  by_cases c1 : st + 1 ≤ st'
  · have := l1 c1; omega
  · by_cases c2 : st' + 1 ≤ st
    · have := l2 c2; omega
    · omega
theorem c_fitAtP {x1 x2 : Int32} (hN : 200 ≤ N) (hT : TR P K O) (hx : a ∈ P ∧ K a = 8) (hO : OW Q0 P O a mo) (hm : ¬ (I (rf O a 1) 7).toInt = 0 → FHy I O a M c q n) : Pp (F_RM_fitAt N O I J a x1 x2) (fun r => (((I (rf O a 1) 7).toInt = 0 ∧ r.1.toInt = -1) ∨ (¬ (I (rf O a 1) 7).toInt = 0 ∧ faQ (pF M c q n) x1 x2 r.1)) ∧ (¬ (I (rf O a 1) 7).toInt = 0 → CFi r.2 O a M c q n)) := by
  unfold F_RM_fitAt F_RM_noMill
  have rj : ∀ I1 : WI, (((I (rf O a 1) 7).toInt = 0) ∨ (¬ (I (rf O a 1) 7).toInt = 0 ∧ (¬ (0 ≤ x2.toInt ∧ x2.toInt ≤ 2) ∨ ¬ (0 ≤ x1.toInt ∧ x1.toInt < (scn (pF M c q n) 100 : Int))) ∧ CFi I1 O a M c q n)) → Pp (bd2 (F_RM_refuse N O I1 J a (Int32.ofInt 1)) fun z_30 I2 => some (z_30, I2)) (fun r => (((I (rf O a 1) 7).toInt = 0 ∧ r.1.toInt = -1) ∨ (¬ (I (rf O a 1) 7).toInt = 0 ∧ faQ (pF M c q n) x1 x2 r.1)) ∧ (¬ (I (rf O a 1) 7).toInt = 0 → CFi r.2 O a M c q n)) := fun I1 h => by
    unfold F_RM_refuse
    refine Ppc2 (Pp_lb (fun I2 e2 => Pp.ret (Pp.ret ?_)))
    rcases h with h | ⟨h, h1, h2⟩
    · exact ⟨Or.inl ⟨h, ofI (by decide)⟩, fun w => absurd h w⟩
    · exact ⟨Or.inr ⟨h, Or.inl ⟨h1, ofI (by decide)⟩⟩, fun _ => h2.x hT hx (fun b hb => by show I2 b = I1 b; rw [e2, up2_row _ _ hb])⟩
  refine Ppc1 (Pp.ite (fun c0 => Pp.ret (Pp_jq (fun k => ∀ I1 : WI, ((I (rf O a 1) 7).toInt = 0) → Pp (k I1) _) (fun I1 h => rj I1 (Or.inl h)) (fun k28 hk => Pp.ite (fun w => absurd w (by rw [k_1]; decide)) (fun _ => hk I c0)))) (fun c0 => Pp.ret ?_))
  obtain ⟨m1, m2, m3, m4⟩ := hm c0
  refine Pp_jq (fun k => ∀ I1 : WI, ((¬ (0 ≤ x2.toInt ∧ x2.toInt ≤ 2) ∨ ¬ (0 ≤ x1.toInt ∧ x1.toInt < (scn (pF M c q n) 100 : Int))) ∧ CFi I1 O a M c q n) → Pp (k I1) _) (fun I1 h => rj I1 (Or.inr ⟨c0, h⟩)) (fun k28 hk => ?_)
  refine Pp.ite (fun _ => ?_) (fun w => absurd k_0 w)
  refine Pp.ite (fun h => hk I ⟨Or.inl (by omega), m4⟩) (fun h2 => Pp.ite (fun h => hk I ⟨Or.inl (by omega), m4⟩) (fun h3 => Pp.ite (fun h => hk I ⟨Or.inr (by omega), m4⟩) (fun h4 => ?_)))
  refine Ppc2 (Wp.pp (c_findFits hN hT hx hO m1 m2 m3 m4 (fun z I1 u1' u2 u3 u4 u5 u6 => ?_)))
  show Pp (if x1.toInt < z.toInt then _ else _) _
  refine Pp.ite (fun h5 => ?_) (fun h5 => hk I1 ⟨Or.inr (by omega), u2⟩)
  have sl := scn_le (pF M c q n) 100
  obtain ⟨st, st1, st2, st3⟩ := scn_ex (p := pF M c q n) 100 x1.toInt.toNat (by omega)
  rw [c_fitOf (p := pF M c q n) (i := x1.toInt.toNat) u3 sl (by omega) (by omega)]
  have fv := u4 st st1 st2
  rw [st3] at fv
  obtain ⟨zp, wp, hp⟩ := c_prt (N := N) (O := O) (I := I1) (J := J) (x0 := I1 (rf O (rf O a 7) 5) x1.toInt.toNat) (x1 := x2) (w := x2.toInt.toNat) fv st1 (by omega) (by omega)
  refine Ppc1 (Pp.ret ?_)
  rw [wp]
  refine Ppc1 (Pp.ret ?_)
  unfold F_RM_accept
  refine Ppc2 (Pp_lb (fun I2 e2 => Pp.ret (Pp.ret ⟨Or.inr ⟨c0, Or.inr ⟨by omega, by omega, fun st' hs' => ?_⟩⟩, fun _ => u2.x hT hx (fun b hb => by show I2 b = I1 b; rw [e2, up2_row _ _ hb])⟩)))
  show zp.toInt = _
  rw [hp, IsF.u hs' ⟨st1, st2, st3⟩]
/-- what certain answers -/
def ceQ (p : Nat → Bool) (x1 z : Int32) : Prop := (¬ (0 ≤ x1.toInt ∧ x1.toInt ≤ 2) ∧ z.toInt = -1) ∨ ((0 ≤ x1.toInt ∧ x1.toInt ≤ 2) ∧ scn p 100 = 0 ∧ z.toInt = -1) ∨ ((0 ≤ x1.toInt ∧ x1.toInt ≤ 2) ∧ ¬ scn p 100 = 0 ∧ ((∃ st st', st < 100 ∧ st' < 100 ∧ p st = true ∧ p st' = true ∧ ¬ prt st x1.toInt.toNat = prt st' x1.toInt.toNat) ∧ z.toInt = -2 ∨ (∀ st, st < 100 → p st = true → z.toInt = (prt st x1.toInt.toNat : Int))))
theorem ceQ.u {p : Nat → Bool} {x1 z z' : Int32} (h : ceQ p x1 z) (h' : ceQ p x1 z') : z.toInt = z'.toInt := by
  rcases h with ⟨a1, a2⟩ | ⟨a1, a2, a3⟩ | ⟨a1, a2, a3⟩
  · rcases h' with ⟨b1, b2⟩ | ⟨b1, b2, b3⟩ | ⟨b1, b2, b3⟩
    · rw [a2, b2]
    · exact absurd b1 a1
    · exact absurd b1 a1
  · rcases h' with ⟨b1, b2⟩ | ⟨b1, b2, b3⟩ | ⟨b1, b2, b3⟩
    · exact absurd a1 b1
    · rw [a3, b3]
    · exact absurd a2 b2
  · rcases h' with ⟨b1, b2⟩ | ⟨b1, b2, b3⟩ | ⟨b1, b2, b3⟩
    · exact absurd a1 b1
    · exact absurd b2 a2
    · rcases a3 with ⟨⟨s, s', c1, c2, c3, c4, c5⟩, c6⟩ | c
      · rcases b3 with ⟨_, d⟩ | d
        · rw [c6, d]
        · have e1 := d s c1 c3
          have e2 := d s' c2 c4
          exact absurd (by omega) c5
      · rcases b3 with ⟨⟨s, s', c1, c2, c3, c4, c5⟩, c6⟩ | d
        · have e1 := c s c1 c3
          have e2 := c s' c2 c4
          exact absurd (by omega) c5
        · obtain ⟨st, s1, s2, s3⟩ := scn_ex (p := p) 100 0 (by omega)
          rw [c st s1 s2, d st s1 s2]
theorem c_certainP {x1 : Int32} (hN : 200 ≤ N) (hT : TR P K O) (hx : a ∈ P ∧ K a = 8) (hO : OW Q0 P O a mo) (hm : ¬ (I (rf O a 1) 7).toInt = 0 → FHy I O a M c q n) : Pp (F_RM_certain N O I J a x1) (fun r => (((I (rf O a 1) 7).toInt = 0 ∧ r.1.toInt = -1) ∨ (¬ (I (rf O a 1) 7).toInt = 0 ∧ ceQ (pF M c q n) x1 r.1)) ∧ (¬ (I (rf O a 1) 7).toInt = 0 → CFi r.2 O a M c q n)) := by
  unfold F_RM_certain F_RM_noMill
  refine Ppc1 (Pp.ite (fun c0 => Pp.ret ?_) (fun c0 => Pp.ret ?_))
  · refine Pp_jq (fun k => Pp k _) ?_ (fun k16 hk => Pp.ite (fun w => absurd w (by rw [k_1]; decide)) (fun _ => hk))
    unfold F_RM_refuse
    exact Ppc2 (Pp_lb (fun I1 e1 => Pp.ret (Pp.ret ⟨Or.inl ⟨c0, ofI (by decide)⟩, fun w => absurd c0 w⟩)))
  obtain ⟨m1, m2, m3, m4⟩ := hm c0
  refine Pp_jq (fun k => (¬ (0 ≤ x1.toInt ∧ x1.toInt ≤ 2)) → Pp k (fun r => (((I (rf O a 1) 7).toInt = 0 ∧ r.1.toInt = -1) ∨ (¬ (I (rf O a 1) 7).toInt = 0 ∧ ceQ (pF M c q n) x1 r.1)) ∧ (¬ (I (rf O a 1) 7).toInt = 0 → CFi r.2 O a M c q n))) (fun h => ?_) (fun k16 hk => Pp.ite (fun _ => ?_) (fun w => absurd k_0 w))
  · unfold F_RM_refuse
    exact Ppc2 (Pp_lb (fun I1 e1 => Pp.ret (Pp.ret ⟨Or.inr ⟨c0, Or.inl ⟨h, ofI (by decide)⟩⟩, fun _ => m4.x hT hx (fun b hb => by show I1 b = I b; rw [e1, up2_row _ _ hb])⟩)))
  refine Pp.ite (fun h => hk (by omega)) (fun h1 => Pp.ite (fun h2 => ?_) (fun h => hk (by omega)))
  clear hk
  have hr : 0 ≤ x1.toInt ∧ x1.toInt ≤ 2 := by omega
  refine Ppc2 (Wp.pp (c_findFits hN hT hx hO m1 m2 m3 m4 (fun z I1 u1' u2 u3 u4 u5 u6 => ?_)))
  show Pp (if z.toInt = 0 then _ else _) _
  have sl := scn_le (pF M c q n) 100
  have acc : ∀ v : Int32, ceQ (pF M c q n) x1 v → Wp (bd2 (F_RM_accept N O I1 J a v) fun z I3 => some (z, I3)) (fun r => (((I (rf O a 1) 7).toInt = 0 ∧ r.1.toInt = -1) ∨ (¬ (I (rf O a 1) 7).toInt = 0 ∧ ceQ (pF M c q n) x1 r.1)) ∧ (¬ (I (rf O a 1) 7).toInt = 0 → CFi r.2 O a M c q n)) := fun v hv => by
    refine Wp.bd2 ?_
    unfold F_RM_accept
    exact Wp_lb (fun I2 e2 => Wp.ret (Wp.ret ⟨Or.inr ⟨c0, hv⟩, fun _ => u2.x hT hx (fun b hb => by show I2 b = I1 b; rw [e2, up2_row _ _ hb])⟩))
  refine Pp.ite (fun hz => ?_) (fun hz => ?_)
  · unfold F_RM_refuse
    exact Ppc2 (Pp_lb (fun I2 e2 => Pp.ret (Pp.ret ⟨Or.inr ⟨c0, Or.inr (Or.inl ⟨hr, by omega, ofI (by decide)⟩)⟩, fun _ => u2.x hT hx (fun b hb => by show I2 b = I1 b; rw [e2, up2_row _ _ hb])⟩)))
  · have fit : ∀ i : Nat, i < scn (pF M c q n) 100 → ∀ y : Int32, y.toInt = (i : Int) → ∃ st, st < 100 ∧ pF M c q n st = true ∧ scn (pF M c q n) st = i ∧ F_Si_fitOf N O I1 J (rf O a 7) y = some (I1 (rf O (rf O a 7) 5) i) ∧ (I1 (rf O (rf O a 7) 5) i).toInt = (st : Int) := fun i hi y hy => by
      obtain ⟨st, s1, s2, s3⟩ := scn_ex (p := pF M c q n) 100 i hi
      have fv := u4 st s1 s2
      rw [s3] at fv
      exact ⟨st, s1, s2, s3, c_fitOf (p := pF M c q n) u3 sl hy hi, fv⟩
    obtain ⟨st0, s1, s2, s3, s4, s5'⟩ := fit 0 (by omega) (Int32.ofInt 0) k_0
    rw [s4]
    obtain ⟨z47, w47, h47⟩ := c_prt (N := N) (O := O) (I := I1) (J := J) (x0 := I1 (rf O (rf O a 7) 5) 0) (x1 := x1) (w := x1.toInt.toNat) s5' s1 (by omega) (by omega)
    refine Ppc1 (Pp.ret ?_)
    rw [w47]
    refine Ppc1 (Pp.ret (Wp.pp ?_))
    have main : ∀ (m i : Nat) (y : Int32), y.toInt = (i : Int) → 1 ≤ i → i ≤ scn (pF M c q n) 100 → scn (pF M c q n) 100 - i < m → (∀ st, st < 100 → pF M c q n st = true → scn (pF M c q n) st < i → prt st x1.toInt.toNat = prt st0 x1.toInt.toNat) → Wp (lp (B_RM_certain_54 N O a x1 J z z47) (fun _ _ => none) m y I1) (fun r => (((I (rf O a 1) 7).toInt = 0 ∧ r.1.toInt = -1) ∨ (¬ (I (rf O a 1) 7).toInt = 0 ∧ ceQ (pF M c q n) x1 r.1)) ∧ (¬ (I (rf O a 1) 7).toInt = 0 → CFi r.2 O a M c q n)) := by
      intro m
      induction m with
      | zero => intro i y _ _ _ hmm; omega
      | succ m ih =>
        intro i y hy hi1 hi2 hmm hinv
        show Wp (B_RM_certain_54 N O a x1 J z z47 (lp (B_RM_certain_54 N O a x1 J z z47) (fun _ _ => none) m) y I1) _
        unfold B_RM_certain_54
        by_cases e : i = scn (pF M c q n) 100
        · refine Wp.pos (by omega) (acc z47 (Or.inr (Or.inr ⟨hr, by omega, Or.inr (fun st t1 t2 => ?_)⟩)))
          have lt : scn (pF M c q n) st < i := by
            rw [e]
            have : ∀ b, st + 1 ≤ b → scn (pF M c q n) st < scn (pF M c q n) b := by
              intro b
              induction b with
              | zero => intro h; omega
              | succ b ihb =>
                intro h
                show _ < scn (pF M c q n) b + (if pF M c q n b = true then 1 else 0)
                by_cases e3 : st = b
                · subst e3; rw [if_pos t2]; omega
                · have := ihb (by omega); omega
            exact this 100 (by omega)
          rw [h47, hinv st t1 t2 lt]
        · obtain ⟨st, t1, t2, t3, t4, t5⟩ := fit i (by omega) y hy
          obtain ⟨z70, w70, h70⟩ := c_prt (N := N) (O := O) (I := I1) (J := J) (x0 := I1 (rf O (rf O a 7) 5) i) (x1 := x1) (w := x1.toInt.toNat) t5 t1 (by omega) (by omega)
          rw [t4]
          refine Wp.neg (by omega) (Wp.bd1 (Wp.ret ?_))
          rw [w70]
          refine Wp.bd1 (Wp.ret ?_)
          by_cases e2 : prt st x1.toInt.toNat = prt st0 x1.toInt.toNat
          · refine Wp.pos (by rw [h70, h47, e2]) (Wp.lb (ih (i + 1) _ (inc1 hy (by omega)) (by omega) (by omega) (by omega) (fun s' q1 q2 q3 => ?_)))
            by_cases e4 : scn (pF M c q n) s' = i
            · rw [IsF.u ⟨q1, q2, e4⟩ ⟨t1, t2, t3⟩]; exact e2
            · exact hinv s' q1 q2 (by omega)
          · refine Wp.neg (by rw [h70, h47]; omega) (acc _ (Or.inr (Or.inr ⟨hr, by omega, Or.inl ⟨⟨st, st0, t1, s1, t2, s2, e2⟩, ofI (by decide)⟩⟩)))
    refine main N 1 _ k_1 (by omega) (by omega) (by omega) (fun st t1 t2 t3 => ?_)
    rw [IsF.u (p := pF M c q n) (i := 0) ⟨t1, t2, by omega⟩ ⟨s1, s2, s3⟩]
/-- what swapped answers -/
def swQ (p : Int → Int → Nat → Bool) (z : Int32) : Prop := (∃ l o : Nat, l < o ∧ o < 12 ∧ ¬ scn (p l o) 100 = 0 ∧ z.toInt = 100 * (l : Int) + o ∧ ∀ l' o' : Nat, l' < o' → o' < 12 → (l' < l ∨ (l' = l ∧ o' < o)) → scn (p l' o') 100 = 0) ∨ (z.toInt = -2 ∧ ∀ l o : Nat, l < o → o < 12 → scn (p l o) 100 = 0)
theorem swQ.u {p : Int → Int → Nat → Bool} {z z' : Int32} (h : swQ p z) (h' : swQ p z') : z.toInt = z'.toInt := by
  rcases h with ⟨l, o, a1, a2, a3, a4, a5⟩ | ⟨a1, a2⟩
  · rcases h' with ⟨l', o', b1, b2, b3, b4, b5⟩ | ⟨b1, b2⟩
    · by_cases e : l' < l ∨ (l' = l ∧ o' < o)
      · exact absurd (a5 l' o' b1 b2 e) b3
      · by_cases e2 : l < l' ∨ (l = l' ∧ o < o')
        · exact absurd (b5 l o a1 a2 e2) a3
        · omega
    · exact absurd (b2 l o a1 a2) a3
  · rcases h' with ⟨l', o', b1, b2, b3, b4, b5⟩ | ⟨b1, b2⟩
    · exact absurd (a2 l' o' b1 b2) b3
    · omega
theorem c_swappedP (hN : 200 ≤ N) (hT : TR P K O) (hx : a ∈ P ∧ K a = 8) (hO : OW Q0 P O a mo) (hm : ¬ (I (rf O a 1) 7).toInt = 0 → FHy I O a M c q n) : Pp (F_RM_swapped N O I J a) (fun r => (((I (rf O a 1) 7).toInt = 0 ∧ r.1.toInt = -1) ∨ (¬ (I (rf O a 1) 7).toInt = 0 ∧ ((¬ scn (pF M c q n) 100 = 0 ∧ r.1.toInt = -1) ∨ (scn (pF M c q n) 100 = 0 ∧ swQ (fun l o st => agB M c q l o st n) r.1)))) ∧ (¬ (I (rf O a 1) 7).toInt = 0 → CFi r.2 O a M c q n)) := by
  unfold F_RM_swapped F_RM_noMill
  refine Ppc1 (Pp.ite (fun c0 => Pp.ret (Pp.ite (fun w => absurd w (by rw [k_1]; decide)) (fun _ => ?_))) (fun c0 => Pp.ret (Pp.ite (fun _ => ?_) (fun w => absurd k_0 w))))
  · unfold F_RM_refuse
    exact Ppc2 (Pp_lb (fun I1 e1 => Pp.ret (Pp.ret ⟨Or.inl ⟨c0, ofI (by decide)⟩, fun w => absurd c0 w⟩)))
  · obtain ⟨m1, m2, m3, m4⟩ := hm c0
    refine Ppc2 (Wp.pp (c_findFits hN hT hx hO m1 m2 m3 m4 (fun z I1 u1' u2 u3 u4 u5 u6 => ?_)))
    show Pp (if z.toInt ≤ 0 then _ else _) _
    refine Pp.ite (fun hz => Wp.pp ?_) (fun hz => ?_)
    · have acc : ∀ v : Int32, swQ (fun l o st => agB M c q l o st n) v → Wp (bd2 (F_RM_accept N O I1 J a v) fun z I3 => some (z, I3)) (fun r => (((I (rf O a 1) 7).toInt = 0 ∧ r.1.toInt = -1) ∨ (¬ (I (rf O a 1) 7).toInt = 0 ∧ ((¬ scn (pF M c q n) 100 = 0 ∧ r.1.toInt = -1) ∨ (scn (pF M c q n) 100 = 0 ∧ swQ (fun l o st => agB M c q l o st n) r.1)))) ∧ (¬ (I (rf O a 1) 7).toInt = 0 → CFi r.2 O a M c q n)) := fun v hv => by
        refine Wp.bd2 ?_
        unfold F_RM_accept
        exact Wp_lb (fun I2 e2 => Wp.ret (Wp.ret ⟨Or.inr ⟨c0, Or.inr ⟨by omega, hv⟩⟩, fun _ => u2.x hT hx (fun b hb => by show I2 b = I1 b; rw [e2, up2_row _ _ hb])⟩))
      refine forU (n := 12) (fun i I2 => I2 = I1 ∧ ∀ l o : Nat, l < i → l < o → o < 12 → scn (fun st => agB M c q l o st n) 100 = 0) (by omega) ⟨rfl, fun l o h => absurd h (Nat.not_lt_zero _)⟩ ?_ ?_
      · rintro rec x i I2 hx2 hi ⟨rfl, hv⟩ kk
        unfold B_RM_swapped_28
        refine Wp.neg (by omega) (Wp_lb (fun v2 e2 => ?_))
        have hv2 : v2.toInt = ((i + 1 : Nat) : Int) := by rw [e2]; exact inc1 hx2 (by omega)
        have main : ∀ (m j : Nat) (y : Int32), y.toInt = (j : Int) → i < j → j ≤ 12 → 12 - j < m → (∀ o : Nat, i < o → o < j → scn (fun st => agB M c q i o st n) 100 = 0) → Wp (lp (B_RM_swapped_38 N O a J x rec) (fun _ _ => none) m y I2) (fun r => (((I (rf O a 1) 7).toInt = 0 ∧ r.1.toInt = -1) ∨ (¬ (I (rf O a 1) 7).toInt = 0 ∧ ((¬ scn (pF M c q n) 100 = 0 ∧ r.1.toInt = -1) ∨ (scn (pF M c q n) 100 = 0 ∧ swQ (fun l o st => agB M c q l o st n) r.1)))) ∧ (¬ (I (rf O a 1) 7).toInt = 0 → CFi r.2 O a M c q n)) := by
          intro m
          induction m with
          | zero => intro j y _ _ _ hmm; omega
          | succ m ih =>
            intro j y hy hij hj hmm hinv
            show Wp (B_RM_swapped_38 N O a J x rec (lp (B_RM_swapped_38 N O a J x rec) (fun _ _ => none) m) y I2) _
            unfold B_RM_swapped_38
            by_cases e : j = 12
            · refine Wp.pos (by omega) (Wp.lb (kk _ I2 (inc1 hx2 (by omega)) ⟨rfl, fun l o h1 h2 h3 => ?_⟩))
              by_cases e3 : l = i
              · subst e3; exact hinv o h2 (by omega)
              · exact hv l o (by omega) h2 h3
            · refine Wp.neg (by omega) (Wp.bd1 (c_anyAgrees (l := (i : Int)) (o := (j : Int)) hN m1 m2 u2.2.2.2.1 m3 u5 hx2 hy (by omega) (fun zz hzz => ?_)))
              by_cases e2 : scn (fun st => agB M c q (i : Int) (j : Int) st n) 100 = 0
              · refine Wp.pos (hzz.mpr e2) (Wp.lb (ih (j + 1) _ (inc1 hy (by omega)) (by omega) (by omega) (by omega) (fun o h1 h2 => ?_)))
                by_cases e3 : o = j
                · subst e3; exact e2
                · exact hinv o h1 (by omega)
              · refine Wp.neg (fun w => e2 (hzz.mp w)) (acc _ (Or.inl ⟨i, j, hij, by omega, e2, ?_, fun l' o' h1 h2 h3 => ?_⟩))
                · rw [t_add (t_mul (ofI (n := 100) (by decide)) hx2 (by omega)) hy (by omega)]
                · rcases h3 with h3 | ⟨h3, h4⟩
                  · exact hv l' o' h3 h1 h2
                  · subst h3; exact hinv o' h1 h4
        exact main N (i + 1) v2 hv2 (by omega) (by omega) (by omega) (fun o h1 h2 => by omega)
      · rintro rec x I2 hx2 ⟨rfl, hv⟩
        unfold B_RM_swapped_28
        exact Wp.pos (by omega) (acc _ (Or.inr ⟨ofI (by decide), fun l o h1 h2 => hv l o (by omega) h1 h2⟩))
    · unfold F_RM_refuse
      exact Ppc2 (Pp_lb (fun I2 e2 => Pp.ret (Pp.ret ⟨Or.inr ⟨c0, Or.inl ⟨by omega, ofI (by decide)⟩⟩, fun _ => u2.x hT hx (fun b hb => by show I2 b = I1 b; rw [e2, up2_row _ _ hb])⟩)))
end CFITS
