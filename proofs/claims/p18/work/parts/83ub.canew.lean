/-! the class's beginning anew; its settings and repairs; what it tells of its state -/
section CANEW
variable {P : List Nat} {K : Nat → Nat} {N : Nat} {O : WO} {I : WI} {J : WJ} {x mo : Nat} {Q0 : List Nat}
theorem c_beginAnew {Q : WI → Prop} (hN : 8 ≤ N) (hT : TR P K O) (hx : x ∈ P ∧ K x = 8) (hO : OW Q0 P O x mo) (spd : SPd O (rf O x 3) (rf O x 1)) (n4 : ¬ WD O (rf O x 3) (rf O x 4)) (n5 : ¬ TB O x (rf O x 5)) (n14 : ¬ rf O x 1 = rf O x 4 ∧ ∀ j, j < 5 → ¬ rf O (rf O x 1) (10 + j) = rf O x 4)
    (hQ : ∀ I', DRs I' O (rf O x 3) (fun _ => 0) → (I' (rf O x 4) 0).toInt = 1 → (I' (rf O x 4) 1).toInt = 1 → (I' (rf O x 4) 2).toInt = 0 → (I' x 13).toInt = 0 → (∀ b, (b = rf O x 1 ∨ ∃ j, j < 5 ∧ b = rf O (rf O x 1) (10 + j)) → I' b = I b) → Q I') : Pp (F_RM_beginAnew N O I J x) Q := by
  have t6 := rf_ok hT hx (show sp 8 6 = some 1 from rfl)
  have t7 := rf_ok hT hx (show sp 8 7 = some 6 from rfl)
  have t8 := rf_ok hT hx (show sp 8 8 = some 4 from rfl)
  have t9 := rf_ok hT hx (show sp 8 9 = some 7 from rfl)
  have w6 := WQ.fld hT hx hO (show sp 8 6 = some 1 from rfl) (by decide)
  have w7 := WQ.fld hT hx hO (show sp 8 7 = some 6 from rfl) (by decide)
  have w8 := WQ.fld hT hx hO (show sp 8 8 = some 4 from rfl) (by decide)
  have w9 := WQ.fld hT hx hO (show sp 8 9 = some 7 from rfl) (by decide)
  have cl := WQ.cl hT hx hO
  have tbx : ∀ b, TB O x b → ¬ b = x := fun b hb z => (hb.own2 hT hx).1 (by rw [z]; exact hx.2)
  have wdt : ∀ b, WD O (rf O x 3) b → TB O x b := fun b hb => by
    rcases hb with h | h | h | h | h
    · exact Or.inr (Or.inr (Or.inl h))
    · exact Or.inr (Or.inr (Or.inr (Or.inr (Or.inl ⟨0, by decide, h⟩))))
    · exact Or.inr (Or.inr (Or.inr (Or.inr (Or.inl ⟨1, by decide, h⟩))))
    · exact Or.inr (Or.inr (Or.inr (Or.inr (Or.inl ⟨2, by decide, h⟩))))
    · exact Or.inr (Or.inr (Or.inr (Or.inr (Or.inr (Or.inl h)))))
  unfold F_RM_beginAnew
  refine Ppc1 (Wp.pp (c_beginEmpty hN spd (fun I1 a1 a2 => Pp_lb (fun I2 e2 => Pp_lb (fun I3 e3 => Pp_lb (fun I4 e4 => ?_))))))
  have f4 : ∀ b, ¬ b = rf O x 4 → I4 b = I1 b := fun b hb => by rw [e4, up2_row _ _ hb, e3, up2_row _ _ hb, e2, up2_row _ _ hb]
  have s0 : (I4 (rf O x 4) 0).toInt = 1 := by rw [e4, up2_ne _ _ (fun z => absurd z.2 (by decide)), e3, up2_ne _ _ (fun z => absurd z.2 (by decide)), e2, up2_self]; exact k_1
  have s1 : (I4 (rf O x 4) 1).toInt = 1 := by rw [e4, up2_ne _ _ (fun z => absurd z.2 (by decide)), e3, up2_self]; exact k_1
  have s2 : (I4 (rf O x 4) 2).toInt = 0 := by rw [e4, up2_self]; exact k_0
  have main : ∀ (m : Nat) (y : Int32) (I5 : WI), (∀ b, ¬ b = rf O x 5 → I5 b = I4 b) → Pp (lp (B_RM_beginAnew_30 N O x J) (fun _ _ => none) m y I5) Q := by
    intro m
    induction m with
    | zero => intro y I5 _; exact Pp.no
    | succ m ih =>
      intro y I5 h5
      show Pp (B_RM_beginAnew_30 N O x J (lp (B_RM_beginAnew_30 N O x J) (fun _ _ => none) m) y I5) Q
      unfold B_RM_beginAnew_30
      refine Pp.ite (fun _ => ?_) (fun _ => Pp.g (fun _ => Pp_lb (fun I6 x6 => Pp.g (fun _ => Pp_lb (fun I7 x7 => Pp.g (fun _ => Pp_lb (fun I8 x8 => Pp_lb (fun v _ => ih v I8 (fun b hb => ?_)))))))))
      · refine Ppc1 (w_Gu_makeStale (W := WQ Q0 O x) hT cl t6 w6 (fun I6 g6 => Ppc2 (w_Si_drop (W := WQ Q0 O x) hT cl t7 w7 (fun z7 I7 g7 => Ppc2 (w_Tr_drop (W := WQ Q0 O x) hT cl t9 w9 (fun z8 I8 g8 => Ppc1 (w_Pl_drop (W := WQ Q0 O x) hT cl t8 w8 (fun I9 g9 => Pp_lb (fun I10 e10 => Pp.ret ?_)))))))))
        have kb : ∀ b, TB O x b → I10 b = I4 b := fun b hb => by
          have hw : ¬ WQ Q0 O x b := fun z => z.2 hb
          rw [e10, up2_row _ _ (tbx b hb), g9 b hw, g8 b hw, g7 b hw, g6 b hw]
          exact h5 b (fun z => n5 (by rw [← z]; exact hb))
        have kd : ∀ b, WD O (rf O x 3) b → I10 b = I1 b := fun b hb => by rw [kb b (wdt b hb)]; exact f4 b (fun z => n4 (by rw [← z]; exact hb))
        have t4' : TB O x (rf O x 4) := Or.inr (Or.inr (Or.inr (Or.inr (Or.inr (Or.inr (Or.inl rfl))))))
        refine hQ I10 ?_ (by rw [kb _ t4']; exact s0) (by rw [kb _ t4']; exact s1) (by rw [kb _ t4']; exact s2) (by rw [e10, up2_self]; exact k_0) (fun b hb => ?_)
        · obtain ⟨q0, q1⟩ := a1
          refine ⟨fun k hk => ?_, ?_⟩
          · rw [kd _ (Or.inr (Or.inl rfl)), kd _ (Or.inr (Or.inr (Or.inl rfl))), kd _ (Or.inr (Or.inr (Or.inr (Or.inl rfl)))), kd _ (Or.inr (Or.inr (Or.inr (Or.inr rfl))))]; exact q0 k hk
          · rw [kd _ (Or.inl rfl)]; exact q1
        · have hb2 : TB O x b ∧ ¬ b = rf O x 4 ∧ ¬ WD O (rf O x 3) b := by
            rcases hb with hb | ⟨j, hj, hb⟩
            · exact ⟨Or.inl hb, by rw [hb]; exact n14.1, fun z => (spd.2.2 b z).1 hb.symm⟩
            · exact ⟨Or.inr (Or.inl ⟨j, hj, hb⟩), by rw [hb]; exact n14.2 j hj, fun z => (spd.2.2 b z).2 j hj hb.symm⟩
          rw [kb b hb2.1, f4 b hb2.2.1]; exact a2 b hb2.2.2
      · rw [x8, up2_row _ _ hb, x7, up2_row _ _ hb, x6, up2_row _ _ hb]; exact h5 b hb
  exact main N _ I4 (fun _ _ => rfl)
theorem c_setP {x1 x2 x3 : Int32} : Pp (F_RM_set N O I J x x1 x2 x3) (fun q => (q.1.toInt = 1 ∧ (¬ rf O x 4 = x → q.2 (rf O x 4) 0 = x1 ∧ q.2 (rf O x 4) 1 = x2 ∧ q.2 (rf O x 4) 2 = x3) ∧ (∀ b, ¬ b = x → ¬ b = rf O x 4 → q.2 b = I b)) ∨ (q.1.toInt = 0 ∧ ∀ b, ¬ b = x → q.2 b = I b)) := by
  have dny : ∀ w : Int32, Pp (bd2 (F_RM_deny N O I J x w) fun z I9 => if z.toInt = 0 ∨ z.toInt = 1 then (some (z, I9)) else none) (fun q => (q.1.toInt = 1 ∧ (¬ rf O x 4 = x → q.2 (rf O x 4) 0 = x1 ∧ q.2 (rf O x 4) 1 = x2 ∧ q.2 (rf O x 4) 2 = x3) ∧ (∀ b, ¬ b = x → ¬ b = rf O x 4 → q.2 b = I b)) ∨ (q.1.toInt = 0 ∧ ∀ b, ¬ b = x → q.2 b = I b)) := fun w => by
    unfold F_RM_deny
    exact Ppc2 (Pp_lb (fun I1 e1 => Pp.ret (Pp.g (fun _ => Pp.ret (Or.inr ⟨k_0, fun b hb => by (try dsimp only); rw [e1, up2_row _ _ hb]⟩)))))
  unfold F_RM_set
  refine Ppa1 (fun z2 => Pp.ite (fun _ => dny _) (fun _ => Ppa1 (fun z15 => Pp_jq (fun k => Pp k _) (dny _) (fun k28 hk => Pp.ite (fun _ => hk) (fun _ => Ppa1 (fun z22 => Pp.ite (fun _ => hk) (fun _ => Pp_lb (fun I5 e5 => Pp_lb (fun I6 e6 => Pp_lb (fun I7 e7 => ?_))))))))))
  unfold F_RM_allow
  refine Ppc2 (Pp_lb (fun I8 e8 => Pp.ret (Pp.g (fun _ => Pp.ret (Or.inl ⟨k_1, fun hn => ⟨?_, ?_, ?_⟩, fun b hb hb4 => ?_⟩)))))
  · try dsimp only
    rw [e8, up2_row _ _ hn, e7, up2_ne _ _ (fun z => absurd z.2 (by decide)), e6, up2_ne _ _ (fun z => absurd z.2 (by decide)), e5, up2_self]
  · try dsimp only
    rw [e8, up2_row _ _ hn, e7, up2_ne _ _ (fun z => absurd z.2 (by decide)), e6, up2_self]
  · try dsimp only
    rw [e8, up2_row _ _ hn, e7, up2_self]
  · try dsimp only
    rw [e8, up2_row _ _ hb, e7, up2_row _ _ hb4, e6, up2_row _ _ hb4, e5, up2_row _ _ hb4]
end CANEW
