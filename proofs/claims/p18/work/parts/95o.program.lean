/-! program, both sides -/
section PROGQ
variable {N : Nat} {O : WO} {I : WI} {J : WJ} {a : Nat}
def AP3 (I I' : WI) (b n : Nat) (u v w : Int32) : Prop := ∀ k, I' b k = if k = n then u else if k = n + 1 then v else if k = n + 2 then w else I b k
def PQc (O : WO) (I : WI) (a : Nat) (x1 x2 x3 x4 : Int32) (q : Int32 × WI) : Prop := (q.1.toInt = 0 ∧ ∀ b, ¬ b = a → q.2 b = I b) ∨ (q.1.toInt = 1 ∧ (0 ≤ x1.toInt ∧ x1.toInt ≤ 11) ∧ AP3 I q.2 (rf O a 5) (3 * x1.toInt.toNat) x2 x3 x4 ∧ (∀ st, st < 100 → (q.2 (rf O (rf O a 6) 1) st).toInt = 0) ∧ (q.2 (rf O a 7) 7).toInt = 0 ∧ (∀ k, ¬ k = 7 → q.2 (rf O a 7) k = I (rf O a 7) k) ∧ (∀ b, ¬ b = a → ¬ b = rf O a 5 → ¬ b = rf O (rf O a 6) 1 → ¬ b = rf O a 7 → q.2 b = I b))
theorem c_programQ {x1 x2 x3 x4 : Int32} (hN : 200 ≤ N) (n5 : ¬ rf O a 5 = a) (n6 : ¬ rf O (rf O a 6) 1 = a) (n7 : ¬ rf O a 7 = a) (n56 : ¬ rf O a 5 = rf O (rf O a 6) 1) (n57 : ¬ rf O a 5 = rf O a 7) (n67 : ¬ rf O (rf O a 6) 1 = rf O a 7) : Pp (F_RM_program N O I J a x1 x2 x3 x4) (PQc O I a x1 x2 x3 x4) := by
  have dn : ∀ w : Int32, Pp (bd2 (F_RM_deny N O I J a w) fun z I2 => if z.toInt = 0 ∨ z.toInt = 1 then (some (z, I2)) else none) (PQc O I a x1 x2 x3 x4) := fun w => by
    unfold F_RM_deny
    refine Ppc2 (Pp_lb (fun I1 e1 => Pp.ret (Pp.g (fun _ => Pp.ret (Or.inl ⟨k_0, fun b hb => ?_⟩)))))
    show I1 b = I b
    rw [e1, up2_row _ _ hb]
  unfold F_RM_program
  rw [c_isHour]
  refine Ppc1 (Pp.ret (Pp_jq (fun k => Pp k (PQc O I a x1 x2 x3 x4)) (dn _) (fun k16 hk => Pp.ite (fun _ => hk) (fun q1 => Ppa1 (fun z10 => Pp.ite (fun _ => hk) (fun _ => Ppa1 (fun z23 => Pp_jq (fun k => Pp k (PQc O I a x1 x2 x3 x4)) (dn _) (fun k36 hk2 => Pp.ite (fun _ => hk2) (fun _ => Ppa1 (fun z30 => Pp.ite (fun _ => hk2) (fun _ => ?_)))))))))))
  clear hk hk2
  have h1 := Classical.not_not.mp (fun z => q1 (bI_d0.mpr z))
  have e3 := t_mul (x := x1) rfl (ofI (n := 3) (by decide)) (by omega)
  have q0 : (x1 * Int32.ofInt 3 + Int32.ofInt 0).toInt = ((3 * x1.toInt.toNat : Nat) : Int) := by rw [t_add e3 k_0 (by omega)]; omega
  have q1' : (x1 * Int32.ofInt 3 + Int32.ofInt 1).toInt = ((3 * x1.toInt.toNat + 1 : Nat) : Int) := by rw [t_add e3 k_1 (by omega)]; omega
  have q2 : (x1 * Int32.ofInt 3 + Int32.ofInt 2).toInt = ((3 * x1.toInt.toNat + 2 : Nat) : Int) := by rw [t_add e3 (ofI (n := 2) (by decide)) (by omega)]; omega
  refine Pp.g (fun _ => Pp_lb (fun I7 x7 => Pp.g (fun _ => Pp_lb (fun I8 x8 => Pp.g (fun _ => Pp_lb (fun I9 x9 => ?_))))))
  rw [tn_i q0] at x7
  rw [tn_i q1'] at x8
  rw [tn_i q2] at x9
  refine Ppc1 (Wp.pp (c_makeStale hN (fun I10 s1 s2 => Pp_lb (fun I11 x11 => ?_))))
  unfold F_RM_allow
  refine Ppc2 (Pp_lb (fun I12 x12 => Pp.ret (Pp.g (fun _ => Pp.ret (Or.inr ⟨k_1, h1, fun k => ?_, fun st hst => ?_, ?_, fun k hk => ?_, fun b b1 b2 b3 b4 => ?_⟩)))))
  · show I12 (rf O a 5) k = _
    rw [x12, up2_row _ _ n5, x11, up2_row _ _ n57, s2 _ n56, x9]
    by_cases c2 : k = 3 * x1.toInt.toNat + 2
    · rw [if_neg (by omega), if_neg (by omega), if_pos c2, c2, up2_self]
    rw [up2_ne _ _ (fun z => c2 z.2), x8]
    by_cases c1 : k = 3 * x1.toInt.toNat + 1
    · rw [if_neg (by omega), if_pos c1, c1, up2_self]
    rw [up2_ne _ _ (fun z => c1 z.2), x7]
    by_cases c0 : k = 3 * x1.toInt.toNat
    · rw [if_pos c0, c0, up2_self]
    rw [up2_ne _ _ (fun z => c0 z.2), if_neg c0, if_neg c1, if_neg c2]
  · show (I12 (rf O (rf O a 6) 1) st).toInt = 0
    rw [x12, up2_row _ _ n6, x11, up2_row _ _ n67]; exact s1 st hst
  · show (I12 (rf O a 7) 7).toInt = 0
    rw [x12, up2_row _ _ n7, x11, up2_self]; exact k_0
  · show I12 (rf O a 7) k = _
    rw [x12, up2_row _ _ n7, x11, up2_ne _ _ (fun z => hk z.2), s2 _ (fun z => n67 z.symm), x9, up2_row _ _ (fun z => n57 z.symm), x8, up2_row _ _ (fun z => n57 z.symm), x7, up2_row _ _ (fun z => n57 z.symm)]
  · show I12 b = I b
    rw [x12, up2_row _ _ b1, x11, up2_row _ _ b4, s2 _ b3, x9, up2_row _ _ b2, x8, up2_row _ _ b2, x7, up2_row _ _ b2]
def PQr (O : WO) (I : WI) (a : Nat) (x1 x2 x3 x4 : Int32) (q : Int32 × WI) : Prop := (q.1.toInt = 0 ∧ ∀ b, ¬ b = a → q.2 b = I b) ∨ (q.1.toInt = 1 ∧ AP1 I q.2 (rf O a 20) x1.toInt.toNat x2 ∧ AP1 I q.2 (rf O a 21) x1.toInt.toNat x3 ∧ AP1 I q.2 (rf O a 22) x1.toInt.toNat x4)
theorem r_programQ {x1 x2 x3 x4 : Int32} (n0 : ¬ rf O a 20 = a) (n1 : ¬ rf O a 21 = a) (n2 : ¬ rf O a 22 = a) (n01 : ¬ rf O a 20 = rf O a 21) (n02 : ¬ rf O a 20 = rf O a 22) (n12 : ¬ rf O a 21 = rf O a 22) : Pp (F_Mo_program N O I J a x1 x2 x3 x4) (PQr O I a x1 x2 x3 x4) := by
  unfold F_Mo_program
  refine Pp_lb (fun I1 e1 => ?_)
  have f1 : ∀ b, ¬ b = a → I1 b = I b := fun b hb => by rw [e1, up2_row _ _ hb]
  have dn : ∀ w : Int32, Pp (bd2 (F_Mo_denied N O I1 J a w) fun z I2 => if z.toInt = 0 ∨ z.toInt = 1 then (some (z, I2)) else none) (PQr O I a x1 x2 x3 x4) := fun w => by
    unfold F_Mo_denied
    refine Ppc2 (Pp_lb (fun I2 e2 => Pp_lb (fun I3 e3 => Pp.ret (Pp.g (fun _ => Pp.ret (Or.inl ⟨k_0, fun b hb => ?_⟩))))))
    show I3 b = I b
    rw [e3, up2_row _ _ hb, e2, up2_row _ _ hb]; exact f1 b hb
  refine Ppa1 (fun z9 => Pp_jq (fun k => Pp k (PQr O I a x1 x2 x3 x4)) (dn _) (fun k24 hk => Pp.ite (fun _ => hk) (fun _ => Ppa1 (fun z18 => Pp.ite (fun _ => hk) (fun _ => Ppa1 (fun z33 => Pp_jq (fun k => Pp k (PQr O I a x1 x2 x3 x4)) (dn _) (fun k48 hk2 => Pp.ite (fun _ => hk2) (fun _ => Ppa1 (fun z42 => Pp.ite (fun _ => hk2) (fun _ => Pp.g (fun _ => Pp_lb (fun I8 x8 => Pp.g (fun _ => Pp_lb (fun I9 x9 => Pp.g (fun _ => Pp_lb (fun I10 x10 => ?_))))))))))))))))
  clear hk hk2
  unfold F_Mo_granted
  refine Ppc2 (Pp_lb (fun I11 x11 => Pp_lb (fun I12 x12 => Pp.ret (Pp.g (fun _ => Pp.ret (Or.inr ⟨k_1, ?_, ?_, ?_⟩))))))
  · have q := AP1.up (I2 := I12) x8 (fun k => by rw [x12, up2_row _ _ n0, x11, up2_row _ _ n0, x10, up2_row _ _ n02, x9, up2_row _ _ n01])
    intro k; have qk := q k; rw [f1 _ n0] at qk; exact qk
  · have q := AP1.up (I2 := I12) x9 (fun k => by rw [x12, up2_row _ _ n1, x11, up2_row _ _ n1, x10, up2_row _ _ n12])
    intro k; have qk := q k; rw [x8, up2_row _ _ (fun z => n01 z.symm), f1 _ n1] at qk; exact qk
  · have q := AP1.up (I2 := I12) x10 (fun k => by rw [x12, up2_row _ _ n2, x11, up2_row _ _ n2])
    intro k; have qk := q k; rw [x9, up2_row _ _ (fun z => n12 z.symm), x8, up2_row _ _ (fun z => n02 z.symm), f1 _ n2] at qk; exact qk
end PROGQ
/-- the reference's rows lie apart -/
def RI (O : WO) (mo : Nat) : Prop := ¬ rf O mo 20 = rf O mo 21 ∧ ¬ rf O mo 35 = rf O mo 36 ∧ ¬ rf O mo 24 = rf O mo 26 ∧ ¬ rf O mo 24 = rf O mo 27 ∧ ¬ rf O mo 26 = rf O mo 27 ∧ ¬ rf O mo 30 = rf O mo 31
theorem RI.o {O O2 : WO} {mo : Nat} (h : RI O mo) (e : ∀ f, f ≠ 3 → f ≠ 4 → rf O2 mo f = rf O mo f) : RI O2 mo := by
  unfold RI
  rw [e 20 (by decide) (by decide), e 21 (by decide) (by decide), e 35 (by decide) (by decide), e 36 (by decide) (by decide), e 24 (by decide) (by decide), e 26 (by decide) (by decide), e 27 (by decide) (by decide), e 30 (by decide) (by decide), e 31 (by decide) (by decide)]
  exact h
/-- settings that a mill with so many ores takes -/
def CVo (c : CO) (n : Int) : Prop := ∀ h, h < 12 → (0 ≤ (c h).1 ∧ (c h).1 ≤ 3) ∧ (0 ≤ (c h).2.1 ∧ (c h).2.1 ≤ 3) ∧ 0 ≤ (c h).2.2 ∧ (c h).2.2 < n
