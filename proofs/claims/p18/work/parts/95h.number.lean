/-! a number told, both sides -/
theorem Ppe1 {α ρ : Type} {m : Option α} {f : α → Option ρ} {Q : ρ → Prop} (h : ∀ x, m = some x → Pp (f x) Q) : Pp (bd1 m f) Q := by
  cases hm : m with
  | none => exact Pp.no
  | some x => exact h x hm
/-- a place of a row gets a value -/
def AP1 (I I' : WI) (b n : Nat) (v : Int32) : Prop := ∀ k, I' b k = if k = n then v else I b k
theorem AP1.up {I I1 I2 : WI} {b n : Nat} {v : Int32} (h1 : I1 = up2 I b n v) (h2 : ∀ k, I2 b k = I1 b k) : AP1 I I2 b n v := fun k => by
  rw [h2 k, h1]
  by_cases e : k = n
  · subst e; rw [up2_self, if_pos rfl]
  · rw [up2_ne _ _ (fun z => e z.2), if_neg e]
section NUMQ
variable {N : Nat} {O : WO} {I : WI} {J : WJ} {a : Nat}
def NQc (O : WO) (I : WI) (a : Nat) (v1 v : Int32) (q : Int32 × WI) : Prop := (q.1.toInt = -1 ∧ ∀ b, ¬ b = a → q.2 b = I b) ∨ (¬ q.1.toInt = -1 ∧ (0 ≤ v.toInt ∧ v.toInt ≤ 999) ∧ ((v1.toInt = 0 ∧ AP1 I q.2 (rf O (rf O a 9) 0) (I (rf O a 9) 3).toInt.toNat v ∧ (q.2 (rf O a 9) 3).toInt = (I (rf O a 9) 3).toInt + 1 ∧ q.2 (rf O a 9) 4 = I (rf O a 9) 4 ∧ (∀ b, ¬ b = a → ¬ b = rf O a 9 → ¬ b = rf O (rf O a 9) 0 → q.2 b = I b)) ∨ (¬ v1.toInt = 0 ∧ AP1 I q.2 (rf O (rf O a 9) 1) (I (rf O a 9) 4).toInt.toNat v ∧ (q.2 (rf O a 9) 4).toInt = (I (rf O a 9) 4).toInt + 1 ∧ q.2 (rf O a 9) 3 = I (rf O a 9) 3 ∧ (∀ b, ¬ b = a → ¬ b = rf O a 9 → ¬ b = rf O (rf O a 9) 1 → q.2 b = I b))))
theorem c_numberQ {v1 v : Int32} (n1 : ¬ rf O a 9 = a) (n2 : ¬ rf O (rf O a 9) 0 = a) (n3 : ¬ rf O (rf O a 9) 1 = a) (n4 : ¬ rf O (rf O a 9) 0 = rf O a 9) (n5 : ¬ rf O (rf O a 9) 1 = rf O a 9) : Pp (F_RM_number N O I J a v1 v) (NQc O I a v1 v) := by
  have rj : ∀ w : Int32, Pp (bd2 (F_RM_refuse N O I J a w) fun z I2 => some (z, I2)) (NQc O I a v1 v) := fun w => by
    unfold F_RM_refuse
    refine Ppc2 (Pp_lb (fun I1 e1 => Pp.ret (Pp.ret (Or.inl ⟨ofI (by decide), fun b hb => ?_⟩))))
    show I1 b = I b
    rw [e1, up2_row _ _ hb]
  unfold F_RM_number
  refine Ppa1 (fun z1 => Pp.ite (fun _ => ?_) (fun _ => rj _))
  refine Pp_jq (fun k => Pp k (NQc O I a v1 v)) (rj _) (fun k24 hk => Pp.ite (fun _ => hk) (fun c1 => Pp.ite (fun c2 => Ppe1 (fun z35 e35 => Pp.ite (fun c35 => ?_) (fun _ => rj _))) (fun _ => hk)))
  unfold F_Tr_add
  refine Ppc2 (Ppe1 (fun z2 e2 => Pp.ite (fun _ => Pp.ite (fun c3 => Pp.g (fun g3 => Pp_lb (fun I2 x2 => Pp_lb (fun I3 x3 => Pp.ret ?_)))) (fun c3 => Pp.g (fun g3 => Pp_lb (fun I2 x2 => Pp_lb (fun I3 x3 => Pp.ret ?_))))) (fun cz => ?_)))
  · show Pp (bd2 (F_RM_accept N O I3 J a (I3 (rf O a 9) 3)) fun z I5 => some (z, I5)) _
    unfold F_RM_accept
    refine Ppc2 (Pp_lb (fun I4 x4 => Pp.ret (Pp.ret ?_)))
    have w0 : I2 (rf O a 9) 3 = I (rf O a 9) 3 := by rw [x2, up2_row _ _ (fun z => n4 z.symm)]
    have w1 : (I3 (rf O a 9) 3).toInt = (I (rf O a 9) 3).toInt + 1 := by rw [x3, up2_self, w0]; exact t_add rfl k_1 (by omega)
    refine Or.inr ⟨?_, ⟨by omega, c2⟩, Or.inl ⟨c3, AP1.up x2 (fun k => ?_), ?_, ?_, fun b b1 b2 b3 => ?_⟩⟩
    · show ¬ (I3 (rf O a 9) 3).toInt = -1
      omega
    · show I4 (rf O (rf O a 9) 0) k = _
      rw [x4, up2_row _ _ n2, x3, up2_row _ _ n4]
    · show (I4 (rf O a 9) 3).toInt = _
      rw [x4, up2_row _ _ n1]; exact w1
    · show I4 (rf O a 9) 4 = _
      rw [x4, up2_row _ _ n1, x3, up2_ne _ _ (fun z => absurd z.2 (by decide)), x2, up2_row _ _ (fun z => n4 z.symm)]
    · show I4 b = _
      rw [x4, up2_row _ _ b1, x3, up2_row _ _ b2, x2, up2_row _ _ b3]
  · show Pp (bd2 (F_RM_accept N O I3 J a (I3 (rf O a 9) 4)) fun z I5 => some (z, I5)) _
    unfold F_RM_accept
    refine Ppc2 (Pp_lb (fun I4 x4 => Pp.ret (Pp.ret ?_)))
    have w0 : I2 (rf O a 9) 4 = I (rf O a 9) 4 := by rw [x2, up2_row _ _ (fun z => n5 z.symm)]
    have w1 : (I3 (rf O a 9) 4).toInt = (I (rf O a 9) 4).toInt + 1 := by rw [x3, up2_self, w0]; exact t_add rfl k_1 (by omega)
    refine Or.inr ⟨?_, ⟨by omega, c2⟩, Or.inr ⟨c3, AP1.up x2 (fun k => ?_), ?_, ?_, fun b b1 b2 b3 => ?_⟩⟩
    · show ¬ (I3 (rf O a 9) 4).toInt = -1
      omega
    · show I4 (rf O (rf O a 9) 1) k = _
      rw [x4, up2_row _ _ n3, x3, up2_row _ _ n5]
    · show (I4 (rf O a 9) 4).toInt = _
      rw [x4, up2_row _ _ n1]; exact w1
    · show I4 (rf O a 9) 3 = _
      rw [x4, up2_row _ _ n1, x3, up2_ne _ _ (fun z => absurd z.2 (by decide)), x2, up2_row _ _ (fun z => n5 z.symm)]
    · show I4 b = _
      rw [x4, up2_row _ _ b1, x3, up2_row _ _ b2, x2, up2_row _ _ b3]
  · have e : z35 = z2 := by have q := e35.symm.trans e2; injection q
    rw [e] at c35; exact absurd c35 cz
def NQr (O : WO) (I : WI) (a : Nat) (v2 v : Int32) (q : Int32 × WI) : Prop := (q.1.toInt = -1 ∧ ∀ b, ¬ b = a → q.2 b = I b) ∨ (¬ q.1.toInt = -1 ∧ (0 ≤ v.toInt ∧ v.toInt ≤ 999) ∧ ((v2.toInt = 0 ∧ AP1 I q.2 (rf O a 34) (I (rf O a 33) 0).toInt.toNat v) ∨ (¬ v2.toInt = 0 ∧ AP1 I q.2 (rf O a 34) (8 + (I (rf O a 33) 1).toInt.toNat) v)))
theorem r_numberQ {v2 v : Int32} (n1 : ¬ rf O a 33 = a) (n2 : ¬ rf O a 34 = a) (n3 : ¬ rf O a 34 = rf O a 33) (h0 : 0 ≤ (I (rf O a 33) 0).toInt ∧ (I (rf O a 33) 0).toInt ≤ 8) (h1 : 0 ≤ (I (rf O a 33) 1).toInt ∧ (I (rf O a 33) 1).toInt ≤ 8) : Pp (F_Mo_number N O I J a v2 v) (NQr O I a v2 v) := by
  unfold F_Mo_number
  refine Pp_lb (fun I1 x1 => ?_)
  have f1 : ∀ b, ¬ b = a → I1 b = I b := fun b hb => by rw [x1, up2_row _ _ hb]
  have rj : ∀ w : Int32, Pp (bd2 (F_Mo_refused N O I1 J a w) fun z I2 => some (z, I2)) (NQr O I a v2 v) := fun w => by
    unfold F_Mo_refused
    refine Ppc2 (Pp_lb (fun I2 e2 => Pp_lb (fun I3 e3 => Pp.ret (Pp.ret (Or.inl ⟨ofI (by decide), fun b hb => ?_⟩)))))
    show I3 b = I b
    rw [e3, up2_row _ _ hb, e2, up2_row _ _ hb]; exact f1 b hb
  have k8 : (Int32.ofInt 8).toInt = 8 := ofI (by decide)
  have k999 : (Int32.ofInt 999).toInt = 999 := ofI (by decide)
  refine Pp.ite (fun _ => rj _) (fun c0 => ?_)
  rw [r_in]
  refine Ppc1 (Pp.ret (Pp.ite (fun _ => rj _) (fun hz => ?_)))
  have hz2 : ¬ ¬ ((Int32.ofInt 0).toInt ≤ v.toInt ∧ v.toInt ≤ (Int32.ofInt 999).toInt) := fun q => hz (bI_d0.mpr q)
  rw [k_0, k999] at hz2
  have hv := Classical.not_not.mp hz2
  refine Pp_jq (fun k => ∀ s : Int32, ((v2.toInt = 0 ∧ s.toInt = 0) ∨ (¬ v2.toInt = 0 ∧ s.toInt = 1)) → Pp (k s) (NQr O I a v2 v)) (fun s hs => ?_) (fun k44 hk => Pp.ite (fun c => hk _ (Or.inl ⟨c, k_0⟩)) (fun c => hk _ (Or.inr ⟨c, k_1⟩)))
  have es : (s.toInt = 0 ∧ s.toInt.toNat = 0) ∨ (s.toInt = 1 ∧ s.toInt.toNat = 1) := by omega
  have er : 0 ≤ (I1 (rf O a 33) s.toInt.toNat).toInt ∧ (I1 (rf O a 33) s.toInt.toNat).toInt ≤ 8 := by
    rw [f1 _ n1]
    rcases es with ⟨_, e⟩ | ⟨_, e⟩
    · rw [e]; exact h0
    · rw [e]; exact h1
  have ei : (Int32.ofInt 8 * s + I1 (rf O a 33) s.toInt.toNat).toInt = 8 * s.toInt + (I1 (rf O a 33) s.toInt.toNat).toInt := t_add (t_mul k8 rfl (by omega)) rfl (by omega)
  refine Pp.g (fun _ => Pp.ite (fun _ => rj _) (fun _ => Pp.g (fun _ => Pp.g (fun _ => Pp_lb (fun I4 x4 => Pp.g (fun _ => Pp.g (fun _ => Pp_lb (fun I5 x5 => Pp.g (fun _ => ?_)))))))))
  unfold F_Mo_done
  refine Ppc2 (Pp_lb (fun I6 x6 => Pp_lb (fun I7 x7 => Pp.ret (Pp.ret ?_))))
  have w4 : I4 (rf O a 33) s.toInt.toNat = I1 (rf O a 33) s.toInt.toNat := by rw [x4, up2_row _ _ (fun z => n3 z.symm)]
  have w5 : (I5 (rf O a 33) s.toInt.toNat).toInt = (I1 (rf O a 33) s.toInt.toNat).toInt + 1 := by rw [x5, up2_self, w4]; exact t_add rfl k_1 (by omega)
  have ap : ∀ n, (Int32.ofInt 8 * s + I1 (rf O a 33) s.toInt.toNat).toInt.toNat = n → AP1 I I7 (rf O a 34) n v := fun n hn => by
    rw [hn] at x4
    have q := AP1.up (I2 := I7) x4 (fun k => by rw [x7, up2_row _ _ n2, x6, up2_row _ _ n2, x5, up2_row _ _ n3])
    intro k
    have qk := q k
    rw [f1 _ n2] at qk; exact qk
  refine Or.inr ⟨?_, hv, ?_⟩
  · show ¬ (I5 (rf O a 33) s.toInt.toNat).toInt = -1
    omega
  · rcases hs with ⟨c, s0⟩ | ⟨c, s0⟩
    · refine Or.inl ⟨c, ap _ ?_⟩
      have e0 : s.toInt.toNat = 0 := by omega
      rw [ei, e0, s0, f1 _ n1]; omega
    · refine Or.inr ⟨c, ap _ ?_⟩
      have e0 : s.toInt.toNat = 1 := by omega
      rw [ei, e0, s0, f1 _ n1]; omega
end NUMQ
/-- the rows of a try, alike -/
def CR6 (I : WI) (O : WO) (x mo : Nat) : Prop := (∀ k : Nat, (k : Int) < (I (rf O x 9) 3).toInt → (I (rf O (rf O x 9) 0) k).toInt = (I (rf O mo 34) k).toInt ∧ 0 ≤ (I (rf O mo 34) k).toInt ∧ (I (rf O mo 34) k).toInt ≤ 999) ∧ (∀ k : Nat, (k : Int) < (I (rf O x 9) 4).toInt → (I (rf O (rf O x 9) 1) k).toInt = (I (rf O mo 34) (8 + k)).toInt ∧ 0 ≤ (I (rf O mo 34) (8 + k)).toInt ∧ (I (rf O mo 34) (8 + k)).toInt ≤ 999)
theorem CR6.keep {I I2 : WI} {O : WO} {x mo : Nat} (h : CR6 I O x mo) (e9 : ∀ k, k = 3 ∨ k = 4 → I2 (rf O x 9) k = I (rf O x 9) k) (e0 : I2 (rf O (rf O x 9) 0) = I (rf O (rf O x 9) 0)) (e1 : I2 (rf O (rf O x 9) 1) = I (rf O (rf O x 9) 1)) (em : I2 (rf O mo 34) = I (rf O mo 34)) : CR6 I2 O x mo := by
  unfold CR6
  rw [e9 3 (Or.inl rfl), e9 4 (Or.inr rfl), e0, e1, em]; exact h
theorem CR6.zero {I : WI} {O : WO} {x mo : Nat} (h3 : (I (rf O x 9) 3).toInt = 0) (h4 : (I (rf O x 9) 4).toInt = 0) : CR6 I O x mo := ⟨fun k hk => by omega, fun k hk => by omega⟩
theorem CR6.num {I I1 I2 : WI} {O : WO} {x mo : Nat} (h : CR6 I O x mo) {z1 z2 v1 v2 v : Int32} (q1 : NQc O I x v1 v (z1, I1)) (q2 : NQr O I1 mo v2 v (z2, I2)) (hz : z1.toInt = z2.toInt) (hv : v1.toInt = 0 ↔ v2.toInt = 0) (nx : ¬ rf O x 9 = x ∧ ¬ rf O (rf O x 9) 0 = x ∧ ¬ rf O (rf O x 9) 1 = x) (nt : ¬ rf O (rf O x 9) 0 = rf O x 9 ∧ ¬ rf O (rf O x 9) 1 = rf O x 9 ∧ ¬ rf O (rf O x 9) 0 = rf O (rf O x 9) 1)
    (nm : ¬ rf O mo 34 = x ∧ ¬ rf O mo 34 = rf O x 9 ∧ ¬ rf O mo 34 = rf O (rf O x 9) 0 ∧ ¬ rf O mo 34 = rf O (rf O x 9) 1) (c9 : I2 (rf O x 9) = I1 (rf O x 9)) (c0 : I2 (rf O (rf O x 9) 0) = I1 (rf O (rf O x 9) 0)) (c1 : I2 (rf O (rf O x 9) 1) = I1 (rf O (rf O x 9) 1)) (m34 : ¬ rf O mo 34 = mo) (e33 : I1 (rf O mo 33) = I (rf O mo 33)) (a3 : (I (rf O x 9) 3).toInt = (I (rf O mo 33) 0).toInt) (a4 : (I (rf O x 9) 4).toInt = (I (rf O mo 33) 1).toInt) (b3 : 0 ≤ (I (rf O x 9) 3).toInt ∧ (I1 (rf O x 9) 3).toInt ≤ 8) (b4 : 0 ≤ (I (rf O x 9) 4).toInt ∧ (I1 (rf O x 9) 4).toInt ≤ 8) : CR6 I2 O x mo := by
  rcases q1 with ⟨p1, p2⟩ | ⟨p1, p2, p3⟩
  · rcases q2 with ⟨r1, r2⟩ | ⟨r1, r2, r3⟩
    · dsimp only at p2 r2
      exact h.keep (fun k _ => by rw [c9, p2 _ nx.1]) (by rw [c0, p2 _ nx.2.1]) (by rw [c1, p2 _ nx.2.2]) (by rw [r2 _ m34, p2 _ nm.1])
    · dsimp only at p1 r1; omega
  · rcases q2 with ⟨r1, r2⟩ | ⟨r1, r2, r3⟩
    · dsimp only at p1 r1; omega
    · dsimp only at p3 r3
      clear p1 r1
      obtain ⟨h1, h2⟩ := h
      rcases p3 with ⟨g1, g2, g3, g4, g5⟩ | ⟨g1, g2, g3, g4, g5⟩
      · rcases r3 with ⟨y1, y2⟩ | ⟨y1, y2⟩
        · have eM : I1 (rf O mo 34) = I (rf O mo 34) := g5 _ nm.1 nm.2.1 nm.2.2.1
          have eA : I1 (rf O (rf O x 9) 1) = I (rf O (rf O x 9) 1) := g5 _ nx.2.2 nt.2.1 (fun z => nt.2.2 z.symm)
          rw [e33] at y2
          have en : (I (rf O mo 33) 0).toInt.toNat = (I (rf O x 9) 3).toInt.toNat := by rw [a3]
          rw [en] at y2
          refine ⟨fun k hk => ?_, fun k hk => ?_⟩
          · rw [c9, g3] at hk
            rw [c0, g2 k, y2 k, eM]
            by_cases e : k = (I (rf O x 9) 3).toInt.toNat
            · rw [if_pos e, if_pos e]; exact ⟨rfl, p2⟩
            · rw [if_neg e, if_neg e]; exact h1 k (by omega)
          · rw [c9, g4] at hk
            rw [c1, eA, y2 (8 + k), eM, if_neg (by omega)]; exact h2 k hk
        · exact absurd (hv.mp g1) y1
      · rcases r3 with ⟨y1, y2⟩ | ⟨y1, y2⟩
        · exact absurd (hv.mpr y1) g1
        · have eM : I1 (rf O mo 34) = I (rf O mo 34) := g5 _ nm.1 nm.2.1 nm.2.2.2
          have eB : I1 (rf O (rf O x 9) 0) = I (rf O (rf O x 9) 0) := g5 _ nx.2.1 nt.1 nt.2.2
          rw [e33] at y2
          have en : (I (rf O mo 33) 1).toInt.toNat = (I (rf O x 9) 4).toInt.toNat := by rw [a4]
          rw [en] at y2
          refine ⟨fun k hk => ?_, fun k hk => ?_⟩
          · rw [c9, g4] at hk
            rw [c0, eB, y2 k, eM, if_neg (by have := b3.2; rw [g4] at this; omega)]; exact h1 k hk
          · rw [c9, g3] at hk
            rw [c1, g2 k, y2 (8 + k), eM]
            by_cases e : k = (I (rf O x 9) 4).toInt.toNat
            · rw [if_pos e, if_pos (by omega)]; exact ⟨rfl, p2⟩
            · rw [if_neg e, if_neg (by omega)]; exact h2 k (by omega)
