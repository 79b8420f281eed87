/-! what the class keeps through a call: protected cells -/
theorem Wp.pp {α : Type} {o : Option α} {Q : α → Prop} (h : Wp o Q) : Pp o Q := fun b eb => by
  obtain ⟨a, e, q⟩ := h
  rw [e] at eb; cases eb; exact q
/-- the mill, the drum, the settings, the ledger of a class's object -/
def TB (O : WO) (x b : Nat) : Prop := b = rf O x 1 ∨ (∃ j, j < 5 ∧ b = rf O (rf O x 1) (10 + j)) ∨ b = rf O x 3 ∨ b = rf O (rf O x 3) 0 ∨ (∃ j, j < 3 ∧ b = rf O (rf O (rf O x 3) 0) j) ∨ b = rf O (rf O x 3) 1 ∨ b = rf O x 4 ∨ b = rf O x 12
section TBS
variable {P : List Nat} {K : Nat → Nat} {O : WO} {x mo : Nat} {Q : List Nat}
/-- each protected cell has its one owner, protected too or the object itself -/
theorem TB.own2 {b : Nat} (hT : TR P K O) (hx : x ∈ P ∧ K x = 8) (h : TB O x b) : ¬ K b = 8 ∧ b ∈ P ∧ ((∃ f, (f = 1 ∨ f = 3 ∨ f = 4 ∨ f = 12) ∧ O x f = some b) ∨ (∃ c f, TB O x c ∧ O c f = some b)) := by
  have t1 := rf_ok hT hx (show sp 8 1 = some 3 from rfl)
  have t3 := rf_ok hT hx (show sp 8 3 = some 0 from rfl)
  have t4 := rf_ok hT hx (show sp 8 4 = some 18 from rfl)
  have t12 := rf_ok hT hx (show sp 8 12 = some 28 from rfl)
  have t30 := rf_ok hT t3 (show sp 0 0 = some 2 from rfl)
  have t31 := rf_ok hT t3 (show sp 0 1 = some 11 from rfl)
  rcases h with h | ⟨j, hj, h⟩ | h | h | ⟨j, hj, h⟩ | h | h | h
  · exact ⟨by rw [h, t1.2]; decide, by rw [h]; exact t1.1, Or.inl ⟨1, by omega, by rw [h]; exact rf_o hT hx (show sp 8 1 = some 3 from rfl)⟩⟩
  · have mk : ∀ κ', sp 3 (10 + j) = some κ' → κ' ≠ 8 → ¬ K b = 8 ∧ b ∈ P ∧ ((∃ f, (f = 1 ∨ f = 3 ∨ f = 4 ∨ f = 12) ∧ O x f = some b) ∨ (∃ c f, TB O x c ∧ O c f = some b)) := fun κ' hs hk => by
      have q := rf_ok hT t1 hs
      exact ⟨by rw [h, q.2]; exact hk, by rw [h]; exact q.1, Or.inr ⟨rf O x 1, 10 + j, Or.inl rfl, by rw [h]; exact rf_o hT t1 hs⟩⟩
    have : j = 0 ∨ j = 1 ∨ j = 2 ∨ j = 3 ∨ j = 4 := by omega
    rcases this with rfl | rfl | rfl | rfl | rfl
    · exact mk 13 rfl (by decide)
    · exact mk 11 rfl (by decide)
    · exact mk 11 rfl (by decide)
    · exact mk 12 rfl (by decide)
    · exact mk 14 rfl (by decide)
  · exact ⟨by rw [h, t3.2]; decide, by rw [h]; exact t3.1, Or.inl ⟨3, by omega, by rw [h]; exact rf_o hT hx (show sp 8 3 = some 0 from rfl)⟩⟩
  · exact ⟨by rw [h, t30.2]; decide, by rw [h]; exact t30.1, Or.inr ⟨rf O x 3, 0, Or.inr (Or.inr (Or.inl rfl)), by rw [h]; exact rf_o hT t3 (show sp 0 0 = some 2 from rfl)⟩⟩
  · have mk : sp 2 j = some 11 → ¬ K b = 8 ∧ b ∈ P ∧ ((∃ f, (f = 1 ∨ f = 3 ∨ f = 4 ∨ f = 12) ∧ O x f = some b) ∨ (∃ c f, TB O x c ∧ O c f = some b)) := fun hs => by
      have q := rf_ok hT t30 hs
      exact ⟨by rw [h, q.2]; decide, by rw [h]; exact q.1, Or.inr ⟨rf O (rf O x 3) 0, j, Or.inr (Or.inr (Or.inr (Or.inl rfl))), by rw [h]; exact rf_o hT t30 hs⟩⟩
    have : j = 0 ∨ j = 1 ∨ j = 2 := by omega
    rcases this with rfl | rfl | rfl
    · exact mk rfl
    · exact mk rfl
    · exact mk rfl
  · exact ⟨by rw [h, t31.2]; decide, by rw [h]; exact t31.1, Or.inr ⟨rf O x 3, 1, Or.inr (Or.inr (Or.inl rfl)), by rw [h]; exact rf_o hT t3 (show sp 0 1 = some 11 from rfl)⟩⟩
  · exact ⟨by rw [h, t4.2]; decide, by rw [h]; exact t4.1, Or.inl ⟨4, by omega, by rw [h]; exact rf_o hT hx (show sp 8 4 = some 18 from rfl)⟩⟩
  · exact ⟨by rw [h, t12.2]; decide, by rw [h]; exact t12.1, Or.inl ⟨12, by omega, by rw [h]; exact rf_o hT hx (show sp 8 12 = some 28 from rfl)⟩⟩
theorem TB.inQ {b : Nat} (hT : TR P K O) (hx : x ∈ P ∧ K x = 8) (hQ : OW Q P O x mo) (h : TB O x b) : b ∈ Q := by
  have c : ∀ a f κ κ', a ∈ Q → (a ∈ P ∧ K a = κ) → sp κ f = some κ' → rf O a f ∈ Q := fun a f κ κ' h1 h2 h3 => hQ.2.2.2.1 a f _ h1 (rf_o hT h2 h3)
  have t1 := rf_ok hT hx (show sp 8 1 = some 3 from rfl)
  have t3 := rf_ok hT hx (show sp 8 3 = some 0 from rfl)
  have t30 := rf_ok hT t3 (show sp 0 0 = some 2 from rfl)
  have q1 := c x 1 8 3 hQ.1 hx rfl
  have q3 := c x 3 8 0 hQ.1 hx rfl
  have q30 := c _ 0 0 2 q3 t3 rfl
  rcases h with h | ⟨j, hj, h⟩ | h | h | ⟨j, hj, h⟩ | h | h | h
  · rw [h]; exact q1
  · rw [h]
    have : j = 0 ∨ j = 1 ∨ j = 2 ∨ j = 3 ∨ j = 4 := by omega
    rcases this with rfl | rfl | rfl | rfl | rfl
    · exact c _ _ 3 13 q1 t1 rfl
    · exact c _ _ 3 11 q1 t1 rfl
    · exact c _ _ 3 11 q1 t1 rfl
    · exact c _ _ 3 12 q1 t1 rfl
    · exact c _ _ 3 14 q1 t1 rfl
  · rw [h]; exact q3
  · rw [h]; exact q30
  · rw [h]
    have : j = 0 ∨ j = 1 ∨ j = 2 := by omega
    rcases this with rfl | rfl | rfl
    · exact c _ _ 2 11 q30 t30 rfl
    · exact c _ _ 2 11 q30 t30 rfl
    · exact c _ _ 2 11 q30 t30 rfl
  · rw [h]; exact c _ 1 0 11 q3 t3 rfl
  · rw [h]; exact c x 4 8 18 hQ.1 hx rfl
  · rw [h]; exact c x 12 8 28 hQ.1 hx rfl
/-- the cells that a call may write: the class's own, but the protected ones -/
def WQ (Q : List Nat) (O : WO) (x b : Nat) : Prop := b ∈ Q ∧ ¬ TB O x b
theorem WQ.cl (hT : TR P K O) (hx : x ∈ P ∧ K x = 8) (hQ : OW Q P O x mo) : ∀ b f c, WQ Q O x b → ¬ K b = 8 → O b f = some c → WQ Q O x c := by
  intro b f c hb hk hc
  refine ⟨hQ.2.2.2.1 b f c hb.1 hc, fun hz => ?_⟩
  rcases (hz.own2 hT hx).2.2 with ⟨g, _, hg⟩ | ⟨c', g, h1, hg⟩
  · have e := (hQ.2.2.2.2 b f x g c hb.1 hQ.1 hc hg).1
    rw [e] at hk; exact hk hx.2
  · have e := (hQ.2.2.2.2 b f c' g c hb.1 (h1.inQ hT hx hQ) hc hg).1
    rw [e] at hb; exact hb.2 h1
theorem WQ.slf (hT : TR P K O) (hx : x ∈ P ∧ K x = 8) (hQ : OW Q P O x mo) : WQ Q O x x := ⟨hQ.1, fun h => (h.own2 hT hx).1 hx.2⟩
theorem WQ.fld {f κ' : Nat} (hT : TR P K O) (hx : x ∈ P ∧ K x = 8) (hQ : OW Q P O x mo) (hs : sp 8 f = some κ') (hf : ¬ f = 1 ∧ ¬ f = 3 ∧ ¬ f = 4 ∧ ¬ f = 12) : WQ Q O x (rf O x f) := by
  have ho := rf_o hT hx hs
  refine ⟨hQ.2.2.2.1 x f _ hQ.1 ho, fun hz => ?_⟩
  rcases (hz.own2 hT hx).2.2 with ⟨g, hg1, hg⟩ | ⟨c', g, h1, hg⟩
  · have e := (hQ.2.2.2.2 x f x g _ hQ.1 hQ.1 ho hg).2
    omega
  · have e := (hQ.2.2.2.2 x f c' g _ hQ.1 (h1.inQ hT hx hQ) ho hg).1
    rw [← e] at h1; exact (h1.own2 hT hx).1 hx.2
end TBS
/-! the drum emptied -/
theorem zf {I I' : WI} {d n : Nat} (h : ∀ k, 2 ≤ k → k < n → (I d k).toInt = 0) (e : I' = up2 I d n (Int32.ofInt 0)) : ∀ k, 2 ≤ k → k < n + 1 → (I' d k).toInt = 0 := fun k h2 hk => by
  rw [e]
  by_cases c : k = n
  · subst c; rw [up2_self]; exact k_0
  · rw [up2_ne _ _ (fun z => c z.2)]; exact h k h2 (by omega)
section CBEG
variable {N : Nat} {O : WO} {I : WI} {J : WJ} {d m : Nat}
set_option maxHeartbeats 4000000 in
theorem c_beginEmpty {Q : WI → Prop} (hN : 8 ≤ N) (sp : SPd O d m) (hQ : ∀ I', DRs I' O d (fun _ => 0) → (∀ b, ¬ WD O d b → I' b = I b) → Q I') : Wp (F_Dr_beginEmpty N O I J d) Q := by
  obtain ⟨⟨n01, n02, n03, n12, n13, n23⟩, ⟨d0, d1, d2, d3⟩, sm⟩ := sp
  unfold F_Dr_beginEmpty F_Ld_makeEmpty
  refine Wp.bd1 (Wp.bd1 (c_wipe5 hN (fun I1 a1 a2 => Wp.bd1 (c_wipe5 hN (fun I2 b1 b2 => Wp.bd1 (c_wipe5 hN (fun I3 c1 c2 => Wp.ret (Wp.bd1 (c_wipe5 hN (fun I4 e1 e2 => ?_))))))))))
  refine Wp_lb (fun J2 x2 => Wp_lb (fun J3 x3 => Wp_lb (fun J4 x4 => Wp_lb (fun J5 x5 => Wp_lb (fun J6 x6 => Wp_lb (fun J7 x7 => Wp_lb (fun J8 x8 => Wp_lb (fun J9 x9 => Wp_lb (fun J10 x10 => Wp_lb (fun J11 x11 => Wp_lb (fun J12 x12 => Wp_lb (fun J13 x13 => Wp_lb (fun J14 x14 => Wp_lb (fun J15 x15 => Wp_lb (fun J16 x16 => Wp.ret ?_)))))))))))))))
  have z := zf (zf (zf (zf (zf (zf (zf (zf (zf (zf (zf (zf (zf (zf (zf (n := 2) (fun k h1 h2 => by omega) x2) x3) x4) x5) x6) x7) x8) x9) x10) x11) x12) x13) x14) x15) x16
  have fb : ∀ b, ¬ b = d → J16 b = I4 b := fun b hb => by rw [x16, up2_row _ _ hb, x15, up2_row _ _ hb, x14, up2_row _ _ hb, x13, up2_row _ _ hb, x12, up2_row _ _ hb, x11, up2_row _ _ hb, x10, up2_row _ _ hb, x9, up2_row _ _ hb, x8, up2_row _ _ hb, x7, up2_row _ _ hb, x6, up2_row _ _ hb, x5, up2_row _ _ hb, x4, up2_row _ _ hb, x3, up2_row _ _ hb, x2, up2_row _ _ hb]
  refine hQ J16 ⟨fun k hk => ⟨?_, ?_, ?_, ?_⟩, z 2 (by decide) (by decide), z 13 (by decide) (by decide), z 14 (by decide) (by decide), z 12 (by decide) (by decide), z 3 (by decide) (by decide), z 4 (by decide) (by decide), z 5 (by decide) (by decide), z 6 (by decide) (by decide), z 7 (by decide) (by decide), z 8 (by decide) (by decide), z 9 (by decide) (by decide), z 10 (by decide) (by decide), z 15 (by decide) (by decide), z 16 (by decide) (by decide)⟩ (fun b hb => ?_)
  · rw [fb _ d0, e2 _ n03, c2 _ n02, b2 _ n01]; exact a1 k hk
  · rw [fb _ d1, e2 _ n13, c2 _ n12]; exact b1 k hk
  · rw [fb _ d2, e2 _ n23]; exact c1 k hk
  · rw [fb _ d3]; exact e1 k hk
  · have h0 : ¬ b = d := fun z => hb (Or.inl z)
    have h1 : ¬ b = rf O (rf O d 0) 0 := fun z => hb (Or.inr (Or.inl z))
    have h2 : ¬ b = rf O (rf O d 0) 1 := fun z => hb (Or.inr (Or.inr (Or.inl z)))
    have h3 : ¬ b = rf O (rf O d 0) 2 := fun z => hb (Or.inr (Or.inr (Or.inr (Or.inl z))))
    have h4 : ¬ b = rf O d 1 := fun z => hb (Or.inr (Or.inr (Or.inr (Or.inr z))))
    rw [fb b h0, e2 b h4, c2 b h3, b2 b h2, a2 b h1]
end CBEG
