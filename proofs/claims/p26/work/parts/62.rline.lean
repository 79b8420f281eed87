/-! the reference's reader: its lines (1) -/
theorem bind_ok {α β ε : Type} {x : Except ε α} {f : α → Except ε β} {y : β} (h : x.bind f = .ok y) : ∃ a, x = .ok a ∧ f a = .ok y := by
  cases x with
  | error e => cases h
  | ok a => exact ⟨a, rfl, h⟩
theorem wl_r {t : Nat → Int} {n f : Nat} {lo hi v : Int} (h : wl t n lo hi f = .ok v) : lo ≤ v ∧ v ≤ hi := by
  unfold wl at h
  split at h
  · split at h
    · rename_i q; cases h; exact q
    · cases h
  · cases h
theorem ww_ok {t : Nat → Int} {n i f f2 : Nat} (h : ww t n i f = .ok f2) : f2 = nx t n f := by
  unfold ww at h
  split at h
  · cases h; rfl
  · cases h
theorem eV_r {t : Nat → Int} {n : Nat} {lo hi : Int} {e : ER} {w : Int × Nat × MM} (h : eV t n lo hi e = .ok w) : lo ≤ w.1 ∧ w.1 ≤ hi := by
  obtain ⟨q, h1, h2⟩ := bind_ok h
  obtain ⟨v, h3, h4⟩ := bind_ok h2
  cases h4; exact wl_r h3
section RLINE
variable {N : Nat} {O : WO} {I I0 : WI} {J J0 : WJ} {a : Nat} {t : Nat → Int} {n f : Nat} {M : MM} {e : ER}
theorem XR.put {F k : Nat} {v : Int32} {w : Int} (hne : ∀ j, j < 7 → rf O F (11 + j) ≠ F) (h : XR O F I J M) (hk : k < 7) (hv : v.toInt = w) (hz : (k = 0 ∨ k = 4 ∨ k = 5) → 0 < w) : XR O F (up2 I F k v) J (sg M k w) := by
  obtain ⟨⟨a0, a1, a2, a3, a4, a5, a6, a7, a8, a9, a10, b0, b4, b5⟩, h2, h3⟩ := h
  refine ⟨?_, fun j i hj hi => by rw [up2_ne _ _ (fun z => hne j (by omega) z.1)]; exact h2 j i hj hi, fun j q hq => by rw [up2_ne _ _ (fun z => hne 6 (by omega) z.1)]; exact h3 j q hq⟩
  rcases (show k = 0 ∨ k = 1 ∨ k = 2 ∨ k = 3 ∨ k = 4 ∨ k = 5 ∨ k = 6 by omega) with rfl | rfl | rfl | rfl | rfl | rfl | rfl
  · have hw := hz (Or.inl rfl)
    simp [up2, sg, u1, a1, a2, a3, a4, a5, a6, a7, a8, a9, a10, b0, b4, b5, hv, nz]; omega
  · simp [up2, sg, u1, a0, a2, a3, a4, a5, a6, a7, a8, a9, a10, b0, b4, b5, hv]
  · simp [up2, sg, u1, a0, a1, a3, a4, a5, a6, a7, a8, a9, a10, b0, b4, b5, hv]
  · simp [up2, sg, u1, a0, a1, a2, a4, a5, a6, a7, a8, a9, a10, b0, b4, b5, hv]
  · have hw := hz (Or.inr (Or.inl rfl))
    simp [up2, sg, u1, a0, a1, a2, a3, a5, a6, a7, a8, a9, a10, b0, b4, b5, hv, nz]; omega
  · have hw := hz (Or.inr (Or.inr rfl))
    simp [up2, sg, u1, a0, a1, a2, a3, a4, a6, a7, a8, a9, a10, b0, b4, b5, hv, nz]; omega
  · simp [up2, sg, u1, a0, a1, a2, a3, a4, a5, a7, a8, a9, a10, b0, b4, b5, hv]
theorem OKX.pf {k : Nat} {v : Int32} (S : SX0 O a) (h : OKX O a I) (hk : k < 7) : OKX O a (up2 I (rf O a 4) k v) := by
  obtain ⟨h1, h2, h3, h4, h5, h6, h7⟩ := h
  exact ⟨by rw [up2_ne _ _ (fun z => S.1 z.1.symm)]; exact h1, by rw [up2_ne _ _ (by omega)]; exact h2, by rw [up2_ne _ _ (by omega)]; exact h3, by rw [up2_ne _ _ (by omega)]; exact h4, by rw [up2_ne _ _ (by omega)]; exact h5, fun j => by rw [up2_ne _ _ (fun z => (S.2.2.2.1 3 (by omega)).2.1 z.1)]; exact h6 j, fun j => by rw [up2_ne _ _ (fun z => (S.2.2.2.1 6 (by omega)).2.1 z.1)]; exact h7 j⟩
theorem RX.nw {I' : WI} {b : Nat} (h : RX O a I J t n f) (h1 : b ≠ a) (h2 : b ≠ rf O a 5) (e : ∀ c, c ≠ b → I' c = I c) : RX O a I' J t n f := by
  obtain ⟨⟨y1, y2, y3, y4⟩, x⟩ := h
  have ea := e a (fun z => h1 z.symm)
  refine ⟨⟨y1, y2, by rw [ea]; exact y3, fun i hi => by rw [e _ (fun z => h2 z.symm)]; exact y4 i hi⟩, ?_⟩
  rw [ea]; exact x
theorem SX.put {k : Nat} {v : Int32} {w : Int} (S : SX0 O a) (h : SX O a t n I0 J0 I J f M) (hk : k < 7) (hv : v.toInt = w) (hz : (k = 0 ∨ k = 4 ∨ k = 5) → 0 < w) : SX O a t n I0 J0 (up2 I (rf O a 4) k v) J f (sg M k w) := by
  obtain ⟨h1, h2, h3, h4, h5, h6⟩ := h
  exact ⟨h1.nw S.1 (fun z => S.2.2.1 z.symm) (fun c hc => up2_row _ _ hc), by rw [up2_ne _ _ (fun z => S.1 z.1.symm)]; exact h2, h3.put (fun j hj => (S.2.2.2.1 j hj).2.1) hk hv hz, h4.pf S hk, h5.f S, h6⟩
theorem OX.put {k : Nat} {v : Int32} {w : Int} {p : Nat} (S : SX0 O a) (h : OX O a I0 J0 I J w p) (hk : k < 7) : OX O a I0 J0 (up2 I (rf O a 4) k v) J w p := by
  obtain ⟨h1, h2, h3, h4, h5, h6⟩ := h
  have ea : up2 I (rf O a 4) k v a = I a := up2_row _ _ (fun z => S.1 z.symm)
  exact ⟨by rw [ea]; exact h1, by rw [ea]; exact h2, by rw [ea]; exact h3, h4.pf S hk, h5.f S, h6⟩
theorem SOV.put {k : Nat} {e : EV} {v : Int32} (S : SX0 O a) (h : SOV O a t n I0 J0 e v I J) (hk : k < 7) (hz : ∀ w, e = .ok w → (k = 0 ∨ k = 4 ∨ k = 5) → 0 < w.1) : SO O a t n I0 J0 (eP k e) (up2 I (rf O a 4) k v) J := by
  cases e with
  | ok w => exact SX.put S h.2 hk h.1 (hz w rfl)
  | error w => exact OX.put S h hk
theorem SO.once (S : SX0 O a) (hN : 800 ≤ N) {b : Bool} {Q : WI × WJ → Prop} (h : SX O a t n I0 J0 I J f M) (hk : kd t n f ≠ 1) (k : ∀ I' J', SO O a t n I0 J0 (if b = true then .error (3, f) else .ok (nx t n f, M)) I' J' → Q (I', J')) : Wp (F_Mo_once N O I J a (bI b)) Q := by
  unfold F_Mo_once
  have h0 : SO O a t n I0 J0 (.ok (f, M)) I J := h
  refine Wp.jn ?_
  cases b with
  | false => exact Wp.pos bI_f (Wp.bd2 (h0.next S hN (fun w hw => by cases hw; exact hk) (fun I' J' _ h' => Wp.ret (k _ _ h'))))
  | true => exact Wp.neg (by rw [bI_t]; decide) (Wp.bd1 (h0.wrong S (w := 3) (ofI (by decide)) (fun I' _ h' => Wp.bd2 (h'.next S hN (fun w hw => by cases hw) (fun I2 J2 _ h2 => Wp.ret (k _ _ h2))))))
theorem SX.F (h : SX O a t n I0 J0 I J f M) : XR O (rf O a 4) I J M := h.2.2.1
theorem nz_m {v : Int} (h : 0 ≤ v) : nz v = -1 ↔ ¬ 0 < v := by unfold nz; split <;> omega
theorem r_drum (S : SX0 O a) (hN : 800 ≤ N) {Q : WI × WJ → Prop} (h : SX O a t n I0 J0 I J f M) (hk : kd t n f ≠ 1) (k : ∀ I' J', SO O a t n I0 J0 (spDrum t n f M) I' J' → Q (I', J')) : Wp (F_Mo_readDrum N O I J a) Q := by
  unfold F_Mo_readDrum
  have x := h.F.1
  refine Wp_jq (fun kk => Wp (kk (bI (decide (0 < M.1 0)))) Q) ?_ (fun kk hk => ?_)
  · refine Wp.bd2 (SO.once S hN h hk (fun I1 J1 h1 => Wp.bd2 (h1.need S hN (i := 1) (by decide) (fun I2 J2 _ h2 => Wp.bd3 (h2.whole S hN (ofI (by decide)) (ofI (by decide)) (fun v I3 J3 _ h3 => Wp.lb (Wp.bd2 ((h3.put (k := 0) S (by decide) (fun w hw _ => by have := eV_r hw; omega)).need S hN (i := 2) (by decide) (fun I5 J5 _ h5 => Wp.bd3 (h5.whole S hN (ofI (by decide)) (ofI (by decide)) (fun v2 I6 J6 _ h6 => Wp.lb (Wp.ret (k _ _ ?_)))))))))))))
    have h7 := h6.put (k := 1) S (by decide) (fun w hw q => by omega)
    refine Eq.subst (motive := fun z => SO O a t n I0 J0 z _ _) ?_ h7
    unfold spDrum eP eV eW
    by_cases q : 0 < M.1 0
    · rw [if_pos (decide_eq_true q), if_pos q]; rfl
    · rw [if_neg (by simp [q]), if_neg q]
      simp only [Ex_ok]
      cases ww t n 1 (nx t n f) with
      | error w => rfl
      | ok f2 =>
        simp only [Ex_ok]
        cases wl t n 20 999 f2 with
        | error w => rfl
        | ok v =>
          simp only [Ex_ok]
          cases ww t n 2 (nx t n f2) with
          | error w => rfl
          | ok f4 =>
            simp only [Ex_ok]
            cases wl t n 10 200 f4 with
            | error w => rfl
            | ok v2 => rfl
  · rw [x.1]
    have := nz_m x.2.2.2.2.2.2.2.2.2.2.2.1
    refine Wp.ite (fun q => ?_) (fun q => ?_)
    · rw [decide_eq_false (this.mp q)] at hk; exact hk
    · rw [decide_eq_true (Decidable.not_not.mp (fun z => q (this.mpr z)))] at hk; exact hk
theorem r_liner (S : SX0 O a) (hN : 800 ≤ N) {Q : WI × WJ → Prop} (h : SX O a t n I0 J0 I J f M) (hk : kd t n f ≠ 1) (k : ∀ I' J', SO O a t n I0 J0 (spLiner t n f M) I' J' → Q (I', J')) : Wp (F_Mo_readLiner N O I J a) Q := by
  unfold F_Mo_readLiner
  have x := h.F.1
  refine Wp_jq (fun kk => Wp (kk (bI (decide (0 < M.1 4)))) Q) ?_ (fun kk hk => ?_)
  · refine Wp.bd2 (SO.once S hN h hk (fun I1 J1 h1 => Wp.bd3 (h1.whole S hN (ofI (by decide)) (ofI (by decide)) (fun v I3 J3 _ h3 => Wp.lb (Wp.ret (k _ _ ?_))))))
    have h7 := h3.put (k := 4) S (by decide) (fun w hw _ => by have := eV_r hw; omega)
    refine Eq.subst (motive := fun z => SO O a t n I0 J0 z _ _) ?_ h7
    unfold spLiner eP eV
    by_cases q : 0 < M.1 4
    · rw [if_pos (decide_eq_true q), if_pos q]; rfl
    · rw [if_neg (by simp [q]), if_neg q]
      simp only [Ex_ok]
      cases wl t n 1 200 (nx t n f) with
      | error w => rfl
      | ok f2 => rfl
  · rw [x.2.2.2.2.1]
    have := nz_m x.2.2.2.2.2.2.2.2.2.2.2.2.1
    refine Wp.ite (fun q => ?_) (fun q => ?_)
    · rw [decide_eq_false (this.mp q)] at hk; exact hk
    · rw [decide_eq_true (Decidable.not_not.mp (fun z => q (this.mpr z)))] at hk; exact hk
theorem r_bin (S : SX0 O a) (hN : 800 ≤ N) {Q : WI × WJ → Prop} (h : SX O a t n I0 J0 I J f M) (hk : kd t n f ≠ 1) (k : ∀ I' J', SO O a t n I0 J0 (spBin t n f M) I' J' → Q (I', J')) : Wp (F_Mo_readBin N O I J a) Q := by
  unfold F_Mo_readBin
  have x := h.F.1
  refine Wp_jq (fun kk => Wp (kk (bI (decide (0 < M.1 5)))) Q) ?_ (fun kk hk => ?_)
  · refine Wp.bd2 (SO.once S hN h hk (fun I1 J1 h1 => Wp.bd3 (h1.whole S hN (ofI (by decide)) (ofI (by decide)) (fun v I3 J3 _ h3 => Wp.lb (Wp.bd2 ((h3.put (k := 5) S (by decide) (fun w hw _ => by have := eV_r hw; omega)).need S hN (i := 10) (by decide) (fun I5 J5 _ h5 => Wp.bd3 (h5.whole S hN (ofI (by decide)) (ofI (by decide)) (fun v2 I6 J6 _ h6 => Wp.lb (Wp.ret (k _ _ ?_)))))))))))
    have h7 := h6.put (k := 6) S (by decide) (fun w hw q => by omega)
    refine Eq.subst (motive := fun z => SO O a t n I0 J0 z _ _) ?_ h7
    unfold spBin eP eV eW
    by_cases q : 0 < M.1 5
    · rw [if_pos (decide_eq_true q), if_pos q]; rfl
    · rw [if_neg (by simp [q]), if_neg q]
      simp only [Ex_ok]
      cases wl t n 1 999 (nx t n f) with
      | error w => rfl
      | ok v =>
        simp only [Ex_ok]
        cases ww t n 10 (nx t n (nx t n f)) with
        | error w => rfl
        | ok f4 =>
          simp only [Ex_ok]
          cases wl t n 0 200 f4 with
          | error w => rfl
          | ok v2 => rfl
  · rw [x.2.2.2.2.2.1]
    have := nz_m x.2.2.2.2.2.2.2.2.2.2.2.2.2
    refine Wp.ite (fun q => ?_) (fun q => ?_)
    · rw [decide_eq_false (this.mp q)] at hk; exact hk
    · rw [decide_eq_true (Decidable.not_not.mp (fun z => q (this.mpr z)))] at hk; exact hk
theorem SO.isName (hN : 800 ≤ N) (h : SO O a t n I0 J0 e I J) : F_Mo_isName N O I J a = some (bI (match e with | .ok w => isnm t n w.1 | .error _ => false)) := by
  unfold F_Mo_isName
  rw [show (16 : Nat) = 0 + 16 from rfl, show (19 : Nat) = 3 + 16 from rfl, show (20 : Nat) = 4 + 16 from rfl, show (21 : Nat) = 5 + 16 from rfl, show (22 : Nat) = 6 + 16 from rfl, show (23 : Nat) = 7 + 16 from rfl, show (24 : Nat) = 8 + 16 from rfl]
  rw [h.isWord hN (by decide), h.isWord hN (by decide), h.isWord hN (by decide), h.isWord hN (by decide), h.isWord hN (by decide), h.isWord hN (by decide), h.isWord hN (by decide)]
  cases e with
  | error q => rw [if_neg (by rw [h.1]; decide)]; rfl
  | ok w =>
    simp only [bd1, bI_i, eis]
    have h9 := h.1.2.2.1
    by_cases q : kd t n w.1 = 2
    · rw [if_pos (by rw [h9]; exact (sx_k (Or.inl rfl)).mpr q)]
      unfold isnm
      simp only [q, decide_true, Bool.true_and]
      cases isw t n 0 w.1
      · cases isw t n 3 w.1
        · cases isw t n 4 w.1
          · cases isw t n 5 w.1
            · cases isw t n 6 w.1
              · cases isw t n 7 w.1
                · cases isw t n 8 w.1
                  · rfl
                  · rfl
                · rfl
              · rfl
            · rfl
          · rfl
        · rfl
      · rfl
    · rw [if_neg (by rw [h9]; exact fun z => q ((sx_k (Or.inl rfl)).mp z))]
      unfold isnm
      simp only [q, decide_false, Bool.false_and]; rfl
theorem r_find (hN : 800 ≤ N) {F : Nat} {c : Int64} {cnt : Nat} (hx : (I F 10).toInt = (cnt : Int)) (hc : cnt ≤ 9) : ∃ r : Int32, F_Mx_find N O I J F c = some r ∧ ((r.toInt = -1 ∧ ∀ i, i < cnt → ¬ (J (rf O F 16) i).toInt = c.toInt) ∨ ∃ i : Nat, i < cnt ∧ r.toInt = (i : Int) ∧ (J (rf O F 16) i).toInt = c.toInt ∧ ∀ j, j < i → ¬ (J (rf O F 16) j).toInt = c.toInt) := by
  have main : ∀ (m : Nat) (y : Int32) (p : Nat), y.toInt = (p : Int) → p ≤ cnt → (∀ i, i < p → ¬ (J (rf O F 16) i).toInt = c.toInt) → cnt - p < m → ∃ r : Int32, lp (B_Mx_find_2 N O F c I J) (fun _ => none) m y = some r ∧ ((r.toInt = -1 ∧ ∀ i, i < cnt → ¬ (J (rf O F 16) i).toInt = c.toInt) ∨ ∃ i : Nat, i < cnt ∧ r.toInt = (i : Int) ∧ (J (rf O F 16) i).toInt = c.toInt ∧ ∀ j, j < i → ¬ (J (rf O F 16) j).toInt = c.toInt) := by
    intro m
    induction m with
    | zero => intro y p _ _ _ h; omega
    | succ m ih =>
      intro y p hy hp hj hm
      show ∃ r : Int32, B_Mx_find_2 N O F c I J (lp (B_Mx_find_2 N O F c I J) (fun _ => none) m) y = some r ∧ _
      unfold B_Mx_find_2
      by_cases q : (I F 10).toInt ≤ y.toInt
      · rw [if_pos q]; exact ⟨_, rfl, Or.inl ⟨ofI (by decide), fun i hi => hj i (by omega)⟩⟩
      · rw [if_neg q, if_pos (by omega), show y.toInt.toNat = p by omega]
        by_cases q2 : (lg_cmp (J (rf O F 16) p) c).toInt = 0
        · rw [if_pos q2]; exact ⟨_, rfl, Or.inr ⟨p, by omega, hy, cmp0.mp q2, hj⟩⟩
        · rw [if_neg q2]
          refine ih _ (p + 1) (by rw [t_add hy k_1 (by omega)]; omega) (by omega) (fun i hi => ?_) (by omega)
          rcases Nat.lt_or_ge i p with w | w
          · exact hj i w
          · rw [show i = p by omega]; exact fun z => q2 (cmp0.mpr z)
  exact main N _ 0 k_0 (by omega) (fun i h => absurd h (Nat.not_lt_zero i)) (by omega)
theorem fnd_idx {c : Int} : ∀ (nl : List (Int × Int)) (k : Nat) (q : Int × Int), nl[k]? = some q → q.1 = c → (∀ j r, j < k → nl[j]? = some r → ¬ r.1 = c) → fndN nl c = some q
  | [], k, q, h, _, _ => by simp at h
  | x :: l, 0, q, h, hc, _ => by
    have : x = q := by simpa using h
    subst this
    unfold fndN; rw [List.find?_cons_of_pos (by simp [hc])]
  | x :: l, k + 1, q, h, hc, hj => by
    have hx : ¬ x.1 = c := hj 0 x (by omega) (by simp)
    have ih := fnd_idx l k q (by simpa using h) hc (fun j r hjk hr => hj (j + 1) r (by omega) (by simpa using hr))
    unfold fndN at ih ⊢; rw [List.find?_cons_of_neg (by simp [hx])]; exact ih
/-- what find answers of the names -/
theorem XR.fnd {F : Nat} (h : XR O F I J M) {c : Int} {r : Int32} (hr : (r.toInt = -1 ∧ ∀ i, i < M.2.2.length → ¬ (J (rf O F 16) i).toInt = c) ∨ ∃ i : Nat, i < M.2.2.length ∧ r.toInt = (i : Int) ∧ (J (rf O F 16) i).toInt = c ∧ ∀ j, j < i → ¬ (J (rf O F 16) j).toInt = c) : (r.toInt = -1 ∧ fndN M.2.2 c = none) ∨ ∃ (i : Nat) (q : Int × Int), i < M.2.2.length ∧ r.toInt = (i : Int) ∧ fndN M.2.2 c = some q ∧ (I (rf O F 17) i).toInt = q.2 := by
  obtain ⟨h1, h2, h3⟩ := h
  rcases hr with ⟨e, hn⟩ | ⟨i, i1, i2, i3, i4⟩
  · refine Or.inl ⟨e, ?_⟩
    unfold fndN
    rw [List.find?_eq_none]
    intro q hq
    obtain ⟨k, hk⟩ := List.getElem?_of_mem hq
    have hl : k < M.2.2.length := (List.getElem?_eq_some_iff.mp hk).1
    have := (h3 k q hk).1
    simp only [decide_eq_true_eq]
    rw [← this]; exact hn k hl
  · have hk : M.2.2[i]? = some M.2.2[i] := List.getElem?_eq_getElem i1
    have h4 := h3 i _ hk
    refine Or.inr ⟨i, M.2.2[i], i1, i2, fnd_idx _ i _ hk (by rw [← h4.1]; exact i3) (fun j r hj hr => ?_), h4.2⟩
    rw [← (h3 j r hr).1]; exact i4 j hj
end RLINE
