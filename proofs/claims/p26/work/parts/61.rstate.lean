/-! the reference's reader over a fresh mill: its states (at a token; over), and its moves -/
def nz (v : Int) : Int := if v = 0 then -1 else v
def XR (O : WO) (F : Nat) (I : WI) (J : WJ) (M : MM) : Prop :=
  ((I F 0).toInt = nz (M.1 0) ∧ (I F 1).toInt = M.1 1 ∧ (I F 2).toInt = M.1 2 ∧ (I F 3).toInt = M.1 3 ∧ (I F 4).toInt = nz (M.1 4) ∧ (I F 5).toInt = nz (M.1 5) ∧ (I F 6).toInt = M.1 6 ∧ (I F 7).toInt = M.1 9 ∧ (I F 8).toInt = M.1 7 ∧ (I F 9).toInt = M.1 8 ∧ (I F 10).toInt = (M.2.2.length : Int) ∧ 0 ≤ M.1 0 ∧ 0 ≤ M.1 4 ∧ 0 ≤ M.1 5) ∧
  (∀ j i, j < 5 → i < mln j → (I (rf O F (11 + j)) i).toInt = M.2.1 j i) ∧ (∀ k q, M.2.2[k]? = some q → (J (rf O F 16) k).toInt = q.1 ∧ (I (rf O F 17) k).toInt = q.2)
/-- what the safety of later calls wants of a fresh mill, sound or not -/
def OKX (O : WO) (a : Nat) (I : WI) : Prop := (0 ≤ (I a 8).toInt ∧ (I a 8).toInt ≤ 700) ∧ (0 ≤ (I (rf O a 4) 7).toInt ∧ (I (rf O a 4) 7).toInt ≤ 6) ∧ (0 ≤ (I (rf O a 4) 8).toInt ∧ (I (rf O a 4) 8).toInt ≤ 5) ∧ (0 ≤ (I (rf O a 4) 9).toInt ∧ (I (rf O a 4) 9).toInt ≤ 4) ∧ (0 ≤ (I (rf O a 4) 10).toInt ∧ (I (rf O a 4) 10).toInt ≤ 9) ∧ (∀ k, 0 ≤ (I (rf O (rf O a 4) 14) k).toInt ∧ (I (rf O (rf O a 4) 14) k).toInt ≤ 9) ∧ (∀ k, -1 ≤ (I (rf O (rf O a 4) 17) k).toInt ∧ (I (rf O (rf O a 4) 17) k).toInt ≤ 4)
abbrev KS : List Nat := [8, 9, 10, 11, 12, 13, 14]
def SX0 (O : WO) (a : Nat) : Prop := rf O a 4 ≠ a ∧ rf O a 5 ≠ a ∧ rf O a 5 ≠ rf O a 4 ∧ (∀ j, j < 7 → rf O (rf O a 4) (11 + j) ≠ a ∧ rf O (rf O a 4) (11 + j) ≠ rf O a 4 ∧ rf O (rf O a 4) (11 + j) ≠ rf O a 5) ∧ (∀ i j, i < 7 → j < 7 → rf O (rf O a 4) (11 + i) = rf O (rf O a 4) (11 + j) → i = j)
def FX (O : WO) (a : Nat) (I0 I : WI) : Prop := (∀ k, k ∉ [8, 9, 10, 11, 12, 13, 14] → I a k = I0 a k) ∧ ∀ b, b ≠ a → b ≠ rf O a 4 → (∀ j, j < 7 → b ≠ rf O (rf O a 4) (11 + j)) → I b = I0 b
def FXJ (O : WO) (a : Nat) (J0 J : WJ) : Prop := (∀ k, k ≠ 15 → J a k = J0 a k) ∧ ∀ b, b ≠ a → b ≠ rf O (rf O a 4) 16 → J b = J0 b
theorem FX.ex {O : WO} {a : Nat} {I0 I I' : WI} {ks : List Nat} (h : FX O a I0 I) (e : EX a ks I I') (hk : ∀ k ∈ ks, k ∈ [8, 9, 10, 11, 12, 13, 14]) : FX O a I0 I' := ⟨fun k q => by rw [e.at (fun z => q (hk k z))]; exact h.1 k q, fun b b1 b2 b3 => by rw [e.ne b1]; exact h.2 b b1 b2 b3⟩
theorem FX.f {O : WO} {a k : Nat} {v : Int32} {I0 I : WI} (S : SX0 O a) (h : FX O a I0 I) : FX O a I0 (up2 I (rf O a 4) k v) := ⟨fun j q => by rw [up2_ne _ _ (fun z => S.1 z.1.symm)]; exact h.1 j q, fun b b1 b2 b3 => by rw [up2_row _ _ b2]; exact h.2 b b1 b2 b3⟩
theorem FX.arr {O : WO} {a k j : Nat} {v : Int32} {I0 I : WI} (S : SX0 O a) (hj : j < 7) (h : FX O a I0 I) : FX O a I0 (up2 I (rf O (rf O a 4) (11 + j)) k v) := ⟨fun i q => by rw [up2_ne _ _ (fun z => (S.2.2.2.1 j hj).1 z.1.symm)]; exact h.1 i q, fun b b1 b2 b3 => by rw [up2_row _ _ (b3 j hj)]; exact h.2 b b1 b2 b3⟩
theorem FXJ.ey {O : WO} {a : Nat} {J0 J J' : WJ} (h : FXJ O a J0 J) (e : EY a [15] J J') : FXJ O a J0 J' := ⟨fun k q => by rw [e a k (fun z => q (List.mem_singleton.mp z.2))]; exact h.1 k q, fun b b1 b2 => by rw [e.ne b1]; exact h.2 b b1 b2⟩
def SX (O : WO) (a : Nat) (t : Nat → Int) (n : Nat) (I0 : WI) (J0 : WJ) (I : WI) (J : WJ) (f : Nat) (M : MM) : Prop := RX O a I J t n f ∧ (I a 13).toInt = 0 ∧ XR O (rf O a 4) I J M ∧ OKX O a I ∧ FX O a I0 I ∧ FXJ O a J0 J
def OX (O : WO) (a : Nat) (I0 : WI) (J0 : WJ) (I : WI) (J : WJ) (k : Int) (p : Nat) : Prop := (I a 9).toInt = 5 ∧ (I a 13).toInt = k ∧ (I a 14).toInt = (p : Int) ∧ OKX O a I ∧ FX O a I0 I ∧ FXJ O a J0 J
def SO (O : WO) (a : Nat) (t : Nat → Int) (n : Nat) (I0 : WI) (J0 : WJ) (e : ER) (I : WI) (J : WJ) : Prop := match e with
  | .ok w => SX O a t n I0 J0 I J w.1 w.2
  | .error w => OX O a I0 J0 I J w.1 w.2
abbrev EV : Type := Except (Int × Nat) (Int × Nat × MM)
def SOV (O : WO) (a : Nat) (t : Nat → Int) (n : Nat) (I0 : WI) (J0 : WJ) (e : EV) (v : Int32) (I : WI) (J : WJ) : Prop := match e with
  | .ok w => v.toInt = w.1 ∧ SX O a t n I0 J0 I J w.2.1 w.2.2
  | .error w => OX O a I0 J0 I J w.1 w.2
def eN (t : Nat → Int) (n : Nat) (e : ER) : ER := e.bind fun w => .ok (nx t n w.1, w.2)
def eE (k : Int) (e : ER) : ER := e.bind fun w => .error (k, w.1)
def eW (t : Nat → Int) (n i : Nat) (e : ER) : ER := e.bind fun w => (ww t n i w.1).bind fun f2 => .ok (f2, w.2)
def eV (t : Nat → Int) (n : Nat) (lo hi : Int) (e : ER) : EV := e.bind fun w => (wl t n lo hi w.1).bind fun v => .ok (v, nx t n w.1, w.2)
def eP (k : Nat) (e : EV) : ER := e.bind fun w => .ok (w.2.1, sg w.2.2 k w.1)
def eA (j i : Nat) (e : EV) : ER := e.bind fun w => .ok (w.2.1, sa w.2.2 j i w.1)
theorem sx5 {t : Nat → Int} {n f : Nat} : sx (kd t n f) ≠ 5 := by
  intro h
  have hk : kd t n f = 0 ∨ kd t n f = 1 ∨ kd t n f = 2 ∨ kd t n f = 3 ∨ kd t n f = 4 := by
    unfold kd
    split
    · split
      · split <;> simp
      · split
        · split <;> simp
        · split <;> simp
    · simp
  unfold sx at h
  rcases hk with q | q | q | q | q <;> rw [q] at h <;> simp at h
theorem sx_k {t : Nat → Int} {n f : Nat} {v : Int} (hv : v = 2 ∨ v = 3 ∨ v = 4) : sx (kd t n f) = v ↔ kd t n f = v := by
  unfold sx
  split
  · omega
  · split
    · omega
    · exact Iff.rfl
theorem sx_1 {t : Nat → Int} {n f : Nat} : sx (kd t n f) = 1 ↔ kd t n f = 0 := by
  unfold sx
  split
  · omega
  · split
    · omega
    · omega
section RSTATE
variable {N : Nat} {O : WO} {I I0 : WI} {J J0 : WJ} {a : Nat} {t : Nat → Int} {n f : Nat} {M : MM} {e : ER}
theorem XR.ex {I' : WI} {J' : WJ} {ks : List Nat} (S : SX0 O a) (h : XR O (rf O a 4) I J M) (e : EX a ks I I') (ej : EY a [15] J J') : XR O (rf O a 4) I' J' M := by
  obtain ⟨h1, h2, h3⟩ := h
  refine ⟨by rw [e.ne S.1]; exact h1, fun j i hj hi => by rw [e.ne (S.2.2.2.1 j (by omega)).1]; exact h2 j i hj hi, fun k q hq => ?_⟩
  rw [ej.ne (S.2.2.2.1 5 (by omega)).1, e.ne (S.2.2.2.1 6 (by omega)).1]; exact h3 k q hq
theorem OKX.ex {I' : WI} {ks : List Nat} (S : SX0 O a) (h : OKX O a I) (e : EX a ks I I') (h8 : 0 ≤ (I' a 8).toInt ∧ (I' a 8).toInt ≤ 700) : OKX O a I' := by
  obtain ⟨h1, h2, h3, h4, h5, h6, h7⟩ := h
  have eF := e.ne S.1
  exact ⟨h8, by rw [eF]; exact h2, by rw [eF]; exact h3, by rw [eF]; exact h4, by rw [eF]; exact h5, fun k => by rw [e.ne (S.2.2.2.1 3 (by omega)).1]; exact h6 k, fun k => by rw [e.ne (S.2.2.2.1 6 (by omega)).1]; exact h7 k⟩
theorem SO.next (S : SX0 O a) (hN : 800 ≤ N) {Q : WI × WJ → Prop} (h : SO O a t n I0 J0 e I J) (hk : ∀ w, e = .ok w → kd t n w.1 ≠ 1) (k : ∀ I' J', EX a KS I I' → SO O a t n I0 J0 (eN t n e) I' J' → Q (I', J')) : Wp (F_Mo_next N O I J a) Q := by
  cases e with
  | error w =>
    unfold F_Mo_next
    exact Wp.pos h.1 (Wp.ret (k _ _ EX.rf h))
  | ok w =>
    obtain ⟨h1, h2, h3, h4, h5, h6⟩ := h
    have h9 := h1.2.2.1
    have hb := bh_b (t := t) h1.2.1
    refine r_next hN h1.1 (by rw [h9]; exact sx5) (h1.2.2.2.2.1 (hk w rfl)) hb.2 (fun I' J' x1 x2 x3 => k _ _ (x1.w (by decide)) ⟨x3, by rw [x1.at (by decide)]; exact h2, h3.ex S x1 x2, h4.ex S x1 x3.2.2.2.2.2.1, h5.ex x1 (by decide), h6.ey x2⟩)
theorem SO.wrongHere (S : SX0 O a) {x y : Int32} {w : Int} {p : Nat} {Q : WI → Prop} (h : SO O a t n I0 J0 e I J) (hx : x.toInt = w) (hy : y.toInt = (p : Int)) (k : ∀ I', EX a KS I I' → SO O a t n I0 J0 (e.bind fun _ => .error (w, p)) I' J → Q I') : Wp (F_Mo_wrongHere N O I J a x y) Q := by
  unfold F_Mo_wrongHere
  cases e with
  | error q => exact Wp.pos h.1 (Wp.ret (k _ EX.rf h))
  | ok q =>
    obtain ⟨h1, h2, h3, h4, h5, h6⟩ := h
    refine Wp.neg (by rw [h1.2.2.1]; exact sx5) (Wp.lb (Wp.lb (Wp.lb (Wp.ret ?_))))
    have hE : EX a [9, 13, 14] I (up2 (up2 (up2 I a 13 x) a 14 y) a 9 (Int32.ofInt 5)) := ((EX.up.w (by decide) : EX a [9, 13, 14] I _).trans (EX.up.w (by decide))).trans (EX.up.w (by decide))
    exact k _ (hE.w (by decide)) ⟨by rw [up2_self]; exact ofI (by decide), by rw [up2_ne _ _ (by omega), up2_ne _ _ (by omega), up2_self]; exact hx, by rw [up2_ne _ _ (by omega), up2_self]; exact hy, h4.ex S hE (by rw [hE.at (by decide)]; exact h4.1), h5.ex hE (by decide), h6⟩
theorem SO.wrong (S : SX0 O a) {x : Int32} {w : Int} {Q : WI → Prop} (h : SO O a t n I0 J0 e I J) (hx : x.toInt = w) (k : ∀ I', EX a KS I I' → SO O a t n I0 J0 (eE w e) I' J → Q I') : Wp (F_Mo_wrong N O I J a x) Q := by
  unfold F_Mo_wrong
  refine Wp.bd1 ?_
  cases e with
  | error q =>
    unfold F_Mo_wrongHere
    exact Wp.pos h.1 (Wp.ret (Wp.ret (k _ EX.rf h)))
  | ok q => exact SO.wrongHere (p := q.1) S h hx h.1.2.2.2.1 (fun I' x' h' => Wp.ret (k _ x' h'))
def eis (t : Nat → Int) (n i : Nat) (e : ER) : Bool := match e with
  | .ok w => isw t n i w.1
  | .error _ => false
theorem SO.isWord (hN : 800 ≤ N) {i : Nat} (hi : i < 15) (h : SO O a t n I0 J0 e I J) : F_Mo_isWord N O I J a (i + 16) = some (bI (eis t n i e)) := by
  unfold F_Mo_isWord
  cases e with
  | error q => rw [if_neg (by rw [h.1]; decide)]; rfl
  | ok q =>
    have h1 := h.1
    show _ = some (bI (isw t n i q.1))
    by_cases w : kd t n q.1 = 2
    · rw [if_pos (by rw [h1.2.2.1]; exact (sx_k (Or.inl rfl)).mpr w)]
      obtain ⟨c, hc, ec⟩ := r_wordOf (N := N) (O := O) (I := I) (J := J) hN (i := i + 16) (by omega) (by omega)
      rw [hc]
      rw [wc_16 i hi] at ec
      have hcd := h1.2.2.2.2.2.2.2.2 w
      show (if (lg_cmp (J a 15) c).toInt = 0 then _ else _) = _
      by_cases w2 : cd t n q.1 = wc i
      · rw [if_pos (cmp0.mpr (by rw [hcd, ec]; exact w2))]
        have : isw t n i q.1 = true := by simp [isw, w, w2]
        rw [this]; rfl
      · rw [if_neg (fun z => w2 (by rw [← hcd, ← ec]; exact cmp0.mp z))]
        have : isw t n i q.1 = false := by simp [isw, w2]
        rw [this]; rfl
    · rw [if_neg (by rw [h1.2.2.1]; exact fun z => w ((sx_k (Or.inl rfl)).mp z))]
      have : isw t n i q.1 = false := by simp [isw, w]
      rw [this]; rfl
theorem SO.is {x : Int32} (h : SO O a t n I0 J0 e I J) : F_Mo_is N O I J a x = some (bI (match e with | .ok w => decide (kd t n w.1 = 4 ∧ t w.1 = x.toInt) | .error _ => false)) := by
  unfold F_Mo_is
  cases e with
  | error q => rw [if_neg (by rw [h.1]; decide)]; rfl
  | ok q =>
    have h1 := h.1
    show _ = some (bI (decide (kd t n q.1 = 4 ∧ t q.1 = x.toInt)))
    by_cases w : kd t n q.1 = 4
    · rw [if_pos (by rw [h1.2.2.1]; exact (sx_k (Or.inr (Or.inr rfl))).mpr w), h1.2.2.2.2.2.2.1 w]
      by_cases w2 : t q.1 = x.toInt
      · rw [if_pos w2, decide_eq_true ⟨w, w2⟩]; rfl
      · rw [if_neg w2, decide_eq_false (fun z => w2 z.2)]; rfl
    · rw [if_neg (by rw [h1.2.2.1]; exact fun z => w ((sx_k (Or.inr (Or.inr rfl))).mp z)), decide_eq_false (fun z => w z.1)]; rfl
theorem isw_k {i : Nat} (h : isw t n i f = true) : kd t n f ≠ 1 := by have := (isw_2 h).1; omega
theorem SO.need (S : SX0 O a) (hN : 800 ≤ N) {i : Nat} (hi : i < 15) {Q : WI × WJ → Prop} (h : SO O a t n I0 J0 e I J) (k : ∀ I' J', EX a KS I I' → SO O a t n I0 J0 (eW t n i e) I' J' → Q (I', J')) : Wp (F_Mo_needWord N O I J a (i + 16)) Q := by
  unfold F_Mo_needWord
  refine Wp.eq (by rw [h.isWord hN hi]) (Wp.bd1 (Wp.ret ?_))
  refine Wp.jn ?_
  cases q : eis t n i e with
  | false =>
    refine Wp.pos bI_f (Wp.bd1 (h.wrong S k_1 (fun I' x' h' => Wp.bd2 (h'.next S hN (fun w hw => ?_) (fun I2 J2 x2 h2 => Wp.ret (k _ _ (x'.trans x2) ?_))))))
    · cases e <;> cases hw
    · cases e with
      | error w => exact h2
      | ok w =>
        have : eW t n i (.ok w) = .error (1, w.1) := by
          show (ww t n i w.1).bind _ = _
          rw [ww_f q]; rfl
        rw [this]; exact h2
  | true =>
    cases e with
    | error w => cases q
    | ok w =>
      refine Wp.neg (by rw [bI_t]; decide) (Wp.bd2 (h.next S hN (fun w' hw => ?_) (fun I2 J2 x2 h2 => Wp.ret (k _ _ x2 ?_))))
      · cases hw; exact isw_k q
      · have : eW t n i (.ok w) = .ok (nx t n w.1, w.2) := by
          show (ww t n i w.1).bind _ = _
          rw [ww_t q]; rfl
        rw [this]; exact h2
theorem r_in {x y z : Int32} : F_Mo_in N O I J x y z = some (bI (decide (y.toInt ≤ x.toInt ∧ x.toInt ≤ z.toInt))) := by
  unfold F_Mo_in
  by_cases q : x.toInt < y.toInt
  · rw [if_pos q, decide_eq_false (by omega)]; rfl
  · rw [if_neg q]
    by_cases q2 : z.toInt < x.toInt
    · rw [if_pos q2, decide_eq_false (by omega)]; rfl
    · rw [if_neg q2, decide_eq_true (by omega)]; rfl
theorem SO.whole (S : SX0 O a) (hN : 800 ≤ N) {x y : Int32} {lo hi : Int} (hx : x.toInt = lo) (hy : y.toInt = hi) {Q : Int32 × WI × WJ → Prop} (h : SO O a t n I0 J0 e I J) (k : ∀ v I' J', EX a KS I I' → SOV O a t n I0 J0 (eV t n lo hi e) v I' J' → Q (v, I', J')) : Wp (F_Mo_readWhole N O I J a x y) Q := by
  unfold F_Mo_readWhole
  cases e with
  | error w =>
    refine Wp.jn (Wp.neg (by rw [h.1]; decide) (Wp.bd1 (SO.wrong (w := 1) (e := .error w) S h k_1 (fun I' x' h' => Wp.lb (Wp.bd2 (SO.next (e := .error w) S hN h' (fun w' hw => by cases hw) (fun I2 J2 x2 h2 => Wp.ret (k _ _ _ (x'.trans x2) h2))))))))
  | ok w =>
    have h1 := h.1
    refine Wp.jn (Wp.ite (fun q => ?_) (fun q => ?_))
    · have q3 : kd t n w.1 = 3 := (sx_k (Or.inr (Or.inl rfl))).mp (by rw [← h1.2.2.1]; exact q)
      have hv := h1.2.2.2.2.2.2.2.1 q3
      refine Wp.eq (by rw [r_in]) (Wp.bd1 (Wp.ret ?_))
      rw [hv, hx, hy]
      by_cases q4 : lo ≤ vl t n w.1 ∧ vl t n w.1 ≤ hi
      · rw [decide_eq_true q4]
        refine Wp.neg (by rw [bI_t]; decide) (Wp.lb (Wp.bd2 (SO.next (e := .ok w) S hN h (fun w' hw => by cases hw; omega) (fun I2 J2 x2 h2 => Wp.ret (k _ _ _ x2 ?_)))))
        have : eV t n lo hi (.ok w) = .ok (vl t n w.1, nx t n w.1, w.2) := by
          show (wl t n lo hi w.1).bind _ = _
          rw [wl_t q3 q4]; rfl
        rw [this]; exact ⟨hv, h2⟩
      · rw [decide_eq_false q4]
        refine Wp.pos bI_f (Wp.bd1 (SO.wrong (w := 4) (e := .ok w) S h (ofI (by decide)) (fun I' x' h' => Wp.lb (Wp.bd2 (SO.next S hN h' (fun w' hw => by cases hw) (fun I2 J2 x2 h2 => Wp.ret (k _ _ _ (x'.trans x2) ?_)))))))
        have : eV t n lo hi (.ok w) = .error (4, w.1) := by
          show (wl t n lo hi w.1).bind _ = _
          rw [wl_4 q3 q4]; rfl
        rw [this]; exact h2
    · have q3 : ¬ kd t n w.1 = 3 := fun z => q (by rw [h1.2.2.1]; exact (sx_k (Or.inr (Or.inl rfl))).mpr z)
      refine Wp.bd1 (SO.wrong (w := 1) (e := .ok w) S h k_1 (fun I' x' h' => Wp.lb (Wp.bd2 (SO.next S hN h' (fun w' hw => by cases hw) (fun I2 J2 x2 h2 => Wp.ret (k _ _ _ (x'.trans x2) ?_))))))
      have : eV t n lo hi (.ok w) = .error (1, w.1) := by
        show (wl t n lo hi w.1).bind _ = _
        rw [wl_1 q3]; rfl
      rw [this]; exact h2
end RSTATE
