/-! the class's reader over a mill: its state, and its lines -/
def mln (j : Nat) : Nat := if j = 0 then 6 else if j = 3 then 4 else if j = 4 then 20 else 5
def MR (O : WO) (a m : Nat) (I : WI) (J : WJ) (M : MM) : Prop :=
  (∀ k, k < 10 → (I m k).toInt = M.1 k) ∧ (∀ j i, j < 5 → i < mln j → (I (rf O m (10 + j)) i).toInt = M.2.1 j i) ∧ (0 ≤ M.1 7 ∧ M.1 7 ≤ 5 ∧ 0 ≤ M.1 8 ∧ M.1 8 ≤ 4 ∧ 0 ≤ M.1 9 ∧ M.1 9 ≤ 6) ∧ NMc (M.1 7) (M.1 8) M.2.2 (fun i => (J (rf O a 8) i).toInt) (fun i => (J (rf O a 9) i).toInt)
def Sep (O : WO) (a m : Nat) : Prop := m ≠ a ∧ rf O a 0 ≠ a ∧ rf O a 0 ≠ m ∧ rf O a 8 ≠ rf O a 9 ∧ (∀ j, j < 5 → rf O m (10 + j) ≠ a ∧ rf O m (10 + j) ≠ m ∧ rf O m (10 + j) ≠ rf O a 0) ∧ (∀ i j, i < 5 → j < 5 → rf O m (10 + i) = rf O m (10 + j) → i = j)
def FC (O : WO) (a m : Nat) (I0 I : WI) : Prop := I a 1 = I0 a 1 ∧ ∀ b, b ≠ a → b ≠ m → (∀ j, j < 5 → b ≠ rf O m (10 + j)) → I b = I0 b
def FJ (O : WO) (a : Nat) (J0 J : WJ) : Prop := ∀ b, b ≠ rf O a 8 → b ≠ rf O a 9 → J b = J0 b
def CS (O : WO) (a m : Nat) (t : Nat → Int) (n : Nat) (I0 : WI) (J0 : WJ) (I : WI) (J : WJ) (f : Nat) (M : MM) : Prop := RA O a I t n f ∧ MR O a m I J M ∧ (I a 2).toInt = 0 ∧ FC O a m I0 I ∧ FJ O a J0 J
def CE (O : WO) (a m : Nat) (I0 : WI) (J0 : WJ) (I : WI) (J : WJ) (k : Int) (p : Nat) : Prop := (I a 2).toInt = k ∧ (I a 3).toInt = (p : Int) ∧ FC O a m I0 I ∧ FJ O a J0 J ∧ 0 ≤ (I m 7).toInt ∧ (I m 7).toInt ≤ 5 ∧ 0 ≤ (I m 8).toInt ∧ (I m 8).toInt ≤ 4
def CP (O : WO) (a m : Nat) (t : Nat → Int) (n : Nat) (I0 : WI) (J0 : WJ) (e : ER) (r : Int32) (I : WI) (J : WJ) : Prop := match e with
  | .ok q => r = Int32.ofInt 1 ∧ CS O a m t n I0 J0 I J q.1 q.2
  | .error w => r = Int32.ofInt 0 ∧ CE O a m I0 J0 I J w.1 w.2
theorem CP.ok {O : WO} {a m : Nat} {t : Nat → Int} {n : Nat} {I0 : WI} {J0 : WJ} {e : ER} {I : WI} {J : WJ} {f : Nat} {M : MM} (he : e = .ok (f, M)) (h : CS O a m t n I0 J0 I J f M) : CP O a m t n I0 J0 e (Int32.ofInt 1) I J := by rw [he]; exact ⟨rfl, h⟩
theorem CP.er {O : WO} {a m : Nat} {t : Nat → Int} {n : Nat} {I0 : WI} {J0 : WJ} {e : ER} {I : WI} {J : WJ} {k : Int} {f : Nat} (he : e = .error (k, f)) (h : CE O a m I0 J0 I J k f) : CP O a m t n I0 J0 e (Int32.ofInt 0) I J := by rw [he]; exact ⟨rfl, h⟩
theorem FC.trans {O : WO} {a m : Nat} {I0 I I' : WI} (h : FC O a m I0 I) (h2 : FC O a m I I') : FC O a m I0 I' := ⟨h2.1.trans h.1, fun b b1 b2 b3 => (h2.2 b b1 b2 b3).trans (h.2 b b1 b2 b3)⟩
theorem FC.ex {O : WO} {a m : Nat} {I I' : WI} {ks : List Nat} (e : EX a ks I I') (h : 1 ∉ ks) : FC O a m I I' := ⟨e.at h, fun b b1 _ _ => e.ne b1⟩
section CLINE
variable {N : Nat} {O : WO} {I I0 : WI} {J J0 : WJ} {a m : Nat} {t : Nat → Int} {n f : Nat} {M : MM}
theorem MR.ex {I' : WI} {ks : List Nat} (S : Sep O a m) (h : MR O a m I J M) (e : EX a ks I I') : MR O a m I' J M := by
  obtain ⟨h1, h2, h3⟩ := h
  exact ⟨fun k hk => by rw [e.ne S.1]; exact h1 k hk, fun j i hj hi => by rw [e.ne (S.2.2.2.2.1 j hj).1]; exact h2 j i hj hi, h3⟩
theorem CS.next (S : Sep O a m) (hN : 800 ≤ N) {Q : WI → Prop} (h : CS O a m t n I0 J0 I J f M) (k : ∀ I', CS O a m t n I0 J0 I' J (nx t n f) M → Q I') : Wp (F_Rd_step N O I J a) Q := by
  obtain ⟨h1, h2, h3, h4, h5⟩ := h
  exact c_next hN h1 (fun I' e r => k I' ⟨r, h2.ex S e, by rw [e.at (by decide)]; exact h3, h4.trans (FC.ex e (by decide)), h5⟩)
theorem CS.fail {x : Int32} {w : Int} {Q : Int32 × WI → Prop} (S : Sep O a m) (h : CS O a m t n I0 J0 I J f M) (hx : x.toInt = w) (k : ∀ I', CE O a m I0 J0 I' J w f → Q (Int32.ofInt 0, I')) : Wp (F_Rd_fail N O I J a x) Q := by
  obtain ⟨h1, h2, h3, h4, h5⟩ := h
  unfold F_Rd_fail
  refine Wp.lb (Wp.ret (k _ ⟨by rw [up2_self]; exact hx, by rw [up2_ne _ _ (by omega)]; exact h1.2.2.1, h4.trans (FC.ex EX.up (by decide)), h5, ?_⟩))
  rw [up2_ne _ _ (fun z => S.1 z.1), up2_ne _ _ (fun z => S.1 z.1), h2.1 7 (by omega), h2.1 8 (by omega)]
  exact ⟨h2.2.2.1.1, h2.2.2.1.2.1, h2.2.2.1.2.2.1, h2.2.2.1.2.2.2.1⟩
/-- 'return fail(..)' -/
theorem CS.failr {x : Int32} {w : Int} {ρ : Type} {g : Int32 → WI → Option ρ} {Q : ρ → Prop} (S : Sep O a m) (h : CS O a m t n I0 J0 I J f M) (hx : x.toInt = w) (k : ∀ I', CE O a m I0 J0 I' J w f → Wp (g (Int32.ofInt 0) I') Q) : Wp (bd2 (F_Rd_fail N O I J a x) (fun z I' => if z.toInt = 0 ∨ z.toInt = 1 then g z I' else none)) Q :=
  Wp.bd2 (h.fail S hx (fun I' he => Wp.pos (Or.inl k_0) (k I' he)))
theorem CS.pass (S : Sep O a m) (hN : 800 ≤ N) {i : Nat} (hi : i < 31) (h15 : i ≠ 15) {Q : Int32 × WI → Prop} (h : CS O a m t n I0 J0 I J f M) (k : ∀ I', isw t n i f = true → CS O a m t n I0 J0 I' J (nx t n f) M → Q (Int32.ofInt 1, I')) (k2 : ∀ I', isw t n i f = false → CE O a m I0 J0 I' J 1 f → Q (Int32.ofInt 0, I')) : Wp (F_Rd_passWord N O I J a i) Q := by
  unfold F_Rd_passWord
  refine Wp.eq (by rw [c_isWord hN hi h15 h.1]) (Wp.bd1 (Wp.ret ?_))
  cases q : isw t n i f with
  | false => exact Wp.pos bI_f (h.failr S k_1 (fun I' he => Wp.ret (k2 I' q he)))
  | true => exact Wp.neg (by rw [bI_t]; decide) (Wp.bd1 (h.next S hN (fun I' hn => Wp.ret (k I' q hn))))
theorem CS.whole (S : Sep O a m) {x y : Int32} {lo hi : Int} (hx : x.toInt = lo) (hy : y.toInt = hi) {Q : Int32 × WI → Prop} (h : CS O a m t n I0 J0 I J f M) (k : kd t n f = 3 → lo ≤ vl t n f ∧ vl t n f ≤ hi → (I a 7).toInt = vl t n f → Q (Int32.ofInt 1, I)) (k2 : ∀ I' w, wl t n lo hi f = .error (w, f) → CE O a m I0 J0 I' J w f → Q (Int32.ofInt 0, I')) : Wp (F_Rd_checkWhole N O I J a x y) Q := by
  have h6 := h.1.2.2.2.2.1
  have h7 := h.1.2.2.2.2.2
  unfold F_Rd_checkWhole
  refine Wp.ite (fun q => ?_) (fun q => h.failr S k_1 (fun I' he => Wp.ret (k2 I' 1 (wl_1 (by rw [← h6]; exact q)) he)))
  rw [h6] at q
  have h7 := h7 q
  refine Wp_jq (fun kk => ¬ (lo ≤ vl t n f ∧ vl t n f ≤ hi) → Wp kk Q) (fun hb => ?_) (fun kk hk => ?_)
  · exact h.failr S (w := 4) (ofI (by decide)) (fun I' he => Wp.ret (k2 I' 4 (wl_4 q hb) he))
  · exact Wp.ite (fun w => hk (by omega)) (fun w => Wp.ite (fun w2 => Wp.ret (k q (by omega) h7)) (fun w2 => hk (by omega)))
theorem MR.put {k : Nat} {v : Int32} {w : Int} (S : Sep O a m) (h : MR O a m I J M) (hk : k ≠ 7 ∧ k ≠ 8 ∧ k ≠ 9) (hv : v.toInt = w) : MR O a m (up2 I m k v) J (sg M k w) := by
  obtain ⟨h1, h2, h3, h4⟩ := h
  refine ⟨fun j hj => ?_, fun j i hj hi => ?_, ?_, ?_⟩
  · by_cases e : j = k
    · subst e; rw [up2_self]; show _ = u1 M.1 j w j; rw [u1_s]; exact hv
    · rw [up2_ne _ _ (fun z => e z.2)]; show _ = u1 M.1 k w j; rw [u1_n e]; exact h1 j hj
  · rw [up2_ne _ _ (fun z => (S.2.2.2.2.1 j hj).2.1 z.1)]; exact h2 j i hj hi
  · show 0 ≤ u1 M.1 k w 7 ∧ u1 M.1 k w 7 ≤ 5 ∧ 0 ≤ u1 M.1 k w 8 ∧ u1 M.1 k w 8 ≤ 4 ∧ 0 ≤ u1 M.1 k w 9 ∧ u1 M.1 k w 9 ≤ 6
    rw [u1_n (Ne.symm hk.1), u1_n (Ne.symm hk.2.1), u1_n (Ne.symm hk.2.2)]; exact h3
  · show NMc (u1 M.1 k w 7) (u1 M.1 k w 8) M.2.2 _ _
    rw [u1_n (Ne.symm hk.1), u1_n (Ne.symm hk.2.1)]; exact h4
theorem FC.mm {k : Nat} {v : Int32} (S : Sep O a m) : FC O a m I (up2 I m k v) := ⟨by rw [up2_ne _ _ (fun z => S.1 z.1.symm)], fun b _ b2 _ => up2_row _ _ b2⟩
theorem FC.arr {j k : Nat} {v : Int32} (S : Sep O a m) (hj : j < 5) : FC O a m I (up2 I (rf O m (10 + j)) k v) := ⟨by rw [up2_ne _ _ (fun z => (S.2.2.2.2.1 j hj).1 z.1.symm)], fun b _ _ b3 => up2_row _ _ (b3 j hj)⟩
theorem CS.put {k : Nat} {v : Int32} {w : Int} (S : Sep O a m) (h : CS O a m t n I0 J0 I J f M) (hk : k ≠ 7 ∧ k ≠ 8 ∧ k ≠ 9) (hv : v.toInt = w) : CS O a m t n I0 J0 (up2 I m k v) J f (sg M k w) := by
  obtain ⟨h1, h2, h3, h4, h5⟩ := h
  exact ⟨h1.nw S.1 (fun z => S.2.2.1 z.symm) (fun c hc => up2_row _ _ hc), h2.put S hk hv, by rw [up2_ne _ _ (fun z => S.1 z.1.symm)]; exact h3, h4.trans (FC.mm S), h5⟩
theorem CS.put9 {v : Int32} {w : Int} (S : Sep O a m) (h : CS O a m t n I0 J0 I J f M) (hv : v.toInt = w) (hw : 0 ≤ w ∧ w ≤ 6) : CS O a m t n I0 J0 (up2 I m 9 v) J f (sg M 9 w) := by
  obtain ⟨h1, ⟨x1, x2, x3, x4⟩, h3, h4, h5⟩ := h
  refine ⟨h1.nw S.1 (fun z => S.2.2.1 z.symm) (fun c hc => up2_row _ _ hc), ⟨fun j hj => ?_, fun j i hj hi => ?_, ?_, x4⟩, by rw [up2_ne _ _ (fun z => S.1 z.1.symm)]; exact h3, h4.trans (FC.mm S), h5⟩
  · by_cases e : j = 9
    · subst e; rw [up2_self]; exact hv
    · rw [up2_ne _ _ (fun z => e z.2)]; show _ = u1 M.1 9 w j; rw [u1_n e]; exact x1 j hj
  · rw [up2_ne _ _ (fun z => (S.2.2.2.2.1 j hj).2.1 z.1)]; exact x2 j i hj hi
  · exact ⟨x3.1, x3.2.1, x3.2.2.1, x3.2.2.2.1, hw.1, hw.2⟩
theorem CS.arr {b j i : Nat} {v : Int32} {w : Int} (S : Sep O a m) (h : CS O a m t n I0 J0 I J f M) (hb : b = rf O m (10 + j)) (hj : j < 5) (hv : v.toInt = w) : CS O a m t n I0 J0 (up2 I b i v) J f (sa M j i w) := by
  subst hb
  obtain ⟨h1, ⟨x1, x2, x3, x4⟩, h3, h4, h5⟩ := h
  have Sj := S.2.2.2.2.1 j hj
  refine ⟨h1.nw Sj.1 Sj.2.2 (fun c hc => up2_row _ _ hc), ⟨fun k hk => ?_, fun j' i' hj' hi' => ?_, x3, x4⟩, by rw [up2_ne _ _ (fun z => Sj.1 z.1.symm)]; exact h3, h4.trans (FC.arr S hj), h5⟩
  · rw [up2_ne _ _ (fun z => Sj.2.1 z.1.symm)]; exact x1 k hk
  · by_cases e : j' = j ∧ i' = i
    · obtain ⟨rfl, rfl⟩ := e
      rw [up2_self]; show _ = up2 M.2.1 j' i' w j' i'; rw [up2_self]; exact hv
    · rw [up2_ne _ _ (fun z => e ⟨S.2.2.2.2.2 j' j hj' hj z.1, z.2⟩)]
      show _ = up2 M.2.1 j i w j' i'; rw [up2_ne _ _ e]; exact x2 j' i' hj' hi'
theorem FJ.sz {i : Nat} {c : Int64} (h : FJ O a J0 J) : FJ O a J0 (up2 J (rf O a 8) i c) := fun b b1 b2 => by rw [up2_row _ _ b1]; exact h b b1 b2
theorem FJ.or {i : Nat} {c : Int64} (h : FJ O a J0 J) : FJ O a J0 (up2 J (rf O a 9) i c) := fun b b1 b2 => by rw [up2_row _ _ b2]; exact h b b1 b2
theorem CS.size {x v : Int32} {c : Int64} {w : Int} (S : Sep O a m) (h : CS O a m t n I0 J0 I J f M) (hx : x.toInt = M.1 7) (h5 : M.1 7 < 5) (hv : v.toInt = M.1 7 + 1) (hc : c.toInt = w) (hn : fndN M.2.2 w = none) : CS O a m t n I0 J0 (up2 I m 7 v) (up2 J (rf O a 8) x.toInt.toNat c) f (sg (sn M w (M.1 7)) 7 (M.1 7 + 1)) := by
  obtain ⟨h1, ⟨x1, x2, x3, x4⟩, h3, h4, h5'⟩ := h
  refine ⟨h1.nw S.1 (fun z => S.2.2.1 z.symm) (fun c hc => up2_row _ _ hc), ⟨fun j hj => ?_, fun j i hj hi => ?_, ?_, ?_⟩, by rw [up2_ne _ _ (fun z => S.1 z.1.symm)]; exact h3, h4.trans (FC.mm S), h5'.sz⟩
  · by_cases e : j = 7
    · subst e; rw [up2_self]; exact hv
    · rw [up2_ne _ _ (fun z => e z.2)]; show _ = u1 M.1 7 _ j; rw [u1_n e]; exact x1 j hj
  · rw [up2_ne _ _ (fun z => (S.2.2.2.2.1 j hj).2.1 z.1)]; exact x2 j i hj hi
  · show 0 ≤ M.1 7 + 1 ∧ M.1 7 + 1 ≤ 5 ∧ _; refine ⟨by omega, by omega, x3.2.2.1, x3.2.2.2⟩
  · have z := NMc.size (u' := fun i => (up2 J (rf O a 8) x.toInt.toNat c (rf O a 8) i).toInt) (i := x.toInt.toNat) x4 (by omega) hn (fun j hj => congrArg Int64.toInt (up2_ne _ _ (fun z => by omega))) ((congrArg Int64.toInt (up2_self _ _ _ _)).trans hc)
    have ev : (fun i => (up2 J (rf O a 8) x.toInt.toNat c (rf O a 9) i).toInt) = fun i => (J (rf O a 9) i).toInt := by
      funext i; rw [up2_ne _ _ (fun q => S.2.2.2.1 q.1.symm)]
    show NMc (M.1 7 + 1) (M.1 8) (M.2.2 ++ [(w, M.1 7)]) _ _
    rw [ev]; exact z
theorem CS.ore {x v : Int32} {c : Int64} {w : Int} (S : Sep O a m) (h : CS O a m t n I0 J0 I J f M) (hx : x.toInt = M.1 8) (h5 : M.1 8 < 4) (hv : v.toInt = M.1 8 + 1) (hc : c.toInt = w) (hn : fndN M.2.2 w = none) : CS O a m t n I0 J0 (up2 I m 8 v) (up2 J (rf O a 9) x.toInt.toNat c) f (sg (sn M w (-1)) 8 (M.1 8 + 1)) := by
  obtain ⟨h1, ⟨x1, x2, x3, x4⟩, h3, h4, h5'⟩ := h
  refine ⟨h1.nw S.1 (fun z => S.2.2.1 z.symm) (fun c hc => up2_row _ _ hc), ⟨fun j hj => ?_, fun j i hj hi => ?_, ?_, ?_⟩, by rw [up2_ne _ _ (fun z => S.1 z.1.symm)]; exact h3, h4.trans (FC.mm S), h5'.or⟩
  · by_cases e : j = 8
    · subst e; rw [up2_self]; exact hv
    · rw [up2_ne _ _ (fun z => e z.2)]; show _ = u1 M.1 8 _ j; rw [u1_n e]; exact x1 j hj
  · rw [up2_ne _ _ (fun z => (S.2.2.2.2.1 j hj).2.1 z.1)]; exact x2 j i hj hi
  · show 0 ≤ M.1 7 ∧ M.1 7 ≤ 5 ∧ 0 ≤ M.1 8 + 1 ∧ M.1 8 + 1 ≤ 4 ∧ _; refine ⟨x3.1, x3.2.1, by omega, by omega, x3.2.2.2.2⟩
  · have z := NMc.ore (v' := fun i => (up2 J (rf O a 9) x.toInt.toNat c (rf O a 9) i).toInt) (i := x.toInt.toNat) x4 (by omega) hn (fun j hj => congrArg Int64.toInt (up2_ne _ _ (fun z => by omega))) ((congrArg Int64.toInt (up2_self _ _ _ _)).trans hc)
    have ev : (fun i => (up2 J (rf O a 9) x.toInt.toNat c (rf O a 8) i).toInt) = fun i => (J (rf O a 8) i).toInt := by
      funext i; rw [up2_ne _ _ (fun q => S.2.2.2.1 q.1)]
    show NMc (M.1 7) (M.1 8 + 1) (M.2.2 ++ [(w, -1)]) _ _
    rw [ev]; exact z
theorem CS.told (hN : 800 ≤ N) (h : CS O a m t n I0 J0 I J f M) (h2 : kd t n f = 2) : F_Rd_isTold N O I J a m = some (bI (decide (¬ fndN M.2.2 (cd t n f) = none))) := by
  obtain ⟨c, hc, ec⟩ := c_code (N := N) (J := J) hN h.1 h2
  obtain ⟨x1, x2, x3, x4⟩ := h.2.1
  have e7 := x1 7 (by omega)
  have e8 := x1 8 (by omega)
  unfold F_Rd_isTold
  obtain ⟨r, hr, pr⟩ := c_placeS (N := N) (O := O) (I := I) (J := J) hN (c := c) (s := rf O a 8) (x := I m 7) (cnt := (M.1 7).toNat) (by omega) (by omega)
  obtain ⟨r2, hr2, pr2⟩ := c_placeO (N := N) (O := O) (I := I) (J := J) hN (c := c) (s := rf O a 9) (x := I m 8) (cnt := (M.1 8).toNat) (by omega) (by omega)
  have tl := x4.tell (c := cd t n f)
  rw [hc]
  simp only [bd1]
  rw [hr]
  simp only [bd1, jn]
  rw [ec] at pr pr2
  rcases pr with ⟨p1, p2⟩ | ⟨i, i1, i2, i3⟩
  · rw [if_pos p1, hr2]
    simp only [bd1]
    rcases pr2 with ⟨q1, q2⟩ | ⟨i, i1, i2, i3⟩
    · rw [if_pos q1, decide_eq_false (fun z => z (tl.mpr ⟨fun i hi => p2 i (by omega), fun i hi => q2 i (by omega)⟩))]; rfl
    · rw [if_neg (by omega), decide_eq_true (show ¬ fndN M.2.2 (cd t n f) = none from fun z => (tl.mp z).2 i (by omega) i3)]; rfl
  · rw [if_neg (by omega), decide_eq_true (show ¬ fndN M.2.2 (cd t n f) = none from fun z => (tl.mp z).1 i (by omega) i3)]; rfl
theorem c_drum (S : Sep O a m) (hN : 800 ≤ N) {Q : Int32 × WI → Prop} (h : CS O a m t n I0 J0 I J f M) (hz : ¬ 0 < M.1 0) (k : ∀ r I', CP O a m t n I0 J0 (spDrum t n f M) r I' J → Q (r, I')) : Wp (F_Rd_readDrum N O I J a m) Q := by
  unfold F_Rd_readDrum
  unfold spDrum at k
  rw [if_neg hz] at k
  refine Wp.bd1 (h.next S hN (fun I1 h1 => Wp.bd2 (h1.pass S hN (by decide) (by decide) (fun I2 w1 h2 => ?_) (fun I2 w1 h2 => ?_))))
  · rw [ww_t w1] at k
    refine Wp.neg (by rw [k_1]; decide) (Wp.bd2 (h2.whole S (ofI (by decide)) (ofI (by decide)) (fun w2 w3 w4 => ?_) (fun I3 w w2 h3 => ?_)))
    · rw [Ex_ok, wl_t w2 w3] at k
      refine Wp.neg (by rw [k_1]; decide) (Wp.lb (Wp.bd1 ((h2.put S (by decide) w4).next S hN (fun I5 h5 => Wp.bd2 (h5.pass S hN (by decide) (by decide) (fun I6 w5 h6 => ?_) (fun I6 w5 h6 => ?_))))))
      · rw [Ex_ok, ww_t w5] at k
        refine Wp.neg (by rw [k_1]; decide) (Wp.bd2 (h6.whole S (ofI (by decide)) (ofI (by decide)) (fun w6 w7 w8 => ?_) (fun I7 w w6 h7 => ?_)))
        · rw [Ex_ok, wl_t w6 w7] at k
          refine Wp.neg (by rw [k_1]; decide) (Wp.lb (Wp.bd1 ((h6.put S (by decide) w8).next S hN (fun I9 h9 => Wp.ret (k _ _ (CP.ok rfl h9))))))
        · rw [Ex_ok, w6] at k
          exact Wp.pos k_0 (Wp.ret (k _ _ (CP.er rfl h7)))
      · rw [Ex_ok, ww_f w5] at k
        exact Wp.pos k_0 (Wp.ret (k _ _ (CP.er rfl h6)))
    · rw [Ex_ok, w2] at k
      exact Wp.pos k_0 (Wp.ret (k _ _ (CP.er rfl h3)))
  · rw [ww_f w1] at k
    exact Wp.pos k_0 (Wp.ret (k _ _ (CP.er rfl h2)))
end CLINE
