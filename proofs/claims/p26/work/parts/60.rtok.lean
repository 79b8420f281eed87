/-! the reference's reader at a token -/
def EY (a : Nat) (ks : List Nat) (J J' : WJ) : Prop := ∀ b k, ¬ (b = a ∧ k ∈ ks) → J' b k = J b k
theorem EY.rf {a : Nat} {ks : List Nat} {J : WJ} : EY a ks J J := fun _ _ _ => rfl
theorem EY.up {a k : Nat} {v : Int64} {J : WJ} : EY a [k] J (up2 J a k v) := fun b j h => up2_ne _ _ (fun z => h ⟨z.1, by rw [z.2]; exact List.mem_singleton.mpr rfl⟩)
theorem EY.trans {a : Nat} {ks : List Nat} {J J1 J2 : WJ} (h1 : EY a ks J J1) (h2 : EY a ks J1 J2) : EY a ks J J2 := fun b k h => (h2 b k h).trans (h1 b k h)
theorem EY.ne {a b : Nat} {ks : List Nat} {J J' : WJ} (h : EY a ks J J') (hb : b ≠ a) : J' b = J b := by funext k; exact h b k (fun z => hb z.1)
theorem and255 {x : Int32} (h : -128 ≤ x.toInt ∧ x.toInt ≤ 127) : (x &&& Int32.ofInt 255).toInt = x.toInt % 256 := by
  have key : ∀ k : Nat, k < 256 → (Int32.ofInt ((k : Int) - 128) &&& Int32.ofInt 255).toInt = ((k : Int) - 128) % 256 := by decide +kernel
  have e : x = Int32.ofInt (((x.toInt + 128).toNat : Int) - 128) := by
    apply Int32.toInt_inj.mp
    rw [ofI (by omega)]; omega
  have := key (x.toInt + 128).toNat (by omega)
  rw [← e] at this
  rw [this]; omega
def XT (O : WO) (a : Nat) (I : WI) (t : Nat → Int) (n : Nat) : Prop := n ≤ 700 ∧ rf O a 5 ≠ a ∧ (I a 7).toInt = (n : Int) ∧ ∀ i, i < n → (I (rf O a 5) i).toInt = t i ∧ -128 ≤ t i ∧ t i ≤ 127
theorem XT.ex {O : WO} {a : Nat} {I I' : WI} {t : Nat → Int} {n : Nat} {ks : List Nat} (h : XT O a I t n) (e : EX a ks I I') (hk : 7 ∉ ks) : XT O a I' t n :=
  ⟨h.1, h.2.1, by rw [e.at hk]; exact h.2.2.1, fun i hi => by rw [e.ne h.2.1]; exact h.2.2.2 i hi⟩
section RTOK
variable {N : Nat} {O : WO} {I : WI} {J : WJ} {a : Nat} {t : Nat → Int} {n : Nat}
theorem rb_in (h : XT O a I t n) {x : Int32} {p : Nat} (hx : x.toInt = (p : Int)) (hp : p < n) : F_Mo_byteAt N O I J a x = some (I (rf O a 5) p &&& Int32.ofInt 255) := by
  obtain ⟨h1, h2, h3, h4⟩ := h
  unfold F_Mo_byteAt
  rw [if_neg (by omega), if_pos (by omega), hx]; rfl
theorem rb_v (h : XT O a I t n) {p : Nat} (hp : p < n) : (I (rf O a 5) p &&& Int32.ofInt 255).toInt = t p % 256 ∧ -128 ≤ t p ∧ t p ≤ 127 := by
  have h4 := h.2.2.2 p hp
  rw [and255 (by rw [h4.1]; exact h4.2), h4.1]; exact ⟨rfl, h4.2⟩
theorem rb_out (h : XT O a I t n) {x : Int32} (hx : (n : Int) ≤ x.toInt) : F_Mo_byteAt N O I J a x = some (Int32.ofInt (-1)) := by
  unfold F_Mo_byteAt
  rw [if_pos (by rw [h.2.2.1]; exact hx)]
theorem r_isL {x : Int32} : F_Mo_isLetter N O I J x = some (bI (decide (97 ≤ x.toInt ∧ x.toInt ≤ 122))) := by
  unfold F_Mo_isLetter bI
  by_cases q : x.toInt < 97
  · rw [if_pos q, if_neg (by simp; omega)]
  · rw [if_neg q]
    by_cases q2 : 122 < x.toInt
    · rw [if_pos q2, if_neg (by simp; omega)]
    · rw [if_neg q2, if_pos (by simp; omega)]
theorem r_isD {x : Int32} : F_Mo_isDigit N O I J x = some (bI (decide (48 ≤ x.toInt ∧ x.toInt ≤ 57))) := by
  unfold F_Mo_isDigit bI
  by_cases q : x.toInt < 48
  · rw [if_pos q, if_neg (by simp; omega)]
  · rw [if_neg q]
    by_cases q2 : 57 < x.toInt
    · rw [if_pos q2, if_neg (by simp; omega)]
    · rw [if_neg q2, if_pos (by simp; omega)]
theorem k_m1 : (Int32.ofInt (-1)).toInt = -1 := ofI (by decide)
theorem rw_loop {f : Nat} : ∀ (m : Nat) (x : Int32) (I : WI) (J : WJ) (p : Nat) (Q : WI × WJ → Prop), XT O a I t n → (I a 8).toInt = (p : Int) → x.toInt = (p : Int) - f → f ≤ p → p ≤ n → (∀ j, f ≤ j → j < p → 97 ≤ t j ∧ t j ≤ 122) → (p ≤ f + 8 → (J a 15).toInt = dg 32 96 (fun j => t (f + j)) (p - f)) → n - p < m → (∀ I' J', EX a [8, 9] I I' → EY a [15] J J' → (I' a 8).toInt = (rL t n p : Int) → I' a 9 = (if rL t n p ≤ f + 8 then Int32.ofInt 2 else I a 9) → (rL t n p ≤ f + 8 → (J' a 15).toInt = dg 32 96 (fun j => t (f + j)) (rL t n p - f)) → Q (I', J')) → Wp (lp (B_Mo_next_89 N O a) (fun _ _ _ => none) m x I J) Q := by
  intro m
  induction m with
  | zero => intro x I J p Q _ _ _ _ _ _ _ h; omega
  | succ m ih =>
    intro x I J p Q hT hp hx h1 h2 hdig hval h3 k
    show Wp (B_Mo_next_89 N O a (lp (B_Mo_next_89 N O a) (fun _ _ _ => none) m) x I J) Q
    unfold B_Mo_next_89
    have h700 := hT.1
    have stop : ¬ (p < n ∧ 97 ≤ t p ∧ t p ≤ 122) → Wp (if 8 < x.toInt then some (I, J) else lb (up2 I a 9 (Int32.ofInt 2)) fun I21 => some (I21, J)) Q := by
      intro hs
      have e := rL_n hs
      refine Wp.ite (fun q => Wp.ret (k _ _ EX.rf EY.rf (by rw [e]; exact hp) (by rw [e, if_neg (by omega)]) (by rw [e]; exact hval))) (fun q => Wp.lb (Wp.ret (k _ _ (EX.up.w (by decide)) EY.rf ?_ ?_ (by rw [e]; exact hval))))
      · rw [up2_ne _ _ (by omega), hp, e]
      · rw [up2_self, e, if_pos (by omega)]
    by_cases hlt : p < n
    · have hb := rb_in (N := N) (J := J) hT hp hlt
      have hv := rb_v hT hlt
      refine Wp.eq (by rw [hb]) (Wp.bd1 (Wp.ret ?_))
      refine Wp.eq (by rw [r_isL]) (Wp.bd1 (Wp.ret ?_))
      refine Wp.ite (fun q2 => stop (by rw [bI_d0] at q2; omega)) (fun q2 => ?_)
      rw [bI_d0, Decidable.not_not] at q2
      have q2 : 97 ≤ t p ∧ t p ≤ 122 := by omega
      have er : rL t n p = rL t n (p + 1) := rL_y ⟨hlt, q2⟩
      have hE : EX a [8, 9] I (up2 I a 8 (I a 8 + Int32.ofInt 1)) := EX.up.w (by decide)
      have e8 : (up2 I a 8 (I a 8 + Int32.ofInt 1) a 8).toInt = ((p + 1 : Nat) : Int) := by rw [up2_self, t_add hp k_1 (by omega)]; omega
      have hd2 : ∀ j, f ≤ j → j < p + 1 → 97 ≤ t j ∧ t j ≤ 122 := fun j j1 j2 => by
        rcases Nat.lt_or_ge j p with w | w
        · exact hdig j j1 w
        · rw [show j = p by omega]; exact q2
      refine Wp_jq (fun kk => ∀ J1, EY a [15] J J1 → (p + 1 ≤ f + 8 → (J1 a 15).toInt = dg 32 96 (fun j => t (f + j)) (p + 1 - f)) → Wp (kk J1) Q) (fun J1 y1 y2 => ?_) (fun kk hk => ?_)
      · refine Wp.lb (Wp.lb (ih _ _ J1 (p + 1) Q (hT.ex hE (by decide)) e8 (by rw [t_add hx k_1 (by omega)]; omega) (by omega) (by omega) hd2 y2 (by omega) (fun I' J' x1 x2 x3 x4 x5 => ?_)))
        refine k I' J' (hE.trans x1) (y1.trans x2) (by rw [er]; exact x3) ?_ (by rw [er]; exact x5)
        rw [er, x4, up2_ne _ _ (by omega)]
      · refine Wp.ite (fun q3 => hk J EY.rf (fun z => by omega)) (fun q3 => ?_)
        refine Wp.bd1 (Wp.ret (Wp.lb (hk _ EY.up (fun _ => ?_))))
        have hd := dg8 (d := fun j => t (f + j)) (p - f) (by omega) (fun j hj => hdig (f + j) (by omega) (by omega))
        have hvl := hval (by omega)
        have e1 : (I (rf O a 5) p &&& Int32.ofInt 255).toInt = t p := by omega
        have e2 := t_sub e1 (show (Int32.ofInt 97).toInt = 97 from ofI (by decide)) (by omega)
        have e3 := t_add e2 k_1 (by omega)
        have e4 : ((I (rf O a 5) p &&& Int32.ofInt 255) - Int32.ofInt 97 + Int32.ofInt 1).toInt64.toInt = t p - 97 + 1 := by rw [Int32.toInt_toInt64]; exact e3
        have e5 : (32 * J a 15).toInt = 32 * dg 32 96 (fun j => t (f + j)) (p - f) := l_mul rfl hvl (by omega)
        have e6 := l_add e5 e4 (by omega)
        rw [up2_self, e6, show p + 1 - f = (p - f) + 1 by omega]
        show _ = dg 32 96 (fun j => t (f + j)) (p - f) * 32 + (t (f + (p - f)) - 96)
        rw [show f + (p - f) = p by omega]; omega
    · refine Wp.eq (by rw [rb_out hT (by omega)]) (Wp.bd1 (Wp.ret ?_))
      refine Wp.eq (by rw [r_isL]) (Wp.bd1 (Wp.ret ?_))
      exact Wp.pos (by rw [bI_d0, k_m1]; omega) (stop (by omega))
theorem rd_loop {f : Nat} : ∀ (m : Nat) (x : Int32) (I : WI) (p : Nat) (Q : WI × WJ → Prop), XT O a I t n → (I a 8).toInt = (p : Int) → x.toInt = (p : Int) - f → f ≤ p → p ≤ n → (∀ j, f ≤ j → j < p → 48 ≤ t j ∧ t j ≤ 57) → (p ≤ f + 3 → (I a 12).toInt = dg 10 48 (fun j => t (f + j)) (p - f)) → n - p < m → (∀ I', EX a [8, 9, 12] I I' → (I' a 8).toInt = (rD t n p : Int) → I' a 9 = (if rD t n p ≤ f + 3 then Int32.ofInt 3 else I a 9) → (rD t n p ≤ f + 3 → (I' a 12).toInt = dg 10 48 (fun j => t (f + j)) (rD t n p - f)) → Q (I', J)) → Wp (lp (B_Mo_next_178 N O a J) (fun _ _ => none) m x I) Q := by
  intro m
  induction m with
  | zero => intro x I p Q _ _ _ _ _ _ _ h; omega
  | succ m ih =>
    intro x I p Q hT hp hx h1 h2 hdig hval h3 k
    show Wp (B_Mo_next_178 N O a J (lp (B_Mo_next_178 N O a J) (fun _ _ => none) m) x I) Q
    unfold B_Mo_next_178
    have h700 := hT.1
    have stop : ¬ (p < n ∧ 48 ≤ t p ∧ t p ≤ 57) → Wp (if 3 < x.toInt then some (I, J) else lb (up2 I a 9 (Int32.ofInt 3)) fun I14 => some (I14, J)) Q := by
      intro hs
      have e := rD_n hs
      refine Wp.ite (fun q => Wp.ret (k _ EX.rf (by rw [e]; exact hp) (by rw [e, if_neg (by omega)]) (by rw [e]; exact hval))) (fun q => Wp.lb (Wp.ret (k _ (EX.up.w (by decide)) ?_ ?_ ?_)))
      · rw [up2_ne _ _ (by omega), hp, e]
      · rw [up2_self, e, if_pos (by omega)]
      · rw [up2_ne _ _ (by omega), e]; exact hval
    by_cases hlt : p < n
    · have hb := rb_in (N := N) (J := J) hT hp hlt
      have hv := rb_v hT hlt
      refine Wp.eq (by rw [hb]) (Wp.bd1 (Wp.ret ?_))
      refine Wp.eq (by rw [r_isD]) (Wp.bd1 (Wp.ret ?_))
      refine Wp.ite (fun q2 => stop (by rw [bI_d0] at q2; omega)) (fun q2 => ?_)
      rw [bI_d0, Decidable.not_not] at q2
      have q2 : 48 ≤ t p ∧ t p ≤ 57 := by omega
      have er : rD t n p = rD t n (p + 1) := rD_y ⟨hlt, q2⟩
      have hd2 : ∀ j, f ≤ j → j < p + 1 → 48 ≤ t j ∧ t j ≤ 57 := fun j j1 j2 => by
        rcases Nat.lt_or_ge j p with w | w
        · exact hdig j j1 w
        · rw [show j = p by omega]; exact q2
      refine Wp_jq (fun kk => ∀ I1, EX a [8, 9, 12] I I1 → I1 a 8 = I a 8 → I1 a 9 = I a 9 → (p + 1 ≤ f + 3 → (I1 a 12).toInt = dg 10 48 (fun j => t (f + j)) (p + 1 - f)) → Wp (kk I1) Q) (fun I1 y1 y8 y9 y2 => ?_) (fun kk hk => ?_)
      · have hE : EX a [8, 9, 12] I (up2 I1 a 8 (I1 a 8 + Int32.ofInt 1)) := y1.trans (EX.up.w (by decide))
        have e8 : (up2 I1 a 8 (I1 a 8 + Int32.ofInt 1) a 8).toInt = ((p + 1 : Nat) : Int) := by rw [up2_self, y8, t_add hp k_1 (by omega)]; omega
        refine Wp.lb (Wp.lb (ih _ _ (p + 1) Q (hT.ex hE (by decide)) e8 (by rw [t_add hx k_1 (by omega)]; omega) (by omega) (by omega) hd2 (by rw [up2_ne _ _ (by omega)]; exact y2) (by omega) (fun I' x1 x3 x4 x5 => ?_)))
        refine k I' (hE.trans x1) (by rw [er]; exact x3) ?_ (by rw [er]; exact x5)
        rw [er, x4, up2_ne _ _ (by omega), y9]
      · refine Wp.ite (fun q3 => hk I EX.rf rfl rfl (fun z => by omega)) (fun q3 => ?_)
        refine Wp.bd1 (Wp.ret (Wp.lb (hk _ (EX.up.w (by decide)) (up2_ne _ _ (by omega)) (up2_ne _ _ (by omega)) (fun _ => ?_))))
        have hd := dg3 (d := fun j => t (f + j)) (p - f) (by omega) (fun j hj => hdig (f + j) (by omega) (by omega))
        have hvl := hval (by omega)
        have e1 : (I (rf O a 5) p &&& Int32.ofInt 255).toInt = t p := by omega
        have e5 : (Int32.ofInt 10 * I a 12).toInt = 10 * dg 10 48 (fun j => t (f + j)) (p - f) := t_mul (ofI (by decide)) hvl (by omega)
        have e6 := t_add e5 e1 (by omega)
        have e7 := t_sub e6 (show (Int32.ofInt 48).toInt = 48 from ofI (by decide)) (by omega)
        rw [up2_self, e7, show p + 1 - f = (p - f) + 1 by omega]
        show _ = dg 10 48 (fun j => t (f + j)) (p - f) * 10 + (t (f + (p - f)) - 48)
        rw [show f + (p - f) = p by omega]; omega
    · refine Wp.eq (by rw [rb_out hT (by omega)]) (Wp.bd1 (Wp.ret ?_))
      refine Wp.eq (by rw [r_isD]) (Wp.bd1 (Wp.ret ?_))
      exact Wp.pos (by rw [bI_d0, k_m1]; omega) (stop (by omega))
def sx (k : Int) : Int := if k = 0 then 1 else if k = 1 then 0 else k
/-- the reference's reader stands at the token that begins at f -/
def RX (O : WO) (a : Nat) (I : WI) (J : WJ) (t : Nat → Int) (n f : Nat) : Prop := XT O a I t n ∧ f ≤ n ∧ (I a 9).toInt = sx (kd t n f) ∧ (I a 10).toInt = (f : Int) ∧ (kd t n f ≠ 1 → (I a 8).toInt = (bh t n f : Int)) ∧ (0 ≤ (I a 8).toInt ∧ (I a 8).toInt ≤ 700) ∧ (kd t n f = 4 → (I a 11).toInt = t f) ∧ (kd t n f = 3 → (I a 12).toInt = vl t n f) ∧ (kd t n f = 2 → (J a 15).toInt = cd t n f)
theorem r_next (hN : 800 ≤ N) {p : Nat} {Q : WI × WJ → Prop} (hT : XT O a I t n) (h9 : ¬ (I a 9).toInt = 5) (hp : (I a 8).toInt = (p : Int)) (hpn : p ≤ n) (k : ∀ I' J', EX a [8, 9, 10, 11, 12] I I' → EY a [15] J J' → RX O a I' J' t n (rB t n p) → Q (I', J')) : Wp (F_Mo_next N O I J a) Q := by
  unfold F_Mo_next
  have h700 := hT.1
  refine Wp.neg h9 ?_
  have main : ∀ (m : Nat) (I1 : WI) (p : Nat), EX a [8, 9, 10, 11, 12] I I1 → (I1 a 8).toInt = (p : Int) → p ≤ n → n - p < m → (∀ I' J', EX a [8, 9, 10, 11, 12] I I' → EY a [15] J J' → RX O a I' J' t n (rB t n p) → Q (I', J')) → Wp (lp (B_Mo_next_9 N O a J) (fun _ => none) m I1) Q := by
    intro m
    induction m with
    | zero => intro I1 p _ _ _ h; omega
    | succ m ih =>
      intro I1 p hE hf h2 h3 k
      show Wp (B_Mo_next_9 N O a J (lp (B_Mo_next_9 N O a J) (fun _ => none) m) I1) Q
      unfold B_Mo_next_9
      have hT1 := hT.ex hE (by decide)
      by_cases hlt : p < n
      · have hv := rb_v hT1 hlt
        refine Wp.eq (by rw [rb_in hT1 hf hlt]) (Wp.bd1 (Wp.ret ?_))
        refine Wp.ite (fun q2 => ?_) (fun q2 => ?_)
        · refine Wp.lb ?_
          have hx : EX a [8, 9, 10, 11, 12] I1 (up2 I1 a 8 (I1 a 8 + Int32.ofInt 1)) := EX.up.w (by decide)
          refine ih _ (p + 1) (hE.trans hx) (by rw [up2_self, t_add hf k_1 (by omega)]; omega) (by omega) (by omega) (fun I' J' y1 y2 y3 => k I' J' y1 y2 ?_)
          rw [rB_y ⟨hlt, by omega⟩]; exact y3
        · have e := rB_n (t := t) (n := n) (p := p) (by omega)
          rw [e] at k
          refine Wp.lb (Wp.lb (Wp.lb ?_))
          generalize hI4 : up2 (up2 (up2 I1 a 10 (I1 a 8)) a 9 (Int32.ofInt 0)) a 11 (Int32.ofInt 0) = I4
          have hE4 : EX a [8, 9, 10, 11, 12] I1 I4 := by
            rw [← hI4]; exact ((EX.up.w (by decide) : EX a [8, 9, 10, 11, 12] I1 _).trans (EX.up.w (by decide))).trans (EX.up.w (by decide))
          have hT4 := hT1.ex hE4 (by decide)
          have e8 : (I4 a 8).toInt = (p : Int) := by rw [← hI4, up2_ne _ _ (by omega), up2_ne _ _ (by omega), up2_ne _ _ (by omega)]; exact hf
          have e10 : (I4 a 10).toInt = (p : Int) := by rw [← hI4, up2_ne _ _ (by omega), up2_ne _ _ (by omega), up2_self]; exact hf
          have e9 : (I4 a 9).toInt = 0 := by rw [← hI4, up2_ne _ _ (by omega), up2_self]; exact k_0
          have hEE := hE.trans hE4
          have hv4 := rb_v hT4 hlt
          refine Wp.eq (by rw [rb_in hT4 e8 hlt]) (Wp.bd1 (Wp.ret ?_))
          refine Wp.neg (by omega) ?_
          refine Wp.eq (by rw [r_isL]) (Wp.bd1 (Wp.ret ?_))
          refine Wp.ite (fun q3 => ?_) (fun q3 => ?_)
          · rw [bI_d0] at q3
            have q3 : ¬ (97 ≤ t p ∧ t p ≤ 122) := by omega
            refine Wp.eq (by rw [r_isD]) (Wp.bd1 (Wp.ret ?_))
            refine Wp.ite (fun q4 => ?_) (fun q4 => ?_)
            · rw [bI_d0] at q4
              have q4 : ¬ (48 ≤ t p ∧ t p ≤ 57) := by omega
              have hkd : kd t n p = if t p = 59 ∨ t p = 44 then 4 else 1 := by unfold kd; rw [if_pos hlt, if_neg q3, if_neg q4]
              refine Wp_jq (fun kk => (t p = 59 ∨ t p = 44) → Wp kk Q) (fun hs => ?_) (fun kk hk => ?_)
              · refine Wp.lb (Wp.lb (Wp.lb (Wp.ret ?_)))
                rw [if_pos hs] at hkd
                generalize hI5 : up2 (up2 (up2 I4 a 9 (Int32.ofInt 4)) a 11 (I4 (rf O a 5) p &&& Int32.ofInt 255)) a 8 (up2 (up2 I4 a 9 (Int32.ofInt 4)) a 11 (I4 (rf O a 5) p &&& Int32.ofInt 255) a 8 + Int32.ofInt 1) = I5
                have hE5 : EX a [8, 9, 10, 11, 12] I4 I5 := by
                  rw [← hI5]; exact ((EX.up.w (by decide) : EX a [8, 9, 10, 11, 12] I4 _).trans (EX.up.w (by decide))).trans (EX.up.w (by decide))
                have f8 : (I5 a 8).toInt = (p : Int) + 1 := by rw [← hI5, up2_self, up2_ne _ _ (by omega), up2_ne _ _ (by omega)]; exact t_add e8 k_1 (by omega)
                refine k _ _ (hEE.trans hE5) EY.rf ⟨hT4.ex hE5 (by decide), h2, ?_, ?_, fun _ => ?_, by omega, fun _ => ?_, fun q => by omega, fun q => by omega⟩
                · rw [hkd, ← hI5, up2_ne _ _ (by omega), up2_ne _ _ (by omega), up2_self]; exact ofI (by decide)
                · rw [← hI5, up2_ne _ _ (by omega), up2_ne _ _ (by omega), up2_ne _ _ (by omega)]; exact e10
                · rw [f8]; unfold bh; rw [if_pos hlt, if_neg q3, if_neg q4]; omega
                · rw [← hI5, up2_ne _ _ (by omega), up2_self]; omega
              · have fin : ¬ (t p = 59 ∨ t p = 44) → Wp (some (I4, J)) Q := fun hs => by
                  rw [if_neg hs] at hkd
                  exact Wp.ret (k _ _ hEE EY.rf ⟨hT4, h2, by rw [hkd]; exact e9, e10, fun q => absurd hkd q, by omega, fun q => by omega, fun q => by omega, fun q => by omega⟩)
                exact Wp.ite (fun w => hk (by omega)) (fun w => Wp.ite (fun w2 => hk (by omega)) (fun w2 => fin (by omega)))
            · rw [bI_d0, Decidable.not_not] at q4
              have q4 : 48 ≤ t p ∧ t p ≤ 57 := by omega
              refine Wp.lb ?_
              have hE5 : EX a [12] I4 (up2 I4 a 12 (Int32.ofInt 0)) := EX.up
              refine rd_loop (f := p) N _ _ p _ (hT4.ex hE5 (by decide)) (by rw [hE5.at (by decide)]; exact e8) (by rw [k_0]; omega) (Nat.le_refl p) h2 (fun j j1 j2 => by omega) (fun _ => by rw [up2_self, Nat.sub_self]; exact k_0) (by omega) (fun I' x1 x2 x3 x4 => ?_)
              have hr := rD_b (t := t) h2
              have hE6 : EX a [8, 9, 10, 11, 12] I4 I' := (hE5.w (by decide)).trans (x1.w (by decide))
              have hkd : kd t n p = if rD t n p ≤ p + 3 then 3 else 1 := by unfold kd; rw [if_pos hlt, if_neg q3, if_pos q4]
              refine k _ _ (hEE.trans hE6) EY.rf ⟨hT4.ex hE6 (by decide), h2, ?_, ?_, fun _ => ?_, by omega, fun q => ?_, fun q => ?_, fun q => ?_⟩
              · rw [x3, hkd]
                split
                · exact ofI (by decide)
                · rw [hE5.at (by decide)]; exact e9
              · rw [x1.at (by decide), hE5.at (by decide)]; exact e10
              · rw [x2]; unfold bh; rw [if_pos hlt, if_neg q3, if_pos q4]
              · rw [hkd] at q; split at q <;> omega
              · rw [hkd] at q
                split at q
                · rename_i w; exact x4 w
                · omega
              · rw [hkd] at q; split at q <;> omega
          · rw [bI_d0, Decidable.not_not] at q3
            have q3 : 97 ≤ t p ∧ t p ≤ 122 := by omega
            refine Wp.lb ?_
            refine rw_loop (f := p) N _ _ _ p _ hT4 e8 (by rw [k_0]; omega) (Nat.le_refl p) h2 (fun j j1 j2 => by omega) (fun _ => by rw [up2_self, Nat.sub_self]; rfl) (by omega) (fun I' J' x1 x2 x3 x4 x5 => ?_)
            have hr := rL_b (t := t) h2
            have hE6 : EX a [8, 9, 10, 11, 12] I4 I' := x1.w (by decide)
            have hkd : kd t n p = if rL t n p ≤ p + 8 then 2 else 1 := by unfold kd; rw [if_pos hlt, if_pos q3]
            refine k _ _ (hEE.trans hE6) (EY.up.trans x2) ⟨hT4.ex hE6 (by decide), h2, ?_, ?_, fun _ => ?_, by omega, fun q => ?_, fun q => ?_, fun q => ?_⟩
            · rw [x4, hkd]
              split
              · exact ofI (by decide)
              · exact e9
            · rw [x1.at (by decide)]; exact e10
            · rw [x3]; unfold bh; rw [if_pos hlt, if_pos q3]
            · rw [hkd] at q; split at q <;> omega
            · rw [hkd] at q; split at q <;> omega
            · rw [hkd] at q
              split at q
              · rename_i w; exact x5 w
              · omega
      · have e := rB_n (t := t) (n := n) (p := p) (by omega)
        rw [e] at k
        refine Wp.eq (by rw [rb_out hT1 (by omega)]) (Wp.bd1 (Wp.ret ?_))
        refine Wp.neg (by rw [k_m1]; decide) (Wp.lb (Wp.lb (Wp.lb ?_)))
        generalize hI4 : up2 (up2 (up2 I1 a 10 (I1 a 8)) a 9 (Int32.ofInt 0)) a 11 (Int32.ofInt 0) = I4
        have hE4 : EX a [8, 9, 10, 11, 12] I1 I4 := by
          rw [← hI4]; exact ((EX.up.w (by decide) : EX a [8, 9, 10, 11, 12] I1 _).trans (EX.up.w (by decide))).trans (EX.up.w (by decide))
        have hT4 := hT1.ex hE4 (by decide)
        have e8 : (I4 a 8).toInt = (p : Int) := by rw [← hI4, up2_ne _ _ (by omega), up2_ne _ _ (by omega), up2_ne _ _ (by omega)]; exact hf
        have e10 : (I4 a 10).toInt = (p : Int) := by rw [← hI4, up2_ne _ _ (by omega), up2_ne _ _ (by omega), up2_self]; exact hf
        refine Wp.eq (by rw [rb_out hT4 (by omega)]) (Wp.bd1 (Wp.ret ?_))
        refine Wp.pos k_m1 (Wp.lb (Wp.ret ?_))
        have hE5 : EX a [9] I4 (up2 I4 a 9 (Int32.ofInt 1)) := EX.up
        have hkd : kd t n p = 0 := by unfold kd; rw [if_neg hlt]
        refine k _ _ ((hE.trans hE4).trans (hE5.w (by decide))) EY.rf ⟨hT4.ex hE5 (by decide), h2, ?_, ?_, fun _ => ?_, ?_, fun q => by omega, fun q => by omega, fun q => by omega⟩
        · rw [up2_self, hkd]; exact k_1
        · rw [hE5.at (by decide)]; exact e10
        · rw [hE5.at (by decide), e8]; unfold bh; rw [if_neg hlt]
        · rw [hE5.at (by decide), e8]; omega
  exact main N I p EX.rf hp hpn (by omega) k
theorem r_wordOf (hN : 800 ≤ N) {i : Nat} (hi : i < 31) (h15 : i ≠ 15) : ∃ c : Int64, F_Mo_wordOf N O I J i = some c ∧ c.toInt = wc i := by
  have hl := sL_i i hi
  have h8 := wc_len i hi h15
  have main : ∀ (m : Nat) (c : Int64) (x : Int32) (p : Nat), x.toInt = (p : Int) → p ≤ sLen.getD i 0 → c.toInt = dg 32 96 (fun j => (sC i j).toInt) p → sLen.getD i 0 - p < m → ∃ c' : Int64, lp (B_Mo_wordOf_4 N O i) (fun _ _ => none) m c x = some c' ∧ c'.toInt = wc i := by
    intro m
    induction m with
    | zero => intro c x p _ _ _ h; omega
    | succ m ih =>
      intro c x p hx hp hc hm
      show ∃ c' : Int64, B_Mo_wordOf_4 N O i (lp (B_Mo_wordOf_4 N O i) (fun _ _ => none) m) c x = some c' ∧ c'.toInt = wc i
      unfold B_Mo_wordOf_4
      by_cases q : (sL i).toInt ≤ x.toInt
      · rw [if_pos q]; exact ⟨c, rfl, by rw [hc, show p = sLen.getD i 0 by omega]; rfl⟩
      · rw [if_neg q, if_pos (by omega), show x.toInt.toNat = p by omega]
        have hlt := wc_let i hi h15 p (by omega)
        have hd := dg8 (d := fun j => (sC i j).toInt) p (by omega) (fun j hj => wc_let i hi h15 j (by omega))
        have e2 := t_sub (show (sC i p).toInt = (sC i p).toInt from rfl) (show (Int32.ofInt 97).toInt = 97 from ofI (by decide)) (by omega)
        have e3 := t_add e2 k_1 (by omega)
        have e4 : (sC i p - Int32.ofInt 97 + Int32.ofInt 1).toInt64.toInt = (sC i p).toInt - 97 + 1 := by rw [Int32.toInt_toInt64]; exact e3
        have e5 : (32 * c).toInt = 32 * dg 32 96 (fun j => (sC i j).toInt) p := l_mul rfl hc (by omega)
        have e6 := l_add e5 e4 (by omega)
        refine ih _ _ (p + 1) (by rw [t_add hx k_1 (by omega)]; omega) (by omega) ?_ (by omega)
        rw [e6]
        show _ = dg 32 96 (fun j => (sC i j).toInt) p * 32 + ((sC i p).toInt - 96)
        omega
  unfold F_Mo_wordOf
  exact main N 0 _ 0 k_0 (by omega) rfl (by omega)
end RTOK
