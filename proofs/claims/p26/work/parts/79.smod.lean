def frY41 : Nat → Bool := frL [41]
def frM2 : Nat → Bool := frL [10, 31, 32, 33, 34, 35, 36, 37, 38, 39, 40, 41, 49, 50]
def frM3 : Nat → Bool := frL [10, 31, 32, 33, 34, 35, 36, 37, 38, 40, 41, 49, 50]
def mX10 : Nat → Nat → Bool := kpL frX10 [(10, 13)]
def mX31 : Nat → Nat → Bool := kpL frX31 []
def mX49 : Nat → Nat → Bool := kpL frX49 []
def mX50 : Nat → Nat → Bool := kpL frX50 []
def mT : Nat → Nat → Bool := kpL frT []
def mY41 : Nat → Nat → Bool := kpL frY41 []
def mL : Nat → Nat → Bool := kpL frM3 [(10, 1), (10, 2), (10, 13)]
def mS : Nat → Nat → Bool := kpL frM3 [(10, 13)]
def mN : Nat → Nat → Bool := kpL frM2 [(10, 13)]
def mC : Nat → Nat → Bool := kpL frM2 [(10, 1), (10, 2), (10, 13)]
set_option maxHeartbeats 4000000 in
set_option maxRecDepth 100000 in
theorem s_Mo_in {P : List Nat} {K : Nat → Nat} {N : Nat} {O : WO} {I0 : WI} {J0 : WJ} (hN : 2147483648 ≤ N) (hV : IV P K I0 O) {x0 : Int32} {x1 : Int32} {x2 : Int32} {Q : Int32 → Prop} (hQ : ∀ (z : Int32), (z.toInt = 0 ∨ z.toInt = 1) → ((Int32.toInt z = 1 ∧ Int32.toInt x1 ≤ Int32.toInt x0 ∧ Int32.toInt x0 ≤ Int32.toInt x2) ∨ (Int32.toInt z = 0 ∧ (Int32.toInt x0 < Int32.toInt x1 ∨ Int32.toInt x2 < Int32.toInt x0))) → Q z) : Wp (F_Mo_in N O I0 J0 x0 x1 x2) Q := by
  unfold F_Mo_in
  have r0 := rg x0
  have r1 := rg x1
  have r2 := rg x2
  have hV0 : SQ kP P K O I0 J0 I0 J0 := SQ.rf hV
  refine Wp.ite (fun c_2 => ?_) (fun c_2 => ?_)
  · skip
    exact Wp.ret (hQ (Int32.ofInt (0)) (by have hci : Int32.toInt (Int32.ofInt (0)) = 0 := ofI (by decide); omega) (by have hci : Int32.toInt (Int32.ofInt (0)) = 0 := ofI (by decide); first | omega | (dsimp only; omega)))
  · skip
    refine Wp.ite (fun c_7 => ?_) (fun c_7 => ?_)
    · skip
      exact Wp.ret (hQ (Int32.ofInt (0)) (by have hci : Int32.toInt (Int32.ofInt (0)) = 0 := ofI (by decide); omega) (by have hci : Int32.toInt (Int32.ofInt (0)) = 0 := ofI (by decide); first | omega | (dsimp only; omega)))
    · skip
      exact Wp.ret (hQ (Int32.ofInt (1)) (by have hci : Int32.toInt (Int32.ofInt (1)) = 1 := ofI (by decide); omega) (by have hci : Int32.toInt (Int32.ofInt (1)) = 1 := ofI (by decide); first | omega | (dsimp only; omega)))
set_option maxHeartbeats 4000000 in
set_option maxRecDepth 100000 in
theorem s_Mo_partOf {P : List Nat} {K : Nat → Nat} {N : Nat} {O : WO} {I0 : WI} {J0 : WJ} (hN : 2147483648 ≤ N) (hV : IV P K I0 O) {x0 : Int32} {x1 : Int32} {Q : Int32 → Prop} (hQ : ∀ (z : Int32), True → Q z) : Wp (F_Mo_partOf N O I0 J0 x0 x1) Q := by
  unfold F_Mo_partOf
  have r0 := rg x0
  have r1 := rg x1
  have hV0 : SQ kP P K O I0 J0 I0 J0 := SQ.rf hV
  refine Wp.ite (fun c_1 => ?_) (fun c_1 => ?_)
  · skip
    first | (have e_7 := tdivF (x := x0) (y := (Int32.ofInt (25))) rfl (ofI (by decide)) (by decide)) | skip
    exact Wp.ret (hQ (x0 / (Int32.ofInt (25))) trivial)
  · skip
    refine Wp.ite (fun c_13 => ?_) (fun c_13 => ?_)
    · skip
      first | (have e_18 := tdivF (x := x0) (y := (Int32.ofInt (5))) rfl (ofI (by decide)) (by decide)) | skip
      first | (have e_20 := tremF (x := (x0 / (Int32.ofInt (5)))) (y := (Int32.ofInt (5))) rfl (ofI (by decide)) (by decide)) | skip
      exact Wp.ret (hQ ((x0 / (Int32.ofInt (5))) - (x0 / (Int32.ofInt (5))) / (Int32.ofInt (5)) * (Int32.ofInt (5))) trivial)
    · skip
      first | (have e_26 := tremF (x := x0) (y := (Int32.ofInt (5))) rfl (ofI (by decide)) (by decide)) | skip
      exact Wp.ret (hQ (x0 - x0 / (Int32.ofInt (5)) * (Int32.ofInt (5))) trivial)
set_option maxHeartbeats 4000000 in
set_option maxRecDepth 100000 in
theorem s_Mo_isStart {P : List Nat} {K : Nat → Nat} {N : Nat} {O : WO} {I0 : WI} {J0 : WJ} (hN : 2147483648 ≤ N) (hV : IV P K I0 O) {x0 : Int32} {x1 : Int32} {x2 : Int32} {Q : Int32 → Prop} (hQ : ∀ (z : Int32), (z.toInt = 0 ∨ z.toInt = 1) → (Int32.toInt z = 0 ∨ (0 ≤ Int32.toInt x0 ∧ Int32.toInt x0 ≤ 3 ∧ 0 ≤ Int32.toInt x1 ∧ Int32.toInt x1 ≤ 4 ∧ 0 ≤ Int32.toInt x2 ∧ Int32.toInt x2 ≤ 4)) → Q z) : Wp (F_Mo_isStart N O I0 J0 x0 x1 x2) Q := by
  unfold F_Mo_isStart
  have r0 := rg x0
  have r1 := rg x1
  have r2 := rg x2
  have hV0 : SQ kP P K O I0 J0 I0 J0 := SQ.rf hV
  refine Wpc1 (s_Mo_in hN hV0.1  (fun z_3 b_3 p_3 => ?_))
  try dsimp only at p_3
  have hk1_3 : Int32.toInt (Int32.ofInt (0)) = 0 := ofI (by decide)
  have hk2_3 : Int32.toInt (Int32.ofInt (3)) = 3 := ofI (by decide)
  have rz_3 := rg z_3
  refine Wp.ite (fun c_6 => ?_) (fun c_6 => ?_)
  · skip
    exact Wp.ret (hQ (Int32.ofInt (0)) (by have hci : Int32.toInt (Int32.ofInt (0)) = 0 := ofI (by decide); omega) (by have hci : Int32.toInt (Int32.ofInt (0)) = 0 := ofI (by decide); first | omega | (dsimp only; omega)))
  · skip
    refine Wpc1 (s_Mo_in hN hV0.1  (fun z_12 b_12 p_12 => ?_))
    try dsimp only at p_12
    have hk1_12 : Int32.toInt (Int32.ofInt (0)) = 0 := ofI (by decide)
    have hk2_12 : Int32.toInt (Int32.ofInt (4)) = 4 := ofI (by decide)
    have rz_12 := rg z_12
    refine Wp.ite (fun c_15 => ?_) (fun c_15 => ?_)
    · skip
      exact Wp.ret (hQ (Int32.ofInt (0)) (by have hci : Int32.toInt (Int32.ofInt (0)) = 0 := ofI (by decide); omega) (by have hci : Int32.toInt (Int32.ofInt (0)) = 0 := ofI (by decide); first | omega | (dsimp only; omega)))
    · skip
      refine Wpc1 (s_Mo_in hN hV0.1  (fun z_21 b_21 p_21 => ?_))
      try dsimp only at p_21
      have hk1_21 : Int32.toInt (Int32.ofInt (0)) = 0 := ofI (by decide)
      have hk2_21 : Int32.toInt (Int32.ofInt (4)) = 4 := ofI (by decide)
      have rz_21 := rg z_21
      refine Wp.ite (fun c_24 => ?_) (fun c_24 => ?_)
      · skip
        exact Wp.ret (hQ (Int32.ofInt (0)) (by have hci : Int32.toInt (Int32.ofInt (0)) = 0 := ofI (by decide); omega) (by have hci : Int32.toInt (Int32.ofInt (0)) = 0 := ofI (by decide); first | omega | (dsimp only; omega)))
      · skip
        exact Wp.ret (hQ (Int32.ofInt (1)) (by have hci : Int32.toInt (Int32.ofInt (1)) = 1 := ofI (by decide); omega) (by have hci : Int32.toInt (Int32.ofInt (1)) = 1 := ofI (by decide); first | omega | (dsimp only; omega)))
set_option maxHeartbeats 4000000 in
set_option maxRecDepth 100000 in
theorem s_Mo_bits {P : List Nat} {K : Nat → Nat} {N : Nat} {O : WO} {I0 : WI} {J0 : WJ} (hN : 2147483648 ≤ N) (hV : IV P K I0 O) {x0 : Int32} (pr0 : 0 ≤ Int32.toInt x0) {Q : Int32 → Prop} (hQ : ∀ (z : Int32), True → Q z) : Wp (F_Mo_bits N O I0 J0 x0) Q := by
  unfold F_Mo_bits
  have r0 := rg x0
  have hV0 : SQ kP P K O I0 J0 I0 J0 := SQ.rf hV
  have lp_4 : ∀ (m_4 : Nat) (x1_4 : Int32) (x2_4 : Int32), Int.toNat ((x2_4).toInt) < m_4 → (0 ≤ Int32.toInt x2_4) → Wp (lp (B_Mo_bits_4 N O ) (fun _ _ => none) m_4 x1_4 x2_4) Q := by
    intro m_4
    induction m_4 with
    | zero => intro x1_4 x2_4 hm; exact absurd hm (Nat.not_lt_zero _)
    | succ m_4 ih_4 =>
    intro x1_4 x2_4 hm_4 iv0_4 
    have rg1_4 := rg x1_4
    have rg2_4 := rg x2_4
    show Wp (B_Mo_bits_4 N O  (lp (B_Mo_bits_4 N O ) (fun _ _ => none) m_4) x1_4 x2_4) Q
    unfold B_Mo_bits_4
    refine Wp.ite (fun c_5 => ?_) (fun c_5 => ?_)
    · skip
      exact Wp.ret (hQ x1_4 trivial)
    · skip
      refine Wp_lb (fun v1_8 ev_8 => ?_)
      have rv_8 := rg v1_8
      first | (have e_8 : v1_8.toInt = (x1_4).toInt + 1 := by rw [ev_8]; exact t_add rfl (ofI (by decide)) (by omega)) | skip
      clear ev_8
      first | (have e_14 := t_sub (x := x2_4) (y := (Int32.ofInt (1))) rfl (ofI (by decide)) (by omega)) | skip
      first | (have e_15 := and_le (x := x2_4) (y := (x2_4 - (Int32.ofInt (1)))) (by omega) (by omega)) | skip
      refine Wp_lb (fun v2_16 ev_16 => ?_)
      have ei_16 := congrArg Int32.toInt ev_16
      have rv_16 := rg v2_16
      exact ih_4 (v1_8) (v2_16) (by omega) (by omega) 
  exact lp_4 N ((Int32.ofInt (0))) (x0) (by omega) (by omega) 
set_option maxHeartbeats 4000000 in
set_option maxRecDepth 100000 in
theorem s_Mo_valueOf {P : List Nat} {K : Nat → Nat} {N : Nat} {O : WO} {I0 : WI} {J0 : WJ} (hN : 2147483648 ≤ N) (hV : IV P K I0 O) {a0 : Nat} (h0 : a0 ∈ P ∧ K a0 = 49) {x1 : Int32} (pr0 : 0 ≤ Int32.toInt x1 ∧ Int32.toInt x1 ≤ 6) {Q : Int32 → Prop} (hQ : ∀ (z : Int32), True → Q z) : Wp (F_Mo_valueOf N O I0 J0 a0 x1) Q := by
  unfold F_Mo_valueOf
  have r1 := rg x1
  have hV0 : SQ kP P K O I0 J0 I0 J0 := SQ.rf hV
  refine Wp.ite (fun c_1 => ?_) (fun c_1 => ?_)
  · skip
    exact Wp.ret (hQ (I0 a0 31) trivial)
  · skip
    refine Wp.ite (fun c_13 => ?_) (fun c_13 => ?_)
    · skip
      exact Wp.ret (hQ (I0 a0 30) trivial)
    · skip
      first | (have e_27 := t_add (x := (Int32.ofInt (10))) (y := x1) (ofI (by decide)) rfl (by omega)) | skip
      first | (have e_29 := t_sub (x := ((Int32.ofInt (10)) + x1)) (y := (Int32.ofInt (2))) rfl (ofI (by decide)) (by omega)) | skip
      refine Wp.pos (by omega) ?_
      exact Wp.ret (hQ (I0 a0 ((((Int32.ofInt (10)) + x1) - (Int32.ofInt (2)))).toInt.toNat) trivial)
set_option maxHeartbeats 4000000 in
set_option maxRecDepth 100000 in
theorem s_Mo_refused {P : List Nat} {K : Nat → Nat} {N : Nat} {O : WO} {I0 : WI} {J0 : WJ} (hN : 2147483648 ≤ N) (hV : IV P K I0 O) {a0 : Nat} (h0 : a0 ∈ P ∧ K a0 = 10) {x1 : Int32} {Q : (Int32 × WI) → Prop} (hQ : ∀ (z : Int32) (I_ : WI), IV P K I_ O → FQ mX10 K I0 J0 I_ J0 → (Int32.toInt z = -1 ∧ Int32.toInt (I_ a0 2) = -1 ∧ (I_ a0 6).toInt = (I0 a0 6).toInt ∧ (I_ a0 18).toInt = (I0 a0 18).toInt) → Q (z, I_)) : Wp (F_Mo_refused N O I0 J0 a0 x1) Q := by
  unfold F_Mo_refused
  have r1 := rg x1
  have ost := hV.2 a0 h0.1 18
  rw [h0.2] at ost
  replace ost : 0 ≤ (I0 a0 18).toInt ∧ (I0 a0 18).toInt ≤ 240 := ost
  have hV0 : SQ mX10 P K O I0 J0 I0 J0 := SQ.rf hV
  refine Wp_lb (fun I1 eI1 => ?_)
  have hV1 : SQ mX10 P K O I0 J0 I1 J0 := by rw [eI1]; exact hV0.putI h0.2 rfl trivial
  have tk1_a0_2 : (I1 a0 2).toInt = (I0 a0 2).toInt := by rw [eI1, up2_ne _ _ (fun z => absurd z.2 (by decide))]
  have tk1_a0_6 : (I1 a0 6).toInt = (I0 a0 6).toInt := by rw [eI1, up2_ne _ _ (fun z => absurd z.2 (by decide))]
  have tk1_a0_18 : (I1 a0 18).toInt = (I0 a0 18).toInt := by rw [eI1, up2_ne _ _ (fun z => absurd z.2 (by decide))]
  refine Wp_lb (fun I2 eI2 => ?_)
  have hV2 : SQ mX10 P K O I0 J0 I2 J0 := by rw [eI2]; exact hV1.putI h0.2 rfl trivial
  have tk2_a0_2 : (I2 a0 2).toInt = (-1) := by rw [eI2, up2_self]; exact ofI (by decide)
  have tk2_a0_6 : (I2 a0 6).toInt = (I1 a0 6).toInt := by rw [eI2, up2_ne _ _ (fun z => absurd z.2 (by decide))]
  have tk2_a0_18 : (I2 a0 18).toInt = (I1 a0 18).toInt := by rw [eI2, up2_ne _ _ (fun z => absurd z.2 (by decide))]
  exact Wp.ret (hQ (Int32.ofInt (-1)) I2 hV2.1 hV2.2 (by have hci : Int32.toInt (Int32.ofInt (-1)) = -1 := ofI (by decide); first | omega | (dsimp only; omega)))
set_option maxHeartbeats 4000000 in
set_option maxRecDepth 100000 in
theorem s_Mo_denied {P : List Nat} {K : Nat → Nat} {N : Nat} {O : WO} {I0 : WI} {J0 : WJ} (hN : 2147483648 ≤ N) (hV : IV P K I0 O) {a0 : Nat} (h0 : a0 ∈ P ∧ K a0 = 10) {x1 : Int32} {Q : (Int32 × WI) → Prop} (hQ : ∀ (z : Int32) (I_ : WI), IV P K I_ O → FQ mX10 K I0 J0 I_ J0 → (z.toInt = 0 ∨ z.toInt = 1) → (Int32.toInt z = 0 ∧ Int32.toInt (I_ a0 2) = -1 ∧ (I_ a0 6).toInt = (I0 a0 6).toInt ∧ (I_ a0 18).toInt = (I0 a0 18).toInt) → Q (z, I_)) : Wp (F_Mo_denied N O I0 J0 a0 x1) Q := by
  unfold F_Mo_denied
  have r1 := rg x1
  have ost := hV.2 a0 h0.1 18
  rw [h0.2] at ost
  replace ost : 0 ≤ (I0 a0 18).toInt ∧ (I0 a0 18).toInt ≤ 240 := ost
  have hV0 : SQ mX10 P K O I0 J0 I0 J0 := SQ.rf hV
  refine Wp_lb (fun I1 eI1 => ?_)
  have hV1 : SQ mX10 P K O I0 J0 I1 J0 := by rw [eI1]; exact hV0.putI h0.2 rfl trivial
  have tk1_a0_2 : (I1 a0 2).toInt = (I0 a0 2).toInt := by rw [eI1, up2_ne _ _ (fun z => absurd z.2 (by decide))]
  have tk1_a0_6 : (I1 a0 6).toInt = (I0 a0 6).toInt := by rw [eI1, up2_ne _ _ (fun z => absurd z.2 (by decide))]
  have tk1_a0_18 : (I1 a0 18).toInt = (I0 a0 18).toInt := by rw [eI1, up2_ne _ _ (fun z => absurd z.2 (by decide))]
  refine Wp_lb (fun I2 eI2 => ?_)
  have hV2 : SQ mX10 P K O I0 J0 I2 J0 := by rw [eI2]; exact hV1.putI h0.2 rfl trivial
  have tk2_a0_2 : (I2 a0 2).toInt = (-1) := by rw [eI2, up2_self]; exact ofI (by decide)
  have tk2_a0_6 : (I2 a0 6).toInt = (I1 a0 6).toInt := by rw [eI2, up2_ne _ _ (fun z => absurd z.2 (by decide))]
  have tk2_a0_18 : (I2 a0 18).toInt = (I1 a0 18).toInt := by rw [eI2, up2_ne _ _ (fun z => absurd z.2 (by decide))]
  exact Wp.ret (hQ (Int32.ofInt (0)) I2 hV2.1 hV2.2 (by have hci : Int32.toInt (Int32.ofInt (0)) = 0 := ofI (by decide); omega) (by have hci : Int32.toInt (Int32.ofInt (0)) = 0 := ofI (by decide); first | omega | (dsimp only; omega)))
set_option maxHeartbeats 4000000 in
set_option maxRecDepth 100000 in
theorem s_Mo_done {P : List Nat} {K : Nat → Nat} {N : Nat} {O : WO} {I0 : WI} {J0 : WJ} (hN : 2147483648 ≤ N) (hV : IV P K I0 O) {a0 : Nat} (h0 : a0 ∈ P ∧ K a0 = 10) {x1 : Int32} {Q : (Int32 × WI) → Prop} (hQ : ∀ (z : Int32) (I_ : WI), IV P K I_ O → FQ mX10 K I0 J0 I_ J0 → (Int32.toInt z = Int32.toInt x1 ∧ Int32.toInt (I_ a0 2) = -1 ∧ (I_ a0 6).toInt = (I0 a0 6).toInt ∧ (I_ a0 18).toInt = (I0 a0 18).toInt) → Q (z, I_)) : Wp (F_Mo_done N O I0 J0 a0 x1) Q := by
  unfold F_Mo_done
  have r1 := rg x1
  have ost := hV.2 a0 h0.1 18
  rw [h0.2] at ost
  replace ost : 0 ≤ (I0 a0 18).toInt ∧ (I0 a0 18).toInt ≤ 240 := ost
  have hV0 : SQ mX10 P K O I0 J0 I0 J0 := SQ.rf hV
  refine Wp_lb (fun I1 eI1 => ?_)
  have hV1 : SQ mX10 P K O I0 J0 I1 J0 := by rw [eI1]; exact hV0.putI h0.2 rfl trivial
  have tk1_a0_2 : (I1 a0 2).toInt = (I0 a0 2).toInt := by rw [eI1, up2_ne _ _ (fun z => absurd z.2 (by decide))]
  have tk1_a0_6 : (I1 a0 6).toInt = (I0 a0 6).toInt := by rw [eI1, up2_ne _ _ (fun z => absurd z.2 (by decide))]
  have tk1_a0_18 : (I1 a0 18).toInt = (I0 a0 18).toInt := by rw [eI1, up2_ne _ _ (fun z => absurd z.2 (by decide))]
  refine Wp_lb (fun I2 eI2 => ?_)
  have hV2 : SQ mX10 P K O I0 J0 I2 J0 := by rw [eI2]; exact hV1.putI h0.2 rfl trivial
  have tk2_a0_2 : (I2 a0 2).toInt = (-1) := by rw [eI2, up2_self]; exact ofI (by decide)
  have tk2_a0_6 : (I2 a0 6).toInt = (I1 a0 6).toInt := by rw [eI2, up2_ne _ _ (fun z => absurd z.2 (by decide))]
  have tk2_a0_18 : (I2 a0 18).toInt = (I1 a0 18).toInt := by rw [eI2, up2_ne _ _ (fun z => absurd z.2 (by decide))]
  exact Wp.ret (hQ x1 I2 hV2.1 hV2.2 (by first | omega | (dsimp only; omega)))
set_option maxHeartbeats 4000000 in
set_option maxRecDepth 100000 in
theorem s_Mo_granted {P : List Nat} {K : Nat → Nat} {N : Nat} {O : WO} {I0 : WI} {J0 : WJ} (hN : 2147483648 ≤ N) (hV : IV P K I0 O) {a0 : Nat} (h0 : a0 ∈ P ∧ K a0 = 10) {Q : (Int32 × WI) → Prop} (hQ : ∀ (z : Int32) (I_ : WI), IV P K I_ O → FQ mX10 K I0 J0 I_ J0 → (z.toInt = 0 ∨ z.toInt = 1) → (Int32.toInt z = 1 ∧ Int32.toInt (I_ a0 2) = -1 ∧ (I_ a0 6).toInt = (I0 a0 6).toInt ∧ (I_ a0 18).toInt = (I0 a0 18).toInt) → Q (z, I_)) : Wp (F_Mo_granted N O I0 J0 a0) Q := by
  unfold F_Mo_granted
  have ost := hV.2 a0 h0.1 18
  rw [h0.2] at ost
  replace ost : 0 ≤ (I0 a0 18).toInt ∧ (I0 a0 18).toInt ≤ 240 := ost
  have hV0 : SQ mX10 P K O I0 J0 I0 J0 := SQ.rf hV
  refine Wp_lb (fun I1 eI1 => ?_)
  have hV1 : SQ mX10 P K O I0 J0 I1 J0 := by rw [eI1]; exact hV0.putI h0.2 rfl trivial
  have tk1_a0_2 : (I1 a0 2).toInt = (I0 a0 2).toInt := by rw [eI1, up2_ne _ _ (fun z => absurd z.2 (by decide))]
  have tk1_a0_6 : (I1 a0 6).toInt = (I0 a0 6).toInt := by rw [eI1, up2_ne _ _ (fun z => absurd z.2 (by decide))]
  have tk1_a0_18 : (I1 a0 18).toInt = (I0 a0 18).toInt := by rw [eI1, up2_ne _ _ (fun z => absurd z.2 (by decide))]
  refine Wp_lb (fun I2 eI2 => ?_)
  have hV2 : SQ mX10 P K O I0 J0 I2 J0 := by rw [eI2]; exact hV1.putI h0.2 rfl trivial
  have tk2_a0_2 : (I2 a0 2).toInt = (-1) := by rw [eI2, up2_self]; exact ofI (by decide)
  have tk2_a0_6 : (I2 a0 6).toInt = (I1 a0 6).toInt := by rw [eI2, up2_ne _ _ (fun z => absurd z.2 (by decide))]
  have tk2_a0_18 : (I2 a0 18).toInt = (I1 a0 18).toInt := by rw [eI2, up2_ne _ _ (fun z => absurd z.2 (by decide))]
  exact Wp.ret (hQ (Int32.ofInt (1)) I2 hV2.1 hV2.2 (by have hci : Int32.toInt (Int32.ofInt (1)) = 1 := ofI (by decide); omega) (by have hci : Int32.toInt (Int32.ofInt (1)) = 1 := ofI (by decide); first | omega | (dsimp only; omega)))
set_option maxHeartbeats 4000000 in
set_option maxRecDepth 100000 in
theorem s_Mo_isOre_Z {P : List Nat} {K : Nat → Nat} {N : Nat} {O : WO} {I0 : WI} {J0 : WJ} (hN : 2147483648 ≤ N) (hV : IV P K I0 O) {a0 : Nat} (h0 : a0 ∈ P ∧ K a0 = 10) {x1 : Int32} (hMn : O a0 3 = none) {Q : Int32 → Prop} (hQ : ∀ (z : Int32), (z.toInt = 0 ∨ z.toInt = 1) → (Int32.toInt z = 0) → Q z) : Wp (F_Mo_isOre N O I0 J0 a0 x1) Q := by
  unfold F_Mo_isOre
  have r1 := rg x1
  have hV0 : SQ kP P K O I0 J0 I0 J0 := SQ.rf hV
  refine Wp.pos hMn ?_
  exact Wp.ret (hQ (Int32.ofInt (0)) (by have hci : Int32.toInt (Int32.ofInt (0)) = 0 := ofI (by decide); omega) (by have hci : Int32.toInt (Int32.ofInt (0)) = 0 := ofI (by decide); first | omega | (dsimp only; omega)))
set_option maxHeartbeats 4000000 in
set_option maxRecDepth 100000 in
theorem s_Mo_isOre_G {P : List Nat} {K : Nat → Nat} {N : Nat} {O : WO} {I0 : WI} {J0 : WJ} (hN : 2147483648 ≤ N) (hV : IV P K I0 O) {a0 : Nat} (h0 : a0 ∈ P ∧ K a0 = 10) {x1 : Int32} (hN3 : NN P K O a0 3 9) (hGM : GM I0 (rf O a0 3)) {Q : Int32 → Prop} (hQ : ∀ (z : Int32), (z.toInt = 0 ∨ z.toInt = 1) → ((Int32.toInt z = 1 ∧ 0 ≤ Int32.toInt x1 ∧ Int32.toInt x1 ≤ 3 ∧ Int32.toInt x1 < Int32.toInt (I0 (rf O a0 3) 9)) ∨ (Int32.toInt z = 0 ∧ (Int32.toInt x1 < 0 ∨ Int32.toInt (I0 (rf O a0 3) 9) ≤ Int32.toInt x1))) → Q z) : Wp (F_Mo_isOre N O I0 J0 a0 x1) Q := by
  unfold F_Mo_isOre
  have r1 := rg x1
  have hMs : ¬ O a0 3 = none := by rw [hN3.1]; exact fun z => by cases z
  have hV0 : SQ kP P K O I0 J0 I0 J0 := SQ.rf hV
  refine Wp.neg hMs ?_
  refine Wp.ite (fun c_8 => ?_) (fun c_8 => ?_)
  · skip
    exact Wp.ret (hQ (Int32.ofInt (0)) (by have hci : Int32.toInt (Int32.ofInt (0)) = 0 := ofI (by decide); omega) (by have hci : Int32.toInt (Int32.ofInt (0)) = 0 := ofI (by decide); first | omega | (dsimp only; omega)))
  · skip
    have o_16 := hV0.1.2 (rf O a0 3) hN3.2.1 9
    rw [hN3.2.2] at o_16
    replace o_16 : 0 ≤ (I0 (rf O a0 3) 9).toInt ∧ (I0 (rf O a0 3) 9).toInt ≤ 4 := o_16
    refine Wp.ite (fun c_19 => ?_) (fun c_19 => ?_)
    · skip
      exact Wp.ret (hQ (Int32.ofInt (0)) (by have hci : Int32.toInt (Int32.ofInt (0)) = 0 := ofI (by decide); omega) (by have hci : Int32.toInt (Int32.ofInt (0)) = 0 := ofI (by decide); first | omega | (dsimp only; omega)))
    · skip
      exact Wp.ret (hQ (Int32.ofInt (1)) (by have hci : Int32.toInt (Int32.ofInt (1)) = 1 := ofI (by decide); omega) (by have hci : Int32.toInt (Int32.ofInt (1)) = 1 := ofI (by decide); first | omega | (dsimp only; omega)))
set_option maxHeartbeats 4000000 in
set_option maxRecDepth 100000 in
theorem s_Mo_isSize_Z {P : List Nat} {K : Nat → Nat} {N : Nat} {O : WO} {I0 : WI} {J0 : WJ} (hN : 2147483648 ≤ N) (hV : IV P K I0 O) {a0 : Nat} (h0 : a0 ∈ P ∧ K a0 = 10) {x1 : Int32} (hMn : O a0 3 = none) {Q : Int32 → Prop} (hQ : ∀ (z : Int32), (z.toInt = 0 ∨ z.toInt = 1) → (Int32.toInt z = 0) → Q z) : Wp (F_Mo_isSize N O I0 J0 a0 x1) Q := by
  unfold F_Mo_isSize
  have r1 := rg x1
  have hV0 : SQ kP P K O I0 J0 I0 J0 := SQ.rf hV
  refine Wp.pos hMn ?_
  exact Wp.ret (hQ (Int32.ofInt (0)) (by have hci : Int32.toInt (Int32.ofInt (0)) = 0 := ofI (by decide); omega) (by have hci : Int32.toInt (Int32.ofInt (0)) = 0 := ofI (by decide); first | omega | (dsimp only; omega)))
set_option maxHeartbeats 4000000 in
set_option maxRecDepth 100000 in
theorem s_Mo_isSize_G {P : List Nat} {K : Nat → Nat} {N : Nat} {O : WO} {I0 : WI} {J0 : WJ} (hN : 2147483648 ≤ N) (hV : IV P K I0 O) {a0 : Nat} (h0 : a0 ∈ P ∧ K a0 = 10) {x1 : Int32} (hN3 : NN P K O a0 3 9) (hGM : GM I0 (rf O a0 3)) {Q : Int32 → Prop} (hQ : ∀ (z : Int32), (z.toInt = 0 ∨ z.toInt = 1) → (Int32.toInt z = 0 ∨ (0 ≤ Int32.toInt x1 ∧ Int32.toInt x1 ≤ 4)) → Q z) : Wp (F_Mo_isSize N O I0 J0 a0 x1) Q := by
  unfold F_Mo_isSize
  have r1 := rg x1
  have hMs : ¬ O a0 3 = none := by rw [hN3.1]; exact fun z => by cases z
  have hV0 : SQ kP P K O I0 J0 I0 J0 := SQ.rf hV
  refine Wp.neg hMs ?_
  refine Wp.ite (fun c_8 => ?_) (fun c_8 => ?_)
  · skip
    exact Wp.ret (hQ (Int32.ofInt (0)) (by have hci : Int32.toInt (Int32.ofInt (0)) = 0 := ofI (by decide); omega) (by have hci : Int32.toInt (Int32.ofInt (0)) = 0 := ofI (by decide); first | omega | (dsimp only; omega)))
  · skip
    have o_16 := hV0.1.2 (rf O a0 3) hN3.2.1 8
    rw [hN3.2.2] at o_16
    replace o_16 : 0 ≤ (I0 (rf O a0 3) 8).toInt ∧ (I0 (rf O a0 3) 8).toInt ≤ 5 := o_16
    refine Wp.ite (fun c_19 => ?_) (fun c_19 => ?_)
    · skip
      exact Wp.ret (hQ (Int32.ofInt (0)) (by have hci : Int32.toInt (Int32.ofInt (0)) = 0 := ofI (by decide); omega) (by have hci : Int32.toInt (Int32.ofInt (0)) = 0 := ofI (by decide); first | omega | (dsimp only; omega)))
    · skip
      exact Wp.ret (hQ (Int32.ofInt (1)) (by have hci : Int32.toInt (Int32.ofInt (1)) = 1 := ofI (by decide); omega) (by have hci : Int32.toInt (Int32.ofInt (1)) = 1 := ofI (by decide); first | omega | (dsimp only; omega)))
set_option maxHeartbeats 4000000 in
set_option maxRecDepth 100000 in
theorem s_Mo_isWhat_Z {P : List Nat} {K : Nat → Nat} {N : Nat} {O : WO} {I0 : WI} {J0 : WJ} (hN : 2147483648 ≤ N) (hV : IV P K I0 O) {a0 : Nat} (h0 : a0 ∈ P ∧ K a0 = 10) {x1 : Int32} {x2 : Int32} (hMn : O a0 3 = none) {Q : Int32 → Prop} (hQ : ∀ (z : Int32), (z.toInt = 0 ∨ z.toInt = 1) → (Int32.toInt z = 0) → Q z) : Wp (F_Mo_isWhat N O I0 J0 a0 x1 x2) Q := by
  unfold F_Mo_isWhat
  have r1 := rg x1
  have r2 := rg x2
  have hV0 : SQ kP P K O I0 J0 I0 J0 := SQ.rf hV
  refine Wp.pos hMn ?_
  exact Wp.ret (hQ (Int32.ofInt (0)) (by have hci : Int32.toInt (Int32.ofInt (0)) = 0 := ofI (by decide); omega) (by have hci : Int32.toInt (Int32.ofInt (0)) = 0 := ofI (by decide); first | omega | (dsimp only; omega)))
set_option maxHeartbeats 4000000 in
set_option maxRecDepth 100000 in
theorem s_Mo_isWhat_G {P : List Nat} {K : Nat → Nat} {N : Nat} {O : WO} {I0 : WI} {J0 : WJ} (hN : 2147483648 ≤ N) (hV : IV P K I0 O) {a0 : Nat} (h0 : a0 ∈ P ∧ K a0 = 10) {x1 : Int32} {x2 : Int32} (hN3 : NN P K O a0 3 9) (hGM : GM I0 (rf O a0 3)) {Q : Int32 → Prop} (hQ : ∀ (z : Int32), (z.toInt = 0 ∨ z.toInt = 1) → (Int32.toInt z = 0 ∨ (0 ≤ Int32.toInt x1 ∧ Int32.toInt x1 ≤ 11 ∧ 0 ≤ Int32.toInt x2 ∧ Int32.toInt x2 ≤ 6)) → Q z) : Wp (F_Mo_isWhat N O I0 J0 a0 x1 x2) Q := by
  unfold F_Mo_isWhat
  have r1 := rg x1
  have r2 := rg x2
  have hMs : ¬ O a0 3 = none := by rw [hN3.1]; exact fun z => by cases z
  have hV0 : SQ kP P K O I0 J0 I0 J0 := SQ.rf hV
  refine Wp.neg hMs ?_
  refine Wpc1 (s_Mo_in hN hV0.1  (fun z_11 b_11 p_11 => ?_))
  try dsimp only at p_11
  have hk1_11 : Int32.toInt (Int32.ofInt (0)) = 0 := ofI (by decide)
  have hk2_11 : Int32.toInt (Int32.ofInt (11)) = 11 := ofI (by decide)
  have rz_11 := rg z_11
  refine Wp.ite (fun c_14 => ?_) (fun c_14 => ?_)
  · skip
    exact Wp.ret (hQ (Int32.ofInt (0)) (by have hci : Int32.toInt (Int32.ofInt (0)) = 0 := ofI (by decide); omega) (by have hci : Int32.toInt (Int32.ofInt (0)) = 0 := ofI (by decide); first | omega | (dsimp only; omega)))
  · skip
    have o_23 := hV0.1.2 (rf O a0 3) hN3.2.1 8
    rw [hN3.2.2] at o_23
    replace o_23 : 0 ≤ (I0 (rf O a0 3) 8).toInt ∧ (I0 (rf O a0 3) 8).toInt ≤ 5 := o_23
    first | (have e_27 := t_add (x := (I0 (rf O a0 3) 8)) (y := (Int32.ofInt (1))) rfl (ofI (by decide)) (by omega)) | skip
    refine Wpc1 (s_Mo_in hN hV0.1  (fun z_28 b_28 p_28 => ?_))
    try dsimp only at p_28
    have hk1_28 : Int32.toInt (Int32.ofInt (0)) = 0 := ofI (by decide)
    have rz_28 := rg z_28
    refine Wp.ite (fun c_31 => ?_) (fun c_31 => ?_)
    · skip
      exact Wp.ret (hQ (Int32.ofInt (0)) (by have hci : Int32.toInt (Int32.ofInt (0)) = 0 := ofI (by decide); omega) (by have hci : Int32.toInt (Int32.ofInt (0)) = 0 := ofI (by decide); first | omega | (dsimp only; omega)))
    · skip
      exact Wp.ret (hQ (Int32.ofInt (1)) (by have hci : Int32.toInt (Int32.ofInt (1)) = 1 := ofI (by decide); omega) (by have hci : Int32.toInt (Int32.ofInt (1)) = 1 := ofI (by decide); first | omega | (dsimp only; omega)))
set_option maxHeartbeats 4000000 in
set_option maxRecDepth 100000 in
theorem s_Mo_sumOfS_G {P : List Nat} {K : Nat → Nat} {N : Nat} {O : WO} {I0 : WI} {J0 : WJ} (hN : 2147483648 ≤ N) (hV : IV P K I0 O) {a0 : Nat} (h0 : a0 ∈ P ∧ K a0 = 10) {a1 : Nat} (h1 : a1 ∈ P ∧ K a1 = 31) {x2 : Int32} (hN3 : NN P K O a0 3 9) (hGM : GM I0 (rf O a0 3)) (pr0 : 0 ≤ Int32.toInt x2 ∧ Int32.toInt x2 ≤ 30) {Q : Int32 → Prop} (hQ : ∀ (z : Int32), True → Q z) : Wp (F_Mo_sumOfS N O I0 J0 a0 a1 x2) Q := by
  unfold F_Mo_sumOfS
  have r2 := rg x2
  have hMs : ¬ O a0 3 = none := by rw [hN3.1]; exact fun z => by cases z
  have hV0 : SQ kP P K O I0 J0 I0 J0 := SQ.rf hV
  have lp_5 : ∀ (m_5 : Nat) (x3_5 : Int32) (x4_5 : Int32), Int.toNat (5 - (x4_5).toInt) < m_5 → (0 ≤ Int32.toInt x4_5 ∧ Int32.toInt x4_5 ≤ 5) → Wp (lp (B_Mo_sumOfS_5 N O (a0) (a1) (x2) (I0)) (fun _ _ => none) m_5 x3_5 x4_5) Q := by
    intro m_5
    induction m_5 with
    | zero => intro x3_5 x4_5 hm; exact absurd hm (Nat.not_lt_zero _)
    | succ m_5 ih_5 =>
    intro x3_5 x4_5 hm_5 iv0_5 
    have rg3_5 := rg x3_5
    have rg4_5 := rg x4_5
    show Wp (B_Mo_sumOfS_5 N O (a0) (a1) (x2) (I0) (lp (B_Mo_sumOfS_5 N O (a0) (a1) (x2) (I0)) (fun _ _ => none) m_5) x3_5 x4_5) Q
    unfold B_Mo_sumOfS_5
    have o_11 := hV0.1.2 (rf O a0 3) hN3.2.1 8
    rw [hN3.2.2] at o_11
    replace o_11 : 0 ≤ (I0 (rf O a0 3) 8).toInt ∧ (I0 (rf O a0 3) 8).toInt ≤ 5 := o_11
    refine Wp.ite (fun c_14 => ?_) (fun c_14 => ?_)
    · skip
      exact Wp.ret (hQ x3_5 trivial)
    · skip
      first | (have e_22 := t_add (x := x2) (y := x4_5) rfl rfl (by omega)) | skip
      refine Wp.pos (by omega) ?_
      first | (have e_24 := t_add (x := x3_5) (y := (I0 a1 ((x2 + x4_5)).toInt.toNat)) rfl rfl (by omega)) | skip
      refine Wp_lb (fun v3_25 ev_25 => ?_)
      have ei_25 := congrArg Int32.toInt ev_25
      have rv_25 := rg v3_25
      refine Wp_lb (fun v4_26 ev_26 => ?_)
      have rv_26 := rg v4_26
      first | (have e_26 : v4_26.toInt = (x4_5).toInt + 1 := by rw [ev_26]; exact t_add rfl (ofI (by decide)) (by omega)) | skip
      clear ev_26
      exact ih_5 (v3_25) (v4_26) (by omega) (by omega) 
  exact lp_5 N ((Int32.ofInt (0))) ((Int32.ofInt (0))) (by have hci0 : Int32.toInt (Int32.ofInt (0)) = 0 := ofI (by decide); omega) (by have hci0 : Int32.toInt (Int32.ofInt (0)) = 0 := ofI (by decide); omega) 
set_option maxHeartbeats 4000000 in
set_option maxRecDepth 100000 in
theorem s_Mo_sumOfT_G {P : List Nat} {K : Nat → Nat} {N : Nat} {O : WO} {I0 : WI} {J0 : WJ} (hN : 2147483648 ≤ N) (hV : IV P K I0 O) {a0 : Nat} (h0 : a0 ∈ P ∧ K a0 = 10) {a1 : Nat} (h1 : a1 ∈ P ∧ K a1 = 49) {x2 : Int32} (hN3 : NN P K O a0 3 9) (hGM : GM I0 (rf O a0 3)) (pr0 : 0 ≤ Int32.toInt x2 ∧ Int32.toInt x2 ≤ 30) {Q : Int32 → Prop} (hQ : ∀ (z : Int32), True → Q z) : Wp (F_Mo_sumOfT N O I0 J0 a0 a1 x2) Q := by
  unfold F_Mo_sumOfT
  have r2 := rg x2
  have hMs : ¬ O a0 3 = none := by rw [hN3.1]; exact fun z => by cases z
  have hV0 : SQ kP P K O I0 J0 I0 J0 := SQ.rf hV
  have lp_5 : ∀ (m_5 : Nat) (x3_5 : Int32) (x4_5 : Int32), Int.toNat (5 - (x4_5).toInt) < m_5 → (0 ≤ Int32.toInt x4_5 ∧ Int32.toInt x4_5 ≤ 5) → Wp (lp (B_Mo_sumOfT_5 N O (a0) (a1) (x2) (I0)) (fun _ _ => none) m_5 x3_5 x4_5) Q := by
    intro m_5
    induction m_5 with
    | zero => intro x3_5 x4_5 hm; exact absurd hm (Nat.not_lt_zero _)
    | succ m_5 ih_5 =>
    intro x3_5 x4_5 hm_5 iv0_5 
    have rg3_5 := rg x3_5
    have rg4_5 := rg x4_5
    show Wp (B_Mo_sumOfT_5 N O (a0) (a1) (x2) (I0) (lp (B_Mo_sumOfT_5 N O (a0) (a1) (x2) (I0)) (fun _ _ => none) m_5) x3_5 x4_5) Q
    unfold B_Mo_sumOfT_5
    have o_11 := hV0.1.2 (rf O a0 3) hN3.2.1 8
    rw [hN3.2.2] at o_11
    replace o_11 : 0 ≤ (I0 (rf O a0 3) 8).toInt ∧ (I0 (rf O a0 3) 8).toInt ≤ 5 := o_11
    refine Wp.ite (fun c_14 => ?_) (fun c_14 => ?_)
    · skip
      exact Wp.ret (hQ x3_5 trivial)
    · skip
      first | (have e_22 := t_add (x := x2) (y := x4_5) rfl rfl (by omega)) | skip
      refine Wp.pos (by omega) ?_
      first | (have e_24 := t_add (x := x3_5) (y := (I0 a1 ((x2 + x4_5)).toInt.toNat)) rfl rfl (by omega)) | skip
      refine Wp_lb (fun v3_25 ev_25 => ?_)
      have ei_25 := congrArg Int32.toInt ev_25
      have rv_25 := rg v3_25
      refine Wp_lb (fun v4_26 ev_26 => ?_)
      have rv_26 := rg v4_26
      first | (have e_26 : v4_26.toInt = (x4_5).toInt + 1 := by rw [ev_26]; exact t_add rfl (ofI (by decide)) (by omega)) | skip
      clear ev_26
      exact ih_5 (v3_25) (v4_26) (by omega) (by omega) 
  exact lp_5 N ((Int32.ofInt (0))) ((Int32.ofInt (0))) (by have hci0 : Int32.toInt (Int32.ofInt (0)) = 0 := ofI (by decide); omega) (by have hci0 : Int32.toInt (Int32.ofInt (0)) = 0 := ofI (by decide); omega) 
set_option maxHeartbeats 4000000 in
set_option maxRecDepth 100000 in
theorem s_Mo_sumOfU_G {P : List Nat} {K : Nat → Nat} {N : Nat} {O : WO} {I0 : WI} {J0 : WJ} (hN : 2147483648 ≤ N) (hV : IV P K I0 O) {a0 : Nat} (h0 : a0 ∈ P ∧ K a0 = 10) {a1 : Nat} (h1 : a1 ∈ P ∧ K a1 = 50) {x2 : Int32} (hN3 : NN P K O a0 3 9) (hGM : GM I0 (rf O a0 3)) (pr0 : 0 ≤ Int32.toInt x2 ∧ Int32.toInt x2 ≤ 30) {Q : Int32 → Prop} (hQ : ∀ (z : Int32), True → Q z) : Wp (F_Mo_sumOfU N O I0 J0 a0 a1 x2) Q := by
  unfold F_Mo_sumOfU
  have r2 := rg x2
  have hMs : ¬ O a0 3 = none := by rw [hN3.1]; exact fun z => by cases z
  have hV0 : SQ kP P K O I0 J0 I0 J0 := SQ.rf hV
  have lp_5 : ∀ (m_5 : Nat) (x3_5 : Int32) (x4_5 : Int32), Int.toNat (5 - (x4_5).toInt) < m_5 → (0 ≤ Int32.toInt x4_5 ∧ Int32.toInt x4_5 ≤ 5) → Wp (lp (B_Mo_sumOfU_5 N O (a0) (a1) (x2) (I0)) (fun _ _ => none) m_5 x3_5 x4_5) Q := by
    intro m_5
    induction m_5 with
    | zero => intro x3_5 x4_5 hm; exact absurd hm (Nat.not_lt_zero _)
    | succ m_5 ih_5 =>
    intro x3_5 x4_5 hm_5 iv0_5 
    have rg3_5 := rg x3_5
    have rg4_5 := rg x4_5
    show Wp (B_Mo_sumOfU_5 N O (a0) (a1) (x2) (I0) (lp (B_Mo_sumOfU_5 N O (a0) (a1) (x2) (I0)) (fun _ _ => none) m_5) x3_5 x4_5) Q
    unfold B_Mo_sumOfU_5
    have o_11 := hV0.1.2 (rf O a0 3) hN3.2.1 8
    rw [hN3.2.2] at o_11
    replace o_11 : 0 ≤ (I0 (rf O a0 3) 8).toInt ∧ (I0 (rf O a0 3) 8).toInt ≤ 5 := o_11
    refine Wp.ite (fun c_14 => ?_) (fun c_14 => ?_)
    · skip
      exact Wp.ret (hQ x3_5 trivial)
    · skip
      first | (have e_22 := t_add (x := x2) (y := x4_5) rfl rfl (by omega)) | skip
      refine Wp.pos (by omega) ?_
      first | (have e_24 := t_add (x := x3_5) (y := (I0 a1 ((x2 + x4_5)).toInt.toNat)) rfl rfl (by omega)) | skip
      refine Wp_lb (fun v3_25 ev_25 => ?_)
      have ei_25 := congrArg Int32.toInt ev_25
      have rv_25 := rg v3_25
      refine Wp_lb (fun v4_26 ev_26 => ?_)
      have rv_26 := rg v4_26
      first | (have e_26 : v4_26.toInt = (x4_5).toInt + 1 := by rw [ev_26]; exact t_add rfl (ofI (by decide)) (by omega)) | skip
      clear ev_26
      exact ih_5 (v3_25) (v4_26) (by omega) (by omega) 
  exact lp_5 N ((Int32.ofInt (0))) ((Int32.ofInt (0))) (by have hci0 : Int32.toInt (Int32.ofInt (0)) = 0 := ofI (by decide); omega) (by have hci0 : Int32.toInt (Int32.ofInt (0)) = 0 := ofI (by decide); omega) 
set_option maxHeartbeats 4000000 in
set_option maxRecDepth 100000 in
theorem s_Mo_effectOf_G {P : List Nat} {K : Nat → Nat} {N : Nat} {O : WO} {I0 : WI} {J0 : WJ} (hN : 2147483648 ≤ N) (hV : IV P K I0 O) {a0 : Nat} (h0 : a0 ∈ P ∧ K a0 = 10) {x1 : Int32} {x2 : Int32} {x3 : Int32} (hN3 : NN P K O a0 3 9) (hGM : GM I0 (rf O a0 3)) (pr0 : 0 ≤ Int32.toInt x3 ∧ Int32.toInt x3 ≤ 3) {Q : Int32 → Prop} (hQ : ∀ (z : Int32), True → Q z) : Wp (F_Mo_effectOf N O I0 J0 a0 x1 x2 x3) Q := by
  unfold F_Mo_effectOf
  have r1 := rg x1
  have r2 := rg x2
  have r3 := rg x3
  have hMs : ¬ O a0 3 = none := by rw [hN3.1]; exact fun z => by cases z
  have hV0 : SQ kP P K O I0 J0 I0 J0 := SQ.rf hV
  first | (have e_3 := t_mul (x := (Int32.ofInt (100))) (y := x1) (ofI (by decide)) rfl (by omega)) | skip
  have gm_8 : 1 ≤ (I0 (rf O a0 3) 0).toInt := (hGM.keep (fun k => (hV0.2 (rf O a0 3) k (by rw [hN3.2.2]; rfl)).1)).1
  refine Wp.pos (by omega) ?_
  first | (have e_14 := t_sub (x := (((Int32.ofInt (100)) * x1) / (I0 (rf O a0 3) 0))) (y := (Int32.ofInt (50))) rfl (ofI (by decide)) (by omega)) | skip
  refine Wp_lb (fun v4_15 ev_15 => ?_)
  have ei_15 := congrArg Int32.toInt ev_15
  have rv_15 := rg v4_15
  have gm_21 : 1 ≤ (I0 (rf O a0 3) 4).toInt := (hGM.keep (fun k => (hV0.2 (rf O a0 3) k (by rw [hN3.2.2]; rfl)).1)).2.1
  first | (have e_25 := tdivF (x := (I0 (rf O a0 3) 4)) (y := (Int32.ofInt (2))) rfl (ofI (by decide)) (by decide)) | skip
  refine Wp_lb (fun v5_26 ev_26 => ?_)
  have ei_26 := congrArg Int32.toInt ev_26
  have rv_26 := rg v5_26
  have gm_32 : 1 ≤ (I0 (rf O a0 3) 4).toInt := (hGM.keep (fun k => (hV0.2 (rf O a0 3) k (by rw [hN3.2.2]; rfl)).1)).2.1
  first | (have e_36 := t_sub (x := (I0 (rf O a0 3) 4)) (y := x2) rfl rfl (by omega)) | skip
  refine Wp_jq (fun k_56 => ∀ (s0_56 : Int32), Wp (k_56 s0_56) Q) (fun s0_56   => ?_) (fun k_56 hk_56 => ?_)
  · skip
    have rgs_s0_56 := rg s0_56
    refine Wp_jq (fun k_73 => ∀ (s0_73 : Int32), Wp (k_73 s0_73) Q) (fun s0_73   => ?_) (fun k_73 hk_73 => ?_)
    · skip
      have rgs_s0_73 := rg s0_73
      first | (have e_73 := t_sub (x := (Int32.ofInt (100))) (y := s0_73) (ofI (by decide)) rfl (by omega)) | skip
      have gm_81 : 1 ≤ (I0 (rf O a0 3) 4).toInt := (hGM.keep (fun k => (hV0.2 (rf O a0 3) k (by rw [hN3.2.2]; rfl)).1)).2.1
      refine Wp.pos (by omega) ?_
      refine Wp_lb (fun v7_85 ev_85 => ?_)
      have ei_85 := congrArg Int32.toInt ev_85
      have rv_85 := rg v7_85
      first | (have e_91 := t_mul (x := (Int32.ofInt (10))) (y := v7_85) (ofI (by decide)) rfl (by omega)) | skip
      have t_98 := rf_ok hV.1 hN3.2 (show sp 9 14 = some 44 from rfl)
      refine Wp.pos (by omega) ?_
      have o_102 := hV0.1.2 (rf O (rf O a0 3) 14) t_98.1 (x3).toInt.toNat
      rw [t_98.2] at o_102
      replace o_102 : 0 ≤ (I0 (rf O (rf O a0 3) 14) (x3).toInt.toNat).toInt ∧ (I0 (rf O (rf O a0 3) 14) (x3).toInt.toNat).toInt ≤ 9 := o_102
      first | (have e_103 := t_add (x := (Int32.ofInt (9))) (y := (I0 (rf O (rf O a0 3) 14) (x3).toInt.toNat)) (ofI (by decide)) rfl (by omega)) | skip
      refine Wp.pos (by omega) ?_
      exact Wp.ret (hQ (((Int32.ofInt (10)) * v7_85) / ((Int32.ofInt (9)) + (I0 (rf O (rf O a0 3) 14) (x3).toInt.toNat))) trivial)
    refine Wp.ite (fun c_62 => ?_) (fun c_62 => ?_)
    · skip
      exact hk_73 (v4_15)  
    · skip
      exact hk_73 ((-v4_15))  
  refine Wp.ite (fun c_39 => ?_) (fun c_39 => ?_)
  · skip
    have gm_51 : 1 ≤ (I0 (rf O a0 3) 4).toInt := (hGM.keep (fun k => (hV0.2 (rf O a0 3) k (by rw [hN3.2.2]; rfl)).1)).2.1
    first | (have e_55 := t_sub (x := (I0 (rf O a0 3) 4)) (y := x2) rfl rfl (by omega)) | skip
    exact hk_56 (((I0 (rf O a0 3) 4) - x2))  
  · skip
    exact hk_56 (v5_26)  
set_option maxHeartbeats 4000000 in
set_option maxRecDepth 100000 in
theorem s_Mo_passes_G {P : List Nat} {K : Nat → Nat} {N : Nat} {O : WO} {I0 : WI} {J0 : WJ} (hN : 2147483648 ≤ N) (hV : IV P K I0 O) {a0 : Nat} (h0 : a0 ∈ P ∧ K a0 = 10) {x1 : Int32} {x2 : Int32} (hN3 : NN P K O a0 3 9) (hGM : GM I0 (rf O a0 3)) {Q : Int32 → Prop} (hQ : ∀ (z : Int32), True → Q z) : Wp (F_Mo_passes N O I0 J0 a0 x1 x2) Q := by
  unfold F_Mo_passes
  have r1 := rg x1
  have r2 := rg x2
  have hMs : ¬ O a0 3 = none := by rw [hN3.1]; exact fun z => by cases z
  have hV0 : SQ kP P K O I0 J0 I0 J0 := SQ.rf hV
  refine Wp.ite (fun c_8 => ?_) (fun c_8 => ?_)
  · skip
    refine Wp.ite (fun c_25 => ?_) (fun c_25 => ?_)
    · skip
      exact Wp.ret (hQ (x2 * (I0 (rf O a0 3) 3)) trivial)
    · skip
      exact Wp.ret (hQ (Int32.ofInt (100)) trivial)
  · skip
    exact Wp.ret (hQ (Int32.ofInt (100)) trivial)
set_option maxHeartbeats 4000000 in
set_option maxRecDepth 100000 in
theorem s_Mo_digsS_G {P : List Nat} {K : Nat → Nat} {N : Nat} {O : WO} {I0 : WI} {J0 : WJ} (hN : 2147483648 ≤ N) (hV : IV P K I0 O) {a0 : Nat} (h0 : a0 ∈ P ∧ K a0 = 10) {a1 : Nat} (h1 : a1 ∈ P ∧ K a1 = 31) (hN3 : NN P K O a0 3 9) (hGM : GM I0 (rf O a0 3)) {Q : WI → Prop} (hQ : ∀ (I_ : WI), IV P K I_ O → FQ mX31 K I0 J0 I_ J0 → ((I_ a1 27).toInt = (I0 a1 27).toInt) → Q I_) : Wp (F_Mo_digsS N O I0 J0 a0 a1) Q := by
  unfold F_Mo_digsS
  have hMs : ¬ O a0 3 = none := by rw [hN3.1]; exact fun z => by cases z
  have hV0 : SQ mX31 P K O I0 J0 I0 J0 := SQ.rf hV
  have lp_2 : ∀ (m_2 : Nat) (x2_2 : Int32) (I_2 : WI), Int.toNat (5 - (x2_2).toInt) < m_2 → (0 ≤ Int32.toInt x2_2 ∧ Int32.toInt x2_2 ≤ 5) → ((I_2 a1 27).toInt = (I0 a1 27).toInt) → SQ mX31 P K O I0 J0 I_2 J0 → Wp (lp (B_Mo_digsS_2 N O (a0) (a1)) (fun _ _ => none) m_2 x2_2 I_2) Q := by
    intro m_2
    induction m_2 with
    | zero => intro x2_2 I_2 hm; exact absurd hm (Nat.not_lt_zero _)
    | succ m_2 ih_2 =>
    intro x2_2 I_2 hm_2 iv0_2 iv1_2 hV_2
    have rg2_2 := rg x2_2
    show Wp (B_Mo_digsS_2 N O (a0) (a1) (lp (B_Mo_digsS_2 N O (a0) (a1)) (fun _ _ => none) m_2) x2_2 I_2) Q
    unfold B_Mo_digsS_2
    have o_7 := hV_2.1.2 (rf O a0 3) hN3.2.1 8
    rw [hN3.2.2] at o_7
    replace o_7 : 0 ≤ (I_2 (rf O a0 3) 8).toInt ∧ (I_2 (rf O a0 3) 8).toInt ≤ 5 := o_7
    refine Wp.ite (fun c_10 => ?_) (fun c_10 => ?_)
    · skip
      exact Wp.ret (hQ I_2 hV_2.1 hV_2.2 (by first | omega | (dsimp only; omega)))
    · skip
      first | (have e_16 := t_add (x := (Int32.ofInt (0))) (y := x2_2) (ofI (by decide)) rfl (by omega)) | skip
      refine Wp.pos (by omega) ?_
      first | (have e_20 := tdivF (x := (I_2 a1 (((Int32.ofInt (0)) + x2_2)).toInt.toNat)) (y := (Int32.ofInt (10))) rfl (ofI (by decide)) (by decide)) | skip
      first | (have e_22 := t_add (x := ((I_2 a1 (((Int32.ofInt (0)) + x2_2)).toInt.toNat) / (Int32.ofInt (10)))) (y := (Int32.ofInt (1))) rfl (ofI (by decide)) (by omega)) | skip
      first | (have e_26 := t_add (x := (Int32.ofInt (0))) (y := x2_2) (ofI (by decide)) rfl (by omega)) | skip
      refine Wp.pos (by omega) ?_
      refine Wp_jq (fun k_49 => ∀ (s0_49 : Int32), Wp (k_49 s0_49) Q) (fun s0_49   => ?_) (fun k_49 hk_49 => ?_)
      · skip
        have rgs_s0_49 := rg s0_49
        first | (have e_53 := t_add (x := (Int32.ofInt (0))) (y := x2_2) (ofI (by decide)) rfl (by omega)) | skip
        refine Wp.pos (by omega) ?_
        first | (have e_57 := t_sub (x := (I_2 a1 (((Int32.ofInt (0)) + x2_2)).toInt.toNat)) (y := s0_49) rfl rfl (by omega)) | skip
        refine Wp.pos (by omega) ?_
        refine Wp_lb (fun I1 eI1 => ?_)
        have hV1 : SQ mX31 P K O I0 J0 I1 J0 := by rw [eI1]; exact hV_2.putI h1.2 rfl (okS (by decide) (by omega) (by omega))
        have tk1_a1_27 : (I1 a1 27).toInt = (I_2 a1 27).toInt := by rw [eI1, up2_ne _ _ (fun z => by omega)]
        first | (have e_65 := t_add (x := (I1 a1 21)) (y := s0_49) rfl rfl (by omega)) | skip
        refine Wp_lb (fun I2 eI2 => ?_)
        have hV2 : SQ mX31 P K O I0 J0 I2 J0 := by rw [eI2]; exact hV1.putI h1.2 rfl trivial
        have tk2_a1_27 : (I2 a1 27).toInt = (I1 a1 27).toInt := by rw [eI2, up2_ne _ _ (fun z => absurd z.2 (by decide))]
        refine Wp_lb (fun v2_67 ev_67 => ?_)
        have rv_67 := rg v2_67
        first | (have e_67 : v2_67.toInt = (x2_2).toInt + 1 := by rw [ev_67]; exact t_add rfl (ofI (by decide)) (by omega)) | skip
        clear ev_67
        exact ih_2 (v2_67) I2 (by omega) (by omega) (by omega) hV2
      refine Wp.ite (fun c_28 => ?_) (fun c_28 => ?_)
      · skip
        first | (have e_42 := t_add (x := (Int32.ofInt (0))) (y := x2_2) (ofI (by decide)) rfl (by omega)) | skip
        refine Wp.pos (by omega) ?_
        first | (have e_46 := tdivF (x := (I_2 a1 (((Int32.ofInt (0)) + x2_2)).toInt.toNat)) (y := (Int32.ofInt (10))) rfl (ofI (by decide)) (by decide)) | skip
        first | (have e_48 := t_add (x := ((I_2 a1 (((Int32.ofInt (0)) + x2_2)).toInt.toNat) / (Int32.ofInt (10)))) (y := (Int32.ofInt (1))) rfl (ofI (by decide)) (by omega)) | skip
        exact hk_49 ((((I_2 a1 (((Int32.ofInt (0)) + x2_2)).toInt.toNat) / (Int32.ofInt (10))) + (Int32.ofInt (1))))  
      · skip
        first | (have e_34 := t_add (x := (Int32.ofInt (0))) (y := x2_2) (ofI (by decide)) rfl (by omega)) | skip
        refine Wp.pos (by omega) ?_
        exact hk_49 ((I_2 a1 (((Int32.ofInt (0)) + x2_2)).toInt.toNat))  
  exact lp_2 N ((Int32.ofInt (0))) I0 (by have hci0 : Int32.toInt (Int32.ofInt (0)) = 0 := ofI (by decide); omega) (by have hci0 : Int32.toInt (Int32.ofInt (0)) = 0 := ofI (by decide); omega) (by omega) hV0
set_option maxHeartbeats 4000000 in
set_option maxRecDepth 100000 in
theorem s_Mo_grindsS_G {P : List Nat} {K : Nat → Nat} {N : Nat} {O : WO} {I0 : WI} {J0 : WJ} (hN : 2147483648 ≤ N) (hV : IV P K I0 O) {a0 : Nat} (h0 : a0 ∈ P ∧ K a0 = 10) {a1 : Nat} (h1 : a1 ∈ P ∧ K a1 = 31) (hN3 : NN P K O a0 3 9) (hGM : GM I0 (rf O a0 3)) {Q : WI → Prop} (hQ : ∀ (I_ : WI), IV P K I_ O → FQ mX31 K I0 J0 I_ J0 → ((I_ a1 27).toInt = (I0 a1 27).toInt) → Q I_) : Wp (F_Mo_grindsS N O I0 J0 a0 a1) Q := by
  unfold F_Mo_grindsS
  have hMs : ¬ O a0 3 = none := by rw [hN3.1]; exact fun z => by cases z
  have hV0 : SQ mX31 P K O I0 J0 I0 J0 := SQ.rf hV
  have o_15 := hV0.1.2 a1 h1.1 36
  rw [h1.2] at o_15
  replace o_15 : 0 ≤ (I0 a1 36).toInt ∧ (I0 a1 36).toInt ≤ 3 := o_15
  refine Wpc1 (s_Mo_effectOf_G hN hV0.1 h0 hN3 (hGM.keep (fun k => (hV0.2 (rf O a0 3) k (by rw [hN3.2.2]; rfl)).1)) (by omega) (fun z_16 p_16 => ?_))
  have rz_16 := rg z_16
  refine Wp_lb (fun I2 eI2 => ?_)
  have hV2 : SQ mX31 P K O I0 J0 I2 J0 := by rw [eI2]; exact hV0.putI h1.2 rfl trivial
  have tk2_a1_27 : (I2 a1 27).toInt = (I0 a1 27).toInt := by rw [eI2, up2_ne _ _ (fun z => absurd z.2 (by decide))]
  first | (have e_34 := tdivF (x := ((I2 a1 28) * (I2 a1 29))) (y := (Int32.ofInt (100))) rfl (ofI (by decide)) (by decide)) | skip
  refine Wp_lb (fun I3 eI3 => ?_)
  have hV3 : SQ mX31 P K O I0 J0 I3 J0 := by rw [eI3]; exact hV2.putI h1.2 rfl trivial
  have tk3_a1_27 : (I3 a1 27).toInt = (I2 a1 27).toInt := by rw [eI3, up2_ne _ _ (fun z => absurd z.2 (by decide))]
  have o_40 := hV3.1.2 (rf O a0 3) hN3.2.1 8
  rw [hN3.2.2] at o_40
  replace o_40 : 0 ≤ (I3 (rf O a0 3) 8).toInt ∧ (I3 (rf O a0 3) 8).toInt ≤ 5 := o_40
  first | (have e_44 := t_sub (x := (I3 (rf O a0 3) 8)) (y := (Int32.ofInt (2))) rfl (ofI (by decide)) (by omega)) | skip
  refine Wp_lb (fun v2_45 ev_45 => ?_)
  have ei_45 := congrArg Int32.toInt ev_45
  have rv_45 := rg v2_45
  have lp_46 : ∀ (m_46 : Nat) (x2_46 : Int32) (I_46 : WI), Int.toNat ((x2_46).toInt + 3) < m_46 → (-2 ≤ Int32.toInt x2_46 ∧ Int32.toInt x2_46 ≤ 3) → ((I_46 a1 27).toInt = (I0 a1 27).toInt) → SQ mX31 P K O I0 J0 I_46 J0 → Wp (lp (B_Mo_grindsS_46 N O (a0) (a1) (J0)) (fun _ _ => none) m_46 x2_46 I_46) Q := by
    intro m_46
    induction m_46 with
    | zero => intro x2_46 I_46 hm; exact absurd hm (Nat.not_lt_zero _)
    | succ m_46 ih_46 =>
    intro x2_46 I_46 hm_46 iv0_46 iv1_46 hV_46
    have rg2_46 := rg x2_46
    show Wp (B_Mo_grindsS_46 N O (a0) (a1) (J0) (lp (B_Mo_grindsS_46 N O (a0) (a1) (J0)) (fun _ _ => none) m_46) x2_46 I_46) Q
    unfold B_Mo_grindsS_46
    refine Wp.ite (fun c_47 => ?_) (fun c_47 => ?_)
    · skip
      have lp_153 : ∀ (m_153 : Nat) (x2_153 : Int32) (I_153 : WI), Int.toNat (5 - (x2_153).toInt) < m_153 → (0 ≤ Int32.toInt x2_153 ∧ Int32.toInt x2_153 ≤ 5) → ((I_153 a1 27).toInt = (I0 a1 27).toInt) → SQ mX31 P K O I0 J0 I_153 J0 → Wp (lp (B_Mo_grindsS_153 N O (a0) (a1) (J0)) (fun _ _ => none) m_153 x2_153 I_153) Q := by
        intro m_153
        induction m_153 with
        | zero => intro x2_153 I_153 hm; exact absurd hm (Nat.not_lt_zero _)
        | succ m_153 ih_153 =>
        intro x2_153 I_153 hm_153 iv0_153 iv1_153 hV_153
        have rg2_153 := rg x2_153
        show Wp (B_Mo_grindsS_153 N O (a0) (a1) (J0) (lp (B_Mo_grindsS_153 N O (a0) (a1) (J0)) (fun _ _ => none) m_153) x2_153 I_153) Q
        unfold B_Mo_grindsS_153
        have o_158 := hV_153.1.2 (rf O a0 3) hN3.2.1 8
        rw [hN3.2.2] at o_158
        replace o_158 : 0 ≤ (I_153 (rf O a0 3) 8).toInt ∧ (I_153 (rf O a0 3) 8).toInt ≤ 5 := o_158
        refine Wp.ite (fun c_161 => ?_) (fun c_161 => ?_)
        · skip
          exact Wp.ret (hQ I_153 hV_153.1 hV_153.2 (by first | omega | (dsimp only; omega)))
        · skip
          first | (have e_167 := t_add (x := (Int32.ofInt (0))) (y := x2_153) (ofI (by decide)) rfl (by omega)) | skip
          refine Wp.pos (by omega) ?_
          first | (have e_177 := t_mul (x := (Int32.ofInt (10))) (y := (I_153 a1 35)) (ofI (by decide)) rfl (by omega)) | skip
          first | (have e_178 := t_add (x := (Int32.ofInt (20))) (y := ((Int32.ofInt (10)) * (I_153 a1 35))) (ofI (by decide)) rfl (by omega)) | skip
          first | (have e_182 := tdivF (x := ((I_153 a1 (((Int32.ofInt (0)) + x2_153)).toInt.toNat) * ((Int32.ofInt (20)) + ((Int32.ofInt (10)) * (I_153 a1 35))))) (y := (Int32.ofInt (100))) rfl (ofI (by decide)) (by decide)) | skip
          refine Wp_lb (fun v3_183 ev_183 => ?_)
          have ei_183 := congrArg Int32.toInt ev_183
          have rv_183 := rg v3_183
          refine Wpc1 (s_Mo_passes_G hN hV_153.1 h0 hN3 (hGM.keep (fun k => (hV_153.2 (rf O a0 3) k (by rw [hN3.2.2]; rfl)).1)) (fun z_191 p_191 => ?_))
          have rz_191 := rg z_191
          first | (have e_197 := tdivF (x := (v3_183 * z_191)) (y := (Int32.ofInt (100))) rfl (ofI (by decide)) (by decide)) | skip
          refine Wp_lb (fun v4_198 ev_198 => ?_)
          have ei_198 := congrArg Int32.toInt ev_198
          have rv_198 := rg v4_198
          first | (have e_203 := t_add (x := (Int32.ofInt (0))) (y := x2_153) (ofI (by decide)) rfl (by omega)) | skip
          refine Wp.pos (by omega) ?_
          first | (have e_207 := t_sub (x := (I_153 a1 (((Int32.ofInt (0)) + x2_153)).toInt.toNat)) (y := v3_183) rfl rfl (by omega)) | skip
          refine Wp.pos (by omega) ?_
          refine Wp_lb (fun I5 eI5 => ?_)
          have hV5 : SQ mX31 P K O I0 J0 I5 J0 := by rw [eI5]; exact hV_153.putI h1.2 rfl (okS (by decide) (by omega) (by omega))
          have tk5_a1_27 : (I5 a1 27).toInt = (I_153 a1 27).toInt := by rw [eI5, up2_ne _ _ (fun z => by omega)]
          first | (have e_213 := t_add (x := (Int32.ofInt (10))) (y := x2_153) (ofI (by decide)) rfl (by omega)) | skip
          refine Wp.pos (by omega) ?_
          refine Wp_lb (fun I6 eI6 => ?_)
          have hV6 : SQ mX31 P K O I0 J0 I6 J0 := by rw [eI6]; exact hV5.putI h1.2 rfl (okS (by decide) (by omega) (by omega))
          have tk6_a1_27 : (I6 a1 27).toInt = (I5 a1 27).toInt := by rw [eI6, up2_ne _ _ (fun z => by omega)]
          first | (have e_221 := t_add (x := (Int32.ofInt (15))) (y := x2_153) (ofI (by decide)) rfl (by omega)) | skip
          refine Wp.pos (by omega) ?_
          first | (have e_226 := t_add (x := (I6 a1 (((Int32.ofInt (15)) + x2_153)).toInt.toNat)) (y := v4_198) rfl rfl (by omega)) | skip
          refine Wp.pos (by omega) ?_
          refine Wp_lb (fun I7 eI7 => ?_)
          have hV7 : SQ mX31 P K O I0 J0 I7 J0 := by rw [eI7]; exact hV6.putI h1.2 rfl (okS (by decide) (by omega) (by omega))
          have tk7_a1_27 : (I7 a1 27).toInt = (I6 a1 27).toInt := by rw [eI7, up2_ne _ _ (fun z => by omega)]
          first | (have e_231 := t_add (x := (Int32.ofInt (5))) (y := x2_153) (ofI (by decide)) rfl (by omega)) | skip
          first | (have e_235 := t_sub (x := v3_183) (y := v4_198) rfl rfl (by omega)) | skip
          refine Wp.pos (by omega) ?_
          refine Wp_lb (fun I8 eI8 => ?_)
          have hV8 : SQ mX31 P K O I0 J0 I8 J0 := by rw [eI8]; exact hV7.putI h1.2 rfl (okS (by decide) (by omega) (by omega))
          have tk8_a1_27 : (I8 a1 27).toInt = (I7 a1 27).toInt := by rw [eI8, up2_ne _ _ (fun z => by omega)]
          refine Wp_lb (fun v2_237 ev_237 => ?_)
          have rv_237 := rg v2_237
          first | (have e_237 : v2_237.toInt = (x2_153).toInt + 1 := by rw [ev_237]; exact t_add rfl (ofI (by decide)) (by omega)) | skip
          clear ev_237
          exact ih_153 (v2_237) I8 (by omega) (by omega) (by omega) hV8
      exact lp_153 N ((Int32.ofInt (0))) I_46 (by have hci0 : Int32.toInt (Int32.ofInt (0)) = 0 := ofI (by decide); omega) (by have hci0 : Int32.toInt (Int32.ofInt (0)) = 0 := ofI (by decide); omega) (by omega) hV_46
    · skip
      first | (have e_53 := t_add (x := (Int32.ofInt (0))) (y := x2_46) (ofI (by decide)) rfl (by omega)) | skip
      refine Wp.pos (by omega) ?_
      have t_59 := rf_ok hV.1 hN3.2 (show sp 9 12 = some 43 from rfl)
      refine Wp.pos (by omega) ?_
      first | (have e_73 := tdivF (x := (((I_46 a1 (((Int32.ofInt (0)) + x2_46)).toInt.toNat) * (I_46 (rf O (rf O a0 3) 12) (x2_46).toInt.toNat)) * (I_46 a1 29))) (y := (Int32.ofInt (10000))) rfl (ofI (by decide)) (by decide)) | skip
      refine Wp_lb (fun v3_74 ev_74 => ?_)
      have ei_74 := congrArg Int32.toInt ev_74
      have rv_74 := rg v3_74
      have t_80 := rf_ok hV.1 hN3.2 (show sp 9 13 = some 43 from rfl)
      refine Wp.pos (by omega) ?_
      first | (have e_88 := tdivF (x := (v3_74 * (I_46 (rf O (rf O a0 3) 13) (x2_46).toInt.toNat))) (y := (Int32.ofInt (100))) rfl (ofI (by decide)) (by decide)) | skip
      refine Wp_lb (fun v4_89 ev_89 => ?_)
      have ei_89 := congrArg Int32.toInt ev_89
      have rv_89 := rg v4_89
      first | (have e_94 := t_add (x := (Int32.ofInt (0))) (y := x2_46) (ofI (by decide)) rfl (by omega)) | skip
      refine Wp.pos (by omega) ?_
      first | (have e_98 := t_sub (x := (I_46 a1 (((Int32.ofInt (0)) + x2_46)).toInt.toNat)) (y := v3_74) rfl rfl (by omega)) | skip
      refine Wp.pos (by omega) ?_
      refine Wp_lb (fun I9 eI9 => ?_)
      have hV9 : SQ mX31 P K O I0 J0 I9 J0 := by rw [eI9]; exact hV_46.putI h1.2 rfl (okS (by decide) (by omega) (by omega))
      have tk9_a1_27 : (I9 a1 27).toInt = (I_46 a1 27).toInt := by rw [eI9, up2_ne _ _ (fun z => by omega)]
      first | (have e_103 := t_add (x := (Int32.ofInt (0))) (y := x2_46) (ofI (by decide)) rfl (by omega)) | skip
      first | (have e_105 := t_add (x := ((Int32.ofInt (0)) + x2_46)) (y := (Int32.ofInt (1))) rfl (ofI (by decide)) (by omega)) | skip
      refine Wp.pos (by omega) ?_
      first | (have e_110 := t_add (x := (I9 a1 ((((Int32.ofInt (0)) + x2_46) + (Int32.ofInt (1)))).toInt.toNat)) (y := v4_89) rfl rfl (by omega)) | skip
      refine Wp.pos (by omega) ?_
      refine Wp_lb (fun I10 eI10 => ?_)
      have hV10 : SQ mX31 P K O I0 J0 I10 J0 := by rw [eI10]; exact hV9.putI h1.2 rfl (okS (by decide) (by omega) (by omega))
      have tk10_a1_27 : (I10 a1 27).toInt = (I9 a1 27).toInt := by rw [eI10, up2_ne _ _ (fun z => by omega)]
      first | (have e_116 := t_add (x := x2_46) (y := (Int32.ofInt (2))) rfl (ofI (by decide)) (by omega)) | skip
      have o_121 := hV10.1.2 (rf O a0 3) hN3.2.1 8
      rw [hN3.2.2] at o_121
      replace o_121 : 0 ≤ (I10 (rf O a0 3) 8).toInt ∧ (I10 (rf O a0 3) 8).toInt ≤ 5 := o_121
      refine Wp_jq (fun k_136 => ∀ (s0_136 : Int32), (0 ≤ Int32.toInt s0_136 ∧ Int32.toInt s0_136 ≤ 4) → Wp (k_136 s0_136) Q) (fun s0_136 jv0_136  => ?_) (fun k_136 hk_136 => ?_)
      · skip
        have rgs_s0_136 := rg s0_136
        first | (have e_136 := t_add (x := (Int32.ofInt (0))) (y := s0_136) (ofI (by decide)) rfl (by omega)) | skip
        refine Wp.pos (by omega) ?_
        first | (have e_142 := t_sub (x := v3_74) (y := v4_89) rfl rfl (by omega)) | skip
        first | (have e_143 := t_add (x := (I10 a1 (((Int32.ofInt (0)) + s0_136)).toInt.toNat)) (y := (v3_74 - v4_89)) rfl rfl (by omega)) | skip
        refine Wp.pos (by omega) ?_
        refine Wp_lb (fun I11 eI11 => ?_)
        have hV11 : SQ mX31 P K O I0 J0 I11 J0 := by rw [eI11]; exact hV10.putI h1.2 rfl (okS (by decide) (by omega) (by omega))
        have tk11_a1_27 : (I11 a1 27).toInt = (I10 a1 27).toInt := by rw [eI11, up2_ne _ _ (fun z => by omega)]
        refine Wp_lb (fun v2_145 ev_145 => ?_)
        have rv_145 := rg v2_145
        first | (have e_145 : v2_145.toInt = (x2_46).toInt + (-1) := by rw [ev_145]; exact t_add rfl (ofI (by decide)) (by omega)) | skip
        clear ev_145
        exact ih_46 (v2_145) I11 (by omega) (by omega) (by omega) hV11
      refine Wp.ite (fun c_124 => ?_) (fun c_124 => ?_)
      · skip
        first | (have e_135 := t_add (x := x2_46) (y := (Int32.ofInt (1))) rfl (ofI (by decide)) (by omega)) | skip
        exact hk_136 ((x2_46 + (Int32.ofInt (1)))) (by omega) 
      · skip
        first | (have e_129 := t_add (x := x2_46) (y := (Int32.ofInt (2))) rfl (ofI (by decide)) (by omega)) | skip
        exact hk_136 ((x2_46 + (Int32.ofInt (2)))) (by omega) 
  exact lp_46 N (v2_45) I3 (by omega) (by omega) (by omega) hV3
set_option maxHeartbeats 4000000 in
set_option maxRecDepth 100000 in
theorem s_Mo_goesS_G {P : List Nat} {K : Nat → Nat} {N : Nat} {O : WO} {I0 : WI} {J0 : WJ} (hN : 2147483648 ≤ N) (hV : IV P K I0 O) {a0 : Nat} (h0 : a0 ∈ P ∧ K a0 = 10) {a1 : Nat} (h1 : a1 ∈ P ∧ K a1 = 31) (hN3 : NN P K O a0 3 9) (hGM : GM I0 (rf O a0 3)) (pr0 : Int32.toInt (I0 a1 27) ≤ 239) {Q : WI → Prop} (hQ : ∀ (I_ : WI), IV P K I_ O → FQ mX31 K I0 J0 I_ J0 → (Int32.toInt (I_ a1 27) = Int32.toInt (I0 a1 27) + 1) → Q I_) : Wp (F_Mo_goesS N O I0 J0 a0 a1) Q := by
  unfold F_Mo_goesS
  have hMs : ¬ O a0 3 = none := by rw [hN3.1]; exact fun z => by cases z
  have hV0 : SQ mX31 P K O I0 J0 I0 J0 := SQ.rf hV
  have lp_2 : ∀ (m_2 : Nat) (x2_2 : Int32) (I_2 : WI), Int.toNat (5 - (x2_2).toInt) < m_2 → (0 ≤ Int32.toInt x2_2 ∧ Int32.toInt x2_2 ≤ 5) → (Int32.toInt (I_2 a1 27) = Int32.toInt (I0 a1 27)) → SQ mX31 P K O I0 J0 I_2 J0 → Wp (lp (B_Mo_goesS_2 N O (a0) (a1) (J0)) (fun _ _ => none) m_2 x2_2 I_2) Q := by
    intro m_2
    induction m_2 with
    | zero => intro x2_2 I_2 hm; exact absurd hm (Nat.not_lt_zero _)
    | succ m_2 ih_2 =>
    intro x2_2 I_2 hm_2 iv0_2 iv1_2 hV_2
    have rg2_2 := rg x2_2
    show Wp (B_Mo_goesS_2 N O (a0) (a1) (J0) (lp (B_Mo_goesS_2 N O (a0) (a1) (J0)) (fun _ _ => none) m_2) x2_2 I_2) Q
    unfold B_Mo_goesS_2
    have o_7 := hV_2.1.2 (rf O a0 3) hN3.2.1 8
    rw [hN3.2.2] at o_7
    replace o_7 : 0 ≤ (I_2 (rf O a0 3) 8).toInt ∧ (I_2 (rf O a0 3) 8).toInt ≤ 5 := o_7
    refine Wp.ite (fun c_10 => ?_) (fun c_10 => ?_)
    · skip
      refine Wpc1 (s_Mo_sumOfS_G hN hV_2.1 h0 h1 hN3 (hGM.keep (fun k => (hV_2.2 (rf O a0 3) k (by rw [hN3.2.2]; rfl)).1)) (by have hk2 : Int32.toInt (Int32.ofInt (0)) = 0 := ofI (by decide); omega) (fun z_95 p_95 => ?_))
      have rz_95 := rg z_95
      refine Wp_lb (fun I2 eI2 => ?_)
      have hV2 : SQ mX31 P K O I0 J0 I2 J0 := by rw [eI2]; exact hV_2.putI h1.2 rfl trivial
      have tk2_a1_27 : (I2 a1 27).toInt = (I_2 a1 27).toInt := by rw [eI2, up2_ne _ _ (fun z => absurd z.2 (by decide))]
      have gm_110 : 1 ≤ (I2 (rf O a0 3) 0).toInt := (hGM.keep (fun k => (hV2.2 (rf O a0 3) k (by rw [hN3.2.2]; rfl)).1)).1
      refine Wp_jq (fun k_121 => ∀ (s0_121 : Int32), (Int32.toInt (I2 a1 27) = Int32.toInt (I0 a1 27)) → Wp (k_121 s0_121) Q) (fun s0_121 jv0_121  => ?_) (fun k_121 hk_121 => ?_)
      · skip
        have rgs_s0_121 := rg s0_121
        refine Wp_lb (fun I3 eI3 => ?_)
        have hV3 : SQ mX31 P K O I0 J0 I3 J0 := by rw [eI3]; exact hV2.putI h1.2 rfl trivial
        have tk3_a1_27 : (I3 a1 27).toInt = (I2 a1 27).toInt := by rw [eI3, up2_ne _ _ (fun z => absurd z.2 (by decide))]
        refine Wp_lb (fun I4 eI4 => ?_)
        have hV4 : SQ mX31 P K O I0 J0 I4 J0 := by rw [eI4]; exact hV3.putI h1.2 rfl trivial
        have tk4_a1_27 : (I4 a1 27).toInt = (I3 a1 27).toInt := by rw [eI4, up2_ne _ _ (fun z => absurd z.2 (by decide))]
        refine Wp_lb (fun I5 eI5 => ?_)
        have hV5 : SQ mX31 P K O I0 J0 I5 J0 := by rw [eI5]; exact hV4.putI h1.2 rfl trivial
        have tk5_a1_27 : (I5 a1 27).toInt = (I4 a1 27).toInt := by rw [eI5, up2_ne _ _ (fun z => absurd z.2 (by decide))]
        refine Wp_jq (fun k_152 => ∀ (IJ_152 : WI), (Int32.toInt (IJ_152 a1 27) = Int32.toInt (I0 a1 27)) → SQ mX31 P K O I0 J0 IJ_152 J0 → Wp (k_152 IJ_152) Q) (fun IJ_152 jv0_152 hVJ_152 => ?_) (fun k_152 hk_152 => ?_)
        · skip
          refine Wpc1 (s_Mo_sumOfS_G hN hVJ_152.1 h0 h1 hN3 (hGM.keep (fun k => (hVJ_152.2 (rf O a0 3) k (by rw [hN3.2.2]; rfl)).1)) (by have hk2 : Int32.toInt (Int32.ofInt (10)) = 10 := ofI (by decide); omega) (fun z_161 p_161 => ?_))
          have rz_161 := rg z_161
          first | (have e_164 := t_add (x := (IJ_152 a1 20)) (y := z_161) rfl rfl (by omega)) | skip
          refine Wp_lb (fun I7 eI7 => ?_)
          have hV7 : SQ mX31 P K O I0 J0 I7 J0 := by rw [eI7]; exact hVJ_152.putI h1.2 rfl trivial
          have tk7_a1_27 : (I7 a1 27).toInt = (IJ_152 a1 27).toInt := by rw [eI7, up2_ne _ _ (fun z => absurd z.2 (by decide))]
          refine Wp_jq (fun k_196 => ∀ (s0_196 : Int32), (Int32.toInt (I7 a1 27) = Int32.toInt (I0 a1 27)) → Wp (k_196 s0_196) Q) (fun s0_196 jv0_196  => ?_) (fun k_196 hk_196 => ?_)
          · skip
            have rgs_s0_196 := rg s0_196
            first | (have e_203 := t_add (x := (I7 a1 21)) (y := s0_196) rfl rfl (by omega)) | skip
            refine Wp_lb (fun I8 eI8 => ?_)
            have hV8 : SQ mX31 P K O I0 J0 I8 J0 := by rw [eI8]; exact hV7.putI h1.2 rfl trivial
            have tk8_a1_27 : (I8 a1 27).toInt = (I7 a1 27).toInt := by rw [eI8, up2_ne _ _ (fun z => absurd z.2 (by decide))]
            first | (have e_211 := t_sub (x := (I8 a1 20)) (y := s0_196) rfl rfl (by omega)) | skip
            refine Wp_lb (fun I9 eI9 => ?_)
            have hV9 : SQ mX31 P K O I0 J0 I9 J0 := by rw [eI9]; exact hV8.putI h1.2 rfl trivial
            have tk9_a1_27 : (I9 a1 27).toInt = (I8 a1 27).toInt := by rw [eI9, up2_ne _ _ (fun z => absurd z.2 (by decide))]
            refine Wp_jq (fun k_241 => ∀ (s0_241 : Int32), (Int32.toInt (I9 a1 27) = Int32.toInt (I0 a1 27)) → Wp (k_241 s0_241) Q) (fun s0_241 jv0_241  => ?_) (fun k_241 hk_241 => ?_)
            · skip
              have rgs_s0_241 := rg s0_241
              first | (have e_248 := t_sub (x := (I9 a1 20)) (y := s0_241) rfl rfl (by omega)) | skip
              refine Wp_lb (fun I10 eI10 => ?_)
              have hV10 : SQ mX31 P K O I0 J0 I10 J0 := by rw [eI10]; exact hV9.putI h1.2 rfl trivial
              have tk10_a1_27 : (I10 a1 27).toInt = (I9 a1 27).toInt := by rw [eI10, up2_ne _ _ (fun z => absurd z.2 (by decide))]
              first | (have e_256 := t_add (x := (I10 a1 22)) (y := s0_241) rfl rfl (by omega)) | skip
              refine Wp_lb (fun I11 eI11 => ?_)
              have hV11 : SQ mX31 P K O I0 J0 I11 J0 := by rw [eI11]; exact hV10.putI h1.2 rfl trivial
              have tk11_a1_27 : (I11 a1 27).toInt = (I10 a1 27).toInt := by rw [eI11, up2_ne _ _ (fun z => absurd z.2 (by decide))]
              first | (have e_271 := t_sub (x := (I11 (rf O a0 3) 6)) (y := s0_241) rfl rfl (by omega)) | skip
              first | (have e_272 := t_add (x := (I11 a1 23)) (y := ((I11 (rf O a0 3) 6) - s0_241)) rfl rfl (by omega)) | skip
              refine Wp_lb (fun I12 eI12 => ?_)
              have hV12 : SQ mX31 P K O I0 J0 I12 J0 := by rw [eI12]; exact hV11.putI h1.2 rfl trivial
              have tk12_a1_27 : (I12 a1 27).toInt = (I11 a1 27).toInt := by rw [eI12, up2_ne _ _ (fun z => absurd z.2 (by decide))]
              have gm_297 : 1 ≤ (I12 (rf O a0 3) 0).toInt := (hGM.keep (fun k => (hV12.2 (rf O a0 3) k (by rw [hN3.2.2]; rfl)).1)).1
              refine Wp.pos (by omega) ?_
              first | (have e_301 := t_sub (x := (I12 (rf O a0 3) 1)) (y := (((I12 (rf O a0 3) 1) * (I12 a1 28)) / (I12 (rf O a0 3) 0))) rfl rfl (by omega)) | skip
              refine Wp_lb (fun v4_302 ev_302 => ?_)
              have ei_302 := congrArg Int32.toInt ev_302
              have rv_302 := rg v4_302
              refine Wp_jq (fun k_318 => ∀ (s0_318 : Int32), (Int32.toInt (I12 a1 27) = Int32.toInt (I0 a1 27)) → Wp (k_318 s0_318) Q) (fun s0_318 jv0_318  => ?_) (fun k_318 hk_318 => ?_)
              · skip
                have rgs_s0_318 := rg s0_318
                refine Wp_lb (fun I13 eI13 => ?_)
                have hV13 : SQ mX31 P K O I0 J0 I13 J0 := by rw [eI13]; exact hV12.putI h1.2 rfl trivial
                have tk13_a1_27 : (I13 a1 27).toInt = (I12 a1 27).toInt := by rw [eI13, up2_ne _ _ (fun z => absurd z.2 (by decide))]
                have t_332 := rf_ok hV.1 hN3.2 (show sp 9 11 = some 42 from rfl)
                have o_338 := hV13.1.2 a1 h1.1 27
                rw [h1.2] at o_338
                replace o_338 : 0 ≤ (I13 a1 27).toInt ∧ (I13 a1 27).toInt ≤ 240 := o_338
                have o_343 := hV13.1.2 (rf O a0 3) hN3.2.1 7
                rw [hN3.2.2] at o_343
                replace o_343 : 0 ≤ (I13 (rf O a0 3) 7).toInt ∧ (I13 (rf O a0 3) 7).toInt ≤ 6 := o_343
                have gm_343 : 1 ≤ (I13 (rf O a0 3) 7).toInt := (hGM.keep (fun k => (hV13.2 (rf O a0 3) k (by rw [hN3.2.2]; rfl)).1)).2.2
                refine Wp.pos (by omega) ?_
                first | (have e_346 := tremF (x := (I13 a1 27)) (y := (I13 (rf O a0 3) 7)) rfl rfl (by omega)) | skip
                refine Wp.pos (by omega) ?_
                first | (have e_349 := t_add (x := (I13 a1 32)) (y := ((I13 a1 30) * (I13 (rf O (rf O a0 3) 11) (((I13 a1 27) - (I13 a1 27) / (I13 (rf O a0 3) 7) * (I13 (rf O a0 3) 7))).toInt.toNat))) rfl rfl (by omega)) | skip
                refine Wp_lb (fun I14 eI14 => ?_)
                have hV14 : SQ mX31 P K O I0 J0 I14 J0 := by rw [eI14]; exact hV13.putI h1.2 rfl trivial
                have tk14_a1_27 : (I14 a1 27).toInt = (I13 a1 27).toInt := by rw [eI14, up2_ne _ _ (fun z => absurd z.2 (by decide))]
                first | (have e_357 := t_add (x := (I14 a1 24)) (y := (Int32.ofInt (1))) rfl (ofI (by decide)) (by omega)) | skip
                refine Wp_lb (fun I15 eI15 => ?_)
                have hV15 : SQ mX31 P K O I0 J0 I15 J0 := by rw [eI15]; exact hV14.putI h1.2 rfl trivial
                have tk15_a1_27 : (I15 a1 27).toInt = (I14 a1 27).toInt := by rw [eI15, up2_ne _ _ (fun z => absurd z.2 (by decide))]
                have o_363 := hV15.1.2 a1 h1.1 27
                rw [h1.2] at o_363
                replace o_363 : 0 ≤ (I15 a1 27).toInt ∧ (I15 a1 27).toInt ≤ 240 := o_363
                first | (have e_365 := t_add (x := (I15 a1 27)) (y := (Int32.ofInt (1))) rfl (ofI (by decide)) (by omega)) | skip
                refine Wp_lb (fun I16 eI16 => ?_)
                have hV16 : SQ mX31 P K O I0 J0 I16 J0 := by rw [eI16]; exact hV15.putI h1.2 rfl (show 0 ≤ Int32.toInt _ ∧ Int32.toInt _ ≤ 240 from by omega)
                have tk16_a1_27 : (I16 a1 27).toInt = (((I15 a1 27) + (Int32.ofInt (1)))).toInt := by rw [eI16, up2_self]
                exact Wp.ret (hQ I16 hV16.1 hV16.2 (by first | omega | (dsimp only; omega)))
              refine Wp.ite (fun c_309 => ?_) (fun c_309 => ?_)
              · skip
                exact hk_318 (v4_302) (by omega) 
              · skip
                exact hk_318 ((Int32.ofInt (0))) (by omega) 
            refine Wp.ite (fun c_224 => ?_) (fun c_224 => ?_)
            · skip
              exact hk_241 ((I9 (rf O a0 3) 6)) (by omega) 
            · skip
              exact hk_241 ((I9 a1 20)) (by omega) 
          refine Wp.ite (fun c_177 => ?_) (fun c_177 => ?_)
          · skip
            exact hk_196 ((Int32.ofInt (0))) (by omega) 
          · skip
            first | (have e_191 := t_sub (x := (I7 a1 20)) (y := (I7 (rf O a0 3) 5)) rfl rfl (by omega)) | skip
            exact hk_196 (((I7 a1 20) - (I7 (rf O a0 3) 5))) (by omega) 
        refine Wp.ite (fun c_136 => ?_) (fun c_136 => ?_)
        · skip
          refine Wpc1 (s_Mo_grindsS_G hN hV5.1 h0 h1 hN3 (hGM.keep (fun k => (hV5.2 (rf O a0 3) k (by rw [hN3.2.2]; rfl)).1)) (fun I17 hI17 hF17 p_141 => ?_))
          have hV17 : SQ mX31 P K O I0 J0 I17 J0 := hV5.call (fun _ _ h => h) hI17 hF17
          try dsimp only at p_141
          exact hk_152  I17 (by omega) hV17
        · skip
          refine Wpc1 (s_Mo_digsS_G hN hV5.1 h0 h1 hN3 (hGM.keep (fun k => (hV5.2 (rf O a0 3) k (by rw [hN3.2.2]; rfl)).1)) (fun I18 hI18 hF18 p_149 => ?_))
          have hV18 : SQ mX31 P K O I0 J0 I18 J0 := hV5.call (fun _ _ h => h) hI18 hF18
          try dsimp only at p_149
          exact hk_152  I18 (by omega) hV18
      refine Wp.ite (fun c_113 => ?_) (fun c_113 => ?_)
      · skip
        exact hk_121 ((Int32.ofInt (0))) (by omega) 
      · skip
        exact hk_121 ((Int32.ofInt (1))) (by omega) 
    · skip
      refine Wp_jq (fun k_46 => ∀ (s0_46 : Int32), (Int32.toInt (I_2 a1 27) = Int32.toInt (I0 a1 27)) → Wp (k_46 s0_46) Q) (fun s0_46 jv0_46  => ?_) (fun k_46 hk_46 => ?_)
      · skip
        have rgs_s0_46 := rg s0_46
        first | (have e_53 := t_add (x := (I_2 a1 33)) (y := s0_46) rfl rfl (by omega)) | skip
        refine Wp_lb (fun I19 eI19 => ?_)
        have hV19 : SQ mX31 P K O I0 J0 I19 J0 := by rw [eI19]; exact hV_2.putI h1.2 rfl trivial
        have tk19_a1_27 : (I19 a1 27).toInt = (I_2 a1 27).toInt := by rw [eI19, up2_ne _ _ (fun z => absurd z.2 (by decide))]
        first | (have e_58 := t_add (x := (Int32.ofInt (0))) (y := x2_2) (ofI (by decide)) rfl (by omega)) | skip
        refine Wp.pos (by omega) ?_
        first | (have e_65 := t_add (x := (Int32.ofInt (5))) (y := x2_2) (ofI (by decide)) rfl (by omega)) | skip
        refine Wp.pos (by omega) ?_
        first | (have e_67 := t_add (x := s0_46) (y := (I19 a1 (((Int32.ofInt (5)) + x2_2)).toInt.toNat)) rfl rfl (by omega)) | skip
        first | (have e_68 := t_add (x := (I19 a1 (((Int32.ofInt (0)) + x2_2)).toInt.toNat)) (y := (s0_46 + (I19 a1 (((Int32.ofInt (5)) + x2_2)).toInt.toNat))) rfl rfl (by omega)) | skip
        refine Wp.pos (by omega) ?_
        refine Wp_lb (fun I20 eI20 => ?_)
        have hV20 : SQ mX31 P K O I0 J0 I20 J0 := by rw [eI20]; exact hV19.putI h1.2 rfl (okS (by decide) (by omega) (by omega))
        have tk20_a1_27 : (I20 a1 27).toInt = (I19 a1 27).toInt := by rw [eI20, up2_ne _ _ (fun z => by omega)]
        first | (have e_73 := t_add (x := (Int32.ofInt (5))) (y := x2_2) (ofI (by decide)) rfl (by omega)) | skip
        refine Wp.pos (by omega) ?_
        refine Wp_lb (fun I21 eI21 => ?_)
        have hV21 : SQ mX31 P K O I0 J0 I21 J0 := by rw [eI21]; exact hV20.putI h1.2 rfl (okS (by decide) (by omega) (by omega))
        have tk21_a1_27 : (I21 a1 27).toInt = (I20 a1 27).toInt := by rw [eI21, up2_ne _ _ (fun z => by omega)]
        first | (have e_80 := t_add (x := (Int32.ofInt (10))) (y := x2_2) (ofI (by decide)) rfl (by omega)) | skip
        refine Wp.pos (by omega) ?_
        refine Wp_lb (fun I22 eI22 => ?_)
        have hV22 : SQ mX31 P K O I0 J0 I22 J0 := by rw [eI22]; exact hV21.putI h1.2 rfl (okS (by decide) (by omega) (by omega))
        have tk22_a1_27 : (I22 a1 27).toInt = (I21 a1 27).toInt := by rw [eI22, up2_ne _ _ (fun z => by omega)]
        refine Wp_lb (fun v2_83 ev_83 => ?_)
        have rv_83 := rg v2_83
        first | (have e_83 : v2_83.toInt = (x2_2).toInt + 1 := by rw [ev_83]; exact t_add rfl (ofI (by decide)) (by omega)) | skip
        clear ev_83
        exact ih_2 (v2_83) I22 (by omega) (by omega) (by omega) hV22
      refine Wp.ite (fun c_18 => ?_) (fun c_18 => ?_)
      · skip
        exact hk_46 ((Int32.ofInt (0))) (by omega) 
      · skip
        have t_33 := rf_ok hV.1 hN3.2 (show sp 9 15 = some 45 from rfl)
        have o_40 := hV_2.1.2 a1 h1.1 36
        rw [h1.2] at o_40
        replace o_40 : 0 ≤ (I_2 a1 36).toInt ∧ (I_2 a1 36).toInt ≤ 3 := o_40
        first | (have e_41 := t_mul (x := (Int32.ofInt (5))) (y := (I_2 a1 36)) (ofI (by decide)) rfl (by omega)) | skip
        first | (have e_43 := t_add (x := ((Int32.ofInt (5)) * (I_2 a1 36))) (y := x2_2) rfl rfl (by omega)) | skip
        refine Wp.pos (by omega) ?_
        exact hk_46 (((I_2 a1 34) * (I_2 (rf O (rf O a0 3) 15) ((((Int32.ofInt (5)) * (I_2 a1 36)) + x2_2)).toInt.toNat))) (by omega) 
  exact lp_2 N ((Int32.ofInt (0))) I0 (by have hci0 : Int32.toInt (Int32.ofInt (0)) = 0 := ofI (by decide); omega) (by have hci0 : Int32.toInt (Int32.ofInt (0)) = 0 := ofI (by decide); omega) (by omega) hV0
set_option maxHeartbeats 4000000 in
set_option maxRecDepth 100000 in
theorem s_Mo_digsT_G {P : List Nat} {K : Nat → Nat} {N : Nat} {O : WO} {I0 : WI} {J0 : WJ} (hN : 2147483648 ≤ N) (hV : IV P K I0 O) {a0 : Nat} (h0 : a0 ∈ P ∧ K a0 = 10) {a1 : Nat} (h1 : a1 ∈ P ∧ K a1 = 49) (hN3 : NN P K O a0 3 9) (hGM : GM I0 (rf O a0 3)) {Q : WI → Prop} (hQ : ∀ (I_ : WI), IV P K I_ O → FQ mX49 K I0 J0 I_ J0 → ((I_ a1 27).toInt = (I0 a1 27).toInt) → Q I_) : Wp (F_Mo_digsT N O I0 J0 a0 a1) Q := by
  unfold F_Mo_digsT
  have hMs : ¬ O a0 3 = none := by rw [hN3.1]; exact fun z => by cases z
  have hV0 : SQ mX49 P K O I0 J0 I0 J0 := SQ.rf hV
  have lp_2 : ∀ (m_2 : Nat) (x2_2 : Int32) (I_2 : WI), Int.toNat (5 - (x2_2).toInt) < m_2 → (0 ≤ Int32.toInt x2_2 ∧ Int32.toInt x2_2 ≤ 5) → ((I_2 a1 27).toInt = (I0 a1 27).toInt) → SQ mX49 P K O I0 J0 I_2 J0 → Wp (lp (B_Mo_digsT_2 N O (a0) (a1)) (fun _ _ => none) m_2 x2_2 I_2) Q := by
    intro m_2
    induction m_2 with
    | zero => intro x2_2 I_2 hm; exact absurd hm (Nat.not_lt_zero _)
    | succ m_2 ih_2 =>
    intro x2_2 I_2 hm_2 iv0_2 iv1_2 hV_2
    have rg2_2 := rg x2_2
    show Wp (B_Mo_digsT_2 N O (a0) (a1) (lp (B_Mo_digsT_2 N O (a0) (a1)) (fun _ _ => none) m_2) x2_2 I_2) Q
    unfold B_Mo_digsT_2
    have o_7 := hV_2.1.2 (rf O a0 3) hN3.2.1 8
    rw [hN3.2.2] at o_7
    replace o_7 : 0 ≤ (I_2 (rf O a0 3) 8).toInt ∧ (I_2 (rf O a0 3) 8).toInt ≤ 5 := o_7
    refine Wp.ite (fun c_10 => ?_) (fun c_10 => ?_)
    · skip
      exact Wp.ret (hQ I_2 hV_2.1 hV_2.2 (by first | omega | (dsimp only; omega)))
    · skip
      first | (have e_16 := t_add (x := (Int32.ofInt (0))) (y := x2_2) (ofI (by decide)) rfl (by omega)) | skip
      refine Wp.pos (by omega) ?_
      first | (have e_20 := tdivF (x := (I_2 a1 (((Int32.ofInt (0)) + x2_2)).toInt.toNat)) (y := (Int32.ofInt (10))) rfl (ofI (by decide)) (by decide)) | skip
      first | (have e_22 := t_add (x := ((I_2 a1 (((Int32.ofInt (0)) + x2_2)).toInt.toNat) / (Int32.ofInt (10)))) (y := (Int32.ofInt (1))) rfl (ofI (by decide)) (by omega)) | skip
      first | (have e_26 := t_add (x := (Int32.ofInt (0))) (y := x2_2) (ofI (by decide)) rfl (by omega)) | skip
      refine Wp.pos (by omega) ?_
      refine Wp_jq (fun k_49 => ∀ (s0_49 : Int32), Wp (k_49 s0_49) Q) (fun s0_49   => ?_) (fun k_49 hk_49 => ?_)
      · skip
        have rgs_s0_49 := rg s0_49
        first | (have e_53 := t_add (x := (Int32.ofInt (0))) (y := x2_2) (ofI (by decide)) rfl (by omega)) | skip
        refine Wp.pos (by omega) ?_
        first | (have e_57 := t_sub (x := (I_2 a1 (((Int32.ofInt (0)) + x2_2)).toInt.toNat)) (y := s0_49) rfl rfl (by omega)) | skip
        refine Wp.pos (by omega) ?_
        refine Wp_lb (fun I1 eI1 => ?_)
        have hV1 : SQ mX49 P K O I0 J0 I1 J0 := by rw [eI1]; exact hV_2.putI h1.2 rfl (okS (by decide) (by omega) (by omega))
        have tk1_a1_27 : (I1 a1 27).toInt = (I_2 a1 27).toInt := by rw [eI1, up2_ne _ _ (fun z => by omega)]
        first | (have e_65 := t_add (x := (I1 a1 21)) (y := s0_49) rfl rfl (by omega)) | skip
        refine Wp_lb (fun I2 eI2 => ?_)
        have hV2 : SQ mX49 P K O I0 J0 I2 J0 := by rw [eI2]; exact hV1.putI h1.2 rfl trivial
        have tk2_a1_27 : (I2 a1 27).toInt = (I1 a1 27).toInt := by rw [eI2, up2_ne _ _ (fun z => absurd z.2 (by decide))]
        refine Wp_lb (fun v2_67 ev_67 => ?_)
        have rv_67 := rg v2_67
        first | (have e_67 : v2_67.toInt = (x2_2).toInt + 1 := by rw [ev_67]; exact t_add rfl (ofI (by decide)) (by omega)) | skip
        clear ev_67
        exact ih_2 (v2_67) I2 (by omega) (by omega) (by omega) hV2
      refine Wp.ite (fun c_28 => ?_) (fun c_28 => ?_)
      · skip
        first | (have e_42 := t_add (x := (Int32.ofInt (0))) (y := x2_2) (ofI (by decide)) rfl (by omega)) | skip
        refine Wp.pos (by omega) ?_
        first | (have e_46 := tdivF (x := (I_2 a1 (((Int32.ofInt (0)) + x2_2)).toInt.toNat)) (y := (Int32.ofInt (10))) rfl (ofI (by decide)) (by decide)) | skip
        first | (have e_48 := t_add (x := ((I_2 a1 (((Int32.ofInt (0)) + x2_2)).toInt.toNat) / (Int32.ofInt (10)))) (y := (Int32.ofInt (1))) rfl (ofI (by decide)) (by omega)) | skip
        exact hk_49 ((((I_2 a1 (((Int32.ofInt (0)) + x2_2)).toInt.toNat) / (Int32.ofInt (10))) + (Int32.ofInt (1))))  
      · skip
        first | (have e_34 := t_add (x := (Int32.ofInt (0))) (y := x2_2) (ofI (by decide)) rfl (by omega)) | skip
        refine Wp.pos (by omega) ?_
        exact hk_49 ((I_2 a1 (((Int32.ofInt (0)) + x2_2)).toInt.toNat))  
  exact lp_2 N ((Int32.ofInt (0))) I0 (by have hci0 : Int32.toInt (Int32.ofInt (0)) = 0 := ofI (by decide); omega) (by have hci0 : Int32.toInt (Int32.ofInt (0)) = 0 := ofI (by decide); omega) (by omega) hV0
set_option maxHeartbeats 4000000 in
set_option maxRecDepth 100000 in
theorem s_Mo_grindsT_G {P : List Nat} {K : Nat → Nat} {N : Nat} {O : WO} {I0 : WI} {J0 : WJ} (hN : 2147483648 ≤ N) (hV : IV P K I0 O) {a0 : Nat} (h0 : a0 ∈ P ∧ K a0 = 10) {a1 : Nat} (h1 : a1 ∈ P ∧ K a1 = 49) (hN3 : NN P K O a0 3 9) (hGM : GM I0 (rf O a0 3)) {Q : WI → Prop} (hQ : ∀ (I_ : WI), IV P K I_ O → FQ mX49 K I0 J0 I_ J0 → ((I_ a1 27).toInt = (I0 a1 27).toInt) → Q I_) : Wp (F_Mo_grindsT N O I0 J0 a0 a1) Q := by
  unfold F_Mo_grindsT
  have hMs : ¬ O a0 3 = none := by rw [hN3.1]; exact fun z => by cases z
  have hV0 : SQ mX49 P K O I0 J0 I0 J0 := SQ.rf hV
  have o_15 := hV0.1.2 a1 h1.1 36
  rw [h1.2] at o_15
  replace o_15 : 0 ≤ (I0 a1 36).toInt ∧ (I0 a1 36).toInt ≤ 3 := o_15
  refine Wpc1 (s_Mo_effectOf_G hN hV0.1 h0 hN3 (hGM.keep (fun k => (hV0.2 (rf O a0 3) k (by rw [hN3.2.2]; rfl)).1)) (by omega) (fun z_16 p_16 => ?_))
  have rz_16 := rg z_16
  refine Wp_lb (fun I2 eI2 => ?_)
  have hV2 : SQ mX49 P K O I0 J0 I2 J0 := by rw [eI2]; exact hV0.putI h1.2 rfl trivial
  have tk2_a1_27 : (I2 a1 27).toInt = (I0 a1 27).toInt := by rw [eI2, up2_ne _ _ (fun z => absurd z.2 (by decide))]
  first | (have e_34 := tdivF (x := ((I2 a1 28) * (I2 a1 29))) (y := (Int32.ofInt (100))) rfl (ofI (by decide)) (by decide)) | skip
  refine Wp_lb (fun I3 eI3 => ?_)
  have hV3 : SQ mX49 P K O I0 J0 I3 J0 := by rw [eI3]; exact hV2.putI h1.2 rfl trivial
  have tk3_a1_27 : (I3 a1 27).toInt = (I2 a1 27).toInt := by rw [eI3, up2_ne _ _ (fun z => absurd z.2 (by decide))]
  have o_40 := hV3.1.2 (rf O a0 3) hN3.2.1 8
  rw [hN3.2.2] at o_40
  replace o_40 : 0 ≤ (I3 (rf O a0 3) 8).toInt ∧ (I3 (rf O a0 3) 8).toInt ≤ 5 := o_40
  first | (have e_44 := t_sub (x := (I3 (rf O a0 3) 8)) (y := (Int32.ofInt (2))) rfl (ofI (by decide)) (by omega)) | skip
  refine Wp_lb (fun v2_45 ev_45 => ?_)
  have ei_45 := congrArg Int32.toInt ev_45
  have rv_45 := rg v2_45
  have lp_46 : ∀ (m_46 : Nat) (x2_46 : Int32) (I_46 : WI), Int.toNat ((x2_46).toInt + 3) < m_46 → (-2 ≤ Int32.toInt x2_46 ∧ Int32.toInt x2_46 ≤ 3) → ((I_46 a1 27).toInt = (I0 a1 27).toInt) → SQ mX49 P K O I0 J0 I_46 J0 → Wp (lp (B_Mo_grindsT_46 N O (a0) (a1) (J0)) (fun _ _ => none) m_46 x2_46 I_46) Q := by
    intro m_46
    induction m_46 with
    | zero => intro x2_46 I_46 hm; exact absurd hm (Nat.not_lt_zero _)
    | succ m_46 ih_46 =>
    intro x2_46 I_46 hm_46 iv0_46 iv1_46 hV_46
    have rg2_46 := rg x2_46
    show Wp (B_Mo_grindsT_46 N O (a0) (a1) (J0) (lp (B_Mo_grindsT_46 N O (a0) (a1) (J0)) (fun _ _ => none) m_46) x2_46 I_46) Q
    unfold B_Mo_grindsT_46
    refine Wp.ite (fun c_47 => ?_) (fun c_47 => ?_)
    · skip
      have lp_153 : ∀ (m_153 : Nat) (x2_153 : Int32) (I_153 : WI), Int.toNat (5 - (x2_153).toInt) < m_153 → (0 ≤ Int32.toInt x2_153 ∧ Int32.toInt x2_153 ≤ 5) → ((I_153 a1 27).toInt = (I0 a1 27).toInt) → SQ mX49 P K O I0 J0 I_153 J0 → Wp (lp (B_Mo_grindsT_153 N O (a0) (a1) (J0)) (fun _ _ => none) m_153 x2_153 I_153) Q := by
        intro m_153
        induction m_153 with
        | zero => intro x2_153 I_153 hm; exact absurd hm (Nat.not_lt_zero _)
        | succ m_153 ih_153 =>
        intro x2_153 I_153 hm_153 iv0_153 iv1_153 hV_153
        have rg2_153 := rg x2_153
        show Wp (B_Mo_grindsT_153 N O (a0) (a1) (J0) (lp (B_Mo_grindsT_153 N O (a0) (a1) (J0)) (fun _ _ => none) m_153) x2_153 I_153) Q
        unfold B_Mo_grindsT_153
        have o_158 := hV_153.1.2 (rf O a0 3) hN3.2.1 8
        rw [hN3.2.2] at o_158
        replace o_158 : 0 ≤ (I_153 (rf O a0 3) 8).toInt ∧ (I_153 (rf O a0 3) 8).toInt ≤ 5 := o_158
        refine Wp.ite (fun c_161 => ?_) (fun c_161 => ?_)
        · skip
          exact Wp.ret (hQ I_153 hV_153.1 hV_153.2 (by first | omega | (dsimp only; omega)))
        · skip
          first | (have e_167 := t_add (x := (Int32.ofInt (0))) (y := x2_153) (ofI (by decide)) rfl (by omega)) | skip
          refine Wp.pos (by omega) ?_
          first | (have e_177 := t_mul (x := (Int32.ofInt (10))) (y := (I_153 a1 35)) (ofI (by decide)) rfl (by omega)) | skip
          first | (have e_178 := t_add (x := (Int32.ofInt (20))) (y := ((Int32.ofInt (10)) * (I_153 a1 35))) (ofI (by decide)) rfl (by omega)) | skip
          first | (have e_182 := tdivF (x := ((I_153 a1 (((Int32.ofInt (0)) + x2_153)).toInt.toNat) * ((Int32.ofInt (20)) + ((Int32.ofInt (10)) * (I_153 a1 35))))) (y := (Int32.ofInt (100))) rfl (ofI (by decide)) (by decide)) | skip
          refine Wp_lb (fun v3_183 ev_183 => ?_)
          have ei_183 := congrArg Int32.toInt ev_183
          have rv_183 := rg v3_183
          refine Wpc1 (s_Mo_passes_G hN hV_153.1 h0 hN3 (hGM.keep (fun k => (hV_153.2 (rf O a0 3) k (by rw [hN3.2.2]; rfl)).1)) (fun z_191 p_191 => ?_))
          have rz_191 := rg z_191
          first | (have e_197 := tdivF (x := (v3_183 * z_191)) (y := (Int32.ofInt (100))) rfl (ofI (by decide)) (by decide)) | skip
          refine Wp_lb (fun v4_198 ev_198 => ?_)
          have ei_198 := congrArg Int32.toInt ev_198
          have rv_198 := rg v4_198
          first | (have e_203 := t_add (x := (Int32.ofInt (0))) (y := x2_153) (ofI (by decide)) rfl (by omega)) | skip
          refine Wp.pos (by omega) ?_
          first | (have e_207 := t_sub (x := (I_153 a1 (((Int32.ofInt (0)) + x2_153)).toInt.toNat)) (y := v3_183) rfl rfl (by omega)) | skip
          refine Wp.pos (by omega) ?_
          refine Wp_lb (fun I5 eI5 => ?_)
          have hV5 : SQ mX49 P K O I0 J0 I5 J0 := by rw [eI5]; exact hV_153.putI h1.2 rfl (okS (by decide) (by omega) (by omega))
          have tk5_a1_27 : (I5 a1 27).toInt = (I_153 a1 27).toInt := by rw [eI5, up2_ne _ _ (fun z => by omega)]
          first | (have e_213 := t_add (x := (Int32.ofInt (10))) (y := x2_153) (ofI (by decide)) rfl (by omega)) | skip
          refine Wp.pos (by omega) ?_
          refine Wp_lb (fun I6 eI6 => ?_)
          have hV6 : SQ mX49 P K O I0 J0 I6 J0 := by rw [eI6]; exact hV5.putI h1.2 rfl (okS (by decide) (by omega) (by omega))
          have tk6_a1_27 : (I6 a1 27).toInt = (I5 a1 27).toInt := by rw [eI6, up2_ne _ _ (fun z => by omega)]
          first | (have e_221 := t_add (x := (Int32.ofInt (15))) (y := x2_153) (ofI (by decide)) rfl (by omega)) | skip
          refine Wp.pos (by omega) ?_
          first | (have e_226 := t_add (x := (I6 a1 (((Int32.ofInt (15)) + x2_153)).toInt.toNat)) (y := v4_198) rfl rfl (by omega)) | skip
          refine Wp.pos (by omega) ?_
          refine Wp_lb (fun I7 eI7 => ?_)
          have hV7 : SQ mX49 P K O I0 J0 I7 J0 := by rw [eI7]; exact hV6.putI h1.2 rfl (okS (by decide) (by omega) (by omega))
          have tk7_a1_27 : (I7 a1 27).toInt = (I6 a1 27).toInt := by rw [eI7, up2_ne _ _ (fun z => by omega)]
          first | (have e_231 := t_add (x := (Int32.ofInt (5))) (y := x2_153) (ofI (by decide)) rfl (by omega)) | skip
          first | (have e_235 := t_sub (x := v3_183) (y := v4_198) rfl rfl (by omega)) | skip
          refine Wp.pos (by omega) ?_
          refine Wp_lb (fun I8 eI8 => ?_)
          have hV8 : SQ mX49 P K O I0 J0 I8 J0 := by rw [eI8]; exact hV7.putI h1.2 rfl (okS (by decide) (by omega) (by omega))
          have tk8_a1_27 : (I8 a1 27).toInt = (I7 a1 27).toInt := by rw [eI8, up2_ne _ _ (fun z => by omega)]
          refine Wp_lb (fun v2_237 ev_237 => ?_)
          have rv_237 := rg v2_237
          first | (have e_237 : v2_237.toInt = (x2_153).toInt + 1 := by rw [ev_237]; exact t_add rfl (ofI (by decide)) (by omega)) | skip
          clear ev_237
          exact ih_153 (v2_237) I8 (by omega) (by omega) (by omega) hV8
      exact lp_153 N ((Int32.ofInt (0))) I_46 (by have hci0 : Int32.toInt (Int32.ofInt (0)) = 0 := ofI (by decide); omega) (by have hci0 : Int32.toInt (Int32.ofInt (0)) = 0 := ofI (by decide); omega) (by omega) hV_46
    · skip
      first | (have e_53 := t_add (x := (Int32.ofInt (0))) (y := x2_46) (ofI (by decide)) rfl (by omega)) | skip
      refine Wp.pos (by omega) ?_
      have t_59 := rf_ok hV.1 hN3.2 (show sp 9 12 = some 43 from rfl)
      refine Wp.pos (by omega) ?_
      first | (have e_73 := tdivF (x := (((I_46 a1 (((Int32.ofInt (0)) + x2_46)).toInt.toNat) * (I_46 (rf O (rf O a0 3) 12) (x2_46).toInt.toNat)) * (I_46 a1 29))) (y := (Int32.ofInt (10000))) rfl (ofI (by decide)) (by decide)) | skip
      refine Wp_lb (fun v3_74 ev_74 => ?_)
      have ei_74 := congrArg Int32.toInt ev_74
      have rv_74 := rg v3_74
      have t_80 := rf_ok hV.1 hN3.2 (show sp 9 13 = some 43 from rfl)
      refine Wp.pos (by omega) ?_
      first | (have e_88 := tdivF (x := (v3_74 * (I_46 (rf O (rf O a0 3) 13) (x2_46).toInt.toNat))) (y := (Int32.ofInt (100))) rfl (ofI (by decide)) (by decide)) | skip
      refine Wp_lb (fun v4_89 ev_89 => ?_)
      have ei_89 := congrArg Int32.toInt ev_89
      have rv_89 := rg v4_89
      first | (have e_94 := t_add (x := (Int32.ofInt (0))) (y := x2_46) (ofI (by decide)) rfl (by omega)) | skip
      refine Wp.pos (by omega) ?_
      first | (have e_98 := t_sub (x := (I_46 a1 (((Int32.ofInt (0)) + x2_46)).toInt.toNat)) (y := v3_74) rfl rfl (by omega)) | skip
      refine Wp.pos (by omega) ?_
      refine Wp_lb (fun I9 eI9 => ?_)
      have hV9 : SQ mX49 P K O I0 J0 I9 J0 := by rw [eI9]; exact hV_46.putI h1.2 rfl (okS (by decide) (by omega) (by omega))
      have tk9_a1_27 : (I9 a1 27).toInt = (I_46 a1 27).toInt := by rw [eI9, up2_ne _ _ (fun z => by omega)]
      first | (have e_103 := t_add (x := (Int32.ofInt (0))) (y := x2_46) (ofI (by decide)) rfl (by omega)) | skip
      first | (have e_105 := t_add (x := ((Int32.ofInt (0)) + x2_46)) (y := (Int32.ofInt (1))) rfl (ofI (by decide)) (by omega)) | skip
      refine Wp.pos (by omega) ?_
      first | (have e_110 := t_add (x := (I9 a1 ((((Int32.ofInt (0)) + x2_46) + (Int32.ofInt (1)))).toInt.toNat)) (y := v4_89) rfl rfl (by omega)) | skip
      refine Wp.pos (by omega) ?_
      refine Wp_lb (fun I10 eI10 => ?_)
      have hV10 : SQ mX49 P K O I0 J0 I10 J0 := by rw [eI10]; exact hV9.putI h1.2 rfl (okS (by decide) (by omega) (by omega))
      have tk10_a1_27 : (I10 a1 27).toInt = (I9 a1 27).toInt := by rw [eI10, up2_ne _ _ (fun z => by omega)]
      first | (have e_116 := t_add (x := x2_46) (y := (Int32.ofInt (2))) rfl (ofI (by decide)) (by omega)) | skip
      have o_121 := hV10.1.2 (rf O a0 3) hN3.2.1 8
      rw [hN3.2.2] at o_121
      replace o_121 : 0 ≤ (I10 (rf O a0 3) 8).toInt ∧ (I10 (rf O a0 3) 8).toInt ≤ 5 := o_121
      refine Wp_jq (fun k_136 => ∀ (s0_136 : Int32), (0 ≤ Int32.toInt s0_136 ∧ Int32.toInt s0_136 ≤ 4) → Wp (k_136 s0_136) Q) (fun s0_136 jv0_136  => ?_) (fun k_136 hk_136 => ?_)
      · skip
        have rgs_s0_136 := rg s0_136
        first | (have e_136 := t_add (x := (Int32.ofInt (0))) (y := s0_136) (ofI (by decide)) rfl (by omega)) | skip
        refine Wp.pos (by omega) ?_
        first | (have e_142 := t_sub (x := v3_74) (y := v4_89) rfl rfl (by omega)) | skip
        first | (have e_143 := t_add (x := (I10 a1 (((Int32.ofInt (0)) + s0_136)).toInt.toNat)) (y := (v3_74 - v4_89)) rfl rfl (by omega)) | skip
        refine Wp.pos (by omega) ?_
        refine Wp_lb (fun I11 eI11 => ?_)
        have hV11 : SQ mX49 P K O I0 J0 I11 J0 := by rw [eI11]; exact hV10.putI h1.2 rfl (okS (by decide) (by omega) (by omega))
        have tk11_a1_27 : (I11 a1 27).toInt = (I10 a1 27).toInt := by rw [eI11, up2_ne _ _ (fun z => by omega)]
        refine Wp_lb (fun v2_145 ev_145 => ?_)
        have rv_145 := rg v2_145
        first | (have e_145 : v2_145.toInt = (x2_46).toInt + (-1) := by rw [ev_145]; exact t_add rfl (ofI (by decide)) (by omega)) | skip
        clear ev_145
        exact ih_46 (v2_145) I11 (by omega) (by omega) (by omega) hV11
      refine Wp.ite (fun c_124 => ?_) (fun c_124 => ?_)
      · skip
        first | (have e_135 := t_add (x := x2_46) (y := (Int32.ofInt (1))) rfl (ofI (by decide)) (by omega)) | skip
        exact hk_136 ((x2_46 + (Int32.ofInt (1)))) (by omega) 
      · skip
        first | (have e_129 := t_add (x := x2_46) (y := (Int32.ofInt (2))) rfl (ofI (by decide)) (by omega)) | skip
        exact hk_136 ((x2_46 + (Int32.ofInt (2)))) (by omega) 
  exact lp_46 N (v2_45) I3 (by omega) (by omega) (by omega) hV3
set_option maxHeartbeats 4000000 in
set_option maxRecDepth 100000 in
theorem s_Mo_goesT_G {P : List Nat} {K : Nat → Nat} {N : Nat} {O : WO} {I0 : WI} {J0 : WJ} (hN : 2147483648 ≤ N) (hV : IV P K I0 O) {a0 : Nat} (h0 : a0 ∈ P ∧ K a0 = 10) {a1 : Nat} (h1 : a1 ∈ P ∧ K a1 = 49) (hN3 : NN P K O a0 3 9) (hGM : GM I0 (rf O a0 3)) (pr0 : Int32.toInt (I0 a1 27) ≤ 251) {Q : WI → Prop} (hQ : ∀ (I_ : WI), IV P K I_ O → FQ mX49 K I0 J0 I_ J0 → (Int32.toInt (I_ a1 27) = Int32.toInt (I0 a1 27) + 1) → Q I_) : Wp (F_Mo_goesT N O I0 J0 a0 a1) Q := by
  unfold F_Mo_goesT
  have hMs : ¬ O a0 3 = none := by rw [hN3.1]; exact fun z => by cases z
  have hV0 : SQ mX49 P K O I0 J0 I0 J0 := SQ.rf hV
  have lp_2 : ∀ (m_2 : Nat) (x2_2 : Int32) (I_2 : WI), Int.toNat (5 - (x2_2).toInt) < m_2 → (0 ≤ Int32.toInt x2_2 ∧ Int32.toInt x2_2 ≤ 5) → (Int32.toInt (I_2 a1 27) = Int32.toInt (I0 a1 27)) → SQ mX49 P K O I0 J0 I_2 J0 → Wp (lp (B_Mo_goesT_2 N O (a0) (a1) (J0)) (fun _ _ => none) m_2 x2_2 I_2) Q := by
    intro m_2
    induction m_2 with
    | zero => intro x2_2 I_2 hm; exact absurd hm (Nat.not_lt_zero _)
    | succ m_2 ih_2 =>
    intro x2_2 I_2 hm_2 iv0_2 iv1_2 hV_2
    have rg2_2 := rg x2_2
    show Wp (B_Mo_goesT_2 N O (a0) (a1) (J0) (lp (B_Mo_goesT_2 N O (a0) (a1) (J0)) (fun _ _ => none) m_2) x2_2 I_2) Q
    unfold B_Mo_goesT_2
    have o_7 := hV_2.1.2 (rf O a0 3) hN3.2.1 8
    rw [hN3.2.2] at o_7
    replace o_7 : 0 ≤ (I_2 (rf O a0 3) 8).toInt ∧ (I_2 (rf O a0 3) 8).toInt ≤ 5 := o_7
    refine Wp.ite (fun c_10 => ?_) (fun c_10 => ?_)
    · skip
      refine Wpc1 (s_Mo_sumOfT_G hN hV_2.1 h0 h1 hN3 (hGM.keep (fun k => (hV_2.2 (rf O a0 3) k (by rw [hN3.2.2]; rfl)).1)) (by have hk2 : Int32.toInt (Int32.ofInt (0)) = 0 := ofI (by decide); omega) (fun z_95 p_95 => ?_))
      have rz_95 := rg z_95
      refine Wp_lb (fun I2 eI2 => ?_)
      have hV2 : SQ mX49 P K O I0 J0 I2 J0 := by rw [eI2]; exact hV_2.putI h1.2 rfl trivial
      have tk2_a1_27 : (I2 a1 27).toInt = (I_2 a1 27).toInt := by rw [eI2, up2_ne _ _ (fun z => absurd z.2 (by decide))]
      have gm_110 : 1 ≤ (I2 (rf O a0 3) 0).toInt := (hGM.keep (fun k => (hV2.2 (rf O a0 3) k (by rw [hN3.2.2]; rfl)).1)).1
      refine Wp_jq (fun k_121 => ∀ (s0_121 : Int32), (Int32.toInt (I2 a1 27) = Int32.toInt (I0 a1 27)) → Wp (k_121 s0_121) Q) (fun s0_121 jv0_121  => ?_) (fun k_121 hk_121 => ?_)
      · skip
        have rgs_s0_121 := rg s0_121
        refine Wp_lb (fun I3 eI3 => ?_)
        have hV3 : SQ mX49 P K O I0 J0 I3 J0 := by rw [eI3]; exact hV2.putI h1.2 rfl trivial
        have tk3_a1_27 : (I3 a1 27).toInt = (I2 a1 27).toInt := by rw [eI3, up2_ne _ _ (fun z => absurd z.2 (by decide))]
        refine Wp_lb (fun I4 eI4 => ?_)
        have hV4 : SQ mX49 P K O I0 J0 I4 J0 := by rw [eI4]; exact hV3.putI h1.2 rfl trivial
        have tk4_a1_27 : (I4 a1 27).toInt = (I3 a1 27).toInt := by rw [eI4, up2_ne _ _ (fun z => absurd z.2 (by decide))]
        refine Wp_lb (fun I5 eI5 => ?_)
        have hV5 : SQ mX49 P K O I0 J0 I5 J0 := by rw [eI5]; exact hV4.putI h1.2 rfl trivial
        have tk5_a1_27 : (I5 a1 27).toInt = (I4 a1 27).toInt := by rw [eI5, up2_ne _ _ (fun z => absurd z.2 (by decide))]
        refine Wp_jq (fun k_152 => ∀ (IJ_152 : WI), (Int32.toInt (IJ_152 a1 27) = Int32.toInt (I0 a1 27)) → SQ mX49 P K O I0 J0 IJ_152 J0 → Wp (k_152 IJ_152) Q) (fun IJ_152 jv0_152 hVJ_152 => ?_) (fun k_152 hk_152 => ?_)
        · skip
          refine Wpc1 (s_Mo_sumOfT_G hN hVJ_152.1 h0 h1 hN3 (hGM.keep (fun k => (hVJ_152.2 (rf O a0 3) k (by rw [hN3.2.2]; rfl)).1)) (by have hk2 : Int32.toInt (Int32.ofInt (10)) = 10 := ofI (by decide); omega) (fun z_161 p_161 => ?_))
          have rz_161 := rg z_161
          first | (have e_164 := t_add (x := (IJ_152 a1 20)) (y := z_161) rfl rfl (by omega)) | skip
          refine Wp_lb (fun I7 eI7 => ?_)
          have hV7 : SQ mX49 P K O I0 J0 I7 J0 := by rw [eI7]; exact hVJ_152.putI h1.2 rfl trivial
          have tk7_a1_27 : (I7 a1 27).toInt = (IJ_152 a1 27).toInt := by rw [eI7, up2_ne _ _ (fun z => absurd z.2 (by decide))]
          refine Wp_jq (fun k_196 => ∀ (s0_196 : Int32), (Int32.toInt (I7 a1 27) = Int32.toInt (I0 a1 27)) → Wp (k_196 s0_196) Q) (fun s0_196 jv0_196  => ?_) (fun k_196 hk_196 => ?_)
          · skip
            have rgs_s0_196 := rg s0_196
            first | (have e_203 := t_add (x := (I7 a1 21)) (y := s0_196) rfl rfl (by omega)) | skip
            refine Wp_lb (fun I8 eI8 => ?_)
            have hV8 : SQ mX49 P K O I0 J0 I8 J0 := by rw [eI8]; exact hV7.putI h1.2 rfl trivial
            have tk8_a1_27 : (I8 a1 27).toInt = (I7 a1 27).toInt := by rw [eI8, up2_ne _ _ (fun z => absurd z.2 (by decide))]
            first | (have e_211 := t_sub (x := (I8 a1 20)) (y := s0_196) rfl rfl (by omega)) | skip
            refine Wp_lb (fun I9 eI9 => ?_)
            have hV9 : SQ mX49 P K O I0 J0 I9 J0 := by rw [eI9]; exact hV8.putI h1.2 rfl trivial
            have tk9_a1_27 : (I9 a1 27).toInt = (I8 a1 27).toInt := by rw [eI9, up2_ne _ _ (fun z => absurd z.2 (by decide))]
            refine Wp_jq (fun k_241 => ∀ (s0_241 : Int32), (Int32.toInt (I9 a1 27) = Int32.toInt (I0 a1 27)) → Wp (k_241 s0_241) Q) (fun s0_241 jv0_241  => ?_) (fun k_241 hk_241 => ?_)
            · skip
              have rgs_s0_241 := rg s0_241
              first | (have e_248 := t_sub (x := (I9 a1 20)) (y := s0_241) rfl rfl (by omega)) | skip
              refine Wp_lb (fun I10 eI10 => ?_)
              have hV10 : SQ mX49 P K O I0 J0 I10 J0 := by rw [eI10]; exact hV9.putI h1.2 rfl trivial
              have tk10_a1_27 : (I10 a1 27).toInt = (I9 a1 27).toInt := by rw [eI10, up2_ne _ _ (fun z => absurd z.2 (by decide))]
              first | (have e_256 := t_add (x := (I10 a1 22)) (y := s0_241) rfl rfl (by omega)) | skip
              refine Wp_lb (fun I11 eI11 => ?_)
              have hV11 : SQ mX49 P K O I0 J0 I11 J0 := by rw [eI11]; exact hV10.putI h1.2 rfl trivial
              have tk11_a1_27 : (I11 a1 27).toInt = (I10 a1 27).toInt := by rw [eI11, up2_ne _ _ (fun z => absurd z.2 (by decide))]
              first | (have e_271 := t_sub (x := (I11 (rf O a0 3) 6)) (y := s0_241) rfl rfl (by omega)) | skip
              first | (have e_272 := t_add (x := (I11 a1 23)) (y := ((I11 (rf O a0 3) 6) - s0_241)) rfl rfl (by omega)) | skip
              refine Wp_lb (fun I12 eI12 => ?_)
              have hV12 : SQ mX49 P K O I0 J0 I12 J0 := by rw [eI12]; exact hV11.putI h1.2 rfl trivial
              have tk12_a1_27 : (I12 a1 27).toInt = (I11 a1 27).toInt := by rw [eI12, up2_ne _ _ (fun z => absurd z.2 (by decide))]
              have gm_297 : 1 ≤ (I12 (rf O a0 3) 0).toInt := (hGM.keep (fun k => (hV12.2 (rf O a0 3) k (by rw [hN3.2.2]; rfl)).1)).1
              refine Wp.pos (by omega) ?_
              first | (have e_301 := t_sub (x := (I12 (rf O a0 3) 1)) (y := (((I12 (rf O a0 3) 1) * (I12 a1 28)) / (I12 (rf O a0 3) 0))) rfl rfl (by omega)) | skip
              refine Wp_lb (fun v4_302 ev_302 => ?_)
              have ei_302 := congrArg Int32.toInt ev_302
              have rv_302 := rg v4_302
              refine Wp_jq (fun k_318 => ∀ (s0_318 : Int32), (Int32.toInt (I12 a1 27) = Int32.toInt (I0 a1 27)) → Wp (k_318 s0_318) Q) (fun s0_318 jv0_318  => ?_) (fun k_318 hk_318 => ?_)
              · skip
                have rgs_s0_318 := rg s0_318
                refine Wp_lb (fun I13 eI13 => ?_)
                have hV13 : SQ mX49 P K O I0 J0 I13 J0 := by rw [eI13]; exact hV12.putI h1.2 rfl trivial
                have tk13_a1_27 : (I13 a1 27).toInt = (I12 a1 27).toInt := by rw [eI13, up2_ne _ _ (fun z => absurd z.2 (by decide))]
                have t_332 := rf_ok hV.1 hN3.2 (show sp 9 11 = some 42 from rfl)
                have o_338 := hV13.1.2 a1 h1.1 27
                rw [h1.2] at o_338
                replace o_338 : 0 ≤ (I13 a1 27).toInt ∧ (I13 a1 27).toInt ≤ 252 := o_338
                have o_343 := hV13.1.2 (rf O a0 3) hN3.2.1 7
                rw [hN3.2.2] at o_343
                replace o_343 : 0 ≤ (I13 (rf O a0 3) 7).toInt ∧ (I13 (rf O a0 3) 7).toInt ≤ 6 := o_343
                have gm_343 : 1 ≤ (I13 (rf O a0 3) 7).toInt := (hGM.keep (fun k => (hV13.2 (rf O a0 3) k (by rw [hN3.2.2]; rfl)).1)).2.2
                refine Wp.pos (by omega) ?_
                first | (have e_346 := tremF (x := (I13 a1 27)) (y := (I13 (rf O a0 3) 7)) rfl rfl (by omega)) | skip
                refine Wp.pos (by omega) ?_
                first | (have e_349 := t_add (x := (I13 a1 32)) (y := ((I13 a1 30) * (I13 (rf O (rf O a0 3) 11) (((I13 a1 27) - (I13 a1 27) / (I13 (rf O a0 3) 7) * (I13 (rf O a0 3) 7))).toInt.toNat))) rfl rfl (by omega)) | skip
                refine Wp_lb (fun I14 eI14 => ?_)
                have hV14 : SQ mX49 P K O I0 J0 I14 J0 := by rw [eI14]; exact hV13.putI h1.2 rfl trivial
                have tk14_a1_27 : (I14 a1 27).toInt = (I13 a1 27).toInt := by rw [eI14, up2_ne _ _ (fun z => absurd z.2 (by decide))]
                first | (have e_357 := t_add (x := (I14 a1 24)) (y := (Int32.ofInt (1))) rfl (ofI (by decide)) (by omega)) | skip
                refine Wp_lb (fun I15 eI15 => ?_)
                have hV15 : SQ mX49 P K O I0 J0 I15 J0 := by rw [eI15]; exact hV14.putI h1.2 rfl trivial
                have tk15_a1_27 : (I15 a1 27).toInt = (I14 a1 27).toInt := by rw [eI15, up2_ne _ _ (fun z => absurd z.2 (by decide))]
                have o_363 := hV15.1.2 a1 h1.1 27
                rw [h1.2] at o_363
                replace o_363 : 0 ≤ (I15 a1 27).toInt ∧ (I15 a1 27).toInt ≤ 252 := o_363
                first | (have e_365 := t_add (x := (I15 a1 27)) (y := (Int32.ofInt (1))) rfl (ofI (by decide)) (by omega)) | skip
                refine Wp_lb (fun I16 eI16 => ?_)
                have hV16 : SQ mX49 P K O I0 J0 I16 J0 := by rw [eI16]; exact hV15.putI h1.2 rfl (show 0 ≤ Int32.toInt _ ∧ Int32.toInt _ ≤ 252 from by omega)
                have tk16_a1_27 : (I16 a1 27).toInt = (((I15 a1 27) + (Int32.ofInt (1)))).toInt := by rw [eI16, up2_self]
                exact Wp.ret (hQ I16 hV16.1 hV16.2 (by first | omega | (dsimp only; omega)))
              refine Wp.ite (fun c_309 => ?_) (fun c_309 => ?_)
              · skip
                exact hk_318 (v4_302) (by omega) 
              · skip
                exact hk_318 ((Int32.ofInt (0))) (by omega) 
            refine Wp.ite (fun c_224 => ?_) (fun c_224 => ?_)
            · skip
              exact hk_241 ((I9 (rf O a0 3) 6)) (by omega) 
            · skip
              exact hk_241 ((I9 a1 20)) (by omega) 
          refine Wp.ite (fun c_177 => ?_) (fun c_177 => ?_)
          · skip
            exact hk_196 ((Int32.ofInt (0))) (by omega) 
          · skip
            first | (have e_191 := t_sub (x := (I7 a1 20)) (y := (I7 (rf O a0 3) 5)) rfl rfl (by omega)) | skip
            exact hk_196 (((I7 a1 20) - (I7 (rf O a0 3) 5))) (by omega) 
        refine Wp.ite (fun c_136 => ?_) (fun c_136 => ?_)
        · skip
          refine Wpc1 (s_Mo_grindsT_G hN hV5.1 h0 h1 hN3 (hGM.keep (fun k => (hV5.2 (rf O a0 3) k (by rw [hN3.2.2]; rfl)).1)) (fun I17 hI17 hF17 p_141 => ?_))
          have hV17 : SQ mX49 P K O I0 J0 I17 J0 := hV5.call (fun _ _ h => h) hI17 hF17
          try dsimp only at p_141
          exact hk_152  I17 (by omega) hV17
        · skip
          refine Wpc1 (s_Mo_digsT_G hN hV5.1 h0 h1 hN3 (hGM.keep (fun k => (hV5.2 (rf O a0 3) k (by rw [hN3.2.2]; rfl)).1)) (fun I18 hI18 hF18 p_149 => ?_))
          have hV18 : SQ mX49 P K O I0 J0 I18 J0 := hV5.call (fun _ _ h => h) hI18 hF18
          try dsimp only at p_149
          exact hk_152  I18 (by omega) hV18
      refine Wp.ite (fun c_113 => ?_) (fun c_113 => ?_)
      · skip
        exact hk_121 ((Int32.ofInt (0))) (by omega) 
      · skip
        exact hk_121 ((Int32.ofInt (1))) (by omega) 
    · skip
      refine Wp_jq (fun k_46 => ∀ (s0_46 : Int32), (Int32.toInt (I_2 a1 27) = Int32.toInt (I0 a1 27)) → Wp (k_46 s0_46) Q) (fun s0_46 jv0_46  => ?_) (fun k_46 hk_46 => ?_)
      · skip
        have rgs_s0_46 := rg s0_46
        first | (have e_53 := t_add (x := (I_2 a1 33)) (y := s0_46) rfl rfl (by omega)) | skip
        refine Wp_lb (fun I19 eI19 => ?_)
        have hV19 : SQ mX49 P K O I0 J0 I19 J0 := by rw [eI19]; exact hV_2.putI h1.2 rfl trivial
        have tk19_a1_27 : (I19 a1 27).toInt = (I_2 a1 27).toInt := by rw [eI19, up2_ne _ _ (fun z => absurd z.2 (by decide))]
        first | (have e_58 := t_add (x := (Int32.ofInt (0))) (y := x2_2) (ofI (by decide)) rfl (by omega)) | skip
        refine Wp.pos (by omega) ?_
        first | (have e_65 := t_add (x := (Int32.ofInt (5))) (y := x2_2) (ofI (by decide)) rfl (by omega)) | skip
        refine Wp.pos (by omega) ?_
        first | (have e_67 := t_add (x := s0_46) (y := (I19 a1 (((Int32.ofInt (5)) + x2_2)).toInt.toNat)) rfl rfl (by omega)) | skip
        first | (have e_68 := t_add (x := (I19 a1 (((Int32.ofInt (0)) + x2_2)).toInt.toNat)) (y := (s0_46 + (I19 a1 (((Int32.ofInt (5)) + x2_2)).toInt.toNat))) rfl rfl (by omega)) | skip
        refine Wp.pos (by omega) ?_
        refine Wp_lb (fun I20 eI20 => ?_)
        have hV20 : SQ mX49 P K O I0 J0 I20 J0 := by rw [eI20]; exact hV19.putI h1.2 rfl (okS (by decide) (by omega) (by omega))
        have tk20_a1_27 : (I20 a1 27).toInt = (I19 a1 27).toInt := by rw [eI20, up2_ne _ _ (fun z => by omega)]
        first | (have e_73 := t_add (x := (Int32.ofInt (5))) (y := x2_2) (ofI (by decide)) rfl (by omega)) | skip
        refine Wp.pos (by omega) ?_
        refine Wp_lb (fun I21 eI21 => ?_)
        have hV21 : SQ mX49 P K O I0 J0 I21 J0 := by rw [eI21]; exact hV20.putI h1.2 rfl (okS (by decide) (by omega) (by omega))
        have tk21_a1_27 : (I21 a1 27).toInt = (I20 a1 27).toInt := by rw [eI21, up2_ne _ _ (fun z => by omega)]
        first | (have e_80 := t_add (x := (Int32.ofInt (10))) (y := x2_2) (ofI (by decide)) rfl (by omega)) | skip
        refine Wp.pos (by omega) ?_
        refine Wp_lb (fun I22 eI22 => ?_)
        have hV22 : SQ mX49 P K O I0 J0 I22 J0 := by rw [eI22]; exact hV21.putI h1.2 rfl (okS (by decide) (by omega) (by omega))
        have tk22_a1_27 : (I22 a1 27).toInt = (I21 a1 27).toInt := by rw [eI22, up2_ne _ _ (fun z => by omega)]
        refine Wp_lb (fun v2_83 ev_83 => ?_)
        have rv_83 := rg v2_83
        first | (have e_83 : v2_83.toInt = (x2_2).toInt + 1 := by rw [ev_83]; exact t_add rfl (ofI (by decide)) (by omega)) | skip
        clear ev_83
        exact ih_2 (v2_83) I22 (by omega) (by omega) (by omega) hV22
      refine Wp.ite (fun c_18 => ?_) (fun c_18 => ?_)
      · skip
        exact hk_46 ((Int32.ofInt (0))) (by omega) 
      · skip
        have t_33 := rf_ok hV.1 hN3.2 (show sp 9 15 = some 45 from rfl)
        have o_40 := hV_2.1.2 a1 h1.1 36
        rw [h1.2] at o_40
        replace o_40 : 0 ≤ (I_2 a1 36).toInt ∧ (I_2 a1 36).toInt ≤ 3 := o_40
        first | (have e_41 := t_mul (x := (Int32.ofInt (5))) (y := (I_2 a1 36)) (ofI (by decide)) rfl (by omega)) | skip
        first | (have e_43 := t_add (x := ((Int32.ofInt (5)) * (I_2 a1 36))) (y := x2_2) rfl rfl (by omega)) | skip
        refine Wp.pos (by omega) ?_
        exact hk_46 (((I_2 a1 34) * (I_2 (rf O (rf O a0 3) 15) ((((Int32.ofInt (5)) * (I_2 a1 36)) + x2_2)).toInt.toNat))) (by omega) 
  exact lp_2 N ((Int32.ofInt (0))) I0 (by have hci0 : Int32.toInt (Int32.ofInt (0)) = 0 := ofI (by decide); omega) (by have hci0 : Int32.toInt (Int32.ofInt (0)) = 0 := ofI (by decide); omega) (by omega) hV0
set_option maxHeartbeats 4000000 in
set_option maxRecDepth 100000 in
theorem s_Mo_digsU_G {P : List Nat} {K : Nat → Nat} {N : Nat} {O : WO} {I0 : WI} {J0 : WJ} (hN : 2147483648 ≤ N) (hV : IV P K I0 O) {a0 : Nat} (h0 : a0 ∈ P ∧ K a0 = 10) {a1 : Nat} (h1 : a1 ∈ P ∧ K a1 = 50) (hN3 : NN P K O a0 3 9) (hGM : GM I0 (rf O a0 3)) {Q : WI → Prop} (hQ : ∀ (I_ : WI), IV P K I_ O → FQ mX50 K I0 J0 I_ J0 → ((I_ a1 27).toInt = (I0 a1 27).toInt) → Q I_) : Wp (F_Mo_digsU N O I0 J0 a0 a1) Q := by
  unfold F_Mo_digsU
  have hMs : ¬ O a0 3 = none := by rw [hN3.1]; exact fun z => by cases z
  have hV0 : SQ mX50 P K O I0 J0 I0 J0 := SQ.rf hV
  have lp_2 : ∀ (m_2 : Nat) (x2_2 : Int32) (I_2 : WI), Int.toNat (5 - (x2_2).toInt) < m_2 → (0 ≤ Int32.toInt x2_2 ∧ Int32.toInt x2_2 ≤ 5) → ((I_2 a1 27).toInt = (I0 a1 27).toInt) → SQ mX50 P K O I0 J0 I_2 J0 → Wp (lp (B_Mo_digsU_2 N O (a0) (a1)) (fun _ _ => none) m_2 x2_2 I_2) Q := by
    intro m_2
    induction m_2 with
    | zero => intro x2_2 I_2 hm; exact absurd hm (Nat.not_lt_zero _)
    | succ m_2 ih_2 =>
    intro x2_2 I_2 hm_2 iv0_2 iv1_2 hV_2
    have rg2_2 := rg x2_2
    show Wp (B_Mo_digsU_2 N O (a0) (a1) (lp (B_Mo_digsU_2 N O (a0) (a1)) (fun _ _ => none) m_2) x2_2 I_2) Q
    unfold B_Mo_digsU_2
    have o_7 := hV_2.1.2 (rf O a0 3) hN3.2.1 8
    rw [hN3.2.2] at o_7
    replace o_7 : 0 ≤ (I_2 (rf O a0 3) 8).toInt ∧ (I_2 (rf O a0 3) 8).toInt ≤ 5 := o_7
    refine Wp.ite (fun c_10 => ?_) (fun c_10 => ?_)
    · skip
      exact Wp.ret (hQ I_2 hV_2.1 hV_2.2 (by first | omega | (dsimp only; omega)))
    · skip
      first | (have e_16 := t_add (x := (Int32.ofInt (0))) (y := x2_2) (ofI (by decide)) rfl (by omega)) | skip
      refine Wp.pos (by omega) ?_
      first | (have e_20 := tdivF (x := (I_2 a1 (((Int32.ofInt (0)) + x2_2)).toInt.toNat)) (y := (Int32.ofInt (10))) rfl (ofI (by decide)) (by decide)) | skip
      first | (have e_22 := t_add (x := ((I_2 a1 (((Int32.ofInt (0)) + x2_2)).toInt.toNat) / (Int32.ofInt (10)))) (y := (Int32.ofInt (1))) rfl (ofI (by decide)) (by omega)) | skip
      first | (have e_26 := t_add (x := (Int32.ofInt (0))) (y := x2_2) (ofI (by decide)) rfl (by omega)) | skip
      refine Wp.pos (by omega) ?_
      refine Wp_jq (fun k_49 => ∀ (s0_49 : Int32), Wp (k_49 s0_49) Q) (fun s0_49   => ?_) (fun k_49 hk_49 => ?_)
      · skip
        have rgs_s0_49 := rg s0_49
        first | (have e_53 := t_add (x := (Int32.ofInt (0))) (y := x2_2) (ofI (by decide)) rfl (by omega)) | skip
        refine Wp.pos (by omega) ?_
        first | (have e_57 := t_sub (x := (I_2 a1 (((Int32.ofInt (0)) + x2_2)).toInt.toNat)) (y := s0_49) rfl rfl (by omega)) | skip
        refine Wp.pos (by omega) ?_
        refine Wp_lb (fun I1 eI1 => ?_)
        have hV1 : SQ mX50 P K O I0 J0 I1 J0 := by rw [eI1]; exact hV_2.putI h1.2 rfl (okS (by decide) (by omega) (by omega))
        have tk1_a1_27 : (I1 a1 27).toInt = (I_2 a1 27).toInt := by rw [eI1, up2_ne _ _ (fun z => by omega)]
        first | (have e_65 := t_add (x := (I1 a1 21)) (y := s0_49) rfl rfl (by omega)) | skip
        refine Wp_lb (fun I2 eI2 => ?_)
        have hV2 : SQ mX50 P K O I0 J0 I2 J0 := by rw [eI2]; exact hV1.putI h1.2 rfl trivial
        have tk2_a1_27 : (I2 a1 27).toInt = (I1 a1 27).toInt := by rw [eI2, up2_ne _ _ (fun z => absurd z.2 (by decide))]
        refine Wp_lb (fun v2_67 ev_67 => ?_)
        have rv_67 := rg v2_67
        first | (have e_67 : v2_67.toInt = (x2_2).toInt + 1 := by rw [ev_67]; exact t_add rfl (ofI (by decide)) (by omega)) | skip
        clear ev_67
        exact ih_2 (v2_67) I2 (by omega) (by omega) (by omega) hV2
      refine Wp.ite (fun c_28 => ?_) (fun c_28 => ?_)
      · skip
        first | (have e_42 := t_add (x := (Int32.ofInt (0))) (y := x2_2) (ofI (by decide)) rfl (by omega)) | skip
        refine Wp.pos (by omega) ?_
        first | (have e_46 := tdivF (x := (I_2 a1 (((Int32.ofInt (0)) + x2_2)).toInt.toNat)) (y := (Int32.ofInt (10))) rfl (ofI (by decide)) (by decide)) | skip
        first | (have e_48 := t_add (x := ((I_2 a1 (((Int32.ofInt (0)) + x2_2)).toInt.toNat) / (Int32.ofInt (10)))) (y := (Int32.ofInt (1))) rfl (ofI (by decide)) (by omega)) | skip
        exact hk_49 ((((I_2 a1 (((Int32.ofInt (0)) + x2_2)).toInt.toNat) / (Int32.ofInt (10))) + (Int32.ofInt (1))))  
      · skip
        first | (have e_34 := t_add (x := (Int32.ofInt (0))) (y := x2_2) (ofI (by decide)) rfl (by omega)) | skip
        refine Wp.pos (by omega) ?_
        exact hk_49 ((I_2 a1 (((Int32.ofInt (0)) + x2_2)).toInt.toNat))  
  exact lp_2 N ((Int32.ofInt (0))) I0 (by have hci0 : Int32.toInt (Int32.ofInt (0)) = 0 := ofI (by decide); omega) (by have hci0 : Int32.toInt (Int32.ofInt (0)) = 0 := ofI (by decide); omega) (by omega) hV0
set_option maxHeartbeats 4000000 in
set_option maxRecDepth 100000 in
theorem s_Mo_grindsU_G {P : List Nat} {K : Nat → Nat} {N : Nat} {O : WO} {I0 : WI} {J0 : WJ} (hN : 2147483648 ≤ N) (hV : IV P K I0 O) {a0 : Nat} (h0 : a0 ∈ P ∧ K a0 = 10) {a1 : Nat} (h1 : a1 ∈ P ∧ K a1 = 50) (hN3 : NN P K O a0 3 9) (hGM : GM I0 (rf O a0 3)) {Q : WI → Prop} (hQ : ∀ (I_ : WI), IV P K I_ O → FQ mX50 K I0 J0 I_ J0 → ((I_ a1 27).toInt = (I0 a1 27).toInt) → Q I_) : Wp (F_Mo_grindsU N O I0 J0 a0 a1) Q := by
  unfold F_Mo_grindsU
  have hMs : ¬ O a0 3 = none := by rw [hN3.1]; exact fun z => by cases z
  have hV0 : SQ mX50 P K O I0 J0 I0 J0 := SQ.rf hV
  have o_15 := hV0.1.2 a1 h1.1 36
  rw [h1.2] at o_15
  replace o_15 : 0 ≤ (I0 a1 36).toInt ∧ (I0 a1 36).toInt ≤ 3 := o_15
  refine Wpc1 (s_Mo_effectOf_G hN hV0.1 h0 hN3 (hGM.keep (fun k => (hV0.2 (rf O a0 3) k (by rw [hN3.2.2]; rfl)).1)) (by omega) (fun z_16 p_16 => ?_))
  have rz_16 := rg z_16
  refine Wp_lb (fun I2 eI2 => ?_)
  have hV2 : SQ mX50 P K O I0 J0 I2 J0 := by rw [eI2]; exact hV0.putI h1.2 rfl trivial
  have tk2_a1_27 : (I2 a1 27).toInt = (I0 a1 27).toInt := by rw [eI2, up2_ne _ _ (fun z => absurd z.2 (by decide))]
  first | (have e_34 := tdivF (x := ((I2 a1 28) * (I2 a1 29))) (y := (Int32.ofInt (100))) rfl (ofI (by decide)) (by decide)) | skip
  refine Wp_lb (fun I3 eI3 => ?_)
  have hV3 : SQ mX50 P K O I0 J0 I3 J0 := by rw [eI3]; exact hV2.putI h1.2 rfl trivial
  have tk3_a1_27 : (I3 a1 27).toInt = (I2 a1 27).toInt := by rw [eI3, up2_ne _ _ (fun z => absurd z.2 (by decide))]
  have o_40 := hV3.1.2 (rf O a0 3) hN3.2.1 8
  rw [hN3.2.2] at o_40
  replace o_40 : 0 ≤ (I3 (rf O a0 3) 8).toInt ∧ (I3 (rf O a0 3) 8).toInt ≤ 5 := o_40
  first | (have e_44 := t_sub (x := (I3 (rf O a0 3) 8)) (y := (Int32.ofInt (2))) rfl (ofI (by decide)) (by omega)) | skip
  refine Wp_lb (fun v2_45 ev_45 => ?_)
  have ei_45 := congrArg Int32.toInt ev_45
  have rv_45 := rg v2_45
  have lp_46 : ∀ (m_46 : Nat) (x2_46 : Int32) (I_46 : WI), Int.toNat ((x2_46).toInt + 3) < m_46 → (-2 ≤ Int32.toInt x2_46 ∧ Int32.toInt x2_46 ≤ 3) → ((I_46 a1 27).toInt = (I0 a1 27).toInt) → SQ mX50 P K O I0 J0 I_46 J0 → Wp (lp (B_Mo_grindsU_46 N O (a0) (a1) (J0)) (fun _ _ => none) m_46 x2_46 I_46) Q := by
    intro m_46
    induction m_46 with
    | zero => intro x2_46 I_46 hm; exact absurd hm (Nat.not_lt_zero _)
    | succ m_46 ih_46 =>
    intro x2_46 I_46 hm_46 iv0_46 iv1_46 hV_46
    have rg2_46 := rg x2_46
    show Wp (B_Mo_grindsU_46 N O (a0) (a1) (J0) (lp (B_Mo_grindsU_46 N O (a0) (a1) (J0)) (fun _ _ => none) m_46) x2_46 I_46) Q
    unfold B_Mo_grindsU_46
    refine Wp.ite (fun c_47 => ?_) (fun c_47 => ?_)
    · skip
      have lp_153 : ∀ (m_153 : Nat) (x2_153 : Int32) (I_153 : WI), Int.toNat (5 - (x2_153).toInt) < m_153 → (0 ≤ Int32.toInt x2_153 ∧ Int32.toInt x2_153 ≤ 5) → ((I_153 a1 27).toInt = (I0 a1 27).toInt) → SQ mX50 P K O I0 J0 I_153 J0 → Wp (lp (B_Mo_grindsU_153 N O (a0) (a1) (J0)) (fun _ _ => none) m_153 x2_153 I_153) Q := by
        intro m_153
        induction m_153 with
        | zero => intro x2_153 I_153 hm; exact absurd hm (Nat.not_lt_zero _)
        | succ m_153 ih_153 =>
        intro x2_153 I_153 hm_153 iv0_153 iv1_153 hV_153
        have rg2_153 := rg x2_153
        show Wp (B_Mo_grindsU_153 N O (a0) (a1) (J0) (lp (B_Mo_grindsU_153 N O (a0) (a1) (J0)) (fun _ _ => none) m_153) x2_153 I_153) Q
        unfold B_Mo_grindsU_153
        have o_158 := hV_153.1.2 (rf O a0 3) hN3.2.1 8
        rw [hN3.2.2] at o_158
        replace o_158 : 0 ≤ (I_153 (rf O a0 3) 8).toInt ∧ (I_153 (rf O a0 3) 8).toInt ≤ 5 := o_158
        refine Wp.ite (fun c_161 => ?_) (fun c_161 => ?_)
        · skip
          exact Wp.ret (hQ I_153 hV_153.1 hV_153.2 (by first | omega | (dsimp only; omega)))
        · skip
          first | (have e_167 := t_add (x := (Int32.ofInt (0))) (y := x2_153) (ofI (by decide)) rfl (by omega)) | skip
          refine Wp.pos (by omega) ?_
          first | (have e_177 := t_mul (x := (Int32.ofInt (10))) (y := (I_153 a1 35)) (ofI (by decide)) rfl (by omega)) | skip
          first | (have e_178 := t_add (x := (Int32.ofInt (20))) (y := ((Int32.ofInt (10)) * (I_153 a1 35))) (ofI (by decide)) rfl (by omega)) | skip
          first | (have e_182 := tdivF (x := ((I_153 a1 (((Int32.ofInt (0)) + x2_153)).toInt.toNat) * ((Int32.ofInt (20)) + ((Int32.ofInt (10)) * (I_153 a1 35))))) (y := (Int32.ofInt (100))) rfl (ofI (by decide)) (by decide)) | skip
          refine Wp_lb (fun v3_183 ev_183 => ?_)
          have ei_183 := congrArg Int32.toInt ev_183
          have rv_183 := rg v3_183
          refine Wpc1 (s_Mo_passes_G hN hV_153.1 h0 hN3 (hGM.keep (fun k => (hV_153.2 (rf O a0 3) k (by rw [hN3.2.2]; rfl)).1)) (fun z_191 p_191 => ?_))
          have rz_191 := rg z_191
          first | (have e_197 := tdivF (x := (v3_183 * z_191)) (y := (Int32.ofInt (100))) rfl (ofI (by decide)) (by decide)) | skip
          refine Wp_lb (fun v4_198 ev_198 => ?_)
          have ei_198 := congrArg Int32.toInt ev_198
          have rv_198 := rg v4_198
          first | (have e_203 := t_add (x := (Int32.ofInt (0))) (y := x2_153) (ofI (by decide)) rfl (by omega)) | skip
          refine Wp.pos (by omega) ?_
          first | (have e_207 := t_sub (x := (I_153 a1 (((Int32.ofInt (0)) + x2_153)).toInt.toNat)) (y := v3_183) rfl rfl (by omega)) | skip
          refine Wp.pos (by omega) ?_
          refine Wp_lb (fun I5 eI5 => ?_)
          have hV5 : SQ mX50 P K O I0 J0 I5 J0 := by rw [eI5]; exact hV_153.putI h1.2 rfl (okS (by decide) (by omega) (by omega))
          have tk5_a1_27 : (I5 a1 27).toInt = (I_153 a1 27).toInt := by rw [eI5, up2_ne _ _ (fun z => by omega)]
          first | (have e_213 := t_add (x := (Int32.ofInt (10))) (y := x2_153) (ofI (by decide)) rfl (by omega)) | skip
          refine Wp.pos (by omega) ?_
          refine Wp_lb (fun I6 eI6 => ?_)
          have hV6 : SQ mX50 P K O I0 J0 I6 J0 := by rw [eI6]; exact hV5.putI h1.2 rfl (okS (by decide) (by omega) (by omega))
          have tk6_a1_27 : (I6 a1 27).toInt = (I5 a1 27).toInt := by rw [eI6, up2_ne _ _ (fun z => by omega)]
          first | (have e_221 := t_add (x := (Int32.ofInt (15))) (y := x2_153) (ofI (by decide)) rfl (by omega)) | skip
          refine Wp.pos (by omega) ?_
          first | (have e_226 := t_add (x := (I6 a1 (((Int32.ofInt (15)) + x2_153)).toInt.toNat)) (y := v4_198) rfl rfl (by omega)) | skip
          refine Wp.pos (by omega) ?_
          refine Wp_lb (fun I7 eI7 => ?_)
          have hV7 : SQ mX50 P K O I0 J0 I7 J0 := by rw [eI7]; exact hV6.putI h1.2 rfl (okS (by decide) (by omega) (by omega))
          have tk7_a1_27 : (I7 a1 27).toInt = (I6 a1 27).toInt := by rw [eI7, up2_ne _ _ (fun z => by omega)]
          first | (have e_231 := t_add (x := (Int32.ofInt (5))) (y := x2_153) (ofI (by decide)) rfl (by omega)) | skip
          first | (have e_235 := t_sub (x := v3_183) (y := v4_198) rfl rfl (by omega)) | skip
          refine Wp.pos (by omega) ?_
          refine Wp_lb (fun I8 eI8 => ?_)
          have hV8 : SQ mX50 P K O I0 J0 I8 J0 := by rw [eI8]; exact hV7.putI h1.2 rfl (okS (by decide) (by omega) (by omega))
          have tk8_a1_27 : (I8 a1 27).toInt = (I7 a1 27).toInt := by rw [eI8, up2_ne _ _ (fun z => by omega)]
          refine Wp_lb (fun v2_237 ev_237 => ?_)
          have rv_237 := rg v2_237
          first | (have e_237 : v2_237.toInt = (x2_153).toInt + 1 := by rw [ev_237]; exact t_add rfl (ofI (by decide)) (by omega)) | skip
          clear ev_237
          exact ih_153 (v2_237) I8 (by omega) (by omega) (by omega) hV8
      exact lp_153 N ((Int32.ofInt (0))) I_46 (by have hci0 : Int32.toInt (Int32.ofInt (0)) = 0 := ofI (by decide); omega) (by have hci0 : Int32.toInt (Int32.ofInt (0)) = 0 := ofI (by decide); omega) (by omega) hV_46
    · skip
      first | (have e_53 := t_add (x := (Int32.ofInt (0))) (y := x2_46) (ofI (by decide)) rfl (by omega)) | skip
      refine Wp.pos (by omega) ?_
      have t_59 := rf_ok hV.1 hN3.2 (show sp 9 12 = some 43 from rfl)
      refine Wp.pos (by omega) ?_
      first | (have e_73 := tdivF (x := (((I_46 a1 (((Int32.ofInt (0)) + x2_46)).toInt.toNat) * (I_46 (rf O (rf O a0 3) 12) (x2_46).toInt.toNat)) * (I_46 a1 29))) (y := (Int32.ofInt (10000))) rfl (ofI (by decide)) (by decide)) | skip
      refine Wp_lb (fun v3_74 ev_74 => ?_)
      have ei_74 := congrArg Int32.toInt ev_74
      have rv_74 := rg v3_74
      have t_80 := rf_ok hV.1 hN3.2 (show sp 9 13 = some 43 from rfl)
      refine Wp.pos (by omega) ?_
      first | (have e_88 := tdivF (x := (v3_74 * (I_46 (rf O (rf O a0 3) 13) (x2_46).toInt.toNat))) (y := (Int32.ofInt (100))) rfl (ofI (by decide)) (by decide)) | skip
      refine Wp_lb (fun v4_89 ev_89 => ?_)
      have ei_89 := congrArg Int32.toInt ev_89
      have rv_89 := rg v4_89
      first | (have e_94 := t_add (x := (Int32.ofInt (0))) (y := x2_46) (ofI (by decide)) rfl (by omega)) | skip
      refine Wp.pos (by omega) ?_
      first | (have e_98 := t_sub (x := (I_46 a1 (((Int32.ofInt (0)) + x2_46)).toInt.toNat)) (y := v3_74) rfl rfl (by omega)) | skip
      refine Wp.pos (by omega) ?_
      refine Wp_lb (fun I9 eI9 => ?_)
      have hV9 : SQ mX50 P K O I0 J0 I9 J0 := by rw [eI9]; exact hV_46.putI h1.2 rfl (okS (by decide) (by omega) (by omega))
      have tk9_a1_27 : (I9 a1 27).toInt = (I_46 a1 27).toInt := by rw [eI9, up2_ne _ _ (fun z => by omega)]
      first | (have e_103 := t_add (x := (Int32.ofInt (0))) (y := x2_46) (ofI (by decide)) rfl (by omega)) | skip
      first | (have e_105 := t_add (x := ((Int32.ofInt (0)) + x2_46)) (y := (Int32.ofInt (1))) rfl (ofI (by decide)) (by omega)) | skip
      refine Wp.pos (by omega) ?_
      first | (have e_110 := t_add (x := (I9 a1 ((((Int32.ofInt (0)) + x2_46) + (Int32.ofInt (1)))).toInt.toNat)) (y := v4_89) rfl rfl (by omega)) | skip
      refine Wp.pos (by omega) ?_
      refine Wp_lb (fun I10 eI10 => ?_)
      have hV10 : SQ mX50 P K O I0 J0 I10 J0 := by rw [eI10]; exact hV9.putI h1.2 rfl (okS (by decide) (by omega) (by omega))
      have tk10_a1_27 : (I10 a1 27).toInt = (I9 a1 27).toInt := by rw [eI10, up2_ne _ _ (fun z => by omega)]
      first | (have e_116 := t_add (x := x2_46) (y := (Int32.ofInt (2))) rfl (ofI (by decide)) (by omega)) | skip
      have o_121 := hV10.1.2 (rf O a0 3) hN3.2.1 8
      rw [hN3.2.2] at o_121
      replace o_121 : 0 ≤ (I10 (rf O a0 3) 8).toInt ∧ (I10 (rf O a0 3) 8).toInt ≤ 5 := o_121
      refine Wp_jq (fun k_136 => ∀ (s0_136 : Int32), (0 ≤ Int32.toInt s0_136 ∧ Int32.toInt s0_136 ≤ 4) → Wp (k_136 s0_136) Q) (fun s0_136 jv0_136  => ?_) (fun k_136 hk_136 => ?_)
      · skip
        have rgs_s0_136 := rg s0_136
        first | (have e_136 := t_add (x := (Int32.ofInt (0))) (y := s0_136) (ofI (by decide)) rfl (by omega)) | skip
        refine Wp.pos (by omega) ?_
        first | (have e_142 := t_sub (x := v3_74) (y := v4_89) rfl rfl (by omega)) | skip
        first | (have e_143 := t_add (x := (I10 a1 (((Int32.ofInt (0)) + s0_136)).toInt.toNat)) (y := (v3_74 - v4_89)) rfl rfl (by omega)) | skip
        refine Wp.pos (by omega) ?_
        refine Wp_lb (fun I11 eI11 => ?_)
        have hV11 : SQ mX50 P K O I0 J0 I11 J0 := by rw [eI11]; exact hV10.putI h1.2 rfl (okS (by decide) (by omega) (by omega))
        have tk11_a1_27 : (I11 a1 27).toInt = (I10 a1 27).toInt := by rw [eI11, up2_ne _ _ (fun z => by omega)]
        refine Wp_lb (fun v2_145 ev_145 => ?_)
        have rv_145 := rg v2_145
        first | (have e_145 : v2_145.toInt = (x2_46).toInt + (-1) := by rw [ev_145]; exact t_add rfl (ofI (by decide)) (by omega)) | skip
        clear ev_145
        exact ih_46 (v2_145) I11 (by omega) (by omega) (by omega) hV11
      refine Wp.ite (fun c_124 => ?_) (fun c_124 => ?_)
      · skip
        first | (have e_135 := t_add (x := x2_46) (y := (Int32.ofInt (1))) rfl (ofI (by decide)) (by omega)) | skip
        exact hk_136 ((x2_46 + (Int32.ofInt (1)))) (by omega) 
      · skip
        first | (have e_129 := t_add (x := x2_46) (y := (Int32.ofInt (2))) rfl (ofI (by decide)) (by omega)) | skip
        exact hk_136 ((x2_46 + (Int32.ofInt (2)))) (by omega) 
  exact lp_46 N (v2_45) I3 (by omega) (by omega) (by omega) hV3
set_option maxHeartbeats 4000000 in
set_option maxRecDepth 100000 in
theorem s_Mo_goesU_G {P : List Nat} {K : Nat → Nat} {N : Nat} {O : WO} {I0 : WI} {J0 : WJ} (hN : 2147483648 ≤ N) (hV : IV P K I0 O) {a0 : Nat} (h0 : a0 ∈ P ∧ K a0 = 10) {a1 : Nat} (h1 : a1 ∈ P ∧ K a1 = 50) (hN3 : NN P K O a0 3 9) (hGM : GM I0 (rf O a0 3)) (pr0 : Int32.toInt (I0 a1 27) ≤ 251) {Q : WI → Prop} (hQ : ∀ (I_ : WI), IV P K I_ O → FQ mX50 K I0 J0 I_ J0 → (Int32.toInt (I_ a1 27) = Int32.toInt (I0 a1 27) + 1) → Q I_) : Wp (F_Mo_goesU N O I0 J0 a0 a1) Q := by
  unfold F_Mo_goesU
  have hMs : ¬ O a0 3 = none := by rw [hN3.1]; exact fun z => by cases z
  have hV0 : SQ mX50 P K O I0 J0 I0 J0 := SQ.rf hV
  have lp_2 : ∀ (m_2 : Nat) (x2_2 : Int32) (I_2 : WI), Int.toNat (5 - (x2_2).toInt) < m_2 → (0 ≤ Int32.toInt x2_2 ∧ Int32.toInt x2_2 ≤ 5) → (Int32.toInt (I_2 a1 27) = Int32.toInt (I0 a1 27)) → SQ mX50 P K O I0 J0 I_2 J0 → Wp (lp (B_Mo_goesU_2 N O (a0) (a1) (J0)) (fun _ _ => none) m_2 x2_2 I_2) Q := by
    intro m_2
    induction m_2 with
    | zero => intro x2_2 I_2 hm; exact absurd hm (Nat.not_lt_zero _)
    | succ m_2 ih_2 =>
    intro x2_2 I_2 hm_2 iv0_2 iv1_2 hV_2
    have rg2_2 := rg x2_2
    show Wp (B_Mo_goesU_2 N O (a0) (a1) (J0) (lp (B_Mo_goesU_2 N O (a0) (a1) (J0)) (fun _ _ => none) m_2) x2_2 I_2) Q
    unfold B_Mo_goesU_2
    have o_7 := hV_2.1.2 (rf O a0 3) hN3.2.1 8
    rw [hN3.2.2] at o_7
    replace o_7 : 0 ≤ (I_2 (rf O a0 3) 8).toInt ∧ (I_2 (rf O a0 3) 8).toInt ≤ 5 := o_7
    refine Wp.ite (fun c_10 => ?_) (fun c_10 => ?_)
    · skip
      refine Wpc1 (s_Mo_sumOfU_G hN hV_2.1 h0 h1 hN3 (hGM.keep (fun k => (hV_2.2 (rf O a0 3) k (by rw [hN3.2.2]; rfl)).1)) (by have hk2 : Int32.toInt (Int32.ofInt (0)) = 0 := ofI (by decide); omega) (fun z_95 p_95 => ?_))
      have rz_95 := rg z_95
      refine Wp_lb (fun I2 eI2 => ?_)
      have hV2 : SQ mX50 P K O I0 J0 I2 J0 := by rw [eI2]; exact hV_2.putI h1.2 rfl trivial
      have tk2_a1_27 : (I2 a1 27).toInt = (I_2 a1 27).toInt := by rw [eI2, up2_ne _ _ (fun z => absurd z.2 (by decide))]
      have gm_110 : 1 ≤ (I2 (rf O a0 3) 0).toInt := (hGM.keep (fun k => (hV2.2 (rf O a0 3) k (by rw [hN3.2.2]; rfl)).1)).1
      refine Wp_jq (fun k_121 => ∀ (s0_121 : Int32), (Int32.toInt (I2 a1 27) = Int32.toInt (I0 a1 27)) → Wp (k_121 s0_121) Q) (fun s0_121 jv0_121  => ?_) (fun k_121 hk_121 => ?_)
      · skip
        have rgs_s0_121 := rg s0_121
        refine Wp_lb (fun I3 eI3 => ?_)
        have hV3 : SQ mX50 P K O I0 J0 I3 J0 := by rw [eI3]; exact hV2.putI h1.2 rfl trivial
        have tk3_a1_27 : (I3 a1 27).toInt = (I2 a1 27).toInt := by rw [eI3, up2_ne _ _ (fun z => absurd z.2 (by decide))]
        refine Wp_lb (fun I4 eI4 => ?_)
        have hV4 : SQ mX50 P K O I0 J0 I4 J0 := by rw [eI4]; exact hV3.putI h1.2 rfl trivial
        have tk4_a1_27 : (I4 a1 27).toInt = (I3 a1 27).toInt := by rw [eI4, up2_ne _ _ (fun z => absurd z.2 (by decide))]
        refine Wp_lb (fun I5 eI5 => ?_)
        have hV5 : SQ mX50 P K O I0 J0 I5 J0 := by rw [eI5]; exact hV4.putI h1.2 rfl trivial
        have tk5_a1_27 : (I5 a1 27).toInt = (I4 a1 27).toInt := by rw [eI5, up2_ne _ _ (fun z => absurd z.2 (by decide))]
        refine Wp_jq (fun k_152 => ∀ (IJ_152 : WI), (Int32.toInt (IJ_152 a1 27) = Int32.toInt (I0 a1 27)) → SQ mX50 P K O I0 J0 IJ_152 J0 → Wp (k_152 IJ_152) Q) (fun IJ_152 jv0_152 hVJ_152 => ?_) (fun k_152 hk_152 => ?_)
        · skip
          refine Wpc1 (s_Mo_sumOfU_G hN hVJ_152.1 h0 h1 hN3 (hGM.keep (fun k => (hVJ_152.2 (rf O a0 3) k (by rw [hN3.2.2]; rfl)).1)) (by have hk2 : Int32.toInt (Int32.ofInt (10)) = 10 := ofI (by decide); omega) (fun z_161 p_161 => ?_))
          have rz_161 := rg z_161
          first | (have e_164 := t_add (x := (IJ_152 a1 20)) (y := z_161) rfl rfl (by omega)) | skip
          refine Wp_lb (fun I7 eI7 => ?_)
          have hV7 : SQ mX50 P K O I0 J0 I7 J0 := by rw [eI7]; exact hVJ_152.putI h1.2 rfl trivial
          have tk7_a1_27 : (I7 a1 27).toInt = (IJ_152 a1 27).toInt := by rw [eI7, up2_ne _ _ (fun z => absurd z.2 (by decide))]
          refine Wp_jq (fun k_196 => ∀ (s0_196 : Int32), (Int32.toInt (I7 a1 27) = Int32.toInt (I0 a1 27)) → Wp (k_196 s0_196) Q) (fun s0_196 jv0_196  => ?_) (fun k_196 hk_196 => ?_)
          · skip
            have rgs_s0_196 := rg s0_196
            first | (have e_203 := t_add (x := (I7 a1 21)) (y := s0_196) rfl rfl (by omega)) | skip
            refine Wp_lb (fun I8 eI8 => ?_)
            have hV8 : SQ mX50 P K O I0 J0 I8 J0 := by rw [eI8]; exact hV7.putI h1.2 rfl trivial
            have tk8_a1_27 : (I8 a1 27).toInt = (I7 a1 27).toInt := by rw [eI8, up2_ne _ _ (fun z => absurd z.2 (by decide))]
            first | (have e_211 := t_sub (x := (I8 a1 20)) (y := s0_196) rfl rfl (by omega)) | skip
            refine Wp_lb (fun I9 eI9 => ?_)
            have hV9 : SQ mX50 P K O I0 J0 I9 J0 := by rw [eI9]; exact hV8.putI h1.2 rfl trivial
            have tk9_a1_27 : (I9 a1 27).toInt = (I8 a1 27).toInt := by rw [eI9, up2_ne _ _ (fun z => absurd z.2 (by decide))]
            refine Wp_jq (fun k_241 => ∀ (s0_241 : Int32), (Int32.toInt (I9 a1 27) = Int32.toInt (I0 a1 27)) → Wp (k_241 s0_241) Q) (fun s0_241 jv0_241  => ?_) (fun k_241 hk_241 => ?_)
            · skip
              have rgs_s0_241 := rg s0_241
              first | (have e_248 := t_sub (x := (I9 a1 20)) (y := s0_241) rfl rfl (by omega)) | skip
              refine Wp_lb (fun I10 eI10 => ?_)
              have hV10 : SQ mX50 P K O I0 J0 I10 J0 := by rw [eI10]; exact hV9.putI h1.2 rfl trivial
              have tk10_a1_27 : (I10 a1 27).toInt = (I9 a1 27).toInt := by rw [eI10, up2_ne _ _ (fun z => absurd z.2 (by decide))]
              first | (have e_256 := t_add (x := (I10 a1 22)) (y := s0_241) rfl rfl (by omega)) | skip
              refine Wp_lb (fun I11 eI11 => ?_)
              have hV11 : SQ mX50 P K O I0 J0 I11 J0 := by rw [eI11]; exact hV10.putI h1.2 rfl trivial
              have tk11_a1_27 : (I11 a1 27).toInt = (I10 a1 27).toInt := by rw [eI11, up2_ne _ _ (fun z => absurd z.2 (by decide))]
              first | (have e_271 := t_sub (x := (I11 (rf O a0 3) 6)) (y := s0_241) rfl rfl (by omega)) | skip
              first | (have e_272 := t_add (x := (I11 a1 23)) (y := ((I11 (rf O a0 3) 6) - s0_241)) rfl rfl (by omega)) | skip
              refine Wp_lb (fun I12 eI12 => ?_)
              have hV12 : SQ mX50 P K O I0 J0 I12 J0 := by rw [eI12]; exact hV11.putI h1.2 rfl trivial
              have tk12_a1_27 : (I12 a1 27).toInt = (I11 a1 27).toInt := by rw [eI12, up2_ne _ _ (fun z => absurd z.2 (by decide))]
              have gm_297 : 1 ≤ (I12 (rf O a0 3) 0).toInt := (hGM.keep (fun k => (hV12.2 (rf O a0 3) k (by rw [hN3.2.2]; rfl)).1)).1
              refine Wp.pos (by omega) ?_
              first | (have e_301 := t_sub (x := (I12 (rf O a0 3) 1)) (y := (((I12 (rf O a0 3) 1) * (I12 a1 28)) / (I12 (rf O a0 3) 0))) rfl rfl (by omega)) | skip
              refine Wp_lb (fun v4_302 ev_302 => ?_)
              have ei_302 := congrArg Int32.toInt ev_302
              have rv_302 := rg v4_302
              refine Wp_jq (fun k_318 => ∀ (s0_318 : Int32), (Int32.toInt (I12 a1 27) = Int32.toInt (I0 a1 27)) → Wp (k_318 s0_318) Q) (fun s0_318 jv0_318  => ?_) (fun k_318 hk_318 => ?_)
              · skip
                have rgs_s0_318 := rg s0_318
                refine Wp_lb (fun I13 eI13 => ?_)
                have hV13 : SQ mX50 P K O I0 J0 I13 J0 := by rw [eI13]; exact hV12.putI h1.2 rfl trivial
                have tk13_a1_27 : (I13 a1 27).toInt = (I12 a1 27).toInt := by rw [eI13, up2_ne _ _ (fun z => absurd z.2 (by decide))]
                have t_332 := rf_ok hV.1 hN3.2 (show sp 9 11 = some 42 from rfl)
                have o_338 := hV13.1.2 a1 h1.1 27
                rw [h1.2] at o_338
                replace o_338 : 0 ≤ (I13 a1 27).toInt ∧ (I13 a1 27).toInt ≤ 252 := o_338
                have o_343 := hV13.1.2 (rf O a0 3) hN3.2.1 7
                rw [hN3.2.2] at o_343
                replace o_343 : 0 ≤ (I13 (rf O a0 3) 7).toInt ∧ (I13 (rf O a0 3) 7).toInt ≤ 6 := o_343
                have gm_343 : 1 ≤ (I13 (rf O a0 3) 7).toInt := (hGM.keep (fun k => (hV13.2 (rf O a0 3) k (by rw [hN3.2.2]; rfl)).1)).2.2
                refine Wp.pos (by omega) ?_
                first | (have e_346 := tremF (x := (I13 a1 27)) (y := (I13 (rf O a0 3) 7)) rfl rfl (by omega)) | skip
                refine Wp.pos (by omega) ?_
                first | (have e_349 := t_add (x := (I13 a1 32)) (y := ((I13 a1 30) * (I13 (rf O (rf O a0 3) 11) (((I13 a1 27) - (I13 a1 27) / (I13 (rf O a0 3) 7) * (I13 (rf O a0 3) 7))).toInt.toNat))) rfl rfl (by omega)) | skip
                refine Wp_lb (fun I14 eI14 => ?_)
                have hV14 : SQ mX50 P K O I0 J0 I14 J0 := by rw [eI14]; exact hV13.putI h1.2 rfl trivial
                have tk14_a1_27 : (I14 a1 27).toInt = (I13 a1 27).toInt := by rw [eI14, up2_ne _ _ (fun z => absurd z.2 (by decide))]
                first | (have e_357 := t_add (x := (I14 a1 24)) (y := (Int32.ofInt (1))) rfl (ofI (by decide)) (by omega)) | skip
                refine Wp_lb (fun I15 eI15 => ?_)
                have hV15 : SQ mX50 P K O I0 J0 I15 J0 := by rw [eI15]; exact hV14.putI h1.2 rfl trivial
                have tk15_a1_27 : (I15 a1 27).toInt = (I14 a1 27).toInt := by rw [eI15, up2_ne _ _ (fun z => absurd z.2 (by decide))]
                have o_363 := hV15.1.2 a1 h1.1 27
                rw [h1.2] at o_363
                replace o_363 : 0 ≤ (I15 a1 27).toInt ∧ (I15 a1 27).toInt ≤ 252 := o_363
                first | (have e_365 := t_add (x := (I15 a1 27)) (y := (Int32.ofInt (1))) rfl (ofI (by decide)) (by omega)) | skip
                refine Wp_lb (fun I16 eI16 => ?_)
                have hV16 : SQ mX50 P K O I0 J0 I16 J0 := by rw [eI16]; exact hV15.putI h1.2 rfl (show 0 ≤ Int32.toInt _ ∧ Int32.toInt _ ≤ 252 from by omega)
                have tk16_a1_27 : (I16 a1 27).toInt = (((I15 a1 27) + (Int32.ofInt (1)))).toInt := by rw [eI16, up2_self]
                exact Wp.ret (hQ I16 hV16.1 hV16.2 (by first | omega | (dsimp only; omega)))
              refine Wp.ite (fun c_309 => ?_) (fun c_309 => ?_)
              · skip
                exact hk_318 (v4_302) (by omega) 
              · skip
                exact hk_318 ((Int32.ofInt (0))) (by omega) 
            refine Wp.ite (fun c_224 => ?_) (fun c_224 => ?_)
            · skip
              exact hk_241 ((I9 (rf O a0 3) 6)) (by omega) 
            · skip
              exact hk_241 ((I9 a1 20)) (by omega) 
          refine Wp.ite (fun c_177 => ?_) (fun c_177 => ?_)
          · skip
            exact hk_196 ((Int32.ofInt (0))) (by omega) 
          · skip
            first | (have e_191 := t_sub (x := (I7 a1 20)) (y := (I7 (rf O a0 3) 5)) rfl rfl (by omega)) | skip
            exact hk_196 (((I7 a1 20) - (I7 (rf O a0 3) 5))) (by omega) 
        refine Wp.ite (fun c_136 => ?_) (fun c_136 => ?_)
        · skip
          refine Wpc1 (s_Mo_grindsU_G hN hV5.1 h0 h1 hN3 (hGM.keep (fun k => (hV5.2 (rf O a0 3) k (by rw [hN3.2.2]; rfl)).1)) (fun I17 hI17 hF17 p_141 => ?_))
          have hV17 : SQ mX50 P K O I0 J0 I17 J0 := hV5.call (fun _ _ h => h) hI17 hF17
          try dsimp only at p_141
          exact hk_152  I17 (by omega) hV17
        · skip
          refine Wpc1 (s_Mo_digsU_G hN hV5.1 h0 h1 hN3 (hGM.keep (fun k => (hV5.2 (rf O a0 3) k (by rw [hN3.2.2]; rfl)).1)) (fun I18 hI18 hF18 p_149 => ?_))
          have hV18 : SQ mX50 P K O I0 J0 I18 J0 := hV5.call (fun _ _ h => h) hI18 hF18
          try dsimp only at p_149
          exact hk_152  I18 (by omega) hV18
      refine Wp.ite (fun c_113 => ?_) (fun c_113 => ?_)
      · skip
        exact hk_121 ((Int32.ofInt (0))) (by omega) 
      · skip
        exact hk_121 ((Int32.ofInt (1))) (by omega) 
    · skip
      refine Wp_jq (fun k_46 => ∀ (s0_46 : Int32), (Int32.toInt (I_2 a1 27) = Int32.toInt (I0 a1 27)) → Wp (k_46 s0_46) Q) (fun s0_46 jv0_46  => ?_) (fun k_46 hk_46 => ?_)
      · skip
        have rgs_s0_46 := rg s0_46
        first | (have e_53 := t_add (x := (I_2 a1 33)) (y := s0_46) rfl rfl (by omega)) | skip
        refine Wp_lb (fun I19 eI19 => ?_)
        have hV19 : SQ mX50 P K O I0 J0 I19 J0 := by rw [eI19]; exact hV_2.putI h1.2 rfl trivial
        have tk19_a1_27 : (I19 a1 27).toInt = (I_2 a1 27).toInt := by rw [eI19, up2_ne _ _ (fun z => absurd z.2 (by decide))]
        first | (have e_58 := t_add (x := (Int32.ofInt (0))) (y := x2_2) (ofI (by decide)) rfl (by omega)) | skip
        refine Wp.pos (by omega) ?_
        first | (have e_65 := t_add (x := (Int32.ofInt (5))) (y := x2_2) (ofI (by decide)) rfl (by omega)) | skip
        refine Wp.pos (by omega) ?_
        first | (have e_67 := t_add (x := s0_46) (y := (I19 a1 (((Int32.ofInt (5)) + x2_2)).toInt.toNat)) rfl rfl (by omega)) | skip
        first | (have e_68 := t_add (x := (I19 a1 (((Int32.ofInt (0)) + x2_2)).toInt.toNat)) (y := (s0_46 + (I19 a1 (((Int32.ofInt (5)) + x2_2)).toInt.toNat))) rfl rfl (by omega)) | skip
        refine Wp.pos (by omega) ?_
        refine Wp_lb (fun I20 eI20 => ?_)
        have hV20 : SQ mX50 P K O I0 J0 I20 J0 := by rw [eI20]; exact hV19.putI h1.2 rfl (okS (by decide) (by omega) (by omega))
        have tk20_a1_27 : (I20 a1 27).toInt = (I19 a1 27).toInt := by rw [eI20, up2_ne _ _ (fun z => by omega)]
        first | (have e_73 := t_add (x := (Int32.ofInt (5))) (y := x2_2) (ofI (by decide)) rfl (by omega)) | skip
        refine Wp.pos (by omega) ?_
        refine Wp_lb (fun I21 eI21 => ?_)
        have hV21 : SQ mX50 P K O I0 J0 I21 J0 := by rw [eI21]; exact hV20.putI h1.2 rfl (okS (by decide) (by omega) (by omega))
        have tk21_a1_27 : (I21 a1 27).toInt = (I20 a1 27).toInt := by rw [eI21, up2_ne _ _ (fun z => by omega)]
        first | (have e_80 := t_add (x := (Int32.ofInt (10))) (y := x2_2) (ofI (by decide)) rfl (by omega)) | skip
        refine Wp.pos (by omega) ?_
        refine Wp_lb (fun I22 eI22 => ?_)
        have hV22 : SQ mX50 P K O I0 J0 I22 J0 := by rw [eI22]; exact hV21.putI h1.2 rfl (okS (by decide) (by omega) (by omega))
        have tk22_a1_27 : (I22 a1 27).toInt = (I21 a1 27).toInt := by rw [eI22, up2_ne _ _ (fun z => by omega)]
        refine Wp_lb (fun v2_83 ev_83 => ?_)
        have rv_83 := rg v2_83
        first | (have e_83 : v2_83.toInt = (x2_2).toInt + 1 := by rw [ev_83]; exact t_add rfl (ofI (by decide)) (by omega)) | skip
        clear ev_83
        exact ih_2 (v2_83) I22 (by omega) (by omega) (by omega) hV22
      refine Wp.ite (fun c_18 => ?_) (fun c_18 => ?_)
      · skip
        exact hk_46 ((Int32.ofInt (0))) (by omega) 
      · skip
        have t_33 := rf_ok hV.1 hN3.2 (show sp 9 15 = some 45 from rfl)
        have o_40 := hV_2.1.2 a1 h1.1 36
        rw [h1.2] at o_40
        replace o_40 : 0 ≤ (I_2 a1 36).toInt ∧ (I_2 a1 36).toInt ≤ 3 := o_40
        first | (have e_41 := t_mul (x := (Int32.ofInt (5))) (y := (I_2 a1 36)) (ofI (by decide)) rfl (by omega)) | skip
        first | (have e_43 := t_add (x := ((Int32.ofInt (5)) * (I_2 a1 36))) (y := x2_2) rfl rfl (by omega)) | skip
        refine Wp.pos (by omega) ?_
        exact hk_46 (((I_2 a1 34) * (I_2 (rf O (rf O a0 3) 15) ((((Int32.ofInt (5)) * (I_2 a1 36)) + x2_2)).toInt.toNat))) (by omega) 
  exact lp_2 N ((Int32.ofInt (0))) I0 (by have hci0 : Int32.toInt (Int32.ofInt (0)) = 0 := ofI (by decide); omega) (by have hci0 : Int32.toInt (Int32.ofInt (0)) = 0 := ofI (by decide); omega) (by omega) hV0
