set_option maxHeartbeats 4000000 in
set_option maxRecDepth 100000 in
theorem s_RM_refuse {P : List Nat} {K : Nat → Nat} {N : Nat} {O : WO} {I0 : WI} {J0 : WJ} (hN : 2147483648 ≤ N) (hV : IV P K I0 O) {a0 : Nat} (h0 : a0 ∈ P ∧ K a0 = 8) {x1 : Int32} {Q : (Int32 × WI) → Prop} (hQ : ∀ (z : Int32) (I_ : WI), IV P K I_ O → FQ kC K I0 J0 I_ J0 → (Int32.toInt z = -1 ∧ Int32.toInt (I_ a0 14) = Int32.toInt x1) → Q (z, I_)) : Wp (F_RM_refuse N O I0 J0 a0 x1) Q := by
  unfold F_RM_refuse
  have r1 := rg x1
  have hV0 : SQ kC P K O I0 J0 I0 J0 := SQ.rf hV
  refine Wp_lb (fun I1 eI1 => ?_)
  have hV1 : SQ kC P K O I0 J0 I1 J0 := by rw [eI1]; exact hV0.putI h0.2 rfl trivial
  have tk1_a0_14 : (I1 a0 14).toInt = (x1).toInt := by rw [eI1, up2_self]
  exact Wp.ret (hQ (Int32.ofInt (-1)) I1 hV1.1 hV1.2 (by have hci : Int32.toInt (Int32.ofInt (-1)) = -1 := ofI (by decide); first | omega | (dsimp only; omega)))
set_option maxHeartbeats 4000000 in
set_option maxRecDepth 100000 in
theorem s_RM_accept {P : List Nat} {K : Nat → Nat} {N : Nat} {O : WO} {I0 : WI} {J0 : WJ} (hN : 2147483648 ≤ N) (hV : IV P K I0 O) {a0 : Nat} (h0 : a0 ∈ P ∧ K a0 = 8) {x1 : Int32} {Q : (Int32 × WI) → Prop} (hQ : ∀ (z : Int32) (I_ : WI), IV P K I_ O → FQ kC K I0 J0 I_ J0 → (Int32.toInt z = Int32.toInt x1 ∧ Int32.toInt (I_ a0 14) = 0) → Q (z, I_)) : Wp (F_RM_accept N O I0 J0 a0 x1) Q := by
  unfold F_RM_accept
  have r1 := rg x1
  have hV0 : SQ kC P K O I0 J0 I0 J0 := SQ.rf hV
  refine Wp_lb (fun I1 eI1 => ?_)
  have hV1 : SQ kC P K O I0 J0 I1 J0 := by rw [eI1]; exact hV0.putI h0.2 rfl trivial
  have tk1_a0_14 : (I1 a0 14).toInt = 0 := by rw [eI1, up2_self]; exact ofI (by decide)
  exact Wp.ret (hQ x1 I1 hV1.1 hV1.2 (by first | omega | (dsimp only; omega)))
set_option maxHeartbeats 4000000 in
set_option maxRecDepth 100000 in
theorem s_RM_deny {P : List Nat} {K : Nat → Nat} {N : Nat} {O : WO} {I0 : WI} {J0 : WJ} (hN : 2147483648 ≤ N) (hV : IV P K I0 O) {a0 : Nat} (h0 : a0 ∈ P ∧ K a0 = 8) {x1 : Int32} {Q : (Int32 × WI) → Prop} (hQ : ∀ (z : Int32) (I_ : WI), IV P K I_ O → FQ kC K I0 J0 I_ J0 → (z.toInt = 0 ∨ z.toInt = 1) → (Int32.toInt z = 0 ∧ Int32.toInt (I_ a0 14) = Int32.toInt x1) → Q (z, I_)) : Wp (F_RM_deny N O I0 J0 a0 x1) Q := by
  unfold F_RM_deny
  have r1 := rg x1
  have hV0 : SQ kC P K O I0 J0 I0 J0 := SQ.rf hV
  refine Wp_lb (fun I1 eI1 => ?_)
  have hV1 : SQ kC P K O I0 J0 I1 J0 := by rw [eI1]; exact hV0.putI h0.2 rfl trivial
  have tk1_a0_14 : (I1 a0 14).toInt = (x1).toInt := by rw [eI1, up2_self]
  exact Wp.ret (hQ (Int32.ofInt (0)) I1 hV1.1 hV1.2 (by have hci : Int32.toInt (Int32.ofInt (0)) = 0 := ofI (by decide); omega) (by have hci : Int32.toInt (Int32.ofInt (0)) = 0 := ofI (by decide); first | omega | (dsimp only; omega)))
set_option maxHeartbeats 4000000 in
set_option maxRecDepth 100000 in
theorem s_RM_allow {P : List Nat} {K : Nat → Nat} {N : Nat} {O : WO} {I0 : WI} {J0 : WJ} (hN : 2147483648 ≤ N) (hV : IV P K I0 O) {a0 : Nat} (h0 : a0 ∈ P ∧ K a0 = 8) {Q : (Int32 × WI) → Prop} (hQ : ∀ (z : Int32) (I_ : WI), IV P K I_ O → FQ kC K I0 J0 I_ J0 → (z.toInt = 0 ∨ z.toInt = 1) → (Int32.toInt z = 1 ∧ Int32.toInt (I_ a0 14) = 0) → Q (z, I_)) : Wp (F_RM_allow N O I0 J0 a0) Q := by
  unfold F_RM_allow
  have hV0 : SQ kC P K O I0 J0 I0 J0 := SQ.rf hV
  refine Wp_lb (fun I1 eI1 => ?_)
  have hV1 : SQ kC P K O I0 J0 I1 J0 := by rw [eI1]; exact hV0.putI h0.2 rfl trivial
  have tk1_a0_14 : (I1 a0 14).toInt = 0 := by rw [eI1, up2_self]; exact ofI (by decide)
  exact Wp.ret (hQ (Int32.ofInt (1)) I1 hV1.1 hV1.2 (by have hci : Int32.toInt (Int32.ofInt (1)) = 1 := ofI (by decide); omega) (by have hci : Int32.toInt (Int32.ofInt (1)) = 1 := ofI (by decide); first | omega | (dsimp only; omega)))
set_option maxHeartbeats 4000000 in
set_option maxRecDepth 100000 in
theorem s_RM_noMill {P : List Nat} {K : Nat → Nat} {N : Nat} {O : WO} {I0 : WI} {J0 : WJ} (hN : 2147483648 ≤ N) (hV : IV P K I0 O) {a0 : Nat} (h0 : a0 ∈ P ∧ K a0 = 8) {Q : Int32 → Prop} (hQ : ∀ (z : Int32), (z.toInt = 0 ∨ z.toInt = 1) → ((Int32.toInt z = 1 ∧ Int32.toInt (I0 (rf O a0 1) 7) = 0) ∨ (Int32.toInt z = 0 ∧ ¬ Int32.toInt (I0 (rf O a0 1) 7) = 0)) → Q z) : Wp (F_RM_noMill N O I0 J0 a0) Q := by
  unfold F_RM_noMill
  have hV0 : SQ kP P K O I0 J0 I0 J0 := SQ.rf hV
  have t_1 := rf_ok hV.1 h0 (show sp 8 1 = some 3 from rfl)
  refine Wp.ite (fun c_7 => ?_) (fun c_7 => ?_)
  · skip
    exact Wp.ret (hQ (Int32.ofInt (1)) (by have hci : Int32.toInt (Int32.ofInt (1)) = 1 := ofI (by decide); omega) (by have hci : Int32.toInt (Int32.ofInt (1)) = 1 := ofI (by decide); first | omega | (dsimp only; omega)))
  · skip
    exact Wp.ret (hQ (Int32.ofInt (0)) (by have hci : Int32.toInt (Int32.ofInt (0)) = 0 := ofI (by decide); omega) (by have hci : Int32.toInt (Int32.ofInt (0)) = 0 := ofI (by decide); first | omega | (dsimp only; omega)))
set_option maxHeartbeats 4000000 in
set_option maxRecDepth 100000 in
theorem s_RM_isSize {P : List Nat} {K : Nat → Nat} {N : Nat} {O : WO} {I0 : WI} {J0 : WJ} (hN : 2147483648 ≤ N) (hV : IV P K I0 O) {a0 : Nat} (h0 : a0 ∈ P ∧ K a0 = 8) {x1 : Int32} {Q : Int32 → Prop} (hQ : ∀ (z : Int32), (z.toInt = 0 ∨ z.toInt = 1) → (Int32.toInt z = 0 ∨ (0 ≤ Int32.toInt x1 ∧ Int32.toInt x1 < 5)) → Q z) : Wp (F_RM_isSize N O I0 J0 a0 x1) Q := by
  unfold F_RM_isSize
  have r1 := rg x1
  have hV0 : SQ kP P K O I0 J0 I0 J0 := SQ.rf hV
  refine Wp.ite (fun c_1 => ?_) (fun c_1 => ?_)
  · skip
    exact Wp.ret (hQ (Int32.ofInt (0)) (by have hci : Int32.toInt (Int32.ofInt (0)) = 0 := ofI (by decide); omega) (by have hci : Int32.toInt (Int32.ofInt (0)) = 0 := ofI (by decide); first | omega | (dsimp only; omega)))
  · skip
    have t_6 := rf_ok hV.1 h0 (show sp 8 1 = some 3 from rfl)
    refine Wp.ite (fun c_12 => ?_) (fun c_12 => ?_)
    · skip
      exact Wp.ret (hQ (Int32.ofInt (0)) (by have hci : Int32.toInt (Int32.ofInt (0)) = 0 := ofI (by decide); omega) (by have hci : Int32.toInt (Int32.ofInt (0)) = 0 := ofI (by decide); first | omega | (dsimp only; omega)))
    · skip
      refine Wp.ite (fun c_17 => ?_) (fun c_17 => ?_)
      · skip
        exact Wp.ret (hQ (Int32.ofInt (0)) (by have hci : Int32.toInt (Int32.ofInt (0)) = 0 := ofI (by decide); omega) (by have hci : Int32.toInt (Int32.ofInt (0)) = 0 := ofI (by decide); first | omega | (dsimp only; omega)))
      · skip
        exact Wp.ret (hQ (Int32.ofInt (1)) (by have hci : Int32.toInt (Int32.ofInt (1)) = 1 := ofI (by decide); omega) (by have hci : Int32.toInt (Int32.ofInt (1)) = 1 := ofI (by decide); first | omega | (dsimp only; omega)))
set_option maxHeartbeats 4000000 in
set_option maxRecDepth 100000 in
theorem s_RM_isOre {P : List Nat} {K : Nat → Nat} {N : Nat} {O : WO} {I0 : WI} {J0 : WJ} (hN : 2147483648 ≤ N) (hV : IV P K I0 O) {a0 : Nat} (h0 : a0 ∈ P ∧ K a0 = 8) {x1 : Int32} {Q : Int32 → Prop} (hQ : ∀ (z : Int32), (z.toInt = 0 ∨ z.toInt = 1) → ((Int32.toInt z = 1 ∧ 0 ≤ Int32.toInt x1 ∧ Int32.toInt x1 < Int32.toInt (I0 (rf O a0 1) 8)) ∨ (Int32.toInt z = 0 ∧ (Int32.toInt x1 < 0 ∨ Int32.toInt (I0 (rf O a0 1) 8) ≤ Int32.toInt x1))) → Q z) : Wp (F_RM_isOre N O I0 J0 a0 x1) Q := by
  unfold F_RM_isOre
  have r1 := rg x1
  have hV0 : SQ kP P K O I0 J0 I0 J0 := SQ.rf hV
  refine Wp.ite (fun c_1 => ?_) (fun c_1 => ?_)
  · skip
    exact Wp.ret (hQ (Int32.ofInt (0)) (by have hci : Int32.toInt (Int32.ofInt (0)) = 0 := ofI (by decide); omega) (by have hci : Int32.toInt (Int32.ofInt (0)) = 0 := ofI (by decide); first | omega | (dsimp only; omega)))
  · skip
    have t_6 := rf_ok hV.1 h0 (show sp 8 1 = some 3 from rfl)
    refine Wp.ite (fun c_12 => ?_) (fun c_12 => ?_)
    · skip
      exact Wp.ret (hQ (Int32.ofInt (0)) (by have hci : Int32.toInt (Int32.ofInt (0)) = 0 := ofI (by decide); omega) (by have hci : Int32.toInt (Int32.ofInt (0)) = 0 := ofI (by decide); first | omega | (dsimp only; omega)))
    · skip
      exact Wp.ret (hQ (Int32.ofInt (1)) (by have hci : Int32.toInt (Int32.ofInt (1)) = 1 := ofI (by decide); omega) (by have hci : Int32.toInt (Int32.ofInt (1)) = 1 := ofI (by decide); first | omega | (dsimp only; omega)))
set_option maxHeartbeats 4000000 in
set_option maxRecDepth 100000 in
theorem s_RM_isHeard {P : List Nat} {K : Nat → Nat} {N : Nat} {O : WO} {I0 : WI} {J0 : WJ} (hN : 2147483648 ≤ N) (hV : IV P K I0 O) {a0 : Nat} (h0 : a0 ∈ P ∧ K a0 = 8) {x1 : Int32} {Q : Int32 → Prop} (hQ : ∀ (z : Int32), (z.toInt = 0 ∨ z.toInt = 1) → True → Q z) : Wp (F_RM_isHeard N O I0 J0 a0 x1) Q := by
  unfold F_RM_isHeard
  have r1 := rg x1
  have hV0 : SQ kP P K O I0 J0 I0 J0 := SQ.rf hV
  refine Wp.ite (fun c_1 => ?_) (fun c_1 => ?_)
  · skip
    exact Wp.ret (hQ (Int32.ofInt (0)) (by have hci : Int32.toInt (Int32.ofInt (0)) = 0 := ofI (by decide); omega) trivial)
  · skip
    have t_7 := rf_ok hV.1 h0 (show sp 8 1 = some 3 from rfl)
    first | (have e_13 := t_add (x := (Int32.ofInt (2))) (y := (I0 (rf O a0 1) 7)) (ofI (by decide)) rfl (by omega)) | skip
    refine Wp.ite (fun c_14 => ?_) (fun c_14 => ?_)
    · skip
      exact Wp.ret (hQ (Int32.ofInt (0)) (by have hci : Int32.toInt (Int32.ofInt (0)) = 0 := ofI (by decide); omega) trivial)
    · skip
      exact Wp.ret (hQ (Int32.ofInt (1)) (by have hci : Int32.toInt (Int32.ofInt (1)) = 1 := ofI (by decide); omega) trivial)
set_option maxHeartbeats 4000000 in
set_option maxRecDepth 100000 in
theorem s_RM_noteStood {P : List Nat} {K : Nat → Nat} {N : Nat} {O : WO} {I0 : WI} {J0 : WJ} (hN : 2147483648 ≤ N) (hV : IV P K I0 O) {a0 : Nat} (h0 : a0 ∈ P ∧ K a0 = 8) {x1 : Int32} {Q : WI → Prop} (hQ : ∀ (I_ : WI), IV P K I_ O → FQ kD K I0 J0 I_ J0 → True → Q I_) : Wp (F_RM_noteStood N O I0 J0 a0 x1) Q := by
  unfold F_RM_noteStood
  have r1 := rg x1
  have hV0 : SQ kD P K O I0 J0 I0 J0 := SQ.rf hV
  have o_1 := hV0.1.2 a0 h0.1 13
  rw [h0.2] at o_1
  replace o_1 : 0 ≤ (I0 a0 13).toInt ∧ (I0 a0 13).toInt ≤ 240 := o_1
  have t_5 := rf_ok hV.1 h0 (show sp 8 12 = some 28 from rfl)
  refine Wp.ite (fun c_9 => ?_) (fun c_9 => ?_)
  · skip
    exact Wp.ret (hQ I0 hV0.1 hV0.2 trivial)
  · skip
    have t_13 := rf_ok hV.1 h0 (show sp 8 12 = some 28 from rfl)
    have o_17 := hV0.1.2 a0 h0.1 13
    rw [h0.2] at o_17
    replace o_17 : 0 ≤ (I0 a0 13).toInt ∧ (I0 a0 13).toInt ≤ 240 := o_17
    refine Wp.pos (by omega) ?_
    refine Wp_lb (fun I1 eI1 => ?_)
    have hV1 : SQ kD P K O I0 J0 I1 J0 := by rw [eI1]; exact hV0.putI t_13.2 rfl trivial
    have tk1_a0_13 : (I1 a0 13).toInt = (I0 a0 13).toInt := by rw [eI1, up2_ne _ _ (fun z => by have q := h0.2; rw [z.1, t_13.2] at q; exact absurd q (by decide))]
    have o_24 := hV1.1.2 a0 h0.1 13
    rw [h0.2] at o_24
    replace o_24 : 0 ≤ (I1 a0 13).toInt ∧ (I1 a0 13).toInt ≤ 240 := o_24
    first | (have e_28 := t_add (x := (I1 a0 13)) (y := (Int32.ofInt (1))) rfl (ofI (by decide)) (by omega)) | skip
    refine Wp_lb (fun I2 eI2 => ?_)
    have hV2 : SQ kD P K O I0 J0 I2 J0 := by rw [eI2]; exact hV1.putI h0.2 rfl (show 0 ≤ Int32.toInt _ ∧ Int32.toInt _ ≤ 240 from by omega)
    have tk2_a0_13 : (I2 a0 13).toInt = (((I1 a0 13) + (Int32.ofInt (1)))).toInt := by rw [eI2, up2_self]
    exact Wp.ret (hQ I2 hV2.1 hV2.2 trivial)
set_option maxHeartbeats 4000000 in
set_option maxRecDepth 100000 in
theorem s_RM_findFits {P : List Nat} {K : Nat → Nat} {N : Nat} {O : WO} {I0 : WI} {J0 : WJ} (hN : 2147483648 ≤ N) (hV : IV P K I0 O) {a0 : Nat} (h0 : a0 ∈ P ∧ K a0 = 8) {Q : (Int32 × WI) → Prop} (hQ : ∀ (z : Int32) (I_ : WI), IV P K I_ O → FQ kD K I0 J0 I_ J0 → True → Q (z, I_)) : Wp (F_RM_findFits N O I0 J0 a0) Q := by
  unfold F_RM_findFits
  have hV0 : SQ kD P K O I0 J0 I0 J0 := SQ.rf hV
  have t_1 := rf_ok hV.1 h0 (show sp 8 6 = some 1 from rfl)
  have t_5 := rf_ok hV.1 h0 (show sp 8 1 = some 3 from rfl)
  have t_9 := rf_ok hV.1 h0 (show sp 8 5 = some 19 from rfl)
  refine Wpc1 (s_Gu_tellAll hN hV0.1 t_1 t_5 t_9 (fun I1 hI1 hF1 p_12 => ?_))
  have hV1 : SQ kD P K O I0 J0 I1 J0 := hV0.call (fun _ _ h => h) hI1 hF1
  have t_16 := rf_ok hV.1 h0 (show sp 8 7 = some 6 from rfl)
  have t_20 := rf_ok hV.1 h0 (show sp 8 6 = some 1 from rfl)
  refine Wpc2 (s_Si_findFits hN hV1.1 t_16 t_20 (fun z_23 I2 hI2 hF2 p_23 => ?_))
  have hV2 : SQ kD P K O I0 J0 I2 J0 := hV1.call (fun _ _ h => h) hI2 hF2
  have rz_23 := rg z_23
  exact Wp.ret (hQ z_23 I2 hV2.1 hV2.2 trivial)
set_option maxHeartbeats 4000000 in
set_option maxRecDepth 100000 in
theorem s_RM_leadMarks {P : List Nat} {K : Nat → Nat} {N : Nat} {O : WO} {I0 : WI} {J0 : WJ} (hN : 2147483648 ≤ N) (hV : IV P K I0 O) {a0 : Nat} (h0 : a0 ∈ P ∧ K a0 = 8) {x1 : Int32} {Q : (Int32 × WI) → Prop} (hQ : ∀ (z : Int32) (I_ : WI), IV P K I_ O → FQ kD K I0 J0 I_ J0 → True → Q (z, I_)) : Wp (F_RM_leadMarks N O I0 J0 a0 x1) Q := by
  unfold F_RM_leadMarks
  have r1 := rg x1
  have hV0 : SQ kD P K O I0 J0 I0 J0 := SQ.rf hV
  have t_1 := rf_ok hV.1 h0 (show sp 8 10 = some 2 from rfl)
  refine Wpc1 (s_Ld_takeBack hN hV0.1 t_1 (fun I1 hI1 hF1 p_4 => ?_))
  have hV1 : SQ kD P K O I0 J0 I1 J0 := hV0.call (fun _ _ h => h) hI1 hF1
  have t_8 := rf_ok hV.1 h0 (show sp 8 11 = some 0 from rfl)
  refine Wp.ite (fun c_14 => ?_) (fun c_14 => ?_)
  · skip
    have t_20 := rf_ok hV.1 h0 (show sp 8 10 = some 2 from rfl)
    have t_24 := rf_ok hV.1 h0 (show sp 8 1 = some 3 from rfl)
    have t_28 := rf_ok hV.1 h0 (show sp 8 11 = some 0 from rfl)
    refine Wpc1 (s_Ld_breakUp hN hV1.1 t_20 t_24 (fun I2 hI2 hF2 p_34 => ?_))
    have hV2 : SQ kD P K O I0 J0 I2 J0 := hV1.call (fun _ _ h => h) hI2 hF2
    have t_38 := rf_ok hV.1 h0 (show sp 8 10 = some 2 from rfl)
    have t_42 := rf_ok hV.1 h0 (show sp 8 1 = some 3 from rfl)
    have t_47 := rf_ok hV.1 h0 (show sp 8 11 = some 0 from rfl)
    refine Wpc1 (s_Ld_sift hN hV2.1 t_38 t_42 (fun I3 hI3 hF3 p_53 => ?_))
    have hV3 : SQ kD P K O I0 J0 I3 J0 := hV2.call (fun _ _ h => h) hI3 hF3
    have t_57 := rf_ok hV.1 h0 (show sp 8 10 = some 2 from rfl)
    have t_60 := rf_ok hV.1 t_57 (show sp 2 2 = some 11 from rfl)
    refine Wpc1 (s_RM_sumOf hN hV3.1 t_60 (fun z_63 p_63 => ?_))
    have rz_63 := rg z_63
    exact Wp.ret (hQ z_63 I3 hV3.1 hV3.2 trivial)
  · skip
    exact Wp.ret (hQ (Int32.ofInt (0)) I1 hV1.1 hV1.2 trivial)
set_option maxHeartbeats 4000000 in
set_option maxRecDepth 100000 in
theorem s_RM_beginAnew {P : List Nat} {K : Nat → Nat} {N : Nat} {O : WO} {I0 : WI} {J0 : WJ} (hN : 2147483648 ≤ N) (hV : IV P K I0 O) {a0 : Nat} (h0 : a0 ∈ P ∧ K a0 = 8) {Q : WI → Prop} (hQ : ∀ (I_ : WI), IV P K I_ O → FQ kT K I0 J0 I_ J0 → (Int32.toInt (I_ (rf O a0 9) 3) = 0 ∧ Int32.toInt (I_ (rf O a0 9) 4) = 0) → Q I_) : Wp (F_RM_beginAnew N O I0 J0 a0) Q := by
  unfold F_RM_beginAnew
  have tr_TR := rf_ok hV.1 h0 (show sp 8 9 = some 7 from rfl)
  have hV0 : SQ kT P K O I0 J0 I0 J0 := SQ.rf hV
  have t_1 := rf_ok hV.1 h0 (show sp 8 3 = some 0 from rfl)
  refine Wpc1 (s_Dr_beginEmpty hN hV0.1 t_1 (fun I1 hI1 hF1 p_4 => ?_))
  have hV1 : SQ kT P K O I0 J0 I1 J0 := hV0.call (kpL_le (fun _ h => h) rfl) hI1 hF1
  have tk1_rfOa09_3 : (I1 (rf O a0 9) 3).toInt = (I0 (rf O a0 9) 3).toInt := by rw [(hF1 (rf O a0 9) 3 (by rw [tr_TR.2]; rfl)).1]
  have tk1_rfOa09_4 : (I1 (rf O a0 9) 4).toInt = (I0 (rf O a0 9) 4).toInt := by rw [(hF1 (rf O a0 9) 4 (by rw [tr_TR.2]; rfl)).1]
  have t_8 := rf_ok hV.1 h0 (show sp 8 4 = some 18 from rfl)
  refine Wp_lb (fun I2 eI2 => ?_)
  have hV2 : SQ kT P K O I0 J0 I2 J0 := by rw [eI2]; exact hV1.putI t_8.2 rfl trivial
  have tk2_rfOa09_3 : (I2 (rf O a0 9) 3).toInt = (I1 (rf O a0 9) 3).toInt := by rw [eI2, up2_ne _ _ (fun z => by have q := tr_TR.2; rw [z.1, t_8.2] at q; exact absurd q (by decide))]
  have tk2_rfOa09_4 : (I2 (rf O a0 9) 4).toInt = (I1 (rf O a0 9) 4).toInt := by rw [eI2, up2_ne _ _ (fun z => by have q := tr_TR.2; rw [z.1, t_8.2] at q; exact absurd q (by decide))]
  have t_15 := rf_ok hV.1 h0 (show sp 8 4 = some 18 from rfl)
  refine Wp_lb (fun I3 eI3 => ?_)
  have hV3 : SQ kT P K O I0 J0 I3 J0 := by rw [eI3]; exact hV2.putI t_15.2 rfl trivial
  have tk3_rfOa09_3 : (I3 (rf O a0 9) 3).toInt = (I2 (rf O a0 9) 3).toInt := by rw [eI3, up2_ne _ _ (fun z => by have q := tr_TR.2; rw [z.1, t_15.2] at q; exact absurd q (by decide))]
  have tk3_rfOa09_4 : (I3 (rf O a0 9) 4).toInt = (I2 (rf O a0 9) 4).toInt := by rw [eI3, up2_ne _ _ (fun z => by have q := tr_TR.2; rw [z.1, t_15.2] at q; exact absurd q (by decide))]
  have t_22 := rf_ok hV.1 h0 (show sp 8 4 = some 18 from rfl)
  refine Wp_lb (fun I4 eI4 => ?_)
  have hV4 : SQ kT P K O I0 J0 I4 J0 := by rw [eI4]; exact hV3.putI t_22.2 rfl trivial
  have tk4_rfOa09_3 : (I4 (rf O a0 9) 3).toInt = (I3 (rf O a0 9) 3).toInt := by rw [eI4, up2_ne _ _ (fun z => by have q := tr_TR.2; rw [z.1, t_22.2] at q; exact absurd q (by decide))]
  have tk4_rfOa09_4 : (I4 (rf O a0 9) 4).toInt = (I3 (rf O a0 9) 4).toInt := by rw [eI4, up2_ne _ _ (fun z => by have q := tr_TR.2; rw [z.1, t_22.2] at q; exact absurd q (by decide))]
  have lp_30 : ∀ (m_30 : Nat) (x1_30 : Int32) (I_30 : WI), Int.toNat (12 - (x1_30).toInt) < m_30 → (0 ≤ Int32.toInt x1_30 ∧ Int32.toInt x1_30 ≤ 12) → SQ kT P K O I0 J0 I_30 J0 → Wp (lp (B_RM_beginAnew_30 N O (a0) (J0)) (fun _ _ => none) m_30 x1_30 I_30) Q := by
    intro m_30
    induction m_30 with
    | zero => intro x1_30 I_30 hm; exact absurd hm (Nat.not_lt_zero _)
    | succ m_30 ih_30 =>
    intro x1_30 I_30 hm_30 iv0_30 hV_30
    have rg1_30 := rg x1_30
    show Wp (B_RM_beginAnew_30 N O (a0) (J0) (lp (B_RM_beginAnew_30 N O (a0) (J0)) (fun _ _ => none) m_30) x1_30 I_30) Q
    unfold B_RM_beginAnew_30
    refine Wp.ite (fun c_33 => ?_) (fun c_33 => ?_)
    · skip
      have t_76 := rf_ok hV.1 h0 (show sp 8 6 = some 1 from rfl)
      refine Wpc1 (s_Gu_makeStale hN hV_30.1 t_76 (fun I5 hI5 hF5 p_79 => ?_))
      have hV5 : SQ kT P K O I0 J0 I5 J0 := hV_30.call (kpL_le (fun _ h => h) rfl) hI5 hF5
      have tk5_rfOa09_3 : (I5 (rf O a0 9) 3).toInt = (I_30 (rf O a0 9) 3).toInt := by rw [(hF5 (rf O a0 9) 3 (by rw [tr_TR.2]; rfl)).1]
      have tk5_rfOa09_4 : (I5 (rf O a0 9) 4).toInt = (I_30 (rf O a0 9) 4).toInt := by rw [(hF5 (rf O a0 9) 4 (by rw [tr_TR.2]; rfl)).1]
      have t_83 := rf_ok hV.1 h0 (show sp 8 7 = some 6 from rfl)
      refine Wpc2 (s_Si_drop hN hV5.1 t_83 (fun z_86 I6 hI6 hF6 p_86 => ?_))
      have hV6 : SQ kT P K O I0 J0 I6 J0 := hV5.call (kpL_le (fun _ h => h) rfl) hI6 hF6
      have tk6_rfOa09_3 : (I6 (rf O a0 9) 3).toInt = (I5 (rf O a0 9) 3).toInt := by rw [(hF6 (rf O a0 9) 3 (by rw [tr_TR.2]; rfl)).1]
      have tk6_rfOa09_4 : (I6 (rf O a0 9) 4).toInt = (I5 (rf O a0 9) 4).toInt := by rw [(hF6 (rf O a0 9) 4 (by rw [tr_TR.2]; rfl)).1]
      have rz_86 := rg z_86
      have t_91 := rf_ok hV.1 h0 (show sp 8 9 = some 7 from rfl)
      refine Wpc2 (s_Tr_drop hN hV6.1 t_91 (fun z_94 I7 hI7 hF7 p_94 => ?_))
      have hV7 : SQ kT P K O I0 J0 I7 J0 := hV6.call (fun _ _ h => h) hI7 hF7
      try dsimp only at p_94
      have rz_94 := rg z_94
      have t_99 := rf_ok hV.1 h0 (show sp 8 8 = some 4 from rfl)
      refine Wpc1 (s_Pl_drop hN hV7.1 t_99 (fun I8 hI8 hF8 p_102 => ?_))
      have hV8 : SQ kT P K O I0 J0 I8 J0 := hV7.call (kpL_le (fun _ h => h) rfl) hI8 hF8
      have tk8_rfOa09_3 : (I8 (rf O a0 9) 3).toInt = (I7 (rf O a0 9) 3).toInt := by rw [(hF8 (rf O a0 9) 3 (by rw [tr_TR.2]; rfl)).1]
      have tk8_rfOa09_4 : (I8 (rf O a0 9) 4).toInt = (I7 (rf O a0 9) 4).toInt := by rw [(hF8 (rf O a0 9) 4 (by rw [tr_TR.2]; rfl)).1]
      refine Wp_lb (fun I9 eI9 => ?_)
      have hV9 : SQ kT P K O I0 J0 I9 J0 := by rw [eI9]; exact hV8.putI h0.2 rfl (show 0 ≤ Int32.toInt _ ∧ Int32.toInt _ ≤ 240 from by rw [ofI (by decide)]; omega)
      have tk9_rfOa09_3 : (I9 (rf O a0 9) 3).toInt = (I8 (rf O a0 9) 3).toInt := by rw [eI9, up2_ne _ _ (fun z => by have q := tr_TR.2; rw [z.1, h0.2] at q; exact absurd q (by decide))]
      have tk9_rfOa09_4 : (I9 (rf O a0 9) 4).toInt = (I8 (rf O a0 9) 4).toInt := by rw [eI9, up2_ne _ _ (fun z => by have q := tr_TR.2; rw [z.1, h0.2] at q; exact absurd q (by decide))]
      exact Wp.ret (hQ I9 hV9.1 hV9.2 (by first | omega | (dsimp only; omega)))
    · skip
      have t_37 := rf_ok hV.1 h0 (show sp 8 5 = some 19 from rfl)
      first | (have e_42 := t_mul (x := x1_30) (y := (Int32.ofInt (3))) rfl (ofI (by decide)) (by omega)) | skip
      first | (have e_44 := t_add (x := (x1_30 * (Int32.ofInt (3)))) (y := (Int32.ofInt (0))) rfl (ofI (by decide)) (by omega)) | skip
      refine Wp.pos (by omega) ?_
      refine Wp_lb (fun I10 eI10 => ?_)
      have hV10 : SQ kT P K O I0 J0 I10 J0 := by rw [eI10]; exact hV_30.putI t_37.2 rfl trivial
      have tk10_rfOa09_3 : (I10 (rf O a0 9) 3).toInt = (I_30 (rf O a0 9) 3).toInt := by rw [eI10, up2_ne _ _ (fun z => by have q := tr_TR.2; rw [z.1, t_37.2] at q; exact absurd q (by decide))]
      have tk10_rfOa09_4 : (I10 (rf O a0 9) 4).toInt = (I_30 (rf O a0 9) 4).toInt := by rw [eI10, up2_ne _ _ (fun z => by have q := tr_TR.2; rw [z.1, t_37.2] at q; exact absurd q (by decide))]
      have t_48 := rf_ok hV.1 h0 (show sp 8 5 = some 19 from rfl)
      first | (have e_53 := t_mul (x := x1_30) (y := (Int32.ofInt (3))) rfl (ofI (by decide)) (by omega)) | skip
      first | (have e_55 := t_add (x := (x1_30 * (Int32.ofInt (3)))) (y := (Int32.ofInt (1))) rfl (ofI (by decide)) (by omega)) | skip
      refine Wp.pos (by omega) ?_
      refine Wp_lb (fun I11 eI11 => ?_)
      have hV11 : SQ kT P K O I0 J0 I11 J0 := by rw [eI11]; exact hV10.putI t_48.2 rfl trivial
      have tk11_rfOa09_3 : (I11 (rf O a0 9) 3).toInt = (I10 (rf O a0 9) 3).toInt := by rw [eI11, up2_ne _ _ (fun z => by have q := tr_TR.2; rw [z.1, t_48.2] at q; exact absurd q (by decide))]
      have tk11_rfOa09_4 : (I11 (rf O a0 9) 4).toInt = (I10 (rf O a0 9) 4).toInt := by rw [eI11, up2_ne _ _ (fun z => by have q := tr_TR.2; rw [z.1, t_48.2] at q; exact absurd q (by decide))]
      have t_59 := rf_ok hV.1 h0 (show sp 8 5 = some 19 from rfl)
      first | (have e_64 := t_mul (x := x1_30) (y := (Int32.ofInt (3))) rfl (ofI (by decide)) (by omega)) | skip
      first | (have e_66 := t_add (x := (x1_30 * (Int32.ofInt (3)))) (y := (Int32.ofInt (2))) rfl (ofI (by decide)) (by omega)) | skip
      refine Wp.pos (by omega) ?_
      refine Wp_lb (fun I12 eI12 => ?_)
      have hV12 : SQ kT P K O I0 J0 I12 J0 := by rw [eI12]; exact hV11.putI t_59.2 rfl trivial
      have tk12_rfOa09_3 : (I12 (rf O a0 9) 3).toInt = (I11 (rf O a0 9) 3).toInt := by rw [eI12, up2_ne _ _ (fun z => by have q := tr_TR.2; rw [z.1, t_59.2] at q; exact absurd q (by decide))]
      have tk12_rfOa09_4 : (I12 (rf O a0 9) 4).toInt = (I11 (rf O a0 9) 4).toInt := by rw [eI12, up2_ne _ _ (fun z => by have q := tr_TR.2; rw [z.1, t_59.2] at q; exact absurd q (by decide))]
      refine Wp_lb (fun v1_69 ev_69 => ?_)
      have rv_69 := rg v1_69
      first | (have e_69 : v1_69.toInt = (x1_30).toInt + 1 := by rw [ev_69]; exact t_add rfl (ofI (by decide)) (by omega)) | skip
      clear ev_69
      exact ih_30 (v1_69) I12 (by omega) (by omega) hV12
  exact lp_30 N ((Int32.ofInt (0))) I4 (by have hci0 : Int32.toInt (Int32.ofInt (0)) = 0 := ofI (by decide); omega) (by have hci0 : Int32.toInt (Int32.ofInt (0)) = 0 := ofI (by decide); omega) hV4
set_option maxHeartbeats 4000000 in
set_option maxRecDepth 100000 in
theorem s_RM_fault {P : List Nat} {K : Nat → Nat} {N : Nat} {O : WO} {I0 : WI} {J0 : WJ} (hN : 2147483648 ≤ N) (hV : IV P K I0 O) {a0 : Nat} (h0 : a0 ∈ P ∧ K a0 = 8) {Q : Int32 → Prop} (hQ : ∀ (z : Int32), (Int32.toInt z = Int32.toInt (I0 a0 15)) → Q z) : Wp (F_RM_fault N O I0 J0 a0) Q := by
  unfold F_RM_fault
  have hV0 : SQ kP P K O I0 J0 I0 J0 := SQ.rf hV
  exact Wp.ret (hQ (I0 a0 15) (by first | omega | (dsimp only; omega)))
set_option maxHeartbeats 4000000 in
set_option maxRecDepth 100000 in
theorem s_RM_where {P : List Nat} {K : Nat → Nat} {N : Nat} {O : WO} {I0 : WI} {J0 : WJ} (hN : 2147483648 ≤ N) (hV : IV P K I0 O) {a0 : Nat} (h0 : a0 ∈ P ∧ K a0 = 8) {Q : Int32 → Prop} (hQ : ∀ (z : Int32), ((Int32.toInt (I0 a0 14) = 4 ∧ Int32.toInt z = Int32.toInt (I0 a0 16)) ∨ (¬ Int32.toInt (I0 a0 14) = 4 ∧ Int32.toInt z = -1)) → Q z) : Wp (F_RM_where N O I0 J0 a0) Q := by
  unfold F_RM_where
  have hV0 : SQ kP P K O I0 J0 I0 J0 := SQ.rf hV
  refine Wp.ite (fun c_5 => ?_) (fun c_5 => ?_)
  · skip
    exact Wp.ret (hQ (I0 a0 16) (by first | omega | (dsimp only; omega)))
  · skip
    exact Wp.ret (hQ (Int32.ofInt (-1)) (by have hci : Int32.toInt (Int32.ofInt (-1)) = -1 := ofI (by decide); first | omega | (dsimp only; omega)))
set_option maxHeartbeats 4000000 in
set_option maxRecDepth 100000 in
theorem s_RM_set {P : List Nat} {K : Nat → Nat} {N : Nat} {O : WO} {I0 : WI} {J0 : WJ} (hN : 2147483648 ≤ N) (hV : IV P K I0 O) {a0 : Nat} (h0 : a0 ∈ P ∧ K a0 = 8) {x1 : Int32} {x2 : Int32} {x3 : Int32} {Q : (Int32 × WI) → Prop} (hQ : ∀ (z : Int32) (I_ : WI), IV P K I_ O → FQ kC K I0 J0 I_ J0 → (z.toInt = 0 ∨ z.toInt = 1) → (¬ Int32.toInt (I_ a0 14) = 4 ∧ ((Int32.toInt z = 1 ∧ 0 ≤ Int32.toInt x3 ∧ Int32.toInt x3 < Int32.toInt (I0 (rf O a0 1) 8) ∧ 0 ≤ Int32.toInt x1 ∧ Int32.toInt x1 ≤ 3 ∧ 0 ≤ Int32.toInt x2 ∧ Int32.toInt x2 ≤ 3) ∨ (Int32.toInt z = 0 ∧ (Int32.toInt x3 < 0 ∨ Int32.toInt (I0 (rf O a0 1) 8) ≤ Int32.toInt x3 ∨ Int32.toInt x1 < 0 ∨ 3 < Int32.toInt x1 ∨ Int32.toInt x2 < 0 ∨ 3 < Int32.toInt x2)))) → Q (z, I_)) : Wp (F_RM_set N O I0 J0 a0 x1 x2 x3) Q := by
  unfold F_RM_set
  have r1 := rg x1
  have r2 := rg x2
  have r3 := rg x3
  have hV0 : SQ kC P K O I0 J0 I0 J0 := SQ.rf hV
  refine Wpc1 (s_RM_isOre hN hV0.1 h0 (fun z_2 b_2 p_2 => ?_))
  try dsimp only at p_2
  have rz_2 := rg z_2
  refine Wp.ite (fun c_5 => ?_) (fun c_5 => ?_)
  · skip
    refine Wpc2 (s_RM_deny hN hV0.1 h0 (fun z_10 I2 hI2 hF2 b_10 p_10 => ?_))
    have hV2 : SQ kC P K O I0 J0 I2 J0 := hV0.call (fun _ _ h => h) hI2 hF2
    try dsimp only at p_10
    have hk1_10 : Int32.toInt (Int32.ofInt (1)) = 1 := ofI (by decide)
    have rz_10 := rg z_10
    refine Wp.pos (by omega) ?_
    exact Wp.ret (hQ z_10 I2 hV2.1 hV2.2 (by omega) (by first | omega | (dsimp only; omega)))
  · skip
    refine Wpc1 (s_RM_isRate hN hV0.1  (fun z_15 b_15 p_15 => ?_))
    try dsimp only at p_15
    have rz_15 := rg z_15
    refine Wp.jn ?_
    refine Wp.ite (fun c_18 => ?_) (fun c_18 => ?_)
    · skip
      refine Wpc2 (s_RM_deny hN hV0.1 h0 (fun z_30 I4 hI4 hF4 b_30 p_30 => ?_))
      have hV4 : SQ kC P K O I0 J0 I4 J0 := hV0.call (fun _ _ h => h) hI4 hF4
      try dsimp only at p_30
      have hk1_30 : Int32.toInt (Int32.ofInt (2)) = 2 := ofI (by decide)
      have rz_30 := rg z_30
      refine Wp.pos (by omega) ?_
      exact Wp.ret (hQ z_30 I4 hV4.1 hV4.2 (by omega) (by first | omega | (dsimp only; omega)))
    · skip
      refine Wpc1 (s_RM_isWater hN hV0.1  (fun z_22 b_22 p_22 => ?_))
      try dsimp only at p_22
      have rz_22 := rg z_22
      refine Wp.ite (fun c_25 => ?_) (fun c_25 => ?_)
      · skip
        refine Wpc2 (s_RM_deny hN hV0.1 h0 (fun z_30 I6 hI6 hF6 b_30 p_30 => ?_))
        have hV6 : SQ kC P K O I0 J0 I6 J0 := hV0.call (fun _ _ h => h) hI6 hF6
        try dsimp only at p_30
        have hk1_30 : Int32.toInt (Int32.ofInt (2)) = 2 := ofI (by decide)
        have rz_30 := rg z_30
        refine Wp.pos (by omega) ?_
        exact Wp.ret (hQ z_30 I6 hV6.1 hV6.2 (by omega) (by first | omega | (dsimp only; omega)))
      · skip
        have t_35 := rf_ok hV.1 h0 (show sp 8 4 = some 18 from rfl)
        refine Wp_lb (fun I7 eI7 => ?_)
        have hV7 : SQ kC P K O I0 J0 I7 J0 := by rw [eI7]; exact hV0.putI t_35.2 rfl trivial
        have t_42 := rf_ok hV.1 h0 (show sp 8 4 = some 18 from rfl)
        refine Wp_lb (fun I8 eI8 => ?_)
        have hV8 : SQ kC P K O I0 J0 I8 J0 := by rw [eI8]; exact hV7.putI t_42.2 rfl trivial
        have t_49 := rf_ok hV.1 h0 (show sp 8 4 = some 18 from rfl)
        refine Wp_lb (fun I9 eI9 => ?_)
        have hV9 : SQ kC P K O I0 J0 I9 J0 := by rw [eI9]; exact hV8.putI t_49.2 rfl trivial
        refine Wpc2 (s_RM_allow hN hV9.1 h0 (fun z_56 I10 hI10 hF10 b_56 p_56 => ?_))
        have hV10 : SQ kC P K O I0 J0 I10 J0 := hV9.call (fun _ _ h => h) hI10 hF10
        try dsimp only at p_56
        have rz_56 := rg z_56
        refine Wp.pos (by omega) ?_
        exact Wp.ret (hQ z_56 I10 hV10.1 hV10.2 (by omega) (by first | omega | (dsimp only; omega)))
set_option maxHeartbeats 4000000 in
set_option maxRecDepth 100000 in
theorem s_RM_mend {P : List Nat} {K : Nat → Nat} {N : Nat} {O : WO} {I0 : WI} {J0 : WJ} (hN : 2147483648 ≤ N) (hV : IV P K I0 O) {a0 : Nat} (h0 : a0 ∈ P ∧ K a0 = 8) {x1 : Int32} {x2 : Int32} {Q : (Int32 × WI) → Prop} (hQ : ∀ (z : Int32) (I_ : WI), IV P K I_ O → FQ kC K I0 J0 I_ J0 → (z.toInt = 0 ∨ z.toInt = 1) → (¬ Int32.toInt (I_ a0 14) = 4 ∧ ((Int32.toInt z = 1 ∧ ¬ Int32.toInt (I0 (rf O a0 1) 7) = 0 ∧ 0 ≤ Int32.toInt x1 ∧ Int32.toInt x1 ≤ 3) ∨ (Int32.toInt z = 0 ∧ (Int32.toInt (I0 (rf O a0 1) 7) = 0 ∨ Int32.toInt x1 < 0 ∨ 3 < Int32.toInt x1)))) → Q (z, I_)) : Wp (F_RM_mend N O I0 J0 a0 x1 x2) Q := by
  unfold F_RM_mend
  have r1 := rg x1
  have r2 := rg x2
  have hV0 : SQ kC P K O I0 J0 I0 J0 := SQ.rf hV
  refine Wpc1 (s_RM_noMill hN hV0.1 h0 (fun z_1 b_1 p_1 => ?_))
  try dsimp only at p_1
  have rz_1 := rg z_1
  refine Wp.ite (fun c_4 => ?_) (fun c_4 => ?_)
  · skip
    refine Wp.jn ?_
    refine Wp.ite (fun c_14 => ?_) (fun c_14 => ?_)
    · skip
      refine Wpc2 (s_RM_deny hN hV0.1 h0 (fun z_24 I2 hI2 hF2 b_24 p_24 => ?_))
      have hV2 : SQ kC P K O I0 J0 I2 J0 := hV0.call (fun _ _ h => h) hI2 hF2
      try dsimp only at p_24
      have hk1_24 : Int32.toInt (Int32.ofInt (2)) = 2 := ofI (by decide)
      have rz_24 := rg z_24
      refine Wp.pos (by omega) ?_
      exact Wp.ret (hQ z_24 I2 hV2.1 hV2.2 (by omega) (by first | omega | (dsimp only; omega)))
    · skip
      refine Wp.ite (fun c_19 => ?_) (fun c_19 => ?_)
      · skip
        have t_29 := rf_ok hV.1 h0 (show sp 8 3 = some 0 from rfl)
        refine Wp_lb (fun I3 eI3 => ?_)
        have hV3 : SQ kC P K O I0 J0 I3 J0 := by rw [eI3]; exact hV0.putI t_29.2 rfl trivial
        refine Wp_jq (fun k_48 => ∀ (IJ_48 : WI), SQ kC P K O I0 J0 IJ_48 J0 → Wp (k_48 IJ_48) Q) (fun IJ_48  hVJ_48 => ?_) (fun k_48 hk_48 => ?_)
        · skip
          refine Wpc2 (s_RM_allow hN hVJ_48.1 h0 (fun z_49 I4 hI4 hF4 b_49 p_49 => ?_))
          have hV4 : SQ kC P K O I0 J0 I4 J0 := hVJ_48.call (fun _ _ h => h) hI4 hF4
          try dsimp only at p_49
          have rz_49 := rg z_49
          refine Wp.pos (by omega) ?_
          exact Wp.ret (hQ z_49 I4 hV4.1 hV4.2 (by omega) (by first | omega | (dsimp only; omega)))
        refine Wp.ite (fun c_37 => ?_) (fun c_37 => ?_)
        · skip
          exact hk_48  I3  hV3
        · skip
          have t_41 := rf_ok hV.1 h0 (show sp 8 3 = some 0 from rfl)
          refine Wp_lb (fun I5 eI5 => ?_)
          have hV5 : SQ kC P K O I0 J0 I5 J0 := by rw [eI5]; exact hV3.putI t_41.2 rfl trivial
          exact hk_48  I5  hV5
      · skip
        refine Wpc2 (s_RM_deny hN hV0.1 h0 (fun z_24 I6 hI6 hF6 b_24 p_24 => ?_))
        have hV6 : SQ kC P K O I0 J0 I6 J0 := hV0.call (fun _ _ h => h) hI6 hF6
        try dsimp only at p_24
        have hk1_24 : Int32.toInt (Int32.ofInt (2)) = 2 := ofI (by decide)
        have rz_24 := rg z_24
        refine Wp.pos (by omega) ?_
        exact Wp.ret (hQ z_24 I6 hV6.1 hV6.2 (by omega) (by first | omega | (dsimp only; omega)))
  · skip
    refine Wpc2 (s_RM_deny hN hV0.1 h0 (fun z_9 I7 hI7 hF7 b_9 p_9 => ?_))
    have hV7 : SQ kC P K O I0 J0 I7 J0 := hV0.call (fun _ _ h => h) hI7 hF7
    try dsimp only at p_9
    have hk1_9 : Int32.toInt (Int32.ofInt (1)) = 1 := ofI (by decide)
    have rz_9 := rg z_9
    refine Wp.pos (by omega) ?_
    exact Wp.ret (hQ z_9 I7 hV7.1 hV7.2 (by omega) (by first | omega | (dsimp only; omega)))
set_option maxHeartbeats 4000000 in
set_option maxRecDepth 100000 in
theorem s_RM_go {P : List Nat} {K : Nat → Nat} {N : Nat} {O : WO} {I0 : WI} {J0 : WJ} (hN : 2147483648 ≤ N) (hV : IV P K I0 O) {a0 : Nat} (h0 : a0 ∈ P ∧ K a0 = 8) {x1 : Int32} {Q : (Int32 × WI) → Prop} (hQ : ∀ (z : Int32) (I_ : WI), IV P K I_ O → FQ kC K I0 J0 I_ J0 → (¬ Int32.toInt (I_ a0 14) = 4) → Q (z, I_)) : Wp (F_RM_go N O I0 J0 a0 x1) Q := by
  unfold F_RM_go
  have r1 := rg x1
  have hV0 : SQ kC P K O I0 J0 I0 J0 := SQ.rf hV
  refine Wpc1 (s_RM_noMill hN hV0.1 h0 (fun z_1 b_1 p_1 => ?_))
  try dsimp only at p_1
  have rz_1 := rg z_1
  refine Wp.ite (fun c_4 => ?_) (fun c_4 => ?_)
  · skip
    refine Wp_jq (fun k_24 => Wp (k_24 ) Q) (?_) (fun k_24 hk_24 => ?_)
    · skip
      refine Wpc2 (s_RM_refuse hN hV0.1 h0 (fun z_26 I2 hI2 hF2 p_26 => ?_))
      have hV2 : SQ kC P K O I0 J0 I2 J0 := hV0.call (fun _ _ h => h) hI2 hF2
      try dsimp only at p_26
      have hk1_26 : Int32.toInt (Int32.ofInt (2)) = 2 := ofI (by decide)
      have rz_26 := rg z_26
      exact Wp.ret (hQ z_26 I2 hV2.1 hV2.2 (by first | omega | (dsimp only; omega)))
    refine Wp.ite (fun c_15 => ?_) (fun c_15 => ?_)
    · skip
      exact hk_24   
    · skip
      refine Wp.ite (fun c_21 => ?_) (fun c_21 => ?_)
      · skip
        have t_31 := rf_ok hV.1 h0 (show sp 8 3 = some 0 from rfl)
        first | (have e_38 := t_add (x := (I0 (rf O a0 3) 6)) (y := x1) rfl rfl (by omega)) | skip
        refine Wp.ite (fun c_42 => ?_) (fun c_42 => ?_)
        · skip
          have lp_55 : ∀ (m_55 : Nat) (x2_55 : Int32) (x3_55 : Int32) (I_55 : WI), Int.toNat (24 - (x3_55).toInt) < m_55 → (0 ≤ Int32.toInt x3_55 ∧ Int32.toInt x3_55 ≤ 24) → SQ kC P K O I0 J0 I_55 J0 → Wp (lp (B_RM_go_55 N O (a0) (x1) (J0)) (fun _ _ _ => none) m_55 x2_55 x3_55 I_55) Q := by
            intro m_55
            induction m_55 with
            | zero => intro x2_55 x3_55 I_55 hm; exact absurd hm (Nat.not_lt_zero _)
            | succ m_55 ih_55 =>
            intro x2_55 x3_55 I_55 hm_55 iv0_55 hV_55
            have rg2_55 := rg x2_55
            have rg3_55 := rg x3_55
            show Wp (B_RM_go_55 N O (a0) (x1) (J0) (lp (B_RM_go_55 N O (a0) (x1) (J0)) (fun _ _ _ => none) m_55) x2_55 x3_55 I_55) Q
            unfold B_RM_go_55
            refine Wp.ite (fun c_57 => ?_) (fun c_57 => ?_)
            · skip
              refine Wpc2 (s_RM_accept hN hV_55.1 h0 (fun z_115 I3 hI3 hF3 p_115 => ?_))
              have hV3 : SQ kC P K O I0 J0 I3 J0 := hV_55.call (fun _ _ h => h) hI3 hF3
              try dsimp only at p_115
              have rz_115 := rg z_115
              exact Wp.ret (hQ z_115 I3 hV3.1 hV3.2 (by first | omega | (dsimp only; omega)))
            · skip
              have t_61 := rf_ok hV.1 h0 (show sp 8 3 = some 0 from rfl)
              refine Wp_lb (fun v4_67 ev_67 => ?_)
              have ei_67 := congrArg Int32.toInt ev_67
              have rv_67 := rg v4_67
              have t_70 := rf_ok hV.1 h0 (show sp 8 3 = some 0 from rfl)
              have t_74 := rf_ok hV.1 h0 (show sp 8 1 = some 3 from rfl)
              have t_78 := rf_ok hV.1 h0 (show sp 8 4 = some 18 from rfl)
              refine Wpc1 (s_Dr_runHour hN hV_55.1 t_70 t_74 t_78 ⟨by decide, rfl, fun _ => rfl, fun _ _ => trivial, by decide⟩ (by have hk3 : Int32.toInt (Int32.ofInt (0)) = 0 := ofI (by decide); omega) (fun I4 hI4 hF4 p_82 => ?_))
              have hV4 : SQ kC P K O I0 J0 I4 J0 := hV_55.call (kpL_le (fun _ h => h) rfl) hI4 hF4
              have t_86 := rf_ok hV.1 h0 (show sp 8 3 = some 0 from rfl)
              refine Wp_jq (fun k_107 => ∀ (y2_107 : Int32) (IJ_107 : WI), SQ kC P K O I0 J0 IJ_107 J0 → Wp (k_107 y2_107 IJ_107) Q) (fun y2_107 IJ_107  hVJ_107 => ?_) (fun k_107 hk_107 => ?_)
              · skip
                refine Wp_lb (fun v3_107 ev_107 => ?_)
                have rv_107 := rg v3_107
                first | (have e_107 : v3_107.toInt = (x3_55).toInt + 1 := by rw [ev_107]; exact t_add rfl (ofI (by decide)) (by omega)) | skip
                clear ev_107
                exact ih_55 (y2_107) (v3_107) IJ_107 (by omega) (by omega) hVJ_107
              refine Wp.ite (fun c_92 => ?_) (fun c_92 => ?_)
              · skip
                refine Wp_lb (fun v2_104 ev_104 => ?_)
                have rv_104 := rg v2_104
                first | (have e_104 : v2_104.toInt = (x2_55).toInt + 1 := by rw [ev_104]; exact t_add rfl (ofI (by decide)) (by omega)) | skip
                clear ev_104
                exact hk_107 (v2_104) I4  hV4
              · skip
                refine Wpc1 (s_RM_noteStood hN hV4.1 h0 (fun I5 hI5 hF5 p_98 => ?_))
                have hV5 : SQ kC P K O I0 J0 I5 J0 := hV4.call (kpL_le (fun _ h => h) rfl) hI5 hF5
                exact hk_107 (x2_55) I5  hV5
          exact lp_55 N ((Int32.ofInt (0))) ((Int32.ofInt (0))) I0 (by have hci0 : Int32.toInt (Int32.ofInt (0)) = 0 := ofI (by decide); omega) (by have hci0 : Int32.toInt (Int32.ofInt (0)) = 0 := ofI (by decide); omega) hV0
        · skip
          refine Wpc2 (s_RM_refuse hN hV0.1 h0 (fun z_47 I6 hI6 hF6 p_47 => ?_))
          have hV6 : SQ kC P K O I0 J0 I6 J0 := hV0.call (fun _ _ h => h) hI6 hF6
          try dsimp only at p_47
          have hk1_47 : Int32.toInt (Int32.ofInt (3)) = 3 := ofI (by decide)
          have rz_47 := rg z_47
          exact Wp.ret (hQ z_47 I6 hV6.1 hV6.2 (by first | omega | (dsimp only; omega)))
      · skip
        exact hk_24   
  · skip
    refine Wpc2 (s_RM_refuse hN hV0.1 h0 (fun z_9 I7 hI7 hF7 p_9 => ?_))
    have hV7 : SQ kC P K O I0 J0 I7 J0 := hV0.call (fun _ _ h => h) hI7 hF7
    try dsimp only at p_9
    have hk1_9 : Int32.toInt (Int32.ofInt (1)) = 1 := ofI (by decide)
    have rz_9 := rg z_9
    exact Wp.ret (hQ z_9 I7 hV7.1 hV7.2 (by first | omega | (dsimp only; omega)))
set_option maxHeartbeats 4000000 in
set_option maxRecDepth 100000 in
theorem s_RM_tons {P : List Nat} {K : Nat → Nat} {N : Nat} {O : WO} {I0 : WI} {J0 : WJ} (hN : 2147483648 ≤ N) (hV : IV P K I0 O) {a0 : Nat} (h0 : a0 ∈ P ∧ K a0 = 8) {x1 : Int32} {x2 : Int32} {Q : Int32 → Prop} (hQ : ∀ (z : Int32), True → Q z) : Wp (F_RM_tons N O I0 J0 a0 x1 x2) Q := by
  unfold F_RM_tons
  have r1 := rg x1
  have r2 := rg x2
  have hV0 : SQ kP P K O I0 J0 I0 J0 := SQ.rf hV
  refine Wpc1 (s_RM_isSize hN hV0.1 h0 (fun z_2 b_2 p_2 => ?_))
  try dsimp only at p_2
  have rz_2 := rg z_2
  refine Wp.ite (fun c_5 => ?_) (fun c_5 => ?_)
  · skip
    exact Wp.ret (hQ (Int32.ofInt (-1)) trivial)
  · skip
    refine Wp.ite (fun c_11_0 => ?_) (fun c_11_0 => ?_)
    · skip
      have t_41 := rf_ok hV.1 h0 (show sp 8 3 = some 0 from rfl)
      have t_44 := rf_ok hV.1 t_41 (show sp 0 0 = some 2 from rfl)
      have t_47 := rf_ok hV.1 t_44 (show sp 2 0 = some 11 from rfl)
      refine Wp.pos (by omega) ?_
      exact Wp.ret (hQ (I0 (rf O (rf O (rf O a0 3) 0) 0) (x1).toInt.toNat) trivial)
    refine Wp.ite (fun c_11_1 => ?_) (fun c_11_1 => ?_)
    · skip
      have t_54 := rf_ok hV.1 h0 (show sp 8 3 = some 0 from rfl)
      have t_57 := rf_ok hV.1 t_54 (show sp 0 0 = some 2 from rfl)
      have t_60 := rf_ok hV.1 t_57 (show sp 2 1 = some 11 from rfl)
      refine Wp.pos (by omega) ?_
      exact Wp.ret (hQ (I0 (rf O (rf O (rf O a0 3) 0) 1) (x1).toInt.toNat) trivial)
    refine Wp.ite (fun c_11_2 => ?_) (fun c_11_2 => ?_)
    · skip
      have t_67 := rf_ok hV.1 h0 (show sp 8 3 = some 0 from rfl)
      have t_70 := rf_ok hV.1 t_67 (show sp 0 0 = some 2 from rfl)
      have t_73 := rf_ok hV.1 t_70 (show sp 2 2 = some 11 from rfl)
      refine Wp.pos (by omega) ?_
      exact Wp.ret (hQ (I0 (rf O (rf O (rf O a0 3) 0) 2) (x1).toInt.toNat) trivial)
    refine Wp.ite (fun c_11_3 => ?_) (fun c_11_3 => ?_)
    · skip
      have t_80 := rf_ok hV.1 h0 (show sp 8 3 = some 0 from rfl)
      have t_83 := rf_ok hV.1 t_80 (show sp 0 1 = some 11 from rfl)
      refine Wp.pos (by omega) ?_
      exact Wp.ret (hQ (I0 (rf O (rf O a0 3) 1) (x1).toInt.toNat) trivial)
    exact Wp.ret (hQ (Int32.ofInt (-1)) trivial)
set_option maxHeartbeats 4000000 in
set_option maxRecDepth 100000 in
theorem s_RM_state {P : List Nat} {K : Nat → Nat} {N : Nat} {O : WO} {I0 : WI} {J0 : WJ} (hN : 2147483648 ≤ N) (hV : IV P K I0 O) {a0 : Nat} (h0 : a0 ∈ P ∧ K a0 = 8) {x1 : Int32} {Q : Int32 → Prop} (hQ : ∀ (z : Int32), True → Q z) : Wp (F_RM_state N O I0 J0 a0 x1) Q := by
  unfold F_RM_state
  have r1 := rg x1
  have hV0 : SQ kP P K O I0 J0 I0 J0 := SQ.rf hV
  refine Wp.ite (fun c_1_0 => ?_) (fun c_1_0 => ?_)
  · skip
    have t_85 := rf_ok hV.1 h0 (show sp 8 3 = some 0 from rfl)
    exact Wp.ret (hQ (I0 (rf O a0 3) 2) trivial)
  refine Wp.ite (fun c_1_1 => ?_) (fun c_1_1 => ?_)
  · skip
    have t_93 := rf_ok hV.1 h0 (show sp 8 3 = some 0 from rfl)
    exact Wp.ret (hQ (I0 (rf O a0 3) 13) trivial)
  refine Wp.ite (fun c_1_2 => ?_) (fun c_1_2 => ?_)
  · skip
    have t_101 := rf_ok hV.1 h0 (show sp 8 3 = some 0 from rfl)
    exact Wp.ret (hQ (I0 (rf O a0 3) 14) trivial)
  refine Wp.ite (fun c_1_3 => ?_) (fun c_1_3 => ?_)
  · skip
    have t_109 := rf_ok hV.1 h0 (show sp 8 3 = some 0 from rfl)
    exact Wp.ret (hQ (I0 (rf O a0 3) 12) trivial)
  refine Wp.ite (fun c_1_4 => ?_) (fun c_1_4 => ?_)
  · skip
    have t_117 := rf_ok hV.1 h0 (show sp 8 3 = some 0 from rfl)
    exact Wp.ret (hQ (I0 (rf O a0 3) 3) trivial)
  refine Wp.ite (fun c_1_5 => ?_) (fun c_1_5 => ?_)
  · skip
    have t_125 := rf_ok hV.1 h0 (show sp 8 3 = some 0 from rfl)
    exact Wp.ret (hQ (I0 (rf O a0 3) 4) trivial)
  refine Wp.ite (fun c_1_6 => ?_) (fun c_1_6 => ?_)
  · skip
    have t_133 := rf_ok hV.1 h0 (show sp 8 3 = some 0 from rfl)
    refine Wp.ite (fun c_139 => ?_) (fun c_139 => ?_)
    · skip
      exact Wp.ret (hQ (Int32.ofInt (0)) trivial)
    · skip
      exact Wp.ret (hQ (Int32.ofInt (1)) trivial)
  refine Wp.ite (fun c_1_7 => ?_) (fun c_1_7 => ?_)
  · skip
    have t_149 := rf_ok hV.1 h0 (show sp 8 3 = some 0 from rfl)
    exact Wp.ret (hQ (I0 (rf O a0 3) 6) trivial)
  refine Wp.ite (fun c_1_8 => ?_) (fun c_1_8 => ?_)
  · skip
    have t_157 := rf_ok hV.1 h0 (show sp 8 3 = some 0 from rfl)
    exact Wp.ret (hQ (I0 (rf O a0 3) 7) trivial)
  refine Wp.ite (fun c_1_9 => ?_) (fun c_1_9 => ?_)
  · skip
    have t_165 := rf_ok hV.1 h0 (show sp 8 3 = some 0 from rfl)
    exact Wp.ret (hQ (I0 (rf O a0 3) 8) trivial)
  refine Wp.ite (fun c_1_10 => ?_) (fun c_1_10 => ?_)
  · skip
    have t_173 := rf_ok hV.1 h0 (show sp 8 3 = some 0 from rfl)
    exact Wp.ret (hQ (I0 (rf O a0 3) 9) trivial)
  refine Wp.ite (fun c_1_11 => ?_) (fun c_1_11 => ?_)
  · skip
    have t_181 := rf_ok hV.1 h0 (show sp 8 3 = some 0 from rfl)
    exact Wp.ret (hQ (I0 (rf O a0 3) 10) trivial)
  refine Wp.ite (fun c_1_12 => ?_) (fun c_1_12 => ?_)
  · skip
    have t_189 := rf_ok hV.1 h0 (show sp 8 3 = some 0 from rfl)
    exact Wp.ret (hQ (I0 (rf O a0 3) 15) trivial)
  refine Wp.ite (fun c_1_13 => ?_) (fun c_1_13 => ?_)
  · skip
    have t_197 := rf_ok hV.1 h0 (show sp 8 3 = some 0 from rfl)
    exact Wp.ret (hQ (I0 (rf O a0 3) 16) trivial)
  refine Wp.ite (fun c_1_14 => ?_) (fun c_1_14 => ?_)
  · skip
    have t_205 := rf_ok hV.1 h0 (show sp 8 4 = some 18 from rfl)
    exact Wp.ret (hQ (I0 (rf O a0 4) 0) trivial)
  refine Wp.ite (fun c_1_15 => ?_) (fun c_1_15 => ?_)
  · skip
    have t_212 := rf_ok hV.1 h0 (show sp 8 4 = some 18 from rfl)
    exact Wp.ret (hQ (I0 (rf O a0 4) 1) trivial)
  refine Wp.ite (fun c_1_16 => ?_) (fun c_1_16 => ?_)
  · skip
    have t_219 := rf_ok hV.1 h0 (show sp 8 4 = some 18 from rfl)
    exact Wp.ret (hQ (I0 (rf O a0 4) 2) trivial)
  exact Wp.ret (hQ (Int32.ofInt (-1)) trivial)
set_option maxHeartbeats 4000000 in
set_option maxRecDepth 100000 in
theorem s_RM_program {P : List Nat} {K : Nat → Nat} {N : Nat} {O : WO} {I0 : WI} {J0 : WJ} (hN : 2147483648 ≤ N) (hV : IV P K I0 O) {a0 : Nat} (h0 : a0 ∈ P ∧ K a0 = 8) {x1 : Int32} {x2 : Int32} {x3 : Int32} {x4 : Int32} {Q : (Int32 × WI) → Prop} (hQ : ∀ (z : Int32) (I_ : WI), IV P K I_ O → FQ kC K I0 J0 I_ J0 → (z.toInt = 0 ∨ z.toInt = 1) → (¬ Int32.toInt (I_ a0 14) = 4 ∧ ((Int32.toInt z = 1 ∧ 0 ≤ Int32.toInt x1 ∧ Int32.toInt x1 ≤ 11 ∧ 0 ≤ Int32.toInt x4 ∧ Int32.toInt x4 < Int32.toInt (I0 (rf O a0 1) 8) ∧ 0 ≤ Int32.toInt x2 ∧ Int32.toInt x2 ≤ 3 ∧ 0 ≤ Int32.toInt x3 ∧ Int32.toInt x3 ≤ 3) ∨ (Int32.toInt z = 0 ∧ (Int32.toInt x1 < 0 ∨ 11 < Int32.toInt x1 ∨ Int32.toInt x4 < 0 ∨ Int32.toInt (I0 (rf O a0 1) 8) ≤ Int32.toInt x4 ∨ Int32.toInt x2 < 0 ∨ 3 < Int32.toInt x2 ∨ Int32.toInt x3 < 0 ∨ 3 < Int32.toInt x3)))) → Q (z, I_)) : Wp (F_RM_program N O I0 J0 a0 x1 x2 x3 x4) Q := by
  unfold F_RM_program
  have r1 := rg x1
  have r2 := rg x2
  have r3 := rg x3
  have r4 := rg x4
  have hV0 : SQ kC P K O I0 J0 I0 J0 := SQ.rf hV
  refine Wpc1 (s_RM_isHour hN hV0.1  (fun z_1 b_1 p_1 => ?_))
  try dsimp only at p_1
  have rz_1 := rg z_1
  refine Wp.jn ?_
  refine Wp.ite (fun c_4 => ?_) (fun c_4 => ?_)
  · skip
    refine Wpc2 (s_RM_deny hN hV0.1 h0 (fun z_18 I2 hI2 hF2 b_18 p_18 => ?_))
    have hV2 : SQ kC P K O I0 J0 I2 J0 := hV0.call (fun _ _ h => h) hI2 hF2
    try dsimp only at p_18
    have hk1_18 : Int32.toInt (Int32.ofInt (1)) = 1 := ofI (by decide)
    have rz_18 := rg z_18
    refine Wp.pos (by omega) ?_
    exact Wp.ret (hQ z_18 I2 hV2.1 hV2.2 (by omega) (by first | omega | (dsimp only; omega)))
  · skip
    refine Wpc1 (s_RM_isOre hN hV0.1 h0 (fun z_10 b_10 p_10 => ?_))
    try dsimp only at p_10
    have rz_10 := rg z_10
    refine Wp.ite (fun c_13 => ?_) (fun c_13 => ?_)
    · skip
      refine Wpc2 (s_RM_deny hN hV0.1 h0 (fun z_18 I4 hI4 hF4 b_18 p_18 => ?_))
      have hV4 : SQ kC P K O I0 J0 I4 J0 := hV0.call (fun _ _ h => h) hI4 hF4
      try dsimp only at p_18
      have hk1_18 : Int32.toInt (Int32.ofInt (1)) = 1 := ofI (by decide)
      have rz_18 := rg z_18
      refine Wp.pos (by omega) ?_
      exact Wp.ret (hQ z_18 I4 hV4.1 hV4.2 (by omega) (by first | omega | (dsimp only; omega)))
    · skip
      refine Wpc1 (s_RM_isRate hN hV0.1  (fun z_23 b_23 p_23 => ?_))
      try dsimp only at p_23
      have rz_23 := rg z_23
      refine Wp.jn ?_
      refine Wp.ite (fun c_26 => ?_) (fun c_26 => ?_)
      · skip
        refine Wpc2 (s_RM_deny hN hV0.1 h0 (fun z_38 I6 hI6 hF6 b_38 p_38 => ?_))
        have hV6 : SQ kC P K O I0 J0 I6 J0 := hV0.call (fun _ _ h => h) hI6 hF6
        try dsimp only at p_38
        have hk1_38 : Int32.toInt (Int32.ofInt (2)) = 2 := ofI (by decide)
        have rz_38 := rg z_38
        refine Wp.pos (by omega) ?_
        exact Wp.ret (hQ z_38 I6 hV6.1 hV6.2 (by omega) (by first | omega | (dsimp only; omega)))
      · skip
        refine Wpc1 (s_RM_isWater hN hV0.1  (fun z_30 b_30 p_30 => ?_))
        try dsimp only at p_30
        have rz_30 := rg z_30
        refine Wp.ite (fun c_33 => ?_) (fun c_33 => ?_)
        · skip
          refine Wpc2 (s_RM_deny hN hV0.1 h0 (fun z_38 I8 hI8 hF8 b_38 p_38 => ?_))
          have hV8 : SQ kC P K O I0 J0 I8 J0 := hV0.call (fun _ _ h => h) hI8 hF8
          try dsimp only at p_38
          have hk1_38 : Int32.toInt (Int32.ofInt (2)) = 2 := ofI (by decide)
          have rz_38 := rg z_38
          refine Wp.pos (by omega) ?_
          exact Wp.ret (hQ z_38 I8 hV8.1 hV8.2 (by omega) (by first | omega | (dsimp only; omega)))
        · skip
          have t_43 := rf_ok hV.1 h0 (show sp 8 5 = some 19 from rfl)
          first | (have e_48 := t_mul (x := x1) (y := (Int32.ofInt (3))) rfl (ofI (by decide)) (by omega)) | skip
          first | (have e_50 := t_add (x := (x1 * (Int32.ofInt (3)))) (y := (Int32.ofInt (0))) rfl (ofI (by decide)) (by omega)) | skip
          refine Wp.pos (by omega) ?_
          refine Wp_lb (fun I9 eI9 => ?_)
          have hV9 : SQ kC P K O I0 J0 I9 J0 := by rw [eI9]; exact hV0.putI t_43.2 rfl trivial
          have t_54 := rf_ok hV.1 h0 (show sp 8 5 = some 19 from rfl)
          first | (have e_59 := t_mul (x := x1) (y := (Int32.ofInt (3))) rfl (ofI (by decide)) (by omega)) | skip
          first | (have e_61 := t_add (x := (x1 * (Int32.ofInt (3)))) (y := (Int32.ofInt (1))) rfl (ofI (by decide)) (by omega)) | skip
          refine Wp.pos (by omega) ?_
          refine Wp_lb (fun I10 eI10 => ?_)
          have hV10 : SQ kC P K O I0 J0 I10 J0 := by rw [eI10]; exact hV9.putI t_54.2 rfl trivial
          have t_65 := rf_ok hV.1 h0 (show sp 8 5 = some 19 from rfl)
          first | (have e_70 := t_mul (x := x1) (y := (Int32.ofInt (3))) rfl (ofI (by decide)) (by omega)) | skip
          first | (have e_72 := t_add (x := (x1 * (Int32.ofInt (3)))) (y := (Int32.ofInt (2))) rfl (ofI (by decide)) (by omega)) | skip
          refine Wp.pos (by omega) ?_
          refine Wp_lb (fun I11 eI11 => ?_)
          have hV11 : SQ kC P K O I0 J0 I11 J0 := by rw [eI11]; exact hV10.putI t_65.2 rfl trivial
          have t_77 := rf_ok hV.1 h0 (show sp 8 6 = some 1 from rfl)
          refine Wpc1 (s_Gu_makeStale hN hV11.1 t_77 (fun I12 hI12 hF12 p_80 => ?_))
          have hV12 : SQ kC P K O I0 J0 I12 J0 := hV11.call (kpL_le (fun _ h => h) rfl) hI12 hF12
          have t_84 := rf_ok hV.1 h0 (show sp 8 7 = some 6 from rfl)
          refine Wp_lb (fun I13 eI13 => ?_)
          have hV13 : SQ kC P K O I0 J0 I13 J0 := by rw [eI13]; exact hV12.putI t_84.2 rfl (show B01 _ from by unfold B01; have hci : Int32.toInt (Int32.ofInt (0)) = 0 := ofI (by decide); omega)
          refine Wpc2 (s_RM_allow hN hV13.1 h0 (fun z_92 I14 hI14 hF14 b_92 p_92 => ?_))
          have hV14 : SQ kC P K O I0 J0 I14 J0 := hV13.call (fun _ _ h => h) hI14 hF14
          try dsimp only at p_92
          have rz_92 := rg z_92
          refine Wp.pos (by omega) ?_
          exact Wp.ret (hQ z_92 I14 hV14.1 hV14.2 (by omega) (by first | omega | (dsimp only; omega)))
set_option maxHeartbeats 4000000 in
set_option maxRecDepth 100000 in
theorem s_RM_seen {P : List Nat} {K : Nat → Nat} {N : Nat} {O : WO} {I0 : WI} {J0 : WJ} (hN : 2147483648 ≤ N) (hV : IV P K I0 O) {a0 : Nat} (h0 : a0 ∈ P ∧ K a0 = 8) {x1 : Int32} {x2 : Int32} {x3 : Int32} {x4 : Int32} {Q : (Int32 × WI) → Prop} (hQ : ∀ (z : Int32) (I_ : WI), IV P K I_ O → FQ kC K I0 J0 I_ J0 → (¬ Int32.toInt (I_ a0 14) = 4) → Q (z, I_)) : Wp (F_RM_seen N O I0 J0 a0 x1 x2 x3 x4) Q := by
  unfold F_RM_seen
  have r1 := rg x1
  have r2 := rg x2
  have r3 := rg x3
  have r4 := rg x4
  have hV0 : SQ kC P K O I0 J0 I0 J0 := SQ.rf hV
  refine Wpc1 (s_RM_isHour hN hV0.1  (fun z_1 b_1 p_1 => ?_))
  try dsimp only at p_1
  have rz_1 := rg z_1
  refine Wp_jq (fun k_15 => Wp (k_15 ) Q) (?_) (fun k_15 hk_15 => ?_)
  · skip
    refine Wpc2 (s_RM_refuse hN hV0.1 h0 (fun z_17 I2 hI2 hF2 p_17 => ?_))
    have hV2 : SQ kC P K O I0 J0 I2 J0 := hV0.call (fun _ _ h => h) hI2 hF2
    try dsimp only at p_17
    have hk1_17 : Int32.toInt (Int32.ofInt (1)) = 1 := ofI (by decide)
    have rz_17 := rg z_17
    exact Wp.ret (hQ z_17 I2 hV2.1 hV2.2 (by first | omega | (dsimp only; omega)))
  refine Wp.ite (fun c_4 => ?_) (fun c_4 => ?_)
  · skip
    exact hk_15   
  · skip
    refine Wpc1 (s_RM_isHeard hN hV0.1 h0 (fun z_9 b_9 p_9 => ?_))
    have rz_9 := rg z_9
    refine Wp.ite (fun c_12 => ?_) (fun c_12 => ?_)
    · skip
      exact hk_15   
    · skip
      refine Wp_jq (fun k_44 => Wp (k_44 ) Q) (?_) (fun k_44 hk_44 => ?_)
      · skip
        refine Wpc2 (s_RM_refuse hN hV0.1 h0 (fun z_46 I4 hI4 hF4 p_46 => ?_))
        have hV4 : SQ kC P K O I0 J0 I4 J0 := hV0.call (fun _ _ h => h) hI4 hF4
        try dsimp only at p_46
        have hk1_46 : Int32.toInt (Int32.ofInt (2)) = 2 := ofI (by decide)
        have rz_46 := rg z_46
        exact Wp.ret (hQ z_46 I4 hV4.1 hV4.2 (by first | omega | (dsimp only; omega)))
      refine Wp.ite (fun c_22 => ?_) (fun c_22 => ?_)
      · skip
        exact hk_44   
      · skip
        refine Wp.ite (fun c_28 => ?_) (fun c_28 => ?_)
        · skip
          exact hk_44   
        · skip
          refine Wp.ite (fun c_33 => ?_) (fun c_33 => ?_)
          · skip
            exact hk_44   
          · skip
            refine Wp.ite (fun c_41 => ?_) (fun c_41 => ?_)
            · skip
              have t_51 := rf_ok hV.1 h0 (show sp 8 7 = some 6 from rfl)
              refine Wpc1 (s_Si_isFilled hN hV0.1 t_51 (fun z_54 b_54 p_54 => ?_))
              have rz_54 := rg z_54
              refine Wp.ite (fun c_57 => ?_) (fun c_57 => ?_)
              · skip
                have t_68 := rf_ok hV.1 h0 (show sp 8 7 = some 6 from rfl)
                refine Wpc2 (s_Si_note hN hV0.1 t_68 (fun z_76 I6 hI6 hF6 p_76 => ?_))
                have hV6 : SQ kC P K O I0 J0 I6 J0 := hV0.call (kpL_le (fun _ h => h) rfl) hI6 hF6
                have rz_76 := rg z_76
                refine Wpc2 (s_RM_accept hN hV6.1 h0 (fun z_79 I7 hI7 hF7 p_79 => ?_))
                have hV7 : SQ kC P K O I0 J0 I7 J0 := hV6.call (fun _ _ h => h) hI7 hF7
                try dsimp only at p_79
                have rz_79 := rg z_79
                exact Wp.ret (hQ z_79 I7 hV7.1 hV7.2 (by first | omega | (dsimp only; omega)))
              · skip
                refine Wpc2 (s_RM_refuse hN hV0.1 h0 (fun z_62 I8 hI8 hF8 p_62 => ?_))
                have hV8 : SQ kC P K O I0 J0 I8 J0 := hV0.call (fun _ _ h => h) hI8 hF8
                try dsimp only at p_62
                have hk1_62 : Int32.toInt (Int32.ofInt (3)) = 3 := ofI (by decide)
                have rz_62 := rg z_62
                exact Wp.ret (hQ z_62 I8 hV8.1 hV8.2 (by first | omega | (dsimp only; omega)))
            · skip
              exact hk_44   
set_option maxHeartbeats 4000000 in
set_option maxRecDepth 100000 in
theorem s_RM_forget {P : List Nat} {K : Nat → Nat} {N : Nat} {O : WO} {I0 : WI} {J0 : WJ} (hN : 2147483648 ≤ N) (hV : IV P K I0 O) {a0 : Nat} (h0 : a0 ∈ P ∧ K a0 = 8) {Q : (Int32 × WI) → Prop} (hQ : ∀ (z : Int32) (I_ : WI), IV P K I_ O → FQ kD K I0 J0 I_ J0 → True → Q (z, I_)) : Wp (F_RM_forget N O I0 J0 a0) Q := by
  unfold F_RM_forget
  have hV0 : SQ kD P K O I0 J0 I0 J0 := SQ.rf hV
  have t_1 := rf_ok hV.1 h0 (show sp 8 7 = some 6 from rfl)
  refine Wpc2 (s_Si_drop hN hV0.1 t_1 (fun z_4 I1 hI1 hF1 p_4 => ?_))
  have hV1 : SQ kD P K O I0 J0 I1 J0 := hV0.call (fun _ _ h => h) hI1 hF1
  have rz_4 := rg z_4
  exact Wp.ret (hQ z_4 I1 hV1.1 hV1.2 trivial)
set_option maxHeartbeats 4000000 in
set_option maxRecDepth 100000 in
theorem s_RM_fits {P : List Nat} {K : Nat → Nat} {N : Nat} {O : WO} {I0 : WI} {J0 : WJ} (hN : 2147483648 ≤ N) (hV : IV P K I0 O) {a0 : Nat} (h0 : a0 ∈ P ∧ K a0 = 8) {Q : (Int32 × WI) → Prop} (hQ : ∀ (z : Int32) (I_ : WI), IV P K I_ O → FQ kC K I0 J0 I_ J0 → (¬ Int32.toInt (I_ a0 14) = 4) → Q (z, I_)) : Wp (F_RM_fits N O I0 J0 a0) Q := by
  unfold F_RM_fits
  have hV0 : SQ kC P K O I0 J0 I0 J0 := SQ.rf hV
  refine Wpc1 (s_RM_noMill hN hV0.1 h0 (fun z_1 b_1 p_1 => ?_))
  try dsimp only at p_1
  have rz_1 := rg z_1
  refine Wp.ite (fun c_4 => ?_) (fun c_4 => ?_)
  · skip
    refine Wpc2 (s_RM_findFits hN hV0.1 h0 (fun z_15 I2 hI2 hF2 p_15 => ?_))
    have hV2 : SQ kC P K O I0 J0 I2 J0 := hV0.call (kpL_le (fun _ h => h) rfl) hI2 hF2
    have rz_15 := rg z_15
    refine Wpc2 (s_RM_accept hN hV2.1 h0 (fun z_18 I3 hI3 hF3 p_18 => ?_))
    have hV3 : SQ kC P K O I0 J0 I3 J0 := hV2.call (fun _ _ h => h) hI3 hF3
    try dsimp only at p_18
    have rz_18 := rg z_18
    exact Wp.ret (hQ z_18 I3 hV3.1 hV3.2 (by first | omega | (dsimp only; omega)))
  · skip
    refine Wpc2 (s_RM_refuse hN hV0.1 h0 (fun z_9 I4 hI4 hF4 p_9 => ?_))
    have hV4 : SQ kC P K O I0 J0 I4 J0 := hV0.call (fun _ _ h => h) hI4 hF4
    try dsimp only at p_9
    have hk1_9 : Int32.toInt (Int32.ofInt (1)) = 1 := ofI (by decide)
    have rz_9 := rg z_9
    exact Wp.ret (hQ z_9 I4 hV4.1 hV4.2 (by first | omega | (dsimp only; omega)))
set_option maxHeartbeats 4000000 in
set_option maxRecDepth 100000 in
theorem s_RM_fitAt {P : List Nat} {K : Nat → Nat} {N : Nat} {O : WO} {I0 : WI} {J0 : WJ} (hN : 2147483648 ≤ N) (hV : IV P K I0 O) {a0 : Nat} (h0 : a0 ∈ P ∧ K a0 = 8) {x1 : Int32} {x2 : Int32} {Q : (Int32 × WI) → Prop} (hQ : ∀ (z : Int32) (I_ : WI), IV P K I_ O → FQ kC K I0 J0 I_ J0 → (¬ Int32.toInt (I_ a0 14) = 4) → Q (z, I_)) : Wp (F_RM_fitAt N O I0 J0 a0 x1 x2) Q := by
  unfold F_RM_fitAt
  have r1 := rg x1
  have r2 := rg x2
  have hV0 : SQ kC P K O I0 J0 I0 J0 := SQ.rf hV
  refine Wpc1 (s_RM_noMill hN hV0.1 h0 (fun z_1 b_1 p_1 => ?_))
  try dsimp only at p_1
  have rz_1 := rg z_1
  refine Wp_jq (fun k_28 => ∀ (IJ_28 : WI), SQ kC P K O I0 J0 IJ_28 J0 → Wp (k_28 IJ_28) Q) (fun IJ_28  hVJ_28 => ?_) (fun k_28 hk_28 => ?_)
  · skip
    refine Wpc2 (s_RM_refuse hN hVJ_28.1 h0 (fun z_30 I2 hI2 hF2 p_30 => ?_))
    have hV2 : SQ kC P K O I0 J0 I2 J0 := hVJ_28.call (fun _ _ h => h) hI2 hF2
    try dsimp only at p_30
    have hk1_30 : Int32.toInt (Int32.ofInt (1)) = 1 := ofI (by decide)
    have rz_30 := rg z_30
    exact Wp.ret (hQ z_30 I2 hV2.1 hV2.2 (by first | omega | (dsimp only; omega)))
  refine Wp.ite (fun c_4 => ?_) (fun c_4 => ?_)
  · skip
    refine Wp.ite (fun c_8 => ?_) (fun c_8 => ?_)
    · skip
      exact hk_28  I0  hV0
    · skip
      refine Wp.ite (fun c_13 => ?_) (fun c_13 => ?_)
      · skip
        exact hk_28  I0  hV0
      · skip
        refine Wp.ite (fun c_17 => ?_) (fun c_17 => ?_)
        · skip
          exact hk_28  I0  hV0
        · skip
          refine Wpc2 (s_RM_findFits hN hV0.1 h0 (fun z_22 I3 hI3 hF3 p_22 => ?_))
          have hV3 : SQ kC P K O I0 J0 I3 J0 := hV0.call (kpL_le (fun _ h => h) rfl) hI3 hF3
          have rz_22 := rg z_22
          refine Wp.ite (fun c_25 => ?_) (fun c_25 => ?_)
          · skip
            have t_36 := rf_ok hV.1 h0 (show sp 8 7 = some 6 from rfl)
            refine Wpc1 (s_Si_fitOf hN hV3.1 t_36 (fun z_40 p_40 => ?_))
            have rz_40 := rg z_40
            refine Wpc1 (s_RM_partOfStart hN hV3.1  (fun z_44 p_44 => ?_))
            have rz_44 := rg z_44
            refine Wpc2 (s_RM_accept hN hV3.1 h0 (fun z_47 I6 hI6 hF6 p_47 => ?_))
            have hV6 : SQ kC P K O I0 J0 I6 J0 := hV3.call (fun _ _ h => h) hI6 hF6
            try dsimp only at p_47
            have rz_47 := rg z_47
            exact Wp.ret (hQ z_47 I6 hV6.1 hV6.2 (by first | omega | (dsimp only; omega)))
          · skip
            exact hk_28  I3  hV3
  · skip
    exact hk_28  I0  hV0
set_option maxHeartbeats 4000000 in
set_option maxRecDepth 100000 in
theorem s_RM_certain {P : List Nat} {K : Nat → Nat} {N : Nat} {O : WO} {I0 : WI} {J0 : WJ} (hN : 2147483648 ≤ N) (hV : IV P K I0 O) {a0 : Nat} (h0 : a0 ∈ P ∧ K a0 = 8) {x1 : Int32} {Q : (Int32 × WI) → Prop} (hQ : ∀ (z : Int32) (I_ : WI), IV P K I_ O → FQ kC K I0 J0 I_ J0 → (¬ Int32.toInt (I_ a0 14) = 4) → Q (z, I_)) : Wp (F_RM_certain N O I0 J0 a0 x1) Q := by
  unfold F_RM_certain
  have r1 := rg x1
  have hV0 : SQ kC P K O I0 J0 I0 J0 := SQ.rf hV
  refine Wpc1 (s_RM_noMill hN hV0.1 h0 (fun z_1 b_1 p_1 => ?_))
  try dsimp only at p_1
  have rz_1 := rg z_1
  refine Wp_jq (fun k_16 => Wp (k_16 ) Q) (?_) (fun k_16 hk_16 => ?_)
  · skip
    refine Wpc2 (s_RM_refuse hN hV0.1 h0 (fun z_18 I2 hI2 hF2 p_18 => ?_))
    have hV2 : SQ kC P K O I0 J0 I2 J0 := hV0.call (fun _ _ h => h) hI2 hF2
    try dsimp only at p_18
    have hk1_18 : Int32.toInt (Int32.ofInt (1)) = 1 := ofI (by decide)
    have rz_18 := rg z_18
    exact Wp.ret (hQ z_18 I2 hV2.1 hV2.2 (by first | omega | (dsimp only; omega)))
  refine Wp.ite (fun c_4 => ?_) (fun c_4 => ?_)
  · skip
    refine Wp.ite (fun c_8 => ?_) (fun c_8 => ?_)
    · skip
      exact hk_16   
    · skip
      refine Wp.ite (fun c_13 => ?_) (fun c_13 => ?_)
      · skip
        refine Wpc2 (s_RM_findFits hN hV0.1 h0 (fun z_23 I3 hI3 hF3 p_23 => ?_))
        have hV3 : SQ kC P K O I0 J0 I3 J0 := hV0.call (kpL_le (fun _ h => h) rfl) hI3 hF3
        have rz_23 := rg z_23
        refine Wp.ite (fun c_28 => ?_) (fun c_28 => ?_)
        · skip
          refine Wpc2 (s_RM_refuse hN hV3.1 h0 (fun z_34 I4 hI4 hF4 p_34 => ?_))
          have hV4 : SQ kC P K O I0 J0 I4 J0 := hV3.call (fun _ _ h => h) hI4 hF4
          try dsimp only at p_34
          have hk1_34 : Int32.toInt (Int32.ofInt (6)) = 6 := ofI (by decide)
          have rz_34 := rg z_34
          exact Wp.ret (hQ z_34 I4 hV4.1 hV4.2 (by first | omega | (dsimp only; omega)))
        · skip
          have t_39 := rf_ok hV.1 h0 (show sp 8 7 = some 6 from rfl)
          refine Wpc1 (s_Si_fitOf hN hV3.1 t_39 (fun z_43 p_43 => ?_))
          have rz_43 := rg z_43
          refine Wpc1 (s_RM_partOfStart hN hV3.1  (fun z_47 p_47 => ?_))
          have rz_47 := rg z_47
          have lp_54 : ∀ (m_54 : Nat) (x4_54 : Int32) (I_54 : WI), Int.toNat ((z_23).toInt - (x4_54).toInt) < m_54 → (1 ≤ Int32.toInt x4_54) → SQ kC P K O I0 J0 I_54 J0 → Wp (lp (B_RM_certain_54 N O (a0) (x1) (J0) (z_23) (z_47)) (fun _ _ => none) m_54 x4_54 I_54) Q := by
            intro m_54
            induction m_54 with
            | zero => intro x4_54 I_54 hm; exact absurd hm (Nat.not_lt_zero _)
            | succ m_54 ih_54 =>
            intro x4_54 I_54 hm_54 iv0_54 hV_54
            have rg4_54 := rg x4_54
            show Wp (B_RM_certain_54 N O (a0) (x1) (J0) (z_23) (z_47) (lp (B_RM_certain_54 N O (a0) (x1) (J0) (z_23) (z_47)) (fun _ _ => none) m_54) x4_54 I_54) Q
            unfold B_RM_certain_54
            refine Wp.ite (fun c_57 => ?_) (fun c_57 => ?_)
            · skip
              refine Wpc2 (s_RM_accept hN hV_54.1 h0 (fun z_92 I7 hI7 hF7 p_92 => ?_))
              have hV7 : SQ kC P K O I0 J0 I7 J0 := hV_54.call (fun _ _ h => h) hI7 hF7
              try dsimp only at p_92
              have rz_92 := rg z_92
              exact Wp.ret (hQ z_92 I7 hV7.1 hV7.2 (by first | omega | (dsimp only; omega)))
            · skip
              have t_61 := rf_ok hV.1 h0 (show sp 8 7 = some 6 from rfl)
              refine Wpc1 (s_Si_fitOf hN hV_54.1 t_61 (fun z_66 p_66 => ?_))
              have rz_66 := rg z_66
              refine Wpc1 (s_RM_partOfStart hN hV_54.1  (fun z_70 p_70 => ?_))
              have rz_70 := rg z_70
              refine Wp.ite (fun c_74 => ?_) (fun c_74 => ?_)
              · skip
                refine Wp_lb (fun v4_84 ev_84 => ?_)
                have rv_84 := rg v4_84
                first | (have e_84 : v4_84.toInt = (x4_54).toInt + 1 := by rw [ev_84]; exact t_add rfl (ofI (by decide)) (by omega)) | skip
                clear ev_84
                exact ih_54 (v4_84) I_54 (by omega) (by omega) hV_54
              · skip
                refine Wpc2 (s_RM_accept hN hV_54.1 h0 (fun z_80 I10 hI10 hF10 p_80 => ?_))
                have hV10 : SQ kC P K O I0 J0 I10 J0 := hV_54.call (fun _ _ h => h) hI10 hF10
                try dsimp only at p_80
                have hk1_80 : Int32.toInt (Int32.ofInt (-2)) = -2 := ofI (by decide)
                have rz_80 := rg z_80
                exact Wp.ret (hQ z_80 I10 hV10.1 hV10.2 (by first | omega | (dsimp only; omega)))
          exact lp_54 N ((Int32.ofInt (1))) I3 (by have hci0 : Int32.toInt (Int32.ofInt (1)) = 1 := ofI (by decide); omega) (by have hci0 : Int32.toInt (Int32.ofInt (1)) = 1 := ofI (by decide); omega) hV3
      · skip
        exact hk_16   
  · skip
    exact hk_16   
set_option maxHeartbeats 4000000 in
set_option maxRecDepth 100000 in
theorem s_RM_guess {P : List Nat} {K : Nat → Nat} {N : Nat} {O : WO} {I0 : WI} {J0 : WJ} (hN : 2147483648 ≤ N) (hV : IV P K I0 O) {a0 : Nat} (h0 : a0 ∈ P ∧ K a0 = 8) {x1 : Int32} {x2 : Int32} {x3 : Int32} {x4 : Int32} {x5 : Int32} {Q : (Int32 × WI) → Prop} (hQ : ∀ (z : Int32) (I_ : WI), IV P K I_ O → FQ kC K I0 J0 I_ J0 → (¬ Int32.toInt (I_ a0 14) = 4) → Q (z, I_)) : Wp (F_RM_guess N O I0 J0 a0 x1 x2 x3 x4 x5) Q := by
  unfold F_RM_guess
  have r1 := rg x1
  have r2 := rg x2
  have r3 := rg x3
  have r4 := rg x4
  have r5 := rg x5
  have hV0 : SQ kC P K O I0 J0 I0 J0 := SQ.rf hV
  refine Wpc1 (s_RM_noMill hN hV0.1 h0 (fun z_1 b_1 p_1 => ?_))
  try dsimp only at p_1
  have rz_1 := rg z_1
  refine Wp_jq (fun k_24 => Wp (k_24 ) Q) (?_) (fun k_24 hk_24 => ?_)
  · skip
    refine Wpc2 (s_RM_refuse hN hV0.1 h0 (fun z_26 I2 hI2 hF2 p_26 => ?_))
    have hV2 : SQ kC P K O I0 J0 I2 J0 := hV0.call (fun _ _ h => h) hI2 hF2
    try dsimp only at p_26
    have hk1_26 : Int32.toInt (Int32.ofInt (1)) = 1 := ofI (by decide)
    have rz_26 := rg z_26
    exact Wp.ret (hQ z_26 I2 hV2.1 hV2.2 (by first | omega | (dsimp only; omega)))
  refine Wp.ite (fun c_4 => ?_) (fun c_4 => ?_)
  · skip
    refine Wpc1 (s_RM_isHour hN hV0.1  (fun z_9 b_9 p_9 => ?_))
    try dsimp only at p_9
    have rz_9 := rg z_9
    refine Wp.ite (fun c_12 => ?_) (fun c_12 => ?_)
    · skip
      exact hk_24   
    · skip
      refine Wpc1 (s_RM_isHeard hN hV0.1 h0 (fun z_18 b_18 p_18 => ?_))
      have rz_18 := rg z_18
      refine Wp.ite (fun c_21 => ?_) (fun c_21 => ?_)
      · skip
        exact hk_24   
      · skip
        refine Wpc1 (s_RM_isStart hN hV0.1  (fun z_33 b_33 p_33 => ?_))
        try dsimp only at p_33
        have rz_33 := rg z_33
        refine Wp.ite (fun c_36 => ?_) (fun c_36 => ?_)
        · skip
          refine Wpc2 (s_RM_refuse hN hV0.1 h0 (fun z_41 I6 hI6 hF6 p_41 => ?_))
          have hV6 : SQ kC P K O I0 J0 I6 J0 := hV0.call (fun _ _ h => h) hI6 hF6
          try dsimp only at p_41
          have hk1_41 : Int32.toInt (Int32.ofInt (2)) = 2 := ofI (by decide)
          have rz_41 := rg z_41
          exact Wp.ret (hQ z_41 I6 hV6.1 hV6.2 (by first | omega | (dsimp only; omega)))
        · skip
          refine Wpc1 (s_RM_startOf hN hV0.1  (fun z_48 p_48 => ?_))
          have rz_48 := rg z_48
          have t_54 := rf_ok hV.1 h0 (show sp 8 6 = some 1 from rfl)
          have t_58 := rf_ok hV.1 h0 (show sp 8 1 = some 3 from rfl)
          have t_62 := rf_ok hV.1 h0 (show sp 8 5 = some 19 from rfl)
          refine Wpc1 (s_Gu_tellOne hN hV0.1 t_54 t_58 t_62 (fun I8 hI8 hF8 p_67 => ?_))
          have hV8 : SQ kC P K O I0 J0 I8 J0 := hV0.call (kpL_le (fun _ h => h) rfl) hI8 hF8
          have t_72 := rf_ok hV.1 h0 (show sp 8 6 = some 1 from rfl)
          refine Wpc1 (s_Gu_toldOf hN hV8.1 t_72 (fun z_81 p_81 => ?_))
          have rz_81 := rg z_81
          refine Wpc2 (s_RM_accept hN hV8.1 h0 (fun z_84 I10 hI10 hF10 p_84 => ?_))
          have hV10 : SQ kC P K O I0 J0 I10 J0 := hV8.call (fun _ _ h => h) hI10 hF10
          try dsimp only at p_84
          have rz_84 := rg z_84
          exact Wp.ret (hQ z_84 I10 hV10.1 hV10.2 (by first | omega | (dsimp only; omega)))
  · skip
    exact hk_24   
set_option maxHeartbeats 4000000 in
set_option maxRecDepth 100000 in
theorem s_RM_swapped {P : List Nat} {K : Nat → Nat} {N : Nat} {O : WO} {I0 : WI} {J0 : WJ} (hN : 2147483648 ≤ N) (hV : IV P K I0 O) {a0 : Nat} (h0 : a0 ∈ P ∧ K a0 = 8) {Q : (Int32 × WI) → Prop} (hQ : ∀ (z : Int32) (I_ : WI), IV P K I_ O → FQ kC K I0 J0 I_ J0 → (¬ Int32.toInt (I_ a0 14) = 4) → Q (z, I_)) : Wp (F_RM_swapped N O I0 J0 a0) Q := by
  unfold F_RM_swapped
  have hV0 : SQ kC P K O I0 J0 I0 J0 := SQ.rf hV
  refine Wpc1 (s_RM_noMill hN hV0.1 h0 (fun z_1 b_1 p_1 => ?_))
  try dsimp only at p_1
  have rz_1 := rg z_1
  refine Wp.ite (fun c_4 => ?_) (fun c_4 => ?_)
  · skip
    refine Wpc2 (s_RM_findFits hN hV0.1 h0 (fun z_14 I2 hI2 hF2 p_14 => ?_))
    have hV2 : SQ kC P K O I0 J0 I2 J0 := hV0.call (kpL_le (fun _ h => h) rfl) hI2 hF2
    have rz_14 := rg z_14
    refine Wp.ite (fun c_17 => ?_) (fun c_17 => ?_)
    · skip
      have lp_28 : ∀ (m_28 : Nat) (x1_28 : Int32) (I_28 : WI), Int.toNat (12 - (x1_28).toInt) < m_28 → (0 ≤ Int32.toInt x1_28 ∧ Int32.toInt x1_28 ≤ 12) → SQ kC P K O I0 J0 I_28 J0 → Wp (lp (B_RM_swapped_28 N O (a0) (J0)) (fun _ _ => none) m_28 x1_28 I_28) Q := by
        intro m_28
        induction m_28 with
        | zero => intro x1_28 I_28 hm; exact absurd hm (Nat.not_lt_zero _)
        | succ m_28 ih_28 =>
        intro x1_28 I_28 hm_28 iv0_28 hV_28
        have rg1_28 := rg x1_28
        show Wp (B_RM_swapped_28 N O (a0) (J0) (lp (B_RM_swapped_28 N O (a0) (J0)) (fun _ _ => none) m_28) x1_28 I_28) Q
        unfold B_RM_swapped_28
        refine Wp.ite (fun c_31 => ?_) (fun c_31 => ?_)
        · skip
          refine Wpc2 (s_RM_accept hN hV_28.1 h0 (fun z_86 I3 hI3 hF3 p_86 => ?_))
          have hV3 : SQ kC P K O I0 J0 I3 J0 := hV_28.call (fun _ _ h => h) hI3 hF3
          try dsimp only at p_86
          have hk1_86 : Int32.toInt (Int32.ofInt (-2)) = -2 := ofI (by decide)
          have rz_86 := rg z_86
          exact Wp.ret (hQ z_86 I3 hV3.1 hV3.2 (by first | omega | (dsimp only; omega)))
        · skip
          first | (have e_36 := t_add (x := x1_28) (y := (Int32.ofInt (1))) rfl (ofI (by decide)) (by omega)) | skip
          refine Wp_lb (fun v2_37 ev_37 => ?_)
          have ei_37 := congrArg Int32.toInt ev_37
          have rv_37 := rg v2_37
          have lp_38 : ∀ (m_38 : Nat) (x2_38 : Int32) (I_38 : WI), Int.toNat (12 - (x2_38).toInt) < m_38 → (0 ≤ Int32.toInt x2_38 ∧ Int32.toInt x2_38 ≤ 12) → SQ kC P K O I0 J0 I_38 J0 → Wp (lp (B_RM_swapped_38 N O (a0) (J0) (x1_28) ((lp (B_RM_swapped_28 N O (a0) (J0)) (fun _ _ => none) m_28))) (fun _ _ => none) m_38 x2_38 I_38) Q := by
            intro m_38
            induction m_38 with
            | zero => intro x2_38 I_38 hm; exact absurd hm (Nat.not_lt_zero _)
            | succ m_38 ih_38 =>
            intro x2_38 I_38 hm_38 iv0_38 hV_38
            have rg2_38 := rg x2_38
            show Wp (B_RM_swapped_38 N O (a0) (J0) (x1_28) ((lp (B_RM_swapped_28 N O (a0) (J0)) (fun _ _ => none) m_28)) (lp (B_RM_swapped_38 N O (a0) (J0) (x1_28) ((lp (B_RM_swapped_28 N O (a0) (J0)) (fun _ _ => none) m_28))) (fun _ _ => none) m_38) x2_38 I_38) Q
            unfold B_RM_swapped_38
            refine Wp.ite (fun c_41 => ?_) (fun c_41 => ?_)
            · skip
              refine Wp_lb (fun v1_77 ev_77 => ?_)
              have rv_77 := rg v1_77
              first | (have e_77 : v1_77.toInt = (x1_28).toInt + 1 := by rw [ev_77]; exact t_add rfl (ofI (by decide)) (by omega)) | skip
              clear ev_77
              exact ih_28 (v1_77) I_38 (by omega) (by omega) hV_38
            · skip
              have t_45 := rf_ok hV.1 h0 (show sp 8 7 = some 6 from rfl)
              have t_49 := rf_ok hV.1 h0 (show sp 8 6 = some 1 from rfl)
              refine Wpc1 (s_Si_anyAgrees hN hV_38.1 t_45 t_49 (fun z_54 b_54 p_54 => ?_))
              have rz_54 := rg z_54
              refine Wp.ite (fun c_57 => ?_) (fun c_57 => ?_)
              · skip
                refine Wp_lb (fun v2_71 ev_71 => ?_)
                have rv_71 := rg v2_71
                first | (have e_71 : v2_71.toInt = (x2_38).toInt + 1 := by rw [ev_71]; exact t_add rfl (ofI (by decide)) (by omega)) | skip
                clear ev_71
                exact ih_38 (v2_71) I_38 (by omega) (by omega) hV_38
              · skip
                first | (have e_64 := t_mul (x := (Int32.ofInt (100))) (y := x1_28) (ofI (by decide)) rfl (by omega)) | skip
                first | (have e_66 := t_add (x := ((Int32.ofInt (100)) * x1_28)) (y := x2_38) rfl rfl (by omega)) | skip
                refine Wpc2 (s_RM_accept hN hV_38.1 h0 (fun z_67 I5 hI5 hF5 p_67 => ?_))
                have hV5 : SQ kC P K O I0 J0 I5 J0 := hV_38.call (fun _ _ h => h) hI5 hF5
                try dsimp only at p_67
                have rz_67 := rg z_67
                exact Wp.ret (hQ z_67 I5 hV5.1 hV5.2 (by first | omega | (dsimp only; omega)))
          exact lp_38 N (v2_37) I_28 (by omega) (by omega) hV_28
      exact lp_28 N ((Int32.ofInt (0))) I2 (by have hci0 : Int32.toInt (Int32.ofInt (0)) = 0 := ofI (by decide); omega) (by have hci0 : Int32.toInt (Int32.ofInt (0)) = 0 := ofI (by decide); omega) hV2
    · skip
      refine Wpc2 (s_RM_refuse hN hV2.1 h0 (fun z_22 I6 hI6 hF6 p_22 => ?_))
      have hV6 : SQ kC P K O I0 J0 I6 J0 := hV2.call (fun _ _ h => h) hI6 hF6
      try dsimp only at p_22
      have hk1_22 : Int32.toInt (Int32.ofInt (5)) = 5 := ofI (by decide)
      have rz_22 := rg z_22
      exact Wp.ret (hQ z_22 I6 hV6.1 hV6.2 (by first | omega | (dsimp only; omega)))
  · skip
    refine Wpc2 (s_RM_refuse hN hV0.1 h0 (fun z_9 I7 hI7 hF7 p_9 => ?_))
    have hV7 : SQ kC P K O I0 J0 I7 J0 := hV0.call (fun _ _ h => h) hI7 hF7
    try dsimp only at p_9
    have hk1_9 : Int32.toInt (Int32.ofInt (1)) = 1 := ofI (by decide)
    have rz_9 := rg z_9
    exact Wp.ret (hQ z_9 I7 hV7.1 hV7.2 (by first | omega | (dsimp only; omega)))
set_option maxHeartbeats 4000000 in
set_option maxRecDepth 100000 in
theorem s_RM_plan {P : List Nat} {K : Nat → Nat} {N : Nat} {O : WO} {I0 : WI} {J0 : WJ} (hN : 2147483648 ≤ N) (hV : IV P K I0 O) {a0 : Nat} (h0 : a0 ∈ P ∧ K a0 = 8) {x1 : Int32} {Q : (Int32 × WI) → Prop} (hQ : ∀ (z : Int32) (I_ : WI), IV P K I_ O → FQ kC K I0 J0 I_ J0 → (¬ Int32.toInt (I_ a0 14) = 4) → Q (z, I_)) : Wp (F_RM_plan N O I0 J0 a0 x1) Q := by
  unfold F_RM_plan
  have r1 := rg x1
  have hV0 : SQ kC P K O I0 J0 I0 J0 := SQ.rf hV
  refine Wpc1 (s_RM_noMill hN hV0.1 h0 (fun z_1 b_1 p_1 => ?_))
  try dsimp only at p_1
  have rz_1 := rg z_1
  refine Wp.ite (fun c_4 => ?_) (fun c_4 => ?_)
  · skip
    refine Wpc1 (s_RM_isPlanLength hN hV0.1  (fun z_14 b_14 p_14 => ?_))
    try dsimp only at p_14
    have rz_14 := rg z_14
    refine Wp.ite (fun c_17 => ?_) (fun c_17 => ?_)
    · skip
      refine Wpc2 (s_RM_refuse hN hV0.1 h0 (fun z_22 I3 hI3 hF3 p_22 => ?_))
      have hV3 : SQ kC P K O I0 J0 I3 J0 := hV0.call (fun _ _ h => h) hI3 hF3
      try dsimp only at p_22
      have hk1_22 : Int32.toInt (Int32.ofInt (2)) = 2 := ofI (by decide)
      have rz_22 := rg z_22
      exact Wp.ret (hQ z_22 I3 hV3.1 hV3.2 (by first | omega | (dsimp only; omega)))
    · skip
      have t_27 := rf_ok hV.1 h0 (show sp 8 8 = some 4 from rfl)
      have t_31 := rf_ok hV.1 h0 (show sp 8 1 = some 3 from rfl)
      have t_35 := rf_ok hV.1 h0 (show sp 8 3 = some 0 from rfl)
      have t_39 := rf_ok hV.1 h0 (show sp 8 4 = some 18 from rfl)
      refine Wpc2 (s_Pl_findCheapest hN hV0.1 t_27 t_31 t_35 t_39 (fun z_43 I4 hI4 hF4 p_43 => ?_))
      have hV4 : SQ kC P K O I0 J0 I4 J0 := hV0.call (kpL_le (fun _ h => h) rfl) hI4 hF4
      have rz_43 := rg z_43
      refine Wp.ite (fun c_49 => ?_) (fun c_49 => ?_)
      · skip
        refine Wpc2 (s_RM_refuse hN hV4.1 h0 (fun z_55 I5 hI5 hF5 p_55 => ?_))
        have hV5 : SQ kC P K O I0 J0 I5 J0 := hV4.call (fun _ _ h => h) hI5 hF5
        try dsimp only at p_55
        have hk1_55 : Int32.toInt (Int32.ofInt (6)) = 6 := ofI (by decide)
        have rz_55 := rg z_55
        exact Wp.ret (hQ z_55 I5 hV5.1 hV5.2 (by first | omega | (dsimp only; omega)))
      · skip
        refine Wpc2 (s_RM_accept hN hV4.1 h0 (fun z_63 I6 hI6 hF6 p_63 => ?_))
        have hV6 : SQ kC P K O I0 J0 I6 J0 := hV4.call (fun _ _ h => h) hI6 hF6
        try dsimp only at p_63
        have rz_63 := rg z_63
        exact Wp.ret (hQ z_63 I6 hV6.1 hV6.2 (by first | omega | (dsimp only; omega)))
  · skip
    refine Wpc2 (s_RM_refuse hN hV0.1 h0 (fun z_9 I7 hI7 hF7 p_9 => ?_))
    have hV7 : SQ kC P K O I0 J0 I7 J0 := hV0.call (fun _ _ h => h) hI7 hF7
    try dsimp only at p_9
    have hk1_9 : Int32.toInt (Int32.ofInt (1)) = 1 := ofI (by decide)
    have rz_9 := rg z_9
    exact Wp.ret (hQ z_9 I7 hV7.1 hV7.2 (by first | omega | (dsimp only; omega)))
set_option maxHeartbeats 4000000 in
set_option maxRecDepth 100000 in
theorem s_RM_rate {P : List Nat} {K : Nat → Nat} {N : Nat} {O : WO} {I0 : WI} {J0 : WJ} (hN : 2147483648 ≤ N) (hV : IV P K I0 O) {a0 : Nat} (h0 : a0 ∈ P ∧ K a0 = 8) {x1 : Int32} {Q : Int32 → Prop} (hQ : ∀ (z : Int32), True → Q z) : Wp (F_RM_rate N O I0 J0 a0 x1) Q := by
  unfold F_RM_rate
  have r1 := rg x1
  have hV0 : SQ kP P K O I0 J0 I0 J0 := SQ.rf hV
  have t_1 := rf_ok hV.1 h0 (show sp 8 8 = some 4 from rfl)
  refine Wpc1 (s_Pl_keptRate hN hV0.1 t_1 (fun z_5 p_5 => ?_))
  have rz_5 := rg z_5
  exact Wp.ret (hQ z_5 trivial)
set_option maxHeartbeats 4000000 in
set_option maxRecDepth 100000 in
theorem s_RM_rule {P : List Nat} {K : Nat → Nat} {N : Nat} {O : WO} {I0 : WI} {J0 : WJ} (hN : 2147483648 ≤ N) (hV : IV P K I0 O) {a0 : Nat} (h0 : a0 ∈ P ∧ K a0 = 8) {x1 : Int32} {Q : (Int32 × WI) → Prop} (hQ : ∀ (z : Int32) (I_ : WI), IV P K I_ O → FQ kC K I0 J0 I_ J0 → (¬ Int32.toInt (I_ a0 14) = 4) → Q (z, I_)) : Wp (F_RM_rule N O I0 J0 a0 x1) Q := by
  unfold F_RM_rule
  have r1 := rg x1
  have hV0 : SQ kC P K O I0 J0 I0 J0 := SQ.rf hV
  refine Wpc1 (s_RM_noMill hN hV0.1 h0 (fun z_1 b_1 p_1 => ?_))
  try dsimp only at p_1
  have rz_1 := rg z_1
  refine Wp.ite (fun c_4 => ?_) (fun c_4 => ?_)
  · skip
    refine Wpc1 (s_RM_isPlanLength hN hV0.1  (fun z_14 b_14 p_14 => ?_))
    try dsimp only at p_14
    have rz_14 := rg z_14
    refine Wp.ite (fun c_17 => ?_) (fun c_17 => ?_)
    · skip
      refine Wpc2 (s_RM_refuse hN hV0.1 h0 (fun z_22 I3 hI3 hF3 p_22 => ?_))
      have hV3 : SQ kC P K O I0 J0 I3 J0 := hV0.call (fun _ _ h => h) hI3 hF3
      try dsimp only at p_22
      have hk1_22 : Int32.toInt (Int32.ofInt (2)) = 2 := ofI (by decide)
      have rz_22 := rg z_22
      exact Wp.ret (hQ z_22 I3 hV3.1 hV3.2 (by first | omega | (dsimp only; omega)))
    · skip
      have t_27 := rf_ok hV.1 h0 (show sp 8 8 = some 4 from rfl)
      have t_31 := rf_ok hV.1 h0 (show sp 8 1 = some 3 from rfl)
      have t_35 := rf_ok hV.1 h0 (show sp 8 3 = some 0 from rfl)
      have t_39 := rf_ok hV.1 h0 (show sp 8 4 = some 18 from rfl)
      refine Wpc1 (s_Pl_keepRule hN hV0.1 t_27 t_31 t_35 t_39 (fun I4 hI4 hF4 p_43 => ?_))
      have hV4 : SQ kC P K O I0 J0 I4 J0 := hV0.call (kpL_le (fun _ h => h) rfl) hI4 hF4
      have t_48 := rf_ok hV.1 h0 (show sp 8 8 = some 4 from rfl)
      have t_51 := rf_ok hV.1 t_48 (show sp 4 9 = some 0 from rfl)
      have t_58 := rf_ok hV.1 h0 (show sp 8 3 = some 0 from rfl)
      first | (have e_64 := t_sub (x := (I4 (rf O (rf O a0 8) 9) 15)) (y := (I4 (rf O a0 3) 15)) rfl rfl (by omega)) | skip
      refine Wpc2 (s_RM_accept hN hV4.1 h0 (fun z_65 I5 hI5 hF5 p_65 => ?_))
      have hV5 : SQ kC P K O I0 J0 I5 J0 := hV4.call (fun _ _ h => h) hI5 hF5
      try dsimp only at p_65
      have rz_65 := rg z_65
      exact Wp.ret (hQ z_65 I5 hV5.1 hV5.2 (by first | omega | (dsimp only; omega)))
  · skip
    refine Wpc2 (s_RM_refuse hN hV0.1 h0 (fun z_9 I6 hI6 hF6 p_9 => ?_))
    have hV6 : SQ kC P K O I0 J0 I6 J0 := hV0.call (fun _ _ h => h) hI6 hF6
    try dsimp only at p_9
    have hk1_9 : Int32.toInt (Int32.ofInt (1)) = 1 := ofI (by decide)
    have rz_9 := rg z_9
    exact Wp.ret (hQ z_9 I6 hV6.1 hV6.2 (by first | omega | (dsimp only; omega)))
set_option maxHeartbeats 4000000 in
set_option maxRecDepth 100000 in
theorem s_RM_lacks {P : List Nat} {K : Nat → Nat} {N : Nat} {O : WO} {I0 : WI} {J0 : WJ} (hN : 2147483648 ≤ N) (hV : IV P K I0 O) {a0 : Nat} (h0 : a0 ∈ P ∧ K a0 = 8) {x1 : Int32} {Q : (Int32 × WI) → Prop} (hQ : ∀ (z : Int32) (I_ : WI), IV P K I_ O → FQ kC K I0 J0 I_ J0 → (¬ Int32.toInt (I_ a0 14) = 4) → Q (z, I_)) : Wp (F_RM_lacks N O I0 J0 a0 x1) Q := by
  unfold F_RM_lacks
  have r1 := rg x1
  have hV0 : SQ kC P K O I0 J0 I0 J0 := SQ.rf hV
  refine Wpc1 (s_RM_noMill hN hV0.1 h0 (fun z_1 b_1 p_1 => ?_))
  try dsimp only at p_1
  have rz_1 := rg z_1
  refine Wp.ite (fun c_4 => ?_) (fun c_4 => ?_)
  · skip
    refine Wpc1 (s_RM_isPlanLength hN hV0.1  (fun z_14 b_14 p_14 => ?_))
    try dsimp only at p_14
    have rz_14 := rg z_14
    refine Wp.ite (fun c_17 => ?_) (fun c_17 => ?_)
    · skip
      refine Wpc2 (s_RM_refuse hN hV0.1 h0 (fun z_22 I3 hI3 hF3 p_22 => ?_))
      have hV3 : SQ kC P K O I0 J0 I3 J0 := hV0.call (fun _ _ h => h) hI3 hF3
      try dsimp only at p_22
      have hk1_22 : Int32.toInt (Int32.ofInt (2)) = 2 := ofI (by decide)
      have rz_22 := rg z_22
      exact Wp.ret (hQ z_22 I3 hV3.1 hV3.2 (by first | omega | (dsimp only; omega)))
    · skip
      have t_27 := rf_ok hV.1 h0 (show sp 8 8 = some 4 from rfl)
      have t_31 := rf_ok hV.1 h0 (show sp 8 1 = some 3 from rfl)
      have t_35 := rf_ok hV.1 h0 (show sp 8 3 = some 0 from rfl)
      have t_39 := rf_ok hV.1 h0 (show sp 8 4 = some 18 from rfl)
      refine Wpc1 (s_Pl_keepRule hN hV0.1 t_27 t_31 t_35 t_39 (fun I4 hI4 hF4 p_43 => ?_))
      have hV4 : SQ kC P K O I0 J0 I4 J0 := hV0.call (kpL_le (fun _ h => h) rfl) hI4 hF4
      have t_48 := rf_ok hV.1 h0 (show sp 8 8 = some 4 from rfl)
      have t_51 := rf_ok hV.1 t_48 (show sp 4 9 = some 0 from rfl)
      have t_58 := rf_ok hV.1 h0 (show sp 8 3 = some 0 from rfl)
      first | (have e_64 := t_sub (x := (I4 (rf O (rf O a0 8) 9) 12)) (y := (I4 (rf O a0 3) 12)) rfl rfl (by omega)) | skip
      refine Wpc2 (s_RM_accept hN hV4.1 h0 (fun z_65 I5 hI5 hF5 p_65 => ?_))
      have hV5 : SQ kC P K O I0 J0 I5 J0 := hV4.call (fun _ _ h => h) hI5 hF5
      try dsimp only at p_65
      have rz_65 := rg z_65
      exact Wp.ret (hQ z_65 I5 hV5.1 hV5.2 (by first | omega | (dsimp only; omega)))
  · skip
    refine Wpc2 (s_RM_refuse hN hV0.1 h0 (fun z_9 I6 hI6 hF6 p_9 => ?_))
    have hV6 : SQ kC P K O I0 J0 I6 J0 := hV0.call (fun _ _ h => h) hI6 hF6
    try dsimp only at p_9
    have hk1_9 : Int32.toInt (Int32.ofInt (1)) = 1 := ofI (by decide)
    have rz_9 := rg z_9
    exact Wp.ret (hQ z_9 I6 hV6.1 hV6.2 (by first | omega | (dsimp only; omega)))
set_option maxHeartbeats 4000000 in
set_option maxRecDepth 100000 in
theorem s_RM_number {P : List Nat} {K : Nat → Nat} {N : Nat} {O : WO} {I0 : WI} {J0 : WJ} (hN : 2147483648 ≤ N) (hV : IV P K I0 O) {a0 : Nat} (h0 : a0 ∈ P ∧ K a0 = 8) {x1 : Int32} {x2 : Int32} {Q : (Int32 × WI) → Prop} (hQ : ∀ (z : Int32) (I_ : WI), IV P K I_ O → FQ kN K I0 J0 I_ J0 → (¬ Int32.toInt (I_ a0 14) = 4 ∧ ((¬ Int32.toInt (I0 (rf O a0 1) 7) = 0 ∧ 0 ≤ Int32.toInt x2 ∧ Int32.toInt x2 ≤ 999 ∧ ((Int32.toInt x1 = 0 ∧ Int32.toInt (I0 (rf O a0 9) 3) < 8) ∨ (¬ Int32.toInt x1 = 0 ∧ Int32.toInt (I0 (rf O a0 9) 4) < 8)) ∧ ((Int32.toInt x1 = 0 ∧ Int32.toInt z = Int32.toInt (I0 (rf O a0 9) 3) + 1 ∧ Int32.toInt (I_ (rf O a0 9) 3) = Int32.toInt (I0 (rf O a0 9) 3) + 1 ∧ Int32.toInt (I_ (rf O a0 9) 4) = Int32.toInt (I0 (rf O a0 9) 4)) ∨ (¬ Int32.toInt x1 = 0 ∧ Int32.toInt z = Int32.toInt (I0 (rf O a0 9) 4) + 1 ∧ Int32.toInt (I_ (rf O a0 9) 3) = Int32.toInt (I0 (rf O a0 9) 3) ∧ Int32.toInt (I_ (rf O a0 9) 4) = Int32.toInt (I0 (rf O a0 9) 4) + 1))) ∨ ((Int32.toInt (I0 (rf O a0 1) 7) = 0 ∨ Int32.toInt x2 < 0 ∨ 999 < Int32.toInt x2 ∨ (Int32.toInt x1 = 0 ∧ 8 ≤ Int32.toInt (I0 (rf O a0 9) 3)) ∨ (¬ Int32.toInt x1 = 0 ∧ 8 ≤ Int32.toInt (I0 (rf O a0 9) 4))) ∧ Int32.toInt z = -1 ∧ Int32.toInt (I_ (rf O a0 9) 3) = Int32.toInt (I0 (rf O a0 9) 3) ∧ Int32.toInt (I_ (rf O a0 9) 4) = Int32.toInt (I0 (rf O a0 9) 4)))) → Q (z, I_)) : Wp (F_RM_number N O I0 J0 a0 x1 x2) Q := by
  unfold F_RM_number
  have r1 := rg x1
  have r2 := rg x2
  have tr_TR := rf_ok hV.1 h0 (show sp 8 9 = some 7 from rfl)
  have hV0 : SQ kN P K O I0 J0 I0 J0 := SQ.rf hV
  refine Wpc1 (s_RM_noMill hN hV0.1 h0 (fun z_1 b_1 p_1 => ?_))
  try dsimp only at p_1
  have rz_1 := rg z_1
  refine Wp.ite (fun c_4 => ?_) (fun c_4 => ?_)
  · skip
    refine Wp.jn ?_
    refine Wp.ite (fun c_14 => ?_) (fun c_14 => ?_)
    · skip
      refine Wpc2 (s_RM_refuse hN hV0.1 h0 (fun z_26 I2 hI2 hF2 p_26 => ?_))
      have hV2 : SQ kN P K O I0 J0 I2 J0 := hV0.call (kpL_le (fun _ h => h) rfl) hI2 hF2
      have tk2_rfOa09_3 : (I2 (rf O a0 9) 3).toInt = (I0 (rf O a0 9) 3).toInt := by rw [(hF2 (rf O a0 9) 3 (by rw [tr_TR.2]; rfl)).1]
      have tk2_rfOa09_4 : (I2 (rf O a0 9) 4).toInt = (I0 (rf O a0 9) 4).toInt := by rw [(hF2 (rf O a0 9) 4 (by rw [tr_TR.2]; rfl)).1]
      try dsimp only at p_26
      have hk1_26 : Int32.toInt (Int32.ofInt (2)) = 2 := ofI (by decide)
      have rz_26 := rg z_26
      exact Wp.ret (hQ z_26 I2 hV2.1 hV2.2 (by first | omega | (dsimp only; omega)))
    · skip
      refine Wp.ite (fun c_21 => ?_) (fun c_21 => ?_)
      · skip
        have t_31 := rf_ok hV.1 h0 (show sp 8 9 = some 7 from rfl)
        refine Wpc1 (s_Tr_isFilled hN hV0.1 t_31 (fun z_35 b_35 p_35 => ?_))
        try dsimp only at p_35
        have rz_35 := rg z_35
        refine Wp.ite (fun c_38 => ?_) (fun c_38 => ?_)
        · skip
          have t_49 := rf_ok hV.1 h0 (show sp 8 9 = some 7 from rfl)
          refine Wpc2 (s_Tr_add hN hV0.1 t_49 (fun z_54 I4 hI4 hF4 p_54 => ?_))
          have hV4 : SQ kN P K O I0 J0 I4 J0 := hV0.call (kpL_le (fun _ h => h) rfl) hI4 hF4
          try dsimp only at p_54
          have rz_54 := rg z_54
          refine Wpc2 (s_RM_accept hN hV4.1 h0 (fun z_57 I5 hI5 hF5 p_57 => ?_))
          have hV5 : SQ kN P K O I0 J0 I5 J0 := hV4.call (kpL_le (fun _ h => h) rfl) hI5 hF5
          have tk5_rfOa09_3 : (I5 (rf O a0 9) 3).toInt = (I4 (rf O a0 9) 3).toInt := by rw [(hF5 (rf O a0 9) 3 (by rw [tr_TR.2]; rfl)).1]
          have tk5_rfOa09_4 : (I5 (rf O a0 9) 4).toInt = (I4 (rf O a0 9) 4).toInt := by rw [(hF5 (rf O a0 9) 4 (by rw [tr_TR.2]; rfl)).1]
          try dsimp only at p_57
          have rz_57 := rg z_57
          exact Wp.ret (hQ z_57 I5 hV5.1 hV5.2 (by first | omega | (dsimp only; omega)))
        · skip
          refine Wpc2 (s_RM_refuse hN hV0.1 h0 (fun z_43 I6 hI6 hF6 p_43 => ?_))
          have hV6 : SQ kN P K O I0 J0 I6 J0 := hV0.call (kpL_le (fun _ h => h) rfl) hI6 hF6
          have tk6_rfOa09_3 : (I6 (rf O a0 9) 3).toInt = (I0 (rf O a0 9) 3).toInt := by rw [(hF6 (rf O a0 9) 3 (by rw [tr_TR.2]; rfl)).1]
          have tk6_rfOa09_4 : (I6 (rf O a0 9) 4).toInt = (I0 (rf O a0 9) 4).toInt := by rw [(hF6 (rf O a0 9) 4 (by rw [tr_TR.2]; rfl)).1]
          try dsimp only at p_43
          have hk1_43 : Int32.toInt (Int32.ofInt (3)) = 3 := ofI (by decide)
          have rz_43 := rg z_43
          exact Wp.ret (hQ z_43 I6 hV6.1 hV6.2 (by first | omega | (dsimp only; omega)))
      · skip
        refine Wpc2 (s_RM_refuse hN hV0.1 h0 (fun z_26 I7 hI7 hF7 p_26 => ?_))
        have hV7 : SQ kN P K O I0 J0 I7 J0 := hV0.call (kpL_le (fun _ h => h) rfl) hI7 hF7
        have tk7_rfOa09_3 : (I7 (rf O a0 9) 3).toInt = (I0 (rf O a0 9) 3).toInt := by rw [(hF7 (rf O a0 9) 3 (by rw [tr_TR.2]; rfl)).1]
        have tk7_rfOa09_4 : (I7 (rf O a0 9) 4).toInt = (I0 (rf O a0 9) 4).toInt := by rw [(hF7 (rf O a0 9) 4 (by rw [tr_TR.2]; rfl)).1]
        try dsimp only at p_26
        have hk1_26 : Int32.toInt (Int32.ofInt (2)) = 2 := ofI (by decide)
        have rz_26 := rg z_26
        exact Wp.ret (hQ z_26 I7 hV7.1 hV7.2 (by first | omega | (dsimp only; omega)))
  · skip
    refine Wpc2 (s_RM_refuse hN hV0.1 h0 (fun z_9 I8 hI8 hF8 p_9 => ?_))
    have hV8 : SQ kN P K O I0 J0 I8 J0 := hV0.call (kpL_le (fun _ h => h) rfl) hI8 hF8
    have tk8_rfOa09_3 : (I8 (rf O a0 9) 3).toInt = (I0 (rf O a0 9) 3).toInt := by rw [(hF8 (rf O a0 9) 3 (by rw [tr_TR.2]; rfl)).1]
    have tk8_rfOa09_4 : (I8 (rf O a0 9) 4).toInt = (I0 (rf O a0 9) 4).toInt := by rw [(hF8 (rf O a0 9) 4 (by rw [tr_TR.2]; rfl)).1]
    try dsimp only at p_9
    have hk1_9 : Int32.toInt (Int32.ofInt (1)) = 1 := ofI (by decide)
    have rz_9 := rg z_9
    exact Wp.ret (hQ z_9 I8 hV8.1 hV8.2 (by first | omega | (dsimp only; omega)))
set_option maxHeartbeats 4000000 in
set_option maxRecDepth 100000 in
theorem s_RM_chance {P : List Nat} {K : Nat → Nat} {N : Nat} {O : WO} {I0 : WI} {J0 : WJ} (hN : 2147483648 ≤ N) (hV : IV P K I0 O) {a0 : Nat} (h0 : a0 ∈ P ∧ K a0 = 8) {Q : (Int32 × WI) → Prop} (hQ : ∀ (z : Int32) (I_ : WI), IV P K I_ O → FQ kC K I0 J0 I_ J0 → (¬ Int32.toInt (I_ a0 14) = 4) → Q (z, I_)) : Wp (F_RM_chance N O I0 J0 a0) Q := by
  unfold F_RM_chance
  have hV0 : SQ kC P K O I0 J0 I0 J0 := SQ.rf hV
  have t_1 := rf_ok hV.1 h0 (show sp 8 9 = some 7 from rfl)
  refine Wpc1 (s_Tr_lacksRow hN hV0.1 t_1 (fun z_4 b_4 p_4 => ?_))
  have rz_4 := rg z_4
  refine Wp.ite (fun c_7 => ?_) (fun c_7 => ?_)
  · skip
    have t_20 := rf_ok hV.1 h0 (show sp 8 9 = some 7 from rfl)
    refine Wpc2 (s_Tr_countNoLess hN hV0.1 t_20 (fun z_23 I2 hI2 hF2 p_23 => ?_))
    have hV2 : SQ kC P K O I0 J0 I2 J0 := hV0.call (kpL_le (fun _ h => h) rfl) hI2 hF2
    have rz_23 := rg z_23
    refine Wpc2 (s_RM_accept hN hV2.1 h0 (fun z_26 I3 hI3 hF3 p_26 => ?_))
    have hV3 : SQ kC P K O I0 J0 I3 J0 := hV2.call (fun _ _ h => h) hI3 hF3
    try dsimp only at p_26
    have rz_26 := rg z_26
    exact Wp.ret (hQ z_26 I3 hV3.1 hV3.2 (by first | omega | (dsimp only; omega)))
  · skip
    refine Wpc2 (s_RM_refuse hN hV0.1 h0 (fun z_12 I4 hI4 hF4 p_12 => ?_))
    have hV4 : SQ kC P K O I0 J0 I4 J0 := hV0.call (fun _ _ h => h) hI4 hF4
    try dsimp only at p_12
    have hk1_12 : Int32.toInt (Int32.ofInt (5)) = 5 := ofI (by decide)
    have rz_12 := rg z_12
    exact Wp.ret (hQ z_12 I4 hV4.1 hV4.2 (by first | omega | (dsimp only; omega)))
set_option maxHeartbeats 4000000 in
set_option maxRecDepth 100000 in
theorem s_RM_splits {P : List Nat} {K : Nat → Nat} {N : Nat} {O : WO} {I0 : WI} {J0 : WJ} (hN : 2147483648 ≤ N) (hV : IV P K I0 O) {a0 : Nat} (h0 : a0 ∈ P ∧ K a0 = 8) {Q : (Int32 × WI) → Prop} (hQ : ∀ (z : Int32) (I_ : WI), IV P K I_ O → FQ kC K I0 J0 I_ J0 → (¬ Int32.toInt (I_ a0 14) = 4) → Q (z, I_)) : Wp (F_RM_splits N O I0 J0 a0) Q := by
  unfold F_RM_splits
  have hV0 : SQ kC P K O I0 J0 I0 J0 := SQ.rf hV
  have t_1 := rf_ok hV.1 h0 (show sp 8 9 = some 7 from rfl)
  refine Wpc1 (s_Tr_lacksRow hN hV0.1 t_1 (fun z_4 b_4 p_4 => ?_))
  have rz_4 := rg z_4
  refine Wp.ite (fun c_7 => ?_) (fun c_7 => ?_)
  · skip
    have t_20 := rf_ok hV.1 h0 (show sp 8 9 = some 7 from rfl)
    refine Wpc1 (s_Tr_countAll hN hV0.1 t_20 (fun z_23 p_23 => ?_))
    have rz_23 := rg z_23
    refine Wpc2 (s_RM_accept hN hV0.1 h0 (fun z_26 I3 hI3 hF3 p_26 => ?_))
    have hV3 : SQ kC P K O I0 J0 I3 J0 := hV0.call (fun _ _ h => h) hI3 hF3
    try dsimp only at p_26
    have rz_26 := rg z_26
    exact Wp.ret (hQ z_26 I3 hV3.1 hV3.2 (by first | omega | (dsimp only; omega)))
  · skip
    refine Wpc2 (s_RM_refuse hN hV0.1 h0 (fun z_12 I4 hI4 hF4 p_12 => ?_))
    have hV4 : SQ kC P K O I0 J0 I4 J0 := hV0.call (fun _ _ h => h) hI4 hF4
    try dsimp only at p_12
    have hk1_12 : Int32.toInt (Int32.ofInt (5)) = 5 := ofI (by decide)
    have rz_12 := rg z_12
    exact Wp.ret (hQ z_12 I4 hV4.1 hV4.2 (by first | omega | (dsimp only; omega)))
set_option maxHeartbeats 4000000 in
set_option maxRecDepth 100000 in
theorem s_RM_clear {P : List Nat} {K : Nat → Nat} {N : Nat} {O : WO} {I0 : WI} {J0 : WJ} (hN : 2147483648 ≤ N) (hV : IV P K I0 O) {a0 : Nat} (h0 : a0 ∈ P ∧ K a0 = 8) {Q : (Int32 × WI) → Prop} (hQ : ∀ (z : Int32) (I_ : WI), IV P K I_ O → FQ kT K I0 J0 I_ J0 → (Int32.toInt z = Int32.toInt (I0 (rf O a0 9) 3) + Int32.toInt (I0 (rf O a0 9) 4) ∧ Int32.toInt (I_ (rf O a0 9) 3) = 0 ∧ Int32.toInt (I_ (rf O a0 9) 4) = 0) → Q (z, I_)) : Wp (F_RM_clear N O I0 J0 a0) Q := by
  unfold F_RM_clear
  have hV0 : SQ kT P K O I0 J0 I0 J0 := SQ.rf hV
  have t_1 := rf_ok hV.1 h0 (show sp 8 9 = some 7 from rfl)
  refine Wpc2 (s_Tr_drop hN hV0.1 t_1 (fun z_4 I1 hI1 hF1 p_4 => ?_))
  have hV1 : SQ kT P K O I0 J0 I1 J0 := hV0.call (fun _ _ h => h) hI1 hF1
  try dsimp only at p_4
  have rz_4 := rg z_4
  exact Wp.ret (hQ z_4 I1 hV1.1 hV1.2 (by first | omega | (dsimp only; omega)))
set_option maxHeartbeats 4000000 in
set_option maxRecDepth 100000 in
theorem s_RM_marks {P : List Nat} {K : Nat → Nat} {N : Nat} {O : WO} {I0 : WI} {J0 : WJ} (hN : 2147483648 ≤ N) (hV : IV P K I0 O) {a0 : Nat} (h0 : a0 ∈ P ∧ K a0 = 8) {x1 : Int32} {x2 : Int32} {x3 : Int32} {x4 : Int32} {x5 : Int32} {x6 : Int32} {Q : (Int32 × WI) → Prop} (hQ : ∀ (z : Int32) (I_ : WI), IV P K I_ O → FQ kC K I0 J0 I_ J0 → (¬ Int32.toInt (I_ a0 14) = 4) → Q (z, I_)) : Wp (F_RM_marks N O I0 J0 a0 x1 x2 x3 x4 x5 x6) Q := by
  unfold F_RM_marks
  have r1 := rg x1
  have r2 := rg x2
  have r3 := rg x3
  have r4 := rg x4
  have r5 := rg x5
  have r6 := rg x6
  have hV0 : SQ kC P K O I0 J0 I0 J0 := SQ.rf hV
  refine Wpc1 (s_RM_isSize hN hV0.1 h0 (fun z_3 b_3 p_3 => ?_))
  try dsimp only at p_3
  have rz_3 := rg z_3
  refine Wp_jq (fun k_25 => Wp (k_25 ) Q) (?_) (fun k_25 hk_25 => ?_)
  · skip
    refine Wpc2 (s_RM_refuse hN hV0.1 h0 (fun z_27 I2 hI2 hF2 p_27 => ?_))
    have hV2 : SQ kC P K O I0 J0 I2 J0 := hV0.call (fun _ _ h => h) hI2 hF2
    try dsimp only at p_27
    have hk1_27 : Int32.toInt (Int32.ofInt (1)) = 1 := ofI (by decide)
    have rz_27 := rg z_27
    exact Wp.ret (hQ z_27 I2 hV2.1 hV2.2 (by first | omega | (dsimp only; omega)))
  refine Wp.ite (fun c_6 => ?_) (fun c_6 => ?_)
  · skip
    exact hk_25   
  · skip
    refine Wpc1 (s_RM_isHour hN hV0.1  (fun z_11 b_11 p_11 => ?_))
    try dsimp only at p_11
    have rz_11 := rg z_11
    refine Wp.ite (fun c_14 => ?_) (fun c_14 => ?_)
    · skip
      exact hk_25   
    · skip
      refine Wpc1 (s_RM_isHour hN hV0.1  (fun z_19 b_19 p_19 => ?_))
      try dsimp only at p_19
      have rz_19 := rg z_19
      refine Wp.ite (fun c_22 => ?_) (fun c_22 => ?_)
      · skip
        exact hk_25   
      · skip
        refine Wpc1 (s_RM_isStart hN hV0.1  (fun z_34 b_34 p_34 => ?_))
        try dsimp only at p_34
        have rz_34 := rg z_34
        refine Wp_jq (fun k_47 => Wp (k_47 ) Q) (?_) (fun k_47 hk_47 => ?_)
        · skip
          refine Wpc2 (s_RM_refuse hN hV0.1 h0 (fun z_49 I6 hI6 hF6 p_49 => ?_))
          have hV6 : SQ kC P K O I0 J0 I6 J0 := hV0.call (fun _ _ h => h) hI6 hF6
          try dsimp only at p_49
          have hk1_49 : Int32.toInt (Int32.ofInt (2)) = 2 := ofI (by decide)
          have rz_49 := rg z_49
          exact Wp.ret (hQ z_49 I6 hV6.1 hV6.2 (by first | omega | (dsimp only; omega)))
        refine Wp.ite (fun c_37 => ?_) (fun c_37 => ?_)
        · skip
          exact hk_47   
        · skip
          refine Wp.ite (fun c_44 => ?_) (fun c_44 => ?_)
          · skip
            have t_54 := rf_ok hV.1 h0 (show sp 8 11 = some 0 from rfl)
            have t_58 := rf_ok hV.1 h0 (show sp 8 1 = some 3 from rfl)
            refine Wpc1 (s_RM_startOf hN hV0.1  (fun z_64 p_64 => ?_))
            have rz_64 := rg z_64
            refine Wpc1 (s_Dr_beginStart hN hV0.1 t_54 t_58 (fun I8 hI8 hF8 p_67 => ?_))
            have hV8 : SQ kC P K O I0 J0 I8 J0 := hV0.call (kpL_le (fun _ h => h) rfl) hI8 hF8
            have t_71 := rf_ok hV.1 h0 (show sp 8 10 = some 2 from rfl)
            refine Wpc1 (s_Ld_makeEmpty hN hV8.1 t_71 (fun I9 hI9 hF9 p_74 => ?_))
            have hV9 : SQ kC P K O I0 J0 I9 J0 := hV8.call (kpL_le (fun _ h => h) rfl) hI9 hF9
            have lp_83 : ∀ (m_83 : Nat) (x7_83 : Int32) (x8_83 : Int32) (I_83 : WI), Int.toNat (12 - (x8_83).toInt) < m_83 → (0 ≤ Int32.toInt x8_83 ∧ Int32.toInt x8_83 ≤ 12) → SQ kC P K O I0 J0 I_83 J0 → Wp (lp (B_RM_marks_83 N O (a0) (x4) (x5) (x6) (J0)) (fun _ _ _ => none) m_83 x7_83 x8_83 I_83) Q := by
              intro m_83
              induction m_83 with
              | zero => intro x7_83 x8_83 I_83 hm; exact absurd hm (Nat.not_lt_zero _)
              | succ m_83 ih_83 =>
              intro x7_83 x8_83 I_83 hm_83 iv0_83 hV_83
              have rg7_83 := rg x7_83
              have rg8_83 := rg x8_83
              show Wp (B_RM_marks_83 N O (a0) (x4) (x5) (x6) (J0) (lp (B_RM_marks_83 N O (a0) (x4) (x5) (x6) (J0)) (fun _ _ _ => none) m_83) x7_83 x8_83 I_83) Q
              unfold B_RM_marks_83
              refine Wp.ite (fun c_87 => ?_) (fun c_87 => ?_)
              · skip
                refine Wpc2 (s_RM_accept hN hV_83.1 h0 (fun z_158 I10 hI10 hF10 p_158 => ?_))
                have hV10 : SQ kC P K O I0 J0 I10 J0 := hV_83.call (fun _ _ h => h) hI10 hF10
                try dsimp only at p_158
                have rz_158 := rg z_158
                exact Wp.ret (hQ z_158 I10 hV10.1 hV10.2 (by first | omega | (dsimp only; omega)))
              · skip
                refine Wp_jq (fun k_110 => ∀ (IJ_110 : WI), SQ kC P K O I0 J0 IJ_110 J0 → Wp (k_110 IJ_110) Q) (fun IJ_110  hVJ_110 => ?_) (fun k_110 hk_110 => ?_)
                · skip
                  have t_111 := rf_ok hV.1 h0 (show sp 8 11 = some 0 from rfl)
                  have t_115 := rf_ok hV.1 h0 (show sp 8 1 = some 3 from rfl)
                  have t_119 := rf_ok hV.1 h0 (show sp 8 5 = some 19 from rfl)
                  first | (have e_125 := t_mul (x := x8_83) (y := (Int32.ofInt (3))) rfl (ofI (by decide)) (by omega)) | skip
                  refine Wpc1 (s_Dr_runHour hN hVJ_110.1 t_111 t_115 t_119 ⟨by decide, rfl, fun _ => rfl, fun _ _ => trivial, by decide⟩ (by omega) (fun I11 hI11 hF11 p_126 => ?_))
                  have hV11 : SQ kC P K O I0 J0 I11 J0 := hVJ_110.call (kpL_le (fun _ h => h) rfl) hI11 hF11
                  have t_133 := rf_ok hV.1 h0 (show sp 8 5 = some 19 from rfl)
                  first | (have e_139 := t_mul (x := x8_83) (y := (Int32.ofInt (3))) rfl (ofI (by decide)) (by omega)) | skip
                  first | (have e_141 := t_add (x := (x8_83 * (Int32.ofInt (3)))) (y := (Int32.ofInt (1))) rfl (ofI (by decide)) (by omega)) | skip
                  refine Wp.pos (by omega) ?_
                  refine Wpc2 (s_RM_leadMarks hN hV11.1 h0 (fun z_143 I12 hI12 hF12 p_143 => ?_))
                  have hV12 : SQ kC P K O I0 J0 I12 J0 := hV11.call (kpL_le (fun _ h => h) rfl) hI12 hF12
                  have rz_143 := rg z_143
                  first | (have e_146 := t_add (x := x7_83) (y := z_143) rfl rfl (by omega)) | skip
                  refine Wp_lb (fun v7_147 ev_147 => ?_)
                  have ei_147 := congrArg Int32.toInt ev_147
                  have rv_147 := rg v7_147
                  refine Wp_lb (fun v8_149 ev_149 => ?_)
                  have rv_149 := rg v8_149
                  first | (have e_149 : v8_149.toInt = (x8_83).toInt + 1 := by rw [ev_149]; exact t_add rfl (ofI (by decide)) (by omega)) | skip
                  clear ev_149
                  exact ih_83 (v7_147) (v8_149) I12 (by omega) (by omega) hV12
                refine Wp.ite (fun c_94 => ?_) (fun c_94 => ?_)
                · skip
                  have t_98 := rf_ok hV.1 h0 (show sp 8 10 = some 2 from rfl)
                  have t_101 := rf_ok hV.1 t_98 (show sp 2 0 = some 11 from rfl)
                  refine Wp.pos (by omega) ?_
                  refine Wp_lb (fun I13 eI13 => ?_)
                  have hV13 : SQ kC P K O I0 J0 I13 J0 := by rw [eI13]; exact hV_83.putI t_101.2 rfl trivial
                  exact hk_110  I13  hV13
                · skip
                  exact hk_110  I_83  hV_83
            exact lp_83 N ((Int32.ofInt (0))) ((Int32.ofInt (0))) I9 (by have hci0 : Int32.toInt (Int32.ofInt (0)) = 0 := ofI (by decide); omega) (by have hci0 : Int32.toInt (Int32.ofInt (0)) = 0 := ofI (by decide); omega) hV9
          · skip
            exact hk_47   
set_option maxHeartbeats 4000000 in
set_option maxRecDepth 100000 in
theorem s_RM_size {P : List Nat} {K : Nat → Nat} {N : Nat} {O : WO} {I0 : WI} {J0 : WJ} (hN : 2147483648 ≤ N) (hV : IV P K I0 O) {a0 : Nat} (h0 : a0 ∈ P ∧ K a0 = 8) {x1 : Int32} {Q : Int32 → Prop} (hQ : ∀ (z : Int32), True → Q z) : Wp (F_RM_size N O I0 J0 a0 x1) Q := by
  unfold F_RM_size
  have r1 := rg x1
  have hV0 : SQ kP P K O I0 J0 I0 J0 := SQ.rf hV
  refine Wp.ite (fun c_1_0 => ?_) (fun c_1_0 => ?_)
  · skip
    have t_65 := rf_ok hV.1 h0 (show sp 8 1 = some 3 from rfl)
    exact Wp.ret (hQ (I0 (rf O a0 1) 7) trivial)
  refine Wp.ite (fun c_1_1 => ?_) (fun c_1_1 => ?_)
  · skip
    have t_73 := rf_ok hV.1 h0 (show sp 8 1 = some 3 from rfl)
    exact Wp.ret (hQ (I0 (rf O a0 1) 8) trivial)
  refine Wp.ite (fun c_1_2 => ?_) (fun c_1_2 => ?_)
  · skip
    have t_81 := rf_ok hV.1 h0 (show sp 8 1 = some 3 from rfl)
    exact Wp.ret (hQ (I0 (rf O a0 1) 0) trivial)
  refine Wp.ite (fun c_1_3 => ?_) (fun c_1_3 => ?_)
  · skip
    have t_89 := rf_ok hV.1 h0 (show sp 8 1 = some 3 from rfl)
    exact Wp.ret (hQ (I0 (rf O a0 1) 1) trivial)
  refine Wp.ite (fun c_1_4 => ?_) (fun c_1_4 => ?_)
  · skip
    have t_97 := rf_ok hV.1 h0 (show sp 8 1 = some 3 from rfl)
    have e_104 := mx_f (x := (I0 (rf O a0 1) 2)) (y := (Int32.ofInt (0)))
    have k1_104 : Int32.toInt (Int32.ofInt (0)) = 0 := ofI (by decide)
    exact Wp.ret (hQ (mxI (I0 (rf O a0 1) 2) (Int32.ofInt (0))) trivial)
  refine Wp.ite (fun c_1_5 => ?_) (fun c_1_5 => ?_)
  · skip
    have t_109 := rf_ok hV.1 h0 (show sp 8 1 = some 3 from rfl)
    exact Wp.ret (hQ (I0 (rf O a0 1) 3) trivial)
  refine Wp.ite (fun c_1_6 => ?_) (fun c_1_6 => ?_)
  · skip
    have t_117 := rf_ok hV.1 h0 (show sp 8 1 = some 3 from rfl)
    exact Wp.ret (hQ (I0 (rf O a0 1) 4) trivial)
  refine Wp.ite (fun c_1_7 => ?_) (fun c_1_7 => ?_)
  · skip
    have t_125 := rf_ok hV.1 h0 (show sp 8 1 = some 3 from rfl)
    exact Wp.ret (hQ (I0 (rf O a0 1) 5) trivial)
  refine Wp.ite (fun c_1_8 => ?_) (fun c_1_8 => ?_)
  · skip
    have t_133 := rf_ok hV.1 h0 (show sp 8 1 = some 3 from rfl)
    exact Wp.ret (hQ (I0 (rf O a0 1) 6) trivial)
  refine Wp.ite (fun c_1_9 => ?_) (fun c_1_9 => ?_)
  · skip
    have t_141 := rf_ok hV.1 h0 (show sp 8 1 = some 3 from rfl)
    exact Wp.ret (hQ (I0 (rf O a0 1) 9) trivial)
  refine Wp.ite (fun c_1_10 => ?_) (fun c_1_10 => ?_)
  · skip
    have t_149 := rf_ok hV.1 h0 (show sp 8 7 = some 6 from rfl)
    exact Wp.ret (hQ (I0 (rf O a0 7) 4) trivial)
  refine Wp.ite (fun c_1_11 => ?_) (fun c_1_11 => ?_)
  · skip
    have t_157 := rf_ok hV.1 h0 (show sp 8 0 = some 5 from rfl)
    exact Wp.ret (hQ (I0 (rf O a0 0) 1) trivial)
  exact Wp.ret (hQ (Int32.ofInt (-1)) trivial)
set_option maxHeartbeats 4000000 in
set_option maxRecDepth 100000 in
theorem s_RM_trouble {P : List Nat} {K : Nat → Nat} {N : Nat} {O : WO} {I0 : WI} {J0 : WJ} (hN : 2147483648 ≤ N) (hV : IV P K I0 O) {a0 : Nat} (h0 : a0 ∈ P ∧ K a0 = 8) {Q : Int32 → Prop} (hQ : ∀ (z : Int32), True → Q z) : Wp (F_RM_trouble N O I0 J0 a0) Q := by
  unfold F_RM_trouble
  have hV0 : SQ kP P K O I0 J0 I0 J0 := SQ.rf hV
  exact Wp.ret (hQ (I0 a0 14) trivial)
