set_option maxHeartbeats 4000000 in
set_option maxRecDepth 100000 in
theorem s_Gu_makeStale {P : List Nat} {K : Nat → Nat} {N : Nat} {O : WO} {I0 : WI} {J0 : WJ} (hN : 2147483648 ≤ N) (hV : IV P K I0 O) {a0 : Nat} (h0 : a0 ∈ P ∧ K a0 = 1) {Q : WI → Prop} (hQ : ∀ (I_ : WI), IV P K I_ O → FQ kD K I0 J0 I_ J0 → True → Q I_) : Wp (F_Gu_makeStale N O I0 J0 a0) Q := by
  unfold F_Gu_makeStale
  have hV0 : SQ kD P K O I0 J0 I0 J0 := SQ.rf hV
  have lp_2 : ∀ (m_2 : Nat) (x1_2 : Int32) (I_2 : WI), Int.toNat (100 - (x1_2).toInt) < m_2 → (0 ≤ Int32.toInt x1_2 ∧ Int32.toInt x1_2 ≤ 100) → SQ kD P K O I0 J0 I_2 J0 → Wp (lp (B_Gu_makeStale_2 N O (a0)) (fun _ _ => none) m_2 x1_2 I_2) Q := by
    intro m_2
    induction m_2 with
    | zero => intro x1_2 I_2 hm; exact absurd hm (Nat.not_lt_zero _)
    | succ m_2 ih_2 =>
    intro x1_2 I_2 hm_2 iv0_2 hV_2
    have rg1_2 := rg x1_2
    show Wp (B_Gu_makeStale_2 N O (a0) (lp (B_Gu_makeStale_2 N O (a0)) (fun _ _ => none) m_2) x1_2 I_2) Q
    unfold B_Gu_makeStale_2
    refine Wp.ite (fun c_5 => ?_) (fun c_5 => ?_)
    · skip
      exact Wp.ret (hQ I_2 hV_2.1 hV_2.2 trivial)
    · skip
      have t_9 := rf_ok hV.1 h0 (show sp 1 1 = some 21 from rfl)
      refine Wp.pos (by omega) ?_
      refine Wp_lb (fun I1 eI1 => ?_)
      have hV1 : SQ kD P K O I0 J0 I1 J0 := by rw [eI1]; exact hV_2.putI t_9.2 rfl trivial
      refine Wp_lb (fun v1_15 ev_15 => ?_)
      have rv_15 := rg v1_15
      first | (have e_15 : v1_15.toInt = (x1_2).toInt + 1 := by rw [ev_15]; exact t_add rfl (ofI (by decide)) (by omega)) | skip
      clear ev_15
      exact ih_2 (v1_15) I1 (by omega) (by omega) hV1
  exact lp_2 N ((Int32.ofInt (0))) I0 (by have hci0 : Int32.toInt (Int32.ofInt (0)) = 0 := ofI (by decide); omega) (by have hci0 : Int32.toInt (Int32.ofInt (0)) = 0 := ofI (by decide); omega) hV0
set_option maxHeartbeats 4000000 in
set_option maxRecDepth 100000 in
theorem s_Gu_tellOne {P : List Nat} {K : Nat → Nat} {N : Nat} {O : WO} {I0 : WI} {J0 : WJ} (hN : 2147483648 ≤ N) (hV : IV P K I0 O) {a0 : Nat} (h0 : a0 ∈ P ∧ K a0 = 1) {a1 : Nat} (h1 : a1 ∈ P ∧ K a1 = 3) {a2 : Nat} (h2 : a2 ∈ P ∧ K a2 = 19) {x3 : Int32} {Q : WI → Prop} (hQ : ∀ (I_ : WI), IV P K I_ O → FQ kD K I0 J0 I_ J0 → True → Q I_) : Wp (F_Gu_tellOne N O I0 J0 a0 a1 a2 x3) Q := by
  unfold F_Gu_tellOne
  have r3 := rg x3
  have hV0 : SQ kD P K O I0 J0 I0 J0 := SQ.rf hV
  refine Wp.ite (fun c_1 => ?_) (fun c_1 => ?_)
  · skip
    exact Wp.ret (hQ I0 hV0.1 hV0.2 trivial)
  · skip
    refine Wp.ite (fun c_7 => ?_) (fun c_7 => ?_)
    · skip
      exact Wp.ret (hQ I0 hV0.1 hV0.2 trivial)
    · skip
      have t_11 := rf_ok hV.1 h0 (show sp 1 1 = some 21 from rfl)
      refine Wp.pos (by omega) ?_
      refine Wp.ite (fun c_16 => ?_) (fun c_16 => ?_)
      · skip
        have t_21 := rf_ok hV.1 h0 (show sp 1 2 = some 0 from rfl)
        refine Wpc1 (s_Dr_beginStart hN hV0.1 t_21 h1 (fun I1 hI1 hF1 p_26 => ?_))
        have hV1 : SQ kD P K O I0 J0 I1 J0 := hV0.call (fun _ _ h => h) hI1 hF1
        have lp_32 : ∀ (m_32 : Nat) (x4_32 : Int32) (I_32 : WI), Int.toNat (12 - (x4_32).toInt) < m_32 → (0 ≤ Int32.toInt x4_32 ∧ Int32.toInt x4_32 ≤ 12) → SQ kD P K O I0 J0 I_32 J0 → Wp (lp (B_Gu_tellOne_32 N O (a0) (a1) (a2) (x3) (J0)) (fun _ _ => none) m_32 x4_32 I_32) Q := by
          intro m_32
          induction m_32 with
          | zero => intro x4_32 I_32 hm; exact absurd hm (Nat.not_lt_zero _)
          | succ m_32 ih_32 =>
          intro x4_32 I_32 hm_32 iv0_32 hV_32
          have rg4_32 := rg x4_32
          show Wp (B_Gu_tellOne_32 N O (a0) (a1) (a2) (x3) (J0) (lp (B_Gu_tellOne_32 N O (a0) (a1) (a2) (x3) (J0)) (fun _ _ => none) m_32) x4_32 I_32) Q
          unfold B_Gu_tellOne_32
          refine Wp.ite (fun c_36 => ?_) (fun c_36 => ?_)
          · skip
            have t_141 := rf_ok hV.1 h0 (show sp 1 1 = some 21 from rfl)
            refine Wp.pos (by omega) ?_
            refine Wp_lb (fun I2 eI2 => ?_)
            have hV2 : SQ kD P K O I0 J0 I2 J0 := by rw [eI2]; exact hV_32.putI t_141.2 rfl trivial
            exact Wp.ret (hQ I2 hV2.1 hV2.2 trivial)
          · skip
            have t_40 := rf_ok hV.1 h0 (show sp 1 2 = some 0 from rfl)
            first | (have e_48 := t_mul (x := x4_32) (y := (Int32.ofInt (3))) rfl (ofI (by decide)) (by omega)) | skip
            refine Wpc1 (s_Dr_runHour hN hV_32.1 t_40 h1 h2 ⟨by decide, rfl, fun _ => rfl, fun _ _ => trivial, by decide⟩ (by omega) (fun I3 hI3 hF3 p_49 => ?_))
            have hV3 : SQ kD P K O I0 J0 I3 J0 := hV_32.call (fun _ _ h => h) hI3 hF3
            first | (have e_55 := t_mul (x := x3) (y := (Int32.ofInt (12))) rfl (ofI (by decide)) (by omega)) | skip
            first | (have e_58 := t_add (x := (x3 * (Int32.ofInt (12)))) (y := x4_32) rfl rfl (by omega)) | skip
            first | (have e_61 := t_mul (x := ((x3 * (Int32.ofInt (12))) + x4_32)) (y := (Int32.ofInt (7))) rfl (ofI (by decide)) (by omega)) | skip
            refine Wp_lb (fun v5_62 ev_62 => ?_)
            have ei_62 := congrArg Int32.toInt ev_62
            have rv_62 := rg v5_62
            have t_65 := rf_ok hV.1 h0 (show sp 1 0 = some 20 from rfl)
            have t_71 := rf_ok hV.1 h0 (show sp 1 2 = some 0 from rfl)
            refine Wp.pos (by omega) ?_
            refine Wp_lb (fun I4 eI4 => ?_)
            have hV4 : SQ kD P K O I0 J0 I4 J0 := by rw [eI4]; exact hV3.putI t_65.2 rfl trivial
            have t_79 := rf_ok hV.1 h0 (show sp 1 0 = some 20 from rfl)
            first | (have e_85 := t_add (x := v5_62) (y := (Int32.ofInt (1))) rfl (ofI (by decide)) (by omega)) | skip
            have t_87 := rf_ok hV.1 h0 (show sp 1 2 = some 0 from rfl)
            refine Wp.pos (by omega) ?_
            refine Wp_lb (fun I5 eI5 => ?_)
            have hV5 : SQ kD P K O I0 J0 I5 J0 := by rw [eI5]; exact hV4.putI t_79.2 rfl trivial
            have lp_97 : ∀ (m_97 : Nat) (x6_97 : Int32) (I_97 : WI), Int.toNat (5 - (x6_97).toInt) < m_97 → (0 ≤ Int32.toInt x6_97 ∧ Int32.toInt x6_97 ≤ 5) → SQ kD P K O I0 J0 I_97 J0 → Wp (lp (B_Gu_tellOne_97 N O (a0) (x4_32) ((lp (B_Gu_tellOne_32 N O (a0) (a1) (a2) (x3) (J0)) (fun _ _ => none) m_32)) (v5_62)) (fun _ _ => none) m_97 x6_97 I_97) Q := by
              intro m_97
              induction m_97 with
              | zero => intro x6_97 I_97 hm; exact absurd hm (Nat.not_lt_zero _)
              | succ m_97 ih_97 =>
              intro x6_97 I_97 hm_97 iv0_97 hV_97
              have rg6_97 := rg x6_97
              show Wp (B_Gu_tellOne_97 N O (a0) (x4_32) ((lp (B_Gu_tellOne_32 N O (a0) (a1) (a2) (x3) (J0)) (fun _ _ => none) m_32)) (v5_62) (lp (B_Gu_tellOne_97 N O (a0) (x4_32) ((lp (B_Gu_tellOne_32 N O (a0) (a1) (a2) (x3) (J0)) (fun _ _ => none) m_32)) (v5_62)) (fun _ _ => none) m_97) x6_97 I_97) Q
              unfold B_Gu_tellOne_97
              refine Wp.ite (fun c_100 => ?_) (fun c_100 => ?_)
              · skip
                refine Wp_lb (fun v4_134 ev_134 => ?_)
                have rv_134 := rg v4_134
                first | (have e_134 : v4_134.toInt = (x4_32).toInt + 1 := by rw [ev_134]; exact t_add rfl (ofI (by decide)) (by omega)) | skip
                clear ev_134
                exact ih_32 (v4_134) I_97 (by omega) (by omega) hV_97
              · skip
                have t_104 := rf_ok hV.1 h0 (show sp 1 0 = some 20 from rfl)
                first | (have e_110 := t_add (x := v5_62) (y := (Int32.ofInt (2))) rfl (ofI (by decide)) (by omega)) | skip
                first | (have e_113 := t_add (x := (v5_62 + (Int32.ofInt (2)))) (y := x6_97) rfl rfl (by omega)) | skip
                have t_115 := rf_ok hV.1 h0 (show sp 1 2 = some 0 from rfl)
                have t_118 := rf_ok hV.1 t_115 (show sp 0 0 = some 2 from rfl)
                have t_121 := rf_ok hV.1 t_118 (show sp 2 2 = some 11 from rfl)
                refine Wp.pos (by omega) ?_
                refine Wp.pos (by omega) ?_
                refine Wp_lb (fun I6 eI6 => ?_)
                have hV6 : SQ kD P K O I0 J0 I6 J0 := by rw [eI6]; exact hV_97.putI t_104.2 rfl trivial
                refine Wp_lb (fun v6_128 ev_128 => ?_)
                have rv_128 := rg v6_128
                first | (have e_128 : v6_128.toInt = (x6_97).toInt + 1 := by rw [ev_128]; exact t_add rfl (ofI (by decide)) (by omega)) | skip
                clear ev_128
                exact ih_97 (v6_128) I6 (by omega) (by omega) hV6
            exact lp_97 N ((Int32.ofInt (0))) I5 (by have hci0 : Int32.toInt (Int32.ofInt (0)) = 0 := ofI (by decide); omega) (by have hci0 : Int32.toInt (Int32.ofInt (0)) = 0 := ofI (by decide); omega) hV5
        exact lp_32 N ((Int32.ofInt (0))) I1 (by have hci0 : Int32.toInt (Int32.ofInt (0)) = 0 := ofI (by decide); omega) (by have hci0 : Int32.toInt (Int32.ofInt (0)) = 0 := ofI (by decide); omega) hV1
      · skip
        exact Wp.ret (hQ I0 hV0.1 hV0.2 trivial)
set_option maxHeartbeats 4000000 in
set_option maxRecDepth 100000 in
theorem s_Gu_tellAll {P : List Nat} {K : Nat → Nat} {N : Nat} {O : WO} {I0 : WI} {J0 : WJ} (hN : 2147483648 ≤ N) (hV : IV P K I0 O) {a0 : Nat} (h0 : a0 ∈ P ∧ K a0 = 1) {a1 : Nat} (h1 : a1 ∈ P ∧ K a1 = 3) {a2 : Nat} (h2 : a2 ∈ P ∧ K a2 = 19) {Q : WI → Prop} (hQ : ∀ (I_ : WI), IV P K I_ O → FQ kD K I0 J0 I_ J0 → True → Q I_) : Wp (F_Gu_tellAll N O I0 J0 a0 a1 a2) Q := by
  unfold F_Gu_tellAll
  have hV0 : SQ kD P K O I0 J0 I0 J0 := SQ.rf hV
  have lp_2 : ∀ (m_2 : Nat) (x3_2 : Int32) (I_2 : WI), Int.toNat (100 - (x3_2).toInt) < m_2 → (0 ≤ Int32.toInt x3_2 ∧ Int32.toInt x3_2 ≤ 100) → SQ kD P K O I0 J0 I_2 J0 → Wp (lp (B_Gu_tellAll_2 N O (a0) (a1) (a2) (J0)) (fun _ _ => none) m_2 x3_2 I_2) Q := by
    intro m_2
    induction m_2 with
    | zero => intro x3_2 I_2 hm; exact absurd hm (Nat.not_lt_zero _)
    | succ m_2 ih_2 =>
    intro x3_2 I_2 hm_2 iv0_2 hV_2
    have rg3_2 := rg x3_2
    show Wp (B_Gu_tellAll_2 N O (a0) (a1) (a2) (J0) (lp (B_Gu_tellAll_2 N O (a0) (a1) (a2) (J0)) (fun _ _ => none) m_2) x3_2 I_2) Q
    unfold B_Gu_tellAll_2
    refine Wp.ite (fun c_5 => ?_) (fun c_5 => ?_)
    · skip
      exact Wp.ret (hQ I_2 hV_2.1 hV_2.2 trivial)
    · skip
      refine Wpc1 (s_Gu_tellOne hN hV_2.1 h0 h1 h2 (fun I1 hI1 hF1 p_12 => ?_))
      have hV1 : SQ kD P K O I0 J0 I1 J0 := hV_2.call (fun _ _ h => h) hI1 hF1
      refine Wp_lb (fun v3_15 ev_15 => ?_)
      have rv_15 := rg v3_15
      first | (have e_15 : v3_15.toInt = (x3_2).toInt + 1 := by rw [ev_15]; exact t_add rfl (ofI (by decide)) (by omega)) | skip
      clear ev_15
      exact ih_2 (v3_15) I1 (by omega) (by omega) hV1
  exact lp_2 N ((Int32.ofInt (0))) I0 (by have hci0 : Int32.toInt (Int32.ofInt (0)) = 0 := ofI (by decide); omega) (by have hci0 : Int32.toInt (Int32.ofInt (0)) = 0 := ofI (by decide); omega) hV0
set_option maxHeartbeats 4000000 in
set_option maxRecDepth 100000 in
theorem s_Gu_toldOf {P : List Nat} {K : Nat → Nat} {N : Nat} {O : WO} {I0 : WI} {J0 : WJ} (hN : 2147483648 ≤ N) (hV : IV P K I0 O) {a0 : Nat} (h0 : a0 ∈ P ∧ K a0 = 1) {x1 : Int32} {x2 : Int32} {x3 : Int32} {Q : Int32 → Prop} (hQ : ∀ (z : Int32), True → Q z) : Wp (F_Gu_toldOf N O I0 J0 a0 x1 x2 x3) Q := by
  unfold F_Gu_toldOf
  have r1 := rg x1
  have r2 := rg x2
  have r3 := rg x3
  have hV0 : SQ kP P K O I0 J0 I0 J0 := SQ.rf hV
  refine Wp.ite (fun c_1 => ?_) (fun c_1 => ?_)
  · skip
    exact Wp.ret (hQ (Int32.ofInt (0)) trivial)
  · skip
    refine Wp.ite (fun c_7 => ?_) (fun c_7 => ?_)
    · skip
      exact Wp.ret (hQ (Int32.ofInt (0)) trivial)
    · skip
      refine Wpc1 (s_RM_isHour hN hV0.1  (fun z_11 b_11 p_11 => ?_))
      try dsimp only at p_11
      have rz_11 := rg z_11
      refine Wp.ite (fun c_14 => ?_) (fun c_14 => ?_)
      · skip
        exact Wp.ret (hQ (Int32.ofInt (0)) trivial)
      · skip
        refine Wp.ite (fun c_18 => ?_) (fun c_18 => ?_)
        · skip
          exact Wp.ret (hQ (Int32.ofInt (0)) trivial)
        · skip
          refine Wp.ite (fun c_24 => ?_) (fun c_24 => ?_)
          · skip
            have t_30 := rf_ok hV.1 h0 (show sp 1 0 = some 20 from rfl)
            first | (have e_36 := t_mul (x := x1) (y := (Int32.ofInt (12))) rfl (ofI (by decide)) (by omega)) | skip
            first | (have e_38 := t_add (x := (x1 * (Int32.ofInt (12)))) (y := x2) rfl rfl (by omega)) | skip
            first | (have e_41 := t_mul (x := ((x1 * (Int32.ofInt (12))) + x2)) (y := (Int32.ofInt (7))) rfl (ofI (by decide)) (by omega)) | skip
            first | (have e_43 := t_add (x := (((x1 * (Int32.ofInt (12))) + x2) * (Int32.ofInt (7)))) (y := x3) rfl rfl (by omega)) | skip
            refine Wp.pos (by omega) ?_
            exact Wp.ret (hQ (I0 (rf O a0 0) (((((x1 * (Int32.ofInt (12))) + x2) * (Int32.ofInt (7))) + x3)).toInt.toNat) trivial)
          · skip
            exact Wp.ret (hQ (Int32.ofInt (0)) trivial)
set_option maxHeartbeats 4000000 in
set_option maxRecDepth 100000 in
theorem s_Si_isFilled {P : List Nat} {K : Nat → Nat} {N : Nat} {O : WO} {I0 : WI} {J0 : WJ} (hN : 2147483648 ≤ N) (hV : IV P K I0 O) {a0 : Nat} (h0 : a0 ∈ P ∧ K a0 = 6) {Q : Int32 → Prop} (hQ : ∀ (z : Int32), (z.toInt = 0 ∨ z.toInt = 1) → True → Q z) : Wp (F_Si_isFilled N O I0 J0 a0) Q := by
  unfold F_Si_isFilled
  have hV0 : SQ kP P K O I0 J0 I0 J0 := SQ.rf hV
  refine Wp.ite (fun c_6 => ?_) (fun c_6 => ?_)
  · skip
    exact Wp.ret (hQ (Int32.ofInt (0)) (by have hci : Int32.toInt (Int32.ofInt (0)) = 0 := ofI (by decide); omega) trivial)
  · skip
    exact Wp.ret (hQ (Int32.ofInt (1)) (by have hci : Int32.toInt (Int32.ofInt (1)) = 1 := ofI (by decide); omega) trivial)
set_option maxHeartbeats 4000000 in
set_option maxRecDepth 100000 in
theorem s_Si_note {P : List Nat} {K : Nat → Nat} {N : Nat} {O : WO} {I0 : WI} {J0 : WJ} (hN : 2147483648 ≤ N) (hV : IV P K I0 O) {a0 : Nat} (h0 : a0 ∈ P ∧ K a0 = 6) {x1 : Int32} {x2 : Int32} {x3 : Int32} {x4 : Int32} {Q : (Int32 × WI) → Prop} (hQ : ∀ (z : Int32) (I_ : WI), IV P K I_ O → FQ kD K I0 J0 I_ J0 → True → Q (z, I_)) : Wp (F_Si_note N O I0 J0 a0 x1 x2 x3 x4) Q := by
  unfold F_Si_note
  have r1 := rg x1
  have r2 := rg x2
  have r3 := rg x3
  have r4 := rg x4
  have hV0 : SQ kD P K O I0 J0 I0 J0 := SQ.rf hV
  refine Wp.ite (fun c_4 => ?_) (fun c_4 => ?_)
  · skip
    exact Wp.ret (hQ (I0 a0 4) I0 hV0.1 hV0.2 trivial)
  · skip
    refine Wp.ite (fun c_13 => ?_) (fun c_13 => ?_)
    · skip
      exact Wp.ret (hQ (I0 a0 4) I0 hV0.1 hV0.2 trivial)
    · skip
      have t_17 := rf_ok hV.1 h0 (show sp 6 0 = some 22 from rfl)
      refine Wp.pos (by omega) ?_
      refine Wp_lb (fun I1 eI1 => ?_)
      have hV1 : SQ kD P K O I0 J0 I1 J0 := by rw [eI1]; exact hV0.putI t_17.2 rfl trivial
      have tk1_a0_4 : (I1 a0 4).toInt = (I0 a0 4).toInt := by rw [eI1, up2_ne _ _ (fun z => by have q := h0.2; rw [z.1, t_17.2] at q; exact absurd q (by decide))]
      have t_27 := rf_ok hV.1 h0 (show sp 6 1 = some 22 from rfl)
      refine Wp.pos (by omega) ?_
      refine Wp_lb (fun I2 eI2 => ?_)
      have hV2 : SQ kD P K O I0 J0 I2 J0 := by rw [eI2]; exact hV1.putI t_27.2 rfl trivial
      have tk2_a0_4 : (I2 a0 4).toInt = (I1 a0 4).toInt := by rw [eI2, up2_ne _ _ (fun z => by have q := h0.2; rw [z.1, t_27.2] at q; exact absurd q (by decide))]
      have t_37 := rf_ok hV.1 h0 (show sp 6 2 = some 22 from rfl)
      refine Wp.pos (by omega) ?_
      refine Wp_lb (fun I3 eI3 => ?_)
      have hV3 : SQ kD P K O I0 J0 I3 J0 := by rw [eI3]; exact hV2.putI t_37.2 rfl trivial
      have tk3_a0_4 : (I3 a0 4).toInt = (I2 a0 4).toInt := by rw [eI3, up2_ne _ _ (fun z => by have q := h0.2; rw [z.1, t_37.2] at q; exact absurd q (by decide))]
      have t_47 := rf_ok hV.1 h0 (show sp 6 3 = some 22 from rfl)
      refine Wp.pos (by omega) ?_
      refine Wp_lb (fun I4 eI4 => ?_)
      have hV4 : SQ kD P K O I0 J0 I4 J0 := by rw [eI4]; exact hV3.putI t_47.2 rfl trivial
      have tk4_a0_4 : (I4 a0 4).toInt = (I3 a0 4).toInt := by rw [eI4, up2_ne _ _ (fun z => by have q := h0.2; rw [z.1, t_47.2] at q; exact absurd q (by decide))]
      first | (have e_63 := t_add (x := (I4 a0 4)) (y := (Int32.ofInt (1))) rfl (ofI (by decide)) (by omega)) | skip
      refine Wp_lb (fun I5 eI5 => ?_)
      have hV5 : SQ kD P K O I0 J0 I5 J0 := by rw [eI5]; exact hV4.putI h0.2 rfl trivial
      have tk5_a0_4 : (I5 a0 4).toInt = (((I4 a0 4) + (Int32.ofInt (1)))).toInt := by rw [eI5, up2_self]
      refine Wp_lb (fun I6 eI6 => ?_)
      have hV6 : SQ kD P K O I0 J0 I6 J0 := by rw [eI6]; exact hV5.putI h0.2 rfl (show B01 _ from by unfold B01; have hci : Int32.toInt (Int32.ofInt (0)) = 0 := ofI (by decide); omega)
      have tk6_a0_4 : (I6 a0 4).toInt = (I5 a0 4).toInt := by rw [eI6, up2_ne _ _ (fun z => absurd z.2 (by decide))]
      exact Wp.ret (hQ (I6 a0 4) I6 hV6.1 hV6.2 trivial)
set_option maxHeartbeats 4000000 in
set_option maxRecDepth 100000 in
theorem s_Si_drop {P : List Nat} {K : Nat → Nat} {N : Nat} {O : WO} {I0 : WI} {J0 : WJ} (hN : 2147483648 ≤ N) (hV : IV P K I0 O) {a0 : Nat} (h0 : a0 ∈ P ∧ K a0 = 6) {Q : (Int32 × WI) → Prop} (hQ : ∀ (z : Int32) (I_ : WI), IV P K I_ O → FQ kD K I0 J0 I_ J0 → True → Q (z, I_)) : Wp (F_Si_drop N O I0 J0 a0) Q := by
  unfold F_Si_drop
  have hV0 : SQ kD P K O I0 J0 I0 J0 := SQ.rf hV
  refine Wp_lb (fun v1_4 ev_4 => ?_)
  have ei_4 := congrArg Int32.toInt ev_4
  have rv_4 := rg v1_4
  refine Wp_lb (fun I1 eI1 => ?_)
  have hV1 : SQ kD P K O I0 J0 I1 J0 := by rw [eI1]; exact hV0.putI h0.2 rfl trivial
  refine Wp_lb (fun I2 eI2 => ?_)
  have hV2 : SQ kD P K O I0 J0 I2 J0 := by rw [eI2]; exact hV1.putI h0.2 rfl (show B01 _ from by unfold B01; have hci : Int32.toInt (Int32.ofInt (0)) = 0 := ofI (by decide); omega)
  exact Wp.ret (hQ v1_4 I2 hV2.1 hV2.2 trivial)
set_option maxHeartbeats 4000000 in
set_option maxRecDepth 100000 in
theorem s_Si_agrees {P : List Nat} {K : Nat → Nat} {N : Nat} {O : WO} {I0 : WI} {J0 : WJ} (hN : 2147483648 ≤ N) (hV : IV P K I0 O) {a0 : Nat} (h0 : a0 ∈ P ∧ K a0 = 6) {a1 : Nat} (h1 : a1 ∈ P ∧ K a1 = 1) {x2 : Int32} {x3 : Int32} {x4 : Int32} {Q : Int32 → Prop} (hQ : ∀ (z : Int32), (z.toInt = 0 ∨ z.toInt = 1) → True → Q z) : Wp (F_Si_agrees N O I0 J0 a0 a1 x2 x3 x4) Q := by
  unfold F_Si_agrees
  have r2 := rg x2
  have r3 := rg x3
  have r4 := rg x4
  have hV0 : SQ kP P K O I0 J0 I0 J0 := SQ.rf hV
  have lp_3 : ∀ (m_3 : Nat) (x5_3 : Int32), Int.toNat (24 - (x5_3).toInt) < m_3 → (0 ≤ Int32.toInt x5_3 ∧ Int32.toInt x5_3 ≤ 24) → Wp (lp (B_Si_agrees_3 N O (a0) (a1) (x2) (x3) (x4) (I0) (J0)) (fun _ => none) m_3 x5_3) Q := by
    intro m_3
    induction m_3 with
    | zero => intro x5_3 hm; exact absurd hm (Nat.not_lt_zero _)
    | succ m_3 ih_3 =>
    intro x5_3 hm_3 iv0_3 
    have rg5_3 := rg x5_3
    show Wp (B_Si_agrees_3 N O (a0) (a1) (x2) (x3) (x4) (I0) (J0) (lp (B_Si_agrees_3 N O (a0) (a1) (x2) (x3) (x4) (I0) (J0)) (fun _ => none) m_3) x5_3) Q
    unfold B_Si_agrees_3
    refine Wp.ite (fun c_9 => ?_) (fun c_9 => ?_)
    · skip
      exact Wp.ret (hQ (Int32.ofInt (1)) (by have hci : Int32.toInt (Int32.ofInt (1)) = 1 := ofI (by decide); omega) trivial)
    · skip
      refine Wp.ite (fun c_16 => ?_) (fun c_16 => ?_)
      · skip
        exact Wp.ret (hQ (Int32.ofInt (1)) (by have hci : Int32.toInt (Int32.ofInt (1)) = 1 := ofI (by decide); omega) trivial)
      · skip
        have t_20 := rf_ok hV.1 h0 (show sp 6 1 = some 22 from rfl)
        refine Wp.pos (by omega) ?_
        refine Wp_jq (fun k_35 => ∀ (s0_35 : Int32), Wp (k_35 s0_35) Q) (fun s0_35   => ?_) (fun k_35 hk_35 => ?_)
        · skip
          have rgs_s0_35 := rg s0_35
          refine Wp_jq (fun k_65 => ∀ (s0_65 : Int32), Wp (k_65 s0_65) Q) (fun s0_65   => ?_) (fun k_65 hk_65 => ?_)
          · skip
            have rgs_s0_65 := rg s0_65
            have t_72 := rf_ok hV.1 h0 (show sp 6 1 = some 22 from rfl)
            refine Wp.pos (by omega) ?_
            refine Wpc1 (s_Gu_toldOf hN hV0.1 h1 (fun z_78 p_78 => ?_))
            have rz_78 := rg z_78
            have t_82 := rf_ok hV.1 h0 (show sp 6 2 = some 22 from rfl)
            refine Wp.pos (by omega) ?_
            first | (have e_88 := t_sub (x := z_78) (y := (I0 (rf O a0 2) (x5_3).toInt.toNat)) rfl rfl (by omega)) | skip
            have t_93 := rf_ok hV.1 h0 (show sp 6 3 = some 22 from rfl)
            refine Wp.pos (by omega) ?_
            refine Wp.ite (fun c_99 => ?_) (fun c_99 => ?_)
            · skip
              refine Wp_lb (fun v5_104 ev_104 => ?_)
              have rv_104 := rg v5_104
              first | (have e_104 : v5_104.toInt = (x5_3).toInt + 1 := by rw [ev_104]; exact t_add rfl (ofI (by decide)) (by omega)) | skip
              clear ev_104
              exact ih_3 (v5_104) (by omega) (by omega) 
            · skip
              exact Wp.ret (hQ (Int32.ofInt (0)) (by have hci : Int32.toInt (Int32.ofInt (0)) = 0 := ofI (by decide); omega) trivial)
          refine Wp.ite (fun c_39 => ?_) (fun c_39 => ?_)
          · skip
            have t_59 := rf_ok hV.1 h0 (show sp 6 0 = some 22 from rfl)
            refine Wp.pos (by omega) ?_
            exact hk_65 ((I0 (rf O a0 0) (x5_3).toInt.toNat))  
          · skip
            have t_43 := rf_ok hV.1 h0 (show sp 6 0 = some 22 from rfl)
            refine Wp.pos (by omega) ?_
            refine Wpc1 (s_Si_exchanged hN hV0.1  (fun z_52 p_52 => ?_))
            have rz_52 := rg z_52
            exact hk_65 (z_52)  
        refine Wp.ite (fun c_27 => ?_) (fun c_27 => ?_)
        · skip
          exact hk_35 ((Int32.ofInt (0)))  
        · skip
          exact hk_35 ((Int32.ofInt (1)))  
  exact lp_3 N ((Int32.ofInt (0))) (by have hci0 : Int32.toInt (Int32.ofInt (0)) = 0 := ofI (by decide); omega) (by have hci0 : Int32.toInt (Int32.ofInt (0)) = 0 := ofI (by decide); omega) 
set_option maxHeartbeats 4000000 in
set_option maxRecDepth 100000 in
theorem s_Si_anyAgrees {P : List Nat} {K : Nat → Nat} {N : Nat} {O : WO} {I0 : WI} {J0 : WJ} (hN : 2147483648 ≤ N) (hV : IV P K I0 O) {a0 : Nat} (h0 : a0 ∈ P ∧ K a0 = 6) {a1 : Nat} (h1 : a1 ∈ P ∧ K a1 = 1) {x2 : Int32} {x3 : Int32} {Q : Int32 → Prop} (hQ : ∀ (z : Int32), (z.toInt = 0 ∨ z.toInt = 1) → True → Q z) : Wp (F_Si_anyAgrees N O I0 J0 a0 a1 x2 x3) Q := by
  unfold F_Si_anyAgrees
  have r2 := rg x2
  have r3 := rg x3
  have hV0 : SQ kP P K O I0 J0 I0 J0 := SQ.rf hV
  have lp_3 : ∀ (m_3 : Nat) (x4_3 : Int32), Int.toNat (100 - (x4_3).toInt) < m_3 → (0 ≤ Int32.toInt x4_3 ∧ Int32.toInt x4_3 ≤ 100) → Wp (lp (B_Si_anyAgrees_3 N O (a0) (a1) (x2) (x3) (I0) (J0)) (fun _ => none) m_3 x4_3) Q := by
    intro m_3
    induction m_3 with
    | zero => intro x4_3 hm; exact absurd hm (Nat.not_lt_zero _)
    | succ m_3 ih_3 =>
    intro x4_3 hm_3 iv0_3 
    have rg4_3 := rg x4_3
    show Wp (B_Si_anyAgrees_3 N O (a0) (a1) (x2) (x3) (I0) (J0) (lp (B_Si_anyAgrees_3 N O (a0) (a1) (x2) (x3) (I0) (J0)) (fun _ => none) m_3) x4_3) Q
    unfold B_Si_anyAgrees_3
    refine Wp.ite (fun c_7 => ?_) (fun c_7 => ?_)
    · skip
      exact Wp.ret (hQ (Int32.ofInt (0)) (by have hci : Int32.toInt (Int32.ofInt (0)) = 0 := ofI (by decide); omega) trivial)
    · skip
      refine Wpc1 (s_Si_agrees hN hV0.1 h0 h1 (fun z_16 b_16 p_16 => ?_))
      have rz_16 := rg z_16
      refine Wp.ite (fun c_19 => ?_) (fun c_19 => ?_)
      · skip
        refine Wp_lb (fun v4_24 ev_24 => ?_)
        have rv_24 := rg v4_24
        first | (have e_24 : v4_24.toInt = (x4_3).toInt + 1 := by rw [ev_24]; exact t_add rfl (ofI (by decide)) (by omega)) | skip
        clear ev_24
        exact ih_3 (v4_24) (by omega) (by omega) 
      · skip
        exact Wp.ret (hQ (Int32.ofInt (1)) (by have hci : Int32.toInt (Int32.ofInt (1)) = 1 := ofI (by decide); omega) trivial)
  exact lp_3 N ((Int32.ofInt (0))) (by have hci0 : Int32.toInt (Int32.ofInt (0)) = 0 := ofI (by decide); omega) (by have hci0 : Int32.toInt (Int32.ofInt (0)) = 0 := ofI (by decide); omega) 
set_option maxHeartbeats 4000000 in
set_option maxRecDepth 100000 in
theorem s_Si_fitOf {P : List Nat} {K : Nat → Nat} {N : Nat} {O : WO} {I0 : WI} {J0 : WJ} (hN : 2147483648 ≤ N) (hV : IV P K I0 O) {a0 : Nat} (h0 : a0 ∈ P ∧ K a0 = 6) {x1 : Int32} {Q : Int32 → Prop} (hQ : ∀ (z : Int32), True → Q z) : Wp (F_Si_fitOf N O I0 J0 a0 x1) Q := by
  unfold F_Si_fitOf
  have r1 := rg x1
  have hV0 : SQ kP P K O I0 J0 I0 J0 := SQ.rf hV
  refine Wp.ite (fun c_1 => ?_) (fun c_1 => ?_)
  · skip
    exact Wp.ret (hQ (Int32.ofInt (0)) trivial)
  · skip
    refine Wp.ite (fun c_9 => ?_) (fun c_9 => ?_)
    · skip
      exact Wp.ret (hQ (Int32.ofInt (0)) trivial)
    · skip
      refine Wp.ite (fun c_15 => ?_) (fun c_15 => ?_)
      · skip
        exact Wp.ret (hQ (Int32.ofInt (0)) trivial)
      · skip
        have t_19 := rf_ok hV.1 h0 (show sp 6 5 = some 23 from rfl)
        refine Wp.pos (by omega) ?_
        exact Wp.ret (hQ (I0 (rf O a0 5) (x1).toInt.toNat) trivial)
set_option maxHeartbeats 4000000 in
set_option maxRecDepth 100000 in
theorem s_Si_findFits {P : List Nat} {K : Nat → Nat} {N : Nat} {O : WO} {I0 : WI} {J0 : WJ} (hN : 2147483648 ≤ N) (hV : IV P K I0 O) {a0 : Nat} (h0 : a0 ∈ P ∧ K a0 = 6) {a1 : Nat} (h1 : a1 ∈ P ∧ K a1 = 1) {Q : (Int32 × WI) → Prop} (hQ : ∀ (z : Int32) (I_ : WI), IV P K I_ O → FQ kD K I0 J0 I_ J0 → True → Q (z, I_)) : Wp (F_Si_findFits N O I0 J0 a0 a1) Q := by
  unfold F_Si_findFits
  have hV0 : SQ kD P K O I0 J0 I0 J0 := SQ.rf hV
  refine Wp.ite (fun c_4 => ?_) (fun c_4 => ?_)
  · skip
    refine Wp_lb (fun I1 eI1 => ?_)
    have hV1 : SQ kD P K O I0 J0 I1 J0 := by rw [eI1]; exact hV0.putI h0.2 rfl trivial
    have tk1_a0_6 : (I1 a0 6).toInt = 0 := by rw [eI1, up2_self]; exact ofI (by decide)
    have lp_14 : ∀ (m_14 : Nat) (x2_14 : Int32) (I_14 : WI), Int.toNat (100 - (x2_14).toInt) < m_14 → (0 ≤ Int32.toInt x2_14 ∧ Int32.toInt x2_14 ≤ 100) → (0 ≤ Int32.toInt (I_14 a0 6)) → SQ kD P K O I0 J0 I_14 J0 → Wp (lp (B_Si_findFits_14 N O (a0) (a1) (J0)) (fun _ _ => none) m_14 x2_14 I_14) Q := by
      intro m_14
      induction m_14 with
      | zero => intro x2_14 I_14 hm; exact absurd hm (Nat.not_lt_zero _)
      | succ m_14 ih_14 =>
      intro x2_14 I_14 hm_14 iv0_14 iv1_14 hV_14
      have rg2_14 := rg x2_14
      show Wp (B_Si_findFits_14 N O (a0) (a1) (J0) (lp (B_Si_findFits_14 N O (a0) (a1) (J0)) (fun _ _ => none) m_14) x2_14 I_14) Q
      unfold B_Si_findFits_14
      refine Wp_jq (fun k_66 => ∀ (y2_66 : Int32) (IJ_66 : WI), SQ kD P K O I0 J0 IJ_66 J0 → Wp (k_66 y2_66 IJ_66) Q) (fun y2_66 IJ_66  hVJ_66 => ?_) (fun k_66 hk_66 => ?_)
      · skip
        refine Wp_lb (fun I2 eI2 => ?_)
        have hV2 : SQ kD P K O I0 J0 I2 J0 := by rw [eI2]; exact hVJ_66.putI h0.2 rfl (show B01 _ from by unfold B01; have hci : Int32.toInt (Int32.ofInt (1)) = 1 := ofI (by decide); omega)
        have tk2_a0_6 : (I2 a0 6).toInt = (IJ_66 a0 6).toInt := by rw [eI2, up2_ne _ _ (fun z => absurd z.2 (by decide))]
        exact Wp.ret (hQ (I2 a0 6) I2 hV2.1 hV2.2 trivial)
      refine Wp.ite (fun c_17 => ?_) (fun c_17 => ?_)
      · skip
        exact hk_66 (x2_14) I_14  hV_14
      · skip
        refine Wp.ite (fun c_26 => ?_) (fun c_26 => ?_)
        · skip
          exact hk_66 (x2_14) I_14  hV_14
        · skip
          refine Wpc1 (s_Si_agrees hN hV_14.1 h0 h1 (fun z_34 b_34 p_34 => ?_))
          have rz_34 := rg z_34
          refine Wp_jq (fun k_60 => ∀ (IJ_60 : WI), (0 ≤ Int32.toInt (IJ_60 a0 6)) → SQ kD P K O I0 J0 IJ_60 J0 → Wp (k_60 IJ_60) Q) (fun IJ_60 jv0_60 hVJ_60 => ?_) (fun k_60 hk_60 => ?_)
          · skip
            refine Wp_lb (fun v2_60 ev_60 => ?_)
            have rv_60 := rg v2_60
            first | (have e_60 : v2_60.toInt = (x2_14).toInt + 1 := by rw [ev_60]; exact t_add rfl (ofI (by decide)) (by omega)) | skip
            clear ev_60
            exact ih_14 (v2_60) IJ_60 (by omega) (by omega) (by omega) hVJ_60
          refine Wp.ite (fun c_37 => ?_) (fun c_37 => ?_)
          · skip
            exact hk_60  I_14 (by omega) hV_14
          · skip
            have t_41 := rf_ok hV.1 h0 (show sp 6 5 = some 23 from rfl)
            refine Wp.pos (by omega) ?_
            refine Wp_lb (fun I4 eI4 => ?_)
            have hV4 : SQ kD P K O I0 J0 I4 J0 := by rw [eI4]; exact hV_14.putI t_41.2 rfl trivial
            have tk4_a0_6 : (I4 a0 6).toInt = (I_14 a0 6).toInt := by rw [eI4, up2_ne _ _ (fun z => by have q := h0.2; rw [z.1, t_41.2] at q; exact absurd q (by decide))]
            first | (have e_56 := t_add (x := (I4 a0 6)) (y := (Int32.ofInt (1))) rfl (ofI (by decide)) (by omega)) | skip
            refine Wp_lb (fun I5 eI5 => ?_)
            have hV5 : SQ kD P K O I0 J0 I5 J0 := by rw [eI5]; exact hV4.putI h0.2 rfl trivial
            have tk5_a0_6 : (I5 a0 6).toInt = (((I4 a0 6) + (Int32.ofInt (1)))).toInt := by rw [eI5, up2_self]
            exact hk_60  I5 (by omega) hV5
    exact lp_14 N ((Int32.ofInt (0))) I1 (by have hci0 : Int32.toInt (Int32.ofInt (0)) = 0 := ofI (by decide); omega) (by have hci0 : Int32.toInt (Int32.ofInt (0)) = 0 := ofI (by decide); omega) (by omega) hV1
  · skip
    exact Wp.ret (hQ (I0 a0 6) I0 hV0.1 hV0.2 trivial)
set_option maxHeartbeats 4000000 in
set_option maxRecDepth 100000 in
theorem s_Tr_isFilled {P : List Nat} {K : Nat → Nat} {N : Nat} {O : WO} {I0 : WI} {J0 : WJ} (hN : 2147483648 ≤ N) (hV : IV P K I0 O) {a0 : Nat} (h0 : a0 ∈ P ∧ K a0 = 7) {x1 : Int32} {Q : Int32 → Prop} (hQ : ∀ (z : Int32), (z.toInt = 0 ∨ z.toInt = 1) → ((Int32.toInt x1 = 0 ∧ ((Int32.toInt z = 1 ∧ 8 ≤ Int32.toInt (I0 a0 3)) ∨ (Int32.toInt z = 0 ∧ Int32.toInt (I0 a0 3) < 8))) ∨ (¬ Int32.toInt x1 = 0 ∧ ((Int32.toInt z = 1 ∧ 8 ≤ Int32.toInt (I0 a0 4)) ∨ (Int32.toInt z = 0 ∧ Int32.toInt (I0 a0 4) < 8)))) → Q z) : Wp (F_Tr_isFilled N O I0 J0 a0 x1) Q := by
  unfold F_Tr_isFilled
  have r1 := rg x1
  have hV0 : SQ kP P K O I0 J0 I0 J0 := SQ.rf hV
  refine Wp_jq (fun k_15 => ∀ (s0_15 : Int32), ((Int32.toInt x1 = 0 ∧ Int32.toInt s0_15 = Int32.toInt (I0 a0 3)) ∨ (¬ Int32.toInt x1 = 0 ∧ Int32.toInt s0_15 = Int32.toInt (I0 a0 4))) → Wp (k_15 s0_15) Q) (fun s0_15 jv0_15  => ?_) (fun k_15 hk_15 => ?_)
  · skip
    have rgs_s0_15 := rg s0_15
    refine Wp.ite (fun c_17 => ?_) (fun c_17 => ?_)
    · skip
      exact Wp.ret (hQ (Int32.ofInt (0)) (by have hci : Int32.toInt (Int32.ofInt (0)) = 0 := ofI (by decide); omega) (by have hci : Int32.toInt (Int32.ofInt (0)) = 0 := ofI (by decide); first | omega | (dsimp only; omega)))
    · skip
      exact Wp.ret (hQ (Int32.ofInt (1)) (by have hci : Int32.toInt (Int32.ofInt (1)) = 1 := ofI (by decide); omega) (by have hci : Int32.toInt (Int32.ofInt (1)) = 1 := ofI (by decide); first | omega | (dsimp only; omega)))
  refine Wp.ite (fun c_1 => ?_) (fun c_1 => ?_)
  · skip
    exact hk_15 ((I0 a0 3)) (by omega) 
  · skip
    exact hk_15 ((I0 a0 4)) (by omega) 
set_option maxHeartbeats 4000000 in
set_option maxRecDepth 100000 in
theorem s_Tr_lacksRow {P : List Nat} {K : Nat → Nat} {N : Nat} {O : WO} {I0 : WI} {J0 : WJ} (hN : 2147483648 ≤ N) (hV : IV P K I0 O) {a0 : Nat} (h0 : a0 ∈ P ∧ K a0 = 7) {Q : Int32 → Prop} (hQ : ∀ (z : Int32), (z.toInt = 0 ∨ z.toInt = 1) → True → Q z) : Wp (F_Tr_lacksRow N O I0 J0 a0) Q := by
  unfold F_Tr_lacksRow
  have hV0 : SQ kP P K O I0 J0 I0 J0 := SQ.rf hV
  refine Wp_jq (fun k_14 => Wp (k_14 ) Q) (?_) (fun k_14 hk_14 => ?_)
  · skip
    exact Wp.ret (hQ (Int32.ofInt (1)) (by have hci : Int32.toInt (Int32.ofInt (1)) = 1 := ofI (by decide); omega) trivial)
  refine Wp.ite (fun c_4 => ?_) (fun c_4 => ?_)
  · skip
    exact hk_14   
  · skip
    refine Wp.ite (fun c_11 => ?_) (fun c_11 => ?_)
    · skip
      exact hk_14   
    · skip
      exact Wp.ret (hQ (Int32.ofInt (0)) (by have hci : Int32.toInt (Int32.ofInt (0)) = 0 := ofI (by decide); omega) trivial)
set_option maxHeartbeats 4000000 in
set_option maxRecDepth 100000 in
theorem s_Tr_add {P : List Nat} {K : Nat → Nat} {N : Nat} {O : WO} {I0 : WI} {J0 : WJ} (hN : 2147483648 ≤ N) (hV : IV P K I0 O) {a0 : Nat} (h0 : a0 ∈ P ∧ K a0 = 7) {x1 : Int32} {x2 : Int32} {Q : (Int32 × WI) → Prop} (hQ : ∀ (z : Int32) (I_ : WI), IV P K I_ O → FQ kT K I0 J0 I_ J0 → ((Int32.toInt x1 = 0 ∧ 8 ≤ Int32.toInt (I0 a0 3)) ∨ (¬ Int32.toInt x1 = 0 ∧ 8 ≤ Int32.toInt (I0 a0 4)) ∨ (Int32.toInt x1 = 0 ∧ Int32.toInt z = Int32.toInt (I0 a0 3) + 1 ∧ Int32.toInt (I_ a0 3) = Int32.toInt (I0 a0 3) + 1 ∧ Int32.toInt (I_ a0 4) = Int32.toInt (I0 a0 4)) ∨ (¬ Int32.toInt x1 = 0 ∧ Int32.toInt z = Int32.toInt (I0 a0 4) + 1 ∧ Int32.toInt (I_ a0 3) = Int32.toInt (I0 a0 3) ∧ Int32.toInt (I_ a0 4) = Int32.toInt (I0 a0 4) + 1)) → Q (z, I_)) : Wp (F_Tr_add N O I0 J0 a0 x1 x2) Q := by
  unfold F_Tr_add
  have r1 := rg x1
  have r2 := rg x2
  have hV0 : SQ kT P K O I0 J0 I0 J0 := SQ.rf hV
  refine Wpc1 (s_Tr_isFilled hN hV0.1 h0 (fun z_2 b_2 p_2 => ?_))
  try dsimp only at p_2
  have rz_2 := rg z_2
  refine Wp.ite (fun c_5 => ?_) (fun c_5 => ?_)
  · skip
    refine Wp.ite (fun c_12 => ?_) (fun c_12 => ?_)
    · skip
      have t_41 := rf_ok hV.1 h0 (show sp 7 0 = some 26 from rfl)
      have o_45 := hV0.1.2 a0 h0.1 3
      rw [h0.2] at o_45
      replace o_45 : 0 ≤ (I0 a0 3).toInt ∧ (I0 a0 3).toInt ≤ 8 := o_45
      refine Wp.pos (by omega) ?_
      refine Wp_lb (fun I2 eI2 => ?_)
      have hV2 : SQ kT P K O I0 J0 I2 J0 := by rw [eI2]; exact hV0.putI t_41.2 rfl trivial
      have tk2_a0_3 : (I2 a0 3).toInt = (I0 a0 3).toInt := by rw [eI2, up2_ne _ _ (fun z => by have q := h0.2; rw [z.1, t_41.2] at q; exact absurd q (by decide))]
      have tk2_a0_4 : (I2 a0 4).toInt = (I0 a0 4).toInt := by rw [eI2, up2_ne _ _ (fun z => by have q := h0.2; rw [z.1, t_41.2] at q; exact absurd q (by decide))]
      have o_52 := hV2.1.2 a0 h0.1 3
      rw [h0.2] at o_52
      replace o_52 : 0 ≤ (I2 a0 3).toInt ∧ (I2 a0 3).toInt ≤ 8 := o_52
      first | (have e_56 := t_add (x := (I2 a0 3)) (y := (Int32.ofInt (1))) rfl (ofI (by decide)) (by omega)) | skip
      refine Wp_lb (fun I3 eI3 => ?_)
      have hV3 : SQ kT P K O I0 J0 I3 J0 := by rw [eI3]; exact hV2.putI h0.2 rfl (show 0 ≤ Int32.toInt _ ∧ Int32.toInt _ ≤ 8 from by omega)
      have tk3_a0_3 : (I3 a0 3).toInt = (((I2 a0 3) + (Int32.ofInt (1)))).toInt := by rw [eI3, up2_self]
      have tk3_a0_4 : (I3 a0 4).toInt = (I2 a0 4).toInt := by rw [eI3, up2_ne _ _ (fun z => absurd z.2 (by decide))]
      have o_61 := hV3.1.2 a0 h0.1 3
      rw [h0.2] at o_61
      replace o_61 : 0 ≤ (I3 a0 3).toInt ∧ (I3 a0 3).toInt ≤ 8 := o_61
      exact Wp.ret (hQ (I3 a0 3) I3 hV3.1 hV3.2 (by first | omega | (dsimp only; omega)))
    · skip
      have t_16 := rf_ok hV.1 h0 (show sp 7 1 = some 26 from rfl)
      have o_20 := hV0.1.2 a0 h0.1 4
      rw [h0.2] at o_20
      replace o_20 : 0 ≤ (I0 a0 4).toInt ∧ (I0 a0 4).toInt ≤ 8 := o_20
      refine Wp.pos (by omega) ?_
      refine Wp_lb (fun I4 eI4 => ?_)
      have hV4 : SQ kT P K O I0 J0 I4 J0 := by rw [eI4]; exact hV0.putI t_16.2 rfl trivial
      have tk4_a0_3 : (I4 a0 3).toInt = (I0 a0 3).toInt := by rw [eI4, up2_ne _ _ (fun z => by have q := h0.2; rw [z.1, t_16.2] at q; exact absurd q (by decide))]
      have tk4_a0_4 : (I4 a0 4).toInt = (I0 a0 4).toInt := by rw [eI4, up2_ne _ _ (fun z => by have q := h0.2; rw [z.1, t_16.2] at q; exact absurd q (by decide))]
      have o_27 := hV4.1.2 a0 h0.1 4
      rw [h0.2] at o_27
      replace o_27 : 0 ≤ (I4 a0 4).toInt ∧ (I4 a0 4).toInt ≤ 8 := o_27
      first | (have e_31 := t_add (x := (I4 a0 4)) (y := (Int32.ofInt (1))) rfl (ofI (by decide)) (by omega)) | skip
      refine Wp_lb (fun I5 eI5 => ?_)
      have hV5 : SQ kT P K O I0 J0 I5 J0 := by rw [eI5]; exact hV4.putI h0.2 rfl (show 0 ≤ Int32.toInt _ ∧ Int32.toInt _ ≤ 8 from by omega)
      have tk5_a0_3 : (I5 a0 3).toInt = (I4 a0 3).toInt := by rw [eI5, up2_ne _ _ (fun z => absurd z.2 (by decide))]
      have tk5_a0_4 : (I5 a0 4).toInt = (((I4 a0 4) + (Int32.ofInt (1)))).toInt := by rw [eI5, up2_self]
      have o_36 := hV5.1.2 a0 h0.1 4
      rw [h0.2] at o_36
      replace o_36 : 0 ≤ (I5 a0 4).toInt ∧ (I5 a0 4).toInt ≤ 8 := o_36
      exact Wp.ret (hQ (I5 a0 4) I5 hV5.1 hV5.2 (by first | omega | (dsimp only; omega)))
  · skip
    exact Wp.ret (hQ (Int32.ofInt (8)) I0 hV0.1 hV0.2 (by have hci : Int32.toInt (Int32.ofInt (8)) = 8 := ofI (by decide); first | omega | (dsimp only; omega)))
set_option maxHeartbeats 4000000 in
set_option maxRecDepth 100000 in
theorem s_Tr_drop {P : List Nat} {K : Nat → Nat} {N : Nat} {O : WO} {I0 : WI} {J0 : WJ} (hN : 2147483648 ≤ N) (hV : IV P K I0 O) {a0 : Nat} (h0 : a0 ∈ P ∧ K a0 = 7) {Q : (Int32 × WI) → Prop} (hQ : ∀ (z : Int32) (I_ : WI), IV P K I_ O → FQ kT K I0 J0 I_ J0 → (Int32.toInt z = Int32.toInt (I0 a0 3) + Int32.toInt (I0 a0 4) ∧ Int32.toInt (I_ a0 3) = 0 ∧ Int32.toInt (I_ a0 4) = 0) → Q (z, I_)) : Wp (F_Tr_drop N O I0 J0 a0) Q := by
  unfold F_Tr_drop
  have hV0 : SQ kT P K O I0 J0 I0 J0 := SQ.rf hV
  have o_1 := hV0.1.2 a0 h0.1 3
  rw [h0.2] at o_1
  replace o_1 : 0 ≤ (I0 a0 3).toInt ∧ (I0 a0 3).toInt ≤ 8 := o_1
  have o_5 := hV0.1.2 a0 h0.1 4
  rw [h0.2] at o_5
  replace o_5 : 0 ≤ (I0 a0 4).toInt ∧ (I0 a0 4).toInt ≤ 8 := o_5
  first | (have e_8 := t_add (x := (I0 a0 3)) (y := (I0 a0 4)) rfl rfl (by omega)) | skip
  refine Wp_lb (fun v1_9 ev_9 => ?_)
  have ei_9 := congrArg Int32.toInt ev_9
  have rv_9 := rg v1_9
  refine Wp_lb (fun I1 eI1 => ?_)
  have hV1 : SQ kT P K O I0 J0 I1 J0 := by rw [eI1]; exact hV0.putI h0.2 rfl (show 0 ≤ Int32.toInt _ ∧ Int32.toInt _ ≤ 8 from by rw [ofI (by decide)]; omega)
  have tk1_a0_3 : (I1 a0 3).toInt = 0 := by rw [eI1, up2_self]; exact ofI (by decide)
  have tk1_a0_4 : (I1 a0 4).toInt = (I0 a0 4).toInt := by rw [eI1, up2_ne _ _ (fun z => absurd z.2 (by decide))]
  refine Wp_lb (fun I2 eI2 => ?_)
  have hV2 : SQ kT P K O I0 J0 I2 J0 := by rw [eI2]; exact hV1.putI h0.2 rfl (show 0 ≤ Int32.toInt _ ∧ Int32.toInt _ ≤ 8 from by rw [ofI (by decide)]; omega)
  have tk2_a0_3 : (I2 a0 3).toInt = (I1 a0 3).toInt := by rw [eI2, up2_ne _ _ (fun z => absurd z.2 (by decide))]
  have tk2_a0_4 : (I2 a0 4).toInt = 0 := by rw [eI2, up2_self]; exact ofI (by decide)
  exact Wp.ret (hQ v1_9 I2 hV2.1 hV2.2 (by first | omega | (dsimp only; omega)))
theorem sr_Tr_countFrom {N : Nat} {O : WO} {I0 : WI} {J0 : WJ} (m : Nat) : ∀ {a0 : Nat} {x1 x2 x3 x4 : Int32}, 0 ≤ x1.toInt → x1.toInt ≤ 16 → 17 - x1.toInt < (m : Int) → Wp (lp (B_Tr_countFrom_self N O I0 J0) (fun _ _ _ _ _ => none) m a0 x1 x2 x3 x4) (fun _ => True) := by
  induction m with
  | zero => intro a0 x1 x2 x3 x4 h1 h2 h3; omega
  | succ m ih =>
    intro a0 x1 x2 x3 x4 h1 h2 h3
    show Wp (B_Tr_countFrom_self N O I0 J0 (lp (B_Tr_countFrom_self N O I0 J0) (fun _ _ _ _ _ => none) m) a0 x1 x2 x3 x4) _
    unfold B_Tr_countFrom_self
    refine Wp.ite (fun c1 => ?_) (fun c1 => Wp.ite (fun _ => Wp.ret trivial) (fun _ => Wp.ret trivial))
    refine Wp.ite (fun _ => Wp.ret trivial) (fun c2 => Wp.ite (fun _ => Wp.ret trivial) (fun c3 => Wp.ite (fun _ => Wp.ret trivial) (fun c4 => Wp.ite (fun c5 => ?_) (fun _ => Wp.ret trivial))))
    have e := t_add (x := x1) (y := Int32.ofInt 1) rfl k_1 (by omega)
    exact Wp.pos (by omega) (Wp.bd1 ((ih (by omega) (by omega) (by omega)).mono (fun z _ => Wp.bd1 ((ih (by omega) (by omega) (by omega)).mono (fun z2 _ => Wp.ret trivial)))))
theorem s_Tr_countFrom {P : List Nat} {K : Nat → Nat} {N : Nat} {O : WO} {I0 : WI} {J0 : WJ} (hN : 2147483648 ≤ N) (hV : IV P K I0 O) {a0 : Nat} (h0 : a0 ∈ P ∧ K a0 = 27) {x1 x2 x3 x4 : Int32} (pr0 : 0 ≤ x1.toInt ∧ x1.toInt ≤ 16) {Q : Int32 → Prop} (hQ : ∀ (z : Int32), True → Q z) : Wp (F_Tr_countFrom N O I0 J0 a0 x1 x2 x3 x4) Q := by
  unfold F_Tr_countFrom
  exact (sr_Tr_countFrom 18 pr0.1 pr0.2 (by omega)).mono (fun z _ => hQ z trivial)
set_option maxHeartbeats 4000000 in
set_option maxRecDepth 100000 in
theorem s_Tr_countNoLess {P : List Nat} {K : Nat → Nat} {N : Nat} {O : WO} {I0 : WI} {J0 : WJ} (hN : 2147483648 ≤ N) (hV : IV P K I0 O) {a0 : Nat} (h0 : a0 ∈ P ∧ K a0 = 7) {Q : (Int32 × WI) → Prop} (hQ : ∀ (z : Int32) (I_ : WI), IV P K I_ O → FQ kD K I0 J0 I_ J0 → True → Q (z, I_)) : Wp (F_Tr_countNoLess N O I0 J0 a0) Q := by
  unfold F_Tr_countNoLess
  have hV0 : SQ kD P K O I0 J0 I0 J0 := SQ.rf hV
  have lp_4 : ∀ (m_4 : Nat) (x1_4 : Int32) (x2_4 : Int32) (I_4 : WI), Int.toNat (8 - (x2_4).toInt) < m_4 → (0 ≤ Int32.toInt x2_4 ∧ Int32.toInt x2_4 ≤ 8) → SQ kD P K O I0 J0 I_4 J0 → Wp (lp (B_Tr_countNoLess_4 N O (a0) (J0)) (fun _ _ _ => none) m_4 x1_4 x2_4 I_4) Q := by
    intro m_4
    induction m_4 with
    | zero => intro x1_4 x2_4 I_4 hm; exact absurd hm (Nat.not_lt_zero _)
    | succ m_4 ih_4 =>
    intro x1_4 x2_4 I_4 hm_4 iv0_4 hV_4
    have rg1_4 := rg x1_4
    have rg2_4 := rg x2_4
    show Wp (B_Tr_countNoLess_4 N O (a0) (J0) (lp (B_Tr_countNoLess_4 N O (a0) (J0)) (fun _ _ _ => none) m_4) x1_4 x2_4 I_4) Q
    unfold B_Tr_countNoLess_4
    have o_6 := hV_4.1.2 a0 h0.1 4
    rw [h0.2] at o_6
    replace o_6 : 0 ≤ (I_4 a0 4).toInt ∧ (I_4 a0 4).toInt ≤ 8 := o_6
    refine Wp_jq (fun k_45 => ∀ (y1_45 : Int32) (y2_45 : Int32) (IJ_45 : WI), SQ kD P K O I0 J0 IJ_45 J0 → Wp (k_45 y1_45 y2_45 IJ_45) Q) (fun y1_45 y2_45 IJ_45  hVJ_45 => ?_) (fun k_45 hk_45 => ?_)
    · skip
      have lp_47 : ∀ (m_47 : Nat) (x2_47 : Int32) (I_47 : WI), Int.toNat (8 - (x2_47).toInt) < m_47 → (0 ≤ Int32.toInt x2_47 ∧ Int32.toInt x2_47 ≤ 8) → SQ kD P K O I0 J0 I_47 J0 → Wp (lp (B_Tr_countNoLess_47 N O (a0) (J0) (y1_45)) (fun _ _ => none) m_47 x2_47 I_47) Q := by
        intro m_47
        induction m_47 with
        | zero => intro x2_47 I_47 hm; exact absurd hm (Nat.not_lt_zero _)
        | succ m_47 ih_47 =>
        intro x2_47 I_47 hm_47 iv0_47 hV_47
        have rg2_47 := rg x2_47
        show Wp (B_Tr_countNoLess_47 N O (a0) (J0) (y1_45) (lp (B_Tr_countNoLess_47 N O (a0) (J0) (y1_45)) (fun _ _ => none) m_47) x2_47 I_47) Q
        unfold B_Tr_countNoLess_47
        have o_49 := hV_47.1.2 a0 h0.1 3
        rw [h0.2] at o_49
        replace o_49 : 0 ≤ (I_47 a0 3).toInt ∧ (I_47 a0 3).toInt ≤ 8 := o_49
        refine Wp_jq (fun k_98 => ∀ (y2_98 : Int32) (IJ_98 : WI), SQ kD P K O I0 J0 IJ_98 J0 → Wp (k_98 y2_98 IJ_98) Q) (fun y2_98 IJ_98  hVJ_98 => ?_) (fun k_98 hk_98 => ?_)
        · skip
          have t_99 := rf_ok hV.1 h0 (show sp 7 2 = some 27 from rfl)
          have o_104 := hVJ_98.1.2 a0 h0.1 3
          rw [h0.2] at o_104
          replace o_104 : 0 ≤ (IJ_98 a0 3).toInt ∧ (IJ_98 a0 3).toInt ≤ 8 := o_104
          have o_108 := hVJ_98.1.2 a0 h0.1 4
          rw [h0.2] at o_108
          replace o_108 : 0 ≤ (IJ_98 a0 4).toInt ∧ (IJ_98 a0 4).toInt ≤ 8 := o_108
          first | (have e_111 := t_add (x := (IJ_98 a0 3)) (y := (IJ_98 a0 4)) rfl rfl (by omega)) | skip
          have o_113 := hVJ_98.1.2 a0 h0.1 4
          rw [h0.2] at o_113
          replace o_113 : 0 ≤ (IJ_98 a0 4).toInt ∧ (IJ_98 a0 4).toInt ≤ 8 := o_113
          refine Wpc1 (s_Tr_countFrom hN hVJ_98.1 t_99 (by have hk1 : Int32.toInt (Int32.ofInt (0)) = 0 := ofI (by decide); omega) (fun z_117 p_117 => ?_))
          have rz_117 := rg z_117
          exact Wp.ret (hQ z_117 IJ_98 hVJ_98.1 hVJ_98.2 trivial)
        refine Wp.ite (fun c_52 => ?_) (fun c_52 => ?_)
        · skip
          exact hk_98 (x2_47) I_47  hV_47
        · skip
          refine Wp.ite (fun c_58 => ?_) (fun c_58 => ?_)
          · skip
            exact hk_98 (x2_47) I_47  hV_47
          · skip
            have o_62 := hV_47.1.2 a0 h0.1 4
            rw [h0.2] at o_62
            replace o_62 : 0 ≤ (I_47 a0 4).toInt ∧ (I_47 a0 4).toInt ≤ 8 := o_62
            first | (have e_66 := t_add (x := (I_47 a0 4)) (y := x2_47) rfl rfl (by omega)) | skip
            have t_68 := rf_ok hV.1 h0 (show sp 7 2 = some 27 from rfl)
            refine Wp.ite (fun c_72 => ?_) (fun c_72 => ?_)
            · skip
              exact hk_98 (x2_47) I_47  hV_47
            · skip
              have t_76 := rf_ok hV.1 h0 (show sp 7 2 = some 27 from rfl)
              have o_80 := hV_47.1.2 a0 h0.1 4
              rw [h0.2] at o_80
              replace o_80 : 0 ≤ (I_47 a0 4).toInt ∧ (I_47 a0 4).toInt ≤ 8 := o_80
              first | (have e_84 := t_add (x := (I_47 a0 4)) (y := x2_47) rfl rfl (by omega)) | skip
              have t_86 := rf_ok hV.1 h0 (show sp 7 0 = some 26 from rfl)
              refine Wp.pos (by omega) ?_
              refine Wp.pos (by omega) ?_
              refine Wp_lb (fun I2 eI2 => ?_)
              have hV2 : SQ kD P K O I0 J0 I2 J0 := by rw [eI2]; exact hV_47.putI t_76.2 rfl trivial
              refine Wp_lb (fun v2_92 ev_92 => ?_)
              have rv_92 := rg v2_92
              first | (have e_92 : v2_92.toInt = (x2_47).toInt + 1 := by rw [ev_92]; exact t_add rfl (ofI (by decide)) (by omega)) | skip
              clear ev_92
              exact ih_47 (v2_92) I2 (by omega) (by omega) hV2
      exact lp_47 N ((Int32.ofInt (0))) IJ_45 (by have hci0 : Int32.toInt (Int32.ofInt (0)) = 0 := ofI (by decide); omega) (by have hci0 : Int32.toInt (Int32.ofInt (0)) = 0 := ofI (by decide); omega) hVJ_45
    refine Wp.ite (fun c_9 => ?_) (fun c_9 => ?_)
    · skip
      exact hk_45 (x1_4) (x2_4) I_4  hV_4
    · skip
      refine Wp.ite (fun c_15 => ?_) (fun c_15 => ?_)
      · skip
        exact hk_45 (x1_4) (x2_4) I_4  hV_4
      · skip
        have t_19 := rf_ok hV.1 h0 (show sp 7 2 = some 27 from rfl)
        have t_24 := rf_ok hV.1 h0 (show sp 7 1 = some 26 from rfl)
        refine Wp.pos (by omega) ?_
        refine Wp.pos (by omega) ?_
        refine Wp_lb (fun I3 eI3 => ?_)
        have hV3 : SQ kD P K O I0 J0 I3 J0 := by rw [eI3]; exact hV_4.putI t_19.2 rfl trivial
        have t_32 := rf_ok hV.1 h0 (show sp 7 1 = some 26 from rfl)
        refine Wp.pos (by omega) ?_
        first | (have e_37 := t_add (x := x1_4) (y := (I3 (rf O a0 1) (x2_4).toInt.toNat)) rfl rfl (by omega)) | skip
        refine Wp_lb (fun v1_38 ev_38 => ?_)
        have ei_38 := congrArg Int32.toInt ev_38
        have rv_38 := rg v1_38
        refine Wp_lb (fun v2_39 ev_39 => ?_)
        have rv_39 := rg v2_39
        first | (have e_39 : v2_39.toInt = (x2_4).toInt + 1 := by rw [ev_39]; exact t_add rfl (ofI (by decide)) (by omega)) | skip
        clear ev_39
        exact ih_4 (v1_38) (v2_39) I3 (by omega) (by omega) hV3
  exact lp_4 N ((Int32.ofInt (0))) ((Int32.ofInt (0))) I0 (by have hci0 : Int32.toInt (Int32.ofInt (0)) = 0 := ofI (by decide); omega) (by have hci0 : Int32.toInt (Int32.ofInt (0)) = 0 := ofI (by decide); omega) hV0
set_option maxHeartbeats 4000000 in
set_option maxRecDepth 100000 in
theorem s_Tr_countAll {P : List Nat} {K : Nat → Nat} {N : Nat} {O : WO} {I0 : WI} {J0 : WJ} (hN : 2147483648 ≤ N) (hV : IV P K I0 O) {a0 : Nat} (h0 : a0 ∈ P ∧ K a0 = 7) {Q : Int32 → Prop} (hQ : ∀ (z : Int32), True → Q z) : Wp (F_Tr_countAll N O I0 J0 a0) Q := by
  unfold F_Tr_countAll
  have hV0 : SQ kP P K O I0 J0 I0 J0 := SQ.rf hV
  have lp_4 : ∀ (m_4 : Nat) (x1_4 : Int64) (x3_4 : Int32), Int.toNat (9 - (x3_4).toInt) < m_4 → (1 ≤ Int32.toInt x3_4 ∧ Int32.toInt x3_4 ≤ 9) → Wp (lp (B_Tr_countAll_4 N O (a0) (I0)) (fun _ _ => none) m_4 x1_4 x3_4) Q := by
    intro m_4
    induction m_4 with
    | zero => intro x1_4 x3_4 hm; exact absurd hm (Nat.not_lt_zero _)
    | succ m_4 ih_4 =>
    intro x1_4 x3_4 hm_4 iv0_4 
    have rg3_4 := rg x3_4
    show Wp (B_Tr_countAll_4 N O (a0) (I0) (lp (B_Tr_countAll_4 N O (a0) (I0)) (fun _ _ => none) m_4) x1_4 x3_4) Q
    unfold B_Tr_countAll_4
    have o_6 := hV0.1.2 a0 h0.1 4
    rw [h0.2] at o_6
    replace o_6 : 0 ≤ (I0 a0 4).toInt ∧ (I0 a0 4).toInt ≤ 8 := o_6
    refine Wp.ite (fun c_9 => ?_) (fun c_9 => ?_)
    · skip
      exact Wp.ret (hQ (x1_4).toInt32 trivial)
    · skip
      have o_14 := hV0.1.2 a0 h0.1 3
      rw [h0.2] at o_14
      replace o_14 : 0 ≤ (I0 a0 3).toInt ∧ (I0 a0 3).toInt ≤ 8 := o_14
      first | (have e_18 := t_add (x := (I0 a0 3)) (y := x3_4) rfl rfl (by omega)) | skip
      have e_19 : ((((I0 a0 3) + x3_4)).toInt64).toInt = (((I0 a0 3) + x3_4)).toInt := by rw [Int32.toInt_toInt64]
      have e_22 : ((x3_4).toInt64).toInt = (x3_4).toInt := by rw [Int32.toInt_toInt64]
      refine Wp.pos (by omega) ?_
      refine Wp_lb (fun v1_24 ev_24 => ?_)
      refine Wp_lb (fun v3_25 ev_25 => ?_)
      have rv_25 := rg v3_25
      first | (have e_25 : v3_25.toInt = (x3_4).toInt + 1 := by rw [ev_25]; exact t_add rfl (ofI (by decide)) (by omega)) | skip
      clear ev_25
      exact ih_4 (v1_24) (v3_25) (by omega) (by omega) 
  exact lp_4 N ((1 : Int64)) ((Int32.ofInt (1))) (by have hci0 : Int32.toInt (Int32.ofInt (1)) = 1 := ofI (by decide); omega) (by have hci0 : Int32.toInt (Int32.ofInt (1)) = 1 := ofI (by decide); omega) 
set_option maxHeartbeats 4000000 in
set_option maxRecDepth 100000 in
theorem s_Pl_drop {P : List Nat} {K : Nat → Nat} {N : Nat} {O : WO} {I0 : WI} {J0 : WJ} (hN : 2147483648 ≤ N) (hV : IV P K I0 O) {a0 : Nat} (h0 : a0 ∈ P ∧ K a0 = 4) {Q : WI → Prop} (hQ : ∀ (I_ : WI), IV P K I_ O → FQ kD K I0 J0 I_ J0 → True → Q I_) : Wp (F_Pl_drop N O I0 J0 a0) Q := by
  unfold F_Pl_drop
  have hV0 : SQ kD P K O I0 J0 I0 J0 := SQ.rf hV
  refine Wp_lb (fun I1 eI1 => ?_)
  have hV1 : SQ kD P K O I0 J0 I1 J0 := by rw [eI1]; exact hV0.putI h0.2 rfl trivial
  exact Wp.ret (hQ I1 hV1.1 hV1.2 trivial)
set_option maxHeartbeats 4000000 in
set_option maxRecDepth 100000 in
theorem s_Pl_keptRate {P : List Nat} {K : Nat → Nat} {N : Nat} {O : WO} {I0 : WI} {J0 : WJ} (hN : 2147483648 ≤ N) (hV : IV P K I0 O) {a0 : Nat} (h0 : a0 ∈ P ∧ K a0 = 4) {x1 : Int32} {Q : Int32 → Prop} (hQ : ∀ (z : Int32), True → Q z) : Wp (F_Pl_keptRate N O I0 J0 a0 x1) Q := by
  unfold F_Pl_keptRate
  have r1 := rg x1
  have hV0 : SQ kP P K O I0 J0 I0 J0 := SQ.rf hV
  refine Wp.ite (fun c_1 => ?_) (fun c_1 => ?_)
  · skip
    exact Wp.ret (hQ (Int32.ofInt (-1)) trivial)
  · skip
    refine Wp.ite (fun c_9 => ?_) (fun c_9 => ?_)
    · skip
      exact Wp.ret (hQ (Int32.ofInt (-1)) trivial)
    · skip
      refine Wp.ite (fun c_14 => ?_) (fun c_14 => ?_)
      · skip
        exact Wp.ret (hQ (Int32.ofInt (-1)) trivial)
      · skip
        have t_18 := rf_ok hV.1 h0 (show sp 4 6 = some 11 from rfl)
        refine Wp.pos (by omega) ?_
        exact Wp.ret (hQ (I0 (rf O a0 6) (x1).toInt.toNat) trivial)
set_option maxHeartbeats 4000000 in
set_option maxRecDepth 100000 in
theorem s_Pl_keepBest {P : List Nat} {K : Nat → Nat} {N : Nat} {O : WO} {I0 : WI} {J0 : WJ} (hN : 2147483648 ≤ N) (hV : IV P K I0 O) {a0 : Nat} (h0 : a0 ∈ P ∧ K a0 = 4) {x1 : Int32} {Q : WI → Prop} (hQ : ∀ (I_ : WI), IV P K I_ O → FQ kD K I0 J0 I_ J0 → True → Q I_) : Wp (F_Pl_keepBest N O I0 J0 a0 x1) Q := by
  unfold F_Pl_keepBest
  have r1 := rg x1
  have hV0 : SQ kD P K O I0 J0 I0 J0 := SQ.rf hV
  have t_1 := rf_ok hV.1 h0 (show sp 4 2 = some 11 from rfl)
  have t_5 := rf_ok hV.1 h0 (show sp 4 3 = some 11 from rfl)
  refine Wpc1 (s_RM_copyRow hN hV0.1 t_1 ⟨by decide, rfl, fun _ => rfl, fun _ _ => trivial, by decide⟩ t_5 ⟨by decide, rfl, fun _ => rfl, fun _ _ => trivial, by decide⟩ (fun I1 hI1 hF1 p_8 => ?_))
  have hV1 : SQ kD P K O I0 J0 I1 J0 := hV0.call (fun _ _ h => h) hI1 hF1
  refine Wp_lb (fun I2 eI2 => ?_)
  have hV2 : SQ kD P K O I0 J0 I2 J0 := by rw [eI2]; exact hV1.putI h0.2 rfl trivial
  refine Wp_lb (fun I3 eI3 => ?_)
  have hV3 : SQ kD P K O I0 J0 I3 J0 := by rw [eI3]; exact hV2.putI h0.2 rfl (show B01 _ from by unfold B01; have hci : Int32.toInt (Int32.ofInt (1)) = 1 := ofI (by decide); omega)
  exact Wp.ret (hQ I3 hV3.1 hV3.2 trivial)
theorem sr_Pl_search {P : List Nat} {K : Nat → Nat} {N : Nat} {O : WO} {J0 : WJ} (hN : 2147483648 ≤ N) (m : Nat) : ∀ {I0 : WI} {a0 a1 : Nat} {x2 x3 : Int32}, IV P K I0 O → (a0 ∈ P ∧ K a0 = 4) → (a1 ∈ P ∧ K a1 = 3) → 0 ≤ x2.toInt → x2.toInt ≤ 5 → 6 - x2.toInt < (m : Int) → Wp (lp (B_Pl_search_self N O J0) (fun _ _ _ _ _ => none) m a0 a1 x2 x3 I0) (fun I' => IV P K I' O ∧ FQ kD K I0 J0 I' J0) := by
  induction m with
  | zero => intro I0 a0 a1 x2 x3 _ _ _ h1 h2 h3; omega
  | succ m ih =>
    intro I0 a0 a1 x2 x3 hV h0 h1 g1 g2 g3
    show Wp (B_Pl_search_self N O J0 (lp (B_Pl_search_self N O J0) (fun _ _ _ _ _ => none) m) a0 a1 x2 x3 I0) _
    unfold B_Pl_search_self
    have tD := rf_ok hV.1 h0 (show sp 4 0 = some 24 from rfl)
    have tR := rf_ok hV.1 h0 (show sp 4 1 = some 18 from rfl)
    have tA := rf_ok hV.1 h0 (show sp 4 2 = some 11 from rfl)
    have tH := rfA_ok (i := x2) hV.1 tD (by omega)
    refine Wp.neg (by omega) (Wp.pos (by omega) (Wp.pos (by omega) ?_))
    refine Wp_jq (fun kk => Wp kk (fun I' => IV P K I' O ∧ FQ kD K I0 J0 I' J0)) (Wpc1 (s_Pl_keepBest hN hV h0 (fun I1 hI hF _ => Wp.ret ⟨hI, hF⟩))) (fun kk hk => ?_)
    refine Wp.ite (fun c => hk) (fun c => Wp.ite (fun c2 => ?_) (fun c2 => hk))
    have e := t_add (x := x2) (y := Int32.ofInt 1) rfl k_1 (by omega)
    have tN := rfA_ok (i := x2 + Int32.ofInt 1) hV.1 tD (by omega)
    refine Wp.pos (by omega) ?_
    have main : ∀ (mf : Nat) (x : Int32) (I : WI), Int.toNat (4 - x.toInt) < mf → 0 ≤ x.toInt ∧ x.toInt ≤ 4 → SQ kD P K O I0 J0 I J0 → Wp (lp (B_Pl_search_57 N O a0 a1 x2 x3 J0 (lp (B_Pl_search_self N O J0) (fun _ _ _ _ _ => none) m)) (fun _ _ => none) mf x I) (fun I' => IV P K I' O ∧ FQ kD K I0 J0 I' J0) := by
      intro mf
      induction mf with
      | zero => intro x I hm; exact absurd hm (Nat.not_lt_zero _)
      | succ mf ihf =>
        intro x I hm hx hS
        show Wp (B_Pl_search_57 N O a0 a1 x2 x3 J0 (lp (B_Pl_search_self N O J0) (fun _ _ _ _ _ => none) m) (lp (B_Pl_search_57 N O a0 a1 x2 x3 J0 (lp (B_Pl_search_self N O J0) (fun _ _ _ _ _ => none) m)) (fun _ _ => none) mf) x I) _
        unfold B_Pl_search_57
        refine Wp.ite (fun c3 => Wp.ret ⟨hS.1, hS.2⟩) (fun c3 => Wp.lb ?_)
        have hS1 : SQ kD P K O I0 J0 (up2 I (rf O a0 1) 0 x) J0 := hS.putI tR.2 rfl trivial
        refine Wpc1 (s_Dr_copyFrom hN hS1.1 tN tH (fun I2 hI2 hF2 _ => ?_))
        have hS2 := hS1.call (fun _ _ h => h) hI2 hF2
        refine Wpc1 (s_Dr_runHour hN hS2.1 tN h1 tR ⟨by decide, rfl, fun _ => rfl, fun _ _ => trivial, by decide⟩ (by rw [k_0]; decide) (fun I3 hI3 hF3 _ => ?_))
        have hS3 := hS2.call (fun _ _ h => h) hI3 hF3
        refine Wpc1 (s_Dr_wentWell hN hS3.1 tN (fun z hz _ => ?_))
        refine Wp_jq (fun kk => ∀ I4, SQ kD P K O I0 J0 I4 J0 → Wp (kk I4) (fun I' => IV P K I' O ∧ FQ kD K I0 J0 I' J0)) (fun I4 h4 => Wp.lb ?_) (fun kk hk4 => ?_)
        · have ex := t_add (x := x) (y := Int32.ofInt 1) rfl k_1 (by omega)
          exact ihf _ I4 (by omega) (by omega) h4
        · refine Wp.ite (fun c4 => hk4 _ hS3) (fun c4 => ?_)
          refine Wp_jq (fun kk => Wp kk (fun I' => IV P K I' O ∧ FQ kD K I0 J0 I' J0)) (Wp.pos (by omega) (Wp.lb ?_)) (fun k121 hk121 => Wp.ite (fun c5 => hk121) (fun c5 => Wp.ite (fun c6 => hk4 _ hS3) (fun c6 => hk121)))
          have hS4 : SQ kD P K O I0 J0 (up2 I3 (rf O a0 2) x2.toInt.toNat x) J0 := hS3.putI tA.2 rfl trivial
          exact Wp.bd1 ((ih hS4.1 h0 h1 (by omega) (by omega) (by omega)).mono (fun I5 h5 => hk4 _ (hS4.call (fun _ _ h => h) h5.1 h5.2)))
    exact main N _ I0 (by rw [k_0]; omega) (by rw [k_0]; decide) (SQ.rf hV)
theorem s_Pl_search {P : List Nat} {K : Nat → Nat} {N : Nat} {O : WO} {I0 : WI} {J0 : WJ} (hN : 2147483648 ≤ N) (hV : IV P K I0 O) {a0 : Nat} (h0 : a0 ∈ P ∧ K a0 = 4) {a1 : Nat} (h1 : a1 ∈ P ∧ K a1 = 3) {x2 x3 : Int32} (pr0 : 0 ≤ x2.toInt ∧ x2.toInt ≤ 5) {Q : WI → Prop} (hQ : ∀ (I_ : WI), IV P K I_ O → FQ kD K I0 J0 I_ J0 → True → Q I_) : Wp (F_Pl_search N O I0 J0 a0 a1 x2 x3) Q := by
  unfold F_Pl_search
  exact (sr_Pl_search hN 7 hV h0 h1 pr0.1 pr0.2 (by omega)).mono (fun I1 h => hQ I1 h.1 h.2 trivial)
set_option maxHeartbeats 4000000 in
set_option maxRecDepth 100000 in
theorem s_Pl_findCheapest {P : List Nat} {K : Nat → Nat} {N : Nat} {O : WO} {I0 : WI} {J0 : WJ} (hN : 2147483648 ≤ N) (hV : IV P K I0 O) {a0 : Nat} (h0 : a0 ∈ P ∧ K a0 = 4) {a1 : Nat} (h1 : a1 ∈ P ∧ K a1 = 3) {a2 : Nat} (h2 : a2 ∈ P ∧ K a2 = 0) {a3 : Nat} (h3 : a3 ∈ P ∧ K a3 = 18) {x4 : Int32} {Q : (Int32 × WI) → Prop} (hQ : ∀ (z : Int32) (I_ : WI), IV P K I_ O → FQ kD K I0 J0 I_ J0 → True → Q (z, I_)) : Wp (F_Pl_findCheapest N O I0 J0 a0 a1 a2 a3 x4) Q := by
  unfold F_Pl_findCheapest
  have r4 := rg x4
  have hV0 : SQ kD P K O I0 J0 I0 J0 := SQ.rf hV
  have t_1 := rf_ok hV.1 h0 (show sp 4 0 = some 24 from rfl)
  have t_5 := rfA_ok (i := (Int32.ofInt (0))) hV.1 t_1 (by rw [ofI (by decide)]; decide)
  refine Wpc1 (s_Dr_copyFrom hN hV0.1 t_5 h2 (fun I1 hI1 hF1 p_18 => ?_))
  have hV1 : SQ kD P K O I0 J0 I1 J0 := hV0.call (fun _ _ h => h) hI1 hF1
  have t_23 := rf_ok hV.1 h0 (show sp 4 1 = some 18 from rfl)
  refine Wpc1 (s_RM_copyRow hN hV1.1 h3 ⟨by decide, rfl, fun _ => rfl, fun _ _ => trivial, by decide⟩ t_23 ⟨by decide, rfl, fun _ => rfl, fun _ _ => trivial, by decide⟩ (fun I2 hI2 hF2 p_26 => ?_))
  have hV2 : SQ kD P K O I0 J0 I2 J0 := hV1.call (fun _ _ h => h) hI2 hF2
  refine Wp_lb (fun I3 eI3 => ?_)
  have hV3 : SQ kD P K O I0 J0 I3 J0 := by rw [eI3]; exact hV2.putI h0.2 rfl (show B01 _ from by unfold B01; have hci : Int32.toInt (Int32.ofInt (0)) = 0 := ofI (by decide); omega)
  refine Wpc1 (s_Pl_search hN hV3.1 h0 h1 (by have hk2 : Int32.toInt (Int32.ofInt (0)) = 0 := ofI (by decide); omega) (fun I4 hI4 hF4 p_39 => ?_))
  have hV4 : SQ kD P K O I0 J0 I4 J0 := hV3.call (fun _ _ h => h) hI4 hF4
  refine Wp.ite (fun c_46 => ?_) (fun c_46 => ?_)
  · skip
    exact Wp.ret (hQ (Int32.ofInt (-1)) I4 hV4.1 hV4.2 trivial)
  · skip
    have t_52 := rf_ok hV.1 h0 (show sp 4 3 = some 11 from rfl)
    have t_56 := rf_ok hV.1 h0 (show sp 4 6 = some 11 from rfl)
    refine Wpc1 (s_RM_copyRow hN hV4.1 t_52 ⟨by decide, rfl, fun _ => rfl, fun _ _ => trivial, by decide⟩ t_56 ⟨by decide, rfl, fun _ => rfl, fun _ _ => trivial, by decide⟩ (fun I5 hI5 hF5 p_59 => ?_))
    have hV5 : SQ kD P K O I0 J0 I5 J0 := hV4.call (fun _ _ h => h) hI5 hF5
    refine Wp_lb (fun I6 eI6 => ?_)
    have hV6 : SQ kD P K O I0 J0 I6 J0 := by rw [eI6]; exact hV5.putI h0.2 rfl trivial
    first | (have e_76 := t_sub (x := (I6 a0 4)) (y := (I6 a2 15)) rfl rfl (by omega)) | skip
    exact Wp.ret (hQ ((I6 a0 4) - (I6 a2 15)) I6 hV6.1 hV6.2 trivial)
set_option maxHeartbeats 4000000 in
set_option maxRecDepth 100000 in
theorem s_Pl_leastRate {P : List Nat} {K : Nat → Nat} {N : Nat} {O : WO} {I0 : WI} {J0 : WJ} (hN : 2147483648 ≤ N) (hV : IV P K I0 O) {a0 : Nat} (h0 : a0 ∈ P ∧ K a0 = 4) {a1 : Nat} (h1 : a1 ∈ P ∧ K a1 = 3) {Q : (Int32 × WI) → Prop} (hQ : ∀ (z : Int32) (I_ : WI), IV P K I_ O → FQ kD K I0 J0 I_ J0 → True → Q (z, I_)) : Wp (F_Pl_leastRate N O I0 J0 a0 a1) Q := by
  unfold F_Pl_leastRate
  have hV0 : SQ kD P K O I0 J0 I0 J0 := SQ.rf hV
  have lp_2 : ∀ (m_2 : Nat) (x2_2 : Int32) (I_2 : WI), Int.toNat (4 - (x2_2).toInt) < m_2 → (0 ≤ Int32.toInt x2_2 ∧ Int32.toInt x2_2 ≤ 4) → SQ kD P K O I0 J0 I_2 J0 → Wp (lp (B_Pl_leastRate_2 N O (a0) (a1) (J0)) (fun _ _ => none) m_2 x2_2 I_2) Q := by
    intro m_2
    induction m_2 with
    | zero => intro x2_2 I_2 hm; exact absurd hm (Nat.not_lt_zero _)
    | succ m_2 ih_2 =>
    intro x2_2 I_2 hm_2 iv0_2 hV_2
    have rg2_2 := rg x2_2
    show Wp (B_Pl_leastRate_2 N O (a0) (a1) (J0) (lp (B_Pl_leastRate_2 N O (a0) (a1) (J0)) (fun _ _ => none) m_2) x2_2 I_2) Q
    unfold B_Pl_leastRate_2
    refine Wp.ite (fun c_4 => ?_) (fun c_4 => ?_)
    · skip
      exact Wp.ret (hQ (Int32.ofInt (0)) I_2 hV_2.1 hV_2.2 trivial)
    · skip
      have t_8 := rf_ok hV.1 h0 (show sp 4 1 = some 18 from rfl)
      refine Wp_lb (fun I1 eI1 => ?_)
      have hV1 : SQ kD P K O I0 J0 I1 J0 := by rw [eI1]; exact hV_2.putI t_8.2 rfl trivial
      have t_15 := rf_ok hV.1 h0 (show sp 4 8 = some 0 from rfl)
      have t_19 := rf_ok hV.1 h0 (show sp 4 9 = some 0 from rfl)
      refine Wpc1 (s_Dr_copyFrom hN hV1.1 t_15 t_19 (fun I2 hI2 hF2 p_22 => ?_))
      have hV2 : SQ kD P K O I0 J0 I2 J0 := hV1.call (fun _ _ h => h) hI2 hF2
      have t_26 := rf_ok hV.1 h0 (show sp 4 8 = some 0 from rfl)
      have t_31 := rf_ok hV.1 h0 (show sp 4 1 = some 18 from rfl)
      refine Wpc1 (s_Dr_runHour hN hV2.1 t_26 h1 t_31 ⟨by decide, rfl, fun _ => rfl, fun _ _ => trivial, by decide⟩ (by have hk3 : Int32.toInt (Int32.ofInt (0)) = 0 := ofI (by decide); omega) (fun I3 hI3 hF3 p_35 => ?_))
      have hV3 : SQ kD P K O I0 J0 I3 J0 := hV2.call (fun _ _ h => h) hI3 hF3
      have t_39 := rf_ok hV.1 h0 (show sp 4 8 = some 0 from rfl)
      refine Wpc1 (s_Dr_wentWell hN hV3.1 t_39 (fun z_42 b_42 p_42 => ?_))
      have rz_42 := rg z_42
      refine Wp.ite (fun c_45 => ?_) (fun c_45 => ?_)
      · skip
        refine Wp_lb (fun v2_50 ev_50 => ?_)
        have rv_50 := rg v2_50
        first | (have e_50 : v2_50.toInt = (x2_2).toInt + 1 := by rw [ev_50]; exact t_add rfl (ofI (by decide)) (by omega)) | skip
        clear ev_50
        exact ih_2 (v2_50) I3 (by omega) (by omega) hV3
      · skip
        exact Wp.ret (hQ x2_2 I3 hV3.1 hV3.2 trivial)
  exact lp_2 N ((Int32.ofInt (0))) I0 (by have hci0 : Int32.toInt (Int32.ofInt (0)) = 0 := ofI (by decide); omega) (by have hci0 : Int32.toInt (Int32.ofInt (0)) = 0 := ofI (by decide); omega) hV0
set_option maxHeartbeats 4000000 in
set_option maxRecDepth 100000 in
theorem s_Pl_keepRule {P : List Nat} {K : Nat → Nat} {N : Nat} {O : WO} {I0 : WI} {J0 : WJ} (hN : 2147483648 ≤ N) (hV : IV P K I0 O) {a0 : Nat} (h0 : a0 ∈ P ∧ K a0 = 4) {a1 : Nat} (h1 : a1 ∈ P ∧ K a1 = 3) {a2 : Nat} (h2 : a2 ∈ P ∧ K a2 = 0) {a3 : Nat} (h3 : a3 ∈ P ∧ K a3 = 18) {x4 : Int32} {Q : WI → Prop} (hQ : ∀ (I_ : WI), IV P K I_ O → FQ kD K I0 J0 I_ J0 → True → Q I_) : Wp (F_Pl_keepRule N O I0 J0 a0 a1 a2 a3 x4) Q := by
  unfold F_Pl_keepRule
  have r4 := rg x4
  have hV0 : SQ kD P K O I0 J0 I0 J0 := SQ.rf hV
  have t_1 := rf_ok hV.1 h0 (show sp 4 9 = some 0 from rfl)
  refine Wpc1 (s_Dr_copyFrom hN hV0.1 t_1 h2 (fun I1 hI1 hF1 p_5 => ?_))
  have hV1 : SQ kD P K O I0 J0 I1 J0 := hV0.call (fun _ _ h => h) hI1 hF1
  have t_10 := rf_ok hV.1 h0 (show sp 4 1 = some 18 from rfl)
  refine Wpc1 (s_RM_copyRow hN hV1.1 h3 ⟨by decide, rfl, fun _ => rfl, fun _ _ => trivial, by decide⟩ t_10 ⟨by decide, rfl, fun _ => rfl, fun _ _ => trivial, by decide⟩ (fun I2 hI2 hF2 p_13 => ?_))
  have hV2 : SQ kD P K O I0 J0 I2 J0 := hV1.call (fun _ _ h => h) hI2 hF2
  have lp_19 : ∀ (m_19 : Nat) (x5_19 : Int32) (I_19 : WI), Int.toNat (5 - (x5_19).toInt) < m_19 → (0 ≤ Int32.toInt x5_19 ∧ Int32.toInt x5_19 ≤ 5) → SQ kD P K O I0 J0 I_19 J0 → Wp (lp (B_Pl_keepRule_19 N O (a0) (a1) (x4) (J0)) (fun _ _ => none) m_19 x5_19 I_19) Q := by
    intro m_19
    induction m_19 with
    | zero => intro x5_19 I_19 hm; exact absurd hm (Nat.not_lt_zero _)
    | succ m_19 ih_19 =>
    intro x5_19 I_19 hm_19 iv0_19 hV_19
    have rg5_19 := rg x5_19
    show Wp (B_Pl_keepRule_19 N O (a0) (a1) (x4) (J0) (lp (B_Pl_keepRule_19 N O (a0) (a1) (x4) (J0)) (fun _ _ => none) m_19) x5_19 I_19) Q
    unfold B_Pl_keepRule_19
    refine Wp.ite (fun c_23 => ?_) (fun c_23 => ?_)
    · skip
      exact Wp.ret (hQ I_19 hV_19.1 hV_19.2 trivial)
    · skip
      refine Wp.ite (fun c_29 => ?_) (fun c_29 => ?_)
      · skip
        exact Wp.ret (hQ I_19 hV_19.1 hV_19.2 trivial)
      · skip
        have t_33 := rf_ok hV.1 h0 (show sp 4 1 = some 18 from rfl)
        refine Wpc2 (s_Pl_leastRate hN hV_19.1 h0 h1 (fun z_39 I3 hI3 hF3 p_39 => ?_))
        have hV3 : SQ kD P K O I0 J0 I3 J0 := hV_19.call (fun _ _ h => h) hI3 hF3
        have rz_39 := rg z_39
        refine Wp_lb (fun I4 eI4 => ?_)
        have hV4 : SQ kD P K O I0 J0 I4 J0 := by rw [eI4]; exact hV3.putI t_33.2 rfl trivial
        have t_44 := rf_ok hV.1 h0 (show sp 4 9 = some 0 from rfl)
        have t_49 := rf_ok hV.1 h0 (show sp 4 1 = some 18 from rfl)
        refine Wpc1 (s_Dr_runHour hN hV4.1 t_44 h1 t_49 ⟨by decide, rfl, fun _ => rfl, fun _ _ => trivial, by decide⟩ (by have hk3 : Int32.toInt (Int32.ofInt (0)) = 0 := ofI (by decide); omega) (fun I5 hI5 hF5 p_53 => ?_))
        have hV5 : SQ kD P K O I0 J0 I5 J0 := hV4.call (fun _ _ h => h) hI5 hF5
        refine Wp_lb (fun v5_56 ev_56 => ?_)
        have rv_56 := rg v5_56
        first | (have e_56 : v5_56.toInt = (x5_19).toInt + 1 := by rw [ev_56]; exact t_add rfl (ofI (by decide)) (by omega)) | skip
        clear ev_56
        exact ih_19 (v5_56) I5 (by omega) (by omega) hV5
  exact lp_19 N ((Int32.ofInt (0))) I2 (by have hci0 : Int32.toInt (Int32.ofInt (0)) = 0 := ofI (by decide); omega) (by have hci0 : Int32.toInt (Int32.ofInt (0)) = 0 := ofI (by decide); omega) hV2
