set_option maxHeartbeats 4000000 in
set_option maxRecDepth 100000 in
theorem s_Mo_begins_G {P : List Nat} {K : Nat → Nat} {N : Nat} {O : WO} {I0 : WI} {J0 : WJ} (hN : 2147483648 ≤ N) (hV : IV P K I0 O) {a0 : Nat} (h0 : a0 ∈ P ∧ K a0 = 10) {a1 : Nat} (h1 : a1 ∈ P ∧ K a1 = 49) {x2 : Int32} {x3 : Int32} {x4 : Int32} (hN3 : NN P K O a0 3 9) (hGM : GM I0 (rf O a0 3)) {Q : WI → Prop} (hQ : ∀ (I_ : WI), IV P K I_ O → FQ mX49 K I0 J0 I_ J0 → (Int32.toInt (I_ a1 27) = 0) → Q I_) : Wp (F_Mo_begins N O I0 J0 a0 a1 x2 x3 x4) Q := by
  unfold F_Mo_begins
  have r2 := rg x2
  have r3 := rg x3
  have r4 := rg x4
  have hMs : ¬ O a0 3 = none := by rw [hN3.1]; exact fun z => by cases z
  have hV0 : SQ mX49 P K O I0 J0 I0 J0 := SQ.rf hV
  have lp_3 : ∀ (m_3 : Nat) (x5_3 : Int32) (I_3 : WI), Int.toNat (37 - (x5_3).toInt) < m_3 → (0 ≤ Int32.toInt x5_3 ∧ Int32.toInt x5_3 ≤ 37) → (Int32.toInt x5_3 ≤ 27 ∨ Int32.toInt (I_3 a1 27) = 0) → SQ mX49 P K O I0 J0 I_3 J0 → Wp (lp (B_Mo_begins_3 N O (a0) (a1) (x2) (x3) (x4)) (fun _ _ => none) m_3 x5_3 I_3) Q := by
    intro m_3
    induction m_3 with
    | zero => intro x5_3 I_3 hm; exact absurd hm (Nat.not_lt_zero _)
    | succ m_3 ih_3 =>
    intro x5_3 I_3 hm_3 iv0_3 iv1_3 hV_3
    have rg5_3 := rg x5_3
    show Wp (B_Mo_begins_3 N O (a0) (a1) (x2) (x3) (x4) (lp (B_Mo_begins_3 N O (a0) (a1) (x2) (x3) (x4)) (fun _ _ => none) m_3) x5_3 I_3) Q
    unfold B_Mo_begins_3
    refine Wp.ite (fun c_7 => ?_) (fun c_7 => ?_)
    · skip
      have lp_24 : ∀ (m_24 : Nat) (x5_24 : Int32) (I_24 : WI), Int.toNat (5 - (x5_24).toInt) < m_24 → (0 ≤ Int32.toInt x5_24 ∧ Int32.toInt x5_24 ≤ 5) → (Int32.toInt (I_24 a1 27) = 0) → SQ mX49 P K O I0 J0 I_24 J0 → Wp (lp (B_Mo_begins_24 N O (a0) (a1) (x2) (x3) (x4)) (fun _ _ => none) m_24 x5_24 I_24) Q := by
        intro m_24
        induction m_24 with
        | zero => intro x5_24 I_24 hm; exact absurd hm (Nat.not_lt_zero _)
        | succ m_24 ih_24 =>
        intro x5_24 I_24 hm_24 iv0_24 iv1_24 hV_24
        have rg5_24 := rg x5_24
        show Wp (B_Mo_begins_24 N O (a0) (a1) (x2) (x3) (x4) (lp (B_Mo_begins_24 N O (a0) (a1) (x2) (x3) (x4)) (fun _ _ => none) m_24) x5_24 I_24) Q
        unfold B_Mo_begins_24
        have o_30 := hV_24.1.2 (rf O a0 3) hN3.2.1 8
        rw [hN3.2.2] at o_30
        replace o_30 : 0 ≤ (I_24 (rf O a0 3) 8).toInt ∧ (I_24 (rf O a0 3) 8).toInt ≤ 5 := o_30
        refine Wp.ite (fun c_33 => ?_) (fun c_33 => ?_)
        · skip
          refine Wp_lb (fun I1 eI1 => ?_)
          have hV1 : SQ mX49 P K O I0 J0 I1 J0 := by rw [eI1]; exact hV_24.putI h1.2 rfl trivial
          have tk1_a1_27 : (I1 a1 27).toInt = (I_24 a1 27).toInt := by rw [eI1, up2_ne _ _ (fun z => absurd z.2 (by decide))]
          have gm_74 : 1 ≤ (I1 (rf O a0 3) 4).toInt := (hGM.keep (fun k => (hV1.2 (rf O a0 3) k (by rw [hN3.2.2]; rfl)).1)).2.1
          first | (have e_79 := tdivF (x := (x3 * (I1 (rf O a0 3) 4))) (y := (Int32.ofInt (4))) rfl (ofI (by decide)) (by decide)) | skip
          refine Wp_lb (fun I2 eI2 => ?_)
          have hV2 : SQ mX49 P K O I0 J0 I2 J0 := by rw [eI2]; exact hV1.putI h1.2 rfl trivial
          have tk2_a1_27 : (I2 a1 27).toInt = (I1 a1 27).toInt := by rw [eI2, up2_ne _ _ (fun z => absurd z.2 (by decide))]
          first | (have e_92 := tdivF (x := (I2 (rf O a0 3) 5)) (y := (Int32.ofInt (2))) rfl (ofI (by decide)) (by decide)) | skip
          refine Wp_lb (fun I3 eI3 => ?_)
          have hV3 : SQ mX49 P K O I0 J0 I3 J0 := by rw [eI3]; exact hV2.putI h1.2 rfl trivial
          have tk3_a1_27 : (I3 a1 27).toInt = (I2 a1 27).toInt := by rw [eI3, up2_ne _ _ (fun z => absurd z.2 (by decide))]
          exact Wp.ret (hQ I3 hV3.1 hV3.2 (by first | omega | (dsimp only; omega)))
        · skip
          first | (have e_40 := t_add (x := (Int32.ofInt (0))) (y := x5_24) (ofI (by decide)) rfl (by omega)) | skip
          have t_47 := rf_ok hV.1 hN3.2 (show sp 9 15 = some 45 from rfl)
          refine Wp.pos (by omega) ?_
          refine Wp.pos (by omega) ?_
          refine Wp_lb (fun I4 eI4 => ?_)
          have hV4 : SQ mX49 P K O I0 J0 I4 J0 := by rw [eI4]; exact hV_24.putI h1.2 rfl (okS (by decide) (by omega) (by omega))
          have tk4_a1_27 : (I4 a1 27).toInt = (I_24 a1 27).toInt := by rw [eI4, up2_ne _ _ (fun z => by omega)]
          refine Wp_lb (fun v5_55 ev_55 => ?_)
          have rv_55 := rg v5_55
          first | (have e_55 : v5_55.toInt = (x5_24).toInt + 1 := by rw [ev_55]; exact t_add rfl (ofI (by decide)) (by omega)) | skip
          clear ev_55
          exact ih_24 (v5_55) I4 (by omega) (by omega) (by omega) hV4
      exact lp_24 N ((Int32.ofInt (0))) I_3 (by have hci0 : Int32.toInt (Int32.ofInt (0)) = 0 := ofI (by decide); omega) (by have hci0 : Int32.toInt (Int32.ofInt (0)) = 0 := ofI (by decide); omega) (by omega) hV_3
    · skip
      refine Wp.pos (by omega) ?_
      refine Wp_lb (fun I5 eI5 => ?_)
      have hV5 : SQ mX49 P K O I0 J0 I5 J0 := by rw [eI5]; exact hV_3.putI h1.2 rfl (okS_0 (by decide))
      have tk5_a1_27 : ((x5_3).toInt = 27 ∧ (I5 a1 27).toInt = 0) ∨ (¬ (x5_3).toInt = 27 ∧ (I5 a1 27).toInt = (I_3 a1 27).toInt) := by rw [eI5]; exact up2_dis (by omega) (ofI (by decide))
      refine Wp_lb (fun v5_15 ev_15 => ?_)
      have rv_15 := rg v5_15
      first | (have e_15 : v5_15.toInt = (x5_3).toInt + 1 := by rw [ev_15]; exact t_add rfl (ofI (by decide)) (by omega)) | skip
      clear ev_15
      exact ih_3 (v5_15) I5 (by omega) (by omega) (by omega) hV5
  exact lp_3 N ((Int32.ofInt (0))) I0 (by have hci0 : Int32.toInt (Int32.ofInt (0)) = 0 := ofI (by decide); omega) (by have hci0 : Int32.toInt (Int32.ofInt (0)) = 0 := ofI (by decide); omega) (by have hci0 : Int32.toInt (Int32.ofInt (0)) = 0 := ofI (by decide); omega) hV0
set_option maxHeartbeats 4000000 in
set_option maxRecDepth 100000 in
theorem s_Mo_byProgram_G {P : List Nat} {K : Nat → Nat} {N : Nat} {O : WO} {I0 : WI} {J0 : WJ} (hN : 2147483648 ≤ N) (hV : IV P K I0 O) {a0 : Nat} (h0 : a0 ∈ P ∧ K a0 = 10) {a1 : Nat} (h1 : a1 ∈ P ∧ K a1 = 49) {x2 : Int32} (hN3 : NN P K O a0 3 9) (hGM : GM I0 (rf O a0 3)) (pr0 : 0 ≤ Int32.toInt x2 ∧ Int32.toInt x2 ≤ 11) (pr1 : Int32.toInt (I0 a1 27) ≤ 251) {Q : WI → Prop} (hQ : ∀ (I_ : WI), IV P K I_ O → FQ mX49 K I0 J0 I_ J0 → (Int32.toInt (I_ a1 27) = Int32.toInt (I0 a1 27) + 1) → Q I_) : Wp (F_Mo_byProgram N O I0 J0 a0 a1 x2) Q := by
  unfold F_Mo_byProgram
  have r2 := rg x2
  have hMs : ¬ O a0 3 = none := by rw [hN3.1]; exact fun z => by cases z
  have hV0 : SQ mX49 P K O I0 J0 I0 J0 := SQ.rf hV
  have t_4 := rf_ok hV.1 h0 (show sp 10 20 = some 33 from rfl)
  refine Wp.pos (by omega) ?_
  refine Wp_lb (fun I1 eI1 => ?_)
  have hV1 : SQ mX49 P K O I0 J0 I1 J0 := by rw [eI1]; exact hV0.putI h1.2 rfl trivial
  have tk1_a1_27 : (I1 a1 27).toInt = (I0 a1 27).toInt := by rw [eI1, up2_ne _ _ (fun z => absurd z.2 (by decide))]
  have t_14 := rf_ok hV.1 h0 (show sp 10 21 = some 33 from rfl)
  refine Wp.pos (by omega) ?_
  refine Wp_lb (fun I2 eI2 => ?_)
  have hV2 : SQ mX49 P K O I0 J0 I2 J0 := by rw [eI2]; exact hV1.putI h1.2 rfl trivial
  have tk2_a1_27 : (I2 a1 27).toInt = (I1 a1 27).toInt := by rw [eI2, up2_ne _ _ (fun z => absurd z.2 (by decide))]
  have t_24 := rf_ok hV.1 h0 (show sp 10 22 = some 34 from rfl)
  refine Wp.pos (by omega) ?_
  have o_28 := hV2.1.2 (rf O a0 22) t_24.1 (x2).toInt.toNat
  rw [t_24.2] at o_28
  replace o_28 : 0 ≤ (I2 (rf O a0 22) (x2).toInt.toNat).toInt ∧ (I2 (rf O a0 22) (x2).toInt.toNat).toInt ≤ 3 := o_28
  refine Wp_lb (fun I3 eI3 => ?_)
  have hV3 : SQ mX49 P K O I0 J0 I3 J0 := by rw [eI3]; exact hV2.putI h1.2 rfl (show 0 ≤ Int32.toInt _ ∧ Int32.toInt _ ≤ 3 from by omega)
  have tk3_a1_27 : (I3 a1 27).toInt = (I2 a1 27).toInt := by rw [eI3, up2_ne _ _ (fun z => absurd z.2 (by decide))]
  refine Wpc1 (s_Mo_goesT_G hN hV3.1 h0 h1 hN3 (hGM.keep (fun k => (hV3.2 (rf O a0 3) k (by rw [hN3.2.2]; rfl)).1)) (by omega) (fun I4 hI4 hF4 p_32 => ?_))
  have hV4 : SQ mX49 P K O I0 J0 I4 J0 := hV3.call (fun _ _ h => h) hI4 hF4
  try dsimp only at p_32
  exact Wp.ret (hQ I4 hV4.1 hV4.2 (by first | omega | (dsimp only; omega)))
set_option maxHeartbeats 4000000 in
set_option maxRecDepth 100000 in
theorem s_Mo_hourOf {P : List Nat} {K : Nat → Nat} {N : Nat} {O : WO} {I0 : WI} {J0 : WJ} (hN : 2147483648 ≤ N) (hV : IV P K I0 O) {a0 : Nat} (h0 : a0 ∈ P ∧ K a0 = 10) {x1 : Int32} {x2 : Int32} {x3 : Int32} (pr0 : 0 ≤ Int32.toInt x1 ∧ Int32.toInt x1 ≤ 23) {Q : Int32 → Prop} (hQ : ∀ (z : Int32), True → Q z) : Wp (F_Mo_hourOf N O I0 J0 a0 x1 x2 x3) Q := by
  unfold F_Mo_hourOf
  have r1 := rg x1
  have r2 := rg x2
  have r3 := rg x3
  have hV0 : SQ kP P K O I0 J0 I0 J0 := SQ.rf hV
  have t_1 := rf_ok hV.1 h0 (show sp 10 24 = some 35 from rfl)
  refine Wp.pos (by omega) ?_
  refine Wp_lb (fun v4_6 ev_6 => ?_)
  have ei_6 := congrArg Int32.toInt ev_6
  have rv_6 := rg v4_6
  have t_9 := rf_ok hV.1 h0 (show sp 10 25 = some 36 from rfl)
  refine Wp.pos (by omega) ?_
  have o_13 := hV0.1.2 (rf O a0 25) t_9.1 (x1).toInt.toNat
  rw [t_9.2] at o_13
  replace o_13 : 0 ≤ (I0 (rf O a0 25) (x1).toInt.toNat).toInt ∧ (I0 (rf O a0 25) (x1).toInt.toNat).toInt ≤ 6 := o_13
  refine Wp.ite (fun c_15 => ?_) (fun c_15 => ?_)
  · skip
    refine Wp.ite (fun c_24 => ?_) (fun c_24 => ?_)
    · skip
      exact Wp.ret (hQ x3 trivial)
    · skip
      refine Wp.ite (fun c_34 => ?_) (fun c_34 => ?_)
      · skip
        exact Wp.ret (hQ x2 trivial)
      · skip
        exact Wp.ret (hQ v4_6 trivial)
  · skip
    exact Wp.ret (hQ v4_6 trivial)
set_option maxHeartbeats 4000000 in
set_option maxRecDepth 100000 in
theorem s_Mo_agrees_G {P : List Nat} {K : Nat → Nat} {N : Nat} {O : WO} {I0 : WI} {J0 : WJ} (hN : 2147483648 ≤ N) (hV : IV P K I0 O) {a0 : Nat} (h0 : a0 ∈ P ∧ K a0 = 10) {x1 : Int32} {x2 : Int32} {x3 : Int32} (hN3 : NN P K O a0 3 9) (hGM : GM I0 (rf O a0 3)) {Q : (Int32 × WI) → Prop} (hQ : ∀ (z : Int32) (I_ : WI), IV P K I_ O → FQ mT K I0 J0 I_ J0 → (z.toInt = 0 ∨ z.toInt = 1) → True → Q (z, I_)) : Wp (F_Mo_agrees N O I0 J0 a0 x1 x2 x3) Q := by
  unfold F_Mo_agrees
  have r1 := rg x1
  have r2 := rg x2
  have r3 := rg x3
  have tr_TW := rf_ok hV.1 h0 (show sp 10 17 = some 49 from rfl)
  have hMs : ¬ O a0 3 = none := by rw [hN3.1]; exact fun z => by cases z
  have hV0 : SQ mT P K O I0 J0 I0 J0 := SQ.rf hV
  have t_2 := rf_ok hV.1 h0 (show sp 10 17 = some 49 from rfl)
  first | (have e_8 := tdivF (x := x1) (y := (Int32.ofInt (25))) rfl (ofI (by decide)) (by decide)) | skip
  first | (have e_11 := tdivF (x := x1) (y := (Int32.ofInt (5))) rfl (ofI (by decide)) (by decide)) | skip
  first | (have e_13 := tremF (x := (x1 / (Int32.ofInt (5)))) (y := (Int32.ofInt (5))) rfl (ofI (by decide)) (by decide)) | skip
  first | (have e_16 := tremF (x := x1) (y := (Int32.ofInt (5))) rfl (ofI (by decide)) (by decide)) | skip
  refine Wpc1 (s_Mo_begins_G hN hV0.1 h0 t_2 hN3 (hGM.keep (fun k => (hV0.2 (rf O a0 3) k (by rw [hN3.2.2]; rfl)).1)) (fun I1 hI1 hF1 p_17 => ?_))
  have hV1 : SQ mT P K O I0 J0 I1 J0 := hV0.call (kpL_le (frL_le (by decide)) rfl) hI1 hF1
  try dsimp only at p_17
  have lp_23 : ∀ (m_23 : Nat) (x4_23 : Int32) (I_23 : WI), Int.toNat (12 - (x4_23).toInt) < m_23 → (0 ≤ Int32.toInt x4_23 ∧ Int32.toInt x4_23 ≤ 12) → (Int32.toInt (I_23 (rf O a0 17) 27) = (x4_23).toInt) → SQ mT P K O I0 J0 I_23 J0 → Wp (lp (B_Mo_agrees_23 N O (a0) (x2) (x3) (J0)) (fun _ _ => none) m_23 x4_23 I_23) Q := by
    intro m_23
    induction m_23 with
    | zero => intro x4_23 I_23 hm; exact absurd hm (Nat.not_lt_zero _)
    | succ m_23 ih_23 =>
    intro x4_23 I_23 hm_23 iv0_23 iv1_23 hV_23
    have rg4_23 := rg x4_23
    show Wp (B_Mo_agrees_23 N O (a0) (x2) (x3) (J0) (lp (B_Mo_agrees_23 N O (a0) (x2) (x3) (J0)) (fun _ _ => none) m_23) x4_23 I_23) Q
    unfold B_Mo_agrees_23
    refine Wp.ite (fun c_27 => ?_) (fun c_27 => ?_)
    · skip
      exact Wp.ret (hQ (Int32.ofInt (1)) I_23 hV_23.1 hV_23.2 (by have hci : Int32.toInt (Int32.ofInt (1)) = 1 := ofI (by decide); omega) trivial)
    · skip
      have t_32 := rf_ok hV.1 h0 (show sp 10 17 = some 49 from rfl)
      refine Wpc1 (s_Mo_byProgram_G hN hV_23.1 h0 t_32 hN3 (hGM.keep (fun k => (hV_23.2 (rf O a0 3) k (by rw [hN3.2.2]; rfl)).1)) (by omega) (by omega) (fun I2 hI2 hF2 p_37 => ?_))
      have hV2 : SQ mT P K O I0 J0 I2 J0 := hV_23.call (kpL_le (frL_le (by decide)) rfl) hI2 hF2
      try dsimp only at p_37
      have lp_43 : ∀ (m_43 : Nat) (x5_43 : Int32), Int.toNat (24 - (x5_43).toInt) < m_43 → (0 ≤ Int32.toInt x5_43 ∧ Int32.toInt x5_43 ≤ 24) → (Int32.toInt (I2 (rf O a0 17) 27) = (x4_23).toInt + 1) → Wp (lp (B_Mo_agrees_43 N O (a0) (x2) (x3) (J0) (x4_23) ((lp (B_Mo_agrees_23 N O (a0) (x2) (x3) (J0)) (fun _ _ => none) m_23)) (I2)) (fun _ => none) m_43 x5_43) Q := by
        intro m_43
        induction m_43 with
        | zero => intro x5_43 hm; exact absurd hm (Nat.not_lt_zero _)
        | succ m_43 ih_43 =>
        intro x5_43 hm_43 iv0_43 iv1_43 
        have rg5_43 := rg x5_43
        show Wp (B_Mo_agrees_43 N O (a0) (x2) (x3) (J0) (x4_23) ((lp (B_Mo_agrees_23 N O (a0) (x2) (x3) (J0)) (fun _ _ => none) m_23)) (I2) (lp (B_Mo_agrees_43 N O (a0) (x2) (x3) (J0) (x4_23) ((lp (B_Mo_agrees_23 N O (a0) (x2) (x3) (J0)) (fun _ _ => none) m_23)) (I2)) (fun _ => none) m_43) x5_43) Q
        unfold B_Mo_agrees_43
        have o_46 := hV2.1.2 a0 h0.1 23
        rw [h0.2] at o_46
        replace o_46 : 0 ≤ (I2 a0 23).toInt ∧ (I2 a0 23).toInt ≤ 24 := o_46
        refine Wp.ite (fun c_49 => ?_) (fun c_49 => ?_)
        · skip
          refine Wp_lb (fun v4_125 ev_125 => ?_)
          have rv_125 := rg v4_125
          first | (have e_125 : v4_125.toInt = (x4_23).toInt + 1 := by rw [ev_125]; exact t_add rfl (ofI (by decide)) (by omega)) | skip
          clear ev_125
          exact ih_23 (v4_125) I2 (by omega) (by omega) (by omega) hV2
        · skip
          refine Wpc1 (s_Mo_hourOf hN hV2.1 h0 (by omega) (fun z_57 p_57 => ?_))
          have rz_57 := rg z_57
          refine Wp_jq (fun k_119 => (Int32.toInt (I2 (rf O a0 17) 27) = (x4_23).toInt + 1) → Wp (k_119 ) Q) (fun  jv0_119  => ?_) (fun k_119 hk_119 => ?_)
          · skip
            refine Wp_lb (fun v5_119 ev_119 => ?_)
            have rv_119 := rg v5_119
            first | (have e_119 : v5_119.toInt = (x5_43).toInt + 1 := by rw [ev_119]; exact t_add rfl (ofI (by decide)) (by omega)) | skip
            clear ev_119
            exact ih_43 (v5_119) (by omega) (by omega) (by omega) 
          refine Wp.ite (fun c_62 => ?_) (fun c_62 => ?_)
          · skip
            have t_69 := rf_ok hV.1 h0 (show sp 10 17 = some 49 from rfl)
            have t_73 := rf_ok hV.1 h0 (show sp 10 25 = some 36 from rfl)
            refine Wp.pos (by omega) ?_
            have o_78 := hV2.1.2 (rf O a0 25) t_73.1 (x5_43).toInt.toNat
            rw [t_73.2] at o_78
            replace o_78 : 0 ≤ (I2 (rf O a0 25) (x5_43).toInt.toNat).toInt ∧ (I2 (rf O a0 25) (x5_43).toInt.toNat).toInt ≤ 6 := o_78
            refine Wpc1 (s_Mo_valueOf hN hV2.1 t_69 (by omega) (fun z_79 p_79 => ?_))
            have rz_79 := rg z_79
            have t_83 := rf_ok hV.1 h0 (show sp 10 26 = some 35 from rfl)
            refine Wp.pos (by omega) ?_
            first | (have e_89 := t_sub (x := z_79) (y := (I2 (rf O a0 26) (x5_43).toInt.toNat)) rfl rfl (by omega)) | skip
            refine Wp_lb (fun v6_90 ev_90 => ?_)
            have ei_90 := congrArg Int32.toInt ev_90
            have rv_90 := rg v6_90
            have t_95 := rf_ok hV.1 h0 (show sp 10 27 = some 35 from rfl)
            refine Wp.pos (by omega) ?_
            refine Wp.ite (fun c_101 => ?_) (fun c_101 => ?_)
            · skip
              exact Wp.ret (hQ (Int32.ofInt (0)) I2 hV2.1 hV2.2 (by have hci : Int32.toInt (Int32.ofInt (0)) = 0 := ofI (by decide); omega) trivial)
            · skip
              have t_108 := rf_ok hV.1 h0 (show sp 10 27 = some 35 from rfl)
              refine Wp.pos (by omega) ?_
              refine Wp.ite (fun c_114 => ?_) (fun c_114 => ?_)
              · skip
                exact hk_119  (by omega) 
              · skip
                exact Wp.ret (hQ (Int32.ofInt (0)) I2 hV2.1 hV2.2 (by have hci : Int32.toInt (Int32.ofInt (0)) = 0 := ofI (by decide); omega) trivial)
          · skip
            exact hk_119  (by omega) 
      exact lp_43 N ((Int32.ofInt (0))) (by have hci0 : Int32.toInt (Int32.ofInt (0)) = 0 := ofI (by decide); omega) (by have hci0 : Int32.toInt (Int32.ofInt (0)) = 0 := ofI (by decide); omega) (by omega) 
  exact lp_23 N ((Int32.ofInt (0))) I1 (by have hci0 : Int32.toInt (Int32.ofInt (0)) = 0 := ofI (by decide); omega) (by have hci0 : Int32.toInt (Int32.ofInt (0)) = 0 := ofI (by decide); omega) (by have hci0 : Int32.toInt (Int32.ofInt (0)) = 0 := ofI (by decide); omega) hV1
set_option maxHeartbeats 4000000 in
set_option maxRecDepth 100000 in
theorem s_Mo_allFits_G {P : List Nat} {K : Nat → Nat} {N : Nat} {O : WO} {I0 : WI} {J0 : WJ} (hN : 2147483648 ≤ N) (hV : IV P K I0 O) {a0 : Nat} (h0 : a0 ∈ P ∧ K a0 = 10) {x1 : Int32} {x2 : Int32} (hN3 : NN P K O a0 3 9) (hGM : GM I0 (rf O a0 3)) {Q : (Int32 × WI) → Prop} (hQ : ∀ (z : Int32) (I_ : WI), IV P K I_ O → FQ mT K I0 J0 I_ J0 → (0 ≤ Int32.toInt z ∧ Int32.toInt z ≤ 100) → Q (z, I_)) : Wp (F_Mo_allFits N O I0 J0 a0 x1 x2) Q := by
  unfold F_Mo_allFits
  have r1 := rg x1
  have r2 := rg x2
  have tr_TW := rf_ok hV.1 h0 (show sp 10 17 = some 49 from rfl)
  have hMs : ¬ O a0 3 = none := by rw [hN3.1]; exact fun z => by cases z
  have hV0 : SQ mT P K O I0 J0 I0 J0 := SQ.rf hV
  have lp_5 : ∀ (m_5 : Nat) (x3_5 : Int32) (x4_5 : Int32) (I_5 : WI), Int.toNat (100 - (x4_5).toInt) < m_5 → (0 ≤ Int32.toInt x4_5 ∧ Int32.toInt x4_5 ≤ 100) → (0 ≤ Int32.toInt x3_5 ∧ Int32.toInt x3_5 ≤ Int32.toInt x4_5) → SQ mT P K O I0 J0 I_5 J0 → Wp (lp (B_Mo_allFits_5 N O (a0) (x1) (x2) (J0)) (fun _ _ _ => none) m_5 x3_5 x4_5 I_5) Q := by
    intro m_5
    induction m_5 with
    | zero => intro x3_5 x4_5 I_5 hm; exact absurd hm (Nat.not_lt_zero _)
    | succ m_5 ih_5 =>
    intro x3_5 x4_5 I_5 hm_5 iv0_5 iv1_5 hV_5
    have rg3_5 := rg x3_5
    have rg4_5 := rg x4_5
    show Wp (B_Mo_allFits_5 N O (a0) (x1) (x2) (J0) (lp (B_Mo_allFits_5 N O (a0) (x1) (x2) (J0)) (fun _ _ _ => none) m_5) x3_5 x4_5 I_5) Q
    unfold B_Mo_allFits_5
    refine Wp.ite (fun c_9 => ?_) (fun c_9 => ?_)
    · skip
      exact Wp.ret (hQ x3_5 I_5 hV_5.1 hV_5.2 (by first | omega | (dsimp only; omega)))
    · skip
      refine Wpc2 (s_Mo_agrees_G hN hV_5.1 h0 hN3 (hGM.keep (fun k => (hV_5.2 (rf O a0 3) k (by rw [hN3.2.2]; rfl)).1)) (fun z_17 I1 hI1 hF1 b_17 p_17 => ?_))
      have hV1 : SQ mT P K O I0 J0 I1 J0 := hV_5.call (fun _ _ h => h) hI1 hF1
      have rz_17 := rg z_17
      refine Wp_jq (fun k_37 => ∀ (y3_37 : Int32) (IJ_37 : WI), (0 ≤ Int32.toInt y3_37 ∧ Int32.toInt y3_37 ≤ Int32.toInt x4_5 + 1) → SQ mT P K O I0 J0 IJ_37 J0 → Wp (k_37 y3_37 IJ_37) Q) (fun y3_37 IJ_37 jv0_37 hVJ_37 => ?_) (fun k_37 hk_37 => ?_)
      · skip
        refine Wp_lb (fun v4_37 ev_37 => ?_)
        have rv_37 := rg v4_37
        first | (have e_37 : v4_37.toInt = (x4_5).toInt + 1 := by rw [ev_37]; exact t_add rfl (ofI (by decide)) (by omega)) | skip
        clear ev_37
        exact ih_5 (y3_37) (v4_37) IJ_37 (by omega) (by omega) (by omega) hVJ_37
      refine Wp.ite (fun c_20 => ?_) (fun c_20 => ?_)
      · skip
        exact hk_37 (x3_5) I1 (by omega) hV1
      · skip
        have t_27 := rf_ok hV.1 h0 (show sp 10 28 = some 37 from rfl)
        refine Wp.pos (by omega) ?_
        refine Wp_lb (fun I2 eI2 => ?_)
        have hV2 : SQ mT P K O I0 J0 I2 J0 := by rw [eI2]; exact hV1.putI t_27.2 rfl trivial
        refine Wp_lb (fun v3_34 ev_34 => ?_)
        have rv_34 := rg v3_34
        first | (have e_34 : v3_34.toInt = (x3_5).toInt + 1 := by rw [ev_34]; exact t_add rfl (ofI (by decide)) (by omega)) | skip
        clear ev_34
        exact hk_37 (v3_34) I2 (by omega) hV2
  exact lp_5 N ((Int32.ofInt (0))) ((Int32.ofInt (0))) I0 (by have hci0 : Int32.toInt (Int32.ofInt (0)) = 0 := ofI (by decide); omega) (by have hci0 : Int32.toInt (Int32.ofInt (0)) = 0 := ofI (by decide); omega) (by have hci0 : Int32.toInt (Int32.ofInt (0)) = 0 := ofI (by decide); have hci1 : Int32.toInt (Int32.ofInt (0)) = 0 := ofI (by decide); omega) hV0
set_option maxHeartbeats 4000000 in
set_option maxRecDepth 100000 in
theorem s_Mo_copies {P : List Nat} {K : Nat → Nat} {N : Nat} {O : WO} {I0 : WI} {J0 : WJ} (hN : 2147483648 ≤ N) (hV : IV P K I0 O) {a0 : Nat} (h0 : a0 ∈ P ∧ K a0 = 10) {Q : WI → Prop} (hQ : ∀ (I_ : WI), IV P K I_ O → FQ mX49 K I0 J0 I_ J0 → (Int32.toInt (I_ (rf O a0 17) 27) = Int32.toInt (I_ (rf O a0 16) 27) ∧ Int32.toInt (I_ (rf O a0 16) 27) = Int32.toInt (I0 (rf O a0 16) 27)) → Q I_) : Wp (F_Mo_copies N O I0 J0 a0) Q := by
  unfold F_Mo_copies
  have tr_S := rf_ok hV.1 h0 (show sp 10 16 = some 31 from rfl)
  have tr_TW := rf_ok hV.1 h0 (show sp 10 17 = some 49 from rfl)
  have oS := hV.2 (rf O a0 16) tr_S.1 27
  rw [tr_S.2] at oS
  replace oS : 0 ≤ (I0 (rf O a0 16) 27).toInt ∧ (I0 (rf O a0 16) 27).toInt ≤ 240 := oS
  have hV0 : SQ mX49 P K O I0 J0 I0 J0 := SQ.rf hV
  have lp_2 : ∀ (m_2 : Nat) (x1_2 : Int32) (I_2 : WI), Int.toNat (37 - (x1_2).toInt) < m_2 → (0 ≤ Int32.toInt x1_2 ∧ Int32.toInt x1_2 ≤ 37) → (Int32.toInt (I_2 (rf O a0 16) 27) = Int32.toInt (I0 (rf O a0 16) 27)) → (Int32.toInt x1_2 ≤ 27 ∨ Int32.toInt (I_2 (rf O a0 17) 27) = Int32.toInt (I_2 (rf O a0 16) 27)) → SQ mX49 P K O I0 J0 I_2 J0 → Wp (lp (B_Mo_copies_2 N O (a0)) (fun _ _ => none) m_2 x1_2 I_2) Q := by
    intro m_2
    induction m_2 with
    | zero => intro x1_2 I_2 hm; exact absurd hm (Nat.not_lt_zero _)
    | succ m_2 ih_2 =>
    intro x1_2 I_2 hm_2 iv0_2 iv1_2 iv2_2 hV_2
    have rg1_2 := rg x1_2
    show Wp (B_Mo_copies_2 N O (a0) (lp (B_Mo_copies_2 N O (a0)) (fun _ _ => none) m_2) x1_2 I_2) Q
    unfold B_Mo_copies_2
    refine Wp.ite (fun c_5 => ?_) (fun c_5 => ?_)
    · skip
      exact Wp.ret (hQ I_2 hV_2.1 hV_2.2 (by first | omega | (dsimp only; omega)))
    · skip
      have t_9 := rf_ok hV.1 h0 (show sp 10 17 = some 49 from rfl)
      have t_14 := rf_ok hV.1 h0 (show sp 10 16 = some 31 from rfl)
      refine Wp.pos (by omega) ?_
      refine Wp.pos (by omega) ?_
      refine Wp_lb (fun I1 eI1 => ?_)
      have hV1 : SQ mX49 P K O I0 J0 I1 J0 := by rw [eI1]; exact hV_2.putI t_9.2 rfl (okS_31 (by have q := hV_2.1.2 (rf O a0 16) tr_S.1 x1_2.toInt.toNat; rw [tr_S.2] at q; exact q))
      have cp1 : (x1_2).toInt = 27 → (I_2 (rf O a0 16) x1_2.toInt.toNat).toInt = (I_2 (rf O a0 16) 27).toInt := fun q => (by rw [show x1_2.toInt.toNat = 27 by omega])
      have tk1_rfOa017_27 : ((x1_2).toInt = 27 ∧ (I1 (rf O a0 17) 27).toInt = ((I_2 (rf O a0 16) (x1_2).toInt.toNat)).toInt) ∨ (¬ (x1_2).toInt = 27 ∧ (I1 (rf O a0 17) 27).toInt = (I_2 (rf O a0 17) 27).toInt) := by rw [eI1]; exact up2_dis (by omega) rfl
      have tk1_rfOa016_27 : (I1 (rf O a0 16) 27).toInt = (I_2 (rf O a0 16) 27).toInt := by rw [eI1, up2_ne _ _ (fun z => by have q := tr_S.2; rw [z.1, t_9.2] at q; exact absurd q (by decide))]
      refine Wp_lb (fun v1_20 ev_20 => ?_)
      have rv_20 := rg v1_20
      first | (have e_20 : v1_20.toInt = (x1_2).toInt + 1 := by rw [ev_20]; exact t_add rfl (ofI (by decide)) (by omega)) | skip
      clear ev_20
      exact ih_2 (v1_20) I1 (by omega) (by omega) (by omega) (by omega) hV1
  exact lp_2 N ((Int32.ofInt (0))) I0 (by have hci0 : Int32.toInt (Int32.ofInt (0)) = 0 := ofI (by decide); omega) (by have hci0 : Int32.toInt (Int32.ofInt (0)) = 0 := ofI (by decide); omega) (by omega) (by have hci0 : Int32.toInt (Int32.ofInt (0)) = 0 := ofI (by decide); omega) hV0
set_option maxHeartbeats 4000000 in
set_option maxRecDepth 100000 in
theorem s_Mo_isWell_G {P : List Nat} {K : Nat → Nat} {N : Nat} {O : WO} {I0 : WI} {J0 : WJ} (hN : 2147483648 ≤ N) (hV : IV P K I0 O) {a0 : Nat} (h0 : a0 ∈ P ∧ K a0 = 10) {x1 : Int32} {x2 : Int32} (hN3 : NN P K O a0 3 9) (hGM : GM I0 (rf O a0 3)) (pr0 : 1 ≤ Int32.toInt x1 ∧ Int32.toInt x1 ≤ 5) {Q : (Int32 × WI) → Prop} (hQ : ∀ (z : Int32) (I_ : WI), IV P K I_ O → FQ mT K I0 J0 I_ J0 → (z.toInt = 0 ∨ z.toInt = 1) → True → Q (z, I_)) : Wp (F_Mo_isWell N O I0 J0 a0 x1 x2) Q := by
  unfold F_Mo_isWell
  have r1 := rg x1
  have r2 := rg x2
  have tr_S := rf_ok hV.1 h0 (show sp 10 16 = some 31 from rfl)
  have tr_TW := rf_ok hV.1 h0 (show sp 10 17 = some 49 from rfl)
  have oS := hV.2 (rf O a0 16) tr_S.1 27
  rw [tr_S.2] at oS
  replace oS : 0 ≤ (I0 (rf O a0 16) 27).toInt ∧ (I0 (rf O a0 16) 27).toInt ≤ 240 := oS
  have hMs : ¬ O a0 3 = none := by rw [hN3.1]; exact fun z => by cases z
  have hV0 : SQ mT P K O I0 J0 I0 J0 := SQ.rf hV
  refine Wpc1 (s_Mo_copies hN hV0.1 h0 (fun I1 hI1 hF1 p_1 => ?_))
  have hV1 : SQ mT P K O I0 J0 I1 J0 := hV0.call (kpL_le (frL_le (by decide)) rfl) hI1 hF1
  have tk1_rfOa016_27 : (I1 (rf O a0 16) 27).toInt = (I0 (rf O a0 16) 27).toInt := by rw [(hF1 (rf O a0 16) 27 (by rw [tr_S.2]; rfl)).1]
  try dsimp only at p_1
  have lp_6 : ∀ (m_6 : Nat) (x3_6 : Int32) (I_6 : WI), Int.toNat (5 - (x3_6).toInt) < m_6 → (0 ≤ Int32.toInt x3_6 ∧ Int32.toInt x3_6 ≤ 5) → (Int32.toInt (I_6 (rf O a0 16) 27) = Int32.toInt (I0 (rf O a0 16) 27)) → (Int32.toInt (I_6 (rf O a0 17) 27) = Int32.toInt (I0 (rf O a0 16) 27) + (x3_6).toInt) → SQ mT P K O I0 J0 I_6 J0 → Wp (lp (B_Mo_isWell_6 N O (a0) (x1) (x2) (J0)) (fun _ _ => none) m_6 x3_6 I_6) Q := by
    intro m_6
    induction m_6 with
    | zero => intro x3_6 I_6 hm; exact absurd hm (Nat.not_lt_zero _)
    | succ m_6 ih_6 =>
    intro x3_6 I_6 hm_6 iv0_6 iv1_6 iv2_6 hV_6
    have rg3_6 := rg x3_6
    show Wp (B_Mo_isWell_6 N O (a0) (x1) (x2) (J0) (lp (B_Mo_isWell_6 N O (a0) (x1) (x2) (J0)) (fun _ _ => none) m_6) x3_6 I_6) Q
    unfold B_Mo_isWell_6
    refine Wp.ite (fun c_8 => ?_) (fun c_8 => ?_)
    · skip
      exact Wp.ret (hQ (Int32.ofInt (1)) I_6 hV_6.1 hV_6.2 (by have hci : Int32.toInt (Int32.ofInt (1)) = 1 := ofI (by decide); omega) trivial)
    · skip
      have t_12 := rf_ok hV.1 h0 (show sp 10 31 = some 38 from rfl)
      first | (have e_20 := t_sub (x := x1) (y := (Int32.ofInt (1))) rfl (ofI (by decide)) (by omega)) | skip
      first | (have e_22 := t_sub (x := (x1 - (Int32.ofInt (1)))) (y := x3_6) rfl rfl (by omega)) | skip
      first | (have e_23 := t_mul (x := (Int32.ofInt (2))) (y := ((x1 - (Int32.ofInt (1))) - x3_6)) (ofI (by decide)) rfl (by omega)) | skip
      have rz_24 := rg (x2 >>> (((Int32.ofInt (2)) * ((x1 - (Int32.ofInt (1))) - x3_6)) &&& 31))
      refine Wp.pos (by omega) ?_
      refine Wp_lb (fun I2 eI2 => ?_)
      have hV2 : SQ mT P K O I0 J0 I2 J0 := by rw [eI2]; exact hV_6.putI t_12.2 rfl trivial
      have tk2_rfOa017_27 : (I2 (rf O a0 17) 27).toInt = (I_6 (rf O a0 17) 27).toInt := by rw [eI2, up2_ne _ _ (fun z => by have q := tr_TW.2; rw [z.1, t_12.2] at q; exact absurd q (by decide))]
      have tk2_rfOa016_27 : (I2 (rf O a0 16) 27).toInt = (I_6 (rf O a0 16) 27).toInt := by rw [eI2, up2_ne _ _ (fun z => by have q := tr_S.2; rw [z.1, t_12.2] at q; exact absurd q (by decide))]
      have t_29 := rf_ok hV.1 h0 (show sp 10 17 = some 49 from rfl)
      have t_35 := rf_ok hV.1 h0 (show sp 10 31 = some 38 from rfl)
      refine Wp.pos (by omega) ?_
      refine Wp_lb (fun I3 eI3 => ?_)
      have hV3 : SQ mT P K O I0 J0 I3 J0 := by rw [eI3]; exact hV2.putI t_29.2 rfl trivial
      have tk3_rfOa017_27 : (I3 (rf O a0 17) 27).toInt = (I2 (rf O a0 17) 27).toInt := by rw [eI3, up2_ne _ _ (fun z => absurd z.2 (by decide))]
      have tk3_rfOa016_27 : (I3 (rf O a0 16) 27).toInt = (I2 (rf O a0 16) 27).toInt := by rw [eI3, up2_ne _ _ (fun z => by have q := tr_S.2; rw [z.1, t_29.2] at q; exact absurd q (by decide))]
      have t_43 := rf_ok hV.1 h0 (show sp 10 17 = some 49 from rfl)
      refine Wpc1 (s_Mo_goesT_G hN hV3.1 h0 t_43 hN3 (hGM.keep (fun k => (hV3.2 (rf O a0 3) k (by rw [hN3.2.2]; rfl)).1)) (by omega) (fun I4 hI4 hF4 p_46 => ?_))
      have hV4 : SQ mT P K O I0 J0 I4 J0 := hV3.call (kpL_le (frL_le (by decide)) rfl) hI4 hF4
      have tk4_rfOa016_27 : (I4 (rf O a0 16) 27).toInt = (I3 (rf O a0 16) 27).toInt := by rw [(hF4 (rf O a0 16) 27 (by rw [tr_S.2]; rfl)).1]
      try dsimp only at p_46
      have t_50 := rf_ok hV.1 h0 (show sp 10 17 = some 49 from rfl)
      refine Wp.ite (fun c_57 => ?_) (fun c_57 => ?_)
      · skip
        exact Wp.ret (hQ (Int32.ofInt (0)) I4 hV4.1 hV4.2 (by have hci : Int32.toInt (Int32.ofInt (0)) = 0 := ofI (by decide); omega) trivial)
      · skip
        have t_61 := rf_ok hV.1 h0 (show sp 10 17 = some 49 from rfl)
        have t_68 := rf_ok hV.1 h0 (show sp 10 16 = some 31 from rfl)
        refine Wp.ite (fun c_74 => ?_) (fun c_74 => ?_)
        · skip
          refine Wp_lb (fun v3_79 ev_79 => ?_)
          have rv_79 := rg v3_79
          first | (have e_79 : v3_79.toInt = (x3_6).toInt + 1 := by rw [ev_79]; exact t_add rfl (ofI (by decide)) (by omega)) | skip
          clear ev_79
          exact ih_6 (v3_79) I4 (by omega) (by omega) (by omega) (by omega) hV4
        · skip
          exact Wp.ret (hQ (Int32.ofInt (0)) I4 hV4.1 hV4.2 (by have hci : Int32.toInt (Int32.ofInt (0)) = 0 := ofI (by decide); omega) trivial)
  exact lp_6 N ((Int32.ofInt (0))) I1 (by have hci0 : Int32.toInt (Int32.ofInt (0)) = 0 := ofI (by decide); omega) (by have hci0 : Int32.toInt (Int32.ofInt (0)) = 0 := ofI (by decide); omega) (by omega) (by have hci0 : Int32.toInt (Int32.ofInt (0)) = 0 := ofI (by decide); omega) hV1
set_option maxHeartbeats 4000000 in
set_option maxRecDepth 100000 in
theorem s_Mo_rules_G {P : List Nat} {K : Nat → Nat} {N : Nat} {O : WO} {I0 : WI} {J0 : WJ} (hN : 2147483648 ≤ N) (hV : IV P K I0 O) {a0 : Nat} (h0 : a0 ∈ P ∧ K a0 = 10) {x1 : Int32} (hN3 : NN P K O a0 3 9) (hGM : GM I0 (rf O a0 3)) (pr0 : 1 ≤ Int32.toInt x1 ∧ Int32.toInt x1 ≤ 5) {Q : WI → Prop} (hQ : ∀ (I_ : WI), IV P K I_ O → FQ mT K I0 J0 I_ J0 → True → Q I_) : Wp (F_Mo_rules N O I0 J0 a0 x1) Q := by
  unfold F_Mo_rules
  have r1 := rg x1
  have tr_S := rf_ok hV.1 h0 (show sp 10 16 = some 31 from rfl)
  have tr_TW := rf_ok hV.1 h0 (show sp 10 17 = some 49 from rfl)
  have tr_TL := rf_ok hV.1 h0 (show sp 10 32 = some 50 from rfl)
  have oS := hV.2 (rf O a0 16) tr_S.1 27
  rw [tr_S.2] at oS
  replace oS : 0 ≤ (I0 (rf O a0 16) 27).toInt ∧ (I0 (rf O a0 16) 27).toInt ≤ 240 := oS
  have hMs : ¬ O a0 3 = none := by rw [hN3.1]; exact fun z => by cases z
  have hV0 : SQ mT P K O I0 J0 I0 J0 := SQ.rf hV
  refine Wpc1 (s_Mo_copies hN hV0.1 h0 (fun I1 hI1 hF1 p_1 => ?_))
  have hV1 : SQ mT P K O I0 J0 I1 J0 := hV0.call (kpL_le (frL_le (by decide)) rfl) hI1 hF1
  have tk1_rfOa016_27 : (I1 (rf O a0 16) 27).toInt = (I0 (rf O a0 16) 27).toInt := by rw [(hF1 (rf O a0 16) 27 (by rw [tr_S.2]; rfl)).1]
  have tk1_rfOa032_27 : (I1 (rf O a0 32) 27).toInt = (I0 (rf O a0 32) 27).toInt := by rw [(hF1 (rf O a0 32) 27 (by rw [tr_TL.2]; rfl)).1]
  try dsimp only at p_1
  have lp_6 : ∀ (m_6 : Nat) (x2_6 : Int32) (I_6 : WI), Int.toNat (5 - (x2_6).toInt) < m_6 → (0 ≤ Int32.toInt x2_6 ∧ Int32.toInt x2_6 ≤ 5) → (Int32.toInt (I_6 (rf O a0 16) 27) = Int32.toInt (I0 (rf O a0 16) 27)) → (Int32.toInt (I_6 (rf O a0 17) 27) = Int32.toInt (I0 (rf O a0 16) 27) + (x2_6).toInt) → SQ mT P K O I0 J0 I_6 J0 → Wp (lp (B_Mo_rules_6 N O (a0) (x1) (J0)) (fun _ _ => none) m_6 x2_6 I_6) Q := by
    intro m_6
    induction m_6 with
    | zero => intro x2_6 I_6 hm; exact absurd hm (Nat.not_lt_zero _)
    | succ m_6 ih_6 =>
    intro x2_6 I_6 hm_6 iv0_6 iv1_6 iv2_6 hV_6
    have rg2_6 := rg x2_6
    show Wp (B_Mo_rules_6 N O (a0) (x1) (J0) (lp (B_Mo_rules_6 N O (a0) (x1) (J0)) (fun _ _ => none) m_6) x2_6 I_6) Q
    unfold B_Mo_rules_6
    refine Wp.ite (fun c_8 => ?_) (fun c_8 => ?_)
    · skip
      exact Wp.ret (hQ I_6 hV_6.1 hV_6.2 trivial)
    · skip
      have lp_16 : ∀ (m_16 : Nat) (x3_16 : Int32) (x4_16 : Int32) (I_16 : WI), Int.toNat (4 - (x4_16).toInt) < m_16 → (0 ≤ Int32.toInt x4_16 ∧ Int32.toInt x4_16 ≤ 4) → (Int32.toInt (I_16 (rf O a0 16) 27) = Int32.toInt (I0 (rf O a0 16) 27)) → (Int32.toInt (I_16 (rf O a0 17) 27) = Int32.toInt (I0 (rf O a0 16) 27) + (x2_6).toInt) → SQ mT P K O I0 J0 I_16 J0 → Wp (lp (B_Mo_rules_16 N O (a0) (J0) (x2_6) ((lp (B_Mo_rules_6 N O (a0) (x1) (J0)) (fun _ _ => none) m_6))) (fun _ _ _ => none) m_16 x3_16 x4_16 I_16) Q := by
        intro m_16
        induction m_16 with
        | zero => intro x3_16 x4_16 I_16 hm; exact absurd hm (Nat.not_lt_zero _)
        | succ m_16 ih_16 =>
        intro x3_16 x4_16 I_16 hm_16 iv0_16 iv1_16 iv2_16 hV_16
        have rg3_16 := rg x3_16
        have rg4_16 := rg x4_16
        show Wp (B_Mo_rules_16 N O (a0) (J0) (x2_6) ((lp (B_Mo_rules_6 N O (a0) (x1) (J0)) (fun _ _ => none) m_6)) (lp (B_Mo_rules_16 N O (a0) (J0) (x2_6) ((lp (B_Mo_rules_6 N O (a0) (x1) (J0)) (fun _ _ => none) m_6))) (fun _ _ _ => none) m_16) x3_16 x4_16 I_16) Q
        unfold B_Mo_rules_16
        refine Wp_jq (fun k_110 => ∀ (y3_110 : Int32) (y4_110 : Int32) (IJ_110 : WI), (Int32.toInt (IJ_110 (rf O a0 16) 27) = Int32.toInt (I0 (rf O a0 16) 27)) → (Int32.toInt (IJ_110 (rf O a0 17) 27) = Int32.toInt (I0 (rf O a0 16) 27) + (x2_6).toInt) → SQ mT P K O I0 J0 IJ_110 J0 → Wp (k_110 y3_110 y4_110 IJ_110) Q) (fun y3_110 y4_110 IJ_110 jv0_110 jv1_110 hVJ_110 => ?_) (fun k_110 hk_110 => ?_)
        · skip
          have t_111 := rf_ok hV.1 h0 (show sp 10 17 = some 49 from rfl)
          refine Wp_jq (fun k_126 => ∀ (s0_126 : Int32), (Int32.toInt (IJ_110 (rf O a0 16) 27) = Int32.toInt (I0 (rf O a0 16) 27)) → (Int32.toInt (IJ_110 (rf O a0 17) 27) = Int32.toInt (I0 (rf O a0 16) 27) + (x2_6).toInt) → Wp (k_126 s0_126) Q) (fun s0_126 jv0_126 jv1_126  => ?_) (fun k_126 hk_126 => ?_)
          · skip
            have rgs_s0_126 := rg s0_126
            refine Wp_lb (fun I2 eI2 => ?_)
            have hV2 : SQ mT P K O I0 J0 I2 J0 := by rw [eI2]; exact hVJ_110.putI t_111.2 rfl trivial
            have tk2_rfOa017_27 : (I2 (rf O a0 17) 27).toInt = (IJ_110 (rf O a0 17) 27).toInt := by rw [eI2, up2_ne _ _ (fun z => absurd z.2 (by decide))]
            have tk2_rfOa016_27 : (I2 (rf O a0 16) 27).toInt = (IJ_110 (rf O a0 16) 27).toInt := by rw [eI2, up2_ne _ _ (fun z => by have q := tr_S.2; rw [z.1, t_111.2] at q; exact absurd q (by decide))]
            have tk2_rfOa032_27 : (I2 (rf O a0 32) 27).toInt = (IJ_110 (rf O a0 32) 27).toInt := by rw [eI2, up2_ne _ _ (fun z => by have q := tr_TL.2; rw [z.1, t_111.2] at q; exact absurd q (by decide))]
            have t_129 := rf_ok hV.1 h0 (show sp 10 17 = some 49 from rfl)
            refine Wpc1 (s_Mo_goesT_G hN hV2.1 h0 t_129 hN3 (hGM.keep (fun k => (hV2.2 (rf O a0 3) k (by rw [hN3.2.2]; rfl)).1)) (by omega) (fun I3 hI3 hF3 p_132 => ?_))
            have hV3 : SQ mT P K O I0 J0 I3 J0 := hV2.call (kpL_le (frL_le (by decide)) rfl) hI3 hF3
            have tk3_rfOa016_27 : (I3 (rf O a0 16) 27).toInt = (I2 (rf O a0 16) 27).toInt := by rw [(hF3 (rf O a0 16) 27 (by rw [tr_S.2]; rfl)).1]
            have tk3_rfOa032_27 : (I3 (rf O a0 32) 27).toInt = (I2 (rf O a0 32) 27).toInt := by rw [(hF3 (rf O a0 32) 27 (by rw [tr_TL.2]; rfl)).1]
            try dsimp only at p_132
            refine Wp_lb (fun v2_135 ev_135 => ?_)
            have rv_135 := rg v2_135
            first | (have e_135 : v2_135.toInt = (x2_6).toInt + 1 := by rw [ev_135]; exact t_add rfl (ofI (by decide)) (by omega)) | skip
            clear ev_135
            exact ih_6 (v2_135) I3 (by omega) (by omega) (by omega) (by omega) hV3
          refine Wp.ite (fun c_118 => ?_) (fun c_118 => ?_)
          · skip
            exact hk_126 ((Int32.ofInt (0))) (by omega) (by omega) 
          · skip
            exact hk_126 (y3_110) (by omega) (by omega) 
        refine Wp.ite (fun c_19 => ?_) (fun c_19 => ?_)
        · skip
          exact hk_110 (x3_16) (x4_16) I_16 (by omega) (by omega) hV_16
        · skip
          refine Wp.ite (fun c_24 => ?_) (fun c_24 => ?_)
          · skip
            have lp_30 : ∀ (m_30 : Nat) (x5_30 : Int32) (I_30 : WI), Int.toNat (37 - (x5_30).toInt) < m_30 → (0 ≤ Int32.toInt x5_30 ∧ Int32.toInt x5_30 ≤ 37) → (Int32.toInt (I_30 (rf O a0 16) 27) = Int32.toInt (I0 (rf O a0 16) 27)) → (Int32.toInt (I_30 (rf O a0 17) 27) = Int32.toInt (I0 (rf O a0 16) 27) + (x2_6).toInt) → (Int32.toInt x5_30 ≤ 27 ∨ Int32.toInt (I_30 (rf O a0 32) 27) = Int32.toInt (I_30 (rf O a0 17) 27)) → SQ mT P K O I0 J0 I_30 J0 → Wp (lp (B_Mo_rules_30 N O (a0) (J0) (x3_16) (x4_16) ((lp (B_Mo_rules_16 N O (a0) (J0) (x2_6) ((lp (B_Mo_rules_6 N O (a0) (x1) (J0)) (fun _ _ => none) m_6))) (fun _ _ _ => none) m_16))) (fun _ _ => none) m_30 x5_30 I_30) Q := by
              intro m_30
              induction m_30 with
              | zero => intro x5_30 I_30 hm; exact absurd hm (Nat.not_lt_zero _)
              | succ m_30 ih_30 =>
              intro x5_30 I_30 hm_30 iv0_30 iv1_30 iv2_30 iv3_30 hV_30
              have rg5_30 := rg x5_30
              show Wp (B_Mo_rules_30 N O (a0) (J0) (x3_16) (x4_16) ((lp (B_Mo_rules_16 N O (a0) (J0) (x2_6) ((lp (B_Mo_rules_6 N O (a0) (x1) (J0)) (fun _ _ => none) m_6))) (fun _ _ _ => none) m_16)) (lp (B_Mo_rules_30 N O (a0) (J0) (x3_16) (x4_16) ((lp (B_Mo_rules_16 N O (a0) (J0) (x2_6) ((lp (B_Mo_rules_6 N O (a0) (x1) (J0)) (fun _ _ => none) m_6))) (fun _ _ _ => none) m_16))) (fun _ _ => none) m_30) x5_30 I_30) Q
              unfold B_Mo_rules_30
              refine Wp.ite (fun c_34 => ?_) (fun c_34 => ?_)
              · skip
                have t_58 := rf_ok hV.1 h0 (show sp 10 32 = some 50 from rfl)
                refine Wp_lb (fun I4 eI4 => ?_)
                have hV4 : SQ mT P K O I0 J0 I4 J0 := by rw [eI4]; exact hV_30.putI t_58.2 rfl trivial
                have tk4_rfOa017_27 : (I4 (rf O a0 17) 27).toInt = (I_30 (rf O a0 17) 27).toInt := by rw [eI4, up2_ne _ _ (fun z => by have q := tr_TW.2; rw [z.1, t_58.2] at q; exact absurd q (by decide))]
                have tk4_rfOa016_27 : (I4 (rf O a0 16) 27).toInt = (I_30 (rf O a0 16) 27).toInt := by rw [eI4, up2_ne _ _ (fun z => by have q := tr_S.2; rw [z.1, t_58.2] at q; exact absurd q (by decide))]
                have tk4_rfOa032_27 : (I4 (rf O a0 32) 27).toInt = (I_30 (rf O a0 32) 27).toInt := by rw [eI4, up2_ne _ _ (fun z => absurd z.2 (by decide))]
                have t_68 := rf_ok hV.1 h0 (show sp 10 32 = some 50 from rfl)
                refine Wpc1 (s_Mo_goesU_G hN hV4.1 h0 t_68 hN3 (hGM.keep (fun k => (hV4.2 (rf O a0 3) k (by rw [hN3.2.2]; rfl)).1)) (by omega) (fun I5 hI5 hF5 p_71 => ?_))
                have hV5 : SQ mT P K O I0 J0 I5 J0 := hV4.call (kpL_le (frL_le (by decide)) rfl) hI5 hF5
                have tk5_rfOa017_27 : (I5 (rf O a0 17) 27).toInt = (I4 (rf O a0 17) 27).toInt := by rw [(hF5 (rf O a0 17) 27 (by rw [tr_TW.2]; rfl)).1]
                have tk5_rfOa016_27 : (I5 (rf O a0 16) 27).toInt = (I4 (rf O a0 16) 27).toInt := by rw [(hF5 (rf O a0 16) 27 (by rw [tr_S.2]; rfl)).1]
                try dsimp only at p_71
                have t_75 := rf_ok hV.1 h0 (show sp 10 32 = some 50 from rfl)
                refine Wp_jq (fun k_104 => ∀ (y3_104 : Int32), (Int32.toInt (I5 (rf O a0 16) 27) = Int32.toInt (I0 (rf O a0 16) 27)) → (Int32.toInt (I5 (rf O a0 17) 27) = Int32.toInt (I0 (rf O a0 16) 27) + (x2_6).toInt) → Wp (k_104 y3_104) Q) (fun y3_104 jv0_104 jv1_104  => ?_) (fun k_104 hk_104 => ?_)
                · skip
                  refine Wp_lb (fun v4_104 ev_104 => ?_)
                  have rv_104 := rg v4_104
                  first | (have e_104 : v4_104.toInt = (x4_16).toInt + 1 := by rw [ev_104]; exact t_add rfl (ofI (by decide)) (by omega)) | skip
                  clear ev_104
                  exact ih_16 (y3_104) (v4_104) I5 (by omega) (by omega) (by omega) (by omega) hV5
                refine Wp.ite (fun c_81 => ?_) (fun c_81 => ?_)
                · skip
                  have t_85 := rf_ok hV.1 h0 (show sp 10 32 = some 50 from rfl)
                  have t_92 := rf_ok hV.1 h0 (show sp 10 17 = some 49 from rfl)
                  refine Wp.ite (fun c_98 => ?_) (fun c_98 => ?_)
                  · skip
                    exact hk_104 (x4_16) (by omega) (by omega) 
                  · skip
                    exact hk_104 (x3_16) (by omega) (by omega) 
                · skip
                  exact hk_104 (x3_16) (by omega) (by omega) 
              · skip
                have t_38 := rf_ok hV.1 h0 (show sp 10 32 = some 50 from rfl)
                have t_44 := rf_ok hV.1 h0 (show sp 10 17 = some 49 from rfl)
                refine Wp.pos (by omega) ?_
                refine Wp.pos (by omega) ?_
                refine Wp_lb (fun I6 eI6 => ?_)
                have hV6 : SQ mT P K O I0 J0 I6 J0 := by rw [eI6]; exact hV_30.putI t_38.2 rfl (okS_49 (by have q := hV_30.1.2 (rf O a0 17) tr_TW.1 x5_30.toInt.toNat; rw [tr_TW.2] at q; exact q))
                have tk6_rfOa017_27 : (I6 (rf O a0 17) 27).toInt = (I_30 (rf O a0 17) 27).toInt := by rw [eI6, up2_ne _ _ (fun z => by have q := tr_TW.2; rw [z.1, t_38.2] at q; exact absurd q (by decide))]
                have tk6_rfOa016_27 : (I6 (rf O a0 16) 27).toInt = (I_30 (rf O a0 16) 27).toInt := by rw [eI6, up2_ne _ _ (fun z => by have q := tr_S.2; rw [z.1, t_38.2] at q; exact absurd q (by decide))]
                have cp6 : (x5_30).toInt = 27 → (I_30 (rf O a0 17) x5_30.toInt.toNat).toInt = (I_30 (rf O a0 17) 27).toInt := fun q => (by rw [show x5_30.toInt.toNat = 27 by omega])
                have tk6_rfOa032_27 : ((x5_30).toInt = 27 ∧ (I6 (rf O a0 32) 27).toInt = ((I_30 (rf O a0 17) (x5_30).toInt.toNat)).toInt) ∨ (¬ (x5_30).toInt = 27 ∧ (I6 (rf O a0 32) 27).toInt = (I_30 (rf O a0 32) 27).toInt) := by rw [eI6]; exact up2_dis (by omega) rfl
                refine Wp_lb (fun v5_51 ev_51 => ?_)
                have rv_51 := rg v5_51
                first | (have e_51 : v5_51.toInt = (x5_30).toInt + 1 := by rw [ev_51]; exact t_add rfl (ofI (by decide)) (by omega)) | skip
                clear ev_51
                exact ih_30 (v5_51) I6 (by omega) (by omega) (by omega) (by omega) (by omega) hV6
            exact lp_30 N ((Int32.ofInt (0))) I_16 (by have hci0 : Int32.toInt (Int32.ofInt (0)) = 0 := ofI (by decide); omega) (by have hci0 : Int32.toInt (Int32.ofInt (0)) = 0 := ofI (by decide); omega) (by omega) (by omega) (by have hci0 : Int32.toInt (Int32.ofInt (0)) = 0 := ofI (by decide); omega) hV_16
          · skip
            exact hk_110 (x3_16) (x4_16) I_16 (by omega) (by omega) hV_16
      exact lp_16 N ((Int32.ofInt (-1))) ((Int32.ofInt (0))) I_6 (by have hci0 : Int32.toInt (Int32.ofInt (0)) = 0 := ofI (by decide); omega) (by have hci0 : Int32.toInt (Int32.ofInt (0)) = 0 := ofI (by decide); omega) (by omega) (by omega) hV_6
  exact lp_6 N ((Int32.ofInt (0))) I1 (by have hci0 : Int32.toInt (Int32.ofInt (0)) = 0 := ofI (by decide); omega) (by have hci0 : Int32.toInt (Int32.ofInt (0)) = 0 := ofI (by decide); omega) (by omega) (by have hci0 : Int32.toInt (Int32.ofInt (0)) = 0 := ofI (by decide); omega) hV1
set_option maxHeartbeats 4000000 in
set_option maxRecDepth 100000 in
theorem s_Mo_leads_G {P : List Nat} {K : Nat → Nat} {N : Nat} {O : WO} {I0 : WI} {J0 : WJ} (hN : 2147483648 ≤ N) (hV : IV P K I0 O) {a0 : Nat} (h0 : a0 ∈ P ∧ K a0 = 10) (hN3 : NN P K O a0 3 9) (hGM : GM I0 (rf O a0 3)) {Q : (Int64 × WI × WJ) → Prop} (hQ : ∀ (z : Int64) (I_ : WI) (J_ : WJ), IV P K I_ O → FQ mY41 K I0 J0 I_ J_ → True → Q (z, I_, J_)) : Wp (F_Mo_leads N O I0 J0 a0) Q := by
  unfold F_Mo_leads
  have hMs : ¬ O a0 3 = none := by rw [hN3.1]; exact fun z => by cases z
  have hV0 : SQ mY41 P K O I0 J0 I0 J0 := SQ.rf hV
  have lp_2 : ∀ (m_2 : Nat) (x1_2 : Int32) (J_2 : WJ), Int.toNat (5 - (x1_2).toInt) < m_2 → (0 ≤ Int32.toInt x1_2 ∧ Int32.toInt x1_2 ≤ 5) → SQ mY41 P K O I0 J0 I0 J_2 → Wp (lp (B_Mo_leads_2 N O (a0) (I0)) (fun _ _ => none) m_2 x1_2 J_2) Q := by
    intro m_2
    induction m_2 with
    | zero => intro x1_2 J_2 hm; exact absurd hm (Nat.not_lt_zero _)
    | succ m_2 ih_2 =>
    intro x1_2 J_2 hm_2 iv0_2 hV_2
    have rg1_2 := rg x1_2
    show Wp (B_Mo_leads_2 N O (a0) (I0) (lp (B_Mo_leads_2 N O (a0) (I0)) (fun _ _ => none) m_2) x1_2 J_2) Q
    unfold B_Mo_leads_2
    have o_7 := hV_2.1.2 (rf O a0 3) hN3.2.1 8
    rw [hN3.2.2] at o_7
    replace o_7 : 0 ≤ (I0 (rf O a0 3) 8).toInt ∧ (I0 (rf O a0 3) 8).toInt ≤ 5 := o_7
    refine Wp.ite (fun c_10 => ?_) (fun c_10 => ?_)
    · skip
      have t_42 := rf_ok hV.1 h0 (show sp 10 17 = some 49 from rfl)
      refine Wp.ite (fun c_49 => ?_) (fun c_49 => ?_)
      · skip
        exact Wp.ret (hQ (0 : Int64) I0 J_2 hV_2.1 hV_2.2 trivial)
      · skip
        have o_58 := hV_2.1.2 (rf O a0 3) hN3.2.1 8
        rw [hN3.2.2] at o_58
        replace o_58 : 0 ≤ (I0 (rf O a0 3) 8).toInt ∧ (I0 (rf O a0 3) 8).toInt ≤ 5 := o_58
        first | (have e_62 := t_sub (x := (I0 (rf O a0 3) 8)) (y := (Int32.ofInt (2))) rfl (ofI (by decide)) (by omega)) | skip
        refine Wp_lb (fun v1_63 ev_63 => ?_)
        have ei_63 := congrArg Int32.toInt ev_63
        have rv_63 := rg v1_63
        have lp_64 : ∀ (m_64 : Nat) (x1_64 : Int32) (J_64 : WJ), Int.toNat ((x1_64).toInt + 3) < m_64 → (-2 ≤ Int32.toInt x1_64 ∧ Int32.toInt x1_64 ≤ 3) → SQ mY41 P K O I0 J0 I0 J_64 → Wp (lp (B_Mo_leads_64 N O (a0) (I0)) (fun _ _ => none) m_64 x1_64 J_64) Q := by
          intro m_64
          induction m_64 with
          | zero => intro x1_64 J_64 hm; exact absurd hm (Nat.not_lt_zero _)
          | succ m_64 ih_64 =>
          intro x1_64 J_64 hm_64 iv0_64 hV_64
          have rg1_64 := rg x1_64
          show Wp (B_Mo_leads_64 N O (a0) (I0) (lp (B_Mo_leads_64 N O (a0) (I0)) (fun _ _ => none) m_64) x1_64 J_64) Q
          unfold B_Mo_leads_64
          refine Wp.ite (fun c_65 => ?_) (fun c_65 => ?_)
          · skip
            have lp_184 : ∀ (m_184 : Nat) (x1_184 : Int64) (x3_184 : Int32) (J_184 : WJ), Int.toNat (5 - (x3_184).toInt) < m_184 → (0 ≤ Int32.toInt x3_184 ∧ Int32.toInt x3_184 ≤ 5) → SQ mY41 P K O I0 J0 I0 J_184 → Wp (lp (B_Mo_leads_184 N O (a0) (I0)) (fun _ _ _ => none) m_184 x1_184 x3_184 J_184) Q := by
              intro m_184
              induction m_184 with
              | zero => intro x1_184 x3_184 J_184 hm; exact absurd hm (Nat.not_lt_zero _)
              | succ m_184 ih_184 =>
              intro x1_184 x3_184 J_184 hm_184 iv0_184 hV_184
              have rg3_184 := rg x3_184
              show Wp (B_Mo_leads_184 N O (a0) (I0) (lp (B_Mo_leads_184 N O (a0) (I0)) (fun _ _ _ => none) m_184) x1_184 x3_184 J_184) Q
              unfold B_Mo_leads_184
              have o_189 := hV_184.1.2 (rf O a0 3) hN3.2.1 8
              rw [hN3.2.2] at o_189
              replace o_189 : 0 ≤ (I0 (rf O a0 3) 8).toInt ∧ (I0 (rf O a0 3) 8).toInt ≤ 5 := o_189
              refine Wp.ite (fun c_192 => ?_) (fun c_192 => ?_)
              · skip
                exact Wp.ret (hQ x1_184 I0 J_184 hV_184.1 hV_184.2 trivial)
              · skip
                have t_196 := rf_ok hV.1 h0 (show sp 10 35 = some 41 from rfl)
                refine Wp.pos (by omega) ?_
                have t_206 := rf_ok hV.1 h0 (show sp 10 17 = some 49 from rfl)
                first | (have e_212 := t_mul (x := (Int32.ofInt (10))) (y := (I0 (rf O a0 17) 35)) (ofI (by decide)) rfl (by omega)) | skip
                first | (have e_213 := t_add (x := (Int32.ofInt (20))) (y := ((Int32.ofInt (10)) * (I0 (rf O a0 17) 35))) (ofI (by decide)) rfl (by omega)) | skip
                have e_214 : ((((Int32.ofInt (20)) + ((Int32.ofInt (10)) * (I0 (rf O a0 17) 35)))).toInt64).toInt = (((Int32.ofInt (20)) + ((Int32.ofInt (10)) * (I0 (rf O a0 17) 35)))).toInt := by rw [Int32.toInt_toInt64]
                refine Wp_lb (fun v4_220 ev_220 => ?_)
                have t_227 := rf_ok hV.1 h0 (show sp 10 17 = some 49 from rfl)
                refine Wpc1 (s_Mo_passes_G hN hV_184.1 h0 hN3 (hGM.keep (fun k => (hV_184.2 (rf O a0 3) k (by rw [hN3.2.2]; rfl)).1)) (fun z_233 p_233 => ?_))
                have rz_233 := rg z_233
                have e_236 : ((z_233).toInt64).toInt = (z_233).toInt := by rw [Int32.toInt_toInt64]
                refine Wp_lb (fun v6_242 ev_242 => ?_)
                have t_245 := rf_ok hV.1 h0 (show sp 10 35 = some 41 from rfl)
                refine Wp.pos (by omega) ?_
                refine Wp.pos (by omega) ?_
                refine Wp_lb (fun J2 eJ2 => ?_)
                have hV2 : SQ mY41 P K O I0 J0 I0 J2 := by rw [eJ2]; exact hV_184.putJ t_245.2 rfl
                have t_256 := rf_ok hV.1 h0 (show sp 10 36 = some 41 from rfl)
                refine Wp.pos (by omega) ?_
                refine Wp_lb (fun J3 eJ3 => ?_)
                have hV3 : SQ mY41 P K O I0 J0 I0 J3 := by rw [eJ3]; exact hV2.putJ t_256.2 rfl
                refine Wp_lb (fun v1_270 ev_270 => ?_)
                refine Wp_lb (fun v3_271 ev_271 => ?_)
                have rv_271 := rg v3_271
                first | (have e_271 : v3_271.toInt = (x3_184).toInt + 1 := by rw [ev_271]; exact t_add rfl (ofI (by decide)) (by omega)) | skip
                clear ev_271
                exact ih_184 (v1_270) (v3_271) J3 (by omega) (by omega) hV3
            exact lp_184 N ((0 : Int64)) ((Int32.ofInt (0))) J_64 (by have hci0 : Int32.toInt (Int32.ofInt (0)) = 0 := ofI (by decide); omega) (by have hci0 : Int32.toInt (Int32.ofInt (0)) = 0 := ofI (by decide); omega) hV_64
          · skip
            have t_69 := rf_ok hV.1 h0 (show sp 10 35 = some 41 from rfl)
            refine Wp.pos (by omega) ?_
            have t_78 := rf_ok hV.1 hN3.2 (show sp 9 12 = some 43 from rfl)
            refine Wp.pos (by omega) ?_
            have e_83 : (((I0 (rf O (rf O a0 3) 12) (x1_64).toInt.toNat)).toInt64).toInt = ((I0 (rf O (rf O a0 3) 12) (x1_64).toInt.toNat)).toInt := by rw [Int32.toInt_toInt64]
            have t_86 := rf_ok hV.1 h0 (show sp 10 17 = some 49 from rfl)
            have e_92 : (((I0 (rf O a0 17) 29)).toInt64).toInt = ((I0 (rf O a0 17) 29)).toInt := by rw [Int32.toInt_toInt64]
            refine Wp_lb (fun v2_98 ev_98 => ?_)
            have t_104 := rf_ok hV.1 hN3.2 (show sp 9 13 = some 43 from rfl)
            refine Wp.pos (by omega) ?_
            have e_109 : (((I0 (rf O (rf O a0 3) 13) (x1_64).toInt.toNat)).toInt64).toInt = ((I0 (rf O (rf O a0 3) 13) (x1_64).toInt.toNat)).toInt := by rw [Int32.toInt_toInt64]
            refine Wp_lb (fun v4_115 ev_115 => ?_)
            have t_118 := rf_ok hV.1 h0 (show sp 10 35 = some 41 from rfl)
            refine Wp.pos (by omega) ?_
            refine Wp.pos (by omega) ?_
            refine Wp_lb (fun J4 eJ4 => ?_)
            have hV4 : SQ mY41 P K O I0 J0 I0 J4 := by rw [eJ4]; exact hV_64.putJ t_118.2 rfl
            have t_128 := rf_ok hV.1 h0 (show sp 10 35 = some 41 from rfl)
            first | (have e_133 := t_add (x := x1_64) (y := (Int32.ofInt (1))) rfl (ofI (by decide)) (by omega)) | skip
            refine Wp.pos (by omega) ?_
            refine Wp.pos (by omega) ?_
            refine Wp_lb (fun J5 eJ5 => ?_)
            have hV5 : SQ mY41 P K O I0 J0 I0 J5 := by rw [eJ5]; exact hV4.putJ t_128.2 rfl
            have t_141 := rf_ok hV.1 h0 (show sp 10 35 = some 41 from rfl)
            first | (have e_146 := t_add (x := x1_64) (y := (Int32.ofInt (2))) rfl (ofI (by decide)) (by omega)) | skip
            have o_151 := hV5.1.2 (rf O a0 3) hN3.2.1 8
            rw [hN3.2.2] at o_151
            replace o_151 : 0 ≤ (I0 (rf O a0 3) 8).toInt ∧ (I0 (rf O a0 3) 8).toInt ≤ 5 := o_151
            refine Wp_jq (fun k_166 => ∀ (s0_166 : Int32), (0 ≤ Int32.toInt s0_166 ∧ Int32.toInt s0_166 ≤ 4) → Wp (k_166 s0_166) Q) (fun s0_166 jv0_166  => ?_) (fun k_166 hk_166 => ?_)
            · skip
              have rgs_s0_166 := rg s0_166
              refine Wp.pos (by omega) ?_
              refine Wp.pos (by omega) ?_
              refine Wp_lb (fun J6 eJ6 => ?_)
              have hV6 : SQ mY41 P K O I0 J0 I0 J6 := by rw [eJ6]; exact hV5.putJ t_141.2 rfl
              refine Wp_lb (fun v1_174 ev_174 => ?_)
              have rv_174 := rg v1_174
              first | (have e_174 : v1_174.toInt = (x1_64).toInt + (-1) := by rw [ev_174]; exact t_add rfl (ofI (by decide)) (by omega)) | skip
              clear ev_174
              exact ih_64 (v1_174) J6 (by omega) (by omega) hV6
            refine Wp.ite (fun c_154 => ?_) (fun c_154 => ?_)
            · skip
              first | (have e_165 := t_add (x := x1_64) (y := (Int32.ofInt (1))) rfl (ofI (by decide)) (by omega)) | skip
              exact hk_166 ((x1_64 + (Int32.ofInt (1)))) (by omega) 
            · skip
              first | (have e_159 := t_add (x := x1_64) (y := (Int32.ofInt (2))) rfl (ofI (by decide)) (by omega)) | skip
              exact hk_166 ((x1_64 + (Int32.ofInt (2)))) (by omega) 
        exact lp_64 N (v1_63) J_2 (by omega) (by omega) hV_2
    · skip
      have t_14 := rf_ok hV.1 h0 (show sp 10 35 = some 41 from rfl)
      refine Wp.pos (by omega) ?_
      have t_21 := rf_ok hV.1 h0 (show sp 10 36 = some 41 from rfl)
      refine Wp.pos (by omega) ?_
      refine Wp.pos (by omega) ?_
      refine Wp_lb (fun J7 eJ7 => ?_)
      have hV7 : SQ mY41 P K O I0 J0 I0 J7 := by rw [eJ7]; exact hV_2.putJ t_14.2 rfl
      have t_29 := rf_ok hV.1 h0 (show sp 10 36 = some 41 from rfl)
      refine Wp.pos (by omega) ?_
      refine Wp_lb (fun J8 eJ8 => ?_)
      have hV8 : SQ mY41 P K O I0 J0 I0 J8 := by rw [eJ8]; exact hV7.putJ t_29.2 rfl
      refine Wp_lb (fun v1_35 ev_35 => ?_)
      have rv_35 := rg v1_35
      first | (have e_35 : v1_35.toInt = (x1_2).toInt + 1 := by rw [ev_35]; exact t_add rfl (ofI (by decide)) (by omega)) | skip
      clear ev_35
      exact ih_2 (v1_35) J8 (by omega) (by omega) hV8
  exact lp_2 N ((Int32.ofInt (0))) J0 (by have hci0 : Int32.toInt (Int32.ofInt (0)) = 0 := ofI (by decide); omega) (by have hci0 : Int32.toInt (Int32.ofInt (0)) = 0 := ofI (by decide); omega) hV0
