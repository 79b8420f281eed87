set_option maxHeartbeats 4000000 in
set_option maxRecDepth 100000 in
theorem s_Mo_go_Z {P : List Nat} {K : Nat → Nat} {N : Nat} {O : WO} {I0 : WI} {J0 : WJ} (hN : 2147483648 ≤ N) (hV : IV P K I0 O) {a0 : Nat} (h0 : a0 ∈ P ∧ K a0 = 10) {x1 : Int32} (hMn : O a0 3 = none) {Q : (Int32 × WI) → Prop} (hQ : ∀ (z : Int32) (I_ : WI), IV P K I_ O → FQ mS K I0 J0 I_ J0 → (Int32.toInt (I_ a0 2) = -1 ∧ (I_ a0 6).toInt = (I0 a0 6).toInt ∧ (I_ a0 18).toInt = (I0 a0 18).toInt ∧ (I_ (rf O a0 16) 27).toInt = (I0 (rf O a0 16) 27).toInt) → Q (z, I_)) : Wp (F_Mo_go N O I0 J0 a0 x1) Q := by
  unfold F_Mo_go
  have r1 := rg x1
  have tr_S := rf_ok hV.1 h0 (show sp 10 16 = some 31 from rfl)
  have oS := hV.2 (rf O a0 16) tr_S.1 27
  rw [tr_S.2] at oS
  replace oS : 0 ≤ (I0 (rf O a0 16) 27).toInt ∧ (I0 (rf O a0 16) 27).toInt ≤ 240 := oS
  have ost := hV.2 a0 h0.1 18
  rw [h0.2] at ost
  replace ost : 0 ≤ (I0 a0 18).toInt ∧ (I0 a0 18).toInt ≤ 240 := ost
  have hV0 : SQ mS P K O I0 J0 I0 J0 := SQ.rf hV
  refine Wp_lb (fun I1 eI1 => ?_)
  have hV1 : SQ mS P K O I0 J0 I1 J0 := by rw [eI1]; exact hV0.putI h0.2 rfl trivial
  have tk1_a0_6 : (I1 a0 6).toInt = (I0 a0 6).toInt := by rw [eI1, up2_ne _ _ (fun z => absurd z.2 (by decide))]
  have tk1_a0_18 : (I1 a0 18).toInt = (I0 a0 18).toInt := by rw [eI1, up2_ne _ _ (fun z => absurd z.2 (by decide))]
  have tk1_rfOa016_27 : (I1 (rf O a0 16) 27).toInt = (I0 (rf O a0 16) 27).toInt := by rw [eI1, up2_ne _ _ (fun z => by have q := tr_S.2; rw [z.1, h0.2] at q; exact absurd q (by decide))]
  refine Wp.pos hMn ?_
  refine Wpc2 (s_Mo_refused hN hV1.1 h0 (fun z_14 I2 hI2 hF2 p_14 => ?_))
  have hV2 : SQ mS P K O I0 J0 I2 J0 := hV1.call (kpL_le (frL_le (by decide)) rfl) hI2 hF2
  have tk2_rfOa016_27 : (I2 (rf O a0 16) 27).toInt = (I1 (rf O a0 16) 27).toInt := by rw [(hF2 (rf O a0 16) 27 (by rw [tr_S.2]; rfl)).1]
  try dsimp only at p_14
  have hk1_14 : Int32.toInt (Int32.ofInt (1)) = 1 := ofI (by decide)
  have rz_14 := rg z_14
  exact Wp.ret (hQ z_14 I2 hV2.1 hV2.2 (by first | omega | (dsimp only; omega)))
set_option maxHeartbeats 4000000 in
set_option maxRecDepth 100000 in
theorem s_Mo_go_G {P : List Nat} {K : Nat → Nat} {N : Nat} {O : WO} {I0 : WI} {J0 : WJ} (hN : 2147483648 ≤ N) (hV : IV P K I0 O) {a0 : Nat} (h0 : a0 ∈ P ∧ K a0 = 10) {x1 : Int32} (hN3 : NN P K O a0 3 9) (hGM : GM I0 (rf O a0 3)) (pr0 : 0 ≤ Int32.toInt (I0 a0 18) ∧ Int32.toInt (I0 a0 18) ≤ Int32.toInt (I0 (rf O a0 16) 27)) {Q : (Int32 × WI) → Prop} (hQ : ∀ (z : Int32) (I_ : WI), IV P K I_ O → FQ mS K I0 J0 I_ J0 → (0 ≤ Int32.toInt (I_ a0 18) ∧ Int32.toInt (I_ a0 18) ≤ Int32.toInt (I_ (rf O a0 16) 27) ∧ Int32.toInt (I_ a0 6) = Int32.toInt (I0 a0 6) ∧ Int32.toInt (I_ a0 2) = -1) → Q (z, I_)) : Wp (F_Mo_go N O I0 J0 a0 x1) Q := by
  unfold F_Mo_go
  have r1 := rg x1
  have tr_S := rf_ok hV.1 h0 (show sp 10 16 = some 31 from rfl)
  have oS := hV.2 (rf O a0 16) tr_S.1 27
  rw [tr_S.2] at oS
  replace oS : 0 ≤ (I0 (rf O a0 16) 27).toInt ∧ (I0 (rf O a0 16) 27).toInt ≤ 240 := oS
  have hMs : ¬ O a0 3 = none := by rw [hN3.1]; exact fun z => by cases z
  have hV0 : SQ mS P K O I0 J0 I0 J0 := SQ.rf hV
  refine Wp_lb (fun I1 eI1 => ?_)
  have hV1 : SQ mS P K O I0 J0 I1 J0 := by rw [eI1]; exact hV0.putI h0.2 rfl trivial
  have tk1_a0_18 : (I1 a0 18).toInt = (I0 a0 18).toInt := by rw [eI1, up2_ne _ _ (fun z => absurd z.2 (by decide))]
  have tk1_rfOa016_27 : (I1 (rf O a0 16) 27).toInt = (I0 (rf O a0 16) 27).toInt := by rw [eI1, up2_ne _ _ (fun z => by have q := tr_S.2; rw [z.1, h0.2] at q; exact absurd q (by decide))]
  have tk1_a0_6 : (I1 a0 6).toInt = (I0 a0 6).toInt := by rw [eI1, up2_ne _ _ (fun z => absurd z.2 (by decide))]
  refine Wp.neg hMs ?_
  refine Wpc1 (s_Mo_in hN hV1.1  (fun z_22 b_22 p_22 => ?_))
  try dsimp only at p_22
  have hk1_22 : Int32.toInt (Int32.ofInt (1)) = 1 := ofI (by decide)
  have hk2_22 : Int32.toInt (Int32.ofInt (24)) = 24 := ofI (by decide)
  have rz_22 := rg z_22
  refine Wp.ite (fun c_25 => ?_) (fun c_25 => ?_)
  · skip
    refine Wpc2 (s_Mo_refused hN hV1.1 h0 (fun z_30 I3 hI3 hF3 p_30 => ?_))
    have hV3 : SQ mS P K O I0 J0 I3 J0 := hV1.call (kpL_le (frL_le (by decide)) rfl) hI3 hF3
    have tk3_rfOa016_27 : (I3 (rf O a0 16) 27).toInt = (I1 (rf O a0 16) 27).toInt := by rw [(hF3 (rf O a0 16) 27 (by rw [tr_S.2]; rfl)).1]
    try dsimp only at p_30
    have hk1_30 : Int32.toInt (Int32.ofInt (2)) = 2 := ofI (by decide)
    have rz_30 := rg z_30
    exact Wp.ret (hQ z_30 I3 hV3.1 hV3.2 (by first | omega | (dsimp only; omega)))
  · skip
    have t_35 := rf_ok hV.1 h0 (show sp 10 16 = some 31 from rfl)
    have o_40 := hV1.1.2 (rf O a0 16) t_35.1 27
    rw [t_35.2] at o_40
    replace o_40 : 0 ≤ (I1 (rf O a0 16) 27).toInt ∧ (I1 (rf O a0 16) 27).toInt ≤ 240 := o_40
    first | (have e_42 := t_add (x := (I1 (rf O a0 16) 27)) (y := x1) rfl rfl (by omega)) | skip
    refine Wp.ite (fun c_46 => ?_) (fun c_46 => ?_)
    · skip
      have lp_59 : ∀ (m_59 : Nat) (x2_59 : Int32) (x3_59 : Int32) (I_59 : WI), Int.toNat ((x1).toInt - (x3_59).toInt) < m_59 → (0 ≤ Int32.toInt x3_59 ∧ Int32.toInt x3_59 ≤ Int32.toInt x1) → (Int32.toInt (I_59 (rf O a0 16) 27) + (x1).toInt - (x3_59).toInt - 0 ≤ 240) → (0 ≤ Int32.toInt (I_59 a0 18) ∧ Int32.toInt (I_59 a0 18) ≤ Int32.toInt (I_59 (rf O a0 16) 27)) → (Int32.toInt (I_59 a0 6) = Int32.toInt (I0 a0 6)) → SQ mS P K O I0 J0 I_59 J0 → Wp (lp (B_Mo_go_59 N O (a0) (x1) (J0)) (fun _ _ _ => none) m_59 x2_59 x3_59 I_59) Q := by
        intro m_59
        induction m_59 with
        | zero => intro x2_59 x3_59 I_59 hm; exact absurd hm (Nat.not_lt_zero _)
        | succ m_59 ih_59 =>
        intro x2_59 x3_59 I_59 hm_59 iv0_59 iv1_59 iv2_59 iv3_59 hV_59
        have rg2_59 := rg x2_59
        have rg3_59 := rg x3_59
        show Wp (B_Mo_go_59 N O (a0) (x1) (J0) (lp (B_Mo_go_59 N O (a0) (x1) (J0)) (fun _ _ _ => none) m_59) x2_59 x3_59 I_59) Q
        unfold B_Mo_go_59
        refine Wp.ite (fun c_61 => ?_) (fun c_61 => ?_)
        · skip
          refine Wpc2 (s_Mo_done hN hV_59.1 h0 (fun z_124 I4 hI4 hF4 p_124 => ?_))
          have hV4 : SQ mS P K O I0 J0 I4 J0 := hV_59.call (kpL_le (frL_le (by decide)) rfl) hI4 hF4
          have tk4_rfOa016_27 : (I4 (rf O a0 16) 27).toInt = (I_59 (rf O a0 16) 27).toInt := by rw [(hF4 (rf O a0 16) 27 (by rw [tr_S.2]; rfl)).1]
          try dsimp only at p_124
          have rz_124 := rg z_124
          exact Wp.ret (hQ z_124 I4 hV4.1 hV4.2 (by first | omega | (dsimp only; omega)))
        · skip
          have t_66 := rf_ok hV.1 h0 (show sp 10 16 = some 31 from rfl)
          refine Wpc1 (s_Mo_goesS_G hN hV_59.1 h0 t_66 hN3 (hGM.keep (fun k => (hV_59.2 (rf O a0 3) k (by rw [hN3.2.2]; rfl)).1)) (by omega) (fun I5 hI5 hF5 p_69 => ?_))
          have hV5 : SQ mS P K O I0 J0 I5 J0 := hV_59.call (kpL_le (frL_le (by decide)) rfl) hI5 hF5
          have tk5_a0_18 : (I5 a0 18).toInt = (I_59 a0 18).toInt := by rw [(hF5 a0 18 (by rw [h0.2]; rfl)).1]
          have tk5_a0_6 : (I5 a0 6).toInt = (I_59 a0 6).toInt := by rw [(hF5 a0 6 (by rw [h0.2]; rfl)).1]
          try dsimp only at p_69
          have t_73 := rf_ok hV.1 h0 (show sp 10 16 = some 31 from rfl)
          refine Wp_jq (fun k_116 => ∀ (y2_116 : Int32) (IJ_116 : WI), (Int32.toInt (IJ_116 (rf O a0 16) 27) + (x1).toInt - (x3_59).toInt - 1 ≤ 240) → (0 ≤ Int32.toInt (IJ_116 a0 18) ∧ Int32.toInt (IJ_116 a0 18) ≤ Int32.toInt (IJ_116 (rf O a0 16) 27)) → (Int32.toInt (IJ_116 a0 6) = Int32.toInt (I0 a0 6)) → SQ mS P K O I0 J0 IJ_116 J0 → Wp (k_116 y2_116 IJ_116) Q) (fun y2_116 IJ_116 jv0_116 jv1_116 jv2_116 hVJ_116 => ?_) (fun k_116 hk_116 => ?_)
          · skip
            refine Wp_lb (fun v3_116 ev_116 => ?_)
            have rv_116 := rg v3_116
            first | (have e_116 : v3_116.toInt = (x3_59).toInt + 1 := by rw [ev_116]; exact t_add rfl (ofI (by decide)) (by omega)) | skip
            clear ev_116
            exact ih_59 (y2_116) (v3_116) IJ_116 (by omega) (by omega) (by omega) (by omega) (by omega) hVJ_116
          refine Wp.ite (fun c_79 => ?_) (fun c_79 => ?_)
          · skip
            refine Wp_lb (fun v2_82 ev_82 => ?_)
            have rv_82 := rg v2_82
            first | (have e_82 : v2_82.toInt = (x2_59).toInt + 1 := by rw [ev_82]; exact t_add rfl (ofI (by decide)) (by omega)) | skip
            clear ev_82
            exact hk_116 (v2_82) I5 (by omega) (by omega) (by omega) hV5
          · skip
            have t_89 := rf_ok hV.1 h0 (show sp 10 19 = some 32 from rfl)
            have t_97 := rf_ok hV.1 h0 (show sp 10 16 = some 31 from rfl)
            have o_102 := hV5.1.2 (rf O a0 16) t_97.1 27
            rw [t_97.2] at o_102
            replace o_102 : 0 ≤ (I5 (rf O a0 16) 27).toInt ∧ (I5 (rf O a0 16) 27).toInt ≤ 240 := o_102
            first | (have e_104 := t_sub (x := (I5 (rf O a0 16) 27)) (y := (Int32.ofInt (1))) rfl (ofI (by decide)) (by omega)) | skip
            refine Wp.pos (by omega) ?_
            refine Wp_lb (fun I6 eI6 => ?_)
            have hV6 : SQ mS P K O I0 J0 I6 J0 := by rw [eI6]; exact hV5.putI t_89.2 rfl trivial
            have tk6_a0_18 : (I6 a0 18).toInt = (I5 a0 18).toInt := by rw [eI6, up2_ne _ _ (fun z => by have q := h0.2; rw [z.1, t_89.2] at q; exact absurd q (by decide))]
            have tk6_rfOa016_27 : (I6 (rf O a0 16) 27).toInt = (I5 (rf O a0 16) 27).toInt := by rw [eI6, up2_ne _ _ (fun z => by have q := tr_S.2; rw [z.1, t_89.2] at q; exact absurd q (by decide))]
            have tk6_a0_6 : (I6 a0 6).toInt = (I5 a0 6).toInt := by rw [eI6, up2_ne _ _ (fun z => by have q := h0.2; rw [z.1, t_89.2] at q; exact absurd q (by decide))]
            first | (have e_112 := t_add (x := (I6 a0 18)) (y := (Int32.ofInt (1))) rfl (ofI (by decide)) (by omega)) | skip
            refine Wp_lb (fun I7 eI7 => ?_)
            have hV7 : SQ mS P K O I0 J0 I7 J0 := by rw [eI7]; exact hV6.putI h0.2 rfl (show 0 ≤ Int32.toInt _ ∧ Int32.toInt _ ≤ 240 from by omega)
            have tk7_a0_18 : (I7 a0 18).toInt = (((I6 a0 18) + (Int32.ofInt (1)))).toInt := by rw [eI7, up2_self]
            have tk7_rfOa016_27 : (I7 (rf O a0 16) 27).toInt = (I6 (rf O a0 16) 27).toInt := by rw [eI7, up2_ne _ _ (fun z => by have q := tr_S.2; rw [z.1, h0.2] at q; exact absurd q (by decide))]
            have tk7_a0_6 : (I7 a0 6).toInt = (I6 a0 6).toInt := by rw [eI7, up2_ne _ _ (fun z => absurd z.2 (by decide))]
            exact hk_116 (x2_59) I7 (by omega) (by omega) (by omega) hV7
      exact lp_59 N ((Int32.ofInt (0))) ((Int32.ofInt (0))) I1 (by have hci0 : Int32.toInt (Int32.ofInt (0)) = 0 := ofI (by decide); omega) (by have hci0 : Int32.toInt (Int32.ofInt (0)) = 0 := ofI (by decide); omega) (by have hci0 : Int32.toInt (Int32.ofInt (0)) = 0 := ofI (by decide); omega) (by omega) (by omega) hV1
    · skip
      refine Wpc2 (s_Mo_refused hN hV1.1 h0 (fun z_51 I8 hI8 hF8 p_51 => ?_))
      have hV8 : SQ mS P K O I0 J0 I8 J0 := hV1.call (kpL_le (frL_le (by decide)) rfl) hI8 hF8
      have tk8_rfOa016_27 : (I8 (rf O a0 16) 27).toInt = (I1 (rf O a0 16) 27).toInt := by rw [(hF8 (rf O a0 16) 27 (by rw [tr_S.2]; rfl)).1]
      try dsimp only at p_51
      have hk1_51 : Int32.toInt (Int32.ofInt (3)) = 3 := ofI (by decide)
      have rz_51 := rg z_51
      exact Wp.ret (hQ z_51 I8 hV8.1 hV8.2 (by first | omega | (dsimp only; omega)))
set_option maxHeartbeats 4000000 in
set_option maxRecDepth 100000 in
theorem s_Mo_fits_Z {P : List Nat} {K : Nat → Nat} {N : Nat} {O : WO} {I0 : WI} {J0 : WJ} (hN : 2147483648 ≤ N) (hV : IV P K I0 O) {a0 : Nat} (h0 : a0 ∈ P ∧ K a0 = 10) (hMn : O a0 3 = none) {Q : (Int32 × WI) → Prop} (hQ : ∀ (z : Int32) (I_ : WI), IV P K I_ O → FQ mS K I0 J0 I_ J0 → (Int32.toInt (I_ a0 2) = -1 ∧ (I_ a0 6).toInt = (I0 a0 6).toInt ∧ (I_ a0 18).toInt = (I0 a0 18).toInt ∧ (I_ (rf O a0 16) 27).toInt = (I0 (rf O a0 16) 27).toInt) → Q (z, I_)) : Wp (F_Mo_fits N O I0 J0 a0) Q := by
  unfold F_Mo_fits
  have tr_S := rf_ok hV.1 h0 (show sp 10 16 = some 31 from rfl)
  have tr_TW := rf_ok hV.1 h0 (show sp 10 17 = some 49 from rfl)
  have oS := hV.2 (rf O a0 16) tr_S.1 27
  rw [tr_S.2] at oS
  replace oS : 0 ≤ (I0 (rf O a0 16) 27).toInt ∧ (I0 (rf O a0 16) 27).toInt ≤ 240 := oS
  have ost := hV.2 a0 h0.1 18
  rw [h0.2] at ost
  replace ost : 0 ≤ (I0 a0 18).toInt ∧ (I0 a0 18).toInt ≤ 240 := ost
  have hV0 : SQ mS P K O I0 J0 I0 J0 := SQ.rf hV
  refine Wp_lb (fun I1 eI1 => ?_)
  have hV1 : SQ mS P K O I0 J0 I1 J0 := by rw [eI1]; exact hV0.putI h0.2 rfl trivial
  have tk1_a0_6 : (I1 a0 6).toInt = (I0 a0 6).toInt := by rw [eI1, up2_ne _ _ (fun z => absurd z.2 (by decide))]
  have tk1_a0_18 : (I1 a0 18).toInt = (I0 a0 18).toInt := by rw [eI1, up2_ne _ _ (fun z => absurd z.2 (by decide))]
  have tk1_rfOa016_27 : (I1 (rf O a0 16) 27).toInt = (I0 (rf O a0 16) 27).toInt := by rw [eI1, up2_ne _ _ (fun z => by have q := tr_S.2; rw [z.1, h0.2] at q; exact absurd q (by decide))]
  refine Wp.pos hMn ?_
  refine Wpc2 (s_Mo_refused hN hV1.1 h0 (fun z_14 I2 hI2 hF2 p_14 => ?_))
  have hV2 : SQ mS P K O I0 J0 I2 J0 := hV1.call (kpL_le (frL_le (by decide)) rfl) hI2 hF2
  have tk2_rfOa016_27 : (I2 (rf O a0 16) 27).toInt = (I1 (rf O a0 16) 27).toInt := by rw [(hF2 (rf O a0 16) 27 (by rw [tr_S.2]; rfl)).1]
  try dsimp only at p_14
  have hk1_14 : Int32.toInt (Int32.ofInt (1)) = 1 := ofI (by decide)
  have rz_14 := rg z_14
  exact Wp.ret (hQ z_14 I2 hV2.1 hV2.2 (by first | omega | (dsimp only; omega)))
set_option maxHeartbeats 4000000 in
set_option maxRecDepth 100000 in
theorem s_Mo_fits_G {P : List Nat} {K : Nat → Nat} {N : Nat} {O : WO} {I0 : WI} {J0 : WJ} (hN : 2147483648 ≤ N) (hV : IV P K I0 O) {a0 : Nat} (h0 : a0 ∈ P ∧ K a0 = 10) (hN3 : NN P K O a0 3 9) (hGM : GM I0 (rf O a0 3)) {Q : (Int32 × WI) → Prop} (hQ : ∀ (z : Int32) (I_ : WI), IV P K I_ O → FQ mS K I0 J0 I_ J0 → (Int32.toInt (I_ a0 2) = -1 ∧ (I_ a0 6).toInt = (I0 a0 6).toInt ∧ (I_ a0 18).toInt = (I0 a0 18).toInt ∧ (I_ (rf O a0 16) 27).toInt = (I0 (rf O a0 16) 27).toInt) → Q (z, I_)) : Wp (F_Mo_fits N O I0 J0 a0) Q := by
  unfold F_Mo_fits
  have tr_S := rf_ok hV.1 h0 (show sp 10 16 = some 31 from rfl)
  have tr_TW := rf_ok hV.1 h0 (show sp 10 17 = some 49 from rfl)
  have oS := hV.2 (rf O a0 16) tr_S.1 27
  rw [tr_S.2] at oS
  replace oS : 0 ≤ (I0 (rf O a0 16) 27).toInt ∧ (I0 (rf O a0 16) 27).toInt ≤ 240 := oS
  have ost := hV.2 a0 h0.1 18
  rw [h0.2] at ost
  replace ost : 0 ≤ (I0 a0 18).toInt ∧ (I0 a0 18).toInt ≤ 240 := ost
  have hMs : ¬ O a0 3 = none := by rw [hN3.1]; exact fun z => by cases z
  have hV0 : SQ mS P K O I0 J0 I0 J0 := SQ.rf hV
  refine Wp_lb (fun I1 eI1 => ?_)
  have hV1 : SQ mS P K O I0 J0 I1 J0 := by rw [eI1]; exact hV0.putI h0.2 rfl trivial
  have tk1_a0_6 : (I1 a0 6).toInt = (I0 a0 6).toInt := by rw [eI1, up2_ne _ _ (fun z => absurd z.2 (by decide))]
  have tk1_a0_18 : (I1 a0 18).toInt = (I0 a0 18).toInt := by rw [eI1, up2_ne _ _ (fun z => absurd z.2 (by decide))]
  have tk1_rfOa016_27 : (I1 (rf O a0 16) 27).toInt = (I0 (rf O a0 16) 27).toInt := by rw [eI1, up2_ne _ _ (fun z => by have q := tr_S.2; rw [z.1, h0.2] at q; exact absurd q (by decide))]
  refine Wp.neg hMs ?_
  refine Wpc2 (s_Mo_allFits_G hN hV1.1 h0 hN3 (hGM.keep (fun k => (hV1.2 (rf O a0 3) k (by rw [hN3.2.2]; rfl)).1)) (fun z_24 I2 hI2 hF2 p_24 => ?_))
  have hV2 : SQ mS P K O I0 J0 I2 J0 := hV1.call (kpL_le (frL_le (by decide)) rfl) hI2 hF2
  have tk2_a0_6 : (I2 a0 6).toInt = (I1 a0 6).toInt := by rw [(hF2 a0 6 (by rw [h0.2]; rfl)).1]
  have tk2_a0_18 : (I2 a0 18).toInt = (I1 a0 18).toInt := by rw [(hF2 a0 18 (by rw [h0.2]; rfl)).1]
  have tk2_rfOa016_27 : (I2 (rf O a0 16) 27).toInt = (I1 (rf O a0 16) 27).toInt := by rw [(hF2 (rf O a0 16) 27 (by rw [tr_S.2]; rfl)).1]
  try dsimp only at p_24
  have hk1_24 : Int32.toInt (Int32.ofInt (-1)) = -1 := ofI (by decide)
  have hk2_24 : Int32.toInt (Int32.ofInt (-1)) = -1 := ofI (by decide)
  have rz_24 := rg z_24
  refine Wpc2 (s_Mo_done hN hV2.1 h0 (fun z_27 I3 hI3 hF3 p_27 => ?_))
  have hV3 : SQ mS P K O I0 J0 I3 J0 := hV2.call (kpL_le (frL_le (by decide)) rfl) hI3 hF3
  have tk3_rfOa016_27 : (I3 (rf O a0 16) 27).toInt = (I2 (rf O a0 16) 27).toInt := by rw [(hF3 (rf O a0 16) 27 (by rw [tr_S.2]; rfl)).1]
  try dsimp only at p_27
  have rz_27 := rg z_27
  exact Wp.ret (hQ z_27 I3 hV3.1 hV3.2 (by first | omega | (dsimp only; omega)))
set_option maxHeartbeats 4000000 in
set_option maxRecDepth 100000 in
theorem s_Mo_fitAt_Z {P : List Nat} {K : Nat → Nat} {N : Nat} {O : WO} {I0 : WI} {J0 : WJ} (hN : 2147483648 ≤ N) (hV : IV P K I0 O) {a0 : Nat} (h0 : a0 ∈ P ∧ K a0 = 10) {x1 : Int32} {x2 : Int32} (hMn : O a0 3 = none) {Q : (Int32 × WI) → Prop} (hQ : ∀ (z : Int32) (I_ : WI), IV P K I_ O → FQ mS K I0 J0 I_ J0 → (Int32.toInt (I_ a0 2) = -1 ∧ (I_ a0 6).toInt = (I0 a0 6).toInt ∧ (I_ a0 18).toInt = (I0 a0 18).toInt ∧ (I_ (rf O a0 16) 27).toInt = (I0 (rf O a0 16) 27).toInt) → Q (z, I_)) : Wp (F_Mo_fitAt N O I0 J0 a0 x1 x2) Q := by
  unfold F_Mo_fitAt
  have r1 := rg x1
  have r2 := rg x2
  have tr_S := rf_ok hV.1 h0 (show sp 10 16 = some 31 from rfl)
  have tr_TW := rf_ok hV.1 h0 (show sp 10 17 = some 49 from rfl)
  have oS := hV.2 (rf O a0 16) tr_S.1 27
  rw [tr_S.2] at oS
  replace oS : 0 ≤ (I0 (rf O a0 16) 27).toInt ∧ (I0 (rf O a0 16) 27).toInt ≤ 240 := oS
  have ost := hV.2 a0 h0.1 18
  rw [h0.2] at ost
  replace ost : 0 ≤ (I0 a0 18).toInt ∧ (I0 a0 18).toInt ≤ 240 := ost
  have hV0 : SQ mS P K O I0 J0 I0 J0 := SQ.rf hV
  refine Wp_lb (fun I1 eI1 => ?_)
  have hV1 : SQ mS P K O I0 J0 I1 J0 := by rw [eI1]; exact hV0.putI h0.2 rfl trivial
  have tk1_a0_6 : (I1 a0 6).toInt = (I0 a0 6).toInt := by rw [eI1, up2_ne _ _ (fun z => absurd z.2 (by decide))]
  have tk1_a0_18 : (I1 a0 18).toInt = (I0 a0 18).toInt := by rw [eI1, up2_ne _ _ (fun z => absurd z.2 (by decide))]
  have tk1_rfOa016_27 : (I1 (rf O a0 16) 27).toInt = (I0 (rf O a0 16) 27).toInt := by rw [eI1, up2_ne _ _ (fun z => by have q := tr_S.2; rw [z.1, h0.2] at q; exact absurd q (by decide))]
  refine Wp_jq (fun k_21 => Wp (k_21 ) Q) (?_) (fun k_21 hk_21 => ?_)
  · skip
    refine Wpc2 (s_Mo_refused hN hV1.1 h0 (fun z_23 I2 hI2 hF2 p_23 => ?_))
    have hV2 : SQ mS P K O I0 J0 I2 J0 := hV1.call (kpL_le (frL_le (by decide)) rfl) hI2 hF2
    have tk2_rfOa016_27 : (I2 (rf O a0 16) 27).toInt = (I1 (rf O a0 16) 27).toInt := by rw [(hF2 (rf O a0 16) 27 (by rw [tr_S.2]; rfl)).1]
    try dsimp only at p_23
    have hk1_23 : Int32.toInt (Int32.ofInt (1)) = 1 := ofI (by decide)
    have rz_23 := rg z_23
    exact Wp.ret (hQ z_23 I2 hV2.1 hV2.2 (by first | omega | (dsimp only; omega)))
  refine Wp.pos hMn ?_
  exact hk_21   
set_option maxHeartbeats 4000000 in
set_option maxRecDepth 100000 in
theorem s_Mo_fitAt_G {P : List Nat} {K : Nat → Nat} {N : Nat} {O : WO} {I0 : WI} {J0 : WJ} (hN : 2147483648 ≤ N) (hV : IV P K I0 O) {a0 : Nat} (h0 : a0 ∈ P ∧ K a0 = 10) {x1 : Int32} {x2 : Int32} (hN3 : NN P K O a0 3 9) (hGM : GM I0 (rf O a0 3)) {Q : (Int32 × WI) → Prop} (hQ : ∀ (z : Int32) (I_ : WI), IV P K I_ O → FQ mS K I0 J0 I_ J0 → (Int32.toInt (I_ a0 2) = -1 ∧ (I_ a0 6).toInt = (I0 a0 6).toInt ∧ (I_ a0 18).toInt = (I0 a0 18).toInt ∧ (I_ (rf O a0 16) 27).toInt = (I0 (rf O a0 16) 27).toInt) → Q (z, I_)) : Wp (F_Mo_fitAt N O I0 J0 a0 x1 x2) Q := by
  unfold F_Mo_fitAt
  have r1 := rg x1
  have r2 := rg x2
  have tr_S := rf_ok hV.1 h0 (show sp 10 16 = some 31 from rfl)
  have tr_TW := rf_ok hV.1 h0 (show sp 10 17 = some 49 from rfl)
  have oS := hV.2 (rf O a0 16) tr_S.1 27
  rw [tr_S.2] at oS
  replace oS : 0 ≤ (I0 (rf O a0 16) 27).toInt ∧ (I0 (rf O a0 16) 27).toInt ≤ 240 := oS
  have ost := hV.2 a0 h0.1 18
  rw [h0.2] at ost
  replace ost : 0 ≤ (I0 a0 18).toInt ∧ (I0 a0 18).toInt ≤ 240 := ost
  have hMs : ¬ O a0 3 = none := by rw [hN3.1]; exact fun z => by cases z
  have hV0 : SQ mS P K O I0 J0 I0 J0 := SQ.rf hV
  refine Wp_lb (fun I1 eI1 => ?_)
  have hV1 : SQ mS P K O I0 J0 I1 J0 := by rw [eI1]; exact hV0.putI h0.2 rfl trivial
  have tk1_a0_6 : (I1 a0 6).toInt = (I0 a0 6).toInt := by rw [eI1, up2_ne _ _ (fun z => absurd z.2 (by decide))]
  have tk1_a0_18 : (I1 a0 18).toInt = (I0 a0 18).toInt := by rw [eI1, up2_ne _ _ (fun z => absurd z.2 (by decide))]
  have tk1_rfOa016_27 : (I1 (rf O a0 16) 27).toInt = (I0 (rf O a0 16) 27).toInt := by rw [eI1, up2_ne _ _ (fun z => by have q := tr_S.2; rw [z.1, h0.2] at q; exact absurd q (by decide))]
  refine Wp_jq (fun k_21 => Wp (k_21 ) Q) (?_) (fun k_21 hk_21 => ?_)
  · skip
    refine Wpc2 (s_Mo_refused hN hV1.1 h0 (fun z_23 I2 hI2 hF2 p_23 => ?_))
    have hV2 : SQ mS P K O I0 J0 I2 J0 := hV1.call (kpL_le (frL_le (by decide)) rfl) hI2 hF2
    have tk2_rfOa016_27 : (I2 (rf O a0 16) 27).toInt = (I1 (rf O a0 16) 27).toInt := by rw [(hF2 (rf O a0 16) 27 (by rw [tr_S.2]; rfl)).1]
    try dsimp only at p_23
    have hk1_23 : Int32.toInt (Int32.ofInt (1)) = 1 := ofI (by decide)
    have rz_23 := rg z_23
    exact Wp.ret (hQ z_23 I2 hV2.1 hV2.2 (by first | omega | (dsimp only; omega)))
  refine Wp.neg hMs ?_
  refine Wpc1 (s_Mo_in hN hV1.1  (fun z_15 b_15 p_15 => ?_))
  try dsimp only at p_15
  have hk1_15 : Int32.toInt (Int32.ofInt (0)) = 0 := ofI (by decide)
  have hk2_15 : Int32.toInt (Int32.ofInt (2)) = 2 := ofI (by decide)
  have rz_15 := rg z_15
  refine Wp.ite (fun c_18 => ?_) (fun c_18 => ?_)
  · skip
    exact hk_21   
  · skip
    refine Wpc2 (s_Mo_allFits_G hN hV1.1 h0 hN3 (hGM.keep (fun k => (hV1.2 (rf O a0 3) k (by rw [hN3.2.2]; rfl)).1)) (fun z_30 I4 hI4 hF4 p_30 => ?_))
    have hV4 : SQ mS P K O I0 J0 I4 J0 := hV1.call (kpL_le (frL_le (by decide)) rfl) hI4 hF4
    have tk4_a0_6 : (I4 a0 6).toInt = (I1 a0 6).toInt := by rw [(hF4 a0 6 (by rw [h0.2]; rfl)).1]
    have tk4_a0_18 : (I4 a0 18).toInt = (I1 a0 18).toInt := by rw [(hF4 a0 18 (by rw [h0.2]; rfl)).1]
    have tk4_rfOa016_27 : (I4 (rf O a0 16) 27).toInt = (I1 (rf O a0 16) 27).toInt := by rw [(hF4 (rf O a0 16) 27 (by rw [tr_S.2]; rfl)).1]
    try dsimp only at p_30
    have hk1_30 : Int32.toInt (Int32.ofInt (-1)) = -1 := ofI (by decide)
    have hk2_30 : Int32.toInt (Int32.ofInt (-1)) = -1 := ofI (by decide)
    have rz_30 := rg z_30
    refine Wp_jq (fun k_60 => ∀ (IJ_60 : WI), ((IJ_60 a0 6).toInt = (I0 a0 6).toInt) → ((IJ_60 a0 18).toInt = (I0 a0 18).toInt) → ((IJ_60 (rf O a0 16) 27).toInt = (I0 (rf O a0 16) 27).toInt) → SQ mS P K O I0 J0 IJ_60 J0 → Wp (k_60 IJ_60) Q) (fun IJ_60 jv0_60 jv1_60 jv2_60 hVJ_60 => ?_) (fun k_60 hk_60 => ?_)
    · skip
      refine Wpc2 (s_Mo_refused hN hVJ_60.1 h0 (fun z_62 I5 hI5 hF5 p_62 => ?_))
      have hV5 : SQ mS P K O I0 J0 I5 J0 := hVJ_60.call (kpL_le (frL_le (by decide)) rfl) hI5 hF5
      have tk5_rfOa016_27 : (I5 (rf O a0 16) 27).toInt = (IJ_60 (rf O a0 16) 27).toInt := by rw [(hF5 (rf O a0 16) 27 (by rw [tr_S.2]; rfl)).1]
      try dsimp only at p_62
      have hk1_62 : Int32.toInt (Int32.ofInt (1)) = 1 := ofI (by decide)
      have rz_62 := rg z_62
      exact Wp.ret (hQ z_62 I5 hV5.1 hV5.2 (by first | omega | (dsimp only; omega)))
    refine Wp.ite (fun c_35 => ?_) (fun c_35 => ?_)
    · skip
      exact hk_60  I4 (by omega) (by omega) (by omega) hV4
    · skip
      refine Wp.ite (fun c_40 => ?_) (fun c_40 => ?_)
      · skip
        exact hk_60  I4 (by omega) (by omega) (by omega) hV4
      · skip
        have t_45 := rf_ok hV.1 h0 (show sp 10 28 = some 37 from rfl)
        refine Wp.pos (by omega) ?_
        refine Wpc1 (s_Mo_partOf hN hV4.1  (fun z_51 p_51 => ?_))
        have rz_51 := rg z_51
        refine Wpc2 (s_Mo_done hN hV4.1 h0 (fun z_54 I7 hI7 hF7 p_54 => ?_))
        have hV7 : SQ mS P K O I0 J0 I7 J0 := hV4.call (kpL_le (frL_le (by decide)) rfl) hI7 hF7
        have tk7_rfOa016_27 : (I7 (rf O a0 16) 27).toInt = (I4 (rf O a0 16) 27).toInt := by rw [(hF7 (rf O a0 16) 27 (by rw [tr_S.2]; rfl)).1]
        try dsimp only at p_54
        have rz_54 := rg z_54
        exact Wp.ret (hQ z_54 I7 hV7.1 hV7.2 (by first | omega | (dsimp only; omega)))
set_option maxHeartbeats 4000000 in
set_option maxRecDepth 100000 in
theorem s_Mo_certain_Z {P : List Nat} {K : Nat → Nat} {N : Nat} {O : WO} {I0 : WI} {J0 : WJ} (hN : 2147483648 ≤ N) (hV : IV P K I0 O) {a0 : Nat} (h0 : a0 ∈ P ∧ K a0 = 10) {x1 : Int32} (hMn : O a0 3 = none) {Q : (Int32 × WI) → Prop} (hQ : ∀ (z : Int32) (I_ : WI), IV P K I_ O → FQ mS K I0 J0 I_ J0 → (Int32.toInt (I_ a0 2) = -1 ∧ (I_ a0 6).toInt = (I0 a0 6).toInt ∧ (I_ a0 18).toInt = (I0 a0 18).toInt ∧ (I_ (rf O a0 16) 27).toInt = (I0 (rf O a0 16) 27).toInt) → Q (z, I_)) : Wp (F_Mo_certain N O I0 J0 a0 x1) Q := by
  unfold F_Mo_certain
  have r1 := rg x1
  have tr_S := rf_ok hV.1 h0 (show sp 10 16 = some 31 from rfl)
  have tr_TW := rf_ok hV.1 h0 (show sp 10 17 = some 49 from rfl)
  have oS := hV.2 (rf O a0 16) tr_S.1 27
  rw [tr_S.2] at oS
  replace oS : 0 ≤ (I0 (rf O a0 16) 27).toInt ∧ (I0 (rf O a0 16) 27).toInt ≤ 240 := oS
  have ost := hV.2 a0 h0.1 18
  rw [h0.2] at ost
  replace ost : 0 ≤ (I0 a0 18).toInt ∧ (I0 a0 18).toInt ≤ 240 := ost
  have hV0 : SQ mS P K O I0 J0 I0 J0 := SQ.rf hV
  refine Wp_lb (fun I1 eI1 => ?_)
  have hV1 : SQ mS P K O I0 J0 I1 J0 := by rw [eI1]; exact hV0.putI h0.2 rfl trivial
  have tk1_a0_6 : (I1 a0 6).toInt = (I0 a0 6).toInt := by rw [eI1, up2_ne _ _ (fun z => absurd z.2 (by decide))]
  have tk1_a0_18 : (I1 a0 18).toInt = (I0 a0 18).toInt := by rw [eI1, up2_ne _ _ (fun z => absurd z.2 (by decide))]
  have tk1_rfOa016_27 : (I1 (rf O a0 16) 27).toInt = (I0 (rf O a0 16) 27).toInt := by rw [eI1, up2_ne _ _ (fun z => by have q := tr_S.2; rw [z.1, h0.2] at q; exact absurd q (by decide))]
  refine Wp_jq (fun k_21 => Wp (k_21 ) Q) (?_) (fun k_21 hk_21 => ?_)
  · skip
    refine Wpc2 (s_Mo_refused hN hV1.1 h0 (fun z_23 I2 hI2 hF2 p_23 => ?_))
    have hV2 : SQ mS P K O I0 J0 I2 J0 := hV1.call (kpL_le (frL_le (by decide)) rfl) hI2 hF2
    have tk2_rfOa016_27 : (I2 (rf O a0 16) 27).toInt = (I1 (rf O a0 16) 27).toInt := by rw [(hF2 (rf O a0 16) 27 (by rw [tr_S.2]; rfl)).1]
    try dsimp only at p_23
    have hk1_23 : Int32.toInt (Int32.ofInt (1)) = 1 := ofI (by decide)
    have rz_23 := rg z_23
    exact Wp.ret (hQ z_23 I2 hV2.1 hV2.2 (by first | omega | (dsimp only; omega)))
  refine Wp.pos hMn ?_
  exact hk_21   
set_option maxHeartbeats 4000000 in
set_option maxRecDepth 100000 in
theorem s_Mo_certain_G {P : List Nat} {K : Nat → Nat} {N : Nat} {O : WO} {I0 : WI} {J0 : WJ} (hN : 2147483648 ≤ N) (hV : IV P K I0 O) {a0 : Nat} (h0 : a0 ∈ P ∧ K a0 = 10) {x1 : Int32} (hN3 : NN P K O a0 3 9) (hGM : GM I0 (rf O a0 3)) {Q : (Int32 × WI) → Prop} (hQ : ∀ (z : Int32) (I_ : WI), IV P K I_ O → FQ mS K I0 J0 I_ J0 → (Int32.toInt (I_ a0 2) = -1 ∧ (I_ a0 6).toInt = (I0 a0 6).toInt ∧ (I_ a0 18).toInt = (I0 a0 18).toInt ∧ (I_ (rf O a0 16) 27).toInt = (I0 (rf O a0 16) 27).toInt) → Q (z, I_)) : Wp (F_Mo_certain N O I0 J0 a0 x1) Q := by
  unfold F_Mo_certain
  have r1 := rg x1
  have tr_S := rf_ok hV.1 h0 (show sp 10 16 = some 31 from rfl)
  have tr_TW := rf_ok hV.1 h0 (show sp 10 17 = some 49 from rfl)
  have oS := hV.2 (rf O a0 16) tr_S.1 27
  rw [tr_S.2] at oS
  replace oS : 0 ≤ (I0 (rf O a0 16) 27).toInt ∧ (I0 (rf O a0 16) 27).toInt ≤ 240 := oS
  have ost := hV.2 a0 h0.1 18
  rw [h0.2] at ost
  replace ost : 0 ≤ (I0 a0 18).toInt ∧ (I0 a0 18).toInt ≤ 240 := ost
  have hMs : ¬ O a0 3 = none := by rw [hN3.1]; exact fun z => by cases z
  have hV0 : SQ mS P K O I0 J0 I0 J0 := SQ.rf hV
  refine Wp_lb (fun I1 eI1 => ?_)
  have hV1 : SQ mS P K O I0 J0 I1 J0 := by rw [eI1]; exact hV0.putI h0.2 rfl trivial
  have tk1_a0_6 : (I1 a0 6).toInt = (I0 a0 6).toInt := by rw [eI1, up2_ne _ _ (fun z => absurd z.2 (by decide))]
  have tk1_a0_18 : (I1 a0 18).toInt = (I0 a0 18).toInt := by rw [eI1, up2_ne _ _ (fun z => absurd z.2 (by decide))]
  have tk1_rfOa016_27 : (I1 (rf O a0 16) 27).toInt = (I0 (rf O a0 16) 27).toInt := by rw [eI1, up2_ne _ _ (fun z => by have q := tr_S.2; rw [z.1, h0.2] at q; exact absurd q (by decide))]
  refine Wp_jq (fun k_21 => Wp (k_21 ) Q) (?_) (fun k_21 hk_21 => ?_)
  · skip
    refine Wpc2 (s_Mo_refused hN hV1.1 h0 (fun z_23 I2 hI2 hF2 p_23 => ?_))
    have hV2 : SQ mS P K O I0 J0 I2 J0 := hV1.call (kpL_le (frL_le (by decide)) rfl) hI2 hF2
    have tk2_rfOa016_27 : (I2 (rf O a0 16) 27).toInt = (I1 (rf O a0 16) 27).toInt := by rw [(hF2 (rf O a0 16) 27 (by rw [tr_S.2]; rfl)).1]
    try dsimp only at p_23
    have hk1_23 : Int32.toInt (Int32.ofInt (1)) = 1 := ofI (by decide)
    have rz_23 := rg z_23
    exact Wp.ret (hQ z_23 I2 hV2.1 hV2.2 (by first | omega | (dsimp only; omega)))
  refine Wp.neg hMs ?_
  refine Wpc1 (s_Mo_in hN hV1.1  (fun z_15 b_15 p_15 => ?_))
  try dsimp only at p_15
  have hk1_15 : Int32.toInt (Int32.ofInt (0)) = 0 := ofI (by decide)
  have hk2_15 : Int32.toInt (Int32.ofInt (2)) = 2 := ofI (by decide)
  have rz_15 := rg z_15
  refine Wp.ite (fun c_18 => ?_) (fun c_18 => ?_)
  · skip
    exact hk_21   
  · skip
    refine Wpc2 (s_Mo_allFits_G hN hV1.1 h0 hN3 (hGM.keep (fun k => (hV1.2 (rf O a0 3) k (by rw [hN3.2.2]; rfl)).1)) (fun z_30 I4 hI4 hF4 p_30 => ?_))
    have hV4 : SQ mS P K O I0 J0 I4 J0 := hV1.call (kpL_le (frL_le (by decide)) rfl) hI4 hF4
    have tk4_a0_6 : (I4 a0 6).toInt = (I1 a0 6).toInt := by rw [(hF4 a0 6 (by rw [h0.2]; rfl)).1]
    have tk4_a0_18 : (I4 a0 18).toInt = (I1 a0 18).toInt := by rw [(hF4 a0 18 (by rw [h0.2]; rfl)).1]
    have tk4_rfOa016_27 : (I4 (rf O a0 16) 27).toInt = (I1 (rf O a0 16) 27).toInt := by rw [(hF4 (rf O a0 16) 27 (by rw [tr_S.2]; rfl)).1]
    try dsimp only at p_30
    have hk1_30 : Int32.toInt (Int32.ofInt (-1)) = -1 := ofI (by decide)
    have hk2_30 : Int32.toInt (Int32.ofInt (-1)) = -1 := ofI (by decide)
    have rz_30 := rg z_30
    refine Wp.ite (fun c_35 => ?_) (fun c_35 => ?_)
    · skip
      refine Wpc2 (s_Mo_refused hN hV4.1 h0 (fun z_41 I5 hI5 hF5 p_41 => ?_))
      have hV5 : SQ mS P K O I0 J0 I5 J0 := hV4.call (kpL_le (frL_le (by decide)) rfl) hI5 hF5
      have tk5_rfOa016_27 : (I5 (rf O a0 16) 27).toInt = (I4 (rf O a0 16) 27).toInt := by rw [(hF5 (rf O a0 16) 27 (by rw [tr_S.2]; rfl)).1]
      try dsimp only at p_41
      have hk1_41 : Int32.toInt (Int32.ofInt (6)) = 6 := ofI (by decide)
      have rz_41 := rg z_41
      exact Wp.ret (hQ z_41 I5 hV5.1 hV5.2 (by first | omega | (dsimp only; omega)))
    · skip
      have lp_47 : ∀ (m_47 : Nat) (x3_47 : Int32) (I_47 : WI), Int.toNat (100 - (x3_47).toInt) < m_47 → (1 ≤ Int32.toInt x3_47 ∧ Int32.toInt x3_47 ≤ 100) → ((I_47 a0 6).toInt = (I0 a0 6).toInt) → ((I_47 a0 18).toInt = (I0 a0 18).toInt) → ((I_47 (rf O a0 16) 27).toInt = (I0 (rf O a0 16) 27).toInt) → SQ mS P K O I0 J0 I_47 J0 → Wp (lp (B_Mo_certain_47 N O (a0) (x1) (J0) (z_30)) (fun _ _ => none) m_47 x3_47 I_47) Q := by
        intro m_47
        induction m_47 with
        | zero => intro x3_47 I_47 hm; exact absurd hm (Nat.not_lt_zero _)
        | succ m_47 ih_47 =>
        intro x3_47 I_47 hm_47 iv0_47 iv1_47 iv2_47 iv3_47 hV_47
        have rg3_47 := rg x3_47
        show Wp (B_Mo_certain_47 N O (a0) (x1) (J0) (z_30) (lp (B_Mo_certain_47 N O (a0) (x1) (J0) (z_30)) (fun _ _ => none) m_47) x3_47 I_47) Q
        unfold B_Mo_certain_47
        refine Wp.ite (fun c_49 => ?_) (fun c_49 => ?_)
        · skip
          have t_90 := rf_ok hV.1 h0 (show sp 10 28 = some 37 from rfl)
          refine Wpc1 (s_Mo_partOf hN hV_47.1  (fun z_96 p_96 => ?_))
          have rz_96 := rg z_96
          refine Wpc2 (s_Mo_done hN hV_47.1 h0 (fun z_99 I7 hI7 hF7 p_99 => ?_))
          have hV7 : SQ mS P K O I0 J0 I7 J0 := hV_47.call (kpL_le (frL_le (by decide)) rfl) hI7 hF7
          have tk7_rfOa016_27 : (I7 (rf O a0 16) 27).toInt = (I_47 (rf O a0 16) 27).toInt := by rw [(hF7 (rf O a0 16) 27 (by rw [tr_S.2]; rfl)).1]
          try dsimp only at p_99
          have rz_99 := rg z_99
          exact Wp.ret (hQ z_99 I7 hV7.1 hV7.2 (by first | omega | (dsimp only; omega)))
        · skip
          have t_53 := rf_ok hV.1 h0 (show sp 10 28 = some 37 from rfl)
          refine Wp.pos (by omega) ?_
          refine Wpc1 (s_Mo_partOf hN hV_47.1  (fun z_59 p_59 => ?_))
          have rz_59 := rg z_59
          have t_63 := rf_ok hV.1 h0 (show sp 10 28 = some 37 from rfl)
          refine Wpc1 (s_Mo_partOf hN hV_47.1  (fun z_69 p_69 => ?_))
          have rz_69 := rg z_69
          refine Wp.ite (fun c_72 => ?_) (fun c_72 => ?_)
          · skip
            refine Wp_lb (fun v3_82 ev_82 => ?_)
            have rv_82 := rg v3_82
            first | (have e_82 : v3_82.toInt = (x3_47).toInt + 1 := by rw [ev_82]; exact t_add rfl (ofI (by decide)) (by omega)) | skip
            clear ev_82
            exact ih_47 (v3_82) I_47 (by omega) (by omega) (by omega) (by omega) (by omega) hV_47
          · skip
            refine Wpc2 (s_Mo_done hN hV_47.1 h0 (fun z_78 I10 hI10 hF10 p_78 => ?_))
            have hV10 : SQ mS P K O I0 J0 I10 J0 := hV_47.call (kpL_le (frL_le (by decide)) rfl) hI10 hF10
            have tk10_rfOa016_27 : (I10 (rf O a0 16) 27).toInt = (I_47 (rf O a0 16) 27).toInt := by rw [(hF10 (rf O a0 16) 27 (by rw [tr_S.2]; rfl)).1]
            try dsimp only at p_78
            have hk1_78 : Int32.toInt (Int32.ofInt (-2)) = -2 := ofI (by decide)
            have rz_78 := rg z_78
            exact Wp.ret (hQ z_78 I10 hV10.1 hV10.2 (by first | omega | (dsimp only; omega)))
      exact lp_47 N ((Int32.ofInt (1))) I4 (by have hci0 : Int32.toInt (Int32.ofInt (1)) = 1 := ofI (by decide); omega) (by have hci0 : Int32.toInt (Int32.ofInt (1)) = 1 := ofI (by decide); omega) (by omega) (by omega) (by omega) hV4
set_option maxHeartbeats 4000000 in
set_option maxRecDepth 100000 in
theorem s_Mo_guess_Z {P : List Nat} {K : Nat → Nat} {N : Nat} {O : WO} {I0 : WI} {J0 : WJ} (hN : 2147483648 ≤ N) (hV : IV P K I0 O) {a0 : Nat} (h0 : a0 ∈ P ∧ K a0 = 10) {x1 : Int32} {x2 : Int32} {x3 : Int32} {x4 : Int32} {x5 : Int32} (hMn : O a0 3 = none) {Q : (Int32 × WI) → Prop} (hQ : ∀ (z : Int32) (I_ : WI), IV P K I_ O → FQ mS K I0 J0 I_ J0 → (Int32.toInt (I_ a0 2) = -1 ∧ (I_ a0 6).toInt = (I0 a0 6).toInt ∧ (I_ a0 18).toInt = (I0 a0 18).toInt ∧ (I_ (rf O a0 16) 27).toInt = (I0 (rf O a0 16) 27).toInt) → Q (z, I_)) : Wp (F_Mo_guess N O I0 J0 a0 x1 x2 x3 x4 x5) Q := by
  unfold F_Mo_guess
  have r1 := rg x1
  have r2 := rg x2
  have r3 := rg x3
  have r4 := rg x4
  have r5 := rg x5
  have tr_S := rf_ok hV.1 h0 (show sp 10 16 = some 31 from rfl)
  have tr_TW := rf_ok hV.1 h0 (show sp 10 17 = some 49 from rfl)
  have oS := hV.2 (rf O a0 16) tr_S.1 27
  rw [tr_S.2] at oS
  replace oS : 0 ≤ (I0 (rf O a0 16) 27).toInt ∧ (I0 (rf O a0 16) 27).toInt ≤ 240 := oS
  have ost := hV.2 a0 h0.1 18
  rw [h0.2] at ost
  replace ost : 0 ≤ (I0 a0 18).toInt ∧ (I0 a0 18).toInt ≤ 240 := ost
  have hV0 : SQ mS P K O I0 J0 I0 J0 := SQ.rf hV
  refine Wp_lb (fun I1 eI1 => ?_)
  have hV1 : SQ mS P K O I0 J0 I1 J0 := by rw [eI1]; exact hV0.putI h0.2 rfl trivial
  have tk1_rfOa017_27 : (I1 (rf O a0 17) 27).toInt = (I0 (rf O a0 17) 27).toInt := by rw [eI1, up2_ne _ _ (fun z => by have q := tr_TW.2; rw [z.1, h0.2] at q; exact absurd q (by decide))]
  have tk1_a0_6 : (I1 a0 6).toInt = (I0 a0 6).toInt := by rw [eI1, up2_ne _ _ (fun z => absurd z.2 (by decide))]
  have tk1_a0_18 : (I1 a0 18).toInt = (I0 a0 18).toInt := by rw [eI1, up2_ne _ _ (fun z => absurd z.2 (by decide))]
  have tk1_rfOa016_27 : (I1 (rf O a0 16) 27).toInt = (I0 (rf O a0 16) 27).toInt := by rw [eI1, up2_ne _ _ (fun z => by have q := tr_S.2; rw [z.1, h0.2] at q; exact absurd q (by decide))]
  refine Wpc1 (s_Mo_isWhat_Z hN hV1.1 h0 hMn (fun z_10 b_10 p_10 => ?_))
  try dsimp only at p_10
  have rz_10 := rg z_10
  refine Wp.ite (fun c_13 => ?_) (fun c_13 => ?_)
  · skip
    refine Wpc2 (s_Mo_refused hN hV1.1 h0 (fun z_18 I3 hI3 hF3 p_18 => ?_))
    have hV3 : SQ mS P K O I0 J0 I3 J0 := hV1.call (kpL_le (frL_le (by decide)) rfl) hI3 hF3
    have tk3_rfOa017_27 : (I3 (rf O a0 17) 27).toInt = (I1 (rf O a0 17) 27).toInt := by rw [(hF3 (rf O a0 17) 27 (by rw [tr_TW.2]; rfl)).1]
    have tk3_rfOa016_27 : (I3 (rf O a0 16) 27).toInt = (I1 (rf O a0 16) 27).toInt := by rw [(hF3 (rf O a0 16) 27 (by rw [tr_S.2]; rfl)).1]
    try dsimp only at p_18
    have hk1_18 : Int32.toInt (Int32.ofInt (1)) = 1 := ofI (by decide)
    have rz_18 := rg z_18
    exact Wp.ret (hQ z_18 I3 hV3.1 hV3.2 (by first | omega | (dsimp only; omega)))
  · skip
    refine Wpc1 (s_Mo_isStart hN hV1.1  (fun z_25 b_25 p_25 => ?_))
    try dsimp only at p_25
    have rz_25 := rg z_25
    refine Wp.ite (fun c_28 => ?_) (fun c_28 => ?_)
    · skip
      refine Wpc2 (s_Mo_refused hN hV1.1 h0 (fun z_33 I5 hI5 hF5 p_33 => ?_))
      have hV5 : SQ mS P K O I0 J0 I5 J0 := hV1.call (kpL_le (frL_le (by decide)) rfl) hI5 hF5
      have tk5_rfOa017_27 : (I5 (rf O a0 17) 27).toInt = (I1 (rf O a0 17) 27).toInt := by rw [(hF5 (rf O a0 17) 27 (by rw [tr_TW.2]; rfl)).1]
      have tk5_rfOa016_27 : (I5 (rf O a0 16) 27).toInt = (I1 (rf O a0 16) 27).toInt := by rw [(hF5 (rf O a0 16) 27 (by rw [tr_S.2]; rfl)).1]
      try dsimp only at p_33
      have hk1_33 : Int32.toInt (Int32.ofInt (2)) = 2 := ofI (by decide)
      have rz_33 := rg z_33
      exact Wp.ret (hQ z_33 I5 hV5.1 hV5.2 (by first | omega | (dsimp only; omega)))
    · skip
      have t_39 := rf_ok hV.1 h0 (show sp 10 17 = some 49 from rfl)
      exfalso; omega
set_option maxHeartbeats 4000000 in
set_option maxRecDepth 100000 in
theorem s_Mo_guess_G {P : List Nat} {K : Nat → Nat} {N : Nat} {O : WO} {I0 : WI} {J0 : WJ} (hN : 2147483648 ≤ N) (hV : IV P K I0 O) {a0 : Nat} (h0 : a0 ∈ P ∧ K a0 = 10) {x1 : Int32} {x2 : Int32} {x3 : Int32} {x4 : Int32} {x5 : Int32} (hN3 : NN P K O a0 3 9) (hGM : GM I0 (rf O a0 3)) {Q : (Int32 × WI) → Prop} (hQ : ∀ (z : Int32) (I_ : WI), IV P K I_ O → FQ mS K I0 J0 I_ J0 → (Int32.toInt (I_ a0 2) = -1 ∧ (I_ a0 6).toInt = (I0 a0 6).toInt ∧ (I_ a0 18).toInt = (I0 a0 18).toInt ∧ (I_ (rf O a0 16) 27).toInt = (I0 (rf O a0 16) 27).toInt) → Q (z, I_)) : Wp (F_Mo_guess N O I0 J0 a0 x1 x2 x3 x4 x5) Q := by
  unfold F_Mo_guess
  have r1 := rg x1
  have r2 := rg x2
  have r3 := rg x3
  have r4 := rg x4
  have r5 := rg x5
  have tr_S := rf_ok hV.1 h0 (show sp 10 16 = some 31 from rfl)
  have tr_TW := rf_ok hV.1 h0 (show sp 10 17 = some 49 from rfl)
  have oS := hV.2 (rf O a0 16) tr_S.1 27
  rw [tr_S.2] at oS
  replace oS : 0 ≤ (I0 (rf O a0 16) 27).toInt ∧ (I0 (rf O a0 16) 27).toInt ≤ 240 := oS
  have ost := hV.2 a0 h0.1 18
  rw [h0.2] at ost
  replace ost : 0 ≤ (I0 a0 18).toInt ∧ (I0 a0 18).toInt ≤ 240 := ost
  have hMs : ¬ O a0 3 = none := by rw [hN3.1]; exact fun z => by cases z
  have hV0 : SQ mS P K O I0 J0 I0 J0 := SQ.rf hV
  refine Wp_lb (fun I1 eI1 => ?_)
  have hV1 : SQ mS P K O I0 J0 I1 J0 := by rw [eI1]; exact hV0.putI h0.2 rfl trivial
  have tk1_rfOa017_27 : (I1 (rf O a0 17) 27).toInt = (I0 (rf O a0 17) 27).toInt := by rw [eI1, up2_ne _ _ (fun z => by have q := tr_TW.2; rw [z.1, h0.2] at q; exact absurd q (by decide))]
  have tk1_a0_6 : (I1 a0 6).toInt = (I0 a0 6).toInt := by rw [eI1, up2_ne _ _ (fun z => absurd z.2 (by decide))]
  have tk1_a0_18 : (I1 a0 18).toInt = (I0 a0 18).toInt := by rw [eI1, up2_ne _ _ (fun z => absurd z.2 (by decide))]
  have tk1_rfOa016_27 : (I1 (rf O a0 16) 27).toInt = (I0 (rf O a0 16) 27).toInt := by rw [eI1, up2_ne _ _ (fun z => by have q := tr_S.2; rw [z.1, h0.2] at q; exact absurd q (by decide))]
  refine Wpc1 (s_Mo_isWhat_G hN hV1.1 h0 hN3 (hGM.keep (fun k => (hV1.2 (rf O a0 3) k (by rw [hN3.2.2]; rfl)).1)) (fun z_10 b_10 p_10 => ?_))
  try dsimp only at p_10
  have rz_10 := rg z_10
  refine Wp.ite (fun c_13 => ?_) (fun c_13 => ?_)
  · skip
    refine Wpc2 (s_Mo_refused hN hV1.1 h0 (fun z_18 I3 hI3 hF3 p_18 => ?_))
    have hV3 : SQ mS P K O I0 J0 I3 J0 := hV1.call (kpL_le (frL_le (by decide)) rfl) hI3 hF3
    have tk3_rfOa017_27 : (I3 (rf O a0 17) 27).toInt = (I1 (rf O a0 17) 27).toInt := by rw [(hF3 (rf O a0 17) 27 (by rw [tr_TW.2]; rfl)).1]
    have tk3_rfOa016_27 : (I3 (rf O a0 16) 27).toInt = (I1 (rf O a0 16) 27).toInt := by rw [(hF3 (rf O a0 16) 27 (by rw [tr_S.2]; rfl)).1]
    try dsimp only at p_18
    have hk1_18 : Int32.toInt (Int32.ofInt (1)) = 1 := ofI (by decide)
    have rz_18 := rg z_18
    exact Wp.ret (hQ z_18 I3 hV3.1 hV3.2 (by first | omega | (dsimp only; omega)))
  · skip
    refine Wpc1 (s_Mo_isStart hN hV1.1  (fun z_25 b_25 p_25 => ?_))
    try dsimp only at p_25
    have rz_25 := rg z_25
    refine Wp.ite (fun c_28 => ?_) (fun c_28 => ?_)
    · skip
      refine Wpc2 (s_Mo_refused hN hV1.1 h0 (fun z_33 I5 hI5 hF5 p_33 => ?_))
      have hV5 : SQ mS P K O I0 J0 I5 J0 := hV1.call (kpL_le (frL_le (by decide)) rfl) hI5 hF5
      have tk5_rfOa017_27 : (I5 (rf O a0 17) 27).toInt = (I1 (rf O a0 17) 27).toInt := by rw [(hF5 (rf O a0 17) 27 (by rw [tr_TW.2]; rfl)).1]
      have tk5_rfOa016_27 : (I5 (rf O a0 16) 27).toInt = (I1 (rf O a0 16) 27).toInt := by rw [(hF5 (rf O a0 16) 27 (by rw [tr_S.2]; rfl)).1]
      try dsimp only at p_33
      have hk1_33 : Int32.toInt (Int32.ofInt (2)) = 2 := ofI (by decide)
      have rz_33 := rg z_33
      exact Wp.ret (hQ z_33 I5 hV5.1 hV5.2 (by first | omega | (dsimp only; omega)))
    · skip
      have t_39 := rf_ok hV.1 h0 (show sp 10 17 = some 49 from rfl)
      refine Wpc1 (s_Mo_begins_G hN hV1.1 h0 t_39 hN3 (hGM.keep (fun k => (hV1.2 (rf O a0 3) k (by rw [hN3.2.2]; rfl)).1)) (fun I6 hI6 hF6 p_45 => ?_))
      have hV6 : SQ mS P K O I0 J0 I6 J0 := hV1.call (kpL_le (frL_le (by decide)) rfl) hI6 hF6
      have tk6_a0_6 : (I6 a0 6).toInt = (I1 a0 6).toInt := by rw [(hF6 a0 6 (by rw [h0.2]; rfl)).1]
      have tk6_a0_18 : (I6 a0 18).toInt = (I1 a0 18).toInt := by rw [(hF6 a0 18 (by rw [h0.2]; rfl)).1]
      have tk6_rfOa016_27 : (I6 (rf O a0 16) 27).toInt = (I1 (rf O a0 16) 27).toInt := by rw [(hF6 (rf O a0 16) 27 (by rw [tr_S.2]; rfl)).1]
      try dsimp only at p_45
      have lp_51 : ∀ (m_51 : Nat) (x6_51 : Int32) (I_51 : WI), Int.toNat (12 - (x6_51).toInt) < m_51 → (0 ≤ Int32.toInt x6_51 ∧ Int32.toInt x6_51 ≤ 12) → (Int32.toInt (I_51 (rf O a0 17) 27) = (x6_51).toInt) → ((I_51 a0 6).toInt = (I0 a0 6).toInt) → ((I_51 a0 18).toInt = (I0 a0 18).toInt) → ((I_51 (rf O a0 16) 27).toInt = (I0 (rf O a0 16) 27).toInt) → SQ mS P K O I0 J0 I_51 J0 → Wp (lp (B_Mo_guess_51 N O (a0) (x4) (x5) (J0)) (fun _ _ => none) m_51 x6_51 I_51) Q := by
        intro m_51
        induction m_51 with
        | zero => intro x6_51 I_51 hm; exact absurd hm (Nat.not_lt_zero _)
        | succ m_51 ih_51 =>
        intro x6_51 I_51 hm_51 iv0_51 iv1_51 iv2_51 iv3_51 iv4_51 hV_51
        have rg6_51 := rg x6_51
        show Wp (B_Mo_guess_51 N O (a0) (x4) (x5) (J0) (lp (B_Mo_guess_51 N O (a0) (x4) (x5) (J0)) (fun _ _ => none) m_51) x6_51 I_51) Q
        unfold B_Mo_guess_51
        refine Wp.ite (fun c_55 => ?_) (fun c_55 => ?_)
        · skip
          have t_76 := rf_ok hV.1 h0 (show sp 10 17 = some 49 from rfl)
          refine Wpc1 (s_Mo_valueOf hN hV_51.1 t_76 (by omega) (fun z_81 p_81 => ?_))
          have rz_81 := rg z_81
          refine Wpc2 (s_Mo_done hN hV_51.1 h0 (fun z_84 I8 hI8 hF8 p_84 => ?_))
          have hV8 : SQ mS P K O I0 J0 I8 J0 := hV_51.call (kpL_le (frL_le (by decide)) rfl) hI8 hF8
          have tk8_rfOa017_27 : (I8 (rf O a0 17) 27).toInt = (I_51 (rf O a0 17) 27).toInt := by rw [(hF8 (rf O a0 17) 27 (by rw [tr_TW.2]; rfl)).1]
          have tk8_rfOa016_27 : (I8 (rf O a0 16) 27).toInt = (I_51 (rf O a0 16) 27).toInt := by rw [(hF8 (rf O a0 16) 27 (by rw [tr_S.2]; rfl)).1]
          try dsimp only at p_84
          have rz_84 := rg z_84
          exact Wp.ret (hQ z_84 I8 hV8.1 hV8.2 (by first | omega | (dsimp only; omega)))
        · skip
          have t_60 := rf_ok hV.1 h0 (show sp 10 17 = some 49 from rfl)
          refine Wpc1 (s_Mo_byProgram_G hN hV_51.1 h0 t_60 hN3 (hGM.keep (fun k => (hV_51.2 (rf O a0 3) k (by rw [hN3.2.2]; rfl)).1)) (by omega) (by omega) (fun I9 hI9 hF9 p_65 => ?_))
          have hV9 : SQ mS P K O I0 J0 I9 J0 := hV_51.call (kpL_le (frL_le (by decide)) rfl) hI9 hF9
          have tk9_a0_6 : (I9 a0 6).toInt = (I_51 a0 6).toInt := by rw [(hF9 a0 6 (by rw [h0.2]; rfl)).1]
          have tk9_a0_18 : (I9 a0 18).toInt = (I_51 a0 18).toInt := by rw [(hF9 a0 18 (by rw [h0.2]; rfl)).1]
          have tk9_rfOa016_27 : (I9 (rf O a0 16) 27).toInt = (I_51 (rf O a0 16) 27).toInt := by rw [(hF9 (rf O a0 16) 27 (by rw [tr_S.2]; rfl)).1]
          try dsimp only at p_65
          refine Wp_lb (fun v6_68 ev_68 => ?_)
          have rv_68 := rg v6_68
          first | (have e_68 : v6_68.toInt = (x6_51).toInt + 1 := by rw [ev_68]; exact t_add rfl (ofI (by decide)) (by omega)) | skip
          clear ev_68
          exact ih_51 (v6_68) I9 (by omega) (by omega) (by omega) (by omega) (by omega) (by omega) hV9
      exact lp_51 N ((Int32.ofInt (0))) I6 (by have hci0 : Int32.toInt (Int32.ofInt (0)) = 0 := ofI (by decide); omega) (by have hci0 : Int32.toInt (Int32.ofInt (0)) = 0 := ofI (by decide); omega) (by have hci0 : Int32.toInt (Int32.ofInt (0)) = 0 := ofI (by decide); omega) (by omega) (by omega) (by omega) hV6
set_option maxHeartbeats 4000000 in
set_option maxRecDepth 100000 in
theorem s_Mo_swapped_Z {P : List Nat} {K : Nat → Nat} {N : Nat} {O : WO} {I0 : WI} {J0 : WJ} (hN : 2147483648 ≤ N) (hV : IV P K I0 O) {a0 : Nat} (h0 : a0 ∈ P ∧ K a0 = 10) (hMn : O a0 3 = none) {Q : (Int32 × WI) → Prop} (hQ : ∀ (z : Int32) (I_ : WI), IV P K I_ O → FQ mS K I0 J0 I_ J0 → (Int32.toInt (I_ a0 2) = -1 ∧ (I_ a0 6).toInt = (I0 a0 6).toInt ∧ (I_ a0 18).toInt = (I0 a0 18).toInt ∧ (I_ (rf O a0 16) 27).toInt = (I0 (rf O a0 16) 27).toInt) → Q (z, I_)) : Wp (F_Mo_swapped N O I0 J0 a0) Q := by
  unfold F_Mo_swapped
  have tr_S := rf_ok hV.1 h0 (show sp 10 16 = some 31 from rfl)
  have tr_TW := rf_ok hV.1 h0 (show sp 10 17 = some 49 from rfl)
  have oS := hV.2 (rf O a0 16) tr_S.1 27
  rw [tr_S.2] at oS
  replace oS : 0 ≤ (I0 (rf O a0 16) 27).toInt ∧ (I0 (rf O a0 16) 27).toInt ≤ 240 := oS
  have ost := hV.2 a0 h0.1 18
  rw [h0.2] at ost
  replace ost : 0 ≤ (I0 a0 18).toInt ∧ (I0 a0 18).toInt ≤ 240 := ost
  have hV0 : SQ mS P K O I0 J0 I0 J0 := SQ.rf hV
  refine Wp_lb (fun I1 eI1 => ?_)
  have hV1 : SQ mS P K O I0 J0 I1 J0 := by rw [eI1]; exact hV0.putI h0.2 rfl trivial
  have tk1_a0_6 : (I1 a0 6).toInt = (I0 a0 6).toInt := by rw [eI1, up2_ne _ _ (fun z => absurd z.2 (by decide))]
  have tk1_a0_18 : (I1 a0 18).toInt = (I0 a0 18).toInt := by rw [eI1, up2_ne _ _ (fun z => absurd z.2 (by decide))]
  have tk1_rfOa016_27 : (I1 (rf O a0 16) 27).toInt = (I0 (rf O a0 16) 27).toInt := by rw [eI1, up2_ne _ _ (fun z => by have q := tr_S.2; rw [z.1, h0.2] at q; exact absurd q (by decide))]
  refine Wp.pos hMn ?_
  refine Wpc2 (s_Mo_refused hN hV1.1 h0 (fun z_14 I2 hI2 hF2 p_14 => ?_))
  have hV2 : SQ mS P K O I0 J0 I2 J0 := hV1.call (kpL_le (frL_le (by decide)) rfl) hI2 hF2
  have tk2_rfOa016_27 : (I2 (rf O a0 16) 27).toInt = (I1 (rf O a0 16) 27).toInt := by rw [(hF2 (rf O a0 16) 27 (by rw [tr_S.2]; rfl)).1]
  try dsimp only at p_14
  have hk1_14 : Int32.toInt (Int32.ofInt (1)) = 1 := ofI (by decide)
  have rz_14 := rg z_14
  exact Wp.ret (hQ z_14 I2 hV2.1 hV2.2 (by first | omega | (dsimp only; omega)))
set_option maxHeartbeats 4000000 in
set_option maxRecDepth 100000 in
theorem s_Mo_swapped_G {P : List Nat} {K : Nat → Nat} {N : Nat} {O : WO} {I0 : WI} {J0 : WJ} (hN : 2147483648 ≤ N) (hV : IV P K I0 O) {a0 : Nat} (h0 : a0 ∈ P ∧ K a0 = 10) (hN3 : NN P K O a0 3 9) (hGM : GM I0 (rf O a0 3)) {Q : (Int32 × WI) → Prop} (hQ : ∀ (z : Int32) (I_ : WI), IV P K I_ O → FQ mS K I0 J0 I_ J0 → (Int32.toInt (I_ a0 2) = -1 ∧ (I_ a0 6).toInt = (I0 a0 6).toInt ∧ (I_ a0 18).toInt = (I0 a0 18).toInt ∧ (I_ (rf O a0 16) 27).toInt = (I0 (rf O a0 16) 27).toInt) → Q (z, I_)) : Wp (F_Mo_swapped N O I0 J0 a0) Q := by
  unfold F_Mo_swapped
  have tr_S := rf_ok hV.1 h0 (show sp 10 16 = some 31 from rfl)
  have tr_TW := rf_ok hV.1 h0 (show sp 10 17 = some 49 from rfl)
  have oS := hV.2 (rf O a0 16) tr_S.1 27
  rw [tr_S.2] at oS
  replace oS : 0 ≤ (I0 (rf O a0 16) 27).toInt ∧ (I0 (rf O a0 16) 27).toInt ≤ 240 := oS
  have ost := hV.2 a0 h0.1 18
  rw [h0.2] at ost
  replace ost : 0 ≤ (I0 a0 18).toInt ∧ (I0 a0 18).toInt ≤ 240 := ost
  have hMs : ¬ O a0 3 = none := by rw [hN3.1]; exact fun z => by cases z
  have hV0 : SQ mS P K O I0 J0 I0 J0 := SQ.rf hV
  refine Wp_lb (fun I1 eI1 => ?_)
  have hV1 : SQ mS P K O I0 J0 I1 J0 := by rw [eI1]; exact hV0.putI h0.2 rfl trivial
  have tk1_a0_6 : (I1 a0 6).toInt = (I0 a0 6).toInt := by rw [eI1, up2_ne _ _ (fun z => absurd z.2 (by decide))]
  have tk1_a0_18 : (I1 a0 18).toInt = (I0 a0 18).toInt := by rw [eI1, up2_ne _ _ (fun z => absurd z.2 (by decide))]
  have tk1_rfOa016_27 : (I1 (rf O a0 16) 27).toInt = (I0 (rf O a0 16) 27).toInt := by rw [eI1, up2_ne _ _ (fun z => by have q := tr_S.2; rw [z.1, h0.2] at q; exact absurd q (by decide))]
  refine Wp.neg hMs ?_
  refine Wpc2 (s_Mo_allFits_G hN hV1.1 h0 hN3 (hGM.keep (fun k => (hV1.2 (rf O a0 3) k (by rw [hN3.2.2]; rfl)).1)) (fun z_21 I2 hI2 hF2 p_21 => ?_))
  have hV2 : SQ mS P K O I0 J0 I2 J0 := hV1.call (kpL_le (frL_le (by decide)) rfl) hI2 hF2
  have tk2_a0_6 : (I2 a0 6).toInt = (I1 a0 6).toInt := by rw [(hF2 a0 6 (by rw [h0.2]; rfl)).1]
  have tk2_a0_18 : (I2 a0 18).toInt = (I1 a0 18).toInt := by rw [(hF2 a0 18 (by rw [h0.2]; rfl)).1]
  have tk2_rfOa016_27 : (I2 (rf O a0 16) 27).toInt = (I1 (rf O a0 16) 27).toInt := by rw [(hF2 (rf O a0 16) 27 (by rw [tr_S.2]; rfl)).1]
  try dsimp only at p_21
  have hk1_21 : Int32.toInt (Int32.ofInt (-1)) = -1 := ofI (by decide)
  have hk2_21 : Int32.toInt (Int32.ofInt (-1)) = -1 := ofI (by decide)
  have rz_21 := rg z_21
  refine Wp.ite (fun c_24 => ?_) (fun c_24 => ?_)
  · skip
    have lp_35 : ∀ (m_35 : Nat) (x1_35 : Int32) (I_35 : WI), Int.toNat (12 - (x1_35).toInt) < m_35 → (0 ≤ Int32.toInt x1_35 ∧ Int32.toInt x1_35 ≤ 12) → ((I_35 a0 6).toInt = (I0 a0 6).toInt) → ((I_35 a0 18).toInt = (I0 a0 18).toInt) → ((I_35 (rf O a0 16) 27).toInt = (I0 (rf O a0 16) 27).toInt) → SQ mS P K O I0 J0 I_35 J0 → Wp (lp (B_Mo_swapped_35 N O (a0) (J0)) (fun _ _ => none) m_35 x1_35 I_35) Q := by
      intro m_35
      induction m_35 with
      | zero => intro x1_35 I_35 hm; exact absurd hm (Nat.not_lt_zero _)
      | succ m_35 ih_35 =>
      intro x1_35 I_35 hm_35 iv0_35 iv1_35 iv2_35 iv3_35 hV_35
      have rg1_35 := rg x1_35
      show Wp (B_Mo_swapped_35 N O (a0) (J0) (lp (B_Mo_swapped_35 N O (a0) (J0)) (fun _ _ => none) m_35) x1_35 I_35) Q
      unfold B_Mo_swapped_35
      refine Wp.ite (fun c_38 => ?_) (fun c_38 => ?_)
      · skip
        refine Wpc2 (s_Mo_done hN hV_35.1 h0 (fun z_86 I3 hI3 hF3 p_86 => ?_))
        have hV3 : SQ mS P K O I0 J0 I3 J0 := hV_35.call (kpL_le (frL_le (by decide)) rfl) hI3 hF3
        have tk3_rfOa016_27 : (I3 (rf O a0 16) 27).toInt = (I_35 (rf O a0 16) 27).toInt := by rw [(hF3 (rf O a0 16) 27 (by rw [tr_S.2]; rfl)).1]
        try dsimp only at p_86
        have hk1_86 : Int32.toInt (Int32.ofInt (-2)) = -2 := ofI (by decide)
        have rz_86 := rg z_86
        exact Wp.ret (hQ z_86 I3 hV3.1 hV3.2 (by first | omega | (dsimp only; omega)))
      · skip
        first | (have e_43 := t_add (x := x1_35) (y := (Int32.ofInt (1))) rfl (ofI (by decide)) (by omega)) | skip
        refine Wp_lb (fun v2_44 ev_44 => ?_)
        have ei_44 := congrArg Int32.toInt ev_44
        have rv_44 := rg v2_44
        have lp_45 : ∀ (m_45 : Nat) (x2_45 : Int32) (I_45 : WI), Int.toNat (12 - (x2_45).toInt) < m_45 → (0 ≤ Int32.toInt x2_45 ∧ Int32.toInt x2_45 ≤ 12) → ((I_45 a0 6).toInt = (I0 a0 6).toInt) → ((I_45 a0 18).toInt = (I0 a0 18).toInt) → ((I_45 (rf O a0 16) 27).toInt = (I0 (rf O a0 16) 27).toInt) → SQ mS P K O I0 J0 I_45 J0 → Wp (lp (B_Mo_swapped_45 N O (a0) (J0) (x1_35) ((lp (B_Mo_swapped_35 N O (a0) (J0)) (fun _ _ => none) m_35))) (fun _ _ => none) m_45 x2_45 I_45) Q := by
          intro m_45
          induction m_45 with
          | zero => intro x2_45 I_45 hm; exact absurd hm (Nat.not_lt_zero _)
          | succ m_45 ih_45 =>
          intro x2_45 I_45 hm_45 iv0_45 iv1_45 iv2_45 iv3_45 hV_45
          have rg2_45 := rg x2_45
          show Wp (B_Mo_swapped_45 N O (a0) (J0) (x1_35) ((lp (B_Mo_swapped_35 N O (a0) (J0)) (fun _ _ => none) m_35)) (lp (B_Mo_swapped_45 N O (a0) (J0) (x1_35) ((lp (B_Mo_swapped_35 N O (a0) (J0)) (fun _ _ => none) m_35))) (fun _ _ => none) m_45) x2_45 I_45) Q
          unfold B_Mo_swapped_45
          refine Wp.ite (fun c_48 => ?_) (fun c_48 => ?_)
          · skip
            refine Wp_lb (fun v1_77 ev_77 => ?_)
            have rv_77 := rg v1_77
            first | (have e_77 : v1_77.toInt = (x1_35).toInt + 1 := by rw [ev_77]; exact t_add rfl (ofI (by decide)) (by omega)) | skip
            clear ev_77
            exact ih_35 (v1_77) I_45 (by omega) (by omega) (by omega) (by omega) (by omega) hV_45
          · skip
            refine Wpc2 (s_Mo_allFits_G hN hV_45.1 h0 hN3 (hGM.keep (fun k => (hV_45.2 (rf O a0 3) k (by rw [hN3.2.2]; rfl)).1)) (fun z_54 I4 hI4 hF4 p_54 => ?_))
            have hV4 : SQ mS P K O I0 J0 I4 J0 := hV_45.call (kpL_le (frL_le (by decide)) rfl) hI4 hF4
            have tk4_a0_6 : (I4 a0 6).toInt = (I_45 a0 6).toInt := by rw [(hF4 a0 6 (by rw [h0.2]; rfl)).1]
            have tk4_a0_18 : (I4 a0 18).toInt = (I_45 a0 18).toInt := by rw [(hF4 a0 18 (by rw [h0.2]; rfl)).1]
            have tk4_rfOa016_27 : (I4 (rf O a0 16) 27).toInt = (I_45 (rf O a0 16) 27).toInt := by rw [(hF4 (rf O a0 16) 27 (by rw [tr_S.2]; rfl)).1]
            try dsimp only at p_54
            have rz_54 := rg z_54
            refine Wp.ite (fun c_57 => ?_) (fun c_57 => ?_)
            · skip
              refine Wp_lb (fun v2_71 ev_71 => ?_)
              have rv_71 := rg v2_71
              first | (have e_71 : v2_71.toInt = (x2_45).toInt + 1 := by rw [ev_71]; exact t_add rfl (ofI (by decide)) (by omega)) | skip
              clear ev_71
              exact ih_45 (v2_71) I4 (by omega) (by omega) (by omega) (by omega) (by omega) hV4
            · skip
              first | (have e_64 := t_mul (x := (Int32.ofInt (100))) (y := x1_35) (ofI (by decide)) rfl (by omega)) | skip
              first | (have e_66 := t_add (x := ((Int32.ofInt (100)) * x1_35)) (y := x2_45) rfl rfl (by omega)) | skip
              refine Wpc2 (s_Mo_done hN hV4.1 h0 (fun z_67 I5 hI5 hF5 p_67 => ?_))
              have hV5 : SQ mS P K O I0 J0 I5 J0 := hV4.call (kpL_le (frL_le (by decide)) rfl) hI5 hF5
              have tk5_rfOa016_27 : (I5 (rf O a0 16) 27).toInt = (I4 (rf O a0 16) 27).toInt := by rw [(hF5 (rf O a0 16) 27 (by rw [tr_S.2]; rfl)).1]
              try dsimp only at p_67
              have rz_67 := rg z_67
              exact Wp.ret (hQ z_67 I5 hV5.1 hV5.2 (by first | omega | (dsimp only; omega)))
        exact lp_45 N (v2_44) I_35 (by omega) (by omega) (by omega) (by omega) (by omega) hV_35
    exact lp_35 N ((Int32.ofInt (0))) I2 (by have hci0 : Int32.toInt (Int32.ofInt (0)) = 0 := ofI (by decide); omega) (by have hci0 : Int32.toInt (Int32.ofInt (0)) = 0 := ofI (by decide); omega) (by omega) (by omega) (by omega) hV2
  · skip
    refine Wpc2 (s_Mo_refused hN hV2.1 h0 (fun z_29 I6 hI6 hF6 p_29 => ?_))
    have hV6 : SQ mS P K O I0 J0 I6 J0 := hV2.call (kpL_le (frL_le (by decide)) rfl) hI6 hF6
    have tk6_rfOa016_27 : (I6 (rf O a0 16) 27).toInt = (I2 (rf O a0 16) 27).toInt := by rw [(hF6 (rf O a0 16) 27 (by rw [tr_S.2]; rfl)).1]
    try dsimp only at p_29
    have hk1_29 : Int32.toInt (Int32.ofInt (5)) = 5 := ofI (by decide)
    have rz_29 := rg z_29
    exact Wp.ret (hQ z_29 I6 hV6.1 hV6.2 (by first | omega | (dsimp only; omega)))
set_option maxHeartbeats 4000000 in
set_option maxRecDepth 100000 in
theorem s_Mo_plan_Z {P : List Nat} {K : Nat → Nat} {N : Nat} {O : WO} {I0 : WI} {J0 : WJ} (hN : 2147483648 ≤ N) (hV : IV P K I0 O) {a0 : Nat} (h0 : a0 ∈ P ∧ K a0 = 10) {x1 : Int32} (hMn : O a0 3 = none) {Q : (Int32 × WI) → Prop} (hQ : ∀ (z : Int32) (I_ : WI), IV P K I_ O → FQ mS K I0 J0 I_ J0 → (Int32.toInt (I_ a0 2) = -1 ∧ (I_ a0 6).toInt = (I0 a0 6).toInt ∧ (I_ a0 18).toInt = (I0 a0 18).toInt ∧ (I_ (rf O a0 16) 27).toInt = (I0 (rf O a0 16) 27).toInt) → Q (z, I_)) : Wp (F_Mo_plan N O I0 J0 a0 x1) Q := by
  unfold F_Mo_plan
  have r1 := rg x1
  have tr_S := rf_ok hV.1 h0 (show sp 10 16 = some 31 from rfl)
  have tr_TW := rf_ok hV.1 h0 (show sp 10 17 = some 49 from rfl)
  have oS := hV.2 (rf O a0 16) tr_S.1 27
  rw [tr_S.2] at oS
  replace oS : 0 ≤ (I0 (rf O a0 16) 27).toInt ∧ (I0 (rf O a0 16) 27).toInt ≤ 240 := oS
  have ost := hV.2 a0 h0.1 18
  rw [h0.2] at ost
  replace ost : 0 ≤ (I0 a0 18).toInt ∧ (I0 a0 18).toInt ≤ 240 := ost
  have hV0 : SQ mS P K O I0 J0 I0 J0 := SQ.rf hV
  refine Wp_lb (fun I1 eI1 => ?_)
  have hV1 : SQ mS P K O I0 J0 I1 J0 := by rw [eI1]; exact hV0.putI h0.2 rfl trivial
  have tk1_a0_6 : (I1 a0 6).toInt = (I0 a0 6).toInt := by rw [eI1, up2_ne _ _ (fun z => absurd z.2 (by decide))]
  have tk1_a0_18 : (I1 a0 18).toInt = (I0 a0 18).toInt := by rw [eI1, up2_ne _ _ (fun z => absurd z.2 (by decide))]
  have tk1_rfOa016_27 : (I1 (rf O a0 16) 27).toInt = (I0 (rf O a0 16) 27).toInt := by rw [eI1, up2_ne _ _ (fun z => by have q := tr_S.2; rw [z.1, h0.2] at q; exact absurd q (by decide))]
  refine Wp.pos hMn ?_
  refine Wpc2 (s_Mo_refused hN hV1.1 h0 (fun z_14 I2 hI2 hF2 p_14 => ?_))
  have hV2 : SQ mS P K O I0 J0 I2 J0 := hV1.call (kpL_le (frL_le (by decide)) rfl) hI2 hF2
  have tk2_rfOa016_27 : (I2 (rf O a0 16) 27).toInt = (I1 (rf O a0 16) 27).toInt := by rw [(hF2 (rf O a0 16) 27 (by rw [tr_S.2]; rfl)).1]
  try dsimp only at p_14
  have hk1_14 : Int32.toInt (Int32.ofInt (1)) = 1 := ofI (by decide)
  have rz_14 := rg z_14
  exact Wp.ret (hQ z_14 I2 hV2.1 hV2.2 (by first | omega | (dsimp only; omega)))
set_option maxHeartbeats 4000000 in
set_option maxRecDepth 100000 in
theorem s_Mo_plan_G {P : List Nat} {K : Nat → Nat} {N : Nat} {O : WO} {I0 : WI} {J0 : WJ} (hN : 2147483648 ≤ N) (hV : IV P K I0 O) {a0 : Nat} (h0 : a0 ∈ P ∧ K a0 = 10) {x1 : Int32} (hN3 : NN P K O a0 3 9) (hGM : GM I0 (rf O a0 3)) {Q : (Int32 × WI) → Prop} (hQ : ∀ (z : Int32) (I_ : WI), IV P K I_ O → FQ mS K I0 J0 I_ J0 → (Int32.toInt (I_ a0 2) = -1 ∧ (I_ a0 6).toInt = (I0 a0 6).toInt ∧ (I_ a0 18).toInt = (I0 a0 18).toInt ∧ (I_ (rf O a0 16) 27).toInt = (I0 (rf O a0 16) 27).toInt) → Q (z, I_)) : Wp (F_Mo_plan N O I0 J0 a0 x1) Q := by
  unfold F_Mo_plan
  have r1 := rg x1
  have tr_S := rf_ok hV.1 h0 (show sp 10 16 = some 31 from rfl)
  have tr_TW := rf_ok hV.1 h0 (show sp 10 17 = some 49 from rfl)
  have oS := hV.2 (rf O a0 16) tr_S.1 27
  rw [tr_S.2] at oS
  replace oS : 0 ≤ (I0 (rf O a0 16) 27).toInt ∧ (I0 (rf O a0 16) 27).toInt ≤ 240 := oS
  have ost := hV.2 a0 h0.1 18
  rw [h0.2] at ost
  replace ost : 0 ≤ (I0 a0 18).toInt ∧ (I0 a0 18).toInt ≤ 240 := ost
  have hMs : ¬ O a0 3 = none := by rw [hN3.1]; exact fun z => by cases z
  have hV0 : SQ mS P K O I0 J0 I0 J0 := SQ.rf hV
  refine Wp_lb (fun I1 eI1 => ?_)
  have hV1 : SQ mS P K O I0 J0 I1 J0 := by rw [eI1]; exact hV0.putI h0.2 rfl trivial
  have tk1_a0_6 : (I1 a0 6).toInt = (I0 a0 6).toInt := by rw [eI1, up2_ne _ _ (fun z => absurd z.2 (by decide))]
  have tk1_a0_18 : (I1 a0 18).toInt = (I0 a0 18).toInt := by rw [eI1, up2_ne _ _ (fun z => absurd z.2 (by decide))]
  have tk1_rfOa016_27 : (I1 (rf O a0 16) 27).toInt = (I0 (rf O a0 16) 27).toInt := by rw [eI1, up2_ne _ _ (fun z => by have q := tr_S.2; rw [z.1, h0.2] at q; exact absurd q (by decide))]
  refine Wp.neg hMs ?_
  refine Wpc1 (s_Mo_in hN hV1.1  (fun z_21 b_21 p_21 => ?_))
  try dsimp only at p_21
  have hk1_21 : Int32.toInt (Int32.ofInt (1)) = 1 := ofI (by decide)
  have hk2_21 : Int32.toInt (Int32.ofInt (5)) = 5 := ofI (by decide)
  have rz_21 := rg z_21
  refine Wp.ite (fun c_24 => ?_) (fun c_24 => ?_)
  · skip
    refine Wpc2 (s_Mo_refused hN hV1.1 h0 (fun z_29 I3 hI3 hF3 p_29 => ?_))
    have hV3 : SQ mS P K O I0 J0 I3 J0 := hV1.call (kpL_le (frL_le (by decide)) rfl) hI3 hF3
    have tk3_rfOa016_27 : (I3 (rf O a0 16) 27).toInt = (I1 (rf O a0 16) 27).toInt := by rw [(hF3 (rf O a0 16) 27 (by rw [tr_S.2]; rfl)).1]
    try dsimp only at p_29
    have hk1_29 : Int32.toInt (Int32.ofInt (2)) = 2 := ofI (by decide)
    have rz_29 := rg z_29
    exact Wp.ret (hQ z_29 I3 hV3.1 hV3.2 (by first | omega | (dsimp only; omega)))
  · skip
    have lp_40 : ∀ (m_40 : Nat) (x2_40 : Int32) (x3_40 : Int32) (x4_40 : Int32) (I_40 : WI), Int.toNat (2147483647 - (x4_40).toInt) < m_40 → (0 ≤ Int32.toInt x4_40) → ((I_40 a0 6).toInt = (I0 a0 6).toInt) → ((I_40 a0 18).toInt = (I0 a0 18).toInt) → ((I_40 (rf O a0 16) 27).toInt = (I0 (rf O a0 16) 27).toInt) → SQ mS P K O I0 J0 I_40 J0 → Wp (lp (B_Mo_plan_40 N O (a0) (x1) (J0)) (fun _ _ _ _ => none) m_40 x2_40 x3_40 x4_40 I_40) Q := by
      intro m_40
      induction m_40 with
      | zero => intro x2_40 x3_40 x4_40 I_40 hm; exact absurd hm (Nat.not_lt_zero _)
      | succ m_40 ih_40 =>
      intro x2_40 x3_40 x4_40 I_40 hm_40 iv0_40 iv1_40 iv2_40 iv3_40 hV_40
      have rg2_40 := rg x2_40
      have rg3_40 := rg x3_40
      have rg4_40 := rg x4_40
      show Wp (B_Mo_plan_40 N O (a0) (x1) (J0) (lp (B_Mo_plan_40 N O (a0) (x1) (J0)) (fun _ _ _ _ => none) m_40) x2_40 x3_40 x4_40 I_40) Q
      unfold B_Mo_plan_40
      first | (have e_45 := t_mul (x := (Int32.ofInt (2))) (y := x1) (ofI (by decide)) rfl (by omega)) | skip
      have rz_46 := rg ((Int32.ofInt (1)) <<< (((Int32.ofInt (2)) * x1) &&& 31))
      refine Wp.ite (fun c_47 => ?_) (fun c_47 => ?_)
      · skip
        refine Wp.ite (fun c_108 => ?_) (fun c_108 => ?_)
        · skip
          refine Wpc2 (s_Mo_refused hN hV_40.1 h0 (fun z_114 I4 hI4 hF4 p_114 => ?_))
          have hV4 : SQ mS P K O I0 J0 I4 J0 := hV_40.call (kpL_le (frL_le (by decide)) rfl) hI4 hF4
          have tk4_rfOa016_27 : (I4 (rf O a0 16) 27).toInt = (I_40 (rf O a0 16) 27).toInt := by rw [(hF4 (rf O a0 16) 27 (by rw [tr_S.2]; rfl)).1]
          try dsimp only at p_114
          have hk1_114 : Int32.toInt (Int32.ofInt (6)) = 6 := ofI (by decide)
          have rz_114 := rg z_114
          exact Wp.ret (hQ z_114 I4 hV4.1 hV4.2 (by first | omega | (dsimp only; omega)))
        · skip
          refine Wp_lb (fun I5 eI5 => ?_)
          have hV5 : SQ mS P K O I0 J0 I5 J0 := by rw [eI5]; exact hV_40.putI h0.2 rfl (show 0 ≤ Int32.toInt _ ∧ Int32.toInt _ ≤ 5 from by omega)
          have tk5_a0_6 : (I5 a0 6).toInt = (I_40 a0 6).toInt := by rw [eI5, up2_ne _ _ (fun z => absurd z.2 (by decide))]
          have tk5_a0_18 : (I5 a0 18).toInt = (I_40 a0 18).toInt := by rw [eI5, up2_ne _ _ (fun z => absurd z.2 (by decide))]
          have tk5_rfOa016_27 : (I5 (rf O a0 16) 27).toInt = (I_40 (rf O a0 16) 27).toInt := by rw [eI5, up2_ne _ _ (fun z => by have q := tr_S.2; rw [z.1, h0.2] at q; exact absurd q (by decide))]
          have lp_126 : ∀ (m_126 : Nat) (x4_126 : Int32) (I_126 : WI), Int.toNat (5 - (x4_126).toInt) < m_126 → (0 ≤ Int32.toInt x4_126 ∧ Int32.toInt x4_126 ≤ 5) → ((I_126 a0 6).toInt = (I0 a0 6).toInt) → ((I_126 a0 18).toInt = (I0 a0 18).toInt) → ((I_126 (rf O a0 16) 27).toInt = (I0 (rf O a0 16) 27).toInt) → SQ mS P K O I0 J0 I_126 J0 → Wp (lp (B_Mo_plan_126 N O (a0) (x1) (J0) (x2_40) (x3_40)) (fun _ _ => none) m_126 x4_126 I_126) Q := by
            intro m_126
            induction m_126 with
            | zero => intro x4_126 I_126 hm; exact absurd hm (Nat.not_lt_zero _)
            | succ m_126 ih_126 =>
            intro x4_126 I_126 hm_126 iv0_126 iv1_126 iv2_126 iv3_126 hV_126
            have rg4_126 := rg x4_126
            show Wp (B_Mo_plan_126 N O (a0) (x1) (J0) (x2_40) (x3_40) (lp (B_Mo_plan_126 N O (a0) (x1) (J0) (x2_40) (x3_40)) (fun _ _ => none) m_126) x4_126 I_126) Q
            unfold B_Mo_plan_126
            refine Wp.ite (fun c_129 => ?_) (fun c_129 => ?_)
            · skip
              refine Wpc2 (s_Mo_done hN hV_126.1 h0 (fun z_159 I6 hI6 hF6 p_159 => ?_))
              have hV6 : SQ mS P K O I0 J0 I6 J0 := hV_126.call (kpL_le (frL_le (by decide)) rfl) hI6 hF6
              have tk6_rfOa016_27 : (I6 (rf O a0 16) 27).toInt = (I_126 (rf O a0 16) 27).toInt := by rw [(hF6 (rf O a0 16) 27 (by rw [tr_S.2]; rfl)).1]
              try dsimp only at p_159
              have rz_159 := rg z_159
              exact Wp.ret (hQ z_159 I6 hV6.1 hV6.2 (by first | omega | (dsimp only; omega)))
            · skip
              have t_133 := rf_ok hV.1 h0 (show sp 10 30 = some 38 from rfl)
              first | (have e_142 := t_sub (x := x1) (y := (Int32.ofInt (1))) rfl (ofI (by decide)) (by omega)) | skip
              first | (have e_145 := t_sub (x := (x1 - (Int32.ofInt (1)))) (y := x4_126) rfl rfl (by omega)) | skip
              first | (have e_146 := t_mul (x := (Int32.ofInt (2))) (y := ((x1 - (Int32.ofInt (1))) - x4_126)) (ofI (by decide)) rfl (by omega)) | skip
              have rz_147 := rg (x3_40 >>> (((Int32.ofInt (2)) * ((x1 - (Int32.ofInt (1))) - x4_126)) &&& 31))
              refine Wp.pos (by omega) ?_
              refine Wp_lb (fun I7 eI7 => ?_)
              have hV7 : SQ mS P K O I0 J0 I7 J0 := by rw [eI7]; exact hV_126.putI t_133.2 rfl trivial
              have tk7_a0_6 : (I7 a0 6).toInt = (I_126 a0 6).toInt := by rw [eI7, up2_ne _ _ (fun z => by have q := h0.2; rw [z.1, t_133.2] at q; exact absurd q (by decide))]
              have tk7_a0_18 : (I7 a0 18).toInt = (I_126 a0 18).toInt := by rw [eI7, up2_ne _ _ (fun z => by have q := h0.2; rw [z.1, t_133.2] at q; exact absurd q (by decide))]
              have tk7_rfOa016_27 : (I7 (rf O a0 16) 27).toInt = (I_126 (rf O a0 16) 27).toInt := by rw [eI7, up2_ne _ _ (fun z => by have q := tr_S.2; rw [z.1, t_133.2] at q; exact absurd q (by decide))]
              refine Wp_lb (fun v4_151 ev_151 => ?_)
              have rv_151 := rg v4_151
              first | (have e_151 : v4_151.toInt = (x4_126).toInt + 1 := by rw [ev_151]; exact t_add rfl (ofI (by decide)) (by omega)) | skip
              clear ev_151
              exact ih_126 (v4_151) I7 (by omega) (by omega) (by omega) (by omega) (by omega) hV7
          exact lp_126 N ((Int32.ofInt (0))) I5 (by have hci0 : Int32.toInt (Int32.ofInt (0)) = 0 := ofI (by decide); omega) (by have hci0 : Int32.toInt (Int32.ofInt (0)) = 0 := ofI (by decide); omega) (by omega) (by omega) (by omega) hV5
      · skip
        refine Wpc2 (s_Mo_isWell_G hN hV_40.1 h0 hN3 (hGM.keep (fun k => (hV_40.2 (rf O a0 3) k (by rw [hN3.2.2]; rfl)).1)) (by omega) (fun z_54 I8 hI8 hF8 b_54 p_54 => ?_))
        have hV8 : SQ mS P K O I0 J0 I8 J0 := hV_40.call (kpL_le (frL_le (by decide)) rfl) hI8 hF8
        have tk8_a0_6 : (I8 a0 6).toInt = (I_40 a0 6).toInt := by rw [(hF8 a0 6 (by rw [h0.2]; rfl)).1]
        have tk8_a0_18 : (I8 a0 18).toInt = (I_40 a0 18).toInt := by rw [(hF8 a0 18 (by rw [h0.2]; rfl)).1]
        have tk8_rfOa016_27 : (I8 (rf O a0 16) 27).toInt = (I_40 (rf O a0 16) 27).toInt := by rw [(hF8 (rf O a0 16) 27 (by rw [tr_S.2]; rfl)).1]
        have rz_54 := rg z_54
        refine Wp_jq (fun k_100 => ∀ (y2_100 : Int32) (y3_100 : Int32), Wp (k_100 y2_100 y3_100) Q) (fun y2_100 y3_100   => ?_) (fun k_100 hk_100 => ?_)
        · skip
          refine Wp_lb (fun v4_100 ev_100 => ?_)
          have rv_100 := rg v4_100
          first | (have e_100 : v4_100.toInt = (x4_40).toInt + 1 := by rw [ev_100]; exact t_add rfl (ofI (by decide)) (by omega)) | skip
          clear ev_100
          exact ih_40 (y2_100) (y3_100) (v4_100) I8 (by omega) (by omega) (by omega) (by omega) (by omega) hV8
        refine Wp.ite (fun c_57 => ?_) (fun c_57 => ?_)
        · skip
          exact hk_100 (x2_40) (x3_40)  
        · skip
          have t_64 := rf_ok hV.1 h0 (show sp 10 17 = some 49 from rfl)
          have t_71 := rf_ok hV.1 h0 (show sp 10 16 = some 31 from rfl)
          first | (have e_77 := t_sub (x := (I8 (rf O a0 17) 32)) (y := (I8 (rf O a0 16) 32)) rfl rfl (by omega)) | skip
          refine Wp_lb (fun v5_78 ev_78 => ?_)
          have ei_78 := congrArg Int32.toInt ev_78
          have rv_78 := rg v5_78
          refine Wp_jq (fun k_94 => Wp (k_94 ) Q) (?_) (fun k_94 hk_94 => ?_)
          · skip
            exact hk_100 (v5_78) (x4_40)  
          refine Wp.ite (fun c_82 => ?_) (fun c_82 => ?_)
          · skip
            exact hk_94   
          · skip
            refine Wp.ite (fun c_88 => ?_) (fun c_88 => ?_)
            · skip
              exact hk_94   
            · skip
              exact hk_100 (x2_40) (x3_40)  
    exact lp_40 N ((Int32.ofInt (-1))) ((Int32.ofInt (0))) ((Int32.ofInt (0))) I1 (by have hci0 : Int32.toInt (Int32.ofInt (0)) = 0 := ofI (by decide); omega) (by have hci0 : Int32.toInt (Int32.ofInt (0)) = 0 := ofI (by decide); omega) (by omega) (by omega) (by omega) hV1
set_option maxHeartbeats 4000000 in
set_option maxRecDepth 100000 in
theorem s_Mo_rule_Z {P : List Nat} {K : Nat → Nat} {N : Nat} {O : WO} {I0 : WI} {J0 : WJ} (hN : 2147483648 ≤ N) (hV : IV P K I0 O) {a0 : Nat} (h0 : a0 ∈ P ∧ K a0 = 10) {x1 : Int32} (hMn : O a0 3 = none) {Q : (Int32 × WI) → Prop} (hQ : ∀ (z : Int32) (I_ : WI), IV P K I_ O → FQ mS K I0 J0 I_ J0 → (Int32.toInt (I_ a0 2) = -1 ∧ (I_ a0 6).toInt = (I0 a0 6).toInt ∧ (I_ a0 18).toInt = (I0 a0 18).toInt ∧ (I_ (rf O a0 16) 27).toInt = (I0 (rf O a0 16) 27).toInt) → Q (z, I_)) : Wp (F_Mo_rule N O I0 J0 a0 x1) Q := by
  unfold F_Mo_rule
  have r1 := rg x1
  have tr_S := rf_ok hV.1 h0 (show sp 10 16 = some 31 from rfl)
  have tr_TW := rf_ok hV.1 h0 (show sp 10 17 = some 49 from rfl)
  have tr_TL := rf_ok hV.1 h0 (show sp 10 32 = some 50 from rfl)
  have oS := hV.2 (rf O a0 16) tr_S.1 27
  rw [tr_S.2] at oS
  replace oS : 0 ≤ (I0 (rf O a0 16) 27).toInt ∧ (I0 (rf O a0 16) 27).toInt ≤ 240 := oS
  have ost := hV.2 a0 h0.1 18
  rw [h0.2] at ost
  replace ost : 0 ≤ (I0 a0 18).toInt ∧ (I0 a0 18).toInt ≤ 240 := ost
  have hV0 : SQ mS P K O I0 J0 I0 J0 := SQ.rf hV
  refine Wp_lb (fun I1 eI1 => ?_)
  have hV1 : SQ mS P K O I0 J0 I1 J0 := by rw [eI1]; exact hV0.putI h0.2 rfl trivial
  have tk1_a0_6 : (I1 a0 6).toInt = (I0 a0 6).toInt := by rw [eI1, up2_ne _ _ (fun z => absurd z.2 (by decide))]
  have tk1_a0_18 : (I1 a0 18).toInt = (I0 a0 18).toInt := by rw [eI1, up2_ne _ _ (fun z => absurd z.2 (by decide))]
  have tk1_rfOa016_27 : (I1 (rf O a0 16) 27).toInt = (I0 (rf O a0 16) 27).toInt := by rw [eI1, up2_ne _ _ (fun z => by have q := tr_S.2; rw [z.1, h0.2] at q; exact absurd q (by decide))]
  refine Wp.pos hMn ?_
  refine Wpc2 (s_Mo_refused hN hV1.1 h0 (fun z_14 I2 hI2 hF2 p_14 => ?_))
  have hV2 : SQ mS P K O I0 J0 I2 J0 := hV1.call (kpL_le (frL_le (by decide)) rfl) hI2 hF2
  have tk2_rfOa016_27 : (I2 (rf O a0 16) 27).toInt = (I1 (rf O a0 16) 27).toInt := by rw [(hF2 (rf O a0 16) 27 (by rw [tr_S.2]; rfl)).1]
  try dsimp only at p_14
  have hk1_14 : Int32.toInt (Int32.ofInt (1)) = 1 := ofI (by decide)
  have rz_14 := rg z_14
  exact Wp.ret (hQ z_14 I2 hV2.1 hV2.2 (by first | omega | (dsimp only; omega)))
set_option maxHeartbeats 4000000 in
set_option maxRecDepth 100000 in
theorem s_Mo_rule_G {P : List Nat} {K : Nat → Nat} {N : Nat} {O : WO} {I0 : WI} {J0 : WJ} (hN : 2147483648 ≤ N) (hV : IV P K I0 O) {a0 : Nat} (h0 : a0 ∈ P ∧ K a0 = 10) {x1 : Int32} (hN3 : NN P K O a0 3 9) (hGM : GM I0 (rf O a0 3)) {Q : (Int32 × WI) → Prop} (hQ : ∀ (z : Int32) (I_ : WI), IV P K I_ O → FQ mS K I0 J0 I_ J0 → (Int32.toInt (I_ a0 2) = -1 ∧ (I_ a0 6).toInt = (I0 a0 6).toInt ∧ (I_ a0 18).toInt = (I0 a0 18).toInt ∧ (I_ (rf O a0 16) 27).toInt = (I0 (rf O a0 16) 27).toInt) → Q (z, I_)) : Wp (F_Mo_rule N O I0 J0 a0 x1) Q := by
  unfold F_Mo_rule
  have r1 := rg x1
  have tr_S := rf_ok hV.1 h0 (show sp 10 16 = some 31 from rfl)
  have tr_TW := rf_ok hV.1 h0 (show sp 10 17 = some 49 from rfl)
  have tr_TL := rf_ok hV.1 h0 (show sp 10 32 = some 50 from rfl)
  have oS := hV.2 (rf O a0 16) tr_S.1 27
  rw [tr_S.2] at oS
  replace oS : 0 ≤ (I0 (rf O a0 16) 27).toInt ∧ (I0 (rf O a0 16) 27).toInt ≤ 240 := oS
  have ost := hV.2 a0 h0.1 18
  rw [h0.2] at ost
  replace ost : 0 ≤ (I0 a0 18).toInt ∧ (I0 a0 18).toInt ≤ 240 := ost
  have hMs : ¬ O a0 3 = none := by rw [hN3.1]; exact fun z => by cases z
  have hV0 : SQ mS P K O I0 J0 I0 J0 := SQ.rf hV
  refine Wp_lb (fun I1 eI1 => ?_)
  have hV1 : SQ mS P K O I0 J0 I1 J0 := by rw [eI1]; exact hV0.putI h0.2 rfl trivial
  have tk1_a0_6 : (I1 a0 6).toInt = (I0 a0 6).toInt := by rw [eI1, up2_ne _ _ (fun z => absurd z.2 (by decide))]
  have tk1_a0_18 : (I1 a0 18).toInt = (I0 a0 18).toInt := by rw [eI1, up2_ne _ _ (fun z => absurd z.2 (by decide))]
  have tk1_rfOa016_27 : (I1 (rf O a0 16) 27).toInt = (I0 (rf O a0 16) 27).toInt := by rw [eI1, up2_ne _ _ (fun z => by have q := tr_S.2; rw [z.1, h0.2] at q; exact absurd q (by decide))]
  refine Wp.neg hMs ?_
  refine Wpc1 (s_Mo_in hN hV1.1  (fun z_21 b_21 p_21 => ?_))
  try dsimp only at p_21
  have hk1_21 : Int32.toInt (Int32.ofInt (1)) = 1 := ofI (by decide)
  have hk2_21 : Int32.toInt (Int32.ofInt (5)) = 5 := ofI (by decide)
  have rz_21 := rg z_21
  refine Wp.ite (fun c_24 => ?_) (fun c_24 => ?_)
  · skip
    refine Wpc2 (s_Mo_refused hN hV1.1 h0 (fun z_29 I3 hI3 hF3 p_29 => ?_))
    have hV3 : SQ mS P K O I0 J0 I3 J0 := hV1.call (kpL_le (frL_le (by decide)) rfl) hI3 hF3
    have tk3_rfOa016_27 : (I3 (rf O a0 16) 27).toInt = (I1 (rf O a0 16) 27).toInt := by rw [(hF3 (rf O a0 16) 27 (by rw [tr_S.2]; rfl)).1]
    try dsimp only at p_29
    have hk1_29 : Int32.toInt (Int32.ofInt (2)) = 2 := ofI (by decide)
    have rz_29 := rg z_29
    exact Wp.ret (hQ z_29 I3 hV3.1 hV3.2 (by first | omega | (dsimp only; omega)))
  · skip
    refine Wpc1 (s_Mo_rules_G hN hV1.1 h0 hN3 (hGM.keep (fun k => (hV1.2 (rf O a0 3) k (by rw [hN3.2.2]; rfl)).1)) (by omega) (fun I4 hI4 hF4 p_35 => ?_))
    have hV4 : SQ mS P K O I0 J0 I4 J0 := hV1.call (kpL_le (frL_le (by decide)) rfl) hI4 hF4
    have tk4_a0_6 : (I4 a0 6).toInt = (I1 a0 6).toInt := by rw [(hF4 a0 6 (by rw [h0.2]; rfl)).1]
    have tk4_a0_18 : (I4 a0 18).toInt = (I1 a0 18).toInt := by rw [(hF4 a0 18 (by rw [h0.2]; rfl)).1]
    have tk4_rfOa016_27 : (I4 (rf O a0 16) 27).toInt = (I1 (rf O a0 16) 27).toInt := by rw [(hF4 (rf O a0 16) 27 (by rw [tr_S.2]; rfl)).1]
    have t_40 := rf_ok hV.1 h0 (show sp 10 17 = some 49 from rfl)
    have t_47 := rf_ok hV.1 h0 (show sp 10 16 = some 31 from rfl)
    first | (have e_53 := t_sub (x := (I4 (rf O a0 17) 32)) (y := (I4 (rf O a0 16) 32)) rfl rfl (by omega)) | skip
    refine Wpc2 (s_Mo_done hN hV4.1 h0 (fun z_54 I5 hI5 hF5 p_54 => ?_))
    have hV5 : SQ mS P K O I0 J0 I5 J0 := hV4.call (kpL_le (frL_le (by decide)) rfl) hI5 hF5
    have tk5_rfOa016_27 : (I5 (rf O a0 16) 27).toInt = (I4 (rf O a0 16) 27).toInt := by rw [(hF5 (rf O a0 16) 27 (by rw [tr_S.2]; rfl)).1]
    try dsimp only at p_54
    have rz_54 := rg z_54
    exact Wp.ret (hQ z_54 I5 hV5.1 hV5.2 (by first | omega | (dsimp only; omega)))
set_option maxHeartbeats 4000000 in
set_option maxRecDepth 100000 in
theorem s_Mo_lacks_Z {P : List Nat} {K : Nat → Nat} {N : Nat} {O : WO} {I0 : WI} {J0 : WJ} (hN : 2147483648 ≤ N) (hV : IV P K I0 O) {a0 : Nat} (h0 : a0 ∈ P ∧ K a0 = 10) {x1 : Int32} (hMn : O a0 3 = none) {Q : (Int32 × WI) → Prop} (hQ : ∀ (z : Int32) (I_ : WI), IV P K I_ O → FQ mS K I0 J0 I_ J0 → (Int32.toInt (I_ a0 2) = -1 ∧ (I_ a0 6).toInt = (I0 a0 6).toInt ∧ (I_ a0 18).toInt = (I0 a0 18).toInt ∧ (I_ (rf O a0 16) 27).toInt = (I0 (rf O a0 16) 27).toInt) → Q (z, I_)) : Wp (F_Mo_lacks N O I0 J0 a0 x1) Q := by
  unfold F_Mo_lacks
  have r1 := rg x1
  have tr_S := rf_ok hV.1 h0 (show sp 10 16 = some 31 from rfl)
  have tr_TW := rf_ok hV.1 h0 (show sp 10 17 = some 49 from rfl)
  have tr_TL := rf_ok hV.1 h0 (show sp 10 32 = some 50 from rfl)
  have oS := hV.2 (rf O a0 16) tr_S.1 27
  rw [tr_S.2] at oS
  replace oS : 0 ≤ (I0 (rf O a0 16) 27).toInt ∧ (I0 (rf O a0 16) 27).toInt ≤ 240 := oS
  have ost := hV.2 a0 h0.1 18
  rw [h0.2] at ost
  replace ost : 0 ≤ (I0 a0 18).toInt ∧ (I0 a0 18).toInt ≤ 240 := ost
  have hV0 : SQ mS P K O I0 J0 I0 J0 := SQ.rf hV
  refine Wp_lb (fun I1 eI1 => ?_)
  have hV1 : SQ mS P K O I0 J0 I1 J0 := by rw [eI1]; exact hV0.putI h0.2 rfl trivial
  have tk1_a0_6 : (I1 a0 6).toInt = (I0 a0 6).toInt := by rw [eI1, up2_ne _ _ (fun z => absurd z.2 (by decide))]
  have tk1_a0_18 : (I1 a0 18).toInt = (I0 a0 18).toInt := by rw [eI1, up2_ne _ _ (fun z => absurd z.2 (by decide))]
  have tk1_rfOa016_27 : (I1 (rf O a0 16) 27).toInt = (I0 (rf O a0 16) 27).toInt := by rw [eI1, up2_ne _ _ (fun z => by have q := tr_S.2; rw [z.1, h0.2] at q; exact absurd q (by decide))]
  refine Wp.pos hMn ?_
  refine Wpc2 (s_Mo_refused hN hV1.1 h0 (fun z_14 I2 hI2 hF2 p_14 => ?_))
  have hV2 : SQ mS P K O I0 J0 I2 J0 := hV1.call (kpL_le (frL_le (by decide)) rfl) hI2 hF2
  have tk2_rfOa016_27 : (I2 (rf O a0 16) 27).toInt = (I1 (rf O a0 16) 27).toInt := by rw [(hF2 (rf O a0 16) 27 (by rw [tr_S.2]; rfl)).1]
  try dsimp only at p_14
  have hk1_14 : Int32.toInt (Int32.ofInt (1)) = 1 := ofI (by decide)
  have rz_14 := rg z_14
  exact Wp.ret (hQ z_14 I2 hV2.1 hV2.2 (by first | omega | (dsimp only; omega)))
set_option maxHeartbeats 4000000 in
set_option maxRecDepth 100000 in
theorem s_Mo_lacks_G {P : List Nat} {K : Nat → Nat} {N : Nat} {O : WO} {I0 : WI} {J0 : WJ} (hN : 2147483648 ≤ N) (hV : IV P K I0 O) {a0 : Nat} (h0 : a0 ∈ P ∧ K a0 = 10) {x1 : Int32} (hN3 : NN P K O a0 3 9) (hGM : GM I0 (rf O a0 3)) {Q : (Int32 × WI) → Prop} (hQ : ∀ (z : Int32) (I_ : WI), IV P K I_ O → FQ mS K I0 J0 I_ J0 → (Int32.toInt (I_ a0 2) = -1 ∧ (I_ a0 6).toInt = (I0 a0 6).toInt ∧ (I_ a0 18).toInt = (I0 a0 18).toInt ∧ (I_ (rf O a0 16) 27).toInt = (I0 (rf O a0 16) 27).toInt) → Q (z, I_)) : Wp (F_Mo_lacks N O I0 J0 a0 x1) Q := by
  unfold F_Mo_lacks
  have r1 := rg x1
  have tr_S := rf_ok hV.1 h0 (show sp 10 16 = some 31 from rfl)
  have tr_TW := rf_ok hV.1 h0 (show sp 10 17 = some 49 from rfl)
  have tr_TL := rf_ok hV.1 h0 (show sp 10 32 = some 50 from rfl)
  have oS := hV.2 (rf O a0 16) tr_S.1 27
  rw [tr_S.2] at oS
  replace oS : 0 ≤ (I0 (rf O a0 16) 27).toInt ∧ (I0 (rf O a0 16) 27).toInt ≤ 240 := oS
  have ost := hV.2 a0 h0.1 18
  rw [h0.2] at ost
  replace ost : 0 ≤ (I0 a0 18).toInt ∧ (I0 a0 18).toInt ≤ 240 := ost
  have hMs : ¬ O a0 3 = none := by rw [hN3.1]; exact fun z => by cases z
  have hV0 : SQ mS P K O I0 J0 I0 J0 := SQ.rf hV
  refine Wp_lb (fun I1 eI1 => ?_)
  have hV1 : SQ mS P K O I0 J0 I1 J0 := by rw [eI1]; exact hV0.putI h0.2 rfl trivial
  have tk1_a0_6 : (I1 a0 6).toInt = (I0 a0 6).toInt := by rw [eI1, up2_ne _ _ (fun z => absurd z.2 (by decide))]
  have tk1_a0_18 : (I1 a0 18).toInt = (I0 a0 18).toInt := by rw [eI1, up2_ne _ _ (fun z => absurd z.2 (by decide))]
  have tk1_rfOa016_27 : (I1 (rf O a0 16) 27).toInt = (I0 (rf O a0 16) 27).toInt := by rw [eI1, up2_ne _ _ (fun z => by have q := tr_S.2; rw [z.1, h0.2] at q; exact absurd q (by decide))]
  refine Wp.neg hMs ?_
  refine Wpc1 (s_Mo_in hN hV1.1  (fun z_21 b_21 p_21 => ?_))
  try dsimp only at p_21
  have hk1_21 : Int32.toInt (Int32.ofInt (1)) = 1 := ofI (by decide)
  have hk2_21 : Int32.toInt (Int32.ofInt (5)) = 5 := ofI (by decide)
  have rz_21 := rg z_21
  refine Wp.ite (fun c_24 => ?_) (fun c_24 => ?_)
  · skip
    refine Wpc2 (s_Mo_refused hN hV1.1 h0 (fun z_29 I3 hI3 hF3 p_29 => ?_))
    have hV3 : SQ mS P K O I0 J0 I3 J0 := hV1.call (kpL_le (frL_le (by decide)) rfl) hI3 hF3
    have tk3_rfOa016_27 : (I3 (rf O a0 16) 27).toInt = (I1 (rf O a0 16) 27).toInt := by rw [(hF3 (rf O a0 16) 27 (by rw [tr_S.2]; rfl)).1]
    try dsimp only at p_29
    have hk1_29 : Int32.toInt (Int32.ofInt (2)) = 2 := ofI (by decide)
    have rz_29 := rg z_29
    exact Wp.ret (hQ z_29 I3 hV3.1 hV3.2 (by first | omega | (dsimp only; omega)))
  · skip
    refine Wpc1 (s_Mo_rules_G hN hV1.1 h0 hN3 (hGM.keep (fun k => (hV1.2 (rf O a0 3) k (by rw [hN3.2.2]; rfl)).1)) (by omega) (fun I4 hI4 hF4 p_35 => ?_))
    have hV4 : SQ mS P K O I0 J0 I4 J0 := hV1.call (kpL_le (frL_le (by decide)) rfl) hI4 hF4
    have tk4_a0_6 : (I4 a0 6).toInt = (I1 a0 6).toInt := by rw [(hF4 a0 6 (by rw [h0.2]; rfl)).1]
    have tk4_a0_18 : (I4 a0 18).toInt = (I1 a0 18).toInt := by rw [(hF4 a0 18 (by rw [h0.2]; rfl)).1]
    have tk4_rfOa016_27 : (I4 (rf O a0 16) 27).toInt = (I1 (rf O a0 16) 27).toInt := by rw [(hF4 (rf O a0 16) 27 (by rw [tr_S.2]; rfl)).1]
    have t_40 := rf_ok hV.1 h0 (show sp 10 17 = some 49 from rfl)
    have t_47 := rf_ok hV.1 h0 (show sp 10 16 = some 31 from rfl)
    first | (have e_53 := t_sub (x := (I4 (rf O a0 17) 23)) (y := (I4 (rf O a0 16) 23)) rfl rfl (by omega)) | skip
    refine Wpc2 (s_Mo_done hN hV4.1 h0 (fun z_54 I5 hI5 hF5 p_54 => ?_))
    have hV5 : SQ mS P K O I0 J0 I5 J0 := hV4.call (kpL_le (frL_le (by decide)) rfl) hI5 hF5
    have tk5_rfOa016_27 : (I5 (rf O a0 16) 27).toInt = (I4 (rf O a0 16) 27).toInt := by rw [(hF5 (rf O a0 16) 27 (by rw [tr_S.2]; rfl)).1]
    try dsimp only at p_54
    have rz_54 := rg z_54
    exact Wp.ret (hQ z_54 I5 hV5.1 hV5.2 (by first | omega | (dsimp only; omega)))
set_option maxHeartbeats 4000000 in
set_option maxRecDepth 100000 in
theorem s_Mo_marks_Z {P : List Nat} {K : Nat → Nat} {N : Nat} {O : WO} {I0 : WI} {J0 : WJ} (hN : 2147483648 ≤ N) (hV : IV P K I0 O) {a0 : Nat} (h0 : a0 ∈ P ∧ K a0 = 10) {x1 : Int32} {x2 : Int32} {x3 : Int32} {x4 : Int32} {x5 : Int32} {x6 : Int32} (hMn : O a0 3 = none) {Q : (Int32 × WI × WJ) → Prop} (hQ : ∀ (z : Int32) (I_ : WI) (J_ : WJ), IV P K I_ O → FQ mS K I0 J0 I_ J_ → (Int32.toInt (I_ a0 2) = -1 ∧ (I_ a0 6).toInt = (I0 a0 6).toInt ∧ (I_ a0 18).toInt = (I0 a0 18).toInt ∧ (I_ (rf O a0 16) 27).toInt = (I0 (rf O a0 16) 27).toInt) → Q (z, I_, J_)) : Wp (F_Mo_marks N O I0 J0 a0 x1 x2 x3 x4 x5 x6) Q := by
  unfold F_Mo_marks
  have r1 := rg x1
  have r2 := rg x2
  have r3 := rg x3
  have r4 := rg x4
  have r5 := rg x5
  have r6 := rg x6
  have tr_S := rf_ok hV.1 h0 (show sp 10 16 = some 31 from rfl)
  have tr_TW := rf_ok hV.1 h0 (show sp 10 17 = some 49 from rfl)
  have oS := hV.2 (rf O a0 16) tr_S.1 27
  rw [tr_S.2] at oS
  replace oS : 0 ≤ (I0 (rf O a0 16) 27).toInt ∧ (I0 (rf O a0 16) 27).toInt ≤ 240 := oS
  have ost := hV.2 a0 h0.1 18
  rw [h0.2] at ost
  replace ost : 0 ≤ (I0 a0 18).toInt ∧ (I0 a0 18).toInt ≤ 240 := ost
  have hV0 : SQ mS P K O I0 J0 I0 J0 := SQ.rf hV
  refine Wp_lb (fun I1 eI1 => ?_)
  have hV1 : SQ mS P K O I0 J0 I1 J0 := by rw [eI1]; exact hV0.putI h0.2 rfl trivial
  have tk1_rfOa017_27 : (I1 (rf O a0 17) 27).toInt = (I0 (rf O a0 17) 27).toInt := by rw [eI1, up2_ne _ _ (fun z => by have q := tr_TW.2; rw [z.1, h0.2] at q; exact absurd q (by decide))]
  have tk1_a0_6 : (I1 a0 6).toInt = (I0 a0 6).toInt := by rw [eI1, up2_ne _ _ (fun z => absurd z.2 (by decide))]
  have tk1_a0_18 : (I1 a0 18).toInt = (I0 a0 18).toInt := by rw [eI1, up2_ne _ _ (fun z => absurd z.2 (by decide))]
  have tk1_rfOa016_27 : (I1 (rf O a0 16) 27).toInt = (I0 (rf O a0 16) 27).toInt := by rw [eI1, up2_ne _ _ (fun z => by have q := tr_S.2; rw [z.1, h0.2] at q; exact absurd q (by decide))]
  refine Wpc1 (s_Mo_isSize_Z hN hV1.1 h0 hMn (fun z_8 b_8 p_8 => ?_))
  try dsimp only at p_8
  have rz_8 := rg z_8
  refine Wp_jq (fun k_36 => Wp (k_36 ) Q) (?_) (fun k_36 hk_36 => ?_)
  · skip
    refine Wpc2 (s_Mo_refused hN hV1.1 h0 (fun z_38 I3 hI3 hF3 p_38 => ?_))
    have hV3 : SQ mS P K O I0 J0 I3 J0 := hV1.call (kpL_le (frL_le (by decide)) rfl) hI3 hF3
    have tk3_rfOa017_27 : (I3 (rf O a0 17) 27).toInt = (I1 (rf O a0 17) 27).toInt := by rw [(hF3 (rf O a0 17) 27 (by rw [tr_TW.2]; rfl)).1]
    have tk3_rfOa016_27 : (I3 (rf O a0 16) 27).toInt = (I1 (rf O a0 16) 27).toInt := by rw [(hF3 (rf O a0 16) 27 (by rw [tr_S.2]; rfl)).1]
    try dsimp only at p_38
    have hk1_38 : Int32.toInt (Int32.ofInt (1)) = 1 := ofI (by decide)
    have rz_38 := rg z_38
    exact Wp.ret (hQ z_38 I3 J0 hV3.1 hV3.2 (by first | omega | (dsimp only; omega)))
  refine Wp.ite (fun c_11 => ?_) (fun c_11 => ?_)
  · skip
    exact hk_36   
  · skip
    refine Wpc1 (s_Mo_in hN hV1.1  (fun z_19 b_19 p_19 => ?_))
    try dsimp only at p_19
    have hk1_19 : Int32.toInt (Int32.ofInt (0)) = 0 := ofI (by decide)
    have hk2_19 : Int32.toInt (Int32.ofInt (11)) = 11 := ofI (by decide)
    have rz_19 := rg z_19
    refine Wp.ite (fun c_22 => ?_) (fun c_22 => ?_)
    · skip
      exact hk_36   
    · skip
      refine Wpc1 (s_Mo_in hN hV1.1  (fun z_30 b_30 p_30 => ?_))
      try dsimp only at p_30
      have hk1_30 : Int32.toInt (Int32.ofInt (0)) = 0 := ofI (by decide)
      have hk2_30 : Int32.toInt (Int32.ofInt (11)) = 11 := ofI (by decide)
      have rz_30 := rg z_30
      refine Wp.ite (fun c_33 => ?_) (fun c_33 => ?_)
      · skip
        exact hk_36   
      · skip
        refine Wpc1 (s_Mo_isStart hN hV1.1  (fun z_45 b_45 p_45 => ?_))
        try dsimp only at p_45
        have rz_45 := rg z_45
        refine Wp_jq (fun k_58 => Wp (k_58 ) Q) (?_) (fun k_58 hk_58 => ?_)
        · skip
          refine Wpc2 (s_Mo_refused hN hV1.1 h0 (fun z_60 I7 hI7 hF7 p_60 => ?_))
          have hV7 : SQ mS P K O I0 J0 I7 J0 := hV1.call (kpL_le (frL_le (by decide)) rfl) hI7 hF7
          have tk7_rfOa017_27 : (I7 (rf O a0 17) 27).toInt = (I1 (rf O a0 17) 27).toInt := by rw [(hF7 (rf O a0 17) 27 (by rw [tr_TW.2]; rfl)).1]
          have tk7_rfOa016_27 : (I7 (rf O a0 16) 27).toInt = (I1 (rf O a0 16) 27).toInt := by rw [(hF7 (rf O a0 16) 27 (by rw [tr_S.2]; rfl)).1]
          try dsimp only at p_60
          have hk1_60 : Int32.toInt (Int32.ofInt (2)) = 2 := ofI (by decide)
          have rz_60 := rg z_60
          exact Wp.ret (hQ z_60 I7 J0 hV7.1 hV7.2 (by first | omega | (dsimp only; omega)))
        refine Wp.ite (fun c_48 => ?_) (fun c_48 => ?_)
        · skip
          exact hk_58   
        · skip
          refine Wp.ite (fun c_55 => ?_) (fun c_55 => ?_)
          · skip
            have t_66 := rf_ok hV.1 h0 (show sp 10 17 = some 49 from rfl)
            exfalso; omega
          · skip
            exact hk_58   
set_option maxHeartbeats 4000000 in
set_option maxRecDepth 100000 in
theorem s_Mo_marks_G {P : List Nat} {K : Nat → Nat} {N : Nat} {O : WO} {I0 : WI} {J0 : WJ} (hN : 2147483648 ≤ N) (hV : IV P K I0 O) {a0 : Nat} (h0 : a0 ∈ P ∧ K a0 = 10) {x1 : Int32} {x2 : Int32} {x3 : Int32} {x4 : Int32} {x5 : Int32} {x6 : Int32} (hN3 : NN P K O a0 3 9) (hGM : GM I0 (rf O a0 3)) {Q : (Int32 × WI × WJ) → Prop} (hQ : ∀ (z : Int32) (I_ : WI) (J_ : WJ), IV P K I_ O → FQ mS K I0 J0 I_ J_ → (Int32.toInt (I_ a0 2) = -1 ∧ (I_ a0 6).toInt = (I0 a0 6).toInt ∧ (I_ a0 18).toInt = (I0 a0 18).toInt ∧ (I_ (rf O a0 16) 27).toInt = (I0 (rf O a0 16) 27).toInt) → Q (z, I_, J_)) : Wp (F_Mo_marks N O I0 J0 a0 x1 x2 x3 x4 x5 x6) Q := by
  unfold F_Mo_marks
  have r1 := rg x1
  have r2 := rg x2
  have r3 := rg x3
  have r4 := rg x4
  have r5 := rg x5
  have r6 := rg x6
  have tr_S := rf_ok hV.1 h0 (show sp 10 16 = some 31 from rfl)
  have tr_TW := rf_ok hV.1 h0 (show sp 10 17 = some 49 from rfl)
  have oS := hV.2 (rf O a0 16) tr_S.1 27
  rw [tr_S.2] at oS
  replace oS : 0 ≤ (I0 (rf O a0 16) 27).toInt ∧ (I0 (rf O a0 16) 27).toInt ≤ 240 := oS
  have ost := hV.2 a0 h0.1 18
  rw [h0.2] at ost
  replace ost : 0 ≤ (I0 a0 18).toInt ∧ (I0 a0 18).toInt ≤ 240 := ost
  have hMs : ¬ O a0 3 = none := by rw [hN3.1]; exact fun z => by cases z
  have hV0 : SQ mS P K O I0 J0 I0 J0 := SQ.rf hV
  refine Wp_lb (fun I1 eI1 => ?_)
  have hV1 : SQ mS P K O I0 J0 I1 J0 := by rw [eI1]; exact hV0.putI h0.2 rfl trivial
  have tk1_rfOa017_27 : (I1 (rf O a0 17) 27).toInt = (I0 (rf O a0 17) 27).toInt := by rw [eI1, up2_ne _ _ (fun z => by have q := tr_TW.2; rw [z.1, h0.2] at q; exact absurd q (by decide))]
  have tk1_a0_6 : (I1 a0 6).toInt = (I0 a0 6).toInt := by rw [eI1, up2_ne _ _ (fun z => absurd z.2 (by decide))]
  have tk1_a0_18 : (I1 a0 18).toInt = (I0 a0 18).toInt := by rw [eI1, up2_ne _ _ (fun z => absurd z.2 (by decide))]
  have tk1_rfOa016_27 : (I1 (rf O a0 16) 27).toInt = (I0 (rf O a0 16) 27).toInt := by rw [eI1, up2_ne _ _ (fun z => by have q := tr_S.2; rw [z.1, h0.2] at q; exact absurd q (by decide))]
  refine Wpc1 (s_Mo_isSize_G hN hV1.1 h0 hN3 (hGM.keep (fun k => (hV1.2 (rf O a0 3) k (by rw [hN3.2.2]; rfl)).1)) (fun z_8 b_8 p_8 => ?_))
  try dsimp only at p_8
  have rz_8 := rg z_8
  refine Wp_jq (fun k_36 => Wp (k_36 ) Q) (?_) (fun k_36 hk_36 => ?_)
  · skip
    refine Wpc2 (s_Mo_refused hN hV1.1 h0 (fun z_38 I3 hI3 hF3 p_38 => ?_))
    have hV3 : SQ mS P K O I0 J0 I3 J0 := hV1.call (kpL_le (frL_le (by decide)) rfl) hI3 hF3
    have tk3_rfOa017_27 : (I3 (rf O a0 17) 27).toInt = (I1 (rf O a0 17) 27).toInt := by rw [(hF3 (rf O a0 17) 27 (by rw [tr_TW.2]; rfl)).1]
    have tk3_rfOa016_27 : (I3 (rf O a0 16) 27).toInt = (I1 (rf O a0 16) 27).toInt := by rw [(hF3 (rf O a0 16) 27 (by rw [tr_S.2]; rfl)).1]
    try dsimp only at p_38
    have hk1_38 : Int32.toInt (Int32.ofInt (1)) = 1 := ofI (by decide)
    have rz_38 := rg z_38
    exact Wp.ret (hQ z_38 I3 J0 hV3.1 hV3.2 (by first | omega | (dsimp only; omega)))
  refine Wp.ite (fun c_11 => ?_) (fun c_11 => ?_)
  · skip
    exact hk_36   
  · skip
    refine Wpc1 (s_Mo_in hN hV1.1  (fun z_19 b_19 p_19 => ?_))
    try dsimp only at p_19
    have hk1_19 : Int32.toInt (Int32.ofInt (0)) = 0 := ofI (by decide)
    have hk2_19 : Int32.toInt (Int32.ofInt (11)) = 11 := ofI (by decide)
    have rz_19 := rg z_19
    refine Wp.ite (fun c_22 => ?_) (fun c_22 => ?_)
    · skip
      exact hk_36   
    · skip
      refine Wpc1 (s_Mo_in hN hV1.1  (fun z_30 b_30 p_30 => ?_))
      try dsimp only at p_30
      have hk1_30 : Int32.toInt (Int32.ofInt (0)) = 0 := ofI (by decide)
      have hk2_30 : Int32.toInt (Int32.ofInt (11)) = 11 := ofI (by decide)
      have rz_30 := rg z_30
      refine Wp.ite (fun c_33 => ?_) (fun c_33 => ?_)
      · skip
        exact hk_36   
      · skip
        refine Wpc1 (s_Mo_isStart hN hV1.1  (fun z_45 b_45 p_45 => ?_))
        try dsimp only at p_45
        have rz_45 := rg z_45
        refine Wp_jq (fun k_58 => Wp (k_58 ) Q) (?_) (fun k_58 hk_58 => ?_)
        · skip
          refine Wpc2 (s_Mo_refused hN hV1.1 h0 (fun z_60 I7 hI7 hF7 p_60 => ?_))
          have hV7 : SQ mS P K O I0 J0 I7 J0 := hV1.call (kpL_le (frL_le (by decide)) rfl) hI7 hF7
          have tk7_rfOa017_27 : (I7 (rf O a0 17) 27).toInt = (I1 (rf O a0 17) 27).toInt := by rw [(hF7 (rf O a0 17) 27 (by rw [tr_TW.2]; rfl)).1]
          have tk7_rfOa016_27 : (I7 (rf O a0 16) 27).toInt = (I1 (rf O a0 16) 27).toInt := by rw [(hF7 (rf O a0 16) 27 (by rw [tr_S.2]; rfl)).1]
          try dsimp only at p_60
          have hk1_60 : Int32.toInt (Int32.ofInt (2)) = 2 := ofI (by decide)
          have rz_60 := rg z_60
          exact Wp.ret (hQ z_60 I7 J0 hV7.1 hV7.2 (by first | omega | (dsimp only; omega)))
        refine Wp.ite (fun c_48 => ?_) (fun c_48 => ?_)
        · skip
          exact hk_58   
        · skip
          refine Wp.ite (fun c_55 => ?_) (fun c_55 => ?_)
          · skip
            have t_66 := rf_ok hV.1 h0 (show sp 10 17 = some 49 from rfl)
            refine Wpc1 (s_Mo_begins_G hN hV1.1 h0 t_66 hN3 (hGM.keep (fun k => (hV1.2 (rf O a0 3) k (by rw [hN3.2.2]; rfl)).1)) (fun I8 hI8 hF8 p_72 => ?_))
            have hV8 : SQ mS P K O I0 J0 I8 J0 := hV1.call (kpL_le (frL_le (by decide)) rfl) hI8 hF8
            have tk8_a0_6 : (I8 a0 6).toInt = (I1 a0 6).toInt := by rw [(hF8 a0 6 (by rw [h0.2]; rfl)).1]
            have tk8_a0_18 : (I8 a0 18).toInt = (I1 a0 18).toInt := by rw [(hF8 a0 18 (by rw [h0.2]; rfl)).1]
            have tk8_rfOa016_27 : (I8 (rf O a0 16) 27).toInt = (I1 (rf O a0 16) 27).toInt := by rw [(hF8 (rf O a0 16) 27 (by rw [tr_S.2]; rfl)).1]
            try dsimp only at p_72
            have lp_78 : ∀ (m_78 : Nat) (x7_78 : Int32) (J_78 : WJ), Int.toNat (5 - (x7_78).toInt) < m_78 → (0 ≤ Int32.toInt x7_78 ∧ Int32.toInt x7_78 ≤ 5) → (Int32.toInt (I8 (rf O a0 17) 27) = 0) → ((I8 a0 6).toInt = (I0 a0 6).toInt) → ((I8 a0 18).toInt = (I0 a0 18).toInt) → ((I8 (rf O a0 16) 27).toInt = (I0 (rf O a0 16) 27).toInt) → SQ mS P K O I0 J0 I8 J_78 → Wp (lp (B_Mo_marks_78 N O (a0) (x4) (x5) (x6) (I8)) (fun _ _ => none) m_78 x7_78 J_78) Q := by
              intro m_78
              induction m_78 with
              | zero => intro x7_78 J_78 hm; exact absurd hm (Nat.not_lt_zero _)
              | succ m_78 ih_78 =>
              intro x7_78 J_78 hm_78 iv0_78 iv1_78 iv2_78 iv3_78 iv4_78 hV_78
              have rg7_78 := rg x7_78
              show Wp (B_Mo_marks_78 N O (a0) (x4) (x5) (x6) (I8) (lp (B_Mo_marks_78 N O (a0) (x4) (x5) (x6) (I8)) (fun _ _ => none) m_78) x7_78 J_78) Q
              unfold B_Mo_marks_78
              refine Wp.ite (fun c_81 => ?_) (fun c_81 => ?_)
              · skip
                have lp_125 : ∀ (m_125 : Nat) (x7_125 : Int64) (x9_125 : Int32) (I_125 : WI) (J_125 : WJ), Int.toNat (12 - (x9_125).toInt) < m_125 → (0 ≤ Int32.toInt x9_125 ∧ Int32.toInt x9_125 ≤ 12) → (Int32.toInt (I_125 (rf O a0 17) 27) = (x9_125).toInt) → ((I_125 a0 6).toInt = (I0 a0 6).toInt) → ((I_125 a0 18).toInt = (I0 a0 18).toInt) → ((I_125 (rf O a0 16) 27).toInt = (I0 (rf O a0 16) 27).toInt) → SQ mS P K O I0 J0 I_125 J_125 → Wp (lp (B_Mo_marks_125 N O (a0) (x5) (x6)) (fun _ _ _ _ => none) m_125 x7_125 x9_125 I_125 J_125) Q := by
                  intro m_125
                  induction m_125 with
                  | zero => intro x7_125 x9_125 I_125 J_125 hm; exact absurd hm (Nat.not_lt_zero _)
                  | succ m_125 ih_125 =>
                  intro x7_125 x9_125 I_125 J_125 hm_125 iv0_125 iv1_125 iv2_125 iv3_125 iv4_125 hV_125
                  have rg9_125 := rg x9_125
                  show Wp (B_Mo_marks_125 N O (a0) (x5) (x6) (lp (B_Mo_marks_125 N O (a0) (x5) (x6)) (fun _ _ _ _ => none) m_125) x7_125 x9_125 I_125 J_125) Q
                  unfold B_Mo_marks_125
                  refine Wp.ite (fun c_129 => ?_) (fun c_129 => ?_)
                  · skip
                    refine Wpc2 (s_Mo_done hN hV_125.1 h0 (fun z_168 I9 hI9 hF9 p_168 => ?_))
                    have hV9 : SQ mS P K O I0 J0 I9 J_125 := hV_125.call (kpL_le (frL_le (by decide)) rfl) hI9 hF9
                    have tk9_rfOa017_27 : (I9 (rf O a0 17) 27).toInt = (I_125 (rf O a0 17) 27).toInt := by rw [(hF9 (rf O a0 17) 27 (by rw [tr_TW.2]; rfl)).1]
                    have tk9_rfOa016_27 : (I9 (rf O a0 16) 27).toInt = (I_125 (rf O a0 16) 27).toInt := by rw [(hF9 (rf O a0 16) 27 (by rw [tr_S.2]; rfl)).1]
                    try dsimp only at p_168
                    have rz_168 := rg z_168
                    exact Wp.ret (hQ z_168 I9 J_125 hV9.1 hV9.2 (by first | omega | (dsimp only; omega)))
                  · skip
                    have t_134 := rf_ok hV.1 h0 (show sp 10 17 = some 49 from rfl)
                    refine Wpc1 (s_Mo_byProgram_G hN hV_125.1 h0 t_134 hN3 (hGM.keep (fun k => (hV_125.2 (rf O a0 3) k (by rw [hN3.2.2]; rfl)).1)) (by omega) (by omega) (fun I10 hI10 hF10 p_139 => ?_))
                    have hV10 : SQ mS P K O I0 J0 I10 J_125 := hV_125.call (kpL_le (frL_le (by decide)) rfl) hI10 hF10
                    have tk10_a0_6 : (I10 a0 6).toInt = (I_125 a0 6).toInt := by rw [(hF10 a0 6 (by rw [h0.2]; rfl)).1]
                    have tk10_a0_18 : (I10 a0 18).toInt = (I_125 a0 18).toInt := by rw [(hF10 a0 18 (by rw [h0.2]; rfl)).1]
                    have tk10_rfOa016_27 : (I10 (rf O a0 16) 27).toInt = (I_125 (rf O a0 16) 27).toInt := by rw [(hF10 (rf O a0 16) 27 (by rw [tr_S.2]; rfl)).1]
                    try dsimp only at p_139
                    refine Wp_jq (fun k_158 => ∀ (y7_158 : Int64) (IJ_158 : WI) (JJ_158 : WJ), (Int32.toInt (IJ_158 (rf O a0 17) 27) = (x9_125).toInt + 1) → ((IJ_158 a0 6).toInt = (I0 a0 6).toInt) → ((IJ_158 a0 18).toInt = (I0 a0 18).toInt) → ((IJ_158 (rf O a0 16) 27).toInt = (I0 (rf O a0 16) 27).toInt) → SQ mS P K O I0 J0 IJ_158 JJ_158 → Wp (k_158 y7_158 IJ_158 JJ_158) Q) (fun y7_158 IJ_158 JJ_158 jv0_158 jv1_158 jv2_158 jv3_158 hVJ_158 => ?_) (fun k_158 hk_158 => ?_)
                    · skip
                      refine Wp_lb (fun v9_158 ev_158 => ?_)
                      have rv_158 := rg v9_158
                      first | (have e_158 : v9_158.toInt = (x9_125).toInt + 1 := by rw [ev_158]; exact t_add rfl (ofI (by decide)) (by omega)) | skip
                      clear ev_158
                      exact ih_125 (y7_158) (v9_158) IJ_158 JJ_158 (by omega) (by omega) (by omega) (by omega) (by omega) (by omega) hVJ_158
                    refine Wp.ite (fun c_146 => ?_) (fun c_146 => ?_)
                    · skip
                      exact hk_158 (x7_125) I10 J_125 (by omega) (by omega) (by omega) (by omega) hV10
                    · skip
                      refine Wpc3 (s_Mo_leads_G hN hV10.1 h0 hN3 (hGM.keep (fun k => (hV10.2 (rf O a0 3) k (by rw [hN3.2.2]; rfl)).1)) (fun z_152 I11 J11 hI11 hF11 p_152 => ?_))
                      have hV11 : SQ mS P K O I0 J0 I11 J11 := hV10.call (kpL_le (frL_le (by decide)) rfl) hI11 hF11
                      have tk11_rfOa017_27 : (I11 (rf O a0 17) 27).toInt = (I10 (rf O a0 17) 27).toInt := by rw [(hF11 (rf O a0 17) 27 (by rw [tr_TW.2]; rfl)).1]
                      have tk11_a0_6 : (I11 a0 6).toInt = (I10 a0 6).toInt := by rw [(hF11 a0 6 (by rw [h0.2]; rfl)).1]
                      have tk11_a0_18 : (I11 a0 18).toInt = (I10 a0 18).toInt := by rw [(hF11 a0 18 (by rw [h0.2]; rfl)).1]
                      have tk11_rfOa016_27 : (I11 (rf O a0 16) 27).toInt = (I10 (rf O a0 16) 27).toInt := by rw [(hF11 (rf O a0 16) 27 (by rw [tr_S.2]; rfl)).1]
                      refine Wp_lb (fun v7_156 ev_156 => ?_)
                      exact hk_158 (v7_156) I11 J11 (by omega) (by omega) (by omega) (by omega) hV11
                exact lp_125 N ((0 : Int64)) ((Int32.ofInt (0))) I8 J_78 (by have hci0 : Int32.toInt (Int32.ofInt (0)) = 0 := ofI (by decide); omega) (by have hci0 : Int32.toInt (Int32.ofInt (0)) = 0 := ofI (by decide); omega) (by have hci0 : Int32.toInt (Int32.ofInt (0)) = 0 := ofI (by decide); omega) (by omega) (by omega) (by omega) hV_78
              · skip
                have t_85 := rf_ok hV.1 h0 (show sp 10 35 = some 41 from rfl)
                refine Wp_jq (fun k_104 => ∀ (s0_104 : Int64), (Int32.toInt (I8 (rf O a0 17) 27) = 0) → Wp (k_104 s0_104) Q) (fun s0_104 jv0_104  => ?_) (fun k_104 hk_104 => ?_)
                · skip
                  refine Wp.pos (by omega) ?_
                  refine Wp_lb (fun J12 eJ12 => ?_)
                  have hV12 : SQ mS P K O I0 J0 I8 J12 := by rw [eJ12]; exact hV_78.putJ t_85.2 rfl
                  have t_106 := rf_ok hV.1 h0 (show sp 10 36 = some 41 from rfl)
                  refine Wp.pos (by omega) ?_
                  refine Wp_lb (fun J13 eJ13 => ?_)
                  have hV13 : SQ mS P K O I0 J0 I8 J13 := by rw [eJ13]; exact hV12.putJ t_106.2 rfl
                  refine Wp_lb (fun v7_113 ev_113 => ?_)
                  have rv_113 := rg v7_113
                  first | (have e_113 : v7_113.toInt = (x7_78).toInt + 1 := by rw [ev_113]; exact t_add rfl (ofI (by decide)) (by omega)) | skip
                  clear ev_113
                  exact ih_78 (v7_113) J13 (by omega) (by omega) (by omega) (by omega) (by omega) (by omega) hV13
                refine Wp.ite (fun c_94 => ?_) (fun c_94 => ?_)
                · skip
                  exact hk_104 ((1000000 : Int64)) (by omega) 
                · skip
                  exact hk_104 ((0 : Int64)) (by omega) 
            exact lp_78 N ((Int32.ofInt (0))) J0 (by have hci0 : Int32.toInt (Int32.ofInt (0)) = 0 := ofI (by decide); omega) (by have hci0 : Int32.toInt (Int32.ofInt (0)) = 0 := ofI (by decide); omega) (by omega) (by omega) (by omega) (by omega) hV8
          · skip
            exact hk_58   
