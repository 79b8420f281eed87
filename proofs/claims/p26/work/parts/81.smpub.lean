set_option maxHeartbeats 4000000 in
set_option maxRecDepth 100000 in
theorem s_Mo_splitsFrom {P : List Nat} {K : Nat → Nat} {N : Nat} {O : WO} {I0 : WI} {J0 : WJ} (hN : 2147483648 ≤ N) (hV : IV P K I0 O) {a0 : Nat} (h0 : a0 ∈ P ∧ K a0 = 10) {x1 : Int32} {Q : Int32 → Prop} (hQ : ∀ (z : Int32), True → Q z) : Wp (F_Mo_splitsFrom N O I0 J0 a0 x1) Q := by
  unfold F_Mo_splitsFrom
  have r1 := rg x1
  have hV0 : SQ kP P K O I0 J0 I0 J0 := SQ.rf hV
  have t_1 := rf_ok hV.1 h0 (show sp 10 33 = some 39 from rfl)
  have o_5 := hV0.1.2 (rf O a0 33) t_1.1 0
  rw [t_1.2] at o_5
  replace o_5 : 0 ≤ (I0 (rf O a0 33) 0).toInt ∧ (I0 (rf O a0 33) 0).toInt ≤ 8 := o_5
  have t_7 := rf_ok hV.1 h0 (show sp 10 33 = some 39 from rfl)
  have o_11 := hV0.1.2 (rf O a0 33) t_7.1 1
  rw [t_7.2] at o_11
  replace o_11 : 0 ≤ (I0 (rf O a0 33) 1).toInt ∧ (I0 (rf O a0 33) 1).toInt ≤ 8 := o_11
  first | (have e_12 := t_add (x := (I0 (rf O a0 33) 0)) (y := (I0 (rf O a0 33) 1)) rfl rfl (by omega)) | skip
  refine Wp_lb (fun v2_13 ev_13 => ?_)
  have ei_13 := congrArg Int32.toInt ev_13
  have rv_13 := rg v2_13
  have lp_19 : ∀ (m_19 : Nat) (x3_19 : Int32) (x4_19 : Int32), Int.toNat (2147483647 - (x4_19).toInt) < m_19 → (0 ≤ Int32.toInt x4_19) → Wp (lp (B_Mo_splitsFrom_19 N O (a0) (x1) (I0) (J0) (v2_13)) (fun _ _ => none) m_19 x3_19 x4_19) Q := by
    intro m_19
    induction m_19 with
    | zero => intro x3_19 x4_19 hm; exact absurd hm (Nat.not_lt_zero _)
    | succ m_19 ih_19 =>
    intro x3_19 x4_19 hm_19 iv0_19 
    have rg3_19 := rg x3_19
    have rg4_19 := rg x4_19
    show Wp (B_Mo_splitsFrom_19 N O (a0) (x1) (I0) (J0) (v2_13) (lp (B_Mo_splitsFrom_19 N O (a0) (x1) (I0) (J0) (v2_13)) (fun _ _ => none) m_19) x3_19 x4_19) Q
    unfold B_Mo_splitsFrom_19
    have rz_23 := rg ((Int32.ofInt (1)) <<< (v2_13 &&& 31))
    refine Wp.ite (fun c_24 => ?_) (fun c_24 => ?_)
    · skip
      exact Wp.ret (hQ x3_19 trivial)
    · skip
      refine Wpc1 (s_Mo_bits hN hV0.1 (by omega) (fun z_29 p_29 => ?_))
      have rz_29 := rg z_29
      have t_33 := rf_ok hV.1 h0 (show sp 10 33 = some 39 from rfl)
      have o_37 := hV0.1.2 (rf O a0 33) t_33.1 1
      rw [t_33.2] at o_37
      replace o_37 : 0 ≤ (I0 (rf O a0 33) 1).toInt ∧ (I0 (rf O a0 33) 1).toInt ≤ 8 := o_37
      refine Wp_jq (fun k_125 => ∀ (y3_125 : Int32), Wp (k_125 y3_125) Q) (fun y3_125   => ?_) (fun k_125 hk_125 => ?_)
      · skip
        refine Wp_lb (fun v4_125 ev_125 => ?_)
        have rv_125 := rg v4_125
        first | (have e_125 : v4_125.toInt = (x4_19).toInt + 1 := by rw [ev_125]; exact t_add rfl (ofI (by decide)) (by omega)) | skip
        clear ev_125
        exact ih_19 (y3_125) (v4_125) (by omega) (by omega) 
      refine Wp.ite (fun c_38 => ?_) (fun c_38 => ?_)
      · skip
        have lp_50 : ∀ (m_50 : Nat) (x5_50 : Int32) (x6_50 : Int32), Int.toNat (16 - (x6_50).toInt) < m_50 → (0 ≤ Int32.toInt x6_50 ∧ Int32.toInt x6_50 ≤ 16) → Wp (lp (B_Mo_splitsFrom_50 N O (a0) (x1) (I0) (v2_13) (x3_19) (x4_19) (k_125)) (fun _ _ => none) m_50 x5_50 x6_50) Q := by
          intro m_50
          induction m_50 with
          | zero => intro x5_50 x6_50 hm; exact absurd hm (Nat.not_lt_zero _)
          | succ m_50 ih_50 =>
          intro x5_50 x6_50 hm_50 iv0_50 
          have rg5_50 := rg x5_50
          have rg6_50 := rg x6_50
          show Wp (B_Mo_splitsFrom_50 N O (a0) (x1) (I0) (v2_13) (x3_19) (x4_19) (k_125) (lp (B_Mo_splitsFrom_50 N O (a0) (x1) (I0) (v2_13) (x3_19) (x4_19) (k_125)) (fun _ _ => none) m_50) x5_50 x6_50) Q
          unfold B_Mo_splitsFrom_50
          refine Wp.ite (fun c_53 => ?_) (fun c_53 => ?_)
          · skip
            refine Wp_jq (fun k_123 => ∀ (s0_123 : Int32), Wp (k_123 s0_123) Q) (fun s0_123   => ?_) (fun k_123 hk_123 => ?_)
            · skip
              have rgs_s0_123 := rg s0_123
              first | (have e_123 := t_add (x := x3_19) (y := s0_123) rfl rfl (by omega)) | skip
              refine Wp_lb (fun v3_124 ev_124 => ?_)
              have ei_124 := congrArg Int32.toInt ev_124
              have rv_124 := rg v3_124
              exact hk_125 (v3_124)  
            refine Wp.ite (fun c_115 => ?_) (fun c_115 => ?_)
            · skip
              exact hk_123 ((Int32.ofInt (0)))  
            · skip
              exact hk_123 ((Int32.ofInt (1)))  
          · skip
            have rz_60 := rg (x4_19 >>> (x6_50 &&& 31))
            refine Wp_jq (fun k_105 => ∀ (y5_105 : Int32), Wp (k_105 y5_105) Q) (fun y5_105   => ?_) (fun k_105 hk_105 => ?_)
            · skip
              refine Wp_lb (fun v6_105 ev_105 => ?_)
              have rv_105 := rg v6_105
              first | (have e_105 : v6_105.toInt = (x6_50).toInt + 1 := by rw [ev_105]; exact t_add rfl (ofI (by decide)) (by omega)) | skip
              clear ev_105
              exact ih_50 (y5_105) (v6_105) (by omega) (by omega) 
            refine Wp.ite (fun c_64 => ?_) (fun c_64 => ?_)
            · skip
              have t_70 := rf_ok hV.1 h0 (show sp 10 34 = some 40 from rfl)
              have t_76 := rf_ok hV.1 h0 (show sp 10 33 = some 39 from rfl)
              have o_80 := hV0.1.2 (rf O a0 33) t_76.1 0
              rw [t_76.2] at o_80
              replace o_80 : 0 ≤ (I0 (rf O a0 33) 0).toInt ∧ (I0 (rf O a0 33) 0).toInt ≤ 8 := o_80
              refine Wp_jq (fun k_101 => ∀ (s0_101 : Int32), (0 ≤ Int32.toInt s0_101 ∧ Int32.toInt s0_101 ≤ 15) → Wp (k_101 s0_101) Q) (fun s0_101 jv0_101  => ?_) (fun k_101 hk_101 => ?_)
              · skip
                have rgs_s0_101 := rg s0_101
                refine Wp.pos (by omega) ?_
                first | (have e_102 := t_add (x := x5_50) (y := (I0 (rf O a0 34) (s0_101).toInt.toNat)) rfl rfl (by omega)) | skip
                refine Wp_lb (fun v5_103 ev_103 => ?_)
                have ei_103 := congrArg Int32.toInt ev_103
                have rv_103 := rg v5_103
                exact hk_105 (v5_103)  
              refine Wp.ite (fun c_81 => ?_) (fun c_81 => ?_)
              · skip
                first | (have e_93 := t_add (x := (Int32.ofInt (8))) (y := x6_50) (ofI (by decide)) rfl (by omega)) | skip
                have t_95 := rf_ok hV.1 h0 (show sp 10 33 = some 39 from rfl)
                have o_99 := hV0.1.2 (rf O a0 33) t_95.1 0
                rw [t_95.2] at o_99
                replace o_99 : 0 ≤ (I0 (rf O a0 33) 0).toInt ∧ (I0 (rf O a0 33) 0).toInt ≤ 8 := o_99
                first | (have e_100 := t_sub (x := ((Int32.ofInt (8)) + x6_50)) (y := (I0 (rf O a0 33) 0)) rfl rfl (by omega)) | skip
                exact hk_101 ((((Int32.ofInt (8)) + x6_50) - (I0 (rf O a0 33) 0))) (by omega) 
              · skip
                exact hk_101 (x6_50) (by omega) 
            · skip
              exact hk_105 (x5_50)  
        exact lp_50 N ((Int32.ofInt (0))) ((Int32.ofInt (0))) (by have hci0 : Int32.toInt (Int32.ofInt (0)) = 0 := ofI (by decide); omega) (by have hci0 : Int32.toInt (Int32.ofInt (0)) = 0 := ofI (by decide); omega) 
      · skip
        exact hk_125 (x3_19)  
  exact lp_19 N ((Int32.ofInt (0))) ((Int32.ofInt (0))) (by have hci0 : Int32.toInt (Int32.ofInt (0)) = 0 := ofI (by decide); omega) (by have hci0 : Int32.toInt (Int32.ofInt (0)) = 0 := ofI (by decide); omega) 
set_option maxHeartbeats 4000000 in
set_option maxRecDepth 100000 in
theorem s_Mo_fault {P : List Nat} {K : Nat → Nat} {N : Nat} {O : WO} {I0 : WI} {J0 : WJ} (hN : 2147483648 ≤ N) (hV : IV P K I0 O) {a0 : Nat} (h0 : a0 ∈ P ∧ K a0 = 10) {Q : (Int32 × WI) → Prop} (hQ : ∀ (z : Int32) (I_ : WI), IV P K I_ O → FQ mL K I0 J0 I_ J0 → (Int32.toInt z = Int32.toInt (I0 a0 13) ∧ (I_ a0 6).toInt = (I0 a0 6).toInt ∧ (I_ a0 18).toInt = (I0 a0 18).toInt ∧ (I_ (rf O a0 16) 27).toInt = (I0 (rf O a0 16) 27).toInt) → Q (z, I_)) : Wp (F_Mo_fault N O I0 J0 a0) Q := by
  unfold F_Mo_fault
  have tr_S := rf_ok hV.1 h0 (show sp 10 16 = some 31 from rfl)
  have oS := hV.2 (rf O a0 16) tr_S.1 27
  rw [tr_S.2] at oS
  replace oS : 0 ≤ (I0 (rf O a0 16) 27).toInt ∧ (I0 (rf O a0 16) 27).toInt ≤ 240 := oS
  have ost := hV.2 a0 h0.1 18
  rw [h0.2] at ost
  replace ost : 0 ≤ (I0 a0 18).toInt ∧ (I0 a0 18).toInt ≤ 240 := ost
  have hV0 : SQ mL P K O I0 J0 I0 J0 := SQ.rf hV
  refine Wp_lb (fun I1 eI1 => ?_)
  have hV1 : SQ mL P K O I0 J0 I1 J0 := by rw [eI1]; exact hV0.putI h0.2 rfl trivial
  have tk1_a0_13 : (I1 a0 13).toInt = (I0 a0 13).toInt := by rw [eI1, up2_ne _ _ (fun z => absurd z.2 (by decide))]
  have tk1_a0_6 : (I1 a0 6).toInt = (I0 a0 6).toInt := by rw [eI1, up2_ne _ _ (fun z => absurd z.2 (by decide))]
  have tk1_a0_18 : (I1 a0 18).toInt = (I0 a0 18).toInt := by rw [eI1, up2_ne _ _ (fun z => absurd z.2 (by decide))]
  have tk1_rfOa016_27 : (I1 (rf O a0 16) 27).toInt = (I0 (rf O a0 16) 27).toInt := by rw [eI1, up2_ne _ _ (fun z => by have q := tr_S.2; rw [z.1, h0.2] at q; exact absurd q (by decide))]
  exact Wp.ret (hQ (I1 a0 13) I1 hV1.1 hV1.2 (by first | omega | (dsimp only; omega)))
set_option maxHeartbeats 4000000 in
set_option maxRecDepth 100000 in
theorem s_Mo_where {P : List Nat} {K : Nat → Nat} {N : Nat} {O : WO} {I0 : WI} {J0 : WJ} (hN : 2147483648 ≤ N) (hV : IV P K I0 O) {a0 : Nat} (h0 : a0 ∈ P ∧ K a0 = 10) {Q : (Int32 × WI) → Prop} (hQ : ∀ (z : Int32) (I_ : WI), IV P K I_ O → FQ mL K I0 J0 I_ J0 → (Int32.toInt z = Int32.toInt (I0 a0 2) ∧ (I_ a0 6).toInt = (I0 a0 6).toInt ∧ (I_ a0 18).toInt = (I0 a0 18).toInt ∧ (I_ (rf O a0 16) 27).toInt = (I0 (rf O a0 16) 27).toInt) → Q (z, I_)) : Wp (F_Mo_where N O I0 J0 a0) Q := by
  unfold F_Mo_where
  have tr_S := rf_ok hV.1 h0 (show sp 10 16 = some 31 from rfl)
  have oS := hV.2 (rf O a0 16) tr_S.1 27
  rw [tr_S.2] at oS
  replace oS : 0 ≤ (I0 (rf O a0 16) 27).toInt ∧ (I0 (rf O a0 16) 27).toInt ≤ 240 := oS
  have ost := hV.2 a0 h0.1 18
  rw [h0.2] at ost
  replace ost : 0 ≤ (I0 a0 18).toInt ∧ (I0 a0 18).toInt ≤ 240 := ost
  have hV0 : SQ mL P K O I0 J0 I0 J0 := SQ.rf hV
  refine Wp_lb (fun I1 eI1 => ?_)
  have hV1 : SQ mL P K O I0 J0 I1 J0 := by rw [eI1]; exact hV0.putI h0.2 rfl trivial
  have tk1_a0_2 : (I1 a0 2).toInt = (I0 a0 2).toInt := by rw [eI1, up2_ne _ _ (fun z => absurd z.2 (by decide))]
  have tk1_a0_6 : (I1 a0 6).toInt = (I0 a0 6).toInt := by rw [eI1, up2_ne _ _ (fun z => absurd z.2 (by decide))]
  have tk1_a0_18 : (I1 a0 18).toInt = (I0 a0 18).toInt := by rw [eI1, up2_ne _ _ (fun z => absurd z.2 (by decide))]
  have tk1_rfOa016_27 : (I1 (rf O a0 16) 27).toInt = (I0 (rf O a0 16) 27).toInt := by rw [eI1, up2_ne _ _ (fun z => by have q := tr_S.2; rw [z.1, h0.2] at q; exact absurd q (by decide))]
  exact Wp.ret (hQ (I1 a0 2) I1 hV1.1 hV1.2 (by first | omega | (dsimp only; omega)))
set_option maxHeartbeats 4000000 in
set_option maxRecDepth 100000 in
theorem s_Mo_trouble {P : List Nat} {K : Nat → Nat} {N : Nat} {O : WO} {I0 : WI} {J0 : WJ} (hN : 2147483648 ≤ N) (hV : IV P K I0 O) {a0 : Nat} (h0 : a0 ∈ P ∧ K a0 = 10) {Q : (Int32 × WI) → Prop} (hQ : ∀ (z : Int32) (I_ : WI), IV P K I_ O → FQ mL K I0 J0 I_ J0 → ((I_ a0 6).toInt = (I0 a0 6).toInt ∧ (I_ a0 18).toInt = (I0 a0 18).toInt ∧ (I_ (rf O a0 16) 27).toInt = (I0 (rf O a0 16) 27).toInt) → Q (z, I_)) : Wp (F_Mo_trouble N O I0 J0 a0) Q := by
  unfold F_Mo_trouble
  have tr_S := rf_ok hV.1 h0 (show sp 10 16 = some 31 from rfl)
  have oS := hV.2 (rf O a0 16) tr_S.1 27
  rw [tr_S.2] at oS
  replace oS : 0 ≤ (I0 (rf O a0 16) 27).toInt ∧ (I0 (rf O a0 16) 27).toInt ≤ 240 := oS
  have ost := hV.2 a0 h0.1 18
  rw [h0.2] at ost
  replace ost : 0 ≤ (I0 a0 18).toInt ∧ (I0 a0 18).toInt ≤ 240 := ost
  have hV0 : SQ mL P K O I0 J0 I0 J0 := SQ.rf hV
  refine Wp_lb (fun I1 eI1 => ?_)
  have hV1 : SQ mL P K O I0 J0 I1 J0 := by rw [eI1]; exact hV0.putI h0.2 rfl trivial
  have tk1_a0_6 : (I1 a0 6).toInt = (I0 a0 6).toInt := by rw [eI1, up2_ne _ _ (fun z => absurd z.2 (by decide))]
  have tk1_a0_18 : (I1 a0 18).toInt = (I0 a0 18).toInt := by rw [eI1, up2_ne _ _ (fun z => absurd z.2 (by decide))]
  have tk1_rfOa016_27 : (I1 (rf O a0 16) 27).toInt = (I0 (rf O a0 16) 27).toInt := by rw [eI1, up2_ne _ _ (fun z => by have q := tr_S.2; rw [z.1, h0.2] at q; exact absurd q (by decide))]
  exact Wp.ret (hQ (I1 a0 1) I1 hV1.1 hV1.2 (by first | omega | (dsimp only; omega)))
set_option maxHeartbeats 4000000 in
set_option maxRecDepth 100000 in
theorem s_Mo_forget {P : List Nat} {K : Nat → Nat} {N : Nat} {O : WO} {I0 : WI} {J0 : WJ} (hN : 2147483648 ≤ N) (hV : IV P K I0 O) {a0 : Nat} (h0 : a0 ∈ P ∧ K a0 = 10) {Q : (Int32 × WI) → Prop} (hQ : ∀ (z : Int32) (I_ : WI), IV P K I_ O → FQ mL K I0 J0 I_ J0 → ((I_ a0 6).toInt = (I0 a0 6).toInt ∧ (I_ a0 18).toInt = (I0 a0 18).toInt ∧ (I_ (rf O a0 16) 27).toInt = (I0 (rf O a0 16) 27).toInt) → Q (z, I_)) : Wp (F_Mo_forget N O I0 J0 a0) Q := by
  unfold F_Mo_forget
  have tr_S := rf_ok hV.1 h0 (show sp 10 16 = some 31 from rfl)
  have oS := hV.2 (rf O a0 16) tr_S.1 27
  rw [tr_S.2] at oS
  replace oS : 0 ≤ (I0 (rf O a0 16) 27).toInt ∧ (I0 (rf O a0 16) 27).toInt ≤ 240 := oS
  have ost := hV.2 a0 h0.1 18
  rw [h0.2] at ost
  replace ost : 0 ≤ (I0 a0 18).toInt ∧ (I0 a0 18).toInt ≤ 240 := ost
  have hV0 : SQ mL P K O I0 J0 I0 J0 := SQ.rf hV
  refine Wp_lb (fun I1 eI1 => ?_)
  have hV1 : SQ mL P K O I0 J0 I1 J0 := by rw [eI1]; exact hV0.putI h0.2 rfl trivial
  have tk1_a0_6 : (I1 a0 6).toInt = (I0 a0 6).toInt := by rw [eI1, up2_ne _ _ (fun z => absurd z.2 (by decide))]
  have tk1_a0_18 : (I1 a0 18).toInt = (I0 a0 18).toInt := by rw [eI1, up2_ne _ _ (fun z => absurd z.2 (by decide))]
  have tk1_rfOa016_27 : (I1 (rf O a0 16) 27).toInt = (I0 (rf O a0 16) 27).toInt := by rw [eI1, up2_ne _ _ (fun z => by have q := tr_S.2; rw [z.1, h0.2] at q; exact absurd q (by decide))]
  refine Wp_lb (fun v1_9 ev_9 => ?_)
  have ei_9 := congrArg Int32.toInt ev_9
  have rv_9 := rg v1_9
  refine Wp_lb (fun I2 eI2 => ?_)
  have hV2 : SQ mL P K O I0 J0 I2 J0 := by rw [eI2]; exact hV1.putI h0.2 rfl (show 0 ≤ Int32.toInt _ ∧ Int32.toInt _ ≤ 24 from by rw [ofI (by decide)]; omega)
  have tk2_a0_6 : (I2 a0 6).toInt = (I1 a0 6).toInt := by rw [eI2, up2_ne _ _ (fun z => absurd z.2 (by decide))]
  have tk2_a0_18 : (I2 a0 18).toInt = (I1 a0 18).toInt := by rw [eI2, up2_ne _ _ (fun z => absurd z.2 (by decide))]
  have tk2_rfOa016_27 : (I2 (rf O a0 16) 27).toInt = (I1 (rf O a0 16) 27).toInt := by rw [eI2, up2_ne _ _ (fun z => by have q := tr_S.2; rw [z.1, h0.2] at q; exact absurd q (by decide))]
  exact Wp.ret (hQ v1_9 I2 hV2.1 hV2.2 (by first | omega | (dsimp only; omega)))
set_option maxHeartbeats 4000000 in
set_option maxRecDepth 100000 in
theorem s_Mo_rate {P : List Nat} {K : Nat → Nat} {N : Nat} {O : WO} {I0 : WI} {J0 : WJ} (hN : 2147483648 ≤ N) (hV : IV P K I0 O) {a0 : Nat} (h0 : a0 ∈ P ∧ K a0 = 10) {x1 : Int32} {Q : (Int32 × WI) → Prop} (hQ : ∀ (z : Int32) (I_ : WI), IV P K I_ O → FQ mL K I0 J0 I_ J0 → ((I_ a0 6).toInt = (I0 a0 6).toInt ∧ (I_ a0 18).toInt = (I0 a0 18).toInt ∧ (I_ (rf O a0 16) 27).toInt = (I0 (rf O a0 16) 27).toInt) → Q (z, I_)) : Wp (F_Mo_rate N O I0 J0 a0 x1) Q := by
  unfold F_Mo_rate
  have r1 := rg x1
  have tr_S := rf_ok hV.1 h0 (show sp 10 16 = some 31 from rfl)
  have oS := hV.2 (rf O a0 16) tr_S.1 27
  rw [tr_S.2] at oS
  replace oS : 0 ≤ (I0 (rf O a0 16) 27).toInt ∧ (I0 (rf O a0 16) 27).toInt ≤ 240 := oS
  have ost := hV.2 a0 h0.1 18
  rw [h0.2] at ost
  replace ost : 0 ≤ (I0 a0 18).toInt ∧ (I0 a0 18).toInt ≤ 240 := ost
  have hV0 : SQ mL P K O I0 J0 I0 J0 := SQ.rf hV
  refine Wp_lb (fun I1 eI1 => ?_)
  have hV1 : SQ mL P K O I0 J0 I1 J0 := by rw [eI1]; exact hV0.putI h0.2 rfl trivial
  have tk1_a0_6 : (I1 a0 6).toInt = (I0 a0 6).toInt := by rw [eI1, up2_ne _ _ (fun z => absurd z.2 (by decide))]
  have tk1_a0_18 : (I1 a0 18).toInt = (I0 a0 18).toInt := by rw [eI1, up2_ne _ _ (fun z => absurd z.2 (by decide))]
  have tk1_rfOa016_27 : (I1 (rf O a0 16) 27).toInt = (I0 (rf O a0 16) 27).toInt := by rw [eI1, up2_ne _ _ (fun z => by have q := tr_S.2; rw [z.1, h0.2] at q; exact absurd q (by decide))]
  refine Wp.ite (fun c_6 => ?_) (fun c_6 => ?_)
  · skip
    exact Wp.ret (hQ (Int32.ofInt (-1)) I1 hV1.1 hV1.2 (by have hci : Int32.toInt (Int32.ofInt (-1)) = -1 := ofI (by decide); first | omega | (dsimp only; omega)))
  · skip
    have o_11 := hV1.1.2 a0 h0.1 29
    rw [h0.2] at o_11
    replace o_11 : 0 ≤ (I1 a0 29).toInt ∧ (I1 a0 29).toInt ≤ 5 := o_11
    refine Wp.ite (fun c_14 => ?_) (fun c_14 => ?_)
    · skip
      exact Wp.ret (hQ (Int32.ofInt (-1)) I1 hV1.1 hV1.2 (by have hci : Int32.toInt (Int32.ofInt (-1)) = -1 := ofI (by decide); first | omega | (dsimp only; omega)))
    · skip
      have t_18 := rf_ok hV.1 h0 (show sp 10 30 = some 38 from rfl)
      refine Wp.pos (by omega) ?_
      exact Wp.ret (hQ (I1 (rf O a0 30) (x1).toInt.toNat) I1 hV1.1 hV1.2 (by first | omega | (dsimp only; omega)))
set_option maxHeartbeats 4000000 in
set_option maxRecDepth 100000 in
theorem s_Mo_state {P : List Nat} {K : Nat → Nat} {N : Nat} {O : WO} {I0 : WI} {J0 : WJ} (hN : 2147483648 ≤ N) (hV : IV P K I0 O) {a0 : Nat} (h0 : a0 ∈ P ∧ K a0 = 10) {x1 : Int32} {Q : (Int32 × WI) → Prop} (hQ : ∀ (z : Int32) (I_ : WI), IV P K I_ O → FQ mL K I0 J0 I_ J0 → ((I_ a0 6).toInt = (I0 a0 6).toInt ∧ (I_ a0 18).toInt = (I0 a0 18).toInt ∧ (I_ (rf O a0 16) 27).toInt = (I0 (rf O a0 16) 27).toInt) → Q (z, I_)) : Wp (F_Mo_state N O I0 J0 a0 x1) Q := by
  unfold F_Mo_state
  have r1 := rg x1
  have tr_S := rf_ok hV.1 h0 (show sp 10 16 = some 31 from rfl)
  have oS := hV.2 (rf O a0 16) tr_S.1 27
  rw [tr_S.2] at oS
  replace oS : 0 ≤ (I0 (rf O a0 16) 27).toInt ∧ (I0 (rf O a0 16) 27).toInt ≤ 240 := oS
  have ost := hV.2 a0 h0.1 18
  rw [h0.2] at ost
  replace ost : 0 ≤ (I0 a0 18).toInt ∧ (I0 a0 18).toInt ≤ 240 := ost
  have hV0 : SQ mL P K O I0 J0 I0 J0 := SQ.rf hV
  refine Wp_lb (fun I1 eI1 => ?_)
  have hV1 : SQ mL P K O I0 J0 I1 J0 := by rw [eI1]; exact hV0.putI h0.2 rfl trivial
  have tk1_a0_6 : (I1 a0 6).toInt = (I0 a0 6).toInt := by rw [eI1, up2_ne _ _ (fun z => absurd z.2 (by decide))]
  have tk1_a0_18 : (I1 a0 18).toInt = (I0 a0 18).toInt := by rw [eI1, up2_ne _ _ (fun z => absurd z.2 (by decide))]
  have tk1_rfOa016_27 : (I1 (rf O a0 16) 27).toInt = (I0 (rf O a0 16) 27).toInt := by rw [eI1, up2_ne _ _ (fun z => by have q := tr_S.2; rw [z.1, h0.2] at q; exact absurd q (by decide))]
  refine Wpc1 (s_Mo_in hN hV1.1  (fun z_9 b_9 p_9 => ?_))
  try dsimp only at p_9
  have hk1_9 : Int32.toInt (Int32.ofInt (0)) = 0 := ofI (by decide)
  have hk2_9 : Int32.toInt (Int32.ofInt (16)) = 16 := ofI (by decide)
  have rz_9 := rg z_9
  refine Wp.ite (fun c_12 => ?_) (fun c_12 => ?_)
  · skip
    exact Wp.ret (hQ (Int32.ofInt (-1)) I1 hV1.1 hV1.2 (by have hci : Int32.toInt (Int32.ofInt (-1)) = -1 := ofI (by decide); first | omega | (dsimp only; omega)))
  · skip
    have t_16 := rf_ok hV.1 h0 (show sp 10 16 = some 31 from rfl)
    first | (have e_22 := t_add (x := (Int32.ofInt (20))) (y := x1) (ofI (by decide)) rfl (by omega)) | skip
    refine Wp.pos (by omega) ?_
    exact Wp.ret (hQ (I1 (rf O a0 16) (((Int32.ofInt (20)) + x1)).toInt.toNat) I1 hV1.1 hV1.2 (by first | omega | (dsimp only; omega)))
set_option maxHeartbeats 4000000 in
set_option maxRecDepth 100000 in
theorem s_Mo_chance {P : List Nat} {K : Nat → Nat} {N : Nat} {O : WO} {I0 : WI} {J0 : WJ} (hN : 2147483648 ≤ N) (hV : IV P K I0 O) {a0 : Nat} (h0 : a0 ∈ P ∧ K a0 = 10) {Q : (Int32 × WI) → Prop} (hQ : ∀ (z : Int32) (I_ : WI), IV P K I_ O → FQ mS K I0 J0 I_ J0 → (Int32.toInt (I_ a0 2) = -1 ∧ (I_ a0 6).toInt = (I0 a0 6).toInt ∧ (I_ a0 18).toInt = (I0 a0 18).toInt ∧ (I_ (rf O a0 16) 27).toInt = (I0 (rf O a0 16) 27).toInt) → Q (z, I_)) : Wp (F_Mo_chance N O I0 J0 a0) Q := by
  unfold F_Mo_chance
  have tr_S := rf_ok hV.1 h0 (show sp 10 16 = some 31 from rfl)
  have oS := hV.2 (rf O a0 16) tr_S.1 27
  rw [tr_S.2] at oS
  replace oS : 0 ≤ (I0 (rf O a0 16) 27).toInt ∧ (I0 (rf O a0 16) 27).toInt ≤ 240 := oS
  have ost := hV.2 a0 h0.1 18
  rw [h0.2] at ost
  replace ost : 0 ≤ (I0 a0 18).toInt ∧ (I0 a0 18).toInt ≤ 240 := ost
  have hV0 : SQ mS P K O I0 J0 I0 J0 := SQ.rf hV
  refine Wp_lb (fun I1 eI1 => ?_)
  have hV1 : SQ mS P K O I0 J0 I1 J0 := by rw [eI1]; exact hV0.putI h0.2 rfl trivial
  have tk1_a0_6 : (I1 a0 6).toInt = (I0 a0 6).toInt := by rw [eI1, up2_ne _ _ (fun z => absurd z.2 (by decide))]
  have tk1_a0_18 : (I1 a0 18).toInt = (I0 a0 18).toInt := by rw [eI1, up2_ne _ _ (fun z => absurd z.2 (by decide))]
  have tk1_rfOa016_27 : (I1 (rf O a0 16) 27).toInt = (I0 (rf O a0 16) 27).toInt := by rw [eI1, up2_ne _ _ (fun z => by have q := tr_S.2; rw [z.1, h0.2] at q; exact absurd q (by decide))]
  have t_6 := rf_ok hV.1 h0 (show sp 10 33 = some 39 from rfl)
  have o_10 := hV1.1.2 (rf O a0 33) t_6.1 0
  rw [t_6.2] at o_10
  replace o_10 : 0 ≤ (I1 (rf O a0 33) 0).toInt ∧ (I1 (rf O a0 33) 0).toInt ≤ 8 := o_10
  refine Wp_jq (fun k_23 => Wp (k_23 ) Q) (?_) (fun k_23 hk_23 => ?_)
  · skip
    refine Wpc2 (s_Mo_refused hN hV1.1 h0 (fun z_25 I2 hI2 hF2 p_25 => ?_))
    have hV2 : SQ mS P K O I0 J0 I2 J0 := hV1.call (kpL_le (frL_le (by decide)) rfl) hI2 hF2
    have tk2_rfOa016_27 : (I2 (rf O a0 16) 27).toInt = (I1 (rf O a0 16) 27).toInt := by rw [(hF2 (rf O a0 16) 27 (by rw [tr_S.2]; rfl)).1]
    try dsimp only at p_25
    have hk1_25 : Int32.toInt (Int32.ofInt (5)) = 5 := ofI (by decide)
    have rz_25 := rg z_25
    exact Wp.ret (hQ z_25 I2 hV2.1 hV2.2 (by first | omega | (dsimp only; omega)))
  refine Wp.ite (fun c_11 => ?_) (fun c_11 => ?_)
  · skip
    exact hk_23   
  · skip
    have t_15 := rf_ok hV.1 h0 (show sp 10 33 = some 39 from rfl)
    have o_19 := hV1.1.2 (rf O a0 33) t_15.1 1
    rw [t_15.2] at o_19
    replace o_19 : 0 ≤ (I1 (rf O a0 33) 1).toInt ∧ (I1 (rf O a0 33) 1).toInt ≤ 8 := o_19
    refine Wp.ite (fun c_20 => ?_) (fun c_20 => ?_)
    · skip
      exact hk_23   
    · skip
      have lp_33 : ∀ (m_33 : Nat) (x1_33 : Int32) (x2_33 : Int32), Int.toNat (8 - (x2_33).toInt) < m_33 → (0 ≤ Int32.toInt x2_33 ∧ Int32.toInt x2_33 ≤ 8) → ((I1 a0 6).toInt = (I0 a0 6).toInt) → ((I1 a0 18).toInt = (I0 a0 18).toInt) → ((I1 (rf O a0 16) 27).toInt = (I0 (rf O a0 16) 27).toInt) → Wp (lp (B_Mo_chance_33 N O (a0) (J0) (I1)) (fun _ _ => none) m_33 x1_33 x2_33) Q := by
        intro m_33
        induction m_33 with
        | zero => intro x1_33 x2_33 hm; exact absurd hm (Nat.not_lt_zero _)
        | succ m_33 ih_33 =>
        intro x1_33 x2_33 hm_33 iv0_33 iv1_33 iv2_33 iv3_33 
        have rg1_33 := rg x1_33
        have rg2_33 := rg x2_33
        show Wp (B_Mo_chance_33 N O (a0) (J0) (I1) (lp (B_Mo_chance_33 N O (a0) (J0) (I1)) (fun _ _ => none) m_33) x1_33 x2_33) Q
        unfold B_Mo_chance_33
        have t_35 := rf_ok hV.1 h0 (show sp 10 33 = some 39 from rfl)
        have o_39 := hV1.1.2 (rf O a0 33) t_35.1 1
        rw [t_35.2] at o_39
        replace o_39 : 0 ≤ (I1 (rf O a0 33) 1).toInt ∧ (I1 (rf O a0 33) 1).toInt ≤ 8 := o_39
        refine Wp.ite (fun c_40 => ?_) (fun c_40 => ?_)
        · skip
          refine Wpc1 (s_Mo_splitsFrom hN hV1.1 h0 (fun z_64 p_64 => ?_))
          have rz_64 := rg z_64
          refine Wpc2 (s_Mo_done hN hV1.1 h0 (fun z_67 I4 hI4 hF4 p_67 => ?_))
          have hV4 : SQ mS P K O I0 J0 I4 J0 := hV1.call (kpL_le (frL_le (by decide)) rfl) hI4 hF4
          have tk4_rfOa016_27 : (I4 (rf O a0 16) 27).toInt = (I1 (rf O a0 16) 27).toInt := by rw [(hF4 (rf O a0 16) 27 (by rw [tr_S.2]; rfl)).1]
          try dsimp only at p_67
          have rz_67 := rg z_67
          exact Wp.ret (hQ z_67 I4 hV4.1 hV4.2 (by first | omega | (dsimp only; omega)))
        · skip
          have t_45 := rf_ok hV.1 h0 (show sp 10 34 = some 40 from rfl)
          first | (have e_51 := t_add (x := (Int32.ofInt (8))) (y := x2_33) (ofI (by decide)) rfl (by omega)) | skip
          refine Wp.pos (by omega) ?_
          first | (have e_53 := t_add (x := x1_33) (y := (I1 (rf O a0 34) (((Int32.ofInt (8)) + x2_33)).toInt.toNat)) rfl rfl (by omega)) | skip
          refine Wp_lb (fun v1_54 ev_54 => ?_)
          have ei_54 := congrArg Int32.toInt ev_54
          have rv_54 := rg v1_54
          refine Wp_lb (fun v2_55 ev_55 => ?_)
          have rv_55 := rg v2_55
          first | (have e_55 : v2_55.toInt = (x2_33).toInt + 1 := by rw [ev_55]; exact t_add rfl (ofI (by decide)) (by omega)) | skip
          clear ev_55
          exact ih_33 (v1_54) (v2_55) (by omega) (by omega) (by omega) (by omega) (by omega) 
      exact lp_33 N ((Int32.ofInt (0))) ((Int32.ofInt (0))) (by have hci0 : Int32.toInt (Int32.ofInt (0)) = 0 := ofI (by decide); omega) (by have hci0 : Int32.toInt (Int32.ofInt (0)) = 0 := ofI (by decide); omega) (by omega) (by omega) (by omega) 
set_option maxHeartbeats 4000000 in
set_option maxRecDepth 100000 in
theorem s_Mo_splits {P : List Nat} {K : Nat → Nat} {N : Nat} {O : WO} {I0 : WI} {J0 : WJ} (hN : 2147483648 ≤ N) (hV : IV P K I0 O) {a0 : Nat} (h0 : a0 ∈ P ∧ K a0 = 10) {Q : (Int32 × WI) → Prop} (hQ : ∀ (z : Int32) (I_ : WI), IV P K I_ O → FQ mS K I0 J0 I_ J0 → (Int32.toInt (I_ a0 2) = -1 ∧ (I_ a0 6).toInt = (I0 a0 6).toInt ∧ (I_ a0 18).toInt = (I0 a0 18).toInt ∧ (I_ (rf O a0 16) 27).toInt = (I0 (rf O a0 16) 27).toInt) → Q (z, I_)) : Wp (F_Mo_splits N O I0 J0 a0) Q := by
  unfold F_Mo_splits
  have tr_S := rf_ok hV.1 h0 (show sp 10 16 = some 31 from rfl)
  have oS := hV.2 (rf O a0 16) tr_S.1 27
  rw [tr_S.2] at oS
  replace oS : 0 ≤ (I0 (rf O a0 16) 27).toInt ∧ (I0 (rf O a0 16) 27).toInt ≤ 240 := oS
  have ost := hV.2 a0 h0.1 18
  rw [h0.2] at ost
  replace ost : 0 ≤ (I0 a0 18).toInt ∧ (I0 a0 18).toInt ≤ 240 := ost
  have hV0 : SQ mS P K O I0 J0 I0 J0 := SQ.rf hV
  refine Wp_lb (fun I1 eI1 => ?_)
  have hV1 : SQ mS P K O I0 J0 I1 J0 := by rw [eI1]; exact hV0.putI h0.2 rfl trivial
  have tk1_a0_6 : (I1 a0 6).toInt = (I0 a0 6).toInt := by rw [eI1, up2_ne _ _ (fun z => absurd z.2 (by decide))]
  have tk1_a0_18 : (I1 a0 18).toInt = (I0 a0 18).toInt := by rw [eI1, up2_ne _ _ (fun z => absurd z.2 (by decide))]
  have tk1_rfOa016_27 : (I1 (rf O a0 16) 27).toInt = (I0 (rf O a0 16) 27).toInt := by rw [eI1, up2_ne _ _ (fun z => by have q := tr_S.2; rw [z.1, h0.2] at q; exact absurd q (by decide))]
  have t_6 := rf_ok hV.1 h0 (show sp 10 33 = some 39 from rfl)
  have o_10 := hV1.1.2 (rf O a0 33) t_6.1 0
  rw [t_6.2] at o_10
  replace o_10 : 0 ≤ (I1 (rf O a0 33) 0).toInt ∧ (I1 (rf O a0 33) 0).toInt ≤ 8 := o_10
  refine Wp_jq (fun k_23 => Wp (k_23 ) Q) (?_) (fun k_23 hk_23 => ?_)
  · skip
    refine Wpc2 (s_Mo_refused hN hV1.1 h0 (fun z_25 I2 hI2 hF2 p_25 => ?_))
    have hV2 : SQ mS P K O I0 J0 I2 J0 := hV1.call (kpL_le (frL_le (by decide)) rfl) hI2 hF2
    have tk2_rfOa016_27 : (I2 (rf O a0 16) 27).toInt = (I1 (rf O a0 16) 27).toInt := by rw [(hF2 (rf O a0 16) 27 (by rw [tr_S.2]; rfl)).1]
    try dsimp only at p_25
    have hk1_25 : Int32.toInt (Int32.ofInt (5)) = 5 := ofI (by decide)
    have rz_25 := rg z_25
    exact Wp.ret (hQ z_25 I2 hV2.1 hV2.2 (by first | omega | (dsimp only; omega)))
  refine Wp.ite (fun c_11 => ?_) (fun c_11 => ?_)
  · skip
    exact hk_23   
  · skip
    have t_15 := rf_ok hV.1 h0 (show sp 10 33 = some 39 from rfl)
    have o_19 := hV1.1.2 (rf O a0 33) t_15.1 1
    rw [t_15.2] at o_19
    replace o_19 : 0 ≤ (I1 (rf O a0 33) 1).toInt ∧ (I1 (rf O a0 33) 1).toInt ≤ 8 := o_19
    refine Wp.ite (fun c_20 => ?_) (fun c_20 => ?_)
    · skip
      exact hk_23   
    · skip
      refine Wpc1 (s_Mo_splitsFrom hN hV1.1 h0 (fun z_34 p_34 => ?_))
      have rz_34 := rg z_34
      refine Wpc2 (s_Mo_done hN hV1.1 h0 (fun z_37 I4 hI4 hF4 p_37 => ?_))
      have hV4 : SQ mS P K O I0 J0 I4 J0 := hV1.call (kpL_le (frL_le (by decide)) rfl) hI4 hF4
      have tk4_rfOa016_27 : (I4 (rf O a0 16) 27).toInt = (I1 (rf O a0 16) 27).toInt := by rw [(hF4 (rf O a0 16) 27 (by rw [tr_S.2]; rfl)).1]
      try dsimp only at p_37
      have rz_37 := rg z_37
      exact Wp.ret (hQ z_37 I4 hV4.1 hV4.2 (by first | omega | (dsimp only; omega)))
set_option maxHeartbeats 4000000 in
set_option maxRecDepth 100000 in
theorem s_Mo_clear {P : List Nat} {K : Nat → Nat} {N : Nat} {O : WO} {I0 : WI} {J0 : WJ} (hN : 2147483648 ≤ N) (hV : IV P K I0 O) {a0 : Nat} (h0 : a0 ∈ P ∧ K a0 = 10) {Q : (Int32 × WI) → Prop} (hQ : ∀ (z : Int32) (I_ : WI), IV P K I_ O → FQ mC K I0 J0 I_ J0 → (Int32.toInt z = Int32.toInt (I0 (rf O a0 33) 0) + Int32.toInt (I0 (rf O a0 33) 1) ∧ Int32.toInt (I_ (rf O a0 33) 0) = 0 ∧ Int32.toInt (I_ (rf O a0 33) 1) = 0 ∧ (I_ a0 6).toInt = (I0 a0 6).toInt ∧ (I_ a0 18).toInt = (I0 a0 18).toInt ∧ (I_ (rf O a0 16) 27).toInt = (I0 (rf O a0 16) 27).toInt) → Q (z, I_)) : Wp (F_Mo_clear N O I0 J0 a0) Q := by
  unfold F_Mo_clear
  have tr_S := rf_ok hV.1 h0 (show sp 10 16 = some 31 from rfl)
  have tr_RW := rf_ok hV.1 h0 (show sp 10 33 = some 39 from rfl)
  have oS := hV.2 (rf O a0 16) tr_S.1 27
  rw [tr_S.2] at oS
  replace oS : 0 ≤ (I0 (rf O a0 16) 27).toInt ∧ (I0 (rf O a0 16) 27).toInt ≤ 240 := oS
  have ost := hV.2 a0 h0.1 18
  rw [h0.2] at ost
  replace ost : 0 ≤ (I0 a0 18).toInt ∧ (I0 a0 18).toInt ≤ 240 := ost
  have hV0 : SQ mC P K O I0 J0 I0 J0 := SQ.rf hV
  refine Wp_lb (fun I1 eI1 => ?_)
  have hV1 : SQ mC P K O I0 J0 I1 J0 := by rw [eI1]; exact hV0.putI h0.2 rfl trivial
  have tk1_rfOa033_0 : (I1 (rf O a0 33) 0).toInt = (I0 (rf O a0 33) 0).toInt := by rw [eI1, up2_ne _ _ (fun z => by have q := tr_RW.2; rw [z.1, h0.2] at q; exact absurd q (by decide))]
  have tk1_rfOa033_1 : (I1 (rf O a0 33) 1).toInt = (I0 (rf O a0 33) 1).toInt := by rw [eI1, up2_ne _ _ (fun z => by have q := tr_RW.2; rw [z.1, h0.2] at q; exact absurd q (by decide))]
  have tk1_a0_6 : (I1 a0 6).toInt = (I0 a0 6).toInt := by rw [eI1, up2_ne _ _ (fun z => absurd z.2 (by decide))]
  have tk1_a0_18 : (I1 a0 18).toInt = (I0 a0 18).toInt := by rw [eI1, up2_ne _ _ (fun z => absurd z.2 (by decide))]
  have tk1_rfOa016_27 : (I1 (rf O a0 16) 27).toInt = (I0 (rf O a0 16) 27).toInt := by rw [eI1, up2_ne _ _ (fun z => by have q := tr_S.2; rw [z.1, h0.2] at q; exact absurd q (by decide))]
  have t_6 := rf_ok hV.1 h0 (show sp 10 33 = some 39 from rfl)
  have o_10 := hV1.1.2 (rf O a0 33) t_6.1 0
  rw [t_6.2] at o_10
  replace o_10 : 0 ≤ (I1 (rf O a0 33) 0).toInt ∧ (I1 (rf O a0 33) 0).toInt ≤ 8 := o_10
  have t_12 := rf_ok hV.1 h0 (show sp 10 33 = some 39 from rfl)
  have o_16 := hV1.1.2 (rf O a0 33) t_12.1 1
  rw [t_12.2] at o_16
  replace o_16 : 0 ≤ (I1 (rf O a0 33) 1).toInt ∧ (I1 (rf O a0 33) 1).toInt ≤ 8 := o_16
  first | (have e_17 := t_add (x := (I1 (rf O a0 33) 0)) (y := (I1 (rf O a0 33) 1)) rfl rfl (by omega)) | skip
  refine Wp_lb (fun v1_18 ev_18 => ?_)
  have ei_18 := congrArg Int32.toInt ev_18
  have rv_18 := rg v1_18
  have t_20 := rf_ok hV.1 h0 (show sp 10 33 = some 39 from rfl)
  refine Wp_lb (fun I2 eI2 => ?_)
  have hV2 : SQ mC P K O I0 J0 I2 J0 := by rw [eI2]; exact hV1.putI t_20.2 rfl (show 0 ≤ Int32.toInt _ ∧ Int32.toInt _ ≤ 8 from by rw [ofI (by decide)]; omega)
  have tk2_rfOa033_0 : (I2 (rf O a0 33) 0).toInt = 0 := by rw [eI2, up2_self]; exact ofI (by decide)
  have tk2_rfOa033_1 : (I2 (rf O a0 33) 1).toInt = (I1 (rf O a0 33) 1).toInt := by rw [eI2, up2_ne _ _ (fun z => absurd z.2 (by decide))]
  have tk2_a0_6 : (I2 a0 6).toInt = (I1 a0 6).toInt := by rw [eI2, up2_ne _ _ (fun z => by have q := h0.2; rw [z.1, t_20.2] at q; exact absurd q (by decide))]
  have tk2_a0_18 : (I2 a0 18).toInt = (I1 a0 18).toInt := by rw [eI2, up2_ne _ _ (fun z => by have q := h0.2; rw [z.1, t_20.2] at q; exact absurd q (by decide))]
  have tk2_rfOa016_27 : (I2 (rf O a0 16) 27).toInt = (I1 (rf O a0 16) 27).toInt := by rw [eI2, up2_ne _ _ (fun z => by have q := tr_S.2; rw [z.1, t_20.2] at q; exact absurd q (by decide))]
  have t_27 := rf_ok hV.1 h0 (show sp 10 33 = some 39 from rfl)
  refine Wp_lb (fun I3 eI3 => ?_)
  have hV3 : SQ mC P K O I0 J0 I3 J0 := by rw [eI3]; exact hV2.putI t_27.2 rfl (show 0 ≤ Int32.toInt _ ∧ Int32.toInt _ ≤ 8 from by rw [ofI (by decide)]; omega)
  have tk3_rfOa033_0 : (I3 (rf O a0 33) 0).toInt = (I2 (rf O a0 33) 0).toInt := by rw [eI3, up2_ne _ _ (fun z => absurd z.2 (by decide))]
  have tk3_rfOa033_1 : (I3 (rf O a0 33) 1).toInt = 0 := by rw [eI3, up2_self]; exact ofI (by decide)
  have tk3_a0_6 : (I3 a0 6).toInt = (I2 a0 6).toInt := by rw [eI3, up2_ne _ _ (fun z => by have q := h0.2; rw [z.1, t_27.2] at q; exact absurd q (by decide))]
  have tk3_a0_18 : (I3 a0 18).toInt = (I2 a0 18).toInt := by rw [eI3, up2_ne _ _ (fun z => by have q := h0.2; rw [z.1, t_27.2] at q; exact absurd q (by decide))]
  have tk3_rfOa016_27 : (I3 (rf O a0 16) 27).toInt = (I2 (rf O a0 16) 27).toInt := by rw [eI3, up2_ne _ _ (fun z => by have q := tr_S.2; rw [z.1, t_27.2] at q; exact absurd q (by decide))]
  exact Wp.ret (hQ v1_18 I3 hV3.1 hV3.2 (by first | omega | (dsimp only; omega)))
set_option maxHeartbeats 4000000 in
set_option maxRecDepth 100000 in
theorem s_Mo_led {P : List Nat} {K : Nat → Nat} {N : Nat} {O : WO} {I0 : WI} {J0 : WJ} (hN : 2147483648 ≤ N) (hV : IV P K I0 O) {a0 : Nat} (h0 : a0 ∈ P ∧ K a0 = 10) {x1 : Int32} {Q : (Int32 × WI) → Prop} (hQ : ∀ (z : Int32) (I_ : WI), IV P K I_ O → FQ mL K I0 J0 I_ J0 → ((I_ a0 6).toInt = (I0 a0 6).toInt ∧ (I_ a0 18).toInt = (I0 a0 18).toInt ∧ (I_ (rf O a0 16) 27).toInt = (I0 (rf O a0 16) 27).toInt) → Q (z, I_)) : Wp (F_Mo_led N O I0 J0 a0 x1) Q := by
  unfold F_Mo_led
  have r1 := rg x1
  have tr_S := rf_ok hV.1 h0 (show sp 10 16 = some 31 from rfl)
  have oS := hV.2 (rf O a0 16) tr_S.1 27
  rw [tr_S.2] at oS
  replace oS : 0 ≤ (I0 (rf O a0 16) 27).toInt ∧ (I0 (rf O a0 16) 27).toInt ≤ 240 := oS
  have ost := hV.2 a0 h0.1 18
  rw [h0.2] at ost
  replace ost : 0 ≤ (I0 a0 18).toInt ∧ (I0 a0 18).toInt ≤ 240 := ost
  have hV0 : SQ mL P K O I0 J0 I0 J0 := SQ.rf hV
  refine Wp_jq (fun k_18 => ∀ (s0_18 : Int32), (Int32.toInt s0_18 = 1 ∨ (0 ≤ Int32.toInt x1 ∧ Int32.toInt x1 < Int32.toInt (I0 a0 18))) → Wp (k_18 s0_18) Q) (fun s0_18 jv0_18  => ?_) (fun k_18 hk_18 => ?_)
  · skip
    have rgs_s0_18 := rg s0_18
    refine Wp_lb (fun I1 eI1 => ?_)
    have hV1 : SQ mL P K O I0 J0 I1 J0 := by rw [eI1]; exact hV0.putI h0.2 rfl trivial
    have tk1_a0_0 : (I1 a0 0).toInt = (s0_18).toInt := by rw [eI1, up2_self]
    have tk1_a0_6 : (I1 a0 6).toInt = (I0 a0 6).toInt := by rw [eI1, up2_ne _ _ (fun z => absurd z.2 (by decide))]
    have tk1_a0_18 : (I1 a0 18).toInt = (I0 a0 18).toInt := by rw [eI1, up2_ne _ _ (fun z => absurd z.2 (by decide))]
    have tk1_rfOa016_27 : (I1 (rf O a0 16) 27).toInt = (I0 (rf O a0 16) 27).toInt := by rw [eI1, up2_ne _ _ (fun z => by have q := tr_S.2; rw [z.1, h0.2] at q; exact absurd q (by decide))]
    refine Wp.ite (fun c_25 => ?_) (fun c_25 => ?_)
    · skip
      have t_33 := rf_ok hV.1 h0 (show sp 10 19 = some 32 from rfl)
      refine Wp.pos (by omega) ?_
      exact Wp.ret (hQ (I1 (rf O a0 19) (x1).toInt.toNat) I1 hV1.1 hV1.2 (by first | omega | (dsimp only; omega)))
    · skip
      exact Wp.ret (hQ (Int32.ofInt (0)) I1 hV1.1 hV1.2 (by have hci : Int32.toInt (Int32.ofInt (0)) = 0 := ofI (by decide); first | omega | (dsimp only; omega)))
  refine Wp_jq (fun k_13 => Wp (k_13 ) Q) (?_) (fun k_13 hk_13 => ?_)
  · skip
    exact hk_18 ((Int32.ofInt (1))) (by have hci1 : Int32.toInt (Int32.ofInt (1)) = 1 := ofI (by decide); omega) 
  refine Wp.ite (fun c_2 => ?_) (fun c_2 => ?_)
  · skip
    exact hk_13   
  · skip
    have o_7 := hV0.1.2 a0 h0.1 18
    rw [h0.2] at o_7
    replace o_7 : 0 ≤ (I0 a0 18).toInt ∧ (I0 a0 18).toInt ≤ 240 := o_7
    refine Wp.ite (fun c_10 => ?_) (fun c_10 => ?_)
    · skip
      exact hk_18 ((Int32.ofInt (0))) (by have hci1 : Int32.toInt (Int32.ofInt (0)) = 0 := ofI (by decide); omega) 
    · skip
      exact hk_13   
set_option maxHeartbeats 4000000 in
set_option maxRecDepth 100000 in
theorem s_Mo_set_Z {P : List Nat} {K : Nat → Nat} {N : Nat} {O : WO} {I0 : WI} {J0 : WJ} (hN : 2147483648 ≤ N) (hV : IV P K I0 O) {a0 : Nat} (h0 : a0 ∈ P ∧ K a0 = 10) {x1 : Int32} {x2 : Int32} {x3 : Int32} (hMn : O a0 3 = none) {Q : (Int32 × WI) → Prop} (hQ : ∀ (z : Int32) (I_ : WI), IV P K I_ O → FQ mS K I0 J0 I_ J0 → (z.toInt = 0 ∨ z.toInt = 1) → (Int32.toInt (I_ a0 2) = -1 ∧ Int32.toInt z = 0 ∧ (I_ a0 6).toInt = (I0 a0 6).toInt ∧ (I_ a0 18).toInt = (I0 a0 18).toInt ∧ (I_ (rf O a0 16) 27).toInt = (I0 (rf O a0 16) 27).toInt) → Q (z, I_)) : Wp (F_Mo_set N O I0 J0 a0 x1 x2 x3) Q := by
  unfold F_Mo_set
  have r1 := rg x1
  have r2 := rg x2
  have r3 := rg x3
  have tr_S := rf_ok hV.1 h0 (show sp 10 16 = some 31 from rfl)
  have oS := hV.2 (rf O a0 16) tr_S.1 27
  rw [tr_S.2] at oS
  replace oS : 0 ≤ (I0 (rf O a0 16) 27).toInt ∧ (I0 (rf O a0 16) 27).toInt ≤ 240 := oS
  have ost := hV.2 a0 h0.1 18
  rw [h0.2] at ost
  replace ost : 0 ≤ (I0 a0 18).toInt ∧ (I0 a0 18).toInt ≤ 240 := ost
  have hV0 : SQ mS P K O I0 J0 I0 J0 := SQ.rf hV
  refine Wp_lb (fun I1 eI1 => ?_)
  have hV1 : SQ mS P K O I0 J0 I1 J0 := by rw [eI1]; exact hV0.putI h0.2 rfl trivial
  have tk1_a0_6 : (I1 a0 6).toInt = (I0 a0 6).toInt := by rw [eI1, up2_ne _ _ (fun z => absurd z.2 (by decide))]
  have tk1_a0_18 : (I1 a0 18).toInt = (I0 a0 18).toInt := by rw [eI1, up2_ne _ _ (fun z => absurd z.2 (by decide))]
  have tk1_rfOa016_27 : (I1 (rf O a0 16) 27).toInt = (I0 (rf O a0 16) 27).toInt := by rw [eI1, up2_ne _ _ (fun z => by have q := tr_S.2; rw [z.1, h0.2] at q; exact absurd q (by decide))]
  refine Wpc1 (s_Mo_isOre_Z hN hV1.1 h0 hMn (fun z_7 b_7 p_7 => ?_))
  try dsimp only at p_7
  have rz_7 := rg z_7
  refine Wp.ite (fun c_10 => ?_) (fun c_10 => ?_)
  · skip
    refine Wpc2 (s_Mo_denied hN hV1.1 h0 (fun z_15 I3 hI3 hF3 b_15 p_15 => ?_))
    have hV3 : SQ mS P K O I0 J0 I3 J0 := hV1.call (kpL_le (frL_le (by decide)) rfl) hI3 hF3
    have tk3_rfOa016_27 : (I3 (rf O a0 16) 27).toInt = (I1 (rf O a0 16) 27).toInt := by rw [(hF3 (rf O a0 16) 27 (by rw [tr_S.2]; rfl)).1]
    try dsimp only at p_15
    have hk1_15 : Int32.toInt (Int32.ofInt (1)) = 1 := ofI (by decide)
    have rz_15 := rg z_15
    refine Wp.pos (by omega) ?_
    exact Wp.ret (hQ z_15 I3 hV3.1 hV3.2 (by omega) (by first | omega | (dsimp only; omega)))
  · skip
    refine Wpc1 (s_Mo_in hN hV1.1  (fun z_22 b_22 p_22 => ?_))
    try dsimp only at p_22
    have hk1_22 : Int32.toInt (Int32.ofInt (0)) = 0 := ofI (by decide)
    have hk2_22 : Int32.toInt (Int32.ofInt (3)) = 3 := ofI (by decide)
    have rz_22 := rg z_22
    refine Wp.jn ?_
    refine Wp.ite (fun c_25 => ?_) (fun c_25 => ?_)
    · skip
      refine Wpc2 (s_Mo_denied hN hV1.1 h0 (fun z_39 I5 hI5 hF5 b_39 p_39 => ?_))
      have hV5 : SQ mS P K O I0 J0 I5 J0 := hV1.call (kpL_le (frL_le (by decide)) rfl) hI5 hF5
      have tk5_rfOa016_27 : (I5 (rf O a0 16) 27).toInt = (I1 (rf O a0 16) 27).toInt := by rw [(hF5 (rf O a0 16) 27 (by rw [tr_S.2]; rfl)).1]
      try dsimp only at p_39
      have hk1_39 : Int32.toInt (Int32.ofInt (2)) = 2 := ofI (by decide)
      have rz_39 := rg z_39
      refine Wp.pos (by omega) ?_
      exact Wp.ret (hQ z_39 I5 hV5.1 hV5.2 (by omega) (by first | omega | (dsimp only; omega)))
    · skip
      refine Wpc1 (s_Mo_in hN hV1.1  (fun z_31 b_31 p_31 => ?_))
      try dsimp only at p_31
      have hk1_31 : Int32.toInt (Int32.ofInt (0)) = 0 := ofI (by decide)
      have hk2_31 : Int32.toInt (Int32.ofInt (3)) = 3 := ofI (by decide)
      have rz_31 := rg z_31
      refine Wp.ite (fun c_34 => ?_) (fun c_34 => ?_)
      · skip
        refine Wpc2 (s_Mo_denied hN hV1.1 h0 (fun z_39 I7 hI7 hF7 b_39 p_39 => ?_))
        have hV7 : SQ mS P K O I0 J0 I7 J0 := hV1.call (kpL_le (frL_le (by decide)) rfl) hI7 hF7
        have tk7_rfOa016_27 : (I7 (rf O a0 16) 27).toInt = (I1 (rf O a0 16) 27).toInt := by rw [(hF7 (rf O a0 16) 27 (by rw [tr_S.2]; rfl)).1]
        try dsimp only at p_39
        have hk1_39 : Int32.toInt (Int32.ofInt (2)) = 2 := ofI (by decide)
        have rz_39 := rg z_39
        refine Wp.pos (by omega) ?_
        exact Wp.ret (hQ z_39 I7 hV7.1 hV7.2 (by omega) (by first | omega | (dsimp only; omega)))
      · skip
        have t_44 := rf_ok hV.1 h0 (show sp 10 16 = some 31 from rfl)
        refine Wp_lb (fun I8 eI8 => ?_)
        have hV8 : SQ mS P K O I0 J0 I8 J0 := by rw [eI8]; exact hV1.putI t_44.2 rfl trivial
        have tk8_a0_6 : (I8 a0 6).toInt = (I1 a0 6).toInt := by rw [eI8, up2_ne _ _ (fun z => by have q := h0.2; rw [z.1, t_44.2] at q; exact absurd q (by decide))]
        have tk8_a0_18 : (I8 a0 18).toInt = (I1 a0 18).toInt := by rw [eI8, up2_ne _ _ (fun z => by have q := h0.2; rw [z.1, t_44.2] at q; exact absurd q (by decide))]
        have tk8_rfOa016_27 : (I8 (rf O a0 16) 27).toInt = (I1 (rf O a0 16) 27).toInt := by rw [eI8, up2_ne _ _ (fun z => absurd z.2 (by decide))]
        have t_52 := rf_ok hV.1 h0 (show sp 10 16 = some 31 from rfl)
        refine Wp_lb (fun I9 eI9 => ?_)
        have hV9 : SQ mS P K O I0 J0 I9 J0 := by rw [eI9]; exact hV8.putI t_52.2 rfl trivial
        have tk9_a0_6 : (I9 a0 6).toInt = (I8 a0 6).toInt := by rw [eI9, up2_ne _ _ (fun z => by have q := h0.2; rw [z.1, t_52.2] at q; exact absurd q (by decide))]
        have tk9_a0_18 : (I9 a0 18).toInt = (I8 a0 18).toInt := by rw [eI9, up2_ne _ _ (fun z => by have q := h0.2; rw [z.1, t_52.2] at q; exact absurd q (by decide))]
        have tk9_rfOa016_27 : (I9 (rf O a0 16) 27).toInt = (I8 (rf O a0 16) 27).toInt := by rw [eI9, up2_ne _ _ (fun z => absurd z.2 (by decide))]
        have t_60 := rf_ok hV.1 h0 (show sp 10 16 = some 31 from rfl)
        refine Wp_lb (fun I10 eI10 => ?_)
        have hV10 : SQ mS P K O I0 J0 I10 J0 := by rw [eI10]; exact hV9.putI t_60.2 rfl (show 0 ≤ Int32.toInt _ ∧ Int32.toInt _ ≤ 3 from by omega)
        have tk10_a0_6 : (I10 a0 6).toInt = (I9 a0 6).toInt := by rw [eI10, up2_ne _ _ (fun z => by have q := h0.2; rw [z.1, t_60.2] at q; exact absurd q (by decide))]
        have tk10_a0_18 : (I10 a0 18).toInt = (I9 a0 18).toInt := by rw [eI10, up2_ne _ _ (fun z => by have q := h0.2; rw [z.1, t_60.2] at q; exact absurd q (by decide))]
        have tk10_rfOa016_27 : (I10 (rf O a0 16) 27).toInt = (I9 (rf O a0 16) 27).toInt := by rw [eI10, up2_ne _ _ (fun z => absurd z.2 (by decide))]
        refine Wpc2 (s_Mo_granted hN hV10.1 h0 (fun z_68 I11 hI11 hF11 b_68 p_68 => ?_))
        have hV11 : SQ mS P K O I0 J0 I11 J0 := hV10.call (kpL_le (frL_le (by decide)) rfl) hI11 hF11
        have tk11_rfOa016_27 : (I11 (rf O a0 16) 27).toInt = (I10 (rf O a0 16) 27).toInt := by rw [(hF11 (rf O a0 16) 27 (by rw [tr_S.2]; rfl)).1]
        try dsimp only at p_68
        have rz_68 := rg z_68
        refine Wp.pos (by omega) ?_
        exact Wp.ret (hQ z_68 I11 hV11.1 hV11.2 (by omega) (by first | omega | (dsimp only; omega)))
set_option maxHeartbeats 4000000 in
set_option maxRecDepth 100000 in
theorem s_Mo_set_G {P : List Nat} {K : Nat → Nat} {N : Nat} {O : WO} {I0 : WI} {J0 : WJ} (hN : 2147483648 ≤ N) (hV : IV P K I0 O) {a0 : Nat} (h0 : a0 ∈ P ∧ K a0 = 10) {x1 : Int32} {x2 : Int32} {x3 : Int32} (hN3 : NN P K O a0 3 9) (hGM : GM I0 (rf O a0 3)) {Q : (Int32 × WI) → Prop} (hQ : ∀ (z : Int32) (I_ : WI), IV P K I_ O → FQ mS K I0 J0 I_ J0 → (z.toInt = 0 ∨ z.toInt = 1) → (Int32.toInt (I_ a0 2) = -1 ∧ ((Int32.toInt z = 1 ∧ 0 ≤ Int32.toInt x3 ∧ Int32.toInt x3 < Int32.toInt (I0 (rf O a0 3) 9) ∧ 0 ≤ Int32.toInt x1 ∧ Int32.toInt x1 ≤ 3 ∧ 0 ≤ Int32.toInt x2 ∧ Int32.toInt x2 ≤ 3) ∨ (Int32.toInt z = 0 ∧ (Int32.toInt x3 < 0 ∨ Int32.toInt (I0 (rf O a0 3) 9) ≤ Int32.toInt x3 ∨ Int32.toInt x1 < 0 ∨ 3 < Int32.toInt x1 ∨ Int32.toInt x2 < 0 ∨ 3 < Int32.toInt x2))) ∧ (I_ a0 6).toInt = (I0 a0 6).toInt ∧ (I_ a0 18).toInt = (I0 a0 18).toInt ∧ (I_ (rf O a0 16) 27).toInt = (I0 (rf O a0 16) 27).toInt) → Q (z, I_)) : Wp (F_Mo_set N O I0 J0 a0 x1 x2 x3) Q := by
  unfold F_Mo_set
  have r1 := rg x1
  have r2 := rg x2
  have r3 := rg x3
  have tr_S := rf_ok hV.1 h0 (show sp 10 16 = some 31 from rfl)
  have oS := hV.2 (rf O a0 16) tr_S.1 27
  rw [tr_S.2] at oS
  replace oS : 0 ≤ (I0 (rf O a0 16) 27).toInt ∧ (I0 (rf O a0 16) 27).toInt ≤ 240 := oS
  have ost := hV.2 a0 h0.1 18
  rw [h0.2] at ost
  replace ost : 0 ≤ (I0 a0 18).toInt ∧ (I0 a0 18).toInt ≤ 240 := ost
  have hMs : ¬ O a0 3 = none := by rw [hN3.1]; exact fun z => by cases z
  have hV0 : SQ mS P K O I0 J0 I0 J0 := SQ.rf hV
  refine Wp_lb (fun I1 eI1 => ?_)
  have hV1 : SQ mS P K O I0 J0 I1 J0 := by rw [eI1]; exact hV0.putI h0.2 rfl trivial
  have tk1_a0_6 : (I1 a0 6).toInt = (I0 a0 6).toInt := by rw [eI1, up2_ne _ _ (fun z => absurd z.2 (by decide))]
  have tk1_a0_18 : (I1 a0 18).toInt = (I0 a0 18).toInt := by rw [eI1, up2_ne _ _ (fun z => absurd z.2 (by decide))]
  have tk1_rfOa016_27 : (I1 (rf O a0 16) 27).toInt = (I0 (rf O a0 16) 27).toInt := by rw [eI1, up2_ne _ _ (fun z => by have q := tr_S.2; rw [z.1, h0.2] at q; exact absurd q (by decide))]
  refine Wpc1 (s_Mo_isOre_G hN hV1.1 h0 hN3 (hGM.keep (fun k => (hV1.2 (rf O a0 3) k (by rw [hN3.2.2]; rfl)).1)) (fun z_7 b_7 p_7 => ?_))
  try dsimp only at p_7
  have rz_7 := rg z_7
  have km := congrArg Int32.toInt (hV1.2 (rf O a0 3) 9 (by rw [hN3.2.2]; rfl)).1
  refine Wp.ite (fun c_10 => ?_) (fun c_10 => ?_)
  · skip
    refine Wpc2 (s_Mo_denied hN hV1.1 h0 (fun z_15 I3 hI3 hF3 b_15 p_15 => ?_))
    have hV3 : SQ mS P K O I0 J0 I3 J0 := hV1.call (kpL_le (frL_le (by decide)) rfl) hI3 hF3
    have tk3_rfOa016_27 : (I3 (rf O a0 16) 27).toInt = (I1 (rf O a0 16) 27).toInt := by rw [(hF3 (rf O a0 16) 27 (by rw [tr_S.2]; rfl)).1]
    try dsimp only at p_15
    have hk1_15 : Int32.toInt (Int32.ofInt (1)) = 1 := ofI (by decide)
    have rz_15 := rg z_15
    refine Wp.pos (by omega) ?_
    exact Wp.ret (hQ z_15 I3 hV3.1 hV3.2 (by omega) (by first | omega | (dsimp only; omega)))
  · skip
    refine Wpc1 (s_Mo_in hN hV1.1  (fun z_22 b_22 p_22 => ?_))
    try dsimp only at p_22
    have hk1_22 : Int32.toInt (Int32.ofInt (0)) = 0 := ofI (by decide)
    have hk2_22 : Int32.toInt (Int32.ofInt (3)) = 3 := ofI (by decide)
    have rz_22 := rg z_22
    refine Wp.jn ?_
    refine Wp.ite (fun c_25 => ?_) (fun c_25 => ?_)
    · skip
      refine Wpc2 (s_Mo_denied hN hV1.1 h0 (fun z_39 I5 hI5 hF5 b_39 p_39 => ?_))
      have hV5 : SQ mS P K O I0 J0 I5 J0 := hV1.call (kpL_le (frL_le (by decide)) rfl) hI5 hF5
      have tk5_rfOa016_27 : (I5 (rf O a0 16) 27).toInt = (I1 (rf O a0 16) 27).toInt := by rw [(hF5 (rf O a0 16) 27 (by rw [tr_S.2]; rfl)).1]
      try dsimp only at p_39
      have hk1_39 : Int32.toInt (Int32.ofInt (2)) = 2 := ofI (by decide)
      have rz_39 := rg z_39
      refine Wp.pos (by omega) ?_
      exact Wp.ret (hQ z_39 I5 hV5.1 hV5.2 (by omega) (by first | omega | (dsimp only; omega)))
    · skip
      refine Wpc1 (s_Mo_in hN hV1.1  (fun z_31 b_31 p_31 => ?_))
      try dsimp only at p_31
      have hk1_31 : Int32.toInt (Int32.ofInt (0)) = 0 := ofI (by decide)
      have hk2_31 : Int32.toInt (Int32.ofInt (3)) = 3 := ofI (by decide)
      have rz_31 := rg z_31
      refine Wp.ite (fun c_34 => ?_) (fun c_34 => ?_)
      · skip
        refine Wpc2 (s_Mo_denied hN hV1.1 h0 (fun z_39 I7 hI7 hF7 b_39 p_39 => ?_))
        have hV7 : SQ mS P K O I0 J0 I7 J0 := hV1.call (kpL_le (frL_le (by decide)) rfl) hI7 hF7
        have tk7_rfOa016_27 : (I7 (rf O a0 16) 27).toInt = (I1 (rf O a0 16) 27).toInt := by rw [(hF7 (rf O a0 16) 27 (by rw [tr_S.2]; rfl)).1]
        try dsimp only at p_39
        have hk1_39 : Int32.toInt (Int32.ofInt (2)) = 2 := ofI (by decide)
        have rz_39 := rg z_39
        refine Wp.pos (by omega) ?_
        exact Wp.ret (hQ z_39 I7 hV7.1 hV7.2 (by omega) (by first | omega | (dsimp only; omega)))
      · skip
        have t_44 := rf_ok hV.1 h0 (show sp 10 16 = some 31 from rfl)
        refine Wp_lb (fun I8 eI8 => ?_)
        have hV8 : SQ mS P K O I0 J0 I8 J0 := by rw [eI8]; exact hV1.putI t_44.2 rfl trivial
        have tk8_a0_6 : (I8 a0 6).toInt = (I1 a0 6).toInt := by rw [eI8, up2_ne _ _ (fun z => by have q := h0.2; rw [z.1, t_44.2] at q; exact absurd q (by decide))]
        have tk8_a0_18 : (I8 a0 18).toInt = (I1 a0 18).toInt := by rw [eI8, up2_ne _ _ (fun z => by have q := h0.2; rw [z.1, t_44.2] at q; exact absurd q (by decide))]
        have tk8_rfOa016_27 : (I8 (rf O a0 16) 27).toInt = (I1 (rf O a0 16) 27).toInt := by rw [eI8, up2_ne _ _ (fun z => absurd z.2 (by decide))]
        have t_52 := rf_ok hV.1 h0 (show sp 10 16 = some 31 from rfl)
        refine Wp_lb (fun I9 eI9 => ?_)
        have hV9 : SQ mS P K O I0 J0 I9 J0 := by rw [eI9]; exact hV8.putI t_52.2 rfl trivial
        have tk9_a0_6 : (I9 a0 6).toInt = (I8 a0 6).toInt := by rw [eI9, up2_ne _ _ (fun z => by have q := h0.2; rw [z.1, t_52.2] at q; exact absurd q (by decide))]
        have tk9_a0_18 : (I9 a0 18).toInt = (I8 a0 18).toInt := by rw [eI9, up2_ne _ _ (fun z => by have q := h0.2; rw [z.1, t_52.2] at q; exact absurd q (by decide))]
        have tk9_rfOa016_27 : (I9 (rf O a0 16) 27).toInt = (I8 (rf O a0 16) 27).toInt := by rw [eI9, up2_ne _ _ (fun z => absurd z.2 (by decide))]
        have t_60 := rf_ok hV.1 h0 (show sp 10 16 = some 31 from rfl)
        refine Wp_lb (fun I10 eI10 => ?_)
        have hV10 : SQ mS P K O I0 J0 I10 J0 := by rw [eI10]; exact hV9.putI t_60.2 rfl (show 0 ≤ Int32.toInt _ ∧ Int32.toInt _ ≤ 3 from by omega)
        have tk10_a0_6 : (I10 a0 6).toInt = (I9 a0 6).toInt := by rw [eI10, up2_ne _ _ (fun z => by have q := h0.2; rw [z.1, t_60.2] at q; exact absurd q (by decide))]
        have tk10_a0_18 : (I10 a0 18).toInt = (I9 a0 18).toInt := by rw [eI10, up2_ne _ _ (fun z => by have q := h0.2; rw [z.1, t_60.2] at q; exact absurd q (by decide))]
        have tk10_rfOa016_27 : (I10 (rf O a0 16) 27).toInt = (I9 (rf O a0 16) 27).toInt := by rw [eI10, up2_ne _ _ (fun z => absurd z.2 (by decide))]
        refine Wpc2 (s_Mo_granted hN hV10.1 h0 (fun z_68 I11 hI11 hF11 b_68 p_68 => ?_))
        have hV11 : SQ mS P K O I0 J0 I11 J0 := hV10.call (kpL_le (frL_le (by decide)) rfl) hI11 hF11
        have tk11_rfOa016_27 : (I11 (rf O a0 16) 27).toInt = (I10 (rf O a0 16) 27).toInt := by rw [(hF11 (rf O a0 16) 27 (by rw [tr_S.2]; rfl)).1]
        try dsimp only at p_68
        have rz_68 := rg z_68
        refine Wp.pos (by omega) ?_
        exact Wp.ret (hQ z_68 I11 hV11.1 hV11.2 (by omega) (by first | omega | (dsimp only; omega)))
set_option maxHeartbeats 4000000 in
set_option maxRecDepth 100000 in
theorem s_Mo_mend_Z {P : List Nat} {K : Nat → Nat} {N : Nat} {O : WO} {I0 : WI} {J0 : WJ} (hN : 2147483648 ≤ N) (hV : IV P K I0 O) {a0 : Nat} (h0 : a0 ∈ P ∧ K a0 = 10) {x1 : Int32} {x2 : Int32} (hMn : O a0 3 = none) {Q : (Int32 × WI) → Prop} (hQ : ∀ (z : Int32) (I_ : WI), IV P K I_ O → FQ mS K I0 J0 I_ J0 → (z.toInt = 0 ∨ z.toInt = 1) → (Int32.toInt (I_ a0 2) = -1 ∧ Int32.toInt z = 0 ∧ (I_ a0 6).toInt = (I0 a0 6).toInt ∧ (I_ a0 18).toInt = (I0 a0 18).toInt ∧ (I_ (rf O a0 16) 27).toInt = (I0 (rf O a0 16) 27).toInt) → Q (z, I_)) : Wp (F_Mo_mend N O I0 J0 a0 x1 x2) Q := by
  unfold F_Mo_mend
  have r1 := rg x1
  have r2 := rg x2
  have tr_S := rf_ok hV.1 h0 (show sp 10 16 = some 31 from rfl)
  have oS := hV.2 (rf O a0 16) tr_S.1 27
  rw [tr_S.2] at oS
  replace oS : 0 ≤ (I0 (rf O a0 16) 27).toInt ∧ (I0 (rf O a0 16) 27).toInt ≤ 240 := oS
  have ost := hV.2 a0 h0.1 18
  rw [h0.2] at ost
  replace ost : 0 ≤ (I0 a0 18).toInt ∧ (I0 a0 18).toInt ≤ 240 := ost
  have hV0 : SQ mS P K O I0 J0 I0 J0 := SQ.rf hV
  refine Wp_lb (fun I1 eI1 => ?_)
  have hV1 : SQ mS P K O I0 J0 I1 J0 := by rw [eI1]; exact hV0.putI h0.2 rfl trivial
  have tk1_a0_6 : (I1 a0 6).toInt = (I0 a0 6).toInt := by rw [eI1, up2_ne _ _ (fun z => absurd z.2 (by decide))]
  have tk1_a0_18 : (I1 a0 18).toInt = (I0 a0 18).toInt := by rw [eI1, up2_ne _ _ (fun z => absurd z.2 (by decide))]
  have tk1_rfOa016_27 : (I1 (rf O a0 16) 27).toInt = (I0 (rf O a0 16) 27).toInt := by rw [eI1, up2_ne _ _ (fun z => by have q := tr_S.2; rw [z.1, h0.2] at q; exact absurd q (by decide))]
  refine Wp.pos hMn ?_
  refine Wpc2 (s_Mo_denied hN hV1.1 h0 (fun z_14 I2 hI2 hF2 b_14 p_14 => ?_))
  have hV2 : SQ mS P K O I0 J0 I2 J0 := hV1.call (kpL_le (frL_le (by decide)) rfl) hI2 hF2
  have tk2_rfOa016_27 : (I2 (rf O a0 16) 27).toInt = (I1 (rf O a0 16) 27).toInt := by rw [(hF2 (rf O a0 16) 27 (by rw [tr_S.2]; rfl)).1]
  try dsimp only at p_14
  have hk1_14 : Int32.toInt (Int32.ofInt (1)) = 1 := ofI (by decide)
  have rz_14 := rg z_14
  refine Wp.pos (by omega) ?_
  exact Wp.ret (hQ z_14 I2 hV2.1 hV2.2 (by omega) (by first | omega | (dsimp only; omega)))
set_option maxHeartbeats 4000000 in
set_option maxRecDepth 100000 in
theorem s_Mo_mend_G {P : List Nat} {K : Nat → Nat} {N : Nat} {O : WO} {I0 : WI} {J0 : WJ} (hN : 2147483648 ≤ N) (hV : IV P K I0 O) {a0 : Nat} (h0 : a0 ∈ P ∧ K a0 = 10) {x1 : Int32} {x2 : Int32} (hN3 : NN P K O a0 3 9) (hGM : GM I0 (rf O a0 3)) {Q : (Int32 × WI) → Prop} (hQ : ∀ (z : Int32) (I_ : WI), IV P K I_ O → FQ mS K I0 J0 I_ J0 → (z.toInt = 0 ∨ z.toInt = 1) → (Int32.toInt (I_ a0 2) = -1 ∧ ((Int32.toInt z = 1 ∧ 0 ≤ Int32.toInt x1 ∧ Int32.toInt x1 ≤ 3) ∨ (Int32.toInt z = 0 ∧ (Int32.toInt x1 < 0 ∨ 3 < Int32.toInt x1))) ∧ (I_ a0 6).toInt = (I0 a0 6).toInt ∧ (I_ a0 18).toInt = (I0 a0 18).toInt ∧ (I_ (rf O a0 16) 27).toInt = (I0 (rf O a0 16) 27).toInt) → Q (z, I_)) : Wp (F_Mo_mend N O I0 J0 a0 x1 x2) Q := by
  unfold F_Mo_mend
  have r1 := rg x1
  have r2 := rg x2
  have tr_S := rf_ok hV.1 h0 (show sp 10 16 = some 31 from rfl)
  have oS := hV.2 (rf O a0 16) tr_S.1 27
  rw [tr_S.2] at oS
  replace oS : 0 ≤ (I0 (rf O a0 16) 27).toInt ∧ (I0 (rf O a0 16) 27).toInt ≤ 240 := oS
  have ost := hV.2 a0 h0.1 18
  rw [h0.2] at ost
  replace ost : 0 ≤ (I0 a0 18).toInt ∧ (I0 a0 18).toInt ≤ 240 := ost
  have hMs : ¬ O a0 3 = none := by rw [hN3.1]; exact fun z => by cases z
  have hV0 : SQ mS P K O I0 J0 I0 J0 := SQ.rf hV
  refine Wp_lb (fun I1 eI1 => ?_)
  have hV1 : SQ mS P K O I0 J0 I1 J0 := by rw [eI1]; exact hV0.putI h0.2 rfl trivial
  have tk1_a0_6 : (I1 a0 6).toInt = (I0 a0 6).toInt := by rw [eI1, up2_ne _ _ (fun z => absurd z.2 (by decide))]
  have tk1_a0_18 : (I1 a0 18).toInt = (I0 a0 18).toInt := by rw [eI1, up2_ne _ _ (fun z => absurd z.2 (by decide))]
  have tk1_rfOa016_27 : (I1 (rf O a0 16) 27).toInt = (I0 (rf O a0 16) 27).toInt := by rw [eI1, up2_ne _ _ (fun z => by have q := tr_S.2; rw [z.1, h0.2] at q; exact absurd q (by decide))]
  refine Wp.neg hMs ?_
  refine Wpc1 (s_Mo_in hN hV1.1  (fun z_21 b_21 p_21 => ?_))
  try dsimp only at p_21
  have hk1_21 : Int32.toInt (Int32.ofInt (0)) = 0 := ofI (by decide)
  have hk2_21 : Int32.toInt (Int32.ofInt (3)) = 3 := ofI (by decide)
  have rz_21 := rg z_21
  refine Wp.ite (fun c_24 => ?_) (fun c_24 => ?_)
  · skip
    refine Wpc2 (s_Mo_denied hN hV1.1 h0 (fun z_29 I3 hI3 hF3 b_29 p_29 => ?_))
    have hV3 : SQ mS P K O I0 J0 I3 J0 := hV1.call (kpL_le (frL_le (by decide)) rfl) hI3 hF3
    have tk3_rfOa016_27 : (I3 (rf O a0 16) 27).toInt = (I1 (rf O a0 16) 27).toInt := by rw [(hF3 (rf O a0 16) 27 (by rw [tr_S.2]; rfl)).1]
    try dsimp only at p_29
    have hk1_29 : Int32.toInt (Int32.ofInt (2)) = 2 := ofI (by decide)
    have rz_29 := rg z_29
    refine Wp.pos (by omega) ?_
    exact Wp.ret (hQ z_29 I3 hV3.1 hV3.2 (by omega) (by first | omega | (dsimp only; omega)))
  · skip
    have t_34 := rf_ok hV.1 h0 (show sp 10 16 = some 31 from rfl)
    refine Wp_lb (fun I4 eI4 => ?_)
    have hV4 : SQ mS P K O I0 J0 I4 J0 := by rw [eI4]; exact hV1.putI t_34.2 rfl trivial
    have tk4_a0_6 : (I4 a0 6).toInt = (I1 a0 6).toInt := by rw [eI4, up2_ne _ _ (fun z => by have q := h0.2; rw [z.1, t_34.2] at q; exact absurd q (by decide))]
    have tk4_a0_18 : (I4 a0 18).toInt = (I1 a0 18).toInt := by rw [eI4, up2_ne _ _ (fun z => by have q := h0.2; rw [z.1, t_34.2] at q; exact absurd q (by decide))]
    have tk4_rfOa016_27 : (I4 (rf O a0 16) 27).toInt = (I1 (rf O a0 16) 27).toInt := by rw [eI4, up2_ne _ _ (fun z => absurd z.2 (by decide))]
    refine Wp_jq (fun k_53 => ∀ (IJ_53 : WI), ((IJ_53 a0 6).toInt = (I0 a0 6).toInt) → ((IJ_53 a0 18).toInt = (I0 a0 18).toInt) → ((IJ_53 (rf O a0 16) 27).toInt = (I0 (rf O a0 16) 27).toInt) → SQ mS P K O I0 J0 IJ_53 J0 → Wp (k_53 IJ_53) Q) (fun IJ_53 jv0_53 jv1_53 jv2_53 hVJ_53 => ?_) (fun k_53 hk_53 => ?_)
    · skip
      refine Wpc2 (s_Mo_granted hN hVJ_53.1 h0 (fun z_54 I5 hI5 hF5 b_54 p_54 => ?_))
      have hV5 : SQ mS P K O I0 J0 I5 J0 := hVJ_53.call (kpL_le (frL_le (by decide)) rfl) hI5 hF5
      have tk5_rfOa016_27 : (I5 (rf O a0 16) 27).toInt = (IJ_53 (rf O a0 16) 27).toInt := by rw [(hF5 (rf O a0 16) 27 (by rw [tr_S.2]; rfl)).1]
      try dsimp only at p_54
      have rz_54 := rg z_54
      refine Wp.pos (by omega) ?_
      exact Wp.ret (hQ z_54 I5 hV5.1 hV5.2 (by omega) (by first | omega | (dsimp only; omega)))
    refine Wp.ite (fun c_42 => ?_) (fun c_42 => ?_)
    · skip
      exact hk_53  I4 (by omega) (by omega) (by omega) hV4
    · skip
      have t_46 := rf_ok hV.1 h0 (show sp 10 16 = some 31 from rfl)
      refine Wp_lb (fun I6 eI6 => ?_)
      have hV6 : SQ mS P K O I0 J0 I6 J0 := by rw [eI6]; exact hV4.putI t_46.2 rfl trivial
      have tk6_a0_6 : (I6 a0 6).toInt = (I4 a0 6).toInt := by rw [eI6, up2_ne _ _ (fun z => by have q := h0.2; rw [z.1, t_46.2] at q; exact absurd q (by decide))]
      have tk6_a0_18 : (I6 a0 18).toInt = (I4 a0 18).toInt := by rw [eI6, up2_ne _ _ (fun z => by have q := h0.2; rw [z.1, t_46.2] at q; exact absurd q (by decide))]
      have tk6_rfOa016_27 : (I6 (rf O a0 16) 27).toInt = (I4 (rf O a0 16) 27).toInt := by rw [eI6, up2_ne _ _ (fun z => absurd z.2 (by decide))]
      exact hk_53  I6 (by omega) (by omega) (by omega) hV6
set_option maxHeartbeats 4000000 in
set_option maxRecDepth 100000 in
theorem s_Mo_tons_Z {P : List Nat} {K : Nat → Nat} {N : Nat} {O : WO} {I0 : WI} {J0 : WJ} (hN : 2147483648 ≤ N) (hV : IV P K I0 O) {a0 : Nat} (h0 : a0 ∈ P ∧ K a0 = 10) {x1 : Int32} {x2 : Int32} (hMn : O a0 3 = none) {Q : (Int32 × WI) → Prop} (hQ : ∀ (z : Int32) (I_ : WI), IV P K I_ O → FQ mL K I0 J0 I_ J0 → ((I_ a0 6).toInt = (I0 a0 6).toInt ∧ (I_ a0 18).toInt = (I0 a0 18).toInt ∧ (I_ (rf O a0 16) 27).toInt = (I0 (rf O a0 16) 27).toInt) → Q (z, I_)) : Wp (F_Mo_tons N O I0 J0 a0 x1 x2) Q := by
  unfold F_Mo_tons
  have r1 := rg x1
  have r2 := rg x2
  have tr_S := rf_ok hV.1 h0 (show sp 10 16 = some 31 from rfl)
  have oS := hV.2 (rf O a0 16) tr_S.1 27
  rw [tr_S.2] at oS
  replace oS : 0 ≤ (I0 (rf O a0 16) 27).toInt ∧ (I0 (rf O a0 16) 27).toInt ≤ 240 := oS
  have ost := hV.2 a0 h0.1 18
  rw [h0.2] at ost
  replace ost : 0 ≤ (I0 a0 18).toInt ∧ (I0 a0 18).toInt ≤ 240 := ost
  have hV0 : SQ mL P K O I0 J0 I0 J0 := SQ.rf hV
  refine Wp_lb (fun I1 eI1 => ?_)
  have hV1 : SQ mL P K O I0 J0 I1 J0 := by rw [eI1]; exact hV0.putI h0.2 rfl trivial
  have tk1_a0_6 : (I1 a0 6).toInt = (I0 a0 6).toInt := by rw [eI1, up2_ne _ _ (fun z => absurd z.2 (by decide))]
  have tk1_a0_18 : (I1 a0 18).toInt = (I0 a0 18).toInt := by rw [eI1, up2_ne _ _ (fun z => absurd z.2 (by decide))]
  have tk1_rfOa016_27 : (I1 (rf O a0 16) 27).toInt = (I0 (rf O a0 16) 27).toInt := by rw [eI1, up2_ne _ _ (fun z => by have q := tr_S.2; rw [z.1, h0.2] at q; exact absurd q (by decide))]
  refine Wpc1 (s_Mo_isSize_Z hN hV1.1 h0 hMn (fun z_7 b_7 p_7 => ?_))
  try dsimp only at p_7
  have rz_7 := rg z_7
  refine Wp.ite (fun c_10 => ?_) (fun c_10 => ?_)
  · skip
    exact Wp.ret (hQ (Int32.ofInt (-1)) I1 hV1.1 hV1.2 (by have hci : Int32.toInt (Int32.ofInt (-1)) = -1 := ofI (by decide); first | omega | (dsimp only; omega)))
  · skip
    refine Wpc1 (s_Mo_in hN hV1.1  (fun z_16 b_16 p_16 => ?_))
    try dsimp only at p_16
    have hk1_16 : Int32.toInt (Int32.ofInt (0)) = 0 := ofI (by decide)
    have hk2_16 : Int32.toInt (Int32.ofInt (3)) = 3 := ofI (by decide)
    have rz_16 := rg z_16
    refine Wp.ite (fun c_19 => ?_) (fun c_19 => ?_)
    · skip
      exact Wp.ret (hQ (Int32.ofInt (-1)) I1 hV1.1 hV1.2 (by have hci : Int32.toInt (Int32.ofInt (-1)) = -1 := ofI (by decide); first | omega | (dsimp only; omega)))
    · skip
      have t_25 := rf_ok hV.1 h0 (show sp 10 16 = some 31 from rfl)
      refine Wp.ite (fun c_29 => ?_) (fun c_29 => ?_)
      · skip
        first | (have e_58 := t_add (x := (Int32.ofInt (0))) (y := x1) (ofI (by decide)) rfl (by omega)) | skip
        refine Wp.pos (by omega) ?_
        exact Wp.ret (hQ (I1 (rf O a0 16) (((Int32.ofInt (0)) + x1)).toInt.toNat) I1 hV1.1 hV1.2 (by first | omega | (dsimp only; omega)))
      · skip
        refine Wp.ite (fun c_38 => ?_) (fun c_38 => ?_)
        · skip
          first | (have e_58 := t_add (x := (Int32.ofInt (5))) (y := x1) (ofI (by decide)) rfl (by omega)) | skip
          refine Wp.pos (by omega) ?_
          exact Wp.ret (hQ (I1 (rf O a0 16) (((Int32.ofInt (5)) + x1)).toInt.toNat) I1 hV1.1 hV1.2 (by first | omega | (dsimp only; omega)))
        · skip
          refine Wp.ite (fun c_47 => ?_) (fun c_47 => ?_)
          · skip
            first | (have e_58 := t_add (x := (Int32.ofInt (10))) (y := x1) (ofI (by decide)) rfl (by omega)) | skip
            refine Wp.pos (by omega) ?_
            exact Wp.ret (hQ (I1 (rf O a0 16) (((Int32.ofInt (10)) + x1)).toInt.toNat) I1 hV1.1 hV1.2 (by first | omega | (dsimp only; omega)))
          · skip
            first | (have e_58 := t_add (x := (Int32.ofInt (15))) (y := x1) (ofI (by decide)) rfl (by omega)) | skip
            refine Wp.pos (by omega) ?_
            exact Wp.ret (hQ (I1 (rf O a0 16) (((Int32.ofInt (15)) + x1)).toInt.toNat) I1 hV1.1 hV1.2 (by first | omega | (dsimp only; omega)))
set_option maxHeartbeats 4000000 in
set_option maxRecDepth 100000 in
theorem s_Mo_tons_G {P : List Nat} {K : Nat → Nat} {N : Nat} {O : WO} {I0 : WI} {J0 : WJ} (hN : 2147483648 ≤ N) (hV : IV P K I0 O) {a0 : Nat} (h0 : a0 ∈ P ∧ K a0 = 10) {x1 : Int32} {x2 : Int32} (hN3 : NN P K O a0 3 9) (hGM : GM I0 (rf O a0 3)) {Q : (Int32 × WI) → Prop} (hQ : ∀ (z : Int32) (I_ : WI), IV P K I_ O → FQ mL K I0 J0 I_ J0 → ((I_ a0 6).toInt = (I0 a0 6).toInt ∧ (I_ a0 18).toInt = (I0 a0 18).toInt ∧ (I_ (rf O a0 16) 27).toInt = (I0 (rf O a0 16) 27).toInt) → Q (z, I_)) : Wp (F_Mo_tons N O I0 J0 a0 x1 x2) Q := by
  unfold F_Mo_tons
  have r1 := rg x1
  have r2 := rg x2
  have tr_S := rf_ok hV.1 h0 (show sp 10 16 = some 31 from rfl)
  have oS := hV.2 (rf O a0 16) tr_S.1 27
  rw [tr_S.2] at oS
  replace oS : 0 ≤ (I0 (rf O a0 16) 27).toInt ∧ (I0 (rf O a0 16) 27).toInt ≤ 240 := oS
  have ost := hV.2 a0 h0.1 18
  rw [h0.2] at ost
  replace ost : 0 ≤ (I0 a0 18).toInt ∧ (I0 a0 18).toInt ≤ 240 := ost
  have hMs : ¬ O a0 3 = none := by rw [hN3.1]; exact fun z => by cases z
  have hV0 : SQ mL P K O I0 J0 I0 J0 := SQ.rf hV
  refine Wp_lb (fun I1 eI1 => ?_)
  have hV1 : SQ mL P K O I0 J0 I1 J0 := by rw [eI1]; exact hV0.putI h0.2 rfl trivial
  have tk1_a0_6 : (I1 a0 6).toInt = (I0 a0 6).toInt := by rw [eI1, up2_ne _ _ (fun z => absurd z.2 (by decide))]
  have tk1_a0_18 : (I1 a0 18).toInt = (I0 a0 18).toInt := by rw [eI1, up2_ne _ _ (fun z => absurd z.2 (by decide))]
  have tk1_rfOa016_27 : (I1 (rf O a0 16) 27).toInt = (I0 (rf O a0 16) 27).toInt := by rw [eI1, up2_ne _ _ (fun z => by have q := tr_S.2; rw [z.1, h0.2] at q; exact absurd q (by decide))]
  refine Wpc1 (s_Mo_isSize_G hN hV1.1 h0 hN3 (hGM.keep (fun k => (hV1.2 (rf O a0 3) k (by rw [hN3.2.2]; rfl)).1)) (fun z_7 b_7 p_7 => ?_))
  try dsimp only at p_7
  have rz_7 := rg z_7
  refine Wp.ite (fun c_10 => ?_) (fun c_10 => ?_)
  · skip
    exact Wp.ret (hQ (Int32.ofInt (-1)) I1 hV1.1 hV1.2 (by have hci : Int32.toInt (Int32.ofInt (-1)) = -1 := ofI (by decide); first | omega | (dsimp only; omega)))
  · skip
    refine Wpc1 (s_Mo_in hN hV1.1  (fun z_16 b_16 p_16 => ?_))
    try dsimp only at p_16
    have hk1_16 : Int32.toInt (Int32.ofInt (0)) = 0 := ofI (by decide)
    have hk2_16 : Int32.toInt (Int32.ofInt (3)) = 3 := ofI (by decide)
    have rz_16 := rg z_16
    refine Wp.ite (fun c_19 => ?_) (fun c_19 => ?_)
    · skip
      exact Wp.ret (hQ (Int32.ofInt (-1)) I1 hV1.1 hV1.2 (by have hci : Int32.toInt (Int32.ofInt (-1)) = -1 := ofI (by decide); first | omega | (dsimp only; omega)))
    · skip
      have t_25 := rf_ok hV.1 h0 (show sp 10 16 = some 31 from rfl)
      refine Wp.ite (fun c_29 => ?_) (fun c_29 => ?_)
      · skip
        first | (have e_58 := t_add (x := (Int32.ofInt (0))) (y := x1) (ofI (by decide)) rfl (by omega)) | skip
        refine Wp.pos (by omega) ?_
        exact Wp.ret (hQ (I1 (rf O a0 16) (((Int32.ofInt (0)) + x1)).toInt.toNat) I1 hV1.1 hV1.2 (by first | omega | (dsimp only; omega)))
      · skip
        refine Wp.ite (fun c_38 => ?_) (fun c_38 => ?_)
        · skip
          first | (have e_58 := t_add (x := (Int32.ofInt (5))) (y := x1) (ofI (by decide)) rfl (by omega)) | skip
          refine Wp.pos (by omega) ?_
          exact Wp.ret (hQ (I1 (rf O a0 16) (((Int32.ofInt (5)) + x1)).toInt.toNat) I1 hV1.1 hV1.2 (by first | omega | (dsimp only; omega)))
        · skip
          refine Wp.ite (fun c_47 => ?_) (fun c_47 => ?_)
          · skip
            first | (have e_58 := t_add (x := (Int32.ofInt (10))) (y := x1) (ofI (by decide)) rfl (by omega)) | skip
            refine Wp.pos (by omega) ?_
            exact Wp.ret (hQ (I1 (rf O a0 16) (((Int32.ofInt (10)) + x1)).toInt.toNat) I1 hV1.1 hV1.2 (by first | omega | (dsimp only; omega)))
          · skip
            first | (have e_58 := t_add (x := (Int32.ofInt (15))) (y := x1) (ofI (by decide)) rfl (by omega)) | skip
            refine Wp.pos (by omega) ?_
            exact Wp.ret (hQ (I1 (rf O a0 16) (((Int32.ofInt (15)) + x1)).toInt.toNat) I1 hV1.1 hV1.2 (by first | omega | (dsimp only; omega)))
set_option maxHeartbeats 4000000 in
set_option maxRecDepth 100000 in
theorem s_Mo_program_Z {P : List Nat} {K : Nat → Nat} {N : Nat} {O : WO} {I0 : WI} {J0 : WJ} (hN : 2147483648 ≤ N) (hV : IV P K I0 O) {a0 : Nat} (h0 : a0 ∈ P ∧ K a0 = 10) {x1 : Int32} {x2 : Int32} {x3 : Int32} {x4 : Int32} (hMn : O a0 3 = none) {Q : (Int32 × WI) → Prop} (hQ : ∀ (z : Int32) (I_ : WI), IV P K I_ O → FQ mS K I0 J0 I_ J0 → (z.toInt = 0 ∨ z.toInt = 1) → (Int32.toInt (I_ a0 2) = -1 ∧ Int32.toInt z = 0 ∧ (I_ a0 6).toInt = (I0 a0 6).toInt ∧ (I_ a0 18).toInt = (I0 a0 18).toInt ∧ (I_ (rf O a0 16) 27).toInt = (I0 (rf O a0 16) 27).toInt) → Q (z, I_)) : Wp (F_Mo_program N O I0 J0 a0 x1 x2 x3 x4) Q := by
  unfold F_Mo_program
  have r1 := rg x1
  have r2 := rg x2
  have r3 := rg x3
  have r4 := rg x4
  have tr_S := rf_ok hV.1 h0 (show sp 10 16 = some 31 from rfl)
  have oS := hV.2 (rf O a0 16) tr_S.1 27
  rw [tr_S.2] at oS
  replace oS : 0 ≤ (I0 (rf O a0 16) 27).toInt ∧ (I0 (rf O a0 16) 27).toInt ≤ 240 := oS
  have ost := hV.2 a0 h0.1 18
  rw [h0.2] at ost
  replace ost : 0 ≤ (I0 a0 18).toInt ∧ (I0 a0 18).toInt ≤ 240 := ost
  have hV0 : SQ mS P K O I0 J0 I0 J0 := SQ.rf hV
  refine Wp_lb (fun I1 eI1 => ?_)
  have hV1 : SQ mS P K O I0 J0 I1 J0 := by rw [eI1]; exact hV0.putI h0.2 rfl trivial
  have tk1_a0_6 : (I1 a0 6).toInt = (I0 a0 6).toInt := by rw [eI1, up2_ne _ _ (fun z => absurd z.2 (by decide))]
  have tk1_a0_18 : (I1 a0 18).toInt = (I0 a0 18).toInt := by rw [eI1, up2_ne _ _ (fun z => absurd z.2 (by decide))]
  have tk1_rfOa016_27 : (I1 (rf O a0 16) 27).toInt = (I0 (rf O a0 16) 27).toInt := by rw [eI1, up2_ne _ _ (fun z => by have q := tr_S.2; rw [z.1, h0.2] at q; exact absurd q (by decide))]
  refine Wpc1 (s_Mo_in hN hV1.1  (fun z_9 b_9 p_9 => ?_))
  try dsimp only at p_9
  have hk1_9 : Int32.toInt (Int32.ofInt (0)) = 0 := ofI (by decide)
  have hk2_9 : Int32.toInt (Int32.ofInt (11)) = 11 := ofI (by decide)
  have rz_9 := rg z_9
  refine Wp.jn ?_
  refine Wp.ite (fun c_12 => ?_) (fun c_12 => ?_)
  · skip
    refine Wpc2 (s_Mo_denied hN hV1.1 h0 (fun z_26 I3 hI3 hF3 b_26 p_26 => ?_))
    have hV3 : SQ mS P K O I0 J0 I3 J0 := hV1.call (kpL_le (frL_le (by decide)) rfl) hI3 hF3
    have tk3_rfOa016_27 : (I3 (rf O a0 16) 27).toInt = (I1 (rf O a0 16) 27).toInt := by rw [(hF3 (rf O a0 16) 27 (by rw [tr_S.2]; rfl)).1]
    try dsimp only at p_26
    have hk1_26 : Int32.toInt (Int32.ofInt (1)) = 1 := ofI (by decide)
    have rz_26 := rg z_26
    refine Wp.pos (by omega) ?_
    exact Wp.ret (hQ z_26 I3 hV3.1 hV3.2 (by omega) (by first | omega | (dsimp only; omega)))
  · skip
    refine Wpc1 (s_Mo_isOre_Z hN hV1.1 h0 hMn (fun z_18 b_18 p_18 => ?_))
    try dsimp only at p_18
    have rz_18 := rg z_18
    refine Wp.ite (fun c_21 => ?_) (fun c_21 => ?_)
    · skip
      refine Wpc2 (s_Mo_denied hN hV1.1 h0 (fun z_26 I5 hI5 hF5 b_26 p_26 => ?_))
      have hV5 : SQ mS P K O I0 J0 I5 J0 := hV1.call (kpL_le (frL_le (by decide)) rfl) hI5 hF5
      have tk5_rfOa016_27 : (I5 (rf O a0 16) 27).toInt = (I1 (rf O a0 16) 27).toInt := by rw [(hF5 (rf O a0 16) 27 (by rw [tr_S.2]; rfl)).1]
      try dsimp only at p_26
      have hk1_26 : Int32.toInt (Int32.ofInt (1)) = 1 := ofI (by decide)
      have rz_26 := rg z_26
      refine Wp.pos (by omega) ?_
      exact Wp.ret (hQ z_26 I5 hV5.1 hV5.2 (by omega) (by first | omega | (dsimp only; omega)))
    · skip
      refine Wpc1 (s_Mo_in hN hV1.1  (fun z_33 b_33 p_33 => ?_))
      try dsimp only at p_33
      have hk1_33 : Int32.toInt (Int32.ofInt (0)) = 0 := ofI (by decide)
      have hk2_33 : Int32.toInt (Int32.ofInt (3)) = 3 := ofI (by decide)
      have rz_33 := rg z_33
      refine Wp.jn ?_
      refine Wp.ite (fun c_36 => ?_) (fun c_36 => ?_)
      · skip
        refine Wpc2 (s_Mo_denied hN hV1.1 h0 (fun z_50 I7 hI7 hF7 b_50 p_50 => ?_))
        have hV7 : SQ mS P K O I0 J0 I7 J0 := hV1.call (kpL_le (frL_le (by decide)) rfl) hI7 hF7
        have tk7_rfOa016_27 : (I7 (rf O a0 16) 27).toInt = (I1 (rf O a0 16) 27).toInt := by rw [(hF7 (rf O a0 16) 27 (by rw [tr_S.2]; rfl)).1]
        try dsimp only at p_50
        have hk1_50 : Int32.toInt (Int32.ofInt (2)) = 2 := ofI (by decide)
        have rz_50 := rg z_50
        refine Wp.pos (by omega) ?_
        exact Wp.ret (hQ z_50 I7 hV7.1 hV7.2 (by omega) (by first | omega | (dsimp only; omega)))
      · skip
        refine Wpc1 (s_Mo_in hN hV1.1  (fun z_42 b_42 p_42 => ?_))
        try dsimp only at p_42
        have hk1_42 : Int32.toInt (Int32.ofInt (0)) = 0 := ofI (by decide)
        have hk2_42 : Int32.toInt (Int32.ofInt (3)) = 3 := ofI (by decide)
        have rz_42 := rg z_42
        refine Wp.ite (fun c_45 => ?_) (fun c_45 => ?_)
        · skip
          refine Wpc2 (s_Mo_denied hN hV1.1 h0 (fun z_50 I9 hI9 hF9 b_50 p_50 => ?_))
          have hV9 : SQ mS P K O I0 J0 I9 J0 := hV1.call (kpL_le (frL_le (by decide)) rfl) hI9 hF9
          have tk9_rfOa016_27 : (I9 (rf O a0 16) 27).toInt = (I1 (rf O a0 16) 27).toInt := by rw [(hF9 (rf O a0 16) 27 (by rw [tr_S.2]; rfl)).1]
          try dsimp only at p_50
          have hk1_50 : Int32.toInt (Int32.ofInt (2)) = 2 := ofI (by decide)
          have rz_50 := rg z_50
          refine Wp.pos (by omega) ?_
          exact Wp.ret (hQ z_50 I9 hV9.1 hV9.2 (by omega) (by first | omega | (dsimp only; omega)))
        · skip
          have t_55 := rf_ok hV.1 h0 (show sp 10 20 = some 33 from rfl)
          refine Wp.pos (by omega) ?_
          refine Wp_lb (fun I10 eI10 => ?_)
          have hV10 : SQ mS P K O I0 J0 I10 J0 := by rw [eI10]; exact hV1.putI t_55.2 rfl trivial
          have tk10_a0_6 : (I10 a0 6).toInt = (I1 a0 6).toInt := by rw [eI10, up2_ne _ _ (fun z => by have q := h0.2; rw [z.1, t_55.2] at q; exact absurd q (by decide))]
          have tk10_a0_18 : (I10 a0 18).toInt = (I1 a0 18).toInt := by rw [eI10, up2_ne _ _ (fun z => by have q := h0.2; rw [z.1, t_55.2] at q; exact absurd q (by decide))]
          have tk10_rfOa016_27 : (I10 (rf O a0 16) 27).toInt = (I1 (rf O a0 16) 27).toInt := by rw [eI10, up2_ne _ _ (fun z => by have q := tr_S.2; rw [z.1, t_55.2] at q; exact absurd q (by decide))]
          have t_62 := rf_ok hV.1 h0 (show sp 10 21 = some 33 from rfl)
          refine Wp.pos (by omega) ?_
          refine Wp_lb (fun I11 eI11 => ?_)
          have hV11 : SQ mS P K O I0 J0 I11 J0 := by rw [eI11]; exact hV10.putI t_62.2 rfl trivial
          have tk11_a0_6 : (I11 a0 6).toInt = (I10 a0 6).toInt := by rw [eI11, up2_ne _ _ (fun z => by have q := h0.2; rw [z.1, t_62.2] at q; exact absurd q (by decide))]
          have tk11_a0_18 : (I11 a0 18).toInt = (I10 a0 18).toInt := by rw [eI11, up2_ne _ _ (fun z => by have q := h0.2; rw [z.1, t_62.2] at q; exact absurd q (by decide))]
          have tk11_rfOa016_27 : (I11 (rf O a0 16) 27).toInt = (I10 (rf O a0 16) 27).toInt := by rw [eI11, up2_ne _ _ (fun z => by have q := tr_S.2; rw [z.1, t_62.2] at q; exact absurd q (by decide))]
          have t_69 := rf_ok hV.1 h0 (show sp 10 22 = some 34 from rfl)
          refine Wp.pos (by omega) ?_
          refine Wp_lb (fun I12 eI12 => ?_)
          have hV12 : SQ mS P K O I0 J0 I12 J0 := by rw [eI12]; exact hV11.putI t_69.2 rfl (show 0 ≤ Int32.toInt _ ∧ Int32.toInt _ ≤ 3 from by omega)
          have tk12_a0_6 : (I12 a0 6).toInt = (I11 a0 6).toInt := by rw [eI12, up2_ne _ _ (fun z => by have q := h0.2; rw [z.1, t_69.2] at q; exact absurd q (by decide))]
          have tk12_a0_18 : (I12 a0 18).toInt = (I11 a0 18).toInt := by rw [eI12, up2_ne _ _ (fun z => by have q := h0.2; rw [z.1, t_69.2] at q; exact absurd q (by decide))]
          have tk12_rfOa016_27 : (I12 (rf O a0 16) 27).toInt = (I11 (rf O a0 16) 27).toInt := by rw [eI12, up2_ne _ _ (fun z => by have q := tr_S.2; rw [z.1, t_69.2] at q; exact absurd q (by decide))]
          refine Wpc2 (s_Mo_granted hN hV12.1 h0 (fun z_77 I13 hI13 hF13 b_77 p_77 => ?_))
          have hV13 : SQ mS P K O I0 J0 I13 J0 := hV12.call (kpL_le (frL_le (by decide)) rfl) hI13 hF13
          have tk13_rfOa016_27 : (I13 (rf O a0 16) 27).toInt = (I12 (rf O a0 16) 27).toInt := by rw [(hF13 (rf O a0 16) 27 (by rw [tr_S.2]; rfl)).1]
          try dsimp only at p_77
          have rz_77 := rg z_77
          refine Wp.pos (by omega) ?_
          exact Wp.ret (hQ z_77 I13 hV13.1 hV13.2 (by omega) (by first | omega | (dsimp only; omega)))
set_option maxHeartbeats 4000000 in
set_option maxRecDepth 100000 in
theorem s_Mo_program_G {P : List Nat} {K : Nat → Nat} {N : Nat} {O : WO} {I0 : WI} {J0 : WJ} (hN : 2147483648 ≤ N) (hV : IV P K I0 O) {a0 : Nat} (h0 : a0 ∈ P ∧ K a0 = 10) {x1 : Int32} {x2 : Int32} {x3 : Int32} {x4 : Int32} (hN3 : NN P K O a0 3 9) (hGM : GM I0 (rf O a0 3)) {Q : (Int32 × WI) → Prop} (hQ : ∀ (z : Int32) (I_ : WI), IV P K I_ O → FQ mS K I0 J0 I_ J0 → (z.toInt = 0 ∨ z.toInt = 1) → (Int32.toInt (I_ a0 2) = -1 ∧ ((Int32.toInt z = 1 ∧ 0 ≤ Int32.toInt x1 ∧ Int32.toInt x1 ≤ 11 ∧ 0 ≤ Int32.toInt x4 ∧ Int32.toInt x4 < Int32.toInt (I0 (rf O a0 3) 9) ∧ 0 ≤ Int32.toInt x2 ∧ Int32.toInt x2 ≤ 3 ∧ 0 ≤ Int32.toInt x3 ∧ Int32.toInt x3 ≤ 3) ∨ (Int32.toInt z = 0 ∧ (Int32.toInt x1 < 0 ∨ 11 < Int32.toInt x1 ∨ Int32.toInt x4 < 0 ∨ Int32.toInt (I0 (rf O a0 3) 9) ≤ Int32.toInt x4 ∨ Int32.toInt x2 < 0 ∨ 3 < Int32.toInt x2 ∨ Int32.toInt x3 < 0 ∨ 3 < Int32.toInt x3))) ∧ (I_ a0 6).toInt = (I0 a0 6).toInt ∧ (I_ a0 18).toInt = (I0 a0 18).toInt ∧ (I_ (rf O a0 16) 27).toInt = (I0 (rf O a0 16) 27).toInt) → Q (z, I_)) : Wp (F_Mo_program N O I0 J0 a0 x1 x2 x3 x4) Q := by
  unfold F_Mo_program
  have r1 := rg x1
  have r2 := rg x2
  have r3 := rg x3
  have r4 := rg x4
  have tr_S := rf_ok hV.1 h0 (show sp 10 16 = some 31 from rfl)
  have oS := hV.2 (rf O a0 16) tr_S.1 27
  rw [tr_S.2] at oS
  replace oS : 0 ≤ (I0 (rf O a0 16) 27).toInt ∧ (I0 (rf O a0 16) 27).toInt ≤ 240 := oS
  have ost := hV.2 a0 h0.1 18
  rw [h0.2] at ost
  replace ost : 0 ≤ (I0 a0 18).toInt ∧ (I0 a0 18).toInt ≤ 240 := ost
  have hMs : ¬ O a0 3 = none := by rw [hN3.1]; exact fun z => by cases z
  have hV0 : SQ mS P K O I0 J0 I0 J0 := SQ.rf hV
  refine Wp_lb (fun I1 eI1 => ?_)
  have hV1 : SQ mS P K O I0 J0 I1 J0 := by rw [eI1]; exact hV0.putI h0.2 rfl trivial
  have tk1_a0_6 : (I1 a0 6).toInt = (I0 a0 6).toInt := by rw [eI1, up2_ne _ _ (fun z => absurd z.2 (by decide))]
  have tk1_a0_18 : (I1 a0 18).toInt = (I0 a0 18).toInt := by rw [eI1, up2_ne _ _ (fun z => absurd z.2 (by decide))]
  have tk1_rfOa016_27 : (I1 (rf O a0 16) 27).toInt = (I0 (rf O a0 16) 27).toInt := by rw [eI1, up2_ne _ _ (fun z => by have q := tr_S.2; rw [z.1, h0.2] at q; exact absurd q (by decide))]
  refine Wpc1 (s_Mo_in hN hV1.1  (fun z_9 b_9 p_9 => ?_))
  try dsimp only at p_9
  have hk1_9 : Int32.toInt (Int32.ofInt (0)) = 0 := ofI (by decide)
  have hk2_9 : Int32.toInt (Int32.ofInt (11)) = 11 := ofI (by decide)
  have rz_9 := rg z_9
  refine Wp.jn ?_
  refine Wp.ite (fun c_12 => ?_) (fun c_12 => ?_)
  · skip
    refine Wpc2 (s_Mo_denied hN hV1.1 h0 (fun z_26 I3 hI3 hF3 b_26 p_26 => ?_))
    have hV3 : SQ mS P K O I0 J0 I3 J0 := hV1.call (kpL_le (frL_le (by decide)) rfl) hI3 hF3
    have tk3_rfOa016_27 : (I3 (rf O a0 16) 27).toInt = (I1 (rf O a0 16) 27).toInt := by rw [(hF3 (rf O a0 16) 27 (by rw [tr_S.2]; rfl)).1]
    try dsimp only at p_26
    have hk1_26 : Int32.toInt (Int32.ofInt (1)) = 1 := ofI (by decide)
    have rz_26 := rg z_26
    refine Wp.pos (by omega) ?_
    exact Wp.ret (hQ z_26 I3 hV3.1 hV3.2 (by omega) (by first | omega | (dsimp only; omega)))
  · skip
    refine Wpc1 (s_Mo_isOre_G hN hV1.1 h0 hN3 (hGM.keep (fun k => (hV1.2 (rf O a0 3) k (by rw [hN3.2.2]; rfl)).1)) (fun z_18 b_18 p_18 => ?_))
    try dsimp only at p_18
    have rz_18 := rg z_18
    have km := congrArg Int32.toInt (hV1.2 (rf O a0 3) 9 (by rw [hN3.2.2]; rfl)).1
    refine Wp.ite (fun c_21 => ?_) (fun c_21 => ?_)
    · skip
      refine Wpc2 (s_Mo_denied hN hV1.1 h0 (fun z_26 I5 hI5 hF5 b_26 p_26 => ?_))
      have hV5 : SQ mS P K O I0 J0 I5 J0 := hV1.call (kpL_le (frL_le (by decide)) rfl) hI5 hF5
      have tk5_rfOa016_27 : (I5 (rf O a0 16) 27).toInt = (I1 (rf O a0 16) 27).toInt := by rw [(hF5 (rf O a0 16) 27 (by rw [tr_S.2]; rfl)).1]
      try dsimp only at p_26
      have hk1_26 : Int32.toInt (Int32.ofInt (1)) = 1 := ofI (by decide)
      have rz_26 := rg z_26
      refine Wp.pos (by omega) ?_
      exact Wp.ret (hQ z_26 I5 hV5.1 hV5.2 (by omega) (by first | omega | (dsimp only; omega)))
    · skip
      refine Wpc1 (s_Mo_in hN hV1.1  (fun z_33 b_33 p_33 => ?_))
      try dsimp only at p_33
      have hk1_33 : Int32.toInt (Int32.ofInt (0)) = 0 := ofI (by decide)
      have hk2_33 : Int32.toInt (Int32.ofInt (3)) = 3 := ofI (by decide)
      have rz_33 := rg z_33
      refine Wp.jn ?_
      refine Wp.ite (fun c_36 => ?_) (fun c_36 => ?_)
      · skip
        refine Wpc2 (s_Mo_denied hN hV1.1 h0 (fun z_50 I7 hI7 hF7 b_50 p_50 => ?_))
        have hV7 : SQ mS P K O I0 J0 I7 J0 := hV1.call (kpL_le (frL_le (by decide)) rfl) hI7 hF7
        have tk7_rfOa016_27 : (I7 (rf O a0 16) 27).toInt = (I1 (rf O a0 16) 27).toInt := by rw [(hF7 (rf O a0 16) 27 (by rw [tr_S.2]; rfl)).1]
        try dsimp only at p_50
        have hk1_50 : Int32.toInt (Int32.ofInt (2)) = 2 := ofI (by decide)
        have rz_50 := rg z_50
        refine Wp.pos (by omega) ?_
        exact Wp.ret (hQ z_50 I7 hV7.1 hV7.2 (by omega) (by first | omega | (dsimp only; omega)))
      · skip
        refine Wpc1 (s_Mo_in hN hV1.1  (fun z_42 b_42 p_42 => ?_))
        try dsimp only at p_42
        have hk1_42 : Int32.toInt (Int32.ofInt (0)) = 0 := ofI (by decide)
        have hk2_42 : Int32.toInt (Int32.ofInt (3)) = 3 := ofI (by decide)
        have rz_42 := rg z_42
        refine Wp.ite (fun c_45 => ?_) (fun c_45 => ?_)
        · skip
          refine Wpc2 (s_Mo_denied hN hV1.1 h0 (fun z_50 I9 hI9 hF9 b_50 p_50 => ?_))
          have hV9 : SQ mS P K O I0 J0 I9 J0 := hV1.call (kpL_le (frL_le (by decide)) rfl) hI9 hF9
          have tk9_rfOa016_27 : (I9 (rf O a0 16) 27).toInt = (I1 (rf O a0 16) 27).toInt := by rw [(hF9 (rf O a0 16) 27 (by rw [tr_S.2]; rfl)).1]
          try dsimp only at p_50
          have hk1_50 : Int32.toInt (Int32.ofInt (2)) = 2 := ofI (by decide)
          have rz_50 := rg z_50
          refine Wp.pos (by omega) ?_
          exact Wp.ret (hQ z_50 I9 hV9.1 hV9.2 (by omega) (by first | omega | (dsimp only; omega)))
        · skip
          have t_55 := rf_ok hV.1 h0 (show sp 10 20 = some 33 from rfl)
          refine Wp.pos (by omega) ?_
          refine Wp_lb (fun I10 eI10 => ?_)
          have hV10 : SQ mS P K O I0 J0 I10 J0 := by rw [eI10]; exact hV1.putI t_55.2 rfl trivial
          have tk10_a0_6 : (I10 a0 6).toInt = (I1 a0 6).toInt := by rw [eI10, up2_ne _ _ (fun z => by have q := h0.2; rw [z.1, t_55.2] at q; exact absurd q (by decide))]
          have tk10_a0_18 : (I10 a0 18).toInt = (I1 a0 18).toInt := by rw [eI10, up2_ne _ _ (fun z => by have q := h0.2; rw [z.1, t_55.2] at q; exact absurd q (by decide))]
          have tk10_rfOa016_27 : (I10 (rf O a0 16) 27).toInt = (I1 (rf O a0 16) 27).toInt := by rw [eI10, up2_ne _ _ (fun z => by have q := tr_S.2; rw [z.1, t_55.2] at q; exact absurd q (by decide))]
          have t_62 := rf_ok hV.1 h0 (show sp 10 21 = some 33 from rfl)
          refine Wp.pos (by omega) ?_
          refine Wp_lb (fun I11 eI11 => ?_)
          have hV11 : SQ mS P K O I0 J0 I11 J0 := by rw [eI11]; exact hV10.putI t_62.2 rfl trivial
          have tk11_a0_6 : (I11 a0 6).toInt = (I10 a0 6).toInt := by rw [eI11, up2_ne _ _ (fun z => by have q := h0.2; rw [z.1, t_62.2] at q; exact absurd q (by decide))]
          have tk11_a0_18 : (I11 a0 18).toInt = (I10 a0 18).toInt := by rw [eI11, up2_ne _ _ (fun z => by have q := h0.2; rw [z.1, t_62.2] at q; exact absurd q (by decide))]
          have tk11_rfOa016_27 : (I11 (rf O a0 16) 27).toInt = (I10 (rf O a0 16) 27).toInt := by rw [eI11, up2_ne _ _ (fun z => by have q := tr_S.2; rw [z.1, t_62.2] at q; exact absurd q (by decide))]
          have t_69 := rf_ok hV.1 h0 (show sp 10 22 = some 34 from rfl)
          refine Wp.pos (by omega) ?_
          refine Wp_lb (fun I12 eI12 => ?_)
          have hV12 : SQ mS P K O I0 J0 I12 J0 := by rw [eI12]; exact hV11.putI t_69.2 rfl (show 0 ≤ Int32.toInt _ ∧ Int32.toInt _ ≤ 3 from by omega)
          have tk12_a0_6 : (I12 a0 6).toInt = (I11 a0 6).toInt := by rw [eI12, up2_ne _ _ (fun z => by have q := h0.2; rw [z.1, t_69.2] at q; exact absurd q (by decide))]
          have tk12_a0_18 : (I12 a0 18).toInt = (I11 a0 18).toInt := by rw [eI12, up2_ne _ _ (fun z => by have q := h0.2; rw [z.1, t_69.2] at q; exact absurd q (by decide))]
          have tk12_rfOa016_27 : (I12 (rf O a0 16) 27).toInt = (I11 (rf O a0 16) 27).toInt := by rw [eI12, up2_ne _ _ (fun z => by have q := tr_S.2; rw [z.1, t_69.2] at q; exact absurd q (by decide))]
          refine Wpc2 (s_Mo_granted hN hV12.1 h0 (fun z_77 I13 hI13 hF13 b_77 p_77 => ?_))
          have hV13 : SQ mS P K O I0 J0 I13 J0 := hV12.call (kpL_le (frL_le (by decide)) rfl) hI13 hF13
          have tk13_rfOa016_27 : (I13 (rf O a0 16) 27).toInt = (I12 (rf O a0 16) 27).toInt := by rw [(hF13 (rf O a0 16) 27 (by rw [tr_S.2]; rfl)).1]
          try dsimp only at p_77
          have rz_77 := rg z_77
          refine Wp.pos (by omega) ?_
          exact Wp.ret (hQ z_77 I13 hV13.1 hV13.2 (by omega) (by first | omega | (dsimp only; omega)))
set_option maxHeartbeats 4000000 in
set_option maxRecDepth 100000 in
theorem s_Mo_seen_Z {P : List Nat} {K : Nat → Nat} {N : Nat} {O : WO} {I0 : WI} {J0 : WJ} (hN : 2147483648 ≤ N) (hV : IV P K I0 O) {a0 : Nat} (h0 : a0 ∈ P ∧ K a0 = 10) {x1 : Int32} {x2 : Int32} {x3 : Int32} {x4 : Int32} (hMn : O a0 3 = none) {Q : (Int32 × WI) → Prop} (hQ : ∀ (z : Int32) (I_ : WI), IV P K I_ O → FQ mS K I0 J0 I_ J0 → (Int32.toInt (I_ a0 2) = -1 ∧ (I_ a0 6).toInt = (I0 a0 6).toInt ∧ (I_ a0 18).toInt = (I0 a0 18).toInt ∧ (I_ (rf O a0 16) 27).toInt = (I0 (rf O a0 16) 27).toInt) → Q (z, I_)) : Wp (F_Mo_seen N O I0 J0 a0 x1 x2 x3 x4) Q := by
  unfold F_Mo_seen
  have r1 := rg x1
  have r2 := rg x2
  have r3 := rg x3
  have r4 := rg x4
  have tr_S := rf_ok hV.1 h0 (show sp 10 16 = some 31 from rfl)
  have oS := hV.2 (rf O a0 16) tr_S.1 27
  rw [tr_S.2] at oS
  replace oS : 0 ≤ (I0 (rf O a0 16) 27).toInt ∧ (I0 (rf O a0 16) 27).toInt ≤ 240 := oS
  have ost := hV.2 a0 h0.1 18
  rw [h0.2] at ost
  replace ost : 0 ≤ (I0 a0 18).toInt ∧ (I0 a0 18).toInt ≤ 240 := ost
  have hV0 : SQ mS P K O I0 J0 I0 J0 := SQ.rf hV
  refine Wp_lb (fun I1 eI1 => ?_)
  have hV1 : SQ mS P K O I0 J0 I1 J0 := by rw [eI1]; exact hV0.putI h0.2 rfl trivial
  have tk1_a0_23 : (I1 a0 23).toInt = (I0 a0 23).toInt := by rw [eI1, up2_ne _ _ (fun z => absurd z.2 (by decide))]
  have tk1_a0_6 : (I1 a0 6).toInt = (I0 a0 6).toInt := by rw [eI1, up2_ne _ _ (fun z => absurd z.2 (by decide))]
  have tk1_a0_18 : (I1 a0 18).toInt = (I0 a0 18).toInt := by rw [eI1, up2_ne _ _ (fun z => absurd z.2 (by decide))]
  have tk1_rfOa016_27 : (I1 (rf O a0 16) 27).toInt = (I0 (rf O a0 16) 27).toInt := by rw [eI1, up2_ne _ _ (fun z => by have q := tr_S.2; rw [z.1, h0.2] at q; exact absurd q (by decide))]
  refine Wpc1 (s_Mo_isWhat_Z hN hV1.1 h0 hMn (fun z_8 b_8 p_8 => ?_))
  try dsimp only at p_8
  have rz_8 := rg z_8
  refine Wp.ite (fun c_11 => ?_) (fun c_11 => ?_)
  · skip
    refine Wpc2 (s_Mo_refused hN hV1.1 h0 (fun z_16 I3 hI3 hF3 p_16 => ?_))
    have hV3 : SQ mS P K O I0 J0 I3 J0 := hV1.call (kpL_le (frL_le (by decide)) rfl) hI3 hF3
    have tk3_rfOa016_27 : (I3 (rf O a0 16) 27).toInt = (I1 (rf O a0 16) 27).toInt := by rw [(hF3 (rf O a0 16) 27 (by rw [tr_S.2]; rfl)).1]
    try dsimp only at p_16
    have hk1_16 : Int32.toInt (Int32.ofInt (1)) = 1 := ofI (by decide)
    have rz_16 := rg z_16
    exact Wp.ret (hQ z_16 I3 hV3.1 hV3.2 (by first | omega | (dsimp only; omega)))
  · skip
    refine Wpc1 (s_Mo_in hN hV1.1  (fun z_25 b_25 p_25 => ?_))
    try dsimp only at p_25
    have hk1_25 : Int32.toInt (Int32.ofInt (0)) = 0 := ofI (by decide)
    have hk2_25 : Int32.toInt (Int32.ofInt (999999)) = 999999 := ofI (by decide)
    have rz_25 := rg z_25
    refine Wp_jq (fun k_43 => Wp (k_43 ) Q) (?_) (fun k_43 hk_43 => ?_)
    · skip
      refine Wpc2 (s_Mo_refused hN hV1.1 h0 (fun z_45 I5 hI5 hF5 p_45 => ?_))
      have hV5 : SQ mS P K O I0 J0 I5 J0 := hV1.call (kpL_le (frL_le (by decide)) rfl) hI5 hF5
      have tk5_rfOa016_27 : (I5 (rf O a0 16) 27).toInt = (I1 (rf O a0 16) 27).toInt := by rw [(hF5 (rf O a0 16) 27 (by rw [tr_S.2]; rfl)).1]
      try dsimp only at p_45
      have hk1_45 : Int32.toInt (Int32.ofInt (2)) = 2 := ofI (by decide)
      have rz_45 := rg z_45
      exact Wp.ret (hQ z_45 I5 hV5.1 hV5.2 (by first | omega | (dsimp only; omega)))
    refine Wp.ite (fun c_28 => ?_) (fun c_28 => ?_)
    · skip
      exact hk_43   
    · skip
      refine Wpc1 (s_Mo_in hN hV1.1  (fun z_37 b_37 p_37 => ?_))
      try dsimp only at p_37
      have hk1_37 : Int32.toInt (Int32.ofInt (0)) = 0 := ofI (by decide)
      have hk2_37 : Int32.toInt (Int32.ofInt (999)) = 999 := ofI (by decide)
      have rz_37 := rg z_37
      refine Wp.ite (fun c_40 => ?_) (fun c_40 => ?_)
      · skip
        exact hk_43   
      · skip
        have o_50 := hV1.1.2 a0 h0.1 23
        rw [h0.2] at o_50
        replace o_50 : 0 ≤ (I1 a0 23).toInt ∧ (I1 a0 23).toInt ≤ 24 := o_50
        refine Wp.ite (fun c_55 => ?_) (fun c_55 => ?_)
        · skip
          refine Wpc2 (s_Mo_refused hN hV1.1 h0 (fun z_60 I7 hI7 hF7 p_60 => ?_))
          have hV7 : SQ mS P K O I0 J0 I7 J0 := hV1.call (kpL_le (frL_le (by decide)) rfl) hI7 hF7
          have tk7_rfOa016_27 : (I7 (rf O a0 16) 27).toInt = (I1 (rf O a0 16) 27).toInt := by rw [(hF7 (rf O a0 16) 27 (by rw [tr_S.2]; rfl)).1]
          try dsimp only at p_60
          have hk1_60 : Int32.toInt (Int32.ofInt (3)) = 3 := ofI (by decide)
          have rz_60 := rg z_60
          exact Wp.ret (hQ z_60 I7 hV7.1 hV7.2 (by first | omega | (dsimp only; omega)))
        · skip
          have t_65 := rf_ok hV.1 h0 (show sp 10 24 = some 35 from rfl)
          have o_69 := hV1.1.2 a0 h0.1 23
          rw [h0.2] at o_69
          replace o_69 : 0 ≤ (I1 a0 23).toInt ∧ (I1 a0 23).toInt ≤ 24 := o_69
          refine Wp.pos (by omega) ?_
          refine Wp_lb (fun I8 eI8 => ?_)
          have hV8 : SQ mS P K O I0 J0 I8 J0 := by rw [eI8]; exact hV1.putI t_65.2 rfl trivial
          have tk8_a0_23 : (I8 a0 23).toInt = (I1 a0 23).toInt := by rw [eI8, up2_ne _ _ (fun z => by have q := h0.2; rw [z.1, t_65.2] at q; exact absurd q (by decide))]
          have tk8_a0_6 : (I8 a0 6).toInt = (I1 a0 6).toInt := by rw [eI8, up2_ne _ _ (fun z => by have q := h0.2; rw [z.1, t_65.2] at q; exact absurd q (by decide))]
          have tk8_a0_18 : (I8 a0 18).toInt = (I1 a0 18).toInt := by rw [eI8, up2_ne _ _ (fun z => by have q := h0.2; rw [z.1, t_65.2] at q; exact absurd q (by decide))]
          have tk8_rfOa016_27 : (I8 (rf O a0 16) 27).toInt = (I1 (rf O a0 16) 27).toInt := by rw [eI8, up2_ne _ _ (fun z => by have q := tr_S.2; rw [z.1, t_65.2] at q; exact absurd q (by decide))]
          have t_75 := rf_ok hV.1 h0 (show sp 10 25 = some 36 from rfl)
          have o_79 := hV8.1.2 a0 h0.1 23
          rw [h0.2] at o_79
          replace o_79 : 0 ≤ (I8 a0 23).toInt ∧ (I8 a0 23).toInt ≤ 24 := o_79
          refine Wp.pos (by omega) ?_
          refine Wp_lb (fun I9 eI9 => ?_)
          have hV9 : SQ mS P K O I0 J0 I9 J0 := by rw [eI9]; exact hV8.putI t_75.2 rfl (show 0 ≤ Int32.toInt _ ∧ Int32.toInt _ ≤ 6 from by omega)
          have tk9_a0_23 : (I9 a0 23).toInt = (I8 a0 23).toInt := by rw [eI9, up2_ne _ _ (fun z => by have q := h0.2; rw [z.1, t_75.2] at q; exact absurd q (by decide))]
          have tk9_a0_6 : (I9 a0 6).toInt = (I8 a0 6).toInt := by rw [eI9, up2_ne _ _ (fun z => by have q := h0.2; rw [z.1, t_75.2] at q; exact absurd q (by decide))]
          have tk9_a0_18 : (I9 a0 18).toInt = (I8 a0 18).toInt := by rw [eI9, up2_ne _ _ (fun z => by have q := h0.2; rw [z.1, t_75.2] at q; exact absurd q (by decide))]
          have tk9_rfOa016_27 : (I9 (rf O a0 16) 27).toInt = (I8 (rf O a0 16) 27).toInt := by rw [eI9, up2_ne _ _ (fun z => by have q := tr_S.2; rw [z.1, t_75.2] at q; exact absurd q (by decide))]
          have t_85 := rf_ok hV.1 h0 (show sp 10 26 = some 35 from rfl)
          have o_89 := hV9.1.2 a0 h0.1 23
          rw [h0.2] at o_89
          replace o_89 : 0 ≤ (I9 a0 23).toInt ∧ (I9 a0 23).toInt ≤ 24 := o_89
          refine Wp.pos (by omega) ?_
          refine Wp_lb (fun I10 eI10 => ?_)
          have hV10 : SQ mS P K O I0 J0 I10 J0 := by rw [eI10]; exact hV9.putI t_85.2 rfl trivial
          have tk10_a0_23 : (I10 a0 23).toInt = (I9 a0 23).toInt := by rw [eI10, up2_ne _ _ (fun z => by have q := h0.2; rw [z.1, t_85.2] at q; exact absurd q (by decide))]
          have tk10_a0_6 : (I10 a0 6).toInt = (I9 a0 6).toInt := by rw [eI10, up2_ne _ _ (fun z => by have q := h0.2; rw [z.1, t_85.2] at q; exact absurd q (by decide))]
          have tk10_a0_18 : (I10 a0 18).toInt = (I9 a0 18).toInt := by rw [eI10, up2_ne _ _ (fun z => by have q := h0.2; rw [z.1, t_85.2] at q; exact absurd q (by decide))]
          have tk10_rfOa016_27 : (I10 (rf O a0 16) 27).toInt = (I9 (rf O a0 16) 27).toInt := by rw [eI10, up2_ne _ _ (fun z => by have q := tr_S.2; rw [z.1, t_85.2] at q; exact absurd q (by decide))]
          have t_95 := rf_ok hV.1 h0 (show sp 10 27 = some 35 from rfl)
          have o_99 := hV10.1.2 a0 h0.1 23
          rw [h0.2] at o_99
          replace o_99 : 0 ≤ (I10 a0 23).toInt ∧ (I10 a0 23).toInt ≤ 24 := o_99
          refine Wp.pos (by omega) ?_
          refine Wp_lb (fun I11 eI11 => ?_)
          have hV11 : SQ mS P K O I0 J0 I11 J0 := by rw [eI11]; exact hV10.putI t_95.2 rfl trivial
          have tk11_a0_23 : (I11 a0 23).toInt = (I10 a0 23).toInt := by rw [eI11, up2_ne _ _ (fun z => by have q := h0.2; rw [z.1, t_95.2] at q; exact absurd q (by decide))]
          have tk11_a0_6 : (I11 a0 6).toInt = (I10 a0 6).toInt := by rw [eI11, up2_ne _ _ (fun z => by have q := h0.2; rw [z.1, t_95.2] at q; exact absurd q (by decide))]
          have tk11_a0_18 : (I11 a0 18).toInt = (I10 a0 18).toInt := by rw [eI11, up2_ne _ _ (fun z => by have q := h0.2; rw [z.1, t_95.2] at q; exact absurd q (by decide))]
          have tk11_rfOa016_27 : (I11 (rf O a0 16) 27).toInt = (I10 (rf O a0 16) 27).toInt := by rw [eI11, up2_ne _ _ (fun z => by have q := tr_S.2; rw [z.1, t_95.2] at q; exact absurd q (by decide))]
          have o_107 := hV11.1.2 a0 h0.1 23
          rw [h0.2] at o_107
          replace o_107 : 0 ≤ (I11 a0 23).toInt ∧ (I11 a0 23).toInt ≤ 24 := o_107
          first | (have e_111 := t_add (x := (I11 a0 23)) (y := (Int32.ofInt (1))) rfl (ofI (by decide)) (by omega)) | skip
          refine Wp_lb (fun I12 eI12 => ?_)
          have hV12 : SQ mS P K O I0 J0 I12 J0 := by rw [eI12]; exact hV11.putI h0.2 rfl (show 0 ≤ Int32.toInt _ ∧ Int32.toInt _ ≤ 24 from by omega)
          have tk12_a0_23 : (I12 a0 23).toInt = (((I11 a0 23) + (Int32.ofInt (1)))).toInt := by rw [eI12, up2_self]
          have tk12_a0_6 : (I12 a0 6).toInt = (I11 a0 6).toInt := by rw [eI12, up2_ne _ _ (fun z => absurd z.2 (by decide))]
          have tk12_a0_18 : (I12 a0 18).toInt = (I11 a0 18).toInt := by rw [eI12, up2_ne _ _ (fun z => absurd z.2 (by decide))]
          have tk12_rfOa016_27 : (I12 (rf O a0 16) 27).toInt = (I11 (rf O a0 16) 27).toInt := by rw [eI12, up2_ne _ _ (fun z => by have q := tr_S.2; rw [z.1, h0.2] at q; exact absurd q (by decide))]
          have o_117 := hV12.1.2 a0 h0.1 23
          rw [h0.2] at o_117
          replace o_117 : 0 ≤ (I12 a0 23).toInt ∧ (I12 a0 23).toInt ≤ 24 := o_117
          refine Wpc2 (s_Mo_done hN hV12.1 h0 (fun z_120 I13 hI13 hF13 p_120 => ?_))
          have hV13 : SQ mS P K O I0 J0 I13 J0 := hV12.call (kpL_le (frL_le (by decide)) rfl) hI13 hF13
          have tk13_rfOa016_27 : (I13 (rf O a0 16) 27).toInt = (I12 (rf O a0 16) 27).toInt := by rw [(hF13 (rf O a0 16) 27 (by rw [tr_S.2]; rfl)).1]
          try dsimp only at p_120
          have rz_120 := rg z_120
          exact Wp.ret (hQ z_120 I13 hV13.1 hV13.2 (by first | omega | (dsimp only; omega)))
set_option maxHeartbeats 4000000 in
set_option maxRecDepth 100000 in
theorem s_Mo_seen_G {P : List Nat} {K : Nat → Nat} {N : Nat} {O : WO} {I0 : WI} {J0 : WJ} (hN : 2147483648 ≤ N) (hV : IV P K I0 O) {a0 : Nat} (h0 : a0 ∈ P ∧ K a0 = 10) {x1 : Int32} {x2 : Int32} {x3 : Int32} {x4 : Int32} (hN3 : NN P K O a0 3 9) (hGM : GM I0 (rf O a0 3)) {Q : (Int32 × WI) → Prop} (hQ : ∀ (z : Int32) (I_ : WI), IV P K I_ O → FQ mS K I0 J0 I_ J0 → (Int32.toInt (I_ a0 2) = -1 ∧ (I_ a0 6).toInt = (I0 a0 6).toInt ∧ (I_ a0 18).toInt = (I0 a0 18).toInt ∧ (I_ (rf O a0 16) 27).toInt = (I0 (rf O a0 16) 27).toInt) → Q (z, I_)) : Wp (F_Mo_seen N O I0 J0 a0 x1 x2 x3 x4) Q := by
  unfold F_Mo_seen
  have r1 := rg x1
  have r2 := rg x2
  have r3 := rg x3
  have r4 := rg x4
  have tr_S := rf_ok hV.1 h0 (show sp 10 16 = some 31 from rfl)
  have oS := hV.2 (rf O a0 16) tr_S.1 27
  rw [tr_S.2] at oS
  replace oS : 0 ≤ (I0 (rf O a0 16) 27).toInt ∧ (I0 (rf O a0 16) 27).toInt ≤ 240 := oS
  have ost := hV.2 a0 h0.1 18
  rw [h0.2] at ost
  replace ost : 0 ≤ (I0 a0 18).toInt ∧ (I0 a0 18).toInt ≤ 240 := ost
  have hMs : ¬ O a0 3 = none := by rw [hN3.1]; exact fun z => by cases z
  have hV0 : SQ mS P K O I0 J0 I0 J0 := SQ.rf hV
  refine Wp_lb (fun I1 eI1 => ?_)
  have hV1 : SQ mS P K O I0 J0 I1 J0 := by rw [eI1]; exact hV0.putI h0.2 rfl trivial
  have tk1_a0_23 : (I1 a0 23).toInt = (I0 a0 23).toInt := by rw [eI1, up2_ne _ _ (fun z => absurd z.2 (by decide))]
  have tk1_a0_6 : (I1 a0 6).toInt = (I0 a0 6).toInt := by rw [eI1, up2_ne _ _ (fun z => absurd z.2 (by decide))]
  have tk1_a0_18 : (I1 a0 18).toInt = (I0 a0 18).toInt := by rw [eI1, up2_ne _ _ (fun z => absurd z.2 (by decide))]
  have tk1_rfOa016_27 : (I1 (rf O a0 16) 27).toInt = (I0 (rf O a0 16) 27).toInt := by rw [eI1, up2_ne _ _ (fun z => by have q := tr_S.2; rw [z.1, h0.2] at q; exact absurd q (by decide))]
  refine Wpc1 (s_Mo_isWhat_G hN hV1.1 h0 hN3 (hGM.keep (fun k => (hV1.2 (rf O a0 3) k (by rw [hN3.2.2]; rfl)).1)) (fun z_8 b_8 p_8 => ?_))
  try dsimp only at p_8
  have rz_8 := rg z_8
  refine Wp.ite (fun c_11 => ?_) (fun c_11 => ?_)
  · skip
    refine Wpc2 (s_Mo_refused hN hV1.1 h0 (fun z_16 I3 hI3 hF3 p_16 => ?_))
    have hV3 : SQ mS P K O I0 J0 I3 J0 := hV1.call (kpL_le (frL_le (by decide)) rfl) hI3 hF3
    have tk3_rfOa016_27 : (I3 (rf O a0 16) 27).toInt = (I1 (rf O a0 16) 27).toInt := by rw [(hF3 (rf O a0 16) 27 (by rw [tr_S.2]; rfl)).1]
    try dsimp only at p_16
    have hk1_16 : Int32.toInt (Int32.ofInt (1)) = 1 := ofI (by decide)
    have rz_16 := rg z_16
    exact Wp.ret (hQ z_16 I3 hV3.1 hV3.2 (by first | omega | (dsimp only; omega)))
  · skip
    refine Wpc1 (s_Mo_in hN hV1.1  (fun z_25 b_25 p_25 => ?_))
    try dsimp only at p_25
    have hk1_25 : Int32.toInt (Int32.ofInt (0)) = 0 := ofI (by decide)
    have hk2_25 : Int32.toInt (Int32.ofInt (999999)) = 999999 := ofI (by decide)
    have rz_25 := rg z_25
    refine Wp_jq (fun k_43 => Wp (k_43 ) Q) (?_) (fun k_43 hk_43 => ?_)
    · skip
      refine Wpc2 (s_Mo_refused hN hV1.1 h0 (fun z_45 I5 hI5 hF5 p_45 => ?_))
      have hV5 : SQ mS P K O I0 J0 I5 J0 := hV1.call (kpL_le (frL_le (by decide)) rfl) hI5 hF5
      have tk5_rfOa016_27 : (I5 (rf O a0 16) 27).toInt = (I1 (rf O a0 16) 27).toInt := by rw [(hF5 (rf O a0 16) 27 (by rw [tr_S.2]; rfl)).1]
      try dsimp only at p_45
      have hk1_45 : Int32.toInt (Int32.ofInt (2)) = 2 := ofI (by decide)
      have rz_45 := rg z_45
      exact Wp.ret (hQ z_45 I5 hV5.1 hV5.2 (by first | omega | (dsimp only; omega)))
    refine Wp.ite (fun c_28 => ?_) (fun c_28 => ?_)
    · skip
      exact hk_43   
    · skip
      refine Wpc1 (s_Mo_in hN hV1.1  (fun z_37 b_37 p_37 => ?_))
      try dsimp only at p_37
      have hk1_37 : Int32.toInt (Int32.ofInt (0)) = 0 := ofI (by decide)
      have hk2_37 : Int32.toInt (Int32.ofInt (999)) = 999 := ofI (by decide)
      have rz_37 := rg z_37
      refine Wp.ite (fun c_40 => ?_) (fun c_40 => ?_)
      · skip
        exact hk_43   
      · skip
        have o_50 := hV1.1.2 a0 h0.1 23
        rw [h0.2] at o_50
        replace o_50 : 0 ≤ (I1 a0 23).toInt ∧ (I1 a0 23).toInt ≤ 24 := o_50
        refine Wp.ite (fun c_55 => ?_) (fun c_55 => ?_)
        · skip
          refine Wpc2 (s_Mo_refused hN hV1.1 h0 (fun z_60 I7 hI7 hF7 p_60 => ?_))
          have hV7 : SQ mS P K O I0 J0 I7 J0 := hV1.call (kpL_le (frL_le (by decide)) rfl) hI7 hF7
          have tk7_rfOa016_27 : (I7 (rf O a0 16) 27).toInt = (I1 (rf O a0 16) 27).toInt := by rw [(hF7 (rf O a0 16) 27 (by rw [tr_S.2]; rfl)).1]
          try dsimp only at p_60
          have hk1_60 : Int32.toInt (Int32.ofInt (3)) = 3 := ofI (by decide)
          have rz_60 := rg z_60
          exact Wp.ret (hQ z_60 I7 hV7.1 hV7.2 (by first | omega | (dsimp only; omega)))
        · skip
          have t_65 := rf_ok hV.1 h0 (show sp 10 24 = some 35 from rfl)
          have o_69 := hV1.1.2 a0 h0.1 23
          rw [h0.2] at o_69
          replace o_69 : 0 ≤ (I1 a0 23).toInt ∧ (I1 a0 23).toInt ≤ 24 := o_69
          refine Wp.pos (by omega) ?_
          refine Wp_lb (fun I8 eI8 => ?_)
          have hV8 : SQ mS P K O I0 J0 I8 J0 := by rw [eI8]; exact hV1.putI t_65.2 rfl trivial
          have tk8_a0_23 : (I8 a0 23).toInt = (I1 a0 23).toInt := by rw [eI8, up2_ne _ _ (fun z => by have q := h0.2; rw [z.1, t_65.2] at q; exact absurd q (by decide))]
          have tk8_a0_6 : (I8 a0 6).toInt = (I1 a0 6).toInt := by rw [eI8, up2_ne _ _ (fun z => by have q := h0.2; rw [z.1, t_65.2] at q; exact absurd q (by decide))]
          have tk8_a0_18 : (I8 a0 18).toInt = (I1 a0 18).toInt := by rw [eI8, up2_ne _ _ (fun z => by have q := h0.2; rw [z.1, t_65.2] at q; exact absurd q (by decide))]
          have tk8_rfOa016_27 : (I8 (rf O a0 16) 27).toInt = (I1 (rf O a0 16) 27).toInt := by rw [eI8, up2_ne _ _ (fun z => by have q := tr_S.2; rw [z.1, t_65.2] at q; exact absurd q (by decide))]
          have t_75 := rf_ok hV.1 h0 (show sp 10 25 = some 36 from rfl)
          have o_79 := hV8.1.2 a0 h0.1 23
          rw [h0.2] at o_79
          replace o_79 : 0 ≤ (I8 a0 23).toInt ∧ (I8 a0 23).toInt ≤ 24 := o_79
          refine Wp.pos (by omega) ?_
          refine Wp_lb (fun I9 eI9 => ?_)
          have hV9 : SQ mS P K O I0 J0 I9 J0 := by rw [eI9]; exact hV8.putI t_75.2 rfl (show 0 ≤ Int32.toInt _ ∧ Int32.toInt _ ≤ 6 from by omega)
          have tk9_a0_23 : (I9 a0 23).toInt = (I8 a0 23).toInt := by rw [eI9, up2_ne _ _ (fun z => by have q := h0.2; rw [z.1, t_75.2] at q; exact absurd q (by decide))]
          have tk9_a0_6 : (I9 a0 6).toInt = (I8 a0 6).toInt := by rw [eI9, up2_ne _ _ (fun z => by have q := h0.2; rw [z.1, t_75.2] at q; exact absurd q (by decide))]
          have tk9_a0_18 : (I9 a0 18).toInt = (I8 a0 18).toInt := by rw [eI9, up2_ne _ _ (fun z => by have q := h0.2; rw [z.1, t_75.2] at q; exact absurd q (by decide))]
          have tk9_rfOa016_27 : (I9 (rf O a0 16) 27).toInt = (I8 (rf O a0 16) 27).toInt := by rw [eI9, up2_ne _ _ (fun z => by have q := tr_S.2; rw [z.1, t_75.2] at q; exact absurd q (by decide))]
          have t_85 := rf_ok hV.1 h0 (show sp 10 26 = some 35 from rfl)
          have o_89 := hV9.1.2 a0 h0.1 23
          rw [h0.2] at o_89
          replace o_89 : 0 ≤ (I9 a0 23).toInt ∧ (I9 a0 23).toInt ≤ 24 := o_89
          refine Wp.pos (by omega) ?_
          refine Wp_lb (fun I10 eI10 => ?_)
          have hV10 : SQ mS P K O I0 J0 I10 J0 := by rw [eI10]; exact hV9.putI t_85.2 rfl trivial
          have tk10_a0_23 : (I10 a0 23).toInt = (I9 a0 23).toInt := by rw [eI10, up2_ne _ _ (fun z => by have q := h0.2; rw [z.1, t_85.2] at q; exact absurd q (by decide))]
          have tk10_a0_6 : (I10 a0 6).toInt = (I9 a0 6).toInt := by rw [eI10, up2_ne _ _ (fun z => by have q := h0.2; rw [z.1, t_85.2] at q; exact absurd q (by decide))]
          have tk10_a0_18 : (I10 a0 18).toInt = (I9 a0 18).toInt := by rw [eI10, up2_ne _ _ (fun z => by have q := h0.2; rw [z.1, t_85.2] at q; exact absurd q (by decide))]
          have tk10_rfOa016_27 : (I10 (rf O a0 16) 27).toInt = (I9 (rf O a0 16) 27).toInt := by rw [eI10, up2_ne _ _ (fun z => by have q := tr_S.2; rw [z.1, t_85.2] at q; exact absurd q (by decide))]
          have t_95 := rf_ok hV.1 h0 (show sp 10 27 = some 35 from rfl)
          have o_99 := hV10.1.2 a0 h0.1 23
          rw [h0.2] at o_99
          replace o_99 : 0 ≤ (I10 a0 23).toInt ∧ (I10 a0 23).toInt ≤ 24 := o_99
          refine Wp.pos (by omega) ?_
          refine Wp_lb (fun I11 eI11 => ?_)
          have hV11 : SQ mS P K O I0 J0 I11 J0 := by rw [eI11]; exact hV10.putI t_95.2 rfl trivial
          have tk11_a0_23 : (I11 a0 23).toInt = (I10 a0 23).toInt := by rw [eI11, up2_ne _ _ (fun z => by have q := h0.2; rw [z.1, t_95.2] at q; exact absurd q (by decide))]
          have tk11_a0_6 : (I11 a0 6).toInt = (I10 a0 6).toInt := by rw [eI11, up2_ne _ _ (fun z => by have q := h0.2; rw [z.1, t_95.2] at q; exact absurd q (by decide))]
          have tk11_a0_18 : (I11 a0 18).toInt = (I10 a0 18).toInt := by rw [eI11, up2_ne _ _ (fun z => by have q := h0.2; rw [z.1, t_95.2] at q; exact absurd q (by decide))]
          have tk11_rfOa016_27 : (I11 (rf O a0 16) 27).toInt = (I10 (rf O a0 16) 27).toInt := by rw [eI11, up2_ne _ _ (fun z => by have q := tr_S.2; rw [z.1, t_95.2] at q; exact absurd q (by decide))]
          have o_107 := hV11.1.2 a0 h0.1 23
          rw [h0.2] at o_107
          replace o_107 : 0 ≤ (I11 a0 23).toInt ∧ (I11 a0 23).toInt ≤ 24 := o_107
          first | (have e_111 := t_add (x := (I11 a0 23)) (y := (Int32.ofInt (1))) rfl (ofI (by decide)) (by omega)) | skip
          refine Wp_lb (fun I12 eI12 => ?_)
          have hV12 : SQ mS P K O I0 J0 I12 J0 := by rw [eI12]; exact hV11.putI h0.2 rfl (show 0 ≤ Int32.toInt _ ∧ Int32.toInt _ ≤ 24 from by omega)
          have tk12_a0_23 : (I12 a0 23).toInt = (((I11 a0 23) + (Int32.ofInt (1)))).toInt := by rw [eI12, up2_self]
          have tk12_a0_6 : (I12 a0 6).toInt = (I11 a0 6).toInt := by rw [eI12, up2_ne _ _ (fun z => absurd z.2 (by decide))]
          have tk12_a0_18 : (I12 a0 18).toInt = (I11 a0 18).toInt := by rw [eI12, up2_ne _ _ (fun z => absurd z.2 (by decide))]
          have tk12_rfOa016_27 : (I12 (rf O a0 16) 27).toInt = (I11 (rf O a0 16) 27).toInt := by rw [eI12, up2_ne _ _ (fun z => by have q := tr_S.2; rw [z.1, h0.2] at q; exact absurd q (by decide))]
          have o_117 := hV12.1.2 a0 h0.1 23
          rw [h0.2] at o_117
          replace o_117 : 0 ≤ (I12 a0 23).toInt ∧ (I12 a0 23).toInt ≤ 24 := o_117
          refine Wpc2 (s_Mo_done hN hV12.1 h0 (fun z_120 I13 hI13 hF13 p_120 => ?_))
          have hV13 : SQ mS P K O I0 J0 I13 J0 := hV12.call (kpL_le (frL_le (by decide)) rfl) hI13 hF13
          have tk13_rfOa016_27 : (I13 (rf O a0 16) 27).toInt = (I12 (rf O a0 16) 27).toInt := by rw [(hF13 (rf O a0 16) 27 (by rw [tr_S.2]; rfl)).1]
          try dsimp only at p_120
          have rz_120 := rg z_120
          exact Wp.ret (hQ z_120 I13 hV13.1 hV13.2 (by first | omega | (dsimp only; omega)))
set_option maxHeartbeats 4000000 in
set_option maxRecDepth 100000 in
theorem s_Mo_number_Z {P : List Nat} {K : Nat → Nat} {N : Nat} {O : WO} {I0 : WI} {J0 : WJ} (hN : 2147483648 ≤ N) (hV : IV P K I0 O) {a0 : Nat} (h0 : a0 ∈ P ∧ K a0 = 10) {x1 : Int32} {x2 : Int32} (hMn : O a0 3 = none) {Q : (Int32 × WI) → Prop} (hQ : ∀ (z : Int32) (I_ : WI), IV P K I_ O → FQ mN K I0 J0 I_ J0 → (Int32.toInt (I_ a0 2) = -1 ∧ (Int32.toInt z = -1 ∧ Int32.toInt (I_ (rf O a0 33) 0) = Int32.toInt (I0 (rf O a0 33) 0) ∧ Int32.toInt (I_ (rf O a0 33) 1) = Int32.toInt (I0 (rf O a0 33) 1)) ∧ (I_ a0 6).toInt = (I0 a0 6).toInt ∧ (I_ a0 18).toInt = (I0 a0 18).toInt ∧ (I_ (rf O a0 16) 27).toInt = (I0 (rf O a0 16) 27).toInt) → Q (z, I_)) : Wp (F_Mo_number N O I0 J0 a0 x1 x2) Q := by
  unfold F_Mo_number
  have r1 := rg x1
  have r2 := rg x2
  have tr_S := rf_ok hV.1 h0 (show sp 10 16 = some 31 from rfl)
  have tr_RW := rf_ok hV.1 h0 (show sp 10 33 = some 39 from rfl)
  have oS := hV.2 (rf O a0 16) tr_S.1 27
  rw [tr_S.2] at oS
  replace oS : 0 ≤ (I0 (rf O a0 16) 27).toInt ∧ (I0 (rf O a0 16) 27).toInt ≤ 240 := oS
  have ost := hV.2 a0 h0.1 18
  rw [h0.2] at ost
  replace ost : 0 ≤ (I0 a0 18).toInt ∧ (I0 a0 18).toInt ≤ 240 := ost
  have hV0 : SQ mN P K O I0 J0 I0 J0 := SQ.rf hV
  refine Wp_lb (fun I1 eI1 => ?_)
  have hV1 : SQ mN P K O I0 J0 I1 J0 := by rw [eI1]; exact hV0.putI h0.2 rfl trivial
  have tk1_rfOa033_0 : (I1 (rf O a0 33) 0).toInt = (I0 (rf O a0 33) 0).toInt := by rw [eI1, up2_ne _ _ (fun z => by have q := tr_RW.2; rw [z.1, h0.2] at q; exact absurd q (by decide))]
  have tk1_rfOa033_1 : (I1 (rf O a0 33) 1).toInt = (I0 (rf O a0 33) 1).toInt := by rw [eI1, up2_ne _ _ (fun z => by have q := tr_RW.2; rw [z.1, h0.2] at q; exact absurd q (by decide))]
  have tk1_a0_6 : (I1 a0 6).toInt = (I0 a0 6).toInt := by rw [eI1, up2_ne _ _ (fun z => absurd z.2 (by decide))]
  have tk1_a0_18 : (I1 a0 18).toInt = (I0 a0 18).toInt := by rw [eI1, up2_ne _ _ (fun z => absurd z.2 (by decide))]
  have tk1_rfOa016_27 : (I1 (rf O a0 16) 27).toInt = (I0 (rf O a0 16) 27).toInt := by rw [eI1, up2_ne _ _ (fun z => by have q := tr_S.2; rw [z.1, h0.2] at q; exact absurd q (by decide))]
  refine Wp.pos hMn ?_
  refine Wpc2 (s_Mo_refused hN hV1.1 h0 (fun z_14 I2 hI2 hF2 p_14 => ?_))
  have hV2 : SQ mN P K O I0 J0 I2 J0 := hV1.call (kpL_le (frL_le (by decide)) rfl) hI2 hF2
  have tk2_rfOa033_0 : (I2 (rf O a0 33) 0).toInt = (I1 (rf O a0 33) 0).toInt := by rw [(hF2 (rf O a0 33) 0 (by rw [tr_RW.2]; rfl)).1]
  have tk2_rfOa033_1 : (I2 (rf O a0 33) 1).toInt = (I1 (rf O a0 33) 1).toInt := by rw [(hF2 (rf O a0 33) 1 (by rw [tr_RW.2]; rfl)).1]
  have tk2_rfOa016_27 : (I2 (rf O a0 16) 27).toInt = (I1 (rf O a0 16) 27).toInt := by rw [(hF2 (rf O a0 16) 27 (by rw [tr_S.2]; rfl)).1]
  try dsimp only at p_14
  have hk1_14 : Int32.toInt (Int32.ofInt (1)) = 1 := ofI (by decide)
  have rz_14 := rg z_14
  exact Wp.ret (hQ z_14 I2 hV2.1 hV2.2 (by first | omega | (dsimp only; omega)))
set_option maxHeartbeats 4000000 in
set_option maxRecDepth 100000 in
theorem s_Mo_number_G {P : List Nat} {K : Nat → Nat} {N : Nat} {O : WO} {I0 : WI} {J0 : WJ} (hN : 2147483648 ≤ N) (hV : IV P K I0 O) {a0 : Nat} (h0 : a0 ∈ P ∧ K a0 = 10) {x1 : Int32} {x2 : Int32} (hN3 : NN P K O a0 3 9) (hGM : GM I0 (rf O a0 3)) {Q : (Int32 × WI) → Prop} (hQ : ∀ (z : Int32) (I_ : WI), IV P K I_ O → FQ mN K I0 J0 I_ J0 → (Int32.toInt (I_ a0 2) = -1 ∧ ((0 ≤ Int32.toInt x2 ∧ Int32.toInt x2 ≤ 999 ∧ ((Int32.toInt x1 = 0 ∧ ¬ Int32.toInt (I0 (rf O a0 33) 0) = 8) ∨ (¬ Int32.toInt x1 = 0 ∧ ¬ Int32.toInt (I0 (rf O a0 33) 1) = 8)) ∧ ((Int32.toInt x1 = 0 ∧ Int32.toInt z = Int32.toInt (I0 (rf O a0 33) 0) + 1 ∧ Int32.toInt (I_ (rf O a0 33) 0) = Int32.toInt (I0 (rf O a0 33) 0) + 1 ∧ Int32.toInt (I_ (rf O a0 33) 1) = Int32.toInt (I0 (rf O a0 33) 1)) ∨ (¬ Int32.toInt x1 = 0 ∧ Int32.toInt z = Int32.toInt (I0 (rf O a0 33) 1) + 1 ∧ Int32.toInt (I_ (rf O a0 33) 0) = Int32.toInt (I0 (rf O a0 33) 0) ∧ Int32.toInt (I_ (rf O a0 33) 1) = Int32.toInt (I0 (rf O a0 33) 1) + 1))) ∨ ((Int32.toInt x2 < 0 ∨ 999 < Int32.toInt x2 ∨ (Int32.toInt x1 = 0 ∧ Int32.toInt (I0 (rf O a0 33) 0) = 8) ∨ (¬ Int32.toInt x1 = 0 ∧ Int32.toInt (I0 (rf O a0 33) 1) = 8)) ∧ Int32.toInt z = -1 ∧ Int32.toInt (I_ (rf O a0 33) 0) = Int32.toInt (I0 (rf O a0 33) 0) ∧ Int32.toInt (I_ (rf O a0 33) 1) = Int32.toInt (I0 (rf O a0 33) 1))) ∧ (I_ a0 6).toInt = (I0 a0 6).toInt ∧ (I_ a0 18).toInt = (I0 a0 18).toInt ∧ (I_ (rf O a0 16) 27).toInt = (I0 (rf O a0 16) 27).toInt) → Q (z, I_)) : Wp (F_Mo_number N O I0 J0 a0 x1 x2) Q := by
  unfold F_Mo_number
  have r1 := rg x1
  have r2 := rg x2
  have tr_S := rf_ok hV.1 h0 (show sp 10 16 = some 31 from rfl)
  have tr_RW := rf_ok hV.1 h0 (show sp 10 33 = some 39 from rfl)
  have oS := hV.2 (rf O a0 16) tr_S.1 27
  rw [tr_S.2] at oS
  replace oS : 0 ≤ (I0 (rf O a0 16) 27).toInt ∧ (I0 (rf O a0 16) 27).toInt ≤ 240 := oS
  have ost := hV.2 a0 h0.1 18
  rw [h0.2] at ost
  replace ost : 0 ≤ (I0 a0 18).toInt ∧ (I0 a0 18).toInt ≤ 240 := ost
  have hMs : ¬ O a0 3 = none := by rw [hN3.1]; exact fun z => by cases z
  have hV0 : SQ mN P K O I0 J0 I0 J0 := SQ.rf hV
  refine Wp_lb (fun I1 eI1 => ?_)
  have hV1 : SQ mN P K O I0 J0 I1 J0 := by rw [eI1]; exact hV0.putI h0.2 rfl trivial
  have tk1_rfOa033_0 : (I1 (rf O a0 33) 0).toInt = (I0 (rf O a0 33) 0).toInt := by rw [eI1, up2_ne _ _ (fun z => by have q := tr_RW.2; rw [z.1, h0.2] at q; exact absurd q (by decide))]
  have tk1_rfOa033_1 : (I1 (rf O a0 33) 1).toInt = (I0 (rf O a0 33) 1).toInt := by rw [eI1, up2_ne _ _ (fun z => by have q := tr_RW.2; rw [z.1, h0.2] at q; exact absurd q (by decide))]
  have tk1_a0_6 : (I1 a0 6).toInt = (I0 a0 6).toInt := by rw [eI1, up2_ne _ _ (fun z => absurd z.2 (by decide))]
  have tk1_a0_18 : (I1 a0 18).toInt = (I0 a0 18).toInt := by rw [eI1, up2_ne _ _ (fun z => absurd z.2 (by decide))]
  have tk1_rfOa016_27 : (I1 (rf O a0 16) 27).toInt = (I0 (rf O a0 16) 27).toInt := by rw [eI1, up2_ne _ _ (fun z => by have q := tr_S.2; rw [z.1, h0.2] at q; exact absurd q (by decide))]
  refine Wp.neg hMs ?_
  refine Wpc1 (s_Mo_in hN hV1.1  (fun z_23 b_23 p_23 => ?_))
  try dsimp only at p_23
  have hk1_23 : Int32.toInt (Int32.ofInt (0)) = 0 := ofI (by decide)
  have hk2_23 : Int32.toInt (Int32.ofInt (999)) = 999 := ofI (by decide)
  have rz_23 := rg z_23
  refine Wp.ite (fun c_26 => ?_) (fun c_26 => ?_)
  · skip
    refine Wpc2 (s_Mo_refused hN hV1.1 h0 (fun z_31 I3 hI3 hF3 p_31 => ?_))
    have hV3 : SQ mN P K O I0 J0 I3 J0 := hV1.call (kpL_le (frL_le (by decide)) rfl) hI3 hF3
    have tk3_rfOa033_0 : (I3 (rf O a0 33) 0).toInt = (I1 (rf O a0 33) 0).toInt := by rw [(hF3 (rf O a0 33) 0 (by rw [tr_RW.2]; rfl)).1]
    have tk3_rfOa033_1 : (I3 (rf O a0 33) 1).toInt = (I1 (rf O a0 33) 1).toInt := by rw [(hF3 (rf O a0 33) 1 (by rw [tr_RW.2]; rfl)).1]
    have tk3_rfOa016_27 : (I3 (rf O a0 16) 27).toInt = (I1 (rf O a0 16) 27).toInt := by rw [(hF3 (rf O a0 16) 27 (by rw [tr_S.2]; rfl)).1]
    try dsimp only at p_31
    have hk1_31 : Int32.toInt (Int32.ofInt (2)) = 2 := ofI (by decide)
    have rz_31 := rg z_31
    exact Wp.ret (hQ z_31 I3 hV3.1 hV3.2 (by first | omega | (dsimp only; omega)))
  · skip
    refine Wp_jq (fun k_44 => ∀ (s0_44 : Int32), ((Int32.toInt x1 = 0 ∧ Int32.toInt s0_44 = 0) ∨ (¬ Int32.toInt x1 = 0 ∧ Int32.toInt s0_44 = 1)) → Wp (k_44 s0_44) Q) (fun s0_44 jv0_44  => ?_) (fun k_44 hk_44 => ?_)
    · skip
      have rgs_s0_44 := rg s0_44
      have t_46 := rf_ok hV.1 h0 (show sp 10 33 = some 39 from rfl)
      refine Wp.pos (by omega) ?_
      have o_50 := hV1.1.2 (rf O a0 33) t_46.1 (s0_44).toInt.toNat
      rw [t_46.2] at o_50
      replace o_50 : 0 ≤ (I1 (rf O a0 33) (s0_44).toInt.toNat).toInt ∧ (I1 (rf O a0 33) (s0_44).toInt.toNat).toInt ≤ 8 := o_50
      refine Wp.ite (fun c_53 => ?_) (fun c_53 => ?_)
      · skip
        refine Wpc2 (s_Mo_refused hN hV1.1 h0 (fun z_58 I4 hI4 hF4 p_58 => ?_))
        have hV4 : SQ mN P K O I0 J0 I4 J0 := hV1.call (kpL_le (frL_le (by decide)) rfl) hI4 hF4
        have tk4_rfOa033_0 : (I4 (rf O a0 33) 0).toInt = (I1 (rf O a0 33) 0).toInt := by rw [(hF4 (rf O a0 33) 0 (by rw [tr_RW.2]; rfl)).1]
        have tk4_rfOa033_1 : (I4 (rf O a0 33) 1).toInt = (I1 (rf O a0 33) 1).toInt := by rw [(hF4 (rf O a0 33) 1 (by rw [tr_RW.2]; rfl)).1]
        have tk4_rfOa016_27 : (I4 (rf O a0 16) 27).toInt = (I1 (rf O a0 16) 27).toInt := by rw [(hF4 (rf O a0 16) 27 (by rw [tr_S.2]; rfl)).1]
        try dsimp only at p_58
        have hk1_58 : Int32.toInt (Int32.ofInt (3)) = 3 := ofI (by decide)
        have rz_58 := rg z_58
        exact Wp.ret (hQ z_58 I4 hV4.1 hV4.2 (by
                rcases jv0_44 with ⟨u1, u2⟩ | ⟨u1, u2⟩
                · have e0 : s0_44.toInt.toNat = 0 := by omega
                  rw [e0] at c_53
                  exact ⟨by omega, Or.inr ⟨Or.inr (Or.inr (Or.inl ⟨u1, by omega⟩)), by omega, by omega, by omega⟩, by omega, by omega, by omega⟩
                · have e0 : s0_44.toInt.toNat = 1 := by omega
                  rw [e0] at c_53
                  exact ⟨by omega, Or.inr ⟨Or.inr (Or.inr (Or.inr ⟨u1, by omega⟩)), by omega, by omega, by omega⟩, by omega, by omega, by omega⟩))
      · skip
        have t_63 := rf_ok hV.1 h0 (show sp 10 34 = some 40 from rfl)
        first | (have e_69 := t_mul (x := (Int32.ofInt (8))) (y := s0_44) (ofI (by decide)) rfl (by omega)) | skip
        have t_71 := rf_ok hV.1 h0 (show sp 10 33 = some 39 from rfl)
        refine Wp.pos (by omega) ?_
        have o_75 := hV1.1.2 (rf O a0 33) t_71.1 (s0_44).toInt.toNat
        rw [t_71.2] at o_75
        replace o_75 : 0 ≤ (I1 (rf O a0 33) (s0_44).toInt.toNat).toInt ∧ (I1 (rf O a0 33) (s0_44).toInt.toNat).toInt ≤ 8 := o_75
        first | (have e_76 := t_add (x := ((Int32.ofInt (8)) * s0_44)) (y := (I1 (rf O a0 33) (s0_44).toInt.toNat)) rfl rfl (by omega)) | skip
        refine Wp.pos (by omega) ?_
        refine Wp_lb (fun I5 eI5 => ?_)
        have hV5 : SQ mN P K O I0 J0 I5 J0 := by rw [eI5]; exact hV1.putI t_63.2 rfl trivial
        have tk5_rfOa033_0 : (I5 (rf O a0 33) 0).toInt = (I1 (rf O a0 33) 0).toInt := by rw [eI5, up2_ne _ _ (fun z => by have q := tr_RW.2; rw [z.1, t_63.2] at q; exact absurd q (by decide))]
        have tk5_rfOa033_1 : (I5 (rf O a0 33) 1).toInt = (I1 (rf O a0 33) 1).toInt := by rw [eI5, up2_ne _ _ (fun z => by have q := tr_RW.2; rw [z.1, t_63.2] at q; exact absurd q (by decide))]
        have tk5_a0_6 : (I5 a0 6).toInt = (I1 a0 6).toInt := by rw [eI5, up2_ne _ _ (fun z => by have q := h0.2; rw [z.1, t_63.2] at q; exact absurd q (by decide))]
        have tk5_a0_18 : (I5 a0 18).toInt = (I1 a0 18).toInt := by rw [eI5, up2_ne _ _ (fun z => by have q := h0.2; rw [z.1, t_63.2] at q; exact absurd q (by decide))]
        have tk5_rfOa016_27 : (I5 (rf O a0 16) 27).toInt = (I1 (rf O a0 16) 27).toInt := by rw [eI5, up2_ne _ _ (fun z => by have q := tr_S.2; rw [z.1, t_63.2] at q; exact absurd q (by decide))]
        have tq : (I5 (rf O a0 33) s0_44.toInt.toNat).toInt = (I1 (rf O a0 33) s0_44.toInt.toNat).toInt := by rw [eI5, up2_ne _ _ (fun z => by have q := tr_RW.2; rw [z.1, t_63.2] at q; exact absurd q (by decide))]
        have t_80 := rf_ok hV.1 h0 (show sp 10 33 = some 39 from rfl)
        refine Wp.pos (by omega) ?_
        have o_85 := hV5.1.2 (rf O a0 33) t_80.1 (s0_44).toInt.toNat
        rw [t_80.2] at o_85
        replace o_85 : 0 ≤ (I5 (rf O a0 33) (s0_44).toInt.toNat).toInt ∧ (I5 (rf O a0 33) (s0_44).toInt.toNat).toInt ≤ 8 := o_85
        first | (have e_87 := t_add (x := (I5 (rf O a0 33) (s0_44).toInt.toNat)) (y := (Int32.ofInt (1))) rfl (ofI (by decide)) (by omega)) | skip
        refine Wp.pos (by omega) ?_
        refine Wp_lb (fun I6 eI6 => ?_)
        have hV6 : SQ mN P K O I0 J0 I6 J0 := by rw [eI6]; exact hV5.putI t_80.2 rfl (show 0 ≤ Int32.toInt _ ∧ Int32.toInt _ ≤ 8 from by omega)
        have tk6_rfOa033_0 : ((s0_44).toInt = 0 ∧ (I6 (rf O a0 33) 0).toInt = (((I5 (rf O a0 33) (s0_44).toInt.toNat) + (Int32.ofInt (1)))).toInt) ∨ (¬ (s0_44).toInt = 0 ∧ (I6 (rf O a0 33) 0).toInt = (I5 (rf O a0 33) 0).toInt) := by rw [eI6]; exact up2_dis (by omega) rfl
        have tk6_rfOa033_1 : ((s0_44).toInt = 1 ∧ (I6 (rf O a0 33) 1).toInt = (((I5 (rf O a0 33) (s0_44).toInt.toNat) + (Int32.ofInt (1)))).toInt) ∨ (¬ (s0_44).toInt = 1 ∧ (I6 (rf O a0 33) 1).toInt = (I5 (rf O a0 33) 1).toInt) := by rw [eI6]; exact up2_dis (by omega) rfl
        have tk6_a0_6 : (I6 a0 6).toInt = (I5 a0 6).toInt := by rw [eI6, up2_ne _ _ (fun z => by have q := h0.2; rw [z.1, t_80.2] at q; exact absurd q (by decide))]
        have tk6_a0_18 : (I6 a0 18).toInt = (I5 a0 18).toInt := by rw [eI6, up2_ne _ _ (fun z => by have q := h0.2; rw [z.1, t_80.2] at q; exact absurd q (by decide))]
        have tk6_rfOa016_27 : (I6 (rf O a0 16) 27).toInt = (I5 (rf O a0 16) 27).toInt := by rw [eI6, up2_ne _ _ (fun z => by have q := tr_S.2; rw [z.1, t_80.2] at q; exact absurd q (by decide))]
        have t_91 := rf_ok hV.1 h0 (show sp 10 33 = some 39 from rfl)
        refine Wp.pos (by omega) ?_
        have o_95 := hV6.1.2 (rf O a0 33) t_91.1 (s0_44).toInt.toNat
        rw [t_91.2] at o_95
        replace o_95 : 0 ≤ (I6 (rf O a0 33) (s0_44).toInt.toNat).toInt ∧ (I6 (rf O a0 33) (s0_44).toInt.toNat).toInt ≤ 8 := o_95
        refine Wpc2 (s_Mo_done hN hV6.1 h0 (fun z_96 I7 hI7 hF7 p_96 => ?_))
        have hV7 : SQ mN P K O I0 J0 I7 J0 := hV6.call (kpL_le (frL_le (by decide)) rfl) hI7 hF7
        have tk7_rfOa033_0 : (I7 (rf O a0 33) 0).toInt = (I6 (rf O a0 33) 0).toInt := by rw [(hF7 (rf O a0 33) 0 (by rw [tr_RW.2]; rfl)).1]
        have tk7_rfOa033_1 : (I7 (rf O a0 33) 1).toInt = (I6 (rf O a0 33) 1).toInt := by rw [(hF7 (rf O a0 33) 1 (by rw [tr_RW.2]; rfl)).1]
        have tk7_rfOa016_27 : (I7 (rf O a0 16) 27).toInt = (I6 (rf O a0 16) 27).toInt := by rw [(hF7 (rf O a0 16) 27 (by rw [tr_S.2]; rfl)).1]
        try dsimp only at p_96
        have rz_96 := rg z_96
        exact Wp.ret (hQ z_96 I7 hV7.1 hV7.2 (by
                rcases jv0_44 with ⟨u1, u2⟩ | ⟨u1, u2⟩
                · have e0 : s0_44.toInt.toNat = 0 := by omega
                  try rw [e0] at c_53
                  try rw [e0] at tq
                  try rw [e0] at e_87
                  try rw [e0] at tk6_rfOa033_0
                  try rw [e0] at tk6_rfOa033_1
                  try rw [e0] at p_96
                  try rw [e0] at o_85
                  rcases tk6_rfOa033_0 with ⟨_, b0⟩ | ⟨b0, _⟩
                  · rcases tk6_rfOa033_1 with ⟨b1, _⟩ | ⟨_, b1⟩
                    · omega
                    · exact ⟨by omega, Or.inl ⟨by omega, by omega, Or.inl ⟨u1, by omega⟩, Or.inl ⟨u1, by omega, by omega, by omega⟩⟩, by omega, by omega, by omega⟩
                  · omega
                · have e0 : s0_44.toInt.toNat = 1 := by omega
                  try rw [e0] at c_53
                  try rw [e0] at tq
                  try rw [e0] at e_87
                  try rw [e0] at tk6_rfOa033_0
                  try rw [e0] at tk6_rfOa033_1
                  try rw [e0] at p_96
                  try rw [e0] at o_85
                  rcases tk6_rfOa033_1 with ⟨_, b0⟩ | ⟨b0, _⟩
                  · rcases tk6_rfOa033_0 with ⟨b1, _⟩ | ⟨_, b1⟩
                    · omega
                    · exact ⟨by omega, Or.inl ⟨by omega, by omega, Or.inr ⟨u1, by omega⟩, Or.inr ⟨u1, by omega, by omega, by omega⟩⟩, by omega, by omega, by omega⟩
                  · omega))
    refine Wp.ite (fun c_36 => ?_) (fun c_36 => ?_)
    · skip
      exact hk_44 ((Int32.ofInt (0))) (by have hci1 : Int32.toInt (Int32.ofInt (0)) = 0 := ofI (by decide); omega) 
    · skip
      exact hk_44 ((Int32.ofInt (1))) (by have hci1 : Int32.toInt (Int32.ofInt (1)) = 1 := ofI (by decide); omega) 
set_option maxHeartbeats 4000000 in
set_option maxRecDepth 100000 in
theorem s_Mo_size_Z {P : List Nat} {K : Nat → Nat} {N : Nat} {O : WO} {I0 : WI} {J0 : WJ} (hN : 2147483648 ≤ N) (hV : IV P K I0 O) {a0 : Nat} (h0 : a0 ∈ P ∧ K a0 = 10) {x1 : Int32} (hMn : O a0 3 = none) {Q : (Int32 × WI) → Prop} (hQ : ∀ (z : Int32) (I_ : WI), IV P K I_ O → FQ mL K I0 J0 I_ J0 → ((I_ a0 6).toInt = (I0 a0 6).toInt ∧ (I_ a0 18).toInt = (I0 a0 18).toInt ∧ (I_ (rf O a0 16) 27).toInt = (I0 (rf O a0 16) 27).toInt) → Q (z, I_)) : Wp (F_Mo_size N O I0 J0 a0 x1) Q := by
  unfold F_Mo_size
  have r1 := rg x1
  have tr_S := rf_ok hV.1 h0 (show sp 10 16 = some 31 from rfl)
  have oS := hV.2 (rf O a0 16) tr_S.1 27
  rw [tr_S.2] at oS
  replace oS : 0 ≤ (I0 (rf O a0 16) 27).toInt ∧ (I0 (rf O a0 16) 27).toInt ≤ 240 := oS
  have ost := hV.2 a0 h0.1 18
  rw [h0.2] at ost
  replace ost : 0 ≤ (I0 a0 18).toInt ∧ (I0 a0 18).toInt ≤ 240 := ost
  have hV0 : SQ mL P K O I0 J0 I0 J0 := SQ.rf hV
  refine Wp_lb (fun I1 eI1 => ?_)
  have hV1 : SQ mL P K O I0 J0 I1 J0 := by rw [eI1]; exact hV0.putI h0.2 rfl trivial
  have tk1_a0_6 : (I1 a0 6).toInt = (I0 a0 6).toInt := by rw [eI1, up2_ne _ _ (fun z => absurd z.2 (by decide))]
  have tk1_a0_18 : (I1 a0 18).toInt = (I0 a0 18).toInt := by rw [eI1, up2_ne _ _ (fun z => absurd z.2 (by decide))]
  have tk1_rfOa016_27 : (I1 (rf O a0 16) 27).toInt = (I0 (rf O a0 16) 27).toInt := by rw [eI1, up2_ne _ _ (fun z => by have q := tr_S.2; rw [z.1, h0.2] at q; exact absurd q (by decide))]
  refine Wp.ite (fun c_8 => ?_) (fun c_8 => ?_)
  · skip
    exact Wp.ret (hQ (I1 a0 6) I1 hV1.1 hV1.2 (by first | omega | (dsimp only; omega)))
  · skip
    refine Wpc1 (s_Mo_in hN hV1.1  (fun z_20 b_20 p_20 => ?_))
    try dsimp only at p_20
    have hk1_20 : Int32.toInt (Int32.ofInt (0)) = 0 := ofI (by decide)
    have hk2_20 : Int32.toInt (Int32.ofInt (10)) = 10 := ofI (by decide)
    have rz_20 := rg z_20
    refine Wp.ite (fun c_23 => ?_) (fun c_23 => ?_)
    · skip
      exact Wp.ret (hQ (Int32.ofInt (-1)) I1 hV1.1 hV1.2 (by have hci : Int32.toInt (Int32.ofInt (-1)) = -1 := ofI (by decide); first | omega | (dsimp only; omega)))
    · skip
      refine Wp.pos hMn ?_
      exact Wp.ret (hQ (Int32.ofInt (0)) I1 hV1.1 hV1.2 (by have hci : Int32.toInt (Int32.ofInt (0)) = 0 := ofI (by decide); first | omega | (dsimp only; omega)))
set_option maxHeartbeats 4000000 in
set_option maxRecDepth 100000 in
theorem s_Mo_size_G {P : List Nat} {K : Nat → Nat} {N : Nat} {O : WO} {I0 : WI} {J0 : WJ} (hN : 2147483648 ≤ N) (hV : IV P K I0 O) {a0 : Nat} (h0 : a0 ∈ P ∧ K a0 = 10) {x1 : Int32} (hN3 : NN P K O a0 3 9) (hGM : GM I0 (rf O a0 3)) {Q : (Int32 × WI) → Prop} (hQ : ∀ (z : Int32) (I_ : WI), IV P K I_ O → FQ mL K I0 J0 I_ J0 → ((I_ a0 6).toInt = (I0 a0 6).toInt ∧ (I_ a0 18).toInt = (I0 a0 18).toInt ∧ (I_ (rf O a0 16) 27).toInt = (I0 (rf O a0 16) 27).toInt) → Q (z, I_)) : Wp (F_Mo_size N O I0 J0 a0 x1) Q := by
  unfold F_Mo_size
  have r1 := rg x1
  have tr_S := rf_ok hV.1 h0 (show sp 10 16 = some 31 from rfl)
  have oS := hV.2 (rf O a0 16) tr_S.1 27
  rw [tr_S.2] at oS
  replace oS : 0 ≤ (I0 (rf O a0 16) 27).toInt ∧ (I0 (rf O a0 16) 27).toInt ≤ 240 := oS
  have ost := hV.2 a0 h0.1 18
  rw [h0.2] at ost
  replace ost : 0 ≤ (I0 a0 18).toInt ∧ (I0 a0 18).toInt ≤ 240 := ost
  have hMs : ¬ O a0 3 = none := by rw [hN3.1]; exact fun z => by cases z
  have hV0 : SQ mL P K O I0 J0 I0 J0 := SQ.rf hV
  refine Wp_lb (fun I1 eI1 => ?_)
  have hV1 : SQ mL P K O I0 J0 I1 J0 := by rw [eI1]; exact hV0.putI h0.2 rfl trivial
  have tk1_a0_6 : (I1 a0 6).toInt = (I0 a0 6).toInt := by rw [eI1, up2_ne _ _ (fun z => absurd z.2 (by decide))]
  have tk1_a0_18 : (I1 a0 18).toInt = (I0 a0 18).toInt := by rw [eI1, up2_ne _ _ (fun z => absurd z.2 (by decide))]
  have tk1_rfOa016_27 : (I1 (rf O a0 16) 27).toInt = (I0 (rf O a0 16) 27).toInt := by rw [eI1, up2_ne _ _ (fun z => by have q := tr_S.2; rw [z.1, h0.2] at q; exact absurd q (by decide))]
  refine Wp.ite (fun c_8 => ?_) (fun c_8 => ?_)
  · skip
    exact Wp.ret (hQ (I1 a0 6) I1 hV1.1 hV1.2 (by first | omega | (dsimp only; omega)))
  · skip
    refine Wpc1 (s_Mo_in hN hV1.1  (fun z_20 b_20 p_20 => ?_))
    try dsimp only at p_20
    have hk1_20 : Int32.toInt (Int32.ofInt (0)) = 0 := ofI (by decide)
    have hk2_20 : Int32.toInt (Int32.ofInt (10)) = 10 := ofI (by decide)
    have rz_20 := rg z_20
    refine Wp.ite (fun c_23 => ?_) (fun c_23 => ?_)
    · skip
      exact Wp.ret (hQ (Int32.ofInt (-1)) I1 hV1.1 hV1.2 (by have hci : Int32.toInt (Int32.ofInt (-1)) = -1 := ofI (by decide); first | omega | (dsimp only; omega)))
    · skip
      refine Wp.neg hMs ?_
      refine Wp.ite (fun c_38_0 => ?_) (fun c_38_0 => ?_)
      · skip
        exact Wp.ret (hQ (I1 (rf O a0 3) 8) I1 hV1.1 hV1.2 (by first | omega | (dsimp only; omega)))
      refine Wp.ite (fun c_38_1 => ?_) (fun c_38_1 => ?_)
      · skip
        exact Wp.ret (hQ (I1 (rf O a0 3) 9) I1 hV1.1 hV1.2 (by first | omega | (dsimp only; omega)))
      refine Wp.ite (fun c_38_2 => ?_) (fun c_38_2 => ?_)
      · skip
        have gm_112 : 1 ≤ (I1 (rf O a0 3) 0).toInt := (hGM.keep (fun k => (hV1.2 (rf O a0 3) k (by rw [hN3.2.2]; rfl)).1)).1
        exact Wp.ret (hQ (I1 (rf O a0 3) 0) I1 hV1.1 hV1.2 (by first | omega | (dsimp only; omega)))
      refine Wp.ite (fun c_38_3 => ?_) (fun c_38_3 => ?_)
      · skip
        exact Wp.ret (hQ (I1 (rf O a0 3) 1) I1 hV1.1 hV1.2 (by first | omega | (dsimp only; omega)))
      refine Wp.ite (fun c_38_4 => ?_) (fun c_38_4 => ?_)
      · skip
        exact Wp.ret (hQ (I1 (rf O a0 3) 2) I1 hV1.1 hV1.2 (by first | omega | (dsimp only; omega)))
      refine Wp.ite (fun c_38_5 => ?_) (fun c_38_5 => ?_)
      · skip
        exact Wp.ret (hQ (I1 (rf O a0 3) 3) I1 hV1.1 hV1.2 (by first | omega | (dsimp only; omega)))
      refine Wp.ite (fun c_38_6 => ?_) (fun c_38_6 => ?_)
      · skip
        have gm_144 : 1 ≤ (I1 (rf O a0 3) 4).toInt := (hGM.keep (fun k => (hV1.2 (rf O a0 3) k (by rw [hN3.2.2]; rfl)).1)).2.1
        exact Wp.ret (hQ (I1 (rf O a0 3) 4) I1 hV1.1 hV1.2 (by first | omega | (dsimp only; omega)))
      refine Wp.ite (fun c_38_7 => ?_) (fun c_38_7 => ?_)
      · skip
        exact Wp.ret (hQ (I1 (rf O a0 3) 5) I1 hV1.1 hV1.2 (by first | omega | (dsimp only; omega)))
      refine Wp.ite (fun c_38_8 => ?_) (fun c_38_8 => ?_)
      · skip
        exact Wp.ret (hQ (I1 (rf O a0 3) 6) I1 hV1.1 hV1.2 (by first | omega | (dsimp only; omega)))
      refine Wp.ite (fun c_38_9 => ?_) (fun c_38_9 => ?_)
      · skip
        have gm_168 : 1 ≤ (I1 (rf O a0 3) 7).toInt := (hGM.keep (fun k => (hV1.2 (rf O a0 3) k (by rw [hN3.2.2]; rfl)).1)).2.2
        exact Wp.ret (hQ (I1 (rf O a0 3) 7) I1 hV1.1 hV1.2 (by first | omega | (dsimp only; omega)))
      exact Wp.ret (hQ (I1 a0 23) I1 hV1.1 hV1.2 (by first | omega | (dsimp only; omega)))
