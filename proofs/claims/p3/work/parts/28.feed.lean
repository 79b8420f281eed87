set_option maxHeartbeats 4000000 in
set_option maxRecDepth 100000 in
theorem cRM_feed {P : List Nat} {K : Nat → Nat} {I0 : Nat → Nat → Int32} {O : Nat → Nat → Option Nat} {J0 : Nat → Nat → Int64} (hV : IV P K I0 O) {a0 : Nat} (h0 : a0 ∈ P ∧ K a0 = 8) {x1 : Int32} {x2 : Int32} {x3 : Int32} {x4 : Int32} {x5 : Int32} {RDR : Nat} (hRDRo : O a0 0 = some RDR) (hRDRk : RDR ∈ P ∧ K RDR = 5) (pr0 : 0 ≤ Int32.toInt (I0 RDR 1) ∧ Int32.toInt (I0 RDR 1) ≤ 700) : Con yRM_feed bRM_feed 6 (some .int) ({ frames := 1, cells := 0, slots := 0, locals := 22 } : Room) P K I0 O J0 [.ref a0, .int x1, .int x2, .int x3, .int x4, .int x5] (SPo frC 1 (fun z I_ => (Int32.toInt z = -1 ∧ 680 < Int32.toInt (I0 RDR 1) ∧ Int32.toInt (I_ RDR 1) = Int32.toInt (I0 RDR 1)) ∨ (Int32.toInt (I0 RDR 1) ≤ 680 ∧ Int32.toInt z = Int32.toInt (I0 RDR 1) + 20 ∧ Int32.toInt (I_ RDR 1) = Int32.toInt (I0 RDR 1) + 20)) P K I0 O J0) := by
  refine Con.ofG mfRM_feed (Nat.le_of_ble_eq_true rfl) ?_
  intro X C E
  have r1 := rg x1
  have r2 := rg x2
  have r3 := rg x3
  have r4 := rg x4
  have r5 := rg x5
  have hV0 : SV frC P K O I0 J0 I0 J0 := SV.rf hV
  refine g_aload_n C dRM_feed_0 rfl ?_
  refine gt_getS C dRM_feed_1 fl_RM_12 h0 hRDRo ?_
  refine g_bipush (v := Int32.ofInt (20)) C dRM_feed_4 (by decide) ?_
  refine s_callV_zp (av := fun ad => [.int (Int32.ofInt (20))]) C dRM_feed_6 mfRd_hasRoomFor mvRd_hasRoomFor ln_RM_85 hRDRk (by decide) rfl (cRd_hasRoomFor hV0.1 hRDRk (by have hk1 : Int32.toInt (Int32.ofInt (20)) = 20 := ofI (by decide); omega)) rfl rfl (Nat.le_of_ble_eq_true rfl) ⟨Nat.le_of_ble_eq_true rfl, Nat.le_of_ble_eq_true rfl⟩ ⟨rfl, rfl⟩ ⟨Nat.zero_le _, Nat.zero_le _⟩ (fun z_6 b_6 p_6 => ?_)
  have rz_6 := rg z_6
  have u_6 := b_6
  unfold B01 at u_6
  try dsimp only at p_6
  have hk1_6 : Int32.toInt (Int32.ofInt (20)) = 20 := ofI (by decide)
  refine gt_if_ne 14 C dRM_feed_9 (by decide) rfl (fun c_9 => ?_) (fun c_9 => ?_)
  · skip
    refine g_aload_n C dRM_feed_14 rfl ?_
    refine gt_getS C dRM_feed_15 fl_RM_12 h0 hRDRo ?_
    refine g_iload_n C dRM_feed_18 rfl ?_
    refine s_callV_v (av := fun ad => [.int x1]) C dRM_feed_19 mfRd_append mvRd_append ln_RM_89 hRDRk (by decide) rfl hV0 fr_CC (cRd_appendF hV0.1 hRDRk (by omega)) rfl rfl (Nat.le_of_ble_eq_true rfl) ⟨Nat.le_of_ble_eq_true rfl, Nat.le_of_ble_eq_true rfl⟩ ⟨rfl, rfl⟩ ⟨Nat.zero_le _, Nat.zero_le _⟩ (fun Iw2 Jw2 hVw2 hFw2 p_19 => ?_)
    try dsimp only at p_19
    refine g_aload_n C dRM_feed_22 rfl ?_
    refine gt_getS C dRM_feed_23 fl_RM_12 h0 hRDRo ?_
    refine g_iload_n C dRM_feed_26 rfl ?_
    refine s_callV_v (av := fun ad => [.int x2]) C dRM_feed_27 mfRd_append mvRd_append ln_RM_89 hRDRk (by decide) rfl hVw2 fr_CC (cRd_appendF hVw2.1 hRDRk (by omega)) rfl rfl (Nat.le_of_ble_eq_true rfl) ⟨Nat.le_of_ble_eq_true rfl, Nat.le_of_ble_eq_true rfl⟩ ⟨rfl, rfl⟩ ⟨Nat.zero_le _, Nat.zero_le _⟩ (fun Iw3 Jw3 hVw3 hFw3 p_27 => ?_)
    try dsimp only at p_27
    refine g_aload_n C dRM_feed_30 rfl ?_
    refine gt_getS C dRM_feed_31 fl_RM_12 h0 hRDRo ?_
    refine g_iload_n C dRM_feed_34 rfl ?_
    refine s_callV_v (av := fun ad => [.int x3]) C dRM_feed_35 mfRd_append mvRd_append ln_RM_89 hRDRk (by decide) rfl hVw3 fr_CC (cRd_appendF hVw3.1 hRDRk (by omega)) rfl rfl (Nat.le_of_ble_eq_true rfl) ⟨Nat.le_of_ble_eq_true rfl, Nat.le_of_ble_eq_true rfl⟩ ⟨rfl, rfl⟩ ⟨Nat.zero_le _, Nat.zero_le _⟩ (fun Iw4 Jw4 hVw4 hFw4 p_35 => ?_)
    try dsimp only at p_35
    refine g_aload_n C dRM_feed_38 rfl ?_
    refine gt_getS C dRM_feed_39 fl_RM_12 h0 hRDRo ?_
    refine g_iload C dRM_feed_42 rfl ?_
    refine s_callV_v (av := fun ad => [.int x4]) C dRM_feed_44 mfRd_append mvRd_append ln_RM_89 hRDRk (by decide) rfl hVw4 fr_CC (cRd_appendF hVw4.1 hRDRk (by omega)) rfl rfl (Nat.le_of_ble_eq_true rfl) ⟨Nat.le_of_ble_eq_true rfl, Nat.le_of_ble_eq_true rfl⟩ ⟨rfl, rfl⟩ ⟨Nat.zero_le _, Nat.zero_le _⟩ (fun Iw5 Jw5 hVw5 hFw5 p_44 => ?_)
    try dsimp only at p_44
    refine g_aload_n C dRM_feed_47 rfl ?_
    refine gt_getS C dRM_feed_48 fl_RM_12 h0 hRDRo ?_
    refine g_iload C dRM_feed_51 rfl ?_
    refine s_callV_v (av := fun ad => [.int x5]) C dRM_feed_53 mfRd_append mvRd_append ln_RM_89 hRDRk (by decide) rfl hVw5 fr_CC (cRd_appendF hVw5.1 hRDRk (by omega)) rfl rfl (Nat.le_of_ble_eq_true rfl) ⟨Nat.le_of_ble_eq_true rfl, Nat.le_of_ble_eq_true rfl⟩ ⟨rfl, rfl⟩ ⟨Nat.zero_le _, Nat.zero_le _⟩ (fun Iw6 Jw6 hVw6 hFw6 p_53 => ?_)
    try dsimp only at p_53
    refine g_aload_n C dRM_feed_56 rfl ?_
    refine gt_getS C dRM_feed_57 fl_RM_12 h0 hRDRo ?_
    refine g_geti C dRM_feed_60 fl_RM_93 hRDRk ?_
    exact s_iret C E dRM_feed_63 ⟨Nat.zero_le _, Nat.zero_le _⟩ hVw6 (by (try dsimp only); omega)
  · skip
    refine g_iconst (v := Int32.ofInt (-1)) C dRM_feed_12 (by decide) ?_
    exact s_iret C E dRM_feed_13 ⟨Nat.zero_le _, Nat.zero_le _⟩ hV0 (by have hci : Int32.toInt (Int32.ofInt (-1)) = -1 := ofI (by decide); (try dsimp only); omega)
set_option maxHeartbeats 4000000 in
set_option maxRecDepth 100000 in
theorem cMo_feed {P : List Nat} {K : Nat → Nat} {I0 : Nat → Nat → Int32} {O : Nat → Nat → Option Nat} {J0 : Nat → Nat → Int64} (hV : IV P K I0 O) {a0 : Nat} (h0 : a0 ∈ P ∧ K a0 = 10) {x1 : Int32} {x2 : Int32} {x3 : Int32} {x4 : Int32} {x5 : Int32} {S : Nat} (hSo : O a0 16 = some S) (hSk : S ∈ P ∧ K S = 31) : Con yMo_feed bMo_feed 8 (some .int) ({ frames := 0, cells := 0, slots := 0, locals := 0 } : Room) P K I0 O J0 [.ref a0, .int x1, .int x2, .int x3, .int x4, .int x5] (SPo frM 1 (fun z I_ => ((Int32.toInt z = -1 ∧ 680 < Int32.toInt (I0 a0 6) ∧ Int32.toInt (I_ a0 6) = Int32.toInt (I0 a0 6)) ∨ (Int32.toInt (I0 a0 6) ≤ 680 ∧ Int32.toInt z = Int32.toInt (I0 a0 6) + 20 ∧ Int32.toInt (I_ a0 6) = Int32.toInt (I0 a0 6) + 20)) ∧ (I_ a0 18).toInt = (I0 a0 18).toInt ∧ (I_ S 27).toInt = (I0 S 27).toInt) P K I0 O J0) := by
  refine Con.ofG mfMo_feed (Nat.le_of_ble_eq_true rfl) ?_
  intro X C E
  have r1 := rg x1
  have r2 := rg x2
  have r3 := rg x3
  have r4 := rg x4
  have r5 := rg x5
  have ost := hV.2 a0 h0.1 18
  rw [h0.2] at ost
  have ost : 0 ≤ (I0 a0 18).toInt ∧ (I0 a0 18).toInt ≤ 240 := ost
  have oS := hV.2 S hSk.1 27
  rw [hSk.2] at oS
  have oS : 0 ≤ (I0 S 27).toInt ∧ (I0 S 27).toInt ≤ 240 := oS
  have ok_a0_6 := hV.2 a0 h0.1 6
  rw [h0.2] at ok_a0_6
  have ok_a0_6 : 0 ≤ (I0 a0 6).toInt ∧ (I0 a0 6).toInt ≤ 700 := ok_a0_6
  have hV0 : SV frM P K O I0 J0 I0 J0 := SV.rf hV
  refine g_aload_n C dMo_feed_0 rfl ?_
  refine g_iconst (v := Int32.ofInt (0)) C dMo_feed_1 (by decide) ?_
  refine gt_puti C dMo_feed_2 fl_Mo_73 h0 hV0 rfl trivial rfl (Or.inl rfl) (fun Iw1 eIw1 hVw1 => ?_)
  have tkw1_a0_6 : (Iw1 a0 6).toInt = (I0 a0 6).toInt := by rw [eIw1, up2_ne _ _ (fun z => absurd z.2 (by decide))]
  have tkw1_a0_18 : (Iw1 a0 18).toInt = (I0 a0 18).toInt := by rw [eIw1, up2_ne _ _ (fun z => absurd z.2 (by decide))]
  have tkw1_S_27 : (Iw1 S 27).toInt = (I0 S 27).toInt := by rw [eIw1, up2_ne _ _ (fun z => by have q := hSk.2; rw [z.1, h0.2] at q; exact absurd q (by decide))]
  refine g_aload_n C dMo_feed_5 rfl ?_
  refine g_geti C dMo_feed_6 fl_Mo_280 h0 ?_
  have o_6 := hVw1.1.2 a0 h0.1 6
  rw [h0.2] at o_6
  have o_6 : 0 ≤ (Iw1 a0 6).toInt ∧ (Iw1 a0 6).toInt ≤ 700 := o_6
  refine g_bipush (v := Int32.ofInt (20)) C dMo_feed_9 (by decide) ?_
  first | refine n_iadd C dMo_feed_11 rfl (ofI (by decide)) (by omega) (fun z_11 e_11 => ?_) | refine a_iadd C dMo_feed_11 (fun z_11 => ?_)
  refine g_sipush (v := Int32.ofInt (700)) C dMo_feed_12 (by decide) ?_
  refine gt_icmp_le 20 C dMo_feed_15 (by decide) rfl (ofI (by decide)) (fun c_15 => ?_) (fun c_15 => ?_)
  · skip
    refine g_iconst (v := Int32.ofInt (0)) C dMo_feed_20 (by decide) ?_
    refine g_istore C dMo_feed_21 (by decide) ?_
    have lp_23 : ∀ (nn_23 : Nat) (x6_23 : Int32) (Iw2 : Nat → Nat → Int32) (Jw2 : Nat → Nat → Int64), Int.toNat (20 - x6_23.toInt) = nn_23 → (0 ≤ Int32.toInt x6_23 ∧ Int32.toInt x6_23 ≤ 20) → (Int32.toInt (Iw2 a0 6) = Int32.toInt (I0 a0 6) + x6_23.toInt) → (Int32.toInt (Iw2 a0 18) = Int32.toInt (I0 a0 18)) → (Int32.toInt (Iw2 S 27) = Int32.toInt (I0 S 27)) → SV frM P K O I0 J0 Iw2 Jw2 → GG X 8 P K Iw2 O Jw2 0 0 23 [(0, .ref a0), (1, .int x1), (2, .int x2), (3, .int x3), (4, .int x4), (5, .int x5), (6, .int x6_23)] [] := by
      intro nn_23
      induction nn_23 using Nat.strongRecOn with
      | ind nn_23 ih_23 =>
      intro x6_23 Iw2 Jw2 hn_23 iv0_23 iv1_23 iv2_23 iv3_23 hVw2
      have rg6_23 := rg x6_23
      refine g_iload C dMo_feed_23 rfl ?_
      refine g_bipush (v := Int32.ofInt (20)) C dMo_feed_25 (by decide) ?_
      refine gt_icmp_ge 117 C dMo_feed_27 (by decide) rfl (ofI (by decide)) (fun c_27 => ?_) (fun c_27 => ?_)
      · skip
        refine g_aload_n C dMo_feed_117 rfl ?_
        refine g_geti C dMo_feed_118 fl_Mo_280 h0 ?_
        have o_118 := hVw2.1.2 a0 h0.1 6
        rw [h0.2] at o_118
        have o_118 : 0 ≤ (Iw2 a0 6).toInt ∧ (Iw2 a0 6).toInt ≤ 700 := o_118
        exact s_iret C E dMo_feed_121 ⟨Nat.zero_le _, Nat.zero_le _⟩ hVw2 (by (try dsimp only); omega)
      · skip
        refine g_iload C dMo_feed_30 rfl ?_
        refine g_iconst (v := Int32.ofInt (4)) C dMo_feed_32 (by decide) ?_
        have jn_76 : ∀  (s0_76 : Int32) (Iw3 : Nat → Nat → Int32) (Jw3 : Nat → Nat → Int64), (Int32.toInt (Iw3 a0 6) = Int32.toInt (I0 a0 6) + x6_23.toInt) → (Int32.toInt (Iw3 a0 18) = Int32.toInt (I0 a0 18)) → (Int32.toInt (Iw3 S 27) = Int32.toInt (I0 S 27)) → SV frM P K O I0 J0 Iw3 Jw3 → GG X 8 P K Iw3 O Jw3 0 0 76 [(0, .ref a0), (1, .int x1), (2, .int x2), (3, .int x3), (4, .int x4), (5, .int x5), (6, .int x6_23)] [.int s0_76] := by
          intro s0_76 Iw3 Jw3 jv0_76 jv1_76 jv2_76 hVw3
          refine g_istore C dMo_feed_76 (by decide) ?_
          refine g_aload_n C dMo_feed_78 rfl ?_
          refine gt_getr C dMo_feed_79 fl_Mo_13 h0 hVw3.1.1 rfl (fun b_79 q_79 hb_79 => ?_)
          refine g_aload_n C dMo_feed_82 rfl ?_
          refine g_geti C dMo_feed_83 fl_Mo_280 h0 ?_
          have o_83 := hVw3.1.2 a0 h0.1 6
          rw [h0.2] at o_83
          have o_83 : 0 ≤ (Iw3 a0 6).toInt ∧ (Iw3 a0 6).toInt ≤ 700 := o_83
          refine g_iload C dMo_feed_86 rfl ?_
          refine g_bipush (v := Int32.ofInt (24)) C dMo_feed_88 (by decide) ?_
          refine g_bipush (v := Int32.ofInt (8)) C dMo_feed_90 (by decide) ?_
          refine g_iload C dMo_feed_92 rfl ?_
          refine g_iconst (v := Int32.ofInt (4)) C dMo_feed_94 (by decide) ?_
          refine gt_irem 4 C dMo_feed_95 rfl (ofI (by decide)) (by decide) (fun z_95 e_95 => ?_)
          first | refine n_imul C dMo_feed_96 (ofI (by decide)) rfl (by omega) (fun z_96 e_96 => ?_) | refine a_imul C dMo_feed_96 (fun z_96 => ?_)
          first | refine n_isub C dMo_feed_97 (ofI (by decide)) rfl (by omega) (fun z_97 e_97 => ?_) | refine a_isub C dMo_feed_97 (fun z_97 => ?_)
          refine a_ishr C dMo_feed_98 (fun z_98 => ?_)
          refine a_i2b C dMo_feed_99 (fun z_99 => ?_)
          refine gt_bast C dMo_feed_100 hb_79 (by decide) rfl rfl (n := 700) rfl (by omega) hVw3 rfl trivial (fun Iw4 eIw4 hVw4 => ?_)
          have tkw4_a0_6 : (Iw4 a0 6).toInt = (Iw3 a0 6).toInt := by rw [eIw4, up2_ne _ _ (fun z => by have q := h0.2; rw [z.1, hb_79.2] at q; exact absurd q (by decide))]
          have tkw4_a0_18 : (Iw4 a0 18).toInt = (Iw3 a0 18).toInt := by rw [eIw4, up2_ne _ _ (fun z => by have q := h0.2; rw [z.1, hb_79.2] at q; exact absurd q (by decide))]
          have tkw4_S_27 : (Iw4 S 27).toInt = (Iw3 S 27).toInt := by rw [eIw4, up2_ne _ _ (fun z => by have q := hSk.2; rw [z.1, hb_79.2] at q; exact absurd q (by decide))]
          refine g_aload_n C dMo_feed_101 rfl ?_
          refine g_dup C dMo_feed_102 rfl ?_
          refine g_geti C dMo_feed_103 fl_Mo_280 h0 ?_
          have o_103 := hVw4.1.2 a0 h0.1 6
          rw [h0.2] at o_103
          have o_103 : 0 ≤ (Iw4 a0 6).toInt ∧ (Iw4 a0 6).toInt ≤ 700 := o_103
          refine g_iconst (v := Int32.ofInt (1)) C dMo_feed_106 (by decide) ?_
          first | refine n_iadd C dMo_feed_107 rfl (ofI (by decide)) (by omega) (fun z_107 e_107 => ?_) | refine a_iadd C dMo_feed_107 (fun z_107 => ?_)
          refine gt_puti C dMo_feed_108 fl_Mo_280 h0 hVw4 rfl (by show 0 ≤ Int32.toInt _ ∧ Int32.toInt _ ≤ 700; omega) rfl (Or.inl rfl) (fun Iw5 eIw5 hVw5 => ?_)
          have tkw5_a0_6 : (Iw5 a0 6).toInt = z_107.toInt := by rw [eIw5, up2_self]
          have tkw5_a0_18 : (Iw5 a0 18).toInt = (Iw4 a0 18).toInt := by rw [eIw5, up2_ne _ _ (fun z => absurd z.2 (by decide))]
          have tkw5_S_27 : (Iw5 S 27).toInt = (Iw4 S 27).toInt := by rw [eIw5, up2_ne _ _ (fun z => by have q := hSk.2; rw [z.1, h0.2] at q; exact absurd q (by decide))]
          first | refine n_iinc C dMo_feed_111 rfl rfl (by decide) (by decide) (by omega) (fun z_111 e_111 => ?_) | refine a_iinc C dMo_feed_111 rfl (by decide) (fun z_111 => ?_)
          refine g_goto 23 C dMo_feed_114 (by decide) ?_
          exact g_sub (ih_23 _ (by omega) z_111 Iw5 Jw3 rfl (by omega) (by omega) (by omega) (by omega) hVw5) ⟨rfl, rfl, rfl, rfl, rfl, rfl, rfl, trivial⟩
        refine gt_icmp_ge 40 C dMo_feed_33 (by decide) rfl (ofI (by decide)) (fun c_33 => ?_) (fun c_33 => ?_)
        · skip
          refine g_iload C dMo_feed_40 rfl ?_
          refine g_bipush (v := Int32.ofInt (8)) C dMo_feed_42 (by decide) ?_
          refine gt_icmp_ge 51 C dMo_feed_44 (by decide) rfl (ofI (by decide)) (fun c_44 => ?_) (fun c_44 => ?_)
          · skip
            refine g_iload C dMo_feed_51 rfl ?_
            refine g_bipush (v := Int32.ofInt (12)) C dMo_feed_53 (by decide) ?_
            refine gt_icmp_ge 62 C dMo_feed_55 (by decide) rfl (ofI (by decide)) (fun c_55 => ?_) (fun c_55 => ?_)
            · skip
              refine g_iload C dMo_feed_62 rfl ?_
              refine g_bipush (v := Int32.ofInt (16)) C dMo_feed_64 (by decide) ?_
              refine gt_icmp_ge 74 C dMo_feed_66 (by decide) rfl (ofI (by decide)) (fun c_66 => ?_) (fun c_66 => ?_)
              · skip
                refine g_iload C dMo_feed_74 rfl ?_
                exact g_sub (jn_76 x5 Iw2 Jw2 (by omega) (by omega) (by omega) hVw2) ⟨rfl, rfl, rfl, rfl, rfl, rfl, rfl, trivial⟩
              · skip
                refine g_iload C dMo_feed_69 rfl ?_
                refine g_goto 76 C dMo_feed_71 (by decide) ?_
                exact g_sub (jn_76 x4 Iw2 Jw2 (by omega) (by omega) (by omega) hVw2) ⟨rfl, rfl, rfl, rfl, rfl, rfl, rfl, trivial⟩
            · skip
              refine g_iload_n C dMo_feed_58 rfl ?_
              refine g_goto 76 C dMo_feed_59 (by decide) ?_
              exact g_sub (jn_76 x3 Iw2 Jw2 (by omega) (by omega) (by omega) hVw2) ⟨rfl, rfl, rfl, rfl, rfl, rfl, rfl, trivial⟩
          · skip
            refine g_iload_n C dMo_feed_47 rfl ?_
            refine g_goto 76 C dMo_feed_48 (by decide) ?_
            exact g_sub (jn_76 x2 Iw2 Jw2 (by omega) (by omega) (by omega) hVw2) ⟨rfl, rfl, rfl, rfl, rfl, rfl, rfl, trivial⟩
        · skip
          refine g_iload_n C dMo_feed_36 rfl ?_
          refine g_goto 76 C dMo_feed_37 (by decide) ?_
          exact g_sub (jn_76 x1 Iw2 Jw2 (by omega) (by omega) (by omega) hVw2) ⟨rfl, rfl, rfl, rfl, rfl, rfl, rfl, trivial⟩
    exact g_sub (lp_23 _ (Int32.ofInt (0)) Iw1 J0 rfl (by have hci : Int32.toInt (Int32.ofInt (0)) = 0 := ofI (by decide); omega) (by have hci : Int32.toInt (Int32.ofInt (0)) = 0 := ofI (by decide); omega) (by omega) (by omega) hVw1) ⟨rfl, rfl, rfl, rfl, rfl, rfl, rfl, trivial⟩
  · skip
    refine g_iconst (v := Int32.ofInt (-1)) C dMo_feed_18 (by decide) ?_
    exact s_iret C E dMo_feed_19 ⟨Nat.zero_le _, Nat.zero_le _⟩ hVw1 (by have hci : Int32.toInt (Int32.ofInt (-1)) = -1 := ofI (by decide); (try dsimp only); omega)
