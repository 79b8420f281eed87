set_option maxHeartbeats 4000000 in
set_option maxRecDepth 100000 in
theorem cMo_go_Z {P : List Nat} {K : Nat → Nat} {I0 : Nat → Nat → Int32} {O : Nat → Nat → Option Nat} {J0 : Nat → Nat → Int64} (hV : IV P K I0 O) {a0 : Nat} (h0 : a0 ∈ P ∧ K a0 = 10) {x1 : Int32} {S : Nat} (hSo : O a0 16 = some S) (hSk : S ∈ P ∧ K S = 31) (hMn : O a0 3 = none) : Con yMo_go bMo_go 4 (some .int) ({ frames := 1, cells := 0, slots := 0, locals := 21 } : Room) P K I0 O J0 [.ref a0, .int x1] (SPo frM 1 (fun _ I_ => (I_ a0 6).toInt = (I0 a0 6).toInt ∧ (I_ a0 18).toInt = (I0 a0 18).toInt ∧ (I_ S 27).toInt = (I0 S 27).toInt) P K I0 O J0) := by
  refine Con.ofG mfMo_go (Nat.le_of_ble_eq_true rfl) ?_
  intro X C E
  have r1 := rg x1
  have ost := hV.2 a0 h0.1 18
  rw [h0.2] at ost
  have ost : 0 ≤ (I0 a0 18).toInt ∧ (I0 a0 18).toInt ≤ 240 := ost
  have oS := hV.2 S hSk.1 27
  rw [hSk.2] at oS
  have oS : 0 ≤ (I0 S 27).toInt ∧ (I0 S 27).toInt ≤ 240 := oS
  have hV0 : SV frM P K O I0 J0 I0 J0 := SV.rf hV
  refine g_aload_n C dMo_go_0 rfl ?_
  refine g_iconst (v := Int32.ofInt (0)) C dMo_go_1 (by decide) ?_
  refine gt_puti C dMo_go_2 fl_Mo_73 h0 hV0 rfl trivial rfl (Or.inl rfl) (fun Iw1 eIw1 hVw1 => ?_)
  have tkw1_a0_6 : (Iw1 a0 6).toInt = (I0 a0 6).toInt := by rw [eIw1, up2_ne _ _ (fun z => absurd z.2 (by decide))]
  have tkw1_a0_18 : (Iw1 a0 18).toInt = (I0 a0 18).toInt := by rw [eIw1, up2_ne _ _ (fun z => absurd z.2 (by decide))]
  have tkw1_S_27 : (Iw1 S 27).toInt = (I0 S 27).toInt := by rw [eIw1, up2_ne _ _ (fun z => by have q := hSk.2; rw [z.1, h0.2] at q; exact absurd q (by decide))]
  refine g_aload_n C dMo_go_5 rfl ?_
  refine gt_getN C dMo_go_6 fl_Mo_290 h0 hMn ?_
  refine g_ifnonnullN C dMo_go_9 ?_
  refine g_aload_n C dMo_go_12 rfl ?_
  refine g_iconst (v := Int32.ofInt (1)) C dMo_go_13 (by decide) ?_
  refine s_callV_i (av := fun ad => [.int (Int32.ofInt (1))]) C dMo_go_14 mfMo_refused mvMo_refused ln_Mo_283 h0 (by decide) rfl hVw1 (frL_le (by decide)) (cMo_refused hVw1.1 h0) rfl rfl (Nat.le_of_ble_eq_true rfl) ⟨Nat.le_of_ble_eq_true rfl, Nat.le_of_ble_eq_true rfl⟩ ⟨rfl, rfl⟩ ⟨Nat.zero_le _, Nat.zero_le _⟩ (fun Iw2 Jw2 hVw2 hFw2 z_14 p_14 => ?_)
  have tkw2_S_27 : (Iw2 S 27).toInt = (Iw1 S 27).toInt := by rw [(hFw2 S (by rw [hSk.2]; rfl)).1 27]
  have rz_14 := rg z_14
  try dsimp only at p_14
  have hk1_14 : Int32.toInt (Int32.ofInt (1)) = 1 := ofI (by decide)
  exact s_iret C E dMo_go_17 ⟨Nat.zero_le _, Nat.zero_le _⟩ hVw2 (by (try dsimp only); omega)
set_option maxHeartbeats 4000000 in
set_option maxRecDepth 100000 in
theorem cMo_go_G {P : List Nat} {K : Nat → Nat} {I0 : Nat → Nat → Int32} {O : Nat → Nat → Option Nat} {J0 : Nat → Nat → Int64} (hV : IV P K I0 O) {a0 : Nat} (h0 : a0 ∈ P ∧ K a0 = 10) {x1 : Int32} {S : Nat} (hSo : O a0 16 = some S) (hSk : S ∈ P ∧ K S = 31) {M : Nat} (hMo : O a0 3 = some M) (hMk : M ∈ P ∧ K M = 9) (hGM : GM I0 M) (pr0 : 0 ≤ Int32.toInt (I0 a0 18) ∧ Int32.toInt (I0 a0 18) ≤ Int32.toInt (I0 S 27)) : Con yMo_go bMo_go 4 (some .int) ({ frames := 3, cells := 0, slots := 0, locals := 75 } : Room) P K I0 O J0 [.ref a0, .int x1] (SPo frM 1 (fun _ I_ => 0 ≤ Int32.toInt (I_ a0 18) ∧ Int32.toInt (I_ a0 18) ≤ Int32.toInt (I_ S 27) ∧ Int32.toInt (I_ a0 6) = Int32.toInt (I0 a0 6)) P K I0 O J0) := by
  refine Con.ofG mfMo_go (Nat.le_of_ble_eq_true rfl) ?_
  intro X C E
  have r1 := rg x1
  have oS := hV.2 S hSk.1 27
  rw [hSk.2] at oS
  have oS : 0 ≤ (I0 S 27).toInt ∧ (I0 S 27).toInt ≤ 240 := oS
  have hV0 : SV frM P K O I0 J0 I0 J0 := SV.rf hV
  refine g_aload_n C dMo_go_0 rfl ?_
  refine g_iconst (v := Int32.ofInt (0)) C dMo_go_1 (by decide) ?_
  refine gt_puti C dMo_go_2 fl_Mo_73 h0 hV0 rfl trivial rfl (Or.inl rfl) (fun Iw1 eIw1 hVw1 => ?_)
  have tkw1_a0_18 : (Iw1 a0 18).toInt = (I0 a0 18).toInt := by rw [eIw1, up2_ne _ _ (fun z => absurd z.2 (by decide))]
  have tkw1_S_27 : (Iw1 S 27).toInt = (I0 S 27).toInt := by rw [eIw1, up2_ne _ _ (fun z => by have q := hSk.2; rw [z.1, h0.2] at q; exact absurd q (by decide))]
  have tkw1_a0_6 : (Iw1 a0 6).toInt = (I0 a0 6).toInt := by rw [eIw1, up2_ne _ _ (fun z => absurd z.2 (by decide))]
  refine g_aload_n C dMo_go_5 rfl ?_
  refine gt_getS C dMo_go_6 fl_Mo_290 h0 hMo ?_
  refine g_ifnonnull 18 C dMo_go_9 (by decide) ?_
  refine g_iload_n C dMo_go_18 rfl ?_
  refine g_iconst (v := Int32.ofInt (1)) C dMo_go_19 (by decide) ?_
  refine g_bipush (v := Int32.ofInt (24)) C dMo_go_20 (by decide) ?_
  refine s_callS_zp (av := fun ad => [.int x1, .int (Int32.ofInt (1)), .int (Int32.ofInt (24))]) C dMo_go_22 mfMo_in msMo_in ln_Mo_149 (cMo_in hVw1.1 ) rfl rfl (Nat.le_of_ble_eq_true rfl) ⟨Nat.le_of_ble_eq_true rfl, Nat.le_of_ble_eq_true rfl⟩ ⟨rfl, rfl⟩ ⟨Nat.zero_le _, Nat.zero_le _⟩ (fun z_22 b_22 p_22 => ?_)
  have rz_22 := rg z_22
  have u_22 := b_22
  unfold B01 at u_22
  try dsimp only at p_22
  have hk1_22 : Int32.toInt (Int32.ofInt (1)) = 1 := ofI (by decide)
  have hk2_22 : Int32.toInt (Int32.ofInt (24)) = 24 := ofI (by decide)
  refine gt_if_ne 34 C dMo_go_25 (by decide) rfl (fun c_25 => ?_) (fun c_25 => ?_)
  · skip
    refine g_aload_n C dMo_go_34 rfl ?_
    refine gt_getS C dMo_go_35 fl_Mo_17 h0 hSo ?_
    refine g_bipush (v := Int32.ofInt (27)) C dMo_go_38 (by decide) ?_
    refine gt_ialdc (c := 27) C dMo_go_40 hSk (by decide) rfl (ofI (by decide)) (n := 37) rfl (by decide) (by decide) ?_
    have o_40 := hVw1.1.2 S hSk.1 27
    rw [hSk.2] at o_40
    have o_40 : 0 ≤ (Iw1 S 27).toInt ∧ (Iw1 S 27).toInt ≤ 240 := o_40
    refine g_iload_n C dMo_go_41 rfl ?_
    first | refine n_iadd C dMo_go_42 rfl rfl (by omega) (fun z_42 e_42 => ?_) | refine a_iadd C dMo_go_42 (fun z_42 => ?_)
    refine g_sipush (v := Int32.ofInt (240)) C dMo_go_43 (by decide) ?_
    refine gt_icmp_le 55 C dMo_go_46 (by decide) rfl (ofI (by decide)) (fun c_46 => ?_) (fun c_46 => ?_)
    · skip
      refine g_iconst (v := Int32.ofInt (0)) C dMo_go_55 (by decide) ?_
      refine g_istore_n (i := 2) C dMo_go_56 rfl (by decide) ?_
      refine g_iconst (v := Int32.ofInt (0)) C dMo_go_57 (by decide) ?_
      refine g_istore_n (i := 3) C dMo_go_58 rfl (by decide) ?_
      have lp_59 : ∀ (nn_59 : Nat) (x2_59 : Int32) (x3_59 : Int32) (Iw3 : Nat → Nat → Int32) (Jw3 : Nat → Nat → Int64), Int.toNat (x1.toInt - x3_59.toInt) = nn_59 → (0 ≤ Int32.toInt x3_59 ∧ Int32.toInt x3_59 ≤ Int32.toInt x1) → (Int32.toInt (Iw3 S 27) + x1.toInt - x3_59.toInt - 0 ≤ 240) → (0 ≤ Int32.toInt (Iw3 a0 18) ∧ Int32.toInt (Iw3 a0 18) ≤ Int32.toInt (Iw3 S 27)) → (Int32.toInt (Iw3 a0 6) = Int32.toInt (I0 a0 6)) → SV frM P K O I0 J0 Iw3 Jw3 → GG X 4 P K Iw3 O Jw3 0 0 59 [(0, .ref a0), (1, .int x1), (2, .int x2_59), (3, .int x3_59)] [] := by
        intro nn_59
        induction nn_59 using Nat.strongRecOn with
        | ind nn_59 ih_59 =>
        intro x2_59 x3_59 Iw3 Jw3 hn_59 iv0_59 iv1_59 iv2_59 iv3_59 hVw3
        have rg2_59 := rg x2_59
        have rg3_59 := rg x3_59
        refine g_iload_n C dMo_go_59 rfl ?_
        refine g_iload_n C dMo_go_60 rfl ?_
        refine gt_icmp_ge 122 C dMo_go_61 (by decide) rfl rfl (fun c_61 => ?_) (fun c_61 => ?_)
        · skip
          refine g_aload_n C dMo_go_122 rfl ?_
          refine g_iload_n C dMo_go_123 rfl ?_
          refine s_callV_i (av := fun ad => [.int x2_59]) C dMo_go_124 mfMo_done mvMo_done ln_Mo_302 h0 (by decide) rfl hVw3 (frL_le (by decide)) (cMo_done hVw3.1 h0) rfl rfl (Nat.le_of_ble_eq_true rfl) ⟨Nat.le_of_ble_eq_true rfl, Nat.le_of_ble_eq_true rfl⟩ ⟨rfl, rfl⟩ ⟨Nat.zero_le _, Nat.zero_le _⟩ (fun Iw4 Jw4 hVw4 hFw4 z_124 p_124 => ?_)
          have tkw4_S_27 : (Iw4 S 27).toInt = (Iw3 S 27).toInt := by rw [(hFw4 S (by rw [hSk.2]; rfl)).1 27]
          have rz_124 := rg z_124
          try dsimp only at p_124
          exact s_iret C E dMo_go_127 ⟨Nat.zero_le _, Nat.zero_le _⟩ hVw4 (by (try dsimp only); omega)
        · skip
          refine g_aload_n C dMo_go_64 rfl ?_
          refine g_aload_n C dMo_go_65 rfl ?_
          refine gt_getS C dMo_go_66 fl_Mo_17 h0 hSo ?_
          refine s_callV_v (av := fun ad => [.ref S]) C dMo_go_69 mfMo_goes mvMo_goes ln_Mo_332 h0 (by decide) rfl hVw3 (frL_le (by decide)) (cMo_goes_G hVw3.1 h0 hSk hMo hMk (hGM.keep (hVw3.2 M (by rw [hMk.2]; rfl)).1) (by omega)) rfl rfl (Nat.le_of_ble_eq_true rfl) ⟨Nat.le_of_ble_eq_true rfl, Nat.le_of_ble_eq_true rfl⟩ ⟨rfl, rfl⟩ ⟨Nat.zero_le _, Nat.zero_le _⟩ (fun Iw5 Jw5 hVw5 hFw5 p_69 => ?_)
          have tkw5_a0_18 : (Iw5 a0 18).toInt = (Iw3 a0 18).toInt := by rw [(hFw5 a0 (by rw [h0.2]; rfl)).1 18]
          have tkw5_a0_6 : (Iw5 a0 6).toInt = (Iw3 a0 6).toInt := by rw [(hFw5 a0 (by rw [h0.2]; rfl)).1 6]
          try dsimp only at p_69
          refine g_aload_n C dMo_go_72 rfl ?_
          refine gt_getS C dMo_go_73 fl_Mo_17 h0 hSo ?_
          refine g_bipush (v := Int32.ofInt (26)) C dMo_go_76 (by decide) ?_
          refine gt_ialdc (c := 26) C dMo_go_78 hSk (by decide) rfl (ofI (by decide)) (n := 37) rfl (by decide) (by decide) ?_
          have jn_116 : ∀ (y2_116 : Int32)  (Iw6 : Nat → Nat → Int32) (Jw6 : Nat → Nat → Int64), (Int32.toInt (Iw6 S 27) + x1.toInt - x3_59.toInt - 1 ≤ 240) → (0 ≤ Int32.toInt (Iw6 a0 18) ∧ Int32.toInt (Iw6 a0 18) ≤ Int32.toInt (Iw6 S 27)) → (Int32.toInt (Iw6 a0 6) = Int32.toInt (I0 a0 6)) → SV frM P K O I0 J0 Iw6 Jw6 → GG X 4 P K Iw6 O Jw6 0 0 116 [(0, .ref a0), (1, .int x1), (2, .int y2_116), (3, .int x3_59)] [] := by
            intro y2_116 Iw6 Jw6 jv0_116 jv1_116 jv2_116 hVw6
            first | refine n_iinc C dMo_go_116 rfl rfl (by decide) (by decide) (by omega) (fun z_116 e_116 => ?_) | refine a_iinc C dMo_go_116 rfl (by decide) (fun z_116 => ?_)
            refine g_goto 59 C dMo_go_119 (by decide) ?_
            exact g_sub (ih_59 _ (by omega) y2_116 z_116 Iw6 Jw6 rfl (by omega) (by omega) (by omega) (by omega) hVw6) ⟨rfl, rfl, rfl, rfl, trivial⟩
          refine gt_if_ne 88 C dMo_go_79 (by decide) rfl (fun c_79 => ?_) (fun c_79 => ?_)
          · skip
            refine g_aload_n C dMo_go_88 rfl ?_
            refine gt_getr C dMo_go_89 fl_Mo_24 h0 hVw5.1.1 rfl (fun b_89 q_89 hb_89 => ?_)
            refine g_aload_n C dMo_go_92 rfl ?_
            refine g_geti C dMo_go_93 fl_Mo_299 h0 ?_
            refine g_aload_n C dMo_go_96 rfl ?_
            refine gt_getS C dMo_go_97 fl_Mo_17 h0 hSo ?_
            refine g_bipush (v := Int32.ofInt (27)) C dMo_go_100 (by decide) ?_
            refine gt_ialdc (c := 27) C dMo_go_102 hSk (by decide) rfl (ofI (by decide)) (n := 37) rfl (by decide) (by decide) ?_
            have o_102 := hVw5.1.2 S hSk.1 27
            rw [hSk.2] at o_102
            have o_102 : 0 ≤ (Iw5 S 27).toInt ∧ (Iw5 S 27).toInt ≤ 240 := o_102
            refine g_iconst (v := Int32.ofInt (1)) C dMo_go_103 (by decide) ?_
            first | refine n_isub C dMo_go_104 rfl (ofI (by decide)) (by omega) (fun z_104 e_104 => ?_) | refine a_isub C dMo_go_104 (fun z_104 => ?_)
            refine gt_iast C dMo_go_105 hb_89 (by decide) rfl rfl (n := 240) rfl (by omega) hVw5 rfl trivial (fun Iw7 eIw7 hVw7 => ?_)
            have tkw7_a0_18 : (Iw7 a0 18).toInt = (Iw5 a0 18).toInt := by rw [eIw7, up2_ne _ _ (fun z => by have q := h0.2; rw [z.1, hb_89.2] at q; exact absurd q (by decide))]
            have tkw7_S_27 : (Iw7 S 27).toInt = (Iw5 S 27).toInt := by rw [eIw7, up2_ne _ _ (fun z => by have q := hSk.2; rw [z.1, hb_89.2] at q; exact absurd q (by decide))]
            have tkw7_a0_6 : (Iw7 a0 6).toInt = (Iw5 a0 6).toInt := by rw [eIw7, up2_ne _ _ (fun z => by have q := h0.2; rw [z.1, hb_89.2] at q; exact absurd q (by decide))]
            refine g_aload_n C dMo_go_106 rfl ?_
            refine g_dup C dMo_go_107 rfl ?_
            refine g_geti C dMo_go_108 fl_Mo_299 h0 ?_
            refine g_iconst (v := Int32.ofInt (1)) C dMo_go_111 (by decide) ?_
            first | refine n_iadd C dMo_go_112 rfl (ofI (by decide)) (by omega) (fun z_112 e_112 => ?_) | refine a_iadd C dMo_go_112 (fun z_112 => ?_)
            refine gt_puti C dMo_go_113 fl_Mo_299 h0 hVw7 rfl (by show 0 ≤ Int32.toInt _ ∧ Int32.toInt _ ≤ 240; omega) rfl (Or.inl rfl) (fun Iw8 eIw8 hVw8 => ?_)
            have tkw8_a0_18 : (Iw8 a0 18).toInt = z_112.toInt := by rw [eIw8, up2_self]
            have tkw8_S_27 : (Iw8 S 27).toInt = (Iw7 S 27).toInt := by rw [eIw8, up2_ne _ _ (fun z => by have q := hSk.2; rw [z.1, h0.2] at q; exact absurd q (by decide))]
            have tkw8_a0_6 : (Iw8 a0 6).toInt = (Iw7 a0 6).toInt := by rw [eIw8, up2_ne _ _ (fun z => absurd z.2 (by decide))]
            exact g_sub (jn_116 x2_59 Iw8 Jw5 (by omega) (by omega) (by omega) hVw8) ⟨rfl, rfl, rfl, rfl, trivial⟩
          · skip
            first | refine n_iinc C dMo_go_82 rfl rfl (by decide) (by decide) (by omega) (fun z_82 e_82 => ?_) | refine a_iinc C dMo_go_82 rfl (by decide) (fun z_82 => ?_)
            refine g_goto 116 C dMo_go_85 (by decide) ?_
            exact g_sub (jn_116 z_82 Iw5 Jw5 (by omega) (by omega) (by omega) hVw5) ⟨rfl, rfl, rfl, rfl, trivial⟩
      exact g_sub (lp_59 _ (Int32.ofInt (0)) (Int32.ofInt (0)) Iw1 J0 rfl (by have hci : Int32.toInt (Int32.ofInt (0)) = 0 := ofI (by decide); omega) (by have hci : Int32.toInt (Int32.ofInt (0)) = 0 := ofI (by decide); omega) (by omega) (by omega) hVw1) ⟨rfl, rfl, rfl, rfl, trivial⟩
    · skip
      refine g_aload_n C dMo_go_49 rfl ?_
      refine g_iconst (v := Int32.ofInt (3)) C dMo_go_50 (by decide) ?_
      refine s_callV_i (av := fun ad => [.int (Int32.ofInt (3))]) C dMo_go_51 mfMo_refused mvMo_refused ln_Mo_283 h0 (by decide) rfl hVw1 (frL_le (by decide)) (cMo_refused hVw1.1 h0) rfl rfl (Nat.le_of_ble_eq_true rfl) ⟨Nat.le_of_ble_eq_true rfl, Nat.le_of_ble_eq_true rfl⟩ ⟨rfl, rfl⟩ ⟨Nat.zero_le _, Nat.zero_le _⟩ (fun Iw9 Jw9 hVw9 hFw9 z_51 p_51 => ?_)
      have tkw9_S_27 : (Iw9 S 27).toInt = (Iw1 S 27).toInt := by rw [(hFw9 S (by rw [hSk.2]; rfl)).1 27]
      have rz_51 := rg z_51
      try dsimp only at p_51
      have hk1_51 : Int32.toInt (Int32.ofInt (3)) = 3 := ofI (by decide)
      exact s_iret C E dMo_go_54 ⟨Nat.zero_le _, Nat.zero_le _⟩ hVw9 (by (try dsimp only); omega)
  · skip
    refine g_aload_n C dMo_go_28 rfl ?_
    refine g_iconst (v := Int32.ofInt (2)) C dMo_go_29 (by decide) ?_
    refine s_callV_i (av := fun ad => [.int (Int32.ofInt (2))]) C dMo_go_30 mfMo_refused mvMo_refused ln_Mo_283 h0 (by decide) rfl hVw1 (frL_le (by decide)) (cMo_refused hVw1.1 h0) rfl rfl (Nat.le_of_ble_eq_true rfl) ⟨Nat.le_of_ble_eq_true rfl, Nat.le_of_ble_eq_true rfl⟩ ⟨rfl, rfl⟩ ⟨Nat.zero_le _, Nat.zero_le _⟩ (fun Iw10 Jw10 hVw10 hFw10 z_30 p_30 => ?_)
    have tkw10_S_27 : (Iw10 S 27).toInt = (Iw1 S 27).toInt := by rw [(hFw10 S (by rw [hSk.2]; rfl)).1 27]
    have rz_30 := rg z_30
    try dsimp only at p_30
    have hk1_30 : Int32.toInt (Int32.ofInt (2)) = 2 := ofI (by decide)
    exact s_iret C E dMo_go_33 ⟨Nat.zero_le _, Nat.zero_le _⟩ hVw10 (by (try dsimp only); omega)
set_option maxHeartbeats 4000000 in
set_option maxRecDepth 100000 in
theorem cMo_fits_Z {P : List Nat} {K : Nat → Nat} {I0 : Nat → Nat → Int32} {O : Nat → Nat → Option Nat} {J0 : Nat → Nat → Int64} (hV : IV P K I0 O) {a0 : Nat} (h0 : a0 ∈ P ∧ K a0 = 10) {S : Nat} (hSo : O a0 16 = some S) (hSk : S ∈ P ∧ K S = 31) {TW : Nat} (hTWo : O a0 17 = some TW) (hTWk : TW ∈ P ∧ K TW = 49) (hMn : O a0 3 = none) : Con yMo_fits bMo_fits 1 (some .int) ({ frames := 1, cells := 0, slots := 0, locals := 21 } : Room) P K I0 O J0 [.ref a0] (SPo frM 1 (fun _ I_ => (I_ a0 6).toInt = (I0 a0 6).toInt ∧ (I_ a0 18).toInt = (I0 a0 18).toInt ∧ (I_ S 27).toInt = (I0 S 27).toInt) P K I0 O J0) := by
  refine Con.ofG mfMo_fits (Nat.le_of_ble_eq_true rfl) ?_
  intro X C E
  have ost := hV.2 a0 h0.1 18
  rw [h0.2] at ost
  have ost : 0 ≤ (I0 a0 18).toInt ∧ (I0 a0 18).toInt ≤ 240 := ost
  have oS := hV.2 S hSk.1 27
  rw [hSk.2] at oS
  have oS : 0 ≤ (I0 S 27).toInt ∧ (I0 S 27).toInt ≤ 240 := oS
  have hV0 : SV frM P K O I0 J0 I0 J0 := SV.rf hV
  refine g_aload_n C dMo_fits_0 rfl ?_
  refine g_iconst (v := Int32.ofInt (0)) C dMo_fits_1 (by decide) ?_
  refine gt_puti C dMo_fits_2 fl_Mo_73 h0 hV0 rfl trivial rfl (Or.inl rfl) (fun Iw1 eIw1 hVw1 => ?_)
  have tkw1_a0_6 : (Iw1 a0 6).toInt = (I0 a0 6).toInt := by rw [eIw1, up2_ne _ _ (fun z => absurd z.2 (by decide))]
  have tkw1_a0_18 : (Iw1 a0 18).toInt = (I0 a0 18).toInt := by rw [eIw1, up2_ne _ _ (fun z => absurd z.2 (by decide))]
  have tkw1_S_27 : (Iw1 S 27).toInt = (I0 S 27).toInt := by rw [eIw1, up2_ne _ _ (fun z => by have q := hSk.2; rw [z.1, h0.2] at q; exact absurd q (by decide))]
  refine g_aload_n C dMo_fits_5 rfl ?_
  refine gt_getN C dMo_fits_6 fl_Mo_290 h0 hMn ?_
  refine g_ifnonnullN C dMo_fits_9 ?_
  refine g_aload_n C dMo_fits_12 rfl ?_
  refine g_iconst (v := Int32.ofInt (1)) C dMo_fits_13 (by decide) ?_
  refine s_callV_i (av := fun ad => [.int (Int32.ofInt (1))]) C dMo_fits_14 mfMo_refused mvMo_refused ln_Mo_283 h0 (by decide) rfl hVw1 (frL_le (by decide)) (cMo_refused hVw1.1 h0) rfl rfl (Nat.le_of_ble_eq_true rfl) ⟨Nat.le_of_ble_eq_true rfl, Nat.le_of_ble_eq_true rfl⟩ ⟨rfl, rfl⟩ ⟨Nat.zero_le _, Nat.zero_le _⟩ (fun Iw2 Jw2 hVw2 hFw2 z_14 p_14 => ?_)
  have tkw2_S_27 : (Iw2 S 27).toInt = (Iw1 S 27).toInt := by rw [(hFw2 S (by rw [hSk.2]; rfl)).1 27]
  have rz_14 := rg z_14
  try dsimp only at p_14
  have hk1_14 : Int32.toInt (Int32.ofInt (1)) = 1 := ofI (by decide)
  refine g_goto 30 C dMo_fits_17 (by decide) ?_
  exact s_iret C E dMo_fits_30 ⟨Nat.zero_le _, Nat.zero_le _⟩ hVw2 (by (try dsimp only); omega)
set_option maxHeartbeats 4000000 in
set_option maxRecDepth 100000 in
theorem cMo_fits_G {P : List Nat} {K : Nat → Nat} {I0 : Nat → Nat → Int32} {O : Nat → Nat → Option Nat} {J0 : Nat → Nat → Int64} (hV : IV P K I0 O) {a0 : Nat} (h0 : a0 ∈ P ∧ K a0 = 10) {S : Nat} (hSo : O a0 16 = some S) (hSk : S ∈ P ∧ K S = 31) {TW : Nat} (hTWo : O a0 17 = some TW) (hTWk : TW ∈ P ∧ K TW = 49) {M : Nat} (hMo : O a0 3 = some M) (hMk : M ∈ P ∧ K M = 9) (hGM : GM I0 M) : Con yMo_fits bMo_fits 1 (some .int) ({ frames := 6, cells := 0, slots := 0, locals := 147 } : Room) P K I0 O J0 [.ref a0] (SPo frM 1 (fun _ I_ => (I_ a0 6).toInt = (I0 a0 6).toInt ∧ (I_ a0 18).toInt = (I0 a0 18).toInt ∧ (I_ S 27).toInt = (I0 S 27).toInt) P K I0 O J0) := by
  refine Con.ofG mfMo_fits (Nat.le_of_ble_eq_true rfl) ?_
  intro X C E
  have ost := hV.2 a0 h0.1 18
  rw [h0.2] at ost
  have ost : 0 ≤ (I0 a0 18).toInt ∧ (I0 a0 18).toInt ≤ 240 := ost
  have oS := hV.2 S hSk.1 27
  rw [hSk.2] at oS
  have oS : 0 ≤ (I0 S 27).toInt ∧ (I0 S 27).toInt ≤ 240 := oS
  have hV0 : SV frM P K O I0 J0 I0 J0 := SV.rf hV
  refine g_aload_n C dMo_fits_0 rfl ?_
  refine g_iconst (v := Int32.ofInt (0)) C dMo_fits_1 (by decide) ?_
  refine gt_puti C dMo_fits_2 fl_Mo_73 h0 hV0 rfl trivial rfl (Or.inl rfl) (fun Iw1 eIw1 hVw1 => ?_)
  have tkw1_a0_6 : (Iw1 a0 6).toInt = (I0 a0 6).toInt := by rw [eIw1, up2_ne _ _ (fun z => absurd z.2 (by decide))]
  have tkw1_a0_18 : (Iw1 a0 18).toInt = (I0 a0 18).toInt := by rw [eIw1, up2_ne _ _ (fun z => absurd z.2 (by decide))]
  have tkw1_S_27 : (Iw1 S 27).toInt = (I0 S 27).toInt := by rw [eIw1, up2_ne _ _ (fun z => by have q := hSk.2; rw [z.1, h0.2] at q; exact absurd q (by decide))]
  refine g_aload_n C dMo_fits_5 rfl ?_
  refine gt_getS C dMo_fits_6 fl_Mo_290 h0 hMo ?_
  refine g_ifnonnull 20 C dMo_fits_9 (by decide) ?_
  refine g_aload_n C dMo_fits_20 rfl ?_
  refine g_aload_n C dMo_fits_21 rfl ?_
  refine g_iconst (v := Int32.ofInt (-1)) C dMo_fits_22 (by decide) ?_
  refine g_iconst (v := Int32.ofInt (-1)) C dMo_fits_23 (by decide) ?_
  refine s_callV_i (av := fun ad => [.int (Int32.ofInt (-1)), .int (Int32.ofInt (-1))]) C dMo_fits_24 mfMo_allFits mvMo_allFits ln_Mo_360 h0 (by decide) rfl hVw1 (frL_le (by decide)) (cMo_allFits_G hVw1.1 h0 hTWo hTWk hMo hMk (hGM.keep (hVw1.2 M (by rw [hMk.2]; rfl)).1)) rfl rfl (Nat.le_of_ble_eq_true rfl) ⟨Nat.le_of_ble_eq_true rfl, Nat.le_of_ble_eq_true rfl⟩ ⟨rfl, rfl⟩ ⟨Nat.zero_le _, Nat.zero_le _⟩ (fun Iw2 Jw2 hVw2 hFw2 z_24 p_24 => ?_)
  have tkw2_a0_6 : (Iw2 a0 6).toInt = (Iw1 a0 6).toInt := by rw [(hFw2 a0 (by rw [h0.2]; rfl)).1 6]
  have tkw2_a0_18 : (Iw2 a0 18).toInt = (Iw1 a0 18).toInt := by rw [(hFw2 a0 (by rw [h0.2]; rfl)).1 18]
  have tkw2_S_27 : (Iw2 S 27).toInt = (Iw1 S 27).toInt := by rw [(hFw2 S (by rw [hSk.2]; rfl)).1 27]
  have rz_24 := rg z_24
  try dsimp only at p_24
  have hk1_24 : Int32.toInt (Int32.ofInt (-1)) = -1 := ofI (by decide)
  have hk2_24 : Int32.toInt (Int32.ofInt (-1)) = -1 := ofI (by decide)
  refine s_callV_i (av := fun ad => [.int z_24]) C dMo_fits_27 mfMo_done mvMo_done ln_Mo_302 h0 (by decide) rfl hVw2 (frL_le (by decide)) (cMo_done hVw2.1 h0) rfl rfl (Nat.le_of_ble_eq_true rfl) ⟨Nat.le_of_ble_eq_true rfl, Nat.le_of_ble_eq_true rfl⟩ ⟨rfl, rfl⟩ ⟨Nat.zero_le _, Nat.zero_le _⟩ (fun Iw3 Jw3 hVw3 hFw3 z_27 p_27 => ?_)
  have tkw3_S_27 : (Iw3 S 27).toInt = (Iw2 S 27).toInt := by rw [(hFw3 S (by rw [hSk.2]; rfl)).1 27]
  have rz_27 := rg z_27
  try dsimp only at p_27
  exact s_iret C E dMo_fits_30 ⟨Nat.zero_le _, Nat.zero_le _⟩ hVw3 (by (try dsimp only); omega)
set_option maxHeartbeats 4000000 in
set_option maxRecDepth 100000 in
theorem cMo_fitAt_Z {P : List Nat} {K : Nat → Nat} {I0 : Nat → Nat → Int32} {O : Nat → Nat → Option Nat} {J0 : Nat → Nat → Int64} (hV : IV P K I0 O) {a0 : Nat} (h0 : a0 ∈ P ∧ K a0 = 10) {x1 : Int32} {x2 : Int32} {S : Nat} (hSo : O a0 16 = some S) (hSk : S ∈ P ∧ K S = 31) {TW : Nat} (hTWo : O a0 17 = some TW) (hTWk : TW ∈ P ∧ K TW = 49) (hMn : O a0 3 = none) : Con yMo_fitAt bMo_fitAt 4 (some .int) ({ frames := 1, cells := 0, slots := 0, locals := 21 } : Room) P K I0 O J0 [.ref a0, .int x1, .int x2] (SPo frM 1 (fun _ I_ => (I_ a0 6).toInt = (I0 a0 6).toInt ∧ (I_ a0 18).toInt = (I0 a0 18).toInt ∧ (I_ S 27).toInt = (I0 S 27).toInt) P K I0 O J0) := by
  refine Con.ofG mfMo_fitAt (Nat.le_of_ble_eq_true rfl) ?_
  intro X C E
  have r1 := rg x1
  have r2 := rg x2
  have ost := hV.2 a0 h0.1 18
  rw [h0.2] at ost
  have ost : 0 ≤ (I0 a0 18).toInt ∧ (I0 a0 18).toInt ≤ 240 := ost
  have oS := hV.2 S hSk.1 27
  rw [hSk.2] at oS
  have oS : 0 ≤ (I0 S 27).toInt ∧ (I0 S 27).toInt ≤ 240 := oS
  have hV0 : SV frM P K O I0 J0 I0 J0 := SV.rf hV
  refine g_aload_n C dMo_fitAt_0 rfl ?_
  refine g_iconst (v := Int32.ofInt (0)) C dMo_fitAt_1 (by decide) ?_
  refine gt_puti C dMo_fitAt_2 fl_Mo_73 h0 hV0 rfl trivial rfl (Or.inl rfl) (fun Iw1 eIw1 hVw1 => ?_)
  have tkw1_a0_6 : (Iw1 a0 6).toInt = (I0 a0 6).toInt := by rw [eIw1, up2_ne _ _ (fun z => absurd z.2 (by decide))]
  have tkw1_a0_18 : (Iw1 a0 18).toInt = (I0 a0 18).toInt := by rw [eIw1, up2_ne _ _ (fun z => absurd z.2 (by decide))]
  have tkw1_S_27 : (Iw1 S 27).toInt = (I0 S 27).toInt := by rw [eIw1, up2_ne _ _ (fun z => by have q := hSk.2; rw [z.1, h0.2] at q; exact absurd q (by decide))]
  refine g_aload_n C dMo_fitAt_5 rfl ?_
  refine gt_getN C dMo_fitAt_6 fl_Mo_290 h0 hMn ?_
  refine g_ifnullN 21 C dMo_fitAt_9 (by decide) ?_
  have jn_21 : ∀   (Iw2 : Nat → Nat → Int32) (Jw2 : Nat → Nat → Int64), (Int32.toInt (Iw2 a0 6) = Int32.toInt (I0 a0 6)) → (Int32.toInt (Iw2 a0 18) = Int32.toInt (I0 a0 18)) → (Int32.toInt (Iw2 S 27) = Int32.toInt (I0 S 27)) → SV frM P K O I0 J0 Iw2 Jw2 → GG X 4 P K Iw2 O Jw2 0 0 21 [(0, .ref a0), (1, .int x1), (2, .int x2)] [] := by
    intro Iw2 Jw2 jv0_21 jv1_21 jv2_21 hVw2
    refine g_aload_n C dMo_fitAt_21 rfl ?_
    refine g_iconst (v := Int32.ofInt (1)) C dMo_fitAt_22 (by decide) ?_
    refine s_callV_i (av := fun ad => [.int (Int32.ofInt (1))]) C dMo_fitAt_23 mfMo_refused mvMo_refused ln_Mo_283 h0 (by decide) rfl hVw2 (frL_le (by decide)) (cMo_refused hVw2.1 h0) rfl rfl (Nat.le_of_ble_eq_true rfl) ⟨Nat.le_of_ble_eq_true rfl, Nat.le_of_ble_eq_true rfl⟩ ⟨rfl, rfl⟩ ⟨Nat.zero_le _, Nat.zero_le _⟩ (fun Iw3 Jw3 hVw3 hFw3 z_23 p_23 => ?_)
    have tkw3_S_27 : (Iw3 S 27).toInt = (Iw2 S 27).toInt := by rw [(hFw3 S (by rw [hSk.2]; rfl)).1 27]
    have rz_23 := rg z_23
    try dsimp only at p_23
    have hk1_23 : Int32.toInt (Int32.ofInt (1)) = 1 := ofI (by decide)
    exact s_iret C E dMo_fitAt_26 ⟨Nat.zero_le _, Nat.zero_le _⟩ hVw3 (by (try dsimp only); omega)
  exact g_sub (jn_21  Iw1 J0 (by omega) (by omega) (by omega) hVw1) ⟨rfl, rfl, rfl, trivial⟩
set_option maxHeartbeats 4000000 in
set_option maxRecDepth 100000 in
theorem cMo_fitAt_G {P : List Nat} {K : Nat → Nat} {I0 : Nat → Nat → Int32} {O : Nat → Nat → Option Nat} {J0 : Nat → Nat → Int64} (hV : IV P K I0 O) {a0 : Nat} (h0 : a0 ∈ P ∧ K a0 = 10) {x1 : Int32} {x2 : Int32} {S : Nat} (hSo : O a0 16 = some S) (hSk : S ∈ P ∧ K S = 31) {TW : Nat} (hTWo : O a0 17 = some TW) (hTWk : TW ∈ P ∧ K TW = 49) {M : Nat} (hMo : O a0 3 = some M) (hMk : M ∈ P ∧ K M = 9) (hGM : GM I0 M) : Con yMo_fitAt bMo_fitAt 4 (some .int) ({ frames := 6, cells := 0, slots := 0, locals := 147 } : Room) P K I0 O J0 [.ref a0, .int x1, .int x2] (SPo frM 1 (fun _ I_ => (I_ a0 6).toInt = (I0 a0 6).toInt ∧ (I_ a0 18).toInt = (I0 a0 18).toInt ∧ (I_ S 27).toInt = (I0 S 27).toInt) P K I0 O J0) := by
  refine Con.ofG mfMo_fitAt (Nat.le_of_ble_eq_true rfl) ?_
  intro X C E
  have r1 := rg x1
  have r2 := rg x2
  have ost := hV.2 a0 h0.1 18
  rw [h0.2] at ost
  have ost : 0 ≤ (I0 a0 18).toInt ∧ (I0 a0 18).toInt ≤ 240 := ost
  have oS := hV.2 S hSk.1 27
  rw [hSk.2] at oS
  have oS : 0 ≤ (I0 S 27).toInt ∧ (I0 S 27).toInt ≤ 240 := oS
  have hV0 : SV frM P K O I0 J0 I0 J0 := SV.rf hV
  refine g_aload_n C dMo_fitAt_0 rfl ?_
  refine g_iconst (v := Int32.ofInt (0)) C dMo_fitAt_1 (by decide) ?_
  refine gt_puti C dMo_fitAt_2 fl_Mo_73 h0 hV0 rfl trivial rfl (Or.inl rfl) (fun Iw1 eIw1 hVw1 => ?_)
  have tkw1_a0_6 : (Iw1 a0 6).toInt = (I0 a0 6).toInt := by rw [eIw1, up2_ne _ _ (fun z => absurd z.2 (by decide))]
  have tkw1_a0_18 : (Iw1 a0 18).toInt = (I0 a0 18).toInt := by rw [eIw1, up2_ne _ _ (fun z => absurd z.2 (by decide))]
  have tkw1_S_27 : (Iw1 S 27).toInt = (I0 S 27).toInt := by rw [eIw1, up2_ne _ _ (fun z => by have q := hSk.2; rw [z.1, h0.2] at q; exact absurd q (by decide))]
  refine g_aload_n C dMo_fitAt_5 rfl ?_
  refine gt_getS C dMo_fitAt_6 fl_Mo_290 h0 hMo ?_
  refine g_ifnull C dMo_fitAt_9 ?_
  have jn_21 : ∀   (Iw2 : Nat → Nat → Int32) (Jw2 : Nat → Nat → Int64), (Int32.toInt (Iw2 a0 6) = Int32.toInt (I0 a0 6)) → (Int32.toInt (Iw2 a0 18) = Int32.toInt (I0 a0 18)) → (Int32.toInt (Iw2 S 27) = Int32.toInt (I0 S 27)) → SV frM P K O I0 J0 Iw2 Jw2 → GG X 4 P K Iw2 O Jw2 0 0 21 [(0, .ref a0), (1, .int x1), (2, .int x2)] [] := by
    intro Iw2 Jw2 jv0_21 jv1_21 jv2_21 hVw2
    refine g_aload_n C dMo_fitAt_21 rfl ?_
    refine g_iconst (v := Int32.ofInt (1)) C dMo_fitAt_22 (by decide) ?_
    refine s_callV_i (av := fun ad => [.int (Int32.ofInt (1))]) C dMo_fitAt_23 mfMo_refused mvMo_refused ln_Mo_283 h0 (by decide) rfl hVw2 (frL_le (by decide)) (cMo_refused hVw2.1 h0) rfl rfl (Nat.le_of_ble_eq_true rfl) ⟨Nat.le_of_ble_eq_true rfl, Nat.le_of_ble_eq_true rfl⟩ ⟨rfl, rfl⟩ ⟨Nat.zero_le _, Nat.zero_le _⟩ (fun Iw3 Jw3 hVw3 hFw3 z_23 p_23 => ?_)
    have tkw3_S_27 : (Iw3 S 27).toInt = (Iw2 S 27).toInt := by rw [(hFw3 S (by rw [hSk.2]; rfl)).1 27]
    have rz_23 := rg z_23
    try dsimp only at p_23
    have hk1_23 : Int32.toInt (Int32.ofInt (1)) = 1 := ofI (by decide)
    exact s_iret C E dMo_fitAt_26 ⟨Nat.zero_le _, Nat.zero_le _⟩ hVw3 (by (try dsimp only); omega)
  refine g_iload_n C dMo_fitAt_12 rfl ?_
  refine g_iconst (v := Int32.ofInt (0)) C dMo_fitAt_13 (by decide) ?_
  refine g_iconst (v := Int32.ofInt (2)) C dMo_fitAt_14 (by decide) ?_
  refine s_callS_zp (av := fun ad => [.int x2, .int (Int32.ofInt (0)), .int (Int32.ofInt (2))]) C dMo_fitAt_15 mfMo_in msMo_in ln_Mo_149 (cMo_in hVw1.1 ) rfl rfl (Nat.le_of_ble_eq_true rfl) ⟨Nat.le_of_ble_eq_true rfl, Nat.le_of_ble_eq_true rfl⟩ ⟨rfl, rfl⟩ ⟨Nat.zero_le _, Nat.zero_le _⟩ (fun z_15 b_15 p_15 => ?_)
  have rz_15 := rg z_15
  have u_15 := b_15
  unfold B01 at u_15
  try dsimp only at p_15
  have hk1_15 : Int32.toInt (Int32.ofInt (0)) = 0 := ofI (by decide)
  have hk2_15 : Int32.toInt (Int32.ofInt (2)) = 2 := ofI (by decide)
  refine gt_if_ne 27 C dMo_fitAt_18 (by decide) rfl (fun c_18 => ?_) (fun c_18 => ?_)
  · skip
    refine g_aload_n C dMo_fitAt_27 rfl ?_
    refine g_iconst (v := Int32.ofInt (-1)) C dMo_fitAt_28 (by decide) ?_
    refine g_iconst (v := Int32.ofInt (-1)) C dMo_fitAt_29 (by decide) ?_
    refine s_callV_i (av := fun ad => [.int (Int32.ofInt (-1)), .int (Int32.ofInt (-1))]) C dMo_fitAt_30 mfMo_allFits mvMo_allFits ln_Mo_360 h0 (by decide) rfl hVw1 (frL_le (by decide)) (cMo_allFits_G hVw1.1 h0 hTWo hTWk hMo hMk (hGM.keep (hVw1.2 M (by rw [hMk.2]; rfl)).1)) rfl rfl (Nat.le_of_ble_eq_true rfl) ⟨Nat.le_of_ble_eq_true rfl, Nat.le_of_ble_eq_true rfl⟩ ⟨rfl, rfl⟩ ⟨Nat.zero_le _, Nat.zero_le _⟩ (fun Iw5 Jw5 hVw5 hFw5 z_30 p_30 => ?_)
    have tkw5_a0_6 : (Iw5 a0 6).toInt = (Iw1 a0 6).toInt := by rw [(hFw5 a0 (by rw [h0.2]; rfl)).1 6]
    have tkw5_a0_18 : (Iw5 a0 18).toInt = (Iw1 a0 18).toInt := by rw [(hFw5 a0 (by rw [h0.2]; rfl)).1 18]
    have tkw5_S_27 : (Iw5 S 27).toInt = (Iw1 S 27).toInt := by rw [(hFw5 S (by rw [hSk.2]; rfl)).1 27]
    have rz_30 := rg z_30
    try dsimp only at p_30
    have hk1_30 : Int32.toInt (Int32.ofInt (-1)) = -1 := ofI (by decide)
    have hk2_30 : Int32.toInt (Int32.ofInt (-1)) = -1 := ofI (by decide)
    refine g_istore_n (i := 3) C dMo_fitAt_33 rfl (by decide) ?_
    refine g_iload_n C dMo_fitAt_34 rfl ?_
    have jn_60 : ∀   (Iw6 : Nat → Nat → Int32) (Jw6 : Nat → Nat → Int64), (Int32.toInt (Iw6 a0 6) = Int32.toInt (I0 a0 6)) → (Int32.toInt (Iw6 a0 18) = Int32.toInt (I0 a0 18)) → (Int32.toInt (Iw6 S 27) = Int32.toInt (I0 S 27)) → SV frM P K O I0 J0 Iw6 Jw6 → GG X 4 P K Iw6 O Jw6 0 0 60 [(0, .ref a0), (1, .int x1), (2, .int x2), (3, .int z_30)] [] := by
      intro Iw6 Jw6 jv0_60 jv1_60 jv2_60 hVw6
      refine g_aload_n C dMo_fitAt_60 rfl ?_
      refine g_iconst (v := Int32.ofInt (1)) C dMo_fitAt_61 (by decide) ?_
      refine s_callV_i (av := fun ad => [.int (Int32.ofInt (1))]) C dMo_fitAt_62 mfMo_refused mvMo_refused ln_Mo_283 h0 (by decide) rfl hVw6 (frL_le (by decide)) (cMo_refused hVw6.1 h0) rfl rfl (Nat.le_of_ble_eq_true rfl) ⟨Nat.le_of_ble_eq_true rfl, Nat.le_of_ble_eq_true rfl⟩ ⟨rfl, rfl⟩ ⟨Nat.zero_le _, Nat.zero_le _⟩ (fun Iw7 Jw7 hVw7 hFw7 z_62 p_62 => ?_)
      have tkw7_S_27 : (Iw7 S 27).toInt = (Iw6 S 27).toInt := by rw [(hFw7 S (by rw [hSk.2]; rfl)).1 27]
      have rz_62 := rg z_62
      try dsimp only at p_62
      have hk1_62 : Int32.toInt (Int32.ofInt (1)) = 1 := ofI (by decide)
      exact s_iret C E dMo_fitAt_65 ⟨Nat.zero_le _, Nat.zero_le _⟩ hVw7 (by (try dsimp only); omega)
    refine gt_if_lt 60 C dMo_fitAt_35 (by decide) rfl (fun c_35 => ?_) (fun c_35 => ?_)
    · skip
      exact g_sub (jn_60  Iw5 Jw5 (by omega) (by omega) (by omega) hVw5) ⟨rfl, rfl, rfl, rfl, trivial⟩
    · skip
      refine g_iload_n C dMo_fitAt_38 rfl ?_
      refine g_iload_n C dMo_fitAt_39 rfl ?_
      refine gt_icmp_ge 60 C dMo_fitAt_40 (by decide) rfl rfl (fun c_40 => ?_) (fun c_40 => ?_)
      · skip
        exact g_sub (jn_60  Iw5 Jw5 (by omega) (by omega) (by omega) hVw5) ⟨rfl, rfl, rfl, rfl, trivial⟩
      · skip
        refine g_aload_n C dMo_fitAt_43 rfl ?_
        refine g_aload_n C dMo_fitAt_44 rfl ?_
        refine gt_getr C dMo_fitAt_45 fl_Mo_48 h0 hVw5.1.1 rfl (fun b_45 q_45 hb_45 => ?_)
        refine g_iload_n C dMo_fitAt_48 rfl ?_
        refine gt_iald C dMo_fitAt_49 hb_45 (by decide) rfl rfl (n := 100) rfl (by omega) ?_
        refine g_iload_n C dMo_fitAt_50 rfl ?_
        refine s_callS_ip (av := fun ad => [.int (Iw5 b_45 x1.toNatClampNeg), .int x2]) C dMo_fitAt_51 mfMo_partOf msMo_partOf ln_Mo_363 (cMo_partOf hVw5.1 ) rfl rfl (Nat.le_of_ble_eq_true rfl) ⟨Nat.le_of_ble_eq_true rfl, Nat.le_of_ble_eq_true rfl⟩ ⟨rfl, rfl⟩ ⟨Nat.zero_le _, Nat.zero_le _⟩ (fun z_51 p_51 => ?_)
        have rz_51 := rg z_51
        refine s_callV_i (av := fun ad => [.int z_51]) C dMo_fitAt_54 mfMo_done mvMo_done ln_Mo_302 h0 (by decide) rfl hVw5 (frL_le (by decide)) (cMo_done hVw5.1 h0) rfl rfl (Nat.le_of_ble_eq_true rfl) ⟨Nat.le_of_ble_eq_true rfl, Nat.le_of_ble_eq_true rfl⟩ ⟨rfl, rfl⟩ ⟨Nat.zero_le _, Nat.zero_le _⟩ (fun Iw9 Jw9 hVw9 hFw9 z_54 p_54 => ?_)
        have tkw9_S_27 : (Iw9 S 27).toInt = (Iw5 S 27).toInt := by rw [(hFw9 S (by rw [hSk.2]; rfl)).1 27]
        have rz_54 := rg z_54
        try dsimp only at p_54
        refine g_goto 65 C dMo_fitAt_57 (by decide) ?_
        exact s_iret C E dMo_fitAt_65 ⟨Nat.zero_le _, Nat.zero_le _⟩ hVw9 (by (try dsimp only); omega)
  · skip
    exact g_sub (jn_21  Iw1 J0 (by omega) (by omega) (by omega) hVw1) ⟨rfl, rfl, rfl, trivial⟩
set_option maxHeartbeats 4000000 in
set_option maxRecDepth 100000 in
theorem cMo_certain_Z {P : List Nat} {K : Nat → Nat} {I0 : Nat → Nat → Int32} {O : Nat → Nat → Option Nat} {J0 : Nat → Nat → Int64} (hV : IV P K I0 O) {a0 : Nat} (h0 : a0 ∈ P ∧ K a0 = 10) {x1 : Int32} {S : Nat} (hSo : O a0 16 = some S) (hSk : S ∈ P ∧ K S = 31) {TW : Nat} (hTWo : O a0 17 = some TW) (hTWk : TW ∈ P ∧ K TW = 49) (hMn : O a0 3 = none) : Con yMo_certain bMo_certain 4 (some .int) ({ frames := 1, cells := 0, slots := 0, locals := 21 } : Room) P K I0 O J0 [.ref a0, .int x1] (SPo frM 1 (fun _ I_ => (I_ a0 6).toInt = (I0 a0 6).toInt ∧ (I_ a0 18).toInt = (I0 a0 18).toInt ∧ (I_ S 27).toInt = (I0 S 27).toInt) P K I0 O J0) := by
  refine Con.ofG mfMo_certain (Nat.le_of_ble_eq_true rfl) ?_
  intro X C E
  have r1 := rg x1
  have ost := hV.2 a0 h0.1 18
  rw [h0.2] at ost
  have ost : 0 ≤ (I0 a0 18).toInt ∧ (I0 a0 18).toInt ≤ 240 := ost
  have oS := hV.2 S hSk.1 27
  rw [hSk.2] at oS
  have oS : 0 ≤ (I0 S 27).toInt ∧ (I0 S 27).toInt ≤ 240 := oS
  have hV0 : SV frM P K O I0 J0 I0 J0 := SV.rf hV
  refine g_aload_n C dMo_certain_0 rfl ?_
  refine g_iconst (v := Int32.ofInt (0)) C dMo_certain_1 (by decide) ?_
  refine gt_puti C dMo_certain_2 fl_Mo_73 h0 hV0 rfl trivial rfl (Or.inl rfl) (fun Iw1 eIw1 hVw1 => ?_)
  have tkw1_a0_6 : (Iw1 a0 6).toInt = (I0 a0 6).toInt := by rw [eIw1, up2_ne _ _ (fun z => absurd z.2 (by decide))]
  have tkw1_a0_18 : (Iw1 a0 18).toInt = (I0 a0 18).toInt := by rw [eIw1, up2_ne _ _ (fun z => absurd z.2 (by decide))]
  have tkw1_S_27 : (Iw1 S 27).toInt = (I0 S 27).toInt := by rw [eIw1, up2_ne _ _ (fun z => by have q := hSk.2; rw [z.1, h0.2] at q; exact absurd q (by decide))]
  refine g_aload_n C dMo_certain_5 rfl ?_
  refine gt_getN C dMo_certain_6 fl_Mo_290 h0 hMn ?_
  refine g_ifnullN 21 C dMo_certain_9 (by decide) ?_
  have jn_21 : ∀   (Iw2 : Nat → Nat → Int32) (Jw2 : Nat → Nat → Int64), (Int32.toInt (Iw2 a0 6) = Int32.toInt (I0 a0 6)) → (Int32.toInt (Iw2 a0 18) = Int32.toInt (I0 a0 18)) → (Int32.toInt (Iw2 S 27) = Int32.toInt (I0 S 27)) → SV frM P K O I0 J0 Iw2 Jw2 → GG X 4 P K Iw2 O Jw2 0 0 21 [(0, .ref a0), (1, .int x1)] [] := by
    intro Iw2 Jw2 jv0_21 jv1_21 jv2_21 hVw2
    refine g_aload_n C dMo_certain_21 rfl ?_
    refine g_iconst (v := Int32.ofInt (1)) C dMo_certain_22 (by decide) ?_
    refine s_callV_i (av := fun ad => [.int (Int32.ofInt (1))]) C dMo_certain_23 mfMo_refused mvMo_refused ln_Mo_283 h0 (by decide) rfl hVw2 (frL_le (by decide)) (cMo_refused hVw2.1 h0) rfl rfl (Nat.le_of_ble_eq_true rfl) ⟨Nat.le_of_ble_eq_true rfl, Nat.le_of_ble_eq_true rfl⟩ ⟨rfl, rfl⟩ ⟨Nat.zero_le _, Nat.zero_le _⟩ (fun Iw3 Jw3 hVw3 hFw3 z_23 p_23 => ?_)
    have tkw3_S_27 : (Iw3 S 27).toInt = (Iw2 S 27).toInt := by rw [(hFw3 S (by rw [hSk.2]; rfl)).1 27]
    have rz_23 := rg z_23
    try dsimp only at p_23
    have hk1_23 : Int32.toInt (Int32.ofInt (1)) = 1 := ofI (by decide)
    exact s_iret C E dMo_certain_26 ⟨Nat.zero_le _, Nat.zero_le _⟩ hVw3 (by (try dsimp only); omega)
  exact g_sub (jn_21  Iw1 J0 (by omega) (by omega) (by omega) hVw1) ⟨rfl, rfl, trivial⟩
set_option maxHeartbeats 4000000 in
set_option maxRecDepth 100000 in
theorem cMo_certain_G {P : List Nat} {K : Nat → Nat} {I0 : Nat → Nat → Int32} {O : Nat → Nat → Option Nat} {J0 : Nat → Nat → Int64} (hV : IV P K I0 O) {a0 : Nat} (h0 : a0 ∈ P ∧ K a0 = 10) {x1 : Int32} {S : Nat} (hSo : O a0 16 = some S) (hSk : S ∈ P ∧ K S = 31) {TW : Nat} (hTWo : O a0 17 = some TW) (hTWk : TW ∈ P ∧ K TW = 49) {M : Nat} (hMo : O a0 3 = some M) (hMk : M ∈ P ∧ K M = 9) (hGM : GM I0 M) : Con yMo_certain bMo_certain 4 (some .int) ({ frames := 6, cells := 0, slots := 0, locals := 147 } : Room) P K I0 O J0 [.ref a0, .int x1] (SPo frM 1 (fun _ I_ => (I_ a0 6).toInt = (I0 a0 6).toInt ∧ (I_ a0 18).toInt = (I0 a0 18).toInt ∧ (I_ S 27).toInt = (I0 S 27).toInt) P K I0 O J0) := by
  refine Con.ofG mfMo_certain (Nat.le_of_ble_eq_true rfl) ?_
  intro X C E
  have r1 := rg x1
  have ost := hV.2 a0 h0.1 18
  rw [h0.2] at ost
  have ost : 0 ≤ (I0 a0 18).toInt ∧ (I0 a0 18).toInt ≤ 240 := ost
  have oS := hV.2 S hSk.1 27
  rw [hSk.2] at oS
  have oS : 0 ≤ (I0 S 27).toInt ∧ (I0 S 27).toInt ≤ 240 := oS
  have hV0 : SV frM P K O I0 J0 I0 J0 := SV.rf hV
  refine g_aload_n C dMo_certain_0 rfl ?_
  refine g_iconst (v := Int32.ofInt (0)) C dMo_certain_1 (by decide) ?_
  refine gt_puti C dMo_certain_2 fl_Mo_73 h0 hV0 rfl trivial rfl (Or.inl rfl) (fun Iw1 eIw1 hVw1 => ?_)
  have tkw1_a0_6 : (Iw1 a0 6).toInt = (I0 a0 6).toInt := by rw [eIw1, up2_ne _ _ (fun z => absurd z.2 (by decide))]
  have tkw1_a0_18 : (Iw1 a0 18).toInt = (I0 a0 18).toInt := by rw [eIw1, up2_ne _ _ (fun z => absurd z.2 (by decide))]
  have tkw1_S_27 : (Iw1 S 27).toInt = (I0 S 27).toInt := by rw [eIw1, up2_ne _ _ (fun z => by have q := hSk.2; rw [z.1, h0.2] at q; exact absurd q (by decide))]
  refine g_aload_n C dMo_certain_5 rfl ?_
  refine gt_getS C dMo_certain_6 fl_Mo_290 h0 hMo ?_
  refine g_ifnull C dMo_certain_9 ?_
  have jn_21 : ∀   (Iw2 : Nat → Nat → Int32) (Jw2 : Nat → Nat → Int64), (Int32.toInt (Iw2 a0 6) = Int32.toInt (I0 a0 6)) → (Int32.toInt (Iw2 a0 18) = Int32.toInt (I0 a0 18)) → (Int32.toInt (Iw2 S 27) = Int32.toInt (I0 S 27)) → SV frM P K O I0 J0 Iw2 Jw2 → GG X 4 P K Iw2 O Jw2 0 0 21 [(0, .ref a0), (1, .int x1)] [] := by
    intro Iw2 Jw2 jv0_21 jv1_21 jv2_21 hVw2
    refine g_aload_n C dMo_certain_21 rfl ?_
    refine g_iconst (v := Int32.ofInt (1)) C dMo_certain_22 (by decide) ?_
    refine s_callV_i (av := fun ad => [.int (Int32.ofInt (1))]) C dMo_certain_23 mfMo_refused mvMo_refused ln_Mo_283 h0 (by decide) rfl hVw2 (frL_le (by decide)) (cMo_refused hVw2.1 h0) rfl rfl (Nat.le_of_ble_eq_true rfl) ⟨Nat.le_of_ble_eq_true rfl, Nat.le_of_ble_eq_true rfl⟩ ⟨rfl, rfl⟩ ⟨Nat.zero_le _, Nat.zero_le _⟩ (fun Iw3 Jw3 hVw3 hFw3 z_23 p_23 => ?_)
    have tkw3_S_27 : (Iw3 S 27).toInt = (Iw2 S 27).toInt := by rw [(hFw3 S (by rw [hSk.2]; rfl)).1 27]
    have rz_23 := rg z_23
    try dsimp only at p_23
    have hk1_23 : Int32.toInt (Int32.ofInt (1)) = 1 := ofI (by decide)
    exact s_iret C E dMo_certain_26 ⟨Nat.zero_le _, Nat.zero_le _⟩ hVw3 (by (try dsimp only); omega)
  refine g_iload_n C dMo_certain_12 rfl ?_
  refine g_iconst (v := Int32.ofInt (0)) C dMo_certain_13 (by decide) ?_
  refine g_iconst (v := Int32.ofInt (2)) C dMo_certain_14 (by decide) ?_
  refine s_callS_zp (av := fun ad => [.int x1, .int (Int32.ofInt (0)), .int (Int32.ofInt (2))]) C dMo_certain_15 mfMo_in msMo_in ln_Mo_149 (cMo_in hVw1.1 ) rfl rfl (Nat.le_of_ble_eq_true rfl) ⟨Nat.le_of_ble_eq_true rfl, Nat.le_of_ble_eq_true rfl⟩ ⟨rfl, rfl⟩ ⟨Nat.zero_le _, Nat.zero_le _⟩ (fun z_15 b_15 p_15 => ?_)
  have rz_15 := rg z_15
  have u_15 := b_15
  unfold B01 at u_15
  try dsimp only at p_15
  have hk1_15 : Int32.toInt (Int32.ofInt (0)) = 0 := ofI (by decide)
  have hk2_15 : Int32.toInt (Int32.ofInt (2)) = 2 := ofI (by decide)
  refine gt_if_ne 27 C dMo_certain_18 (by decide) rfl (fun c_18 => ?_) (fun c_18 => ?_)
  · skip
    refine g_aload_n C dMo_certain_27 rfl ?_
    refine g_iconst (v := Int32.ofInt (-1)) C dMo_certain_28 (by decide) ?_
    refine g_iconst (v := Int32.ofInt (-1)) C dMo_certain_29 (by decide) ?_
    refine s_callV_i (av := fun ad => [.int (Int32.ofInt (-1)), .int (Int32.ofInt (-1))]) C dMo_certain_30 mfMo_allFits mvMo_allFits ln_Mo_360 h0 (by decide) rfl hVw1 (frL_le (by decide)) (cMo_allFits_G hVw1.1 h0 hTWo hTWk hMo hMk (hGM.keep (hVw1.2 M (by rw [hMk.2]; rfl)).1)) rfl rfl (Nat.le_of_ble_eq_true rfl) ⟨Nat.le_of_ble_eq_true rfl, Nat.le_of_ble_eq_true rfl⟩ ⟨rfl, rfl⟩ ⟨Nat.zero_le _, Nat.zero_le _⟩ (fun Iw5 Jw5 hVw5 hFw5 z_30 p_30 => ?_)
    have tkw5_a0_6 : (Iw5 a0 6).toInt = (Iw1 a0 6).toInt := by rw [(hFw5 a0 (by rw [h0.2]; rfl)).1 6]
    have tkw5_a0_18 : (Iw5 a0 18).toInt = (Iw1 a0 18).toInt := by rw [(hFw5 a0 (by rw [h0.2]; rfl)).1 18]
    have tkw5_S_27 : (Iw5 S 27).toInt = (Iw1 S 27).toInt := by rw [(hFw5 S (by rw [hSk.2]; rfl)).1 27]
    have rz_30 := rg z_30
    try dsimp only at p_30
    have hk1_30 : Int32.toInt (Int32.ofInt (-1)) = -1 := ofI (by decide)
    have hk2_30 : Int32.toInt (Int32.ofInt (-1)) = -1 := ofI (by decide)
    refine g_istore_n (i := 2) C dMo_certain_33 rfl (by decide) ?_
    refine g_iload_n C dMo_certain_34 rfl ?_
    refine gt_if_ne 45 C dMo_certain_35 (by decide) rfl (fun c_35 => ?_) (fun c_35 => ?_)
    · skip
      refine g_iconst (v := Int32.ofInt (1)) C dMo_certain_45 (by decide) ?_
      refine g_istore_n (i := 3) C dMo_certain_46 rfl (by decide) ?_
      have lp_47 : ∀ (nn_47 : Nat) (x3_47 : Int32) (Iw6 : Nat → Nat → Int32) (Jw6 : Nat → Nat → Int64), Int.toNat (100 - x3_47.toInt) = nn_47 → (1 ≤ Int32.toInt x3_47 ∧ Int32.toInt x3_47 ≤ 100) → (Int32.toInt (Iw6 a0 6) = Int32.toInt (I0 a0 6)) → (Int32.toInt (Iw6 a0 18) = Int32.toInt (I0 a0 18)) → (Int32.toInt (Iw6 S 27) = Int32.toInt (I0 S 27)) → SV frM P K O I0 J0 Iw6 Jw6 → GG X 4 P K Iw6 O Jw6 0 0 47 [(0, .ref a0), (1, .int x1), (2, .int z_30), (3, .int x3_47)] [] := by
        intro nn_47
        induction nn_47 using Nat.strongRecOn with
        | ind nn_47 ih_47 =>
        intro x3_47 Iw6 Jw6 hn_47 iv0_47 iv1_47 iv2_47 iv3_47 hVw6
        have rg3_47 := rg x3_47
        refine g_iload_n C dMo_certain_47 rfl ?_
        refine g_iload_n C dMo_certain_48 rfl ?_
        refine gt_icmp_ge 88 C dMo_certain_49 (by decide) rfl rfl (fun c_49 => ?_) (fun c_49 => ?_)
        · skip
          refine g_aload_n C dMo_certain_88 rfl ?_
          refine g_aload_n C dMo_certain_89 rfl ?_
          refine gt_getr C dMo_certain_90 fl_Mo_48 h0 hVw6.1.1 rfl (fun b_90 q_90 hb_90 => ?_)
          refine g_iconst (v := Int32.ofInt (0)) C dMo_certain_93 (by decide) ?_
          refine gt_ialdc (c := 0) C dMo_certain_94 hb_90 (by decide) rfl (ofI (by decide)) (n := 100) rfl (by decide) (by decide) ?_
          refine g_iload_n C dMo_certain_95 rfl ?_
          refine s_callS_ip (av := fun ad => [.int (Iw6 b_90 0), .int x1]) C dMo_certain_96 mfMo_partOf msMo_partOf ln_Mo_363 (cMo_partOf hVw6.1 ) rfl rfl (Nat.le_of_ble_eq_true rfl) ⟨Nat.le_of_ble_eq_true rfl, Nat.le_of_ble_eq_true rfl⟩ ⟨rfl, rfl⟩ ⟨Nat.zero_le _, Nat.zero_le _⟩ (fun z_96 p_96 => ?_)
          have rz_96 := rg z_96
          refine s_callV_i (av := fun ad => [.int z_96]) C dMo_certain_99 mfMo_done mvMo_done ln_Mo_302 h0 (by decide) rfl hVw6 (frL_le (by decide)) (cMo_done hVw6.1 h0) rfl rfl (Nat.le_of_ble_eq_true rfl) ⟨Nat.le_of_ble_eq_true rfl, Nat.le_of_ble_eq_true rfl⟩ ⟨rfl, rfl⟩ ⟨Nat.zero_le _, Nat.zero_le _⟩ (fun Iw8 Jw8 hVw8 hFw8 z_99 p_99 => ?_)
          have tkw8_S_27 : (Iw8 S 27).toInt = (Iw6 S 27).toInt := by rw [(hFw8 S (by rw [hSk.2]; rfl)).1 27]
          have rz_99 := rg z_99
          try dsimp only at p_99
          exact s_iret C E dMo_certain_102 ⟨Nat.zero_le _, Nat.zero_le _⟩ hVw8 (by (try dsimp only); omega)
        · skip
          refine g_aload_n C dMo_certain_52 rfl ?_
          refine gt_getr C dMo_certain_53 fl_Mo_48 h0 hVw6.1.1 rfl (fun b_53 q_53 hb_53 => ?_)
          refine g_iload_n C dMo_certain_56 rfl ?_
          refine gt_iald C dMo_certain_57 hb_53 (by decide) rfl rfl (n := 100) rfl (by omega) ?_
          refine g_iload_n C dMo_certain_58 rfl ?_
          refine s_callS_ip (av := fun ad => [.int (Iw6 b_53 x3_47.toNatClampNeg), .int x1]) C dMo_certain_59 mfMo_partOf msMo_partOf ln_Mo_363 (cMo_partOf hVw6.1 ) rfl rfl (Nat.le_of_ble_eq_true rfl) ⟨Nat.le_of_ble_eq_true rfl, Nat.le_of_ble_eq_true rfl⟩ ⟨rfl, rfl⟩ ⟨Nat.zero_le _, Nat.zero_le _⟩ (fun z_59 p_59 => ?_)
          have rz_59 := rg z_59
          refine g_aload_n C dMo_certain_62 rfl ?_
          refine gt_getS C dMo_certain_63 fl_Mo_48 h0 q_53 ?_
          refine g_iconst (v := Int32.ofInt (0)) C dMo_certain_66 (by decide) ?_
          refine gt_ialdc (c := 0) C dMo_certain_67 hb_53 (by decide) rfl (ofI (by decide)) (n := 100) rfl (by decide) (by decide) ?_
          refine g_iload_n C dMo_certain_68 rfl ?_
          refine s_callS_ip (av := fun ad => [.int (Iw6 b_53 0), .int x1]) C dMo_certain_69 mfMo_partOf msMo_partOf ln_Mo_363 (cMo_partOf hVw6.1 ) rfl rfl (Nat.le_of_ble_eq_true rfl) ⟨Nat.le_of_ble_eq_true rfl, Nat.le_of_ble_eq_true rfl⟩ ⟨rfl, rfl⟩ ⟨Nat.zero_le _, Nat.zero_le _⟩ (fun z_69 p_69 => ?_)
          have rz_69 := rg z_69
          refine gt_icmp_eq 82 C dMo_certain_72 (by decide) rfl rfl (fun c_72 => ?_) (fun c_72 => ?_)
          · skip
            first | refine n_iinc C dMo_certain_82 rfl rfl (by decide) (by decide) (by omega) (fun z_82 e_82 => ?_) | refine a_iinc C dMo_certain_82 rfl (by decide) (fun z_82 => ?_)
            refine g_goto 47 C dMo_certain_85 (by decide) ?_
            exact g_sub (ih_47 _ (by omega) z_82 Iw6 Jw6 rfl (by omega) (by omega) (by omega) (by omega) hVw6) ⟨rfl, rfl, rfl, rfl, trivial⟩
          · skip
            refine g_aload_n C dMo_certain_75 rfl ?_
            refine g_bipush (v := Int32.ofInt (-2)) C dMo_certain_76 (by decide) ?_
            refine s_callV_i (av := fun ad => [.int (Int32.ofInt (-2))]) C dMo_certain_78 mfMo_done mvMo_done ln_Mo_302 h0 (by decide) rfl hVw6 (frL_le (by decide)) (cMo_done hVw6.1 h0) rfl rfl (Nat.le_of_ble_eq_true rfl) ⟨Nat.le_of_ble_eq_true rfl, Nat.le_of_ble_eq_true rfl⟩ ⟨rfl, rfl⟩ ⟨Nat.zero_le _, Nat.zero_le _⟩ (fun Iw11 Jw11 hVw11 hFw11 z_78 p_78 => ?_)
            have tkw11_S_27 : (Iw11 S 27).toInt = (Iw6 S 27).toInt := by rw [(hFw11 S (by rw [hSk.2]; rfl)).1 27]
            have rz_78 := rg z_78
            try dsimp only at p_78
            have hk1_78 : Int32.toInt (Int32.ofInt (-2)) = -2 := ofI (by decide)
            exact s_iret C E dMo_certain_81 ⟨Nat.zero_le _, Nat.zero_le _⟩ hVw11 (by (try dsimp only); omega)
      exact g_sub (lp_47 _ (Int32.ofInt (1)) Iw5 Jw5 rfl (by have hci : Int32.toInt (Int32.ofInt (1)) = 1 := ofI (by decide); omega) (by omega) (by omega) (by omega) hVw5) ⟨rfl, rfl, rfl, rfl, trivial⟩
    · skip
      refine g_aload_n C dMo_certain_38 rfl ?_
      refine g_bipush (v := Int32.ofInt (6)) C dMo_certain_39 (by decide) ?_
      refine s_callV_i (av := fun ad => [.int (Int32.ofInt (6))]) C dMo_certain_41 mfMo_refused mvMo_refused ln_Mo_283 h0 (by decide) rfl hVw5 (frL_le (by decide)) (cMo_refused hVw5.1 h0) rfl rfl (Nat.le_of_ble_eq_true rfl) ⟨Nat.le_of_ble_eq_true rfl, Nat.le_of_ble_eq_true rfl⟩ ⟨rfl, rfl⟩ ⟨Nat.zero_le _, Nat.zero_le _⟩ (fun Iw12 Jw12 hVw12 hFw12 z_41 p_41 => ?_)
      have tkw12_S_27 : (Iw12 S 27).toInt = (Iw5 S 27).toInt := by rw [(hFw12 S (by rw [hSk.2]; rfl)).1 27]
      have rz_41 := rg z_41
      try dsimp only at p_41
      have hk1_41 : Int32.toInt (Int32.ofInt (6)) = 6 := ofI (by decide)
      exact s_iret C E dMo_certain_44 ⟨Nat.zero_le _, Nat.zero_le _⟩ hVw12 (by (try dsimp only); omega)
  · skip
    exact g_sub (jn_21  Iw1 J0 (by omega) (by omega) (by omega) hVw1) ⟨rfl, rfl, trivial⟩
set_option maxHeartbeats 4000000 in
set_option maxRecDepth 100000 in
theorem cMo_guess_Z {P : List Nat} {K : Nat → Nat} {I0 : Nat → Nat → Int32} {O : Nat → Nat → Option Nat} {J0 : Nat → Nat → Int64} (hV : IV P K I0 O) {a0 : Nat} (h0 : a0 ∈ P ∧ K a0 = 10) {x1 : Int32} {x2 : Int32} {x3 : Int32} {x4 : Int32} {x5 : Int32} {S : Nat} (hSo : O a0 16 = some S) (hSk : S ∈ P ∧ K S = 31) {TW : Nat} (hTWo : O a0 17 = some TW) (hTWk : TW ∈ P ∧ K TW = 49) (hMn : O a0 3 = none) : Con yMo_guess bMo_guess 7 (some .int) ({ frames := 2, cells := 0, slots := 0, locals := 44 } : Room) P K I0 O J0 [.ref a0, .int x1, .int x2, .int x3, .int x4, .int x5] (SPo frM 1 (fun _ I_ => (I_ a0 6).toInt = (I0 a0 6).toInt ∧ (I_ a0 18).toInt = (I0 a0 18).toInt ∧ (I_ S 27).toInt = (I0 S 27).toInt) P K I0 O J0) := by
  refine Con.ofG mfMo_guess (Nat.le_of_ble_eq_true rfl) ?_
  intro X C E
  have r1 := rg x1
  have r2 := rg x2
  have r3 := rg x3
  have r4 := rg x4
  have r5 := rg x5
  have ost := hV.2 a0 h0.1 18
  rw [h0.2] at ost
  have ost : 0 ≤ (I0 a0 18).toInt ∧ (I0 a0 18).toInt ≤ 240 := ost
  have oS := hV.2 S hSk.1 27
  rw [hSk.2] at oS
  have oS : 0 ≤ (I0 S 27).toInt ∧ (I0 S 27).toInt ≤ 240 := oS
  have hV0 : SV frM P K O I0 J0 I0 J0 := SV.rf hV
  refine g_aload_n C dMo_guess_0 rfl ?_
  refine g_iconst (v := Int32.ofInt (0)) C dMo_guess_1 (by decide) ?_
  refine gt_puti C dMo_guess_2 fl_Mo_73 h0 hV0 rfl trivial rfl (Or.inl rfl) (fun Iw1 eIw1 hVw1 => ?_)
  have tkw1_TW_27 : (Iw1 TW 27).toInt = (I0 TW 27).toInt := by rw [eIw1, up2_ne _ _ (fun z => by have q := hTWk.2; rw [z.1, h0.2] at q; exact absurd q (by decide))]
  have tkw1_a0_6 : (Iw1 a0 6).toInt = (I0 a0 6).toInt := by rw [eIw1, up2_ne _ _ (fun z => absurd z.2 (by decide))]
  have tkw1_a0_18 : (Iw1 a0 18).toInt = (I0 a0 18).toInt := by rw [eIw1, up2_ne _ _ (fun z => absurd z.2 (by decide))]
  have tkw1_S_27 : (Iw1 S 27).toInt = (I0 S 27).toInt := by rw [eIw1, up2_ne _ _ (fun z => by have q := hSk.2; rw [z.1, h0.2] at q; exact absurd q (by decide))]
  refine g_aload_n C dMo_guess_5 rfl ?_
  refine g_iload C dMo_guess_6 rfl ?_
  refine g_iload C dMo_guess_8 rfl ?_
  refine s_callV_zp (av := fun ad => [.int x4, .int x5]) C dMo_guess_10 mfMo_isWhat mvMo_isWhat ln_Mo_338 h0 (by decide) rfl (cMo_isWhat_Z hVw1.1 h0 hMn) rfl rfl (Nat.le_of_ble_eq_true rfl) ⟨Nat.le_of_ble_eq_true rfl, Nat.le_of_ble_eq_true rfl⟩ ⟨rfl, rfl⟩ ⟨Nat.zero_le _, Nat.zero_le _⟩ (fun z_10 b_10 p_10 => ?_)
  have rz_10 := rg z_10
  have u_10 := b_10
  unfold B01 at u_10
  try dsimp only at p_10
  refine gt_if_ne 22 C dMo_guess_13 (by decide) rfl (fun c_13 => ?_) (fun c_13 => ?_)
  · skip
    refine g_iload_n C dMo_guess_22 rfl ?_
    refine g_iload_n C dMo_guess_23 rfl ?_
    refine g_iload_n C dMo_guess_24 rfl ?_
    refine s_callS_zp (av := fun ad => [.int x1, .int x2, .int x3]) C dMo_guess_25 mfMo_isStart msMo_isStart ln_Mo_366 (cMo_isStart hVw1.1 ) rfl rfl (Nat.le_of_ble_eq_true rfl) ⟨Nat.le_of_ble_eq_true rfl, Nat.le_of_ble_eq_true rfl⟩ ⟨rfl, rfl⟩ ⟨Nat.zero_le _, Nat.zero_le _⟩ (fun z_25 b_25 p_25 => ?_)
    have rz_25 := rg z_25
    have u_25 := b_25
    unfold B01 at u_25
    try dsimp only at p_25
    refine gt_if_ne 37 C dMo_guess_28 (by decide) rfl (fun c_28 => ?_) (fun c_28 => ?_)
    · skip
      refine g_aload_n C dMo_guess_37 rfl ?_
      refine g_aload_n C dMo_guess_38 rfl ?_
      refine gt_getS C dMo_guess_39 fl_Mo_21 h0 hTWo ?_
      refine g_iload_n C dMo_guess_42 rfl ?_
      refine g_iload_n C dMo_guess_43 rfl ?_
      refine g_iload_n C dMo_guess_44 rfl ?_
      exfalso; omega
    · skip
      refine g_aload_n C dMo_guess_31 rfl ?_
      refine g_iconst (v := Int32.ofInt (2)) C dMo_guess_32 (by decide) ?_
      refine s_callV_i (av := fun ad => [.int (Int32.ofInt (2))]) C dMo_guess_33 mfMo_refused mvMo_refused ln_Mo_283 h0 (by decide) rfl hVw1 (frL_le (by decide)) (cMo_refused hVw1.1 h0) rfl rfl (Nat.le_of_ble_eq_true rfl) ⟨Nat.le_of_ble_eq_true rfl, Nat.le_of_ble_eq_true rfl⟩ ⟨rfl, rfl⟩ ⟨Nat.zero_le _, Nat.zero_le _⟩ (fun Iw5 Jw5 hVw5 hFw5 z_33 p_33 => ?_)
      have tkw5_TW_27 : (Iw5 TW 27).toInt = (Iw1 TW 27).toInt := by rw [(hFw5 TW (by rw [hTWk.2]; rfl)).1 27]
      have tkw5_S_27 : (Iw5 S 27).toInt = (Iw1 S 27).toInt := by rw [(hFw5 S (by rw [hSk.2]; rfl)).1 27]
      have rz_33 := rg z_33
      try dsimp only at p_33
      have hk1_33 : Int32.toInt (Int32.ofInt (2)) = 2 := ofI (by decide)
      exact s_iret C E dMo_guess_36 ⟨Nat.zero_le _, Nat.zero_le _⟩ hVw5 (by (try dsimp only); omega)
  · skip
    refine g_aload_n C dMo_guess_16 rfl ?_
    refine g_iconst (v := Int32.ofInt (1)) C dMo_guess_17 (by decide) ?_
    refine s_callV_i (av := fun ad => [.int (Int32.ofInt (1))]) C dMo_guess_18 mfMo_refused mvMo_refused ln_Mo_283 h0 (by decide) rfl hVw1 (frL_le (by decide)) (cMo_refused hVw1.1 h0) rfl rfl (Nat.le_of_ble_eq_true rfl) ⟨Nat.le_of_ble_eq_true rfl, Nat.le_of_ble_eq_true rfl⟩ ⟨rfl, rfl⟩ ⟨Nat.zero_le _, Nat.zero_le _⟩ (fun Iw6 Jw6 hVw6 hFw6 z_18 p_18 => ?_)
    have tkw6_TW_27 : (Iw6 TW 27).toInt = (Iw1 TW 27).toInt := by rw [(hFw6 TW (by rw [hTWk.2]; rfl)).1 27]
    have tkw6_S_27 : (Iw6 S 27).toInt = (Iw1 S 27).toInt := by rw [(hFw6 S (by rw [hSk.2]; rfl)).1 27]
    have rz_18 := rg z_18
    try dsimp only at p_18
    have hk1_18 : Int32.toInt (Int32.ofInt (1)) = 1 := ofI (by decide)
    exact s_iret C E dMo_guess_21 ⟨Nat.zero_le _, Nat.zero_le _⟩ hVw6 (by (try dsimp only); omega)
set_option maxHeartbeats 4000000 in
set_option maxRecDepth 100000 in
theorem cMo_guess_G {P : List Nat} {K : Nat → Nat} {I0 : Nat → Nat → Int32} {O : Nat → Nat → Option Nat} {J0 : Nat → Nat → Int64} (hV : IV P K I0 O) {a0 : Nat} (h0 : a0 ∈ P ∧ K a0 = 10) {x1 : Int32} {x2 : Int32} {x3 : Int32} {x4 : Int32} {x5 : Int32} {S : Nat} (hSo : O a0 16 = some S) (hSk : S ∈ P ∧ K S = 31) {TW : Nat} (hTWo : O a0 17 = some TW) (hTWk : TW ∈ P ∧ K TW = 49) {M : Nat} (hMo : O a0 3 = some M) (hMk : M ∈ P ∧ K M = 9) (hGM : GM I0 M) : Con yMo_guess bMo_guess 7 (some .int) ({ frames := 4, cells := 0, slots := 0, locals := 97 } : Room) P K I0 O J0 [.ref a0, .int x1, .int x2, .int x3, .int x4, .int x5] (SPo frM 1 (fun _ I_ => (I_ a0 6).toInt = (I0 a0 6).toInt ∧ (I_ a0 18).toInt = (I0 a0 18).toInt ∧ (I_ S 27).toInt = (I0 S 27).toInt) P K I0 O J0) := by
  refine Con.ofG mfMo_guess (Nat.le_of_ble_eq_true rfl) ?_
  intro X C E
  have r1 := rg x1
  have r2 := rg x2
  have r3 := rg x3
  have r4 := rg x4
  have r5 := rg x5
  have ost := hV.2 a0 h0.1 18
  rw [h0.2] at ost
  have ost : 0 ≤ (I0 a0 18).toInt ∧ (I0 a0 18).toInt ≤ 240 := ost
  have oS := hV.2 S hSk.1 27
  rw [hSk.2] at oS
  have oS : 0 ≤ (I0 S 27).toInt ∧ (I0 S 27).toInt ≤ 240 := oS
  have hV0 : SV frM P K O I0 J0 I0 J0 := SV.rf hV
  refine g_aload_n C dMo_guess_0 rfl ?_
  refine g_iconst (v := Int32.ofInt (0)) C dMo_guess_1 (by decide) ?_
  refine gt_puti C dMo_guess_2 fl_Mo_73 h0 hV0 rfl trivial rfl (Or.inl rfl) (fun Iw1 eIw1 hVw1 => ?_)
  have tkw1_TW_27 : (Iw1 TW 27).toInt = (I0 TW 27).toInt := by rw [eIw1, up2_ne _ _ (fun z => by have q := hTWk.2; rw [z.1, h0.2] at q; exact absurd q (by decide))]
  have tkw1_a0_6 : (Iw1 a0 6).toInt = (I0 a0 6).toInt := by rw [eIw1, up2_ne _ _ (fun z => absurd z.2 (by decide))]
  have tkw1_a0_18 : (Iw1 a0 18).toInt = (I0 a0 18).toInt := by rw [eIw1, up2_ne _ _ (fun z => absurd z.2 (by decide))]
  have tkw1_S_27 : (Iw1 S 27).toInt = (I0 S 27).toInt := by rw [eIw1, up2_ne _ _ (fun z => by have q := hSk.2; rw [z.1, h0.2] at q; exact absurd q (by decide))]
  refine g_aload_n C dMo_guess_5 rfl ?_
  refine g_iload C dMo_guess_6 rfl ?_
  refine g_iload C dMo_guess_8 rfl ?_
  refine s_callV_zp (av := fun ad => [.int x4, .int x5]) C dMo_guess_10 mfMo_isWhat mvMo_isWhat ln_Mo_338 h0 (by decide) rfl (cMo_isWhat_G hVw1.1 h0 hMo hMk (hGM.keep (hVw1.2 M (by rw [hMk.2]; rfl)).1)) rfl rfl (Nat.le_of_ble_eq_true rfl) ⟨Nat.le_of_ble_eq_true rfl, Nat.le_of_ble_eq_true rfl⟩ ⟨rfl, rfl⟩ ⟨Nat.zero_le _, Nat.zero_le _⟩ (fun z_10 b_10 p_10 => ?_)
  have rz_10 := rg z_10
  have u_10 := b_10
  unfold B01 at u_10
  try dsimp only at p_10
  refine gt_if_ne 22 C dMo_guess_13 (by decide) rfl (fun c_13 => ?_) (fun c_13 => ?_)
  · skip
    refine g_iload_n C dMo_guess_22 rfl ?_
    refine g_iload_n C dMo_guess_23 rfl ?_
    refine g_iload_n C dMo_guess_24 rfl ?_
    refine s_callS_zp (av := fun ad => [.int x1, .int x2, .int x3]) C dMo_guess_25 mfMo_isStart msMo_isStart ln_Mo_366 (cMo_isStart hVw1.1 ) rfl rfl (Nat.le_of_ble_eq_true rfl) ⟨Nat.le_of_ble_eq_true rfl, Nat.le_of_ble_eq_true rfl⟩ ⟨rfl, rfl⟩ ⟨Nat.zero_le _, Nat.zero_le _⟩ (fun z_25 b_25 p_25 => ?_)
    have rz_25 := rg z_25
    have u_25 := b_25
    unfold B01 at u_25
    try dsimp only at p_25
    refine gt_if_ne 37 C dMo_guess_28 (by decide) rfl (fun c_28 => ?_) (fun c_28 => ?_)
    · skip
      refine g_aload_n C dMo_guess_37 rfl ?_
      refine g_aload_n C dMo_guess_38 rfl ?_
      refine gt_getS C dMo_guess_39 fl_Mo_21 h0 hTWo ?_
      refine g_iload_n C dMo_guess_42 rfl ?_
      refine g_iload_n C dMo_guess_43 rfl ?_
      refine g_iload_n C dMo_guess_44 rfl ?_
      refine s_callV_v (av := fun ad => [.ref TW, .int x1, .int x2, .int x3]) C dMo_guess_45 mfMo_begins mvMo_begins ln_Mo_343 h0 (by decide) rfl hVw1 (frL_le (by decide)) (cMo_begins_G hVw1.1 h0 hTWk hMo hMk (hGM.keep (hVw1.2 M (by rw [hMk.2]; rfl)).1)) rfl rfl (Nat.le_of_ble_eq_true rfl) ⟨Nat.le_of_ble_eq_true rfl, Nat.le_of_ble_eq_true rfl⟩ ⟨rfl, rfl⟩ ⟨Nat.zero_le _, Nat.zero_le _⟩ (fun Iw4 Jw4 hVw4 hFw4 p_45 => ?_)
      have tkw4_a0_6 : (Iw4 a0 6).toInt = (Iw1 a0 6).toInt := by rw [(hFw4 a0 (by rw [h0.2]; rfl)).1 6]
      have tkw4_a0_18 : (Iw4 a0 18).toInt = (Iw1 a0 18).toInt := by rw [(hFw4 a0 (by rw [h0.2]; rfl)).1 18]
      have tkw4_S_27 : (Iw4 S 27).toInt = (Iw1 S 27).toInt := by rw [(hFw4 S (by rw [hSk.2]; rfl)).1 27]
      try dsimp only at p_45
      refine g_iconst (v := Int32.ofInt (0)) C dMo_guess_48 (by decide) ?_
      refine g_istore C dMo_guess_49 (by decide) ?_
      have lp_51 : ∀ (nn_51 : Nat) (x6_51 : Int32) (Iw5 : Nat → Nat → Int32) (Jw5 : Nat → Nat → Int64), Int.toNat (12 - x6_51.toInt) = nn_51 → (0 ≤ Int32.toInt x6_51 ∧ Int32.toInt x6_51 ≤ 12) → (Int32.toInt (Iw5 TW 27) = x6_51.toInt) → (Int32.toInt (Iw5 a0 6) = Int32.toInt (I0 a0 6)) → (Int32.toInt (Iw5 a0 18) = Int32.toInt (I0 a0 18)) → (Int32.toInt (Iw5 S 27) = Int32.toInt (I0 S 27)) → SV frM P K O I0 J0 Iw5 Jw5 → GG X 7 P K Iw5 O Jw5 0 0 51 [(0, .ref a0), (1, .int x1), (2, .int x2), (3, .int x3), (4, .int x4), (5, .int x5), (6, .int x6_51)] [] := by
        intro nn_51
        induction nn_51 using Nat.strongRecOn with
        | ind nn_51 ih_51 =>
        intro x6_51 Iw5 Jw5 hn_51 iv0_51 iv1_51 iv2_51 iv3_51 iv4_51 hVw5
        have rg6_51 := rg x6_51
        refine g_iload C dMo_guess_51 rfl ?_
        refine g_iload C dMo_guess_53 rfl ?_
        refine gt_icmp_gt 74 C dMo_guess_55 (by decide) rfl rfl (fun c_55 => ?_) (fun c_55 => ?_)
        · skip
          refine g_aload_n C dMo_guess_74 rfl ?_
          refine g_aload_n C dMo_guess_75 rfl ?_
          refine gt_getS C dMo_guess_76 fl_Mo_21 h0 hTWo ?_
          refine g_iload C dMo_guess_79 rfl ?_
          refine s_callS_ip (av := fun ad => [.ref TW, .int x5]) C dMo_guess_81 mfMo_valueOf msMo_valueOf ln_Mo_354 (cMo_valueOf hVw5.1 hTWk (by omega)) rfl rfl (Nat.le_of_ble_eq_true rfl) ⟨Nat.le_of_ble_eq_true rfl, Nat.le_of_ble_eq_true rfl⟩ ⟨rfl, rfl⟩ ⟨Nat.zero_le _, Nat.zero_le _⟩ (fun z_81 p_81 => ?_)
          have rz_81 := rg z_81
          refine s_callV_i (av := fun ad => [.int z_81]) C dMo_guess_84 mfMo_done mvMo_done ln_Mo_302 h0 (by decide) rfl hVw5 (frL_le (by decide)) (cMo_done hVw5.1 h0) rfl rfl (Nat.le_of_ble_eq_true rfl) ⟨Nat.le_of_ble_eq_true rfl, Nat.le_of_ble_eq_true rfl⟩ ⟨rfl, rfl⟩ ⟨Nat.zero_le _, Nat.zero_le _⟩ (fun Iw7 Jw7 hVw7 hFw7 z_84 p_84 => ?_)
          have tkw7_TW_27 : (Iw7 TW 27).toInt = (Iw5 TW 27).toInt := by rw [(hFw7 TW (by rw [hTWk.2]; rfl)).1 27]
          have tkw7_S_27 : (Iw7 S 27).toInt = (Iw5 S 27).toInt := by rw [(hFw7 S (by rw [hSk.2]; rfl)).1 27]
          have rz_84 := rg z_84
          try dsimp only at p_84
          exact s_iret C E dMo_guess_87 ⟨Nat.zero_le _, Nat.zero_le _⟩ hVw7 (by (try dsimp only); omega)
        · skip
          refine g_aload_n C dMo_guess_58 rfl ?_
          refine g_aload_n C dMo_guess_59 rfl ?_
          refine gt_getS C dMo_guess_60 fl_Mo_21 h0 hTWo ?_
          refine g_iload C dMo_guess_63 rfl ?_
          refine s_callV_v (av := fun ad => [.ref TW, .int x6_51]) C dMo_guess_65 mfMo_byProgram mvMo_byProgram ln_Mo_347 h0 (by decide) rfl hVw5 (frL_le (by decide)) (cMo_byProgram_G hVw5.1 h0 hTWk hMo hMk (hGM.keep (hVw5.2 M (by rw [hMk.2]; rfl)).1) (by omega) (by omega)) rfl rfl (Nat.le_of_ble_eq_true rfl) ⟨Nat.le_of_ble_eq_true rfl, Nat.le_of_ble_eq_true rfl⟩ ⟨rfl, rfl⟩ ⟨Nat.zero_le _, Nat.zero_le _⟩ (fun Iw8 Jw8 hVw8 hFw8 p_65 => ?_)
          have tkw8_a0_6 : (Iw8 a0 6).toInt = (Iw5 a0 6).toInt := by rw [(hFw8 a0 (by rw [h0.2]; rfl)).1 6]
          have tkw8_a0_18 : (Iw8 a0 18).toInt = (Iw5 a0 18).toInt := by rw [(hFw8 a0 (by rw [h0.2]; rfl)).1 18]
          have tkw8_S_27 : (Iw8 S 27).toInt = (Iw5 S 27).toInt := by rw [(hFw8 S (by rw [hSk.2]; rfl)).1 27]
          try dsimp only at p_65
          first | refine n_iinc C dMo_guess_68 rfl rfl (by decide) (by decide) (by omega) (fun z_68 e_68 => ?_) | refine a_iinc C dMo_guess_68 rfl (by decide) (fun z_68 => ?_)
          refine g_goto 51 C dMo_guess_71 (by decide) ?_
          exact g_sub (ih_51 _ (by omega) z_68 Iw8 Jw8 rfl (by omega) (by omega) (by omega) (by omega) (by omega) hVw8) ⟨rfl, rfl, rfl, rfl, rfl, rfl, rfl, trivial⟩
      exact g_sub (lp_51 _ (Int32.ofInt (0)) Iw4 Jw4 rfl (by have hci : Int32.toInt (Int32.ofInt (0)) = 0 := ofI (by decide); omega) (by have hci : Int32.toInt (Int32.ofInt (0)) = 0 := ofI (by decide); omega) (by omega) (by omega) (by omega) hVw4) ⟨rfl, rfl, rfl, rfl, rfl, rfl, rfl, trivial⟩
    · skip
      refine g_aload_n C dMo_guess_31 rfl ?_
      refine g_iconst (v := Int32.ofInt (2)) C dMo_guess_32 (by decide) ?_
      refine s_callV_i (av := fun ad => [.int (Int32.ofInt (2))]) C dMo_guess_33 mfMo_refused mvMo_refused ln_Mo_283 h0 (by decide) rfl hVw1 (frL_le (by decide)) (cMo_refused hVw1.1 h0) rfl rfl (Nat.le_of_ble_eq_true rfl) ⟨Nat.le_of_ble_eq_true rfl, Nat.le_of_ble_eq_true rfl⟩ ⟨rfl, rfl⟩ ⟨Nat.zero_le _, Nat.zero_le _⟩ (fun Iw9 Jw9 hVw9 hFw9 z_33 p_33 => ?_)
      have tkw9_TW_27 : (Iw9 TW 27).toInt = (Iw1 TW 27).toInt := by rw [(hFw9 TW (by rw [hTWk.2]; rfl)).1 27]
      have tkw9_S_27 : (Iw9 S 27).toInt = (Iw1 S 27).toInt := by rw [(hFw9 S (by rw [hSk.2]; rfl)).1 27]
      have rz_33 := rg z_33
      try dsimp only at p_33
      have hk1_33 : Int32.toInt (Int32.ofInt (2)) = 2 := ofI (by decide)
      exact s_iret C E dMo_guess_36 ⟨Nat.zero_le _, Nat.zero_le _⟩ hVw9 (by (try dsimp only); omega)
  · skip
    refine g_aload_n C dMo_guess_16 rfl ?_
    refine g_iconst (v := Int32.ofInt (1)) C dMo_guess_17 (by decide) ?_
    refine s_callV_i (av := fun ad => [.int (Int32.ofInt (1))]) C dMo_guess_18 mfMo_refused mvMo_refused ln_Mo_283 h0 (by decide) rfl hVw1 (frL_le (by decide)) (cMo_refused hVw1.1 h0) rfl rfl (Nat.le_of_ble_eq_true rfl) ⟨Nat.le_of_ble_eq_true rfl, Nat.le_of_ble_eq_true rfl⟩ ⟨rfl, rfl⟩ ⟨Nat.zero_le _, Nat.zero_le _⟩ (fun Iw10 Jw10 hVw10 hFw10 z_18 p_18 => ?_)
    have tkw10_TW_27 : (Iw10 TW 27).toInt = (Iw1 TW 27).toInt := by rw [(hFw10 TW (by rw [hTWk.2]; rfl)).1 27]
    have tkw10_S_27 : (Iw10 S 27).toInt = (Iw1 S 27).toInt := by rw [(hFw10 S (by rw [hSk.2]; rfl)).1 27]
    have rz_18 := rg z_18
    try dsimp only at p_18
    have hk1_18 : Int32.toInt (Int32.ofInt (1)) = 1 := ofI (by decide)
    exact s_iret C E dMo_guess_21 ⟨Nat.zero_le _, Nat.zero_le _⟩ hVw10 (by (try dsimp only); omega)
set_option maxHeartbeats 4000000 in
set_option maxRecDepth 100000 in
theorem cMo_swapped_Z {P : List Nat} {K : Nat → Nat} {I0 : Nat → Nat → Int32} {O : Nat → Nat → Option Nat} {J0 : Nat → Nat → Int64} (hV : IV P K I0 O) {a0 : Nat} (h0 : a0 ∈ P ∧ K a0 = 10) {S : Nat} (hSo : O a0 16 = some S) (hSk : S ∈ P ∧ K S = 31) {TW : Nat} (hTWo : O a0 17 = some TW) (hTWk : TW ∈ P ∧ K TW = 49) (hMn : O a0 3 = none) : Con yMo_swapped bMo_swapped 3 (some .int) ({ frames := 1, cells := 0, slots := 0, locals := 21 } : Room) P K I0 O J0 [.ref a0] (SPo frM 1 (fun _ I_ => (I_ a0 6).toInt = (I0 a0 6).toInt ∧ (I_ a0 18).toInt = (I0 a0 18).toInt ∧ (I_ S 27).toInt = (I0 S 27).toInt) P K I0 O J0) := by
  refine Con.ofG mfMo_swapped (Nat.le_of_ble_eq_true rfl) ?_
  intro X C E
  have ost := hV.2 a0 h0.1 18
  rw [h0.2] at ost
  have ost : 0 ≤ (I0 a0 18).toInt ∧ (I0 a0 18).toInt ≤ 240 := ost
  have oS := hV.2 S hSk.1 27
  rw [hSk.2] at oS
  have oS : 0 ≤ (I0 S 27).toInt ∧ (I0 S 27).toInt ≤ 240 := oS
  have hV0 : SV frM P K O I0 J0 I0 J0 := SV.rf hV
  refine g_aload_n C dMo_swapped_0 rfl ?_
  refine g_iconst (v := Int32.ofInt (0)) C dMo_swapped_1 (by decide) ?_
  refine gt_puti C dMo_swapped_2 fl_Mo_73 h0 hV0 rfl trivial rfl (Or.inl rfl) (fun Iw1 eIw1 hVw1 => ?_)
  have tkw1_a0_6 : (Iw1 a0 6).toInt = (I0 a0 6).toInt := by rw [eIw1, up2_ne _ _ (fun z => absurd z.2 (by decide))]
  have tkw1_a0_18 : (Iw1 a0 18).toInt = (I0 a0 18).toInt := by rw [eIw1, up2_ne _ _ (fun z => absurd z.2 (by decide))]
  have tkw1_S_27 : (Iw1 S 27).toInt = (I0 S 27).toInt := by rw [eIw1, up2_ne _ _ (fun z => by have q := hSk.2; rw [z.1, h0.2] at q; exact absurd q (by decide))]
  refine g_aload_n C dMo_swapped_5 rfl ?_
  refine gt_getN C dMo_swapped_6 fl_Mo_290 h0 hMn ?_
  refine g_ifnonnullN C dMo_swapped_9 ?_
  refine g_aload_n C dMo_swapped_12 rfl ?_
  refine g_iconst (v := Int32.ofInt (1)) C dMo_swapped_13 (by decide) ?_
  refine s_callV_i (av := fun ad => [.int (Int32.ofInt (1))]) C dMo_swapped_14 mfMo_refused mvMo_refused ln_Mo_283 h0 (by decide) rfl hVw1 (frL_le (by decide)) (cMo_refused hVw1.1 h0) rfl rfl (Nat.le_of_ble_eq_true rfl) ⟨Nat.le_of_ble_eq_true rfl, Nat.le_of_ble_eq_true rfl⟩ ⟨rfl, rfl⟩ ⟨Nat.zero_le _, Nat.zero_le _⟩ (fun Iw2 Jw2 hVw2 hFw2 z_14 p_14 => ?_)
  have tkw2_S_27 : (Iw2 S 27).toInt = (Iw1 S 27).toInt := by rw [(hFw2 S (by rw [hSk.2]; rfl)).1 27]
  have rz_14 := rg z_14
  try dsimp only at p_14
  have hk1_14 : Int32.toInt (Int32.ofInt (1)) = 1 := ofI (by decide)
  exact s_iret C E dMo_swapped_17 ⟨Nat.zero_le _, Nat.zero_le _⟩ hVw2 (by (try dsimp only); omega)
set_option maxHeartbeats 4000000 in
set_option maxRecDepth 100000 in
theorem cMo_swapped_G {P : List Nat} {K : Nat → Nat} {I0 : Nat → Nat → Int32} {O : Nat → Nat → Option Nat} {J0 : Nat → Nat → Int64} (hV : IV P K I0 O) {a0 : Nat} (h0 : a0 ∈ P ∧ K a0 = 10) {S : Nat} (hSo : O a0 16 = some S) (hSk : S ∈ P ∧ K S = 31) {TW : Nat} (hTWo : O a0 17 = some TW) (hTWk : TW ∈ P ∧ K TW = 49) {M : Nat} (hMo : O a0 3 = some M) (hMk : M ∈ P ∧ K M = 9) (hGM : GM I0 M) : Con yMo_swapped bMo_swapped 3 (some .int) ({ frames := 6, cells := 0, slots := 0, locals := 147 } : Room) P K I0 O J0 [.ref a0] (SPo frM 1 (fun _ I_ => (I_ a0 6).toInt = (I0 a0 6).toInt ∧ (I_ a0 18).toInt = (I0 a0 18).toInt ∧ (I_ S 27).toInt = (I0 S 27).toInt) P K I0 O J0) := by
  refine Con.ofG mfMo_swapped (Nat.le_of_ble_eq_true rfl) ?_
  intro X C E
  have ost := hV.2 a0 h0.1 18
  rw [h0.2] at ost
  have ost : 0 ≤ (I0 a0 18).toInt ∧ (I0 a0 18).toInt ≤ 240 := ost
  have oS := hV.2 S hSk.1 27
  rw [hSk.2] at oS
  have oS : 0 ≤ (I0 S 27).toInt ∧ (I0 S 27).toInt ≤ 240 := oS
  have hV0 : SV frM P K O I0 J0 I0 J0 := SV.rf hV
  refine g_aload_n C dMo_swapped_0 rfl ?_
  refine g_iconst (v := Int32.ofInt (0)) C dMo_swapped_1 (by decide) ?_
  refine gt_puti C dMo_swapped_2 fl_Mo_73 h0 hV0 rfl trivial rfl (Or.inl rfl) (fun Iw1 eIw1 hVw1 => ?_)
  have tkw1_a0_6 : (Iw1 a0 6).toInt = (I0 a0 6).toInt := by rw [eIw1, up2_ne _ _ (fun z => absurd z.2 (by decide))]
  have tkw1_a0_18 : (Iw1 a0 18).toInt = (I0 a0 18).toInt := by rw [eIw1, up2_ne _ _ (fun z => absurd z.2 (by decide))]
  have tkw1_S_27 : (Iw1 S 27).toInt = (I0 S 27).toInt := by rw [eIw1, up2_ne _ _ (fun z => by have q := hSk.2; rw [z.1, h0.2] at q; exact absurd q (by decide))]
  refine g_aload_n C dMo_swapped_5 rfl ?_
  refine gt_getS C dMo_swapped_6 fl_Mo_290 h0 hMo ?_
  refine g_ifnonnull 18 C dMo_swapped_9 (by decide) ?_
  refine g_aload_n C dMo_swapped_18 rfl ?_
  refine g_iconst (v := Int32.ofInt (-1)) C dMo_swapped_19 (by decide) ?_
  refine g_iconst (v := Int32.ofInt (-1)) C dMo_swapped_20 (by decide) ?_
  refine s_callV_i (av := fun ad => [.int (Int32.ofInt (-1)), .int (Int32.ofInt (-1))]) C dMo_swapped_21 mfMo_allFits mvMo_allFits ln_Mo_360 h0 (by decide) rfl hVw1 (frL_le (by decide)) (cMo_allFits_G hVw1.1 h0 hTWo hTWk hMo hMk (hGM.keep (hVw1.2 M (by rw [hMk.2]; rfl)).1)) rfl rfl (Nat.le_of_ble_eq_true rfl) ⟨Nat.le_of_ble_eq_true rfl, Nat.le_of_ble_eq_true rfl⟩ ⟨rfl, rfl⟩ ⟨Nat.zero_le _, Nat.zero_le _⟩ (fun Iw2 Jw2 hVw2 hFw2 z_21 p_21 => ?_)
  have tkw2_a0_6 : (Iw2 a0 6).toInt = (Iw1 a0 6).toInt := by rw [(hFw2 a0 (by rw [h0.2]; rfl)).1 6]
  have tkw2_a0_18 : (Iw2 a0 18).toInt = (Iw1 a0 18).toInt := by rw [(hFw2 a0 (by rw [h0.2]; rfl)).1 18]
  have tkw2_S_27 : (Iw2 S 27).toInt = (Iw1 S 27).toInt := by rw [(hFw2 S (by rw [hSk.2]; rfl)).1 27]
  have rz_21 := rg z_21
  try dsimp only at p_21
  have hk1_21 : Int32.toInt (Int32.ofInt (-1)) = -1 := ofI (by decide)
  have hk2_21 : Int32.toInt (Int32.ofInt (-1)) = -1 := ofI (by decide)
  refine gt_if_le 33 C dMo_swapped_24 (by decide) rfl (fun c_24 => ?_) (fun c_24 => ?_)
  · skip
    refine g_iconst (v := Int32.ofInt (0)) C dMo_swapped_33 (by decide) ?_
    refine g_istore_n (i := 1) C dMo_swapped_34 rfl (by decide) ?_
    have lp_35 : ∀ (nn_35 : Nat) (x1_35 : Int32) (Iw3 : Nat → Nat → Int32) (Jw3 : Nat → Nat → Int64), Int.toNat (12 - x1_35.toInt) = nn_35 → (0 ≤ Int32.toInt x1_35 ∧ Int32.toInt x1_35 ≤ 12) → (Int32.toInt (Iw3 a0 6) = Int32.toInt (I0 a0 6)) → (Int32.toInt (Iw3 a0 18) = Int32.toInt (I0 a0 18)) → (Int32.toInt (Iw3 S 27) = Int32.toInt (I0 S 27)) → SV frM P K O I0 J0 Iw3 Jw3 → GG X 3 P K Iw3 O Jw3 0 0 35 [(0, .ref a0), (1, .int x1_35)] [] := by
      intro nn_35
      induction nn_35 using Nat.strongRecOn with
      | ind nn_35 ih_35 =>
      intro x1_35 Iw3 Jw3 hn_35 iv0_35 iv1_35 iv2_35 iv3_35 hVw3
      have rg1_35 := rg x1_35
      refine g_iload_n C dMo_swapped_35 rfl ?_
      refine g_bipush (v := Int32.ofInt (12)) C dMo_swapped_36 (by decide) ?_
      refine gt_icmp_ge 83 C dMo_swapped_38 (by decide) rfl (ofI (by decide)) (fun c_38 => ?_) (fun c_38 => ?_)
      · skip
        refine g_aload_n C dMo_swapped_83 rfl ?_
        refine g_bipush (v := Int32.ofInt (-2)) C dMo_swapped_84 (by decide) ?_
        refine s_callV_i (av := fun ad => [.int (Int32.ofInt (-2))]) C dMo_swapped_86 mfMo_done mvMo_done ln_Mo_302 h0 (by decide) rfl hVw3 (frL_le (by decide)) (cMo_done hVw3.1 h0) rfl rfl (Nat.le_of_ble_eq_true rfl) ⟨Nat.le_of_ble_eq_true rfl, Nat.le_of_ble_eq_true rfl⟩ ⟨rfl, rfl⟩ ⟨Nat.zero_le _, Nat.zero_le _⟩ (fun Iw4 Jw4 hVw4 hFw4 z_86 p_86 => ?_)
        have tkw4_S_27 : (Iw4 S 27).toInt = (Iw3 S 27).toInt := by rw [(hFw4 S (by rw [hSk.2]; rfl)).1 27]
        have rz_86 := rg z_86
        try dsimp only at p_86
        have hk1_86 : Int32.toInt (Int32.ofInt (-2)) = -2 := ofI (by decide)
        exact s_iret C E dMo_swapped_89 ⟨Nat.zero_le _, Nat.zero_le _⟩ hVw4 (by (try dsimp only); omega)
      · skip
        refine g_iload_n C dMo_swapped_41 rfl ?_
        refine g_iconst (v := Int32.ofInt (1)) C dMo_swapped_42 (by decide) ?_
        first | refine n_iadd C dMo_swapped_43 rfl (ofI (by decide)) (by omega) (fun z_43 e_43 => ?_) | refine a_iadd C dMo_swapped_43 (fun z_43 => ?_)
        refine g_istore_n (i := 2) C dMo_swapped_44 rfl (by decide) ?_
        have lp_45 : ∀ (nn_45 : Nat) (x2_45 : Int32) (Iw5 : Nat → Nat → Int32) (Jw5 : Nat → Nat → Int64), Int.toNat (12 - x2_45.toInt) = nn_45 → (0 ≤ Int32.toInt x2_45 ∧ Int32.toInt x2_45 ≤ 12) → (Int32.toInt (Iw5 a0 6) = Int32.toInt (I0 a0 6)) → (Int32.toInt (Iw5 a0 18) = Int32.toInt (I0 a0 18)) → (Int32.toInt (Iw5 S 27) = Int32.toInt (I0 S 27)) → SV frM P K O I0 J0 Iw5 Jw5 → GG X 3 P K Iw5 O Jw5 0 0 45 [(0, .ref a0), (1, .int x1_35), (2, .int x2_45)] [] := by
          intro nn_45
          induction nn_45 using Nat.strongRecOn with
          | ind nn_45 ih_45 =>
          intro x2_45 Iw5 Jw5 hn_45 iv0_45 iv1_45 iv2_45 iv3_45 hVw5
          have rg2_45 := rg x2_45
          refine g_iload_n C dMo_swapped_45 rfl ?_
          refine g_bipush (v := Int32.ofInt (12)) C dMo_swapped_46 (by decide) ?_
          refine gt_icmp_ge 77 C dMo_swapped_48 (by decide) rfl (ofI (by decide)) (fun c_48 => ?_) (fun c_48 => ?_)
          · skip
            first | refine n_iinc C dMo_swapped_77 rfl rfl (by decide) (by decide) (by omega) (fun z_77 e_77 => ?_) | refine a_iinc C dMo_swapped_77 rfl (by decide) (fun z_77 => ?_)
            refine g_goto 35 C dMo_swapped_80 (by decide) ?_
            exact g_sub (ih_35 _ (by omega) z_77 Iw5 Jw5 rfl (by omega) (by omega) (by omega) (by omega) hVw5) ⟨rfl, rfl, trivial⟩
          · skip
            refine g_aload_n C dMo_swapped_51 rfl ?_
            refine g_iload_n C dMo_swapped_52 rfl ?_
            refine g_iload_n C dMo_swapped_53 rfl ?_
            refine s_callV_i (av := fun ad => [.int x1_35, .int x2_45]) C dMo_swapped_54 mfMo_allFits mvMo_allFits ln_Mo_360 h0 (by decide) rfl hVw5 (frL_le (by decide)) (cMo_allFits_G hVw5.1 h0 hTWo hTWk hMo hMk (hGM.keep (hVw5.2 M (by rw [hMk.2]; rfl)).1)) rfl rfl (Nat.le_of_ble_eq_true rfl) ⟨Nat.le_of_ble_eq_true rfl, Nat.le_of_ble_eq_true rfl⟩ ⟨rfl, rfl⟩ ⟨Nat.zero_le _, Nat.zero_le _⟩ (fun Iw6 Jw6 hVw6 hFw6 z_54 p_54 => ?_)
            have tkw6_a0_6 : (Iw6 a0 6).toInt = (Iw5 a0 6).toInt := by rw [(hFw6 a0 (by rw [h0.2]; rfl)).1 6]
            have tkw6_a0_18 : (Iw6 a0 18).toInt = (Iw5 a0 18).toInt := by rw [(hFw6 a0 (by rw [h0.2]; rfl)).1 18]
            have tkw6_S_27 : (Iw6 S 27).toInt = (Iw5 S 27).toInt := by rw [(hFw6 S (by rw [hSk.2]; rfl)).1 27]
            have rz_54 := rg z_54
            try dsimp only at p_54
            refine gt_if_le 71 C dMo_swapped_57 (by decide) rfl (fun c_57 => ?_) (fun c_57 => ?_)
            · skip
              first | refine n_iinc C dMo_swapped_71 rfl rfl (by decide) (by decide) (by omega) (fun z_71 e_71 => ?_) | refine a_iinc C dMo_swapped_71 rfl (by decide) (fun z_71 => ?_)
              refine g_goto 45 C dMo_swapped_74 (by decide) ?_
              exact g_sub (ih_45 _ (by omega) z_71 Iw6 Jw6 rfl (by omega) (by omega) (by omega) (by omega) hVw6) ⟨rfl, rfl, rfl, trivial⟩
            · skip
              refine g_aload_n C dMo_swapped_60 rfl ?_
              refine g_bipush (v := Int32.ofInt (100)) C dMo_swapped_61 (by decide) ?_
              refine g_iload_n C dMo_swapped_63 rfl ?_
              first | refine n_imul C dMo_swapped_64 (ofI (by decide)) rfl (by omega) (fun z_64 e_64 => ?_) | refine a_imul C dMo_swapped_64 (fun z_64 => ?_)
              refine g_iload_n C dMo_swapped_65 rfl ?_
              first | refine n_iadd C dMo_swapped_66 rfl rfl (by omega) (fun z_66 e_66 => ?_) | refine a_iadd C dMo_swapped_66 (fun z_66 => ?_)
              refine s_callV_i (av := fun ad => [.int z_66]) C dMo_swapped_67 mfMo_done mvMo_done ln_Mo_302 h0 (by decide) rfl hVw6 (frL_le (by decide)) (cMo_done hVw6.1 h0) rfl rfl (Nat.le_of_ble_eq_true rfl) ⟨Nat.le_of_ble_eq_true rfl, Nat.le_of_ble_eq_true rfl⟩ ⟨rfl, rfl⟩ ⟨Nat.zero_le _, Nat.zero_le _⟩ (fun Iw7 Jw7 hVw7 hFw7 z_67 p_67 => ?_)
              have tkw7_S_27 : (Iw7 S 27).toInt = (Iw6 S 27).toInt := by rw [(hFw7 S (by rw [hSk.2]; rfl)).1 27]
              have rz_67 := rg z_67
              try dsimp only at p_67
              exact s_iret C E dMo_swapped_70 ⟨Nat.zero_le _, Nat.zero_le _⟩ hVw7 (by (try dsimp only); omega)
        exact g_sub (lp_45 _ z_43 Iw3 Jw3 rfl (by omega) (by omega) (by omega) (by omega) hVw3) ⟨rfl, rfl, rfl, trivial⟩
    exact g_sub (lp_35 _ (Int32.ofInt (0)) Iw2 Jw2 rfl (by have hci : Int32.toInt (Int32.ofInt (0)) = 0 := ofI (by decide); omega) (by omega) (by omega) (by omega) hVw2) ⟨rfl, rfl, trivial⟩
  · skip
    refine g_aload_n C dMo_swapped_27 rfl ?_
    refine g_iconst (v := Int32.ofInt (5)) C dMo_swapped_28 (by decide) ?_
    refine s_callV_i (av := fun ad => [.int (Int32.ofInt (5))]) C dMo_swapped_29 mfMo_refused mvMo_refused ln_Mo_283 h0 (by decide) rfl hVw2 (frL_le (by decide)) (cMo_refused hVw2.1 h0) rfl rfl (Nat.le_of_ble_eq_true rfl) ⟨Nat.le_of_ble_eq_true rfl, Nat.le_of_ble_eq_true rfl⟩ ⟨rfl, rfl⟩ ⟨Nat.zero_le _, Nat.zero_le _⟩ (fun Iw8 Jw8 hVw8 hFw8 z_29 p_29 => ?_)
    have tkw8_S_27 : (Iw8 S 27).toInt = (Iw2 S 27).toInt := by rw [(hFw8 S (by rw [hSk.2]; rfl)).1 27]
    have rz_29 := rg z_29
    try dsimp only at p_29
    have hk1_29 : Int32.toInt (Int32.ofInt (5)) = 5 := ofI (by decide)
    exact s_iret C E dMo_swapped_32 ⟨Nat.zero_le _, Nat.zero_le _⟩ hVw8 (by (try dsimp only); omega)
set_option maxHeartbeats 4000000 in
set_option maxRecDepth 100000 in
theorem cMo_plan_Z {P : List Nat} {K : Nat → Nat} {I0 : Nat → Nat → Int32} {O : Nat → Nat → Option Nat} {J0 : Nat → Nat → Int64} (hV : IV P K I0 O) {a0 : Nat} (h0 : a0 ∈ P ∧ K a0 = 10) {x1 : Int32} {S : Nat} (hSo : O a0 16 = some S) (hSk : S ∈ P ∧ K S = 31) {TW : Nat} (hTWo : O a0 17 = some TW) (hTWk : TW ∈ P ∧ K TW = 49) (hMn : O a0 3 = none) : Con yMo_plan bMo_plan 6 (some .int) ({ frames := 1, cells := 0, slots := 0, locals := 21 } : Room) P K I0 O J0 [.ref a0, .int x1] (SPo frM 1 (fun _ I_ => (I_ a0 6).toInt = (I0 a0 6).toInt ∧ (I_ a0 18).toInt = (I0 a0 18).toInt ∧ (I_ S 27).toInt = (I0 S 27).toInt) P K I0 O J0) := by
  refine Con.ofG mfMo_plan (Nat.le_of_ble_eq_true rfl) ?_
  intro X C E
  have r1 := rg x1
  have ost := hV.2 a0 h0.1 18
  rw [h0.2] at ost
  have ost : 0 ≤ (I0 a0 18).toInt ∧ (I0 a0 18).toInt ≤ 240 := ost
  have oS := hV.2 S hSk.1 27
  rw [hSk.2] at oS
  have oS : 0 ≤ (I0 S 27).toInt ∧ (I0 S 27).toInt ≤ 240 := oS
  have hV0 : SV frM P K O I0 J0 I0 J0 := SV.rf hV
  refine g_aload_n C dMo_plan_0 rfl ?_
  refine g_iconst (v := Int32.ofInt (0)) C dMo_plan_1 (by decide) ?_
  refine gt_puti C dMo_plan_2 fl_Mo_73 h0 hV0 rfl trivial rfl (Or.inl rfl) (fun Iw1 eIw1 hVw1 => ?_)
  have tkw1_a0_6 : (Iw1 a0 6).toInt = (I0 a0 6).toInt := by rw [eIw1, up2_ne _ _ (fun z => absurd z.2 (by decide))]
  have tkw1_a0_18 : (Iw1 a0 18).toInt = (I0 a0 18).toInt := by rw [eIw1, up2_ne _ _ (fun z => absurd z.2 (by decide))]
  have tkw1_S_27 : (Iw1 S 27).toInt = (I0 S 27).toInt := by rw [eIw1, up2_ne _ _ (fun z => by have q := hSk.2; rw [z.1, h0.2] at q; exact absurd q (by decide))]
  refine g_aload_n C dMo_plan_5 rfl ?_
  refine gt_getN C dMo_plan_6 fl_Mo_290 h0 hMn ?_
  refine g_ifnonnullN C dMo_plan_9 ?_
  refine g_aload_n C dMo_plan_12 rfl ?_
  refine g_iconst (v := Int32.ofInt (1)) C dMo_plan_13 (by decide) ?_
  refine s_callV_i (av := fun ad => [.int (Int32.ofInt (1))]) C dMo_plan_14 mfMo_refused mvMo_refused ln_Mo_283 h0 (by decide) rfl hVw1 (frL_le (by decide)) (cMo_refused hVw1.1 h0) rfl rfl (Nat.le_of_ble_eq_true rfl) ⟨Nat.le_of_ble_eq_true rfl, Nat.le_of_ble_eq_true rfl⟩ ⟨rfl, rfl⟩ ⟨Nat.zero_le _, Nat.zero_le _⟩ (fun Iw2 Jw2 hVw2 hFw2 z_14 p_14 => ?_)
  have tkw2_S_27 : (Iw2 S 27).toInt = (Iw1 S 27).toInt := by rw [(hFw2 S (by rw [hSk.2]; rfl)).1 27]
  have rz_14 := rg z_14
  try dsimp only at p_14
  have hk1_14 : Int32.toInt (Int32.ofInt (1)) = 1 := ofI (by decide)
  exact s_iret C E dMo_plan_17 ⟨Nat.zero_le _, Nat.zero_le _⟩ hVw2 (by (try dsimp only); omega)
set_option maxHeartbeats 4000000 in
set_option maxRecDepth 100000 in
theorem cMo_plan_G {P : List Nat} {K : Nat → Nat} {I0 : Nat → Nat → Int32} {O : Nat → Nat → Option Nat} {J0 : Nat → Nat → Int64} (hV : IV P K I0 O) {a0 : Nat} (h0 : a0 ∈ P ∧ K a0 = 10) {x1 : Int32} {S : Nat} (hSo : O a0 16 = some S) (hSk : S ∈ P ∧ K S = 31) {TW : Nat} (hTWo : O a0 17 = some TW) (hTWk : TW ∈ P ∧ K TW = 49) {M : Nat} (hMo : O a0 3 = some M) (hMk : M ∈ P ∧ K M = 9) (hGM : GM I0 M) : Con yMo_plan bMo_plan 6 (some .int) ({ frames := 4, cells := 0, slots := 0, locals := 98 } : Room) P K I0 O J0 [.ref a0, .int x1] (SPo frM 1 (fun _ I_ => (I_ a0 6).toInt = (I0 a0 6).toInt ∧ (I_ a0 18).toInt = (I0 a0 18).toInt ∧ (I_ S 27).toInt = (I0 S 27).toInt) P K I0 O J0) := by
  refine Con.ofG mfMo_plan (Nat.le_of_ble_eq_true rfl) ?_
  intro X C E
  have r1 := rg x1
  have ost := hV.2 a0 h0.1 18
  rw [h0.2] at ost
  have ost : 0 ≤ (I0 a0 18).toInt ∧ (I0 a0 18).toInt ≤ 240 := ost
  have oS := hV.2 S hSk.1 27
  rw [hSk.2] at oS
  have oS : 0 ≤ (I0 S 27).toInt ∧ (I0 S 27).toInt ≤ 240 := oS
  have hV0 : SV frM P K O I0 J0 I0 J0 := SV.rf hV
  refine g_aload_n C dMo_plan_0 rfl ?_
  refine g_iconst (v := Int32.ofInt (0)) C dMo_plan_1 (by decide) ?_
  refine gt_puti C dMo_plan_2 fl_Mo_73 h0 hV0 rfl trivial rfl (Or.inl rfl) (fun Iw1 eIw1 hVw1 => ?_)
  have tkw1_a0_6 : (Iw1 a0 6).toInt = (I0 a0 6).toInt := by rw [eIw1, up2_ne _ _ (fun z => absurd z.2 (by decide))]
  have tkw1_a0_18 : (Iw1 a0 18).toInt = (I0 a0 18).toInt := by rw [eIw1, up2_ne _ _ (fun z => absurd z.2 (by decide))]
  have tkw1_S_27 : (Iw1 S 27).toInt = (I0 S 27).toInt := by rw [eIw1, up2_ne _ _ (fun z => by have q := hSk.2; rw [z.1, h0.2] at q; exact absurd q (by decide))]
  refine g_aload_n C dMo_plan_5 rfl ?_
  refine gt_getS C dMo_plan_6 fl_Mo_290 h0 hMo ?_
  refine g_ifnonnull 18 C dMo_plan_9 (by decide) ?_
  refine g_iload_n C dMo_plan_18 rfl ?_
  refine g_iconst (v := Int32.ofInt (1)) C dMo_plan_19 (by decide) ?_
  refine g_iconst (v := Int32.ofInt (5)) C dMo_plan_20 (by decide) ?_
  refine s_callS_zp (av := fun ad => [.int x1, .int (Int32.ofInt (1)), .int (Int32.ofInt (5))]) C dMo_plan_21 mfMo_in msMo_in ln_Mo_149 (cMo_in hVw1.1 ) rfl rfl (Nat.le_of_ble_eq_true rfl) ⟨Nat.le_of_ble_eq_true rfl, Nat.le_of_ble_eq_true rfl⟩ ⟨rfl, rfl⟩ ⟨Nat.zero_le _, Nat.zero_le _⟩ (fun z_21 b_21 p_21 => ?_)
  have rz_21 := rg z_21
  have u_21 := b_21
  unfold B01 at u_21
  try dsimp only at p_21
  have hk1_21 : Int32.toInt (Int32.ofInt (1)) = 1 := ofI (by decide)
  have hk2_21 : Int32.toInt (Int32.ofInt (5)) = 5 := ofI (by decide)
  refine gt_if_ne 33 C dMo_plan_24 (by decide) rfl (fun c_24 => ?_) (fun c_24 => ?_)
  · skip
    refine g_iconst (v := Int32.ofInt (-1)) C dMo_plan_33 (by decide) ?_
    refine g_istore_n (i := 2) C dMo_plan_34 rfl (by decide) ?_
    refine g_iconst (v := Int32.ofInt (0)) C dMo_plan_35 (by decide) ?_
    refine g_istore_n (i := 3) C dMo_plan_36 rfl (by decide) ?_
    refine g_iconst (v := Int32.ofInt (0)) C dMo_plan_37 (by decide) ?_
    refine g_istore C dMo_plan_38 (by decide) ?_
    have lp_40 : ∀ (nn_40 : Nat) (x2_40 : Int32) (x3_40 : Int32) (x4_40 : Int32) (Iw3 : Nat → Nat → Int32) (Jw3 : Nat → Nat → Int64), Int.toNat (2147483647 - x4_40.toInt) = nn_40 → (0 ≤ Int32.toInt x4_40) → (Int32.toInt (Iw3 a0 6) = Int32.toInt (I0 a0 6)) → (Int32.toInt (Iw3 a0 18) = Int32.toInt (I0 a0 18)) → (Int32.toInt (Iw3 S 27) = Int32.toInt (I0 S 27)) → SV frM P K O I0 J0 Iw3 Jw3 → GG X 6 P K Iw3 O Jw3 0 0 40 [(0, .ref a0), (1, .int x1), (2, .int x2_40), (3, .int x3_40), (4, .int x4_40)] [] := by
      intro nn_40
      induction nn_40 using Nat.strongRecOn with
      | ind nn_40 ih_40 =>
      intro x2_40 x3_40 x4_40 Iw3 Jw3 hn_40 iv0_40 iv1_40 iv2_40 iv3_40 hVw3
      have rg2_40 := rg x2_40
      have rg3_40 := rg x3_40
      have rg4_40 := rg x4_40
      refine g_iload C dMo_plan_40 rfl ?_
      refine g_iconst (v := Int32.ofInt (1)) C dMo_plan_42 (by decide) ?_
      refine g_iconst (v := Int32.ofInt (2)) C dMo_plan_43 (by decide) ?_
      refine g_iload_n C dMo_plan_44 rfl ?_
      first | refine n_imul C dMo_plan_45 (ofI (by decide)) rfl (by omega) (fun z_45 e_45 => ?_) | refine a_imul C dMo_plan_45 (fun z_45 => ?_)
      refine a_ishl C dMo_plan_46 (fun z_46 => ?_)
      have rz_46 := rg z_46
      refine gt_icmp_ge 106 C dMo_plan_47 (by decide) rfl rfl (fun c_47 => ?_) (fun c_47 => ?_)
      · skip
        refine g_iload_n C dMo_plan_106 rfl ?_
        refine g_iconst (v := Int32.ofInt (-1)) C dMo_plan_107 (by decide) ?_
        refine gt_icmp_ne 118 C dMo_plan_108 (by decide) rfl (ofI (by decide)) (fun c_108 => ?_) (fun c_108 => ?_)
        · skip
          refine g_aload_n C dMo_plan_118 rfl ?_
          refine g_iload_n C dMo_plan_119 rfl ?_
          refine gt_puti C dMo_plan_120 fl_Mo_296 h0 hVw3 rfl (by show 0 ≤ Int32.toInt _ ∧ Int32.toInt _ ≤ 5; omega) rfl (Or.inl rfl) (fun Iw4 eIw4 hVw4 => ?_)
          have tkw4_a0_6 : (Iw4 a0 6).toInt = (Iw3 a0 6).toInt := by rw [eIw4, up2_ne _ _ (fun z => absurd z.2 (by decide))]
          have tkw4_a0_18 : (Iw4 a0 18).toInt = (Iw3 a0 18).toInt := by rw [eIw4, up2_ne _ _ (fun z => absurd z.2 (by decide))]
          have tkw4_S_27 : (Iw4 S 27).toInt = (Iw3 S 27).toInt := by rw [eIw4, up2_ne _ _ (fun z => by have q := hSk.2; rw [z.1, h0.2] at q; exact absurd q (by decide))]
          refine g_iconst (v := Int32.ofInt (0)) C dMo_plan_123 (by decide) ?_
          refine g_istore C dMo_plan_124 (by decide) ?_
          have lp_126 : ∀ (nn_126 : Nat) (x4_126 : Int32) (Iw5 : Nat → Nat → Int32) (Jw5 : Nat → Nat → Int64), Int.toNat (5 - x4_126.toInt) = nn_126 → (0 ≤ Int32.toInt x4_126 ∧ Int32.toInt x4_126 ≤ 5) → (Int32.toInt (Iw5 a0 6) = Int32.toInt (I0 a0 6)) → (Int32.toInt (Iw5 a0 18) = Int32.toInt (I0 a0 18)) → (Int32.toInt (Iw5 S 27) = Int32.toInt (I0 S 27)) → SV frM P K O I0 J0 Iw5 Jw5 → GG X 6 P K Iw5 O Jw5 0 0 126 [(0, .ref a0), (1, .int x1), (2, .int x2_40), (3, .int x3_40), (4, .int x4_126)] [] := by
            intro nn_126
            induction nn_126 using Nat.strongRecOn with
            | ind nn_126 ih_126 =>
            intro x4_126 Iw5 Jw5 hn_126 iv0_126 iv1_126 iv2_126 iv3_126 hVw5
            have rg4_126 := rg x4_126
            refine g_iload C dMo_plan_126 rfl ?_
            refine g_iload_n C dMo_plan_128 rfl ?_
            refine gt_icmp_ge 157 C dMo_plan_129 (by decide) rfl rfl (fun c_129 => ?_) (fun c_129 => ?_)
            · skip
              refine g_aload_n C dMo_plan_157 rfl ?_
              refine g_iload_n C dMo_plan_158 rfl ?_
              refine s_callV_i (av := fun ad => [.int x2_40]) C dMo_plan_159 mfMo_done mvMo_done ln_Mo_302 h0 (by decide) rfl hVw5 (frL_le (by decide)) (cMo_done hVw5.1 h0) rfl rfl (Nat.le_of_ble_eq_true rfl) ⟨Nat.le_of_ble_eq_true rfl, Nat.le_of_ble_eq_true rfl⟩ ⟨rfl, rfl⟩ ⟨Nat.zero_le _, Nat.zero_le _⟩ (fun Iw6 Jw6 hVw6 hFw6 z_159 p_159 => ?_)
              have tkw6_S_27 : (Iw6 S 27).toInt = (Iw5 S 27).toInt := by rw [(hFw6 S (by rw [hSk.2]; rfl)).1 27]
              have rz_159 := rg z_159
              try dsimp only at p_159
              exact s_iret C E dMo_plan_162 ⟨Nat.zero_le _, Nat.zero_le _⟩ hVw6 (by (try dsimp only); omega)
            · skip
              refine g_aload_n C dMo_plan_132 rfl ?_
              refine gt_getr C dMo_plan_133 fl_Mo_51 h0 hVw5.1.1 rfl (fun b_133 q_133 hb_133 => ?_)
              refine g_iload C dMo_plan_136 rfl ?_
              refine g_iload_n C dMo_plan_138 rfl ?_
              refine g_iconst (v := Int32.ofInt (2)) C dMo_plan_139 (by decide) ?_
              refine g_iload_n C dMo_plan_140 rfl ?_
              refine g_iconst (v := Int32.ofInt (1)) C dMo_plan_141 (by decide) ?_
              first | refine n_isub C dMo_plan_142 rfl (ofI (by decide)) (by omega) (fun z_142 e_142 => ?_) | refine a_isub C dMo_plan_142 (fun z_142 => ?_)
              refine g_iload C dMo_plan_143 rfl ?_
              first | refine n_isub C dMo_plan_145 rfl rfl (by omega) (fun z_145 e_145 => ?_) | refine a_isub C dMo_plan_145 (fun z_145 => ?_)
              first | refine n_imul C dMo_plan_146 (ofI (by decide)) rfl (by omega) (fun z_146 e_146 => ?_) | refine a_imul C dMo_plan_146 (fun z_146 => ?_)
              refine a_ishr C dMo_plan_147 (fun z_147 => ?_)
              refine g_iconst (v := Int32.ofInt (3)) C dMo_plan_148 (by decide) ?_
              refine a_iand C dMo_plan_149 (fun z_149 => ?_)
              refine gt_iast C dMo_plan_150 hb_133 (by decide) rfl rfl (n := 5) rfl (by omega) hVw5 rfl trivial (fun Iw7 eIw7 hVw7 => ?_)
              have tkw7_a0_6 : (Iw7 a0 6).toInt = (Iw5 a0 6).toInt := by rw [eIw7, up2_ne _ _ (fun z => by have q := h0.2; rw [z.1, hb_133.2] at q; exact absurd q (by decide))]
              have tkw7_a0_18 : (Iw7 a0 18).toInt = (Iw5 a0 18).toInt := by rw [eIw7, up2_ne _ _ (fun z => by have q := h0.2; rw [z.1, hb_133.2] at q; exact absurd q (by decide))]
              have tkw7_S_27 : (Iw7 S 27).toInt = (Iw5 S 27).toInt := by rw [eIw7, up2_ne _ _ (fun z => by have q := hSk.2; rw [z.1, hb_133.2] at q; exact absurd q (by decide))]
              first | refine n_iinc C dMo_plan_151 rfl rfl (by decide) (by decide) (by omega) (fun z_151 e_151 => ?_) | refine a_iinc C dMo_plan_151 rfl (by decide) (fun z_151 => ?_)
              refine g_goto 126 C dMo_plan_154 (by decide) ?_
              exact g_sub (ih_126 _ (by omega) z_151 Iw7 Jw5 rfl (by omega) (by omega) (by omega) (by omega) hVw7) ⟨rfl, rfl, rfl, rfl, rfl, trivial⟩
          exact g_sub (lp_126 _ (Int32.ofInt (0)) Iw4 Jw3 rfl (by have hci : Int32.toInt (Int32.ofInt (0)) = 0 := ofI (by decide); omega) (by omega) (by omega) (by omega) hVw4) ⟨rfl, rfl, rfl, rfl, rfl, trivial⟩
        · skip
          refine g_aload_n C dMo_plan_111 rfl ?_
          refine g_bipush (v := Int32.ofInt (6)) C dMo_plan_112 (by decide) ?_
          refine s_callV_i (av := fun ad => [.int (Int32.ofInt (6))]) C dMo_plan_114 mfMo_refused mvMo_refused ln_Mo_283 h0 (by decide) rfl hVw3 (frL_le (by decide)) (cMo_refused hVw3.1 h0) rfl rfl (Nat.le_of_ble_eq_true rfl) ⟨Nat.le_of_ble_eq_true rfl, Nat.le_of_ble_eq_true rfl⟩ ⟨rfl, rfl⟩ ⟨Nat.zero_le _, Nat.zero_le _⟩ (fun Iw8 Jw8 hVw8 hFw8 z_114 p_114 => ?_)
          have tkw8_S_27 : (Iw8 S 27).toInt = (Iw3 S 27).toInt := by rw [(hFw8 S (by rw [hSk.2]; rfl)).1 27]
          have rz_114 := rg z_114
          try dsimp only at p_114
          have hk1_114 : Int32.toInt (Int32.ofInt (6)) = 6 := ofI (by decide)
          exact s_iret C E dMo_plan_117 ⟨Nat.zero_le _, Nat.zero_le _⟩ hVw8 (by (try dsimp only); omega)
      · skip
        refine g_aload_n C dMo_plan_50 rfl ?_
        refine g_iload_n C dMo_plan_51 rfl ?_
        refine g_iload C dMo_plan_52 rfl ?_
        refine s_callV_z (av := fun ad => [.int x1, .int x4_40]) C dMo_plan_54 mfMo_isWell mvMo_isWell ln_Mo_372 h0 (by decide) rfl hVw3 (frL_le (by decide)) (cMo_isWell_G hVw3.1 h0 hSo hSk hTWo hTWk hMo hMk (hGM.keep (hVw3.2 M (by rw [hMk.2]; rfl)).1) (by omega)) rfl rfl (Nat.le_of_ble_eq_true rfl) ⟨Nat.le_of_ble_eq_true rfl, Nat.le_of_ble_eq_true rfl⟩ ⟨rfl, rfl⟩ ⟨Nat.zero_le _, Nat.zero_le _⟩ (fun Iw9 Jw9 hVw9 hFw9 z_54 b_54 p_54 => ?_)
        have tkw9_a0_6 : (Iw9 a0 6).toInt = (Iw3 a0 6).toInt := by rw [(hFw9 a0 (by rw [h0.2]; rfl)).1 6]
        have tkw9_a0_18 : (Iw9 a0 18).toInt = (Iw3 a0 18).toInt := by rw [(hFw9 a0 (by rw [h0.2]; rfl)).1 18]
        have tkw9_S_27 : (Iw9 S 27).toInt = (Iw3 S 27).toInt := by rw [(hFw9 S (by rw [hSk.2]; rfl)).1 27]
        have rz_54 := rg z_54
        have u_54 := b_54
        unfold B01 at u_54
        have jn_100 : ∀ (y2_100 : Int32) (y3_100 : Int32)  (Iw10 : Nat → Nat → Int32) (Jw10 : Nat → Nat → Int64), (Int32.toInt (Iw10 a0 6) = Int32.toInt (I0 a0 6)) → (Int32.toInt (Iw10 a0 18) = Int32.toInt (I0 a0 18)) → (Int32.toInt (Iw10 S 27) = Int32.toInt (I0 S 27)) → SV frM P K O I0 J0 Iw10 Jw10 → GG X 6 P K Iw10 O Jw10 0 0 100 [(0, .ref a0), (1, .int x1), (2, .int y2_100), (3, .int y3_100), (4, .int x4_40)] [] := by
          intro y2_100 y3_100 Iw10 Jw10 jv0_100 jv1_100 jv2_100 hVw10
          first | refine n_iinc C dMo_plan_100 rfl rfl (by decide) (by decide) (by omega) (fun z_100 e_100 => ?_) | refine a_iinc C dMo_plan_100 rfl (by decide) (fun z_100 => ?_)
          refine g_goto 40 C dMo_plan_103 (by decide) ?_
          exact g_sub (ih_40 _ (by omega) y2_100 y3_100 z_100 Iw10 Jw10 rfl (by omega) (by omega) (by omega) (by omega) hVw10) ⟨rfl, rfl, rfl, rfl, rfl, trivial⟩
        refine gt_if_ne 63 C dMo_plan_57 (by decide) rfl (fun c_57 => ?_) (fun c_57 => ?_)
        · skip
          refine g_aload_n C dMo_plan_63 rfl ?_
          refine gt_getS C dMo_plan_64 fl_Mo_21 h0 hTWo ?_
          refine g_bipush (v := Int32.ofInt (32)) C dMo_plan_67 (by decide) ?_
          refine gt_ialdc (c := 32) C dMo_plan_69 hTWk (by decide) rfl (ofI (by decide)) (n := 37) rfl (by decide) (by decide) ?_
          refine g_aload_n C dMo_plan_70 rfl ?_
          refine gt_getS C dMo_plan_71 fl_Mo_17 h0 hSo ?_
          refine g_bipush (v := Int32.ofInt (32)) C dMo_plan_74 (by decide) ?_
          refine gt_ialdc (c := 32) C dMo_plan_76 hSk (by decide) rfl (ofI (by decide)) (n := 37) rfl (by decide) (by decide) ?_
          first | refine n_isub C dMo_plan_77 rfl rfl (by omega) (fun z_77 e_77 => ?_) | refine a_isub C dMo_plan_77 (fun z_77 => ?_)
          refine g_istore C dMo_plan_78 (by decide) ?_
          refine g_iload_n C dMo_plan_80 rfl ?_
          refine g_iconst (v := Int32.ofInt (-1)) C dMo_plan_81 (by decide) ?_
          have jn_94 : ∀   (Iw11 : Nat → Nat → Int32) (Jw11 : Nat → Nat → Int64), (Int32.toInt (Iw11 a0 6) = Int32.toInt (I0 a0 6)) → (Int32.toInt (Iw11 a0 18) = Int32.toInt (I0 a0 18)) → (Int32.toInt (Iw11 S 27) = Int32.toInt (I0 S 27)) → SV frM P K O I0 J0 Iw11 Jw11 → GG X 6 P K Iw11 O Jw11 0 0 94 [(0, .ref a0), (1, .int x1), (2, .int x2_40), (3, .int x3_40), (4, .int x4_40), (5, .int z_77)] [] := by
            intro Iw11 Jw11 jv0_94 jv1_94 jv2_94 hVw11
            refine g_iload C dMo_plan_94 rfl ?_
            refine g_istore_n (i := 2) C dMo_plan_96 rfl (by decide) ?_
            refine g_iload C dMo_plan_97 rfl ?_
            refine g_istore_n (i := 3) C dMo_plan_99 rfl (by decide) ?_
            exact g_sub (jn_100 z_77 x4_40 Iw11 Jw11 (by omega) (by omega) (by omega) hVw11) ⟨rfl, rfl, rfl, rfl, rfl, trivial⟩
          refine gt_icmp_eq 94 C dMo_plan_82 (by decide) rfl (ofI (by decide)) (fun c_82 => ?_) (fun c_82 => ?_)
          · skip
            exact g_sub (jn_94  Iw9 Jw9 (by omega) (by omega) (by omega) hVw9) ⟨rfl, rfl, rfl, rfl, rfl, rfl, trivial⟩
          · skip
            refine g_iload C dMo_plan_85 rfl ?_
            refine g_iload_n C dMo_plan_87 rfl ?_
            refine gt_icmp_lt 94 C dMo_plan_88 (by decide) rfl rfl (fun c_88 => ?_) (fun c_88 => ?_)
            · skip
              exact g_sub (jn_94  Iw9 Jw9 (by omega) (by omega) (by omega) hVw9) ⟨rfl, rfl, rfl, rfl, rfl, rfl, trivial⟩
            · skip
              refine g_goto 100 C dMo_plan_91 (by decide) ?_
              exact g_sub (jn_100 x2_40 x3_40 Iw9 Jw9 (by omega) (by omega) (by omega) hVw9) ⟨rfl, rfl, rfl, rfl, rfl, trivial⟩
        · skip
          refine g_goto 100 C dMo_plan_60 (by decide) ?_
          exact g_sub (jn_100 x2_40 x3_40 Iw9 Jw9 (by omega) (by omega) (by omega) hVw9) ⟨rfl, rfl, rfl, rfl, rfl, trivial⟩
    exact g_sub (lp_40 _ (Int32.ofInt (-1)) (Int32.ofInt (0)) (Int32.ofInt (0)) Iw1 J0 rfl (by have hci : Int32.toInt (Int32.ofInt (0)) = 0 := ofI (by decide); omega) (by omega) (by omega) (by omega) hVw1) ⟨rfl, rfl, rfl, rfl, rfl, trivial⟩
  · skip
    refine g_aload_n C dMo_plan_27 rfl ?_
    refine g_iconst (v := Int32.ofInt (2)) C dMo_plan_28 (by decide) ?_
    refine s_callV_i (av := fun ad => [.int (Int32.ofInt (2))]) C dMo_plan_29 mfMo_refused mvMo_refused ln_Mo_283 h0 (by decide) rfl hVw1 (frL_le (by decide)) (cMo_refused hVw1.1 h0) rfl rfl (Nat.le_of_ble_eq_true rfl) ⟨Nat.le_of_ble_eq_true rfl, Nat.le_of_ble_eq_true rfl⟩ ⟨rfl, rfl⟩ ⟨Nat.zero_le _, Nat.zero_le _⟩ (fun Iw12 Jw12 hVw12 hFw12 z_29 p_29 => ?_)
    have tkw12_S_27 : (Iw12 S 27).toInt = (Iw1 S 27).toInt := by rw [(hFw12 S (by rw [hSk.2]; rfl)).1 27]
    have rz_29 := rg z_29
    try dsimp only at p_29
    have hk1_29 : Int32.toInt (Int32.ofInt (2)) = 2 := ofI (by decide)
    exact s_iret C E dMo_plan_32 ⟨Nat.zero_le _, Nat.zero_le _⟩ hVw12 (by (try dsimp only); omega)
set_option maxHeartbeats 4000000 in
set_option maxRecDepth 100000 in
theorem cMo_rule_Z {P : List Nat} {K : Nat → Nat} {I0 : Nat → Nat → Int32} {O : Nat → Nat → Option Nat} {J0 : Nat → Nat → Int64} (hV : IV P K I0 O) {a0 : Nat} (h0 : a0 ∈ P ∧ K a0 = 10) {x1 : Int32} {S : Nat} (hSo : O a0 16 = some S) (hSk : S ∈ P ∧ K S = 31) {TW : Nat} (hTWo : O a0 17 = some TW) (hTWk : TW ∈ P ∧ K TW = 49) {TL : Nat} (hTLo : O a0 32 = some TL) (hTLk : TL ∈ P ∧ K TL = 50) (hMn : O a0 3 = none) : Con yMo_rule bMo_rule 2 (some .int) ({ frames := 1, cells := 0, slots := 0, locals := 21 } : Room) P K I0 O J0 [.ref a0, .int x1] (SPo frM 1 (fun _ I_ => (I_ a0 6).toInt = (I0 a0 6).toInt ∧ (I_ a0 18).toInt = (I0 a0 18).toInt ∧ (I_ S 27).toInt = (I0 S 27).toInt) P K I0 O J0) := by
  refine Con.ofG mfMo_rule (Nat.le_of_ble_eq_true rfl) ?_
  intro X C E
  have r1 := rg x1
  have ost := hV.2 a0 h0.1 18
  rw [h0.2] at ost
  have ost : 0 ≤ (I0 a0 18).toInt ∧ (I0 a0 18).toInt ≤ 240 := ost
  have oS := hV.2 S hSk.1 27
  rw [hSk.2] at oS
  have oS : 0 ≤ (I0 S 27).toInt ∧ (I0 S 27).toInt ≤ 240 := oS
  have hV0 : SV frM P K O I0 J0 I0 J0 := SV.rf hV
  refine g_aload_n C dMo_rule_0 rfl ?_
  refine g_iconst (v := Int32.ofInt (0)) C dMo_rule_1 (by decide) ?_
  refine gt_puti C dMo_rule_2 fl_Mo_73 h0 hV0 rfl trivial rfl (Or.inl rfl) (fun Iw1 eIw1 hVw1 => ?_)
  have tkw1_a0_6 : (Iw1 a0 6).toInt = (I0 a0 6).toInt := by rw [eIw1, up2_ne _ _ (fun z => absurd z.2 (by decide))]
  have tkw1_a0_18 : (Iw1 a0 18).toInt = (I0 a0 18).toInt := by rw [eIw1, up2_ne _ _ (fun z => absurd z.2 (by decide))]
  have tkw1_S_27 : (Iw1 S 27).toInt = (I0 S 27).toInt := by rw [eIw1, up2_ne _ _ (fun z => by have q := hSk.2; rw [z.1, h0.2] at q; exact absurd q (by decide))]
  refine g_aload_n C dMo_rule_5 rfl ?_
  refine gt_getN C dMo_rule_6 fl_Mo_290 h0 hMn ?_
  refine g_ifnonnullN C dMo_rule_9 ?_
  refine g_aload_n C dMo_rule_12 rfl ?_
  refine g_iconst (v := Int32.ofInt (1)) C dMo_rule_13 (by decide) ?_
  refine s_callV_i (av := fun ad => [.int (Int32.ofInt (1))]) C dMo_rule_14 mfMo_refused mvMo_refused ln_Mo_283 h0 (by decide) rfl hVw1 (frL_le (by decide)) (cMo_refused hVw1.1 h0) rfl rfl (Nat.le_of_ble_eq_true rfl) ⟨Nat.le_of_ble_eq_true rfl, Nat.le_of_ble_eq_true rfl⟩ ⟨rfl, rfl⟩ ⟨Nat.zero_le _, Nat.zero_le _⟩ (fun Iw2 Jw2 hVw2 hFw2 z_14 p_14 => ?_)
  have tkw2_S_27 : (Iw2 S 27).toInt = (Iw1 S 27).toInt := by rw [(hFw2 S (by rw [hSk.2]; rfl)).1 27]
  have rz_14 := rg z_14
  try dsimp only at p_14
  have hk1_14 : Int32.toInt (Int32.ofInt (1)) = 1 := ofI (by decide)
  exact s_iret C E dMo_rule_17 ⟨Nat.zero_le _, Nat.zero_le _⟩ hVw2 (by (try dsimp only); omega)
set_option maxHeartbeats 4000000 in
set_option maxRecDepth 100000 in
theorem cMo_rule_G {P : List Nat} {K : Nat → Nat} {I0 : Nat → Nat → Int32} {O : Nat → Nat → Option Nat} {J0 : Nat → Nat → Int64} (hV : IV P K I0 O) {a0 : Nat} (h0 : a0 ∈ P ∧ K a0 = 10) {x1 : Int32} {S : Nat} (hSo : O a0 16 = some S) (hSk : S ∈ P ∧ K S = 31) {TW : Nat} (hTWo : O a0 17 = some TW) (hTWk : TW ∈ P ∧ K TW = 49) {TL : Nat} (hTLo : O a0 32 = some TL) (hTLk : TL ∈ P ∧ K TL = 50) {M : Nat} (hMo : O a0 3 = some M) (hMk : M ∈ P ∧ K M = 9) (hGM : GM I0 M) : Con yMo_rule bMo_rule 2 (some .int) ({ frames := 4, cells := 0, slots := 0, locals := 100 } : Room) P K I0 O J0 [.ref a0, .int x1] (SPo frM 1 (fun _ I_ => (I_ a0 6).toInt = (I0 a0 6).toInt ∧ (I_ a0 18).toInt = (I0 a0 18).toInt ∧ (I_ S 27).toInt = (I0 S 27).toInt) P K I0 O J0) := by
  refine Con.ofG mfMo_rule (Nat.le_of_ble_eq_true rfl) ?_
  intro X C E
  have r1 := rg x1
  have ost := hV.2 a0 h0.1 18
  rw [h0.2] at ost
  have ost : 0 ≤ (I0 a0 18).toInt ∧ (I0 a0 18).toInt ≤ 240 := ost
  have oS := hV.2 S hSk.1 27
  rw [hSk.2] at oS
  have oS : 0 ≤ (I0 S 27).toInt ∧ (I0 S 27).toInt ≤ 240 := oS
  have hV0 : SV frM P K O I0 J0 I0 J0 := SV.rf hV
  refine g_aload_n C dMo_rule_0 rfl ?_
  refine g_iconst (v := Int32.ofInt (0)) C dMo_rule_1 (by decide) ?_
  refine gt_puti C dMo_rule_2 fl_Mo_73 h0 hV0 rfl trivial rfl (Or.inl rfl) (fun Iw1 eIw1 hVw1 => ?_)
  have tkw1_a0_6 : (Iw1 a0 6).toInt = (I0 a0 6).toInt := by rw [eIw1, up2_ne _ _ (fun z => absurd z.2 (by decide))]
  have tkw1_a0_18 : (Iw1 a0 18).toInt = (I0 a0 18).toInt := by rw [eIw1, up2_ne _ _ (fun z => absurd z.2 (by decide))]
  have tkw1_S_27 : (Iw1 S 27).toInt = (I0 S 27).toInt := by rw [eIw1, up2_ne _ _ (fun z => by have q := hSk.2; rw [z.1, h0.2] at q; exact absurd q (by decide))]
  refine g_aload_n C dMo_rule_5 rfl ?_
  refine gt_getS C dMo_rule_6 fl_Mo_290 h0 hMo ?_
  refine g_ifnonnull 18 C dMo_rule_9 (by decide) ?_
  refine g_iload_n C dMo_rule_18 rfl ?_
  refine g_iconst (v := Int32.ofInt (1)) C dMo_rule_19 (by decide) ?_
  refine g_iconst (v := Int32.ofInt (5)) C dMo_rule_20 (by decide) ?_
  refine s_callS_zp (av := fun ad => [.int x1, .int (Int32.ofInt (1)), .int (Int32.ofInt (5))]) C dMo_rule_21 mfMo_in msMo_in ln_Mo_149 (cMo_in hVw1.1 ) rfl rfl (Nat.le_of_ble_eq_true rfl) ⟨Nat.le_of_ble_eq_true rfl, Nat.le_of_ble_eq_true rfl⟩ ⟨rfl, rfl⟩ ⟨Nat.zero_le _, Nat.zero_le _⟩ (fun z_21 b_21 p_21 => ?_)
  have rz_21 := rg z_21
  have u_21 := b_21
  unfold B01 at u_21
  try dsimp only at p_21
  have hk1_21 : Int32.toInt (Int32.ofInt (1)) = 1 := ofI (by decide)
  have hk2_21 : Int32.toInt (Int32.ofInt (5)) = 5 := ofI (by decide)
  refine gt_if_ne 33 C dMo_rule_24 (by decide) rfl (fun c_24 => ?_) (fun c_24 => ?_)
  · skip
    refine g_aload_n C dMo_rule_33 rfl ?_
    refine g_iload_n C dMo_rule_34 rfl ?_
    refine s_callV_v (av := fun ad => [.int x1]) C dMo_rule_35 mfMo_rules mvMo_rules ln_Mo_375 h0 (by decide) rfl hVw1 (frL_le (by decide)) (cMo_rules_G hVw1.1 h0 hSo hSk hTWo hTWk hTLo hTLk hMo hMk (hGM.keep (hVw1.2 M (by rw [hMk.2]; rfl)).1) (by omega)) rfl rfl (Nat.le_of_ble_eq_true rfl) ⟨Nat.le_of_ble_eq_true rfl, Nat.le_of_ble_eq_true rfl⟩ ⟨rfl, rfl⟩ ⟨Nat.zero_le _, Nat.zero_le _⟩ (fun Iw3 Jw3 hVw3 hFw3 p_35 => ?_)
    have tkw3_a0_6 : (Iw3 a0 6).toInt = (Iw1 a0 6).toInt := by rw [(hFw3 a0 (by rw [h0.2]; rfl)).1 6]
    have tkw3_a0_18 : (Iw3 a0 18).toInt = (Iw1 a0 18).toInt := by rw [(hFw3 a0 (by rw [h0.2]; rfl)).1 18]
    have tkw3_S_27 : (Iw3 S 27).toInt = (Iw1 S 27).toInt := by rw [(hFw3 S (by rw [hSk.2]; rfl)).1 27]
    refine g_aload_n C dMo_rule_38 rfl ?_
    refine g_aload_n C dMo_rule_39 rfl ?_
    refine gt_getS C dMo_rule_40 fl_Mo_21 h0 hTWo ?_
    refine g_bipush (v := Int32.ofInt (32)) C dMo_rule_43 (by decide) ?_
    refine gt_ialdc (c := 32) C dMo_rule_45 hTWk (by decide) rfl (ofI (by decide)) (n := 37) rfl (by decide) (by decide) ?_
    refine g_aload_n C dMo_rule_46 rfl ?_
    refine gt_getS C dMo_rule_47 fl_Mo_17 h0 hSo ?_
    refine g_bipush (v := Int32.ofInt (32)) C dMo_rule_50 (by decide) ?_
    refine gt_ialdc (c := 32) C dMo_rule_52 hSk (by decide) rfl (ofI (by decide)) (n := 37) rfl (by decide) (by decide) ?_
    first | refine n_isub C dMo_rule_53 rfl rfl (by omega) (fun z_53 e_53 => ?_) | refine a_isub C dMo_rule_53 (fun z_53 => ?_)
    refine s_callV_i (av := fun ad => [.int z_53]) C dMo_rule_54 mfMo_done mvMo_done ln_Mo_302 h0 (by decide) rfl hVw3 (frL_le (by decide)) (cMo_done hVw3.1 h0) rfl rfl (Nat.le_of_ble_eq_true rfl) ⟨Nat.le_of_ble_eq_true rfl, Nat.le_of_ble_eq_true rfl⟩ ⟨rfl, rfl⟩ ⟨Nat.zero_le _, Nat.zero_le _⟩ (fun Iw4 Jw4 hVw4 hFw4 z_54 p_54 => ?_)
    have tkw4_S_27 : (Iw4 S 27).toInt = (Iw3 S 27).toInt := by rw [(hFw4 S (by rw [hSk.2]; rfl)).1 27]
    have rz_54 := rg z_54
    try dsimp only at p_54
    exact s_iret C E dMo_rule_57 ⟨Nat.zero_le _, Nat.zero_le _⟩ hVw4 (by (try dsimp only); omega)
  · skip
    refine g_aload_n C dMo_rule_27 rfl ?_
    refine g_iconst (v := Int32.ofInt (2)) C dMo_rule_28 (by decide) ?_
    refine s_callV_i (av := fun ad => [.int (Int32.ofInt (2))]) C dMo_rule_29 mfMo_refused mvMo_refused ln_Mo_283 h0 (by decide) rfl hVw1 (frL_le (by decide)) (cMo_refused hVw1.1 h0) rfl rfl (Nat.le_of_ble_eq_true rfl) ⟨Nat.le_of_ble_eq_true rfl, Nat.le_of_ble_eq_true rfl⟩ ⟨rfl, rfl⟩ ⟨Nat.zero_le _, Nat.zero_le _⟩ (fun Iw5 Jw5 hVw5 hFw5 z_29 p_29 => ?_)
    have tkw5_S_27 : (Iw5 S 27).toInt = (Iw1 S 27).toInt := by rw [(hFw5 S (by rw [hSk.2]; rfl)).1 27]
    have rz_29 := rg z_29
    try dsimp only at p_29
    have hk1_29 : Int32.toInt (Int32.ofInt (2)) = 2 := ofI (by decide)
    exact s_iret C E dMo_rule_32 ⟨Nat.zero_le _, Nat.zero_le _⟩ hVw5 (by (try dsimp only); omega)
set_option maxHeartbeats 4000000 in
set_option maxRecDepth 100000 in
theorem cMo_lacks_Z {P : List Nat} {K : Nat → Nat} {I0 : Nat → Nat → Int32} {O : Nat → Nat → Option Nat} {J0 : Nat → Nat → Int64} (hV : IV P K I0 O) {a0 : Nat} (h0 : a0 ∈ P ∧ K a0 = 10) {x1 : Int32} {S : Nat} (hSo : O a0 16 = some S) (hSk : S ∈ P ∧ K S = 31) {TW : Nat} (hTWo : O a0 17 = some TW) (hTWk : TW ∈ P ∧ K TW = 49) {TL : Nat} (hTLo : O a0 32 = some TL) (hTLk : TL ∈ P ∧ K TL = 50) (hMn : O a0 3 = none) : Con yMo_lacks bMo_lacks 2 (some .int) ({ frames := 1, cells := 0, slots := 0, locals := 21 } : Room) P K I0 O J0 [.ref a0, .int x1] (SPo frM 1 (fun _ I_ => (I_ a0 6).toInt = (I0 a0 6).toInt ∧ (I_ a0 18).toInt = (I0 a0 18).toInt ∧ (I_ S 27).toInt = (I0 S 27).toInt) P K I0 O J0) := by
  refine Con.ofG mfMo_lacks (Nat.le_of_ble_eq_true rfl) ?_
  intro X C E
  have r1 := rg x1
  have ost := hV.2 a0 h0.1 18
  rw [h0.2] at ost
  have ost : 0 ≤ (I0 a0 18).toInt ∧ (I0 a0 18).toInt ≤ 240 := ost
  have oS := hV.2 S hSk.1 27
  rw [hSk.2] at oS
  have oS : 0 ≤ (I0 S 27).toInt ∧ (I0 S 27).toInt ≤ 240 := oS
  have hV0 : SV frM P K O I0 J0 I0 J0 := SV.rf hV
  refine g_aload_n C dMo_lacks_0 rfl ?_
  refine g_iconst (v := Int32.ofInt (0)) C dMo_lacks_1 (by decide) ?_
  refine gt_puti C dMo_lacks_2 fl_Mo_73 h0 hV0 rfl trivial rfl (Or.inl rfl) (fun Iw1 eIw1 hVw1 => ?_)
  have tkw1_a0_6 : (Iw1 a0 6).toInt = (I0 a0 6).toInt := by rw [eIw1, up2_ne _ _ (fun z => absurd z.2 (by decide))]
  have tkw1_a0_18 : (Iw1 a0 18).toInt = (I0 a0 18).toInt := by rw [eIw1, up2_ne _ _ (fun z => absurd z.2 (by decide))]
  have tkw1_S_27 : (Iw1 S 27).toInt = (I0 S 27).toInt := by rw [eIw1, up2_ne _ _ (fun z => by have q := hSk.2; rw [z.1, h0.2] at q; exact absurd q (by decide))]
  refine g_aload_n C dMo_lacks_5 rfl ?_
  refine gt_getN C dMo_lacks_6 fl_Mo_290 h0 hMn ?_
  refine g_ifnonnullN C dMo_lacks_9 ?_
  refine g_aload_n C dMo_lacks_12 rfl ?_
  refine g_iconst (v := Int32.ofInt (1)) C dMo_lacks_13 (by decide) ?_
  refine s_callV_i (av := fun ad => [.int (Int32.ofInt (1))]) C dMo_lacks_14 mfMo_refused mvMo_refused ln_Mo_283 h0 (by decide) rfl hVw1 (frL_le (by decide)) (cMo_refused hVw1.1 h0) rfl rfl (Nat.le_of_ble_eq_true rfl) ⟨Nat.le_of_ble_eq_true rfl, Nat.le_of_ble_eq_true rfl⟩ ⟨rfl, rfl⟩ ⟨Nat.zero_le _, Nat.zero_le _⟩ (fun Iw2 Jw2 hVw2 hFw2 z_14 p_14 => ?_)
  have tkw2_S_27 : (Iw2 S 27).toInt = (Iw1 S 27).toInt := by rw [(hFw2 S (by rw [hSk.2]; rfl)).1 27]
  have rz_14 := rg z_14
  try dsimp only at p_14
  have hk1_14 : Int32.toInt (Int32.ofInt (1)) = 1 := ofI (by decide)
  exact s_iret C E dMo_lacks_17 ⟨Nat.zero_le _, Nat.zero_le _⟩ hVw2 (by (try dsimp only); omega)
set_option maxHeartbeats 4000000 in
set_option maxRecDepth 100000 in
theorem cMo_lacks_G {P : List Nat} {K : Nat → Nat} {I0 : Nat → Nat → Int32} {O : Nat → Nat → Option Nat} {J0 : Nat → Nat → Int64} (hV : IV P K I0 O) {a0 : Nat} (h0 : a0 ∈ P ∧ K a0 = 10) {x1 : Int32} {S : Nat} (hSo : O a0 16 = some S) (hSk : S ∈ P ∧ K S = 31) {TW : Nat} (hTWo : O a0 17 = some TW) (hTWk : TW ∈ P ∧ K TW = 49) {TL : Nat} (hTLo : O a0 32 = some TL) (hTLk : TL ∈ P ∧ K TL = 50) {M : Nat} (hMo : O a0 3 = some M) (hMk : M ∈ P ∧ K M = 9) (hGM : GM I0 M) : Con yMo_lacks bMo_lacks 2 (some .int) ({ frames := 4, cells := 0, slots := 0, locals := 100 } : Room) P K I0 O J0 [.ref a0, .int x1] (SPo frM 1 (fun _ I_ => (I_ a0 6).toInt = (I0 a0 6).toInt ∧ (I_ a0 18).toInt = (I0 a0 18).toInt ∧ (I_ S 27).toInt = (I0 S 27).toInt) P K I0 O J0) := by
  refine Con.ofG mfMo_lacks (Nat.le_of_ble_eq_true rfl) ?_
  intro X C E
  have r1 := rg x1
  have ost := hV.2 a0 h0.1 18
  rw [h0.2] at ost
  have ost : 0 ≤ (I0 a0 18).toInt ∧ (I0 a0 18).toInt ≤ 240 := ost
  have oS := hV.2 S hSk.1 27
  rw [hSk.2] at oS
  have oS : 0 ≤ (I0 S 27).toInt ∧ (I0 S 27).toInt ≤ 240 := oS
  have hV0 : SV frM P K O I0 J0 I0 J0 := SV.rf hV
  refine g_aload_n C dMo_lacks_0 rfl ?_
  refine g_iconst (v := Int32.ofInt (0)) C dMo_lacks_1 (by decide) ?_
  refine gt_puti C dMo_lacks_2 fl_Mo_73 h0 hV0 rfl trivial rfl (Or.inl rfl) (fun Iw1 eIw1 hVw1 => ?_)
  have tkw1_a0_6 : (Iw1 a0 6).toInt = (I0 a0 6).toInt := by rw [eIw1, up2_ne _ _ (fun z => absurd z.2 (by decide))]
  have tkw1_a0_18 : (Iw1 a0 18).toInt = (I0 a0 18).toInt := by rw [eIw1, up2_ne _ _ (fun z => absurd z.2 (by decide))]
  have tkw1_S_27 : (Iw1 S 27).toInt = (I0 S 27).toInt := by rw [eIw1, up2_ne _ _ (fun z => by have q := hSk.2; rw [z.1, h0.2] at q; exact absurd q (by decide))]
  refine g_aload_n C dMo_lacks_5 rfl ?_
  refine gt_getS C dMo_lacks_6 fl_Mo_290 h0 hMo ?_
  refine g_ifnonnull 18 C dMo_lacks_9 (by decide) ?_
  refine g_iload_n C dMo_lacks_18 rfl ?_
  refine g_iconst (v := Int32.ofInt (1)) C dMo_lacks_19 (by decide) ?_
  refine g_iconst (v := Int32.ofInt (5)) C dMo_lacks_20 (by decide) ?_
  refine s_callS_zp (av := fun ad => [.int x1, .int (Int32.ofInt (1)), .int (Int32.ofInt (5))]) C dMo_lacks_21 mfMo_in msMo_in ln_Mo_149 (cMo_in hVw1.1 ) rfl rfl (Nat.le_of_ble_eq_true rfl) ⟨Nat.le_of_ble_eq_true rfl, Nat.le_of_ble_eq_true rfl⟩ ⟨rfl, rfl⟩ ⟨Nat.zero_le _, Nat.zero_le _⟩ (fun z_21 b_21 p_21 => ?_)
  have rz_21 := rg z_21
  have u_21 := b_21
  unfold B01 at u_21
  try dsimp only at p_21
  have hk1_21 : Int32.toInt (Int32.ofInt (1)) = 1 := ofI (by decide)
  have hk2_21 : Int32.toInt (Int32.ofInt (5)) = 5 := ofI (by decide)
  refine gt_if_ne 33 C dMo_lacks_24 (by decide) rfl (fun c_24 => ?_) (fun c_24 => ?_)
  · skip
    refine g_aload_n C dMo_lacks_33 rfl ?_
    refine g_iload_n C dMo_lacks_34 rfl ?_
    refine s_callV_v (av := fun ad => [.int x1]) C dMo_lacks_35 mfMo_rules mvMo_rules ln_Mo_375 h0 (by decide) rfl hVw1 (frL_le (by decide)) (cMo_rules_G hVw1.1 h0 hSo hSk hTWo hTWk hTLo hTLk hMo hMk (hGM.keep (hVw1.2 M (by rw [hMk.2]; rfl)).1) (by omega)) rfl rfl (Nat.le_of_ble_eq_true rfl) ⟨Nat.le_of_ble_eq_true rfl, Nat.le_of_ble_eq_true rfl⟩ ⟨rfl, rfl⟩ ⟨Nat.zero_le _, Nat.zero_le _⟩ (fun Iw3 Jw3 hVw3 hFw3 p_35 => ?_)
    have tkw3_a0_6 : (Iw3 a0 6).toInt = (Iw1 a0 6).toInt := by rw [(hFw3 a0 (by rw [h0.2]; rfl)).1 6]
    have tkw3_a0_18 : (Iw3 a0 18).toInt = (Iw1 a0 18).toInt := by rw [(hFw3 a0 (by rw [h0.2]; rfl)).1 18]
    have tkw3_S_27 : (Iw3 S 27).toInt = (Iw1 S 27).toInt := by rw [(hFw3 S (by rw [hSk.2]; rfl)).1 27]
    refine g_aload_n C dMo_lacks_38 rfl ?_
    refine g_aload_n C dMo_lacks_39 rfl ?_
    refine gt_getS C dMo_lacks_40 fl_Mo_21 h0 hTWo ?_
    refine g_bipush (v := Int32.ofInt (23)) C dMo_lacks_43 (by decide) ?_
    refine gt_ialdc (c := 23) C dMo_lacks_45 hTWk (by decide) rfl (ofI (by decide)) (n := 37) rfl (by decide) (by decide) ?_
    refine g_aload_n C dMo_lacks_46 rfl ?_
    refine gt_getS C dMo_lacks_47 fl_Mo_17 h0 hSo ?_
    refine g_bipush (v := Int32.ofInt (23)) C dMo_lacks_50 (by decide) ?_
    refine gt_ialdc (c := 23) C dMo_lacks_52 hSk (by decide) rfl (ofI (by decide)) (n := 37) rfl (by decide) (by decide) ?_
    first | refine n_isub C dMo_lacks_53 rfl rfl (by omega) (fun z_53 e_53 => ?_) | refine a_isub C dMo_lacks_53 (fun z_53 => ?_)
    refine s_callV_i (av := fun ad => [.int z_53]) C dMo_lacks_54 mfMo_done mvMo_done ln_Mo_302 h0 (by decide) rfl hVw3 (frL_le (by decide)) (cMo_done hVw3.1 h0) rfl rfl (Nat.le_of_ble_eq_true rfl) ⟨Nat.le_of_ble_eq_true rfl, Nat.le_of_ble_eq_true rfl⟩ ⟨rfl, rfl⟩ ⟨Nat.zero_le _, Nat.zero_le _⟩ (fun Iw4 Jw4 hVw4 hFw4 z_54 p_54 => ?_)
    have tkw4_S_27 : (Iw4 S 27).toInt = (Iw3 S 27).toInt := by rw [(hFw4 S (by rw [hSk.2]; rfl)).1 27]
    have rz_54 := rg z_54
    try dsimp only at p_54
    exact s_iret C E dMo_lacks_57 ⟨Nat.zero_le _, Nat.zero_le _⟩ hVw4 (by (try dsimp only); omega)
  · skip
    refine g_aload_n C dMo_lacks_27 rfl ?_
    refine g_iconst (v := Int32.ofInt (2)) C dMo_lacks_28 (by decide) ?_
    refine s_callV_i (av := fun ad => [.int (Int32.ofInt (2))]) C dMo_lacks_29 mfMo_refused mvMo_refused ln_Mo_283 h0 (by decide) rfl hVw1 (frL_le (by decide)) (cMo_refused hVw1.1 h0) rfl rfl (Nat.le_of_ble_eq_true rfl) ⟨Nat.le_of_ble_eq_true rfl, Nat.le_of_ble_eq_true rfl⟩ ⟨rfl, rfl⟩ ⟨Nat.zero_le _, Nat.zero_le _⟩ (fun Iw5 Jw5 hVw5 hFw5 z_29 p_29 => ?_)
    have tkw5_S_27 : (Iw5 S 27).toInt = (Iw1 S 27).toInt := by rw [(hFw5 S (by rw [hSk.2]; rfl)).1 27]
    have rz_29 := rg z_29
    try dsimp only at p_29
    have hk1_29 : Int32.toInt (Int32.ofInt (2)) = 2 := ofI (by decide)
    exact s_iret C E dMo_lacks_32 ⟨Nat.zero_le _, Nat.zero_le _⟩ hVw5 (by (try dsimp only); omega)
set_option maxHeartbeats 4000000 in
set_option maxRecDepth 100000 in
theorem cMo_marks_Z {P : List Nat} {K : Nat → Nat} {I0 : Nat → Nat → Int32} {O : Nat → Nat → Option Nat} {J0 : Nat → Nat → Int64} (hV : IV P K I0 O) {a0 : Nat} (h0 : a0 ∈ P ∧ K a0 = 10) {x1 : Int32} {x2 : Int32} {x3 : Int32} {x4 : Int32} {x5 : Int32} {x6 : Int32} {S : Nat} (hSo : O a0 16 = some S) (hSk : S ∈ P ∧ K S = 31) {TW : Nat} (hTWo : O a0 17 = some TW) (hTWk : TW ∈ P ∧ K TW = 49) (hMn : O a0 3 = none) : Con yMo_marks bMo_marks 10 (some .int) ({ frames := 2, cells := 0, slots := 0, locals := 44 } : Room) P K I0 O J0 [.ref a0, .int x1, .int x2, .int x3, .int x4, .int x5, .int x6] (SPo frM 1 (fun _ I_ => (I_ a0 6).toInt = (I0 a0 6).toInt ∧ (I_ a0 18).toInt = (I0 a0 18).toInt ∧ (I_ S 27).toInt = (I0 S 27).toInt) P K I0 O J0) := by
  refine Con.ofG mfMo_marks (Nat.le_of_ble_eq_true rfl) ?_
  intro X C E
  have r1 := rg x1
  have r2 := rg x2
  have r3 := rg x3
  have r4 := rg x4
  have r5 := rg x5
  have r6 := rg x6
  have ost := hV.2 a0 h0.1 18
  rw [h0.2] at ost
  have ost : 0 ≤ (I0 a0 18).toInt ∧ (I0 a0 18).toInt ≤ 240 := ost
  have oS := hV.2 S hSk.1 27
  rw [hSk.2] at oS
  have oS : 0 ≤ (I0 S 27).toInt ∧ (I0 S 27).toInt ≤ 240 := oS
  have hV0 : SV frM P K O I0 J0 I0 J0 := SV.rf hV
  refine g_aload_n C dMo_marks_0 rfl ?_
  refine g_iconst (v := Int32.ofInt (0)) C dMo_marks_1 (by decide) ?_
  refine gt_puti C dMo_marks_2 fl_Mo_73 h0 hV0 rfl trivial rfl (Or.inl rfl) (fun Iw1 eIw1 hVw1 => ?_)
  have tkw1_TW_27 : (Iw1 TW 27).toInt = (I0 TW 27).toInt := by rw [eIw1, up2_ne _ _ (fun z => by have q := hTWk.2; rw [z.1, h0.2] at q; exact absurd q (by decide))]
  have tkw1_a0_6 : (Iw1 a0 6).toInt = (I0 a0 6).toInt := by rw [eIw1, up2_ne _ _ (fun z => absurd z.2 (by decide))]
  have tkw1_a0_18 : (Iw1 a0 18).toInt = (I0 a0 18).toInt := by rw [eIw1, up2_ne _ _ (fun z => absurd z.2 (by decide))]
  have tkw1_S_27 : (Iw1 S 27).toInt = (I0 S 27).toInt := by rw [eIw1, up2_ne _ _ (fun z => by have q := hSk.2; rw [z.1, h0.2] at q; exact absurd q (by decide))]
  refine g_aload_n C dMo_marks_5 rfl ?_
  refine g_iload C dMo_marks_6 rfl ?_
  refine s_callV_zp (av := fun ad => [.int x4]) C dMo_marks_8 mfMo_isSize mvMo_isSize ln_Mo_335 h0 (by decide) rfl (cMo_isSize_Z hVw1.1 h0 hMn) rfl rfl (Nat.le_of_ble_eq_true rfl) ⟨Nat.le_of_ble_eq_true rfl, Nat.le_of_ble_eq_true rfl⟩ ⟨rfl, rfl⟩ ⟨Nat.zero_le _, Nat.zero_le _⟩ (fun z_8 b_8 p_8 => ?_)
  have rz_8 := rg z_8
  have u_8 := b_8
  unfold B01 at u_8
  try dsimp only at p_8
  have jn_36 : ∀   (Iw3 : Nat → Nat → Int32) (Jw3 : Nat → Nat → Int64), (Int32.toInt (Iw3 a0 6) = Int32.toInt (I0 a0 6)) → (Int32.toInt (Iw3 a0 18) = Int32.toInt (I0 a0 18)) → (Int32.toInt (Iw3 S 27) = Int32.toInt (I0 S 27)) → SV frM P K O I0 J0 Iw3 Jw3 → GG X 10 P K Iw3 O Jw3 0 0 36 [(0, .ref a0), (1, .int x1), (2, .int x2), (3, .int x3), (4, .int x4), (5, .int x5), (6, .int x6)] [] := by
    intro Iw3 Jw3 jv0_36 jv1_36 jv2_36 hVw3
    refine g_aload_n C dMo_marks_36 rfl ?_
    refine g_iconst (v := Int32.ofInt (1)) C dMo_marks_37 (by decide) ?_
    refine s_callV_i (av := fun ad => [.int (Int32.ofInt (1))]) C dMo_marks_38 mfMo_refused mvMo_refused ln_Mo_283 h0 (by decide) rfl hVw3 (frL_le (by decide)) (cMo_refused hVw3.1 h0) rfl rfl (Nat.le_of_ble_eq_true rfl) ⟨Nat.le_of_ble_eq_true rfl, Nat.le_of_ble_eq_true rfl⟩ ⟨rfl, rfl⟩ ⟨Nat.zero_le _, Nat.zero_le _⟩ (fun Iw4 Jw4 hVw4 hFw4 z_38 p_38 => ?_)
    have tkw4_TW_27 : (Iw4 TW 27).toInt = (Iw3 TW 27).toInt := by rw [(hFw4 TW (by rw [hTWk.2]; rfl)).1 27]
    have tkw4_S_27 : (Iw4 S 27).toInt = (Iw3 S 27).toInt := by rw [(hFw4 S (by rw [hSk.2]; rfl)).1 27]
    have rz_38 := rg z_38
    try dsimp only at p_38
    have hk1_38 : Int32.toInt (Int32.ofInt (1)) = 1 := ofI (by decide)
    exact s_iret C E dMo_marks_41 ⟨Nat.zero_le _, Nat.zero_le _⟩ hVw4 (by (try dsimp only); omega)
  refine gt_if_eq 36 C dMo_marks_11 (by decide) rfl (fun c_11 => ?_) (fun c_11 => ?_)
  · skip
    exact g_sub (jn_36  Iw1 J0 (by omega) (by omega) (by omega) hVw1) ⟨rfl, rfl, rfl, rfl, rfl, rfl, rfl, trivial⟩
  · skip
    refine g_iload C dMo_marks_14 rfl ?_
    refine g_iconst (v := Int32.ofInt (0)) C dMo_marks_16 (by decide) ?_
    refine g_bipush (v := Int32.ofInt (11)) C dMo_marks_17 (by decide) ?_
    refine s_callS_zp (av := fun ad => [.int x5, .int (Int32.ofInt (0)), .int (Int32.ofInt (11))]) C dMo_marks_19 mfMo_in msMo_in ln_Mo_149 (cMo_in hVw1.1 ) rfl rfl (Nat.le_of_ble_eq_true rfl) ⟨Nat.le_of_ble_eq_true rfl, Nat.le_of_ble_eq_true rfl⟩ ⟨rfl, rfl⟩ ⟨Nat.zero_le _, Nat.zero_le _⟩ (fun z_19 b_19 p_19 => ?_)
    have rz_19 := rg z_19
    have u_19 := b_19
    unfold B01 at u_19
    try dsimp only at p_19
    have hk1_19 : Int32.toInt (Int32.ofInt (0)) = 0 := ofI (by decide)
    have hk2_19 : Int32.toInt (Int32.ofInt (11)) = 11 := ofI (by decide)
    refine gt_if_eq 36 C dMo_marks_22 (by decide) rfl (fun c_22 => ?_) (fun c_22 => ?_)
    · skip
      exact g_sub (jn_36  Iw1 J0 (by omega) (by omega) (by omega) hVw1) ⟨rfl, rfl, rfl, rfl, rfl, rfl, rfl, trivial⟩
    · skip
      refine g_iload C dMo_marks_25 rfl ?_
      refine g_iconst (v := Int32.ofInt (0)) C dMo_marks_27 (by decide) ?_
      refine g_bipush (v := Int32.ofInt (11)) C dMo_marks_28 (by decide) ?_
      refine s_callS_zp (av := fun ad => [.int x6, .int (Int32.ofInt (0)), .int (Int32.ofInt (11))]) C dMo_marks_30 mfMo_in msMo_in ln_Mo_149 (cMo_in hVw1.1 ) rfl rfl (Nat.le_of_ble_eq_true rfl) ⟨Nat.le_of_ble_eq_true rfl, Nat.le_of_ble_eq_true rfl⟩ ⟨rfl, rfl⟩ ⟨Nat.zero_le _, Nat.zero_le _⟩ (fun z_30 b_30 p_30 => ?_)
      have rz_30 := rg z_30
      have u_30 := b_30
      unfold B01 at u_30
      try dsimp only at p_30
      have hk1_30 : Int32.toInt (Int32.ofInt (0)) = 0 := ofI (by decide)
      have hk2_30 : Int32.toInt (Int32.ofInt (11)) = 11 := ofI (by decide)
      refine gt_if_ne 42 C dMo_marks_33 (by decide) rfl (fun c_33 => ?_) (fun c_33 => ?_)
      · skip
        refine g_iload_n C dMo_marks_42 rfl ?_
        refine g_iload_n C dMo_marks_43 rfl ?_
        refine g_iload_n C dMo_marks_44 rfl ?_
        refine s_callS_zp (av := fun ad => [.int x1, .int x2, .int x3]) C dMo_marks_45 mfMo_isStart msMo_isStart ln_Mo_366 (cMo_isStart hVw1.1 ) rfl rfl (Nat.le_of_ble_eq_true rfl) ⟨Nat.le_of_ble_eq_true rfl, Nat.le_of_ble_eq_true rfl⟩ ⟨rfl, rfl⟩ ⟨Nat.zero_le _, Nat.zero_le _⟩ (fun z_45 b_45 p_45 => ?_)
        have rz_45 := rg z_45
        have u_45 := b_45
        unfold B01 at u_45
        try dsimp only at p_45
        have jn_58 : ∀   (Iw8 : Nat → Nat → Int32) (Jw8 : Nat → Nat → Int64), (Int32.toInt (Iw8 a0 6) = Int32.toInt (I0 a0 6)) → (Int32.toInt (Iw8 a0 18) = Int32.toInt (I0 a0 18)) → (Int32.toInt (Iw8 S 27) = Int32.toInt (I0 S 27)) → SV frM P K O I0 J0 Iw8 Jw8 → GG X 10 P K Iw8 O Jw8 0 0 58 [(0, .ref a0), (1, .int x1), (2, .int x2), (3, .int x3), (4, .int x4), (5, .int x5), (6, .int x6)] [] := by
          intro Iw8 Jw8 jv0_58 jv1_58 jv2_58 hVw8
          refine g_aload_n C dMo_marks_58 rfl ?_
          refine g_iconst (v := Int32.ofInt (2)) C dMo_marks_59 (by decide) ?_
          refine s_callV_i (av := fun ad => [.int (Int32.ofInt (2))]) C dMo_marks_60 mfMo_refused mvMo_refused ln_Mo_283 h0 (by decide) rfl hVw8 (frL_le (by decide)) (cMo_refused hVw8.1 h0) rfl rfl (Nat.le_of_ble_eq_true rfl) ⟨Nat.le_of_ble_eq_true rfl, Nat.le_of_ble_eq_true rfl⟩ ⟨rfl, rfl⟩ ⟨Nat.zero_le _, Nat.zero_le _⟩ (fun Iw9 Jw9 hVw9 hFw9 z_60 p_60 => ?_)
          have tkw9_TW_27 : (Iw9 TW 27).toInt = (Iw8 TW 27).toInt := by rw [(hFw9 TW (by rw [hTWk.2]; rfl)).1 27]
          have tkw9_S_27 : (Iw9 S 27).toInt = (Iw8 S 27).toInt := by rw [(hFw9 S (by rw [hSk.2]; rfl)).1 27]
          have rz_60 := rg z_60
          try dsimp only at p_60
          have hk1_60 : Int32.toInt (Int32.ofInt (2)) = 2 := ofI (by decide)
          exact s_iret C E dMo_marks_63 ⟨Nat.zero_le _, Nat.zero_le _⟩ hVw9 (by (try dsimp only); omega)
        refine gt_if_eq 58 C dMo_marks_48 (by decide) rfl (fun c_48 => ?_) (fun c_48 => ?_)
        · skip
          exact g_sub (jn_58  Iw1 J0 (by omega) (by omega) (by omega) hVw1) ⟨rfl, rfl, rfl, rfl, rfl, rfl, rfl, trivial⟩
        · skip
          refine g_iload C dMo_marks_51 rfl ?_
          refine g_iload C dMo_marks_53 rfl ?_
          refine gt_icmp_ge 64 C dMo_marks_55 (by decide) rfl rfl (fun c_55 => ?_) (fun c_55 => ?_)
          · skip
            refine g_aload_n C dMo_marks_64 rfl ?_
            refine g_aload_n C dMo_marks_65 rfl ?_
            refine gt_getS C dMo_marks_66 fl_Mo_21 h0 hTWo ?_
            refine g_iload_n C dMo_marks_69 rfl ?_
            refine g_iload_n C dMo_marks_70 rfl ?_
            refine g_iload_n C dMo_marks_71 rfl ?_
            exfalso; omega
          · skip
            exact g_sub (jn_58  Iw1 J0 (by omega) (by omega) (by omega) hVw1) ⟨rfl, rfl, rfl, rfl, rfl, rfl, rfl, trivial⟩
      · skip
        exact g_sub (jn_36  Iw1 J0 (by omega) (by omega) (by omega) hVw1) ⟨rfl, rfl, rfl, rfl, rfl, rfl, rfl, trivial⟩
set_option maxHeartbeats 4000000 in
set_option maxRecDepth 100000 in
theorem cMo_marks_G {P : List Nat} {K : Nat → Nat} {I0 : Nat → Nat → Int32} {O : Nat → Nat → Option Nat} {J0 : Nat → Nat → Int64} (hV : IV P K I0 O) {a0 : Nat} (h0 : a0 ∈ P ∧ K a0 = 10) {x1 : Int32} {x2 : Int32} {x3 : Int32} {x4 : Int32} {x5 : Int32} {x6 : Int32} {S : Nat} (hSo : O a0 16 = some S) (hSk : S ∈ P ∧ K S = 31) {TW : Nat} (hTWo : O a0 17 = some TW) (hTWk : TW ∈ P ∧ K TW = 49) {M : Nat} (hMo : O a0 3 = some M) (hMk : M ∈ P ∧ K M = 9) (hGM : GM I0 M) : Con yMo_marks bMo_marks 10 (some .int) ({ frames := 4, cells := 0, slots := 0, locals := 97 } : Room) P K I0 O J0 [.ref a0, .int x1, .int x2, .int x3, .int x4, .int x5, .int x6] (SPo frM 1 (fun _ I_ => (I_ a0 6).toInt = (I0 a0 6).toInt ∧ (I_ a0 18).toInt = (I0 a0 18).toInt ∧ (I_ S 27).toInt = (I0 S 27).toInt) P K I0 O J0) := by
  refine Con.ofG mfMo_marks (Nat.le_of_ble_eq_true rfl) ?_
  intro X C E
  have r1 := rg x1
  have r2 := rg x2
  have r3 := rg x3
  have r4 := rg x4
  have r5 := rg x5
  have r6 := rg x6
  have ost := hV.2 a0 h0.1 18
  rw [h0.2] at ost
  have ost : 0 ≤ (I0 a0 18).toInt ∧ (I0 a0 18).toInt ≤ 240 := ost
  have oS := hV.2 S hSk.1 27
  rw [hSk.2] at oS
  have oS : 0 ≤ (I0 S 27).toInt ∧ (I0 S 27).toInt ≤ 240 := oS
  have hV0 : SV frM P K O I0 J0 I0 J0 := SV.rf hV
  refine g_aload_n C dMo_marks_0 rfl ?_
  refine g_iconst (v := Int32.ofInt (0)) C dMo_marks_1 (by decide) ?_
  refine gt_puti C dMo_marks_2 fl_Mo_73 h0 hV0 rfl trivial rfl (Or.inl rfl) (fun Iw1 eIw1 hVw1 => ?_)
  have tkw1_TW_27 : (Iw1 TW 27).toInt = (I0 TW 27).toInt := by rw [eIw1, up2_ne _ _ (fun z => by have q := hTWk.2; rw [z.1, h0.2] at q; exact absurd q (by decide))]
  have tkw1_a0_6 : (Iw1 a0 6).toInt = (I0 a0 6).toInt := by rw [eIw1, up2_ne _ _ (fun z => absurd z.2 (by decide))]
  have tkw1_a0_18 : (Iw1 a0 18).toInt = (I0 a0 18).toInt := by rw [eIw1, up2_ne _ _ (fun z => absurd z.2 (by decide))]
  have tkw1_S_27 : (Iw1 S 27).toInt = (I0 S 27).toInt := by rw [eIw1, up2_ne _ _ (fun z => by have q := hSk.2; rw [z.1, h0.2] at q; exact absurd q (by decide))]
  refine g_aload_n C dMo_marks_5 rfl ?_
  refine g_iload C dMo_marks_6 rfl ?_
  refine s_callV_zp (av := fun ad => [.int x4]) C dMo_marks_8 mfMo_isSize mvMo_isSize ln_Mo_335 h0 (by decide) rfl (cMo_isSize_G hVw1.1 h0 hMo hMk (hGM.keep (hVw1.2 M (by rw [hMk.2]; rfl)).1)) rfl rfl (Nat.le_of_ble_eq_true rfl) ⟨Nat.le_of_ble_eq_true rfl, Nat.le_of_ble_eq_true rfl⟩ ⟨rfl, rfl⟩ ⟨Nat.zero_le _, Nat.zero_le _⟩ (fun z_8 b_8 p_8 => ?_)
  have rz_8 := rg z_8
  have u_8 := b_8
  unfold B01 at u_8
  try dsimp only at p_8
  have jn_36 : ∀   (Iw3 : Nat → Nat → Int32) (Jw3 : Nat → Nat → Int64), (Int32.toInt (Iw3 a0 6) = Int32.toInt (I0 a0 6)) → (Int32.toInt (Iw3 a0 18) = Int32.toInt (I0 a0 18)) → (Int32.toInt (Iw3 S 27) = Int32.toInt (I0 S 27)) → SV frM P K O I0 J0 Iw3 Jw3 → GG X 10 P K Iw3 O Jw3 0 0 36 [(0, .ref a0), (1, .int x1), (2, .int x2), (3, .int x3), (4, .int x4), (5, .int x5), (6, .int x6)] [] := by
    intro Iw3 Jw3 jv0_36 jv1_36 jv2_36 hVw3
    refine g_aload_n C dMo_marks_36 rfl ?_
    refine g_iconst (v := Int32.ofInt (1)) C dMo_marks_37 (by decide) ?_
    refine s_callV_i (av := fun ad => [.int (Int32.ofInt (1))]) C dMo_marks_38 mfMo_refused mvMo_refused ln_Mo_283 h0 (by decide) rfl hVw3 (frL_le (by decide)) (cMo_refused hVw3.1 h0) rfl rfl (Nat.le_of_ble_eq_true rfl) ⟨Nat.le_of_ble_eq_true rfl, Nat.le_of_ble_eq_true rfl⟩ ⟨rfl, rfl⟩ ⟨Nat.zero_le _, Nat.zero_le _⟩ (fun Iw4 Jw4 hVw4 hFw4 z_38 p_38 => ?_)
    have tkw4_TW_27 : (Iw4 TW 27).toInt = (Iw3 TW 27).toInt := by rw [(hFw4 TW (by rw [hTWk.2]; rfl)).1 27]
    have tkw4_S_27 : (Iw4 S 27).toInt = (Iw3 S 27).toInt := by rw [(hFw4 S (by rw [hSk.2]; rfl)).1 27]
    have rz_38 := rg z_38
    try dsimp only at p_38
    have hk1_38 : Int32.toInt (Int32.ofInt (1)) = 1 := ofI (by decide)
    exact s_iret C E dMo_marks_41 ⟨Nat.zero_le _, Nat.zero_le _⟩ hVw4 (by (try dsimp only); omega)
  refine gt_if_eq 36 C dMo_marks_11 (by decide) rfl (fun c_11 => ?_) (fun c_11 => ?_)
  · skip
    exact g_sub (jn_36  Iw1 J0 (by omega) (by omega) (by omega) hVw1) ⟨rfl, rfl, rfl, rfl, rfl, rfl, rfl, trivial⟩
  · skip
    refine g_iload C dMo_marks_14 rfl ?_
    refine g_iconst (v := Int32.ofInt (0)) C dMo_marks_16 (by decide) ?_
    refine g_bipush (v := Int32.ofInt (11)) C dMo_marks_17 (by decide) ?_
    refine s_callS_zp (av := fun ad => [.int x5, .int (Int32.ofInt (0)), .int (Int32.ofInt (11))]) C dMo_marks_19 mfMo_in msMo_in ln_Mo_149 (cMo_in hVw1.1 ) rfl rfl (Nat.le_of_ble_eq_true rfl) ⟨Nat.le_of_ble_eq_true rfl, Nat.le_of_ble_eq_true rfl⟩ ⟨rfl, rfl⟩ ⟨Nat.zero_le _, Nat.zero_le _⟩ (fun z_19 b_19 p_19 => ?_)
    have rz_19 := rg z_19
    have u_19 := b_19
    unfold B01 at u_19
    try dsimp only at p_19
    have hk1_19 : Int32.toInt (Int32.ofInt (0)) = 0 := ofI (by decide)
    have hk2_19 : Int32.toInt (Int32.ofInt (11)) = 11 := ofI (by decide)
    refine gt_if_eq 36 C dMo_marks_22 (by decide) rfl (fun c_22 => ?_) (fun c_22 => ?_)
    · skip
      exact g_sub (jn_36  Iw1 J0 (by omega) (by omega) (by omega) hVw1) ⟨rfl, rfl, rfl, rfl, rfl, rfl, rfl, trivial⟩
    · skip
      refine g_iload C dMo_marks_25 rfl ?_
      refine g_iconst (v := Int32.ofInt (0)) C dMo_marks_27 (by decide) ?_
      refine g_bipush (v := Int32.ofInt (11)) C dMo_marks_28 (by decide) ?_
      refine s_callS_zp (av := fun ad => [.int x6, .int (Int32.ofInt (0)), .int (Int32.ofInt (11))]) C dMo_marks_30 mfMo_in msMo_in ln_Mo_149 (cMo_in hVw1.1 ) rfl rfl (Nat.le_of_ble_eq_true rfl) ⟨Nat.le_of_ble_eq_true rfl, Nat.le_of_ble_eq_true rfl⟩ ⟨rfl, rfl⟩ ⟨Nat.zero_le _, Nat.zero_le _⟩ (fun z_30 b_30 p_30 => ?_)
      have rz_30 := rg z_30
      have u_30 := b_30
      unfold B01 at u_30
      try dsimp only at p_30
      have hk1_30 : Int32.toInt (Int32.ofInt (0)) = 0 := ofI (by decide)
      have hk2_30 : Int32.toInt (Int32.ofInt (11)) = 11 := ofI (by decide)
      refine gt_if_ne 42 C dMo_marks_33 (by decide) rfl (fun c_33 => ?_) (fun c_33 => ?_)
      · skip
        refine g_iload_n C dMo_marks_42 rfl ?_
        refine g_iload_n C dMo_marks_43 rfl ?_
        refine g_iload_n C dMo_marks_44 rfl ?_
        refine s_callS_zp (av := fun ad => [.int x1, .int x2, .int x3]) C dMo_marks_45 mfMo_isStart msMo_isStart ln_Mo_366 (cMo_isStart hVw1.1 ) rfl rfl (Nat.le_of_ble_eq_true rfl) ⟨Nat.le_of_ble_eq_true rfl, Nat.le_of_ble_eq_true rfl⟩ ⟨rfl, rfl⟩ ⟨Nat.zero_le _, Nat.zero_le _⟩ (fun z_45 b_45 p_45 => ?_)
        have rz_45 := rg z_45
        have u_45 := b_45
        unfold B01 at u_45
        try dsimp only at p_45
        have jn_58 : ∀   (Iw8 : Nat → Nat → Int32) (Jw8 : Nat → Nat → Int64), (Int32.toInt (Iw8 a0 6) = Int32.toInt (I0 a0 6)) → (Int32.toInt (Iw8 a0 18) = Int32.toInt (I0 a0 18)) → (Int32.toInt (Iw8 S 27) = Int32.toInt (I0 S 27)) → SV frM P K O I0 J0 Iw8 Jw8 → GG X 10 P K Iw8 O Jw8 0 0 58 [(0, .ref a0), (1, .int x1), (2, .int x2), (3, .int x3), (4, .int x4), (5, .int x5), (6, .int x6)] [] := by
          intro Iw8 Jw8 jv0_58 jv1_58 jv2_58 hVw8
          refine g_aload_n C dMo_marks_58 rfl ?_
          refine g_iconst (v := Int32.ofInt (2)) C dMo_marks_59 (by decide) ?_
          refine s_callV_i (av := fun ad => [.int (Int32.ofInt (2))]) C dMo_marks_60 mfMo_refused mvMo_refused ln_Mo_283 h0 (by decide) rfl hVw8 (frL_le (by decide)) (cMo_refused hVw8.1 h0) rfl rfl (Nat.le_of_ble_eq_true rfl) ⟨Nat.le_of_ble_eq_true rfl, Nat.le_of_ble_eq_true rfl⟩ ⟨rfl, rfl⟩ ⟨Nat.zero_le _, Nat.zero_le _⟩ (fun Iw9 Jw9 hVw9 hFw9 z_60 p_60 => ?_)
          have tkw9_TW_27 : (Iw9 TW 27).toInt = (Iw8 TW 27).toInt := by rw [(hFw9 TW (by rw [hTWk.2]; rfl)).1 27]
          have tkw9_S_27 : (Iw9 S 27).toInt = (Iw8 S 27).toInt := by rw [(hFw9 S (by rw [hSk.2]; rfl)).1 27]
          have rz_60 := rg z_60
          try dsimp only at p_60
          have hk1_60 : Int32.toInt (Int32.ofInt (2)) = 2 := ofI (by decide)
          exact s_iret C E dMo_marks_63 ⟨Nat.zero_le _, Nat.zero_le _⟩ hVw9 (by (try dsimp only); omega)
        refine gt_if_eq 58 C dMo_marks_48 (by decide) rfl (fun c_48 => ?_) (fun c_48 => ?_)
        · skip
          exact g_sub (jn_58  Iw1 J0 (by omega) (by omega) (by omega) hVw1) ⟨rfl, rfl, rfl, rfl, rfl, rfl, rfl, trivial⟩
        · skip
          refine g_iload C dMo_marks_51 rfl ?_
          refine g_iload C dMo_marks_53 rfl ?_
          refine gt_icmp_ge 64 C dMo_marks_55 (by decide) rfl rfl (fun c_55 => ?_) (fun c_55 => ?_)
          · skip
            refine g_aload_n C dMo_marks_64 rfl ?_
            refine g_aload_n C dMo_marks_65 rfl ?_
            refine gt_getS C dMo_marks_66 fl_Mo_21 h0 hTWo ?_
            refine g_iload_n C dMo_marks_69 rfl ?_
            refine g_iload_n C dMo_marks_70 rfl ?_
            refine g_iload_n C dMo_marks_71 rfl ?_
            refine s_callV_v (av := fun ad => [.ref TW, .int x1, .int x2, .int x3]) C dMo_marks_72 mfMo_begins mvMo_begins ln_Mo_343 h0 (by decide) rfl hVw1 (frL_le (by decide)) (cMo_begins_G hVw1.1 h0 hTWk hMo hMk (hGM.keep (hVw1.2 M (by rw [hMk.2]; rfl)).1)) rfl rfl (Nat.le_of_ble_eq_true rfl) ⟨Nat.le_of_ble_eq_true rfl, Nat.le_of_ble_eq_true rfl⟩ ⟨rfl, rfl⟩ ⟨Nat.zero_le _, Nat.zero_le _⟩ (fun Iw10 Jw10 hVw10 hFw10 p_72 => ?_)
            have tkw10_a0_6 : (Iw10 a0 6).toInt = (Iw1 a0 6).toInt := by rw [(hFw10 a0 (by rw [h0.2]; rfl)).1 6]
            have tkw10_a0_18 : (Iw10 a0 18).toInt = (Iw1 a0 18).toInt := by rw [(hFw10 a0 (by rw [h0.2]; rfl)).1 18]
            have tkw10_S_27 : (Iw10 S 27).toInt = (Iw1 S 27).toInt := by rw [(hFw10 S (by rw [hSk.2]; rfl)).1 27]
            try dsimp only at p_72
            refine g_iconst (v := Int32.ofInt (0)) C dMo_marks_75 (by decide) ?_
            refine g_istore C dMo_marks_76 (by decide) ?_
            have lp_78 : ∀ (nn_78 : Nat) (x7_78 : Int32) (Iw11 : Nat → Nat → Int32) (Jw11 : Nat → Nat → Int64), Int.toNat (5 - x7_78.toInt) = nn_78 → (0 ≤ Int32.toInt x7_78 ∧ Int32.toInt x7_78 ≤ 5) → (Int32.toInt (Iw11 TW 27) = 0) → (Int32.toInt (Iw11 a0 6) = Int32.toInt (I0 a0 6)) → (Int32.toInt (Iw11 a0 18) = Int32.toInt (I0 a0 18)) → (Int32.toInt (Iw11 S 27) = Int32.toInt (I0 S 27)) → SV frM P K O I0 J0 Iw11 Jw11 → GG X 10 P K Iw11 O Jw11 0 0 78 [(0, .ref a0), (1, .int x1), (2, .int x2), (3, .int x3), (4, .int x4), (5, .int x5), (6, .int x6), (7, .int x7_78)] [] := by
              intro nn_78
              induction nn_78 using Nat.strongRecOn with
              | ind nn_78 ih_78 =>
              intro x7_78 Iw11 Jw11 hn_78 iv0_78 iv1_78 iv2_78 iv3_78 iv4_78 hVw11
              have rg7_78 := rg x7_78
              refine g_iload C dMo_marks_78 rfl ?_
              refine g_iconst (v := Int32.ofInt (5)) C dMo_marks_80 (by decide) ?_
              refine gt_icmp_ge 119 C dMo_marks_81 (by decide) rfl (ofI (by decide)) (fun c_81 => ?_) (fun c_81 => ?_)
              · skip
                refine g_lconst (v := 0) C dMo_marks_119 (by decide) ?_
                refine g_lstore C dMo_marks_120 (by decide) ?_
                refine g_iconst (v := Int32.ofInt (0)) C dMo_marks_122 (by decide) ?_
                refine g_istore C dMo_marks_123 (by decide) ?_
                have lp_125 : ∀ (nn_125 : Nat) (x7_125 : Int64) (x9_125 : Int32) (Iw12 : Nat → Nat → Int32) (Jw12 : Nat → Nat → Int64), Int.toNat (12 - x9_125.toInt) = nn_125 → (0 ≤ Int32.toInt x9_125 ∧ Int32.toInt x9_125 ≤ 12) → (Int32.toInt (Iw12 TW 27) = x9_125.toInt) → (Int32.toInt (Iw12 a0 6) = Int32.toInt (I0 a0 6)) → (Int32.toInt (Iw12 a0 18) = Int32.toInt (I0 a0 18)) → (Int32.toInt (Iw12 S 27) = Int32.toInt (I0 S 27)) → SV frM P K O I0 J0 Iw12 Jw12 → GG X 10 P K Iw12 O Jw12 0 0 125 [(0, .ref a0), (1, .int x1), (2, .int x2), (3, .int x3), (4, .int x4), (5, .int x5), (6, .int x6), (7, .long x7_125), (9, .int x9_125)] [] := by
                  intro nn_125
                  induction nn_125 using Nat.strongRecOn with
                  | ind nn_125 ih_125 =>
                  intro x7_125 x9_125 Iw12 Jw12 hn_125 iv0_125 iv1_125 iv2_125 iv3_125 iv4_125 hVw12
                  have rg9_125 := rg x9_125
                  refine g_iload C dMo_marks_125 rfl ?_
                  refine g_iload C dMo_marks_127 rfl ?_
                  refine gt_icmp_gt 164 C dMo_marks_129 (by decide) rfl rfl (fun c_129 => ?_) (fun c_129 => ?_)
                  · skip
                    refine g_aload_n C dMo_marks_164 rfl ?_
                    refine g_lload C dMo_marks_165 rfl ?_
                    refine a_l2i C dMo_marks_167 (fun z_167 => ?_)
                    refine s_callV_i (av := fun ad => [.int z_167]) C dMo_marks_168 mfMo_done mvMo_done ln_Mo_302 h0 (by decide) rfl hVw12 (frL_le (by decide)) (cMo_done hVw12.1 h0) rfl rfl (Nat.le_of_ble_eq_true rfl) ⟨Nat.le_of_ble_eq_true rfl, Nat.le_of_ble_eq_true rfl⟩ ⟨rfl, rfl⟩ ⟨Nat.zero_le _, Nat.zero_le _⟩ (fun Iw13 Jw13 hVw13 hFw13 z_168 p_168 => ?_)
                    have tkw13_TW_27 : (Iw13 TW 27).toInt = (Iw12 TW 27).toInt := by rw [(hFw13 TW (by rw [hTWk.2]; rfl)).1 27]
                    have tkw13_S_27 : (Iw13 S 27).toInt = (Iw12 S 27).toInt := by rw [(hFw13 S (by rw [hSk.2]; rfl)).1 27]
                    have rz_168 := rg z_168
                    try dsimp only at p_168
                    exact s_iret C E dMo_marks_171 ⟨Nat.zero_le _, Nat.zero_le _⟩ hVw13 (by (try dsimp only); omega)
                  · skip
                    refine g_aload_n C dMo_marks_132 rfl ?_
                    refine g_aload_n C dMo_marks_133 rfl ?_
                    refine gt_getS C dMo_marks_134 fl_Mo_21 h0 hTWo ?_
                    refine g_iload C dMo_marks_137 rfl ?_
                    refine s_callV_v (av := fun ad => [.ref TW, .int x9_125]) C dMo_marks_139 mfMo_byProgram mvMo_byProgram ln_Mo_347 h0 (by decide) rfl hVw12 (frL_le (by decide)) (cMo_byProgram_G hVw12.1 h0 hTWk hMo hMk (hGM.keep (hVw12.2 M (by rw [hMk.2]; rfl)).1) (by omega) (by omega)) rfl rfl (Nat.le_of_ble_eq_true rfl) ⟨Nat.le_of_ble_eq_true rfl, Nat.le_of_ble_eq_true rfl⟩ ⟨rfl, rfl⟩ ⟨Nat.zero_le _, Nat.zero_le _⟩ (fun Iw14 Jw14 hVw14 hFw14 p_139 => ?_)
                    have tkw14_a0_6 : (Iw14 a0 6).toInt = (Iw12 a0 6).toInt := by rw [(hFw14 a0 (by rw [h0.2]; rfl)).1 6]
                    have tkw14_a0_18 : (Iw14 a0 18).toInt = (Iw12 a0 18).toInt := by rw [(hFw14 a0 (by rw [h0.2]; rfl)).1 18]
                    have tkw14_S_27 : (Iw14 S 27).toInt = (Iw12 S 27).toInt := by rw [(hFw14 S (by rw [hSk.2]; rfl)).1 27]
                    try dsimp only at p_139
                    refine g_iload C dMo_marks_142 rfl ?_
                    refine g_iload C dMo_marks_144 rfl ?_
                    have jn_158 : ∀ (y7_158 : Int64)  (Iw15 : Nat → Nat → Int32) (Jw15 : Nat → Nat → Int64), (Int32.toInt (Iw15 TW 27) = x9_125.toInt + 1) → (Int32.toInt (Iw15 a0 6) = Int32.toInt (I0 a0 6)) → (Int32.toInt (Iw15 a0 18) = Int32.toInt (I0 a0 18)) → (Int32.toInt (Iw15 S 27) = Int32.toInt (I0 S 27)) → SV frM P K O I0 J0 Iw15 Jw15 → GG X 10 P K Iw15 O Jw15 0 0 158 [(0, .ref a0), (1, .int x1), (2, .int x2), (3, .int x3), (4, .int x4), (5, .int x5), (6, .int x6), (7, .long y7_158), (9, .int x9_125)] [] := by
                      intro y7_158 Iw15 Jw15 jv0_158 jv1_158 jv2_158 jv3_158 hVw15
                      first | refine n_iinc C dMo_marks_158 rfl rfl (by decide) (by decide) (by omega) (fun z_158 e_158 => ?_) | refine a_iinc C dMo_marks_158 rfl (by decide) (fun z_158 => ?_)
                      refine g_goto 125 C dMo_marks_161 (by decide) ?_
                      exact g_sub (ih_125 _ (by omega) y7_158 z_158 Iw15 Jw15 rfl (by omega) (by omega) (by omega) (by omega) (by omega) hVw15) ⟨rfl, rfl, rfl, rfl, rfl, rfl, rfl, rfl, rfl, trivial⟩
                    refine gt_icmp_lt 158 C dMo_marks_146 (by decide) rfl rfl (fun c_146 => ?_) (fun c_146 => ?_)
                    · skip
                      exact g_sub (jn_158 x7_125 Iw14 Jw14 (by omega) (by omega) (by omega) (by omega) hVw14) ⟨rfl, rfl, rfl, rfl, rfl, rfl, rfl, rfl, rfl, trivial⟩
                    · skip
                      refine g_lload C dMo_marks_149 rfl ?_
                      refine g_aload_n C dMo_marks_151 rfl ?_
                      refine s_callV_l (av := fun ad => []) C dMo_marks_152 mfMo_leads mvMo_leads ln_Mo_390 h0 (by decide) rfl hVw14 (frL_le (by decide)) (cMo_leads_G hVw14.1 h0 hMo hMk (hGM.keep (hVw14.2 M (by rw [hMk.2]; rfl)).1)) rfl rfl (Nat.le_of_ble_eq_true rfl) ⟨Nat.le_of_ble_eq_true rfl, Nat.le_of_ble_eq_true rfl⟩ ⟨rfl, rfl⟩ ⟨Nat.zero_le _, Nat.zero_le _⟩ (fun Iw16 Jw16 hVw16 hFw16 z_152 p_152 => ?_)
                      have tkw16_TW_27 : (Iw16 TW 27).toInt = (Iw14 TW 27).toInt := by rw [(hFw16 TW (by rw [hTWk.2]; rfl)).1 27]
                      have tkw16_a0_6 : (Iw16 a0 6).toInt = (Iw14 a0 6).toInt := by rw [(hFw16 a0 (by rw [h0.2]; rfl)).1 6]
                      have tkw16_a0_18 : (Iw16 a0 18).toInt = (Iw14 a0 18).toInt := by rw [(hFw16 a0 (by rw [h0.2]; rfl)).1 18]
                      have tkw16_S_27 : (Iw16 S 27).toInt = (Iw14 S 27).toInt := by rw [(hFw16 S (by rw [hSk.2]; rfl)).1 27]
                      refine a_ladd C dMo_marks_155 (fun z_155 => ?_)
                      refine g_lstore C dMo_marks_156 (by decide) ?_
                      exact g_sub (jn_158 z_155 Iw16 Jw16 (by omega) (by omega) (by omega) (by omega) hVw16) ⟨rfl, rfl, rfl, rfl, rfl, rfl, rfl, rfl, rfl, trivial⟩
                exact g_sub (lp_125 _ (0 : Int64) (Int32.ofInt (0)) Iw11 Jw11 rfl (by have hci : Int32.toInt (Int32.ofInt (0)) = 0 := ofI (by decide); omega) (by have hci : Int32.toInt (Int32.ofInt (0)) = 0 := ofI (by decide); omega) (by omega) (by omega) (by omega) hVw11) ⟨rfl, rfl, rfl, rfl, rfl, rfl, rfl, rfl, rfl, trivial⟩
              · skip
                refine g_aload_n C dMo_marks_84 rfl ?_
                refine gt_getr C dMo_marks_85 fl_Mo_66 h0 hVw11.1.1 rfl (fun b_85 q_85 hb_85 => ?_)
                refine g_iload C dMo_marks_88 rfl ?_
                refine g_iload C dMo_marks_90 rfl ?_
                refine g_iload C dMo_marks_92 rfl ?_
                have jn_104 : ∀  (s0_104 : Int64) (Iw17 : Nat → Nat → Int32) (Jw17 : Nat → Nat → Int64), (Int32.toInt (Iw17 TW 27) = 0) → (Int32.toInt (Iw17 a0 6) = Int32.toInt (I0 a0 6)) → (Int32.toInt (Iw17 a0 18) = Int32.toInt (I0 a0 18)) → (Int32.toInt (Iw17 S 27) = Int32.toInt (I0 S 27)) → SV frM P K O I0 J0 Iw17 Jw17 → GG X 10 P K Iw17 O Jw17 0 0 104 [(0, .ref a0), (1, .int x1), (2, .int x2), (3, .int x3), (4, .int x4), (5, .int x5), (6, .int x6), (7, .int x7_78)] [.long s0_104, .int x7_78, .ref b_85] := by
                  intro s0_104 Iw17 Jw17 jv0_104 jv1_104 jv2_104 jv3_104 hVw17
                  refine gt_last C dMo_marks_104 hb_85 (by decide) rfl rfl (n := 5) rfl (by omega) hVw17 rfl (fun Jw18 eJw18 hVw18 => ?_)
                  refine g_aload_n C dMo_marks_105 rfl ?_
                  refine gt_getr C dMo_marks_106 fl_Mo_70 h0 hVw18.1.1 rfl (fun b_106 q_106 hb_106 => ?_)
                  refine g_iload C dMo_marks_109 rfl ?_
                  refine g_lconst (v := 0) C dMo_marks_111 (by decide) ?_
                  refine gt_last C dMo_marks_112 hb_106 (by decide) rfl rfl (n := 5) rfl (by omega) hVw18 rfl (fun Jw19 eJw19 hVw19 => ?_)
                  first | refine n_iinc C dMo_marks_113 rfl rfl (by decide) (by decide) (by omega) (fun z_113 e_113 => ?_) | refine a_iinc C dMo_marks_113 rfl (by decide) (fun z_113 => ?_)
                  refine g_goto 78 C dMo_marks_116 (by decide) ?_
                  exact g_sub (ih_78 _ (by omega) z_113 Iw17 Jw19 rfl (by omega) (by omega) (by omega) (by omega) (by omega) hVw19) ⟨rfl, rfl, rfl, rfl, rfl, rfl, rfl, rfl, trivial⟩
                refine gt_icmp_ne 103 C dMo_marks_94 (by decide) rfl rfl (fun c_94 => ?_) (fun c_94 => ?_)
                · skip
                  refine g_lconst (v := 0) C dMo_marks_103 (by decide) ?_
                  exact g_sub (jn_104 (0 : Int64) Iw11 Jw11 (by omega) (by omega) (by omega) (by omega) hVw11) ⟨rfl, rfl, rfl, rfl, rfl, rfl, rfl, rfl, trivial⟩
                · skip
                  refine g_ldc2 (v := 1000000) C dMo_marks_97 k_Mo_388 ?_
                  refine g_goto 104 C dMo_marks_100 (by decide) ?_
                  exact g_sub (jn_104 (1000000 : Int64) Iw11 Jw11 (by omega) (by omega) (by omega) (by omega) hVw11) ⟨rfl, rfl, rfl, rfl, rfl, rfl, rfl, rfl, trivial⟩
            exact g_sub (lp_78 _ (Int32.ofInt (0)) Iw10 Jw10 rfl (by have hci : Int32.toInt (Int32.ofInt (0)) = 0 := ofI (by decide); omega) (by omega) (by omega) (by omega) (by omega) hVw10) ⟨rfl, rfl, rfl, rfl, rfl, rfl, rfl, rfl, trivial⟩
          · skip
            exact g_sub (jn_58  Iw1 J0 (by omega) (by omega) (by omega) hVw1) ⟨rfl, rfl, rfl, rfl, rfl, rfl, rfl, trivial⟩
      · skip
        exact g_sub (jn_36  Iw1 J0 (by omega) (by omega) (by omega) hVw1) ⟨rfl, rfl, rfl, rfl, rfl, rfl, rfl, trivial⟩
