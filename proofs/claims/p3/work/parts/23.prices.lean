set_option maxHeartbeats 4000000 in
set_option maxRecDepth 100000 in
theorem cMo_readPrices_N_F {P : List Nat} {K : Nat → Nat} {I0 : Nat → Nat → Int32} {O : Nat → Nat → Option Nat} {J0 : Nat → Nat → Int64} (hV : IV P K I0 O) {a0 : Nat} (h0 : a0 ∈ P ∧ K a0 = 10) {F B : Nat} (hFo : O a0 4 = some F) (hFk : F ∈ P ∧ K F = 9) (hBk : True ∧ K B = 9) (hBF : B ≠ F) (pr0 : 0 ≤ Int32.toInt (I0 a0 9) ∧ Int32.toInt (I0 a0 9) ≤ 4 ∧ Int32.toInt (I0 a0 13) = 0 ∧ (Int32.toInt (I0 F 0) = -1 ∨ 1 ≤ Int32.toInt (I0 F 0)) ∧ (Int32.toInt (I0 F 4) = -1 ∨ 1 ≤ Int32.toInt (I0 F 4)) ∧ Int32.toInt (I0 F 10) = Int32.toInt (I0 F 8) + Int32.toInt (I0 F 9) + 0) : Con yMo_readPrices bMo_readPrices 4 none ({ frames := 3, cells := 0, slots := 0, locals := 66 } : Room) P K I0 O J0 [.ref a0] (SPo frQ 0 (fun _ I_ => ((Int32.toInt (I_ a0 9) = 5 ∧ 1 ≤ Int32.toInt (I_ a0 13) ∧ Int32.toInt (I0 a0 8) ≤ Int32.toInt (I_ a0 8)) ∨ (0 ≤ Int32.toInt (I_ a0 9) ∧ Int32.toInt (I_ a0 9) ≤ 4 ∧ Int32.toInt (I_ a0 13) = 0 ∧ Int32.toInt (I0 a0 8) ≤ Int32.toInt (I_ a0 8) ∧ Int32.toInt (I0 a0 8) + Int32.toInt (I_ a0 9) ≤ Int32.toInt (I_ a0 8) + 3 ∧ (Int32.toInt (I_ F 0) = -1 ∨ 1 ≤ Int32.toInt (I_ F 0)) ∧ (Int32.toInt (I_ F 4) = -1 ∨ 1 ≤ Int32.toInt (I_ F 4)) ∧ Int32.toInt (I_ F 10) = Int32.toInt (I_ F 8) + Int32.toInt (I_ F 9) + 0)) ∧ (I_ a0 6).toInt = (I0 a0 6).toInt ∧ (I_ a0 7).toInt = (I0 a0 7).toInt ∧ (I_ a0 18).toInt = (I0 a0 18).toInt ∧ (I_ B 0).toInt = (I0 B 0).toInt ∧ (I_ B 4).toInt = (I0 B 4).toInt ∧ (I_ B 7).toInt = (I0 B 7).toInt ∧ (I_ F 0).toInt = (I0 F 0).toInt ∧ (I_ F 4).toInt = (I0 F 4).toInt ∧ (I_ F 8).toInt = (I0 F 8).toInt ∧ (I_ F 9).toInt = (I0 F 9).toInt ∧ (I_ F 10).toInt = (I0 F 10).toInt) P K I0 O J0) := by
  refine Con.ofG mfMo_readPrices (Nat.le_of_ble_eq_true rfl) ?_
  intro X C E
  have ok_a0_7 := hV.2 a0 h0.1 7
  rw [h0.2] at ok_a0_7
  have ok_a0_7 : 0 ≤ (I0 a0 7).toInt ∧ (I0 a0 7).toInt ≤ 700 := ok_a0_7
  have ok_a0_8 := hV.2 a0 h0.1 8
  rw [h0.2] at ok_a0_8
  have ok_a0_8 : 0 ≤ (I0 a0 8).toInt ∧ (I0 a0 8).toInt ≤ 700 := ok_a0_8
  have ok_F_7 := hV.2 F hFk.1 7
  rw [hFk.2] at ok_F_7
  have ok_F_7 : 0 ≤ (I0 F 7).toInt ∧ (I0 F 7).toInt ≤ 6 := ok_F_7
  have ok_F_8 := hV.2 F hFk.1 8
  rw [hFk.2] at ok_F_8
  have ok_F_8 : 0 ≤ (I0 F 8).toInt ∧ (I0 F 8).toInt ≤ 5 := ok_F_8
  have ok_F_9 := hV.2 F hFk.1 9
  rw [hFk.2] at ok_F_9
  have ok_F_9 : 0 ≤ (I0 F 9).toInt ∧ (I0 F 9).toInt ≤ 4 := ok_F_9
  have ok_F_10 := hV.2 F hFk.1 10
  rw [hFk.2] at ok_F_10
  have ok_F_10 : 0 ≤ (I0 F 10).toInt ∧ (I0 F 10).toInt ≤ 9 := ok_F_10
  have hV0 : SV frQ P K O I0 J0 I0 J0 := SV.rf hV
  refine g_aload_n C dMo_readPrices_0 rfl ?_
  refine g_aload_n C dMo_readPrices_1 rfl ?_
  refine gt_getS C dMo_readPrices_2 fl_Mo_172 h0 hFo ?_
  refine g_geti C dMo_readPrices_5 fl_Mo_188 hFk ?_
  have o_5 := hV0.1.2 F hFk.1 7
  rw [hFk.2] at o_5
  have o_5 : 0 ≤ (I0 F 7).toInt ∧ (I0 F 7).toInt ≤ 6 := o_5
  refine gt_if_le 15 C dMo_readPrices_8 (by decide) rfl (fun c_8 => ?_) (fun c_8 => ?_)
  · skip
    refine g_iconst (v := Int32.ofInt (0)) C dMo_readPrices_15 (by decide) ?_
    refine s_callV_v (av := fun ad => [.int (Int32.ofInt (0))]) C dMo_readPrices_16 mfMo_once mvMo_once ln_Mo_218 h0 (by decide) rfl hV0 (frL_le (by decide)) (cMo_once_N hV0.1 h0 (by have hk1 : Int32.toInt (Int32.ofInt (0)) = 0 := ofI (by decide); omega)) rfl rfl (Nat.le_of_ble_eq_true rfl) ⟨Nat.le_of_ble_eq_true rfl, Nat.le_of_ble_eq_true rfl⟩ ⟨rfl, rfl⟩ ⟨Nat.zero_le _, Nat.zero_le _⟩ (fun Iw1 Jw1 hVw1 hFw1 p_16 => ?_)
    have tkw1_F_0 : (Iw1 F 0).toInt = (I0 F 0).toInt := by rw [(hFw1 F (by rw [hFk.2]; rfl)).1 0]
    have tkw1_F_4 : (Iw1 F 4).toInt = (I0 F 4).toInt := by rw [(hFw1 F (by rw [hFk.2]; rfl)).1 4]
    have tkw1_F_7 : (Iw1 F 7).toInt = (I0 F 7).toInt := by rw [(hFw1 F (by rw [hFk.2]; rfl)).1 7]
    have tkw1_F_8 : (Iw1 F 8).toInt = (I0 F 8).toInt := by rw [(hFw1 F (by rw [hFk.2]; rfl)).1 8]
    have tkw1_F_9 : (Iw1 F 9).toInt = (I0 F 9).toInt := by rw [(hFw1 F (by rw [hFk.2]; rfl)).1 9]
    have tkw1_F_10 : (Iw1 F 10).toInt = (I0 F 10).toInt := by rw [(hFw1 F (by rw [hFk.2]; rfl)).1 10]
    have tkw1_B_0 : (Iw1 B 0).toInt = (I0 B 0).toInt := by rw [(hFw1 B (by rw [hBk.2]; rfl)).1 0]
    have tkw1_B_4 : (Iw1 B 4).toInt = (I0 B 4).toInt := by rw [(hFw1 B (by rw [hBk.2]; rfl)).1 4]
    have tkw1_B_7 : (Iw1 B 7).toInt = (I0 B 7).toInt := by rw [(hFw1 B (by rw [hBk.2]; rfl)).1 7]
    try dsimp only at p_16
    have hk1_16 : Int32.toInt (Int32.ofInt (0)) = 0 := ofI (by decide)
    rcases p_16 with ⟨p_16 | p_16, pk_16⟩
    · skip
      refine g_iconst (v := Int32.ofInt (1)) C dMo_readPrices_19 (by decide) ?_
      refine g_istore_n (i := 1) C dMo_readPrices_20 rfl (by decide) ?_
      have lp_21 : ∀ (nn_21 : Nat) (x1_21 : Int32) (Iw2 : Nat → Nat → Int32) (Jw2 : Nat → Nat → Int64), Int.toNat (7 - Int32.toInt (Iw2 F 7)) = nn_21 → ((Int32.toInt (Iw2 a0 9) = 5 ∧ 1 ≤ Int32.toInt (Iw2 a0 13) ∧ Int32.toInt (I0 a0 8) ≤ Int32.toInt (Iw2 a0 8)) ∨ (0 ≤ Int32.toInt (Iw2 a0 9) ∧ Int32.toInt (Iw2 a0 9) ≤ 4 ∧ Int32.toInt (Iw2 a0 13) = 0 ∧ Int32.toInt (I0 a0 8) ≤ Int32.toInt (Iw2 a0 8) ∧ Int32.toInt (I0 a0 8) + Int32.toInt (Iw2 a0 9) ≤ Int32.toInt (Iw2 a0 8) + 3)) → (Int32.toInt (Iw2 a0 6) = Int32.toInt (I0 a0 6)) → (Int32.toInt (Iw2 a0 7) = Int32.toInt (I0 a0 7)) → (Int32.toInt (Iw2 a0 18) = Int32.toInt (I0 a0 18)) → (Int32.toInt (Iw2 B 0) = Int32.toInt (I0 B 0)) → (Int32.toInt (Iw2 B 4) = Int32.toInt (I0 B 4)) → (Int32.toInt (Iw2 B 7) = Int32.toInt (I0 B 7)) → (Int32.toInt (Iw2 F 0) = Int32.toInt (I0 F 0)) → (Int32.toInt (Iw2 F 4) = Int32.toInt (I0 F 4)) → (Int32.toInt (Iw2 F 8) = Int32.toInt (I0 F 8)) → (Int32.toInt (Iw2 F 9) = Int32.toInt (I0 F 9)) → (Int32.toInt (Iw2 F 10) = Int32.toInt (I0 F 10)) → SV frQ P K O I0 J0 Iw2 Jw2 → GG X 4 P K Iw2 O Jw2 0 0 21 [(0, .ref a0), (1, .int x1_21)] [] := by
        intro nn_21
        induction nn_21 using Nat.strongRecOn with
        | ind nn_21 ih_21 =>
        intro x1_21 Iw2 Jw2 hn_21 iv0_21 iv1_21 iv2_21 iv3_21 iv4_21 iv5_21 iv6_21 iv7_21 iv8_21 iv9_21 iv10_21 iv11_21 hVw2
        have rg1_21 := rg x1_21
        rcases iv0_21 with iv0_21 | iv0_21
        · skip
          refine g_iload_n C dMo_readPrices_21 rfl ?_
          refine gt_if_eq 112 C dMo_readPrices_22 (by decide) rfl (fun c_22 => ?_) (fun c_22 => ?_)
          · skip
            exact s_vret C E dMo_readPrices_112 ⟨Nat.zero_le _, Nat.zero_le _⟩ hVw2 (by (try dsimp only); omega)
          · skip
            refine g_aload_n C dMo_readPrices_25 rfl ?_
            refine g_geti C dMo_readPrices_26 fl_Mo_104 h0 ?_
            refine g_istore_n (i := 2) C dMo_readPrices_29 rfl (by decide) ?_
            refine g_aload_n C dMo_readPrices_30 rfl ?_
            refine g_iconst (v := Int32.ofInt (0)) C dMo_readPrices_31 (by decide) ?_
            refine g_bipush (v := Int32.ofInt (99)) C dMo_readPrices_32 (by decide) ?_
            refine s_callV_i (av := fun ad => [.int (Int32.ofInt (0)), .int (Int32.ofInt (99))]) C dMo_readPrices_34 mfMo_readWhole mvMo_readWhole ln_Mo_227 h0 (by decide) rfl hVw2 (frL_le (by decide)) (cMo_readWhole_O hVw2.1 h0 (by have hk1 : Int32.toInt (Int32.ofInt (0)) = 0 := ofI (by decide); have hk2 : Int32.toInt (Int32.ofInt (99)) = 99 := ofI (by decide); omega)) rfl rfl (Nat.le_of_ble_eq_true rfl) ⟨Nat.le_of_ble_eq_true rfl, Nat.le_of_ble_eq_true rfl⟩ ⟨rfl, rfl⟩ ⟨Nat.zero_le _, Nat.zero_le _⟩ (fun Iw3 Jw3 hVw3 hFw3 z_34 p_34 => ?_)
            have tkw3_F_0 : (Iw3 F 0).toInt = (Iw2 F 0).toInt := by rw [(hFw3 F (by rw [hFk.2]; rfl)).1 0]
            have tkw3_F_4 : (Iw3 F 4).toInt = (Iw2 F 4).toInt := by rw [(hFw3 F (by rw [hFk.2]; rfl)).1 4]
            have tkw3_F_7 : (Iw3 F 7).toInt = (Iw2 F 7).toInt := by rw [(hFw3 F (by rw [hFk.2]; rfl)).1 7]
            have tkw3_F_8 : (Iw3 F 8).toInt = (Iw2 F 8).toInt := by rw [(hFw3 F (by rw [hFk.2]; rfl)).1 8]
            have tkw3_F_9 : (Iw3 F 9).toInt = (Iw2 F 9).toInt := by rw [(hFw3 F (by rw [hFk.2]; rfl)).1 9]
            have tkw3_F_10 : (Iw3 F 10).toInt = (Iw2 F 10).toInt := by rw [(hFw3 F (by rw [hFk.2]; rfl)).1 10]
            have tkw3_B_0 : (Iw3 B 0).toInt = (Iw2 B 0).toInt := by rw [(hFw3 B (by rw [hBk.2]; rfl)).1 0]
            have tkw3_B_4 : (Iw3 B 4).toInt = (Iw2 B 4).toInt := by rw [(hFw3 B (by rw [hBk.2]; rfl)).1 4]
            have tkw3_B_7 : (Iw3 B 7).toInt = (Iw2 B 7).toInt := by rw [(hFw3 B (by rw [hBk.2]; rfl)).1 7]
            have rz_34 := rg z_34
            try dsimp only at p_34
            have hk1_34 : Int32.toInt (Int32.ofInt (0)) = 0 := ofI (by decide)
            have hk2_34 : Int32.toInt (Int32.ofInt (99)) = 99 := ofI (by decide)
            refine g_istore_n (i := 3) C dMo_readPrices_37 rfl (by decide) ?_
            refine g_aload_n C dMo_readPrices_38 rfl ?_
            refine gt_getS C dMo_readPrices_39 fl_Mo_172 h0 hFo ?_
            refine g_geti C dMo_readPrices_42 fl_Mo_188 hFk ?_
            have o_42 := hVw3.1.2 F hFk.1 7
            rw [hFk.2] at o_42
            have o_42 : 0 ≤ (Iw3 F 7).toInt ∧ (Iw3 F 7).toInt ≤ 6 := o_42
            refine g_bipush (v := Int32.ofInt (6)) C dMo_readPrices_45 (by decide) ?_
            refine gt_icmp_ne 56 C dMo_readPrices_47 (by decide) rfl (ofI (by decide)) (fun c_47 => ?_) (fun c_47 => ?_)
            · skip
              refine g_aload_n C dMo_readPrices_56 rfl ?_
              refine g_geti C dMo_readPrices_57 fl_Mo_94 h0 ?_
              refine g_iconst (v := Int32.ofInt (5)) C dMo_readPrices_60 (by decide) ?_
              refine gt_icmp_ne 65 C dMo_readPrices_61 (by decide) rfl (ofI (by decide)) (fun c_61 => ?_) (fun c_61 => ?_)
              · skip
                exfalso; omega
              · skip
                exact s_vret C E dMo_readPrices_64 ⟨Nat.zero_le _, Nat.zero_le _⟩ hVw3 (by (try dsimp only); omega)
            · skip
              refine g_aload_n C dMo_readPrices_50 rfl ?_
              refine g_iconst (v := Int32.ofInt (5)) C dMo_readPrices_51 (by decide) ?_
              refine g_iload_n C dMo_readPrices_52 rfl ?_
              refine s_callV_v (av := fun ad => [.int (Int32.ofInt (5)), .int (Iw2 a0 10)]) C dMo_readPrices_53 mfMo_wrongHere mvMo_wrongHere ln_Mo_124 h0 (by decide) rfl hVw3 (frL_le (by decide)) (cMo_wrongHere_O hVw3.1 h0 (by have hk1 : Int32.toInt (Int32.ofInt (5)) = 5 := ofI (by decide); omega)) rfl rfl (Nat.le_of_ble_eq_true rfl) ⟨Nat.le_of_ble_eq_true rfl, Nat.le_of_ble_eq_true rfl⟩ ⟨rfl, rfl⟩ ⟨Nat.zero_le _, Nat.zero_le _⟩ (fun Iw4 Jw4 hVw4 hFw4 p_53 => ?_)
              have tkw4_F_0 : (Iw4 F 0).toInt = (Iw3 F 0).toInt := by rw [(hFw4 F (by rw [hFk.2]; rfl)).1 0]
              have tkw4_F_4 : (Iw4 F 4).toInt = (Iw3 F 4).toInt := by rw [(hFw4 F (by rw [hFk.2]; rfl)).1 4]
              have tkw4_F_7 : (Iw4 F 7).toInt = (Iw3 F 7).toInt := by rw [(hFw4 F (by rw [hFk.2]; rfl)).1 7]
              have tkw4_F_8 : (Iw4 F 8).toInt = (Iw3 F 8).toInt := by rw [(hFw4 F (by rw [hFk.2]; rfl)).1 8]
              have tkw4_F_9 : (Iw4 F 9).toInt = (Iw3 F 9).toInt := by rw [(hFw4 F (by rw [hFk.2]; rfl)).1 9]
              have tkw4_F_10 : (Iw4 F 10).toInt = (Iw3 F 10).toInt := by rw [(hFw4 F (by rw [hFk.2]; rfl)).1 10]
              have tkw4_B_0 : (Iw4 B 0).toInt = (Iw3 B 0).toInt := by rw [(hFw4 B (by rw [hBk.2]; rfl)).1 0]
              have tkw4_B_4 : (Iw4 B 4).toInt = (Iw3 B 4).toInt := by rw [(hFw4 B (by rw [hBk.2]; rfl)).1 4]
              have tkw4_B_7 : (Iw4 B 7).toInt = (Iw3 B 7).toInt := by rw [(hFw4 B (by rw [hBk.2]; rfl)).1 7]
              try dsimp only at p_53
              have hk1_53 : Int32.toInt (Int32.ofInt (5)) = 5 := ofI (by decide)
              refine g_aload_n C dMo_readPrices_56 rfl ?_
              refine g_geti C dMo_readPrices_57 fl_Mo_94 h0 ?_
              refine g_iconst (v := Int32.ofInt (5)) C dMo_readPrices_60 (by decide) ?_
              refine gt_icmp_ne 65 C dMo_readPrices_61 (by decide) rfl (ofI (by decide)) (fun c_61 => ?_) (fun c_61 => ?_)
              · skip
                exfalso; omega
              · skip
                exact s_vret C E dMo_readPrices_64 ⟨Nat.zero_le _, Nat.zero_le _⟩ hVw4 (by (try dsimp only); omega)
        · skip
          refine g_iload_n C dMo_readPrices_21 rfl ?_
          refine gt_if_eq 112 C dMo_readPrices_22 (by decide) rfl (fun c_22 => ?_) (fun c_22 => ?_)
          · skip
            exact s_vret C E dMo_readPrices_112 ⟨Nat.zero_le _, Nat.zero_le _⟩ hVw2 (by (try dsimp only); omega)
          · skip
            refine g_aload_n C dMo_readPrices_25 rfl ?_
            refine g_geti C dMo_readPrices_26 fl_Mo_104 h0 ?_
            refine g_istore_n (i := 2) C dMo_readPrices_29 rfl (by decide) ?_
            refine g_aload_n C dMo_readPrices_30 rfl ?_
            refine g_iconst (v := Int32.ofInt (0)) C dMo_readPrices_31 (by decide) ?_
            refine g_bipush (v := Int32.ofInt (99)) C dMo_readPrices_32 (by decide) ?_
            refine s_callV_i (av := fun ad => [.int (Int32.ofInt (0)), .int (Int32.ofInt (99))]) C dMo_readPrices_34 mfMo_readWhole mvMo_readWhole ln_Mo_227 h0 (by decide) rfl hVw2 (frL_le (by decide)) (cMo_readWhole_N hVw2.1 h0 (by have hk1 : Int32.toInt (Int32.ofInt (0)) = 0 := ofI (by decide); have hk2 : Int32.toInt (Int32.ofInt (99)) = 99 := ofI (by decide); omega)) rfl rfl (Nat.le_of_ble_eq_true rfl) ⟨Nat.le_of_ble_eq_true rfl, Nat.le_of_ble_eq_true rfl⟩ ⟨rfl, rfl⟩ ⟨Nat.zero_le _, Nat.zero_le _⟩ (fun Iw5 Jw5 hVw5 hFw5 z_34 p_34 => ?_)
            have tkw5_F_0 : (Iw5 F 0).toInt = (Iw2 F 0).toInt := by rw [(hFw5 F (by rw [hFk.2]; rfl)).1 0]
            have tkw5_F_4 : (Iw5 F 4).toInt = (Iw2 F 4).toInt := by rw [(hFw5 F (by rw [hFk.2]; rfl)).1 4]
            have tkw5_F_7 : (Iw5 F 7).toInt = (Iw2 F 7).toInt := by rw [(hFw5 F (by rw [hFk.2]; rfl)).1 7]
            have tkw5_F_8 : (Iw5 F 8).toInt = (Iw2 F 8).toInt := by rw [(hFw5 F (by rw [hFk.2]; rfl)).1 8]
            have tkw5_F_9 : (Iw5 F 9).toInt = (Iw2 F 9).toInt := by rw [(hFw5 F (by rw [hFk.2]; rfl)).1 9]
            have tkw5_F_10 : (Iw5 F 10).toInt = (Iw2 F 10).toInt := by rw [(hFw5 F (by rw [hFk.2]; rfl)).1 10]
            have tkw5_B_0 : (Iw5 B 0).toInt = (Iw2 B 0).toInt := by rw [(hFw5 B (by rw [hBk.2]; rfl)).1 0]
            have tkw5_B_4 : (Iw5 B 4).toInt = (Iw2 B 4).toInt := by rw [(hFw5 B (by rw [hBk.2]; rfl)).1 4]
            have tkw5_B_7 : (Iw5 B 7).toInt = (Iw2 B 7).toInt := by rw [(hFw5 B (by rw [hBk.2]; rfl)).1 7]
            have rz_34 := rg z_34
            try dsimp only at p_34
            have hk1_34 : Int32.toInt (Int32.ofInt (0)) = 0 := ofI (by decide)
            have hk2_34 : Int32.toInt (Int32.ofInt (99)) = 99 := ofI (by decide)
            rcases p_34 with ⟨p_34 | p_34, pk_34⟩
            · skip
              refine g_istore_n (i := 3) C dMo_readPrices_37 rfl (by decide) ?_
              refine g_aload_n C dMo_readPrices_38 rfl ?_
              refine gt_getS C dMo_readPrices_39 fl_Mo_172 h0 hFo ?_
              refine g_geti C dMo_readPrices_42 fl_Mo_188 hFk ?_
              have o_42 := hVw5.1.2 F hFk.1 7
              rw [hFk.2] at o_42
              have o_42 : 0 ≤ (Iw5 F 7).toInt ∧ (Iw5 F 7).toInt ≤ 6 := o_42
              refine g_bipush (v := Int32.ofInt (6)) C dMo_readPrices_45 (by decide) ?_
              refine gt_icmp_ne 56 C dMo_readPrices_47 (by decide) rfl (ofI (by decide)) (fun c_47 => ?_) (fun c_47 => ?_)
              · skip
                refine g_aload_n C dMo_readPrices_56 rfl ?_
                refine g_geti C dMo_readPrices_57 fl_Mo_94 h0 ?_
                refine g_iconst (v := Int32.ofInt (5)) C dMo_readPrices_60 (by decide) ?_
                refine gt_icmp_ne 65 C dMo_readPrices_61 (by decide) rfl (ofI (by decide)) (fun c_61 => ?_) (fun c_61 => ?_)
                · skip
                  exfalso; omega
                · skip
                  exact s_vret C E dMo_readPrices_64 ⟨Nat.zero_le _, Nat.zero_le _⟩ hVw5 (by (try dsimp only); omega)
              · skip
                refine g_aload_n C dMo_readPrices_50 rfl ?_
                refine g_iconst (v := Int32.ofInt (5)) C dMo_readPrices_51 (by decide) ?_
                refine g_iload_n C dMo_readPrices_52 rfl ?_
                refine s_callV_v (av := fun ad => [.int (Int32.ofInt (5)), .int (Iw2 a0 10)]) C dMo_readPrices_53 mfMo_wrongHere mvMo_wrongHere ln_Mo_124 h0 (by decide) rfl hVw5 (frL_le (by decide)) (cMo_wrongHere_O hVw5.1 h0 (by have hk1 : Int32.toInt (Int32.ofInt (5)) = 5 := ofI (by decide); omega)) rfl rfl (Nat.le_of_ble_eq_true rfl) ⟨Nat.le_of_ble_eq_true rfl, Nat.le_of_ble_eq_true rfl⟩ ⟨rfl, rfl⟩ ⟨Nat.zero_le _, Nat.zero_le _⟩ (fun Iw6 Jw6 hVw6 hFw6 p_53 => ?_)
                have tkw6_F_0 : (Iw6 F 0).toInt = (Iw5 F 0).toInt := by rw [(hFw6 F (by rw [hFk.2]; rfl)).1 0]
                have tkw6_F_4 : (Iw6 F 4).toInt = (Iw5 F 4).toInt := by rw [(hFw6 F (by rw [hFk.2]; rfl)).1 4]
                have tkw6_F_7 : (Iw6 F 7).toInt = (Iw5 F 7).toInt := by rw [(hFw6 F (by rw [hFk.2]; rfl)).1 7]
                have tkw6_F_8 : (Iw6 F 8).toInt = (Iw5 F 8).toInt := by rw [(hFw6 F (by rw [hFk.2]; rfl)).1 8]
                have tkw6_F_9 : (Iw6 F 9).toInt = (Iw5 F 9).toInt := by rw [(hFw6 F (by rw [hFk.2]; rfl)).1 9]
                have tkw6_F_10 : (Iw6 F 10).toInt = (Iw5 F 10).toInt := by rw [(hFw6 F (by rw [hFk.2]; rfl)).1 10]
                have tkw6_B_0 : (Iw6 B 0).toInt = (Iw5 B 0).toInt := by rw [(hFw6 B (by rw [hBk.2]; rfl)).1 0]
                have tkw6_B_4 : (Iw6 B 4).toInt = (Iw5 B 4).toInt := by rw [(hFw6 B (by rw [hBk.2]; rfl)).1 4]
                have tkw6_B_7 : (Iw6 B 7).toInt = (Iw5 B 7).toInt := by rw [(hFw6 B (by rw [hBk.2]; rfl)).1 7]
                try dsimp only at p_53
                have hk1_53 : Int32.toInt (Int32.ofInt (5)) = 5 := ofI (by decide)
                refine g_aload_n C dMo_readPrices_56 rfl ?_
                refine g_geti C dMo_readPrices_57 fl_Mo_94 h0 ?_
                refine g_iconst (v := Int32.ofInt (5)) C dMo_readPrices_60 (by decide) ?_
                refine gt_icmp_ne 65 C dMo_readPrices_61 (by decide) rfl (ofI (by decide)) (fun c_61 => ?_) (fun c_61 => ?_)
                · skip
                  exfalso; omega
                · skip
                  exact s_vret C E dMo_readPrices_64 ⟨Nat.zero_le _, Nat.zero_le _⟩ hVw6 (by (try dsimp only); omega)
            · skip
              refine g_istore_n (i := 3) C dMo_readPrices_37 rfl (by decide) ?_
              refine g_aload_n C dMo_readPrices_38 rfl ?_
              refine gt_getS C dMo_readPrices_39 fl_Mo_172 h0 hFo ?_
              refine g_geti C dMo_readPrices_42 fl_Mo_188 hFk ?_
              have o_42 := hVw5.1.2 F hFk.1 7
              rw [hFk.2] at o_42
              have o_42 : 0 ≤ (Iw5 F 7).toInt ∧ (Iw5 F 7).toInt ≤ 6 := o_42
              refine g_bipush (v := Int32.ofInt (6)) C dMo_readPrices_45 (by decide) ?_
              refine gt_icmp_ne 56 C dMo_readPrices_47 (by decide) rfl (ofI (by decide)) (fun c_47 => ?_) (fun c_47 => ?_)
              · skip
                refine g_aload_n C dMo_readPrices_56 rfl ?_
                refine g_geti C dMo_readPrices_57 fl_Mo_94 h0 ?_
                refine g_iconst (v := Int32.ofInt (5)) C dMo_readPrices_60 (by decide) ?_
                refine gt_icmp_ne 65 C dMo_readPrices_61 (by decide) rfl (ofI (by decide)) (fun c_61 => ?_) (fun c_61 => ?_)
                · skip
                  refine g_aload_n C dMo_readPrices_65 rfl ?_
                  refine gt_getS C dMo_readPrices_66 fl_Mo_172 h0 hFo ?_
                  refine gt_getr C dMo_readPrices_69 fl_Mo_254 hFk hVw5.1.1 rfl (fun b_69 q_69 hb_69 => ?_)
                  refine g_aload_n C dMo_readPrices_72 rfl ?_
                  refine gt_getS C dMo_readPrices_73 fl_Mo_172 h0 hFo ?_
                  refine g_geti C dMo_readPrices_76 fl_Mo_188 hFk ?_
                  have o_76 := hVw5.1.2 F hFk.1 7
                  rw [hFk.2] at o_76
                  have o_76 : 0 ≤ (Iw5 F 7).toInt ∧ (Iw5 F 7).toInt ≤ 6 := o_76
                  refine g_iload_n C dMo_readPrices_79 rfl ?_
                  refine gt_iast C dMo_readPrices_80 hb_69 (by decide) rfl rfl (n := 6) rfl (by omega) hVw5 rfl trivial (fun Iw7 eIw7 hVw7 => ?_)
                  have tkw7_a0_8 : (Iw7 a0 8).toInt = (Iw5 a0 8).toInt := by rw [eIw7, up2_ne _ _ (fun z => by have q := h0.2; rw [z.1, hb_69.2] at q; exact absurd q (by decide))]
                  have tkw7_a0_9 : (Iw7 a0 9).toInt = (Iw5 a0 9).toInt := by rw [eIw7, up2_ne _ _ (fun z => by have q := h0.2; rw [z.1, hb_69.2] at q; exact absurd q (by decide))]
                  have tkw7_a0_13 : (Iw7 a0 13).toInt = (Iw5 a0 13).toInt := by rw [eIw7, up2_ne _ _ (fun z => by have q := h0.2; rw [z.1, hb_69.2] at q; exact absurd q (by decide))]
                  have tkw7_F_0 : (Iw7 F 0).toInt = (Iw5 F 0).toInt := by rw [eIw7, up2_ne _ _ (fun z => by have q := hFk.2; rw [z.1, hb_69.2] at q; exact absurd q (by decide))]
                  have tkw7_F_4 : (Iw7 F 4).toInt = (Iw5 F 4).toInt := by rw [eIw7, up2_ne _ _ (fun z => by have q := hFk.2; rw [z.1, hb_69.2] at q; exact absurd q (by decide))]
                  have tkw7_F_7 : (Iw7 F 7).toInt = (Iw5 F 7).toInt := by rw [eIw7, up2_ne _ _ (fun z => by have q := hFk.2; rw [z.1, hb_69.2] at q; exact absurd q (by decide))]
                  have tkw7_F_8 : (Iw7 F 8).toInt = (Iw5 F 8).toInt := by rw [eIw7, up2_ne _ _ (fun z => by have q := hFk.2; rw [z.1, hb_69.2] at q; exact absurd q (by decide))]
                  have tkw7_F_9 : (Iw7 F 9).toInt = (Iw5 F 9).toInt := by rw [eIw7, up2_ne _ _ (fun z => by have q := hFk.2; rw [z.1, hb_69.2] at q; exact absurd q (by decide))]
                  have tkw7_F_10 : (Iw7 F 10).toInt = (Iw5 F 10).toInt := by rw [eIw7, up2_ne _ _ (fun z => by have q := hFk.2; rw [z.1, hb_69.2] at q; exact absurd q (by decide))]
                  have tkw7_a0_6 : (Iw7 a0 6).toInt = (Iw5 a0 6).toInt := by rw [eIw7, up2_ne _ _ (fun z => by have q := h0.2; rw [z.1, hb_69.2] at q; exact absurd q (by decide))]
                  have tkw7_a0_7 : (Iw7 a0 7).toInt = (Iw5 a0 7).toInt := by rw [eIw7, up2_ne _ _ (fun z => by have q := h0.2; rw [z.1, hb_69.2] at q; exact absurd q (by decide))]
                  have tkw7_a0_18 : (Iw7 a0 18).toInt = (Iw5 a0 18).toInt := by rw [eIw7, up2_ne _ _ (fun z => by have q := h0.2; rw [z.1, hb_69.2] at q; exact absurd q (by decide))]
                  have tkw7_B_0 : (Iw7 B 0).toInt = (Iw5 B 0).toInt := by rw [eIw7, up2_ne _ _ (fun z => by have q := hBk.2; rw [z.1, hb_69.2] at q; exact absurd q (by decide))]
                  have tkw7_B_4 : (Iw7 B 4).toInt = (Iw5 B 4).toInt := by rw [eIw7, up2_ne _ _ (fun z => by have q := hBk.2; rw [z.1, hb_69.2] at q; exact absurd q (by decide))]
                  have tkw7_B_7 : (Iw7 B 7).toInt = (Iw5 B 7).toInt := by rw [eIw7, up2_ne _ _ (fun z => by have q := hBk.2; rw [z.1, hb_69.2] at q; exact absurd q (by decide))]
                  refine g_aload_n C dMo_readPrices_81 rfl ?_
                  refine gt_getS C dMo_readPrices_82 fl_Mo_172 h0 hFo ?_
                  refine g_dup C dMo_readPrices_85 rfl ?_
                  refine g_geti C dMo_readPrices_86 fl_Mo_188 hFk ?_
                  have o_86 := hVw7.1.2 F hFk.1 7
                  rw [hFk.2] at o_86
                  have o_86 : 0 ≤ (Iw7 F 7).toInt ∧ (Iw7 F 7).toInt ≤ 6 := o_86
                  refine g_iconst (v := Int32.ofInt (1)) C dMo_readPrices_89 (by decide) ?_
                  first | refine n_iadd C dMo_readPrices_90 rfl (ofI (by decide)) (by omega) (fun z_90 e_90 => ?_) | refine a_iadd C dMo_readPrices_90 (fun z_90 => ?_)
                  refine gt_puti C dMo_readPrices_91 fl_Mo_188 hFk hVw7 rfl (by show 0 ≤ Int32.toInt _ ∧ Int32.toInt _ ≤ 6; omega) rfl (Or.inl rfl) (fun Iw8 eIw8 hVw8 => ?_)
                  have tkw8_a0_8 : (Iw8 a0 8).toInt = (Iw7 a0 8).toInt := by rw [eIw8, up2_ne _ _ (fun z => by have q := h0.2; rw [z.1, hFk.2] at q; exact absurd q (by decide))]
                  have tkw8_a0_9 : (Iw8 a0 9).toInt = (Iw7 a0 9).toInt := by rw [eIw8, up2_ne _ _ (fun z => by have q := h0.2; rw [z.1, hFk.2] at q; exact absurd q (by decide))]
                  have tkw8_a0_13 : (Iw8 a0 13).toInt = (Iw7 a0 13).toInt := by rw [eIw8, up2_ne _ _ (fun z => by have q := h0.2; rw [z.1, hFk.2] at q; exact absurd q (by decide))]
                  have tkw8_F_0 : (Iw8 F 0).toInt = (Iw7 F 0).toInt := by rw [eIw8, up2_ne _ _ (fun z => absurd z.2 (by decide))]
                  have tkw8_F_4 : (Iw8 F 4).toInt = (Iw7 F 4).toInt := by rw [eIw8, up2_ne _ _ (fun z => absurd z.2 (by decide))]
                  have tkw8_F_7 : (Iw8 F 7).toInt = z_90.toInt := by rw [eIw8, up2_self]
                  have tkw8_F_8 : (Iw8 F 8).toInt = (Iw7 F 8).toInt := by rw [eIw8, up2_ne _ _ (fun z => absurd z.2 (by decide))]
                  have tkw8_F_9 : (Iw8 F 9).toInt = (Iw7 F 9).toInt := by rw [eIw8, up2_ne _ _ (fun z => absurd z.2 (by decide))]
                  have tkw8_F_10 : (Iw8 F 10).toInt = (Iw7 F 10).toInt := by rw [eIw8, up2_ne _ _ (fun z => absurd z.2 (by decide))]
                  have tkw8_a0_6 : (Iw8 a0 6).toInt = (Iw7 a0 6).toInt := by rw [eIw8, up2_ne _ _ (fun z => by have q := h0.2; rw [z.1, hFk.2] at q; exact absurd q (by decide))]
                  have tkw8_a0_7 : (Iw8 a0 7).toInt = (Iw7 a0 7).toInt := by rw [eIw8, up2_ne _ _ (fun z => by have q := h0.2; rw [z.1, hFk.2] at q; exact absurd q (by decide))]
                  have tkw8_a0_18 : (Iw8 a0 18).toInt = (Iw7 a0 18).toInt := by rw [eIw8, up2_ne _ _ (fun z => by have q := h0.2; rw [z.1, hFk.2] at q; exact absurd q (by decide))]
                  have tkw8_B_0 : (Iw8 B 0).toInt = (Iw7 B 0).toInt := by rw [eIw8, up2_ne _ _ (fun z => absurd z.2 (by decide))]
                  have tkw8_B_4 : (Iw8 B 4).toInt = (Iw7 B 4).toInt := by rw [eIw8, up2_ne _ _ (fun z => absurd z.2 (by decide))]
                  have tkw8_B_7 : (Iw8 B 7).toInt = (Iw7 B 7).toInt := by rw [eIw8, up2_ne _ _ (fun z => hBF z.1)]
                  refine g_aload_n C dMo_readPrices_94 rfl ?_
                  refine g_bipush (v := Int32.ofInt (44)) C dMo_readPrices_95 (by decide) ?_
                  refine s_callV_zp (av := fun ad => [.int (Int32.ofInt (44))]) C dMo_readPrices_97 mfMo_is mvMo_is ln_Mo_169 h0 (by decide) rfl (cMo_is hVw8.1 h0 (by have hk1 : Int32.toInt (Int32.ofInt (44)) = 44 := ofI (by decide); omega)) rfl rfl (Nat.le_of_ble_eq_true rfl) ⟨Nat.le_of_ble_eq_true rfl, Nat.le_of_ble_eq_true rfl⟩ ⟨rfl, rfl⟩ ⟨Nat.zero_le _, Nat.zero_le _⟩ (fun z_97 b_97 p_97 => ?_)
                  have rz_97 := rg z_97
                  have u_97 := b_97
                  unfold B01 at u_97
                  try dsimp only at p_97
                  have hk1_97 : Int32.toInt (Int32.ofInt (44)) = 44 := ofI (by decide)
                  refine g_istore_n (i := 1) C dMo_readPrices_100 rfl (by decide) ?_
                  refine g_iload_n C dMo_readPrices_101 rfl ?_
                  refine gt_if_eq 109 C dMo_readPrices_102 (by decide) rfl (fun c_102 => ?_) (fun c_102 => ?_)
                  · skip
                    refine g_goto 21 C dMo_readPrices_109 (by decide) ?_
                    exact g_sub (ih_21 _ (by omega) z_97 Iw8 Jw5 rfl (by omega) (by omega) (by omega) (by omega) (by omega) (by omega) (by omega) (by omega) (by omega) (by omega) (by omega) (by omega) hVw8) ⟨rfl, rfl, trivial⟩
                  · skip
                    refine g_aload_n C dMo_readPrices_105 rfl ?_
                    refine s_callV_v (av := fun ad => []) C dMo_readPrices_106 mfMo_next mvMo_next ln_Mo_146 h0 (by decide) rfl hVw8 (frL_le (by decide)) (cMo_next_N hVw8.1 h0 (by omega)) rfl rfl (Nat.le_of_ble_eq_true rfl) ⟨Nat.le_of_ble_eq_true rfl, Nat.le_of_ble_eq_true rfl⟩ ⟨rfl, rfl⟩ ⟨Nat.zero_le _, Nat.zero_le _⟩ (fun Iw10 Jw10 hVw10 hFw10 p_106 => ?_)
                    have tkw10_F_0 : (Iw10 F 0).toInt = (Iw8 F 0).toInt := by rw [(hFw10 F (by rw [hFk.2]; rfl)).1 0]
                    have tkw10_F_4 : (Iw10 F 4).toInt = (Iw8 F 4).toInt := by rw [(hFw10 F (by rw [hFk.2]; rfl)).1 4]
                    have tkw10_F_7 : (Iw10 F 7).toInt = (Iw8 F 7).toInt := by rw [(hFw10 F (by rw [hFk.2]; rfl)).1 7]
                    have tkw10_F_8 : (Iw10 F 8).toInt = (Iw8 F 8).toInt := by rw [(hFw10 F (by rw [hFk.2]; rfl)).1 8]
                    have tkw10_F_9 : (Iw10 F 9).toInt = (Iw8 F 9).toInt := by rw [(hFw10 F (by rw [hFk.2]; rfl)).1 9]
                    have tkw10_F_10 : (Iw10 F 10).toInt = (Iw8 F 10).toInt := by rw [(hFw10 F (by rw [hFk.2]; rfl)).1 10]
                    have tkw10_B_0 : (Iw10 B 0).toInt = (Iw8 B 0).toInt := by rw [(hFw10 B (by rw [hBk.2]; rfl)).1 0]
                    have tkw10_B_4 : (Iw10 B 4).toInt = (Iw8 B 4).toInt := by rw [(hFw10 B (by rw [hBk.2]; rfl)).1 4]
                    have tkw10_B_7 : (Iw10 B 7).toInt = (Iw8 B 7).toInt := by rw [(hFw10 B (by rw [hBk.2]; rfl)).1 7]
                    try dsimp only at p_106
                    refine g_goto 21 C dMo_readPrices_109 (by decide) ?_
                    exact g_sub (ih_21 _ (by omega) z_97 Iw10 Jw10 rfl (by omega) (by omega) (by omega) (by omega) (by omega) (by omega) (by omega) (by omega) (by omega) (by omega) (by omega) (by omega) hVw10) ⟨rfl, rfl, trivial⟩
                · skip
                  exfalso; omega
              · skip
                refine g_aload_n C dMo_readPrices_50 rfl ?_
                refine g_iconst (v := Int32.ofInt (5)) C dMo_readPrices_51 (by decide) ?_
                refine g_iload_n C dMo_readPrices_52 rfl ?_
                refine s_callV_v (av := fun ad => [.int (Int32.ofInt (5)), .int (Iw2 a0 10)]) C dMo_readPrices_53 mfMo_wrongHere mvMo_wrongHere ln_Mo_124 h0 (by decide) rfl hVw5 (frL_le (by decide)) (cMo_wrongHere_N hVw5.1 h0 (by have hk1 : Int32.toInt (Int32.ofInt (5)) = 5 := ofI (by decide); omega) (by have hk1 : Int32.toInt (Int32.ofInt (5)) = 5 := ofI (by decide); omega)) rfl rfl (Nat.le_of_ble_eq_true rfl) ⟨Nat.le_of_ble_eq_true rfl, Nat.le_of_ble_eq_true rfl⟩ ⟨rfl, rfl⟩ ⟨Nat.zero_le _, Nat.zero_le _⟩ (fun Iw11 Jw11 hVw11 hFw11 p_53 => ?_)
                have tkw11_F_0 : (Iw11 F 0).toInt = (Iw5 F 0).toInt := by rw [(hFw11 F (by rw [hFk.2]; rfl)).1 0]
                have tkw11_F_4 : (Iw11 F 4).toInt = (Iw5 F 4).toInt := by rw [(hFw11 F (by rw [hFk.2]; rfl)).1 4]
                have tkw11_F_7 : (Iw11 F 7).toInt = (Iw5 F 7).toInt := by rw [(hFw11 F (by rw [hFk.2]; rfl)).1 7]
                have tkw11_F_8 : (Iw11 F 8).toInt = (Iw5 F 8).toInt := by rw [(hFw11 F (by rw [hFk.2]; rfl)).1 8]
                have tkw11_F_9 : (Iw11 F 9).toInt = (Iw5 F 9).toInt := by rw [(hFw11 F (by rw [hFk.2]; rfl)).1 9]
                have tkw11_F_10 : (Iw11 F 10).toInt = (Iw5 F 10).toInt := by rw [(hFw11 F (by rw [hFk.2]; rfl)).1 10]
                have tkw11_B_0 : (Iw11 B 0).toInt = (Iw5 B 0).toInt := by rw [(hFw11 B (by rw [hBk.2]; rfl)).1 0]
                have tkw11_B_4 : (Iw11 B 4).toInt = (Iw5 B 4).toInt := by rw [(hFw11 B (by rw [hBk.2]; rfl)).1 4]
                have tkw11_B_7 : (Iw11 B 7).toInt = (Iw5 B 7).toInt := by rw [(hFw11 B (by rw [hBk.2]; rfl)).1 7]
                try dsimp only at p_53
                have hk1_53 : Int32.toInt (Int32.ofInt (5)) = 5 := ofI (by decide)
                refine g_aload_n C dMo_readPrices_56 rfl ?_
                refine g_geti C dMo_readPrices_57 fl_Mo_94 h0 ?_
                refine g_iconst (v := Int32.ofInt (5)) C dMo_readPrices_60 (by decide) ?_
                refine gt_icmp_ne 65 C dMo_readPrices_61 (by decide) rfl (ofI (by decide)) (fun c_61 => ?_) (fun c_61 => ?_)
                · skip
                  exfalso; omega
                · skip
                  exact s_vret C E dMo_readPrices_64 ⟨Nat.zero_le _, Nat.zero_le _⟩ hVw11 (by (try dsimp only); omega)
      exact g_sub (lp_21 _ (Int32.ofInt (1)) Iw1 Jw1 rfl (by omega) (by omega) (by omega) (by omega) (by omega) (by omega) (by omega) (by omega) (by omega) (by omega) (by omega) (by omega) hVw1) ⟨rfl, rfl, trivial⟩
    · skip
      refine g_iconst (v := Int32.ofInt (1)) C dMo_readPrices_19 (by decide) ?_
      refine g_istore_n (i := 1) C dMo_readPrices_20 rfl (by decide) ?_
      have lp_21 : ∀ (nn_21 : Nat) (x1_21 : Int32) (Iw12 : Nat → Nat → Int32) (Jw12 : Nat → Nat → Int64), Int.toNat (7 - Int32.toInt (Iw12 F 7)) = nn_21 → ((Int32.toInt (Iw12 a0 9) = 5 ∧ 1 ≤ Int32.toInt (Iw12 a0 13) ∧ Int32.toInt (I0 a0 8) ≤ Int32.toInt (Iw12 a0 8)) ∨ (0 ≤ Int32.toInt (Iw12 a0 9) ∧ Int32.toInt (Iw12 a0 9) ≤ 4 ∧ Int32.toInt (Iw12 a0 13) = 0 ∧ Int32.toInt (I0 a0 8) ≤ Int32.toInt (Iw12 a0 8) ∧ Int32.toInt (I0 a0 8) + Int32.toInt (Iw12 a0 9) ≤ Int32.toInt (Iw12 a0 8) + 3)) → (Int32.toInt (Iw12 a0 6) = Int32.toInt (I0 a0 6)) → (Int32.toInt (Iw12 a0 7) = Int32.toInt (I0 a0 7)) → (Int32.toInt (Iw12 a0 18) = Int32.toInt (I0 a0 18)) → (Int32.toInt (Iw12 B 0) = Int32.toInt (I0 B 0)) → (Int32.toInt (Iw12 B 4) = Int32.toInt (I0 B 4)) → (Int32.toInt (Iw12 B 7) = Int32.toInt (I0 B 7)) → (Int32.toInt (Iw12 F 0) = Int32.toInt (I0 F 0)) → (Int32.toInt (Iw12 F 4) = Int32.toInt (I0 F 4)) → (Int32.toInt (Iw12 F 8) = Int32.toInt (I0 F 8)) → (Int32.toInt (Iw12 F 9) = Int32.toInt (I0 F 9)) → (Int32.toInt (Iw12 F 10) = Int32.toInt (I0 F 10)) → SV frQ P K O I0 J0 Iw12 Jw12 → GG X 4 P K Iw12 O Jw12 0 0 21 [(0, .ref a0), (1, .int x1_21)] [] := by
        intro nn_21
        induction nn_21 using Nat.strongRecOn with
        | ind nn_21 ih_21 =>
        intro x1_21 Iw12 Jw12 hn_21 iv0_21 iv1_21 iv2_21 iv3_21 iv4_21 iv5_21 iv6_21 iv7_21 iv8_21 iv9_21 iv10_21 iv11_21 hVw12
        have rg1_21 := rg x1_21
        rcases iv0_21 with iv0_21 | iv0_21
        · skip
          refine g_iload_n C dMo_readPrices_21 rfl ?_
          refine gt_if_eq 112 C dMo_readPrices_22 (by decide) rfl (fun c_22 => ?_) (fun c_22 => ?_)
          · skip
            exact s_vret C E dMo_readPrices_112 ⟨Nat.zero_le _, Nat.zero_le _⟩ hVw12 (by (try dsimp only); omega)
          · skip
            refine g_aload_n C dMo_readPrices_25 rfl ?_
            refine g_geti C dMo_readPrices_26 fl_Mo_104 h0 ?_
            refine g_istore_n (i := 2) C dMo_readPrices_29 rfl (by decide) ?_
            refine g_aload_n C dMo_readPrices_30 rfl ?_
            refine g_iconst (v := Int32.ofInt (0)) C dMo_readPrices_31 (by decide) ?_
            refine g_bipush (v := Int32.ofInt (99)) C dMo_readPrices_32 (by decide) ?_
            refine s_callV_i (av := fun ad => [.int (Int32.ofInt (0)), .int (Int32.ofInt (99))]) C dMo_readPrices_34 mfMo_readWhole mvMo_readWhole ln_Mo_227 h0 (by decide) rfl hVw12 (frL_le (by decide)) (cMo_readWhole_O hVw12.1 h0 (by have hk1 : Int32.toInt (Int32.ofInt (0)) = 0 := ofI (by decide); have hk2 : Int32.toInt (Int32.ofInt (99)) = 99 := ofI (by decide); omega)) rfl rfl (Nat.le_of_ble_eq_true rfl) ⟨Nat.le_of_ble_eq_true rfl, Nat.le_of_ble_eq_true rfl⟩ ⟨rfl, rfl⟩ ⟨Nat.zero_le _, Nat.zero_le _⟩ (fun Iw13 Jw13 hVw13 hFw13 z_34 p_34 => ?_)
            have tkw13_F_0 : (Iw13 F 0).toInt = (Iw12 F 0).toInt := by rw [(hFw13 F (by rw [hFk.2]; rfl)).1 0]
            have tkw13_F_4 : (Iw13 F 4).toInt = (Iw12 F 4).toInt := by rw [(hFw13 F (by rw [hFk.2]; rfl)).1 4]
            have tkw13_F_7 : (Iw13 F 7).toInt = (Iw12 F 7).toInt := by rw [(hFw13 F (by rw [hFk.2]; rfl)).1 7]
            have tkw13_F_8 : (Iw13 F 8).toInt = (Iw12 F 8).toInt := by rw [(hFw13 F (by rw [hFk.2]; rfl)).1 8]
            have tkw13_F_9 : (Iw13 F 9).toInt = (Iw12 F 9).toInt := by rw [(hFw13 F (by rw [hFk.2]; rfl)).1 9]
            have tkw13_F_10 : (Iw13 F 10).toInt = (Iw12 F 10).toInt := by rw [(hFw13 F (by rw [hFk.2]; rfl)).1 10]
            have tkw13_B_0 : (Iw13 B 0).toInt = (Iw12 B 0).toInt := by rw [(hFw13 B (by rw [hBk.2]; rfl)).1 0]
            have tkw13_B_4 : (Iw13 B 4).toInt = (Iw12 B 4).toInt := by rw [(hFw13 B (by rw [hBk.2]; rfl)).1 4]
            have tkw13_B_7 : (Iw13 B 7).toInt = (Iw12 B 7).toInt := by rw [(hFw13 B (by rw [hBk.2]; rfl)).1 7]
            have rz_34 := rg z_34
            try dsimp only at p_34
            have hk1_34 : Int32.toInt (Int32.ofInt (0)) = 0 := ofI (by decide)
            have hk2_34 : Int32.toInt (Int32.ofInt (99)) = 99 := ofI (by decide)
            refine g_istore_n (i := 3) C dMo_readPrices_37 rfl (by decide) ?_
            refine g_aload_n C dMo_readPrices_38 rfl ?_
            refine gt_getS C dMo_readPrices_39 fl_Mo_172 h0 hFo ?_
            refine g_geti C dMo_readPrices_42 fl_Mo_188 hFk ?_
            have o_42 := hVw13.1.2 F hFk.1 7
            rw [hFk.2] at o_42
            have o_42 : 0 ≤ (Iw13 F 7).toInt ∧ (Iw13 F 7).toInt ≤ 6 := o_42
            refine g_bipush (v := Int32.ofInt (6)) C dMo_readPrices_45 (by decide) ?_
            refine gt_icmp_ne 56 C dMo_readPrices_47 (by decide) rfl (ofI (by decide)) (fun c_47 => ?_) (fun c_47 => ?_)
            · skip
              refine g_aload_n C dMo_readPrices_56 rfl ?_
              refine g_geti C dMo_readPrices_57 fl_Mo_94 h0 ?_
              refine g_iconst (v := Int32.ofInt (5)) C dMo_readPrices_60 (by decide) ?_
              refine gt_icmp_ne 65 C dMo_readPrices_61 (by decide) rfl (ofI (by decide)) (fun c_61 => ?_) (fun c_61 => ?_)
              · skip
                exfalso; omega
              · skip
                exact s_vret C E dMo_readPrices_64 ⟨Nat.zero_le _, Nat.zero_le _⟩ hVw13 (by (try dsimp only); omega)
            · skip
              refine g_aload_n C dMo_readPrices_50 rfl ?_
              refine g_iconst (v := Int32.ofInt (5)) C dMo_readPrices_51 (by decide) ?_
              refine g_iload_n C dMo_readPrices_52 rfl ?_
              refine s_callV_v (av := fun ad => [.int (Int32.ofInt (5)), .int (Iw12 a0 10)]) C dMo_readPrices_53 mfMo_wrongHere mvMo_wrongHere ln_Mo_124 h0 (by decide) rfl hVw13 (frL_le (by decide)) (cMo_wrongHere_O hVw13.1 h0 (by have hk1 : Int32.toInt (Int32.ofInt (5)) = 5 := ofI (by decide); omega)) rfl rfl (Nat.le_of_ble_eq_true rfl) ⟨Nat.le_of_ble_eq_true rfl, Nat.le_of_ble_eq_true rfl⟩ ⟨rfl, rfl⟩ ⟨Nat.zero_le _, Nat.zero_le _⟩ (fun Iw14 Jw14 hVw14 hFw14 p_53 => ?_)
              have tkw14_F_0 : (Iw14 F 0).toInt = (Iw13 F 0).toInt := by rw [(hFw14 F (by rw [hFk.2]; rfl)).1 0]
              have tkw14_F_4 : (Iw14 F 4).toInt = (Iw13 F 4).toInt := by rw [(hFw14 F (by rw [hFk.2]; rfl)).1 4]
              have tkw14_F_7 : (Iw14 F 7).toInt = (Iw13 F 7).toInt := by rw [(hFw14 F (by rw [hFk.2]; rfl)).1 7]
              have tkw14_F_8 : (Iw14 F 8).toInt = (Iw13 F 8).toInt := by rw [(hFw14 F (by rw [hFk.2]; rfl)).1 8]
              have tkw14_F_9 : (Iw14 F 9).toInt = (Iw13 F 9).toInt := by rw [(hFw14 F (by rw [hFk.2]; rfl)).1 9]
              have tkw14_F_10 : (Iw14 F 10).toInt = (Iw13 F 10).toInt := by rw [(hFw14 F (by rw [hFk.2]; rfl)).1 10]
              have tkw14_B_0 : (Iw14 B 0).toInt = (Iw13 B 0).toInt := by rw [(hFw14 B (by rw [hBk.2]; rfl)).1 0]
              have tkw14_B_4 : (Iw14 B 4).toInt = (Iw13 B 4).toInt := by rw [(hFw14 B (by rw [hBk.2]; rfl)).1 4]
              have tkw14_B_7 : (Iw14 B 7).toInt = (Iw13 B 7).toInt := by rw [(hFw14 B (by rw [hBk.2]; rfl)).1 7]
              try dsimp only at p_53
              have hk1_53 : Int32.toInt (Int32.ofInt (5)) = 5 := ofI (by decide)
              refine g_aload_n C dMo_readPrices_56 rfl ?_
              refine g_geti C dMo_readPrices_57 fl_Mo_94 h0 ?_
              refine g_iconst (v := Int32.ofInt (5)) C dMo_readPrices_60 (by decide) ?_
              refine gt_icmp_ne 65 C dMo_readPrices_61 (by decide) rfl (ofI (by decide)) (fun c_61 => ?_) (fun c_61 => ?_)
              · skip
                exfalso; omega
              · skip
                exact s_vret C E dMo_readPrices_64 ⟨Nat.zero_le _, Nat.zero_le _⟩ hVw14 (by (try dsimp only); omega)
        · skip
          refine g_iload_n C dMo_readPrices_21 rfl ?_
          refine gt_if_eq 112 C dMo_readPrices_22 (by decide) rfl (fun c_22 => ?_) (fun c_22 => ?_)
          · skip
            exact s_vret C E dMo_readPrices_112 ⟨Nat.zero_le _, Nat.zero_le _⟩ hVw12 (by (try dsimp only); omega)
          · skip
            refine g_aload_n C dMo_readPrices_25 rfl ?_
            refine g_geti C dMo_readPrices_26 fl_Mo_104 h0 ?_
            refine g_istore_n (i := 2) C dMo_readPrices_29 rfl (by decide) ?_
            refine g_aload_n C dMo_readPrices_30 rfl ?_
            refine g_iconst (v := Int32.ofInt (0)) C dMo_readPrices_31 (by decide) ?_
            refine g_bipush (v := Int32.ofInt (99)) C dMo_readPrices_32 (by decide) ?_
            refine s_callV_i (av := fun ad => [.int (Int32.ofInt (0)), .int (Int32.ofInt (99))]) C dMo_readPrices_34 mfMo_readWhole mvMo_readWhole ln_Mo_227 h0 (by decide) rfl hVw12 (frL_le (by decide)) (cMo_readWhole_N hVw12.1 h0 (by have hk1 : Int32.toInt (Int32.ofInt (0)) = 0 := ofI (by decide); have hk2 : Int32.toInt (Int32.ofInt (99)) = 99 := ofI (by decide); omega)) rfl rfl (Nat.le_of_ble_eq_true rfl) ⟨Nat.le_of_ble_eq_true rfl, Nat.le_of_ble_eq_true rfl⟩ ⟨rfl, rfl⟩ ⟨Nat.zero_le _, Nat.zero_le _⟩ (fun Iw15 Jw15 hVw15 hFw15 z_34 p_34 => ?_)
            have tkw15_F_0 : (Iw15 F 0).toInt = (Iw12 F 0).toInt := by rw [(hFw15 F (by rw [hFk.2]; rfl)).1 0]
            have tkw15_F_4 : (Iw15 F 4).toInt = (Iw12 F 4).toInt := by rw [(hFw15 F (by rw [hFk.2]; rfl)).1 4]
            have tkw15_F_7 : (Iw15 F 7).toInt = (Iw12 F 7).toInt := by rw [(hFw15 F (by rw [hFk.2]; rfl)).1 7]
            have tkw15_F_8 : (Iw15 F 8).toInt = (Iw12 F 8).toInt := by rw [(hFw15 F (by rw [hFk.2]; rfl)).1 8]
            have tkw15_F_9 : (Iw15 F 9).toInt = (Iw12 F 9).toInt := by rw [(hFw15 F (by rw [hFk.2]; rfl)).1 9]
            have tkw15_F_10 : (Iw15 F 10).toInt = (Iw12 F 10).toInt := by rw [(hFw15 F (by rw [hFk.2]; rfl)).1 10]
            have tkw15_B_0 : (Iw15 B 0).toInt = (Iw12 B 0).toInt := by rw [(hFw15 B (by rw [hBk.2]; rfl)).1 0]
            have tkw15_B_4 : (Iw15 B 4).toInt = (Iw12 B 4).toInt := by rw [(hFw15 B (by rw [hBk.2]; rfl)).1 4]
            have tkw15_B_7 : (Iw15 B 7).toInt = (Iw12 B 7).toInt := by rw [(hFw15 B (by rw [hBk.2]; rfl)).1 7]
            have rz_34 := rg z_34
            try dsimp only at p_34
            have hk1_34 : Int32.toInt (Int32.ofInt (0)) = 0 := ofI (by decide)
            have hk2_34 : Int32.toInt (Int32.ofInt (99)) = 99 := ofI (by decide)
            rcases p_34 with ⟨p_34 | p_34, pk_34⟩
            · skip
              refine g_istore_n (i := 3) C dMo_readPrices_37 rfl (by decide) ?_
              refine g_aload_n C dMo_readPrices_38 rfl ?_
              refine gt_getS C dMo_readPrices_39 fl_Mo_172 h0 hFo ?_
              refine g_geti C dMo_readPrices_42 fl_Mo_188 hFk ?_
              have o_42 := hVw15.1.2 F hFk.1 7
              rw [hFk.2] at o_42
              have o_42 : 0 ≤ (Iw15 F 7).toInt ∧ (Iw15 F 7).toInt ≤ 6 := o_42
              refine g_bipush (v := Int32.ofInt (6)) C dMo_readPrices_45 (by decide) ?_
              refine gt_icmp_ne 56 C dMo_readPrices_47 (by decide) rfl (ofI (by decide)) (fun c_47 => ?_) (fun c_47 => ?_)
              · skip
                refine g_aload_n C dMo_readPrices_56 rfl ?_
                refine g_geti C dMo_readPrices_57 fl_Mo_94 h0 ?_
                refine g_iconst (v := Int32.ofInt (5)) C dMo_readPrices_60 (by decide) ?_
                refine gt_icmp_ne 65 C dMo_readPrices_61 (by decide) rfl (ofI (by decide)) (fun c_61 => ?_) (fun c_61 => ?_)
                · skip
                  exfalso; omega
                · skip
                  exact s_vret C E dMo_readPrices_64 ⟨Nat.zero_le _, Nat.zero_le _⟩ hVw15 (by (try dsimp only); omega)
              · skip
                refine g_aload_n C dMo_readPrices_50 rfl ?_
                refine g_iconst (v := Int32.ofInt (5)) C dMo_readPrices_51 (by decide) ?_
                refine g_iload_n C dMo_readPrices_52 rfl ?_
                refine s_callV_v (av := fun ad => [.int (Int32.ofInt (5)), .int (Iw12 a0 10)]) C dMo_readPrices_53 mfMo_wrongHere mvMo_wrongHere ln_Mo_124 h0 (by decide) rfl hVw15 (frL_le (by decide)) (cMo_wrongHere_O hVw15.1 h0 (by have hk1 : Int32.toInt (Int32.ofInt (5)) = 5 := ofI (by decide); omega)) rfl rfl (Nat.le_of_ble_eq_true rfl) ⟨Nat.le_of_ble_eq_true rfl, Nat.le_of_ble_eq_true rfl⟩ ⟨rfl, rfl⟩ ⟨Nat.zero_le _, Nat.zero_le _⟩ (fun Iw16 Jw16 hVw16 hFw16 p_53 => ?_)
                have tkw16_F_0 : (Iw16 F 0).toInt = (Iw15 F 0).toInt := by rw [(hFw16 F (by rw [hFk.2]; rfl)).1 0]
                have tkw16_F_4 : (Iw16 F 4).toInt = (Iw15 F 4).toInt := by rw [(hFw16 F (by rw [hFk.2]; rfl)).1 4]
                have tkw16_F_7 : (Iw16 F 7).toInt = (Iw15 F 7).toInt := by rw [(hFw16 F (by rw [hFk.2]; rfl)).1 7]
                have tkw16_F_8 : (Iw16 F 8).toInt = (Iw15 F 8).toInt := by rw [(hFw16 F (by rw [hFk.2]; rfl)).1 8]
                have tkw16_F_9 : (Iw16 F 9).toInt = (Iw15 F 9).toInt := by rw [(hFw16 F (by rw [hFk.2]; rfl)).1 9]
                have tkw16_F_10 : (Iw16 F 10).toInt = (Iw15 F 10).toInt := by rw [(hFw16 F (by rw [hFk.2]; rfl)).1 10]
                have tkw16_B_0 : (Iw16 B 0).toInt = (Iw15 B 0).toInt := by rw [(hFw16 B (by rw [hBk.2]; rfl)).1 0]
                have tkw16_B_4 : (Iw16 B 4).toInt = (Iw15 B 4).toInt := by rw [(hFw16 B (by rw [hBk.2]; rfl)).1 4]
                have tkw16_B_7 : (Iw16 B 7).toInt = (Iw15 B 7).toInt := by rw [(hFw16 B (by rw [hBk.2]; rfl)).1 7]
                try dsimp only at p_53
                have hk1_53 : Int32.toInt (Int32.ofInt (5)) = 5 := ofI (by decide)
                refine g_aload_n C dMo_readPrices_56 rfl ?_
                refine g_geti C dMo_readPrices_57 fl_Mo_94 h0 ?_
                refine g_iconst (v := Int32.ofInt (5)) C dMo_readPrices_60 (by decide) ?_
                refine gt_icmp_ne 65 C dMo_readPrices_61 (by decide) rfl (ofI (by decide)) (fun c_61 => ?_) (fun c_61 => ?_)
                · skip
                  exfalso; omega
                · skip
                  exact s_vret C E dMo_readPrices_64 ⟨Nat.zero_le _, Nat.zero_le _⟩ hVw16 (by (try dsimp only); omega)
            · skip
              refine g_istore_n (i := 3) C dMo_readPrices_37 rfl (by decide) ?_
              refine g_aload_n C dMo_readPrices_38 rfl ?_
              refine gt_getS C dMo_readPrices_39 fl_Mo_172 h0 hFo ?_
              refine g_geti C dMo_readPrices_42 fl_Mo_188 hFk ?_
              have o_42 := hVw15.1.2 F hFk.1 7
              rw [hFk.2] at o_42
              have o_42 : 0 ≤ (Iw15 F 7).toInt ∧ (Iw15 F 7).toInt ≤ 6 := o_42
              refine g_bipush (v := Int32.ofInt (6)) C dMo_readPrices_45 (by decide) ?_
              refine gt_icmp_ne 56 C dMo_readPrices_47 (by decide) rfl (ofI (by decide)) (fun c_47 => ?_) (fun c_47 => ?_)
              · skip
                refine g_aload_n C dMo_readPrices_56 rfl ?_
                refine g_geti C dMo_readPrices_57 fl_Mo_94 h0 ?_
                refine g_iconst (v := Int32.ofInt (5)) C dMo_readPrices_60 (by decide) ?_
                refine gt_icmp_ne 65 C dMo_readPrices_61 (by decide) rfl (ofI (by decide)) (fun c_61 => ?_) (fun c_61 => ?_)
                · skip
                  refine g_aload_n C dMo_readPrices_65 rfl ?_
                  refine gt_getS C dMo_readPrices_66 fl_Mo_172 h0 hFo ?_
                  refine gt_getr C dMo_readPrices_69 fl_Mo_254 hFk hVw15.1.1 rfl (fun b_69 q_69 hb_69 => ?_)
                  refine g_aload_n C dMo_readPrices_72 rfl ?_
                  refine gt_getS C dMo_readPrices_73 fl_Mo_172 h0 hFo ?_
                  refine g_geti C dMo_readPrices_76 fl_Mo_188 hFk ?_
                  have o_76 := hVw15.1.2 F hFk.1 7
                  rw [hFk.2] at o_76
                  have o_76 : 0 ≤ (Iw15 F 7).toInt ∧ (Iw15 F 7).toInt ≤ 6 := o_76
                  refine g_iload_n C dMo_readPrices_79 rfl ?_
                  refine gt_iast C dMo_readPrices_80 hb_69 (by decide) rfl rfl (n := 6) rfl (by omega) hVw15 rfl trivial (fun Iw17 eIw17 hVw17 => ?_)
                  have tkw17_a0_8 : (Iw17 a0 8).toInt = (Iw15 a0 8).toInt := by rw [eIw17, up2_ne _ _ (fun z => by have q := h0.2; rw [z.1, hb_69.2] at q; exact absurd q (by decide))]
                  have tkw17_a0_9 : (Iw17 a0 9).toInt = (Iw15 a0 9).toInt := by rw [eIw17, up2_ne _ _ (fun z => by have q := h0.2; rw [z.1, hb_69.2] at q; exact absurd q (by decide))]
                  have tkw17_a0_13 : (Iw17 a0 13).toInt = (Iw15 a0 13).toInt := by rw [eIw17, up2_ne _ _ (fun z => by have q := h0.2; rw [z.1, hb_69.2] at q; exact absurd q (by decide))]
                  have tkw17_F_0 : (Iw17 F 0).toInt = (Iw15 F 0).toInt := by rw [eIw17, up2_ne _ _ (fun z => by have q := hFk.2; rw [z.1, hb_69.2] at q; exact absurd q (by decide))]
                  have tkw17_F_4 : (Iw17 F 4).toInt = (Iw15 F 4).toInt := by rw [eIw17, up2_ne _ _ (fun z => by have q := hFk.2; rw [z.1, hb_69.2] at q; exact absurd q (by decide))]
                  have tkw17_F_7 : (Iw17 F 7).toInt = (Iw15 F 7).toInt := by rw [eIw17, up2_ne _ _ (fun z => by have q := hFk.2; rw [z.1, hb_69.2] at q; exact absurd q (by decide))]
                  have tkw17_F_8 : (Iw17 F 8).toInt = (Iw15 F 8).toInt := by rw [eIw17, up2_ne _ _ (fun z => by have q := hFk.2; rw [z.1, hb_69.2] at q; exact absurd q (by decide))]
                  have tkw17_F_9 : (Iw17 F 9).toInt = (Iw15 F 9).toInt := by rw [eIw17, up2_ne _ _ (fun z => by have q := hFk.2; rw [z.1, hb_69.2] at q; exact absurd q (by decide))]
                  have tkw17_F_10 : (Iw17 F 10).toInt = (Iw15 F 10).toInt := by rw [eIw17, up2_ne _ _ (fun z => by have q := hFk.2; rw [z.1, hb_69.2] at q; exact absurd q (by decide))]
                  have tkw17_a0_6 : (Iw17 a0 6).toInt = (Iw15 a0 6).toInt := by rw [eIw17, up2_ne _ _ (fun z => by have q := h0.2; rw [z.1, hb_69.2] at q; exact absurd q (by decide))]
                  have tkw17_a0_7 : (Iw17 a0 7).toInt = (Iw15 a0 7).toInt := by rw [eIw17, up2_ne _ _ (fun z => by have q := h0.2; rw [z.1, hb_69.2] at q; exact absurd q (by decide))]
                  have tkw17_a0_18 : (Iw17 a0 18).toInt = (Iw15 a0 18).toInt := by rw [eIw17, up2_ne _ _ (fun z => by have q := h0.2; rw [z.1, hb_69.2] at q; exact absurd q (by decide))]
                  have tkw17_B_0 : (Iw17 B 0).toInt = (Iw15 B 0).toInt := by rw [eIw17, up2_ne _ _ (fun z => by have q := hBk.2; rw [z.1, hb_69.2] at q; exact absurd q (by decide))]
                  have tkw17_B_4 : (Iw17 B 4).toInt = (Iw15 B 4).toInt := by rw [eIw17, up2_ne _ _ (fun z => by have q := hBk.2; rw [z.1, hb_69.2] at q; exact absurd q (by decide))]
                  have tkw17_B_7 : (Iw17 B 7).toInt = (Iw15 B 7).toInt := by rw [eIw17, up2_ne _ _ (fun z => by have q := hBk.2; rw [z.1, hb_69.2] at q; exact absurd q (by decide))]
                  refine g_aload_n C dMo_readPrices_81 rfl ?_
                  refine gt_getS C dMo_readPrices_82 fl_Mo_172 h0 hFo ?_
                  refine g_dup C dMo_readPrices_85 rfl ?_
                  refine g_geti C dMo_readPrices_86 fl_Mo_188 hFk ?_
                  have o_86 := hVw17.1.2 F hFk.1 7
                  rw [hFk.2] at o_86
                  have o_86 : 0 ≤ (Iw17 F 7).toInt ∧ (Iw17 F 7).toInt ≤ 6 := o_86
                  refine g_iconst (v := Int32.ofInt (1)) C dMo_readPrices_89 (by decide) ?_
                  first | refine n_iadd C dMo_readPrices_90 rfl (ofI (by decide)) (by omega) (fun z_90 e_90 => ?_) | refine a_iadd C dMo_readPrices_90 (fun z_90 => ?_)
                  refine gt_puti C dMo_readPrices_91 fl_Mo_188 hFk hVw17 rfl (by show 0 ≤ Int32.toInt _ ∧ Int32.toInt _ ≤ 6; omega) rfl (Or.inl rfl) (fun Iw18 eIw18 hVw18 => ?_)
                  have tkw18_a0_8 : (Iw18 a0 8).toInt = (Iw17 a0 8).toInt := by rw [eIw18, up2_ne _ _ (fun z => by have q := h0.2; rw [z.1, hFk.2] at q; exact absurd q (by decide))]
                  have tkw18_a0_9 : (Iw18 a0 9).toInt = (Iw17 a0 9).toInt := by rw [eIw18, up2_ne _ _ (fun z => by have q := h0.2; rw [z.1, hFk.2] at q; exact absurd q (by decide))]
                  have tkw18_a0_13 : (Iw18 a0 13).toInt = (Iw17 a0 13).toInt := by rw [eIw18, up2_ne _ _ (fun z => by have q := h0.2; rw [z.1, hFk.2] at q; exact absurd q (by decide))]
                  have tkw18_F_0 : (Iw18 F 0).toInt = (Iw17 F 0).toInt := by rw [eIw18, up2_ne _ _ (fun z => absurd z.2 (by decide))]
                  have tkw18_F_4 : (Iw18 F 4).toInt = (Iw17 F 4).toInt := by rw [eIw18, up2_ne _ _ (fun z => absurd z.2 (by decide))]
                  have tkw18_F_7 : (Iw18 F 7).toInt = z_90.toInt := by rw [eIw18, up2_self]
                  have tkw18_F_8 : (Iw18 F 8).toInt = (Iw17 F 8).toInt := by rw [eIw18, up2_ne _ _ (fun z => absurd z.2 (by decide))]
                  have tkw18_F_9 : (Iw18 F 9).toInt = (Iw17 F 9).toInt := by rw [eIw18, up2_ne _ _ (fun z => absurd z.2 (by decide))]
                  have tkw18_F_10 : (Iw18 F 10).toInt = (Iw17 F 10).toInt := by rw [eIw18, up2_ne _ _ (fun z => absurd z.2 (by decide))]
                  have tkw18_a0_6 : (Iw18 a0 6).toInt = (Iw17 a0 6).toInt := by rw [eIw18, up2_ne _ _ (fun z => by have q := h0.2; rw [z.1, hFk.2] at q; exact absurd q (by decide))]
                  have tkw18_a0_7 : (Iw18 a0 7).toInt = (Iw17 a0 7).toInt := by rw [eIw18, up2_ne _ _ (fun z => by have q := h0.2; rw [z.1, hFk.2] at q; exact absurd q (by decide))]
                  have tkw18_a0_18 : (Iw18 a0 18).toInt = (Iw17 a0 18).toInt := by rw [eIw18, up2_ne _ _ (fun z => by have q := h0.2; rw [z.1, hFk.2] at q; exact absurd q (by decide))]
                  have tkw18_B_0 : (Iw18 B 0).toInt = (Iw17 B 0).toInt := by rw [eIw18, up2_ne _ _ (fun z => absurd z.2 (by decide))]
                  have tkw18_B_4 : (Iw18 B 4).toInt = (Iw17 B 4).toInt := by rw [eIw18, up2_ne _ _ (fun z => absurd z.2 (by decide))]
                  have tkw18_B_7 : (Iw18 B 7).toInt = (Iw17 B 7).toInt := by rw [eIw18, up2_ne _ _ (fun z => hBF z.1)]
                  refine g_aload_n C dMo_readPrices_94 rfl ?_
                  refine g_bipush (v := Int32.ofInt (44)) C dMo_readPrices_95 (by decide) ?_
                  refine s_callV_zp (av := fun ad => [.int (Int32.ofInt (44))]) C dMo_readPrices_97 mfMo_is mvMo_is ln_Mo_169 h0 (by decide) rfl (cMo_is hVw18.1 h0 (by have hk1 : Int32.toInt (Int32.ofInt (44)) = 44 := ofI (by decide); omega)) rfl rfl (Nat.le_of_ble_eq_true rfl) ⟨Nat.le_of_ble_eq_true rfl, Nat.le_of_ble_eq_true rfl⟩ ⟨rfl, rfl⟩ ⟨Nat.zero_le _, Nat.zero_le _⟩ (fun z_97 b_97 p_97 => ?_)
                  have rz_97 := rg z_97
                  have u_97 := b_97
                  unfold B01 at u_97
                  try dsimp only at p_97
                  have hk1_97 : Int32.toInt (Int32.ofInt (44)) = 44 := ofI (by decide)
                  refine g_istore_n (i := 1) C dMo_readPrices_100 rfl (by decide) ?_
                  refine g_iload_n C dMo_readPrices_101 rfl ?_
                  refine gt_if_eq 109 C dMo_readPrices_102 (by decide) rfl (fun c_102 => ?_) (fun c_102 => ?_)
                  · skip
                    refine g_goto 21 C dMo_readPrices_109 (by decide) ?_
                    exact g_sub (ih_21 _ (by omega) z_97 Iw18 Jw15 rfl (by omega) (by omega) (by omega) (by omega) (by omega) (by omega) (by omega) (by omega) (by omega) (by omega) (by omega) (by omega) hVw18) ⟨rfl, rfl, trivial⟩
                  · skip
                    refine g_aload_n C dMo_readPrices_105 rfl ?_
                    refine s_callV_v (av := fun ad => []) C dMo_readPrices_106 mfMo_next mvMo_next ln_Mo_146 h0 (by decide) rfl hVw18 (frL_le (by decide)) (cMo_next_N hVw18.1 h0 (by omega)) rfl rfl (Nat.le_of_ble_eq_true rfl) ⟨Nat.le_of_ble_eq_true rfl, Nat.le_of_ble_eq_true rfl⟩ ⟨rfl, rfl⟩ ⟨Nat.zero_le _, Nat.zero_le _⟩ (fun Iw20 Jw20 hVw20 hFw20 p_106 => ?_)
                    have tkw20_F_0 : (Iw20 F 0).toInt = (Iw18 F 0).toInt := by rw [(hFw20 F (by rw [hFk.2]; rfl)).1 0]
                    have tkw20_F_4 : (Iw20 F 4).toInt = (Iw18 F 4).toInt := by rw [(hFw20 F (by rw [hFk.2]; rfl)).1 4]
                    have tkw20_F_7 : (Iw20 F 7).toInt = (Iw18 F 7).toInt := by rw [(hFw20 F (by rw [hFk.2]; rfl)).1 7]
                    have tkw20_F_8 : (Iw20 F 8).toInt = (Iw18 F 8).toInt := by rw [(hFw20 F (by rw [hFk.2]; rfl)).1 8]
                    have tkw20_F_9 : (Iw20 F 9).toInt = (Iw18 F 9).toInt := by rw [(hFw20 F (by rw [hFk.2]; rfl)).1 9]
                    have tkw20_F_10 : (Iw20 F 10).toInt = (Iw18 F 10).toInt := by rw [(hFw20 F (by rw [hFk.2]; rfl)).1 10]
                    have tkw20_B_0 : (Iw20 B 0).toInt = (Iw18 B 0).toInt := by rw [(hFw20 B (by rw [hBk.2]; rfl)).1 0]
                    have tkw20_B_4 : (Iw20 B 4).toInt = (Iw18 B 4).toInt := by rw [(hFw20 B (by rw [hBk.2]; rfl)).1 4]
                    have tkw20_B_7 : (Iw20 B 7).toInt = (Iw18 B 7).toInt := by rw [(hFw20 B (by rw [hBk.2]; rfl)).1 7]
                    try dsimp only at p_106
                    refine g_goto 21 C dMo_readPrices_109 (by decide) ?_
                    exact g_sub (ih_21 _ (by omega) z_97 Iw20 Jw20 rfl (by omega) (by omega) (by omega) (by omega) (by omega) (by omega) (by omega) (by omega) (by omega) (by omega) (by omega) (by omega) hVw20) ⟨rfl, rfl, trivial⟩
                · skip
                  exfalso; omega
              · skip
                refine g_aload_n C dMo_readPrices_50 rfl ?_
                refine g_iconst (v := Int32.ofInt (5)) C dMo_readPrices_51 (by decide) ?_
                refine g_iload_n C dMo_readPrices_52 rfl ?_
                refine s_callV_v (av := fun ad => [.int (Int32.ofInt (5)), .int (Iw12 a0 10)]) C dMo_readPrices_53 mfMo_wrongHere mvMo_wrongHere ln_Mo_124 h0 (by decide) rfl hVw15 (frL_le (by decide)) (cMo_wrongHere_N hVw15.1 h0 (by have hk1 : Int32.toInt (Int32.ofInt (5)) = 5 := ofI (by decide); omega) (by have hk1 : Int32.toInt (Int32.ofInt (5)) = 5 := ofI (by decide); omega)) rfl rfl (Nat.le_of_ble_eq_true rfl) ⟨Nat.le_of_ble_eq_true rfl, Nat.le_of_ble_eq_true rfl⟩ ⟨rfl, rfl⟩ ⟨Nat.zero_le _, Nat.zero_le _⟩ (fun Iw21 Jw21 hVw21 hFw21 p_53 => ?_)
                have tkw21_F_0 : (Iw21 F 0).toInt = (Iw15 F 0).toInt := by rw [(hFw21 F (by rw [hFk.2]; rfl)).1 0]
                have tkw21_F_4 : (Iw21 F 4).toInt = (Iw15 F 4).toInt := by rw [(hFw21 F (by rw [hFk.2]; rfl)).1 4]
                have tkw21_F_7 : (Iw21 F 7).toInt = (Iw15 F 7).toInt := by rw [(hFw21 F (by rw [hFk.2]; rfl)).1 7]
                have tkw21_F_8 : (Iw21 F 8).toInt = (Iw15 F 8).toInt := by rw [(hFw21 F (by rw [hFk.2]; rfl)).1 8]
                have tkw21_F_9 : (Iw21 F 9).toInt = (Iw15 F 9).toInt := by rw [(hFw21 F (by rw [hFk.2]; rfl)).1 9]
                have tkw21_F_10 : (Iw21 F 10).toInt = (Iw15 F 10).toInt := by rw [(hFw21 F (by rw [hFk.2]; rfl)).1 10]
                have tkw21_B_0 : (Iw21 B 0).toInt = (Iw15 B 0).toInt := by rw [(hFw21 B (by rw [hBk.2]; rfl)).1 0]
                have tkw21_B_4 : (Iw21 B 4).toInt = (Iw15 B 4).toInt := by rw [(hFw21 B (by rw [hBk.2]; rfl)).1 4]
                have tkw21_B_7 : (Iw21 B 7).toInt = (Iw15 B 7).toInt := by rw [(hFw21 B (by rw [hBk.2]; rfl)).1 7]
                try dsimp only at p_53
                have hk1_53 : Int32.toInt (Int32.ofInt (5)) = 5 := ofI (by decide)
                refine g_aload_n C dMo_readPrices_56 rfl ?_
                refine g_geti C dMo_readPrices_57 fl_Mo_94 h0 ?_
                refine g_iconst (v := Int32.ofInt (5)) C dMo_readPrices_60 (by decide) ?_
                refine gt_icmp_ne 65 C dMo_readPrices_61 (by decide) rfl (ofI (by decide)) (fun c_61 => ?_) (fun c_61 => ?_)
                · skip
                  exfalso; omega
                · skip
                  exact s_vret C E dMo_readPrices_64 ⟨Nat.zero_le _, Nat.zero_le _⟩ hVw21 (by (try dsimp only); omega)
      exact g_sub (lp_21 _ (Int32.ofInt (1)) Iw1 Jw1 rfl (by omega) (by omega) (by omega) (by omega) (by omega) (by omega) (by omega) (by omega) (by omega) (by omega) (by omega) (by omega) hVw1) ⟨rfl, rfl, trivial⟩
  · skip
    refine g_iconst (v := Int32.ofInt (1)) C dMo_readPrices_11 (by decide) ?_
    refine g_goto 16 C dMo_readPrices_12 (by decide) ?_
    refine s_callV_v (av := fun ad => [.int (Int32.ofInt (1))]) C dMo_readPrices_16 mfMo_once mvMo_once ln_Mo_218 h0 (by decide) rfl hV0 (frL_le (by decide)) (cMo_once_N hV0.1 h0 (by have hk1 : Int32.toInt (Int32.ofInt (1)) = 1 := ofI (by decide); omega)) rfl rfl (Nat.le_of_ble_eq_true rfl) ⟨Nat.le_of_ble_eq_true rfl, Nat.le_of_ble_eq_true rfl⟩ ⟨rfl, rfl⟩ ⟨Nat.zero_le _, Nat.zero_le _⟩ (fun Iw22 Jw22 hVw22 hFw22 p_16 => ?_)
    have tkw22_F_0 : (Iw22 F 0).toInt = (I0 F 0).toInt := by rw [(hFw22 F (by rw [hFk.2]; rfl)).1 0]
    have tkw22_F_4 : (Iw22 F 4).toInt = (I0 F 4).toInt := by rw [(hFw22 F (by rw [hFk.2]; rfl)).1 4]
    have tkw22_F_7 : (Iw22 F 7).toInt = (I0 F 7).toInt := by rw [(hFw22 F (by rw [hFk.2]; rfl)).1 7]
    have tkw22_F_8 : (Iw22 F 8).toInt = (I0 F 8).toInt := by rw [(hFw22 F (by rw [hFk.2]; rfl)).1 8]
    have tkw22_F_9 : (Iw22 F 9).toInt = (I0 F 9).toInt := by rw [(hFw22 F (by rw [hFk.2]; rfl)).1 9]
    have tkw22_F_10 : (Iw22 F 10).toInt = (I0 F 10).toInt := by rw [(hFw22 F (by rw [hFk.2]; rfl)).1 10]
    have tkw22_B_0 : (Iw22 B 0).toInt = (I0 B 0).toInt := by rw [(hFw22 B (by rw [hBk.2]; rfl)).1 0]
    have tkw22_B_4 : (Iw22 B 4).toInt = (I0 B 4).toInt := by rw [(hFw22 B (by rw [hBk.2]; rfl)).1 4]
    have tkw22_B_7 : (Iw22 B 7).toInt = (I0 B 7).toInt := by rw [(hFw22 B (by rw [hBk.2]; rfl)).1 7]
    try dsimp only at p_16
    have hk1_16 : Int32.toInt (Int32.ofInt (1)) = 1 := ofI (by decide)
    rcases p_16 with ⟨p_16 | p_16, pk_16⟩
    · skip
      refine g_iconst (v := Int32.ofInt (1)) C dMo_readPrices_19 (by decide) ?_
      refine g_istore_n (i := 1) C dMo_readPrices_20 rfl (by decide) ?_
      have lp_21 : ∀ (nn_21 : Nat) (x1_21 : Int32) (Iw23 : Nat → Nat → Int32) (Jw23 : Nat → Nat → Int64), Int.toNat (7 - Int32.toInt (Iw23 F 7)) = nn_21 → ((Int32.toInt (Iw23 a0 9) = 5 ∧ 1 ≤ Int32.toInt (Iw23 a0 13) ∧ Int32.toInt (I0 a0 8) ≤ Int32.toInt (Iw23 a0 8)) ∨ (0 ≤ Int32.toInt (Iw23 a0 9) ∧ Int32.toInt (Iw23 a0 9) ≤ 4 ∧ Int32.toInt (Iw23 a0 13) = 0 ∧ Int32.toInt (I0 a0 8) ≤ Int32.toInt (Iw23 a0 8) ∧ Int32.toInt (I0 a0 8) + Int32.toInt (Iw23 a0 9) ≤ Int32.toInt (Iw23 a0 8) + 3)) → (Int32.toInt (Iw23 a0 6) = Int32.toInt (I0 a0 6)) → (Int32.toInt (Iw23 a0 7) = Int32.toInt (I0 a0 7)) → (Int32.toInt (Iw23 a0 18) = Int32.toInt (I0 a0 18)) → (Int32.toInt (Iw23 B 0) = Int32.toInt (I0 B 0)) → (Int32.toInt (Iw23 B 4) = Int32.toInt (I0 B 4)) → (Int32.toInt (Iw23 B 7) = Int32.toInt (I0 B 7)) → (Int32.toInt (Iw23 F 0) = Int32.toInt (I0 F 0)) → (Int32.toInt (Iw23 F 4) = Int32.toInt (I0 F 4)) → (Int32.toInt (Iw23 F 8) = Int32.toInt (I0 F 8)) → (Int32.toInt (Iw23 F 9) = Int32.toInt (I0 F 9)) → (Int32.toInt (Iw23 F 10) = Int32.toInt (I0 F 10)) → SV frQ P K O I0 J0 Iw23 Jw23 → GG X 4 P K Iw23 O Jw23 0 0 21 [(0, .ref a0), (1, .int x1_21)] [] := by
        intro nn_21
        induction nn_21 using Nat.strongRecOn with
        | ind nn_21 ih_21 =>
        intro x1_21 Iw23 Jw23 hn_21 iv0_21 iv1_21 iv2_21 iv3_21 iv4_21 iv5_21 iv6_21 iv7_21 iv8_21 iv9_21 iv10_21 iv11_21 hVw23
        have rg1_21 := rg x1_21
        rcases iv0_21 with iv0_21 | iv0_21
        · skip
          refine g_iload_n C dMo_readPrices_21 rfl ?_
          refine gt_if_eq 112 C dMo_readPrices_22 (by decide) rfl (fun c_22 => ?_) (fun c_22 => ?_)
          · skip
            exact s_vret C E dMo_readPrices_112 ⟨Nat.zero_le _, Nat.zero_le _⟩ hVw23 (by (try dsimp only); omega)
          · skip
            refine g_aload_n C dMo_readPrices_25 rfl ?_
            refine g_geti C dMo_readPrices_26 fl_Mo_104 h0 ?_
            refine g_istore_n (i := 2) C dMo_readPrices_29 rfl (by decide) ?_
            refine g_aload_n C dMo_readPrices_30 rfl ?_
            refine g_iconst (v := Int32.ofInt (0)) C dMo_readPrices_31 (by decide) ?_
            refine g_bipush (v := Int32.ofInt (99)) C dMo_readPrices_32 (by decide) ?_
            refine s_callV_i (av := fun ad => [.int (Int32.ofInt (0)), .int (Int32.ofInt (99))]) C dMo_readPrices_34 mfMo_readWhole mvMo_readWhole ln_Mo_227 h0 (by decide) rfl hVw23 (frL_le (by decide)) (cMo_readWhole_O hVw23.1 h0 (by have hk1 : Int32.toInt (Int32.ofInt (0)) = 0 := ofI (by decide); have hk2 : Int32.toInt (Int32.ofInt (99)) = 99 := ofI (by decide); omega)) rfl rfl (Nat.le_of_ble_eq_true rfl) ⟨Nat.le_of_ble_eq_true rfl, Nat.le_of_ble_eq_true rfl⟩ ⟨rfl, rfl⟩ ⟨Nat.zero_le _, Nat.zero_le _⟩ (fun Iw24 Jw24 hVw24 hFw24 z_34 p_34 => ?_)
            have tkw24_F_0 : (Iw24 F 0).toInt = (Iw23 F 0).toInt := by rw [(hFw24 F (by rw [hFk.2]; rfl)).1 0]
            have tkw24_F_4 : (Iw24 F 4).toInt = (Iw23 F 4).toInt := by rw [(hFw24 F (by rw [hFk.2]; rfl)).1 4]
            have tkw24_F_7 : (Iw24 F 7).toInt = (Iw23 F 7).toInt := by rw [(hFw24 F (by rw [hFk.2]; rfl)).1 7]
            have tkw24_F_8 : (Iw24 F 8).toInt = (Iw23 F 8).toInt := by rw [(hFw24 F (by rw [hFk.2]; rfl)).1 8]
            have tkw24_F_9 : (Iw24 F 9).toInt = (Iw23 F 9).toInt := by rw [(hFw24 F (by rw [hFk.2]; rfl)).1 9]
            have tkw24_F_10 : (Iw24 F 10).toInt = (Iw23 F 10).toInt := by rw [(hFw24 F (by rw [hFk.2]; rfl)).1 10]
            have tkw24_B_0 : (Iw24 B 0).toInt = (Iw23 B 0).toInt := by rw [(hFw24 B (by rw [hBk.2]; rfl)).1 0]
            have tkw24_B_4 : (Iw24 B 4).toInt = (Iw23 B 4).toInt := by rw [(hFw24 B (by rw [hBk.2]; rfl)).1 4]
            have tkw24_B_7 : (Iw24 B 7).toInt = (Iw23 B 7).toInt := by rw [(hFw24 B (by rw [hBk.2]; rfl)).1 7]
            have rz_34 := rg z_34
            try dsimp only at p_34
            have hk1_34 : Int32.toInt (Int32.ofInt (0)) = 0 := ofI (by decide)
            have hk2_34 : Int32.toInt (Int32.ofInt (99)) = 99 := ofI (by decide)
            refine g_istore_n (i := 3) C dMo_readPrices_37 rfl (by decide) ?_
            refine g_aload_n C dMo_readPrices_38 rfl ?_
            refine gt_getS C dMo_readPrices_39 fl_Mo_172 h0 hFo ?_
            refine g_geti C dMo_readPrices_42 fl_Mo_188 hFk ?_
            have o_42 := hVw24.1.2 F hFk.1 7
            rw [hFk.2] at o_42
            have o_42 : 0 ≤ (Iw24 F 7).toInt ∧ (Iw24 F 7).toInt ≤ 6 := o_42
            refine g_bipush (v := Int32.ofInt (6)) C dMo_readPrices_45 (by decide) ?_
            refine gt_icmp_ne 56 C dMo_readPrices_47 (by decide) rfl (ofI (by decide)) (fun c_47 => ?_) (fun c_47 => ?_)
            · skip
              refine g_aload_n C dMo_readPrices_56 rfl ?_
              refine g_geti C dMo_readPrices_57 fl_Mo_94 h0 ?_
              refine g_iconst (v := Int32.ofInt (5)) C dMo_readPrices_60 (by decide) ?_
              refine gt_icmp_ne 65 C dMo_readPrices_61 (by decide) rfl (ofI (by decide)) (fun c_61 => ?_) (fun c_61 => ?_)
              · skip
                exfalso; omega
              · skip
                exact s_vret C E dMo_readPrices_64 ⟨Nat.zero_le _, Nat.zero_le _⟩ hVw24 (by (try dsimp only); omega)
            · skip
              refine g_aload_n C dMo_readPrices_50 rfl ?_
              refine g_iconst (v := Int32.ofInt (5)) C dMo_readPrices_51 (by decide) ?_
              refine g_iload_n C dMo_readPrices_52 rfl ?_
              refine s_callV_v (av := fun ad => [.int (Int32.ofInt (5)), .int (Iw23 a0 10)]) C dMo_readPrices_53 mfMo_wrongHere mvMo_wrongHere ln_Mo_124 h0 (by decide) rfl hVw24 (frL_le (by decide)) (cMo_wrongHere_O hVw24.1 h0 (by have hk1 : Int32.toInt (Int32.ofInt (5)) = 5 := ofI (by decide); omega)) rfl rfl (Nat.le_of_ble_eq_true rfl) ⟨Nat.le_of_ble_eq_true rfl, Nat.le_of_ble_eq_true rfl⟩ ⟨rfl, rfl⟩ ⟨Nat.zero_le _, Nat.zero_le _⟩ (fun Iw25 Jw25 hVw25 hFw25 p_53 => ?_)
              have tkw25_F_0 : (Iw25 F 0).toInt = (Iw24 F 0).toInt := by rw [(hFw25 F (by rw [hFk.2]; rfl)).1 0]
              have tkw25_F_4 : (Iw25 F 4).toInt = (Iw24 F 4).toInt := by rw [(hFw25 F (by rw [hFk.2]; rfl)).1 4]
              have tkw25_F_7 : (Iw25 F 7).toInt = (Iw24 F 7).toInt := by rw [(hFw25 F (by rw [hFk.2]; rfl)).1 7]
              have tkw25_F_8 : (Iw25 F 8).toInt = (Iw24 F 8).toInt := by rw [(hFw25 F (by rw [hFk.2]; rfl)).1 8]
              have tkw25_F_9 : (Iw25 F 9).toInt = (Iw24 F 9).toInt := by rw [(hFw25 F (by rw [hFk.2]; rfl)).1 9]
              have tkw25_F_10 : (Iw25 F 10).toInt = (Iw24 F 10).toInt := by rw [(hFw25 F (by rw [hFk.2]; rfl)).1 10]
              have tkw25_B_0 : (Iw25 B 0).toInt = (Iw24 B 0).toInt := by rw [(hFw25 B (by rw [hBk.2]; rfl)).1 0]
              have tkw25_B_4 : (Iw25 B 4).toInt = (Iw24 B 4).toInt := by rw [(hFw25 B (by rw [hBk.2]; rfl)).1 4]
              have tkw25_B_7 : (Iw25 B 7).toInt = (Iw24 B 7).toInt := by rw [(hFw25 B (by rw [hBk.2]; rfl)).1 7]
              try dsimp only at p_53
              have hk1_53 : Int32.toInt (Int32.ofInt (5)) = 5 := ofI (by decide)
              refine g_aload_n C dMo_readPrices_56 rfl ?_
              refine g_geti C dMo_readPrices_57 fl_Mo_94 h0 ?_
              refine g_iconst (v := Int32.ofInt (5)) C dMo_readPrices_60 (by decide) ?_
              refine gt_icmp_ne 65 C dMo_readPrices_61 (by decide) rfl (ofI (by decide)) (fun c_61 => ?_) (fun c_61 => ?_)
              · skip
                exfalso; omega
              · skip
                exact s_vret C E dMo_readPrices_64 ⟨Nat.zero_le _, Nat.zero_le _⟩ hVw25 (by (try dsimp only); omega)
        · skip
          refine g_iload_n C dMo_readPrices_21 rfl ?_
          refine gt_if_eq 112 C dMo_readPrices_22 (by decide) rfl (fun c_22 => ?_) (fun c_22 => ?_)
          · skip
            exact s_vret C E dMo_readPrices_112 ⟨Nat.zero_le _, Nat.zero_le _⟩ hVw23 (by (try dsimp only); omega)
          · skip
            refine g_aload_n C dMo_readPrices_25 rfl ?_
            refine g_geti C dMo_readPrices_26 fl_Mo_104 h0 ?_
            refine g_istore_n (i := 2) C dMo_readPrices_29 rfl (by decide) ?_
            refine g_aload_n C dMo_readPrices_30 rfl ?_
            refine g_iconst (v := Int32.ofInt (0)) C dMo_readPrices_31 (by decide) ?_
            refine g_bipush (v := Int32.ofInt (99)) C dMo_readPrices_32 (by decide) ?_
            refine s_callV_i (av := fun ad => [.int (Int32.ofInt (0)), .int (Int32.ofInt (99))]) C dMo_readPrices_34 mfMo_readWhole mvMo_readWhole ln_Mo_227 h0 (by decide) rfl hVw23 (frL_le (by decide)) (cMo_readWhole_N hVw23.1 h0 (by have hk1 : Int32.toInt (Int32.ofInt (0)) = 0 := ofI (by decide); have hk2 : Int32.toInt (Int32.ofInt (99)) = 99 := ofI (by decide); omega)) rfl rfl (Nat.le_of_ble_eq_true rfl) ⟨Nat.le_of_ble_eq_true rfl, Nat.le_of_ble_eq_true rfl⟩ ⟨rfl, rfl⟩ ⟨Nat.zero_le _, Nat.zero_le _⟩ (fun Iw26 Jw26 hVw26 hFw26 z_34 p_34 => ?_)
            have tkw26_F_0 : (Iw26 F 0).toInt = (Iw23 F 0).toInt := by rw [(hFw26 F (by rw [hFk.2]; rfl)).1 0]
            have tkw26_F_4 : (Iw26 F 4).toInt = (Iw23 F 4).toInt := by rw [(hFw26 F (by rw [hFk.2]; rfl)).1 4]
            have tkw26_F_7 : (Iw26 F 7).toInt = (Iw23 F 7).toInt := by rw [(hFw26 F (by rw [hFk.2]; rfl)).1 7]
            have tkw26_F_8 : (Iw26 F 8).toInt = (Iw23 F 8).toInt := by rw [(hFw26 F (by rw [hFk.2]; rfl)).1 8]
            have tkw26_F_9 : (Iw26 F 9).toInt = (Iw23 F 9).toInt := by rw [(hFw26 F (by rw [hFk.2]; rfl)).1 9]
            have tkw26_F_10 : (Iw26 F 10).toInt = (Iw23 F 10).toInt := by rw [(hFw26 F (by rw [hFk.2]; rfl)).1 10]
            have tkw26_B_0 : (Iw26 B 0).toInt = (Iw23 B 0).toInt := by rw [(hFw26 B (by rw [hBk.2]; rfl)).1 0]
            have tkw26_B_4 : (Iw26 B 4).toInt = (Iw23 B 4).toInt := by rw [(hFw26 B (by rw [hBk.2]; rfl)).1 4]
            have tkw26_B_7 : (Iw26 B 7).toInt = (Iw23 B 7).toInt := by rw [(hFw26 B (by rw [hBk.2]; rfl)).1 7]
            have rz_34 := rg z_34
            try dsimp only at p_34
            have hk1_34 : Int32.toInt (Int32.ofInt (0)) = 0 := ofI (by decide)
            have hk2_34 : Int32.toInt (Int32.ofInt (99)) = 99 := ofI (by decide)
            rcases p_34 with ⟨p_34 | p_34, pk_34⟩
            · skip
              refine g_istore_n (i := 3) C dMo_readPrices_37 rfl (by decide) ?_
              refine g_aload_n C dMo_readPrices_38 rfl ?_
              refine gt_getS C dMo_readPrices_39 fl_Mo_172 h0 hFo ?_
              refine g_geti C dMo_readPrices_42 fl_Mo_188 hFk ?_
              have o_42 := hVw26.1.2 F hFk.1 7
              rw [hFk.2] at o_42
              have o_42 : 0 ≤ (Iw26 F 7).toInt ∧ (Iw26 F 7).toInt ≤ 6 := o_42
              refine g_bipush (v := Int32.ofInt (6)) C dMo_readPrices_45 (by decide) ?_
              refine gt_icmp_ne 56 C dMo_readPrices_47 (by decide) rfl (ofI (by decide)) (fun c_47 => ?_) (fun c_47 => ?_)
              · skip
                refine g_aload_n C dMo_readPrices_56 rfl ?_
                refine g_geti C dMo_readPrices_57 fl_Mo_94 h0 ?_
                refine g_iconst (v := Int32.ofInt (5)) C dMo_readPrices_60 (by decide) ?_
                refine gt_icmp_ne 65 C dMo_readPrices_61 (by decide) rfl (ofI (by decide)) (fun c_61 => ?_) (fun c_61 => ?_)
                · skip
                  exfalso; omega
                · skip
                  exact s_vret C E dMo_readPrices_64 ⟨Nat.zero_le _, Nat.zero_le _⟩ hVw26 (by (try dsimp only); omega)
              · skip
                refine g_aload_n C dMo_readPrices_50 rfl ?_
                refine g_iconst (v := Int32.ofInt (5)) C dMo_readPrices_51 (by decide) ?_
                refine g_iload_n C dMo_readPrices_52 rfl ?_
                refine s_callV_v (av := fun ad => [.int (Int32.ofInt (5)), .int (Iw23 a0 10)]) C dMo_readPrices_53 mfMo_wrongHere mvMo_wrongHere ln_Mo_124 h0 (by decide) rfl hVw26 (frL_le (by decide)) (cMo_wrongHere_O hVw26.1 h0 (by have hk1 : Int32.toInt (Int32.ofInt (5)) = 5 := ofI (by decide); omega)) rfl rfl (Nat.le_of_ble_eq_true rfl) ⟨Nat.le_of_ble_eq_true rfl, Nat.le_of_ble_eq_true rfl⟩ ⟨rfl, rfl⟩ ⟨Nat.zero_le _, Nat.zero_le _⟩ (fun Iw27 Jw27 hVw27 hFw27 p_53 => ?_)
                have tkw27_F_0 : (Iw27 F 0).toInt = (Iw26 F 0).toInt := by rw [(hFw27 F (by rw [hFk.2]; rfl)).1 0]
                have tkw27_F_4 : (Iw27 F 4).toInt = (Iw26 F 4).toInt := by rw [(hFw27 F (by rw [hFk.2]; rfl)).1 4]
                have tkw27_F_7 : (Iw27 F 7).toInt = (Iw26 F 7).toInt := by rw [(hFw27 F (by rw [hFk.2]; rfl)).1 7]
                have tkw27_F_8 : (Iw27 F 8).toInt = (Iw26 F 8).toInt := by rw [(hFw27 F (by rw [hFk.2]; rfl)).1 8]
                have tkw27_F_9 : (Iw27 F 9).toInt = (Iw26 F 9).toInt := by rw [(hFw27 F (by rw [hFk.2]; rfl)).1 9]
                have tkw27_F_10 : (Iw27 F 10).toInt = (Iw26 F 10).toInt := by rw [(hFw27 F (by rw [hFk.2]; rfl)).1 10]
                have tkw27_B_0 : (Iw27 B 0).toInt = (Iw26 B 0).toInt := by rw [(hFw27 B (by rw [hBk.2]; rfl)).1 0]
                have tkw27_B_4 : (Iw27 B 4).toInt = (Iw26 B 4).toInt := by rw [(hFw27 B (by rw [hBk.2]; rfl)).1 4]
                have tkw27_B_7 : (Iw27 B 7).toInt = (Iw26 B 7).toInt := by rw [(hFw27 B (by rw [hBk.2]; rfl)).1 7]
                try dsimp only at p_53
                have hk1_53 : Int32.toInt (Int32.ofInt (5)) = 5 := ofI (by decide)
                refine g_aload_n C dMo_readPrices_56 rfl ?_
                refine g_geti C dMo_readPrices_57 fl_Mo_94 h0 ?_
                refine g_iconst (v := Int32.ofInt (5)) C dMo_readPrices_60 (by decide) ?_
                refine gt_icmp_ne 65 C dMo_readPrices_61 (by decide) rfl (ofI (by decide)) (fun c_61 => ?_) (fun c_61 => ?_)
                · skip
                  exfalso; omega
                · skip
                  exact s_vret C E dMo_readPrices_64 ⟨Nat.zero_le _, Nat.zero_le _⟩ hVw27 (by (try dsimp only); omega)
            · skip
              refine g_istore_n (i := 3) C dMo_readPrices_37 rfl (by decide) ?_
              refine g_aload_n C dMo_readPrices_38 rfl ?_
              refine gt_getS C dMo_readPrices_39 fl_Mo_172 h0 hFo ?_
              refine g_geti C dMo_readPrices_42 fl_Mo_188 hFk ?_
              have o_42 := hVw26.1.2 F hFk.1 7
              rw [hFk.2] at o_42
              have o_42 : 0 ≤ (Iw26 F 7).toInt ∧ (Iw26 F 7).toInt ≤ 6 := o_42
              refine g_bipush (v := Int32.ofInt (6)) C dMo_readPrices_45 (by decide) ?_
              refine gt_icmp_ne 56 C dMo_readPrices_47 (by decide) rfl (ofI (by decide)) (fun c_47 => ?_) (fun c_47 => ?_)
              · skip
                refine g_aload_n C dMo_readPrices_56 rfl ?_
                refine g_geti C dMo_readPrices_57 fl_Mo_94 h0 ?_
                refine g_iconst (v := Int32.ofInt (5)) C dMo_readPrices_60 (by decide) ?_
                refine gt_icmp_ne 65 C dMo_readPrices_61 (by decide) rfl (ofI (by decide)) (fun c_61 => ?_) (fun c_61 => ?_)
                · skip
                  refine g_aload_n C dMo_readPrices_65 rfl ?_
                  refine gt_getS C dMo_readPrices_66 fl_Mo_172 h0 hFo ?_
                  refine gt_getr C dMo_readPrices_69 fl_Mo_254 hFk hVw26.1.1 rfl (fun b_69 q_69 hb_69 => ?_)
                  refine g_aload_n C dMo_readPrices_72 rfl ?_
                  refine gt_getS C dMo_readPrices_73 fl_Mo_172 h0 hFo ?_
                  refine g_geti C dMo_readPrices_76 fl_Mo_188 hFk ?_
                  have o_76 := hVw26.1.2 F hFk.1 7
                  rw [hFk.2] at o_76
                  have o_76 : 0 ≤ (Iw26 F 7).toInt ∧ (Iw26 F 7).toInt ≤ 6 := o_76
                  refine g_iload_n C dMo_readPrices_79 rfl ?_
                  refine gt_iast C dMo_readPrices_80 hb_69 (by decide) rfl rfl (n := 6) rfl (by omega) hVw26 rfl trivial (fun Iw28 eIw28 hVw28 => ?_)
                  have tkw28_a0_8 : (Iw28 a0 8).toInt = (Iw26 a0 8).toInt := by rw [eIw28, up2_ne _ _ (fun z => by have q := h0.2; rw [z.1, hb_69.2] at q; exact absurd q (by decide))]
                  have tkw28_a0_9 : (Iw28 a0 9).toInt = (Iw26 a0 9).toInt := by rw [eIw28, up2_ne _ _ (fun z => by have q := h0.2; rw [z.1, hb_69.2] at q; exact absurd q (by decide))]
                  have tkw28_a0_13 : (Iw28 a0 13).toInt = (Iw26 a0 13).toInt := by rw [eIw28, up2_ne _ _ (fun z => by have q := h0.2; rw [z.1, hb_69.2] at q; exact absurd q (by decide))]
                  have tkw28_F_0 : (Iw28 F 0).toInt = (Iw26 F 0).toInt := by rw [eIw28, up2_ne _ _ (fun z => by have q := hFk.2; rw [z.1, hb_69.2] at q; exact absurd q (by decide))]
                  have tkw28_F_4 : (Iw28 F 4).toInt = (Iw26 F 4).toInt := by rw [eIw28, up2_ne _ _ (fun z => by have q := hFk.2; rw [z.1, hb_69.2] at q; exact absurd q (by decide))]
                  have tkw28_F_7 : (Iw28 F 7).toInt = (Iw26 F 7).toInt := by rw [eIw28, up2_ne _ _ (fun z => by have q := hFk.2; rw [z.1, hb_69.2] at q; exact absurd q (by decide))]
                  have tkw28_F_8 : (Iw28 F 8).toInt = (Iw26 F 8).toInt := by rw [eIw28, up2_ne _ _ (fun z => by have q := hFk.2; rw [z.1, hb_69.2] at q; exact absurd q (by decide))]
                  have tkw28_F_9 : (Iw28 F 9).toInt = (Iw26 F 9).toInt := by rw [eIw28, up2_ne _ _ (fun z => by have q := hFk.2; rw [z.1, hb_69.2] at q; exact absurd q (by decide))]
                  have tkw28_F_10 : (Iw28 F 10).toInt = (Iw26 F 10).toInt := by rw [eIw28, up2_ne _ _ (fun z => by have q := hFk.2; rw [z.1, hb_69.2] at q; exact absurd q (by decide))]
                  have tkw28_a0_6 : (Iw28 a0 6).toInt = (Iw26 a0 6).toInt := by rw [eIw28, up2_ne _ _ (fun z => by have q := h0.2; rw [z.1, hb_69.2] at q; exact absurd q (by decide))]
                  have tkw28_a0_7 : (Iw28 a0 7).toInt = (Iw26 a0 7).toInt := by rw [eIw28, up2_ne _ _ (fun z => by have q := h0.2; rw [z.1, hb_69.2] at q; exact absurd q (by decide))]
                  have tkw28_a0_18 : (Iw28 a0 18).toInt = (Iw26 a0 18).toInt := by rw [eIw28, up2_ne _ _ (fun z => by have q := h0.2; rw [z.1, hb_69.2] at q; exact absurd q (by decide))]
                  have tkw28_B_0 : (Iw28 B 0).toInt = (Iw26 B 0).toInt := by rw [eIw28, up2_ne _ _ (fun z => by have q := hBk.2; rw [z.1, hb_69.2] at q; exact absurd q (by decide))]
                  have tkw28_B_4 : (Iw28 B 4).toInt = (Iw26 B 4).toInt := by rw [eIw28, up2_ne _ _ (fun z => by have q := hBk.2; rw [z.1, hb_69.2] at q; exact absurd q (by decide))]
                  have tkw28_B_7 : (Iw28 B 7).toInt = (Iw26 B 7).toInt := by rw [eIw28, up2_ne _ _ (fun z => by have q := hBk.2; rw [z.1, hb_69.2] at q; exact absurd q (by decide))]
                  refine g_aload_n C dMo_readPrices_81 rfl ?_
                  refine gt_getS C dMo_readPrices_82 fl_Mo_172 h0 hFo ?_
                  refine g_dup C dMo_readPrices_85 rfl ?_
                  refine g_geti C dMo_readPrices_86 fl_Mo_188 hFk ?_
                  have o_86 := hVw28.1.2 F hFk.1 7
                  rw [hFk.2] at o_86
                  have o_86 : 0 ≤ (Iw28 F 7).toInt ∧ (Iw28 F 7).toInt ≤ 6 := o_86
                  refine g_iconst (v := Int32.ofInt (1)) C dMo_readPrices_89 (by decide) ?_
                  first | refine n_iadd C dMo_readPrices_90 rfl (ofI (by decide)) (by omega) (fun z_90 e_90 => ?_) | refine a_iadd C dMo_readPrices_90 (fun z_90 => ?_)
                  refine gt_puti C dMo_readPrices_91 fl_Mo_188 hFk hVw28 rfl (by show 0 ≤ Int32.toInt _ ∧ Int32.toInt _ ≤ 6; omega) rfl (Or.inl rfl) (fun Iw29 eIw29 hVw29 => ?_)
                  have tkw29_a0_8 : (Iw29 a0 8).toInt = (Iw28 a0 8).toInt := by rw [eIw29, up2_ne _ _ (fun z => by have q := h0.2; rw [z.1, hFk.2] at q; exact absurd q (by decide))]
                  have tkw29_a0_9 : (Iw29 a0 9).toInt = (Iw28 a0 9).toInt := by rw [eIw29, up2_ne _ _ (fun z => by have q := h0.2; rw [z.1, hFk.2] at q; exact absurd q (by decide))]
                  have tkw29_a0_13 : (Iw29 a0 13).toInt = (Iw28 a0 13).toInt := by rw [eIw29, up2_ne _ _ (fun z => by have q := h0.2; rw [z.1, hFk.2] at q; exact absurd q (by decide))]
                  have tkw29_F_0 : (Iw29 F 0).toInt = (Iw28 F 0).toInt := by rw [eIw29, up2_ne _ _ (fun z => absurd z.2 (by decide))]
                  have tkw29_F_4 : (Iw29 F 4).toInt = (Iw28 F 4).toInt := by rw [eIw29, up2_ne _ _ (fun z => absurd z.2 (by decide))]
                  have tkw29_F_7 : (Iw29 F 7).toInt = z_90.toInt := by rw [eIw29, up2_self]
                  have tkw29_F_8 : (Iw29 F 8).toInt = (Iw28 F 8).toInt := by rw [eIw29, up2_ne _ _ (fun z => absurd z.2 (by decide))]
                  have tkw29_F_9 : (Iw29 F 9).toInt = (Iw28 F 9).toInt := by rw [eIw29, up2_ne _ _ (fun z => absurd z.2 (by decide))]
                  have tkw29_F_10 : (Iw29 F 10).toInt = (Iw28 F 10).toInt := by rw [eIw29, up2_ne _ _ (fun z => absurd z.2 (by decide))]
                  have tkw29_a0_6 : (Iw29 a0 6).toInt = (Iw28 a0 6).toInt := by rw [eIw29, up2_ne _ _ (fun z => by have q := h0.2; rw [z.1, hFk.2] at q; exact absurd q (by decide))]
                  have tkw29_a0_7 : (Iw29 a0 7).toInt = (Iw28 a0 7).toInt := by rw [eIw29, up2_ne _ _ (fun z => by have q := h0.2; rw [z.1, hFk.2] at q; exact absurd q (by decide))]
                  have tkw29_a0_18 : (Iw29 a0 18).toInt = (Iw28 a0 18).toInt := by rw [eIw29, up2_ne _ _ (fun z => by have q := h0.2; rw [z.1, hFk.2] at q; exact absurd q (by decide))]
                  have tkw29_B_0 : (Iw29 B 0).toInt = (Iw28 B 0).toInt := by rw [eIw29, up2_ne _ _ (fun z => absurd z.2 (by decide))]
                  have tkw29_B_4 : (Iw29 B 4).toInt = (Iw28 B 4).toInt := by rw [eIw29, up2_ne _ _ (fun z => absurd z.2 (by decide))]
                  have tkw29_B_7 : (Iw29 B 7).toInt = (Iw28 B 7).toInt := by rw [eIw29, up2_ne _ _ (fun z => hBF z.1)]
                  refine g_aload_n C dMo_readPrices_94 rfl ?_
                  refine g_bipush (v := Int32.ofInt (44)) C dMo_readPrices_95 (by decide) ?_
                  refine s_callV_zp (av := fun ad => [.int (Int32.ofInt (44))]) C dMo_readPrices_97 mfMo_is mvMo_is ln_Mo_169 h0 (by decide) rfl (cMo_is hVw29.1 h0 (by have hk1 : Int32.toInt (Int32.ofInt (44)) = 44 := ofI (by decide); omega)) rfl rfl (Nat.le_of_ble_eq_true rfl) ⟨Nat.le_of_ble_eq_true rfl, Nat.le_of_ble_eq_true rfl⟩ ⟨rfl, rfl⟩ ⟨Nat.zero_le _, Nat.zero_le _⟩ (fun z_97 b_97 p_97 => ?_)
                  have rz_97 := rg z_97
                  have u_97 := b_97
                  unfold B01 at u_97
                  try dsimp only at p_97
                  have hk1_97 : Int32.toInt (Int32.ofInt (44)) = 44 := ofI (by decide)
                  refine g_istore_n (i := 1) C dMo_readPrices_100 rfl (by decide) ?_
                  refine g_iload_n C dMo_readPrices_101 rfl ?_
                  refine gt_if_eq 109 C dMo_readPrices_102 (by decide) rfl (fun c_102 => ?_) (fun c_102 => ?_)
                  · skip
                    refine g_goto 21 C dMo_readPrices_109 (by decide) ?_
                    exact g_sub (ih_21 _ (by omega) z_97 Iw29 Jw26 rfl (by omega) (by omega) (by omega) (by omega) (by omega) (by omega) (by omega) (by omega) (by omega) (by omega) (by omega) (by omega) hVw29) ⟨rfl, rfl, trivial⟩
                  · skip
                    refine g_aload_n C dMo_readPrices_105 rfl ?_
                    refine s_callV_v (av := fun ad => []) C dMo_readPrices_106 mfMo_next mvMo_next ln_Mo_146 h0 (by decide) rfl hVw29 (frL_le (by decide)) (cMo_next_N hVw29.1 h0 (by omega)) rfl rfl (Nat.le_of_ble_eq_true rfl) ⟨Nat.le_of_ble_eq_true rfl, Nat.le_of_ble_eq_true rfl⟩ ⟨rfl, rfl⟩ ⟨Nat.zero_le _, Nat.zero_le _⟩ (fun Iw31 Jw31 hVw31 hFw31 p_106 => ?_)
                    have tkw31_F_0 : (Iw31 F 0).toInt = (Iw29 F 0).toInt := by rw [(hFw31 F (by rw [hFk.2]; rfl)).1 0]
                    have tkw31_F_4 : (Iw31 F 4).toInt = (Iw29 F 4).toInt := by rw [(hFw31 F (by rw [hFk.2]; rfl)).1 4]
                    have tkw31_F_7 : (Iw31 F 7).toInt = (Iw29 F 7).toInt := by rw [(hFw31 F (by rw [hFk.2]; rfl)).1 7]
                    have tkw31_F_8 : (Iw31 F 8).toInt = (Iw29 F 8).toInt := by rw [(hFw31 F (by rw [hFk.2]; rfl)).1 8]
                    have tkw31_F_9 : (Iw31 F 9).toInt = (Iw29 F 9).toInt := by rw [(hFw31 F (by rw [hFk.2]; rfl)).1 9]
                    have tkw31_F_10 : (Iw31 F 10).toInt = (Iw29 F 10).toInt := by rw [(hFw31 F (by rw [hFk.2]; rfl)).1 10]
                    have tkw31_B_0 : (Iw31 B 0).toInt = (Iw29 B 0).toInt := by rw [(hFw31 B (by rw [hBk.2]; rfl)).1 0]
                    have tkw31_B_4 : (Iw31 B 4).toInt = (Iw29 B 4).toInt := by rw [(hFw31 B (by rw [hBk.2]; rfl)).1 4]
                    have tkw31_B_7 : (Iw31 B 7).toInt = (Iw29 B 7).toInt := by rw [(hFw31 B (by rw [hBk.2]; rfl)).1 7]
                    try dsimp only at p_106
                    refine g_goto 21 C dMo_readPrices_109 (by decide) ?_
                    exact g_sub (ih_21 _ (by omega) z_97 Iw31 Jw31 rfl (by omega) (by omega) (by omega) (by omega) (by omega) (by omega) (by omega) (by omega) (by omega) (by omega) (by omega) (by omega) hVw31) ⟨rfl, rfl, trivial⟩
                · skip
                  exfalso; omega
              · skip
                refine g_aload_n C dMo_readPrices_50 rfl ?_
                refine g_iconst (v := Int32.ofInt (5)) C dMo_readPrices_51 (by decide) ?_
                refine g_iload_n C dMo_readPrices_52 rfl ?_
                refine s_callV_v (av := fun ad => [.int (Int32.ofInt (5)), .int (Iw23 a0 10)]) C dMo_readPrices_53 mfMo_wrongHere mvMo_wrongHere ln_Mo_124 h0 (by decide) rfl hVw26 (frL_le (by decide)) (cMo_wrongHere_N hVw26.1 h0 (by have hk1 : Int32.toInt (Int32.ofInt (5)) = 5 := ofI (by decide); omega) (by have hk1 : Int32.toInt (Int32.ofInt (5)) = 5 := ofI (by decide); omega)) rfl rfl (Nat.le_of_ble_eq_true rfl) ⟨Nat.le_of_ble_eq_true rfl, Nat.le_of_ble_eq_true rfl⟩ ⟨rfl, rfl⟩ ⟨Nat.zero_le _, Nat.zero_le _⟩ (fun Iw32 Jw32 hVw32 hFw32 p_53 => ?_)
                have tkw32_F_0 : (Iw32 F 0).toInt = (Iw26 F 0).toInt := by rw [(hFw32 F (by rw [hFk.2]; rfl)).1 0]
                have tkw32_F_4 : (Iw32 F 4).toInt = (Iw26 F 4).toInt := by rw [(hFw32 F (by rw [hFk.2]; rfl)).1 4]
                have tkw32_F_7 : (Iw32 F 7).toInt = (Iw26 F 7).toInt := by rw [(hFw32 F (by rw [hFk.2]; rfl)).1 7]
                have tkw32_F_8 : (Iw32 F 8).toInt = (Iw26 F 8).toInt := by rw [(hFw32 F (by rw [hFk.2]; rfl)).1 8]
                have tkw32_F_9 : (Iw32 F 9).toInt = (Iw26 F 9).toInt := by rw [(hFw32 F (by rw [hFk.2]; rfl)).1 9]
                have tkw32_F_10 : (Iw32 F 10).toInt = (Iw26 F 10).toInt := by rw [(hFw32 F (by rw [hFk.2]; rfl)).1 10]
                have tkw32_B_0 : (Iw32 B 0).toInt = (Iw26 B 0).toInt := by rw [(hFw32 B (by rw [hBk.2]; rfl)).1 0]
                have tkw32_B_4 : (Iw32 B 4).toInt = (Iw26 B 4).toInt := by rw [(hFw32 B (by rw [hBk.2]; rfl)).1 4]
                have tkw32_B_7 : (Iw32 B 7).toInt = (Iw26 B 7).toInt := by rw [(hFw32 B (by rw [hBk.2]; rfl)).1 7]
                try dsimp only at p_53
                have hk1_53 : Int32.toInt (Int32.ofInt (5)) = 5 := ofI (by decide)
                refine g_aload_n C dMo_readPrices_56 rfl ?_
                refine g_geti C dMo_readPrices_57 fl_Mo_94 h0 ?_
                refine g_iconst (v := Int32.ofInt (5)) C dMo_readPrices_60 (by decide) ?_
                refine gt_icmp_ne 65 C dMo_readPrices_61 (by decide) rfl (ofI (by decide)) (fun c_61 => ?_) (fun c_61 => ?_)
                · skip
                  exfalso; omega
                · skip
                  exact s_vret C E dMo_readPrices_64 ⟨Nat.zero_le _, Nat.zero_le _⟩ hVw32 (by (try dsimp only); omega)
      exact g_sub (lp_21 _ (Int32.ofInt (1)) Iw22 Jw22 rfl (by omega) (by omega) (by omega) (by omega) (by omega) (by omega) (by omega) (by omega) (by omega) (by omega) (by omega) (by omega) hVw22) ⟨rfl, rfl, trivial⟩
    · skip
      refine g_iconst (v := Int32.ofInt (1)) C dMo_readPrices_19 (by decide) ?_
      refine g_istore_n (i := 1) C dMo_readPrices_20 rfl (by decide) ?_
      have lp_21 : ∀ (nn_21 : Nat) (x1_21 : Int32) (Iw33 : Nat → Nat → Int32) (Jw33 : Nat → Nat → Int64), Int.toNat (7 - Int32.toInt (Iw33 F 7)) = nn_21 → ((Int32.toInt (Iw33 a0 9) = 5 ∧ 1 ≤ Int32.toInt (Iw33 a0 13) ∧ Int32.toInt (I0 a0 8) ≤ Int32.toInt (Iw33 a0 8)) ∨ (0 ≤ Int32.toInt (Iw33 a0 9) ∧ Int32.toInt (Iw33 a0 9) ≤ 4 ∧ Int32.toInt (Iw33 a0 13) = 0 ∧ Int32.toInt (I0 a0 8) ≤ Int32.toInt (Iw33 a0 8) ∧ Int32.toInt (I0 a0 8) + Int32.toInt (Iw33 a0 9) ≤ Int32.toInt (Iw33 a0 8) + 3)) → (Int32.toInt (Iw33 a0 6) = Int32.toInt (I0 a0 6)) → (Int32.toInt (Iw33 a0 7) = Int32.toInt (I0 a0 7)) → (Int32.toInt (Iw33 a0 18) = Int32.toInt (I0 a0 18)) → (Int32.toInt (Iw33 B 0) = Int32.toInt (I0 B 0)) → (Int32.toInt (Iw33 B 4) = Int32.toInt (I0 B 4)) → (Int32.toInt (Iw33 B 7) = Int32.toInt (I0 B 7)) → (Int32.toInt (Iw33 F 0) = Int32.toInt (I0 F 0)) → (Int32.toInt (Iw33 F 4) = Int32.toInt (I0 F 4)) → (Int32.toInt (Iw33 F 8) = Int32.toInt (I0 F 8)) → (Int32.toInt (Iw33 F 9) = Int32.toInt (I0 F 9)) → (Int32.toInt (Iw33 F 10) = Int32.toInt (I0 F 10)) → SV frQ P K O I0 J0 Iw33 Jw33 → GG X 4 P K Iw33 O Jw33 0 0 21 [(0, .ref a0), (1, .int x1_21)] [] := by
        intro nn_21
        induction nn_21 using Nat.strongRecOn with
        | ind nn_21 ih_21 =>
        intro x1_21 Iw33 Jw33 hn_21 iv0_21 iv1_21 iv2_21 iv3_21 iv4_21 iv5_21 iv6_21 iv7_21 iv8_21 iv9_21 iv10_21 iv11_21 hVw33
        have rg1_21 := rg x1_21
        rcases iv0_21 with iv0_21 | iv0_21
        · skip
          refine g_iload_n C dMo_readPrices_21 rfl ?_
          refine gt_if_eq 112 C dMo_readPrices_22 (by decide) rfl (fun c_22 => ?_) (fun c_22 => ?_)
          · skip
            exact s_vret C E dMo_readPrices_112 ⟨Nat.zero_le _, Nat.zero_le _⟩ hVw33 (by (try dsimp only); omega)
          · skip
            refine g_aload_n C dMo_readPrices_25 rfl ?_
            refine g_geti C dMo_readPrices_26 fl_Mo_104 h0 ?_
            refine g_istore_n (i := 2) C dMo_readPrices_29 rfl (by decide) ?_
            refine g_aload_n C dMo_readPrices_30 rfl ?_
            refine g_iconst (v := Int32.ofInt (0)) C dMo_readPrices_31 (by decide) ?_
            refine g_bipush (v := Int32.ofInt (99)) C dMo_readPrices_32 (by decide) ?_
            refine s_callV_i (av := fun ad => [.int (Int32.ofInt (0)), .int (Int32.ofInt (99))]) C dMo_readPrices_34 mfMo_readWhole mvMo_readWhole ln_Mo_227 h0 (by decide) rfl hVw33 (frL_le (by decide)) (cMo_readWhole_O hVw33.1 h0 (by have hk1 : Int32.toInt (Int32.ofInt (0)) = 0 := ofI (by decide); have hk2 : Int32.toInt (Int32.ofInt (99)) = 99 := ofI (by decide); omega)) rfl rfl (Nat.le_of_ble_eq_true rfl) ⟨Nat.le_of_ble_eq_true rfl, Nat.le_of_ble_eq_true rfl⟩ ⟨rfl, rfl⟩ ⟨Nat.zero_le _, Nat.zero_le _⟩ (fun Iw34 Jw34 hVw34 hFw34 z_34 p_34 => ?_)
            have tkw34_F_0 : (Iw34 F 0).toInt = (Iw33 F 0).toInt := by rw [(hFw34 F (by rw [hFk.2]; rfl)).1 0]
            have tkw34_F_4 : (Iw34 F 4).toInt = (Iw33 F 4).toInt := by rw [(hFw34 F (by rw [hFk.2]; rfl)).1 4]
            have tkw34_F_7 : (Iw34 F 7).toInt = (Iw33 F 7).toInt := by rw [(hFw34 F (by rw [hFk.2]; rfl)).1 7]
            have tkw34_F_8 : (Iw34 F 8).toInt = (Iw33 F 8).toInt := by rw [(hFw34 F (by rw [hFk.2]; rfl)).1 8]
            have tkw34_F_9 : (Iw34 F 9).toInt = (Iw33 F 9).toInt := by rw [(hFw34 F (by rw [hFk.2]; rfl)).1 9]
            have tkw34_F_10 : (Iw34 F 10).toInt = (Iw33 F 10).toInt := by rw [(hFw34 F (by rw [hFk.2]; rfl)).1 10]
            have tkw34_B_0 : (Iw34 B 0).toInt = (Iw33 B 0).toInt := by rw [(hFw34 B (by rw [hBk.2]; rfl)).1 0]
            have tkw34_B_4 : (Iw34 B 4).toInt = (Iw33 B 4).toInt := by rw [(hFw34 B (by rw [hBk.2]; rfl)).1 4]
            have tkw34_B_7 : (Iw34 B 7).toInt = (Iw33 B 7).toInt := by rw [(hFw34 B (by rw [hBk.2]; rfl)).1 7]
            have rz_34 := rg z_34
            try dsimp only at p_34
            have hk1_34 : Int32.toInt (Int32.ofInt (0)) = 0 := ofI (by decide)
            have hk2_34 : Int32.toInt (Int32.ofInt (99)) = 99 := ofI (by decide)
            refine g_istore_n (i := 3) C dMo_readPrices_37 rfl (by decide) ?_
            refine g_aload_n C dMo_readPrices_38 rfl ?_
            refine gt_getS C dMo_readPrices_39 fl_Mo_172 h0 hFo ?_
            refine g_geti C dMo_readPrices_42 fl_Mo_188 hFk ?_
            have o_42 := hVw34.1.2 F hFk.1 7
            rw [hFk.2] at o_42
            have o_42 : 0 ≤ (Iw34 F 7).toInt ∧ (Iw34 F 7).toInt ≤ 6 := o_42
            refine g_bipush (v := Int32.ofInt (6)) C dMo_readPrices_45 (by decide) ?_
            refine gt_icmp_ne 56 C dMo_readPrices_47 (by decide) rfl (ofI (by decide)) (fun c_47 => ?_) (fun c_47 => ?_)
            · skip
              refine g_aload_n C dMo_readPrices_56 rfl ?_
              refine g_geti C dMo_readPrices_57 fl_Mo_94 h0 ?_
              refine g_iconst (v := Int32.ofInt (5)) C dMo_readPrices_60 (by decide) ?_
              refine gt_icmp_ne 65 C dMo_readPrices_61 (by decide) rfl (ofI (by decide)) (fun c_61 => ?_) (fun c_61 => ?_)
              · skip
                exfalso; omega
              · skip
                exact s_vret C E dMo_readPrices_64 ⟨Nat.zero_le _, Nat.zero_le _⟩ hVw34 (by (try dsimp only); omega)
            · skip
              refine g_aload_n C dMo_readPrices_50 rfl ?_
              refine g_iconst (v := Int32.ofInt (5)) C dMo_readPrices_51 (by decide) ?_
              refine g_iload_n C dMo_readPrices_52 rfl ?_
              refine s_callV_v (av := fun ad => [.int (Int32.ofInt (5)), .int (Iw33 a0 10)]) C dMo_readPrices_53 mfMo_wrongHere mvMo_wrongHere ln_Mo_124 h0 (by decide) rfl hVw34 (frL_le (by decide)) (cMo_wrongHere_O hVw34.1 h0 (by have hk1 : Int32.toInt (Int32.ofInt (5)) = 5 := ofI (by decide); omega)) rfl rfl (Nat.le_of_ble_eq_true rfl) ⟨Nat.le_of_ble_eq_true rfl, Nat.le_of_ble_eq_true rfl⟩ ⟨rfl, rfl⟩ ⟨Nat.zero_le _, Nat.zero_le _⟩ (fun Iw35 Jw35 hVw35 hFw35 p_53 => ?_)
              have tkw35_F_0 : (Iw35 F 0).toInt = (Iw34 F 0).toInt := by rw [(hFw35 F (by rw [hFk.2]; rfl)).1 0]
              have tkw35_F_4 : (Iw35 F 4).toInt = (Iw34 F 4).toInt := by rw [(hFw35 F (by rw [hFk.2]; rfl)).1 4]
              have tkw35_F_7 : (Iw35 F 7).toInt = (Iw34 F 7).toInt := by rw [(hFw35 F (by rw [hFk.2]; rfl)).1 7]
              have tkw35_F_8 : (Iw35 F 8).toInt = (Iw34 F 8).toInt := by rw [(hFw35 F (by rw [hFk.2]; rfl)).1 8]
              have tkw35_F_9 : (Iw35 F 9).toInt = (Iw34 F 9).toInt := by rw [(hFw35 F (by rw [hFk.2]; rfl)).1 9]
              have tkw35_F_10 : (Iw35 F 10).toInt = (Iw34 F 10).toInt := by rw [(hFw35 F (by rw [hFk.2]; rfl)).1 10]
              have tkw35_B_0 : (Iw35 B 0).toInt = (Iw34 B 0).toInt := by rw [(hFw35 B (by rw [hBk.2]; rfl)).1 0]
              have tkw35_B_4 : (Iw35 B 4).toInt = (Iw34 B 4).toInt := by rw [(hFw35 B (by rw [hBk.2]; rfl)).1 4]
              have tkw35_B_7 : (Iw35 B 7).toInt = (Iw34 B 7).toInt := by rw [(hFw35 B (by rw [hBk.2]; rfl)).1 7]
              try dsimp only at p_53
              have hk1_53 : Int32.toInt (Int32.ofInt (5)) = 5 := ofI (by decide)
              refine g_aload_n C dMo_readPrices_56 rfl ?_
              refine g_geti C dMo_readPrices_57 fl_Mo_94 h0 ?_
              refine g_iconst (v := Int32.ofInt (5)) C dMo_readPrices_60 (by decide) ?_
              refine gt_icmp_ne 65 C dMo_readPrices_61 (by decide) rfl (ofI (by decide)) (fun c_61 => ?_) (fun c_61 => ?_)
              · skip
                exfalso; omega
              · skip
                exact s_vret C E dMo_readPrices_64 ⟨Nat.zero_le _, Nat.zero_le _⟩ hVw35 (by (try dsimp only); omega)
        · skip
          refine g_iload_n C dMo_readPrices_21 rfl ?_
          refine gt_if_eq 112 C dMo_readPrices_22 (by decide) rfl (fun c_22 => ?_) (fun c_22 => ?_)
          · skip
            exact s_vret C E dMo_readPrices_112 ⟨Nat.zero_le _, Nat.zero_le _⟩ hVw33 (by (try dsimp only); omega)
          · skip
            refine g_aload_n C dMo_readPrices_25 rfl ?_
            refine g_geti C dMo_readPrices_26 fl_Mo_104 h0 ?_
            refine g_istore_n (i := 2) C dMo_readPrices_29 rfl (by decide) ?_
            refine g_aload_n C dMo_readPrices_30 rfl ?_
            refine g_iconst (v := Int32.ofInt (0)) C dMo_readPrices_31 (by decide) ?_
            refine g_bipush (v := Int32.ofInt (99)) C dMo_readPrices_32 (by decide) ?_
            refine s_callV_i (av := fun ad => [.int (Int32.ofInt (0)), .int (Int32.ofInt (99))]) C dMo_readPrices_34 mfMo_readWhole mvMo_readWhole ln_Mo_227 h0 (by decide) rfl hVw33 (frL_le (by decide)) (cMo_readWhole_N hVw33.1 h0 (by have hk1 : Int32.toInt (Int32.ofInt (0)) = 0 := ofI (by decide); have hk2 : Int32.toInt (Int32.ofInt (99)) = 99 := ofI (by decide); omega)) rfl rfl (Nat.le_of_ble_eq_true rfl) ⟨Nat.le_of_ble_eq_true rfl, Nat.le_of_ble_eq_true rfl⟩ ⟨rfl, rfl⟩ ⟨Nat.zero_le _, Nat.zero_le _⟩ (fun Iw36 Jw36 hVw36 hFw36 z_34 p_34 => ?_)
            have tkw36_F_0 : (Iw36 F 0).toInt = (Iw33 F 0).toInt := by rw [(hFw36 F (by rw [hFk.2]; rfl)).1 0]
            have tkw36_F_4 : (Iw36 F 4).toInt = (Iw33 F 4).toInt := by rw [(hFw36 F (by rw [hFk.2]; rfl)).1 4]
            have tkw36_F_7 : (Iw36 F 7).toInt = (Iw33 F 7).toInt := by rw [(hFw36 F (by rw [hFk.2]; rfl)).1 7]
            have tkw36_F_8 : (Iw36 F 8).toInt = (Iw33 F 8).toInt := by rw [(hFw36 F (by rw [hFk.2]; rfl)).1 8]
            have tkw36_F_9 : (Iw36 F 9).toInt = (Iw33 F 9).toInt := by rw [(hFw36 F (by rw [hFk.2]; rfl)).1 9]
            have tkw36_F_10 : (Iw36 F 10).toInt = (Iw33 F 10).toInt := by rw [(hFw36 F (by rw [hFk.2]; rfl)).1 10]
            have tkw36_B_0 : (Iw36 B 0).toInt = (Iw33 B 0).toInt := by rw [(hFw36 B (by rw [hBk.2]; rfl)).1 0]
            have tkw36_B_4 : (Iw36 B 4).toInt = (Iw33 B 4).toInt := by rw [(hFw36 B (by rw [hBk.2]; rfl)).1 4]
            have tkw36_B_7 : (Iw36 B 7).toInt = (Iw33 B 7).toInt := by rw [(hFw36 B (by rw [hBk.2]; rfl)).1 7]
            have rz_34 := rg z_34
            try dsimp only at p_34
            have hk1_34 : Int32.toInt (Int32.ofInt (0)) = 0 := ofI (by decide)
            have hk2_34 : Int32.toInt (Int32.ofInt (99)) = 99 := ofI (by decide)
            rcases p_34 with ⟨p_34 | p_34, pk_34⟩
            · skip
              refine g_istore_n (i := 3) C dMo_readPrices_37 rfl (by decide) ?_
              refine g_aload_n C dMo_readPrices_38 rfl ?_
              refine gt_getS C dMo_readPrices_39 fl_Mo_172 h0 hFo ?_
              refine g_geti C dMo_readPrices_42 fl_Mo_188 hFk ?_
              have o_42 := hVw36.1.2 F hFk.1 7
              rw [hFk.2] at o_42
              have o_42 : 0 ≤ (Iw36 F 7).toInt ∧ (Iw36 F 7).toInt ≤ 6 := o_42
              refine g_bipush (v := Int32.ofInt (6)) C dMo_readPrices_45 (by decide) ?_
              refine gt_icmp_ne 56 C dMo_readPrices_47 (by decide) rfl (ofI (by decide)) (fun c_47 => ?_) (fun c_47 => ?_)
              · skip
                refine g_aload_n C dMo_readPrices_56 rfl ?_
                refine g_geti C dMo_readPrices_57 fl_Mo_94 h0 ?_
                refine g_iconst (v := Int32.ofInt (5)) C dMo_readPrices_60 (by decide) ?_
                refine gt_icmp_ne 65 C dMo_readPrices_61 (by decide) rfl (ofI (by decide)) (fun c_61 => ?_) (fun c_61 => ?_)
                · skip
                  exfalso; omega
                · skip
                  exact s_vret C E dMo_readPrices_64 ⟨Nat.zero_le _, Nat.zero_le _⟩ hVw36 (by (try dsimp only); omega)
              · skip
                refine g_aload_n C dMo_readPrices_50 rfl ?_
                refine g_iconst (v := Int32.ofInt (5)) C dMo_readPrices_51 (by decide) ?_
                refine g_iload_n C dMo_readPrices_52 rfl ?_
                refine s_callV_v (av := fun ad => [.int (Int32.ofInt (5)), .int (Iw33 a0 10)]) C dMo_readPrices_53 mfMo_wrongHere mvMo_wrongHere ln_Mo_124 h0 (by decide) rfl hVw36 (frL_le (by decide)) (cMo_wrongHere_O hVw36.1 h0 (by have hk1 : Int32.toInt (Int32.ofInt (5)) = 5 := ofI (by decide); omega)) rfl rfl (Nat.le_of_ble_eq_true rfl) ⟨Nat.le_of_ble_eq_true rfl, Nat.le_of_ble_eq_true rfl⟩ ⟨rfl, rfl⟩ ⟨Nat.zero_le _, Nat.zero_le _⟩ (fun Iw37 Jw37 hVw37 hFw37 p_53 => ?_)
                have tkw37_F_0 : (Iw37 F 0).toInt = (Iw36 F 0).toInt := by rw [(hFw37 F (by rw [hFk.2]; rfl)).1 0]
                have tkw37_F_4 : (Iw37 F 4).toInt = (Iw36 F 4).toInt := by rw [(hFw37 F (by rw [hFk.2]; rfl)).1 4]
                have tkw37_F_7 : (Iw37 F 7).toInt = (Iw36 F 7).toInt := by rw [(hFw37 F (by rw [hFk.2]; rfl)).1 7]
                have tkw37_F_8 : (Iw37 F 8).toInt = (Iw36 F 8).toInt := by rw [(hFw37 F (by rw [hFk.2]; rfl)).1 8]
                have tkw37_F_9 : (Iw37 F 9).toInt = (Iw36 F 9).toInt := by rw [(hFw37 F (by rw [hFk.2]; rfl)).1 9]
                have tkw37_F_10 : (Iw37 F 10).toInt = (Iw36 F 10).toInt := by rw [(hFw37 F (by rw [hFk.2]; rfl)).1 10]
                have tkw37_B_0 : (Iw37 B 0).toInt = (Iw36 B 0).toInt := by rw [(hFw37 B (by rw [hBk.2]; rfl)).1 0]
                have tkw37_B_4 : (Iw37 B 4).toInt = (Iw36 B 4).toInt := by rw [(hFw37 B (by rw [hBk.2]; rfl)).1 4]
                have tkw37_B_7 : (Iw37 B 7).toInt = (Iw36 B 7).toInt := by rw [(hFw37 B (by rw [hBk.2]; rfl)).1 7]
                try dsimp only at p_53
                have hk1_53 : Int32.toInt (Int32.ofInt (5)) = 5 := ofI (by decide)
                refine g_aload_n C dMo_readPrices_56 rfl ?_
                refine g_geti C dMo_readPrices_57 fl_Mo_94 h0 ?_
                refine g_iconst (v := Int32.ofInt (5)) C dMo_readPrices_60 (by decide) ?_
                refine gt_icmp_ne 65 C dMo_readPrices_61 (by decide) rfl (ofI (by decide)) (fun c_61 => ?_) (fun c_61 => ?_)
                · skip
                  exfalso; omega
                · skip
                  exact s_vret C E dMo_readPrices_64 ⟨Nat.zero_le _, Nat.zero_le _⟩ hVw37 (by (try dsimp only); omega)
            · skip
              refine g_istore_n (i := 3) C dMo_readPrices_37 rfl (by decide) ?_
              refine g_aload_n C dMo_readPrices_38 rfl ?_
              refine gt_getS C dMo_readPrices_39 fl_Mo_172 h0 hFo ?_
              refine g_geti C dMo_readPrices_42 fl_Mo_188 hFk ?_
              have o_42 := hVw36.1.2 F hFk.1 7
              rw [hFk.2] at o_42
              have o_42 : 0 ≤ (Iw36 F 7).toInt ∧ (Iw36 F 7).toInt ≤ 6 := o_42
              refine g_bipush (v := Int32.ofInt (6)) C dMo_readPrices_45 (by decide) ?_
              refine gt_icmp_ne 56 C dMo_readPrices_47 (by decide) rfl (ofI (by decide)) (fun c_47 => ?_) (fun c_47 => ?_)
              · skip
                refine g_aload_n C dMo_readPrices_56 rfl ?_
                refine g_geti C dMo_readPrices_57 fl_Mo_94 h0 ?_
                refine g_iconst (v := Int32.ofInt (5)) C dMo_readPrices_60 (by decide) ?_
                refine gt_icmp_ne 65 C dMo_readPrices_61 (by decide) rfl (ofI (by decide)) (fun c_61 => ?_) (fun c_61 => ?_)
                · skip
                  refine g_aload_n C dMo_readPrices_65 rfl ?_
                  refine gt_getS C dMo_readPrices_66 fl_Mo_172 h0 hFo ?_
                  refine gt_getr C dMo_readPrices_69 fl_Mo_254 hFk hVw36.1.1 rfl (fun b_69 q_69 hb_69 => ?_)
                  refine g_aload_n C dMo_readPrices_72 rfl ?_
                  refine gt_getS C dMo_readPrices_73 fl_Mo_172 h0 hFo ?_
                  refine g_geti C dMo_readPrices_76 fl_Mo_188 hFk ?_
                  have o_76 := hVw36.1.2 F hFk.1 7
                  rw [hFk.2] at o_76
                  have o_76 : 0 ≤ (Iw36 F 7).toInt ∧ (Iw36 F 7).toInt ≤ 6 := o_76
                  refine g_iload_n C dMo_readPrices_79 rfl ?_
                  refine gt_iast C dMo_readPrices_80 hb_69 (by decide) rfl rfl (n := 6) rfl (by omega) hVw36 rfl trivial (fun Iw38 eIw38 hVw38 => ?_)
                  have tkw38_a0_8 : (Iw38 a0 8).toInt = (Iw36 a0 8).toInt := by rw [eIw38, up2_ne _ _ (fun z => by have q := h0.2; rw [z.1, hb_69.2] at q; exact absurd q (by decide))]
                  have tkw38_a0_9 : (Iw38 a0 9).toInt = (Iw36 a0 9).toInt := by rw [eIw38, up2_ne _ _ (fun z => by have q := h0.2; rw [z.1, hb_69.2] at q; exact absurd q (by decide))]
                  have tkw38_a0_13 : (Iw38 a0 13).toInt = (Iw36 a0 13).toInt := by rw [eIw38, up2_ne _ _ (fun z => by have q := h0.2; rw [z.1, hb_69.2] at q; exact absurd q (by decide))]
                  have tkw38_F_0 : (Iw38 F 0).toInt = (Iw36 F 0).toInt := by rw [eIw38, up2_ne _ _ (fun z => by have q := hFk.2; rw [z.1, hb_69.2] at q; exact absurd q (by decide))]
                  have tkw38_F_4 : (Iw38 F 4).toInt = (Iw36 F 4).toInt := by rw [eIw38, up2_ne _ _ (fun z => by have q := hFk.2; rw [z.1, hb_69.2] at q; exact absurd q (by decide))]
                  have tkw38_F_7 : (Iw38 F 7).toInt = (Iw36 F 7).toInt := by rw [eIw38, up2_ne _ _ (fun z => by have q := hFk.2; rw [z.1, hb_69.2] at q; exact absurd q (by decide))]
                  have tkw38_F_8 : (Iw38 F 8).toInt = (Iw36 F 8).toInt := by rw [eIw38, up2_ne _ _ (fun z => by have q := hFk.2; rw [z.1, hb_69.2] at q; exact absurd q (by decide))]
                  have tkw38_F_9 : (Iw38 F 9).toInt = (Iw36 F 9).toInt := by rw [eIw38, up2_ne _ _ (fun z => by have q := hFk.2; rw [z.1, hb_69.2] at q; exact absurd q (by decide))]
                  have tkw38_F_10 : (Iw38 F 10).toInt = (Iw36 F 10).toInt := by rw [eIw38, up2_ne _ _ (fun z => by have q := hFk.2; rw [z.1, hb_69.2] at q; exact absurd q (by decide))]
                  have tkw38_a0_6 : (Iw38 a0 6).toInt = (Iw36 a0 6).toInt := by rw [eIw38, up2_ne _ _ (fun z => by have q := h0.2; rw [z.1, hb_69.2] at q; exact absurd q (by decide))]
                  have tkw38_a0_7 : (Iw38 a0 7).toInt = (Iw36 a0 7).toInt := by rw [eIw38, up2_ne _ _ (fun z => by have q := h0.2; rw [z.1, hb_69.2] at q; exact absurd q (by decide))]
                  have tkw38_a0_18 : (Iw38 a0 18).toInt = (Iw36 a0 18).toInt := by rw [eIw38, up2_ne _ _ (fun z => by have q := h0.2; rw [z.1, hb_69.2] at q; exact absurd q (by decide))]
                  have tkw38_B_0 : (Iw38 B 0).toInt = (Iw36 B 0).toInt := by rw [eIw38, up2_ne _ _ (fun z => by have q := hBk.2; rw [z.1, hb_69.2] at q; exact absurd q (by decide))]
                  have tkw38_B_4 : (Iw38 B 4).toInt = (Iw36 B 4).toInt := by rw [eIw38, up2_ne _ _ (fun z => by have q := hBk.2; rw [z.1, hb_69.2] at q; exact absurd q (by decide))]
                  have tkw38_B_7 : (Iw38 B 7).toInt = (Iw36 B 7).toInt := by rw [eIw38, up2_ne _ _ (fun z => by have q := hBk.2; rw [z.1, hb_69.2] at q; exact absurd q (by decide))]
                  refine g_aload_n C dMo_readPrices_81 rfl ?_
                  refine gt_getS C dMo_readPrices_82 fl_Mo_172 h0 hFo ?_
                  refine g_dup C dMo_readPrices_85 rfl ?_
                  refine g_geti C dMo_readPrices_86 fl_Mo_188 hFk ?_
                  have o_86 := hVw38.1.2 F hFk.1 7
                  rw [hFk.2] at o_86
                  have o_86 : 0 ≤ (Iw38 F 7).toInt ∧ (Iw38 F 7).toInt ≤ 6 := o_86
                  refine g_iconst (v := Int32.ofInt (1)) C dMo_readPrices_89 (by decide) ?_
                  first | refine n_iadd C dMo_readPrices_90 rfl (ofI (by decide)) (by omega) (fun z_90 e_90 => ?_) | refine a_iadd C dMo_readPrices_90 (fun z_90 => ?_)
                  refine gt_puti C dMo_readPrices_91 fl_Mo_188 hFk hVw38 rfl (by show 0 ≤ Int32.toInt _ ∧ Int32.toInt _ ≤ 6; omega) rfl (Or.inl rfl) (fun Iw39 eIw39 hVw39 => ?_)
                  have tkw39_a0_8 : (Iw39 a0 8).toInt = (Iw38 a0 8).toInt := by rw [eIw39, up2_ne _ _ (fun z => by have q := h0.2; rw [z.1, hFk.2] at q; exact absurd q (by decide))]
                  have tkw39_a0_9 : (Iw39 a0 9).toInt = (Iw38 a0 9).toInt := by rw [eIw39, up2_ne _ _ (fun z => by have q := h0.2; rw [z.1, hFk.2] at q; exact absurd q (by decide))]
                  have tkw39_a0_13 : (Iw39 a0 13).toInt = (Iw38 a0 13).toInt := by rw [eIw39, up2_ne _ _ (fun z => by have q := h0.2; rw [z.1, hFk.2] at q; exact absurd q (by decide))]
                  have tkw39_F_0 : (Iw39 F 0).toInt = (Iw38 F 0).toInt := by rw [eIw39, up2_ne _ _ (fun z => absurd z.2 (by decide))]
                  have tkw39_F_4 : (Iw39 F 4).toInt = (Iw38 F 4).toInt := by rw [eIw39, up2_ne _ _ (fun z => absurd z.2 (by decide))]
                  have tkw39_F_7 : (Iw39 F 7).toInt = z_90.toInt := by rw [eIw39, up2_self]
                  have tkw39_F_8 : (Iw39 F 8).toInt = (Iw38 F 8).toInt := by rw [eIw39, up2_ne _ _ (fun z => absurd z.2 (by decide))]
                  have tkw39_F_9 : (Iw39 F 9).toInt = (Iw38 F 9).toInt := by rw [eIw39, up2_ne _ _ (fun z => absurd z.2 (by decide))]
                  have tkw39_F_10 : (Iw39 F 10).toInt = (Iw38 F 10).toInt := by rw [eIw39, up2_ne _ _ (fun z => absurd z.2 (by decide))]
                  have tkw39_a0_6 : (Iw39 a0 6).toInt = (Iw38 a0 6).toInt := by rw [eIw39, up2_ne _ _ (fun z => by have q := h0.2; rw [z.1, hFk.2] at q; exact absurd q (by decide))]
                  have tkw39_a0_7 : (Iw39 a0 7).toInt = (Iw38 a0 7).toInt := by rw [eIw39, up2_ne _ _ (fun z => by have q := h0.2; rw [z.1, hFk.2] at q; exact absurd q (by decide))]
                  have tkw39_a0_18 : (Iw39 a0 18).toInt = (Iw38 a0 18).toInt := by rw [eIw39, up2_ne _ _ (fun z => by have q := h0.2; rw [z.1, hFk.2] at q; exact absurd q (by decide))]
                  have tkw39_B_0 : (Iw39 B 0).toInt = (Iw38 B 0).toInt := by rw [eIw39, up2_ne _ _ (fun z => absurd z.2 (by decide))]
                  have tkw39_B_4 : (Iw39 B 4).toInt = (Iw38 B 4).toInt := by rw [eIw39, up2_ne _ _ (fun z => absurd z.2 (by decide))]
                  have tkw39_B_7 : (Iw39 B 7).toInt = (Iw38 B 7).toInt := by rw [eIw39, up2_ne _ _ (fun z => hBF z.1)]
                  refine g_aload_n C dMo_readPrices_94 rfl ?_
                  refine g_bipush (v := Int32.ofInt (44)) C dMo_readPrices_95 (by decide) ?_
                  refine s_callV_zp (av := fun ad => [.int (Int32.ofInt (44))]) C dMo_readPrices_97 mfMo_is mvMo_is ln_Mo_169 h0 (by decide) rfl (cMo_is hVw39.1 h0 (by have hk1 : Int32.toInt (Int32.ofInt (44)) = 44 := ofI (by decide); omega)) rfl rfl (Nat.le_of_ble_eq_true rfl) ⟨Nat.le_of_ble_eq_true rfl, Nat.le_of_ble_eq_true rfl⟩ ⟨rfl, rfl⟩ ⟨Nat.zero_le _, Nat.zero_le _⟩ (fun z_97 b_97 p_97 => ?_)
                  have rz_97 := rg z_97
                  have u_97 := b_97
                  unfold B01 at u_97
                  try dsimp only at p_97
                  have hk1_97 : Int32.toInt (Int32.ofInt (44)) = 44 := ofI (by decide)
                  refine g_istore_n (i := 1) C dMo_readPrices_100 rfl (by decide) ?_
                  refine g_iload_n C dMo_readPrices_101 rfl ?_
                  refine gt_if_eq 109 C dMo_readPrices_102 (by decide) rfl (fun c_102 => ?_) (fun c_102 => ?_)
                  · skip
                    refine g_goto 21 C dMo_readPrices_109 (by decide) ?_
                    exact g_sub (ih_21 _ (by omega) z_97 Iw39 Jw36 rfl (by omega) (by omega) (by omega) (by omega) (by omega) (by omega) (by omega) (by omega) (by omega) (by omega) (by omega) (by omega) hVw39) ⟨rfl, rfl, trivial⟩
                  · skip
                    refine g_aload_n C dMo_readPrices_105 rfl ?_
                    refine s_callV_v (av := fun ad => []) C dMo_readPrices_106 mfMo_next mvMo_next ln_Mo_146 h0 (by decide) rfl hVw39 (frL_le (by decide)) (cMo_next_N hVw39.1 h0 (by omega)) rfl rfl (Nat.le_of_ble_eq_true rfl) ⟨Nat.le_of_ble_eq_true rfl, Nat.le_of_ble_eq_true rfl⟩ ⟨rfl, rfl⟩ ⟨Nat.zero_le _, Nat.zero_le _⟩ (fun Iw41 Jw41 hVw41 hFw41 p_106 => ?_)
                    have tkw41_F_0 : (Iw41 F 0).toInt = (Iw39 F 0).toInt := by rw [(hFw41 F (by rw [hFk.2]; rfl)).1 0]
                    have tkw41_F_4 : (Iw41 F 4).toInt = (Iw39 F 4).toInt := by rw [(hFw41 F (by rw [hFk.2]; rfl)).1 4]
                    have tkw41_F_7 : (Iw41 F 7).toInt = (Iw39 F 7).toInt := by rw [(hFw41 F (by rw [hFk.2]; rfl)).1 7]
                    have tkw41_F_8 : (Iw41 F 8).toInt = (Iw39 F 8).toInt := by rw [(hFw41 F (by rw [hFk.2]; rfl)).1 8]
                    have tkw41_F_9 : (Iw41 F 9).toInt = (Iw39 F 9).toInt := by rw [(hFw41 F (by rw [hFk.2]; rfl)).1 9]
                    have tkw41_F_10 : (Iw41 F 10).toInt = (Iw39 F 10).toInt := by rw [(hFw41 F (by rw [hFk.2]; rfl)).1 10]
                    have tkw41_B_0 : (Iw41 B 0).toInt = (Iw39 B 0).toInt := by rw [(hFw41 B (by rw [hBk.2]; rfl)).1 0]
                    have tkw41_B_4 : (Iw41 B 4).toInt = (Iw39 B 4).toInt := by rw [(hFw41 B (by rw [hBk.2]; rfl)).1 4]
                    have tkw41_B_7 : (Iw41 B 7).toInt = (Iw39 B 7).toInt := by rw [(hFw41 B (by rw [hBk.2]; rfl)).1 7]
                    try dsimp only at p_106
                    refine g_goto 21 C dMo_readPrices_109 (by decide) ?_
                    exact g_sub (ih_21 _ (by omega) z_97 Iw41 Jw41 rfl (by omega) (by omega) (by omega) (by omega) (by omega) (by omega) (by omega) (by omega) (by omega) (by omega) (by omega) (by omega) hVw41) ⟨rfl, rfl, trivial⟩
                · skip
                  exfalso; omega
              · skip
                refine g_aload_n C dMo_readPrices_50 rfl ?_
                refine g_iconst (v := Int32.ofInt (5)) C dMo_readPrices_51 (by decide) ?_
                refine g_iload_n C dMo_readPrices_52 rfl ?_
                refine s_callV_v (av := fun ad => [.int (Int32.ofInt (5)), .int (Iw33 a0 10)]) C dMo_readPrices_53 mfMo_wrongHere mvMo_wrongHere ln_Mo_124 h0 (by decide) rfl hVw36 (frL_le (by decide)) (cMo_wrongHere_N hVw36.1 h0 (by have hk1 : Int32.toInt (Int32.ofInt (5)) = 5 := ofI (by decide); omega) (by have hk1 : Int32.toInt (Int32.ofInt (5)) = 5 := ofI (by decide); omega)) rfl rfl (Nat.le_of_ble_eq_true rfl) ⟨Nat.le_of_ble_eq_true rfl, Nat.le_of_ble_eq_true rfl⟩ ⟨rfl, rfl⟩ ⟨Nat.zero_le _, Nat.zero_le _⟩ (fun Iw42 Jw42 hVw42 hFw42 p_53 => ?_)
                have tkw42_F_0 : (Iw42 F 0).toInt = (Iw36 F 0).toInt := by rw [(hFw42 F (by rw [hFk.2]; rfl)).1 0]
                have tkw42_F_4 : (Iw42 F 4).toInt = (Iw36 F 4).toInt := by rw [(hFw42 F (by rw [hFk.2]; rfl)).1 4]
                have tkw42_F_7 : (Iw42 F 7).toInt = (Iw36 F 7).toInt := by rw [(hFw42 F (by rw [hFk.2]; rfl)).1 7]
                have tkw42_F_8 : (Iw42 F 8).toInt = (Iw36 F 8).toInt := by rw [(hFw42 F (by rw [hFk.2]; rfl)).1 8]
                have tkw42_F_9 : (Iw42 F 9).toInt = (Iw36 F 9).toInt := by rw [(hFw42 F (by rw [hFk.2]; rfl)).1 9]
                have tkw42_F_10 : (Iw42 F 10).toInt = (Iw36 F 10).toInt := by rw [(hFw42 F (by rw [hFk.2]; rfl)).1 10]
                have tkw42_B_0 : (Iw42 B 0).toInt = (Iw36 B 0).toInt := by rw [(hFw42 B (by rw [hBk.2]; rfl)).1 0]
                have tkw42_B_4 : (Iw42 B 4).toInt = (Iw36 B 4).toInt := by rw [(hFw42 B (by rw [hBk.2]; rfl)).1 4]
                have tkw42_B_7 : (Iw42 B 7).toInt = (Iw36 B 7).toInt := by rw [(hFw42 B (by rw [hBk.2]; rfl)).1 7]
                try dsimp only at p_53
                have hk1_53 : Int32.toInt (Int32.ofInt (5)) = 5 := ofI (by decide)
                refine g_aload_n C dMo_readPrices_56 rfl ?_
                refine g_geti C dMo_readPrices_57 fl_Mo_94 h0 ?_
                refine g_iconst (v := Int32.ofInt (5)) C dMo_readPrices_60 (by decide) ?_
                refine gt_icmp_ne 65 C dMo_readPrices_61 (by decide) rfl (ofI (by decide)) (fun c_61 => ?_) (fun c_61 => ?_)
                · skip
                  exfalso; omega
                · skip
                  exact s_vret C E dMo_readPrices_64 ⟨Nat.zero_le _, Nat.zero_le _⟩ hVw42 (by (try dsimp only); omega)
      exact g_sub (lp_21 _ (Int32.ofInt (1)) Iw22 Jw22 rfl (by omega) (by omega) (by omega) (by omega) (by omega) (by omega) (by omega) (by omega) (by omega) (by omega) (by omega) (by omega) hVw22) ⟨rfl, rfl, trivial⟩
