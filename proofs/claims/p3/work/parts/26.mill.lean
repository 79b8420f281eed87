set_option maxHeartbeats 4000000 in
set_option maxRecDepth 100000 in
theorem cMo_readLine_N_F {P : List Nat} {K : Nat → Nat} {I0 : Nat → Nat → Int32} {O : Nat → Nat → Option Nat} {J0 : Nat → Nat → Int64} (hV : IV P K I0 O) {a0 : Nat} (h0 : a0 ∈ P ∧ K a0 = 10) {F B : Nat} (hFo : O a0 4 = some F) (hFk : F ∈ P ∧ K F = 9) (hBk : True ∧ K B = 9) (hBF : B ≠ F) (pr0 : 0 ≤ Int32.toInt (I0 a0 9) ∧ Int32.toInt (I0 a0 9) ≤ 4 ∧ Int32.toInt (I0 a0 13) = 0 ∧ (Int32.toInt (I0 F 0) = -1 ∨ 1 ≤ Int32.toInt (I0 F 0)) ∧ (Int32.toInt (I0 F 4) = -1 ∨ 1 ≤ Int32.toInt (I0 F 4)) ∧ Int32.toInt (I0 F 10) = Int32.toInt (I0 F 8) + Int32.toInt (I0 F 9) + 0) : Con yMo_readLine bMo_readLine 1 none ({ frames := 9, cells := 0, slots := 0, locals := 195 } : Room) P K I0 O J0 [.ref a0] (SPo frQ 0 (fun _ I_ => ((Int32.toInt (I_ a0 9) = 5 ∧ 1 ≤ Int32.toInt (I_ a0 13) ∧ Int32.toInt (I0 a0 8) ≤ Int32.toInt (I_ a0 8)) ∨ (0 ≤ Int32.toInt (I_ a0 9) ∧ Int32.toInt (I_ a0 9) ≤ 4 ∧ Int32.toInt (I_ a0 13) = 0 ∧ Int32.toInt (I0 a0 8) ≤ Int32.toInt (I_ a0 8) ∧ Int32.toInt (I0 a0 8) + Int32.toInt (I_ a0 9) ≤ Int32.toInt (I_ a0 8) + 3 ∧ (Int32.toInt (I_ F 0) = -1 ∨ 1 ≤ Int32.toInt (I_ F 0)) ∧ (Int32.toInt (I_ F 4) = -1 ∨ 1 ≤ Int32.toInt (I_ F 4)) ∧ Int32.toInt (I_ F 10) = Int32.toInt (I_ F 8) + Int32.toInt (I_ F 9) + 0)) ∧ (I_ a0 6).toInt = (I0 a0 6).toInt ∧ (I_ a0 7).toInt = (I0 a0 7).toInt ∧ (I_ a0 18).toInt = (I0 a0 18).toInt ∧ (I_ B 0).toInt = (I0 B 0).toInt ∧ (I_ B 4).toInt = (I0 B 4).toInt ∧ (I_ B 7).toInt = (I0 B 7).toInt) P K I0 O J0) := by
  refine Con.ofG mfMo_readLine (Nat.le_of_ble_eq_true rfl) ?_
  intro X C E
  have ok_a0_7 := hV.2 a0 h0.1 7
  rw [h0.2] at ok_a0_7
  have ok_a0_7 : 0 ≤ (I0 a0 7).toInt ∧ (I0 a0 7).toInt ≤ 700 := ok_a0_7
  have ok_a0_8 := hV.2 a0 h0.1 8
  rw [h0.2] at ok_a0_8
  have ok_a0_8 : 0 ≤ (I0 a0 8).toInt ∧ (I0 a0 8).toInt ≤ 700 := ok_a0_8
  have ok_F_7 := hV.2 F hFk.1 7
  rw [hFk.2] at ok_F_7
  have ok_F_7 : 0 ≤ (I0 F 7).toInt ∧ (I0 F 7).toInt ≤ 6 := ok_F_7
  have ok_F_8 := hV.2 F hFk.1 8
  rw [hFk.2] at ok_F_8
  have ok_F_8 : 0 ≤ (I0 F 8).toInt ∧ (I0 F 8).toInt ≤ 5 := ok_F_8
  have ok_F_9 := hV.2 F hFk.1 9
  rw [hFk.2] at ok_F_9
  have ok_F_9 : 0 ≤ (I0 F 9).toInt ∧ (I0 F 9).toInt ≤ 4 := ok_F_9
  have ok_F_10 := hV.2 F hFk.1 10
  rw [hFk.2] at ok_F_10
  have ok_F_10 : 0 ≤ (I0 F 10).toInt ∧ (I0 F 10).toInt ≤ 9 := ok_F_10
  have hV0 : SV frQ P K O I0 J0 I0 J0 := SV.rf hV
  refine g_aload_n C dMo_readLine_0 rfl ?_
  refine g_ldcS 16 C dMo_readLine_1 rfl ?_
  refine s_callV_zp (av := fun ad => [.ref (ad.1 16)]) C dMo_readLine_3 mfMo_isWord mvMo_isWord ln_Mo_138 h0 (by decide) rfl (cMo_isWord hV0.1 h0 (by decide)) rfl rfl (Nat.le_of_ble_eq_true rfl) ⟨Nat.le_of_ble_eq_true rfl, Nat.le_of_ble_eq_true rfl⟩ ⟨rfl, rfl⟩ ⟨Nat.zero_le _, Nat.zero_le _⟩ (fun z_3 b_3 p_3 => ?_)
  have rz_3 := rg z_3
  have u_3 := b_3
  unfold B01 at u_3
  refine gt_if_eq 16 C dMo_readLine_6 (by decide) rfl (fun c_6 => ?_) (fun c_6 => ?_)
  · skip
    refine g_aload_n C dMo_readLine_16 rfl ?_
    refine g_ldcS 19 C dMo_readLine_17 rfl ?_
    refine s_callV_zp (av := fun ad => [.ref (ad.1 19)]) C dMo_readLine_19 mfMo_isWord mvMo_isWord ln_Mo_138 h0 (by decide) rfl (cMo_isWord hV0.1 h0 (by decide)) rfl rfl (Nat.le_of_ble_eq_true rfl) ⟨Nat.le_of_ble_eq_true rfl, Nat.le_of_ble_eq_true rfl⟩ ⟨rfl, rfl⟩ ⟨Nat.zero_le _, Nat.zero_le _⟩ (fun z_19 b_19 p_19 => ?_)
    have rz_19 := rg z_19
    have u_19 := b_19
    unfold B01 at u_19
    refine gt_if_eq 32 C dMo_readLine_22 (by decide) rfl (fun c_22 => ?_) (fun c_22 => ?_)
    · skip
      refine g_aload_n C dMo_readLine_32 rfl ?_
      refine g_ldcS 20 C dMo_readLine_33 rfl ?_
      refine s_callV_zp (av := fun ad => [.ref (ad.1 20)]) C dMo_readLine_35 mfMo_isWord mvMo_isWord ln_Mo_138 h0 (by decide) rfl (cMo_isWord hV0.1 h0 (by decide)) rfl rfl (Nat.le_of_ble_eq_true rfl) ⟨Nat.le_of_ble_eq_true rfl, Nat.le_of_ble_eq_true rfl⟩ ⟨rfl, rfl⟩ ⟨Nat.zero_le _, Nat.zero_le _⟩ (fun z_35 b_35 p_35 => ?_)
      have rz_35 := rg z_35
      have u_35 := b_35
      unfold B01 at u_35
      refine gt_if_eq 48 C dMo_readLine_38 (by decide) rfl (fun c_38 => ?_) (fun c_38 => ?_)
      · skip
        refine g_aload_n C dMo_readLine_48 rfl ?_
        refine g_ldcS 21 C dMo_readLine_49 rfl ?_
        refine s_callV_zp (av := fun ad => [.ref (ad.1 21)]) C dMo_readLine_51 mfMo_isWord mvMo_isWord ln_Mo_138 h0 (by decide) rfl (cMo_isWord hV0.1 h0 (by decide)) rfl rfl (Nat.le_of_ble_eq_true rfl) ⟨Nat.le_of_ble_eq_true rfl, Nat.le_of_ble_eq_true rfl⟩ ⟨rfl, rfl⟩ ⟨Nat.zero_le _, Nat.zero_le _⟩ (fun z_51 b_51 p_51 => ?_)
        have rz_51 := rg z_51
        have u_51 := b_51
        unfold B01 at u_51
        refine gt_if_eq 64 C dMo_readLine_54 (by decide) rfl (fun c_54 => ?_) (fun c_54 => ?_)
        · skip
          refine g_aload_n C dMo_readLine_64 rfl ?_
          refine g_ldcS 22 C dMo_readLine_65 rfl ?_
          refine s_callV_zp (av := fun ad => [.ref (ad.1 22)]) C dMo_readLine_67 mfMo_isWord mvMo_isWord ln_Mo_138 h0 (by decide) rfl (cMo_isWord hV0.1 h0 (by decide)) rfl rfl (Nat.le_of_ble_eq_true rfl) ⟨Nat.le_of_ble_eq_true rfl, Nat.le_of_ble_eq_true rfl⟩ ⟨rfl, rfl⟩ ⟨Nat.zero_le _, Nat.zero_le _⟩ (fun z_67 b_67 p_67 => ?_)
          have rz_67 := rg z_67
          have u_67 := b_67
          unfold B01 at u_67
          refine gt_if_eq 80 C dMo_readLine_70 (by decide) rfl (fun c_70 => ?_) (fun c_70 => ?_)
          · skip
            refine g_aload_n C dMo_readLine_80 rfl ?_
            refine g_ldcS 23 C dMo_readLine_81 rfl ?_
            refine s_callV_zp (av := fun ad => [.ref (ad.1 23)]) C dMo_readLine_83 mfMo_isWord mvMo_isWord ln_Mo_138 h0 (by decide) rfl (cMo_isWord hV0.1 h0 (by decide)) rfl rfl (Nat.le_of_ble_eq_true rfl) ⟨Nat.le_of_ble_eq_true rfl, Nat.le_of_ble_eq_true rfl⟩ ⟨rfl, rfl⟩ ⟨Nat.zero_le _, Nat.zero_le _⟩ (fun z_83 b_83 p_83 => ?_)
            have rz_83 := rg z_83
            have u_83 := b_83
            unfold B01 at u_83
            refine gt_if_eq 96 C dMo_readLine_86 (by decide) rfl (fun c_86 => ?_) (fun c_86 => ?_)
            · skip
              refine g_aload_n C dMo_readLine_96 rfl ?_
              refine g_ldcS 24 C dMo_readLine_97 rfl ?_
              refine s_callV_zp (av := fun ad => [.ref (ad.1 24)]) C dMo_readLine_99 mfMo_isWord mvMo_isWord ln_Mo_138 h0 (by decide) rfl (cMo_isWord hV0.1 h0 (by decide)) rfl rfl (Nat.le_of_ble_eq_true rfl) ⟨Nat.le_of_ble_eq_true rfl, Nat.le_of_ble_eq_true rfl⟩ ⟨rfl, rfl⟩ ⟨Nat.zero_le _, Nat.zero_le _⟩ (fun z_99 b_99 p_99 => ?_)
              have rz_99 := rg z_99
              have u_99 := b_99
              unfold B01 at u_99
              refine gt_if_eq 112 C dMo_readLine_102 (by decide) rfl (fun c_102 => ?_) (fun c_102 => ?_)
              · skip
                refine g_aload_n C dMo_readLine_112 rfl ?_
                refine g_iconst (v := Int32.ofInt (1)) C dMo_readLine_113 (by decide) ?_
                refine s_callV_v (av := fun ad => [.int (Int32.ofInt (1))]) C dMo_readLine_114 mfMo_wrong mvMo_wrong ln_Mo_142 h0 (by decide) rfl hV0 (frL_le (by decide)) (cMo_wrong_N hV0.1 h0 (by have hk1 : Int32.toInt (Int32.ofInt (1)) = 1 := ofI (by decide); omega) (by have hk1 : Int32.toInt (Int32.ofInt (1)) = 1 := ofI (by decide); omega)) rfl rfl (Nat.le_of_ble_eq_true rfl) ⟨Nat.le_of_ble_eq_true rfl, Nat.le_of_ble_eq_true rfl⟩ ⟨rfl, rfl⟩ ⟨Nat.zero_le _, Nat.zero_le _⟩ (fun Iw8 Jw8 hVw8 hFw8 p_114 => ?_)
                have tkw8_F_0 : (Iw8 F 0).toInt = (I0 F 0).toInt := by rw [(hFw8 F (by rw [hFk.2]; rfl)).1 0]
                have tkw8_F_4 : (Iw8 F 4).toInt = (I0 F 4).toInt := by rw [(hFw8 F (by rw [hFk.2]; rfl)).1 4]
                have tkw8_F_8 : (Iw8 F 8).toInt = (I0 F 8).toInt := by rw [(hFw8 F (by rw [hFk.2]; rfl)).1 8]
                have tkw8_F_9 : (Iw8 F 9).toInt = (I0 F 9).toInt := by rw [(hFw8 F (by rw [hFk.2]; rfl)).1 9]
                have tkw8_F_10 : (Iw8 F 10).toInt = (I0 F 10).toInt := by rw [(hFw8 F (by rw [hFk.2]; rfl)).1 10]
                have tkw8_B_0 : (Iw8 B 0).toInt = (I0 B 0).toInt := by rw [(hFw8 B (by rw [hBk.2]; rfl)).1 0]
                have tkw8_B_4 : (Iw8 B 4).toInt = (I0 B 4).toInt := by rw [(hFw8 B (by rw [hBk.2]; rfl)).1 4]
                have tkw8_B_7 : (Iw8 B 7).toInt = (I0 B 7).toInt := by rw [(hFw8 B (by rw [hBk.2]; rfl)).1 7]
                try dsimp only at p_114
                have hk1_114 : Int32.toInt (Int32.ofInt (1)) = 1 := ofI (by decide)
                exact s_vret C E dMo_readLine_117 ⟨Nat.zero_le _, Nat.zero_le _⟩ hVw8 (by (try dsimp only); omega)
              · skip
                refine g_aload_n C dMo_readLine_105 rfl ?_
                refine s_callV_v (av := fun ad => []) C dMo_readLine_106 mfMo_readOre mvMo_readOre ln_Mo_215 h0 (by decide) rfl hV0 (frL_le (by decide)) (cMo_readOre_N_F hV0.1 h0 hFo hFk hBk hBF (by omega)) rfl rfl (Nat.le_of_ble_eq_true rfl) ⟨Nat.le_of_ble_eq_true rfl, Nat.le_of_ble_eq_true rfl⟩ ⟨rfl, rfl⟩ ⟨Nat.zero_le _, Nat.zero_le _⟩ (fun Iw9 Jw9 hVw9 hFw9 p_106 => ?_)
                try dsimp only at p_106
                rcases p_106 with ⟨p_106 | p_106, pk_106⟩
                · skip
                  refine g_goto 117 C dMo_readLine_109 (by decide) ?_
                  exact s_vret C E dMo_readLine_117 ⟨Nat.zero_le _, Nat.zero_le _⟩ hVw9 (by (try dsimp only); omega)
                · skip
                  refine g_goto 117 C dMo_readLine_109 (by decide) ?_
                  exact s_vret C E dMo_readLine_117 ⟨Nat.zero_le _, Nat.zero_le _⟩ hVw9 (by (try dsimp only); omega)
            · skip
              refine g_aload_n C dMo_readLine_89 rfl ?_
              refine s_callV_v (av := fun ad => []) C dMo_readLine_90 mfMo_readSize mvMo_readSize ln_Mo_212 h0 (by decide) rfl hV0 (frL_le (by decide)) (cMo_readSize_N_F hV0.1 h0 hFo hFk hBk hBF (by omega)) rfl rfl (Nat.le_of_ble_eq_true rfl) ⟨Nat.le_of_ble_eq_true rfl, Nat.le_of_ble_eq_true rfl⟩ ⟨rfl, rfl⟩ ⟨Nat.zero_le _, Nat.zero_le _⟩ (fun Iw10 Jw10 hVw10 hFw10 p_90 => ?_)
              try dsimp only at p_90
              rcases p_90 with ⟨p_90 | p_90, pk_90⟩
              · skip
                refine g_goto 117 C dMo_readLine_93 (by decide) ?_
                exact s_vret C E dMo_readLine_117 ⟨Nat.zero_le _, Nat.zero_le _⟩ hVw10 (by (try dsimp only); omega)
              · skip
                refine g_goto 117 C dMo_readLine_93 (by decide) ?_
                exact s_vret C E dMo_readLine_117 ⟨Nat.zero_le _, Nat.zero_le _⟩ hVw10 (by (try dsimp only); omega)
          · skip
            refine g_aload_n C dMo_readLine_73 rfl ?_
            refine s_callV_v (av := fun ad => []) C dMo_readLine_74 mfMo_readPrices mvMo_readPrices ln_Mo_209 h0 (by decide) rfl hV0 (frL_le (by decide)) (cMo_readPrices_N_F hV0.1 h0 hFo hFk hBk hBF (by omega)) rfl rfl (Nat.le_of_ble_eq_true rfl) ⟨Nat.le_of_ble_eq_true rfl, Nat.le_of_ble_eq_true rfl⟩ ⟨rfl, rfl⟩ ⟨Nat.zero_le _, Nat.zero_le _⟩ (fun Iw11 Jw11 hVw11 hFw11 p_74 => ?_)
            try dsimp only at p_74
            rcases p_74 with ⟨p_74 | p_74, pk_74⟩
            · skip
              refine g_goto 117 C dMo_readLine_77 (by decide) ?_
              exact s_vret C E dMo_readLine_117 ⟨Nat.zero_le _, Nat.zero_le _⟩ hVw11 (by (try dsimp only); omega)
            · skip
              refine g_goto 117 C dMo_readLine_77 (by decide) ?_
              exact s_vret C E dMo_readLine_117 ⟨Nat.zero_le _, Nat.zero_le _⟩ hVw11 (by (try dsimp only); omega)
        · skip
          refine g_aload_n C dMo_readLine_57 rfl ?_
          refine s_callV_v (av := fun ad => []) C dMo_readLine_58 mfMo_readBin mvMo_readBin ln_Mo_206 h0 (by decide) rfl hV0 (frL_le (by decide)) (cMo_readBin_N_F hV0.1 h0 hFo hFk hBk hBF (by omega)) rfl rfl (Nat.le_of_ble_eq_true rfl) ⟨Nat.le_of_ble_eq_true rfl, Nat.le_of_ble_eq_true rfl⟩ ⟨rfl, rfl⟩ ⟨Nat.zero_le _, Nat.zero_le _⟩ (fun Iw12 Jw12 hVw12 hFw12 p_58 => ?_)
          try dsimp only at p_58
          rcases p_58 with ⟨p_58 | p_58, pk_58⟩
          · skip
            refine g_goto 117 C dMo_readLine_61 (by decide) ?_
            exact s_vret C E dMo_readLine_117 ⟨Nat.zero_le _, Nat.zero_le _⟩ hVw12 (by (try dsimp only); omega)
          · skip
            refine g_goto 117 C dMo_readLine_61 (by decide) ?_
            exact s_vret C E dMo_readLine_117 ⟨Nat.zero_le _, Nat.zero_le _⟩ hVw12 (by (try dsimp only); omega)
      · skip
        refine g_aload_n C dMo_readLine_41 rfl ?_
        refine s_callV_v (av := fun ad => []) C dMo_readLine_42 mfMo_readLiner mvMo_readLiner ln_Mo_203 h0 (by decide) rfl hV0 (frL_le (by decide)) (cMo_readLiner_N_F hV0.1 h0 hFo hFk hBk hBF (by omega)) rfl rfl (Nat.le_of_ble_eq_true rfl) ⟨Nat.le_of_ble_eq_true rfl, Nat.le_of_ble_eq_true rfl⟩ ⟨rfl, rfl⟩ ⟨Nat.zero_le _, Nat.zero_le _⟩ (fun Iw13 Jw13 hVw13 hFw13 p_42 => ?_)
        try dsimp only at p_42
        rcases p_42 with ⟨p_42 | p_42, pk_42⟩
        · skip
          refine g_goto 117 C dMo_readLine_45 (by decide) ?_
          exact s_vret C E dMo_readLine_117 ⟨Nat.zero_le _, Nat.zero_le _⟩ hVw13 (by (try dsimp only); omega)
        · skip
          refine g_goto 117 C dMo_readLine_45 (by decide) ?_
          exact s_vret C E dMo_readLine_117 ⟨Nat.zero_le _, Nat.zero_le _⟩ hVw13 (by (try dsimp only); omega)
    · skip
      refine g_aload_n C dMo_readLine_25 rfl ?_
      refine s_callV_v (av := fun ad => []) C dMo_readLine_26 mfMo_readSieve mvMo_readSieve ln_Mo_200 h0 (by decide) rfl hV0 (frL_le (by decide)) (cMo_readSieve_N_F hV0.1 h0 hFo hFk hBk hBF (by omega)) rfl rfl (Nat.le_of_ble_eq_true rfl) ⟨Nat.le_of_ble_eq_true rfl, Nat.le_of_ble_eq_true rfl⟩ ⟨rfl, rfl⟩ ⟨Nat.zero_le _, Nat.zero_le _⟩ (fun Iw14 Jw14 hVw14 hFw14 p_26 => ?_)
      try dsimp only at p_26
      rcases p_26 with ⟨p_26 | p_26, pk_26⟩
      · skip
        refine g_goto 117 C dMo_readLine_29 (by decide) ?_
        exact s_vret C E dMo_readLine_117 ⟨Nat.zero_le _, Nat.zero_le _⟩ hVw14 (by (try dsimp only); omega)
      · skip
        refine g_goto 117 C dMo_readLine_29 (by decide) ?_
        exact s_vret C E dMo_readLine_117 ⟨Nat.zero_le _, Nat.zero_le _⟩ hVw14 (by (try dsimp only); omega)
  · skip
    refine g_aload_n C dMo_readLine_9 rfl ?_
    refine s_callV_v (av := fun ad => []) C dMo_readLine_10 mfMo_readDrum mvMo_readDrum ln_Mo_197 h0 (by decide) rfl hV0 (frL_le (by decide)) (cMo_readDrum_N_F hV0.1 h0 hFo hFk hBk hBF (by omega)) rfl rfl (Nat.le_of_ble_eq_true rfl) ⟨Nat.le_of_ble_eq_true rfl, Nat.le_of_ble_eq_true rfl⟩ ⟨rfl, rfl⟩ ⟨Nat.zero_le _, Nat.zero_le _⟩ (fun Iw15 Jw15 hVw15 hFw15 p_10 => ?_)
    try dsimp only at p_10
    rcases p_10 with ⟨p_10 | p_10, pk_10⟩
    · skip
      refine g_goto 117 C dMo_readLine_13 (by decide) ?_
      exact s_vret C E dMo_readLine_117 ⟨Nat.zero_le _, Nat.zero_le _⟩ hVw15 (by (try dsimp only); omega)
    · skip
      refine g_goto 117 C dMo_readLine_13 (by decide) ?_
      exact s_vret C E dMo_readLine_117 ⟨Nat.zero_le _, Nat.zero_le _⟩ hVw15 (by (try dsimp only); omega)
set_option maxHeartbeats 4000000 in
set_option maxRecDepth 100000 in
theorem cMo_readMill_N_F {P : List Nat} {K : Nat → Nat} {I0 : Nat → Nat → Int32} {O : Nat → Nat → Option Nat} {J0 : Nat → Nat → Int64} (hV : IV P K I0 O) {a0 : Nat} (h0 : a0 ∈ P ∧ K a0 = 10) {F B : Nat} (hFo : O a0 4 = some F) (hFk : F ∈ P ∧ K F = 9) (hBk : True ∧ K B = 9) (hBF : B ≠ F) (pr0 : 0 ≤ Int32.toInt (I0 a0 9) ∧ Int32.toInt (I0 a0 9) ≤ 4 ∧ Int32.toInt (I0 a0 13) = 0 ∧ (Int32.toInt (I0 F 0) = -1 ∨ 1 ≤ Int32.toInt (I0 F 0)) ∧ (Int32.toInt (I0 F 4) = -1 ∨ 1 ≤ Int32.toInt (I0 F 4)) ∧ Int32.toInt (I0 F 10) = Int32.toInt (I0 F 8) + Int32.toInt (I0 F 9) + 0) : Con yMo_readMill bMo_readMill 3 none ({ frames := 10, cells := 0, slots := 0, locals := 215 } : Room) P K I0 O J0 [.ref a0] (SPo frQ 0 (fun _ I_ => ((Int32.toInt (I_ a0 9) = 5 ∧ 1 ≤ Int32.toInt (I_ a0 13)) ∨ (Int32.toInt (I_ a0 13) = 0 ∧ 1 ≤ Int32.toInt (I_ F 0) ∧ 1 ≤ Int32.toInt (I_ F 4) ∧ 1 ≤ Int32.toInt (I_ F 7))) ∧ (I_ a0 6).toInt = (I0 a0 6).toInt ∧ (I_ a0 7).toInt = (I0 a0 7).toInt ∧ (I_ a0 18).toInt = (I0 a0 18).toInt ∧ (I_ B 0).toInt = (I0 B 0).toInt ∧ (I_ B 4).toInt = (I0 B 4).toInt ∧ (I_ B 7).toInt = (I0 B 7).toInt) P K I0 O J0) := by
  refine Con.ofG mfMo_readMill (Nat.le_of_ble_eq_true rfl) ?_
  intro X C E
  have ok_a0_7 := hV.2 a0 h0.1 7
  rw [h0.2] at ok_a0_7
  have ok_a0_7 : 0 ≤ (I0 a0 7).toInt ∧ (I0 a0 7).toInt ≤ 700 := ok_a0_7
  have ok_a0_8 := hV.2 a0 h0.1 8
  rw [h0.2] at ok_a0_8
  have ok_a0_8 : 0 ≤ (I0 a0 8).toInt ∧ (I0 a0 8).toInt ≤ 700 := ok_a0_8
  have ok_F_7 := hV.2 F hFk.1 7
  rw [hFk.2] at ok_F_7
  have ok_F_7 : 0 ≤ (I0 F 7).toInt ∧ (I0 F 7).toInt ≤ 6 := ok_F_7
  have ok_F_8 := hV.2 F hFk.1 8
  rw [hFk.2] at ok_F_8
  have ok_F_8 : 0 ≤ (I0 F 8).toInt ∧ (I0 F 8).toInt ≤ 5 := ok_F_8
  have ok_F_9 := hV.2 F hFk.1 9
  rw [hFk.2] at ok_F_9
  have ok_F_9 : 0 ≤ (I0 F 9).toInt ∧ (I0 F 9).toInt ≤ 4 := ok_F_9
  have ok_F_10 := hV.2 F hFk.1 10
  rw [hFk.2] at ok_F_10
  have ok_F_10 : 0 ≤ (I0 F 10).toInt ∧ (I0 F 10).toInt ≤ 9 := ok_F_10
  have hV0 : SV frQ P K O I0 J0 I0 J0 := SV.rf hV
  refine g_iconst (v := Int32.ofInt (1)) C dMo_readMill_0 (by decide) ?_
  refine g_istore_n (i := 1) C dMo_readMill_1 rfl (by decide) ?_
  have lp_2 : ∀ (nn_2 : Nat) (x1_2 : Int32) (Iw1 : Nat → Nat → Int32) (Jw1 : Nat → Nat → Int64), Int.toNat (2 * (701 - Int32.toInt (Iw1 a0 8)) + x1_2.toInt) = nn_2 → ((Int32.toInt (Iw1 a0 9) = 5 ∧ 1 ≤ Int32.toInt (Iw1 a0 13) ∧ Int32.toInt x1_2 = 0 ∧ 0 ≤ Int32.toInt (Iw1 a0 8)) ∨ (0 ≤ Int32.toInt (Iw1 a0 9) ∧ Int32.toInt (Iw1 a0 9) ≤ 4 ∧ Int32.toInt (Iw1 a0 13) = 0 ∧ (Int32.toInt (Iw1 F 0) = -1 ∨ 1 ≤ Int32.toInt (Iw1 F 0)) ∧ (Int32.toInt (Iw1 F 4) = -1 ∨ 1 ≤ Int32.toInt (Iw1 F 4)) ∧ Int32.toInt (Iw1 F 10) = Int32.toInt (Iw1 F 8) + Int32.toInt (Iw1 F 9) + 0)) → (0 ≤ Int32.toInt x1_2 ∧ Int32.toInt x1_2 ≤ 1) → (Int32.toInt (Iw1 a0 6) = Int32.toInt (I0 a0 6)) → (Int32.toInt (Iw1 a0 7) = Int32.toInt (I0 a0 7)) → (Int32.toInt (Iw1 a0 18) = Int32.toInt (I0 a0 18)) → (Int32.toInt (Iw1 B 0) = Int32.toInt (I0 B 0)) → (Int32.toInt (Iw1 B 4) = Int32.toInt (I0 B 4)) → (Int32.toInt (Iw1 B 7) = Int32.toInt (I0 B 7)) → SV frQ P K O I0 J0 Iw1 Jw1 → GG X 3 P K Iw1 O Jw1 0 0 2 [(0, .ref a0), (1, .int x1_2)] [] := by
    intro nn_2
    induction nn_2 using Nat.strongRecOn with
    | ind nn_2 ih_2 =>
    intro x1_2 Iw1 Jw1 hn_2 iv0_2 iv1_2 iv2_2 iv3_2 iv4_2 iv5_2 iv6_2 iv7_2 hVw1
    have rg1_2 := rg x1_2
    have okl_a0_8_2 := hVw1.1.2 a0 h0.1 8
    rw [h0.2] at okl_a0_8_2
    have okl_a0_8_2 : 0 ≤ (Iw1 a0 8).toInt ∧ (Iw1 a0 8).toInt ≤ 700 := okl_a0_8_2
    have okl_F_7_2 := hVw1.1.2 F hFk.1 7
    rw [hFk.2] at okl_F_7_2
    have okl_F_7_2 : 0 ≤ (Iw1 F 7).toInt ∧ (Iw1 F 7).toInt ≤ 6 := okl_F_7_2
    rcases iv0_2 with iv0_2 | iv0_2
    · skip
      refine g_iload_n C dMo_readMill_2 rfl ?_
      refine gt_if_eq 28 C dMo_readMill_3 (by decide) rfl (fun c_3 => ?_) (fun c_3 => ?_)
      · skip
        refine g_aload_n C dMo_readMill_28 rfl ?_
        refine g_geti C dMo_readMill_29 fl_Mo_94 h0 ?_
        refine g_iconst (v := Int32.ofInt (1)) C dMo_readMill_32 (by decide) ?_
        refine gt_icmp_eq 41 C dMo_readMill_33 (by decide) rfl (ofI (by decide)) (fun c_33 => ?_) (fun c_33 => ?_)
        · skip
          exfalso; omega
        · skip
          refine g_aload_n C dMo_readMill_36 rfl ?_
          refine g_iconst (v := Int32.ofInt (1)) C dMo_readMill_37 (by decide) ?_
          refine s_callV_v (av := fun ad => [.int (Int32.ofInt (1))]) C dMo_readMill_38 mfMo_wrong mvMo_wrong ln_Mo_142 h0 (by decide) rfl hVw1 (frL_le (by decide)) (cMo_wrong_O hVw1.1 h0 (by have hk1 : Int32.toInt (Int32.ofInt (1)) = 1 := ofI (by decide); omega)) rfl rfl (Nat.le_of_ble_eq_true rfl) ⟨Nat.le_of_ble_eq_true rfl, Nat.le_of_ble_eq_true rfl⟩ ⟨rfl, rfl⟩ ⟨Nat.zero_le _, Nat.zero_le _⟩ (fun Iw2 Jw2 hVw2 hFw2 p_38 => ?_)
          have tkw2_F_0 : (Iw2 F 0).toInt = (Iw1 F 0).toInt := by rw [(hFw2 F (by rw [hFk.2]; rfl)).1 0]
          have tkw2_F_4 : (Iw2 F 4).toInt = (Iw1 F 4).toInt := by rw [(hFw2 F (by rw [hFk.2]; rfl)).1 4]
          have tkw2_F_7 : (Iw2 F 7).toInt = (Iw1 F 7).toInt := by rw [(hFw2 F (by rw [hFk.2]; rfl)).1 7]
          have tkw2_F_8 : (Iw2 F 8).toInt = (Iw1 F 8).toInt := by rw [(hFw2 F (by rw [hFk.2]; rfl)).1 8]
          have tkw2_F_9 : (Iw2 F 9).toInt = (Iw1 F 9).toInt := by rw [(hFw2 F (by rw [hFk.2]; rfl)).1 9]
          have tkw2_F_10 : (Iw2 F 10).toInt = (Iw1 F 10).toInt := by rw [(hFw2 F (by rw [hFk.2]; rfl)).1 10]
          have tkw2_B_0 : (Iw2 B 0).toInt = (Iw1 B 0).toInt := by rw [(hFw2 B (by rw [hBk.2]; rfl)).1 0]
          have tkw2_B_4 : (Iw2 B 4).toInt = (Iw1 B 4).toInt := by rw [(hFw2 B (by rw [hBk.2]; rfl)).1 4]
          have tkw2_B_7 : (Iw2 B 7).toInt = (Iw1 B 7).toInt := by rw [(hFw2 B (by rw [hBk.2]; rfl)).1 7]
          try dsimp only at p_38
          have hk1_38 : Int32.toInt (Int32.ofInt (1)) = 1 := ofI (by decide)
          refine g_aload_n C dMo_readMill_41 rfl ?_
          refine gt_getS C dMo_readMill_42 fl_Mo_172 h0 hFo ?_
          refine g_geti C dMo_readMill_45 fl_Mo_176 hFk ?_
          refine g_iconst (v := Int32.ofInt (-1)) C dMo_readMill_48 (by decide) ?_
          have jn_121 : ∀  (s0_121 : Int32), ((Int32.toInt s0_121 = 1 ∨ (¬ Int32.toInt (Iw2 F 0) = -1 ∧ ¬ Int32.toInt (Iw2 F 4) = -1 ∧ ¬ Int32.toInt (Iw2 F 7) = 0))) → (Int32.toInt (Iw2 a0 6) = Int32.toInt (I0 a0 6)) → (Int32.toInt (Iw2 a0 7) = Int32.toInt (I0 a0 7)) → (Int32.toInt (Iw2 a0 18) = Int32.toInt (I0 a0 18)) → (Int32.toInt (Iw2 B 0) = Int32.toInt (I0 B 0)) → (Int32.toInt (Iw2 B 4) = Int32.toInt (I0 B 4)) → (Int32.toInt (Iw2 B 7) = Int32.toInt (I0 B 7)) → GG X 3 P K Iw2 O Jw2 0 0 121 [(0, .ref a0), (1, .int x1_2)] [.int s0_121] := by
            intro s0_121 jv0_121 jv1_121 jv2_121 jv3_121 jv4_121 jv5_121 jv6_121
            refine g_istore_n (i := 2) C dMo_readMill_121 rfl (by decide) ?_
            refine g_iload_n C dMo_readMill_122 rfl ?_
            refine gt_if_eq 132 C dMo_readMill_123 (by decide) rfl (fun c_123 => ?_) (fun c_123 => ?_)
            · skip
              exact s_vret C E dMo_readMill_132 ⟨Nat.zero_le _, Nat.zero_le _⟩ hVw2 (by (try dsimp only); omega)
            · skip
              refine g_aload_n C dMo_readMill_126 rfl ?_
              refine g_bipush (v := Int32.ofInt (6)) C dMo_readMill_127 (by decide) ?_
              refine s_callV_v (av := fun ad => [.int (Int32.ofInt (6))]) C dMo_readMill_129 mfMo_wrong mvMo_wrong ln_Mo_142 h0 (by decide) rfl hVw2 (frL_le (by decide)) (cMo_wrong_O hVw2.1 h0 (by have hk1 : Int32.toInt (Int32.ofInt (6)) = 6 := ofI (by decide); omega)) rfl rfl (Nat.le_of_ble_eq_true rfl) ⟨Nat.le_of_ble_eq_true rfl, Nat.le_of_ble_eq_true rfl⟩ ⟨rfl, rfl⟩ ⟨Nat.zero_le _, Nat.zero_le _⟩ (fun Iw4 Jw4 hVw4 hFw4 p_129 => ?_)
              have tkw4_F_0 : (Iw4 F 0).toInt = (Iw2 F 0).toInt := by rw [(hFw4 F (by rw [hFk.2]; rfl)).1 0]
              have tkw4_F_4 : (Iw4 F 4).toInt = (Iw2 F 4).toInt := by rw [(hFw4 F (by rw [hFk.2]; rfl)).1 4]
              have tkw4_F_7 : (Iw4 F 7).toInt = (Iw2 F 7).toInt := by rw [(hFw4 F (by rw [hFk.2]; rfl)).1 7]
              have tkw4_F_8 : (Iw4 F 8).toInt = (Iw2 F 8).toInt := by rw [(hFw4 F (by rw [hFk.2]; rfl)).1 8]
              have tkw4_F_9 : (Iw4 F 9).toInt = (Iw2 F 9).toInt := by rw [(hFw4 F (by rw [hFk.2]; rfl)).1 9]
              have tkw4_F_10 : (Iw4 F 10).toInt = (Iw2 F 10).toInt := by rw [(hFw4 F (by rw [hFk.2]; rfl)).1 10]
              have tkw4_B_0 : (Iw4 B 0).toInt = (Iw2 B 0).toInt := by rw [(hFw4 B (by rw [hBk.2]; rfl)).1 0]
              have tkw4_B_4 : (Iw4 B 4).toInt = (Iw2 B 4).toInt := by rw [(hFw4 B (by rw [hBk.2]; rfl)).1 4]
              have tkw4_B_7 : (Iw4 B 7).toInt = (Iw2 B 7).toInt := by rw [(hFw4 B (by rw [hBk.2]; rfl)).1 7]
              try dsimp only at p_129
              have hk1_129 : Int32.toInt (Int32.ofInt (6)) = 6 := ofI (by decide)
              exact s_vret C E dMo_readMill_132 ⟨Nat.zero_le _, Nat.zero_le _⟩ hVw4 (by (try dsimp only); omega)
          have jn_116 : (Int32.toInt (Iw2 a0 6) = Int32.toInt (I0 a0 6)) → (Int32.toInt (Iw2 a0 7) = Int32.toInt (I0 a0 7)) → (Int32.toInt (Iw2 a0 18) = Int32.toInt (I0 a0 18)) → (Int32.toInt (Iw2 B 0) = Int32.toInt (I0 B 0)) → (Int32.toInt (Iw2 B 4) = Int32.toInt (I0 B 4)) → (Int32.toInt (Iw2 B 7) = Int32.toInt (I0 B 7)) → GG X 3 P K Iw2 O Jw2 0 0 116 [(0, .ref a0), (1, .int x1_2)] [] := by
            intro jv0_116 jv1_116 jv2_116 jv3_116 jv4_116 jv5_116
            refine g_iconst (v := Int32.ofInt (1)) C dMo_readMill_116 (by decide) ?_
            refine g_goto 121 C dMo_readMill_117 (by decide) ?_
            exact g_sub (jn_121 (Int32.ofInt (1))  (by have hci : Int32.toInt (Int32.ofInt (1)) = 1 := ofI (by decide); omega) (by omega) (by omega) (by omega) (by omega) (by omega) (by omega) ) ⟨rfl, rfl, trivial⟩
          refine gt_icmp_eq 116 C dMo_readMill_49 (by decide) rfl (ofI (by decide)) (fun c_49 => ?_) (fun c_49 => ?_)
          · skip
            exact g_sub (jn_116   (by omega) (by omega) (by omega) (by omega) (by omega) (by omega) ) ⟨rfl, rfl, trivial⟩
          · skip
            refine g_aload_n C dMo_readMill_52 rfl ?_
            refine gt_getS C dMo_readMill_53 fl_Mo_172 h0 hFo ?_
            refine g_geti C dMo_readMill_56 fl_Mo_181 hFk ?_
            refine g_iconst (v := Int32.ofInt (-1)) C dMo_readMill_59 (by decide) ?_
            refine gt_icmp_eq 116 C dMo_readMill_60 (by decide) rfl (ofI (by decide)) (fun c_60 => ?_) (fun c_60 => ?_)
            · skip
              exact g_sub (jn_116   (by omega) (by omega) (by omega) (by omega) (by omega) (by omega) ) ⟨rfl, rfl, trivial⟩
            · skip
              refine g_aload_n C dMo_readMill_63 rfl ?_
              refine gt_getS C dMo_readMill_64 fl_Mo_172 h0 hFo ?_
              refine g_geti C dMo_readMill_67 fl_Mo_183 hFk ?_
              refine g_iconst (v := Int32.ofInt (-1)) C dMo_readMill_70 (by decide) ?_
              refine gt_icmp_eq 116 C dMo_readMill_71 (by decide) rfl (ofI (by decide)) (fun c_71 => ?_) (fun c_71 => ?_)
              · skip
                exact g_sub (jn_116   (by omega) (by omega) (by omega) (by omega) (by omega) (by omega) ) ⟨rfl, rfl, trivial⟩
              · skip
                refine g_aload_n C dMo_readMill_74 rfl ?_
                refine gt_getS C dMo_readMill_75 fl_Mo_172 h0 hFo ?_
                refine g_geti C dMo_readMill_78 fl_Mo_186 hFk ?_
                refine g_iconst (v := Int32.ofInt (-1)) C dMo_readMill_81 (by decide) ?_
                refine gt_icmp_eq 116 C dMo_readMill_82 (by decide) rfl (ofI (by decide)) (fun c_82 => ?_) (fun c_82 => ?_)
                · skip
                  exact g_sub (jn_116   (by omega) (by omega) (by omega) (by omega) (by omega) (by omega) ) ⟨rfl, rfl, trivial⟩
                · skip
                  refine g_aload_n C dMo_readMill_85 rfl ?_
                  refine gt_getS C dMo_readMill_86 fl_Mo_172 h0 hFo ?_
                  refine g_geti C dMo_readMill_89 fl_Mo_188 hFk ?_
                  have o_89 := hVw2.1.2 F hFk.1 7
                  rw [hFk.2] at o_89
                  have o_89 : 0 ≤ (Iw2 F 7).toInt ∧ (Iw2 F 7).toInt ≤ 6 := o_89
                  refine gt_if_eq 116 C dMo_readMill_92 (by decide) rfl (fun c_92 => ?_) (fun c_92 => ?_)
                  · skip
                    exact g_sub (jn_116   (by omega) (by omega) (by omega) (by omega) (by omega) (by omega) ) ⟨rfl, rfl, trivial⟩
                  · skip
                    refine g_aload_n C dMo_readMill_95 rfl ?_
                    refine gt_getS C dMo_readMill_96 fl_Mo_172 h0 hFo ?_
                    refine g_geti C dMo_readMill_99 fl_Mo_191 hFk ?_
                    have o_99 := hVw2.1.2 F hFk.1 8
                    rw [hFk.2] at o_99
                    have o_99 : 0 ≤ (Iw2 F 8).toInt ∧ (Iw2 F 8).toInt ≤ 5 := o_99
                    refine g_iconst (v := Int32.ofInt (2)) C dMo_readMill_102 (by decide) ?_
                    refine gt_icmp_lt 116 C dMo_readMill_103 (by decide) rfl (ofI (by decide)) (fun c_103 => ?_) (fun c_103 => ?_)
                    · skip
                      exact g_sub (jn_116   (by omega) (by omega) (by omega) (by omega) (by omega) (by omega) ) ⟨rfl, rfl, trivial⟩
                    · skip
                      refine g_aload_n C dMo_readMill_106 rfl ?_
                      refine gt_getS C dMo_readMill_107 fl_Mo_172 h0 hFo ?_
                      refine g_geti C dMo_readMill_110 fl_Mo_194 hFk ?_
                      have o_110 := hVw2.1.2 F hFk.1 9
                      rw [hFk.2] at o_110
                      have o_110 : 0 ≤ (Iw2 F 9).toInt ∧ (Iw2 F 9).toInt ≤ 4 := o_110
                      refine gt_if_ne 120 C dMo_readMill_113 (by decide) rfl (fun c_113 => ?_) (fun c_113 => ?_)
                      · skip
                        refine g_iconst (v := Int32.ofInt (0)) C dMo_readMill_120 (by decide) ?_
                        exact g_sub (jn_121 (Int32.ofInt (0))  (by have hci : Int32.toInt (Int32.ofInt (0)) = 0 := ofI (by decide); omega) (by omega) (by omega) (by omega) (by omega) (by omega) (by omega) ) ⟨rfl, rfl, trivial⟩
                      · skip
                        exact g_sub (jn_116   (by omega) (by omega) (by omega) (by omega) (by omega) (by omega) ) ⟨rfl, rfl, trivial⟩
      · skip
        refine g_aload_n C dMo_readMill_6 rfl ?_
        exfalso; omega
    · skip
      refine g_iload_n C dMo_readMill_2 rfl ?_
      refine gt_if_eq 28 C dMo_readMill_3 (by decide) rfl (fun c_3 => ?_) (fun c_3 => ?_)
      · skip
        refine g_aload_n C dMo_readMill_28 rfl ?_
        refine g_geti C dMo_readMill_29 fl_Mo_94 h0 ?_
        refine g_iconst (v := Int32.ofInt (1)) C dMo_readMill_32 (by decide) ?_
        refine gt_icmp_eq 41 C dMo_readMill_33 (by decide) rfl (ofI (by decide)) (fun c_33 => ?_) (fun c_33 => ?_)
        · skip
          refine g_aload_n C dMo_readMill_41 rfl ?_
          refine gt_getS C dMo_readMill_42 fl_Mo_172 h0 hFo ?_
          refine g_geti C dMo_readMill_45 fl_Mo_176 hFk ?_
          refine g_iconst (v := Int32.ofInt (-1)) C dMo_readMill_48 (by decide) ?_
          have jn_121 : ∀  (s0_121 : Int32), ((Int32.toInt s0_121 = 1 ∨ (¬ Int32.toInt (Iw1 F 0) = -1 ∧ ¬ Int32.toInt (Iw1 F 4) = -1 ∧ ¬ Int32.toInt (Iw1 F 7) = 0))) → (Int32.toInt (Iw1 a0 6) = Int32.toInt (I0 a0 6)) → (Int32.toInt (Iw1 a0 7) = Int32.toInt (I0 a0 7)) → (Int32.toInt (Iw1 a0 18) = Int32.toInt (I0 a0 18)) → (Int32.toInt (Iw1 B 0) = Int32.toInt (I0 B 0)) → (Int32.toInt (Iw1 B 4) = Int32.toInt (I0 B 4)) → (Int32.toInt (Iw1 B 7) = Int32.toInt (I0 B 7)) → GG X 3 P K Iw1 O Jw1 0 0 121 [(0, .ref a0), (1, .int x1_2)] [.int s0_121] := by
            intro s0_121 jv0_121 jv1_121 jv2_121 jv3_121 jv4_121 jv5_121 jv6_121
            refine g_istore_n (i := 2) C dMo_readMill_121 rfl (by decide) ?_
            refine g_iload_n C dMo_readMill_122 rfl ?_
            refine gt_if_eq 132 C dMo_readMill_123 (by decide) rfl (fun c_123 => ?_) (fun c_123 => ?_)
            · skip
              exact s_vret C E dMo_readMill_132 ⟨Nat.zero_le _, Nat.zero_le _⟩ hVw1 (by (try dsimp only); omega)
            · skip
              refine g_aload_n C dMo_readMill_126 rfl ?_
              refine g_bipush (v := Int32.ofInt (6)) C dMo_readMill_127 (by decide) ?_
              refine s_callV_v (av := fun ad => [.int (Int32.ofInt (6))]) C dMo_readMill_129 mfMo_wrong mvMo_wrong ln_Mo_142 h0 (by decide) rfl hVw1 (frL_le (by decide)) (cMo_wrong_N hVw1.1 h0 (by have hk1 : Int32.toInt (Int32.ofInt (6)) = 6 := ofI (by decide); omega) (by have hk1 : Int32.toInt (Int32.ofInt (6)) = 6 := ofI (by decide); omega)) rfl rfl (Nat.le_of_ble_eq_true rfl) ⟨Nat.le_of_ble_eq_true rfl, Nat.le_of_ble_eq_true rfl⟩ ⟨rfl, rfl⟩ ⟨Nat.zero_le _, Nat.zero_le _⟩ (fun Iw8 Jw8 hVw8 hFw8 p_129 => ?_)
              have tkw8_F_0 : (Iw8 F 0).toInt = (Iw1 F 0).toInt := by rw [(hFw8 F (by rw [hFk.2]; rfl)).1 0]
              have tkw8_F_4 : (Iw8 F 4).toInt = (Iw1 F 4).toInt := by rw [(hFw8 F (by rw [hFk.2]; rfl)).1 4]
              have tkw8_F_7 : (Iw8 F 7).toInt = (Iw1 F 7).toInt := by rw [(hFw8 F (by rw [hFk.2]; rfl)).1 7]
              have tkw8_F_8 : (Iw8 F 8).toInt = (Iw1 F 8).toInt := by rw [(hFw8 F (by rw [hFk.2]; rfl)).1 8]
              have tkw8_F_9 : (Iw8 F 9).toInt = (Iw1 F 9).toInt := by rw [(hFw8 F (by rw [hFk.2]; rfl)).1 9]
              have tkw8_F_10 : (Iw8 F 10).toInt = (Iw1 F 10).toInt := by rw [(hFw8 F (by rw [hFk.2]; rfl)).1 10]
              have tkw8_B_0 : (Iw8 B 0).toInt = (Iw1 B 0).toInt := by rw [(hFw8 B (by rw [hBk.2]; rfl)).1 0]
              have tkw8_B_4 : (Iw8 B 4).toInt = (Iw1 B 4).toInt := by rw [(hFw8 B (by rw [hBk.2]; rfl)).1 4]
              have tkw8_B_7 : (Iw8 B 7).toInt = (Iw1 B 7).toInt := by rw [(hFw8 B (by rw [hBk.2]; rfl)).1 7]
              try dsimp only at p_129
              have hk1_129 : Int32.toInt (Int32.ofInt (6)) = 6 := ofI (by decide)
              exact s_vret C E dMo_readMill_132 ⟨Nat.zero_le _, Nat.zero_le _⟩ hVw8 (by (try dsimp only); omega)
          have jn_116 : (Int32.toInt (Iw1 a0 6) = Int32.toInt (I0 a0 6)) → (Int32.toInt (Iw1 a0 7) = Int32.toInt (I0 a0 7)) → (Int32.toInt (Iw1 a0 18) = Int32.toInt (I0 a0 18)) → (Int32.toInt (Iw1 B 0) = Int32.toInt (I0 B 0)) → (Int32.toInt (Iw1 B 4) = Int32.toInt (I0 B 4)) → (Int32.toInt (Iw1 B 7) = Int32.toInt (I0 B 7)) → GG X 3 P K Iw1 O Jw1 0 0 116 [(0, .ref a0), (1, .int x1_2)] [] := by
            intro jv0_116 jv1_116 jv2_116 jv3_116 jv4_116 jv5_116
            refine g_iconst (v := Int32.ofInt (1)) C dMo_readMill_116 (by decide) ?_
            refine g_goto 121 C dMo_readMill_117 (by decide) ?_
            exact g_sub (jn_121 (Int32.ofInt (1))  (by have hci : Int32.toInt (Int32.ofInt (1)) = 1 := ofI (by decide); omega) (by omega) (by omega) (by omega) (by omega) (by omega) (by omega) ) ⟨rfl, rfl, trivial⟩
          refine gt_icmp_eq 116 C dMo_readMill_49 (by decide) rfl (ofI (by decide)) (fun c_49 => ?_) (fun c_49 => ?_)
          · skip
            exact g_sub (jn_116   (by omega) (by omega) (by omega) (by omega) (by omega) (by omega) ) ⟨rfl, rfl, trivial⟩
          · skip
            refine g_aload_n C dMo_readMill_52 rfl ?_
            refine gt_getS C dMo_readMill_53 fl_Mo_172 h0 hFo ?_
            refine g_geti C dMo_readMill_56 fl_Mo_181 hFk ?_
            refine g_iconst (v := Int32.ofInt (-1)) C dMo_readMill_59 (by decide) ?_
            refine gt_icmp_eq 116 C dMo_readMill_60 (by decide) rfl (ofI (by decide)) (fun c_60 => ?_) (fun c_60 => ?_)
            · skip
              exact g_sub (jn_116   (by omega) (by omega) (by omega) (by omega) (by omega) (by omega) ) ⟨rfl, rfl, trivial⟩
            · skip
              refine g_aload_n C dMo_readMill_63 rfl ?_
              refine gt_getS C dMo_readMill_64 fl_Mo_172 h0 hFo ?_
              refine g_geti C dMo_readMill_67 fl_Mo_183 hFk ?_
              refine g_iconst (v := Int32.ofInt (-1)) C dMo_readMill_70 (by decide) ?_
              refine gt_icmp_eq 116 C dMo_readMill_71 (by decide) rfl (ofI (by decide)) (fun c_71 => ?_) (fun c_71 => ?_)
              · skip
                exact g_sub (jn_116   (by omega) (by omega) (by omega) (by omega) (by omega) (by omega) ) ⟨rfl, rfl, trivial⟩
              · skip
                refine g_aload_n C dMo_readMill_74 rfl ?_
                refine gt_getS C dMo_readMill_75 fl_Mo_172 h0 hFo ?_
                refine g_geti C dMo_readMill_78 fl_Mo_186 hFk ?_
                refine g_iconst (v := Int32.ofInt (-1)) C dMo_readMill_81 (by decide) ?_
                refine gt_icmp_eq 116 C dMo_readMill_82 (by decide) rfl (ofI (by decide)) (fun c_82 => ?_) (fun c_82 => ?_)
                · skip
                  exact g_sub (jn_116   (by omega) (by omega) (by omega) (by omega) (by omega) (by omega) ) ⟨rfl, rfl, trivial⟩
                · skip
                  refine g_aload_n C dMo_readMill_85 rfl ?_
                  refine gt_getS C dMo_readMill_86 fl_Mo_172 h0 hFo ?_
                  refine g_geti C dMo_readMill_89 fl_Mo_188 hFk ?_
                  have o_89 := hVw1.1.2 F hFk.1 7
                  rw [hFk.2] at o_89
                  have o_89 : 0 ≤ (Iw1 F 7).toInt ∧ (Iw1 F 7).toInt ≤ 6 := o_89
                  refine gt_if_eq 116 C dMo_readMill_92 (by decide) rfl (fun c_92 => ?_) (fun c_92 => ?_)
                  · skip
                    exact g_sub (jn_116   (by omega) (by omega) (by omega) (by omega) (by omega) (by omega) ) ⟨rfl, rfl, trivial⟩
                  · skip
                    refine g_aload_n C dMo_readMill_95 rfl ?_
                    refine gt_getS C dMo_readMill_96 fl_Mo_172 h0 hFo ?_
                    refine g_geti C dMo_readMill_99 fl_Mo_191 hFk ?_
                    have o_99 := hVw1.1.2 F hFk.1 8
                    rw [hFk.2] at o_99
                    have o_99 : 0 ≤ (Iw1 F 8).toInt ∧ (Iw1 F 8).toInt ≤ 5 := o_99
                    refine g_iconst (v := Int32.ofInt (2)) C dMo_readMill_102 (by decide) ?_
                    refine gt_icmp_lt 116 C dMo_readMill_103 (by decide) rfl (ofI (by decide)) (fun c_103 => ?_) (fun c_103 => ?_)
                    · skip
                      exact g_sub (jn_116   (by omega) (by omega) (by omega) (by omega) (by omega) (by omega) ) ⟨rfl, rfl, trivial⟩
                    · skip
                      refine g_aload_n C dMo_readMill_106 rfl ?_
                      refine gt_getS C dMo_readMill_107 fl_Mo_172 h0 hFo ?_
                      refine g_geti C dMo_readMill_110 fl_Mo_194 hFk ?_
                      have o_110 := hVw1.1.2 F hFk.1 9
                      rw [hFk.2] at o_110
                      have o_110 : 0 ≤ (Iw1 F 9).toInt ∧ (Iw1 F 9).toInt ≤ 4 := o_110
                      refine gt_if_ne 120 C dMo_readMill_113 (by decide) rfl (fun c_113 => ?_) (fun c_113 => ?_)
                      · skip
                        refine g_iconst (v := Int32.ofInt (0)) C dMo_readMill_120 (by decide) ?_
                        exact g_sub (jn_121 (Int32.ofInt (0))  (by have hci : Int32.toInt (Int32.ofInt (0)) = 0 := ofI (by decide); omega) (by omega) (by omega) (by omega) (by omega) (by omega) (by omega) ) ⟨rfl, rfl, trivial⟩
                      · skip
                        exact g_sub (jn_116   (by omega) (by omega) (by omega) (by omega) (by omega) (by omega) ) ⟨rfl, rfl, trivial⟩
        · skip
          refine g_aload_n C dMo_readMill_36 rfl ?_
          refine g_iconst (v := Int32.ofInt (1)) C dMo_readMill_37 (by decide) ?_
          refine s_callV_v (av := fun ad => [.int (Int32.ofInt (1))]) C dMo_readMill_38 mfMo_wrong mvMo_wrong ln_Mo_142 h0 (by decide) rfl hVw1 (frL_le (by decide)) (cMo_wrong_N hVw1.1 h0 (by have hk1 : Int32.toInt (Int32.ofInt (1)) = 1 := ofI (by decide); omega) (by have hk1 : Int32.toInt (Int32.ofInt (1)) = 1 := ofI (by decide); omega)) rfl rfl (Nat.le_of_ble_eq_true rfl) ⟨Nat.le_of_ble_eq_true rfl, Nat.le_of_ble_eq_true rfl⟩ ⟨rfl, rfl⟩ ⟨Nat.zero_le _, Nat.zero_le _⟩ (fun Iw10 Jw10 hVw10 hFw10 p_38 => ?_)
          have tkw10_F_0 : (Iw10 F 0).toInt = (Iw1 F 0).toInt := by rw [(hFw10 F (by rw [hFk.2]; rfl)).1 0]
          have tkw10_F_4 : (Iw10 F 4).toInt = (Iw1 F 4).toInt := by rw [(hFw10 F (by rw [hFk.2]; rfl)).1 4]
          have tkw10_F_7 : (Iw10 F 7).toInt = (Iw1 F 7).toInt := by rw [(hFw10 F (by rw [hFk.2]; rfl)).1 7]
          have tkw10_F_8 : (Iw10 F 8).toInt = (Iw1 F 8).toInt := by rw [(hFw10 F (by rw [hFk.2]; rfl)).1 8]
          have tkw10_F_9 : (Iw10 F 9).toInt = (Iw1 F 9).toInt := by rw [(hFw10 F (by rw [hFk.2]; rfl)).1 9]
          have tkw10_F_10 : (Iw10 F 10).toInt = (Iw1 F 10).toInt := by rw [(hFw10 F (by rw [hFk.2]; rfl)).1 10]
          have tkw10_B_0 : (Iw10 B 0).toInt = (Iw1 B 0).toInt := by rw [(hFw10 B (by rw [hBk.2]; rfl)).1 0]
          have tkw10_B_4 : (Iw10 B 4).toInt = (Iw1 B 4).toInt := by rw [(hFw10 B (by rw [hBk.2]; rfl)).1 4]
          have tkw10_B_7 : (Iw10 B 7).toInt = (Iw1 B 7).toInt := by rw [(hFw10 B (by rw [hBk.2]; rfl)).1 7]
          try dsimp only at p_38
          have hk1_38 : Int32.toInt (Int32.ofInt (1)) = 1 := ofI (by decide)
          refine g_aload_n C dMo_readMill_41 rfl ?_
          refine gt_getS C dMo_readMill_42 fl_Mo_172 h0 hFo ?_
          refine g_geti C dMo_readMill_45 fl_Mo_176 hFk ?_
          refine g_iconst (v := Int32.ofInt (-1)) C dMo_readMill_48 (by decide) ?_
          have jn_121 : ∀  (s0_121 : Int32), ((Int32.toInt s0_121 = 1 ∨ (¬ Int32.toInt (Iw10 F 0) = -1 ∧ ¬ Int32.toInt (Iw10 F 4) = -1 ∧ ¬ Int32.toInt (Iw10 F 7) = 0))) → (Int32.toInt (Iw10 a0 6) = Int32.toInt (I0 a0 6)) → (Int32.toInt (Iw10 a0 7) = Int32.toInt (I0 a0 7)) → (Int32.toInt (Iw10 a0 18) = Int32.toInt (I0 a0 18)) → (Int32.toInt (Iw10 B 0) = Int32.toInt (I0 B 0)) → (Int32.toInt (Iw10 B 4) = Int32.toInt (I0 B 4)) → (Int32.toInt (Iw10 B 7) = Int32.toInt (I0 B 7)) → GG X 3 P K Iw10 O Jw10 0 0 121 [(0, .ref a0), (1, .int x1_2)] [.int s0_121] := by
            intro s0_121 jv0_121 jv1_121 jv2_121 jv3_121 jv4_121 jv5_121 jv6_121
            refine g_istore_n (i := 2) C dMo_readMill_121 rfl (by decide) ?_
            refine g_iload_n C dMo_readMill_122 rfl ?_
            refine gt_if_eq 132 C dMo_readMill_123 (by decide) rfl (fun c_123 => ?_) (fun c_123 => ?_)
            · skip
              exact s_vret C E dMo_readMill_132 ⟨Nat.zero_le _, Nat.zero_le _⟩ hVw10 (by (try dsimp only); omega)
            · skip
              refine g_aload_n C dMo_readMill_126 rfl ?_
              refine g_bipush (v := Int32.ofInt (6)) C dMo_readMill_127 (by decide) ?_
              refine s_callV_v (av := fun ad => [.int (Int32.ofInt (6))]) C dMo_readMill_129 mfMo_wrong mvMo_wrong ln_Mo_142 h0 (by decide) rfl hVw10 (frL_le (by decide)) (cMo_wrong_O hVw10.1 h0 (by have hk1 : Int32.toInt (Int32.ofInt (6)) = 6 := ofI (by decide); omega)) rfl rfl (Nat.le_of_ble_eq_true rfl) ⟨Nat.le_of_ble_eq_true rfl, Nat.le_of_ble_eq_true rfl⟩ ⟨rfl, rfl⟩ ⟨Nat.zero_le _, Nat.zero_le _⟩ (fun Iw12 Jw12 hVw12 hFw12 p_129 => ?_)
              have tkw12_F_0 : (Iw12 F 0).toInt = (Iw10 F 0).toInt := by rw [(hFw12 F (by rw [hFk.2]; rfl)).1 0]
              have tkw12_F_4 : (Iw12 F 4).toInt = (Iw10 F 4).toInt := by rw [(hFw12 F (by rw [hFk.2]; rfl)).1 4]
              have tkw12_F_7 : (Iw12 F 7).toInt = (Iw10 F 7).toInt := by rw [(hFw12 F (by rw [hFk.2]; rfl)).1 7]
              have tkw12_F_8 : (Iw12 F 8).toInt = (Iw10 F 8).toInt := by rw [(hFw12 F (by rw [hFk.2]; rfl)).1 8]
              have tkw12_F_9 : (Iw12 F 9).toInt = (Iw10 F 9).toInt := by rw [(hFw12 F (by rw [hFk.2]; rfl)).1 9]
              have tkw12_F_10 : (Iw12 F 10).toInt = (Iw10 F 10).toInt := by rw [(hFw12 F (by rw [hFk.2]; rfl)).1 10]
              have tkw12_B_0 : (Iw12 B 0).toInt = (Iw10 B 0).toInt := by rw [(hFw12 B (by rw [hBk.2]; rfl)).1 0]
              have tkw12_B_4 : (Iw12 B 4).toInt = (Iw10 B 4).toInt := by rw [(hFw12 B (by rw [hBk.2]; rfl)).1 4]
              have tkw12_B_7 : (Iw12 B 7).toInt = (Iw10 B 7).toInt := by rw [(hFw12 B (by rw [hBk.2]; rfl)).1 7]
              try dsimp only at p_129
              have hk1_129 : Int32.toInt (Int32.ofInt (6)) = 6 := ofI (by decide)
              exact s_vret C E dMo_readMill_132 ⟨Nat.zero_le _, Nat.zero_le _⟩ hVw12 (by (try dsimp only); omega)
          have jn_116 : (Int32.toInt (Iw10 a0 6) = Int32.toInt (I0 a0 6)) → (Int32.toInt (Iw10 a0 7) = Int32.toInt (I0 a0 7)) → (Int32.toInt (Iw10 a0 18) = Int32.toInt (I0 a0 18)) → (Int32.toInt (Iw10 B 0) = Int32.toInt (I0 B 0)) → (Int32.toInt (Iw10 B 4) = Int32.toInt (I0 B 4)) → (Int32.toInt (Iw10 B 7) = Int32.toInt (I0 B 7)) → GG X 3 P K Iw10 O Jw10 0 0 116 [(0, .ref a0), (1, .int x1_2)] [] := by
            intro jv0_116 jv1_116 jv2_116 jv3_116 jv4_116 jv5_116
            refine g_iconst (v := Int32.ofInt (1)) C dMo_readMill_116 (by decide) ?_
            refine g_goto 121 C dMo_readMill_117 (by decide) ?_
            exact g_sub (jn_121 (Int32.ofInt (1))  (by have hci : Int32.toInt (Int32.ofInt (1)) = 1 := ofI (by decide); omega) (by omega) (by omega) (by omega) (by omega) (by omega) (by omega) ) ⟨rfl, rfl, trivial⟩
          refine gt_icmp_eq 116 C dMo_readMill_49 (by decide) rfl (ofI (by decide)) (fun c_49 => ?_) (fun c_49 => ?_)
          · skip
            exact g_sub (jn_116   (by omega) (by omega) (by omega) (by omega) (by omega) (by omega) ) ⟨rfl, rfl, trivial⟩
          · skip
            refine g_aload_n C dMo_readMill_52 rfl ?_
            refine gt_getS C dMo_readMill_53 fl_Mo_172 h0 hFo ?_
            refine g_geti C dMo_readMill_56 fl_Mo_181 hFk ?_
            refine g_iconst (v := Int32.ofInt (-1)) C dMo_readMill_59 (by decide) ?_
            refine gt_icmp_eq 116 C dMo_readMill_60 (by decide) rfl (ofI (by decide)) (fun c_60 => ?_) (fun c_60 => ?_)
            · skip
              exact g_sub (jn_116   (by omega) (by omega) (by omega) (by omega) (by omega) (by omega) ) ⟨rfl, rfl, trivial⟩
            · skip
              refine g_aload_n C dMo_readMill_63 rfl ?_
              refine gt_getS C dMo_readMill_64 fl_Mo_172 h0 hFo ?_
              refine g_geti C dMo_readMill_67 fl_Mo_183 hFk ?_
              refine g_iconst (v := Int32.ofInt (-1)) C dMo_readMill_70 (by decide) ?_
              refine gt_icmp_eq 116 C dMo_readMill_71 (by decide) rfl (ofI (by decide)) (fun c_71 => ?_) (fun c_71 => ?_)
              · skip
                exact g_sub (jn_116   (by omega) (by omega) (by omega) (by omega) (by omega) (by omega) ) ⟨rfl, rfl, trivial⟩
              · skip
                refine g_aload_n C dMo_readMill_74 rfl ?_
                refine gt_getS C dMo_readMill_75 fl_Mo_172 h0 hFo ?_
                refine g_geti C dMo_readMill_78 fl_Mo_186 hFk ?_
                refine g_iconst (v := Int32.ofInt (-1)) C dMo_readMill_81 (by decide) ?_
                refine gt_icmp_eq 116 C dMo_readMill_82 (by decide) rfl (ofI (by decide)) (fun c_82 => ?_) (fun c_82 => ?_)
                · skip
                  exact g_sub (jn_116   (by omega) (by omega) (by omega) (by omega) (by omega) (by omega) ) ⟨rfl, rfl, trivial⟩
                · skip
                  refine g_aload_n C dMo_readMill_85 rfl ?_
                  refine gt_getS C dMo_readMill_86 fl_Mo_172 h0 hFo ?_
                  refine g_geti C dMo_readMill_89 fl_Mo_188 hFk ?_
                  have o_89 := hVw10.1.2 F hFk.1 7
                  rw [hFk.2] at o_89
                  have o_89 : 0 ≤ (Iw10 F 7).toInt ∧ (Iw10 F 7).toInt ≤ 6 := o_89
                  refine gt_if_eq 116 C dMo_readMill_92 (by decide) rfl (fun c_92 => ?_) (fun c_92 => ?_)
                  · skip
                    exact g_sub (jn_116   (by omega) (by omega) (by omega) (by omega) (by omega) (by omega) ) ⟨rfl, rfl, trivial⟩
                  · skip
                    refine g_aload_n C dMo_readMill_95 rfl ?_
                    refine gt_getS C dMo_readMill_96 fl_Mo_172 h0 hFo ?_
                    refine g_geti C dMo_readMill_99 fl_Mo_191 hFk ?_
                    have o_99 := hVw10.1.2 F hFk.1 8
                    rw [hFk.2] at o_99
                    have o_99 : 0 ≤ (Iw10 F 8).toInt ∧ (Iw10 F 8).toInt ≤ 5 := o_99
                    refine g_iconst (v := Int32.ofInt (2)) C dMo_readMill_102 (by decide) ?_
                    refine gt_icmp_lt 116 C dMo_readMill_103 (by decide) rfl (ofI (by decide)) (fun c_103 => ?_) (fun c_103 => ?_)
                    · skip
                      exact g_sub (jn_116   (by omega) (by omega) (by omega) (by omega) (by omega) (by omega) ) ⟨rfl, rfl, trivial⟩
                    · skip
                      refine g_aload_n C dMo_readMill_106 rfl ?_
                      refine gt_getS C dMo_readMill_107 fl_Mo_172 h0 hFo ?_
                      refine g_geti C dMo_readMill_110 fl_Mo_194 hFk ?_
                      have o_110 := hVw10.1.2 F hFk.1 9
                      rw [hFk.2] at o_110
                      have o_110 : 0 ≤ (Iw10 F 9).toInt ∧ (Iw10 F 9).toInt ≤ 4 := o_110
                      refine gt_if_ne 120 C dMo_readMill_113 (by decide) rfl (fun c_113 => ?_) (fun c_113 => ?_)
                      · skip
                        refine g_iconst (v := Int32.ofInt (0)) C dMo_readMill_120 (by decide) ?_
                        exact g_sub (jn_121 (Int32.ofInt (0))  (by have hci : Int32.toInt (Int32.ofInt (0)) = 0 := ofI (by decide); omega) (by omega) (by omega) (by omega) (by omega) (by omega) (by omega) ) ⟨rfl, rfl, trivial⟩
                      · skip
                        exact g_sub (jn_116   (by omega) (by omega) (by omega) (by omega) (by omega) (by omega) ) ⟨rfl, rfl, trivial⟩
      · skip
        refine g_aload_n C dMo_readMill_6 rfl ?_
        refine s_callV_v (av := fun ad => []) C dMo_readMill_7 mfMo_readLine mvMo_readLine ln_Mo_166 h0 (by decide) rfl hVw1 (frL_le (by decide)) (cMo_readLine_N_F hVw1.1 h0 hFo hFk hBk hBF (by omega)) rfl rfl (Nat.le_of_ble_eq_true rfl) ⟨Nat.le_of_ble_eq_true rfl, Nat.le_of_ble_eq_true rfl⟩ ⟨rfl, rfl⟩ ⟨Nat.zero_le _, Nat.zero_le _⟩ (fun Iw14 Jw14 hVw14 hFw14 p_7 => ?_)
        try dsimp only at p_7
        rcases p_7 with ⟨p_7 | p_7, pk_7⟩
        · skip
          refine g_aload_n C dMo_readMill_10 rfl ?_
          refine g_bipush (v := Int32.ofInt (59)) C dMo_readMill_11 (by decide) ?_
          refine s_callV_zp (av := fun ad => [.int (Int32.ofInt (59))]) C dMo_readMill_13 mfMo_is mvMo_is ln_Mo_169 h0 (by decide) rfl (cMo_is hVw14.1 h0 (by have hk1 : Int32.toInt (Int32.ofInt (59)) = 59 := ofI (by decide); omega)) rfl rfl (Nat.le_of_ble_eq_true rfl) ⟨Nat.le_of_ble_eq_true rfl, Nat.le_of_ble_eq_true rfl⟩ ⟨rfl, rfl⟩ ⟨Nat.zero_le _, Nat.zero_le _⟩ (fun z_13 b_13 p_13 => ?_)
          have rz_13 := rg z_13
          have u_13 := b_13
          unfold B01 at u_13
          try dsimp only at p_13
          have hk1_13 : Int32.toInt (Int32.ofInt (59)) = 59 := ofI (by decide)
          refine g_istore_n (i := 1) C dMo_readMill_16 rfl (by decide) ?_
          refine g_iload_n C dMo_readMill_17 rfl ?_
          refine gt_if_eq 2 C dMo_readMill_18 (by decide) rfl (fun c_18 => ?_) (fun c_18 => ?_)
          · skip
            exact g_sub (ih_2 _ (by omega) z_13 Iw14 Jw14 rfl (by omega) (by omega) (by omega) (by omega) (by omega) (by omega) (by omega) (by omega) hVw14) ⟨rfl, rfl, trivial⟩
          · skip
            refine g_aload_n C dMo_readMill_21 rfl ?_
            refine s_callV_v (av := fun ad => []) C dMo_readMill_22 mfMo_next mvMo_next ln_Mo_146 h0 (by decide) rfl hVw14 (frL_le (by decide)) (cMo_next_O hVw14.1 h0 (by omega)) rfl rfl (Nat.le_of_ble_eq_true rfl) ⟨Nat.le_of_ble_eq_true rfl, Nat.le_of_ble_eq_true rfl⟩ ⟨rfl, rfl⟩ ⟨Nat.zero_le _, Nat.zero_le _⟩ (fun Iw16 Jw16 hVw16 hFw16 p_22 => ?_)
            have tkw16_F_0 : (Iw16 F 0).toInt = (Iw14 F 0).toInt := by rw [(hFw16 F (by rw [hFk.2]; rfl)).1 0]
            have tkw16_F_4 : (Iw16 F 4).toInt = (Iw14 F 4).toInt := by rw [(hFw16 F (by rw [hFk.2]; rfl)).1 4]
            have tkw16_F_7 : (Iw16 F 7).toInt = (Iw14 F 7).toInt := by rw [(hFw16 F (by rw [hFk.2]; rfl)).1 7]
            have tkw16_F_8 : (Iw16 F 8).toInt = (Iw14 F 8).toInt := by rw [(hFw16 F (by rw [hFk.2]; rfl)).1 8]
            have tkw16_F_9 : (Iw16 F 9).toInt = (Iw14 F 9).toInt := by rw [(hFw16 F (by rw [hFk.2]; rfl)).1 9]
            have tkw16_F_10 : (Iw16 F 10).toInt = (Iw14 F 10).toInt := by rw [(hFw16 F (by rw [hFk.2]; rfl)).1 10]
            have tkw16_B_0 : (Iw16 B 0).toInt = (Iw14 B 0).toInt := by rw [(hFw16 B (by rw [hBk.2]; rfl)).1 0]
            have tkw16_B_4 : (Iw16 B 4).toInt = (Iw14 B 4).toInt := by rw [(hFw16 B (by rw [hBk.2]; rfl)).1 4]
            have tkw16_B_7 : (Iw16 B 7).toInt = (Iw14 B 7).toInt := by rw [(hFw16 B (by rw [hBk.2]; rfl)).1 7]
            try dsimp only at p_22
            refine g_goto 2 C dMo_readMill_25 (by decide) ?_
            exact g_sub (ih_2 _ (by omega) z_13 Iw16 Jw16 rfl (by omega) (by omega) (by omega) (by omega) (by omega) (by omega) (by omega) (by omega) hVw16) ⟨rfl, rfl, trivial⟩
        · skip
          refine g_aload_n C dMo_readMill_10 rfl ?_
          refine g_bipush (v := Int32.ofInt (59)) C dMo_readMill_11 (by decide) ?_
          refine s_callV_zp (av := fun ad => [.int (Int32.ofInt (59))]) C dMo_readMill_13 mfMo_is mvMo_is ln_Mo_169 h0 (by decide) rfl (cMo_is hVw14.1 h0 (by have hk1 : Int32.toInt (Int32.ofInt (59)) = 59 := ofI (by decide); omega)) rfl rfl (Nat.le_of_ble_eq_true rfl) ⟨Nat.le_of_ble_eq_true rfl, Nat.le_of_ble_eq_true rfl⟩ ⟨rfl, rfl⟩ ⟨Nat.zero_le _, Nat.zero_le _⟩ (fun z_13 b_13 p_13 => ?_)
          have rz_13 := rg z_13
          have u_13 := b_13
          unfold B01 at u_13
          try dsimp only at p_13
          have hk1_13 : Int32.toInt (Int32.ofInt (59)) = 59 := ofI (by decide)
          refine g_istore_n (i := 1) C dMo_readMill_16 rfl (by decide) ?_
          refine g_iload_n C dMo_readMill_17 rfl ?_
          refine gt_if_eq 2 C dMo_readMill_18 (by decide) rfl (fun c_18 => ?_) (fun c_18 => ?_)
          · skip
            exact g_sub (ih_2 _ (by omega) z_13 Iw14 Jw14 rfl (by omega) (by omega) (by omega) (by omega) (by omega) (by omega) (by omega) (by omega) hVw14) ⟨rfl, rfl, trivial⟩
          · skip
            refine g_aload_n C dMo_readMill_21 rfl ?_
            refine s_callV_v (av := fun ad => []) C dMo_readMill_22 mfMo_next mvMo_next ln_Mo_146 h0 (by decide) rfl hVw14 (frL_le (by decide)) (cMo_next_N hVw14.1 h0 (by omega)) rfl rfl (Nat.le_of_ble_eq_true rfl) ⟨Nat.le_of_ble_eq_true rfl, Nat.le_of_ble_eq_true rfl⟩ ⟨rfl, rfl⟩ ⟨Nat.zero_le _, Nat.zero_le _⟩ (fun Iw18 Jw18 hVw18 hFw18 p_22 => ?_)
            have tkw18_F_0 : (Iw18 F 0).toInt = (Iw14 F 0).toInt := by rw [(hFw18 F (by rw [hFk.2]; rfl)).1 0]
            have tkw18_F_4 : (Iw18 F 4).toInt = (Iw14 F 4).toInt := by rw [(hFw18 F (by rw [hFk.2]; rfl)).1 4]
            have tkw18_F_7 : (Iw18 F 7).toInt = (Iw14 F 7).toInt := by rw [(hFw18 F (by rw [hFk.2]; rfl)).1 7]
            have tkw18_F_8 : (Iw18 F 8).toInt = (Iw14 F 8).toInt := by rw [(hFw18 F (by rw [hFk.2]; rfl)).1 8]
            have tkw18_F_9 : (Iw18 F 9).toInt = (Iw14 F 9).toInt := by rw [(hFw18 F (by rw [hFk.2]; rfl)).1 9]
            have tkw18_F_10 : (Iw18 F 10).toInt = (Iw14 F 10).toInt := by rw [(hFw18 F (by rw [hFk.2]; rfl)).1 10]
            have tkw18_B_0 : (Iw18 B 0).toInt = (Iw14 B 0).toInt := by rw [(hFw18 B (by rw [hBk.2]; rfl)).1 0]
            have tkw18_B_4 : (Iw18 B 4).toInt = (Iw14 B 4).toInt := by rw [(hFw18 B (by rw [hBk.2]; rfl)).1 4]
            have tkw18_B_7 : (Iw18 B 7).toInt = (Iw14 B 7).toInt := by rw [(hFw18 B (by rw [hBk.2]; rfl)).1 7]
            try dsimp only at p_22
            refine g_goto 2 C dMo_readMill_25 (by decide) ?_
            exact g_sub (ih_2 _ (by omega) z_13 Iw18 Jw18 rfl (by omega) (by omega) (by omega) (by omega) (by omega) (by omega) (by omega) (by omega) hVw18) ⟨rfl, rfl, trivial⟩
  exact g_sub (lp_2 _ (Int32.ofInt (1)) I0 J0 rfl (by have hci : Int32.toInt (Int32.ofInt (1)) = 1 := ofI (by decide); omega) (by have hci : Int32.toInt (Int32.ofInt (1)) = 1 := ofI (by decide); omega) (by omega) (by omega) (by omega) (by omega) (by omega) (by omega) hV0) ⟨rfl, rfl, trivial⟩
