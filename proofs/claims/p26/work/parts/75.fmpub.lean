def F_Mo_isOre (N : Nat) (O : WO) (I0 : WI) (J0 : WJ) (a0 : Nat) (x1 : Int32) : Option (Int32) := if O a0 3 = none then (some (Int32.ofInt (0))) else (if (x1).toInt < 0 then (some (Int32.ofInt (0))) else (if ((I0 (rf O a0 3) 9)).toInt ≤ (x1).toInt then (some (Int32.ofInt (0))) else (some (Int32.ofInt (1)))))
set_option maxHeartbeats 4000000 in
set_option maxRecDepth 100000 in
theorem f_Mo_isOre {P : List Nat} {K : Nat → Nat} {N : Nat} {O : WO} {I0 : WI} {J0 : WJ} (hT : TR P K O) {a0 : Nat} (h0 : a0 ∈ P ∧ K a0 = 10) {x1 : Int32} (hQ3 : ∀ b, O a0 3 = some b → b ∈ P ∧ K b = 9) {r : Int32} (h : F_Mo_isOre N O I0 J0 a0 x1 = some r) : Con yMo_isOre bMo_isOre 2 (some .boolean) ({ frames := 0, cells := 0, slots := 0, locals := 0 } : Room) P K I0 O J0 [.ref a0, .int x1] (EPo (some (.int r)) I0 J0 P K O) := by
  refine Con.ofG mfMo_isOre (Nat.le_of_ble_eq_true rfl) ?_
  intro X C E
  unfold F_Mo_isOre at h
  refine g_aload_n C dMo_isOre_0 rfl ?_
  refine x_null 26 C dMo_isOre_1 dMo_isOre_4 (by decide) fl_Mo_290 h0 h (fun c_1 h => ?_) (fun c_1 h => ?_)
  · skip
    refine g_iconst (v := Int32.ofInt (0)) C dMo_isOre_26 (by decide) ?_
    exact x_zret0 C E dMo_isOre_27 (by decide) ⟨Nat.zero_le _, Nat.zero_le _⟩ h
  · have hN3 : NN P K O a0 3 9 := ⟨c_1, hQ3 _ c_1⟩
    refine g_iload_n C dMo_isOre_7 rfl ?_
    refine gt_if_lt 26 C dMo_isOre_8 (by decide) rfl (fun c_8 => ?_) (fun c_8 => ?_)
    · have h := x_pos c_8 h
      refine g_iconst (v := Int32.ofInt (0)) C dMo_isOre_26 (by decide) ?_
      exact x_zret0 C E dMo_isOre_27 (by decide) ⟨Nat.zero_le _, Nat.zero_le _⟩ h
    · have h := x_neg (Int.not_lt.mpr c_8) h
      refine g_iload_n C dMo_isOre_11 rfl ?_
      refine g_aload_n C dMo_isOre_12 rfl ?_
      refine gt_getS C dMo_isOre_13 fl_Mo_290 h0 hN3.1 ?_
      refine g_geti C dMo_isOre_16 fl_Mo_194 hN3.2 ?_
      refine gt_icmp_ge 26 C dMo_isOre_19 (by decide) rfl rfl (fun c_19 => ?_) (fun c_19 => ?_)
      · have h := x_pos c_19 h
        refine g_iconst (v := Int32.ofInt (0)) C dMo_isOre_26 (by decide) ?_
        exact x_zret0 C E dMo_isOre_27 (by decide) ⟨Nat.zero_le _, Nat.zero_le _⟩ h
      · have h := x_neg (Int.not_le.mpr c_19) h
        refine g_iconst (v := Int32.ofInt (1)) C dMo_isOre_22 (by decide) ?_
        refine g_goto 27 C dMo_isOre_23 (by decide) ?_
        exact x_zret0 C E dMo_isOre_27 (by decide) ⟨Nat.zero_le _, Nat.zero_le _⟩ h
def F_Mo_isSize (N : Nat) (O : WO) (I0 : WI) (J0 : WJ) (a0 : Nat) (x1 : Int32) : Option (Int32) := if O a0 3 = none then (some (Int32.ofInt (0))) else (if (x1).toInt < 0 then (some (Int32.ofInt (0))) else (if ((I0 (rf O a0 3) 8)).toInt ≤ (x1).toInt then (some (Int32.ofInt (0))) else (some (Int32.ofInt (1)))))
set_option maxHeartbeats 4000000 in
set_option maxRecDepth 100000 in
theorem f_Mo_isSize {P : List Nat} {K : Nat → Nat} {N : Nat} {O : WO} {I0 : WI} {J0 : WJ} (hT : TR P K O) {a0 : Nat} (h0 : a0 ∈ P ∧ K a0 = 10) {x1 : Int32} (hQ3 : ∀ b, O a0 3 = some b → b ∈ P ∧ K b = 9) {r : Int32} (h : F_Mo_isSize N O I0 J0 a0 x1 = some r) : Con yMo_isSize bMo_isSize 2 (some .boolean) ({ frames := 0, cells := 0, slots := 0, locals := 0 } : Room) P K I0 O J0 [.ref a0, .int x1] (EPo (some (.int r)) I0 J0 P K O) := by
  refine Con.ofG mfMo_isSize (Nat.le_of_ble_eq_true rfl) ?_
  intro X C E
  unfold F_Mo_isSize at h
  refine g_aload_n C dMo_isSize_0 rfl ?_
  refine x_null 26 C dMo_isSize_1 dMo_isSize_4 (by decide) fl_Mo_290 h0 h (fun c_1 h => ?_) (fun c_1 h => ?_)
  · skip
    refine g_iconst (v := Int32.ofInt (0)) C dMo_isSize_26 (by decide) ?_
    exact x_zret0 C E dMo_isSize_27 (by decide) ⟨Nat.zero_le _, Nat.zero_le _⟩ h
  · have hN3 : NN P K O a0 3 9 := ⟨c_1, hQ3 _ c_1⟩
    refine g_iload_n C dMo_isSize_7 rfl ?_
    refine gt_if_lt 26 C dMo_isSize_8 (by decide) rfl (fun c_8 => ?_) (fun c_8 => ?_)
    · have h := x_pos c_8 h
      refine g_iconst (v := Int32.ofInt (0)) C dMo_isSize_26 (by decide) ?_
      exact x_zret0 C E dMo_isSize_27 (by decide) ⟨Nat.zero_le _, Nat.zero_le _⟩ h
    · have h := x_neg (Int.not_lt.mpr c_8) h
      refine g_iload_n C dMo_isSize_11 rfl ?_
      refine g_aload_n C dMo_isSize_12 rfl ?_
      refine gt_getS C dMo_isSize_13 fl_Mo_290 h0 hN3.1 ?_
      refine g_geti C dMo_isSize_16 fl_Mo_191 hN3.2 ?_
      refine gt_icmp_ge 26 C dMo_isSize_19 (by decide) rfl rfl (fun c_19 => ?_) (fun c_19 => ?_)
      · have h := x_pos c_19 h
        refine g_iconst (v := Int32.ofInt (0)) C dMo_isSize_26 (by decide) ?_
        exact x_zret0 C E dMo_isSize_27 (by decide) ⟨Nat.zero_le _, Nat.zero_le _⟩ h
      · have h := x_neg (Int.not_le.mpr c_19) h
        refine g_iconst (v := Int32.ofInt (1)) C dMo_isSize_22 (by decide) ?_
        refine g_goto 27 C dMo_isSize_23 (by decide) ?_
        exact x_zret0 C E dMo_isSize_27 (by decide) ⟨Nat.zero_le _, Nat.zero_le _⟩ h
def F_Mo_isWhat (N : Nat) (O : WO) (I0 : WI) (J0 : WJ) (a0 : Nat) (x1 : Int32) (x2 : Int32) : Option (Int32) := if O a0 3 = none then (some (Int32.ofInt (0))) else (bd1 (F_Mo_in N O I0 J0 x1 (Int32.ofInt (0)) (Int32.ofInt (11))) fun z_11 => if (z_11).toInt = 0 then (some (Int32.ofInt (0))) else (bd1 (F_Mo_in N O I0 J0 x2 (Int32.ofInt (0)) ((I0 (rf O a0 3) 8) + (Int32.ofInt (1)))) fun z_28 => if (z_28).toInt = 0 then (some (Int32.ofInt (0))) else (some (Int32.ofInt (1)))))
set_option maxHeartbeats 4000000 in
set_option maxRecDepth 100000 in
theorem f_Mo_isWhat {P : List Nat} {K : Nat → Nat} {N : Nat} {O : WO} {I0 : WI} {J0 : WJ} (hT : TR P K O) {a0 : Nat} (h0 : a0 ∈ P ∧ K a0 = 10) {x1 : Int32} {x2 : Int32} (hQ3 : ∀ b, O a0 3 = some b → b ∈ P ∧ K b = 9) {r : Int32} (h : F_Mo_isWhat N O I0 J0 a0 x1 x2 = some r) : Con yMo_isWhat bMo_isWhat 3 (some .boolean) ({ frames := 1, cells := 0, slots := 0, locals := 22 } : Room) P K I0 O J0 [.ref a0, .int x1, .int x2] (EPo (some (.int r)) I0 J0 P K O) := by
  refine Con.ofG mfMo_isWhat (Nat.le_of_ble_eq_true rfl) ?_
  intro X C E
  unfold F_Mo_isWhat at h
  refine g_aload_n C dMo_isWhat_0 rfl ?_
  refine x_null 38 C dMo_isWhat_1 dMo_isWhat_4 (by decide) fl_Mo_290 h0 h (fun c_1 h => ?_) (fun c_1 h => ?_)
  · skip
    refine g_iconst (v := Int32.ofInt (0)) C dMo_isWhat_38 (by decide) ?_
    exact x_zret0 C E dMo_isWhat_39 (by decide) ⟨Nat.zero_le _, Nat.zero_le _⟩ h
  · have hN3 : NN P K O a0 3 9 := ⟨c_1, hQ3 _ c_1⟩
    refine g_iload_n C dMo_isWhat_7 rfl ?_
    refine g_iconst (v := Int32.ofInt (0)) C dMo_isWhat_8 (by decide) ?_
    refine g_bipush (v := Int32.ofInt (11)) C dMo_isWhat_9 (by decide) ?_
    obtain ⟨z_11, e_11, h⟩ := bd1_some h
    refine x_callSi (av := fun ad => [.int x1, .int (Int32.ofInt (0)), .int (Int32.ofInt (11))]) C dMo_isWhat_11 mfMo_in msMo_in ln_Mo_149 (f_Mo_in hT  e_11) rfl rfl (Nat.le_of_ble_eq_true rfl) ⟨Nat.le_of_ble_eq_true rfl, Nat.le_of_ble_eq_true rfl⟩ ⟨rfl, rfl⟩ ⟨Nat.zero_le _, Nat.zero_le _⟩ ?_
    refine gt_if_eq 38 C dMo_isWhat_14 (by decide) rfl (fun c_14 => ?_) (fun c_14 => ?_)
    · have h := x_pos c_14 h
      refine g_iconst (v := Int32.ofInt (0)) C dMo_isWhat_38 (by decide) ?_
      exact x_zret0 C E dMo_isWhat_39 (by decide) ⟨Nat.zero_le _, Nat.zero_le _⟩ h
    · have h := x_neg c_14 h
      refine g_iload_n C dMo_isWhat_17 rfl ?_
      refine g_iconst (v := Int32.ofInt (0)) C dMo_isWhat_18 (by decide) ?_
      refine g_aload_n C dMo_isWhat_19 rfl ?_
      refine gt_getS C dMo_isWhat_20 fl_Mo_290 h0 hN3.1 ?_
      refine g_geti C dMo_isWhat_23 fl_Mo_191 hN3.2 ?_
      refine g_iconst (v := Int32.ofInt (1)) C dMo_isWhat_26 (by decide) ?_
      refine g_iadd C dMo_isWhat_27 ?_
      obtain ⟨z_28, e_28, h⟩ := bd1_some h
      refine x_callSi (av := fun ad => [.int x2, .int (Int32.ofInt (0)), .int ((I0 (rf O a0 3) 8) + (Int32.ofInt (1)))]) C dMo_isWhat_28 mfMo_in msMo_in ln_Mo_149 (f_Mo_in hT  e_28) rfl rfl (Nat.le_of_ble_eq_true rfl) ⟨Nat.le_of_ble_eq_true rfl, Nat.le_of_ble_eq_true rfl⟩ ⟨rfl, rfl⟩ ⟨Nat.zero_le _, Nat.zero_le _⟩ ?_
      refine gt_if_eq 38 C dMo_isWhat_31 (by decide) rfl (fun c_31 => ?_) (fun c_31 => ?_)
      · have h := x_pos c_31 h
        refine g_iconst (v := Int32.ofInt (0)) C dMo_isWhat_38 (by decide) ?_
        exact x_zret0 C E dMo_isWhat_39 (by decide) ⟨Nat.zero_le _, Nat.zero_le _⟩ h
      · have h := x_neg c_31 h
        refine g_iconst (v := Int32.ofInt (1)) C dMo_isWhat_34 (by decide) ?_
        refine g_goto 39 C dMo_isWhat_35 (by decide) ?_
        exact x_zret0 C E dMo_isWhat_39 (by decide) ⟨Nat.zero_le _, Nat.zero_le _⟩ h
def B_Mo_feed_23 (N : Nat) (O : WO) (a0 : Nat) (x1 : Int32) (x2 : Int32) (x3 : Int32) (x4 : Int32) (x5 : Int32) (rec_23 : Int32 → WI → Option (Int32 × WI)) (x6_23 : Int32) (I_23 : WI) : Option (Int32 × WI) := if 20 ≤ (x6_23).toInt then (some ((I_23 a0 6), I_23)) else (jn (fun (s0_76 : Int32) => if 0 ≤ ((I_23 a0 6)).toInt ∧ ((I_23 a0 6)).toInt < 700 then (lb (up2 I_23 (rf O a0 5) ((I_23 a0 6)).toInt.toNat (vp_nar .byte ((s0_76 >>> (((Int32.ofInt (24)) - ((Int32.ofInt (8)) * (x6_23 - x6_23 / (Int32.ofInt (4)) * (Int32.ofInt (4))))) &&& 31))).toInt8.toInt32)) fun I2 => lb (up2 I2 a0 6 ((I2 a0 6) + (Int32.ofInt (1)))) fun I3 => lb (x6_23 + Int32.ofInt (1)) fun v6_111 => rec_23 (v6_111) I3) else none) fun k_76 => if 4 ≤ (x6_23).toInt then (if 8 ≤ (x6_23).toInt then (if 12 ≤ (x6_23).toInt then (if 16 ≤ (x6_23).toInt then (k_76 (x5)) else (k_76 (x4))) else (k_76 (x3))) else (k_76 (x2))) else (k_76 (x1)))
def F_Mo_feed (N : Nat) (O : WO) (I0 : WI) (J0 : WJ) (a0 : Nat) (x1 : Int32) (x2 : Int32) (x3 : Int32) (x4 : Int32) (x5 : Int32) : Option (Int32 × WI) := lb (up2 I0 a0 0 (Int32.ofInt (0))) fun I1 => if (((I1 a0 6) + (Int32.ofInt (20)))).toInt ≤ 700 then (lp (B_Mo_feed_23 N O a0 x1 x2 x3 x4 x5) (fun _ _ => none) N ((Int32.ofInt (0))) I1) else (some ((Int32.ofInt (-1)), I1))
set_option maxHeartbeats 4000000 in
set_option maxRecDepth 100000 in
theorem f_Mo_feed {P : List Nat} {K : Nat → Nat} {N : Nat} {O : WO} {I0 : WI} {J0 : WJ} (hT : TR P K O) {a0 : Nat} (h0 : a0 ∈ P ∧ K a0 = 10) {x1 : Int32} {x2 : Int32} {x3 : Int32} {x4 : Int32} {x5 : Int32} {r : Int32} {I' : WI} (h : F_Mo_feed N O I0 J0 a0 x1 x2 x3 x4 x5 = some (r, I')) : Con yMo_feed bMo_feed 8 (some .int) ({ frames := 0, cells := 0, slots := 0, locals := 0 } : Room) P K I0 O J0 [.ref a0, .int x1, .int x2, .int x3, .int x4, .int x5] (EPo (some (.int r)) I' J0 P K O) := by
  refine Con.ofG mfMo_feed (Nat.le_of_ble_eq_true rfl) ?_
  intro X C E
  unfold F_Mo_feed at h
  refine g_aload_n C dMo_feed_0 rfl ?_
  refine g_iconst (v := Int32.ofInt (0)) C dMo_feed_1 (by decide) ?_
  refine x_puti C dMo_feed_2 fl_Mo_73 h0 rfl (Or.inl rfl) h (fun I1 h => ?_)
  refine g_aload_n C dMo_feed_5 rfl ?_
  refine g_geti C dMo_feed_6 fl_Mo_280 h0 ?_
  refine g_bipush (v := Int32.ofInt (20)) C dMo_feed_9 (by decide) ?_
  refine g_iadd C dMo_feed_11 ?_
  refine g_sipush (v := Int32.ofInt (700)) C dMo_feed_12 (by decide) ?_
  refine gt_icmp_le 20 C dMo_feed_15 (by decide) rfl (ofI (by decide)) (fun c_15 => ?_) (fun c_15 => ?_)
  · have h := x_pos c_15 h
    refine g_iconst (v := Int32.ofInt (0)) C dMo_feed_20 (by decide) ?_
    refine g_istore C dMo_feed_21 (by decide) ?_
    have lp_23 : ∀ (x6_23 : Int32) (I_23 : WI), lp (B_Mo_feed_23 N O a0 x1 x2 x3 x4 x5) (fun _ _ => none) N x6_23 I_23 = some (r, I') → GG X 8 P K I_23 O J0 0 0 23 [(0, .ref a0), (1, .int x1), (2, .int x2), (3, .int x3), (4, .int x4), (5, .int x5), (6, .int x6_23)] [] := by
      refine x_lp (fun (rec_23 : Int32 → WI → Option (Int32 × WI)) => ∀ (x6_23 : Int32) (I_23 : WI), rec_23 x6_23 I_23 = some (r, I') → GG X 8 P K I_23 O J0 0 0 23 [(0, .ref a0), (1, .int x1), (2, .int x2), (3, .int x3), (4, .int x4), (5, .int x5), (6, .int x6_23)] []) (fun _ _ h => by cases h) (fun rec_23 hr_23 x6_23 I_23 h => ?_) N
      unfold B_Mo_feed_23 at h
      refine g_iload C dMo_feed_23 rfl ?_
      refine g_bipush (v := Int32.ofInt (20)) C dMo_feed_25 (by decide) ?_
      refine gt_icmp_ge 117 C dMo_feed_27 (by decide) rfl (ofI (by decide)) (fun c_27 => ?_) (fun c_27 => ?_)
      · have h := x_pos c_27 h
        refine g_aload_n C dMo_feed_117 rfl ?_
        refine g_geti C dMo_feed_118 fl_Mo_280 h0 ?_
        exact x_iret1 C E dMo_feed_121 ⟨Nat.zero_le _, Nat.zero_le _⟩ h
      · have h := x_neg (Int.not_le.mpr c_27) h
        refine g_iload C dMo_feed_30 rfl ?_
        refine g_iconst (v := Int32.ofInt (4)) C dMo_feed_32 (by decide) ?_
        refine x_jn h (fun (k_76 : Int32 → Option (Int32 × WI)) => ∀ (s0_76 : Int32), k_76 s0_76 = some (r, I') → GG X 8 P K I_23 O J0 0 0 76 [(0, .ref a0), (1, .int x1), (2, .int x2), (3, .int x3), (4, .int x4), (5, .int x5), (6, .int x6_23)] [.int s0_76]) (fun s0_76 h => ?_) (fun k_76 hk_76 h => ?_)
        · skip
          refine g_istore C dMo_feed_76 (by decide) ?_
          refine g_aload_n C dMo_feed_78 rfl ?_
          have t_79 := rf_ok hT h0 (show sp 10 5 = some 30 from rfl)
          refine x_getr C dMo_feed_79 fl_Mo_13 h0 hT (show sp 10 5 = some 30 from rfl) ?_
          refine g_aload_n C dMo_feed_82 rfl ?_
          refine g_geti C dMo_feed_83 fl_Mo_280 h0 ?_
          refine g_iload C dMo_feed_86 rfl ?_
          refine g_bipush (v := Int32.ofInt (24)) C dMo_feed_88 (by decide) ?_
          refine g_bipush (v := Int32.ofInt (8)) C dMo_feed_90 (by decide) ?_
          refine g_iload C dMo_feed_92 rfl ?_
          refine g_iconst (v := Int32.ofInt (4)) C dMo_feed_94 (by decide) ?_
          refine x_irem C dMo_feed_95 (by decide) ?_
          refine g_imul C dMo_feed_96 ?_
          refine g_isub C dMo_feed_97 ?_
          refine g_ishr C dMo_feed_98 ?_
          refine g_i2b C dMo_feed_99 ?_
          obtain ⟨g_100, h⟩ := x_g h
          refine x_bast (m := 700) C dMo_feed_100 t_79 (by decide) rfl rfl g_100 h (fun I2 h => ?_)
          refine g_aload_n C dMo_feed_101 rfl ?_
          refine g_dup C dMo_feed_102 rfl ?_
          refine g_geti C dMo_feed_103 fl_Mo_280 h0 ?_
          refine g_iconst (v := Int32.ofInt (1)) C dMo_feed_106 (by decide) ?_
          refine g_iadd C dMo_feed_107 ?_
          refine x_puti C dMo_feed_108 fl_Mo_280 h0 rfl (Or.inl rfl) h (fun I3 h => ?_)
          refine x_iinc C dMo_feed_111 rfl (by decide) h (fun v6_111 h => ?_)
          refine g_goto 23 C dMo_feed_114 (by decide) ?_
          exact g_sub (hr_23 (v6_111) I3 h) ⟨rfl, rfl, rfl, rfl, rfl, rfl, rfl, trivial⟩
        refine gt_icmp_ge 40 C dMo_feed_33 (by decide) rfl (ofI (by decide)) (fun c_33 => ?_) (fun c_33 => ?_)
        · have h := x_pos c_33 h
          refine g_iload C dMo_feed_40 rfl ?_
          refine g_bipush (v := Int32.ofInt (8)) C dMo_feed_42 (by decide) ?_
          refine gt_icmp_ge 51 C dMo_feed_44 (by decide) rfl (ofI (by decide)) (fun c_44 => ?_) (fun c_44 => ?_)
          · have h := x_pos c_44 h
            refine g_iload C dMo_feed_51 rfl ?_
            refine g_bipush (v := Int32.ofInt (12)) C dMo_feed_53 (by decide) ?_
            refine gt_icmp_ge 62 C dMo_feed_55 (by decide) rfl (ofI (by decide)) (fun c_55 => ?_) (fun c_55 => ?_)
            · have h := x_pos c_55 h
              refine g_iload C dMo_feed_62 rfl ?_
              refine g_bipush (v := Int32.ofInt (16)) C dMo_feed_64 (by decide) ?_
              refine gt_icmp_ge 74 C dMo_feed_66 (by decide) rfl (ofI (by decide)) (fun c_66 => ?_) (fun c_66 => ?_)
              · have h := x_pos c_66 h
                refine g_iload C dMo_feed_74 rfl ?_
                exact g_sub (hk_76 (x5) h) ⟨rfl, rfl, rfl, rfl, rfl, rfl, rfl, trivial⟩
              · have h := x_neg (Int.not_le.mpr c_66) h
                refine g_iload C dMo_feed_69 rfl ?_
                refine g_goto 76 C dMo_feed_71 (by decide) ?_
                exact g_sub (hk_76 (x4) h) ⟨rfl, rfl, rfl, rfl, rfl, rfl, rfl, trivial⟩
            · have h := x_neg (Int.not_le.mpr c_55) h
              refine g_iload_n C dMo_feed_58 rfl ?_
              refine g_goto 76 C dMo_feed_59 (by decide) ?_
              exact g_sub (hk_76 (x3) h) ⟨rfl, rfl, rfl, rfl, rfl, rfl, rfl, trivial⟩
          · have h := x_neg (Int.not_le.mpr c_44) h
            refine g_iload_n C dMo_feed_47 rfl ?_
            refine g_goto 76 C dMo_feed_48 (by decide) ?_
            exact g_sub (hk_76 (x2) h) ⟨rfl, rfl, rfl, rfl, rfl, rfl, rfl, trivial⟩
        · have h := x_neg (Int.not_le.mpr c_33) h
          refine g_iload_n C dMo_feed_36 rfl ?_
          refine g_goto 76 C dMo_feed_37 (by decide) ?_
          exact g_sub (hk_76 (x1) h) ⟨rfl, rfl, rfl, rfl, rfl, rfl, rfl, trivial⟩
    exact g_sub (lp_23 ((Int32.ofInt (0))) I1 h) ⟨rfl, rfl, rfl, rfl, rfl, rfl, rfl, trivial⟩
  · have h := x_neg (Int.not_le.mpr c_15) h
    refine g_iconst (v := Int32.ofInt (-1)) C dMo_feed_18 (by decide) ?_
    exact x_iret1 C E dMo_feed_19 ⟨Nat.zero_le _, Nat.zero_le _⟩ h
def F_Mo_fault (N : Nat) (O : WO) (I0 : WI) (J0 : WJ) (a0 : Nat) : Option (Int32 × WI) := lb (up2 I0 a0 0 (Int32.ofInt (0))) fun I1 => some ((I1 a0 13), I1)
set_option maxHeartbeats 4000000 in
set_option maxRecDepth 100000 in
theorem f_Mo_fault {P : List Nat} {K : Nat → Nat} {N : Nat} {O : WO} {I0 : WI} {J0 : WJ} (hT : TR P K O) {a0 : Nat} (h0 : a0 ∈ P ∧ K a0 = 10) {r : Int32} {I' : WI} (h : F_Mo_fault N O I0 J0 a0 = some (r, I')) : Con yMo_fault bMo_fault 1 (some .int) ({ frames := 0, cells := 0, slots := 0, locals := 0 } : Room) P K I0 O J0 [.ref a0] (EPo (some (.int r)) I' J0 P K O) := by
  refine Con.ofG mfMo_fault (Nat.le_of_ble_eq_true rfl) ?_
  intro X C E
  unfold F_Mo_fault at h
  refine g_aload_n C dMo_fault_0 rfl ?_
  refine g_iconst (v := Int32.ofInt (0)) C dMo_fault_1 (by decide) ?_
  refine x_puti C dMo_fault_2 fl_Mo_73 h0 rfl (Or.inl rfl) h (fun I1 h => ?_)
  refine g_aload_n C dMo_fault_5 rfl ?_
  refine g_geti C dMo_fault_6 fl_Mo_128 h0 ?_
  exact x_iret1 C E dMo_fault_9 ⟨Nat.zero_le _, Nat.zero_le _⟩ h
def F_Mo_where (N : Nat) (O : WO) (I0 : WI) (J0 : WJ) (a0 : Nat) : Option (Int32 × WI) := lb (up2 I0 a0 0 (Int32.ofInt (0))) fun I1 => some ((I1 a0 2), I1)
set_option maxHeartbeats 4000000 in
set_option maxRecDepth 100000 in
theorem f_Mo_where {P : List Nat} {K : Nat → Nat} {N : Nat} {O : WO} {I0 : WI} {J0 : WJ} (hT : TR P K O) {a0 : Nat} (h0 : a0 ∈ P ∧ K a0 = 10) {r : Int32} {I' : WI} (h : F_Mo_where N O I0 J0 a0 = some (r, I')) : Con yMo_where bMo_where 1 (some .int) ({ frames := 0, cells := 0, slots := 0, locals := 0 } : Room) P K I0 O J0 [.ref a0] (EPo (some (.int r)) I' J0 P K O) := by
  refine Con.ofG mfMo_where (Nat.le_of_ble_eq_true rfl) ?_
  intro X C E
  unfold F_Mo_where at h
  refine g_aload_n C dMo_where_0 rfl ?_
  refine g_iconst (v := Int32.ofInt (0)) C dMo_where_1 (by decide) ?_
  refine x_puti C dMo_where_2 fl_Mo_73 h0 rfl (Or.inl rfl) h (fun I1 h => ?_)
  refine g_aload_n C dMo_where_5 rfl ?_
  refine g_geti C dMo_where_6 fl_Mo_9 h0 ?_
  exact x_iret1 C E dMo_where_9 ⟨Nat.zero_le _, Nat.zero_le _⟩ h
def F_Mo_set (N : Nat) (O : WO) (I0 : WI) (J0 : WJ) (a0 : Nat) (x1 : Int32) (x2 : Int32) (x3 : Int32) : Option (Int32 × WI) := lb (up2 I0 a0 0 (Int32.ofInt (0))) fun I1 => bd1 (F_Mo_isOre N O I1 J0 a0 x3) fun z_7 => if (z_7).toInt = 0 then (bd2 (F_Mo_denied N O I1 J0 a0 (Int32.ofInt (1))) fun z_15 I10 => if (z_15).toInt = 0 ∨ (z_15).toInt = 1 then (some (z_15, I10)) else none) else (bd1 (F_Mo_in N O I1 J0 x1 (Int32.ofInt (0)) (Int32.ofInt (3))) fun z_22 => jn (bd2 (F_Mo_denied N O I1 J0 a0 (Int32.ofInt (2))) fun z_39 I4 => if (z_39).toInt = 0 ∨ (z_39).toInt = 1 then (some (z_39, I4)) else none) fun k_37 => if (z_22).toInt = 0 then (k_37 ) else (bd1 (F_Mo_in N O I1 J0 x2 (Int32.ofInt (0)) (Int32.ofInt (3))) fun z_31 => if (z_31).toInt = 0 then (k_37 ) else (lb (up2 I1 (rf O a0 16) 34 x1) fun I6 => lb (up2 I6 (rf O a0 16) 35 x2) fun I7 => lb (up2 I7 (rf O a0 16) 36 x3) fun I8 => bd2 (F_Mo_granted N O I8 J0 a0) fun z_68 I9 => if (z_68).toInt = 0 ∨ (z_68).toInt = 1 then (some (z_68, I9)) else none)))
set_option maxHeartbeats 4000000 in
set_option maxRecDepth 100000 in
theorem f_Mo_set {P : List Nat} {K : Nat → Nat} {N : Nat} {O : WO} {I0 : WI} {J0 : WJ} (hT : TR P K O) {a0 : Nat} (h0 : a0 ∈ P ∧ K a0 = 10) {x1 : Int32} {x2 : Int32} {x3 : Int32} (hQ3 : ∀ b, O a0 3 = some b → b ∈ P ∧ K b = 9) {r : Int32} {I' : WI} (h : F_Mo_set N O I0 J0 a0 x1 x2 x3 = some (r, I')) : Con yMo_set bMo_set 4 (some .boolean) ({ frames := 1, cells := 0, slots := 0, locals := 22 } : Room) P K I0 O J0 [.ref a0, .int x1, .int x2, .int x3] (EPo (some (.int r)) I' J0 P K O) := by
  refine Con.ofG mfMo_set (Nat.le_of_ble_eq_true rfl) ?_
  intro X C E
  unfold F_Mo_set at h
  refine g_aload_n C dMo_set_0 rfl ?_
  refine g_iconst (v := Int32.ofInt (0)) C dMo_set_1 (by decide) ?_
  refine x_puti C dMo_set_2 fl_Mo_73 h0 rfl (Or.inl rfl) h (fun I1 h => ?_)
  refine g_aload_n C dMo_set_5 rfl ?_
  refine g_iload_n C dMo_set_6 rfl ?_
  obtain ⟨z_7, e_7, h⟩ := bd1_some h
  refine x_callVi (av := fun ad => [.int x3]) C dMo_set_7 mfMo_isOre mvMo_isOre ln_Mo_323 h0 (by decide) rfl (f_Mo_isOre hT h0 hQ3 e_7) rfl rfl (Nat.le_of_ble_eq_true rfl) ⟨Nat.le_of_ble_eq_true rfl, Nat.le_of_ble_eq_true rfl⟩ ⟨rfl, rfl⟩ ⟨Nat.zero_le _, Nat.zero_le _⟩ ?_
  refine gt_if_ne 19 C dMo_set_10 (by decide) rfl (fun c_10 => ?_) (fun c_10 => ?_)
  · have h := x_neg c_10 h
    refine g_iload_n C dMo_set_19 rfl ?_
    refine g_iconst (v := Int32.ofInt (0)) C dMo_set_20 (by decide) ?_
    refine g_iconst (v := Int32.ofInt (3)) C dMo_set_21 (by decide) ?_
    obtain ⟨z_22, e_22, h⟩ := bd1_some h
    refine x_callSi (av := fun ad => [.int x1, .int (Int32.ofInt (0)), .int (Int32.ofInt (3))]) C dMo_set_22 mfMo_in msMo_in ln_Mo_149 (f_Mo_in hT  e_22) rfl rfl (Nat.le_of_ble_eq_true rfl) ⟨Nat.le_of_ble_eq_true rfl, Nat.le_of_ble_eq_true rfl⟩ ⟨rfl, rfl⟩ ⟨Nat.zero_le _, Nat.zero_le _⟩ ?_
    refine x_jn h (fun (k_37 : Option (Int32 × WI)) => k_37  = some (r, I') → GG X 4 P K I1 O J0 0 0 37 [(0, .ref a0), (1, .int x1), (2, .int x2), (3, .int x3)] []) (fun  h => ?_) (fun k_37 hk_37 h => ?_)
    · skip
      refine g_aload_n C dMo_set_37 rfl ?_
      refine g_iconst (v := Int32.ofInt (2)) C dMo_set_38 (by decide) ?_
      obtain ⟨z_39, I4, e_39, h⟩ := bd2_some h
      refine x_callVi (av := fun ad => [.int (Int32.ofInt (2))]) C dMo_set_39 mfMo_denied mvMo_denied ln_Mo_326 h0 (by decide) rfl (f_Mo_denied hT h0 e_39) rfl rfl (Nat.le_of_ble_eq_true rfl) ⟨Nat.le_of_ble_eq_true rfl, Nat.le_of_ble_eq_true rfl⟩ ⟨rfl, rfl⟩ ⟨Nat.zero_le _, Nat.zero_le _⟩ ?_
      obtain ⟨g_42, h⟩ := x_g h
      exact x_zret1 C E dMo_set_42 (x_01 g_42) ⟨Nat.zero_le _, Nat.zero_le _⟩ h
    refine gt_if_eq 37 C dMo_set_25 (by decide) rfl (fun c_25 => ?_) (fun c_25 => ?_)
    · have h := x_pos c_25 h
      exact g_sub (hk_37  h) ⟨rfl, rfl, rfl, rfl, trivial⟩
    · have h := x_neg c_25 h
      refine g_iload_n C dMo_set_28 rfl ?_
      refine g_iconst (v := Int32.ofInt (0)) C dMo_set_29 (by decide) ?_
      refine g_iconst (v := Int32.ofInt (3)) C dMo_set_30 (by decide) ?_
      obtain ⟨z_31, e_31, h⟩ := bd1_some h
      refine x_callSi (av := fun ad => [.int x2, .int (Int32.ofInt (0)), .int (Int32.ofInt (3))]) C dMo_set_31 mfMo_in msMo_in ln_Mo_149 (f_Mo_in hT  e_31) rfl rfl (Nat.le_of_ble_eq_true rfl) ⟨Nat.le_of_ble_eq_true rfl, Nat.le_of_ble_eq_true rfl⟩ ⟨rfl, rfl⟩ ⟨Nat.zero_le _, Nat.zero_le _⟩ ?_
      refine gt_if_ne 43 C dMo_set_34 (by decide) rfl (fun c_34 => ?_) (fun c_34 => ?_)
      · have h := x_neg c_34 h
        refine g_aload_n C dMo_set_43 rfl ?_
        have t_44 := rf_ok hT h0 (show sp 10 16 = some 31 from rfl)
        refine x_getr C dMo_set_44 fl_Mo_17 h0 hT (show sp 10 16 = some 31 from rfl) ?_
        refine g_bipush (v := Int32.ofInt (34)) C dMo_set_47 (by decide) ?_
        refine g_iload_n C dMo_set_49 rfl ?_
        refine x_iastc (m := 37) (c := 34) C dMo_set_50 t_44 (by decide) rfl rfl rfl (by decide) h (fun I6 h => ?_)
        refine g_aload_n C dMo_set_51 rfl ?_
        have t_52 := rf_ok hT h0 (show sp 10 16 = some 31 from rfl)
        refine x_getr C dMo_set_52 fl_Mo_17 h0 hT (show sp 10 16 = some 31 from rfl) ?_
        refine g_bipush (v := Int32.ofInt (35)) C dMo_set_55 (by decide) ?_
        refine g_iload_n C dMo_set_57 rfl ?_
        refine x_iastc (m := 37) (c := 35) C dMo_set_58 t_52 (by decide) rfl rfl rfl (by decide) h (fun I7 h => ?_)
        refine g_aload_n C dMo_set_59 rfl ?_
        have t_60 := rf_ok hT h0 (show sp 10 16 = some 31 from rfl)
        refine x_getr C dMo_set_60 fl_Mo_17 h0 hT (show sp 10 16 = some 31 from rfl) ?_
        refine g_bipush (v := Int32.ofInt (36)) C dMo_set_63 (by decide) ?_
        refine g_iload_n C dMo_set_65 rfl ?_
        refine x_iastc (m := 37) (c := 36) C dMo_set_66 t_60 (by decide) rfl rfl rfl (by decide) h (fun I8 h => ?_)
        refine g_aload_n C dMo_set_67 rfl ?_
        obtain ⟨z_68, I9, e_68, h⟩ := bd2_some h
        refine x_callVi (av := fun ad => []) C dMo_set_68 mfMo_granted mvMo_granted ln_Mo_329 h0 (by decide) rfl (f_Mo_granted hT h0 e_68) rfl rfl (Nat.le_of_ble_eq_true rfl) ⟨Nat.le_of_ble_eq_true rfl, Nat.le_of_ble_eq_true rfl⟩ ⟨rfl, rfl⟩ ⟨Nat.zero_le _, Nat.zero_le _⟩ ?_
        obtain ⟨g_71, h⟩ := x_g h
        exact x_zret1 C E dMo_set_71 (x_01 g_71) ⟨Nat.zero_le _, Nat.zero_le _⟩ h
      · have h := x_pos c_34 h
        exact g_sub (hk_37  h) ⟨rfl, rfl, rfl, rfl, trivial⟩
  · have h := x_pos c_10 h
    refine g_aload_n C dMo_set_13 rfl ?_
    refine g_iconst (v := Int32.ofInt (1)) C dMo_set_14 (by decide) ?_
    obtain ⟨z_15, I10, e_15, h⟩ := bd2_some h
    refine x_callVi (av := fun ad => [.int (Int32.ofInt (1))]) C dMo_set_15 mfMo_denied mvMo_denied ln_Mo_326 h0 (by decide) rfl (f_Mo_denied hT h0 e_15) rfl rfl (Nat.le_of_ble_eq_true rfl) ⟨Nat.le_of_ble_eq_true rfl, Nat.le_of_ble_eq_true rfl⟩ ⟨rfl, rfl⟩ ⟨Nat.zero_le _, Nat.zero_le _⟩ ?_
    obtain ⟨g_18, h⟩ := x_g h
    exact x_zret1 C E dMo_set_18 (x_01 g_18) ⟨Nat.zero_le _, Nat.zero_le _⟩ h
def F_Mo_mend (N : Nat) (O : WO) (I0 : WI) (J0 : WJ) (a0 : Nat) (x1 : Int32) (x2 : Int32) : Option (Int32 × WI) := lb (up2 I0 a0 0 (Int32.ofInt (0))) fun I1 => if O a0 3 = none then (bd2 (F_Mo_denied N O I1 J0 a0 (Int32.ofInt (1))) fun z_14 I2 => if (z_14).toInt = 0 ∨ (z_14).toInt = 1 then (some (z_14, I2)) else none) else (bd1 (F_Mo_in N O I1 J0 x1 (Int32.ofInt (0)) (Int32.ofInt (3))) fun z_21 => if (z_21).toInt = 0 then (bd2 (F_Mo_denied N O I1 J0 a0 (Int32.ofInt (2))) fun z_29 I7 => if (z_29).toInt = 0 ∨ (z_29).toInt = 1 then (some (z_29, I7)) else none) else (lb (up2 I1 (rf O a0 16) 25 x1) fun I4 => jn (fun (IJ_53 : WI) => bd2 (F_Mo_granted N O IJ_53 J0 a0) fun z_54 I5 => if (z_54).toInt = 0 ∨ (z_54).toInt = 1 then (some (z_54, I5)) else none) fun k_53 => if (x2).toInt = 0 then (k_53  I4) else (lb (up2 I4 (rf O a0 16) 24 (Int32.ofInt (0))) fun I6 => k_53  I6)))
set_option maxHeartbeats 4000000 in
set_option maxRecDepth 100000 in
theorem f_Mo_mend {P : List Nat} {K : Nat → Nat} {N : Nat} {O : WO} {I0 : WI} {J0 : WJ} (hT : TR P K O) {a0 : Nat} (h0 : a0 ∈ P ∧ K a0 = 10) {x1 : Int32} {x2 : Int32} (hQ3 : ∀ b, O a0 3 = some b → b ∈ P ∧ K b = 9) {r : Int32} {I' : WI} (h : F_Mo_mend N O I0 J0 a0 x1 x2 = some (r, I')) : Con yMo_mend bMo_mend 3 (some .boolean) ({ frames := 1, cells := 0, slots := 0, locals := 22 } : Room) P K I0 O J0 [.ref a0, .int x1, .int x2] (EPo (some (.int r)) I' J0 P K O) := by
  refine Con.ofG mfMo_mend (Nat.le_of_ble_eq_true rfl) ?_
  intro X C E
  unfold F_Mo_mend at h
  refine g_aload_n C dMo_mend_0 rfl ?_
  refine g_iconst (v := Int32.ofInt (0)) C dMo_mend_1 (by decide) ?_
  refine x_puti C dMo_mend_2 fl_Mo_73 h0 rfl (Or.inl rfl) h (fun I1 h => ?_)
  refine g_aload_n C dMo_mend_5 rfl ?_
  refine x_nonnull 18 C dMo_mend_6 dMo_mend_9 (by decide) fl_Mo_290 h0 h (fun c_6 h => ?_) (fun c_6 h => ?_)
  · skip
    refine g_aload_n C dMo_mend_12 rfl ?_
    refine g_iconst (v := Int32.ofInt (1)) C dMo_mend_13 (by decide) ?_
    obtain ⟨z_14, I2, e_14, h⟩ := bd2_some h
    refine x_callVi (av := fun ad => [.int (Int32.ofInt (1))]) C dMo_mend_14 mfMo_denied mvMo_denied ln_Mo_326 h0 (by decide) rfl (f_Mo_denied hT h0 e_14) rfl rfl (Nat.le_of_ble_eq_true rfl) ⟨Nat.le_of_ble_eq_true rfl, Nat.le_of_ble_eq_true rfl⟩ ⟨rfl, rfl⟩ ⟨Nat.zero_le _, Nat.zero_le _⟩ ?_
    obtain ⟨g_17, h⟩ := x_g h
    exact x_zret1 C E dMo_mend_17 (x_01 g_17) ⟨Nat.zero_le _, Nat.zero_le _⟩ h
  · have hN3 : NN P K O a0 3 9 := ⟨c_6, hQ3 _ c_6⟩
    refine g_iload_n C dMo_mend_18 rfl ?_
    refine g_iconst (v := Int32.ofInt (0)) C dMo_mend_19 (by decide) ?_
    refine g_iconst (v := Int32.ofInt (3)) C dMo_mend_20 (by decide) ?_
    obtain ⟨z_21, e_21, h⟩ := bd1_some h
    refine x_callSi (av := fun ad => [.int x1, .int (Int32.ofInt (0)), .int (Int32.ofInt (3))]) C dMo_mend_21 mfMo_in msMo_in ln_Mo_149 (f_Mo_in hT  e_21) rfl rfl (Nat.le_of_ble_eq_true rfl) ⟨Nat.le_of_ble_eq_true rfl, Nat.le_of_ble_eq_true rfl⟩ ⟨rfl, rfl⟩ ⟨Nat.zero_le _, Nat.zero_le _⟩ ?_
    refine gt_if_ne 33 C dMo_mend_24 (by decide) rfl (fun c_24 => ?_) (fun c_24 => ?_)
    · have h := x_neg c_24 h
      refine g_aload_n C dMo_mend_33 rfl ?_
      have t_34 := rf_ok hT h0 (show sp 10 16 = some 31 from rfl)
      refine x_getr C dMo_mend_34 fl_Mo_17 h0 hT (show sp 10 16 = some 31 from rfl) ?_
      refine g_bipush (v := Int32.ofInt (25)) C dMo_mend_37 (by decide) ?_
      refine g_iload_n C dMo_mend_39 rfl ?_
      refine x_iastc (m := 37) (c := 25) C dMo_mend_40 t_34 (by decide) rfl rfl rfl (by decide) h (fun I4 h => ?_)
      refine g_iload_n C dMo_mend_41 rfl ?_
      refine x_jn h (fun (k_53 : WI → Option (Int32 × WI)) => ∀ (IJ_53 : WI), k_53 IJ_53 = some (r, I') → GG X 3 P K IJ_53 O J0 0 0 53 [(0, .ref a0), (1, .int x1), (2, .int x2)] []) (fun IJ_53 h => ?_) (fun k_53 hk_53 h => ?_)
      · skip
        refine g_aload_n C dMo_mend_53 rfl ?_
        obtain ⟨z_54, I5, e_54, h⟩ := bd2_some h
        refine x_callVi (av := fun ad => []) C dMo_mend_54 mfMo_granted mvMo_granted ln_Mo_329 h0 (by decide) rfl (f_Mo_granted hT h0 e_54) rfl rfl (Nat.le_of_ble_eq_true rfl) ⟨Nat.le_of_ble_eq_true rfl, Nat.le_of_ble_eq_true rfl⟩ ⟨rfl, rfl⟩ ⟨Nat.zero_le _, Nat.zero_le _⟩ ?_
        obtain ⟨g_57, h⟩ := x_g h
        exact x_zret1 C E dMo_mend_57 (x_01 g_57) ⟨Nat.zero_le _, Nat.zero_le _⟩ h
      refine gt_if_eq 53 C dMo_mend_42 (by decide) rfl (fun c_42 => ?_) (fun c_42 => ?_)
      · have h := x_pos c_42 h
        exact g_sub (hk_53  I4 h) ⟨rfl, rfl, rfl, trivial⟩
      · have h := x_neg c_42 h
        refine g_aload_n C dMo_mend_45 rfl ?_
        have t_46 := rf_ok hT h0 (show sp 10 16 = some 31 from rfl)
        refine x_getr C dMo_mend_46 fl_Mo_17 h0 hT (show sp 10 16 = some 31 from rfl) ?_
        refine g_bipush (v := Int32.ofInt (24)) C dMo_mend_49 (by decide) ?_
        refine g_iconst (v := Int32.ofInt (0)) C dMo_mend_51 (by decide) ?_
        refine x_iastc (m := 37) (c := 24) C dMo_mend_52 t_46 (by decide) rfl rfl rfl (by decide) h (fun I6 h => ?_)
        exact g_sub (hk_53  I6 h) ⟨rfl, rfl, rfl, trivial⟩
    · have h := x_pos c_24 h
      refine g_aload_n C dMo_mend_27 rfl ?_
      refine g_iconst (v := Int32.ofInt (2)) C dMo_mend_28 (by decide) ?_
      obtain ⟨z_29, I7, e_29, h⟩ := bd2_some h
      refine x_callVi (av := fun ad => [.int (Int32.ofInt (2))]) C dMo_mend_29 mfMo_denied mvMo_denied ln_Mo_326 h0 (by decide) rfl (f_Mo_denied hT h0 e_29) rfl rfl (Nat.le_of_ble_eq_true rfl) ⟨Nat.le_of_ble_eq_true rfl, Nat.le_of_ble_eq_true rfl⟩ ⟨rfl, rfl⟩ ⟨Nat.zero_le _, Nat.zero_le _⟩ ?_
      obtain ⟨g_32, h⟩ := x_g h
      exact x_zret1 C E dMo_mend_32 (x_01 g_32) ⟨Nat.zero_le _, Nat.zero_le _⟩ h
def B_Mo_go_59 (N : Nat) (O : WO) (a0 : Nat) (x1 : Int32) (J0 : WJ) (rec_59 : Int32 → Int32 → WI → Option (Int32 × WI)) (x2_59 : Int32) (x3_59 : Int32) (I_59 : WI) : Option (Int32 × WI) := if (x1).toInt ≤ (x3_59).toInt then (bd2 (F_Mo_done N O I_59 J0 a0 x2_59) fun z_124 I4 => some (z_124, I4)) else (bd1 (F_Mo_goesS N O I_59 J0 a0 (rf O a0 16)) fun I5 => jn (fun (y2_116 : Int32) (IJ_116 : WI) => lb (x3_59 + Int32.ofInt (1)) fun v3_116 => rec_59 (y2_116) (v3_116) IJ_116) fun k_116 => if ((I5 (rf O a0 16) 26)).toInt = 0 then (lb (x2_59 + Int32.ofInt (1)) fun v2_82 => k_116 (v2_82) I5) else (if 0 ≤ ((I5 a0 18)).toInt ∧ ((I5 a0 18)).toInt < 240 then (lb (up2 I5 (rf O a0 19) ((I5 a0 18)).toInt.toNat ((I5 (rf O a0 16) 27) - (Int32.ofInt (1)))) fun I6 => lb (up2 I6 a0 18 ((I6 a0 18) + (Int32.ofInt (1)))) fun I7 => k_116 (x2_59) I7) else none))
def F_Mo_go (N : Nat) (O : WO) (I0 : WI) (J0 : WJ) (a0 : Nat) (x1 : Int32) : Option (Int32 × WI) := lb (up2 I0 a0 0 (Int32.ofInt (0))) fun I1 => if O a0 3 = none then (bd2 (F_Mo_refused N O I1 J0 a0 (Int32.ofInt (1))) fun z_14 I2 => some (z_14, I2)) else (bd1 (F_Mo_in N O I1 J0 x1 (Int32.ofInt (1)) (Int32.ofInt (24))) fun z_22 => if (z_22).toInt = 0 then (bd2 (F_Mo_refused N O I1 J0 a0 (Int32.ofInt (2))) fun z_30 I9 => some (z_30, I9)) else (if (((I1 (rf O a0 16) 27) + x1)).toInt ≤ 240 then (lp (B_Mo_go_59 N O a0 x1 J0) (fun _ _ _ => none) N ((Int32.ofInt (0))) ((Int32.ofInt (0))) I1) else (bd2 (F_Mo_refused N O I1 J0 a0 (Int32.ofInt (3))) fun z_51 I8 => some (z_51, I8))))
set_option maxHeartbeats 4000000 in
set_option maxRecDepth 100000 in
theorem f_Mo_go {P : List Nat} {K : Nat → Nat} {N : Nat} {O : WO} {I0 : WI} {J0 : WJ} (hT : TR P K O) {a0 : Nat} (h0 : a0 ∈ P ∧ K a0 = 10) {x1 : Int32} (hQ3 : ∀ b, O a0 3 = some b → b ∈ P ∧ K b = 9) {r : Int32} {I' : WI} (h : F_Mo_go N O I0 J0 a0 x1 = some (r, I')) : Con yMo_go bMo_go 4 (some .int) ({ frames := 3, cells := 0, slots := 0, locals := 75 } : Room) P K I0 O J0 [.ref a0, .int x1] (EPo (some (.int r)) I' J0 P K O) := by
  refine Con.ofG mfMo_go (Nat.le_of_ble_eq_true rfl) ?_
  intro X C E
  unfold F_Mo_go at h
  refine g_aload_n C dMo_go_0 rfl ?_
  refine g_iconst (v := Int32.ofInt (0)) C dMo_go_1 (by decide) ?_
  refine x_puti C dMo_go_2 fl_Mo_73 h0 rfl (Or.inl rfl) h (fun I1 h => ?_)
  refine g_aload_n C dMo_go_5 rfl ?_
  refine x_nonnull 18 C dMo_go_6 dMo_go_9 (by decide) fl_Mo_290 h0 h (fun c_6 h => ?_) (fun c_6 h => ?_)
  · skip
    refine g_aload_n C dMo_go_12 rfl ?_
    refine g_iconst (v := Int32.ofInt (1)) C dMo_go_13 (by decide) ?_
    obtain ⟨z_14, I2, e_14, h⟩ := bd2_some h
    refine x_callVi (av := fun ad => [.int (Int32.ofInt (1))]) C dMo_go_14 mfMo_refused mvMo_refused ln_Mo_283 h0 (by decide) rfl (f_Mo_refused hT h0 e_14) rfl rfl (Nat.le_of_ble_eq_true rfl) ⟨Nat.le_of_ble_eq_true rfl, Nat.le_of_ble_eq_true rfl⟩ ⟨rfl, rfl⟩ ⟨Nat.zero_le _, Nat.zero_le _⟩ ?_
    exact x_iret1 C E dMo_go_17 ⟨Nat.zero_le _, Nat.zero_le _⟩ h
  · have hN3 : NN P K O a0 3 9 := ⟨c_6, hQ3 _ c_6⟩
    refine g_iload_n C dMo_go_18 rfl ?_
    refine g_iconst (v := Int32.ofInt (1)) C dMo_go_19 (by decide) ?_
    refine g_bipush (v := Int32.ofInt (24)) C dMo_go_20 (by decide) ?_
    obtain ⟨z_22, e_22, h⟩ := bd1_some h
    refine x_callSi (av := fun ad => [.int x1, .int (Int32.ofInt (1)), .int (Int32.ofInt (24))]) C dMo_go_22 mfMo_in msMo_in ln_Mo_149 (f_Mo_in hT  e_22) rfl rfl (Nat.le_of_ble_eq_true rfl) ⟨Nat.le_of_ble_eq_true rfl, Nat.le_of_ble_eq_true rfl⟩ ⟨rfl, rfl⟩ ⟨Nat.zero_le _, Nat.zero_le _⟩ ?_
    refine gt_if_ne 34 C dMo_go_25 (by decide) rfl (fun c_25 => ?_) (fun c_25 => ?_)
    · have h := x_neg c_25 h
      refine g_aload_n C dMo_go_34 rfl ?_
      have t_35 := rf_ok hT h0 (show sp 10 16 = some 31 from rfl)
      refine x_getr C dMo_go_35 fl_Mo_17 h0 hT (show sp 10 16 = some 31 from rfl) ?_
      refine g_bipush (v := Int32.ofInt (27)) C dMo_go_38 (by decide) ?_
      refine x_ialdc (m := 37) (c := 27) C dMo_go_40 t_35 (by decide) rfl rfl rfl (by decide) ?_
      refine g_iload_n C dMo_go_41 rfl ?_
      refine g_iadd C dMo_go_42 ?_
      refine g_sipush (v := Int32.ofInt (240)) C dMo_go_43 (by decide) ?_
      refine gt_icmp_le 55 C dMo_go_46 (by decide) rfl (ofI (by decide)) (fun c_46 => ?_) (fun c_46 => ?_)
      · have h := x_pos c_46 h
        refine g_iconst (v := Int32.ofInt (0)) C dMo_go_55 (by decide) ?_
        refine g_istore_n (i := 2) C dMo_go_56 rfl (by decide) ?_
        refine g_iconst (v := Int32.ofInt (0)) C dMo_go_57 (by decide) ?_
        refine g_istore_n (i := 3) C dMo_go_58 rfl (by decide) ?_
        have lp_59 : ∀ (x2_59 : Int32) (x3_59 : Int32) (I_59 : WI), lp (B_Mo_go_59 N O a0 x1 J0) (fun _ _ _ => none) N x2_59 x3_59 I_59 = some (r, I') → GG X 4 P K I_59 O J0 0 0 59 [(0, .ref a0), (1, .int x1), (2, .int x2_59), (3, .int x3_59)] [] := by
          refine x_lp (fun (rec_59 : Int32 → Int32 → WI → Option (Int32 × WI)) => ∀ (x2_59 : Int32) (x3_59 : Int32) (I_59 : WI), rec_59 x2_59 x3_59 I_59 = some (r, I') → GG X 4 P K I_59 O J0 0 0 59 [(0, .ref a0), (1, .int x1), (2, .int x2_59), (3, .int x3_59)] []) (fun _ _ _ h => by cases h) (fun rec_59 hr_59 x2_59 x3_59 I_59 h => ?_) N
          unfold B_Mo_go_59 at h
          refine g_iload_n C dMo_go_59 rfl ?_
          refine g_iload_n C dMo_go_60 rfl ?_
          refine gt_icmp_ge 122 C dMo_go_61 (by decide) rfl rfl (fun c_61 => ?_) (fun c_61 => ?_)
          · have h := x_pos c_61 h
            refine g_aload_n C dMo_go_122 rfl ?_
            refine g_iload_n C dMo_go_123 rfl ?_
            obtain ⟨z_124, I4, e_124, h⟩ := bd2_some h
            refine x_callVi (av := fun ad => [.int x2_59]) C dMo_go_124 mfMo_done mvMo_done ln_Mo_302 h0 (by decide) rfl (f_Mo_done hT h0 e_124) rfl rfl (Nat.le_of_ble_eq_true rfl) ⟨Nat.le_of_ble_eq_true rfl, Nat.le_of_ble_eq_true rfl⟩ ⟨rfl, rfl⟩ ⟨Nat.zero_le _, Nat.zero_le _⟩ ?_
            exact x_iret1 C E dMo_go_127 ⟨Nat.zero_le _, Nat.zero_le _⟩ h
          · have h := x_neg (Int.not_le.mpr c_61) h
            refine g_aload_n C dMo_go_64 rfl ?_
            refine g_aload_n C dMo_go_65 rfl ?_
            have t_66 := rf_ok hT h0 (show sp 10 16 = some 31 from rfl)
            refine x_getr C dMo_go_66 fl_Mo_17 h0 hT (show sp 10 16 = some 31 from rfl) ?_
            obtain ⟨I5, e_69, h⟩ := bd1_some h
            refine x_callVv (av := fun ad => [.ref (rf O a0 16)]) C dMo_go_69 mfMo_goes mvMo_goes ln_Mo_332 h0 (by decide) rfl (f_Mo_goesS hT h0 t_66 hN3 e_69) rfl rfl (Nat.le_of_ble_eq_true rfl) ⟨Nat.le_of_ble_eq_true rfl, Nat.le_of_ble_eq_true rfl⟩ ⟨rfl, rfl⟩ ⟨Nat.zero_le _, Nat.zero_le _⟩ ?_
            refine g_aload_n C dMo_go_72 rfl ?_
            have t_73 := rf_ok hT h0 (show sp 10 16 = some 31 from rfl)
            refine x_getr C dMo_go_73 fl_Mo_17 h0 hT (show sp 10 16 = some 31 from rfl) ?_
            refine g_bipush (v := Int32.ofInt (26)) C dMo_go_76 (by decide) ?_
            refine x_ialdc (m := 37) (c := 26) C dMo_go_78 t_73 (by decide) rfl rfl rfl (by decide) ?_
            refine x_jn h (fun (k_116 : Int32 → WI → Option (Int32 × WI)) => ∀ (y2_116 : Int32) (IJ_116 : WI), k_116 y2_116 IJ_116 = some (r, I') → GG X 4 P K IJ_116 O J0 0 0 116 [(0, .ref a0), (1, .int x1), (2, .int y2_116), (3, .int x3_59)] []) (fun y2_116 IJ_116 h => ?_) (fun k_116 hk_116 h => ?_)
            · skip
              refine x_iinc C dMo_go_116 rfl (by decide) h (fun v3_116 h => ?_)
              refine g_goto 59 C dMo_go_119 (by decide) ?_
              exact g_sub (hr_59 (y2_116) (v3_116) IJ_116 h) ⟨rfl, rfl, rfl, rfl, trivial⟩
            refine gt_if_ne 88 C dMo_go_79 (by decide) rfl (fun c_79 => ?_) (fun c_79 => ?_)
            · have h := x_neg c_79 h
              refine g_aload_n C dMo_go_88 rfl ?_
              have t_89 := rf_ok hT h0 (show sp 10 19 = some 32 from rfl)
              refine x_getr C dMo_go_89 fl_Mo_24 h0 hT (show sp 10 19 = some 32 from rfl) ?_
              refine g_aload_n C dMo_go_92 rfl ?_
              refine g_geti C dMo_go_93 fl_Mo_299 h0 ?_
              refine g_aload_n C dMo_go_96 rfl ?_
              have t_97 := rf_ok hT h0 (show sp 10 16 = some 31 from rfl)
              refine x_getr C dMo_go_97 fl_Mo_17 h0 hT (show sp 10 16 = some 31 from rfl) ?_
              refine g_bipush (v := Int32.ofInt (27)) C dMo_go_100 (by decide) ?_
              refine x_ialdc (m := 37) (c := 27) C dMo_go_102 t_97 (by decide) rfl rfl rfl (by decide) ?_
              refine g_iconst (v := Int32.ofInt (1)) C dMo_go_103 (by decide) ?_
              refine g_isub C dMo_go_104 ?_
              obtain ⟨g_105, h⟩ := x_g h
              refine x_iast (m := 240) C dMo_go_105 t_89 (by decide) rfl rfl g_105 h (fun I6 h => ?_)
              refine g_aload_n C dMo_go_106 rfl ?_
              refine g_dup C dMo_go_107 rfl ?_
              refine g_geti C dMo_go_108 fl_Mo_299 h0 ?_
              refine g_iconst (v := Int32.ofInt (1)) C dMo_go_111 (by decide) ?_
              refine g_iadd C dMo_go_112 ?_
              refine x_puti C dMo_go_113 fl_Mo_299 h0 rfl (Or.inl rfl) h (fun I7 h => ?_)
              exact g_sub (hk_116 (x2_59) I7 h) ⟨rfl, rfl, rfl, rfl, trivial⟩
            · have h := x_pos c_79 h
              refine x_iinc C dMo_go_82 rfl (by decide) h (fun v2_82 h => ?_)
              refine g_goto 116 C dMo_go_85 (by decide) ?_
              exact g_sub (hk_116 (v2_82) I5 h) ⟨rfl, rfl, rfl, rfl, trivial⟩
        exact g_sub (lp_59 ((Int32.ofInt (0))) ((Int32.ofInt (0))) I1 h) ⟨rfl, rfl, rfl, rfl, trivial⟩
      · have h := x_neg (Int.not_le.mpr c_46) h
        refine g_aload_n C dMo_go_49 rfl ?_
        refine g_iconst (v := Int32.ofInt (3)) C dMo_go_50 (by decide) ?_
        obtain ⟨z_51, I8, e_51, h⟩ := bd2_some h
        refine x_callVi (av := fun ad => [.int (Int32.ofInt (3))]) C dMo_go_51 mfMo_refused mvMo_refused ln_Mo_283 h0 (by decide) rfl (f_Mo_refused hT h0 e_51) rfl rfl (Nat.le_of_ble_eq_true rfl) ⟨Nat.le_of_ble_eq_true rfl, Nat.le_of_ble_eq_true rfl⟩ ⟨rfl, rfl⟩ ⟨Nat.zero_le _, Nat.zero_le _⟩ ?_
        exact x_iret1 C E dMo_go_54 ⟨Nat.zero_le _, Nat.zero_le _⟩ h
    · have h := x_pos c_25 h
      refine g_aload_n C dMo_go_28 rfl ?_
      refine g_iconst (v := Int32.ofInt (2)) C dMo_go_29 (by decide) ?_
      obtain ⟨z_30, I9, e_30, h⟩ := bd2_some h
      refine x_callVi (av := fun ad => [.int (Int32.ofInt (2))]) C dMo_go_30 mfMo_refused mvMo_refused ln_Mo_283 h0 (by decide) rfl (f_Mo_refused hT h0 e_30) rfl rfl (Nat.le_of_ble_eq_true rfl) ⟨Nat.le_of_ble_eq_true rfl, Nat.le_of_ble_eq_true rfl⟩ ⟨rfl, rfl⟩ ⟨Nat.zero_le _, Nat.zero_le _⟩ ?_
      exact x_iret1 C E dMo_go_33 ⟨Nat.zero_le _, Nat.zero_le _⟩ h
def F_Mo_tons (N : Nat) (O : WO) (I0 : WI) (J0 : WJ) (a0 : Nat) (x1 : Int32) (x2 : Int32) : Option (Int32 × WI) := lb (up2 I0 a0 0 (Int32.ofInt (0))) fun I1 => bd1 (F_Mo_isSize N O I1 J0 a0 x1) fun z_7 => if (z_7).toInt = 0 then (some ((Int32.ofInt (-1)), I1)) else (bd1 (F_Mo_in N O I1 J0 x2 (Int32.ofInt (0)) (Int32.ofInt (3))) fun z_16 => if (z_16).toInt = 0 then (some ((Int32.ofInt (-1)), I1)) else (if (x2).toInt = 0 then (if 0 ≤ (((Int32.ofInt (0)) + x1)).toInt ∧ (((Int32.ofInt (0)) + x1)).toInt < 37 then (some ((I1 (rf O a0 16) (((Int32.ofInt (0)) + x1)).toInt.toNat), I1)) else none) else (if (x2).toInt = 1 then (if 0 ≤ (((Int32.ofInt (5)) + x1)).toInt ∧ (((Int32.ofInt (5)) + x1)).toInt < 37 then (some ((I1 (rf O a0 16) (((Int32.ofInt (5)) + x1)).toInt.toNat), I1)) else none) else (if (x2).toInt = 2 then (if 0 ≤ (((Int32.ofInt (10)) + x1)).toInt ∧ (((Int32.ofInt (10)) + x1)).toInt < 37 then (some ((I1 (rf O a0 16) (((Int32.ofInt (10)) + x1)).toInt.toNat), I1)) else none) else (if 0 ≤ (((Int32.ofInt (15)) + x1)).toInt ∧ (((Int32.ofInt (15)) + x1)).toInt < 37 then (some ((I1 (rf O a0 16) (((Int32.ofInt (15)) + x1)).toInt.toNat), I1)) else none)))))
set_option maxHeartbeats 4000000 in
set_option maxRecDepth 100000 in
theorem f_Mo_tons {P : List Nat} {K : Nat → Nat} {N : Nat} {O : WO} {I0 : WI} {J0 : WJ} (hT : TR P K O) {a0 : Nat} (h0 : a0 ∈ P ∧ K a0 = 10) {x1 : Int32} {x2 : Int32} (hQ3 : ∀ b, O a0 3 = some b → b ∈ P ∧ K b = 9) {r : Int32} {I' : WI} (h : F_Mo_tons N O I0 J0 a0 x1 x2 = some (r, I')) : Con yMo_tons bMo_tons 3 (some .int) ({ frames := 1, cells := 0, slots := 0, locals := 22 } : Room) P K I0 O J0 [.ref a0, .int x1, .int x2] (EPo (some (.int r)) I' J0 P K O) := by
  refine Con.ofG mfMo_tons (Nat.le_of_ble_eq_true rfl) ?_
  intro X C E
  unfold F_Mo_tons at h
  refine g_aload_n C dMo_tons_0 rfl ?_
  refine g_iconst (v := Int32.ofInt (0)) C dMo_tons_1 (by decide) ?_
  refine x_puti C dMo_tons_2 fl_Mo_73 h0 rfl (Or.inl rfl) h (fun I1 h => ?_)
  refine g_aload_n C dMo_tons_5 rfl ?_
  refine g_iload_n C dMo_tons_6 rfl ?_
  obtain ⟨z_7, e_7, h⟩ := bd1_some h
  refine x_callVi (av := fun ad => [.int x1]) C dMo_tons_7 mfMo_isSize mvMo_isSize ln_Mo_335 h0 (by decide) rfl (f_Mo_isSize hT h0 hQ3 e_7) rfl rfl (Nat.le_of_ble_eq_true rfl) ⟨Nat.le_of_ble_eq_true rfl, Nat.le_of_ble_eq_true rfl⟩ ⟨rfl, rfl⟩ ⟨Nat.zero_le _, Nat.zero_le _⟩ ?_
  refine gt_if_eq 22 C dMo_tons_10 (by decide) rfl (fun c_10 => ?_) (fun c_10 => ?_)
  · have h := x_pos c_10 h
    refine g_iconst (v := Int32.ofInt (-1)) C dMo_tons_22 (by decide) ?_
    exact x_iret1 C E dMo_tons_23 ⟨Nat.zero_le _, Nat.zero_le _⟩ h
  · have h := x_neg c_10 h
    refine g_iload_n C dMo_tons_13 rfl ?_
    refine g_iconst (v := Int32.ofInt (0)) C dMo_tons_14 (by decide) ?_
    refine g_iconst (v := Int32.ofInt (3)) C dMo_tons_15 (by decide) ?_
    obtain ⟨z_16, e_16, h⟩ := bd1_some h
    refine x_callSi (av := fun ad => [.int x2, .int (Int32.ofInt (0)), .int (Int32.ofInt (3))]) C dMo_tons_16 mfMo_in msMo_in ln_Mo_149 (f_Mo_in hT  e_16) rfl rfl (Nat.le_of_ble_eq_true rfl) ⟨Nat.le_of_ble_eq_true rfl, Nat.le_of_ble_eq_true rfl⟩ ⟨rfl, rfl⟩ ⟨Nat.zero_le _, Nat.zero_le _⟩ ?_
    refine gt_if_ne 24 C dMo_tons_19 (by decide) rfl (fun c_19 => ?_) (fun c_19 => ?_)
    · have h := x_neg c_19 h
      refine g_aload_n C dMo_tons_24 rfl ?_
      have t_25 := rf_ok hT h0 (show sp 10 16 = some 31 from rfl)
      refine x_getr C dMo_tons_25 fl_Mo_17 h0 hT (show sp 10 16 = some 31 from rfl) ?_
      refine g_iload_n C dMo_tons_28 rfl ?_
      refine gt_if_ne 36 C dMo_tons_29 (by decide) rfl (fun c_29 => ?_) (fun c_29 => ?_)
      · have h := x_neg c_29 h
        refine g_iload_n C dMo_tons_36 rfl ?_
        refine g_iconst (v := Int32.ofInt (1)) C dMo_tons_37 (by decide) ?_
        refine gt_icmp_ne 45 C dMo_tons_38 (by decide) rfl (ofI (by decide)) (fun c_38 => ?_) (fun c_38 => ?_)
        · have h := x_neg c_38 h
          refine g_iload_n C dMo_tons_45 rfl ?_
          refine g_iconst (v := Int32.ofInt (2)) C dMo_tons_46 (by decide) ?_
          refine gt_icmp_ne 55 C dMo_tons_47 (by decide) rfl (ofI (by decide)) (fun c_47 => ?_) (fun c_47 => ?_)
          · have h := x_neg c_47 h
            refine g_bipush (v := Int32.ofInt (15)) C dMo_tons_55 (by decide) ?_
            refine g_iload_n C dMo_tons_57 rfl ?_
            refine g_iadd C dMo_tons_58 ?_
            obtain ⟨g_59, h⟩ := x_g h
            refine x_iald (m := 37) C dMo_tons_59 t_25 (by decide) rfl rfl g_59 ?_
            exact x_iret1 C E dMo_tons_60 ⟨Nat.zero_le _, Nat.zero_le _⟩ h
          · have h := x_pos c_47 h
            refine g_bipush (v := Int32.ofInt (10)) C dMo_tons_50 (by decide) ?_
            refine g_goto 57 C dMo_tons_52 (by decide) ?_
            refine g_iload_n C dMo_tons_57 rfl ?_
            refine g_iadd C dMo_tons_58 ?_
            obtain ⟨g_59, h⟩ := x_g h
            refine x_iald (m := 37) C dMo_tons_59 t_25 (by decide) rfl rfl g_59 ?_
            exact x_iret1 C E dMo_tons_60 ⟨Nat.zero_le _, Nat.zero_le _⟩ h
        · have h := x_pos c_38 h
          refine g_iconst (v := Int32.ofInt (5)) C dMo_tons_41 (by decide) ?_
          refine g_goto 57 C dMo_tons_42 (by decide) ?_
          refine g_iload_n C dMo_tons_57 rfl ?_
          refine g_iadd C dMo_tons_58 ?_
          obtain ⟨g_59, h⟩ := x_g h
          refine x_iald (m := 37) C dMo_tons_59 t_25 (by decide) rfl rfl g_59 ?_
          exact x_iret1 C E dMo_tons_60 ⟨Nat.zero_le _, Nat.zero_le _⟩ h
      · have h := x_pos c_29 h
        refine g_iconst (v := Int32.ofInt (0)) C dMo_tons_32 (by decide) ?_
        refine g_goto 57 C dMo_tons_33 (by decide) ?_
        refine g_iload_n C dMo_tons_57 rfl ?_
        refine g_iadd C dMo_tons_58 ?_
        obtain ⟨g_59, h⟩ := x_g h
        refine x_iald (m := 37) C dMo_tons_59 t_25 (by decide) rfl rfl g_59 ?_
        exact x_iret1 C E dMo_tons_60 ⟨Nat.zero_le _, Nat.zero_le _⟩ h
    · have h := x_pos c_19 h
      refine g_iconst (v := Int32.ofInt (-1)) C dMo_tons_22 (by decide) ?_
      exact x_iret1 C E dMo_tons_23 ⟨Nat.zero_le _, Nat.zero_le _⟩ h
def F_Mo_state (N : Nat) (O : WO) (I0 : WI) (J0 : WJ) (a0 : Nat) (x1 : Int32) : Option (Int32 × WI) := lb (up2 I0 a0 0 (Int32.ofInt (0))) fun I1 => bd1 (F_Mo_in N O I1 J0 x1 (Int32.ofInt (0)) (Int32.ofInt (16))) fun z_9 => if (z_9).toInt = 0 then (some ((Int32.ofInt (-1)), I1)) else (if 0 ≤ (((Int32.ofInt (20)) + x1)).toInt ∧ (((Int32.ofInt (20)) + x1)).toInt < 37 then (some ((I1 (rf O a0 16) (((Int32.ofInt (20)) + x1)).toInt.toNat), I1)) else none)
set_option maxHeartbeats 4000000 in
set_option maxRecDepth 100000 in
theorem f_Mo_state {P : List Nat} {K : Nat → Nat} {N : Nat} {O : WO} {I0 : WI} {J0 : WJ} (hT : TR P K O) {a0 : Nat} (h0 : a0 ∈ P ∧ K a0 = 10) {x1 : Int32} {r : Int32} {I' : WI} (h : F_Mo_state N O I0 J0 a0 x1 = some (r, I')) : Con yMo_state bMo_state 2 (some .int) ({ frames := 1, cells := 0, slots := 0, locals := 22 } : Room) P K I0 O J0 [.ref a0, .int x1] (EPo (some (.int r)) I' J0 P K O) := by
  refine Con.ofG mfMo_state (Nat.le_of_ble_eq_true rfl) ?_
  intro X C E
  unfold F_Mo_state at h
  refine g_aload_n C dMo_state_0 rfl ?_
  refine g_iconst (v := Int32.ofInt (0)) C dMo_state_1 (by decide) ?_
  refine x_puti C dMo_state_2 fl_Mo_73 h0 rfl (Or.inl rfl) h (fun I1 h => ?_)
  refine g_iload_n C dMo_state_5 rfl ?_
  refine g_iconst (v := Int32.ofInt (0)) C dMo_state_6 (by decide) ?_
  refine g_bipush (v := Int32.ofInt (16)) C dMo_state_7 (by decide) ?_
  obtain ⟨z_9, e_9, h⟩ := bd1_some h
  refine x_callSi (av := fun ad => [.int x1, .int (Int32.ofInt (0)), .int (Int32.ofInt (16))]) C dMo_state_9 mfMo_in msMo_in ln_Mo_149 (f_Mo_in hT  e_9) rfl rfl (Nat.le_of_ble_eq_true rfl) ⟨Nat.le_of_ble_eq_true rfl, Nat.le_of_ble_eq_true rfl⟩ ⟨rfl, rfl⟩ ⟨Nat.zero_le _, Nat.zero_le _⟩ ?_
  refine gt_if_eq 27 C dMo_state_12 (by decide) rfl (fun c_12 => ?_) (fun c_12 => ?_)
  · have h := x_pos c_12 h
    refine g_iconst (v := Int32.ofInt (-1)) C dMo_state_27 (by decide) ?_
    exact x_iret1 C E dMo_state_28 ⟨Nat.zero_le _, Nat.zero_le _⟩ h
  · have h := x_neg c_12 h
    refine g_aload_n C dMo_state_15 rfl ?_
    have t_16 := rf_ok hT h0 (show sp 10 16 = some 31 from rfl)
    refine x_getr C dMo_state_16 fl_Mo_17 h0 hT (show sp 10 16 = some 31 from rfl) ?_
    refine g_bipush (v := Int32.ofInt (20)) C dMo_state_19 (by decide) ?_
    refine g_iload_n C dMo_state_21 rfl ?_
    refine g_iadd C dMo_state_22 ?_
    obtain ⟨g_23, h⟩ := x_g h
    refine x_iald (m := 37) C dMo_state_23 t_16 (by decide) rfl rfl g_23 ?_
    refine g_goto 28 C dMo_state_24 (by decide) ?_
    exact x_iret1 C E dMo_state_28 ⟨Nat.zero_le _, Nat.zero_le _⟩ h
def F_Mo_program (N : Nat) (O : WO) (I0 : WI) (J0 : WJ) (a0 : Nat) (x1 : Int32) (x2 : Int32) (x3 : Int32) (x4 : Int32) : Option (Int32 × WI) := lb (up2 I0 a0 0 (Int32.ofInt (0))) fun I1 => bd1 (F_Mo_in N O I1 J0 x1 (Int32.ofInt (0)) (Int32.ofInt (11))) fun z_9 => jn (bd2 (F_Mo_denied N O I1 J0 a0 (Int32.ofInt (1))) fun z_26 I3 => if (z_26).toInt = 0 ∨ (z_26).toInt = 1 then (some (z_26, I3)) else none) fun k_24 => if (z_9).toInt = 0 then (k_24 ) else (bd1 (F_Mo_isOre N O I1 J0 a0 x4) fun z_18 => if (z_18).toInt = 0 then (k_24 ) else (bd1 (F_Mo_in N O I1 J0 x2 (Int32.ofInt (0)) (Int32.ofInt (3))) fun z_33 => jn (bd2 (F_Mo_denied N O I1 J0 a0 (Int32.ofInt (2))) fun z_50 I6 => if (z_50).toInt = 0 ∨ (z_50).toInt = 1 then (some (z_50, I6)) else none) fun k_48 => if (z_33).toInt = 0 then (k_48 ) else (bd1 (F_Mo_in N O I1 J0 x3 (Int32.ofInt (0)) (Int32.ofInt (3))) fun z_42 => if (z_42).toInt = 0 then (k_48 ) else (if 0 ≤ (x1).toInt ∧ (x1).toInt < 12 then (lb (up2 I1 (rf O a0 20) (x1).toInt.toNat x2) fun I8 => if 0 ≤ (x1).toInt ∧ (x1).toInt < 12 then (lb (up2 I8 (rf O a0 21) (x1).toInt.toNat x3) fun I9 => if 0 ≤ (x1).toInt ∧ (x1).toInt < 12 then (lb (up2 I9 (rf O a0 22) (x1).toInt.toNat x4) fun I10 => bd2 (F_Mo_granted N O I10 J0 a0) fun z_77 I11 => if (z_77).toInt = 0 ∨ (z_77).toInt = 1 then (some (z_77, I11)) else none) else none) else none) else none))))
set_option maxHeartbeats 4000000 in
set_option maxRecDepth 100000 in
theorem f_Mo_program {P : List Nat} {K : Nat → Nat} {N : Nat} {O : WO} {I0 : WI} {J0 : WJ} (hT : TR P K O) {a0 : Nat} (h0 : a0 ∈ P ∧ K a0 = 10) {x1 : Int32} {x2 : Int32} {x3 : Int32} {x4 : Int32} (hQ3 : ∀ b, O a0 3 = some b → b ∈ P ∧ K b = 9) {r : Int32} {I' : WI} (h : F_Mo_program N O I0 J0 a0 x1 x2 x3 x4 = some (r, I')) : Con yMo_program bMo_program 5 (some .boolean) ({ frames := 1, cells := 0, slots := 0, locals := 22 } : Room) P K I0 O J0 [.ref a0, .int x1, .int x2, .int x3, .int x4] (EPo (some (.int r)) I' J0 P K O) := by
  refine Con.ofG mfMo_program (Nat.le_of_ble_eq_true rfl) ?_
  intro X C E
  unfold F_Mo_program at h
  refine g_aload_n C dMo_program_0 rfl ?_
  refine g_iconst (v := Int32.ofInt (0)) C dMo_program_1 (by decide) ?_
  refine x_puti C dMo_program_2 fl_Mo_73 h0 rfl (Or.inl rfl) h (fun I1 h => ?_)
  refine g_iload_n C dMo_program_5 rfl ?_
  refine g_iconst (v := Int32.ofInt (0)) C dMo_program_6 (by decide) ?_
  refine g_bipush (v := Int32.ofInt (11)) C dMo_program_7 (by decide) ?_
  obtain ⟨z_9, e_9, h⟩ := bd1_some h
  refine x_callSi (av := fun ad => [.int x1, .int (Int32.ofInt (0)), .int (Int32.ofInt (11))]) C dMo_program_9 mfMo_in msMo_in ln_Mo_149 (f_Mo_in hT  e_9) rfl rfl (Nat.le_of_ble_eq_true rfl) ⟨Nat.le_of_ble_eq_true rfl, Nat.le_of_ble_eq_true rfl⟩ ⟨rfl, rfl⟩ ⟨Nat.zero_le _, Nat.zero_le _⟩ ?_
  refine x_jn h (fun (k_24 : Option (Int32 × WI)) => k_24  = some (r, I') → GG X 5 P K I1 O J0 0 0 24 [(0, .ref a0), (1, .int x1), (2, .int x2), (3, .int x3), (4, .int x4)] []) (fun  h => ?_) (fun k_24 hk_24 h => ?_)
  · skip
    refine g_aload_n C dMo_program_24 rfl ?_
    refine g_iconst (v := Int32.ofInt (1)) C dMo_program_25 (by decide) ?_
    obtain ⟨z_26, I3, e_26, h⟩ := bd2_some h
    refine x_callVi (av := fun ad => [.int (Int32.ofInt (1))]) C dMo_program_26 mfMo_denied mvMo_denied ln_Mo_326 h0 (by decide) rfl (f_Mo_denied hT h0 e_26) rfl rfl (Nat.le_of_ble_eq_true rfl) ⟨Nat.le_of_ble_eq_true rfl, Nat.le_of_ble_eq_true rfl⟩ ⟨rfl, rfl⟩ ⟨Nat.zero_le _, Nat.zero_le _⟩ ?_
    obtain ⟨g_29, h⟩ := x_g h
    exact x_zret1 C E dMo_program_29 (x_01 g_29) ⟨Nat.zero_le _, Nat.zero_le _⟩ h
  refine gt_if_eq 24 C dMo_program_12 (by decide) rfl (fun c_12 => ?_) (fun c_12 => ?_)
  · have h := x_pos c_12 h
    exact g_sub (hk_24  h) ⟨rfl, rfl, rfl, rfl, rfl, trivial⟩
  · have h := x_neg c_12 h
    refine g_aload_n C dMo_program_15 rfl ?_
    refine g_iload C dMo_program_16 rfl ?_
    obtain ⟨z_18, e_18, h⟩ := bd1_some h
    refine x_callVi (av := fun ad => [.int x4]) C dMo_program_18 mfMo_isOre mvMo_isOre ln_Mo_323 h0 (by decide) rfl (f_Mo_isOre hT h0 hQ3 e_18) rfl rfl (Nat.le_of_ble_eq_true rfl) ⟨Nat.le_of_ble_eq_true rfl, Nat.le_of_ble_eq_true rfl⟩ ⟨rfl, rfl⟩ ⟨Nat.zero_le _, Nat.zero_le _⟩ ?_
    refine gt_if_ne 30 C dMo_program_21 (by decide) rfl (fun c_21 => ?_) (fun c_21 => ?_)
    · have h := x_neg c_21 h
      refine g_iload_n C dMo_program_30 rfl ?_
      refine g_iconst (v := Int32.ofInt (0)) C dMo_program_31 (by decide) ?_
      refine g_iconst (v := Int32.ofInt (3)) C dMo_program_32 (by decide) ?_
      obtain ⟨z_33, e_33, h⟩ := bd1_some h
      refine x_callSi (av := fun ad => [.int x2, .int (Int32.ofInt (0)), .int (Int32.ofInt (3))]) C dMo_program_33 mfMo_in msMo_in ln_Mo_149 (f_Mo_in hT  e_33) rfl rfl (Nat.le_of_ble_eq_true rfl) ⟨Nat.le_of_ble_eq_true rfl, Nat.le_of_ble_eq_true rfl⟩ ⟨rfl, rfl⟩ ⟨Nat.zero_le _, Nat.zero_le _⟩ ?_
      refine x_jn h (fun (k_48 : Option (Int32 × WI)) => k_48  = some (r, I') → GG X 5 P K I1 O J0 0 0 48 [(0, .ref a0), (1, .int x1), (2, .int x2), (3, .int x3), (4, .int x4)] []) (fun  h => ?_) (fun k_48 hk_48 h => ?_)
      · skip
        refine g_aload_n C dMo_program_48 rfl ?_
        refine g_iconst (v := Int32.ofInt (2)) C dMo_program_49 (by decide) ?_
        obtain ⟨z_50, I6, e_50, h⟩ := bd2_some h
        refine x_callVi (av := fun ad => [.int (Int32.ofInt (2))]) C dMo_program_50 mfMo_denied mvMo_denied ln_Mo_326 h0 (by decide) rfl (f_Mo_denied hT h0 e_50) rfl rfl (Nat.le_of_ble_eq_true rfl) ⟨Nat.le_of_ble_eq_true rfl, Nat.le_of_ble_eq_true rfl⟩ ⟨rfl, rfl⟩ ⟨Nat.zero_le _, Nat.zero_le _⟩ ?_
        obtain ⟨g_53, h⟩ := x_g h
        exact x_zret1 C E dMo_program_53 (x_01 g_53) ⟨Nat.zero_le _, Nat.zero_le _⟩ h
      refine gt_if_eq 48 C dMo_program_36 (by decide) rfl (fun c_36 => ?_) (fun c_36 => ?_)
      · have h := x_pos c_36 h
        exact g_sub (hk_48  h) ⟨rfl, rfl, rfl, rfl, rfl, trivial⟩
      · have h := x_neg c_36 h
        refine g_iload_n C dMo_program_39 rfl ?_
        refine g_iconst (v := Int32.ofInt (0)) C dMo_program_40 (by decide) ?_
        refine g_iconst (v := Int32.ofInt (3)) C dMo_program_41 (by decide) ?_
        obtain ⟨z_42, e_42, h⟩ := bd1_some h
        refine x_callSi (av := fun ad => [.int x3, .int (Int32.ofInt (0)), .int (Int32.ofInt (3))]) C dMo_program_42 mfMo_in msMo_in ln_Mo_149 (f_Mo_in hT  e_42) rfl rfl (Nat.le_of_ble_eq_true rfl) ⟨Nat.le_of_ble_eq_true rfl, Nat.le_of_ble_eq_true rfl⟩ ⟨rfl, rfl⟩ ⟨Nat.zero_le _, Nat.zero_le _⟩ ?_
        refine gt_if_ne 54 C dMo_program_45 (by decide) rfl (fun c_45 => ?_) (fun c_45 => ?_)
        · have h := x_neg c_45 h
          refine g_aload_n C dMo_program_54 rfl ?_
          have t_55 := rf_ok hT h0 (show sp 10 20 = some 33 from rfl)
          refine x_getr C dMo_program_55 fl_Mo_27 h0 hT (show sp 10 20 = some 33 from rfl) ?_
          refine g_iload_n C dMo_program_58 rfl ?_
          refine g_iload_n C dMo_program_59 rfl ?_
          obtain ⟨g_60, h⟩ := x_g h
          refine x_iast (m := 12) C dMo_program_60 t_55 (by decide) rfl rfl g_60 h (fun I8 h => ?_)
          refine g_aload_n C dMo_program_61 rfl ?_
          have t_62 := rf_ok hT h0 (show sp 10 21 = some 33 from rfl)
          refine x_getr C dMo_program_62 fl_Mo_30 h0 hT (show sp 10 21 = some 33 from rfl) ?_
          refine g_iload_n C dMo_program_65 rfl ?_
          refine g_iload_n C dMo_program_66 rfl ?_
          obtain ⟨g_67, h⟩ := x_g h
          refine x_iast (m := 12) C dMo_program_67 t_62 (by decide) rfl rfl g_67 h (fun I9 h => ?_)
          refine g_aload_n C dMo_program_68 rfl ?_
          have t_69 := rf_ok hT h0 (show sp 10 22 = some 34 from rfl)
          refine x_getr C dMo_program_69 fl_Mo_33 h0 hT (show sp 10 22 = some 34 from rfl) ?_
          refine g_iload_n C dMo_program_72 rfl ?_
          refine g_iload C dMo_program_73 rfl ?_
          obtain ⟨g_75, h⟩ := x_g h
          refine x_iast (m := 12) C dMo_program_75 t_69 (by decide) rfl rfl g_75 h (fun I10 h => ?_)
          refine g_aload_n C dMo_program_76 rfl ?_
          obtain ⟨z_77, I11, e_77, h⟩ := bd2_some h
          refine x_callVi (av := fun ad => []) C dMo_program_77 mfMo_granted mvMo_granted ln_Mo_329 h0 (by decide) rfl (f_Mo_granted hT h0 e_77) rfl rfl (Nat.le_of_ble_eq_true rfl) ⟨Nat.le_of_ble_eq_true rfl, Nat.le_of_ble_eq_true rfl⟩ ⟨rfl, rfl⟩ ⟨Nat.zero_le _, Nat.zero_le _⟩ ?_
          obtain ⟨g_80, h⟩ := x_g h
          exact x_zret1 C E dMo_program_80 (x_01 g_80) ⟨Nat.zero_le _, Nat.zero_le _⟩ h
        · have h := x_pos c_45 h
          exact g_sub (hk_48  h) ⟨rfl, rfl, rfl, rfl, rfl, trivial⟩
    · have h := x_pos c_21 h
      exact g_sub (hk_24  h) ⟨rfl, rfl, rfl, rfl, rfl, trivial⟩
def F_Mo_seen (N : Nat) (O : WO) (I0 : WI) (J0 : WJ) (a0 : Nat) (x1 : Int32) (x2 : Int32) (x3 : Int32) (x4 : Int32) : Option (Int32 × WI) := lb (up2 I0 a0 0 (Int32.ofInt (0))) fun I1 => bd1 (F_Mo_isWhat N O I1 J0 a0 x1 x2) fun z_8 => if (z_8).toInt = 0 then (bd2 (F_Mo_refused N O I1 J0 a0 (Int32.ofInt (1))) fun z_16 I13 => some (z_16, I13)) else (bd1 (F_Mo_in N O I1 J0 x3 (Int32.ofInt (0)) (Int32.ofInt (999999))) fun z_25 => jn (bd2 (F_Mo_refused N O I1 J0 a0 (Int32.ofInt (2))) fun z_45 I4 => some (z_45, I4)) fun k_43 => if (z_25).toInt = 0 then (k_43 ) else (bd1 (F_Mo_in N O I1 J0 x4 (Int32.ofInt (0)) (Int32.ofInt (999))) fun z_37 => if (z_37).toInt = 0 then (k_43 ) else (if ((I1 a0 23)).toInt = 24 then (bd2 (F_Mo_refused N O I1 J0 a0 (Int32.ofInt (3))) fun z_60 I12 => some (z_60, I12)) else (if 0 ≤ ((I1 a0 23)).toInt ∧ ((I1 a0 23)).toInt < 24 then (lb (up2 I1 (rf O a0 24) ((I1 a0 23)).toInt.toNat x1) fun I6 => if 0 ≤ ((I6 a0 23)).toInt ∧ ((I6 a0 23)).toInt < 24 then (lb (up2 I6 (rf O a0 25) ((I6 a0 23)).toInt.toNat x2) fun I7 => if 0 ≤ ((I7 a0 23)).toInt ∧ ((I7 a0 23)).toInt < 24 then (lb (up2 I7 (rf O a0 26) ((I7 a0 23)).toInt.toNat x3) fun I8 => if 0 ≤ ((I8 a0 23)).toInt ∧ ((I8 a0 23)).toInt < 24 then (lb (up2 I8 (rf O a0 27) ((I8 a0 23)).toInt.toNat x4) fun I9 => lb (up2 I9 a0 23 ((I9 a0 23) + (Int32.ofInt (1)))) fun I10 => bd2 (F_Mo_done N O I10 J0 a0 (I10 a0 23)) fun z_120 I11 => some (z_120, I11)) else none) else none) else none) else none))))
set_option maxHeartbeats 4000000 in
set_option maxRecDepth 100000 in
theorem f_Mo_seen {P : List Nat} {K : Nat → Nat} {N : Nat} {O : WO} {I0 : WI} {J0 : WJ} (hT : TR P K O) {a0 : Nat} (h0 : a0 ∈ P ∧ K a0 = 10) {x1 : Int32} {x2 : Int32} {x3 : Int32} {x4 : Int32} (hQ3 : ∀ b, O a0 3 = some b → b ∈ P ∧ K b = 9) {r : Int32} {I' : WI} (h : F_Mo_seen N O I0 J0 a0 x1 x2 x3 x4 = some (r, I')) : Con yMo_seen bMo_seen 5 (some .int) ({ frames := 2, cells := 0, slots := 0, locals := 44 } : Room) P K I0 O J0 [.ref a0, .int x1, .int x2, .int x3, .int x4] (EPo (some (.int r)) I' J0 P K O) := by
  refine Con.ofG mfMo_seen (Nat.le_of_ble_eq_true rfl) ?_
  intro X C E
  unfold F_Mo_seen at h
  refine g_aload_n C dMo_seen_0 rfl ?_
  refine g_iconst (v := Int32.ofInt (0)) C dMo_seen_1 (by decide) ?_
  refine x_puti C dMo_seen_2 fl_Mo_73 h0 rfl (Or.inl rfl) h (fun I1 h => ?_)
  refine g_aload_n C dMo_seen_5 rfl ?_
  refine g_iload_n C dMo_seen_6 rfl ?_
  refine g_iload_n C dMo_seen_7 rfl ?_
  obtain ⟨z_8, e_8, h⟩ := bd1_some h
  refine x_callVi (av := fun ad => [.int x1, .int x2]) C dMo_seen_8 mfMo_isWhat mvMo_isWhat ln_Mo_338 h0 (by decide) rfl (f_Mo_isWhat hT h0 hQ3 e_8) rfl rfl (Nat.le_of_ble_eq_true rfl) ⟨Nat.le_of_ble_eq_true rfl, Nat.le_of_ble_eq_true rfl⟩ ⟨rfl, rfl⟩ ⟨Nat.zero_le _, Nat.zero_le _⟩ ?_
  refine gt_if_ne 20 C dMo_seen_11 (by decide) rfl (fun c_11 => ?_) (fun c_11 => ?_)
  · have h := x_neg c_11 h
    refine g_iload_n C dMo_seen_20 rfl ?_
    refine g_iconst (v := Int32.ofInt (0)) C dMo_seen_21 (by decide) ?_
    refine g_ldcw (v := Int32.ofInt (999999)) C dMo_seen_22 k_Mo_342 ?_
    obtain ⟨z_25, e_25, h⟩ := bd1_some h
    refine x_callSi (av := fun ad => [.int x3, .int (Int32.ofInt (0)), .int (Int32.ofInt (999999))]) C dMo_seen_25 mfMo_in msMo_in ln_Mo_149 (f_Mo_in hT  e_25) rfl rfl (Nat.le_of_ble_eq_true rfl) ⟨Nat.le_of_ble_eq_true rfl, Nat.le_of_ble_eq_true rfl⟩ ⟨rfl, rfl⟩ ⟨Nat.zero_le _, Nat.zero_le _⟩ ?_
    refine x_jn h (fun (k_43 : Option (Int32 × WI)) => k_43  = some (r, I') → GG X 5 P K I1 O J0 0 0 43 [(0, .ref a0), (1, .int x1), (2, .int x2), (3, .int x3), (4, .int x4)] []) (fun  h => ?_) (fun k_43 hk_43 h => ?_)
    · skip
      refine g_aload_n C dMo_seen_43 rfl ?_
      refine g_iconst (v := Int32.ofInt (2)) C dMo_seen_44 (by decide) ?_
      obtain ⟨z_45, I4, e_45, h⟩ := bd2_some h
      refine x_callVi (av := fun ad => [.int (Int32.ofInt (2))]) C dMo_seen_45 mfMo_refused mvMo_refused ln_Mo_283 h0 (by decide) rfl (f_Mo_refused hT h0 e_45) rfl rfl (Nat.le_of_ble_eq_true rfl) ⟨Nat.le_of_ble_eq_true rfl, Nat.le_of_ble_eq_true rfl⟩ ⟨rfl, rfl⟩ ⟨Nat.zero_le _, Nat.zero_le _⟩ ?_
      exact x_iret1 C E dMo_seen_48 ⟨Nat.zero_le _, Nat.zero_le _⟩ h
    refine gt_if_eq 43 C dMo_seen_28 (by decide) rfl (fun c_28 => ?_) (fun c_28 => ?_)
    · have h := x_pos c_28 h
      exact g_sub (hk_43  h) ⟨rfl, rfl, rfl, rfl, rfl, trivial⟩
    · have h := x_neg c_28 h
      refine g_iload C dMo_seen_31 rfl ?_
      refine g_iconst (v := Int32.ofInt (0)) C dMo_seen_33 (by decide) ?_
      refine g_sipush (v := Int32.ofInt (999)) C dMo_seen_34 (by decide) ?_
      obtain ⟨z_37, e_37, h⟩ := bd1_some h
      refine x_callSi (av := fun ad => [.int x4, .int (Int32.ofInt (0)), .int (Int32.ofInt (999))]) C dMo_seen_37 mfMo_in msMo_in ln_Mo_149 (f_Mo_in hT  e_37) rfl rfl (Nat.le_of_ble_eq_true rfl) ⟨Nat.le_of_ble_eq_true rfl, Nat.le_of_ble_eq_true rfl⟩ ⟨rfl, rfl⟩ ⟨Nat.zero_le _, Nat.zero_le _⟩ ?_
      refine gt_if_ne 49 C dMo_seen_40 (by decide) rfl (fun c_40 => ?_) (fun c_40 => ?_)
      · have h := x_neg c_40 h
        refine g_aload_n C dMo_seen_49 rfl ?_
        refine g_geti C dMo_seen_50 fl_Mo_293 h0 ?_
        refine g_bipush (v := Int32.ofInt (24)) C dMo_seen_53 (by decide) ?_
        refine gt_icmp_ne 64 C dMo_seen_55 (by decide) rfl (ofI (by decide)) (fun c_55 => ?_) (fun c_55 => ?_)
        · have h := x_neg c_55 h
          refine g_aload_n C dMo_seen_64 rfl ?_
          have t_65 := rf_ok hT h0 (show sp 10 24 = some 35 from rfl)
          refine x_getr C dMo_seen_65 fl_Mo_36 h0 hT (show sp 10 24 = some 35 from rfl) ?_
          refine g_aload_n C dMo_seen_68 rfl ?_
          refine g_geti C dMo_seen_69 fl_Mo_293 h0 ?_
          refine g_iload_n C dMo_seen_72 rfl ?_
          obtain ⟨g_73, h⟩ := x_g h
          refine x_iast (m := 24) C dMo_seen_73 t_65 (by decide) rfl rfl g_73 h (fun I6 h => ?_)
          refine g_aload_n C dMo_seen_74 rfl ?_
          have t_75 := rf_ok hT h0 (show sp 10 25 = some 36 from rfl)
          refine x_getr C dMo_seen_75 fl_Mo_39 h0 hT (show sp 10 25 = some 36 from rfl) ?_
          refine g_aload_n C dMo_seen_78 rfl ?_
          refine g_geti C dMo_seen_79 fl_Mo_293 h0 ?_
          refine g_iload_n C dMo_seen_82 rfl ?_
          obtain ⟨g_83, h⟩ := x_g h
          refine x_iast (m := 24) C dMo_seen_83 t_75 (by decide) rfl rfl g_83 h (fun I7 h => ?_)
          refine g_aload_n C dMo_seen_84 rfl ?_
          have t_85 := rf_ok hT h0 (show sp 10 26 = some 35 from rfl)
          refine x_getr C dMo_seen_85 fl_Mo_42 h0 hT (show sp 10 26 = some 35 from rfl) ?_
          refine g_aload_n C dMo_seen_88 rfl ?_
          refine g_geti C dMo_seen_89 fl_Mo_293 h0 ?_
          refine g_iload_n C dMo_seen_92 rfl ?_
          obtain ⟨g_93, h⟩ := x_g h
          refine x_iast (m := 24) C dMo_seen_93 t_85 (by decide) rfl rfl g_93 h (fun I8 h => ?_)
          refine g_aload_n C dMo_seen_94 rfl ?_
          have t_95 := rf_ok hT h0 (show sp 10 27 = some 35 from rfl)
          refine x_getr C dMo_seen_95 fl_Mo_45 h0 hT (show sp 10 27 = some 35 from rfl) ?_
          refine g_aload_n C dMo_seen_98 rfl ?_
          refine g_geti C dMo_seen_99 fl_Mo_293 h0 ?_
          refine g_iload C dMo_seen_102 rfl ?_
          obtain ⟨g_104, h⟩ := x_g h
          refine x_iast (m := 24) C dMo_seen_104 t_95 (by decide) rfl rfl g_104 h (fun I9 h => ?_)
          refine g_aload_n C dMo_seen_105 rfl ?_
          refine g_dup C dMo_seen_106 rfl ?_
          refine g_geti C dMo_seen_107 fl_Mo_293 h0 ?_
          refine g_iconst (v := Int32.ofInt (1)) C dMo_seen_110 (by decide) ?_
          refine g_iadd C dMo_seen_111 ?_
          refine x_puti C dMo_seen_112 fl_Mo_293 h0 rfl (Or.inl rfl) h (fun I10 h => ?_)
          refine g_aload_n C dMo_seen_115 rfl ?_
          refine g_aload_n C dMo_seen_116 rfl ?_
          refine g_geti C dMo_seen_117 fl_Mo_293 h0 ?_
          obtain ⟨z_120, I11, e_120, h⟩ := bd2_some h
          refine x_callVi (av := fun ad => [.int (I10 a0 23)]) C dMo_seen_120 mfMo_done mvMo_done ln_Mo_302 h0 (by decide) rfl (f_Mo_done hT h0 e_120) rfl rfl (Nat.le_of_ble_eq_true rfl) ⟨Nat.le_of_ble_eq_true rfl, Nat.le_of_ble_eq_true rfl⟩ ⟨rfl, rfl⟩ ⟨Nat.zero_le _, Nat.zero_le _⟩ ?_
          exact x_iret1 C E dMo_seen_123 ⟨Nat.zero_le _, Nat.zero_le _⟩ h
        · have h := x_pos c_55 h
          refine g_aload_n C dMo_seen_58 rfl ?_
          refine g_iconst (v := Int32.ofInt (3)) C dMo_seen_59 (by decide) ?_
          obtain ⟨z_60, I12, e_60, h⟩ := bd2_some h
          refine x_callVi (av := fun ad => [.int (Int32.ofInt (3))]) C dMo_seen_60 mfMo_refused mvMo_refused ln_Mo_283 h0 (by decide) rfl (f_Mo_refused hT h0 e_60) rfl rfl (Nat.le_of_ble_eq_true rfl) ⟨Nat.le_of_ble_eq_true rfl, Nat.le_of_ble_eq_true rfl⟩ ⟨rfl, rfl⟩ ⟨Nat.zero_le _, Nat.zero_le _⟩ ?_
          exact x_iret1 C E dMo_seen_63 ⟨Nat.zero_le _, Nat.zero_le _⟩ h
      · have h := x_pos c_40 h
        exact g_sub (hk_43  h) ⟨rfl, rfl, rfl, rfl, rfl, trivial⟩
  · have h := x_pos c_11 h
    refine g_aload_n C dMo_seen_14 rfl ?_
    refine g_iconst (v := Int32.ofInt (1)) C dMo_seen_15 (by decide) ?_
    obtain ⟨z_16, I13, e_16, h⟩ := bd2_some h
    refine x_callVi (av := fun ad => [.int (Int32.ofInt (1))]) C dMo_seen_16 mfMo_refused mvMo_refused ln_Mo_283 h0 (by decide) rfl (f_Mo_refused hT h0 e_16) rfl rfl (Nat.le_of_ble_eq_true rfl) ⟨Nat.le_of_ble_eq_true rfl, Nat.le_of_ble_eq_true rfl⟩ ⟨rfl, rfl⟩ ⟨Nat.zero_le _, Nat.zero_le _⟩ ?_
    exact x_iret1 C E dMo_seen_19 ⟨Nat.zero_le _, Nat.zero_le _⟩ h
def F_Mo_forget (N : Nat) (O : WO) (I0 : WI) (J0 : WJ) (a0 : Nat) : Option (Int32 × WI) := lb (up2 I0 a0 0 (Int32.ofInt (0))) fun I1 => lb ((I1 a0 23)) fun v1_9 => lb (up2 I1 a0 23 (Int32.ofInt (0))) fun I2 => some (v1_9, I2)
set_option maxHeartbeats 4000000 in
set_option maxRecDepth 100000 in
theorem f_Mo_forget {P : List Nat} {K : Nat → Nat} {N : Nat} {O : WO} {I0 : WI} {J0 : WJ} (hT : TR P K O) {a0 : Nat} (h0 : a0 ∈ P ∧ K a0 = 10) {r : Int32} {I' : WI} (h : F_Mo_forget N O I0 J0 a0 = some (r, I')) : Con yMo_forget bMo_forget 2 (some .int) ({ frames := 0, cells := 0, slots := 0, locals := 0 } : Room) P K I0 O J0 [.ref a0] (EPo (some (.int r)) I' J0 P K O) := by
  refine Con.ofG mfMo_forget (Nat.le_of_ble_eq_true rfl) ?_
  intro X C E
  unfold F_Mo_forget at h
  refine g_aload_n C dMo_forget_0 rfl ?_
  refine g_iconst (v := Int32.ofInt (0)) C dMo_forget_1 (by decide) ?_
  refine x_puti C dMo_forget_2 fl_Mo_73 h0 rfl (Or.inl rfl) h (fun I1 h => ?_)
  refine g_aload_n C dMo_forget_5 rfl ?_
  refine g_geti C dMo_forget_6 fl_Mo_293 h0 ?_
  refine x_istore_n (i := 1) C dMo_forget_9 rfl (by decide) h (fun v1_9 h => ?_)
  refine g_aload_n C dMo_forget_10 rfl ?_
  refine g_iconst (v := Int32.ofInt (0)) C dMo_forget_11 (by decide) ?_
  refine x_puti C dMo_forget_12 fl_Mo_293 h0 rfl (Or.inl rfl) h (fun I2 h => ?_)
  refine g_iload_n C dMo_forget_15 rfl ?_
  exact x_iret1 C E dMo_forget_16 ⟨Nat.zero_le _, Nat.zero_le _⟩ h
def F_Mo_fits (N : Nat) (O : WO) (I0 : WI) (J0 : WJ) (a0 : Nat) : Option (Int32 × WI) := lb (up2 I0 a0 0 (Int32.ofInt (0))) fun I1 => if O a0 3 = none then (bd2 (F_Mo_refused N O I1 J0 a0 (Int32.ofInt (1))) fun z_14 I2 => some (z_14, I2)) else (bd2 (F_Mo_allFits N O I1 J0 a0 (Int32.ofInt (-1)) (Int32.ofInt (-1))) fun z_24 I3 => bd2 (F_Mo_done N O I3 J0 a0 z_24) fun z_27 I4 => some (z_27, I4))
set_option maxHeartbeats 4000000 in
set_option maxRecDepth 100000 in
theorem f_Mo_fits {P : List Nat} {K : Nat → Nat} {N : Nat} {O : WO} {I0 : WI} {J0 : WJ} (hT : TR P K O) {a0 : Nat} (h0 : a0 ∈ P ∧ K a0 = 10) (hQ3 : ∀ b, O a0 3 = some b → b ∈ P ∧ K b = 9) {r : Int32} {I' : WI} (h : F_Mo_fits N O I0 J0 a0 = some (r, I')) : Con yMo_fits bMo_fits 1 (some .int) ({ frames := 6, cells := 0, slots := 0, locals := 147 } : Room) P K I0 O J0 [.ref a0] (EPo (some (.int r)) I' J0 P K O) := by
  refine Con.ofG mfMo_fits (Nat.le_of_ble_eq_true rfl) ?_
  intro X C E
  unfold F_Mo_fits at h
  refine g_aload_n C dMo_fits_0 rfl ?_
  refine g_iconst (v := Int32.ofInt (0)) C dMo_fits_1 (by decide) ?_
  refine x_puti C dMo_fits_2 fl_Mo_73 h0 rfl (Or.inl rfl) h (fun I1 h => ?_)
  refine g_aload_n C dMo_fits_5 rfl ?_
  refine x_nonnull 20 C dMo_fits_6 dMo_fits_9 (by decide) fl_Mo_290 h0 h (fun c_6 h => ?_) (fun c_6 h => ?_)
  · skip
    refine g_aload_n C dMo_fits_12 rfl ?_
    refine g_iconst (v := Int32.ofInt (1)) C dMo_fits_13 (by decide) ?_
    obtain ⟨z_14, I2, e_14, h⟩ := bd2_some h
    refine x_callVi (av := fun ad => [.int (Int32.ofInt (1))]) C dMo_fits_14 mfMo_refused mvMo_refused ln_Mo_283 h0 (by decide) rfl (f_Mo_refused hT h0 e_14) rfl rfl (Nat.le_of_ble_eq_true rfl) ⟨Nat.le_of_ble_eq_true rfl, Nat.le_of_ble_eq_true rfl⟩ ⟨rfl, rfl⟩ ⟨Nat.zero_le _, Nat.zero_le _⟩ ?_
    refine g_goto 30 C dMo_fits_17 (by decide) ?_
    exact x_iret1 C E dMo_fits_30 ⟨Nat.zero_le _, Nat.zero_le _⟩ h
  · have hN3 : NN P K O a0 3 9 := ⟨c_6, hQ3 _ c_6⟩
    refine g_aload_n C dMo_fits_20 rfl ?_
    refine g_aload_n C dMo_fits_21 rfl ?_
    refine g_iconst (v := Int32.ofInt (-1)) C dMo_fits_22 (by decide) ?_
    refine g_iconst (v := Int32.ofInt (-1)) C dMo_fits_23 (by decide) ?_
    obtain ⟨z_24, I3, e_24, h⟩ := bd2_some h
    refine x_callVi (av := fun ad => [.int (Int32.ofInt (-1)), .int (Int32.ofInt (-1))]) C dMo_fits_24 mfMo_allFits mvMo_allFits ln_Mo_360 h0 (by decide) rfl (f_Mo_allFits hT h0 hN3 e_24) rfl rfl (Nat.le_of_ble_eq_true rfl) ⟨Nat.le_of_ble_eq_true rfl, Nat.le_of_ble_eq_true rfl⟩ ⟨rfl, rfl⟩ ⟨Nat.zero_le _, Nat.zero_le _⟩ ?_
    obtain ⟨z_27, I4, e_27, h⟩ := bd2_some h
    refine x_callVi (av := fun ad => [.int z_24]) C dMo_fits_27 mfMo_done mvMo_done ln_Mo_302 h0 (by decide) rfl (f_Mo_done hT h0 e_27) rfl rfl (Nat.le_of_ble_eq_true rfl) ⟨Nat.le_of_ble_eq_true rfl, Nat.le_of_ble_eq_true rfl⟩ ⟨rfl, rfl⟩ ⟨Nat.zero_le _, Nat.zero_le _⟩ ?_
    exact x_iret1 C E dMo_fits_30 ⟨Nat.zero_le _, Nat.zero_le _⟩ h
def F_Mo_fitAt (N : Nat) (O : WO) (I0 : WI) (J0 : WJ) (a0 : Nat) (x1 : Int32) (x2 : Int32) : Option (Int32 × WI) := lb (up2 I0 a0 0 (Int32.ofInt (0))) fun I1 => jn (bd2 (F_Mo_refused N O I1 J0 a0 (Int32.ofInt (1))) fun z_23 I2 => some (z_23, I2)) fun k_21 => if O a0 3 = none then (k_21 ) else (bd1 (F_Mo_in N O I1 J0 x2 (Int32.ofInt (0)) (Int32.ofInt (2))) fun z_15 => if (z_15).toInt = 0 then (k_21 ) else (bd2 (F_Mo_allFits N O I1 J0 a0 (Int32.ofInt (-1)) (Int32.ofInt (-1))) fun z_30 I4 => jn (fun (IJ_60 : WI) => bd2 (F_Mo_refused N O IJ_60 J0 a0 (Int32.ofInt (1))) fun z_62 I5 => some (z_62, I5)) fun k_60 => if (x1).toInt < 0 then (k_60  I4) else (if (z_30).toInt ≤ (x1).toInt then (k_60  I4) else (if 0 ≤ (x1).toInt ∧ (x1).toInt < 100 then (bd1 (F_Mo_partOf N O I4 J0 (I4 (rf O a0 28) (x1).toInt.toNat) x2) fun z_51 => bd2 (F_Mo_done N O I4 J0 a0 z_51) fun z_54 I7 => some (z_54, I7)) else none))))
set_option maxHeartbeats 4000000 in
set_option maxRecDepth 100000 in
theorem f_Mo_fitAt {P : List Nat} {K : Nat → Nat} {N : Nat} {O : WO} {I0 : WI} {J0 : WJ} (hT : TR P K O) {a0 : Nat} (h0 : a0 ∈ P ∧ K a0 = 10) {x1 : Int32} {x2 : Int32} (hQ3 : ∀ b, O a0 3 = some b → b ∈ P ∧ K b = 9) {r : Int32} {I' : WI} (h : F_Mo_fitAt N O I0 J0 a0 x1 x2 = some (r, I')) : Con yMo_fitAt bMo_fitAt 4 (some .int) ({ frames := 6, cells := 0, slots := 0, locals := 147 } : Room) P K I0 O J0 [.ref a0, .int x1, .int x2] (EPo (some (.int r)) I' J0 P K O) := by
  refine Con.ofG mfMo_fitAt (Nat.le_of_ble_eq_true rfl) ?_
  intro X C E
  unfold F_Mo_fitAt at h
  refine g_aload_n C dMo_fitAt_0 rfl ?_
  refine g_iconst (v := Int32.ofInt (0)) C dMo_fitAt_1 (by decide) ?_
  refine x_puti C dMo_fitAt_2 fl_Mo_73 h0 rfl (Or.inl rfl) h (fun I1 h => ?_)
  refine g_aload_n C dMo_fitAt_5 rfl ?_
  refine x_jn h (fun (k_21 : Option (Int32 × WI)) => k_21  = some (r, I') → GG X 4 P K I1 O J0 0 0 21 [(0, .ref a0), (1, .int x1), (2, .int x2)] []) (fun  h => ?_) (fun k_21 hk_21 h => ?_)
  · skip
    refine g_aload_n C dMo_fitAt_21 rfl ?_
    refine g_iconst (v := Int32.ofInt (1)) C dMo_fitAt_22 (by decide) ?_
    obtain ⟨z_23, I2, e_23, h⟩ := bd2_some h
    refine x_callVi (av := fun ad => [.int (Int32.ofInt (1))]) C dMo_fitAt_23 mfMo_refused mvMo_refused ln_Mo_283 h0 (by decide) rfl (f_Mo_refused hT h0 e_23) rfl rfl (Nat.le_of_ble_eq_true rfl) ⟨Nat.le_of_ble_eq_true rfl, Nat.le_of_ble_eq_true rfl⟩ ⟨rfl, rfl⟩ ⟨Nat.zero_le _, Nat.zero_le _⟩ ?_
    exact x_iret1 C E dMo_fitAt_26 ⟨Nat.zero_le _, Nat.zero_le _⟩ h
  refine x_null 21 C dMo_fitAt_6 dMo_fitAt_9 (by decide) fl_Mo_290 h0 h (fun c_6 h => ?_) (fun c_6 h => ?_)
  · skip
    exact g_sub (hk_21  h) ⟨rfl, rfl, rfl, trivial⟩
  · have hN3 : NN P K O a0 3 9 := ⟨c_6, hQ3 _ c_6⟩
    refine g_iload_n C dMo_fitAt_12 rfl ?_
    refine g_iconst (v := Int32.ofInt (0)) C dMo_fitAt_13 (by decide) ?_
    refine g_iconst (v := Int32.ofInt (2)) C dMo_fitAt_14 (by decide) ?_
    obtain ⟨z_15, e_15, h⟩ := bd1_some h
    refine x_callSi (av := fun ad => [.int x2, .int (Int32.ofInt (0)), .int (Int32.ofInt (2))]) C dMo_fitAt_15 mfMo_in msMo_in ln_Mo_149 (f_Mo_in hT  e_15) rfl rfl (Nat.le_of_ble_eq_true rfl) ⟨Nat.le_of_ble_eq_true rfl, Nat.le_of_ble_eq_true rfl⟩ ⟨rfl, rfl⟩ ⟨Nat.zero_le _, Nat.zero_le _⟩ ?_
    refine gt_if_ne 27 C dMo_fitAt_18 (by decide) rfl (fun c_18 => ?_) (fun c_18 => ?_)
    · have h := x_neg c_18 h
      refine g_aload_n C dMo_fitAt_27 rfl ?_
      refine g_iconst (v := Int32.ofInt (-1)) C dMo_fitAt_28 (by decide) ?_
      refine g_iconst (v := Int32.ofInt (-1)) C dMo_fitAt_29 (by decide) ?_
      obtain ⟨z_30, I4, e_30, h⟩ := bd2_some h
      refine x_callVi (av := fun ad => [.int (Int32.ofInt (-1)), .int (Int32.ofInt (-1))]) C dMo_fitAt_30 mfMo_allFits mvMo_allFits ln_Mo_360 h0 (by decide) rfl (f_Mo_allFits hT h0 hN3 e_30) rfl rfl (Nat.le_of_ble_eq_true rfl) ⟨Nat.le_of_ble_eq_true rfl, Nat.le_of_ble_eq_true rfl⟩ ⟨rfl, rfl⟩ ⟨Nat.zero_le _, Nat.zero_le _⟩ ?_
      refine g_istore_n (i := 3) C dMo_fitAt_33 rfl (by decide) ?_
      refine g_iload_n C dMo_fitAt_34 rfl ?_
      refine x_jn h (fun (k_60 : WI → Option (Int32 × WI)) => ∀ (IJ_60 : WI), k_60 IJ_60 = some (r, I') → GG X 4 P K IJ_60 O J0 0 0 60 [(0, .ref a0), (1, .int x1), (2, .int x2), (3, .int z_30)] []) (fun IJ_60 h => ?_) (fun k_60 hk_60 h => ?_)
      · skip
        refine g_aload_n C dMo_fitAt_60 rfl ?_
        refine g_iconst (v := Int32.ofInt (1)) C dMo_fitAt_61 (by decide) ?_
        obtain ⟨z_62, I5, e_62, h⟩ := bd2_some h
        refine x_callVi (av := fun ad => [.int (Int32.ofInt (1))]) C dMo_fitAt_62 mfMo_refused mvMo_refused ln_Mo_283 h0 (by decide) rfl (f_Mo_refused hT h0 e_62) rfl rfl (Nat.le_of_ble_eq_true rfl) ⟨Nat.le_of_ble_eq_true rfl, Nat.le_of_ble_eq_true rfl⟩ ⟨rfl, rfl⟩ ⟨Nat.zero_le _, Nat.zero_le _⟩ ?_
        exact x_iret1 C E dMo_fitAt_65 ⟨Nat.zero_le _, Nat.zero_le _⟩ h
      refine gt_if_lt 60 C dMo_fitAt_35 (by decide) rfl (fun c_35 => ?_) (fun c_35 => ?_)
      · have h := x_pos c_35 h
        exact g_sub (hk_60  I4 h) ⟨rfl, rfl, rfl, rfl, trivial⟩
      · have h := x_neg (Int.not_lt.mpr c_35) h
        refine g_iload_n C dMo_fitAt_38 rfl ?_
        refine g_iload_n C dMo_fitAt_39 rfl ?_
        refine gt_icmp_ge 60 C dMo_fitAt_40 (by decide) rfl rfl (fun c_40 => ?_) (fun c_40 => ?_)
        · have h := x_pos c_40 h
          exact g_sub (hk_60  I4 h) ⟨rfl, rfl, rfl, rfl, trivial⟩
        · have h := x_neg (Int.not_le.mpr c_40) h
          refine g_aload_n C dMo_fitAt_43 rfl ?_
          refine g_aload_n C dMo_fitAt_44 rfl ?_
          have t_45 := rf_ok hT h0 (show sp 10 28 = some 37 from rfl)
          refine x_getr C dMo_fitAt_45 fl_Mo_48 h0 hT (show sp 10 28 = some 37 from rfl) ?_
          refine g_iload_n C dMo_fitAt_48 rfl ?_
          obtain ⟨g_49, h⟩ := x_g h
          refine x_iald (m := 100) C dMo_fitAt_49 t_45 (by decide) rfl rfl g_49 ?_
          refine g_iload_n C dMo_fitAt_50 rfl ?_
          obtain ⟨z_51, e_51, h⟩ := bd1_some h
          refine x_callSi (av := fun ad => [.int (I4 (rf O a0 28) (x1).toInt.toNat), .int x2]) C dMo_fitAt_51 mfMo_partOf msMo_partOf ln_Mo_363 (f_Mo_partOf hT  e_51) rfl rfl (Nat.le_of_ble_eq_true rfl) ⟨Nat.le_of_ble_eq_true rfl, Nat.le_of_ble_eq_true rfl⟩ ⟨rfl, rfl⟩ ⟨Nat.zero_le _, Nat.zero_le _⟩ ?_
          obtain ⟨z_54, I7, e_54, h⟩ := bd2_some h
          refine x_callVi (av := fun ad => [.int z_51]) C dMo_fitAt_54 mfMo_done mvMo_done ln_Mo_302 h0 (by decide) rfl (f_Mo_done hT h0 e_54) rfl rfl (Nat.le_of_ble_eq_true rfl) ⟨Nat.le_of_ble_eq_true rfl, Nat.le_of_ble_eq_true rfl⟩ ⟨rfl, rfl⟩ ⟨Nat.zero_le _, Nat.zero_le _⟩ ?_
          refine g_goto 65 C dMo_fitAt_57 (by decide) ?_
          exact x_iret1 C E dMo_fitAt_65 ⟨Nat.zero_le _, Nat.zero_le _⟩ h
    · have h := x_pos c_18 h
      exact g_sub (hk_21  h) ⟨rfl, rfl, rfl, trivial⟩
def B_Mo_certain_47 (N : Nat) (O : WO) (a0 : Nat) (x1 : Int32) (J0 : WJ) (z_30 : Int32) (rec_47 : Int32 → WI → Option (Int32 × WI)) (x3_47 : Int32) (I_47 : WI) : Option (Int32 × WI) := if (z_30).toInt ≤ (x3_47).toInt then (bd1 (F_Mo_partOf N O I_47 J0 (I_47 (rf O a0 28) 0) x1) fun z_96 => bd2 (F_Mo_done N O I_47 J0 a0 z_96) fun z_99 I6 => some (z_99, I6)) else (if 0 ≤ (x3_47).toInt ∧ (x3_47).toInt < 100 then (bd1 (F_Mo_partOf N O I_47 J0 (I_47 (rf O a0 28) (x3_47).toInt.toNat) x1) fun z_59 => bd1 (F_Mo_partOf N O I_47 J0 (I_47 (rf O a0 28) 0) x1) fun z_69 => if (z_59).toInt = (z_69).toInt then (lb (x3_47 + Int32.ofInt (1)) fun v3_82 => rec_47 (v3_82) I_47) else (bd2 (F_Mo_done N O I_47 J0 a0 (Int32.ofInt (-2))) fun z_78 I9 => some (z_78, I9))) else none)
def F_Mo_certain (N : Nat) (O : WO) (I0 : WI) (J0 : WJ) (a0 : Nat) (x1 : Int32) : Option (Int32 × WI) := lb (up2 I0 a0 0 (Int32.ofInt (0))) fun I1 => jn (bd2 (F_Mo_refused N O I1 J0 a0 (Int32.ofInt (1))) fun z_23 I2 => some (z_23, I2)) fun k_21 => if O a0 3 = none then (k_21 ) else (bd1 (F_Mo_in N O I1 J0 x1 (Int32.ofInt (0)) (Int32.ofInt (2))) fun z_15 => if (z_15).toInt = 0 then (k_21 ) else (bd2 (F_Mo_allFits N O I1 J0 a0 (Int32.ofInt (-1)) (Int32.ofInt (-1))) fun z_30 I4 => if (z_30).toInt = 0 then (bd2 (F_Mo_refused N O I4 J0 a0 (Int32.ofInt (6))) fun z_41 I10 => some (z_41, I10)) else (lp (B_Mo_certain_47 N O a0 x1 J0 z_30) (fun _ _ => none) N ((Int32.ofInt (1))) I4)))
set_option maxHeartbeats 4000000 in
set_option maxRecDepth 100000 in
theorem f_Mo_certain {P : List Nat} {K : Nat → Nat} {N : Nat} {O : WO} {I0 : WI} {J0 : WJ} (hT : TR P K O) {a0 : Nat} (h0 : a0 ∈ P ∧ K a0 = 10) {x1 : Int32} (hQ3 : ∀ b, O a0 3 = some b → b ∈ P ∧ K b = 9) {r : Int32} {I' : WI} (h : F_Mo_certain N O I0 J0 a0 x1 = some (r, I')) : Con yMo_certain bMo_certain 4 (some .int) ({ frames := 6, cells := 0, slots := 0, locals := 147 } : Room) P K I0 O J0 [.ref a0, .int x1] (EPo (some (.int r)) I' J0 P K O) := by
  refine Con.ofG mfMo_certain (Nat.le_of_ble_eq_true rfl) ?_
  intro X C E
  unfold F_Mo_certain at h
  refine g_aload_n C dMo_certain_0 rfl ?_
  refine g_iconst (v := Int32.ofInt (0)) C dMo_certain_1 (by decide) ?_
  refine x_puti C dMo_certain_2 fl_Mo_73 h0 rfl (Or.inl rfl) h (fun I1 h => ?_)
  refine g_aload_n C dMo_certain_5 rfl ?_
  refine x_jn h (fun (k_21 : Option (Int32 × WI)) => k_21  = some (r, I') → GG X 4 P K I1 O J0 0 0 21 [(0, .ref a0), (1, .int x1)] []) (fun  h => ?_) (fun k_21 hk_21 h => ?_)
  · skip
    refine g_aload_n C dMo_certain_21 rfl ?_
    refine g_iconst (v := Int32.ofInt (1)) C dMo_certain_22 (by decide) ?_
    obtain ⟨z_23, I2, e_23, h⟩ := bd2_some h
    refine x_callVi (av := fun ad => [.int (Int32.ofInt (1))]) C dMo_certain_23 mfMo_refused mvMo_refused ln_Mo_283 h0 (by decide) rfl (f_Mo_refused hT h0 e_23) rfl rfl (Nat.le_of_ble_eq_true rfl) ⟨Nat.le_of_ble_eq_true rfl, Nat.le_of_ble_eq_true rfl⟩ ⟨rfl, rfl⟩ ⟨Nat.zero_le _, Nat.zero_le _⟩ ?_
    exact x_iret1 C E dMo_certain_26 ⟨Nat.zero_le _, Nat.zero_le _⟩ h
  refine x_null 21 C dMo_certain_6 dMo_certain_9 (by decide) fl_Mo_290 h0 h (fun c_6 h => ?_) (fun c_6 h => ?_)
  · skip
    exact g_sub (hk_21  h) ⟨rfl, rfl, trivial⟩
  · have hN3 : NN P K O a0 3 9 := ⟨c_6, hQ3 _ c_6⟩
    refine g_iload_n C dMo_certain_12 rfl ?_
    refine g_iconst (v := Int32.ofInt (0)) C dMo_certain_13 (by decide) ?_
    refine g_iconst (v := Int32.ofInt (2)) C dMo_certain_14 (by decide) ?_
    obtain ⟨z_15, e_15, h⟩ := bd1_some h
    refine x_callSi (av := fun ad => [.int x1, .int (Int32.ofInt (0)), .int (Int32.ofInt (2))]) C dMo_certain_15 mfMo_in msMo_in ln_Mo_149 (f_Mo_in hT  e_15) rfl rfl (Nat.le_of_ble_eq_true rfl) ⟨Nat.le_of_ble_eq_true rfl, Nat.le_of_ble_eq_true rfl⟩ ⟨rfl, rfl⟩ ⟨Nat.zero_le _, Nat.zero_le _⟩ ?_
    refine gt_if_ne 27 C dMo_certain_18 (by decide) rfl (fun c_18 => ?_) (fun c_18 => ?_)
    · have h := x_neg c_18 h
      refine g_aload_n C dMo_certain_27 rfl ?_
      refine g_iconst (v := Int32.ofInt (-1)) C dMo_certain_28 (by decide) ?_
      refine g_iconst (v := Int32.ofInt (-1)) C dMo_certain_29 (by decide) ?_
      obtain ⟨z_30, I4, e_30, h⟩ := bd2_some h
      refine x_callVi (av := fun ad => [.int (Int32.ofInt (-1)), .int (Int32.ofInt (-1))]) C dMo_certain_30 mfMo_allFits mvMo_allFits ln_Mo_360 h0 (by decide) rfl (f_Mo_allFits hT h0 hN3 e_30) rfl rfl (Nat.le_of_ble_eq_true rfl) ⟨Nat.le_of_ble_eq_true rfl, Nat.le_of_ble_eq_true rfl⟩ ⟨rfl, rfl⟩ ⟨Nat.zero_le _, Nat.zero_le _⟩ ?_
      refine g_istore_n (i := 2) C dMo_certain_33 rfl (by decide) ?_
      refine g_iload_n C dMo_certain_34 rfl ?_
      refine gt_if_ne 45 C dMo_certain_35 (by decide) rfl (fun c_35 => ?_) (fun c_35 => ?_)
      · have h := x_neg c_35 h
        refine g_iconst (v := Int32.ofInt (1)) C dMo_certain_45 (by decide) ?_
        refine g_istore_n (i := 3) C dMo_certain_46 rfl (by decide) ?_
        have lp_47 : ∀ (x3_47 : Int32) (I_47 : WI), lp (B_Mo_certain_47 N O a0 x1 J0 z_30) (fun _ _ => none) N x3_47 I_47 = some (r, I') → GG X 4 P K I_47 O J0 0 0 47 [(0, .ref a0), (1, .int x1), (2, .int z_30), (3, .int x3_47)] [] := by
          refine x_lp (fun (rec_47 : Int32 → WI → Option (Int32 × WI)) => ∀ (x3_47 : Int32) (I_47 : WI), rec_47 x3_47 I_47 = some (r, I') → GG X 4 P K I_47 O J0 0 0 47 [(0, .ref a0), (1, .int x1), (2, .int z_30), (3, .int x3_47)] []) (fun _ _ h => by cases h) (fun rec_47 hr_47 x3_47 I_47 h => ?_) N
          unfold B_Mo_certain_47 at h
          refine g_iload_n C dMo_certain_47 rfl ?_
          refine g_iload_n C dMo_certain_48 rfl ?_
          refine gt_icmp_ge 88 C dMo_certain_49 (by decide) rfl rfl (fun c_49 => ?_) (fun c_49 => ?_)
          · have h := x_pos c_49 h
            refine g_aload_n C dMo_certain_88 rfl ?_
            refine g_aload_n C dMo_certain_89 rfl ?_
            have t_90 := rf_ok hT h0 (show sp 10 28 = some 37 from rfl)
            refine x_getr C dMo_certain_90 fl_Mo_48 h0 hT (show sp 10 28 = some 37 from rfl) ?_
            refine g_iconst (v := Int32.ofInt (0)) C dMo_certain_93 (by decide) ?_
            refine x_ialdc (m := 100) (c := 0) C dMo_certain_94 t_90 (by decide) rfl rfl rfl (by decide) ?_
            refine g_iload_n C dMo_certain_95 rfl ?_
            obtain ⟨z_96, e_96, h⟩ := bd1_some h
            refine x_callSi (av := fun ad => [.int (I_47 (rf O a0 28) 0), .int x1]) C dMo_certain_96 mfMo_partOf msMo_partOf ln_Mo_363 (f_Mo_partOf hT  e_96) rfl rfl (Nat.le_of_ble_eq_true rfl) ⟨Nat.le_of_ble_eq_true rfl, Nat.le_of_ble_eq_true rfl⟩ ⟨rfl, rfl⟩ ⟨Nat.zero_le _, Nat.zero_le _⟩ ?_
            obtain ⟨z_99, I6, e_99, h⟩ := bd2_some h
            refine x_callVi (av := fun ad => [.int z_96]) C dMo_certain_99 mfMo_done mvMo_done ln_Mo_302 h0 (by decide) rfl (f_Mo_done hT h0 e_99) rfl rfl (Nat.le_of_ble_eq_true rfl) ⟨Nat.le_of_ble_eq_true rfl, Nat.le_of_ble_eq_true rfl⟩ ⟨rfl, rfl⟩ ⟨Nat.zero_le _, Nat.zero_le _⟩ ?_
            exact x_iret1 C E dMo_certain_102 ⟨Nat.zero_le _, Nat.zero_le _⟩ h
          · have h := x_neg (Int.not_le.mpr c_49) h
            refine g_aload_n C dMo_certain_52 rfl ?_
            have t_53 := rf_ok hT h0 (show sp 10 28 = some 37 from rfl)
            refine x_getr C dMo_certain_53 fl_Mo_48 h0 hT (show sp 10 28 = some 37 from rfl) ?_
            refine g_iload_n C dMo_certain_56 rfl ?_
            obtain ⟨g_57, h⟩ := x_g h
            refine x_iald (m := 100) C dMo_certain_57 t_53 (by decide) rfl rfl g_57 ?_
            refine g_iload_n C dMo_certain_58 rfl ?_
            obtain ⟨z_59, e_59, h⟩ := bd1_some h
            refine x_callSi (av := fun ad => [.int (I_47 (rf O a0 28) (x3_47).toInt.toNat), .int x1]) C dMo_certain_59 mfMo_partOf msMo_partOf ln_Mo_363 (f_Mo_partOf hT  e_59) rfl rfl (Nat.le_of_ble_eq_true rfl) ⟨Nat.le_of_ble_eq_true rfl, Nat.le_of_ble_eq_true rfl⟩ ⟨rfl, rfl⟩ ⟨Nat.zero_le _, Nat.zero_le _⟩ ?_
            refine g_aload_n C dMo_certain_62 rfl ?_
            have t_63 := rf_ok hT h0 (show sp 10 28 = some 37 from rfl)
            refine x_getr C dMo_certain_63 fl_Mo_48 h0 hT (show sp 10 28 = some 37 from rfl) ?_
            refine g_iconst (v := Int32.ofInt (0)) C dMo_certain_66 (by decide) ?_
            refine x_ialdc (m := 100) (c := 0) C dMo_certain_67 t_63 (by decide) rfl rfl rfl (by decide) ?_
            refine g_iload_n C dMo_certain_68 rfl ?_
            obtain ⟨z_69, e_69, h⟩ := bd1_some h
            refine x_callSi (av := fun ad => [.int (I_47 (rf O a0 28) 0), .int x1]) C dMo_certain_69 mfMo_partOf msMo_partOf ln_Mo_363 (f_Mo_partOf hT  e_69) rfl rfl (Nat.le_of_ble_eq_true rfl) ⟨Nat.le_of_ble_eq_true rfl, Nat.le_of_ble_eq_true rfl⟩ ⟨rfl, rfl⟩ ⟨Nat.zero_le _, Nat.zero_le _⟩ ?_
            refine gt_icmp_eq 82 C dMo_certain_72 (by decide) rfl rfl (fun c_72 => ?_) (fun c_72 => ?_)
            · have h := x_pos c_72 h
              refine x_iinc C dMo_certain_82 rfl (by decide) h (fun v3_82 h => ?_)
              refine g_goto 47 C dMo_certain_85 (by decide) ?_
              exact g_sub (hr_47 (v3_82) I_47 h) ⟨rfl, rfl, rfl, rfl, trivial⟩
            · have h := x_neg c_72 h
              refine g_aload_n C dMo_certain_75 rfl ?_
              refine g_bipush (v := Int32.ofInt (-2)) C dMo_certain_76 (by decide) ?_
              obtain ⟨z_78, I9, e_78, h⟩ := bd2_some h
              refine x_callVi (av := fun ad => [.int (Int32.ofInt (-2))]) C dMo_certain_78 mfMo_done mvMo_done ln_Mo_302 h0 (by decide) rfl (f_Mo_done hT h0 e_78) rfl rfl (Nat.le_of_ble_eq_true rfl) ⟨Nat.le_of_ble_eq_true rfl, Nat.le_of_ble_eq_true rfl⟩ ⟨rfl, rfl⟩ ⟨Nat.zero_le _, Nat.zero_le _⟩ ?_
              exact x_iret1 C E dMo_certain_81 ⟨Nat.zero_le _, Nat.zero_le _⟩ h
        exact g_sub (lp_47 ((Int32.ofInt (1))) I4 h) ⟨rfl, rfl, rfl, rfl, trivial⟩
      · have h := x_pos c_35 h
        refine g_aload_n C dMo_certain_38 rfl ?_
        refine g_bipush (v := Int32.ofInt (6)) C dMo_certain_39 (by decide) ?_
        obtain ⟨z_41, I10, e_41, h⟩ := bd2_some h
        refine x_callVi (av := fun ad => [.int (Int32.ofInt (6))]) C dMo_certain_41 mfMo_refused mvMo_refused ln_Mo_283 h0 (by decide) rfl (f_Mo_refused hT h0 e_41) rfl rfl (Nat.le_of_ble_eq_true rfl) ⟨Nat.le_of_ble_eq_true rfl, Nat.le_of_ble_eq_true rfl⟩ ⟨rfl, rfl⟩ ⟨Nat.zero_le _, Nat.zero_le _⟩ ?_
        exact x_iret1 C E dMo_certain_44 ⟨Nat.zero_le _, Nat.zero_le _⟩ h
    · have h := x_pos c_18 h
      exact g_sub (hk_21  h) ⟨rfl, rfl, trivial⟩
def B_Mo_guess_51 (N : Nat) (O : WO) (a0 : Nat) (x4 : Int32) (x5 : Int32) (J0 : WJ) (rec_51 : Int32 → WI → Option (Int32 × WI)) (x6_51 : Int32) (I_51 : WI) : Option (Int32 × WI) := if (x4).toInt < (x6_51).toInt then (bd1 (F_Mo_valueOf N O I_51 J0 (rf O a0 17) x5) fun z_81 => bd2 (F_Mo_done N O I_51 J0 a0 z_81) fun z_84 I6 => some (z_84, I6)) else (bd1 (F_Mo_byProgram N O I_51 J0 a0 (rf O a0 17) x6_51) fun I7 => lb (x6_51 + Int32.ofInt (1)) fun v6_68 => rec_51 (v6_68) I7)
def F_Mo_guess (N : Nat) (O : WO) (I0 : WI) (J0 : WJ) (a0 : Nat) (x1 : Int32) (x2 : Int32) (x3 : Int32) (x4 : Int32) (x5 : Int32) : Option (Int32 × WI) := lb (up2 I0 a0 0 (Int32.ofInt (0))) fun I1 => bd1 (F_Mo_isWhat N O I1 J0 a0 x4 x5) fun z_10 => if (z_10).toInt = 0 then (bd2 (F_Mo_refused N O I1 J0 a0 (Int32.ofInt (1))) fun z_18 I9 => some (z_18, I9)) else (bd1 (F_Mo_isStart N O I1 J0 x1 x2 x3) fun z_25 => if (z_25).toInt = 0 then (bd2 (F_Mo_refused N O I1 J0 a0 (Int32.ofInt (2))) fun z_33 I8 => some (z_33, I8)) else (bd1 (F_Mo_begins N O I1 J0 a0 (rf O a0 17) x1 x2 x3) fun I4 => lp (B_Mo_guess_51 N O a0 x4 x5 J0) (fun _ _ => none) N ((Int32.ofInt (0))) I4))
set_option maxHeartbeats 4000000 in
set_option maxRecDepth 100000 in
theorem f_Mo_guess {P : List Nat} {K : Nat → Nat} {N : Nat} {O : WO} {I0 : WI} {J0 : WJ} (hT : TR P K O) {a0 : Nat} (h0 : a0 ∈ P ∧ K a0 = 10) {x1 : Int32} {x2 : Int32} {x3 : Int32} {x4 : Int32} {x5 : Int32} (hN3 : NN P K O a0 3 9) (hQ3 : ∀ b, O a0 3 = some b → b ∈ P ∧ K b = 9) {r : Int32} {I' : WI} (h : F_Mo_guess N O I0 J0 a0 x1 x2 x3 x4 x5 = some (r, I')) : Con yMo_guess bMo_guess 7 (some .int) ({ frames := 4, cells := 0, slots := 0, locals := 97 } : Room) P K I0 O J0 [.ref a0, .int x1, .int x2, .int x3, .int x4, .int x5] (EPo (some (.int r)) I' J0 P K O) := by
  refine Con.ofG mfMo_guess (Nat.le_of_ble_eq_true rfl) ?_
  intro X C E
  unfold F_Mo_guess at h
  refine g_aload_n C dMo_guess_0 rfl ?_
  refine g_iconst (v := Int32.ofInt (0)) C dMo_guess_1 (by decide) ?_
  refine x_puti C dMo_guess_2 fl_Mo_73 h0 rfl (Or.inl rfl) h (fun I1 h => ?_)
  refine g_aload_n C dMo_guess_5 rfl ?_
  refine g_iload C dMo_guess_6 rfl ?_
  refine g_iload C dMo_guess_8 rfl ?_
  obtain ⟨z_10, e_10, h⟩ := bd1_some h
  refine x_callVi (av := fun ad => [.int x4, .int x5]) C dMo_guess_10 mfMo_isWhat mvMo_isWhat ln_Mo_338 h0 (by decide) rfl (f_Mo_isWhat hT h0 hQ3 e_10) rfl rfl (Nat.le_of_ble_eq_true rfl) ⟨Nat.le_of_ble_eq_true rfl, Nat.le_of_ble_eq_true rfl⟩ ⟨rfl, rfl⟩ ⟨Nat.zero_le _, Nat.zero_le _⟩ ?_
  refine gt_if_ne 22 C dMo_guess_13 (by decide) rfl (fun c_13 => ?_) (fun c_13 => ?_)
  · have h := x_neg c_13 h
    refine g_iload_n C dMo_guess_22 rfl ?_
    refine g_iload_n C dMo_guess_23 rfl ?_
    refine g_iload_n C dMo_guess_24 rfl ?_
    obtain ⟨z_25, e_25, h⟩ := bd1_some h
    refine x_callSi (av := fun ad => [.int x1, .int x2, .int x3]) C dMo_guess_25 mfMo_isStart msMo_isStart ln_Mo_366 (f_Mo_isStart hT  e_25) rfl rfl (Nat.le_of_ble_eq_true rfl) ⟨Nat.le_of_ble_eq_true rfl, Nat.le_of_ble_eq_true rfl⟩ ⟨rfl, rfl⟩ ⟨Nat.zero_le _, Nat.zero_le _⟩ ?_
    refine gt_if_ne 37 C dMo_guess_28 (by decide) rfl (fun c_28 => ?_) (fun c_28 => ?_)
    · have h := x_neg c_28 h
      refine g_aload_n C dMo_guess_37 rfl ?_
      refine g_aload_n C dMo_guess_38 rfl ?_
      have t_39 := rf_ok hT h0 (show sp 10 17 = some 49 from rfl)
      refine x_getr C dMo_guess_39 fl_Mo_21 h0 hT (show sp 10 17 = some 49 from rfl) ?_
      refine g_iload_n C dMo_guess_42 rfl ?_
      refine g_iload_n C dMo_guess_43 rfl ?_
      refine g_iload_n C dMo_guess_44 rfl ?_
      obtain ⟨I4, e_45, h⟩ := bd1_some h
      refine x_callVv (av := fun ad => [.ref (rf O a0 17), .int x1, .int x2, .int x3]) C dMo_guess_45 mfMo_begins mvMo_begins ln_Mo_343 h0 (by decide) rfl (f_Mo_begins hT h0 t_39 hN3 e_45) rfl rfl (Nat.le_of_ble_eq_true rfl) ⟨Nat.le_of_ble_eq_true rfl, Nat.le_of_ble_eq_true rfl⟩ ⟨rfl, rfl⟩ ⟨Nat.zero_le _, Nat.zero_le _⟩ ?_
      refine g_iconst (v := Int32.ofInt (0)) C dMo_guess_48 (by decide) ?_
      refine g_istore C dMo_guess_49 (by decide) ?_
      have lp_51 : ∀ (x6_51 : Int32) (I_51 : WI), lp (B_Mo_guess_51 N O a0 x4 x5 J0) (fun _ _ => none) N x6_51 I_51 = some (r, I') → GG X 7 P K I_51 O J0 0 0 51 [(0, .ref a0), (1, .int x1), (2, .int x2), (3, .int x3), (4, .int x4), (5, .int x5), (6, .int x6_51)] [] := by
        refine x_lp (fun (rec_51 : Int32 → WI → Option (Int32 × WI)) => ∀ (x6_51 : Int32) (I_51 : WI), rec_51 x6_51 I_51 = some (r, I') → GG X 7 P K I_51 O J0 0 0 51 [(0, .ref a0), (1, .int x1), (2, .int x2), (3, .int x3), (4, .int x4), (5, .int x5), (6, .int x6_51)] []) (fun _ _ h => by cases h) (fun rec_51 hr_51 x6_51 I_51 h => ?_) N
        unfold B_Mo_guess_51 at h
        refine g_iload C dMo_guess_51 rfl ?_
        refine g_iload C dMo_guess_53 rfl ?_
        refine gt_icmp_gt 74 C dMo_guess_55 (by decide) rfl rfl (fun c_55 => ?_) (fun c_55 => ?_)
        · have h := x_pos c_55 h
          refine g_aload_n C dMo_guess_74 rfl ?_
          refine g_aload_n C dMo_guess_75 rfl ?_
          have t_76 := rf_ok hT h0 (show sp 10 17 = some 49 from rfl)
          refine x_getr C dMo_guess_76 fl_Mo_21 h0 hT (show sp 10 17 = some 49 from rfl) ?_
          refine g_iload C dMo_guess_79 rfl ?_
          obtain ⟨z_81, e_81, h⟩ := bd1_some h
          refine x_callSi (av := fun ad => [.ref (rf O a0 17), .int x5]) C dMo_guess_81 mfMo_valueOf msMo_valueOf ln_Mo_354 (f_Mo_valueOf hT t_76 e_81) rfl rfl (Nat.le_of_ble_eq_true rfl) ⟨Nat.le_of_ble_eq_true rfl, Nat.le_of_ble_eq_true rfl⟩ ⟨rfl, rfl⟩ ⟨Nat.zero_le _, Nat.zero_le _⟩ ?_
          obtain ⟨z_84, I6, e_84, h⟩ := bd2_some h
          refine x_callVi (av := fun ad => [.int z_81]) C dMo_guess_84 mfMo_done mvMo_done ln_Mo_302 h0 (by decide) rfl (f_Mo_done hT h0 e_84) rfl rfl (Nat.le_of_ble_eq_true rfl) ⟨Nat.le_of_ble_eq_true rfl, Nat.le_of_ble_eq_true rfl⟩ ⟨rfl, rfl⟩ ⟨Nat.zero_le _, Nat.zero_le _⟩ ?_
          exact x_iret1 C E dMo_guess_87 ⟨Nat.zero_le _, Nat.zero_le _⟩ h
        · have h := x_neg (Int.not_lt.mpr c_55) h
          refine g_aload_n C dMo_guess_58 rfl ?_
          refine g_aload_n C dMo_guess_59 rfl ?_
          have t_60 := rf_ok hT h0 (show sp 10 17 = some 49 from rfl)
          refine x_getr C dMo_guess_60 fl_Mo_21 h0 hT (show sp 10 17 = some 49 from rfl) ?_
          refine g_iload C dMo_guess_63 rfl ?_
          obtain ⟨I7, e_65, h⟩ := bd1_some h
          refine x_callVv (av := fun ad => [.ref (rf O a0 17), .int x6_51]) C dMo_guess_65 mfMo_byProgram mvMo_byProgram ln_Mo_347 h0 (by decide) rfl (f_Mo_byProgram hT h0 t_60 hN3 e_65) rfl rfl (Nat.le_of_ble_eq_true rfl) ⟨Nat.le_of_ble_eq_true rfl, Nat.le_of_ble_eq_true rfl⟩ ⟨rfl, rfl⟩ ⟨Nat.zero_le _, Nat.zero_le _⟩ ?_
          refine x_iinc C dMo_guess_68 rfl (by decide) h (fun v6_68 h => ?_)
          refine g_goto 51 C dMo_guess_71 (by decide) ?_
          exact g_sub (hr_51 (v6_68) I7 h) ⟨rfl, rfl, rfl, rfl, rfl, rfl, rfl, trivial⟩
      exact g_sub (lp_51 ((Int32.ofInt (0))) I4 h) ⟨rfl, rfl, rfl, rfl, rfl, rfl, rfl, trivial⟩
    · have h := x_pos c_28 h
      refine g_aload_n C dMo_guess_31 rfl ?_
      refine g_iconst (v := Int32.ofInt (2)) C dMo_guess_32 (by decide) ?_
      obtain ⟨z_33, I8, e_33, h⟩ := bd2_some h
      refine x_callVi (av := fun ad => [.int (Int32.ofInt (2))]) C dMo_guess_33 mfMo_refused mvMo_refused ln_Mo_283 h0 (by decide) rfl (f_Mo_refused hT h0 e_33) rfl rfl (Nat.le_of_ble_eq_true rfl) ⟨Nat.le_of_ble_eq_true rfl, Nat.le_of_ble_eq_true rfl⟩ ⟨rfl, rfl⟩ ⟨Nat.zero_le _, Nat.zero_le _⟩ ?_
      exact x_iret1 C E dMo_guess_36 ⟨Nat.zero_le _, Nat.zero_le _⟩ h
  · have h := x_pos c_13 h
    refine g_aload_n C dMo_guess_16 rfl ?_
    refine g_iconst (v := Int32.ofInt (1)) C dMo_guess_17 (by decide) ?_
    obtain ⟨z_18, I9, e_18, h⟩ := bd2_some h
    refine x_callVi (av := fun ad => [.int (Int32.ofInt (1))]) C dMo_guess_18 mfMo_refused mvMo_refused ln_Mo_283 h0 (by decide) rfl (f_Mo_refused hT h0 e_18) rfl rfl (Nat.le_of_ble_eq_true rfl) ⟨Nat.le_of_ble_eq_true rfl, Nat.le_of_ble_eq_true rfl⟩ ⟨rfl, rfl⟩ ⟨Nat.zero_le _, Nat.zero_le _⟩ ?_
    exact x_iret1 C E dMo_guess_21 ⟨Nat.zero_le _, Nat.zero_le _⟩ h
def B_Mo_swapped_45 (N : Nat) (O : WO) (a0 : Nat) (J0 : WJ) (x1_35 : Int32) (rec_35 : Int32 → WI → Option (Int32 × WI)) (rec_45 : Int32 → WI → Option (Int32 × WI)) (x2_45 : Int32) (I_45 : WI) : Option (Int32 × WI) := if 12 ≤ (x2_45).toInt then (lb (x1_35 + Int32.ofInt (1)) fun v1_77 => rec_35 (v1_77) I_45) else (bd2 (F_Mo_allFits N O I_45 J0 a0 x1_35 x2_45) fun z_54 I5 => if (z_54).toInt ≤ 0 then (lb (x2_45 + Int32.ofInt (1)) fun v2_71 => rec_45 (v2_71) I5) else (bd2 (F_Mo_done N O I5 J0 a0 (((Int32.ofInt (100)) * x1_35) + x2_45)) fun z_67 I6 => some (z_67, I6)))
def B_Mo_swapped_35 (N : Nat) (O : WO) (a0 : Nat) (J0 : WJ) (rec_35 : Int32 → WI → Option (Int32 × WI)) (x1_35 : Int32) (I_35 : WI) : Option (Int32 × WI) := if 12 ≤ (x1_35).toInt then (bd2 (F_Mo_done N O I_35 J0 a0 (Int32.ofInt (-2))) fun z_86 I4 => some (z_86, I4)) else (lb ((x1_35 + (Int32.ofInt (1)))) fun v2_44 => lp (B_Mo_swapped_45 N O a0 J0 x1_35 rec_35) (fun _ _ => none) N (v2_44) I_35)
def F_Mo_swapped (N : Nat) (O : WO) (I0 : WI) (J0 : WJ) (a0 : Nat) : Option (Int32 × WI) := lb (up2 I0 a0 0 (Int32.ofInt (0))) fun I1 => if O a0 3 = none then (bd2 (F_Mo_refused N O I1 J0 a0 (Int32.ofInt (1))) fun z_14 I2 => some (z_14, I2)) else (bd2 (F_Mo_allFits N O I1 J0 a0 (Int32.ofInt (-1)) (Int32.ofInt (-1))) fun z_21 I3 => if (z_21).toInt ≤ 0 then (lp (B_Mo_swapped_35 N O a0 J0) (fun _ _ => none) N ((Int32.ofInt (0))) I3) else (bd2 (F_Mo_refused N O I3 J0 a0 (Int32.ofInt (5))) fun z_29 I7 => some (z_29, I7)))
set_option maxHeartbeats 4000000 in
set_option maxRecDepth 100000 in
theorem f_Mo_swapped {P : List Nat} {K : Nat → Nat} {N : Nat} {O : WO} {I0 : WI} {J0 : WJ} (hT : TR P K O) {a0 : Nat} (h0 : a0 ∈ P ∧ K a0 = 10) (hQ3 : ∀ b, O a0 3 = some b → b ∈ P ∧ K b = 9) {r : Int32} {I' : WI} (h : F_Mo_swapped N O I0 J0 a0 = some (r, I')) : Con yMo_swapped bMo_swapped 3 (some .int) ({ frames := 6, cells := 0, slots := 0, locals := 147 } : Room) P K I0 O J0 [.ref a0] (EPo (some (.int r)) I' J0 P K O) := by
  refine Con.ofG mfMo_swapped (Nat.le_of_ble_eq_true rfl) ?_
  intro X C E
  unfold F_Mo_swapped at h
  refine g_aload_n C dMo_swapped_0 rfl ?_
  refine g_iconst (v := Int32.ofInt (0)) C dMo_swapped_1 (by decide) ?_
  refine x_puti C dMo_swapped_2 fl_Mo_73 h0 rfl (Or.inl rfl) h (fun I1 h => ?_)
  refine g_aload_n C dMo_swapped_5 rfl ?_
  refine x_nonnull 18 C dMo_swapped_6 dMo_swapped_9 (by decide) fl_Mo_290 h0 h (fun c_6 h => ?_) (fun c_6 h => ?_)
  · skip
    refine g_aload_n C dMo_swapped_12 rfl ?_
    refine g_iconst (v := Int32.ofInt (1)) C dMo_swapped_13 (by decide) ?_
    obtain ⟨z_14, I2, e_14, h⟩ := bd2_some h
    refine x_callVi (av := fun ad => [.int (Int32.ofInt (1))]) C dMo_swapped_14 mfMo_refused mvMo_refused ln_Mo_283 h0 (by decide) rfl (f_Mo_refused hT h0 e_14) rfl rfl (Nat.le_of_ble_eq_true rfl) ⟨Nat.le_of_ble_eq_true rfl, Nat.le_of_ble_eq_true rfl⟩ ⟨rfl, rfl⟩ ⟨Nat.zero_le _, Nat.zero_le _⟩ ?_
    exact x_iret1 C E dMo_swapped_17 ⟨Nat.zero_le _, Nat.zero_le _⟩ h
  · have hN3 : NN P K O a0 3 9 := ⟨c_6, hQ3 _ c_6⟩
    refine g_aload_n C dMo_swapped_18 rfl ?_
    refine g_iconst (v := Int32.ofInt (-1)) C dMo_swapped_19 (by decide) ?_
    refine g_iconst (v := Int32.ofInt (-1)) C dMo_swapped_20 (by decide) ?_
    obtain ⟨z_21, I3, e_21, h⟩ := bd2_some h
    refine x_callVi (av := fun ad => [.int (Int32.ofInt (-1)), .int (Int32.ofInt (-1))]) C dMo_swapped_21 mfMo_allFits mvMo_allFits ln_Mo_360 h0 (by decide) rfl (f_Mo_allFits hT h0 hN3 e_21) rfl rfl (Nat.le_of_ble_eq_true rfl) ⟨Nat.le_of_ble_eq_true rfl, Nat.le_of_ble_eq_true rfl⟩ ⟨rfl, rfl⟩ ⟨Nat.zero_le _, Nat.zero_le _⟩ ?_
    refine gt_if_le 33 C dMo_swapped_24 (by decide) rfl (fun c_24 => ?_) (fun c_24 => ?_)
    · have h := x_pos c_24 h
      refine g_iconst (v := Int32.ofInt (0)) C dMo_swapped_33 (by decide) ?_
      refine g_istore_n (i := 1) C dMo_swapped_34 rfl (by decide) ?_
      have lp_35 : ∀ (x1_35 : Int32) (I_35 : WI), lp (B_Mo_swapped_35 N O a0 J0) (fun _ _ => none) N x1_35 I_35 = some (r, I') → GG X 3 P K I_35 O J0 0 0 35 [(0, .ref a0), (1, .int x1_35)] [] := by
        refine x_lp (fun (rec_35 : Int32 → WI → Option (Int32 × WI)) => ∀ (x1_35 : Int32) (I_35 : WI), rec_35 x1_35 I_35 = some (r, I') → GG X 3 P K I_35 O J0 0 0 35 [(0, .ref a0), (1, .int x1_35)] []) (fun _ _ h => by cases h) (fun rec_35 hr_35 x1_35 I_35 h => ?_) N
        unfold B_Mo_swapped_35 at h
        refine g_iload_n C dMo_swapped_35 rfl ?_
        refine g_bipush (v := Int32.ofInt (12)) C dMo_swapped_36 (by decide) ?_
        refine gt_icmp_ge 83 C dMo_swapped_38 (by decide) rfl (ofI (by decide)) (fun c_38 => ?_) (fun c_38 => ?_)
        · have h := x_pos c_38 h
          refine g_aload_n C dMo_swapped_83 rfl ?_
          refine g_bipush (v := Int32.ofInt (-2)) C dMo_swapped_84 (by decide) ?_
          obtain ⟨z_86, I4, e_86, h⟩ := bd2_some h
          refine x_callVi (av := fun ad => [.int (Int32.ofInt (-2))]) C dMo_swapped_86 mfMo_done mvMo_done ln_Mo_302 h0 (by decide) rfl (f_Mo_done hT h0 e_86) rfl rfl (Nat.le_of_ble_eq_true rfl) ⟨Nat.le_of_ble_eq_true rfl, Nat.le_of_ble_eq_true rfl⟩ ⟨rfl, rfl⟩ ⟨Nat.zero_le _, Nat.zero_le _⟩ ?_
          exact x_iret1 C E dMo_swapped_89 ⟨Nat.zero_le _, Nat.zero_le _⟩ h
        · have h := x_neg (Int.not_le.mpr c_38) h
          refine g_iload_n C dMo_swapped_41 rfl ?_
          refine g_iconst (v := Int32.ofInt (1)) C dMo_swapped_42 (by decide) ?_
          refine g_iadd C dMo_swapped_43 ?_
          refine x_istore_n (i := 2) C dMo_swapped_44 rfl (by decide) h (fun v2_44 h => ?_)
          have lp_45 : ∀ (x2_45 : Int32) (I_45 : WI), lp (B_Mo_swapped_45 N O a0 J0 x1_35 rec_35) (fun _ _ => none) N x2_45 I_45 = some (r, I') → GG X 3 P K I_45 O J0 0 0 45 [(0, .ref a0), (1, .int x1_35), (2, .int x2_45)] [] := by
            refine x_lp (fun (rec_45 : Int32 → WI → Option (Int32 × WI)) => ∀ (x2_45 : Int32) (I_45 : WI), rec_45 x2_45 I_45 = some (r, I') → GG X 3 P K I_45 O J0 0 0 45 [(0, .ref a0), (1, .int x1_35), (2, .int x2_45)] []) (fun _ _ h => by cases h) (fun rec_45 hr_45 x2_45 I_45 h => ?_) N
            unfold B_Mo_swapped_45 at h
            refine g_iload_n C dMo_swapped_45 rfl ?_
            refine g_bipush (v := Int32.ofInt (12)) C dMo_swapped_46 (by decide) ?_
            refine gt_icmp_ge 77 C dMo_swapped_48 (by decide) rfl (ofI (by decide)) (fun c_48 => ?_) (fun c_48 => ?_)
            · have h := x_pos c_48 h
              refine x_iinc C dMo_swapped_77 rfl (by decide) h (fun v1_77 h => ?_)
              refine g_goto 35 C dMo_swapped_80 (by decide) ?_
              exact g_sub (hr_35 (v1_77) I_45 h) ⟨rfl, rfl, trivial⟩
            · have h := x_neg (Int.not_le.mpr c_48) h
              refine g_aload_n C dMo_swapped_51 rfl ?_
              refine g_iload_n C dMo_swapped_52 rfl ?_
              refine g_iload_n C dMo_swapped_53 rfl ?_
              obtain ⟨z_54, I5, e_54, h⟩ := bd2_some h
              refine x_callVi (av := fun ad => [.int x1_35, .int x2_45]) C dMo_swapped_54 mfMo_allFits mvMo_allFits ln_Mo_360 h0 (by decide) rfl (f_Mo_allFits hT h0 hN3 e_54) rfl rfl (Nat.le_of_ble_eq_true rfl) ⟨Nat.le_of_ble_eq_true rfl, Nat.le_of_ble_eq_true rfl⟩ ⟨rfl, rfl⟩ ⟨Nat.zero_le _, Nat.zero_le _⟩ ?_
              refine gt_if_le 71 C dMo_swapped_57 (by decide) rfl (fun c_57 => ?_) (fun c_57 => ?_)
              · have h := x_pos c_57 h
                refine x_iinc C dMo_swapped_71 rfl (by decide) h (fun v2_71 h => ?_)
                refine g_goto 45 C dMo_swapped_74 (by decide) ?_
                exact g_sub (hr_45 (v2_71) I5 h) ⟨rfl, rfl, rfl, trivial⟩
              · have h := x_neg (Int.not_le.mpr c_57) h
                refine g_aload_n C dMo_swapped_60 rfl ?_
                refine g_bipush (v := Int32.ofInt (100)) C dMo_swapped_61 (by decide) ?_
                refine g_iload_n C dMo_swapped_63 rfl ?_
                refine g_imul C dMo_swapped_64 ?_
                refine g_iload_n C dMo_swapped_65 rfl ?_
                refine g_iadd C dMo_swapped_66 ?_
                obtain ⟨z_67, I6, e_67, h⟩ := bd2_some h
                refine x_callVi (av := fun ad => [.int (((Int32.ofInt (100)) * x1_35) + x2_45)]) C dMo_swapped_67 mfMo_done mvMo_done ln_Mo_302 h0 (by decide) rfl (f_Mo_done hT h0 e_67) rfl rfl (Nat.le_of_ble_eq_true rfl) ⟨Nat.le_of_ble_eq_true rfl, Nat.le_of_ble_eq_true rfl⟩ ⟨rfl, rfl⟩ ⟨Nat.zero_le _, Nat.zero_le _⟩ ?_
                exact x_iret1 C E dMo_swapped_70 ⟨Nat.zero_le _, Nat.zero_le _⟩ h
          exact g_sub (lp_45 (v2_44) I_35 h) ⟨rfl, rfl, rfl, trivial⟩
      exact g_sub (lp_35 ((Int32.ofInt (0))) I3 h) ⟨rfl, rfl, trivial⟩
    · have h := x_neg (Int.not_le.mpr c_24) h
      refine g_aload_n C dMo_swapped_27 rfl ?_
      refine g_iconst (v := Int32.ofInt (5)) C dMo_swapped_28 (by decide) ?_
      obtain ⟨z_29, I7, e_29, h⟩ := bd2_some h
      refine x_callVi (av := fun ad => [.int (Int32.ofInt (5))]) C dMo_swapped_29 mfMo_refused mvMo_refused ln_Mo_283 h0 (by decide) rfl (f_Mo_refused hT h0 e_29) rfl rfl (Nat.le_of_ble_eq_true rfl) ⟨Nat.le_of_ble_eq_true rfl, Nat.le_of_ble_eq_true rfl⟩ ⟨rfl, rfl⟩ ⟨Nat.zero_le _, Nat.zero_le _⟩ ?_
      exact x_iret1 C E dMo_swapped_32 ⟨Nat.zero_le _, Nat.zero_le _⟩ h
def B_Mo_plan_126 (N : Nat) (O : WO) (a0 : Nat) (x1 : Int32) (J0 : WJ) (x2_40 : Int32) (x3_40 : Int32) (rec_126 : Int32 → WI → Option (Int32 × WI)) (x4_126 : Int32) (I_126 : WI) : Option (Int32 × WI) := if (x1).toInt ≤ (x4_126).toInt then (bd2 (F_Mo_done N O I_126 J0 a0 x2_40) fun z_159 I5 => some (z_159, I5)) else (if 0 ≤ (x4_126).toInt ∧ (x4_126).toInt < 5 then (lb (up2 I_126 (rf O a0 30) (x4_126).toInt.toNat ((x3_40 >>> (((Int32.ofInt (2)) * ((x1 - (Int32.ofInt (1))) - x4_126)) &&& 31)) &&& (Int32.ofInt (3)))) fun I6 => lb (x4_126 + Int32.ofInt (1)) fun v4_151 => rec_126 (v4_151) I6) else none)
def B_Mo_plan_40 (N : Nat) (O : WO) (a0 : Nat) (x1 : Int32) (J0 : WJ) (rec_40 : Int32 → Int32 → Int32 → WI → Option (Int32 × WI)) (x2_40 : Int32) (x3_40 : Int32) (x4_40 : Int32) (I_40 : WI) : Option (Int32 × WI) := if (((Int32.ofInt (1)) <<< (((Int32.ofInt (2)) * x1) &&& 31))).toInt ≤ (x4_40).toInt then (if (x2_40).toInt = (-1) then (bd2 (F_Mo_refused N O I_40 J0 a0 (Int32.ofInt (6))) fun z_114 I7 => some (z_114, I7)) else (lb (up2 I_40 a0 29 x1) fun I4 => lp (B_Mo_plan_126 N O a0 x1 J0 x2_40 x3_40) (fun _ _ => none) N ((Int32.ofInt (0))) I4)) else (bd2 (F_Mo_isWell N O I_40 J0 a0 x1 x4_40) fun z_54 I8 => jn (fun (y2_100 : Int32) (y3_100 : Int32) => lb (x4_40 + Int32.ofInt (1)) fun v4_100 => rec_40 (y2_100) (y3_100) (v4_100) I8) fun k_100 => if (z_54).toInt = 0 then (k_100 (x2_40) (x3_40)) else (lb (((I8 (rf O a0 17) 32) - (I8 (rf O a0 16) 32))) fun v5_78 => jn (k_100 (v5_78) (x4_40)) fun k_94 => if (x2_40).toInt = (-1) then (k_94 ) else (if (v5_78).toInt < (x2_40).toInt then (k_94 ) else (k_100 (x2_40) (x3_40)))))
def F_Mo_plan (N : Nat) (O : WO) (I0 : WI) (J0 : WJ) (a0 : Nat) (x1 : Int32) : Option (Int32 × WI) := lb (up2 I0 a0 0 (Int32.ofInt (0))) fun I1 => if O a0 3 = none then (bd2 (F_Mo_refused N O I1 J0 a0 (Int32.ofInt (1))) fun z_14 I2 => some (z_14, I2)) else (bd1 (F_Mo_in N O I1 J0 x1 (Int32.ofInt (1)) (Int32.ofInt (5))) fun z_21 => if (z_21).toInt = 0 then (bd2 (F_Mo_refused N O I1 J0 a0 (Int32.ofInt (2))) fun z_29 I9 => some (z_29, I9)) else (lp (B_Mo_plan_40 N O a0 x1 J0) (fun _ _ _ _ => none) N ((Int32.ofInt (-1))) ((Int32.ofInt (0))) ((Int32.ofInt (0))) I1))
set_option maxHeartbeats 4000000 in
set_option maxRecDepth 100000 in
theorem f_Mo_plan {P : List Nat} {K : Nat → Nat} {N : Nat} {O : WO} {I0 : WI} {J0 : WJ} (hT : TR P K O) {a0 : Nat} (h0 : a0 ∈ P ∧ K a0 = 10) {x1 : Int32} (hQ3 : ∀ b, O a0 3 = some b → b ∈ P ∧ K b = 9) {r : Int32} {I' : WI} (h : F_Mo_plan N O I0 J0 a0 x1 = some (r, I')) : Con yMo_plan bMo_plan 6 (some .int) ({ frames := 4, cells := 0, slots := 0, locals := 98 } : Room) P K I0 O J0 [.ref a0, .int x1] (EPo (some (.int r)) I' J0 P K O) := by
  refine Con.ofG mfMo_plan (Nat.le_of_ble_eq_true rfl) ?_
  intro X C E
  unfold F_Mo_plan at h
  refine g_aload_n C dMo_plan_0 rfl ?_
  refine g_iconst (v := Int32.ofInt (0)) C dMo_plan_1 (by decide) ?_
  refine x_puti C dMo_plan_2 fl_Mo_73 h0 rfl (Or.inl rfl) h (fun I1 h => ?_)
  refine g_aload_n C dMo_plan_5 rfl ?_
  refine x_nonnull 18 C dMo_plan_6 dMo_plan_9 (by decide) fl_Mo_290 h0 h (fun c_6 h => ?_) (fun c_6 h => ?_)
  · skip
    refine g_aload_n C dMo_plan_12 rfl ?_
    refine g_iconst (v := Int32.ofInt (1)) C dMo_plan_13 (by decide) ?_
    obtain ⟨z_14, I2, e_14, h⟩ := bd2_some h
    refine x_callVi (av := fun ad => [.int (Int32.ofInt (1))]) C dMo_plan_14 mfMo_refused mvMo_refused ln_Mo_283 h0 (by decide) rfl (f_Mo_refused hT h0 e_14) rfl rfl (Nat.le_of_ble_eq_true rfl) ⟨Nat.le_of_ble_eq_true rfl, Nat.le_of_ble_eq_true rfl⟩ ⟨rfl, rfl⟩ ⟨Nat.zero_le _, Nat.zero_le _⟩ ?_
    exact x_iret1 C E dMo_plan_17 ⟨Nat.zero_le _, Nat.zero_le _⟩ h
  · have hN3 : NN P K O a0 3 9 := ⟨c_6, hQ3 _ c_6⟩
    refine g_iload_n C dMo_plan_18 rfl ?_
    refine g_iconst (v := Int32.ofInt (1)) C dMo_plan_19 (by decide) ?_
    refine g_iconst (v := Int32.ofInt (5)) C dMo_plan_20 (by decide) ?_
    obtain ⟨z_21, e_21, h⟩ := bd1_some h
    refine x_callSi (av := fun ad => [.int x1, .int (Int32.ofInt (1)), .int (Int32.ofInt (5))]) C dMo_plan_21 mfMo_in msMo_in ln_Mo_149 (f_Mo_in hT  e_21) rfl rfl (Nat.le_of_ble_eq_true rfl) ⟨Nat.le_of_ble_eq_true rfl, Nat.le_of_ble_eq_true rfl⟩ ⟨rfl, rfl⟩ ⟨Nat.zero_le _, Nat.zero_le _⟩ ?_
    refine gt_if_ne 33 C dMo_plan_24 (by decide) rfl (fun c_24 => ?_) (fun c_24 => ?_)
    · have h := x_neg c_24 h
      refine g_iconst (v := Int32.ofInt (-1)) C dMo_plan_33 (by decide) ?_
      refine g_istore_n (i := 2) C dMo_plan_34 rfl (by decide) ?_
      refine g_iconst (v := Int32.ofInt (0)) C dMo_plan_35 (by decide) ?_
      refine g_istore_n (i := 3) C dMo_plan_36 rfl (by decide) ?_
      refine g_iconst (v := Int32.ofInt (0)) C dMo_plan_37 (by decide) ?_
      refine g_istore C dMo_plan_38 (by decide) ?_
      have lp_40 : ∀ (x2_40 : Int32) (x3_40 : Int32) (x4_40 : Int32) (I_40 : WI), lp (B_Mo_plan_40 N O a0 x1 J0) (fun _ _ _ _ => none) N x2_40 x3_40 x4_40 I_40 = some (r, I') → GG X 6 P K I_40 O J0 0 0 40 [(0, .ref a0), (1, .int x1), (2, .int x2_40), (3, .int x3_40), (4, .int x4_40)] [] := by
        refine x_lp (fun (rec_40 : Int32 → Int32 → Int32 → WI → Option (Int32 × WI)) => ∀ (x2_40 : Int32) (x3_40 : Int32) (x4_40 : Int32) (I_40 : WI), rec_40 x2_40 x3_40 x4_40 I_40 = some (r, I') → GG X 6 P K I_40 O J0 0 0 40 [(0, .ref a0), (1, .int x1), (2, .int x2_40), (3, .int x3_40), (4, .int x4_40)] []) (fun _ _ _ _ h => by cases h) (fun rec_40 hr_40 x2_40 x3_40 x4_40 I_40 h => ?_) N
        unfold B_Mo_plan_40 at h
        refine g_iload C dMo_plan_40 rfl ?_
        refine g_iconst (v := Int32.ofInt (1)) C dMo_plan_42 (by decide) ?_
        refine g_iconst (v := Int32.ofInt (2)) C dMo_plan_43 (by decide) ?_
        refine g_iload_n C dMo_plan_44 rfl ?_
        refine g_imul C dMo_plan_45 ?_
        refine g_ishl C dMo_plan_46 ?_
        refine gt_icmp_ge 106 C dMo_plan_47 (by decide) rfl rfl (fun c_47 => ?_) (fun c_47 => ?_)
        · have h := x_pos c_47 h
          refine g_iload_n C dMo_plan_106 rfl ?_
          refine g_iconst (v := Int32.ofInt (-1)) C dMo_plan_107 (by decide) ?_
          refine gt_icmp_ne 118 C dMo_plan_108 (by decide) rfl (ofI (by decide)) (fun c_108 => ?_) (fun c_108 => ?_)
          · have h := x_neg c_108 h
            refine g_aload_n C dMo_plan_118 rfl ?_
            refine g_iload_n C dMo_plan_119 rfl ?_
            refine x_puti C dMo_plan_120 fl_Mo_296 h0 rfl (Or.inl rfl) h (fun I4 h => ?_)
            refine g_iconst (v := Int32.ofInt (0)) C dMo_plan_123 (by decide) ?_
            refine g_istore C dMo_plan_124 (by decide) ?_
            have lp_126 : ∀ (x4_126 : Int32) (I_126 : WI), lp (B_Mo_plan_126 N O a0 x1 J0 x2_40 x3_40) (fun _ _ => none) N x4_126 I_126 = some (r, I') → GG X 6 P K I_126 O J0 0 0 126 [(0, .ref a0), (1, .int x1), (2, .int x2_40), (3, .int x3_40), (4, .int x4_126)] [] := by
              refine x_lp (fun (rec_126 : Int32 → WI → Option (Int32 × WI)) => ∀ (x4_126 : Int32) (I_126 : WI), rec_126 x4_126 I_126 = some (r, I') → GG X 6 P K I_126 O J0 0 0 126 [(0, .ref a0), (1, .int x1), (2, .int x2_40), (3, .int x3_40), (4, .int x4_126)] []) (fun _ _ h => by cases h) (fun rec_126 hr_126 x4_126 I_126 h => ?_) N
              unfold B_Mo_plan_126 at h
              refine g_iload C dMo_plan_126 rfl ?_
              refine g_iload_n C dMo_plan_128 rfl ?_
              refine gt_icmp_ge 157 C dMo_plan_129 (by decide) rfl rfl (fun c_129 => ?_) (fun c_129 => ?_)
              · have h := x_pos c_129 h
                refine g_aload_n C dMo_plan_157 rfl ?_
                refine g_iload_n C dMo_plan_158 rfl ?_
                obtain ⟨z_159, I5, e_159, h⟩ := bd2_some h
                refine x_callVi (av := fun ad => [.int x2_40]) C dMo_plan_159 mfMo_done mvMo_done ln_Mo_302 h0 (by decide) rfl (f_Mo_done hT h0 e_159) rfl rfl (Nat.le_of_ble_eq_true rfl) ⟨Nat.le_of_ble_eq_true rfl, Nat.le_of_ble_eq_true rfl⟩ ⟨rfl, rfl⟩ ⟨Nat.zero_le _, Nat.zero_le _⟩ ?_
                exact x_iret1 C E dMo_plan_162 ⟨Nat.zero_le _, Nat.zero_le _⟩ h
              · have h := x_neg (Int.not_le.mpr c_129) h
                refine g_aload_n C dMo_plan_132 rfl ?_
                have t_133 := rf_ok hT h0 (show sp 10 30 = some 38 from rfl)
                refine x_getr C dMo_plan_133 fl_Mo_51 h0 hT (show sp 10 30 = some 38 from rfl) ?_
                refine g_iload C dMo_plan_136 rfl ?_
                refine g_iload_n C dMo_plan_138 rfl ?_
                refine g_iconst (v := Int32.ofInt (2)) C dMo_plan_139 (by decide) ?_
                refine g_iload_n C dMo_plan_140 rfl ?_
                refine g_iconst (v := Int32.ofInt (1)) C dMo_plan_141 (by decide) ?_
                refine g_isub C dMo_plan_142 ?_
                refine g_iload C dMo_plan_143 rfl ?_
                refine g_isub C dMo_plan_145 ?_
                refine g_imul C dMo_plan_146 ?_
                refine g_ishr C dMo_plan_147 ?_
                refine g_iconst (v := Int32.ofInt (3)) C dMo_plan_148 (by decide) ?_
                refine g_iand C dMo_plan_149 ?_
                obtain ⟨g_150, h⟩ := x_g h
                refine x_iast (m := 5) C dMo_plan_150 t_133 (by decide) rfl rfl g_150 h (fun I6 h => ?_)
                refine x_iinc C dMo_plan_151 rfl (by decide) h (fun v4_151 h => ?_)
                refine g_goto 126 C dMo_plan_154 (by decide) ?_
                exact g_sub (hr_126 (v4_151) I6 h) ⟨rfl, rfl, rfl, rfl, rfl, trivial⟩
            exact g_sub (lp_126 ((Int32.ofInt (0))) I4 h) ⟨rfl, rfl, rfl, rfl, rfl, trivial⟩
          · have h := x_pos c_108 h
            refine g_aload_n C dMo_plan_111 rfl ?_
            refine g_bipush (v := Int32.ofInt (6)) C dMo_plan_112 (by decide) ?_
            obtain ⟨z_114, I7, e_114, h⟩ := bd2_some h
            refine x_callVi (av := fun ad => [.int (Int32.ofInt (6))]) C dMo_plan_114 mfMo_refused mvMo_refused ln_Mo_283 h0 (by decide) rfl (f_Mo_refused hT h0 e_114) rfl rfl (Nat.le_of_ble_eq_true rfl) ⟨Nat.le_of_ble_eq_true rfl, Nat.le_of_ble_eq_true rfl⟩ ⟨rfl, rfl⟩ ⟨Nat.zero_le _, Nat.zero_le _⟩ ?_
            exact x_iret1 C E dMo_plan_117 ⟨Nat.zero_le _, Nat.zero_le _⟩ h
        · have h := x_neg (Int.not_le.mpr c_47) h
          refine g_aload_n C dMo_plan_50 rfl ?_
          refine g_iload_n C dMo_plan_51 rfl ?_
          refine g_iload C dMo_plan_52 rfl ?_
          obtain ⟨z_54, I8, e_54, h⟩ := bd2_some h
          refine x_callVi (av := fun ad => [.int x1, .int x4_40]) C dMo_plan_54 mfMo_isWell mvMo_isWell ln_Mo_372 h0 (by decide) rfl (f_Mo_isWell hT h0 hN3 e_54) rfl rfl (Nat.le_of_ble_eq_true rfl) ⟨Nat.le_of_ble_eq_true rfl, Nat.le_of_ble_eq_true rfl⟩ ⟨rfl, rfl⟩ ⟨Nat.zero_le _, Nat.zero_le _⟩ ?_
          refine x_jn h (fun (k_100 : Int32 → Int32 → Option (Int32 × WI)) => ∀ (y2_100 : Int32) (y3_100 : Int32), k_100 y2_100 y3_100 = some (r, I') → GG X 6 P K I8 O J0 0 0 100 [(0, .ref a0), (1, .int x1), (2, .int y2_100), (3, .int y3_100), (4, .int x4_40)] []) (fun y2_100 y3_100 h => ?_) (fun k_100 hk_100 h => ?_)
          · skip
            refine x_iinc C dMo_plan_100 rfl (by decide) h (fun v4_100 h => ?_)
            refine g_goto 40 C dMo_plan_103 (by decide) ?_
            exact g_sub (hr_40 (y2_100) (y3_100) (v4_100) I8 h) ⟨rfl, rfl, rfl, rfl, rfl, trivial⟩
          refine gt_if_ne 63 C dMo_plan_57 (by decide) rfl (fun c_57 => ?_) (fun c_57 => ?_)
          · have h := x_neg c_57 h
            refine g_aload_n C dMo_plan_63 rfl ?_
            have t_64 := rf_ok hT h0 (show sp 10 17 = some 49 from rfl)
            refine x_getr C dMo_plan_64 fl_Mo_21 h0 hT (show sp 10 17 = some 49 from rfl) ?_
            refine g_bipush (v := Int32.ofInt (32)) C dMo_plan_67 (by decide) ?_
            refine x_ialdc (m := 37) (c := 32) C dMo_plan_69 t_64 (by decide) rfl rfl rfl (by decide) ?_
            refine g_aload_n C dMo_plan_70 rfl ?_
            have t_71 := rf_ok hT h0 (show sp 10 16 = some 31 from rfl)
            refine x_getr C dMo_plan_71 fl_Mo_17 h0 hT (show sp 10 16 = some 31 from rfl) ?_
            refine g_bipush (v := Int32.ofInt (32)) C dMo_plan_74 (by decide) ?_
            refine x_ialdc (m := 37) (c := 32) C dMo_plan_76 t_71 (by decide) rfl rfl rfl (by decide) ?_
            refine g_isub C dMo_plan_77 ?_
            refine x_istore C dMo_plan_78 (by decide) h (fun v5_78 h => ?_)
            refine g_iload_n C dMo_plan_80 rfl ?_
            refine g_iconst (v := Int32.ofInt (-1)) C dMo_plan_81 (by decide) ?_
            refine x_jn h (fun (k_94 : Option (Int32 × WI)) => k_94  = some (r, I') → GG X 6 P K I8 O J0 0 0 94 [(0, .ref a0), (1, .int x1), (2, .int x2_40), (3, .int x3_40), (4, .int x4_40), (5, .int v5_78)] []) (fun  h => ?_) (fun k_94 hk_94 h => ?_)
            · skip
              refine g_iload C dMo_plan_94 rfl ?_
              refine g_istore_n (i := 2) C dMo_plan_96 rfl (by decide) ?_
              refine g_iload C dMo_plan_97 rfl ?_
              refine g_istore_n (i := 3) C dMo_plan_99 rfl (by decide) ?_
              exact g_sub (hk_100 (v5_78) (x4_40) h) ⟨rfl, rfl, rfl, rfl, rfl, trivial⟩
            refine gt_icmp_eq 94 C dMo_plan_82 (by decide) rfl (ofI (by decide)) (fun c_82 => ?_) (fun c_82 => ?_)
            · have h := x_pos c_82 h
              exact g_sub (hk_94  h) ⟨rfl, rfl, rfl, rfl, rfl, rfl, trivial⟩
            · have h := x_neg c_82 h
              refine g_iload C dMo_plan_85 rfl ?_
              refine g_iload_n C dMo_plan_87 rfl ?_
              refine gt_icmp_lt 94 C dMo_plan_88 (by decide) rfl rfl (fun c_88 => ?_) (fun c_88 => ?_)
              · have h := x_pos c_88 h
                exact g_sub (hk_94  h) ⟨rfl, rfl, rfl, rfl, rfl, rfl, trivial⟩
              · have h := x_neg (Int.not_lt.mpr c_88) h
                refine g_goto 100 C dMo_plan_91 (by decide) ?_
                exact g_sub (hk_100 (x2_40) (x3_40) h) ⟨rfl, rfl, rfl, rfl, rfl, trivial⟩
          · have h := x_pos c_57 h
            refine g_goto 100 C dMo_plan_60 (by decide) ?_
            exact g_sub (hk_100 (x2_40) (x3_40) h) ⟨rfl, rfl, rfl, rfl, rfl, trivial⟩
      exact g_sub (lp_40 ((Int32.ofInt (-1))) ((Int32.ofInt (0))) ((Int32.ofInt (0))) I1 h) ⟨rfl, rfl, rfl, rfl, rfl, trivial⟩
    · have h := x_pos c_24 h
      refine g_aload_n C dMo_plan_27 rfl ?_
      refine g_iconst (v := Int32.ofInt (2)) C dMo_plan_28 (by decide) ?_
      obtain ⟨z_29, I9, e_29, h⟩ := bd2_some h
      refine x_callVi (av := fun ad => [.int (Int32.ofInt (2))]) C dMo_plan_29 mfMo_refused mvMo_refused ln_Mo_283 h0 (by decide) rfl (f_Mo_refused hT h0 e_29) rfl rfl (Nat.le_of_ble_eq_true rfl) ⟨Nat.le_of_ble_eq_true rfl, Nat.le_of_ble_eq_true rfl⟩ ⟨rfl, rfl⟩ ⟨Nat.zero_le _, Nat.zero_le _⟩ ?_
      exact x_iret1 C E dMo_plan_32 ⟨Nat.zero_le _, Nat.zero_le _⟩ h
def F_Mo_rate (N : Nat) (O : WO) (I0 : WI) (J0 : WJ) (a0 : Nat) (x1 : Int32) : Option (Int32 × WI) := lb (up2 I0 a0 0 (Int32.ofInt (0))) fun I1 => if (x1).toInt < 0 then (some ((Int32.ofInt (-1)), I1)) else (if ((I1 a0 29)).toInt ≤ (x1).toInt then (some ((Int32.ofInt (-1)), I1)) else (if 0 ≤ (x1).toInt ∧ (x1).toInt < 5 then (some ((I1 (rf O a0 30) (x1).toInt.toNat), I1)) else none))
set_option maxHeartbeats 4000000 in
set_option maxRecDepth 100000 in
theorem f_Mo_rate {P : List Nat} {K : Nat → Nat} {N : Nat} {O : WO} {I0 : WI} {J0 : WJ} (hT : TR P K O) {a0 : Nat} (h0 : a0 ∈ P ∧ K a0 = 10) {x1 : Int32} {r : Int32} {I' : WI} (h : F_Mo_rate N O I0 J0 a0 x1 = some (r, I')) : Con yMo_rate bMo_rate 2 (some .int) ({ frames := 0, cells := 0, slots := 0, locals := 0 } : Room) P K I0 O J0 [.ref a0, .int x1] (EPo (some (.int r)) I' J0 P K O) := by
  refine Con.ofG mfMo_rate (Nat.le_of_ble_eq_true rfl) ?_
  intro X C E
  unfold F_Mo_rate at h
  refine g_aload_n C dMo_rate_0 rfl ?_
  refine g_iconst (v := Int32.ofInt (0)) C dMo_rate_1 (by decide) ?_
  refine x_puti C dMo_rate_2 fl_Mo_73 h0 rfl (Or.inl rfl) h (fun I1 h => ?_)
  refine g_iload_n C dMo_rate_5 rfl ?_
  refine gt_if_lt 26 C dMo_rate_6 (by decide) rfl (fun c_6 => ?_) (fun c_6 => ?_)
  · have h := x_pos c_6 h
    refine g_iconst (v := Int32.ofInt (-1)) C dMo_rate_26 (by decide) ?_
    exact x_iret1 C E dMo_rate_27 ⟨Nat.zero_le _, Nat.zero_le _⟩ h
  · have h := x_neg (Int.not_lt.mpr c_6) h
    refine g_iload_n C dMo_rate_9 rfl ?_
    refine g_aload_n C dMo_rate_10 rfl ?_
    refine g_geti C dMo_rate_11 fl_Mo_296 h0 ?_
    refine gt_icmp_ge 26 C dMo_rate_14 (by decide) rfl rfl (fun c_14 => ?_) (fun c_14 => ?_)
    · have h := x_pos c_14 h
      refine g_iconst (v := Int32.ofInt (-1)) C dMo_rate_26 (by decide) ?_
      exact x_iret1 C E dMo_rate_27 ⟨Nat.zero_le _, Nat.zero_le _⟩ h
    · have h := x_neg (Int.not_le.mpr c_14) h
      refine g_aload_n C dMo_rate_17 rfl ?_
      have t_18 := rf_ok hT h0 (show sp 10 30 = some 38 from rfl)
      refine x_getr C dMo_rate_18 fl_Mo_51 h0 hT (show sp 10 30 = some 38 from rfl) ?_
      refine g_iload_n C dMo_rate_21 rfl ?_
      obtain ⟨g_22, h⟩ := x_g h
      refine x_iald (m := 5) C dMo_rate_22 t_18 (by decide) rfl rfl g_22 ?_
      refine g_goto 27 C dMo_rate_23 (by decide) ?_
      exact x_iret1 C E dMo_rate_27 ⟨Nat.zero_le _, Nat.zero_le _⟩ h
def F_Mo_rule (N : Nat) (O : WO) (I0 : WI) (J0 : WJ) (a0 : Nat) (x1 : Int32) : Option (Int32 × WI) := lb (up2 I0 a0 0 (Int32.ofInt (0))) fun I1 => if O a0 3 = none then (bd2 (F_Mo_refused N O I1 J0 a0 (Int32.ofInt (1))) fun z_14 I2 => some (z_14, I2)) else (bd1 (F_Mo_in N O I1 J0 x1 (Int32.ofInt (1)) (Int32.ofInt (5))) fun z_21 => if (z_21).toInt = 0 then (bd2 (F_Mo_refused N O I1 J0 a0 (Int32.ofInt (2))) fun z_29 I6 => some (z_29, I6)) else (bd1 (F_Mo_rules N O I1 J0 a0 x1) fun I4 => bd2 (F_Mo_done N O I4 J0 a0 ((I4 (rf O a0 17) 32) - (I4 (rf O a0 16) 32))) fun z_54 I5 => some (z_54, I5)))
set_option maxHeartbeats 4000000 in
set_option maxRecDepth 100000 in
theorem f_Mo_rule {P : List Nat} {K : Nat → Nat} {N : Nat} {O : WO} {I0 : WI} {J0 : WJ} (hT : TR P K O) {a0 : Nat} (h0 : a0 ∈ P ∧ K a0 = 10) {x1 : Int32} (hQ3 : ∀ b, O a0 3 = some b → b ∈ P ∧ K b = 9) {r : Int32} {I' : WI} (h : F_Mo_rule N O I0 J0 a0 x1 = some (r, I')) : Con yMo_rule bMo_rule 2 (some .int) ({ frames := 4, cells := 0, slots := 0, locals := 100 } : Room) P K I0 O J0 [.ref a0, .int x1] (EPo (some (.int r)) I' J0 P K O) := by
  refine Con.ofG mfMo_rule (Nat.le_of_ble_eq_true rfl) ?_
  intro X C E
  unfold F_Mo_rule at h
  refine g_aload_n C dMo_rule_0 rfl ?_
  refine g_iconst (v := Int32.ofInt (0)) C dMo_rule_1 (by decide) ?_
  refine x_puti C dMo_rule_2 fl_Mo_73 h0 rfl (Or.inl rfl) h (fun I1 h => ?_)
  refine g_aload_n C dMo_rule_5 rfl ?_
  refine x_nonnull 18 C dMo_rule_6 dMo_rule_9 (by decide) fl_Mo_290 h0 h (fun c_6 h => ?_) (fun c_6 h => ?_)
  · skip
    refine g_aload_n C dMo_rule_12 rfl ?_
    refine g_iconst (v := Int32.ofInt (1)) C dMo_rule_13 (by decide) ?_
    obtain ⟨z_14, I2, e_14, h⟩ := bd2_some h
    refine x_callVi (av := fun ad => [.int (Int32.ofInt (1))]) C dMo_rule_14 mfMo_refused mvMo_refused ln_Mo_283 h0 (by decide) rfl (f_Mo_refused hT h0 e_14) rfl rfl (Nat.le_of_ble_eq_true rfl) ⟨Nat.le_of_ble_eq_true rfl, Nat.le_of_ble_eq_true rfl⟩ ⟨rfl, rfl⟩ ⟨Nat.zero_le _, Nat.zero_le _⟩ ?_
    exact x_iret1 C E dMo_rule_17 ⟨Nat.zero_le _, Nat.zero_le _⟩ h
  · have hN3 : NN P K O a0 3 9 := ⟨c_6, hQ3 _ c_6⟩
    refine g_iload_n C dMo_rule_18 rfl ?_
    refine g_iconst (v := Int32.ofInt (1)) C dMo_rule_19 (by decide) ?_
    refine g_iconst (v := Int32.ofInt (5)) C dMo_rule_20 (by decide) ?_
    obtain ⟨z_21, e_21, h⟩ := bd1_some h
    refine x_callSi (av := fun ad => [.int x1, .int (Int32.ofInt (1)), .int (Int32.ofInt (5))]) C dMo_rule_21 mfMo_in msMo_in ln_Mo_149 (f_Mo_in hT  e_21) rfl rfl (Nat.le_of_ble_eq_true rfl) ⟨Nat.le_of_ble_eq_true rfl, Nat.le_of_ble_eq_true rfl⟩ ⟨rfl, rfl⟩ ⟨Nat.zero_le _, Nat.zero_le _⟩ ?_
    refine gt_if_ne 33 C dMo_rule_24 (by decide) rfl (fun c_24 => ?_) (fun c_24 => ?_)
    · have h := x_neg c_24 h
      refine g_aload_n C dMo_rule_33 rfl ?_
      refine g_iload_n C dMo_rule_34 rfl ?_
      obtain ⟨I4, e_35, h⟩ := bd1_some h
      refine x_callVv (av := fun ad => [.int x1]) C dMo_rule_35 mfMo_rules mvMo_rules ln_Mo_375 h0 (by decide) rfl (f_Mo_rules hT h0 hN3 e_35) rfl rfl (Nat.le_of_ble_eq_true rfl) ⟨Nat.le_of_ble_eq_true rfl, Nat.le_of_ble_eq_true rfl⟩ ⟨rfl, rfl⟩ ⟨Nat.zero_le _, Nat.zero_le _⟩ ?_
      refine g_aload_n C dMo_rule_38 rfl ?_
      refine g_aload_n C dMo_rule_39 rfl ?_
      have t_40 := rf_ok hT h0 (show sp 10 17 = some 49 from rfl)
      refine x_getr C dMo_rule_40 fl_Mo_21 h0 hT (show sp 10 17 = some 49 from rfl) ?_
      refine g_bipush (v := Int32.ofInt (32)) C dMo_rule_43 (by decide) ?_
      refine x_ialdc (m := 37) (c := 32) C dMo_rule_45 t_40 (by decide) rfl rfl rfl (by decide) ?_
      refine g_aload_n C dMo_rule_46 rfl ?_
      have t_47 := rf_ok hT h0 (show sp 10 16 = some 31 from rfl)
      refine x_getr C dMo_rule_47 fl_Mo_17 h0 hT (show sp 10 16 = some 31 from rfl) ?_
      refine g_bipush (v := Int32.ofInt (32)) C dMo_rule_50 (by decide) ?_
      refine x_ialdc (m := 37) (c := 32) C dMo_rule_52 t_47 (by decide) rfl rfl rfl (by decide) ?_
      refine g_isub C dMo_rule_53 ?_
      obtain ⟨z_54, I5, e_54, h⟩ := bd2_some h
      refine x_callVi (av := fun ad => [.int ((I4 (rf O a0 17) 32) - (I4 (rf O a0 16) 32))]) C dMo_rule_54 mfMo_done mvMo_done ln_Mo_302 h0 (by decide) rfl (f_Mo_done hT h0 e_54) rfl rfl (Nat.le_of_ble_eq_true rfl) ⟨Nat.le_of_ble_eq_true rfl, Nat.le_of_ble_eq_true rfl⟩ ⟨rfl, rfl⟩ ⟨Nat.zero_le _, Nat.zero_le _⟩ ?_
      exact x_iret1 C E dMo_rule_57 ⟨Nat.zero_le _, Nat.zero_le _⟩ h
    · have h := x_pos c_24 h
      refine g_aload_n C dMo_rule_27 rfl ?_
      refine g_iconst (v := Int32.ofInt (2)) C dMo_rule_28 (by decide) ?_
      obtain ⟨z_29, I6, e_29, h⟩ := bd2_some h
      refine x_callVi (av := fun ad => [.int (Int32.ofInt (2))]) C dMo_rule_29 mfMo_refused mvMo_refused ln_Mo_283 h0 (by decide) rfl (f_Mo_refused hT h0 e_29) rfl rfl (Nat.le_of_ble_eq_true rfl) ⟨Nat.le_of_ble_eq_true rfl, Nat.le_of_ble_eq_true rfl⟩ ⟨rfl, rfl⟩ ⟨Nat.zero_le _, Nat.zero_le _⟩ ?_
      exact x_iret1 C E dMo_rule_32 ⟨Nat.zero_le _, Nat.zero_le _⟩ h
def F_Mo_lacks (N : Nat) (O : WO) (I0 : WI) (J0 : WJ) (a0 : Nat) (x1 : Int32) : Option (Int32 × WI) := lb (up2 I0 a0 0 (Int32.ofInt (0))) fun I1 => if O a0 3 = none then (bd2 (F_Mo_refused N O I1 J0 a0 (Int32.ofInt (1))) fun z_14 I2 => some (z_14, I2)) else (bd1 (F_Mo_in N O I1 J0 x1 (Int32.ofInt (1)) (Int32.ofInt (5))) fun z_21 => if (z_21).toInt = 0 then (bd2 (F_Mo_refused N O I1 J0 a0 (Int32.ofInt (2))) fun z_29 I6 => some (z_29, I6)) else (bd1 (F_Mo_rules N O I1 J0 a0 x1) fun I4 => bd2 (F_Mo_done N O I4 J0 a0 ((I4 (rf O a0 17) 23) - (I4 (rf O a0 16) 23))) fun z_54 I5 => some (z_54, I5)))
set_option maxHeartbeats 4000000 in
set_option maxRecDepth 100000 in
theorem f_Mo_lacks {P : List Nat} {K : Nat → Nat} {N : Nat} {O : WO} {I0 : WI} {J0 : WJ} (hT : TR P K O) {a0 : Nat} (h0 : a0 ∈ P ∧ K a0 = 10) {x1 : Int32} (hQ3 : ∀ b, O a0 3 = some b → b ∈ P ∧ K b = 9) {r : Int32} {I' : WI} (h : F_Mo_lacks N O I0 J0 a0 x1 = some (r, I')) : Con yMo_lacks bMo_lacks 2 (some .int) ({ frames := 4, cells := 0, slots := 0, locals := 100 } : Room) P K I0 O J0 [.ref a0, .int x1] (EPo (some (.int r)) I' J0 P K O) := by
  refine Con.ofG mfMo_lacks (Nat.le_of_ble_eq_true rfl) ?_
  intro X C E
  unfold F_Mo_lacks at h
  refine g_aload_n C dMo_lacks_0 rfl ?_
  refine g_iconst (v := Int32.ofInt (0)) C dMo_lacks_1 (by decide) ?_
  refine x_puti C dMo_lacks_2 fl_Mo_73 h0 rfl (Or.inl rfl) h (fun I1 h => ?_)
  refine g_aload_n C dMo_lacks_5 rfl ?_
  refine x_nonnull 18 C dMo_lacks_6 dMo_lacks_9 (by decide) fl_Mo_290 h0 h (fun c_6 h => ?_) (fun c_6 h => ?_)
  · skip
    refine g_aload_n C dMo_lacks_12 rfl ?_
    refine g_iconst (v := Int32.ofInt (1)) C dMo_lacks_13 (by decide) ?_
    obtain ⟨z_14, I2, e_14, h⟩ := bd2_some h
    refine x_callVi (av := fun ad => [.int (Int32.ofInt (1))]) C dMo_lacks_14 mfMo_refused mvMo_refused ln_Mo_283 h0 (by decide) rfl (f_Mo_refused hT h0 e_14) rfl rfl (Nat.le_of_ble_eq_true rfl) ⟨Nat.le_of_ble_eq_true rfl, Nat.le_of_ble_eq_true rfl⟩ ⟨rfl, rfl⟩ ⟨Nat.zero_le _, Nat.zero_le _⟩ ?_
    exact x_iret1 C E dMo_lacks_17 ⟨Nat.zero_le _, Nat.zero_le _⟩ h
  · have hN3 : NN P K O a0 3 9 := ⟨c_6, hQ3 _ c_6⟩
    refine g_iload_n C dMo_lacks_18 rfl ?_
    refine g_iconst (v := Int32.ofInt (1)) C dMo_lacks_19 (by decide) ?_
    refine g_iconst (v := Int32.ofInt (5)) C dMo_lacks_20 (by decide) ?_
    obtain ⟨z_21, e_21, h⟩ := bd1_some h
    refine x_callSi (av := fun ad => [.int x1, .int (Int32.ofInt (1)), .int (Int32.ofInt (5))]) C dMo_lacks_21 mfMo_in msMo_in ln_Mo_149 (f_Mo_in hT  e_21) rfl rfl (Nat.le_of_ble_eq_true rfl) ⟨Nat.le_of_ble_eq_true rfl, Nat.le_of_ble_eq_true rfl⟩ ⟨rfl, rfl⟩ ⟨Nat.zero_le _, Nat.zero_le _⟩ ?_
    refine gt_if_ne 33 C dMo_lacks_24 (by decide) rfl (fun c_24 => ?_) (fun c_24 => ?_)
    · have h := x_neg c_24 h
      refine g_aload_n C dMo_lacks_33 rfl ?_
      refine g_iload_n C dMo_lacks_34 rfl ?_
      obtain ⟨I4, e_35, h⟩ := bd1_some h
      refine x_callVv (av := fun ad => [.int x1]) C dMo_lacks_35 mfMo_rules mvMo_rules ln_Mo_375 h0 (by decide) rfl (f_Mo_rules hT h0 hN3 e_35) rfl rfl (Nat.le_of_ble_eq_true rfl) ⟨Nat.le_of_ble_eq_true rfl, Nat.le_of_ble_eq_true rfl⟩ ⟨rfl, rfl⟩ ⟨Nat.zero_le _, Nat.zero_le _⟩ ?_
      refine g_aload_n C dMo_lacks_38 rfl ?_
      refine g_aload_n C dMo_lacks_39 rfl ?_
      have t_40 := rf_ok hT h0 (show sp 10 17 = some 49 from rfl)
      refine x_getr C dMo_lacks_40 fl_Mo_21 h0 hT (show sp 10 17 = some 49 from rfl) ?_
      refine g_bipush (v := Int32.ofInt (23)) C dMo_lacks_43 (by decide) ?_
      refine x_ialdc (m := 37) (c := 23) C dMo_lacks_45 t_40 (by decide) rfl rfl rfl (by decide) ?_
      refine g_aload_n C dMo_lacks_46 rfl ?_
      have t_47 := rf_ok hT h0 (show sp 10 16 = some 31 from rfl)
      refine x_getr C dMo_lacks_47 fl_Mo_17 h0 hT (show sp 10 16 = some 31 from rfl) ?_
      refine g_bipush (v := Int32.ofInt (23)) C dMo_lacks_50 (by decide) ?_
      refine x_ialdc (m := 37) (c := 23) C dMo_lacks_52 t_47 (by decide) rfl rfl rfl (by decide) ?_
      refine g_isub C dMo_lacks_53 ?_
      obtain ⟨z_54, I5, e_54, h⟩ := bd2_some h
      refine x_callVi (av := fun ad => [.int ((I4 (rf O a0 17) 23) - (I4 (rf O a0 16) 23))]) C dMo_lacks_54 mfMo_done mvMo_done ln_Mo_302 h0 (by decide) rfl (f_Mo_done hT h0 e_54) rfl rfl (Nat.le_of_ble_eq_true rfl) ⟨Nat.le_of_ble_eq_true rfl, Nat.le_of_ble_eq_true rfl⟩ ⟨rfl, rfl⟩ ⟨Nat.zero_le _, Nat.zero_le _⟩ ?_
      exact x_iret1 C E dMo_lacks_57 ⟨Nat.zero_le _, Nat.zero_le _⟩ h
    · have h := x_pos c_24 h
      refine g_aload_n C dMo_lacks_27 rfl ?_
      refine g_iconst (v := Int32.ofInt (2)) C dMo_lacks_28 (by decide) ?_
      obtain ⟨z_29, I6, e_29, h⟩ := bd2_some h
      refine x_callVi (av := fun ad => [.int (Int32.ofInt (2))]) C dMo_lacks_29 mfMo_refused mvMo_refused ln_Mo_283 h0 (by decide) rfl (f_Mo_refused hT h0 e_29) rfl rfl (Nat.le_of_ble_eq_true rfl) ⟨Nat.le_of_ble_eq_true rfl, Nat.le_of_ble_eq_true rfl⟩ ⟨rfl, rfl⟩ ⟨Nat.zero_le _, Nat.zero_le _⟩ ?_
      exact x_iret1 C E dMo_lacks_32 ⟨Nat.zero_le _, Nat.zero_le _⟩ h
def F_Mo_number (N : Nat) (O : WO) (I0 : WI) (J0 : WJ) (a0 : Nat) (x1 : Int32) (x2 : Int32) : Option (Int32 × WI) := lb (up2 I0 a0 0 (Int32.ofInt (0))) fun I1 => if O a0 3 = none then (bd2 (F_Mo_refused N O I1 J0 a0 (Int32.ofInt (1))) fun z_14 I2 => some (z_14, I2)) else (bd1 (F_Mo_in N O I1 J0 x2 (Int32.ofInt (0)) (Int32.ofInt (999))) fun z_23 => if (z_23).toInt = 0 then (bd2 (F_Mo_refused N O I1 J0 a0 (Int32.ofInt (2))) fun z_31 I8 => some (z_31, I8)) else (jn (fun (s0_44 : Int32) => if 0 ≤ (s0_44).toInt ∧ (s0_44).toInt < 2 then (if ((I1 (rf O a0 33) (s0_44).toInt.toNat)).toInt = 8 then (bd2 (F_Mo_refused N O I1 J0 a0 (Int32.ofInt (3))) fun z_58 I7 => some (z_58, I7)) else (if 0 ≤ (s0_44).toInt ∧ (s0_44).toInt < 2 then (if 0 ≤ ((((Int32.ofInt (8)) * s0_44) + (I1 (rf O a0 33) (s0_44).toInt.toNat))).toInt ∧ ((((Int32.ofInt (8)) * s0_44) + (I1 (rf O a0 33) (s0_44).toInt.toNat))).toInt < 16 then (lb (up2 I1 (rf O a0 34) ((((Int32.ofInt (8)) * s0_44) + (I1 (rf O a0 33) (s0_44).toInt.toNat))).toInt.toNat x2) fun I4 => if 0 ≤ (s0_44).toInt ∧ (s0_44).toInt < 2 then (if 0 ≤ (s0_44).toInt ∧ (s0_44).toInt < 2 then (lb (up2 I4 (rf O a0 33) (s0_44).toInt.toNat ((I4 (rf O a0 33) (s0_44).toInt.toNat) + (Int32.ofInt (1)))) fun I5 => if 0 ≤ (s0_44).toInt ∧ (s0_44).toInt < 2 then (bd2 (F_Mo_done N O I5 J0 a0 (I5 (rf O a0 33) (s0_44).toInt.toNat)) fun z_96 I6 => some (z_96, I6)) else none) else none) else none) else none) else none)) else none) fun k_44 => if (x1).toInt = 0 then (k_44 ((Int32.ofInt (0)))) else (k_44 ((Int32.ofInt (1))))))
set_option maxHeartbeats 4000000 in
set_option maxRecDepth 100000 in
theorem f_Mo_number {P : List Nat} {K : Nat → Nat} {N : Nat} {O : WO} {I0 : WI} {J0 : WJ} (hT : TR P K O) {a0 : Nat} (h0 : a0 ∈ P ∧ K a0 = 10) {x1 : Int32} {x2 : Int32} (hQ3 : ∀ b, O a0 3 = some b → b ∈ P ∧ K b = 9) {r : Int32} {I' : WI} (h : F_Mo_number N O I0 J0 a0 x1 x2 = some (r, I')) : Con yMo_number bMo_number 4 (some .int) ({ frames := 1, cells := 0, slots := 0, locals := 22 } : Room) P K I0 O J0 [.ref a0, .int x1, .int x2] (EPo (some (.int r)) I' J0 P K O) := by
  refine Con.ofG mfMo_number (Nat.le_of_ble_eq_true rfl) ?_
  intro X C E
  unfold F_Mo_number at h
  refine g_aload_n C dMo_number_0 rfl ?_
  refine g_iconst (v := Int32.ofInt (0)) C dMo_number_1 (by decide) ?_
  refine x_puti C dMo_number_2 fl_Mo_73 h0 rfl (Or.inl rfl) h (fun I1 h => ?_)
  refine g_aload_n C dMo_number_5 rfl ?_
  refine x_nonnull 18 C dMo_number_6 dMo_number_9 (by decide) fl_Mo_290 h0 h (fun c_6 h => ?_) (fun c_6 h => ?_)
  · skip
    refine g_aload_n C dMo_number_12 rfl ?_
    refine g_iconst (v := Int32.ofInt (1)) C dMo_number_13 (by decide) ?_
    obtain ⟨z_14, I2, e_14, h⟩ := bd2_some h
    refine x_callVi (av := fun ad => [.int (Int32.ofInt (1))]) C dMo_number_14 mfMo_refused mvMo_refused ln_Mo_283 h0 (by decide) rfl (f_Mo_refused hT h0 e_14) rfl rfl (Nat.le_of_ble_eq_true rfl) ⟨Nat.le_of_ble_eq_true rfl, Nat.le_of_ble_eq_true rfl⟩ ⟨rfl, rfl⟩ ⟨Nat.zero_le _, Nat.zero_le _⟩ ?_
    exact x_iret1 C E dMo_number_17 ⟨Nat.zero_le _, Nat.zero_le _⟩ h
  · have hN3 : NN P K O a0 3 9 := ⟨c_6, hQ3 _ c_6⟩
    refine g_iload_n C dMo_number_18 rfl ?_
    refine g_iconst (v := Int32.ofInt (0)) C dMo_number_19 (by decide) ?_
    refine g_sipush (v := Int32.ofInt (999)) C dMo_number_20 (by decide) ?_
    obtain ⟨z_23, e_23, h⟩ := bd1_some h
    refine x_callSi (av := fun ad => [.int x2, .int (Int32.ofInt (0)), .int (Int32.ofInt (999))]) C dMo_number_23 mfMo_in msMo_in ln_Mo_149 (f_Mo_in hT  e_23) rfl rfl (Nat.le_of_ble_eq_true rfl) ⟨Nat.le_of_ble_eq_true rfl, Nat.le_of_ble_eq_true rfl⟩ ⟨rfl, rfl⟩ ⟨Nat.zero_le _, Nat.zero_le _⟩ ?_
    refine gt_if_ne 35 C dMo_number_26 (by decide) rfl (fun c_26 => ?_) (fun c_26 => ?_)
    · have h := x_neg c_26 h
      refine g_iload_n C dMo_number_35 rfl ?_
      refine x_jn h (fun (k_44 : Int32 → Option (Int32 × WI)) => ∀ (s0_44 : Int32), k_44 s0_44 = some (r, I') → GG X 4 P K I1 O J0 0 0 44 [(0, .ref a0), (1, .int x1), (2, .int x2)] [.int s0_44]) (fun s0_44 h => ?_) (fun k_44 hk_44 h => ?_)
      · skip
        refine g_istore_n (i := 3) C dMo_number_44 rfl (by decide) ?_
        refine g_aload_n C dMo_number_45 rfl ?_
        have t_46 := rf_ok hT h0 (show sp 10 33 = some 39 from rfl)
        refine x_getr C dMo_number_46 fl_Mo_60 h0 hT (show sp 10 33 = some 39 from rfl) ?_
        refine g_iload_n C dMo_number_49 rfl ?_
        obtain ⟨g_50, h⟩ := x_g h
        refine x_iald (m := 2) C dMo_number_50 t_46 (by decide) rfl rfl g_50 ?_
        refine g_bipush (v := Int32.ofInt (8)) C dMo_number_51 (by decide) ?_
        refine gt_icmp_ne 62 C dMo_number_53 (by decide) rfl (ofI (by decide)) (fun c_53 => ?_) (fun c_53 => ?_)
        · have h := x_neg c_53 h
          refine g_aload_n C dMo_number_62 rfl ?_
          have t_63 := rf_ok hT h0 (show sp 10 34 = some 40 from rfl)
          refine x_getr C dMo_number_63 fl_Mo_63 h0 hT (show sp 10 34 = some 40 from rfl) ?_
          refine g_bipush (v := Int32.ofInt (8)) C dMo_number_66 (by decide) ?_
          refine g_iload_n C dMo_number_68 rfl ?_
          refine g_imul C dMo_number_69 ?_
          refine g_aload_n C dMo_number_70 rfl ?_
          have t_71 := rf_ok hT h0 (show sp 10 33 = some 39 from rfl)
          refine x_getr C dMo_number_71 fl_Mo_60 h0 hT (show sp 10 33 = some 39 from rfl) ?_
          refine g_iload_n C dMo_number_74 rfl ?_
          obtain ⟨g_75, h⟩ := x_g h
          refine x_iald (m := 2) C dMo_number_75 t_71 (by decide) rfl rfl g_75 ?_
          refine g_iadd C dMo_number_76 ?_
          refine g_iload_n C dMo_number_77 rfl ?_
          obtain ⟨g_78, h⟩ := x_g h
          refine x_iast (m := 16) C dMo_number_78 t_63 (by decide) rfl rfl g_78 h (fun I4 h => ?_)
          refine g_aload_n C dMo_number_79 rfl ?_
          have t_80 := rf_ok hT h0 (show sp 10 33 = some 39 from rfl)
          refine x_getr C dMo_number_80 fl_Mo_60 h0 hT (show sp 10 33 = some 39 from rfl) ?_
          refine g_iload_n C dMo_number_83 rfl ?_
          refine g_dup2 C dMo_number_84 rfl rfl ?_
          obtain ⟨g_85, h⟩ := x_g h
          refine x_iald (m := 2) C dMo_number_85 t_80 (by decide) rfl rfl g_85 ?_
          refine g_iconst (v := Int32.ofInt (1)) C dMo_number_86 (by decide) ?_
          refine g_iadd C dMo_number_87 ?_
          obtain ⟨g_88, h⟩ := x_g h
          refine x_iast (m := 2) C dMo_number_88 t_80 (by decide) rfl rfl g_88 h (fun I5 h => ?_)
          refine g_aload_n C dMo_number_89 rfl ?_
          refine g_aload_n C dMo_number_90 rfl ?_
          have t_91 := rf_ok hT h0 (show sp 10 33 = some 39 from rfl)
          refine x_getr C dMo_number_91 fl_Mo_60 h0 hT (show sp 10 33 = some 39 from rfl) ?_
          refine g_iload_n C dMo_number_94 rfl ?_
          obtain ⟨g_95, h⟩ := x_g h
          refine x_iald (m := 2) C dMo_number_95 t_91 (by decide) rfl rfl g_95 ?_
          obtain ⟨z_96, I6, e_96, h⟩ := bd2_some h
          refine x_callVi (av := fun ad => [.int (I5 (rf O a0 33) (s0_44).toInt.toNat)]) C dMo_number_96 mfMo_done mvMo_done ln_Mo_302 h0 (by decide) rfl (f_Mo_done hT h0 e_96) rfl rfl (Nat.le_of_ble_eq_true rfl) ⟨Nat.le_of_ble_eq_true rfl, Nat.le_of_ble_eq_true rfl⟩ ⟨rfl, rfl⟩ ⟨Nat.zero_le _, Nat.zero_le _⟩ ?_
          exact x_iret1 C E dMo_number_99 ⟨Nat.zero_le _, Nat.zero_le _⟩ h
        · have h := x_pos c_53 h
          refine g_aload_n C dMo_number_56 rfl ?_
          refine g_iconst (v := Int32.ofInt (3)) C dMo_number_57 (by decide) ?_
          obtain ⟨z_58, I7, e_58, h⟩ := bd2_some h
          refine x_callVi (av := fun ad => [.int (Int32.ofInt (3))]) C dMo_number_58 mfMo_refused mvMo_refused ln_Mo_283 h0 (by decide) rfl (f_Mo_refused hT h0 e_58) rfl rfl (Nat.le_of_ble_eq_true rfl) ⟨Nat.le_of_ble_eq_true rfl, Nat.le_of_ble_eq_true rfl⟩ ⟨rfl, rfl⟩ ⟨Nat.zero_le _, Nat.zero_le _⟩ ?_
          exact x_iret1 C E dMo_number_61 ⟨Nat.zero_le _, Nat.zero_le _⟩ h
      refine gt_if_eq 43 C dMo_number_36 (by decide) rfl (fun c_36 => ?_) (fun c_36 => ?_)
      · have h := x_pos c_36 h
        refine g_iconst (v := Int32.ofInt (0)) C dMo_number_43 (by decide) ?_
        exact g_sub (hk_44 ((Int32.ofInt (0))) h) ⟨rfl, rfl, rfl, trivial⟩
      · have h := x_neg c_36 h
        refine g_iconst (v := Int32.ofInt (1)) C dMo_number_39 (by decide) ?_
        refine g_goto 44 C dMo_number_40 (by decide) ?_
        exact g_sub (hk_44 ((Int32.ofInt (1))) h) ⟨rfl, rfl, rfl, trivial⟩
    · have h := x_pos c_26 h
      refine g_aload_n C dMo_number_29 rfl ?_
      refine g_iconst (v := Int32.ofInt (2)) C dMo_number_30 (by decide) ?_
      obtain ⟨z_31, I8, e_31, h⟩ := bd2_some h
      refine x_callVi (av := fun ad => [.int (Int32.ofInt (2))]) C dMo_number_31 mfMo_refused mvMo_refused ln_Mo_283 h0 (by decide) rfl (f_Mo_refused hT h0 e_31) rfl rfl (Nat.le_of_ble_eq_true rfl) ⟨Nat.le_of_ble_eq_true rfl, Nat.le_of_ble_eq_true rfl⟩ ⟨rfl, rfl⟩ ⟨Nat.zero_le _, Nat.zero_le _⟩ ?_
      exact x_iret1 C E dMo_number_34 ⟨Nat.zero_le _, Nat.zero_le _⟩ h
def B_Mo_chance_33 (N : Nat) (O : WO) (a0 : Nat) (J0 : WJ) (I1 : WI) (rec_33 : Int32 → Int32 → Option (Int32 × WI)) (x1_33 : Int32) (x2_33 : Int32) : Option (Int32 × WI) := if ((I1 (rf O a0 33) 1)).toInt ≤ (x2_33).toInt then (bd1 (F_Mo_splitsFrom N O I1 J0 a0 x1_33) fun z_64 => bd2 (F_Mo_done N O I1 J0 a0 z_64) fun z_67 I4 => some (z_67, I4)) else (if 0 ≤ (((Int32.ofInt (8)) + x2_33)).toInt ∧ (((Int32.ofInt (8)) + x2_33)).toInt < 16 then (lb ((x1_33 + (I1 (rf O a0 34) (((Int32.ofInt (8)) + x2_33)).toInt.toNat))) fun v1_54 => lb (x2_33 + Int32.ofInt (1)) fun v2_55 => rec_33 (v1_54) (v2_55)) else none)
def F_Mo_chance (N : Nat) (O : WO) (I0 : WI) (J0 : WJ) (a0 : Nat) : Option (Int32 × WI) := lb (up2 I0 a0 0 (Int32.ofInt (0))) fun I1 => jn (bd2 (F_Mo_refused N O I1 J0 a0 (Int32.ofInt (5))) fun z_25 I2 => some (z_25, I2)) fun k_23 => if ((I1 (rf O a0 33) 0)).toInt = 0 then (k_23 ) else (if ((I1 (rf O a0 33) 1)).toInt = 0 then (k_23 ) else (lp (B_Mo_chance_33 N O a0 J0 I1) (fun _ _ => none) N ((Int32.ofInt (0))) ((Int32.ofInt (0)))))
set_option maxHeartbeats 4000000 in
set_option maxRecDepth 100000 in
theorem f_Mo_chance {P : List Nat} {K : Nat → Nat} {N : Nat} {O : WO} {I0 : WI} {J0 : WJ} (hT : TR P K O) {a0 : Nat} (h0 : a0 ∈ P ∧ K a0 = 10) {r : Int32} {I' : WI} (h : F_Mo_chance N O I0 J0 a0 = some (r, I')) : Con yMo_chance bMo_chance 3 (some .int) ({ frames := 2, cells := 0, slots := 0, locals := 48 } : Room) P K I0 O J0 [.ref a0] (EPo (some (.int r)) I' J0 P K O) := by
  refine Con.ofG mfMo_chance (Nat.le_of_ble_eq_true rfl) ?_
  intro X C E
  unfold F_Mo_chance at h
  refine g_aload_n C dMo_chance_0 rfl ?_
  refine g_iconst (v := Int32.ofInt (0)) C dMo_chance_1 (by decide) ?_
  refine x_puti C dMo_chance_2 fl_Mo_73 h0 rfl (Or.inl rfl) h (fun I1 h => ?_)
  refine g_aload_n C dMo_chance_5 rfl ?_
  have t_6 := rf_ok hT h0 (show sp 10 33 = some 39 from rfl)
  refine x_getr C dMo_chance_6 fl_Mo_60 h0 hT (show sp 10 33 = some 39 from rfl) ?_
  refine g_iconst (v := Int32.ofInt (0)) C dMo_chance_9 (by decide) ?_
  refine x_ialdc (m := 2) (c := 0) C dMo_chance_10 t_6 (by decide) rfl rfl rfl (by decide) ?_
  refine x_jn h (fun (k_23 : Option (Int32 × WI)) => k_23  = some (r, I') → GG X 3 P K I1 O J0 0 0 23 [(0, .ref a0)] []) (fun  h => ?_) (fun k_23 hk_23 h => ?_)
  · skip
    refine g_aload_n C dMo_chance_23 rfl ?_
    refine g_iconst (v := Int32.ofInt (5)) C dMo_chance_24 (by decide) ?_
    obtain ⟨z_25, I2, e_25, h⟩ := bd2_some h
    refine x_callVi (av := fun ad => [.int (Int32.ofInt (5))]) C dMo_chance_25 mfMo_refused mvMo_refused ln_Mo_283 h0 (by decide) rfl (f_Mo_refused hT h0 e_25) rfl rfl (Nat.le_of_ble_eq_true rfl) ⟨Nat.le_of_ble_eq_true rfl, Nat.le_of_ble_eq_true rfl⟩ ⟨rfl, rfl⟩ ⟨Nat.zero_le _, Nat.zero_le _⟩ ?_
    exact x_iret1 C E dMo_chance_28 ⟨Nat.zero_le _, Nat.zero_le _⟩ h
  refine gt_if_eq 23 C dMo_chance_11 (by decide) rfl (fun c_11 => ?_) (fun c_11 => ?_)
  · have h := x_pos c_11 h
    exact g_sub (hk_23  h) ⟨rfl, trivial⟩
  · have h := x_neg c_11 h
    refine g_aload_n C dMo_chance_14 rfl ?_
    have t_15 := rf_ok hT h0 (show sp 10 33 = some 39 from rfl)
    refine x_getr C dMo_chance_15 fl_Mo_60 h0 hT (show sp 10 33 = some 39 from rfl) ?_
    refine g_iconst (v := Int32.ofInt (1)) C dMo_chance_18 (by decide) ?_
    refine x_ialdc (m := 2) (c := 1) C dMo_chance_19 t_15 (by decide) rfl rfl rfl (by decide) ?_
    refine gt_if_ne 29 C dMo_chance_20 (by decide) rfl (fun c_20 => ?_) (fun c_20 => ?_)
    · have h := x_neg c_20 h
      refine g_iconst (v := Int32.ofInt (0)) C dMo_chance_29 (by decide) ?_
      refine g_istore_n (i := 1) C dMo_chance_30 rfl (by decide) ?_
      refine g_iconst (v := Int32.ofInt (0)) C dMo_chance_31 (by decide) ?_
      refine g_istore_n (i := 2) C dMo_chance_32 rfl (by decide) ?_
      have lp_33 : ∀ (x1_33 : Int32) (x2_33 : Int32), lp (B_Mo_chance_33 N O a0 J0 I1) (fun _ _ => none) N x1_33 x2_33 = some (r, I') → GG X 3 P K I1 O J0 0 0 33 [(0, .ref a0), (1, .int x1_33), (2, .int x2_33)] [] := by
        refine x_lp (fun (rec_33 : Int32 → Int32 → Option (Int32 × WI)) => ∀ (x1_33 : Int32) (x2_33 : Int32), rec_33 x1_33 x2_33 = some (r, I') → GG X 3 P K I1 O J0 0 0 33 [(0, .ref a0), (1, .int x1_33), (2, .int x2_33)] []) (fun _ _ h => by cases h) (fun rec_33 hr_33 x1_33 x2_33 h => ?_) N
        unfold B_Mo_chance_33 at h
        refine g_iload_n C dMo_chance_33 rfl ?_
        refine g_aload_n C dMo_chance_34 rfl ?_
        have t_35 := rf_ok hT h0 (show sp 10 33 = some 39 from rfl)
        refine x_getr C dMo_chance_35 fl_Mo_60 h0 hT (show sp 10 33 = some 39 from rfl) ?_
        refine g_iconst (v := Int32.ofInt (1)) C dMo_chance_38 (by decide) ?_
        refine x_ialdc (m := 2) (c := 1) C dMo_chance_39 t_35 (by decide) rfl rfl rfl (by decide) ?_
        refine gt_icmp_ge 61 C dMo_chance_40 (by decide) rfl rfl (fun c_40 => ?_) (fun c_40 => ?_)
        · have h := x_pos c_40 h
          refine g_aload_n C dMo_chance_61 rfl ?_
          refine g_aload_n C dMo_chance_62 rfl ?_
          refine g_iload_n C dMo_chance_63 rfl ?_
          obtain ⟨z_64, e_64, h⟩ := bd1_some h
          refine x_callVi (av := fun ad => [.int x1_33]) C dMo_chance_64 mfMo_splitsFrom mvMo_splitsFrom ln_Mo_381 h0 (by decide) rfl (f_Mo_splitsFrom hT h0 e_64) rfl rfl (Nat.le_of_ble_eq_true rfl) ⟨Nat.le_of_ble_eq_true rfl, Nat.le_of_ble_eq_true rfl⟩ ⟨rfl, rfl⟩ ⟨Nat.zero_le _, Nat.zero_le _⟩ ?_
          obtain ⟨z_67, I4, e_67, h⟩ := bd2_some h
          refine x_callVi (av := fun ad => [.int z_64]) C dMo_chance_67 mfMo_done mvMo_done ln_Mo_302 h0 (by decide) rfl (f_Mo_done hT h0 e_67) rfl rfl (Nat.le_of_ble_eq_true rfl) ⟨Nat.le_of_ble_eq_true rfl, Nat.le_of_ble_eq_true rfl⟩ ⟨rfl, rfl⟩ ⟨Nat.zero_le _, Nat.zero_le _⟩ ?_
          exact x_iret1 C E dMo_chance_70 ⟨Nat.zero_le _, Nat.zero_le _⟩ h
        · have h := x_neg (Int.not_le.mpr c_40) h
          refine g_iload_n C dMo_chance_43 rfl ?_
          refine g_aload_n C dMo_chance_44 rfl ?_
          have t_45 := rf_ok hT h0 (show sp 10 34 = some 40 from rfl)
          refine x_getr C dMo_chance_45 fl_Mo_63 h0 hT (show sp 10 34 = some 40 from rfl) ?_
          refine g_bipush (v := Int32.ofInt (8)) C dMo_chance_48 (by decide) ?_
          refine g_iload_n C dMo_chance_50 rfl ?_
          refine g_iadd C dMo_chance_51 ?_
          obtain ⟨g_52, h⟩ := x_g h
          refine x_iald (m := 16) C dMo_chance_52 t_45 (by decide) rfl rfl g_52 ?_
          refine g_iadd C dMo_chance_53 ?_
          refine x_istore_n (i := 1) C dMo_chance_54 rfl (by decide) h (fun v1_54 h => ?_)
          refine x_iinc C dMo_chance_55 rfl (by decide) h (fun v2_55 h => ?_)
          refine g_goto 33 C dMo_chance_58 (by decide) ?_
          exact g_sub (hr_33 (v1_54) (v2_55) h) ⟨rfl, rfl, rfl, trivial⟩
      exact g_sub (lp_33 ((Int32.ofInt (0))) ((Int32.ofInt (0))) h) ⟨rfl, rfl, rfl, trivial⟩
    · have h := x_pos c_20 h
      exact g_sub (hk_23  h) ⟨rfl, trivial⟩
def F_Mo_splits (N : Nat) (O : WO) (I0 : WI) (J0 : WJ) (a0 : Nat) : Option (Int32 × WI) := lb (up2 I0 a0 0 (Int32.ofInt (0))) fun I1 => jn (bd2 (F_Mo_refused N O I1 J0 a0 (Int32.ofInt (5))) fun z_25 I2 => some (z_25, I2)) fun k_23 => if ((I1 (rf O a0 33) 0)).toInt = 0 then (k_23 ) else (if ((I1 (rf O a0 33) 1)).toInt = 0 then (k_23 ) else (bd1 (F_Mo_splitsFrom N O I1 J0 a0 (Int32.ofInt (0))) fun z_34 => bd2 (F_Mo_done N O I1 J0 a0 z_34) fun z_37 I4 => some (z_37, I4)))
set_option maxHeartbeats 4000000 in
set_option maxRecDepth 100000 in
theorem f_Mo_splits {P : List Nat} {K : Nat → Nat} {N : Nat} {O : WO} {I0 : WI} {J0 : WJ} (hT : TR P K O) {a0 : Nat} (h0 : a0 ∈ P ∧ K a0 = 10) {r : Int32} {I' : WI} (h : F_Mo_splits N O I0 J0 a0 = some (r, I')) : Con yMo_splits bMo_splits 1 (some .int) ({ frames := 2, cells := 0, slots := 0, locals := 48 } : Room) P K I0 O J0 [.ref a0] (EPo (some (.int r)) I' J0 P K O) := by
  refine Con.ofG mfMo_splits (Nat.le_of_ble_eq_true rfl) ?_
  intro X C E
  unfold F_Mo_splits at h
  refine g_aload_n C dMo_splits_0 rfl ?_
  refine g_iconst (v := Int32.ofInt (0)) C dMo_splits_1 (by decide) ?_
  refine x_puti C dMo_splits_2 fl_Mo_73 h0 rfl (Or.inl rfl) h (fun I1 h => ?_)
  refine g_aload_n C dMo_splits_5 rfl ?_
  have t_6 := rf_ok hT h0 (show sp 10 33 = some 39 from rfl)
  refine x_getr C dMo_splits_6 fl_Mo_60 h0 hT (show sp 10 33 = some 39 from rfl) ?_
  refine g_iconst (v := Int32.ofInt (0)) C dMo_splits_9 (by decide) ?_
  refine x_ialdc (m := 2) (c := 0) C dMo_splits_10 t_6 (by decide) rfl rfl rfl (by decide) ?_
  refine x_jn h (fun (k_23 : Option (Int32 × WI)) => k_23  = some (r, I') → GG X 1 P K I1 O J0 0 0 23 [(0, .ref a0)] []) (fun  h => ?_) (fun k_23 hk_23 h => ?_)
  · skip
    refine g_aload_n C dMo_splits_23 rfl ?_
    refine g_iconst (v := Int32.ofInt (5)) C dMo_splits_24 (by decide) ?_
    obtain ⟨z_25, I2, e_25, h⟩ := bd2_some h
    refine x_callVi (av := fun ad => [.int (Int32.ofInt (5))]) C dMo_splits_25 mfMo_refused mvMo_refused ln_Mo_283 h0 (by decide) rfl (f_Mo_refused hT h0 e_25) rfl rfl (Nat.le_of_ble_eq_true rfl) ⟨Nat.le_of_ble_eq_true rfl, Nat.le_of_ble_eq_true rfl⟩ ⟨rfl, rfl⟩ ⟨Nat.zero_le _, Nat.zero_le _⟩ ?_
    refine g_goto 40 C dMo_splits_28 (by decide) ?_
    exact x_iret1 C E dMo_splits_40 ⟨Nat.zero_le _, Nat.zero_le _⟩ h
  refine gt_if_eq 23 C dMo_splits_11 (by decide) rfl (fun c_11 => ?_) (fun c_11 => ?_)
  · have h := x_pos c_11 h
    exact g_sub (hk_23  h) ⟨rfl, trivial⟩
  · have h := x_neg c_11 h
    refine g_aload_n C dMo_splits_14 rfl ?_
    have t_15 := rf_ok hT h0 (show sp 10 33 = some 39 from rfl)
    refine x_getr C dMo_splits_15 fl_Mo_60 h0 hT (show sp 10 33 = some 39 from rfl) ?_
    refine g_iconst (v := Int32.ofInt (1)) C dMo_splits_18 (by decide) ?_
    refine x_ialdc (m := 2) (c := 1) C dMo_splits_19 t_15 (by decide) rfl rfl rfl (by decide) ?_
    refine gt_if_ne 31 C dMo_splits_20 (by decide) rfl (fun c_20 => ?_) (fun c_20 => ?_)
    · have h := x_neg c_20 h
      refine g_aload_n C dMo_splits_31 rfl ?_
      refine g_aload_n C dMo_splits_32 rfl ?_
      refine g_iconst (v := Int32.ofInt (0)) C dMo_splits_33 (by decide) ?_
      obtain ⟨z_34, e_34, h⟩ := bd1_some h
      refine x_callVi (av := fun ad => [.int (Int32.ofInt (0))]) C dMo_splits_34 mfMo_splitsFrom mvMo_splitsFrom ln_Mo_381 h0 (by decide) rfl (f_Mo_splitsFrom hT h0 e_34) rfl rfl (Nat.le_of_ble_eq_true rfl) ⟨Nat.le_of_ble_eq_true rfl, Nat.le_of_ble_eq_true rfl⟩ ⟨rfl, rfl⟩ ⟨Nat.zero_le _, Nat.zero_le _⟩ ?_
      obtain ⟨z_37, I4, e_37, h⟩ := bd2_some h
      refine x_callVi (av := fun ad => [.int z_34]) C dMo_splits_37 mfMo_done mvMo_done ln_Mo_302 h0 (by decide) rfl (f_Mo_done hT h0 e_37) rfl rfl (Nat.le_of_ble_eq_true rfl) ⟨Nat.le_of_ble_eq_true rfl, Nat.le_of_ble_eq_true rfl⟩ ⟨rfl, rfl⟩ ⟨Nat.zero_le _, Nat.zero_le _⟩ ?_
      exact x_iret1 C E dMo_splits_40 ⟨Nat.zero_le _, Nat.zero_le _⟩ h
    · have h := x_pos c_20 h
      exact g_sub (hk_23  h) ⟨rfl, trivial⟩
def F_Mo_clear (N : Nat) (O : WO) (I0 : WI) (J0 : WJ) (a0 : Nat) : Option (Int32 × WI) := lb (up2 I0 a0 0 (Int32.ofInt (0))) fun I1 => lb (((I1 (rf O a0 33) 0) + (I1 (rf O a0 33) 1))) fun v1_18 => lb (up2 I1 (rf O a0 33) 0 (Int32.ofInt (0))) fun I2 => lb (up2 I2 (rf O a0 33) 1 (Int32.ofInt (0))) fun I3 => some (v1_18, I3)
set_option maxHeartbeats 4000000 in
set_option maxRecDepth 100000 in
theorem f_Mo_clear {P : List Nat} {K : Nat → Nat} {N : Nat} {O : WO} {I0 : WI} {J0 : WJ} (hT : TR P K O) {a0 : Nat} (h0 : a0 ∈ P ∧ K a0 = 10) {r : Int32} {I' : WI} (h : F_Mo_clear N O I0 J0 a0 = some (r, I')) : Con yMo_clear bMo_clear 2 (some .int) ({ frames := 0, cells := 0, slots := 0, locals := 0 } : Room) P K I0 O J0 [.ref a0] (EPo (some (.int r)) I' J0 P K O) := by
  refine Con.ofG mfMo_clear (Nat.le_of_ble_eq_true rfl) ?_
  intro X C E
  unfold F_Mo_clear at h
  refine g_aload_n C dMo_clear_0 rfl ?_
  refine g_iconst (v := Int32.ofInt (0)) C dMo_clear_1 (by decide) ?_
  refine x_puti C dMo_clear_2 fl_Mo_73 h0 rfl (Or.inl rfl) h (fun I1 h => ?_)
  refine g_aload_n C dMo_clear_5 rfl ?_
  have t_6 := rf_ok hT h0 (show sp 10 33 = some 39 from rfl)
  refine x_getr C dMo_clear_6 fl_Mo_60 h0 hT (show sp 10 33 = some 39 from rfl) ?_
  refine g_iconst (v := Int32.ofInt (0)) C dMo_clear_9 (by decide) ?_
  refine x_ialdc (m := 2) (c := 0) C dMo_clear_10 t_6 (by decide) rfl rfl rfl (by decide) ?_
  refine g_aload_n C dMo_clear_11 rfl ?_
  have t_12 := rf_ok hT h0 (show sp 10 33 = some 39 from rfl)
  refine x_getr C dMo_clear_12 fl_Mo_60 h0 hT (show sp 10 33 = some 39 from rfl) ?_
  refine g_iconst (v := Int32.ofInt (1)) C dMo_clear_15 (by decide) ?_
  refine x_ialdc (m := 2) (c := 1) C dMo_clear_16 t_12 (by decide) rfl rfl rfl (by decide) ?_
  refine g_iadd C dMo_clear_17 ?_
  refine x_istore_n (i := 1) C dMo_clear_18 rfl (by decide) h (fun v1_18 h => ?_)
  refine g_aload_n C dMo_clear_19 rfl ?_
  have t_20 := rf_ok hT h0 (show sp 10 33 = some 39 from rfl)
  refine x_getr C dMo_clear_20 fl_Mo_60 h0 hT (show sp 10 33 = some 39 from rfl) ?_
  refine g_iconst (v := Int32.ofInt (0)) C dMo_clear_23 (by decide) ?_
  refine g_iconst (v := Int32.ofInt (0)) C dMo_clear_24 (by decide) ?_
  refine x_iastc (m := 2) (c := 0) C dMo_clear_25 t_20 (by decide) rfl rfl rfl (by decide) h (fun I2 h => ?_)
  refine g_aload_n C dMo_clear_26 rfl ?_
  have t_27 := rf_ok hT h0 (show sp 10 33 = some 39 from rfl)
  refine x_getr C dMo_clear_27 fl_Mo_60 h0 hT (show sp 10 33 = some 39 from rfl) ?_
  refine g_iconst (v := Int32.ofInt (1)) C dMo_clear_30 (by decide) ?_
  refine g_iconst (v := Int32.ofInt (0)) C dMo_clear_31 (by decide) ?_
  refine x_iastc (m := 2) (c := 1) C dMo_clear_32 t_27 (by decide) rfl rfl rfl (by decide) h (fun I3 h => ?_)
  refine g_iload_n C dMo_clear_33 rfl ?_
  exact x_iret1 C E dMo_clear_34 ⟨Nat.zero_le _, Nat.zero_le _⟩ h
def B_Mo_marks_125 (N : Nat) (O : WO) (a0 : Nat) (x5 : Int32) (x6 : Int32) (rec_125 : Int64 → Int32 → WI → WJ → Option (Int32 × WI × WJ)) (x7_125 : Int64) (x9_125 : Int32) (I_125 : WI) (J_125 : WJ) : Option (Int32 × WI × WJ) := if (x6).toInt < (x9_125).toInt then (bd2 (F_Mo_done N O I_125 J_125 a0 (x7_125).toInt32) fun z_168 I9 => some (z_168, I9, J_125)) else (bd1 (F_Mo_byProgram N O I_125 J_125 a0 (rf O a0 17) x9_125) fun I10 => jn (fun (y7_158 : Int64) (IJ_158 : WI) (JJ_158 : WJ) => lb (x9_125 + Int32.ofInt (1)) fun v9_158 => rec_125 (y7_158) (v9_158) IJ_158 JJ_158) fun k_158 => if (x9_125).toInt < (x5).toInt then (k_158 (x7_125) I10 J_125) else (bd3 (F_Mo_leads N O I10 J_125 a0) fun z_152 I11 J11 => lb ((x7_125 + z_152)) fun v7_156 => k_158 (v7_156) I11 J11))
def B_Mo_marks_78 (N : Nat) (O : WO) (a0 : Nat) (x4 : Int32) (x5 : Int32) (x6 : Int32) (I8 : WI) (rec_78 : Int32 → WJ → Option (Int32 × WI × WJ)) (x7_78 : Int32) (J_78 : WJ) : Option (Int32 × WI × WJ) := if 5 ≤ (x7_78).toInt then (lp (B_Mo_marks_125 N O a0 x5 x6) (fun _ _ _ _ => none) N ((0 : Int64)) ((Int32.ofInt (0))) I8 J_78) else (jn (fun (s0_104 : Int64) => if 0 ≤ (x7_78).toInt ∧ (x7_78).toInt < 5 then (lb (up2 J_78 (rf O a0 35) (x7_78).toInt.toNat s0_104) fun J12 => if 0 ≤ (x7_78).toInt ∧ (x7_78).toInt < 5 then (lb (up2 J12 (rf O a0 36) (x7_78).toInt.toNat (0 : Int64)) fun J13 => lb (x7_78 + Int32.ofInt (1)) fun v7_113 => rec_78 (v7_113) J13) else none) else none) fun k_104 => if (x7_78).toInt = (x4).toInt then (k_104 ((1000000 : Int64))) else (k_104 ((0 : Int64))))
def F_Mo_marks (N : Nat) (O : WO) (I0 : WI) (J0 : WJ) (a0 : Nat) (x1 : Int32) (x2 : Int32) (x3 : Int32) (x4 : Int32) (x5 : Int32) (x6 : Int32) : Option (Int32 × WI × WJ) := lb (up2 I0 a0 0 (Int32.ofInt (0))) fun I1 => bd1 (F_Mo_isSize N O I1 J0 a0 x4) fun z_8 => jn (bd2 (F_Mo_refused N O I1 J0 a0 (Int32.ofInt (1))) fun z_38 I3 => some (z_38, I3, J0)) fun k_36 => if (z_8).toInt = 0 then (k_36 ) else (bd1 (F_Mo_in N O I1 J0 x5 (Int32.ofInt (0)) (Int32.ofInt (11))) fun z_19 => if (z_19).toInt = 0 then (k_36 ) else (bd1 (F_Mo_in N O I1 J0 x6 (Int32.ofInt (0)) (Int32.ofInt (11))) fun z_30 => if (z_30).toInt = 0 then (k_36 ) else (bd1 (F_Mo_isStart N O I1 J0 x1 x2 x3) fun z_45 => jn (bd2 (F_Mo_refused N O I1 J0 a0 (Int32.ofInt (2))) fun z_60 I7 => some (z_60, I7, J0)) fun k_58 => if (z_45).toInt = 0 then (k_58 ) else (if (x5).toInt ≤ (x6).toInt then (bd1 (F_Mo_begins N O I1 J0 a0 (rf O a0 17) x1 x2 x3) fun I8 => lp (B_Mo_marks_78 N O a0 x4 x5 x6 I8) (fun _ _ => none) N ((Int32.ofInt (0))) J0) else (k_58 )))))
set_option maxHeartbeats 4000000 in
set_option maxRecDepth 100000 in
theorem f_Mo_marks {P : List Nat} {K : Nat → Nat} {N : Nat} {O : WO} {I0 : WI} {J0 : WJ} (hT : TR P K O) {a0 : Nat} (h0 : a0 ∈ P ∧ K a0 = 10) {x1 : Int32} {x2 : Int32} {x3 : Int32} {x4 : Int32} {x5 : Int32} {x6 : Int32} (hN3 : NN P K O a0 3 9) (hQ3 : ∀ b, O a0 3 = some b → b ∈ P ∧ K b = 9) {r : Int32} {I' : WI} {J' : WJ} (h : F_Mo_marks N O I0 J0 a0 x1 x2 x3 x4 x5 x6 = some (r, I', J')) : Con yMo_marks bMo_marks 10 (some .int) ({ frames := 4, cells := 0, slots := 0, locals := 97 } : Room) P K I0 O J0 [.ref a0, .int x1, .int x2, .int x3, .int x4, .int x5, .int x6] (EPo (some (.int r)) I' J' P K O) := by
  refine Con.ofG mfMo_marks (Nat.le_of_ble_eq_true rfl) ?_
  intro X C E
  unfold F_Mo_marks at h
  refine g_aload_n C dMo_marks_0 rfl ?_
  refine g_iconst (v := Int32.ofInt (0)) C dMo_marks_1 (by decide) ?_
  refine x_puti C dMo_marks_2 fl_Mo_73 h0 rfl (Or.inl rfl) h (fun I1 h => ?_)
  refine g_aload_n C dMo_marks_5 rfl ?_
  refine g_iload C dMo_marks_6 rfl ?_
  obtain ⟨z_8, e_8, h⟩ := bd1_some h
  refine x_callVi (av := fun ad => [.int x4]) C dMo_marks_8 mfMo_isSize mvMo_isSize ln_Mo_335 h0 (by decide) rfl (f_Mo_isSize hT h0 hQ3 e_8) rfl rfl (Nat.le_of_ble_eq_true rfl) ⟨Nat.le_of_ble_eq_true rfl, Nat.le_of_ble_eq_true rfl⟩ ⟨rfl, rfl⟩ ⟨Nat.zero_le _, Nat.zero_le _⟩ ?_
  refine x_jn h (fun (k_36 : Option (Int32 × WI × WJ)) => k_36  = some (r, I', J') → GG X 10 P K I1 O J0 0 0 36 [(0, .ref a0), (1, .int x1), (2, .int x2), (3, .int x3), (4, .int x4), (5, .int x5), (6, .int x6)] []) (fun  h => ?_) (fun k_36 hk_36 h => ?_)
  · skip
    refine g_aload_n C dMo_marks_36 rfl ?_
    refine g_iconst (v := Int32.ofInt (1)) C dMo_marks_37 (by decide) ?_
    obtain ⟨z_38, I3, e_38, h⟩ := bd2_some h
    refine x_callVi (av := fun ad => [.int (Int32.ofInt (1))]) C dMo_marks_38 mfMo_refused mvMo_refused ln_Mo_283 h0 (by decide) rfl (f_Mo_refused hT h0 e_38) rfl rfl (Nat.le_of_ble_eq_true rfl) ⟨Nat.le_of_ble_eq_true rfl, Nat.le_of_ble_eq_true rfl⟩ ⟨rfl, rfl⟩ ⟨Nat.zero_le _, Nat.zero_le _⟩ ?_
    exact x_iret2 C E dMo_marks_41 ⟨Nat.zero_le _, Nat.zero_le _⟩ h
  refine gt_if_eq 36 C dMo_marks_11 (by decide) rfl (fun c_11 => ?_) (fun c_11 => ?_)
  · have h := x_pos c_11 h
    exact g_sub (hk_36  h) ⟨rfl, rfl, rfl, rfl, rfl, rfl, rfl, trivial⟩
  · have h := x_neg c_11 h
    refine g_iload C dMo_marks_14 rfl ?_
    refine g_iconst (v := Int32.ofInt (0)) C dMo_marks_16 (by decide) ?_
    refine g_bipush (v := Int32.ofInt (11)) C dMo_marks_17 (by decide) ?_
    obtain ⟨z_19, e_19, h⟩ := bd1_some h
    refine x_callSi (av := fun ad => [.int x5, .int (Int32.ofInt (0)), .int (Int32.ofInt (11))]) C dMo_marks_19 mfMo_in msMo_in ln_Mo_149 (f_Mo_in hT  e_19) rfl rfl (Nat.le_of_ble_eq_true rfl) ⟨Nat.le_of_ble_eq_true rfl, Nat.le_of_ble_eq_true rfl⟩ ⟨rfl, rfl⟩ ⟨Nat.zero_le _, Nat.zero_le _⟩ ?_
    refine gt_if_eq 36 C dMo_marks_22 (by decide) rfl (fun c_22 => ?_) (fun c_22 => ?_)
    · have h := x_pos c_22 h
      exact g_sub (hk_36  h) ⟨rfl, rfl, rfl, rfl, rfl, rfl, rfl, trivial⟩
    · have h := x_neg c_22 h
      refine g_iload C dMo_marks_25 rfl ?_
      refine g_iconst (v := Int32.ofInt (0)) C dMo_marks_27 (by decide) ?_
      refine g_bipush (v := Int32.ofInt (11)) C dMo_marks_28 (by decide) ?_
      obtain ⟨z_30, e_30, h⟩ := bd1_some h
      refine x_callSi (av := fun ad => [.int x6, .int (Int32.ofInt (0)), .int (Int32.ofInt (11))]) C dMo_marks_30 mfMo_in msMo_in ln_Mo_149 (f_Mo_in hT  e_30) rfl rfl (Nat.le_of_ble_eq_true rfl) ⟨Nat.le_of_ble_eq_true rfl, Nat.le_of_ble_eq_true rfl⟩ ⟨rfl, rfl⟩ ⟨Nat.zero_le _, Nat.zero_le _⟩ ?_
      refine gt_if_ne 42 C dMo_marks_33 (by decide) rfl (fun c_33 => ?_) (fun c_33 => ?_)
      · have h := x_neg c_33 h
        refine g_iload_n C dMo_marks_42 rfl ?_
        refine g_iload_n C dMo_marks_43 rfl ?_
        refine g_iload_n C dMo_marks_44 rfl ?_
        obtain ⟨z_45, e_45, h⟩ := bd1_some h
        refine x_callSi (av := fun ad => [.int x1, .int x2, .int x3]) C dMo_marks_45 mfMo_isStart msMo_isStart ln_Mo_366 (f_Mo_isStart hT  e_45) rfl rfl (Nat.le_of_ble_eq_true rfl) ⟨Nat.le_of_ble_eq_true rfl, Nat.le_of_ble_eq_true rfl⟩ ⟨rfl, rfl⟩ ⟨Nat.zero_le _, Nat.zero_le _⟩ ?_
        refine x_jn h (fun (k_58 : Option (Int32 × WI × WJ)) => k_58  = some (r, I', J') → GG X 10 P K I1 O J0 0 0 58 [(0, .ref a0), (1, .int x1), (2, .int x2), (3, .int x3), (4, .int x4), (5, .int x5), (6, .int x6)] []) (fun  h => ?_) (fun k_58 hk_58 h => ?_)
        · skip
          refine g_aload_n C dMo_marks_58 rfl ?_
          refine g_iconst (v := Int32.ofInt (2)) C dMo_marks_59 (by decide) ?_
          obtain ⟨z_60, I7, e_60, h⟩ := bd2_some h
          refine x_callVi (av := fun ad => [.int (Int32.ofInt (2))]) C dMo_marks_60 mfMo_refused mvMo_refused ln_Mo_283 h0 (by decide) rfl (f_Mo_refused hT h0 e_60) rfl rfl (Nat.le_of_ble_eq_true rfl) ⟨Nat.le_of_ble_eq_true rfl, Nat.le_of_ble_eq_true rfl⟩ ⟨rfl, rfl⟩ ⟨Nat.zero_le _, Nat.zero_le _⟩ ?_
          exact x_iret2 C E dMo_marks_63 ⟨Nat.zero_le _, Nat.zero_le _⟩ h
        refine gt_if_eq 58 C dMo_marks_48 (by decide) rfl (fun c_48 => ?_) (fun c_48 => ?_)
        · have h := x_pos c_48 h
          exact g_sub (hk_58  h) ⟨rfl, rfl, rfl, rfl, rfl, rfl, rfl, trivial⟩
        · have h := x_neg c_48 h
          refine g_iload C dMo_marks_51 rfl ?_
          refine g_iload C dMo_marks_53 rfl ?_
          refine gt_icmp_ge 64 C dMo_marks_55 (by decide) rfl rfl (fun c_55 => ?_) (fun c_55 => ?_)
          · have h := x_pos c_55 h
            refine g_aload_n C dMo_marks_64 rfl ?_
            refine g_aload_n C dMo_marks_65 rfl ?_
            have t_66 := rf_ok hT h0 (show sp 10 17 = some 49 from rfl)
            refine x_getr C dMo_marks_66 fl_Mo_21 h0 hT (show sp 10 17 = some 49 from rfl) ?_
            refine g_iload_n C dMo_marks_69 rfl ?_
            refine g_iload_n C dMo_marks_70 rfl ?_
            refine g_iload_n C dMo_marks_71 rfl ?_
            obtain ⟨I8, e_72, h⟩ := bd1_some h
            refine x_callVv (av := fun ad => [.ref (rf O a0 17), .int x1, .int x2, .int x3]) C dMo_marks_72 mfMo_begins mvMo_begins ln_Mo_343 h0 (by decide) rfl (f_Mo_begins hT h0 t_66 hN3 e_72) rfl rfl (Nat.le_of_ble_eq_true rfl) ⟨Nat.le_of_ble_eq_true rfl, Nat.le_of_ble_eq_true rfl⟩ ⟨rfl, rfl⟩ ⟨Nat.zero_le _, Nat.zero_le _⟩ ?_
            refine g_iconst (v := Int32.ofInt (0)) C dMo_marks_75 (by decide) ?_
            refine g_istore C dMo_marks_76 (by decide) ?_
            have lp_78 : ∀ (x7_78 : Int32) (J_78 : WJ), lp (B_Mo_marks_78 N O a0 x4 x5 x6 I8) (fun _ _ => none) N x7_78 J_78 = some (r, I', J') → GG X 10 P K I8 O J_78 0 0 78 [(0, .ref a0), (1, .int x1), (2, .int x2), (3, .int x3), (4, .int x4), (5, .int x5), (6, .int x6), (7, .int x7_78)] [] := by
              refine x_lp (fun (rec_78 : Int32 → WJ → Option (Int32 × WI × WJ)) => ∀ (x7_78 : Int32) (J_78 : WJ), rec_78 x7_78 J_78 = some (r, I', J') → GG X 10 P K I8 O J_78 0 0 78 [(0, .ref a0), (1, .int x1), (2, .int x2), (3, .int x3), (4, .int x4), (5, .int x5), (6, .int x6), (7, .int x7_78)] []) (fun _ _ h => by cases h) (fun rec_78 hr_78 x7_78 J_78 h => ?_) N
              unfold B_Mo_marks_78 at h
              refine g_iload C dMo_marks_78 rfl ?_
              refine g_iconst (v := Int32.ofInt (5)) C dMo_marks_80 (by decide) ?_
              refine gt_icmp_ge 119 C dMo_marks_81 (by decide) rfl (ofI (by decide)) (fun c_81 => ?_) (fun c_81 => ?_)
              · have h := x_pos c_81 h
                refine g_lconst (v := 0) C dMo_marks_119 (by decide) ?_
                refine g_lstore C dMo_marks_120 (by decide) ?_
                refine g_iconst (v := Int32.ofInt (0)) C dMo_marks_122 (by decide) ?_
                refine g_istore C dMo_marks_123 (by decide) ?_
                have lp_125 : ∀ (x7_125 : Int64) (x9_125 : Int32) (I_125 : WI) (J_125 : WJ), lp (B_Mo_marks_125 N O a0 x5 x6) (fun _ _ _ _ => none) N x7_125 x9_125 I_125 J_125 = some (r, I', J') → GG X 10 P K I_125 O J_125 0 0 125 [(0, .ref a0), (1, .int x1), (2, .int x2), (3, .int x3), (4, .int x4), (5, .int x5), (6, .int x6), (7, .long x7_125), (9, .int x9_125)] [] := by
                  refine x_lp (fun (rec_125 : Int64 → Int32 → WI → WJ → Option (Int32 × WI × WJ)) => ∀ (x7_125 : Int64) (x9_125 : Int32) (I_125 : WI) (J_125 : WJ), rec_125 x7_125 x9_125 I_125 J_125 = some (r, I', J') → GG X 10 P K I_125 O J_125 0 0 125 [(0, .ref a0), (1, .int x1), (2, .int x2), (3, .int x3), (4, .int x4), (5, .int x5), (6, .int x6), (7, .long x7_125), (9, .int x9_125)] []) (fun _ _ _ _ h => by cases h) (fun rec_125 hr_125 x7_125 x9_125 I_125 J_125 h => ?_) N
                  unfold B_Mo_marks_125 at h
                  refine g_iload C dMo_marks_125 rfl ?_
                  refine g_iload C dMo_marks_127 rfl ?_
                  refine gt_icmp_gt 164 C dMo_marks_129 (by decide) rfl rfl (fun c_129 => ?_) (fun c_129 => ?_)
                  · have h := x_pos c_129 h
                    refine g_aload_n C dMo_marks_164 rfl ?_
                    refine g_lload C dMo_marks_165 rfl ?_
                    refine g_l2i C dMo_marks_167 ?_
                    obtain ⟨z_168, I9, e_168, h⟩ := bd2_some h
                    refine x_callVi (av := fun ad => [.int (x7_125).toInt32]) C dMo_marks_168 mfMo_done mvMo_done ln_Mo_302 h0 (by decide) rfl (f_Mo_done hT h0 e_168) rfl rfl (Nat.le_of_ble_eq_true rfl) ⟨Nat.le_of_ble_eq_true rfl, Nat.le_of_ble_eq_true rfl⟩ ⟨rfl, rfl⟩ ⟨Nat.zero_le _, Nat.zero_le _⟩ ?_
                    exact x_iret2 C E dMo_marks_171 ⟨Nat.zero_le _, Nat.zero_le _⟩ h
                  · have h := x_neg (Int.not_lt.mpr c_129) h
                    refine g_aload_n C dMo_marks_132 rfl ?_
                    refine g_aload_n C dMo_marks_133 rfl ?_
                    have t_134 := rf_ok hT h0 (show sp 10 17 = some 49 from rfl)
                    refine x_getr C dMo_marks_134 fl_Mo_21 h0 hT (show sp 10 17 = some 49 from rfl) ?_
                    refine g_iload C dMo_marks_137 rfl ?_
                    obtain ⟨I10, e_139, h⟩ := bd1_some h
                    refine x_callVv (av := fun ad => [.ref (rf O a0 17), .int x9_125]) C dMo_marks_139 mfMo_byProgram mvMo_byProgram ln_Mo_347 h0 (by decide) rfl (f_Mo_byProgram hT h0 t_134 hN3 e_139) rfl rfl (Nat.le_of_ble_eq_true rfl) ⟨Nat.le_of_ble_eq_true rfl, Nat.le_of_ble_eq_true rfl⟩ ⟨rfl, rfl⟩ ⟨Nat.zero_le _, Nat.zero_le _⟩ ?_
                    refine g_iload C dMo_marks_142 rfl ?_
                    refine g_iload C dMo_marks_144 rfl ?_
                    refine x_jn h (fun (k_158 : Int64 → WI → WJ → Option (Int32 × WI × WJ)) => ∀ (y7_158 : Int64) (IJ_158 : WI) (JJ_158 : WJ), k_158 y7_158 IJ_158 JJ_158 = some (r, I', J') → GG X 10 P K IJ_158 O JJ_158 0 0 158 [(0, .ref a0), (1, .int x1), (2, .int x2), (3, .int x3), (4, .int x4), (5, .int x5), (6, .int x6), (7, .long y7_158), (9, .int x9_125)] []) (fun y7_158 IJ_158 JJ_158 h => ?_) (fun k_158 hk_158 h => ?_)
                    · skip
                      refine x_iinc C dMo_marks_158 rfl (by decide) h (fun v9_158 h => ?_)
                      refine g_goto 125 C dMo_marks_161 (by decide) ?_
                      exact g_sub (hr_125 (y7_158) (v9_158) IJ_158 JJ_158 h) ⟨rfl, rfl, rfl, rfl, rfl, rfl, rfl, rfl, rfl, trivial⟩
                    refine gt_icmp_lt 158 C dMo_marks_146 (by decide) rfl rfl (fun c_146 => ?_) (fun c_146 => ?_)
                    · have h := x_pos c_146 h
                      exact g_sub (hk_158 (x7_125) I10 J_125 h) ⟨rfl, rfl, rfl, rfl, rfl, rfl, rfl, rfl, rfl, trivial⟩
                    · have h := x_neg (Int.not_lt.mpr c_146) h
                      refine g_lload C dMo_marks_149 rfl ?_
                      refine g_aload_n C dMo_marks_151 rfl ?_
                      obtain ⟨z_152, I11, J11, e_152, h⟩ := bd3_some h
                      refine x_callVl (av := fun ad => []) C dMo_marks_152 mfMo_leads mvMo_leads ln_Mo_390 h0 (by decide) rfl (f_Mo_leads hT h0 hN3 e_152) rfl rfl (Nat.le_of_ble_eq_true rfl) ⟨Nat.le_of_ble_eq_true rfl, Nat.le_of_ble_eq_true rfl⟩ ⟨rfl, rfl⟩ ⟨Nat.zero_le _, Nat.zero_le _⟩ ?_
                      refine g_ladd C dMo_marks_155 ?_
                      refine x_lstore C dMo_marks_156 (by decide) h (fun v7_156 h => ?_)
                      exact g_sub (hk_158 (v7_156) I11 J11 h) ⟨rfl, rfl, rfl, rfl, rfl, rfl, rfl, rfl, rfl, trivial⟩
                exact g_sub (lp_125 ((0 : Int64)) ((Int32.ofInt (0))) I8 J_78 h) ⟨rfl, rfl, rfl, rfl, rfl, rfl, rfl, rfl, rfl, trivial⟩
              · have h := x_neg (Int.not_le.mpr c_81) h
                refine g_aload_n C dMo_marks_84 rfl ?_
                have t_85 := rf_ok hT h0 (show sp 10 35 = some 41 from rfl)
                refine x_getr C dMo_marks_85 fl_Mo_66 h0 hT (show sp 10 35 = some 41 from rfl) ?_
                refine g_iload C dMo_marks_88 rfl ?_
                refine g_iload C dMo_marks_90 rfl ?_
                refine g_iload C dMo_marks_92 rfl ?_
                refine x_jn h (fun (k_104 : Int64 → Option (Int32 × WI × WJ)) => ∀ (s0_104 : Int64), k_104 s0_104 = some (r, I', J') → GG X 10 P K I8 O J_78 0 0 104 [(0, .ref a0), (1, .int x1), (2, .int x2), (3, .int x3), (4, .int x4), (5, .int x5), (6, .int x6), (7, .int x7_78)] [.long s0_104, .int x7_78, .ref (rf O a0 35)]) (fun s0_104 h => ?_) (fun k_104 hk_104 h => ?_)
                · skip
                  obtain ⟨g_104, h⟩ := x_g h
                  refine x_last (m := 5) C dMo_marks_104 t_85 (by decide) rfl rfl g_104 h (fun J12 h => ?_)
                  refine g_aload_n C dMo_marks_105 rfl ?_
                  have t_106 := rf_ok hT h0 (show sp 10 36 = some 41 from rfl)
                  refine x_getr C dMo_marks_106 fl_Mo_70 h0 hT (show sp 10 36 = some 41 from rfl) ?_
                  refine g_iload C dMo_marks_109 rfl ?_
                  refine g_lconst (v := 0) C dMo_marks_111 (by decide) ?_
                  obtain ⟨g_112, h⟩ := x_g h
                  refine x_last (m := 5) C dMo_marks_112 t_106 (by decide) rfl rfl g_112 h (fun J13 h => ?_)
                  refine x_iinc C dMo_marks_113 rfl (by decide) h (fun v7_113 h => ?_)
                  refine g_goto 78 C dMo_marks_116 (by decide) ?_
                  exact g_sub (hr_78 (v7_113) J13 h) ⟨rfl, rfl, rfl, rfl, rfl, rfl, rfl, rfl, trivial⟩
                refine gt_icmp_ne 103 C dMo_marks_94 (by decide) rfl rfl (fun c_94 => ?_) (fun c_94 => ?_)
                · have h := x_neg c_94 h
                  refine g_lconst (v := 0) C dMo_marks_103 (by decide) ?_
                  exact g_sub (hk_104 ((0 : Int64)) h) ⟨rfl, rfl, rfl, rfl, rfl, rfl, rfl, rfl, trivial⟩
                · have h := x_pos c_94 h
                  refine g_ldc2 (v := 1000000) C dMo_marks_97 k_Mo_388 ?_
                  refine g_goto 104 C dMo_marks_100 (by decide) ?_
                  exact g_sub (hk_104 ((1000000 : Int64)) h) ⟨rfl, rfl, rfl, rfl, rfl, rfl, rfl, rfl, trivial⟩
            exact g_sub (lp_78 ((Int32.ofInt (0))) J0 h) ⟨rfl, rfl, rfl, rfl, rfl, rfl, rfl, rfl, trivial⟩
          · have h := x_neg (Int.not_le.mpr c_55) h
            exact g_sub (hk_58  h) ⟨rfl, rfl, rfl, rfl, rfl, rfl, rfl, trivial⟩
      · have h := x_pos c_33 h
        exact g_sub (hk_36  h) ⟨rfl, rfl, rfl, rfl, rfl, rfl, rfl, trivial⟩
def F_Mo_led (N : Nat) (O : WO) (I0 : WI) (J0 : WJ) (a0 : Nat) (x1 : Int32) : Option (Int32 × WI) := jn (fun (s0_18 : Int32) => lb (up2 I0 a0 0 s0_18) fun I1 => if ((I1 a0 0)).toInt ≤ 0 then (if 0 ≤ (x1).toInt ∧ (x1).toInt < 240 then (some ((I1 (rf O a0 19) (x1).toInt.toNat), I1)) else none) else (some ((Int32.ofInt (0)), I1))) fun k_18 => jn (k_18 ((Int32.ofInt (1)))) fun k_13 => if (x1).toInt < 0 then (k_13 ) else (if (x1).toInt < ((I0 a0 18)).toInt then (k_18 ((Int32.ofInt (0)))) else (k_13 ))
set_option maxHeartbeats 4000000 in
set_option maxRecDepth 100000 in
theorem f_Mo_led {P : List Nat} {K : Nat → Nat} {N : Nat} {O : WO} {I0 : WI} {J0 : WJ} (hT : TR P K O) {a0 : Nat} (h0 : a0 ∈ P ∧ K a0 = 10) {x1 : Int32} {r : Int32} {I' : WI} (h : F_Mo_led N O I0 J0 a0 x1 = some (r, I')) : Con yMo_led bMo_led 2 (some .int) ({ frames := 0, cells := 0, slots := 0, locals := 0 } : Room) P K I0 O J0 [.ref a0, .int x1] (EPo (some (.int r)) I' J0 P K O) := by
  refine Con.ofG mfMo_led (Nat.le_of_ble_eq_true rfl) ?_
  intro X C E
  unfold F_Mo_led at h
  refine g_aload_n C dMo_led_0 rfl ?_
  refine g_iload_n C dMo_led_1 rfl ?_
  refine x_jn h (fun (k_18 : Int32 → Option (Int32 × WI)) => ∀ (s0_18 : Int32), k_18 s0_18 = some (r, I') → GG X 2 P K I0 O J0 0 0 18 [(0, .ref a0), (1, .int x1)] [.int s0_18, .ref a0]) (fun s0_18 h => ?_) (fun k_18 hk_18 h => ?_)
  · skip
    refine x_puti C dMo_led_18 fl_Mo_73 h0 rfl (Or.inl rfl) h (fun I1 h => ?_)
    refine g_aload_n C dMo_led_21 rfl ?_
    refine g_geti C dMo_led_22 fl_Mo_73 h0 ?_
    refine gt_if_le 32 C dMo_led_25 (by decide) rfl (fun c_25 => ?_) (fun c_25 => ?_)
    · have h := x_pos c_25 h
      refine g_aload_n C dMo_led_32 rfl ?_
      have t_33 := rf_ok hT h0 (show sp 10 19 = some 32 from rfl)
      refine x_getr C dMo_led_33 fl_Mo_24 h0 hT (show sp 10 19 = some 32 from rfl) ?_
      refine g_iload_n C dMo_led_36 rfl ?_
      obtain ⟨g_37, h⟩ := x_g h
      refine x_iald (m := 240) C dMo_led_37 t_33 (by decide) rfl rfl g_37 ?_
      exact x_iret1 C E dMo_led_38 ⟨Nat.zero_le _, Nat.zero_le _⟩ h
    · have h := x_neg (Int.not_le.mpr c_25) h
      refine g_iconst (v := Int32.ofInt (0)) C dMo_led_28 (by decide) ?_
      refine g_goto 38 C dMo_led_29 (by decide) ?_
      exact x_iret1 C E dMo_led_38 ⟨Nat.zero_le _, Nat.zero_le _⟩ h
  refine x_jn h (fun (k_13 : Option (Int32 × WI)) => k_13  = some (r, I') → GG X 2 P K I0 O J0 0 0 13 [(0, .ref a0), (1, .int x1)] [.ref a0]) (fun  h => ?_) (fun k_13 hk_13 h => ?_)
  · skip
    refine g_iconst (v := Int32.ofInt (1)) C dMo_led_13 (by decide) ?_
    refine g_goto 18 C dMo_led_14 (by decide) ?_
    exact g_sub (hk_18 ((Int32.ofInt (1))) h) ⟨rfl, rfl, trivial⟩
  refine gt_if_lt 13 C dMo_led_2 (by decide) rfl (fun c_2 => ?_) (fun c_2 => ?_)
  · have h := x_pos c_2 h
    exact g_sub (hk_13  h) ⟨rfl, rfl, trivial⟩
  · have h := x_neg (Int.not_lt.mpr c_2) h
    refine g_iload_n C dMo_led_5 rfl ?_
    refine g_aload_n C dMo_led_6 rfl ?_
    refine g_geti C dMo_led_7 fl_Mo_299 h0 ?_
    refine gt_icmp_lt 17 C dMo_led_10 (by decide) rfl rfl (fun c_10 => ?_) (fun c_10 => ?_)
    · have h := x_pos c_10 h
      refine g_iconst (v := Int32.ofInt (0)) C dMo_led_17 (by decide) ?_
      exact g_sub (hk_18 ((Int32.ofInt (0))) h) ⟨rfl, rfl, trivial⟩
    · have h := x_neg (Int.not_lt.mpr c_10) h
      exact g_sub (hk_13  h) ⟨rfl, rfl, trivial⟩
def F_Mo_size (N : Nat) (O : WO) (I0 : WI) (J0 : WJ) (a0 : Nat) (x1 : Int32) : Option (Int32 × WI) := lb (up2 I0 a0 0 (Int32.ofInt (0))) fun I1 => if (x1).toInt = 11 then (some ((I1 a0 6), I1)) else (bd1 (F_Mo_in N O I1 J0 x1 (Int32.ofInt (0)) (Int32.ofInt (10))) fun z_20 => if (z_20).toInt = 0 then (some ((Int32.ofInt (-1)), I1)) else (if O a0 3 = none then (some ((Int32.ofInt (0)), I1)) else (if (x1).toInt = 0 then (some ((I1 (rf O a0 3) 8), I1)) else if (x1).toInt = 1 then (some ((I1 (rf O a0 3) 9), I1)) else if (x1).toInt = 2 then (some ((I1 (rf O a0 3) 0), I1)) else if (x1).toInt = 3 then (some ((I1 (rf O a0 3) 1), I1)) else if (x1).toInt = 4 then (some ((I1 (rf O a0 3) 2), I1)) else if (x1).toInt = 5 then (some ((I1 (rf O a0 3) 3), I1)) else if (x1).toInt = 6 then (some ((I1 (rf O a0 3) 4), I1)) else if (x1).toInt = 7 then (some ((I1 (rf O a0 3) 5), I1)) else if (x1).toInt = 8 then (some ((I1 (rf O a0 3) 6), I1)) else if (x1).toInt = 9 then (some ((I1 (rf O a0 3) 7), I1)) else (some ((I1 a0 23), I1)))))
set_option maxHeartbeats 4000000 in
set_option maxRecDepth 100000 in
theorem f_Mo_size {P : List Nat} {K : Nat → Nat} {N : Nat} {O : WO} {I0 : WI} {J0 : WJ} (hT : TR P K O) {a0 : Nat} (h0 : a0 ∈ P ∧ K a0 = 10) {x1 : Int32} (hQ3 : ∀ b, O a0 3 = some b → b ∈ P ∧ K b = 9) {r : Int32} {I' : WI} (h : F_Mo_size N O I0 J0 a0 x1 = some (r, I')) : Con yMo_size bMo_size 2 (some .int) ({ frames := 1, cells := 0, slots := 0, locals := 22 } : Room) P K I0 O J0 [.ref a0, .int x1] (EPo (some (.int r)) I' J0 P K O) := by
  refine Con.ofG mfMo_size (Nat.le_of_ble_eq_true rfl) ?_
  intro X C E
  unfold F_Mo_size at h
  refine g_aload_n C dMo_size_0 rfl ?_
  refine g_iconst (v := Int32.ofInt (0)) C dMo_size_1 (by decide) ?_
  refine x_puti C dMo_size_2 fl_Mo_73 h0 rfl (Or.inl rfl) h (fun I1 h => ?_)
  refine g_iload_n C dMo_size_5 rfl ?_
  refine g_bipush (v := Int32.ofInt (11)) C dMo_size_6 (by decide) ?_
  refine gt_icmp_ne 16 C dMo_size_8 (by decide) rfl (ofI (by decide)) (fun c_8 => ?_) (fun c_8 => ?_)
  · have h := x_neg c_8 h
    refine g_iload_n C dMo_size_16 rfl ?_
    refine g_iconst (v := Int32.ofInt (0)) C dMo_size_17 (by decide) ?_
    refine g_bipush (v := Int32.ofInt (10)) C dMo_size_18 (by decide) ?_
    obtain ⟨z_20, e_20, h⟩ := bd1_some h
    refine x_callSi (av := fun ad => [.int x1, .int (Int32.ofInt (0)), .int (Int32.ofInt (10))]) C dMo_size_20 mfMo_in msMo_in ln_Mo_149 (f_Mo_in hT  e_20) rfl rfl (Nat.le_of_ble_eq_true rfl) ⟨Nat.le_of_ble_eq_true rfl, Nat.le_of_ble_eq_true rfl⟩ ⟨rfl, rfl⟩ ⟨Nat.zero_le _, Nat.zero_le _⟩ ?_
    refine gt_if_ne 28 C dMo_size_23 (by decide) rfl (fun c_23 => ?_) (fun c_23 => ?_)
    · have h := x_neg c_23 h
      refine g_aload_n C dMo_size_28 rfl ?_
      refine x_nonnull 37 C dMo_size_29 dMo_size_32 (by decide) fl_Mo_290 h0 h (fun c_29 h => ?_) (fun c_29 h => ?_)
      · skip
        refine g_iconst (v := Int32.ofInt (0)) C dMo_size_35 (by decide) ?_
        exact x_iret1 C E dMo_size_36 ⟨Nat.zero_le _, Nat.zero_le _⟩ h
      · have hN3 : NN P K O a0 3 9 := ⟨c_29, hQ3 _ c_29⟩
        refine g_iload_n C dMo_size_37 rfl ?_
        by_cases q_38_0 : (x1).toInt = 0
        · refine g_tIn 92 C dMo_size_38 (by omega) (by omega) (by rw [q_38_0]; rfl) (by decide) ?_
          have h := x_pos q_38_0 h
          refine g_aload_n C dMo_size_92 rfl ?_
          refine gt_getS C dMo_size_93 fl_Mo_290 h0 hN3.1 ?_
          refine g_geti C dMo_size_96 fl_Mo_191 hN3.2 ?_
          exact x_iret1 C E dMo_size_99 ⟨Nat.zero_le _, Nat.zero_le _⟩ h
        have h := x_neg q_38_0 h
        by_cases q_38_1 : (x1).toInt = 1
        · refine g_tIn 100 C dMo_size_38 (by omega) (by omega) (by rw [q_38_1]; rfl) (by decide) ?_
          have h := x_pos q_38_1 h
          refine g_aload_n C dMo_size_100 rfl ?_
          refine gt_getS C dMo_size_101 fl_Mo_290 h0 hN3.1 ?_
          refine g_geti C dMo_size_104 fl_Mo_194 hN3.2 ?_
          exact x_iret1 C E dMo_size_107 ⟨Nat.zero_le _, Nat.zero_le _⟩ h
        have h := x_neg q_38_1 h
        by_cases q_38_2 : (x1).toInt = 2
        · refine g_tIn 108 C dMo_size_38 (by omega) (by omega) (by rw [q_38_2]; rfl) (by decide) ?_
          have h := x_pos q_38_2 h
          refine g_aload_n C dMo_size_108 rfl ?_
          refine gt_getS C dMo_size_109 fl_Mo_290 h0 hN3.1 ?_
          refine g_geti C dMo_size_112 fl_Mo_176 hN3.2 ?_
          exact x_iret1 C E dMo_size_115 ⟨Nat.zero_le _, Nat.zero_le _⟩ h
        have h := x_neg q_38_2 h
        by_cases q_38_3 : (x1).toInt = 3
        · refine g_tIn 116 C dMo_size_38 (by omega) (by omega) (by rw [q_38_3]; rfl) (by decide) ?_
          have h := x_pos q_38_3 h
          refine g_aload_n C dMo_size_116 rfl ?_
          refine gt_getS C dMo_size_117 fl_Mo_290 h0 hN3.1 ?_
          refine g_geti C dMo_size_120 fl_Mo_233 hN3.2 ?_
          exact x_iret1 C E dMo_size_123 ⟨Nat.zero_le _, Nat.zero_le _⟩ h
        have h := x_neg q_38_3 h
        by_cases q_38_4 : (x1).toInt = 4
        · refine g_tIn 124 C dMo_size_38 (by omega) (by omega) (by rw [q_38_4]; rfl) (by decide) ?_
          have h := x_pos q_38_4 h
          refine g_aload_n C dMo_size_124 rfl ?_
          refine gt_getS C dMo_size_125 fl_Mo_290 h0 hN3.1 ?_
          refine g_geti C dMo_size_128 fl_Mo_181 hN3.2 ?_
          exact x_iret1 C E dMo_size_131 ⟨Nat.zero_le _, Nat.zero_le _⟩ h
        have h := x_neg q_38_4 h
        by_cases q_38_5 : (x1).toInt = 5
        · refine g_tIn 132 C dMo_size_38 (by omega) (by omega) (by rw [q_38_5]; rfl) (by decide) ?_
          have h := x_pos q_38_5 h
          refine g_aload_n C dMo_size_132 rfl ?_
          refine gt_getS C dMo_size_133 fl_Mo_290 h0 hN3.1 ?_
          refine g_geti C dMo_size_136 fl_Mo_248 hN3.2 ?_
          exact x_iret1 C E dMo_size_139 ⟨Nat.zero_le _, Nat.zero_le _⟩ h
        have h := x_neg q_38_5 h
        by_cases q_38_6 : (x1).toInt = 6
        · refine g_tIn 140 C dMo_size_38 (by omega) (by omega) (by rw [q_38_6]; rfl) (by decide) ?_
          have h := x_pos q_38_6 h
          refine g_aload_n C dMo_size_140 rfl ?_
          refine gt_getS C dMo_size_141 fl_Mo_290 h0 hN3.1 ?_
          refine g_geti C dMo_size_144 fl_Mo_183 hN3.2 ?_
          exact x_iret1 C E dMo_size_147 ⟨Nat.zero_le _, Nat.zero_le _⟩ h
        have h := x_neg q_38_6 h
        by_cases q_38_7 : (x1).toInt = 7
        · refine g_tIn 148 C dMo_size_38 (by omega) (by omega) (by rw [q_38_7]; rfl) (by decide) ?_
          have h := x_pos q_38_7 h
          refine g_aload_n C dMo_size_148 rfl ?_
          refine gt_getS C dMo_size_149 fl_Mo_290 h0 hN3.1 ?_
          refine g_geti C dMo_size_152 fl_Mo_186 hN3.2 ?_
          exact x_iret1 C E dMo_size_155 ⟨Nat.zero_le _, Nat.zero_le _⟩ h
        have h := x_neg q_38_7 h
        by_cases q_38_8 : (x1).toInt = 8
        · refine g_tIn 156 C dMo_size_38 (by omega) (by omega) (by rw [q_38_8]; rfl) (by decide) ?_
          have h := x_pos q_38_8 h
          refine g_aload_n C dMo_size_156 rfl ?_
          refine gt_getS C dMo_size_157 fl_Mo_290 h0 hN3.1 ?_
          refine g_geti C dMo_size_160 fl_Mo_252 hN3.2 ?_
          exact x_iret1 C E dMo_size_163 ⟨Nat.zero_le _, Nat.zero_le _⟩ h
        have h := x_neg q_38_8 h
        by_cases q_38_9 : (x1).toInt = 9
        · refine g_tIn 164 C dMo_size_38 (by omega) (by omega) (by rw [q_38_9]; rfl) (by decide) ?_
          have h := x_pos q_38_9 h
          refine g_aload_n C dMo_size_164 rfl ?_
          refine gt_getS C dMo_size_165 fl_Mo_290 h0 hN3.1 ?_
          refine g_geti C dMo_size_168 fl_Mo_188 hN3.2 ?_
          exact x_iret1 C E dMo_size_171 ⟨Nat.zero_le _, Nat.zero_le _⟩ h
        have h := x_neg q_38_9 h
        refine g_tOut 172 C dMo_size_38 (by omega) (by decide) ?_
        refine g_aload_n C dMo_size_172 rfl ?_
        refine g_geti C dMo_size_173 fl_Mo_293 h0 ?_
        exact x_iret1 C E dMo_size_176 ⟨Nat.zero_le _, Nat.zero_le _⟩ h
    · have h := x_pos c_23 h
      refine g_iconst (v := Int32.ofInt (-1)) C dMo_size_26 (by decide) ?_
      exact x_iret1 C E dMo_size_27 ⟨Nat.zero_le _, Nat.zero_le _⟩ h
  · have h := x_pos c_8 h
    refine g_aload_n C dMo_size_11 rfl ?_
    refine g_geti C dMo_size_12 fl_Mo_280 h0 ?_
    exact x_iret1 C E dMo_size_15 ⟨Nat.zero_le _, Nat.zero_le _⟩ h
def F_Mo_trouble (N : Nat) (O : WO) (I0 : WI) (J0 : WJ) (a0 : Nat) : Option (Int32 × WI) := lb (up2 I0 a0 0 (Int32.ofInt (0))) fun I1 => some ((I1 a0 1), I1)
set_option maxHeartbeats 4000000 in
set_option maxRecDepth 100000 in
theorem f_Mo_trouble {P : List Nat} {K : Nat → Nat} {N : Nat} {O : WO} {I0 : WI} {J0 : WJ} (hT : TR P K O) {a0 : Nat} (h0 : a0 ∈ P ∧ K a0 = 10) {r : Int32} {I' : WI} (h : F_Mo_trouble N O I0 J0 a0 = some (r, I')) : Con yMo_trouble bMo_trouble 1 (some .int) ({ frames := 0, cells := 0, slots := 0, locals := 0 } : Room) P K I0 O J0 [.ref a0] (EPo (some (.int r)) I' J0 P K O) := by
  refine Con.ofG mfMo_trouble (Nat.le_of_ble_eq_true rfl) ?_
  intro X C E
  unfold F_Mo_trouble at h
  refine g_aload_n C dMo_trouble_0 rfl ?_
  refine g_iconst (v := Int32.ofInt (0)) C dMo_trouble_1 (by decide) ?_
  refine x_puti C dMo_trouble_2 fl_Mo_73 h0 rfl (Or.inl rfl) h (fun I1 h => ?_)
  refine g_aload_n C dMo_trouble_5 rfl ?_
  refine g_geti C dMo_trouble_6 fl_Mo_76 h0 ?_
  exact x_iret1 C E dMo_trouble_9 ⟨Nat.zero_le _, Nat.zero_le _⟩ h
