set_option maxHeartbeats 4000000 in
set_option maxRecDepth 100000 in
theorem cMo_splitsFrom {P : List Nat} {K : Nat → Nat} {I0 : Nat → Nat → Int32} {O : Nat → Nat → Option Nat} {J0 : Nat → Nat → Int64} (hV : IV P K I0 O) {a0 : Nat} (h0 : a0 ∈ P ∧ K a0 = 10) {x1 : Int32} : Con yMo_splitsFrom bMo_splitsFrom 7 (some .int) ({ frames := 1, cells := 0, slots := 0, locals := 22 } : Room) P K I0 O J0 [.ref a0, .int x1] (SPo frP 1 (tt) P K I0 O J0) := by
  refine Con.ofG mfMo_splitsFrom (Nat.le_of_ble_eq_true rfl) ?_
  intro X C E
  have r1 := rg x1
  have hV0 : SV frP P K O I0 J0 I0 J0 := SV.rf hV
  refine g_aload_n C dMo_splitsFrom_0 rfl ?_
  refine gt_getr C dMo_splitsFrom_1 fl_Mo_60 h0 hV0.1.1 rfl (fun b_1 q_1 hb_1 => ?_)
  refine g_iconst (v := Int32.ofInt (0)) C dMo_splitsFrom_4 (by decide) ?_
  refine gt_ialdc (c := 0) C dMo_splitsFrom_5 hb_1 (by decide) rfl (ofI (by decide)) (n := 2) rfl (by decide) (by decide) ?_
  have o_5 := hV0.1.2 b_1 hb_1.1 0
  rw [hb_1.2] at o_5
  have o_5 : 0 ≤ (I0 b_1 0).toInt ∧ (I0 b_1 0).toInt ≤ 8 := o_5
  refine g_aload_n C dMo_splitsFrom_6 rfl ?_
  refine gt_getS C dMo_splitsFrom_7 fl_Mo_60 h0 q_1 ?_
  refine g_iconst (v := Int32.ofInt (1)) C dMo_splitsFrom_10 (by decide) ?_
  refine gt_ialdc (c := 1) C dMo_splitsFrom_11 hb_1 (by decide) rfl (ofI (by decide)) (n := 2) rfl (by decide) (by decide) ?_
  have o_11 := hV0.1.2 b_1 hb_1.1 1
  rw [hb_1.2] at o_11
  have o_11 : 0 ≤ (I0 b_1 1).toInt ∧ (I0 b_1 1).toInt ≤ 8 := o_11
  first | refine n_iadd C dMo_splitsFrom_12 rfl rfl (by omega) (fun z_12 e_12 => ?_) | refine a_iadd C dMo_splitsFrom_12 (fun z_12 => ?_)
  refine g_istore_n (i := 2) C dMo_splitsFrom_13 rfl (by decide) ?_
  refine g_iconst (v := Int32.ofInt (0)) C dMo_splitsFrom_14 (by decide) ?_
  refine g_istore_n (i := 3) C dMo_splitsFrom_15 rfl (by decide) ?_
  refine g_iconst (v := Int32.ofInt (0)) C dMo_splitsFrom_16 (by decide) ?_
  refine g_istore C dMo_splitsFrom_17 (by decide) ?_
  have lp_19 : ∀ (nn_19 : Nat) (x3_19 : Int32) (x4_19 : Int32), Int.toNat (2147483647 - x4_19.toInt) = nn_19 → (0 ≤ Int32.toInt x4_19) → GG X 7 P K I0 O J0 0 0 19 [(0, .ref a0), (1, .int x1), (2, .int z_12), (3, .int x3_19), (4, .int x4_19)] [] := by
    intro nn_19
    induction nn_19 using Nat.strongRecOn with
    | ind nn_19 ih_19 =>
    intro x3_19 x4_19  hn_19 iv0_19 
    have rg3_19 := rg x3_19
    have rg4_19 := rg x4_19
    refine g_iload C dMo_splitsFrom_19 rfl ?_
    refine g_iconst (v := Int32.ofInt (1)) C dMo_splitsFrom_21 (by decide) ?_
    refine g_iload_n C dMo_splitsFrom_22 rfl ?_
    refine a_ishl C dMo_splitsFrom_23 (fun z_23 => ?_)
    have rz_23 := rg z_23
    refine gt_icmp_ge 131 C dMo_splitsFrom_24 (by decide) rfl rfl (fun c_24 => ?_) (fun c_24 => ?_)
    · skip
      refine g_iload_n C dMo_splitsFrom_131 rfl ?_
      exact s_iret C E dMo_splitsFrom_132 ⟨Nat.zero_le _, Nat.zero_le _⟩ hV0 trivial
    · skip
      refine g_iload C dMo_splitsFrom_27 rfl ?_
      refine s_callS_ip (av := fun ad => [.int x4_19]) C dMo_splitsFrom_29 mfMo_bits msMo_bits ln_Mo_378 (cMo_bits hV0.1 (by omega)) rfl rfl (Nat.le_of_ble_eq_true rfl) ⟨Nat.le_of_ble_eq_true rfl, Nat.le_of_ble_eq_true rfl⟩ ⟨rfl, rfl⟩ ⟨Nat.zero_le _, Nat.zero_le _⟩ (fun z_29 p_29 => ?_)
      have rz_29 := rg z_29
      refine g_aload_n C dMo_splitsFrom_32 rfl ?_
      refine gt_getS C dMo_splitsFrom_33 fl_Mo_60 h0 q_1 ?_
      refine g_iconst (v := Int32.ofInt (1)) C dMo_splitsFrom_36 (by decide) ?_
      refine gt_ialdc (c := 1) C dMo_splitsFrom_37 hb_1 (by decide) rfl (ofI (by decide)) (n := 2) rfl (by decide) (by decide) ?_
      have o_37 := hV0.1.2 b_1 hb_1.1 1
      rw [hb_1.2] at o_37
      have o_37 : 0 ≤ (I0 b_1 1).toInt ∧ (I0 b_1 1).toInt ≤ 8 := o_37
      have jn_125 : ∀ (y3_125 : Int32) ,  GG X 7 P K I0 O J0 0 0 125 [(0, .ref a0), (1, .int x1), (2, .int z_12), (3, .int y3_125), (4, .int x4_19)] [] := by
        intro y3_125
        first | refine n_iinc C dMo_splitsFrom_125 rfl rfl (by decide) (by decide) (by omega) (fun z_125 e_125 => ?_) | refine a_iinc C dMo_splitsFrom_125 rfl (by decide) (fun z_125 => ?_)
        refine g_goto 19 C dMo_splitsFrom_128 (by decide) ?_
        exact g_sub (ih_19 _ (by omega) y3_125 z_125  rfl (by omega) ) ⟨rfl, rfl, rfl, rfl, rfl, trivial⟩
      refine gt_icmp_eq 44 C dMo_splitsFrom_38 (by decide) rfl rfl (fun c_38 => ?_) (fun c_38 => ?_)
      · skip
        refine g_iconst (v := Int32.ofInt (0)) C dMo_splitsFrom_44 (by decide) ?_
        refine g_istore C dMo_splitsFrom_45 (by decide) ?_
        refine g_iconst (v := Int32.ofInt (0)) C dMo_splitsFrom_47 (by decide) ?_
        refine g_istore C dMo_splitsFrom_48 (by decide) ?_
        have lp_50 : ∀ (nn_50 : Nat) (x5_50 : Int32) (x6_50 : Int32), Int.toNat (16 - x6_50.toInt) = nn_50 → (0 ≤ Int32.toInt x6_50 ∧ Int32.toInt x6_50 ≤ 16) → GG X 7 P K I0 O J0 0 0 50 [(0, .ref a0), (1, .int x1), (2, .int z_12), (3, .int x3_19), (4, .int x4_19), (5, .int x5_50), (6, .int x6_50)] [] := by
          intro nn_50
          induction nn_50 using Nat.strongRecOn with
          | ind nn_50 ih_50 =>
          intro x5_50 x6_50  hn_50 iv0_50 
          have rg5_50 := rg x5_50
          have rg6_50 := rg x6_50
          refine g_iload C dMo_splitsFrom_50 rfl ?_
          refine g_iload_n C dMo_splitsFrom_52 rfl ?_
          refine gt_icmp_ge 111 C dMo_splitsFrom_53 (by decide) rfl rfl (fun c_53 => ?_) (fun c_53 => ?_)
          · skip
            refine g_iload_n C dMo_splitsFrom_111 rfl ?_
            refine g_iload C dMo_splitsFrom_112 rfl ?_
            refine g_iload_n C dMo_splitsFrom_114 rfl ?_
            have jn_123 : ∀  (s0_123 : Int32),  GG X 7 P K I0 O J0 0 0 123 [(0, .ref a0), (1, .int x1), (2, .int z_12), (3, .int x3_19), (4, .int x4_19), (5, .int x5_50), (6, .int x6_50)] [.int s0_123, .int x3_19] := by
              intro s0_123
              first | refine n_iadd C dMo_splitsFrom_123 rfl rfl (by omega) (fun z_123 e_123 => ?_) | refine a_iadd C dMo_splitsFrom_123 (fun z_123 => ?_)
              refine g_istore_n (i := 3) C dMo_splitsFrom_124 rfl (by decide) ?_
              exact g_sub (jn_125 z_123   ) ⟨rfl, rfl, rfl, rfl, rfl, trivial⟩
            refine gt_icmp_lt 122 C dMo_splitsFrom_115 (by decide) rfl rfl (fun c_115 => ?_) (fun c_115 => ?_)
            · skip
              refine g_iconst (v := Int32.ofInt (0)) C dMo_splitsFrom_122 (by decide) ?_
              exact g_sub (jn_123 (Int32.ofInt (0))   ) ⟨rfl, rfl, rfl, rfl, rfl, rfl, rfl, trivial⟩
            · skip
              refine g_iconst (v := Int32.ofInt (1)) C dMo_splitsFrom_118 (by decide) ?_
              refine g_goto 123 C dMo_splitsFrom_119 (by decide) ?_
              exact g_sub (jn_123 (Int32.ofInt (1))   ) ⟨rfl, rfl, rfl, rfl, rfl, rfl, rfl, trivial⟩
          · skip
            refine g_iload C dMo_splitsFrom_56 rfl ?_
            refine g_iload C dMo_splitsFrom_58 rfl ?_
            refine a_ishr C dMo_splitsFrom_60 (fun z_60 => ?_)
            refine g_iconst (v := Int32.ofInt (1)) C dMo_splitsFrom_61 (by decide) ?_
            refine a_iand C dMo_splitsFrom_62 (fun z_62 => ?_)
            refine g_iconst (v := Int32.ofInt (1)) C dMo_splitsFrom_63 (by decide) ?_
            have jn_105 : ∀ (y5_105 : Int32) ,  GG X 7 P K I0 O J0 0 0 105 [(0, .ref a0), (1, .int x1), (2, .int z_12), (3, .int x3_19), (4, .int x4_19), (5, .int y5_105), (6, .int x6_50)] [] := by
              intro y5_105
              first | refine n_iinc C dMo_splitsFrom_105 rfl rfl (by decide) (by decide) (by omega) (fun z_105 e_105 => ?_) | refine a_iinc C dMo_splitsFrom_105 rfl (by decide) (fun z_105 => ?_)
              refine g_goto 50 C dMo_splitsFrom_108 (by decide) ?_
              exact g_sub (ih_50 _ (by omega) y5_105 z_105  rfl (by omega) ) ⟨rfl, rfl, rfl, rfl, rfl, rfl, rfl, trivial⟩
            refine gt_icmp_ne 105 C dMo_splitsFrom_64 (by decide) rfl (ofI (by decide)) (fun c_64 => ?_) (fun c_64 => ?_)
            · skip
              exact g_sub (jn_105 x5_50   ) ⟨rfl, rfl, rfl, rfl, rfl, rfl, rfl, trivial⟩
            · skip
              refine g_iload C dMo_splitsFrom_67 rfl ?_
              refine g_aload_n C dMo_splitsFrom_69 rfl ?_
              refine gt_getr C dMo_splitsFrom_70 fl_Mo_63 h0 hV0.1.1 rfl (fun b_70 q_70 hb_70 => ?_)
              refine g_iload C dMo_splitsFrom_73 rfl ?_
              refine g_aload_n C dMo_splitsFrom_75 rfl ?_
              refine gt_getS C dMo_splitsFrom_76 fl_Mo_60 h0 q_1 ?_
              refine g_iconst (v := Int32.ofInt (0)) C dMo_splitsFrom_79 (by decide) ?_
              refine gt_ialdc (c := 0) C dMo_splitsFrom_80 hb_1 (by decide) rfl (ofI (by decide)) (n := 2) rfl (by decide) (by decide) ?_
              have o_80 := hV0.1.2 b_1 hb_1.1 0
              rw [hb_1.2] at o_80
              have o_80 : 0 ≤ (I0 b_1 0).toInt ∧ (I0 b_1 0).toInt ≤ 8 := o_80
              have jn_101 : ∀  (s0_101 : Int32), (0 ≤ Int32.toInt s0_101 ∧ Int32.toInt s0_101 ≤ 15) → GG X 7 P K I0 O J0 0 0 101 [(0, .ref a0), (1, .int x1), (2, .int z_12), (3, .int x3_19), (4, .int x4_19), (5, .int x5_50), (6, .int x6_50)] [.int s0_101, .ref b_70, .int x5_50] := by
                intro s0_101 jv0_101
                refine gt_iald C dMo_splitsFrom_101 hb_70 (by decide) rfl rfl (n := 16) rfl (by omega) ?_
                first | refine n_iadd C dMo_splitsFrom_102 rfl rfl (by omega) (fun z_102 e_102 => ?_) | refine a_iadd C dMo_splitsFrom_102 (fun z_102 => ?_)
                refine g_istore C dMo_splitsFrom_103 (by decide) ?_
                exact g_sub (jn_105 z_102   ) ⟨rfl, rfl, rfl, rfl, rfl, rfl, rfl, trivial⟩
              refine gt_icmp_ge 89 C dMo_splitsFrom_81 (by decide) rfl rfl (fun c_81 => ?_) (fun c_81 => ?_)
              · skip
                refine g_bipush (v := Int32.ofInt (8)) C dMo_splitsFrom_89 (by decide) ?_
                refine g_iload C dMo_splitsFrom_91 rfl ?_
                first | refine n_iadd C dMo_splitsFrom_93 (ofI (by decide)) rfl (by omega) (fun z_93 e_93 => ?_) | refine a_iadd C dMo_splitsFrom_93 (fun z_93 => ?_)
                refine g_aload_n C dMo_splitsFrom_94 rfl ?_
                refine gt_getS C dMo_splitsFrom_95 fl_Mo_60 h0 q_1 ?_
                refine g_iconst (v := Int32.ofInt (0)) C dMo_splitsFrom_98 (by decide) ?_
                refine gt_ialdc (c := 0) C dMo_splitsFrom_99 hb_1 (by decide) rfl (ofI (by decide)) (n := 2) rfl (by decide) (by decide) ?_
                have o_99 := hV0.1.2 b_1 hb_1.1 0
                rw [hb_1.2] at o_99
                have o_99 : 0 ≤ (I0 b_1 0).toInt ∧ (I0 b_1 0).toInt ≤ 8 := o_99
                first | refine n_isub C dMo_splitsFrom_100 rfl rfl (by omega) (fun z_100 e_100 => ?_) | refine a_isub C dMo_splitsFrom_100 (fun z_100 => ?_)
                exact g_sub (jn_101 z_100  (by omega) ) ⟨rfl, rfl, rfl, rfl, rfl, rfl, rfl, trivial⟩
              · skip
                refine g_iload C dMo_splitsFrom_84 rfl ?_
                refine g_goto 101 C dMo_splitsFrom_86 (by decide) ?_
                exact g_sub (jn_101 x6_50  (by omega) ) ⟨rfl, rfl, rfl, rfl, rfl, rfl, rfl, trivial⟩
        exact g_sub (lp_50 _ (Int32.ofInt (0)) (Int32.ofInt (0))  rfl (by have hci : Int32.toInt (Int32.ofInt (0)) = 0 := ofI (by decide); omega) ) ⟨rfl, rfl, rfl, rfl, rfl, rfl, rfl, trivial⟩
      · skip
        refine g_goto 125 C dMo_splitsFrom_41 (by decide) ?_
        exact g_sub (jn_125 x3_19   ) ⟨rfl, rfl, rfl, rfl, rfl, trivial⟩
  exact g_sub (lp_19 _ (Int32.ofInt (0)) (Int32.ofInt (0))  rfl (by have hci : Int32.toInt (Int32.ofInt (0)) = 0 := ofI (by decide); omega) ) ⟨rfl, rfl, rfl, rfl, rfl, trivial⟩
set_option maxHeartbeats 4000000 in
set_option maxRecDepth 100000 in
theorem cMo_fault {P : List Nat} {K : Nat → Nat} {I0 : Nat → Nat → Int32} {O : Nat → Nat → Option Nat} {J0 : Nat → Nat → Int64} (hV : IV P K I0 O) {a0 : Nat} (h0 : a0 ∈ P ∧ K a0 = 10) {S : Nat} (hSo : O a0 16 = some S) (hSk : S ∈ P ∧ K S = 31) : Con yMo_fault bMo_fault 1 (some .int) ({ frames := 0, cells := 0, slots := 0, locals := 0 } : Room) P K I0 O J0 [.ref a0] (SPo frM 1 (fun _ I_ => (I_ a0 6).toInt = (I0 a0 6).toInt ∧ (I_ a0 18).toInt = (I0 a0 18).toInt ∧ (I_ S 27).toInt = (I0 S 27).toInt) P K I0 O J0) := by
  refine Con.ofG mfMo_fault (Nat.le_of_ble_eq_true rfl) ?_
  intro X C E
  have ost := hV.2 a0 h0.1 18
  rw [h0.2] at ost
  have ost : 0 ≤ (I0 a0 18).toInt ∧ (I0 a0 18).toInt ≤ 240 := ost
  have oS := hV.2 S hSk.1 27
  rw [hSk.2] at oS
  have oS : 0 ≤ (I0 S 27).toInt ∧ (I0 S 27).toInt ≤ 240 := oS
  have hV0 : SV frM P K O I0 J0 I0 J0 := SV.rf hV
  refine g_aload_n C dMo_fault_0 rfl ?_
  refine g_iconst (v := Int32.ofInt (0)) C dMo_fault_1 (by decide) ?_
  refine gt_puti C dMo_fault_2 fl_Mo_73 h0 hV0 rfl trivial rfl (Or.inl rfl) (fun Iw1 eIw1 hVw1 => ?_)
  have tkw1_a0_6 : (Iw1 a0 6).toInt = (I0 a0 6).toInt := by rw [eIw1, up2_ne _ _ (fun z => absurd z.2 (by decide))]
  have tkw1_a0_18 : (Iw1 a0 18).toInt = (I0 a0 18).toInt := by rw [eIw1, up2_ne _ _ (fun z => absurd z.2 (by decide))]
  have tkw1_S_27 : (Iw1 S 27).toInt = (I0 S 27).toInt := by rw [eIw1, up2_ne _ _ (fun z => by have q := hSk.2; rw [z.1, h0.2] at q; exact absurd q (by decide))]
  refine g_aload_n C dMo_fault_5 rfl ?_
  refine g_geti C dMo_fault_6 fl_Mo_128 h0 ?_
  exact s_iret C E dMo_fault_9 ⟨Nat.zero_le _, Nat.zero_le _⟩ hVw1 (by (try dsimp only); omega)
set_option maxHeartbeats 4000000 in
set_option maxRecDepth 100000 in
theorem cMo_where {P : List Nat} {K : Nat → Nat} {I0 : Nat → Nat → Int32} {O : Nat → Nat → Option Nat} {J0 : Nat → Nat → Int64} (hV : IV P K I0 O) {a0 : Nat} (h0 : a0 ∈ P ∧ K a0 = 10) {S : Nat} (hSo : O a0 16 = some S) (hSk : S ∈ P ∧ K S = 31) : Con yMo_where bMo_where 1 (some .int) ({ frames := 0, cells := 0, slots := 0, locals := 0 } : Room) P K I0 O J0 [.ref a0] (SPo frM 1 (fun _ I_ => (I_ a0 6).toInt = (I0 a0 6).toInt ∧ (I_ a0 18).toInt = (I0 a0 18).toInt ∧ (I_ S 27).toInt = (I0 S 27).toInt) P K I0 O J0) := by
  refine Con.ofG mfMo_where (Nat.le_of_ble_eq_true rfl) ?_
  intro X C E
  have ost := hV.2 a0 h0.1 18
  rw [h0.2] at ost
  have ost : 0 ≤ (I0 a0 18).toInt ∧ (I0 a0 18).toInt ≤ 240 := ost
  have oS := hV.2 S hSk.1 27
  rw [hSk.2] at oS
  have oS : 0 ≤ (I0 S 27).toInt ∧ (I0 S 27).toInt ≤ 240 := oS
  have hV0 : SV frM P K O I0 J0 I0 J0 := SV.rf hV
  refine g_aload_n C dMo_where_0 rfl ?_
  refine g_iconst (v := Int32.ofInt (0)) C dMo_where_1 (by decide) ?_
  refine gt_puti C dMo_where_2 fl_Mo_73 h0 hV0 rfl trivial rfl (Or.inl rfl) (fun Iw1 eIw1 hVw1 => ?_)
  have tkw1_a0_6 : (Iw1 a0 6).toInt = (I0 a0 6).toInt := by rw [eIw1, up2_ne _ _ (fun z => absurd z.2 (by decide))]
  have tkw1_a0_18 : (Iw1 a0 18).toInt = (I0 a0 18).toInt := by rw [eIw1, up2_ne _ _ (fun z => absurd z.2 (by decide))]
  have tkw1_S_27 : (Iw1 S 27).toInt = (I0 S 27).toInt := by rw [eIw1, up2_ne _ _ (fun z => by have q := hSk.2; rw [z.1, h0.2] at q; exact absurd q (by decide))]
  refine g_aload_n C dMo_where_5 rfl ?_
  refine g_geti C dMo_where_6 fl_Mo_9 h0 ?_
  exact s_iret C E dMo_where_9 ⟨Nat.zero_le _, Nat.zero_le _⟩ hVw1 (by (try dsimp only); omega)
set_option maxHeartbeats 4000000 in
set_option maxRecDepth 100000 in
theorem cMo_trouble {P : List Nat} {K : Nat → Nat} {I0 : Nat → Nat → Int32} {O : Nat → Nat → Option Nat} {J0 : Nat → Nat → Int64} (hV : IV P K I0 O) {a0 : Nat} (h0 : a0 ∈ P ∧ K a0 = 10) {S : Nat} (hSo : O a0 16 = some S) (hSk : S ∈ P ∧ K S = 31) : Con yMo_trouble bMo_trouble 1 (some .int) ({ frames := 0, cells := 0, slots := 0, locals := 0 } : Room) P K I0 O J0 [.ref a0] (SPo frM 1 (fun _ I_ => (I_ a0 6).toInt = (I0 a0 6).toInt ∧ (I_ a0 18).toInt = (I0 a0 18).toInt ∧ (I_ S 27).toInt = (I0 S 27).toInt) P K I0 O J0) := by
  refine Con.ofG mfMo_trouble (Nat.le_of_ble_eq_true rfl) ?_
  intro X C E
  have ost := hV.2 a0 h0.1 18
  rw [h0.2] at ost
  have ost : 0 ≤ (I0 a0 18).toInt ∧ (I0 a0 18).toInt ≤ 240 := ost
  have oS := hV.2 S hSk.1 27
  rw [hSk.2] at oS
  have oS : 0 ≤ (I0 S 27).toInt ∧ (I0 S 27).toInt ≤ 240 := oS
  have hV0 : SV frM P K O I0 J0 I0 J0 := SV.rf hV
  refine g_aload_n C dMo_trouble_0 rfl ?_
  refine g_iconst (v := Int32.ofInt (0)) C dMo_trouble_1 (by decide) ?_
  refine gt_puti C dMo_trouble_2 fl_Mo_73 h0 hV0 rfl trivial rfl (Or.inl rfl) (fun Iw1 eIw1 hVw1 => ?_)
  have tkw1_a0_6 : (Iw1 a0 6).toInt = (I0 a0 6).toInt := by rw [eIw1, up2_ne _ _ (fun z => absurd z.2 (by decide))]
  have tkw1_a0_18 : (Iw1 a0 18).toInt = (I0 a0 18).toInt := by rw [eIw1, up2_ne _ _ (fun z => absurd z.2 (by decide))]
  have tkw1_S_27 : (Iw1 S 27).toInt = (I0 S 27).toInt := by rw [eIw1, up2_ne _ _ (fun z => by have q := hSk.2; rw [z.1, h0.2] at q; exact absurd q (by decide))]
  refine g_aload_n C dMo_trouble_5 rfl ?_
  refine g_geti C dMo_trouble_6 fl_Mo_76 h0 ?_
  exact s_iret C E dMo_trouble_9 ⟨Nat.zero_le _, Nat.zero_le _⟩ hVw1 (by (try dsimp only); omega)
set_option maxHeartbeats 4000000 in
set_option maxRecDepth 100000 in
theorem cMo_forget {P : List Nat} {K : Nat → Nat} {I0 : Nat → Nat → Int32} {O : Nat → Nat → Option Nat} {J0 : Nat → Nat → Int64} (hV : IV P K I0 O) {a0 : Nat} (h0 : a0 ∈ P ∧ K a0 = 10) {S : Nat} (hSo : O a0 16 = some S) (hSk : S ∈ P ∧ K S = 31) : Con yMo_forget bMo_forget 2 (some .int) ({ frames := 0, cells := 0, slots := 0, locals := 0 } : Room) P K I0 O J0 [.ref a0] (SPo frM 1 (fun _ I_ => (I_ a0 6).toInt = (I0 a0 6).toInt ∧ (I_ a0 18).toInt = (I0 a0 18).toInt ∧ (I_ S 27).toInt = (I0 S 27).toInt) P K I0 O J0) := by
  refine Con.ofG mfMo_forget (Nat.le_of_ble_eq_true rfl) ?_
  intro X C E
  have ost := hV.2 a0 h0.1 18
  rw [h0.2] at ost
  have ost : 0 ≤ (I0 a0 18).toInt ∧ (I0 a0 18).toInt ≤ 240 := ost
  have oS := hV.2 S hSk.1 27
  rw [hSk.2] at oS
  have oS : 0 ≤ (I0 S 27).toInt ∧ (I0 S 27).toInt ≤ 240 := oS
  have hV0 : SV frM P K O I0 J0 I0 J0 := SV.rf hV
  refine g_aload_n C dMo_forget_0 rfl ?_
  refine g_iconst (v := Int32.ofInt (0)) C dMo_forget_1 (by decide) ?_
  refine gt_puti C dMo_forget_2 fl_Mo_73 h0 hV0 rfl trivial rfl (Or.inl rfl) (fun Iw1 eIw1 hVw1 => ?_)
  have tkw1_a0_6 : (Iw1 a0 6).toInt = (I0 a0 6).toInt := by rw [eIw1, up2_ne _ _ (fun z => absurd z.2 (by decide))]
  have tkw1_a0_18 : (Iw1 a0 18).toInt = (I0 a0 18).toInt := by rw [eIw1, up2_ne _ _ (fun z => absurd z.2 (by decide))]
  have tkw1_S_27 : (Iw1 S 27).toInt = (I0 S 27).toInt := by rw [eIw1, up2_ne _ _ (fun z => by have q := hSk.2; rw [z.1, h0.2] at q; exact absurd q (by decide))]
  refine g_aload_n C dMo_forget_5 rfl ?_
  refine g_geti C dMo_forget_6 fl_Mo_293 h0 ?_
  refine g_istore_n (i := 1) C dMo_forget_9 rfl (by decide) ?_
  refine g_aload_n C dMo_forget_10 rfl ?_
  refine g_iconst (v := Int32.ofInt (0)) C dMo_forget_11 (by decide) ?_
  refine gt_puti C dMo_forget_12 fl_Mo_293 h0 hVw1 rfl (by show 0 ≤ Int32.toInt _ ∧ Int32.toInt _ ≤ 24; rw [ofI (by decide)]; omega) rfl (Or.inl rfl) (fun Iw2 eIw2 hVw2 => ?_)
  have tkw2_a0_6 : (Iw2 a0 6).toInt = (Iw1 a0 6).toInt := by rw [eIw2, up2_ne _ _ (fun z => absurd z.2 (by decide))]
  have tkw2_a0_18 : (Iw2 a0 18).toInt = (Iw1 a0 18).toInt := by rw [eIw2, up2_ne _ _ (fun z => absurd z.2 (by decide))]
  have tkw2_S_27 : (Iw2 S 27).toInt = (Iw1 S 27).toInt := by rw [eIw2, up2_ne _ _ (fun z => by have q := hSk.2; rw [z.1, h0.2] at q; exact absurd q (by decide))]
  refine g_iload_n C dMo_forget_15 rfl ?_
  exact s_iret C E dMo_forget_16 ⟨Nat.zero_le _, Nat.zero_le _⟩ hVw2 (by (try dsimp only); omega)
set_option maxHeartbeats 4000000 in
set_option maxRecDepth 100000 in
theorem cMo_rate {P : List Nat} {K : Nat → Nat} {I0 : Nat → Nat → Int32} {O : Nat → Nat → Option Nat} {J0 : Nat → Nat → Int64} (hV : IV P K I0 O) {a0 : Nat} (h0 : a0 ∈ P ∧ K a0 = 10) {x1 : Int32} {S : Nat} (hSo : O a0 16 = some S) (hSk : S ∈ P ∧ K S = 31) : Con yMo_rate bMo_rate 2 (some .int) ({ frames := 0, cells := 0, slots := 0, locals := 0 } : Room) P K I0 O J0 [.ref a0, .int x1] (SPo frM 1 (fun _ I_ => (I_ a0 6).toInt = (I0 a0 6).toInt ∧ (I_ a0 18).toInt = (I0 a0 18).toInt ∧ (I_ S 27).toInt = (I0 S 27).toInt) P K I0 O J0) := by
  refine Con.ofG mfMo_rate (Nat.le_of_ble_eq_true rfl) ?_
  intro X C E
  have r1 := rg x1
  have ost := hV.2 a0 h0.1 18
  rw [h0.2] at ost
  have ost : 0 ≤ (I0 a0 18).toInt ∧ (I0 a0 18).toInt ≤ 240 := ost
  have oS := hV.2 S hSk.1 27
  rw [hSk.2] at oS
  have oS : 0 ≤ (I0 S 27).toInt ∧ (I0 S 27).toInt ≤ 240 := oS
  have hV0 : SV frM P K O I0 J0 I0 J0 := SV.rf hV
  refine g_aload_n C dMo_rate_0 rfl ?_
  refine g_iconst (v := Int32.ofInt (0)) C dMo_rate_1 (by decide) ?_
  refine gt_puti C dMo_rate_2 fl_Mo_73 h0 hV0 rfl trivial rfl (Or.inl rfl) (fun Iw1 eIw1 hVw1 => ?_)
  have tkw1_a0_6 : (Iw1 a0 6).toInt = (I0 a0 6).toInt := by rw [eIw1, up2_ne _ _ (fun z => absurd z.2 (by decide))]
  have tkw1_a0_18 : (Iw1 a0 18).toInt = (I0 a0 18).toInt := by rw [eIw1, up2_ne _ _ (fun z => absurd z.2 (by decide))]
  have tkw1_S_27 : (Iw1 S 27).toInt = (I0 S 27).toInt := by rw [eIw1, up2_ne _ _ (fun z => by have q := hSk.2; rw [z.1, h0.2] at q; exact absurd q (by decide))]
  refine g_iload_n C dMo_rate_5 rfl ?_
  refine gt_if_lt 26 C dMo_rate_6 (by decide) rfl (fun c_6 => ?_) (fun c_6 => ?_)
  · skip
    refine g_iconst (v := Int32.ofInt (-1)) C dMo_rate_26 (by decide) ?_
    exact s_iret C E dMo_rate_27 ⟨Nat.zero_le _, Nat.zero_le _⟩ hVw1 (by have hci : Int32.toInt (Int32.ofInt (-1)) = -1 := ofI (by decide); (try dsimp only); omega)
  · skip
    refine g_iload_n C dMo_rate_9 rfl ?_
    refine g_aload_n C dMo_rate_10 rfl ?_
    refine g_geti C dMo_rate_11 fl_Mo_296 h0 ?_
    have o_11 := hVw1.1.2 a0 h0.1 29
    rw [h0.2] at o_11
    have o_11 : 0 ≤ (Iw1 a0 29).toInt ∧ (Iw1 a0 29).toInt ≤ 5 := o_11
    refine gt_icmp_ge 26 C dMo_rate_14 (by decide) rfl rfl (fun c_14 => ?_) (fun c_14 => ?_)
    · skip
      refine g_iconst (v := Int32.ofInt (-1)) C dMo_rate_26 (by decide) ?_
      exact s_iret C E dMo_rate_27 ⟨Nat.zero_le _, Nat.zero_le _⟩ hVw1 (by have hci : Int32.toInt (Int32.ofInt (-1)) = -1 := ofI (by decide); (try dsimp only); omega)
    · skip
      refine g_aload_n C dMo_rate_17 rfl ?_
      refine gt_getr C dMo_rate_18 fl_Mo_51 h0 hVw1.1.1 rfl (fun b_18 q_18 hb_18 => ?_)
      refine g_iload_n C dMo_rate_21 rfl ?_
      refine gt_iald C dMo_rate_22 hb_18 (by decide) rfl rfl (n := 5) rfl (by omega) ?_
      refine g_goto 27 C dMo_rate_23 (by decide) ?_
      exact s_iret C E dMo_rate_27 ⟨Nat.zero_le _, Nat.zero_le _⟩ hVw1 (by (try dsimp only); omega)
set_option maxHeartbeats 4000000 in
set_option maxRecDepth 100000 in
theorem cMo_state {P : List Nat} {K : Nat → Nat} {I0 : Nat → Nat → Int32} {O : Nat → Nat → Option Nat} {J0 : Nat → Nat → Int64} (hV : IV P K I0 O) {a0 : Nat} (h0 : a0 ∈ P ∧ K a0 = 10) {x1 : Int32} {S : Nat} (hSo : O a0 16 = some S) (hSk : S ∈ P ∧ K S = 31) : Con yMo_state bMo_state 2 (some .int) ({ frames := 1, cells := 0, slots := 0, locals := 22 } : Room) P K I0 O J0 [.ref a0, .int x1] (SPo frM 1 (fun _ I_ => (I_ a0 6).toInt = (I0 a0 6).toInt ∧ (I_ a0 18).toInt = (I0 a0 18).toInt ∧ (I_ S 27).toInt = (I0 S 27).toInt) P K I0 O J0) := by
  refine Con.ofG mfMo_state (Nat.le_of_ble_eq_true rfl) ?_
  intro X C E
  have r1 := rg x1
  have ost := hV.2 a0 h0.1 18
  rw [h0.2] at ost
  have ost : 0 ≤ (I0 a0 18).toInt ∧ (I0 a0 18).toInt ≤ 240 := ost
  have oS := hV.2 S hSk.1 27
  rw [hSk.2] at oS
  have oS : 0 ≤ (I0 S 27).toInt ∧ (I0 S 27).toInt ≤ 240 := oS
  have hV0 : SV frM P K O I0 J0 I0 J0 := SV.rf hV
  refine g_aload_n C dMo_state_0 rfl ?_
  refine g_iconst (v := Int32.ofInt (0)) C dMo_state_1 (by decide) ?_
  refine gt_puti C dMo_state_2 fl_Mo_73 h0 hV0 rfl trivial rfl (Or.inl rfl) (fun Iw1 eIw1 hVw1 => ?_)
  have tkw1_a0_6 : (Iw1 a0 6).toInt = (I0 a0 6).toInt := by rw [eIw1, up2_ne _ _ (fun z => absurd z.2 (by decide))]
  have tkw1_a0_18 : (Iw1 a0 18).toInt = (I0 a0 18).toInt := by rw [eIw1, up2_ne _ _ (fun z => absurd z.2 (by decide))]
  have tkw1_S_27 : (Iw1 S 27).toInt = (I0 S 27).toInt := by rw [eIw1, up2_ne _ _ (fun z => by have q := hSk.2; rw [z.1, h0.2] at q; exact absurd q (by decide))]
  refine g_iload_n C dMo_state_5 rfl ?_
  refine g_iconst (v := Int32.ofInt (0)) C dMo_state_6 (by decide) ?_
  refine g_bipush (v := Int32.ofInt (16)) C dMo_state_7 (by decide) ?_
  refine s_callS_zp (av := fun ad => [.int x1, .int (Int32.ofInt (0)), .int (Int32.ofInt (16))]) C dMo_state_9 mfMo_in msMo_in ln_Mo_149 (cMo_in hVw1.1 ) rfl rfl (Nat.le_of_ble_eq_true rfl) ⟨Nat.le_of_ble_eq_true rfl, Nat.le_of_ble_eq_true rfl⟩ ⟨rfl, rfl⟩ ⟨Nat.zero_le _, Nat.zero_le _⟩ (fun z_9 b_9 p_9 => ?_)
  have rz_9 := rg z_9
  have u_9 := b_9
  unfold B01 at u_9
  try dsimp only at p_9
  have hk1_9 : Int32.toInt (Int32.ofInt (0)) = 0 := ofI (by decide)
  have hk2_9 : Int32.toInt (Int32.ofInt (16)) = 16 := ofI (by decide)
  refine gt_if_eq 27 C dMo_state_12 (by decide) rfl (fun c_12 => ?_) (fun c_12 => ?_)
  · skip
    refine g_iconst (v := Int32.ofInt (-1)) C dMo_state_27 (by decide) ?_
    exact s_iret C E dMo_state_28 ⟨Nat.zero_le _, Nat.zero_le _⟩ hVw1 (by have hci : Int32.toInt (Int32.ofInt (-1)) = -1 := ofI (by decide); (try dsimp only); omega)
  · skip
    refine g_aload_n C dMo_state_15 rfl ?_
    refine gt_getS C dMo_state_16 fl_Mo_17 h0 hSo ?_
    refine g_bipush (v := Int32.ofInt (20)) C dMo_state_19 (by decide) ?_
    refine g_iload_n C dMo_state_21 rfl ?_
    first | refine n_iadd C dMo_state_22 (ofI (by decide)) rfl (by omega) (fun z_22 e_22 => ?_) | refine a_iadd C dMo_state_22 (fun z_22 => ?_)
    refine gt_iald C dMo_state_23 hSk (by decide) rfl rfl (n := 37) rfl (by omega) ?_
    refine g_goto 28 C dMo_state_24 (by decide) ?_
    exact s_iret C E dMo_state_28 ⟨Nat.zero_le _, Nat.zero_le _⟩ hVw1 (by (try dsimp only); omega)
set_option maxHeartbeats 4000000 in
set_option maxRecDepth 100000 in
theorem cMo_chance {P : List Nat} {K : Nat → Nat} {I0 : Nat → Nat → Int32} {O : Nat → Nat → Option Nat} {J0 : Nat → Nat → Int64} (hV : IV P K I0 O) {a0 : Nat} (h0 : a0 ∈ P ∧ K a0 = 10) {S : Nat} (hSo : O a0 16 = some S) (hSk : S ∈ P ∧ K S = 31) : Con yMo_chance bMo_chance 3 (some .int) ({ frames := 2, cells := 0, slots := 0, locals := 48 } : Room) P K I0 O J0 [.ref a0] (SPo frM 1 (fun _ I_ => (I_ a0 6).toInt = (I0 a0 6).toInt ∧ (I_ a0 18).toInt = (I0 a0 18).toInt ∧ (I_ S 27).toInt = (I0 S 27).toInt) P K I0 O J0) := by
  refine Con.ofG mfMo_chance (Nat.le_of_ble_eq_true rfl) ?_
  intro X C E
  have ost := hV.2 a0 h0.1 18
  rw [h0.2] at ost
  have ost : 0 ≤ (I0 a0 18).toInt ∧ (I0 a0 18).toInt ≤ 240 := ost
  have oS := hV.2 S hSk.1 27
  rw [hSk.2] at oS
  have oS : 0 ≤ (I0 S 27).toInt ∧ (I0 S 27).toInt ≤ 240 := oS
  have hV0 : SV frM P K O I0 J0 I0 J0 := SV.rf hV
  refine g_aload_n C dMo_chance_0 rfl ?_
  refine g_iconst (v := Int32.ofInt (0)) C dMo_chance_1 (by decide) ?_
  refine gt_puti C dMo_chance_2 fl_Mo_73 h0 hV0 rfl trivial rfl (Or.inl rfl) (fun Iw1 eIw1 hVw1 => ?_)
  have tkw1_a0_6 : (Iw1 a0 6).toInt = (I0 a0 6).toInt := by rw [eIw1, up2_ne _ _ (fun z => absurd z.2 (by decide))]
  have tkw1_a0_18 : (Iw1 a0 18).toInt = (I0 a0 18).toInt := by rw [eIw1, up2_ne _ _ (fun z => absurd z.2 (by decide))]
  have tkw1_S_27 : (Iw1 S 27).toInt = (I0 S 27).toInt := by rw [eIw1, up2_ne _ _ (fun z => by have q := hSk.2; rw [z.1, h0.2] at q; exact absurd q (by decide))]
  refine g_aload_n C dMo_chance_5 rfl ?_
  refine gt_getr C dMo_chance_6 fl_Mo_60 h0 hVw1.1.1 rfl (fun b_6 q_6 hb_6 => ?_)
  refine g_iconst (v := Int32.ofInt (0)) C dMo_chance_9 (by decide) ?_
  refine gt_ialdc (c := 0) C dMo_chance_10 hb_6 (by decide) rfl (ofI (by decide)) (n := 2) rfl (by decide) (by decide) ?_
  have o_10 := hVw1.1.2 b_6 hb_6.1 0
  rw [hb_6.2] at o_10
  have o_10 : 0 ≤ (Iw1 b_6 0).toInt ∧ (Iw1 b_6 0).toInt ≤ 8 := o_10
  have jn_23 : ∀   (Iw2 : Nat → Nat → Int32) (Jw2 : Nat → Nat → Int64), (Int32.toInt (Iw2 a0 6) = Int32.toInt (I0 a0 6)) → (Int32.toInt (Iw2 a0 18) = Int32.toInt (I0 a0 18)) → (Int32.toInt (Iw2 S 27) = Int32.toInt (I0 S 27)) → SV frM P K O I0 J0 Iw2 Jw2 → GG X 3 P K Iw2 O Jw2 0 0 23 [(0, .ref a0)] [] := by
    intro Iw2 Jw2 jv0_23 jv1_23 jv2_23 hVw2
    refine g_aload_n C dMo_chance_23 rfl ?_
    refine g_iconst (v := Int32.ofInt (5)) C dMo_chance_24 (by decide) ?_
    refine s_callV_i (av := fun ad => [.int (Int32.ofInt (5))]) C dMo_chance_25 mfMo_refused mvMo_refused ln_Mo_283 h0 (by decide) rfl hVw2 (frL_le (by decide)) (cMo_refused hVw2.1 h0) rfl rfl (Nat.le_of_ble_eq_true rfl) ⟨Nat.le_of_ble_eq_true rfl, Nat.le_of_ble_eq_true rfl⟩ ⟨rfl, rfl⟩ ⟨Nat.zero_le _, Nat.zero_le _⟩ (fun Iw3 Jw3 hVw3 hFw3 z_25 p_25 => ?_)
    have tkw3_S_27 : (Iw3 S 27).toInt = (Iw2 S 27).toInt := by rw [(hFw3 S (by rw [hSk.2]; rfl)).1 27]
    have rz_25 := rg z_25
    try dsimp only at p_25
    have hk1_25 : Int32.toInt (Int32.ofInt (5)) = 5 := ofI (by decide)
    exact s_iret C E dMo_chance_28 ⟨Nat.zero_le _, Nat.zero_le _⟩ hVw3 (by (try dsimp only); omega)
  refine gt_if_eq 23 C dMo_chance_11 (by decide) rfl (fun c_11 => ?_) (fun c_11 => ?_)
  · skip
    exact g_sub (jn_23  Iw1 J0 (by omega) (by omega) (by omega) hVw1) ⟨rfl, trivial⟩
  · skip
    refine g_aload_n C dMo_chance_14 rfl ?_
    refine gt_getS C dMo_chance_15 fl_Mo_60 h0 q_6 ?_
    refine g_iconst (v := Int32.ofInt (1)) C dMo_chance_18 (by decide) ?_
    refine gt_ialdc (c := 1) C dMo_chance_19 hb_6 (by decide) rfl (ofI (by decide)) (n := 2) rfl (by decide) (by decide) ?_
    have o_19 := hVw1.1.2 b_6 hb_6.1 1
    rw [hb_6.2] at o_19
    have o_19 : 0 ≤ (Iw1 b_6 1).toInt ∧ (Iw1 b_6 1).toInt ≤ 8 := o_19
    refine gt_if_ne 29 C dMo_chance_20 (by decide) rfl (fun c_20 => ?_) (fun c_20 => ?_)
    · skip
      refine g_iconst (v := Int32.ofInt (0)) C dMo_chance_29 (by decide) ?_
      refine g_istore_n (i := 1) C dMo_chance_30 rfl (by decide) ?_
      refine g_iconst (v := Int32.ofInt (0)) C dMo_chance_31 (by decide) ?_
      refine g_istore_n (i := 2) C dMo_chance_32 rfl (by decide) ?_
      have lp_33 : ∀ (nn_33 : Nat) (x1_33 : Int32) (x2_33 : Int32) (Iw4 : Nat → Nat → Int32) (Jw4 : Nat → Nat → Int64), Int.toNat (8 - x2_33.toInt) = nn_33 → (0 ≤ Int32.toInt x2_33 ∧ Int32.toInt x2_33 ≤ 8) → (Int32.toInt (Iw4 a0 6) = Int32.toInt (I0 a0 6)) → (Int32.toInt (Iw4 a0 18) = Int32.toInt (I0 a0 18)) → (Int32.toInt (Iw4 S 27) = Int32.toInt (I0 S 27)) → SV frM P K O I0 J0 Iw4 Jw4 → GG X 3 P K Iw4 O Jw4 0 0 33 [(0, .ref a0), (1, .int x1_33), (2, .int x2_33)] [] := by
        intro nn_33
        induction nn_33 using Nat.strongRecOn with
        | ind nn_33 ih_33 =>
        intro x1_33 x2_33 Iw4 Jw4 hn_33 iv0_33 iv1_33 iv2_33 iv3_33 hVw4
        have rg1_33 := rg x1_33
        have rg2_33 := rg x2_33
        refine g_iload_n C dMo_chance_33 rfl ?_
        refine g_aload_n C dMo_chance_34 rfl ?_
        refine gt_getS C dMo_chance_35 fl_Mo_60 h0 q_6 ?_
        refine g_iconst (v := Int32.ofInt (1)) C dMo_chance_38 (by decide) ?_
        refine gt_ialdc (c := 1) C dMo_chance_39 hb_6 (by decide) rfl (ofI (by decide)) (n := 2) rfl (by decide) (by decide) ?_
        have o_39 := hVw4.1.2 b_6 hb_6.1 1
        rw [hb_6.2] at o_39
        have o_39 : 0 ≤ (Iw4 b_6 1).toInt ∧ (Iw4 b_6 1).toInt ≤ 8 := o_39
        refine gt_icmp_ge 61 C dMo_chance_40 (by decide) rfl rfl (fun c_40 => ?_) (fun c_40 => ?_)
        · skip
          refine g_aload_n C dMo_chance_61 rfl ?_
          refine g_aload_n C dMo_chance_62 rfl ?_
          refine g_iload_n C dMo_chance_63 rfl ?_
          refine s_callV_ip (av := fun ad => [.int x1_33]) C dMo_chance_64 mfMo_splitsFrom mvMo_splitsFrom ln_Mo_381 h0 (by decide) rfl (cMo_splitsFrom hVw4.1 h0) rfl rfl (Nat.le_of_ble_eq_true rfl) ⟨Nat.le_of_ble_eq_true rfl, Nat.le_of_ble_eq_true rfl⟩ ⟨rfl, rfl⟩ ⟨Nat.zero_le _, Nat.zero_le _⟩ (fun z_64 p_64 => ?_)
          have rz_64 := rg z_64
          refine s_callV_i (av := fun ad => [.int z_64]) C dMo_chance_67 mfMo_done mvMo_done ln_Mo_302 h0 (by decide) rfl hVw4 (frL_le (by decide)) (cMo_done hVw4.1 h0) rfl rfl (Nat.le_of_ble_eq_true rfl) ⟨Nat.le_of_ble_eq_true rfl, Nat.le_of_ble_eq_true rfl⟩ ⟨rfl, rfl⟩ ⟨Nat.zero_le _, Nat.zero_le _⟩ (fun Iw6 Jw6 hVw6 hFw6 z_67 p_67 => ?_)
          have tkw6_S_27 : (Iw6 S 27).toInt = (Iw4 S 27).toInt := by rw [(hFw6 S (by rw [hSk.2]; rfl)).1 27]
          have rz_67 := rg z_67
          try dsimp only at p_67
          exact s_iret C E dMo_chance_70 ⟨Nat.zero_le _, Nat.zero_le _⟩ hVw6 (by (try dsimp only); omega)
        · skip
          refine g_iload_n C dMo_chance_43 rfl ?_
          refine g_aload_n C dMo_chance_44 rfl ?_
          refine gt_getr C dMo_chance_45 fl_Mo_63 h0 hVw4.1.1 rfl (fun b_45 q_45 hb_45 => ?_)
          refine g_bipush (v := Int32.ofInt (8)) C dMo_chance_48 (by decide) ?_
          refine g_iload_n C dMo_chance_50 rfl ?_
          first | refine n_iadd C dMo_chance_51 (ofI (by decide)) rfl (by omega) (fun z_51 e_51 => ?_) | refine a_iadd C dMo_chance_51 (fun z_51 => ?_)
          refine gt_iald C dMo_chance_52 hb_45 (by decide) rfl rfl (n := 16) rfl (by omega) ?_
          first | refine n_iadd C dMo_chance_53 rfl rfl (by omega) (fun z_53 e_53 => ?_) | refine a_iadd C dMo_chance_53 (fun z_53 => ?_)
          refine g_istore_n (i := 1) C dMo_chance_54 rfl (by decide) ?_
          first | refine n_iinc C dMo_chance_55 rfl rfl (by decide) (by decide) (by omega) (fun z_55 e_55 => ?_) | refine a_iinc C dMo_chance_55 rfl (by decide) (fun z_55 => ?_)
          refine g_goto 33 C dMo_chance_58 (by decide) ?_
          exact g_sub (ih_33 _ (by omega) z_53 z_55 Iw4 Jw4 rfl (by omega) (by omega) (by omega) (by omega) hVw4) ⟨rfl, rfl, rfl, trivial⟩
      exact g_sub (lp_33 _ (Int32.ofInt (0)) (Int32.ofInt (0)) Iw1 J0 rfl (by have hci : Int32.toInt (Int32.ofInt (0)) = 0 := ofI (by decide); omega) (by omega) (by omega) (by omega) hVw1) ⟨rfl, rfl, rfl, trivial⟩
    · skip
      exact g_sub (jn_23  Iw1 J0 (by omega) (by omega) (by omega) hVw1) ⟨rfl, trivial⟩
set_option maxHeartbeats 4000000 in
set_option maxRecDepth 100000 in
theorem cMo_splits {P : List Nat} {K : Nat → Nat} {I0 : Nat → Nat → Int32} {O : Nat → Nat → Option Nat} {J0 : Nat → Nat → Int64} (hV : IV P K I0 O) {a0 : Nat} (h0 : a0 ∈ P ∧ K a0 = 10) {S : Nat} (hSo : O a0 16 = some S) (hSk : S ∈ P ∧ K S = 31) : Con yMo_splits bMo_splits 1 (some .int) ({ frames := 2, cells := 0, slots := 0, locals := 48 } : Room) P K I0 O J0 [.ref a0] (SPo frM 1 (fun _ I_ => (I_ a0 6).toInt = (I0 a0 6).toInt ∧ (I_ a0 18).toInt = (I0 a0 18).toInt ∧ (I_ S 27).toInt = (I0 S 27).toInt) P K I0 O J0) := by
  refine Con.ofG mfMo_splits (Nat.le_of_ble_eq_true rfl) ?_
  intro X C E
  have ost := hV.2 a0 h0.1 18
  rw [h0.2] at ost
  have ost : 0 ≤ (I0 a0 18).toInt ∧ (I0 a0 18).toInt ≤ 240 := ost
  have oS := hV.2 S hSk.1 27
  rw [hSk.2] at oS
  have oS : 0 ≤ (I0 S 27).toInt ∧ (I0 S 27).toInt ≤ 240 := oS
  have hV0 : SV frM P K O I0 J0 I0 J0 := SV.rf hV
  refine g_aload_n C dMo_splits_0 rfl ?_
  refine g_iconst (v := Int32.ofInt (0)) C dMo_splits_1 (by decide) ?_
  refine gt_puti C dMo_splits_2 fl_Mo_73 h0 hV0 rfl trivial rfl (Or.inl rfl) (fun Iw1 eIw1 hVw1 => ?_)
  have tkw1_a0_6 : (Iw1 a0 6).toInt = (I0 a0 6).toInt := by rw [eIw1, up2_ne _ _ (fun z => absurd z.2 (by decide))]
  have tkw1_a0_18 : (Iw1 a0 18).toInt = (I0 a0 18).toInt := by rw [eIw1, up2_ne _ _ (fun z => absurd z.2 (by decide))]
  have tkw1_S_27 : (Iw1 S 27).toInt = (I0 S 27).toInt := by rw [eIw1, up2_ne _ _ (fun z => by have q := hSk.2; rw [z.1, h0.2] at q; exact absurd q (by decide))]
  refine g_aload_n C dMo_splits_5 rfl ?_
  refine gt_getr C dMo_splits_6 fl_Mo_60 h0 hVw1.1.1 rfl (fun b_6 q_6 hb_6 => ?_)
  refine g_iconst (v := Int32.ofInt (0)) C dMo_splits_9 (by decide) ?_
  refine gt_ialdc (c := 0) C dMo_splits_10 hb_6 (by decide) rfl (ofI (by decide)) (n := 2) rfl (by decide) (by decide) ?_
  have o_10 := hVw1.1.2 b_6 hb_6.1 0
  rw [hb_6.2] at o_10
  have o_10 : 0 ≤ (Iw1 b_6 0).toInt ∧ (Iw1 b_6 0).toInt ≤ 8 := o_10
  have jn_23 : ∀   (Iw2 : Nat → Nat → Int32) (Jw2 : Nat → Nat → Int64), (Int32.toInt (Iw2 a0 6) = Int32.toInt (I0 a0 6)) → (Int32.toInt (Iw2 a0 18) = Int32.toInt (I0 a0 18)) → (Int32.toInt (Iw2 S 27) = Int32.toInt (I0 S 27)) → SV frM P K O I0 J0 Iw2 Jw2 → GG X 1 P K Iw2 O Jw2 0 0 23 [(0, .ref a0)] [] := by
    intro Iw2 Jw2 jv0_23 jv1_23 jv2_23 hVw2
    refine g_aload_n C dMo_splits_23 rfl ?_
    refine g_iconst (v := Int32.ofInt (5)) C dMo_splits_24 (by decide) ?_
    refine s_callV_i (av := fun ad => [.int (Int32.ofInt (5))]) C dMo_splits_25 mfMo_refused mvMo_refused ln_Mo_283 h0 (by decide) rfl hVw2 (frL_le (by decide)) (cMo_refused hVw2.1 h0) rfl rfl (Nat.le_of_ble_eq_true rfl) ⟨Nat.le_of_ble_eq_true rfl, Nat.le_of_ble_eq_true rfl⟩ ⟨rfl, rfl⟩ ⟨Nat.zero_le _, Nat.zero_le _⟩ (fun Iw3 Jw3 hVw3 hFw3 z_25 p_25 => ?_)
    have tkw3_S_27 : (Iw3 S 27).toInt = (Iw2 S 27).toInt := by rw [(hFw3 S (by rw [hSk.2]; rfl)).1 27]
    have rz_25 := rg z_25
    try dsimp only at p_25
    have hk1_25 : Int32.toInt (Int32.ofInt (5)) = 5 := ofI (by decide)
    refine g_goto 40 C dMo_splits_28 (by decide) ?_
    exact s_iret C E dMo_splits_40 ⟨Nat.zero_le _, Nat.zero_le _⟩ hVw3 (by (try dsimp only); omega)
  refine gt_if_eq 23 C dMo_splits_11 (by decide) rfl (fun c_11 => ?_) (fun c_11 => ?_)
  · skip
    exact g_sub (jn_23  Iw1 J0 (by omega) (by omega) (by omega) hVw1) ⟨rfl, trivial⟩
  · skip
    refine g_aload_n C dMo_splits_14 rfl ?_
    refine gt_getS C dMo_splits_15 fl_Mo_60 h0 q_6 ?_
    refine g_iconst (v := Int32.ofInt (1)) C dMo_splits_18 (by decide) ?_
    refine gt_ialdc (c := 1) C dMo_splits_19 hb_6 (by decide) rfl (ofI (by decide)) (n := 2) rfl (by decide) (by decide) ?_
    have o_19 := hVw1.1.2 b_6 hb_6.1 1
    rw [hb_6.2] at o_19
    have o_19 : 0 ≤ (Iw1 b_6 1).toInt ∧ (Iw1 b_6 1).toInt ≤ 8 := o_19
    refine gt_if_ne 31 C dMo_splits_20 (by decide) rfl (fun c_20 => ?_) (fun c_20 => ?_)
    · skip
      refine g_aload_n C dMo_splits_31 rfl ?_
      refine g_aload_n C dMo_splits_32 rfl ?_
      refine g_iconst (v := Int32.ofInt (0)) C dMo_splits_33 (by decide) ?_
      refine s_callV_ip (av := fun ad => [.int (Int32.ofInt (0))]) C dMo_splits_34 mfMo_splitsFrom mvMo_splitsFrom ln_Mo_381 h0 (by decide) rfl (cMo_splitsFrom hVw1.1 h0) rfl rfl (Nat.le_of_ble_eq_true rfl) ⟨Nat.le_of_ble_eq_true rfl, Nat.le_of_ble_eq_true rfl⟩ ⟨rfl, rfl⟩ ⟨Nat.zero_le _, Nat.zero_le _⟩ (fun z_34 p_34 => ?_)
      have rz_34 := rg z_34
      refine s_callV_i (av := fun ad => [.int z_34]) C dMo_splits_37 mfMo_done mvMo_done ln_Mo_302 h0 (by decide) rfl hVw1 (frL_le (by decide)) (cMo_done hVw1.1 h0) rfl rfl (Nat.le_of_ble_eq_true rfl) ⟨Nat.le_of_ble_eq_true rfl, Nat.le_of_ble_eq_true rfl⟩ ⟨rfl, rfl⟩ ⟨Nat.zero_le _, Nat.zero_le _⟩ (fun Iw5 Jw5 hVw5 hFw5 z_37 p_37 => ?_)
      have tkw5_S_27 : (Iw5 S 27).toInt = (Iw1 S 27).toInt := by rw [(hFw5 S (by rw [hSk.2]; rfl)).1 27]
      have rz_37 := rg z_37
      try dsimp only at p_37
      exact s_iret C E dMo_splits_40 ⟨Nat.zero_le _, Nat.zero_le _⟩ hVw5 (by (try dsimp only); omega)
    · skip
      exact g_sub (jn_23  Iw1 J0 (by omega) (by omega) (by omega) hVw1) ⟨rfl, trivial⟩
set_option maxHeartbeats 4000000 in
set_option maxRecDepth 100000 in
theorem cMo_clear {P : List Nat} {K : Nat → Nat} {I0 : Nat → Nat → Int32} {O : Nat → Nat → Option Nat} {J0 : Nat → Nat → Int64} (hV : IV P K I0 O) {a0 : Nat} (h0 : a0 ∈ P ∧ K a0 = 10) {S : Nat} (hSo : O a0 16 = some S) (hSk : S ∈ P ∧ K S = 31) : Con yMo_clear bMo_clear 2 (some .int) ({ frames := 0, cells := 0, slots := 0, locals := 0 } : Room) P K I0 O J0 [.ref a0] (SPo frM 1 (fun _ I_ => (I_ a0 6).toInt = (I0 a0 6).toInt ∧ (I_ a0 18).toInt = (I0 a0 18).toInt ∧ (I_ S 27).toInt = (I0 S 27).toInt) P K I0 O J0) := by
  refine Con.ofG mfMo_clear (Nat.le_of_ble_eq_true rfl) ?_
  intro X C E
  have ost := hV.2 a0 h0.1 18
  rw [h0.2] at ost
  have ost : 0 ≤ (I0 a0 18).toInt ∧ (I0 a0 18).toInt ≤ 240 := ost
  have oS := hV.2 S hSk.1 27
  rw [hSk.2] at oS
  have oS : 0 ≤ (I0 S 27).toInt ∧ (I0 S 27).toInt ≤ 240 := oS
  have hV0 : SV frM P K O I0 J0 I0 J0 := SV.rf hV
  refine g_aload_n C dMo_clear_0 rfl ?_
  refine g_iconst (v := Int32.ofInt (0)) C dMo_clear_1 (by decide) ?_
  refine gt_puti C dMo_clear_2 fl_Mo_73 h0 hV0 rfl trivial rfl (Or.inl rfl) (fun Iw1 eIw1 hVw1 => ?_)
  have tkw1_a0_6 : (Iw1 a0 6).toInt = (I0 a0 6).toInt := by rw [eIw1, up2_ne _ _ (fun z => absurd z.2 (by decide))]
  have tkw1_a0_18 : (Iw1 a0 18).toInt = (I0 a0 18).toInt := by rw [eIw1, up2_ne _ _ (fun z => absurd z.2 (by decide))]
  have tkw1_S_27 : (Iw1 S 27).toInt = (I0 S 27).toInt := by rw [eIw1, up2_ne _ _ (fun z => by have q := hSk.2; rw [z.1, h0.2] at q; exact absurd q (by decide))]
  refine g_aload_n C dMo_clear_5 rfl ?_
  refine gt_getr C dMo_clear_6 fl_Mo_60 h0 hVw1.1.1 rfl (fun b_6 q_6 hb_6 => ?_)
  refine g_iconst (v := Int32.ofInt (0)) C dMo_clear_9 (by decide) ?_
  refine gt_ialdc (c := 0) C dMo_clear_10 hb_6 (by decide) rfl (ofI (by decide)) (n := 2) rfl (by decide) (by decide) ?_
  have o_10 := hVw1.1.2 b_6 hb_6.1 0
  rw [hb_6.2] at o_10
  have o_10 : 0 ≤ (Iw1 b_6 0).toInt ∧ (Iw1 b_6 0).toInt ≤ 8 := o_10
  refine g_aload_n C dMo_clear_11 rfl ?_
  refine gt_getS C dMo_clear_12 fl_Mo_60 h0 q_6 ?_
  refine g_iconst (v := Int32.ofInt (1)) C dMo_clear_15 (by decide) ?_
  refine gt_ialdc (c := 1) C dMo_clear_16 hb_6 (by decide) rfl (ofI (by decide)) (n := 2) rfl (by decide) (by decide) ?_
  have o_16 := hVw1.1.2 b_6 hb_6.1 1
  rw [hb_6.2] at o_16
  have o_16 : 0 ≤ (Iw1 b_6 1).toInt ∧ (Iw1 b_6 1).toInt ≤ 8 := o_16
  first | refine n_iadd C dMo_clear_17 rfl rfl (by omega) (fun z_17 e_17 => ?_) | refine a_iadd C dMo_clear_17 (fun z_17 => ?_)
  refine g_istore_n (i := 1) C dMo_clear_18 rfl (by decide) ?_
  refine g_aload_n C dMo_clear_19 rfl ?_
  refine gt_getS C dMo_clear_20 fl_Mo_60 h0 q_6 ?_
  refine g_iconst (v := Int32.ofInt (0)) C dMo_clear_23 (by decide) ?_
  refine g_iconst (v := Int32.ofInt (0)) C dMo_clear_24 (by decide) ?_
  refine gt_iastc (c := 0) C dMo_clear_25 hb_6 (by decide) rfl (ofI (by decide)) (n := 2) rfl (by decide) (by decide) hVw1 rfl (by show 0 ≤ Int32.toInt _ ∧ Int32.toInt _ ≤ 8; rw [ofI (by decide)]; omega) (fun Iw2 eIw2 hVw2 => ?_)
  have tkw2_a0_6 : (Iw2 a0 6).toInt = (Iw1 a0 6).toInt := by rw [eIw2, up2_ne _ _ (fun z => by have q := h0.2; rw [z.1, hb_6.2] at q; exact absurd q (by decide))]
  have tkw2_a0_18 : (Iw2 a0 18).toInt = (Iw1 a0 18).toInt := by rw [eIw2, up2_ne _ _ (fun z => by have q := h0.2; rw [z.1, hb_6.2] at q; exact absurd q (by decide))]
  have tkw2_S_27 : (Iw2 S 27).toInt = (Iw1 S 27).toInt := by rw [eIw2, up2_ne _ _ (fun z => by have q := hSk.2; rw [z.1, hb_6.2] at q; exact absurd q (by decide))]
  refine g_aload_n C dMo_clear_26 rfl ?_
  refine gt_getS C dMo_clear_27 fl_Mo_60 h0 q_6 ?_
  refine g_iconst (v := Int32.ofInt (1)) C dMo_clear_30 (by decide) ?_
  refine g_iconst (v := Int32.ofInt (0)) C dMo_clear_31 (by decide) ?_
  refine gt_iastc (c := 1) C dMo_clear_32 hb_6 (by decide) rfl (ofI (by decide)) (n := 2) rfl (by decide) (by decide) hVw2 rfl (by show 0 ≤ Int32.toInt _ ∧ Int32.toInt _ ≤ 8; rw [ofI (by decide)]; omega) (fun Iw3 eIw3 hVw3 => ?_)
  have tkw3_a0_6 : (Iw3 a0 6).toInt = (Iw2 a0 6).toInt := by rw [eIw3, up2_ne _ _ (fun z => by have q := h0.2; rw [z.1, hb_6.2] at q; exact absurd q (by decide))]
  have tkw3_a0_18 : (Iw3 a0 18).toInt = (Iw2 a0 18).toInt := by rw [eIw3, up2_ne _ _ (fun z => by have q := h0.2; rw [z.1, hb_6.2] at q; exact absurd q (by decide))]
  have tkw3_S_27 : (Iw3 S 27).toInt = (Iw2 S 27).toInt := by rw [eIw3, up2_ne _ _ (fun z => by have q := hSk.2; rw [z.1, hb_6.2] at q; exact absurd q (by decide))]
  refine g_iload_n C dMo_clear_33 rfl ?_
  exact s_iret C E dMo_clear_34 ⟨Nat.zero_le _, Nat.zero_le _⟩ hVw3 (by (try dsimp only); omega)
set_option maxHeartbeats 4000000 in
set_option maxRecDepth 100000 in
theorem cMo_led {P : List Nat} {K : Nat → Nat} {I0 : Nat → Nat → Int32} {O : Nat → Nat → Option Nat} {J0 : Nat → Nat → Int64} (hV : IV P K I0 O) {a0 : Nat} (h0 : a0 ∈ P ∧ K a0 = 10) {x1 : Int32} {S : Nat} (hSo : O a0 16 = some S) (hSk : S ∈ P ∧ K S = 31) : Con yMo_led bMo_led 2 (some .int) ({ frames := 0, cells := 0, slots := 0, locals := 0 } : Room) P K I0 O J0 [.ref a0, .int x1] (SPo frM 1 (fun _ I_ => (I_ a0 6).toInt = (I0 a0 6).toInt ∧ (I_ a0 18).toInt = (I0 a0 18).toInt ∧ (I_ S 27).toInt = (I0 S 27).toInt) P K I0 O J0) := by
  refine Con.ofG mfMo_led (Nat.le_of_ble_eq_true rfl) ?_
  intro X C E
  have r1 := rg x1
  have ost := hV.2 a0 h0.1 18
  rw [h0.2] at ost
  have ost : 0 ≤ (I0 a0 18).toInt ∧ (I0 a0 18).toInt ≤ 240 := ost
  have oS := hV.2 S hSk.1 27
  rw [hSk.2] at oS
  have oS : 0 ≤ (I0 S 27).toInt ∧ (I0 S 27).toInt ≤ 240 := oS
  have hV0 : SV frM P K O I0 J0 I0 J0 := SV.rf hV
  refine g_aload_n C dMo_led_0 rfl ?_
  refine g_iload_n C dMo_led_1 rfl ?_
  have jn_18 : ∀  (s0_18 : Int32) (Iw1 : Nat → Nat → Int32) (Jw1 : Nat → Nat → Int64), (Int32.toInt s0_18 = 1 ∨ (0 ≤ Int32.toInt x1 ∧ Int32.toInt x1 < Int32.toInt (I0 a0 18))) → (Int32.toInt (Iw1 a0 6) = Int32.toInt (I0 a0 6)) → (Int32.toInt (Iw1 a0 18) = Int32.toInt (I0 a0 18)) → (Int32.toInt (Iw1 S 27) = Int32.toInt (I0 S 27)) → SV frM P K O I0 J0 Iw1 Jw1 → GG X 2 P K Iw1 O Jw1 0 0 18 [(0, .ref a0), (1, .int x1)] [.int s0_18, .ref a0] := by
    intro s0_18 Iw1 Jw1 jv0_18 jv1_18 jv2_18 jv3_18 hVw1
    refine gt_puti C dMo_led_18 fl_Mo_73 h0 hVw1 rfl trivial rfl (Or.inl rfl) (fun Iw2 eIw2 hVw2 => ?_)
    have tkw2_a0_0 : (Iw2 a0 0).toInt = s0_18.toInt := by rw [eIw2, up2_self]
    have tkw2_a0_6 : (Iw2 a0 6).toInt = (Iw1 a0 6).toInt := by rw [eIw2, up2_ne _ _ (fun z => absurd z.2 (by decide))]
    have tkw2_a0_18 : (Iw2 a0 18).toInt = (Iw1 a0 18).toInt := by rw [eIw2, up2_ne _ _ (fun z => absurd z.2 (by decide))]
    have tkw2_S_27 : (Iw2 S 27).toInt = (Iw1 S 27).toInt := by rw [eIw2, up2_ne _ _ (fun z => by have q := hSk.2; rw [z.1, h0.2] at q; exact absurd q (by decide))]
    refine g_aload_n C dMo_led_21 rfl ?_
    refine g_geti C dMo_led_22 fl_Mo_73 h0 ?_
    refine gt_if_le 32 C dMo_led_25 (by decide) rfl (fun c_25 => ?_) (fun c_25 => ?_)
    · skip
      refine g_aload_n C dMo_led_32 rfl ?_
      refine gt_getr C dMo_led_33 fl_Mo_24 h0 hVw2.1.1 rfl (fun b_33 q_33 hb_33 => ?_)
      refine g_iload_n C dMo_led_36 rfl ?_
      refine gt_iald C dMo_led_37 hb_33 (by decide) rfl rfl (n := 240) rfl (by omega) ?_
      exact s_iret C E dMo_led_38 ⟨Nat.zero_le _, Nat.zero_le _⟩ hVw2 (by (try dsimp only); omega)
    · skip
      refine g_iconst (v := Int32.ofInt (0)) C dMo_led_28 (by decide) ?_
      refine g_goto 38 C dMo_led_29 (by decide) ?_
      exact s_iret C E dMo_led_38 ⟨Nat.zero_le _, Nat.zero_le _⟩ hVw2 (by have hci : Int32.toInt (Int32.ofInt (0)) = 0 := ofI (by decide); (try dsimp only); omega)
  have jn_13 : ∀   (Iw3 : Nat → Nat → Int32) (Jw3 : Nat → Nat → Int64), (Int32.toInt (Iw3 a0 6) = Int32.toInt (I0 a0 6)) → (Int32.toInt (Iw3 a0 18) = Int32.toInt (I0 a0 18)) → (Int32.toInt (Iw3 S 27) = Int32.toInt (I0 S 27)) → SV frM P K O I0 J0 Iw3 Jw3 → GG X 2 P K Iw3 O Jw3 0 0 13 [(0, .ref a0), (1, .int x1)] [.ref a0] := by
    intro Iw3 Jw3 jv0_13 jv1_13 jv2_13 hVw3
    refine g_iconst (v := Int32.ofInt (1)) C dMo_led_13 (by decide) ?_
    refine g_goto 18 C dMo_led_14 (by decide) ?_
    exact g_sub (jn_18 (Int32.ofInt (1)) Iw3 Jw3 (by have hci : Int32.toInt (Int32.ofInt (1)) = 1 := ofI (by decide); omega) (by omega) (by omega) (by omega) hVw3) ⟨rfl, rfl, trivial⟩
  refine gt_if_lt 13 C dMo_led_2 (by decide) rfl (fun c_2 => ?_) (fun c_2 => ?_)
  · skip
    exact g_sub (jn_13  I0 J0 (by omega) (by omega) (by omega) hV0) ⟨rfl, rfl, trivial⟩
  · skip
    refine g_iload_n C dMo_led_5 rfl ?_
    refine g_aload_n C dMo_led_6 rfl ?_
    refine g_geti C dMo_led_7 fl_Mo_299 h0 ?_
    have o_7 := hV0.1.2 a0 h0.1 18
    rw [h0.2] at o_7
    have o_7 : 0 ≤ (I0 a0 18).toInt ∧ (I0 a0 18).toInt ≤ 240 := o_7
    refine gt_icmp_lt 17 C dMo_led_10 (by decide) rfl rfl (fun c_10 => ?_) (fun c_10 => ?_)
    · skip
      refine g_iconst (v := Int32.ofInt (0)) C dMo_led_17 (by decide) ?_
      exact g_sub (jn_18 (Int32.ofInt (0)) I0 J0 (by have hci : Int32.toInt (Int32.ofInt (0)) = 0 := ofI (by decide); omega) (by omega) (by omega) (by omega) hV0) ⟨rfl, rfl, trivial⟩
    · skip
      exact g_sub (jn_13  I0 J0 (by omega) (by omega) (by omega) hV0) ⟨rfl, rfl, trivial⟩
set_option maxHeartbeats 4000000 in
set_option maxRecDepth 100000 in
theorem cMo_set_Z {P : List Nat} {K : Nat → Nat} {I0 : Nat → Nat → Int32} {O : Nat → Nat → Option Nat} {J0 : Nat → Nat → Int64} (hV : IV P K I0 O) {a0 : Nat} (h0 : a0 ∈ P ∧ K a0 = 10) {x1 : Int32} {x2 : Int32} {x3 : Int32} {S : Nat} (hSo : O a0 16 = some S) (hSk : S ∈ P ∧ K S = 31) (hMn : O a0 3 = none) : Con yMo_set bMo_set 4 (some .boolean) ({ frames := 1, cells := 0, slots := 0, locals := 22 } : Room) P K I0 O J0 [.ref a0, .int x1, .int x2, .int x3] (SPo frM 2 (fun _ I_ => (I_ a0 6).toInt = (I0 a0 6).toInt ∧ (I_ a0 18).toInt = (I0 a0 18).toInt ∧ (I_ S 27).toInt = (I0 S 27).toInt) P K I0 O J0) := by
  refine Con.ofG mfMo_set (Nat.le_of_ble_eq_true rfl) ?_
  intro X C E
  have r1 := rg x1
  have r2 := rg x2
  have r3 := rg x3
  have ost := hV.2 a0 h0.1 18
  rw [h0.2] at ost
  have ost : 0 ≤ (I0 a0 18).toInt ∧ (I0 a0 18).toInt ≤ 240 := ost
  have oS := hV.2 S hSk.1 27
  rw [hSk.2] at oS
  have oS : 0 ≤ (I0 S 27).toInt ∧ (I0 S 27).toInt ≤ 240 := oS
  have hV0 : SV frM P K O I0 J0 I0 J0 := SV.rf hV
  refine g_aload_n C dMo_set_0 rfl ?_
  refine g_iconst (v := Int32.ofInt (0)) C dMo_set_1 (by decide) ?_
  refine gt_puti C dMo_set_2 fl_Mo_73 h0 hV0 rfl trivial rfl (Or.inl rfl) (fun Iw1 eIw1 hVw1 => ?_)
  have tkw1_a0_6 : (Iw1 a0 6).toInt = (I0 a0 6).toInt := by rw [eIw1, up2_ne _ _ (fun z => absurd z.2 (by decide))]
  have tkw1_a0_18 : (Iw1 a0 18).toInt = (I0 a0 18).toInt := by rw [eIw1, up2_ne _ _ (fun z => absurd z.2 (by decide))]
  have tkw1_S_27 : (Iw1 S 27).toInt = (I0 S 27).toInt := by rw [eIw1, up2_ne _ _ (fun z => by have q := hSk.2; rw [z.1, h0.2] at q; exact absurd q (by decide))]
  refine g_aload_n C dMo_set_5 rfl ?_
  refine g_iload_n C dMo_set_6 rfl ?_
  refine s_callV_zp (av := fun ad => [.int x3]) C dMo_set_7 mfMo_isOre mvMo_isOre ln_Mo_323 h0 (by decide) rfl (cMo_isOre_Z hVw1.1 h0 hMn) rfl rfl (Nat.le_of_ble_eq_true rfl) ⟨Nat.le_of_ble_eq_true rfl, Nat.le_of_ble_eq_true rfl⟩ ⟨rfl, rfl⟩ ⟨Nat.zero_le _, Nat.zero_le _⟩ (fun z_7 b_7 p_7 => ?_)
  have rz_7 := rg z_7
  have u_7 := b_7
  unfold B01 at u_7
  try dsimp only at p_7
  refine gt_if_ne 19 C dMo_set_10 (by decide) rfl (fun c_10 => ?_) (fun c_10 => ?_)
  · skip
    refine g_iload_n C dMo_set_19 rfl ?_
    refine g_iconst (v := Int32.ofInt (0)) C dMo_set_20 (by decide) ?_
    refine g_iconst (v := Int32.ofInt (3)) C dMo_set_21 (by decide) ?_
    refine s_callS_zp (av := fun ad => [.int x1, .int (Int32.ofInt (0)), .int (Int32.ofInt (3))]) C dMo_set_22 mfMo_in msMo_in ln_Mo_149 (cMo_in hVw1.1 ) rfl rfl (Nat.le_of_ble_eq_true rfl) ⟨Nat.le_of_ble_eq_true rfl, Nat.le_of_ble_eq_true rfl⟩ ⟨rfl, rfl⟩ ⟨Nat.zero_le _, Nat.zero_le _⟩ (fun z_22 b_22 p_22 => ?_)
    have rz_22 := rg z_22
    have u_22 := b_22
    unfold B01 at u_22
    try dsimp only at p_22
    have hk1_22 : Int32.toInt (Int32.ofInt (0)) = 0 := ofI (by decide)
    have hk2_22 : Int32.toInt (Int32.ofInt (3)) = 3 := ofI (by decide)
    have jn_37 : ∀   (Iw4 : Nat → Nat → Int32) (Jw4 : Nat → Nat → Int64), (Int32.toInt (Iw4 a0 6) = Int32.toInt (I0 a0 6)) → (Int32.toInt (Iw4 a0 18) = Int32.toInt (I0 a0 18)) → (Int32.toInt (Iw4 S 27) = Int32.toInt (I0 S 27)) → SV frM P K O I0 J0 Iw4 Jw4 → GG X 4 P K Iw4 O Jw4 0 0 37 [(0, .ref a0), (1, .int x1), (2, .int x2), (3, .int x3)] [] := by
      intro Iw4 Jw4 jv0_37 jv1_37 jv2_37 hVw4
      refine g_aload_n C dMo_set_37 rfl ?_
      refine g_iconst (v := Int32.ofInt (2)) C dMo_set_38 (by decide) ?_
      refine s_callV_z (av := fun ad => [.int (Int32.ofInt (2))]) C dMo_set_39 mfMo_denied mvMo_denied ln_Mo_326 h0 (by decide) rfl hVw4 (frL_le (by decide)) (cMo_denied hVw4.1 h0) rfl rfl (Nat.le_of_ble_eq_true rfl) ⟨Nat.le_of_ble_eq_true rfl, Nat.le_of_ble_eq_true rfl⟩ ⟨rfl, rfl⟩ ⟨Nat.zero_le _, Nat.zero_le _⟩ (fun Iw5 Jw5 hVw5 hFw5 z_39 b_39 p_39 => ?_)
      have tkw5_S_27 : (Iw5 S 27).toInt = (Iw4 S 27).toInt := by rw [(hFw5 S (by rw [hSk.2]; rfl)).1 27]
      have rz_39 := rg z_39
      have u_39 := b_39
      unfold B01 at u_39
      try dsimp only at p_39
      have hk1_39 : Int32.toInt (Int32.ofInt (2)) = 2 := ofI (by decide)
      exact s_zret C E dMo_set_42 ⟨Nat.zero_le _, Nat.zero_le _⟩ hVw5 (by first | assumption | (unfold B01; omega)) (by (try dsimp only); omega)
    refine gt_if_eq 37 C dMo_set_25 (by decide) rfl (fun c_25 => ?_) (fun c_25 => ?_)
    · skip
      exact g_sub (jn_37  Iw1 J0 (by omega) (by omega) (by omega) hVw1) ⟨rfl, rfl, rfl, rfl, trivial⟩
    · skip
      refine g_iload_n C dMo_set_28 rfl ?_
      refine g_iconst (v := Int32.ofInt (0)) C dMo_set_29 (by decide) ?_
      refine g_iconst (v := Int32.ofInt (3)) C dMo_set_30 (by decide) ?_
      refine s_callS_zp (av := fun ad => [.int x2, .int (Int32.ofInt (0)), .int (Int32.ofInt (3))]) C dMo_set_31 mfMo_in msMo_in ln_Mo_149 (cMo_in hVw1.1 ) rfl rfl (Nat.le_of_ble_eq_true rfl) ⟨Nat.le_of_ble_eq_true rfl, Nat.le_of_ble_eq_true rfl⟩ ⟨rfl, rfl⟩ ⟨Nat.zero_le _, Nat.zero_le _⟩ (fun z_31 b_31 p_31 => ?_)
      have rz_31 := rg z_31
      have u_31 := b_31
      unfold B01 at u_31
      try dsimp only at p_31
      have hk1_31 : Int32.toInt (Int32.ofInt (0)) = 0 := ofI (by decide)
      have hk2_31 : Int32.toInt (Int32.ofInt (3)) = 3 := ofI (by decide)
      refine gt_if_ne 43 C dMo_set_34 (by decide) rfl (fun c_34 => ?_) (fun c_34 => ?_)
      · skip
        refine g_aload_n C dMo_set_43 rfl ?_
        refine gt_getS C dMo_set_44 fl_Mo_17 h0 hSo ?_
        refine g_bipush (v := Int32.ofInt (34)) C dMo_set_47 (by decide) ?_
        refine g_iload_n C dMo_set_49 rfl ?_
        refine gt_iastc (c := 34) C dMo_set_50 hSk (by decide) rfl (ofI (by decide)) (n := 37) rfl (by decide) (by decide) hVw1 rfl trivial (fun Iw7 eIw7 hVw7 => ?_)
        have tkw7_a0_6 : (Iw7 a0 6).toInt = (Iw1 a0 6).toInt := by rw [eIw7, up2_ne _ _ (fun z => by have q := h0.2; rw [z.1, hSk.2] at q; exact absurd q (by decide))]
        have tkw7_a0_18 : (Iw7 a0 18).toInt = (Iw1 a0 18).toInt := by rw [eIw7, up2_ne _ _ (fun z => by have q := h0.2; rw [z.1, hSk.2] at q; exact absurd q (by decide))]
        have tkw7_S_27 : (Iw7 S 27).toInt = (Iw1 S 27).toInt := by rw [eIw7, up2_ne _ _ (fun z => absurd z.2 (by decide))]
        refine g_aload_n C dMo_set_51 rfl ?_
        refine gt_getS C dMo_set_52 fl_Mo_17 h0 hSo ?_
        refine g_bipush (v := Int32.ofInt (35)) C dMo_set_55 (by decide) ?_
        refine g_iload_n C dMo_set_57 rfl ?_
        refine gt_iastc (c := 35) C dMo_set_58 hSk (by decide) rfl (ofI (by decide)) (n := 37) rfl (by decide) (by decide) hVw7 rfl trivial (fun Iw8 eIw8 hVw8 => ?_)
        have tkw8_a0_6 : (Iw8 a0 6).toInt = (Iw7 a0 6).toInt := by rw [eIw8, up2_ne _ _ (fun z => by have q := h0.2; rw [z.1, hSk.2] at q; exact absurd q (by decide))]
        have tkw8_a0_18 : (Iw8 a0 18).toInt = (Iw7 a0 18).toInt := by rw [eIw8, up2_ne _ _ (fun z => by have q := h0.2; rw [z.1, hSk.2] at q; exact absurd q (by decide))]
        have tkw8_S_27 : (Iw8 S 27).toInt = (Iw7 S 27).toInt := by rw [eIw8, up2_ne _ _ (fun z => absurd z.2 (by decide))]
        refine g_aload_n C dMo_set_59 rfl ?_
        refine gt_getS C dMo_set_60 fl_Mo_17 h0 hSo ?_
        refine g_bipush (v := Int32.ofInt (36)) C dMo_set_63 (by decide) ?_
        refine g_iload_n C dMo_set_65 rfl ?_
        refine gt_iastc (c := 36) C dMo_set_66 hSk (by decide) rfl (ofI (by decide)) (n := 37) rfl (by decide) (by decide) hVw8 rfl (by show 0 ≤ Int32.toInt _ ∧ Int32.toInt _ ≤ 3; omega) (fun Iw9 eIw9 hVw9 => ?_)
        have tkw9_a0_6 : (Iw9 a0 6).toInt = (Iw8 a0 6).toInt := by rw [eIw9, up2_ne _ _ (fun z => by have q := h0.2; rw [z.1, hSk.2] at q; exact absurd q (by decide))]
        have tkw9_a0_18 : (Iw9 a0 18).toInt = (Iw8 a0 18).toInt := by rw [eIw9, up2_ne _ _ (fun z => by have q := h0.2; rw [z.1, hSk.2] at q; exact absurd q (by decide))]
        have tkw9_S_27 : (Iw9 S 27).toInt = (Iw8 S 27).toInt := by rw [eIw9, up2_ne _ _ (fun z => absurd z.2 (by decide))]
        refine g_aload_n C dMo_set_67 rfl ?_
        refine s_callV_z (av := fun ad => []) C dMo_set_68 mfMo_granted mvMo_granted ln_Mo_329 h0 (by decide) rfl hVw9 (frL_le (by decide)) (cMo_granted hVw9.1 h0) rfl rfl (Nat.le_of_ble_eq_true rfl) ⟨Nat.le_of_ble_eq_true rfl, Nat.le_of_ble_eq_true rfl⟩ ⟨rfl, rfl⟩ ⟨Nat.zero_le _, Nat.zero_le _⟩ (fun Iw10 Jw10 hVw10 hFw10 z_68 b_68 p_68 => ?_)
        have tkw10_S_27 : (Iw10 S 27).toInt = (Iw9 S 27).toInt := by rw [(hFw10 S (by rw [hSk.2]; rfl)).1 27]
        have rz_68 := rg z_68
        have u_68 := b_68
        unfold B01 at u_68
        try dsimp only at p_68
        exact s_zret C E dMo_set_71 ⟨Nat.zero_le _, Nat.zero_le _⟩ hVw10 (by first | assumption | (unfold B01; omega)) (by (try dsimp only); omega)
      · skip
        exact g_sub (jn_37  Iw1 J0 (by omega) (by omega) (by omega) hVw1) ⟨rfl, rfl, rfl, rfl, trivial⟩
  · skip
    refine g_aload_n C dMo_set_13 rfl ?_
    refine g_iconst (v := Int32.ofInt (1)) C dMo_set_14 (by decide) ?_
    refine s_callV_z (av := fun ad => [.int (Int32.ofInt (1))]) C dMo_set_15 mfMo_denied mvMo_denied ln_Mo_326 h0 (by decide) rfl hVw1 (frL_le (by decide)) (cMo_denied hVw1.1 h0) rfl rfl (Nat.le_of_ble_eq_true rfl) ⟨Nat.le_of_ble_eq_true rfl, Nat.le_of_ble_eq_true rfl⟩ ⟨rfl, rfl⟩ ⟨Nat.zero_le _, Nat.zero_le _⟩ (fun Iw11 Jw11 hVw11 hFw11 z_15 b_15 p_15 => ?_)
    have tkw11_S_27 : (Iw11 S 27).toInt = (Iw1 S 27).toInt := by rw [(hFw11 S (by rw [hSk.2]; rfl)).1 27]
    have rz_15 := rg z_15
    have u_15 := b_15
    unfold B01 at u_15
    try dsimp only at p_15
    have hk1_15 : Int32.toInt (Int32.ofInt (1)) = 1 := ofI (by decide)
    exact s_zret C E dMo_set_18 ⟨Nat.zero_le _, Nat.zero_le _⟩ hVw11 (by first | assumption | (unfold B01; omega)) (by (try dsimp only); omega)
set_option maxHeartbeats 4000000 in
set_option maxRecDepth 100000 in
theorem cMo_set_G {P : List Nat} {K : Nat → Nat} {I0 : Nat → Nat → Int32} {O : Nat → Nat → Option Nat} {J0 : Nat → Nat → Int64} (hV : IV P K I0 O) {a0 : Nat} (h0 : a0 ∈ P ∧ K a0 = 10) {x1 : Int32} {x2 : Int32} {x3 : Int32} {S : Nat} (hSo : O a0 16 = some S) (hSk : S ∈ P ∧ K S = 31) {M : Nat} (hMo : O a0 3 = some M) (hMk : M ∈ P ∧ K M = 9) (hGM : GM I0 M) : Con yMo_set bMo_set 4 (some .boolean) ({ frames := 1, cells := 0, slots := 0, locals := 22 } : Room) P K I0 O J0 [.ref a0, .int x1, .int x2, .int x3] (SPo frM 2 (fun _ I_ => (I_ a0 6).toInt = (I0 a0 6).toInt ∧ (I_ a0 18).toInt = (I0 a0 18).toInt ∧ (I_ S 27).toInt = (I0 S 27).toInt) P K I0 O J0) := by
  refine Con.ofG mfMo_set (Nat.le_of_ble_eq_true rfl) ?_
  intro X C E
  have r1 := rg x1
  have r2 := rg x2
  have r3 := rg x3
  have ost := hV.2 a0 h0.1 18
  rw [h0.2] at ost
  have ost : 0 ≤ (I0 a0 18).toInt ∧ (I0 a0 18).toInt ≤ 240 := ost
  have oS := hV.2 S hSk.1 27
  rw [hSk.2] at oS
  have oS : 0 ≤ (I0 S 27).toInt ∧ (I0 S 27).toInt ≤ 240 := oS
  have hV0 : SV frM P K O I0 J0 I0 J0 := SV.rf hV
  refine g_aload_n C dMo_set_0 rfl ?_
  refine g_iconst (v := Int32.ofInt (0)) C dMo_set_1 (by decide) ?_
  refine gt_puti C dMo_set_2 fl_Mo_73 h0 hV0 rfl trivial rfl (Or.inl rfl) (fun Iw1 eIw1 hVw1 => ?_)
  have tkw1_a0_6 : (Iw1 a0 6).toInt = (I0 a0 6).toInt := by rw [eIw1, up2_ne _ _ (fun z => absurd z.2 (by decide))]
  have tkw1_a0_18 : (Iw1 a0 18).toInt = (I0 a0 18).toInt := by rw [eIw1, up2_ne _ _ (fun z => absurd z.2 (by decide))]
  have tkw1_S_27 : (Iw1 S 27).toInt = (I0 S 27).toInt := by rw [eIw1, up2_ne _ _ (fun z => by have q := hSk.2; rw [z.1, h0.2] at q; exact absurd q (by decide))]
  refine g_aload_n C dMo_set_5 rfl ?_
  refine g_iload_n C dMo_set_6 rfl ?_
  refine s_callV_zp (av := fun ad => [.int x3]) C dMo_set_7 mfMo_isOre mvMo_isOre ln_Mo_323 h0 (by decide) rfl (cMo_isOre_G hVw1.1 h0 hMo hMk (hGM.keep (hVw1.2 M (by rw [hMk.2]; rfl)).1)) rfl rfl (Nat.le_of_ble_eq_true rfl) ⟨Nat.le_of_ble_eq_true rfl, Nat.le_of_ble_eq_true rfl⟩ ⟨rfl, rfl⟩ ⟨Nat.zero_le _, Nat.zero_le _⟩ (fun z_7 b_7 p_7 => ?_)
  have rz_7 := rg z_7
  have u_7 := b_7
  unfold B01 at u_7
  try dsimp only at p_7
  refine gt_if_ne 19 C dMo_set_10 (by decide) rfl (fun c_10 => ?_) (fun c_10 => ?_)
  · skip
    refine g_iload_n C dMo_set_19 rfl ?_
    refine g_iconst (v := Int32.ofInt (0)) C dMo_set_20 (by decide) ?_
    refine g_iconst (v := Int32.ofInt (3)) C dMo_set_21 (by decide) ?_
    refine s_callS_zp (av := fun ad => [.int x1, .int (Int32.ofInt (0)), .int (Int32.ofInt (3))]) C dMo_set_22 mfMo_in msMo_in ln_Mo_149 (cMo_in hVw1.1 ) rfl rfl (Nat.le_of_ble_eq_true rfl) ⟨Nat.le_of_ble_eq_true rfl, Nat.le_of_ble_eq_true rfl⟩ ⟨rfl, rfl⟩ ⟨Nat.zero_le _, Nat.zero_le _⟩ (fun z_22 b_22 p_22 => ?_)
    have rz_22 := rg z_22
    have u_22 := b_22
    unfold B01 at u_22
    try dsimp only at p_22
    have hk1_22 : Int32.toInt (Int32.ofInt (0)) = 0 := ofI (by decide)
    have hk2_22 : Int32.toInt (Int32.ofInt (3)) = 3 := ofI (by decide)
    have jn_37 : ∀   (Iw4 : Nat → Nat → Int32) (Jw4 : Nat → Nat → Int64), (Int32.toInt (Iw4 a0 6) = Int32.toInt (I0 a0 6)) → (Int32.toInt (Iw4 a0 18) = Int32.toInt (I0 a0 18)) → (Int32.toInt (Iw4 S 27) = Int32.toInt (I0 S 27)) → SV frM P K O I0 J0 Iw4 Jw4 → GG X 4 P K Iw4 O Jw4 0 0 37 [(0, .ref a0), (1, .int x1), (2, .int x2), (3, .int x3)] [] := by
      intro Iw4 Jw4 jv0_37 jv1_37 jv2_37 hVw4
      refine g_aload_n C dMo_set_37 rfl ?_
      refine g_iconst (v := Int32.ofInt (2)) C dMo_set_38 (by decide) ?_
      refine s_callV_z (av := fun ad => [.int (Int32.ofInt (2))]) C dMo_set_39 mfMo_denied mvMo_denied ln_Mo_326 h0 (by decide) rfl hVw4 (frL_le (by decide)) (cMo_denied hVw4.1 h0) rfl rfl (Nat.le_of_ble_eq_true rfl) ⟨Nat.le_of_ble_eq_true rfl, Nat.le_of_ble_eq_true rfl⟩ ⟨rfl, rfl⟩ ⟨Nat.zero_le _, Nat.zero_le _⟩ (fun Iw5 Jw5 hVw5 hFw5 z_39 b_39 p_39 => ?_)
      have tkw5_S_27 : (Iw5 S 27).toInt = (Iw4 S 27).toInt := by rw [(hFw5 S (by rw [hSk.2]; rfl)).1 27]
      have rz_39 := rg z_39
      have u_39 := b_39
      unfold B01 at u_39
      try dsimp only at p_39
      have hk1_39 : Int32.toInt (Int32.ofInt (2)) = 2 := ofI (by decide)
      exact s_zret C E dMo_set_42 ⟨Nat.zero_le _, Nat.zero_le _⟩ hVw5 (by first | assumption | (unfold B01; omega)) (by (try dsimp only); omega)
    refine gt_if_eq 37 C dMo_set_25 (by decide) rfl (fun c_25 => ?_) (fun c_25 => ?_)
    · skip
      exact g_sub (jn_37  Iw1 J0 (by omega) (by omega) (by omega) hVw1) ⟨rfl, rfl, rfl, rfl, trivial⟩
    · skip
      refine g_iload_n C dMo_set_28 rfl ?_
      refine g_iconst (v := Int32.ofInt (0)) C dMo_set_29 (by decide) ?_
      refine g_iconst (v := Int32.ofInt (3)) C dMo_set_30 (by decide) ?_
      refine s_callS_zp (av := fun ad => [.int x2, .int (Int32.ofInt (0)), .int (Int32.ofInt (3))]) C dMo_set_31 mfMo_in msMo_in ln_Mo_149 (cMo_in hVw1.1 ) rfl rfl (Nat.le_of_ble_eq_true rfl) ⟨Nat.le_of_ble_eq_true rfl, Nat.le_of_ble_eq_true rfl⟩ ⟨rfl, rfl⟩ ⟨Nat.zero_le _, Nat.zero_le _⟩ (fun z_31 b_31 p_31 => ?_)
      have rz_31 := rg z_31
      have u_31 := b_31
      unfold B01 at u_31
      try dsimp only at p_31
      have hk1_31 : Int32.toInt (Int32.ofInt (0)) = 0 := ofI (by decide)
      have hk2_31 : Int32.toInt (Int32.ofInt (3)) = 3 := ofI (by decide)
      refine gt_if_ne 43 C dMo_set_34 (by decide) rfl (fun c_34 => ?_) (fun c_34 => ?_)
      · skip
        refine g_aload_n C dMo_set_43 rfl ?_
        refine gt_getS C dMo_set_44 fl_Mo_17 h0 hSo ?_
        refine g_bipush (v := Int32.ofInt (34)) C dMo_set_47 (by decide) ?_
        refine g_iload_n C dMo_set_49 rfl ?_
        refine gt_iastc (c := 34) C dMo_set_50 hSk (by decide) rfl (ofI (by decide)) (n := 37) rfl (by decide) (by decide) hVw1 rfl trivial (fun Iw7 eIw7 hVw7 => ?_)
        have tkw7_a0_6 : (Iw7 a0 6).toInt = (Iw1 a0 6).toInt := by rw [eIw7, up2_ne _ _ (fun z => by have q := h0.2; rw [z.1, hSk.2] at q; exact absurd q (by decide))]
        have tkw7_a0_18 : (Iw7 a0 18).toInt = (Iw1 a0 18).toInt := by rw [eIw7, up2_ne _ _ (fun z => by have q := h0.2; rw [z.1, hSk.2] at q; exact absurd q (by decide))]
        have tkw7_S_27 : (Iw7 S 27).toInt = (Iw1 S 27).toInt := by rw [eIw7, up2_ne _ _ (fun z => absurd z.2 (by decide))]
        refine g_aload_n C dMo_set_51 rfl ?_
        refine gt_getS C dMo_set_52 fl_Mo_17 h0 hSo ?_
        refine g_bipush (v := Int32.ofInt (35)) C dMo_set_55 (by decide) ?_
        refine g_iload_n C dMo_set_57 rfl ?_
        refine gt_iastc (c := 35) C dMo_set_58 hSk (by decide) rfl (ofI (by decide)) (n := 37) rfl (by decide) (by decide) hVw7 rfl trivial (fun Iw8 eIw8 hVw8 => ?_)
        have tkw8_a0_6 : (Iw8 a0 6).toInt = (Iw7 a0 6).toInt := by rw [eIw8, up2_ne _ _ (fun z => by have q := h0.2; rw [z.1, hSk.2] at q; exact absurd q (by decide))]
        have tkw8_a0_18 : (Iw8 a0 18).toInt = (Iw7 a0 18).toInt := by rw [eIw8, up2_ne _ _ (fun z => by have q := h0.2; rw [z.1, hSk.2] at q; exact absurd q (by decide))]
        have tkw8_S_27 : (Iw8 S 27).toInt = (Iw7 S 27).toInt := by rw [eIw8, up2_ne _ _ (fun z => absurd z.2 (by decide))]
        refine g_aload_n C dMo_set_59 rfl ?_
        refine gt_getS C dMo_set_60 fl_Mo_17 h0 hSo ?_
        refine g_bipush (v := Int32.ofInt (36)) C dMo_set_63 (by decide) ?_
        refine g_iload_n C dMo_set_65 rfl ?_
        refine gt_iastc (c := 36) C dMo_set_66 hSk (by decide) rfl (ofI (by decide)) (n := 37) rfl (by decide) (by decide) hVw8 rfl (by show 0 ≤ Int32.toInt _ ∧ Int32.toInt _ ≤ 3; omega) (fun Iw9 eIw9 hVw9 => ?_)
        have tkw9_a0_6 : (Iw9 a0 6).toInt = (Iw8 a0 6).toInt := by rw [eIw9, up2_ne _ _ (fun z => by have q := h0.2; rw [z.1, hSk.2] at q; exact absurd q (by decide))]
        have tkw9_a0_18 : (Iw9 a0 18).toInt = (Iw8 a0 18).toInt := by rw [eIw9, up2_ne _ _ (fun z => by have q := h0.2; rw [z.1, hSk.2] at q; exact absurd q (by decide))]
        have tkw9_S_27 : (Iw9 S 27).toInt = (Iw8 S 27).toInt := by rw [eIw9, up2_ne _ _ (fun z => absurd z.2 (by decide))]
        refine g_aload_n C dMo_set_67 rfl ?_
        refine s_callV_z (av := fun ad => []) C dMo_set_68 mfMo_granted mvMo_granted ln_Mo_329 h0 (by decide) rfl hVw9 (frL_le (by decide)) (cMo_granted hVw9.1 h0) rfl rfl (Nat.le_of_ble_eq_true rfl) ⟨Nat.le_of_ble_eq_true rfl, Nat.le_of_ble_eq_true rfl⟩ ⟨rfl, rfl⟩ ⟨Nat.zero_le _, Nat.zero_le _⟩ (fun Iw10 Jw10 hVw10 hFw10 z_68 b_68 p_68 => ?_)
        have tkw10_S_27 : (Iw10 S 27).toInt = (Iw9 S 27).toInt := by rw [(hFw10 S (by rw [hSk.2]; rfl)).1 27]
        have rz_68 := rg z_68
        have u_68 := b_68
        unfold B01 at u_68
        try dsimp only at p_68
        exact s_zret C E dMo_set_71 ⟨Nat.zero_le _, Nat.zero_le _⟩ hVw10 (by first | assumption | (unfold B01; omega)) (by (try dsimp only); omega)
      · skip
        exact g_sub (jn_37  Iw1 J0 (by omega) (by omega) (by omega) hVw1) ⟨rfl, rfl, rfl, rfl, trivial⟩
  · skip
    refine g_aload_n C dMo_set_13 rfl ?_
    refine g_iconst (v := Int32.ofInt (1)) C dMo_set_14 (by decide) ?_
    refine s_callV_z (av := fun ad => [.int (Int32.ofInt (1))]) C dMo_set_15 mfMo_denied mvMo_denied ln_Mo_326 h0 (by decide) rfl hVw1 (frL_le (by decide)) (cMo_denied hVw1.1 h0) rfl rfl (Nat.le_of_ble_eq_true rfl) ⟨Nat.le_of_ble_eq_true rfl, Nat.le_of_ble_eq_true rfl⟩ ⟨rfl, rfl⟩ ⟨Nat.zero_le _, Nat.zero_le _⟩ (fun Iw11 Jw11 hVw11 hFw11 z_15 b_15 p_15 => ?_)
    have tkw11_S_27 : (Iw11 S 27).toInt = (Iw1 S 27).toInt := by rw [(hFw11 S (by rw [hSk.2]; rfl)).1 27]
    have rz_15 := rg z_15
    have u_15 := b_15
    unfold B01 at u_15
    try dsimp only at p_15
    have hk1_15 : Int32.toInt (Int32.ofInt (1)) = 1 := ofI (by decide)
    exact s_zret C E dMo_set_18 ⟨Nat.zero_le _, Nat.zero_le _⟩ hVw11 (by first | assumption | (unfold B01; omega)) (by (try dsimp only); omega)
set_option maxHeartbeats 4000000 in
set_option maxRecDepth 100000 in
theorem cMo_mend_Z {P : List Nat} {K : Nat → Nat} {I0 : Nat → Nat → Int32} {O : Nat → Nat → Option Nat} {J0 : Nat → Nat → Int64} (hV : IV P K I0 O) {a0 : Nat} (h0 : a0 ∈ P ∧ K a0 = 10) {x1 : Int32} {x2 : Int32} {S : Nat} (hSo : O a0 16 = some S) (hSk : S ∈ P ∧ K S = 31) (hMn : O a0 3 = none) : Con yMo_mend bMo_mend 3 (some .boolean) ({ frames := 1, cells := 0, slots := 0, locals := 21 } : Room) P K I0 O J0 [.ref a0, .int x1, .int x2] (SPo frM 2 (fun _ I_ => (I_ a0 6).toInt = (I0 a0 6).toInt ∧ (I_ a0 18).toInt = (I0 a0 18).toInt ∧ (I_ S 27).toInt = (I0 S 27).toInt) P K I0 O J0) := by
  refine Con.ofG mfMo_mend (Nat.le_of_ble_eq_true rfl) ?_
  intro X C E
  have r1 := rg x1
  have r2 := rg x2
  have ost := hV.2 a0 h0.1 18
  rw [h0.2] at ost
  have ost : 0 ≤ (I0 a0 18).toInt ∧ (I0 a0 18).toInt ≤ 240 := ost
  have oS := hV.2 S hSk.1 27
  rw [hSk.2] at oS
  have oS : 0 ≤ (I0 S 27).toInt ∧ (I0 S 27).toInt ≤ 240 := oS
  have hV0 : SV frM P K O I0 J0 I0 J0 := SV.rf hV
  refine g_aload_n C dMo_mend_0 rfl ?_
  refine g_iconst (v := Int32.ofInt (0)) C dMo_mend_1 (by decide) ?_
  refine gt_puti C dMo_mend_2 fl_Mo_73 h0 hV0 rfl trivial rfl (Or.inl rfl) (fun Iw1 eIw1 hVw1 => ?_)
  have tkw1_a0_6 : (Iw1 a0 6).toInt = (I0 a0 6).toInt := by rw [eIw1, up2_ne _ _ (fun z => absurd z.2 (by decide))]
  have tkw1_a0_18 : (Iw1 a0 18).toInt = (I0 a0 18).toInt := by rw [eIw1, up2_ne _ _ (fun z => absurd z.2 (by decide))]
  have tkw1_S_27 : (Iw1 S 27).toInt = (I0 S 27).toInt := by rw [eIw1, up2_ne _ _ (fun z => by have q := hSk.2; rw [z.1, h0.2] at q; exact absurd q (by decide))]
  refine g_aload_n C dMo_mend_5 rfl ?_
  refine gt_getN C dMo_mend_6 fl_Mo_290 h0 hMn ?_
  refine g_ifnonnullN C dMo_mend_9 ?_
  refine g_aload_n C dMo_mend_12 rfl ?_
  refine g_iconst (v := Int32.ofInt (1)) C dMo_mend_13 (by decide) ?_
  refine s_callV_z (av := fun ad => [.int (Int32.ofInt (1))]) C dMo_mend_14 mfMo_denied mvMo_denied ln_Mo_326 h0 (by decide) rfl hVw1 (frL_le (by decide)) (cMo_denied hVw1.1 h0) rfl rfl (Nat.le_of_ble_eq_true rfl) ⟨Nat.le_of_ble_eq_true rfl, Nat.le_of_ble_eq_true rfl⟩ ⟨rfl, rfl⟩ ⟨Nat.zero_le _, Nat.zero_le _⟩ (fun Iw2 Jw2 hVw2 hFw2 z_14 b_14 p_14 => ?_)
  have tkw2_S_27 : (Iw2 S 27).toInt = (Iw1 S 27).toInt := by rw [(hFw2 S (by rw [hSk.2]; rfl)).1 27]
  have rz_14 := rg z_14
  have u_14 := b_14
  unfold B01 at u_14
  try dsimp only at p_14
  have hk1_14 : Int32.toInt (Int32.ofInt (1)) = 1 := ofI (by decide)
  exact s_zret C E dMo_mend_17 ⟨Nat.zero_le _, Nat.zero_le _⟩ hVw2 (by first | assumption | (unfold B01; omega)) (by (try dsimp only); omega)
set_option maxHeartbeats 4000000 in
set_option maxRecDepth 100000 in
theorem cMo_mend_G {P : List Nat} {K : Nat → Nat} {I0 : Nat → Nat → Int32} {O : Nat → Nat → Option Nat} {J0 : Nat → Nat → Int64} (hV : IV P K I0 O) {a0 : Nat} (h0 : a0 ∈ P ∧ K a0 = 10) {x1 : Int32} {x2 : Int32} {S : Nat} (hSo : O a0 16 = some S) (hSk : S ∈ P ∧ K S = 31) {M : Nat} (hMo : O a0 3 = some M) (hMk : M ∈ P ∧ K M = 9) (hGM : GM I0 M) : Con yMo_mend bMo_mend 3 (some .boolean) ({ frames := 1, cells := 0, slots := 0, locals := 22 } : Room) P K I0 O J0 [.ref a0, .int x1, .int x2] (SPo frM 2 (fun _ I_ => (I_ a0 6).toInt = (I0 a0 6).toInt ∧ (I_ a0 18).toInt = (I0 a0 18).toInt ∧ (I_ S 27).toInt = (I0 S 27).toInt) P K I0 O J0) := by
  refine Con.ofG mfMo_mend (Nat.le_of_ble_eq_true rfl) ?_
  intro X C E
  have r1 := rg x1
  have r2 := rg x2
  have ost := hV.2 a0 h0.1 18
  rw [h0.2] at ost
  have ost : 0 ≤ (I0 a0 18).toInt ∧ (I0 a0 18).toInt ≤ 240 := ost
  have oS := hV.2 S hSk.1 27
  rw [hSk.2] at oS
  have oS : 0 ≤ (I0 S 27).toInt ∧ (I0 S 27).toInt ≤ 240 := oS
  have hV0 : SV frM P K O I0 J0 I0 J0 := SV.rf hV
  refine g_aload_n C dMo_mend_0 rfl ?_
  refine g_iconst (v := Int32.ofInt (0)) C dMo_mend_1 (by decide) ?_
  refine gt_puti C dMo_mend_2 fl_Mo_73 h0 hV0 rfl trivial rfl (Or.inl rfl) (fun Iw1 eIw1 hVw1 => ?_)
  have tkw1_a0_6 : (Iw1 a0 6).toInt = (I0 a0 6).toInt := by rw [eIw1, up2_ne _ _ (fun z => absurd z.2 (by decide))]
  have tkw1_a0_18 : (Iw1 a0 18).toInt = (I0 a0 18).toInt := by rw [eIw1, up2_ne _ _ (fun z => absurd z.2 (by decide))]
  have tkw1_S_27 : (Iw1 S 27).toInt = (I0 S 27).toInt := by rw [eIw1, up2_ne _ _ (fun z => by have q := hSk.2; rw [z.1, h0.2] at q; exact absurd q (by decide))]
  refine g_aload_n C dMo_mend_5 rfl ?_
  refine gt_getS C dMo_mend_6 fl_Mo_290 h0 hMo ?_
  refine g_ifnonnull 18 C dMo_mend_9 (by decide) ?_
  refine g_iload_n C dMo_mend_18 rfl ?_
  refine g_iconst (v := Int32.ofInt (0)) C dMo_mend_19 (by decide) ?_
  refine g_iconst (v := Int32.ofInt (3)) C dMo_mend_20 (by decide) ?_
  refine s_callS_zp (av := fun ad => [.int x1, .int (Int32.ofInt (0)), .int (Int32.ofInt (3))]) C dMo_mend_21 mfMo_in msMo_in ln_Mo_149 (cMo_in hVw1.1 ) rfl rfl (Nat.le_of_ble_eq_true rfl) ⟨Nat.le_of_ble_eq_true rfl, Nat.le_of_ble_eq_true rfl⟩ ⟨rfl, rfl⟩ ⟨Nat.zero_le _, Nat.zero_le _⟩ (fun z_21 b_21 p_21 => ?_)
  have rz_21 := rg z_21
  have u_21 := b_21
  unfold B01 at u_21
  try dsimp only at p_21
  have hk1_21 : Int32.toInt (Int32.ofInt (0)) = 0 := ofI (by decide)
  have hk2_21 : Int32.toInt (Int32.ofInt (3)) = 3 := ofI (by decide)
  refine gt_if_ne 33 C dMo_mend_24 (by decide) rfl (fun c_24 => ?_) (fun c_24 => ?_)
  · skip
    refine g_aload_n C dMo_mend_33 rfl ?_
    refine gt_getS C dMo_mend_34 fl_Mo_17 h0 hSo ?_
    refine g_bipush (v := Int32.ofInt (25)) C dMo_mend_37 (by decide) ?_
    refine g_iload_n C dMo_mend_39 rfl ?_
    refine gt_iastc (c := 25) C dMo_mend_40 hSk (by decide) rfl (ofI (by decide)) (n := 37) rfl (by decide) (by decide) hVw1 rfl trivial (fun Iw3 eIw3 hVw3 => ?_)
    have tkw3_a0_6 : (Iw3 a0 6).toInt = (Iw1 a0 6).toInt := by rw [eIw3, up2_ne _ _ (fun z => by have q := h0.2; rw [z.1, hSk.2] at q; exact absurd q (by decide))]
    have tkw3_a0_18 : (Iw3 a0 18).toInt = (Iw1 a0 18).toInt := by rw [eIw3, up2_ne _ _ (fun z => by have q := h0.2; rw [z.1, hSk.2] at q; exact absurd q (by decide))]
    have tkw3_S_27 : (Iw3 S 27).toInt = (Iw1 S 27).toInt := by rw [eIw3, up2_ne _ _ (fun z => absurd z.2 (by decide))]
    refine g_iload_n C dMo_mend_41 rfl ?_
    have jn_53 : ∀   (Iw4 : Nat → Nat → Int32) (Jw4 : Nat → Nat → Int64), (Int32.toInt (Iw4 a0 6) = Int32.toInt (I0 a0 6)) → (Int32.toInt (Iw4 a0 18) = Int32.toInt (I0 a0 18)) → (Int32.toInt (Iw4 S 27) = Int32.toInt (I0 S 27)) → SV frM P K O I0 J0 Iw4 Jw4 → GG X 3 P K Iw4 O Jw4 0 0 53 [(0, .ref a0), (1, .int x1), (2, .int x2)] [] := by
      intro Iw4 Jw4 jv0_53 jv1_53 jv2_53 hVw4
      refine g_aload_n C dMo_mend_53 rfl ?_
      refine s_callV_z (av := fun ad => []) C dMo_mend_54 mfMo_granted mvMo_granted ln_Mo_329 h0 (by decide) rfl hVw4 (frL_le (by decide)) (cMo_granted hVw4.1 h0) rfl rfl (Nat.le_of_ble_eq_true rfl) ⟨Nat.le_of_ble_eq_true rfl, Nat.le_of_ble_eq_true rfl⟩ ⟨rfl, rfl⟩ ⟨Nat.zero_le _, Nat.zero_le _⟩ (fun Iw5 Jw5 hVw5 hFw5 z_54 b_54 p_54 => ?_)
      have tkw5_S_27 : (Iw5 S 27).toInt = (Iw4 S 27).toInt := by rw [(hFw5 S (by rw [hSk.2]; rfl)).1 27]
      have rz_54 := rg z_54
      have u_54 := b_54
      unfold B01 at u_54
      try dsimp only at p_54
      exact s_zret C E dMo_mend_57 ⟨Nat.zero_le _, Nat.zero_le _⟩ hVw5 (by first | assumption | (unfold B01; omega)) (by (try dsimp only); omega)
    refine gt_if_eq 53 C dMo_mend_42 (by decide) rfl (fun c_42 => ?_) (fun c_42 => ?_)
    · skip
      exact g_sub (jn_53  Iw3 J0 (by omega) (by omega) (by omega) hVw3) ⟨rfl, rfl, rfl, trivial⟩
    · skip
      refine g_aload_n C dMo_mend_45 rfl ?_
      refine gt_getS C dMo_mend_46 fl_Mo_17 h0 hSo ?_
      refine g_bipush (v := Int32.ofInt (24)) C dMo_mend_49 (by decide) ?_
      refine g_iconst (v := Int32.ofInt (0)) C dMo_mend_51 (by decide) ?_
      refine gt_iastc (c := 24) C dMo_mend_52 hSk (by decide) rfl (ofI (by decide)) (n := 37) rfl (by decide) (by decide) hVw3 rfl trivial (fun Iw6 eIw6 hVw6 => ?_)
      have tkw6_a0_6 : (Iw6 a0 6).toInt = (Iw3 a0 6).toInt := by rw [eIw6, up2_ne _ _ (fun z => by have q := h0.2; rw [z.1, hSk.2] at q; exact absurd q (by decide))]
      have tkw6_a0_18 : (Iw6 a0 18).toInt = (Iw3 a0 18).toInt := by rw [eIw6, up2_ne _ _ (fun z => by have q := h0.2; rw [z.1, hSk.2] at q; exact absurd q (by decide))]
      have tkw6_S_27 : (Iw6 S 27).toInt = (Iw3 S 27).toInt := by rw [eIw6, up2_ne _ _ (fun z => absurd z.2 (by decide))]
      exact g_sub (jn_53  Iw6 J0 (by omega) (by omega) (by omega) hVw6) ⟨rfl, rfl, rfl, trivial⟩
  · skip
    refine g_aload_n C dMo_mend_27 rfl ?_
    refine g_iconst (v := Int32.ofInt (2)) C dMo_mend_28 (by decide) ?_
    refine s_callV_z (av := fun ad => [.int (Int32.ofInt (2))]) C dMo_mend_29 mfMo_denied mvMo_denied ln_Mo_326 h0 (by decide) rfl hVw1 (frL_le (by decide)) (cMo_denied hVw1.1 h0) rfl rfl (Nat.le_of_ble_eq_true rfl) ⟨Nat.le_of_ble_eq_true rfl, Nat.le_of_ble_eq_true rfl⟩ ⟨rfl, rfl⟩ ⟨Nat.zero_le _, Nat.zero_le _⟩ (fun Iw7 Jw7 hVw7 hFw7 z_29 b_29 p_29 => ?_)
    have tkw7_S_27 : (Iw7 S 27).toInt = (Iw1 S 27).toInt := by rw [(hFw7 S (by rw [hSk.2]; rfl)).1 27]
    have rz_29 := rg z_29
    have u_29 := b_29
    unfold B01 at u_29
    try dsimp only at p_29
    have hk1_29 : Int32.toInt (Int32.ofInt (2)) = 2 := ofI (by decide)
    exact s_zret C E dMo_mend_32 ⟨Nat.zero_le _, Nat.zero_le _⟩ hVw7 (by first | assumption | (unfold B01; omega)) (by (try dsimp only); omega)
set_option maxHeartbeats 4000000 in
set_option maxRecDepth 100000 in
theorem cMo_tons_Z {P : List Nat} {K : Nat → Nat} {I0 : Nat → Nat → Int32} {O : Nat → Nat → Option Nat} {J0 : Nat → Nat → Int64} (hV : IV P K I0 O) {a0 : Nat} (h0 : a0 ∈ P ∧ K a0 = 10) {x1 : Int32} {x2 : Int32} {S : Nat} (hSo : O a0 16 = some S) (hSk : S ∈ P ∧ K S = 31) (hMn : O a0 3 = none) : Con yMo_tons bMo_tons 3 (some .int) ({ frames := 1, cells := 0, slots := 0, locals := 22 } : Room) P K I0 O J0 [.ref a0, .int x1, .int x2] (SPo frM 1 (fun _ I_ => (I_ a0 6).toInt = (I0 a0 6).toInt ∧ (I_ a0 18).toInt = (I0 a0 18).toInt ∧ (I_ S 27).toInt = (I0 S 27).toInt) P K I0 O J0) := by
  refine Con.ofG mfMo_tons (Nat.le_of_ble_eq_true rfl) ?_
  intro X C E
  have r1 := rg x1
  have r2 := rg x2
  have ost := hV.2 a0 h0.1 18
  rw [h0.2] at ost
  have ost : 0 ≤ (I0 a0 18).toInt ∧ (I0 a0 18).toInt ≤ 240 := ost
  have oS := hV.2 S hSk.1 27
  rw [hSk.2] at oS
  have oS : 0 ≤ (I0 S 27).toInt ∧ (I0 S 27).toInt ≤ 240 := oS
  have hV0 : SV frM P K O I0 J0 I0 J0 := SV.rf hV
  refine g_aload_n C dMo_tons_0 rfl ?_
  refine g_iconst (v := Int32.ofInt (0)) C dMo_tons_1 (by decide) ?_
  refine gt_puti C dMo_tons_2 fl_Mo_73 h0 hV0 rfl trivial rfl (Or.inl rfl) (fun Iw1 eIw1 hVw1 => ?_)
  have tkw1_a0_6 : (Iw1 a0 6).toInt = (I0 a0 6).toInt := by rw [eIw1, up2_ne _ _ (fun z => absurd z.2 (by decide))]
  have tkw1_a0_18 : (Iw1 a0 18).toInt = (I0 a0 18).toInt := by rw [eIw1, up2_ne _ _ (fun z => absurd z.2 (by decide))]
  have tkw1_S_27 : (Iw1 S 27).toInt = (I0 S 27).toInt := by rw [eIw1, up2_ne _ _ (fun z => by have q := hSk.2; rw [z.1, h0.2] at q; exact absurd q (by decide))]
  refine g_aload_n C dMo_tons_5 rfl ?_
  refine g_iload_n C dMo_tons_6 rfl ?_
  refine s_callV_zp (av := fun ad => [.int x1]) C dMo_tons_7 mfMo_isSize mvMo_isSize ln_Mo_335 h0 (by decide) rfl (cMo_isSize_Z hVw1.1 h0 hMn) rfl rfl (Nat.le_of_ble_eq_true rfl) ⟨Nat.le_of_ble_eq_true rfl, Nat.le_of_ble_eq_true rfl⟩ ⟨rfl, rfl⟩ ⟨Nat.zero_le _, Nat.zero_le _⟩ (fun z_7 b_7 p_7 => ?_)
  have rz_7 := rg z_7
  have u_7 := b_7
  unfold B01 at u_7
  try dsimp only at p_7
  refine gt_if_eq 22 C dMo_tons_10 (by decide) rfl (fun c_10 => ?_) (fun c_10 => ?_)
  · skip
    refine g_iconst (v := Int32.ofInt (-1)) C dMo_tons_22 (by decide) ?_
    exact s_iret C E dMo_tons_23 ⟨Nat.zero_le _, Nat.zero_le _⟩ hVw1 (by have hci : Int32.toInt (Int32.ofInt (-1)) = -1 := ofI (by decide); (try dsimp only); omega)
  · skip
    refine g_iload_n C dMo_tons_13 rfl ?_
    refine g_iconst (v := Int32.ofInt (0)) C dMo_tons_14 (by decide) ?_
    refine g_iconst (v := Int32.ofInt (3)) C dMo_tons_15 (by decide) ?_
    refine s_callS_zp (av := fun ad => [.int x2, .int (Int32.ofInt (0)), .int (Int32.ofInt (3))]) C dMo_tons_16 mfMo_in msMo_in ln_Mo_149 (cMo_in hVw1.1 ) rfl rfl (Nat.le_of_ble_eq_true rfl) ⟨Nat.le_of_ble_eq_true rfl, Nat.le_of_ble_eq_true rfl⟩ ⟨rfl, rfl⟩ ⟨Nat.zero_le _, Nat.zero_le _⟩ (fun z_16 b_16 p_16 => ?_)
    have rz_16 := rg z_16
    have u_16 := b_16
    unfold B01 at u_16
    try dsimp only at p_16
    have hk1_16 : Int32.toInt (Int32.ofInt (0)) = 0 := ofI (by decide)
    have hk2_16 : Int32.toInt (Int32.ofInt (3)) = 3 := ofI (by decide)
    refine gt_if_ne 24 C dMo_tons_19 (by decide) rfl (fun c_19 => ?_) (fun c_19 => ?_)
    · skip
      refine g_aload_n C dMo_tons_24 rfl ?_
      refine gt_getS C dMo_tons_25 fl_Mo_17 h0 hSo ?_
      refine g_iload_n C dMo_tons_28 rfl ?_
      refine gt_if_ne 36 C dMo_tons_29 (by decide) rfl (fun c_29 => ?_) (fun c_29 => ?_)
      · skip
        refine g_iload_n C dMo_tons_36 rfl ?_
        refine g_iconst (v := Int32.ofInt (1)) C dMo_tons_37 (by decide) ?_
        refine gt_icmp_ne 45 C dMo_tons_38 (by decide) rfl (ofI (by decide)) (fun c_38 => ?_) (fun c_38 => ?_)
        · skip
          refine g_iload_n C dMo_tons_45 rfl ?_
          refine g_iconst (v := Int32.ofInt (2)) C dMo_tons_46 (by decide) ?_
          refine gt_icmp_ne 55 C dMo_tons_47 (by decide) rfl (ofI (by decide)) (fun c_47 => ?_) (fun c_47 => ?_)
          · skip
            refine g_bipush (v := Int32.ofInt (15)) C dMo_tons_55 (by decide) ?_
            refine g_iload_n C dMo_tons_57 rfl ?_
            first | refine n_iadd C dMo_tons_58 (ofI (by decide)) rfl (by omega) (fun z_58 e_58 => ?_) | refine a_iadd C dMo_tons_58 (fun z_58 => ?_)
            refine gt_iald C dMo_tons_59 hSk (by decide) rfl rfl (n := 37) rfl (by omega) ?_
            exact s_iret C E dMo_tons_60 ⟨Nat.zero_le _, Nat.zero_le _⟩ hVw1 (by (try dsimp only); omega)
          · skip
            refine g_bipush (v := Int32.ofInt (10)) C dMo_tons_50 (by decide) ?_
            refine g_goto 57 C dMo_tons_52 (by decide) ?_
            refine g_iload_n C dMo_tons_57 rfl ?_
            first | refine n_iadd C dMo_tons_58 (ofI (by decide)) rfl (by omega) (fun z_58 e_58 => ?_) | refine a_iadd C dMo_tons_58 (fun z_58 => ?_)
            refine gt_iald C dMo_tons_59 hSk (by decide) rfl rfl (n := 37) rfl (by omega) ?_
            exact s_iret C E dMo_tons_60 ⟨Nat.zero_le _, Nat.zero_le _⟩ hVw1 (by (try dsimp only); omega)
        · skip
          refine g_iconst (v := Int32.ofInt (5)) C dMo_tons_41 (by decide) ?_
          refine g_goto 57 C dMo_tons_42 (by decide) ?_
          refine g_iload_n C dMo_tons_57 rfl ?_
          first | refine n_iadd C dMo_tons_58 (ofI (by decide)) rfl (by omega) (fun z_58 e_58 => ?_) | refine a_iadd C dMo_tons_58 (fun z_58 => ?_)
          refine gt_iald C dMo_tons_59 hSk (by decide) rfl rfl (n := 37) rfl (by omega) ?_
          exact s_iret C E dMo_tons_60 ⟨Nat.zero_le _, Nat.zero_le _⟩ hVw1 (by (try dsimp only); omega)
      · skip
        refine g_iconst (v := Int32.ofInt (0)) C dMo_tons_32 (by decide) ?_
        refine g_goto 57 C dMo_tons_33 (by decide) ?_
        refine g_iload_n C dMo_tons_57 rfl ?_
        first | refine n_iadd C dMo_tons_58 (ofI (by decide)) rfl (by omega) (fun z_58 e_58 => ?_) | refine a_iadd C dMo_tons_58 (fun z_58 => ?_)
        refine gt_iald C dMo_tons_59 hSk (by decide) rfl rfl (n := 37) rfl (by omega) ?_
        exact s_iret C E dMo_tons_60 ⟨Nat.zero_le _, Nat.zero_le _⟩ hVw1 (by (try dsimp only); omega)
    · skip
      refine g_iconst (v := Int32.ofInt (-1)) C dMo_tons_22 (by decide) ?_
      exact s_iret C E dMo_tons_23 ⟨Nat.zero_le _, Nat.zero_le _⟩ hVw1 (by have hci : Int32.toInt (Int32.ofInt (-1)) = -1 := ofI (by decide); (try dsimp only); omega)
set_option maxHeartbeats 4000000 in
set_option maxRecDepth 100000 in
theorem cMo_tons_G {P : List Nat} {K : Nat → Nat} {I0 : Nat → Nat → Int32} {O : Nat → Nat → Option Nat} {J0 : Nat → Nat → Int64} (hV : IV P K I0 O) {a0 : Nat} (h0 : a0 ∈ P ∧ K a0 = 10) {x1 : Int32} {x2 : Int32} {S : Nat} (hSo : O a0 16 = some S) (hSk : S ∈ P ∧ K S = 31) {M : Nat} (hMo : O a0 3 = some M) (hMk : M ∈ P ∧ K M = 9) (hGM : GM I0 M) : Con yMo_tons bMo_tons 3 (some .int) ({ frames := 1, cells := 0, slots := 0, locals := 22 } : Room) P K I0 O J0 [.ref a0, .int x1, .int x2] (SPo frM 1 (fun _ I_ => (I_ a0 6).toInt = (I0 a0 6).toInt ∧ (I_ a0 18).toInt = (I0 a0 18).toInt ∧ (I_ S 27).toInt = (I0 S 27).toInt) P K I0 O J0) := by
  refine Con.ofG mfMo_tons (Nat.le_of_ble_eq_true rfl) ?_
  intro X C E
  have r1 := rg x1
  have r2 := rg x2
  have ost := hV.2 a0 h0.1 18
  rw [h0.2] at ost
  have ost : 0 ≤ (I0 a0 18).toInt ∧ (I0 a0 18).toInt ≤ 240 := ost
  have oS := hV.2 S hSk.1 27
  rw [hSk.2] at oS
  have oS : 0 ≤ (I0 S 27).toInt ∧ (I0 S 27).toInt ≤ 240 := oS
  have hV0 : SV frM P K O I0 J0 I0 J0 := SV.rf hV
  refine g_aload_n C dMo_tons_0 rfl ?_
  refine g_iconst (v := Int32.ofInt (0)) C dMo_tons_1 (by decide) ?_
  refine gt_puti C dMo_tons_2 fl_Mo_73 h0 hV0 rfl trivial rfl (Or.inl rfl) (fun Iw1 eIw1 hVw1 => ?_)
  have tkw1_a0_6 : (Iw1 a0 6).toInt = (I0 a0 6).toInt := by rw [eIw1, up2_ne _ _ (fun z => absurd z.2 (by decide))]
  have tkw1_a0_18 : (Iw1 a0 18).toInt = (I0 a0 18).toInt := by rw [eIw1, up2_ne _ _ (fun z => absurd z.2 (by decide))]
  have tkw1_S_27 : (Iw1 S 27).toInt = (I0 S 27).toInt := by rw [eIw1, up2_ne _ _ (fun z => by have q := hSk.2; rw [z.1, h0.2] at q; exact absurd q (by decide))]
  refine g_aload_n C dMo_tons_5 rfl ?_
  refine g_iload_n C dMo_tons_6 rfl ?_
  refine s_callV_zp (av := fun ad => [.int x1]) C dMo_tons_7 mfMo_isSize mvMo_isSize ln_Mo_335 h0 (by decide) rfl (cMo_isSize_G hVw1.1 h0 hMo hMk (hGM.keep (hVw1.2 M (by rw [hMk.2]; rfl)).1)) rfl rfl (Nat.le_of_ble_eq_true rfl) ⟨Nat.le_of_ble_eq_true rfl, Nat.le_of_ble_eq_true rfl⟩ ⟨rfl, rfl⟩ ⟨Nat.zero_le _, Nat.zero_le _⟩ (fun z_7 b_7 p_7 => ?_)
  have rz_7 := rg z_7
  have u_7 := b_7
  unfold B01 at u_7
  try dsimp only at p_7
  refine gt_if_eq 22 C dMo_tons_10 (by decide) rfl (fun c_10 => ?_) (fun c_10 => ?_)
  · skip
    refine g_iconst (v := Int32.ofInt (-1)) C dMo_tons_22 (by decide) ?_
    exact s_iret C E dMo_tons_23 ⟨Nat.zero_le _, Nat.zero_le _⟩ hVw1 (by have hci : Int32.toInt (Int32.ofInt (-1)) = -1 := ofI (by decide); (try dsimp only); omega)
  · skip
    refine g_iload_n C dMo_tons_13 rfl ?_
    refine g_iconst (v := Int32.ofInt (0)) C dMo_tons_14 (by decide) ?_
    refine g_iconst (v := Int32.ofInt (3)) C dMo_tons_15 (by decide) ?_
    refine s_callS_zp (av := fun ad => [.int x2, .int (Int32.ofInt (0)), .int (Int32.ofInt (3))]) C dMo_tons_16 mfMo_in msMo_in ln_Mo_149 (cMo_in hVw1.1 ) rfl rfl (Nat.le_of_ble_eq_true rfl) ⟨Nat.le_of_ble_eq_true rfl, Nat.le_of_ble_eq_true rfl⟩ ⟨rfl, rfl⟩ ⟨Nat.zero_le _, Nat.zero_le _⟩ (fun z_16 b_16 p_16 => ?_)
    have rz_16 := rg z_16
    have u_16 := b_16
    unfold B01 at u_16
    try dsimp only at p_16
    have hk1_16 : Int32.toInt (Int32.ofInt (0)) = 0 := ofI (by decide)
    have hk2_16 : Int32.toInt (Int32.ofInt (3)) = 3 := ofI (by decide)
    refine gt_if_ne 24 C dMo_tons_19 (by decide) rfl (fun c_19 => ?_) (fun c_19 => ?_)
    · skip
      refine g_aload_n C dMo_tons_24 rfl ?_
      refine gt_getS C dMo_tons_25 fl_Mo_17 h0 hSo ?_
      refine g_iload_n C dMo_tons_28 rfl ?_
      refine gt_if_ne 36 C dMo_tons_29 (by decide) rfl (fun c_29 => ?_) (fun c_29 => ?_)
      · skip
        refine g_iload_n C dMo_tons_36 rfl ?_
        refine g_iconst (v := Int32.ofInt (1)) C dMo_tons_37 (by decide) ?_
        refine gt_icmp_ne 45 C dMo_tons_38 (by decide) rfl (ofI (by decide)) (fun c_38 => ?_) (fun c_38 => ?_)
        · skip
          refine g_iload_n C dMo_tons_45 rfl ?_
          refine g_iconst (v := Int32.ofInt (2)) C dMo_tons_46 (by decide) ?_
          refine gt_icmp_ne 55 C dMo_tons_47 (by decide) rfl (ofI (by decide)) (fun c_47 => ?_) (fun c_47 => ?_)
          · skip
            refine g_bipush (v := Int32.ofInt (15)) C dMo_tons_55 (by decide) ?_
            refine g_iload_n C dMo_tons_57 rfl ?_
            first | refine n_iadd C dMo_tons_58 (ofI (by decide)) rfl (by omega) (fun z_58 e_58 => ?_) | refine a_iadd C dMo_tons_58 (fun z_58 => ?_)
            refine gt_iald C dMo_tons_59 hSk (by decide) rfl rfl (n := 37) rfl (by omega) ?_
            exact s_iret C E dMo_tons_60 ⟨Nat.zero_le _, Nat.zero_le _⟩ hVw1 (by (try dsimp only); omega)
          · skip
            refine g_bipush (v := Int32.ofInt (10)) C dMo_tons_50 (by decide) ?_
            refine g_goto 57 C dMo_tons_52 (by decide) ?_
            refine g_iload_n C dMo_tons_57 rfl ?_
            first | refine n_iadd C dMo_tons_58 (ofI (by decide)) rfl (by omega) (fun z_58 e_58 => ?_) | refine a_iadd C dMo_tons_58 (fun z_58 => ?_)
            refine gt_iald C dMo_tons_59 hSk (by decide) rfl rfl (n := 37) rfl (by omega) ?_
            exact s_iret C E dMo_tons_60 ⟨Nat.zero_le _, Nat.zero_le _⟩ hVw1 (by (try dsimp only); omega)
        · skip
          refine g_iconst (v := Int32.ofInt (5)) C dMo_tons_41 (by decide) ?_
          refine g_goto 57 C dMo_tons_42 (by decide) ?_
          refine g_iload_n C dMo_tons_57 rfl ?_
          first | refine n_iadd C dMo_tons_58 (ofI (by decide)) rfl (by omega) (fun z_58 e_58 => ?_) | refine a_iadd C dMo_tons_58 (fun z_58 => ?_)
          refine gt_iald C dMo_tons_59 hSk (by decide) rfl rfl (n := 37) rfl (by omega) ?_
          exact s_iret C E dMo_tons_60 ⟨Nat.zero_le _, Nat.zero_le _⟩ hVw1 (by (try dsimp only); omega)
      · skip
        refine g_iconst (v := Int32.ofInt (0)) C dMo_tons_32 (by decide) ?_
        refine g_goto 57 C dMo_tons_33 (by decide) ?_
        refine g_iload_n C dMo_tons_57 rfl ?_
        first | refine n_iadd C dMo_tons_58 (ofI (by decide)) rfl (by omega) (fun z_58 e_58 => ?_) | refine a_iadd C dMo_tons_58 (fun z_58 => ?_)
        refine gt_iald C dMo_tons_59 hSk (by decide) rfl rfl (n := 37) rfl (by omega) ?_
        exact s_iret C E dMo_tons_60 ⟨Nat.zero_le _, Nat.zero_le _⟩ hVw1 (by (try dsimp only); omega)
    · skip
      refine g_iconst (v := Int32.ofInt (-1)) C dMo_tons_22 (by decide) ?_
      exact s_iret C E dMo_tons_23 ⟨Nat.zero_le _, Nat.zero_le _⟩ hVw1 (by have hci : Int32.toInt (Int32.ofInt (-1)) = -1 := ofI (by decide); (try dsimp only); omega)
set_option maxHeartbeats 4000000 in
set_option maxRecDepth 100000 in
theorem cMo_program_Z {P : List Nat} {K : Nat → Nat} {I0 : Nat → Nat → Int32} {O : Nat → Nat → Option Nat} {J0 : Nat → Nat → Int64} (hV : IV P K I0 O) {a0 : Nat} (h0 : a0 ∈ P ∧ K a0 = 10) {x1 : Int32} {x2 : Int32} {x3 : Int32} {x4 : Int32} {S : Nat} (hSo : O a0 16 = some S) (hSk : S ∈ P ∧ K S = 31) (hMn : O a0 3 = none) : Con yMo_program bMo_program 5 (some .boolean) ({ frames := 1, cells := 0, slots := 0, locals := 22 } : Room) P K I0 O J0 [.ref a0, .int x1, .int x2, .int x3, .int x4] (SPo frM 2 (fun _ I_ => (I_ a0 6).toInt = (I0 a0 6).toInt ∧ (I_ a0 18).toInt = (I0 a0 18).toInt ∧ (I_ S 27).toInt = (I0 S 27).toInt) P K I0 O J0) := by
  refine Con.ofG mfMo_program (Nat.le_of_ble_eq_true rfl) ?_
  intro X C E
  have r1 := rg x1
  have r2 := rg x2
  have r3 := rg x3
  have r4 := rg x4
  have ost := hV.2 a0 h0.1 18
  rw [h0.2] at ost
  have ost : 0 ≤ (I0 a0 18).toInt ∧ (I0 a0 18).toInt ≤ 240 := ost
  have oS := hV.2 S hSk.1 27
  rw [hSk.2] at oS
  have oS : 0 ≤ (I0 S 27).toInt ∧ (I0 S 27).toInt ≤ 240 := oS
  have hV0 : SV frM P K O I0 J0 I0 J0 := SV.rf hV
  refine g_aload_n C dMo_program_0 rfl ?_
  refine g_iconst (v := Int32.ofInt (0)) C dMo_program_1 (by decide) ?_
  refine gt_puti C dMo_program_2 fl_Mo_73 h0 hV0 rfl trivial rfl (Or.inl rfl) (fun Iw1 eIw1 hVw1 => ?_)
  have tkw1_a0_6 : (Iw1 a0 6).toInt = (I0 a0 6).toInt := by rw [eIw1, up2_ne _ _ (fun z => absurd z.2 (by decide))]
  have tkw1_a0_18 : (Iw1 a0 18).toInt = (I0 a0 18).toInt := by rw [eIw1, up2_ne _ _ (fun z => absurd z.2 (by decide))]
  have tkw1_S_27 : (Iw1 S 27).toInt = (I0 S 27).toInt := by rw [eIw1, up2_ne _ _ (fun z => by have q := hSk.2; rw [z.1, h0.2] at q; exact absurd q (by decide))]
  refine g_iload_n C dMo_program_5 rfl ?_
  refine g_iconst (v := Int32.ofInt (0)) C dMo_program_6 (by decide) ?_
  refine g_bipush (v := Int32.ofInt (11)) C dMo_program_7 (by decide) ?_
  refine s_callS_zp (av := fun ad => [.int x1, .int (Int32.ofInt (0)), .int (Int32.ofInt (11))]) C dMo_program_9 mfMo_in msMo_in ln_Mo_149 (cMo_in hVw1.1 ) rfl rfl (Nat.le_of_ble_eq_true rfl) ⟨Nat.le_of_ble_eq_true rfl, Nat.le_of_ble_eq_true rfl⟩ ⟨rfl, rfl⟩ ⟨Nat.zero_le _, Nat.zero_le _⟩ (fun z_9 b_9 p_9 => ?_)
  have rz_9 := rg z_9
  have u_9 := b_9
  unfold B01 at u_9
  try dsimp only at p_9
  have hk1_9 : Int32.toInt (Int32.ofInt (0)) = 0 := ofI (by decide)
  have hk2_9 : Int32.toInt (Int32.ofInt (11)) = 11 := ofI (by decide)
  have jn_24 : ∀   (Iw3 : Nat → Nat → Int32) (Jw3 : Nat → Nat → Int64), (Int32.toInt (Iw3 a0 6) = Int32.toInt (I0 a0 6)) → (Int32.toInt (Iw3 a0 18) = Int32.toInt (I0 a0 18)) → (Int32.toInt (Iw3 S 27) = Int32.toInt (I0 S 27)) → SV frM P K O I0 J0 Iw3 Jw3 → GG X 5 P K Iw3 O Jw3 0 0 24 [(0, .ref a0), (1, .int x1), (2, .int x2), (3, .int x3), (4, .int x4)] [] := by
    intro Iw3 Jw3 jv0_24 jv1_24 jv2_24 hVw3
    refine g_aload_n C dMo_program_24 rfl ?_
    refine g_iconst (v := Int32.ofInt (1)) C dMo_program_25 (by decide) ?_
    refine s_callV_z (av := fun ad => [.int (Int32.ofInt (1))]) C dMo_program_26 mfMo_denied mvMo_denied ln_Mo_326 h0 (by decide) rfl hVw3 (frL_le (by decide)) (cMo_denied hVw3.1 h0) rfl rfl (Nat.le_of_ble_eq_true rfl) ⟨Nat.le_of_ble_eq_true rfl, Nat.le_of_ble_eq_true rfl⟩ ⟨rfl, rfl⟩ ⟨Nat.zero_le _, Nat.zero_le _⟩ (fun Iw4 Jw4 hVw4 hFw4 z_26 b_26 p_26 => ?_)
    have tkw4_S_27 : (Iw4 S 27).toInt = (Iw3 S 27).toInt := by rw [(hFw4 S (by rw [hSk.2]; rfl)).1 27]
    have rz_26 := rg z_26
    have u_26 := b_26
    unfold B01 at u_26
    try dsimp only at p_26
    have hk1_26 : Int32.toInt (Int32.ofInt (1)) = 1 := ofI (by decide)
    exact s_zret C E dMo_program_29 ⟨Nat.zero_le _, Nat.zero_le _⟩ hVw4 (by first | assumption | (unfold B01; omega)) (by (try dsimp only); omega)
  refine gt_if_eq 24 C dMo_program_12 (by decide) rfl (fun c_12 => ?_) (fun c_12 => ?_)
  · skip
    exact g_sub (jn_24  Iw1 J0 (by omega) (by omega) (by omega) hVw1) ⟨rfl, rfl, rfl, rfl, rfl, trivial⟩
  · skip
    refine g_aload_n C dMo_program_15 rfl ?_
    refine g_iload C dMo_program_16 rfl ?_
    refine s_callV_zp (av := fun ad => [.int x4]) C dMo_program_18 mfMo_isOre mvMo_isOre ln_Mo_323 h0 (by decide) rfl (cMo_isOre_Z hVw1.1 h0 hMn) rfl rfl (Nat.le_of_ble_eq_true rfl) ⟨Nat.le_of_ble_eq_true rfl, Nat.le_of_ble_eq_true rfl⟩ ⟨rfl, rfl⟩ ⟨Nat.zero_le _, Nat.zero_le _⟩ (fun z_18 b_18 p_18 => ?_)
    have rz_18 := rg z_18
    have u_18 := b_18
    unfold B01 at u_18
    try dsimp only at p_18
    refine gt_if_ne 30 C dMo_program_21 (by decide) rfl (fun c_21 => ?_) (fun c_21 => ?_)
    · skip
      refine g_iload_n C dMo_program_30 rfl ?_
      refine g_iconst (v := Int32.ofInt (0)) C dMo_program_31 (by decide) ?_
      refine g_iconst (v := Int32.ofInt (3)) C dMo_program_32 (by decide) ?_
      refine s_callS_zp (av := fun ad => [.int x2, .int (Int32.ofInt (0)), .int (Int32.ofInt (3))]) C dMo_program_33 mfMo_in msMo_in ln_Mo_149 (cMo_in hVw1.1 ) rfl rfl (Nat.le_of_ble_eq_true rfl) ⟨Nat.le_of_ble_eq_true rfl, Nat.le_of_ble_eq_true rfl⟩ ⟨rfl, rfl⟩ ⟨Nat.zero_le _, Nat.zero_le _⟩ (fun z_33 b_33 p_33 => ?_)
      have rz_33 := rg z_33
      have u_33 := b_33
      unfold B01 at u_33
      try dsimp only at p_33
      have hk1_33 : Int32.toInt (Int32.ofInt (0)) = 0 := ofI (by decide)
      have hk2_33 : Int32.toInt (Int32.ofInt (3)) = 3 := ofI (by decide)
      have jn_48 : ∀   (Iw7 : Nat → Nat → Int32) (Jw7 : Nat → Nat → Int64), (Int32.toInt (Iw7 a0 6) = Int32.toInt (I0 a0 6)) → (Int32.toInt (Iw7 a0 18) = Int32.toInt (I0 a0 18)) → (Int32.toInt (Iw7 S 27) = Int32.toInt (I0 S 27)) → SV frM P K O I0 J0 Iw7 Jw7 → GG X 5 P K Iw7 O Jw7 0 0 48 [(0, .ref a0), (1, .int x1), (2, .int x2), (3, .int x3), (4, .int x4)] [] := by
        intro Iw7 Jw7 jv0_48 jv1_48 jv2_48 hVw7
        refine g_aload_n C dMo_program_48 rfl ?_
        refine g_iconst (v := Int32.ofInt (2)) C dMo_program_49 (by decide) ?_
        refine s_callV_z (av := fun ad => [.int (Int32.ofInt (2))]) C dMo_program_50 mfMo_denied mvMo_denied ln_Mo_326 h0 (by decide) rfl hVw7 (frL_le (by decide)) (cMo_denied hVw7.1 h0) rfl rfl (Nat.le_of_ble_eq_true rfl) ⟨Nat.le_of_ble_eq_true rfl, Nat.le_of_ble_eq_true rfl⟩ ⟨rfl, rfl⟩ ⟨Nat.zero_le _, Nat.zero_le _⟩ (fun Iw8 Jw8 hVw8 hFw8 z_50 b_50 p_50 => ?_)
        have tkw8_S_27 : (Iw8 S 27).toInt = (Iw7 S 27).toInt := by rw [(hFw8 S (by rw [hSk.2]; rfl)).1 27]
        have rz_50 := rg z_50
        have u_50 := b_50
        unfold B01 at u_50
        try dsimp only at p_50
        have hk1_50 : Int32.toInt (Int32.ofInt (2)) = 2 := ofI (by decide)
        exact s_zret C E dMo_program_53 ⟨Nat.zero_le _, Nat.zero_le _⟩ hVw8 (by first | assumption | (unfold B01; omega)) (by (try dsimp only); omega)
      refine gt_if_eq 48 C dMo_program_36 (by decide) rfl (fun c_36 => ?_) (fun c_36 => ?_)
      · skip
        exact g_sub (jn_48  Iw1 J0 (by omega) (by omega) (by omega) hVw1) ⟨rfl, rfl, rfl, rfl, rfl, trivial⟩
      · skip
        refine g_iload_n C dMo_program_39 rfl ?_
        refine g_iconst (v := Int32.ofInt (0)) C dMo_program_40 (by decide) ?_
        refine g_iconst (v := Int32.ofInt (3)) C dMo_program_41 (by decide) ?_
        refine s_callS_zp (av := fun ad => [.int x3, .int (Int32.ofInt (0)), .int (Int32.ofInt (3))]) C dMo_program_42 mfMo_in msMo_in ln_Mo_149 (cMo_in hVw1.1 ) rfl rfl (Nat.le_of_ble_eq_true rfl) ⟨Nat.le_of_ble_eq_true rfl, Nat.le_of_ble_eq_true rfl⟩ ⟨rfl, rfl⟩ ⟨Nat.zero_le _, Nat.zero_le _⟩ (fun z_42 b_42 p_42 => ?_)
        have rz_42 := rg z_42
        have u_42 := b_42
        unfold B01 at u_42
        try dsimp only at p_42
        have hk1_42 : Int32.toInt (Int32.ofInt (0)) = 0 := ofI (by decide)
        have hk2_42 : Int32.toInt (Int32.ofInt (3)) = 3 := ofI (by decide)
        refine gt_if_ne 54 C dMo_program_45 (by decide) rfl (fun c_45 => ?_) (fun c_45 => ?_)
        · skip
          refine g_aload_n C dMo_program_54 rfl ?_
          refine gt_getr C dMo_program_55 fl_Mo_27 h0 hVw1.1.1 rfl (fun b_55 q_55 hb_55 => ?_)
          refine g_iload_n C dMo_program_58 rfl ?_
          refine g_iload_n C dMo_program_59 rfl ?_
          refine gt_iast C dMo_program_60 hb_55 (by decide) rfl rfl (n := 12) rfl (by omega) hVw1 rfl trivial (fun Iw10 eIw10 hVw10 => ?_)
          have tkw10_a0_6 : (Iw10 a0 6).toInt = (Iw1 a0 6).toInt := by rw [eIw10, up2_ne _ _ (fun z => by have q := h0.2; rw [z.1, hb_55.2] at q; exact absurd q (by decide))]
          have tkw10_a0_18 : (Iw10 a0 18).toInt = (Iw1 a0 18).toInt := by rw [eIw10, up2_ne _ _ (fun z => by have q := h0.2; rw [z.1, hb_55.2] at q; exact absurd q (by decide))]
          have tkw10_S_27 : (Iw10 S 27).toInt = (Iw1 S 27).toInt := by rw [eIw10, up2_ne _ _ (fun z => by have q := hSk.2; rw [z.1, hb_55.2] at q; exact absurd q (by decide))]
          refine g_aload_n C dMo_program_61 rfl ?_
          refine gt_getr C dMo_program_62 fl_Mo_30 h0 hVw10.1.1 rfl (fun b_62 q_62 hb_62 => ?_)
          refine g_iload_n C dMo_program_65 rfl ?_
          refine g_iload_n C dMo_program_66 rfl ?_
          refine gt_iast C dMo_program_67 hb_62 (by decide) rfl rfl (n := 12) rfl (by omega) hVw10 rfl trivial (fun Iw11 eIw11 hVw11 => ?_)
          have tkw11_a0_6 : (Iw11 a0 6).toInt = (Iw10 a0 6).toInt := by rw [eIw11, up2_ne _ _ (fun z => by have q := h0.2; rw [z.1, hb_62.2] at q; exact absurd q (by decide))]
          have tkw11_a0_18 : (Iw11 a0 18).toInt = (Iw10 a0 18).toInt := by rw [eIw11, up2_ne _ _ (fun z => by have q := h0.2; rw [z.1, hb_62.2] at q; exact absurd q (by decide))]
          have tkw11_S_27 : (Iw11 S 27).toInt = (Iw10 S 27).toInt := by rw [eIw11, up2_ne _ _ (fun z => by have q := hSk.2; rw [z.1, hb_62.2] at q; exact absurd q (by decide))]
          refine g_aload_n C dMo_program_68 rfl ?_
          refine gt_getr C dMo_program_69 fl_Mo_33 h0 hVw11.1.1 rfl (fun b_69 q_69 hb_69 => ?_)
          refine g_iload_n C dMo_program_72 rfl ?_
          refine g_iload C dMo_program_73 rfl ?_
          refine gt_iast C dMo_program_75 hb_69 (by decide) rfl rfl (n := 12) rfl (by omega) hVw11 rfl (by show 0 ≤ Int32.toInt _ ∧ Int32.toInt _ ≤ 3; omega) (fun Iw12 eIw12 hVw12 => ?_)
          have tkw12_a0_6 : (Iw12 a0 6).toInt = (Iw11 a0 6).toInt := by rw [eIw12, up2_ne _ _ (fun z => by have q := h0.2; rw [z.1, hb_69.2] at q; exact absurd q (by decide))]
          have tkw12_a0_18 : (Iw12 a0 18).toInt = (Iw11 a0 18).toInt := by rw [eIw12, up2_ne _ _ (fun z => by have q := h0.2; rw [z.1, hb_69.2] at q; exact absurd q (by decide))]
          have tkw12_S_27 : (Iw12 S 27).toInt = (Iw11 S 27).toInt := by rw [eIw12, up2_ne _ _ (fun z => by have q := hSk.2; rw [z.1, hb_69.2] at q; exact absurd q (by decide))]
          refine g_aload_n C dMo_program_76 rfl ?_
          refine s_callV_z (av := fun ad => []) C dMo_program_77 mfMo_granted mvMo_granted ln_Mo_329 h0 (by decide) rfl hVw12 (frL_le (by decide)) (cMo_granted hVw12.1 h0) rfl rfl (Nat.le_of_ble_eq_true rfl) ⟨Nat.le_of_ble_eq_true rfl, Nat.le_of_ble_eq_true rfl⟩ ⟨rfl, rfl⟩ ⟨Nat.zero_le _, Nat.zero_le _⟩ (fun Iw13 Jw13 hVw13 hFw13 z_77 b_77 p_77 => ?_)
          have tkw13_S_27 : (Iw13 S 27).toInt = (Iw12 S 27).toInt := by rw [(hFw13 S (by rw [hSk.2]; rfl)).1 27]
          have rz_77 := rg z_77
          have u_77 := b_77
          unfold B01 at u_77
          try dsimp only at p_77
          exact s_zret C E dMo_program_80 ⟨Nat.zero_le _, Nat.zero_le _⟩ hVw13 (by first | assumption | (unfold B01; omega)) (by (try dsimp only); omega)
        · skip
          exact g_sub (jn_48  Iw1 J0 (by omega) (by omega) (by omega) hVw1) ⟨rfl, rfl, rfl, rfl, rfl, trivial⟩
    · skip
      exact g_sub (jn_24  Iw1 J0 (by omega) (by omega) (by omega) hVw1) ⟨rfl, rfl, rfl, rfl, rfl, trivial⟩
set_option maxHeartbeats 4000000 in
set_option maxRecDepth 100000 in
theorem cMo_program_G {P : List Nat} {K : Nat → Nat} {I0 : Nat → Nat → Int32} {O : Nat → Nat → Option Nat} {J0 : Nat → Nat → Int64} (hV : IV P K I0 O) {a0 : Nat} (h0 : a0 ∈ P ∧ K a0 = 10) {x1 : Int32} {x2 : Int32} {x3 : Int32} {x4 : Int32} {S : Nat} (hSo : O a0 16 = some S) (hSk : S ∈ P ∧ K S = 31) {M : Nat} (hMo : O a0 3 = some M) (hMk : M ∈ P ∧ K M = 9) (hGM : GM I0 M) : Con yMo_program bMo_program 5 (some .boolean) ({ frames := 1, cells := 0, slots := 0, locals := 22 } : Room) P K I0 O J0 [.ref a0, .int x1, .int x2, .int x3, .int x4] (SPo frM 2 (fun _ I_ => (I_ a0 6).toInt = (I0 a0 6).toInt ∧ (I_ a0 18).toInt = (I0 a0 18).toInt ∧ (I_ S 27).toInt = (I0 S 27).toInt) P K I0 O J0) := by
  refine Con.ofG mfMo_program (Nat.le_of_ble_eq_true rfl) ?_
  intro X C E
  have r1 := rg x1
  have r2 := rg x2
  have r3 := rg x3
  have r4 := rg x4
  have ost := hV.2 a0 h0.1 18
  rw [h0.2] at ost
  have ost : 0 ≤ (I0 a0 18).toInt ∧ (I0 a0 18).toInt ≤ 240 := ost
  have oS := hV.2 S hSk.1 27
  rw [hSk.2] at oS
  have oS : 0 ≤ (I0 S 27).toInt ∧ (I0 S 27).toInt ≤ 240 := oS
  have hV0 : SV frM P K O I0 J0 I0 J0 := SV.rf hV
  refine g_aload_n C dMo_program_0 rfl ?_
  refine g_iconst (v := Int32.ofInt (0)) C dMo_program_1 (by decide) ?_
  refine gt_puti C dMo_program_2 fl_Mo_73 h0 hV0 rfl trivial rfl (Or.inl rfl) (fun Iw1 eIw1 hVw1 => ?_)
  have tkw1_a0_6 : (Iw1 a0 6).toInt = (I0 a0 6).toInt := by rw [eIw1, up2_ne _ _ (fun z => absurd z.2 (by decide))]
  have tkw1_a0_18 : (Iw1 a0 18).toInt = (I0 a0 18).toInt := by rw [eIw1, up2_ne _ _ (fun z => absurd z.2 (by decide))]
  have tkw1_S_27 : (Iw1 S 27).toInt = (I0 S 27).toInt := by rw [eIw1, up2_ne _ _ (fun z => by have q := hSk.2; rw [z.1, h0.2] at q; exact absurd q (by decide))]
  refine g_iload_n C dMo_program_5 rfl ?_
  refine g_iconst (v := Int32.ofInt (0)) C dMo_program_6 (by decide) ?_
  refine g_bipush (v := Int32.ofInt (11)) C dMo_program_7 (by decide) ?_
  refine s_callS_zp (av := fun ad => [.int x1, .int (Int32.ofInt (0)), .int (Int32.ofInt (11))]) C dMo_program_9 mfMo_in msMo_in ln_Mo_149 (cMo_in hVw1.1 ) rfl rfl (Nat.le_of_ble_eq_true rfl) ⟨Nat.le_of_ble_eq_true rfl, Nat.le_of_ble_eq_true rfl⟩ ⟨rfl, rfl⟩ ⟨Nat.zero_le _, Nat.zero_le _⟩ (fun z_9 b_9 p_9 => ?_)
  have rz_9 := rg z_9
  have u_9 := b_9
  unfold B01 at u_9
  try dsimp only at p_9
  have hk1_9 : Int32.toInt (Int32.ofInt (0)) = 0 := ofI (by decide)
  have hk2_9 : Int32.toInt (Int32.ofInt (11)) = 11 := ofI (by decide)
  have jn_24 : ∀   (Iw3 : Nat → Nat → Int32) (Jw3 : Nat → Nat → Int64), (Int32.toInt (Iw3 a0 6) = Int32.toInt (I0 a0 6)) → (Int32.toInt (Iw3 a0 18) = Int32.toInt (I0 a0 18)) → (Int32.toInt (Iw3 S 27) = Int32.toInt (I0 S 27)) → SV frM P K O I0 J0 Iw3 Jw3 → GG X 5 P K Iw3 O Jw3 0 0 24 [(0, .ref a0), (1, .int x1), (2, .int x2), (3, .int x3), (4, .int x4)] [] := by
    intro Iw3 Jw3 jv0_24 jv1_24 jv2_24 hVw3
    refine g_aload_n C dMo_program_24 rfl ?_
    refine g_iconst (v := Int32.ofInt (1)) C dMo_program_25 (by decide) ?_
    refine s_callV_z (av := fun ad => [.int (Int32.ofInt (1))]) C dMo_program_26 mfMo_denied mvMo_denied ln_Mo_326 h0 (by decide) rfl hVw3 (frL_le (by decide)) (cMo_denied hVw3.1 h0) rfl rfl (Nat.le_of_ble_eq_true rfl) ⟨Nat.le_of_ble_eq_true rfl, Nat.le_of_ble_eq_true rfl⟩ ⟨rfl, rfl⟩ ⟨Nat.zero_le _, Nat.zero_le _⟩ (fun Iw4 Jw4 hVw4 hFw4 z_26 b_26 p_26 => ?_)
    have tkw4_S_27 : (Iw4 S 27).toInt = (Iw3 S 27).toInt := by rw [(hFw4 S (by rw [hSk.2]; rfl)).1 27]
    have rz_26 := rg z_26
    have u_26 := b_26
    unfold B01 at u_26
    try dsimp only at p_26
    have hk1_26 : Int32.toInt (Int32.ofInt (1)) = 1 := ofI (by decide)
    exact s_zret C E dMo_program_29 ⟨Nat.zero_le _, Nat.zero_le _⟩ hVw4 (by first | assumption | (unfold B01; omega)) (by (try dsimp only); omega)
  refine gt_if_eq 24 C dMo_program_12 (by decide) rfl (fun c_12 => ?_) (fun c_12 => ?_)
  · skip
    exact g_sub (jn_24  Iw1 J0 (by omega) (by omega) (by omega) hVw1) ⟨rfl, rfl, rfl, rfl, rfl, trivial⟩
  · skip
    refine g_aload_n C dMo_program_15 rfl ?_
    refine g_iload C dMo_program_16 rfl ?_
    refine s_callV_zp (av := fun ad => [.int x4]) C dMo_program_18 mfMo_isOre mvMo_isOre ln_Mo_323 h0 (by decide) rfl (cMo_isOre_G hVw1.1 h0 hMo hMk (hGM.keep (hVw1.2 M (by rw [hMk.2]; rfl)).1)) rfl rfl (Nat.le_of_ble_eq_true rfl) ⟨Nat.le_of_ble_eq_true rfl, Nat.le_of_ble_eq_true rfl⟩ ⟨rfl, rfl⟩ ⟨Nat.zero_le _, Nat.zero_le _⟩ (fun z_18 b_18 p_18 => ?_)
    have rz_18 := rg z_18
    have u_18 := b_18
    unfold B01 at u_18
    try dsimp only at p_18
    refine gt_if_ne 30 C dMo_program_21 (by decide) rfl (fun c_21 => ?_) (fun c_21 => ?_)
    · skip
      refine g_iload_n C dMo_program_30 rfl ?_
      refine g_iconst (v := Int32.ofInt (0)) C dMo_program_31 (by decide) ?_
      refine g_iconst (v := Int32.ofInt (3)) C dMo_program_32 (by decide) ?_
      refine s_callS_zp (av := fun ad => [.int x2, .int (Int32.ofInt (0)), .int (Int32.ofInt (3))]) C dMo_program_33 mfMo_in msMo_in ln_Mo_149 (cMo_in hVw1.1 ) rfl rfl (Nat.le_of_ble_eq_true rfl) ⟨Nat.le_of_ble_eq_true rfl, Nat.le_of_ble_eq_true rfl⟩ ⟨rfl, rfl⟩ ⟨Nat.zero_le _, Nat.zero_le _⟩ (fun z_33 b_33 p_33 => ?_)
      have rz_33 := rg z_33
      have u_33 := b_33
      unfold B01 at u_33
      try dsimp only at p_33
      have hk1_33 : Int32.toInt (Int32.ofInt (0)) = 0 := ofI (by decide)
      have hk2_33 : Int32.toInt (Int32.ofInt (3)) = 3 := ofI (by decide)
      have jn_48 : ∀   (Iw7 : Nat → Nat → Int32) (Jw7 : Nat → Nat → Int64), (Int32.toInt (Iw7 a0 6) = Int32.toInt (I0 a0 6)) → (Int32.toInt (Iw7 a0 18) = Int32.toInt (I0 a0 18)) → (Int32.toInt (Iw7 S 27) = Int32.toInt (I0 S 27)) → SV frM P K O I0 J0 Iw7 Jw7 → GG X 5 P K Iw7 O Jw7 0 0 48 [(0, .ref a0), (1, .int x1), (2, .int x2), (3, .int x3), (4, .int x4)] [] := by
        intro Iw7 Jw7 jv0_48 jv1_48 jv2_48 hVw7
        refine g_aload_n C dMo_program_48 rfl ?_
        refine g_iconst (v := Int32.ofInt (2)) C dMo_program_49 (by decide) ?_
        refine s_callV_z (av := fun ad => [.int (Int32.ofInt (2))]) C dMo_program_50 mfMo_denied mvMo_denied ln_Mo_326 h0 (by decide) rfl hVw7 (frL_le (by decide)) (cMo_denied hVw7.1 h0) rfl rfl (Nat.le_of_ble_eq_true rfl) ⟨Nat.le_of_ble_eq_true rfl, Nat.le_of_ble_eq_true rfl⟩ ⟨rfl, rfl⟩ ⟨Nat.zero_le _, Nat.zero_le _⟩ (fun Iw8 Jw8 hVw8 hFw8 z_50 b_50 p_50 => ?_)
        have tkw8_S_27 : (Iw8 S 27).toInt = (Iw7 S 27).toInt := by rw [(hFw8 S (by rw [hSk.2]; rfl)).1 27]
        have rz_50 := rg z_50
        have u_50 := b_50
        unfold B01 at u_50
        try dsimp only at p_50
        have hk1_50 : Int32.toInt (Int32.ofInt (2)) = 2 := ofI (by decide)
        exact s_zret C E dMo_program_53 ⟨Nat.zero_le _, Nat.zero_le _⟩ hVw8 (by first | assumption | (unfold B01; omega)) (by (try dsimp only); omega)
      refine gt_if_eq 48 C dMo_program_36 (by decide) rfl (fun c_36 => ?_) (fun c_36 => ?_)
      · skip
        exact g_sub (jn_48  Iw1 J0 (by omega) (by omega) (by omega) hVw1) ⟨rfl, rfl, rfl, rfl, rfl, trivial⟩
      · skip
        refine g_iload_n C dMo_program_39 rfl ?_
        refine g_iconst (v := Int32.ofInt (0)) C dMo_program_40 (by decide) ?_
        refine g_iconst (v := Int32.ofInt (3)) C dMo_program_41 (by decide) ?_
        refine s_callS_zp (av := fun ad => [.int x3, .int (Int32.ofInt (0)), .int (Int32.ofInt (3))]) C dMo_program_42 mfMo_in msMo_in ln_Mo_149 (cMo_in hVw1.1 ) rfl rfl (Nat.le_of_ble_eq_true rfl) ⟨Nat.le_of_ble_eq_true rfl, Nat.le_of_ble_eq_true rfl⟩ ⟨rfl, rfl⟩ ⟨Nat.zero_le _, Nat.zero_le _⟩ (fun z_42 b_42 p_42 => ?_)
        have rz_42 := rg z_42
        have u_42 := b_42
        unfold B01 at u_42
        try dsimp only at p_42
        have hk1_42 : Int32.toInt (Int32.ofInt (0)) = 0 := ofI (by decide)
        have hk2_42 : Int32.toInt (Int32.ofInt (3)) = 3 := ofI (by decide)
        refine gt_if_ne 54 C dMo_program_45 (by decide) rfl (fun c_45 => ?_) (fun c_45 => ?_)
        · skip
          refine g_aload_n C dMo_program_54 rfl ?_
          refine gt_getr C dMo_program_55 fl_Mo_27 h0 hVw1.1.1 rfl (fun b_55 q_55 hb_55 => ?_)
          refine g_iload_n C dMo_program_58 rfl ?_
          refine g_iload_n C dMo_program_59 rfl ?_
          refine gt_iast C dMo_program_60 hb_55 (by decide) rfl rfl (n := 12) rfl (by omega) hVw1 rfl trivial (fun Iw10 eIw10 hVw10 => ?_)
          have tkw10_a0_6 : (Iw10 a0 6).toInt = (Iw1 a0 6).toInt := by rw [eIw10, up2_ne _ _ (fun z => by have q := h0.2; rw [z.1, hb_55.2] at q; exact absurd q (by decide))]
          have tkw10_a0_18 : (Iw10 a0 18).toInt = (Iw1 a0 18).toInt := by rw [eIw10, up2_ne _ _ (fun z => by have q := h0.2; rw [z.1, hb_55.2] at q; exact absurd q (by decide))]
          have tkw10_S_27 : (Iw10 S 27).toInt = (Iw1 S 27).toInt := by rw [eIw10, up2_ne _ _ (fun z => by have q := hSk.2; rw [z.1, hb_55.2] at q; exact absurd q (by decide))]
          refine g_aload_n C dMo_program_61 rfl ?_
          refine gt_getr C dMo_program_62 fl_Mo_30 h0 hVw10.1.1 rfl (fun b_62 q_62 hb_62 => ?_)
          refine g_iload_n C dMo_program_65 rfl ?_
          refine g_iload_n C dMo_program_66 rfl ?_
          refine gt_iast C dMo_program_67 hb_62 (by decide) rfl rfl (n := 12) rfl (by omega) hVw10 rfl trivial (fun Iw11 eIw11 hVw11 => ?_)
          have tkw11_a0_6 : (Iw11 a0 6).toInt = (Iw10 a0 6).toInt := by rw [eIw11, up2_ne _ _ (fun z => by have q := h0.2; rw [z.1, hb_62.2] at q; exact absurd q (by decide))]
          have tkw11_a0_18 : (Iw11 a0 18).toInt = (Iw10 a0 18).toInt := by rw [eIw11, up2_ne _ _ (fun z => by have q := h0.2; rw [z.1, hb_62.2] at q; exact absurd q (by decide))]
          have tkw11_S_27 : (Iw11 S 27).toInt = (Iw10 S 27).toInt := by rw [eIw11, up2_ne _ _ (fun z => by have q := hSk.2; rw [z.1, hb_62.2] at q; exact absurd q (by decide))]
          refine g_aload_n C dMo_program_68 rfl ?_
          refine gt_getr C dMo_program_69 fl_Mo_33 h0 hVw11.1.1 rfl (fun b_69 q_69 hb_69 => ?_)
          refine g_iload_n C dMo_program_72 rfl ?_
          refine g_iload C dMo_program_73 rfl ?_
          refine gt_iast C dMo_program_75 hb_69 (by decide) rfl rfl (n := 12) rfl (by omega) hVw11 rfl (by show 0 ≤ Int32.toInt _ ∧ Int32.toInt _ ≤ 3; omega) (fun Iw12 eIw12 hVw12 => ?_)
          have tkw12_a0_6 : (Iw12 a0 6).toInt = (Iw11 a0 6).toInt := by rw [eIw12, up2_ne _ _ (fun z => by have q := h0.2; rw [z.1, hb_69.2] at q; exact absurd q (by decide))]
          have tkw12_a0_18 : (Iw12 a0 18).toInt = (Iw11 a0 18).toInt := by rw [eIw12, up2_ne _ _ (fun z => by have q := h0.2; rw [z.1, hb_69.2] at q; exact absurd q (by decide))]
          have tkw12_S_27 : (Iw12 S 27).toInt = (Iw11 S 27).toInt := by rw [eIw12, up2_ne _ _ (fun z => by have q := hSk.2; rw [z.1, hb_69.2] at q; exact absurd q (by decide))]
          refine g_aload_n C dMo_program_76 rfl ?_
          refine s_callV_z (av := fun ad => []) C dMo_program_77 mfMo_granted mvMo_granted ln_Mo_329 h0 (by decide) rfl hVw12 (frL_le (by decide)) (cMo_granted hVw12.1 h0) rfl rfl (Nat.le_of_ble_eq_true rfl) ⟨Nat.le_of_ble_eq_true rfl, Nat.le_of_ble_eq_true rfl⟩ ⟨rfl, rfl⟩ ⟨Nat.zero_le _, Nat.zero_le _⟩ (fun Iw13 Jw13 hVw13 hFw13 z_77 b_77 p_77 => ?_)
          have tkw13_S_27 : (Iw13 S 27).toInt = (Iw12 S 27).toInt := by rw [(hFw13 S (by rw [hSk.2]; rfl)).1 27]
          have rz_77 := rg z_77
          have u_77 := b_77
          unfold B01 at u_77
          try dsimp only at p_77
          exact s_zret C E dMo_program_80 ⟨Nat.zero_le _, Nat.zero_le _⟩ hVw13 (by first | assumption | (unfold B01; omega)) (by (try dsimp only); omega)
        · skip
          exact g_sub (jn_48  Iw1 J0 (by omega) (by omega) (by omega) hVw1) ⟨rfl, rfl, rfl, rfl, rfl, trivial⟩
    · skip
      exact g_sub (jn_24  Iw1 J0 (by omega) (by omega) (by omega) hVw1) ⟨rfl, rfl, rfl, rfl, rfl, trivial⟩
set_option maxHeartbeats 4000000 in
set_option maxRecDepth 100000 in
theorem cMo_seen_Z {P : List Nat} {K : Nat → Nat} {I0 : Nat → Nat → Int32} {O : Nat → Nat → Option Nat} {J0 : Nat → Nat → Int64} (hV : IV P K I0 O) {a0 : Nat} (h0 : a0 ∈ P ∧ K a0 = 10) {x1 : Int32} {x2 : Int32} {x3 : Int32} {x4 : Int32} {S : Nat} (hSo : O a0 16 = some S) (hSk : S ∈ P ∧ K S = 31) (hMn : O a0 3 = none) : Con yMo_seen bMo_seen 5 (some .int) ({ frames := 1, cells := 0, slots := 0, locals := 22 } : Room) P K I0 O J0 [.ref a0, .int x1, .int x2, .int x3, .int x4] (SPo frM 1 (fun _ I_ => (I_ a0 6).toInt = (I0 a0 6).toInt ∧ (I_ a0 18).toInt = (I0 a0 18).toInt ∧ (I_ S 27).toInt = (I0 S 27).toInt) P K I0 O J0) := by
  refine Con.ofG mfMo_seen (Nat.le_of_ble_eq_true rfl) ?_
  intro X C E
  have r1 := rg x1
  have r2 := rg x2
  have r3 := rg x3
  have r4 := rg x4
  have ost := hV.2 a0 h0.1 18
  rw [h0.2] at ost
  have ost : 0 ≤ (I0 a0 18).toInt ∧ (I0 a0 18).toInt ≤ 240 := ost
  have oS := hV.2 S hSk.1 27
  rw [hSk.2] at oS
  have oS : 0 ≤ (I0 S 27).toInt ∧ (I0 S 27).toInt ≤ 240 := oS
  have hV0 : SV frM P K O I0 J0 I0 J0 := SV.rf hV
  refine g_aload_n C dMo_seen_0 rfl ?_
  refine g_iconst (v := Int32.ofInt (0)) C dMo_seen_1 (by decide) ?_
  refine gt_puti C dMo_seen_2 fl_Mo_73 h0 hV0 rfl trivial rfl (Or.inl rfl) (fun Iw1 eIw1 hVw1 => ?_)
  have tkw1_a0_23 : (Iw1 a0 23).toInt = (I0 a0 23).toInt := by rw [eIw1, up2_ne _ _ (fun z => absurd z.2 (by decide))]
  have tkw1_a0_6 : (Iw1 a0 6).toInt = (I0 a0 6).toInt := by rw [eIw1, up2_ne _ _ (fun z => absurd z.2 (by decide))]
  have tkw1_a0_18 : (Iw1 a0 18).toInt = (I0 a0 18).toInt := by rw [eIw1, up2_ne _ _ (fun z => absurd z.2 (by decide))]
  have tkw1_S_27 : (Iw1 S 27).toInt = (I0 S 27).toInt := by rw [eIw1, up2_ne _ _ (fun z => by have q := hSk.2; rw [z.1, h0.2] at q; exact absurd q (by decide))]
  refine g_aload_n C dMo_seen_5 rfl ?_
  refine g_iload_n C dMo_seen_6 rfl ?_
  refine g_iload_n C dMo_seen_7 rfl ?_
  refine s_callV_zp (av := fun ad => [.int x1, .int x2]) C dMo_seen_8 mfMo_isWhat mvMo_isWhat ln_Mo_338 h0 (by decide) rfl (cMo_isWhat_Z hVw1.1 h0 hMn) rfl rfl (Nat.le_of_ble_eq_true rfl) ⟨Nat.le_of_ble_eq_true rfl, Nat.le_of_ble_eq_true rfl⟩ ⟨rfl, rfl⟩ ⟨Nat.zero_le _, Nat.zero_le _⟩ (fun z_8 b_8 p_8 => ?_)
  have rz_8 := rg z_8
  have u_8 := b_8
  unfold B01 at u_8
  try dsimp only at p_8
  refine gt_if_ne 20 C dMo_seen_11 (by decide) rfl (fun c_11 => ?_) (fun c_11 => ?_)
  · skip
    refine g_iload_n C dMo_seen_20 rfl ?_
    refine g_iconst (v := Int32.ofInt (0)) C dMo_seen_21 (by decide) ?_
    refine g_ldcw (v := Int32.ofInt (999999)) C dMo_seen_22 k_Mo_342 ?_
    refine s_callS_zp (av := fun ad => [.int x3, .int (Int32.ofInt (0)), .int (Int32.ofInt (999999))]) C dMo_seen_25 mfMo_in msMo_in ln_Mo_149 (cMo_in hVw1.1 ) rfl rfl (Nat.le_of_ble_eq_true rfl) ⟨Nat.le_of_ble_eq_true rfl, Nat.le_of_ble_eq_true rfl⟩ ⟨rfl, rfl⟩ ⟨Nat.zero_le _, Nat.zero_le _⟩ (fun z_25 b_25 p_25 => ?_)
    have rz_25 := rg z_25
    have u_25 := b_25
    unfold B01 at u_25
    try dsimp only at p_25
    have hk1_25 : Int32.toInt (Int32.ofInt (0)) = 0 := ofI (by decide)
    have hk2_25 : Int32.toInt (Int32.ofInt (999999)) = 999999 := ofI (by decide)
    have jn_43 : ∀   (Iw4 : Nat → Nat → Int32) (Jw4 : Nat → Nat → Int64), (Int32.toInt (Iw4 a0 6) = Int32.toInt (I0 a0 6)) → (Int32.toInt (Iw4 a0 18) = Int32.toInt (I0 a0 18)) → (Int32.toInt (Iw4 S 27) = Int32.toInt (I0 S 27)) → SV frM P K O I0 J0 Iw4 Jw4 → GG X 5 P K Iw4 O Jw4 0 0 43 [(0, .ref a0), (1, .int x1), (2, .int x2), (3, .int x3), (4, .int x4)] [] := by
      intro Iw4 Jw4 jv0_43 jv1_43 jv2_43 hVw4
      refine g_aload_n C dMo_seen_43 rfl ?_
      refine g_iconst (v := Int32.ofInt (2)) C dMo_seen_44 (by decide) ?_
      refine s_callV_i (av := fun ad => [.int (Int32.ofInt (2))]) C dMo_seen_45 mfMo_refused mvMo_refused ln_Mo_283 h0 (by decide) rfl hVw4 (frL_le (by decide)) (cMo_refused hVw4.1 h0) rfl rfl (Nat.le_of_ble_eq_true rfl) ⟨Nat.le_of_ble_eq_true rfl, Nat.le_of_ble_eq_true rfl⟩ ⟨rfl, rfl⟩ ⟨Nat.zero_le _, Nat.zero_le _⟩ (fun Iw5 Jw5 hVw5 hFw5 z_45 p_45 => ?_)
      have tkw5_S_27 : (Iw5 S 27).toInt = (Iw4 S 27).toInt := by rw [(hFw5 S (by rw [hSk.2]; rfl)).1 27]
      have rz_45 := rg z_45
      try dsimp only at p_45
      have hk1_45 : Int32.toInt (Int32.ofInt (2)) = 2 := ofI (by decide)
      exact s_iret C E dMo_seen_48 ⟨Nat.zero_le _, Nat.zero_le _⟩ hVw5 (by (try dsimp only); omega)
    refine gt_if_eq 43 C dMo_seen_28 (by decide) rfl (fun c_28 => ?_) (fun c_28 => ?_)
    · skip
      exact g_sub (jn_43  Iw1 J0 (by omega) (by omega) (by omega) hVw1) ⟨rfl, rfl, rfl, rfl, rfl, trivial⟩
    · skip
      refine g_iload C dMo_seen_31 rfl ?_
      refine g_iconst (v := Int32.ofInt (0)) C dMo_seen_33 (by decide) ?_
      refine g_sipush (v := Int32.ofInt (999)) C dMo_seen_34 (by decide) ?_
      refine s_callS_zp (av := fun ad => [.int x4, .int (Int32.ofInt (0)), .int (Int32.ofInt (999))]) C dMo_seen_37 mfMo_in msMo_in ln_Mo_149 (cMo_in hVw1.1 ) rfl rfl (Nat.le_of_ble_eq_true rfl) ⟨Nat.le_of_ble_eq_true rfl, Nat.le_of_ble_eq_true rfl⟩ ⟨rfl, rfl⟩ ⟨Nat.zero_le _, Nat.zero_le _⟩ (fun z_37 b_37 p_37 => ?_)
      have rz_37 := rg z_37
      have u_37 := b_37
      unfold B01 at u_37
      try dsimp only at p_37
      have hk1_37 : Int32.toInt (Int32.ofInt (0)) = 0 := ofI (by decide)
      have hk2_37 : Int32.toInt (Int32.ofInt (999)) = 999 := ofI (by decide)
      refine gt_if_ne 49 C dMo_seen_40 (by decide) rfl (fun c_40 => ?_) (fun c_40 => ?_)
      · skip
        refine g_aload_n C dMo_seen_49 rfl ?_
        refine g_geti C dMo_seen_50 fl_Mo_293 h0 ?_
        have o_50 := hVw1.1.2 a0 h0.1 23
        rw [h0.2] at o_50
        have o_50 : 0 ≤ (Iw1 a0 23).toInt ∧ (Iw1 a0 23).toInt ≤ 24 := o_50
        refine g_bipush (v := Int32.ofInt (24)) C dMo_seen_53 (by decide) ?_
        refine gt_icmp_ne 64 C dMo_seen_55 (by decide) rfl (ofI (by decide)) (fun c_55 => ?_) (fun c_55 => ?_)
        · skip
          refine g_aload_n C dMo_seen_64 rfl ?_
          refine gt_getr C dMo_seen_65 fl_Mo_36 h0 hVw1.1.1 rfl (fun b_65 q_65 hb_65 => ?_)
          refine g_aload_n C dMo_seen_68 rfl ?_
          refine g_geti C dMo_seen_69 fl_Mo_293 h0 ?_
          have o_69 := hVw1.1.2 a0 h0.1 23
          rw [h0.2] at o_69
          have o_69 : 0 ≤ (Iw1 a0 23).toInt ∧ (Iw1 a0 23).toInt ≤ 24 := o_69
          refine g_iload_n C dMo_seen_72 rfl ?_
          refine gt_iast C dMo_seen_73 hb_65 (by decide) rfl rfl (n := 24) rfl (by omega) hVw1 rfl trivial (fun Iw7 eIw7 hVw7 => ?_)
          have tkw7_a0_23 : (Iw7 a0 23).toInt = (Iw1 a0 23).toInt := by rw [eIw7, up2_ne _ _ (fun z => by have q := h0.2; rw [z.1, hb_65.2] at q; exact absurd q (by decide))]
          have tkw7_a0_6 : (Iw7 a0 6).toInt = (Iw1 a0 6).toInt := by rw [eIw7, up2_ne _ _ (fun z => by have q := h0.2; rw [z.1, hb_65.2] at q; exact absurd q (by decide))]
          have tkw7_a0_18 : (Iw7 a0 18).toInt = (Iw1 a0 18).toInt := by rw [eIw7, up2_ne _ _ (fun z => by have q := h0.2; rw [z.1, hb_65.2] at q; exact absurd q (by decide))]
          have tkw7_S_27 : (Iw7 S 27).toInt = (Iw1 S 27).toInt := by rw [eIw7, up2_ne _ _ (fun z => by have q := hSk.2; rw [z.1, hb_65.2] at q; exact absurd q (by decide))]
          refine g_aload_n C dMo_seen_74 rfl ?_
          refine gt_getr C dMo_seen_75 fl_Mo_39 h0 hVw7.1.1 rfl (fun b_75 q_75 hb_75 => ?_)
          refine g_aload_n C dMo_seen_78 rfl ?_
          refine g_geti C dMo_seen_79 fl_Mo_293 h0 ?_
          have o_79 := hVw7.1.2 a0 h0.1 23
          rw [h0.2] at o_79
          have o_79 : 0 ≤ (Iw7 a0 23).toInt ∧ (Iw7 a0 23).toInt ≤ 24 := o_79
          refine g_iload_n C dMo_seen_82 rfl ?_
          refine gt_iast C dMo_seen_83 hb_75 (by decide) rfl rfl (n := 24) rfl (by omega) hVw7 rfl (by show 0 ≤ Int32.toInt _ ∧ Int32.toInt _ ≤ 6; omega) (fun Iw8 eIw8 hVw8 => ?_)
          have tkw8_a0_23 : (Iw8 a0 23).toInt = (Iw7 a0 23).toInt := by rw [eIw8, up2_ne _ _ (fun z => by have q := h0.2; rw [z.1, hb_75.2] at q; exact absurd q (by decide))]
          have tkw8_a0_6 : (Iw8 a0 6).toInt = (Iw7 a0 6).toInt := by rw [eIw8, up2_ne _ _ (fun z => by have q := h0.2; rw [z.1, hb_75.2] at q; exact absurd q (by decide))]
          have tkw8_a0_18 : (Iw8 a0 18).toInt = (Iw7 a0 18).toInt := by rw [eIw8, up2_ne _ _ (fun z => by have q := h0.2; rw [z.1, hb_75.2] at q; exact absurd q (by decide))]
          have tkw8_S_27 : (Iw8 S 27).toInt = (Iw7 S 27).toInt := by rw [eIw8, up2_ne _ _ (fun z => by have q := hSk.2; rw [z.1, hb_75.2] at q; exact absurd q (by decide))]
          refine g_aload_n C dMo_seen_84 rfl ?_
          refine gt_getr C dMo_seen_85 fl_Mo_42 h0 hVw8.1.1 rfl (fun b_85 q_85 hb_85 => ?_)
          refine g_aload_n C dMo_seen_88 rfl ?_
          refine g_geti C dMo_seen_89 fl_Mo_293 h0 ?_
          have o_89 := hVw8.1.2 a0 h0.1 23
          rw [h0.2] at o_89
          have o_89 : 0 ≤ (Iw8 a0 23).toInt ∧ (Iw8 a0 23).toInt ≤ 24 := o_89
          refine g_iload_n C dMo_seen_92 rfl ?_
          refine gt_iast C dMo_seen_93 hb_85 (by decide) rfl rfl (n := 24) rfl (by omega) hVw8 rfl trivial (fun Iw9 eIw9 hVw9 => ?_)
          have tkw9_a0_23 : (Iw9 a0 23).toInt = (Iw8 a0 23).toInt := by rw [eIw9, up2_ne _ _ (fun z => by have q := h0.2; rw [z.1, hb_85.2] at q; exact absurd q (by decide))]
          have tkw9_a0_6 : (Iw9 a0 6).toInt = (Iw8 a0 6).toInt := by rw [eIw9, up2_ne _ _ (fun z => by have q := h0.2; rw [z.1, hb_85.2] at q; exact absurd q (by decide))]
          have tkw9_a0_18 : (Iw9 a0 18).toInt = (Iw8 a0 18).toInt := by rw [eIw9, up2_ne _ _ (fun z => by have q := h0.2; rw [z.1, hb_85.2] at q; exact absurd q (by decide))]
          have tkw9_S_27 : (Iw9 S 27).toInt = (Iw8 S 27).toInt := by rw [eIw9, up2_ne _ _ (fun z => by have q := hSk.2; rw [z.1, hb_85.2] at q; exact absurd q (by decide))]
          refine g_aload_n C dMo_seen_94 rfl ?_
          refine gt_getr C dMo_seen_95 fl_Mo_45 h0 hVw9.1.1 rfl (fun b_95 q_95 hb_95 => ?_)
          refine g_aload_n C dMo_seen_98 rfl ?_
          refine g_geti C dMo_seen_99 fl_Mo_293 h0 ?_
          have o_99 := hVw9.1.2 a0 h0.1 23
          rw [h0.2] at o_99
          have o_99 : 0 ≤ (Iw9 a0 23).toInt ∧ (Iw9 a0 23).toInt ≤ 24 := o_99
          refine g_iload C dMo_seen_102 rfl ?_
          refine gt_iast C dMo_seen_104 hb_95 (by decide) rfl rfl (n := 24) rfl (by omega) hVw9 rfl trivial (fun Iw10 eIw10 hVw10 => ?_)
          have tkw10_a0_23 : (Iw10 a0 23).toInt = (Iw9 a0 23).toInt := by rw [eIw10, up2_ne _ _ (fun z => by have q := h0.2; rw [z.1, hb_95.2] at q; exact absurd q (by decide))]
          have tkw10_a0_6 : (Iw10 a0 6).toInt = (Iw9 a0 6).toInt := by rw [eIw10, up2_ne _ _ (fun z => by have q := h0.2; rw [z.1, hb_95.2] at q; exact absurd q (by decide))]
          have tkw10_a0_18 : (Iw10 a0 18).toInt = (Iw9 a0 18).toInt := by rw [eIw10, up2_ne _ _ (fun z => by have q := h0.2; rw [z.1, hb_95.2] at q; exact absurd q (by decide))]
          have tkw10_S_27 : (Iw10 S 27).toInt = (Iw9 S 27).toInt := by rw [eIw10, up2_ne _ _ (fun z => by have q := hSk.2; rw [z.1, hb_95.2] at q; exact absurd q (by decide))]
          refine g_aload_n C dMo_seen_105 rfl ?_
          refine g_dup C dMo_seen_106 rfl ?_
          refine g_geti C dMo_seen_107 fl_Mo_293 h0 ?_
          have o_107 := hVw10.1.2 a0 h0.1 23
          rw [h0.2] at o_107
          have o_107 : 0 ≤ (Iw10 a0 23).toInt ∧ (Iw10 a0 23).toInt ≤ 24 := o_107
          refine g_iconst (v := Int32.ofInt (1)) C dMo_seen_110 (by decide) ?_
          first | refine n_iadd C dMo_seen_111 rfl (ofI (by decide)) (by omega) (fun z_111 e_111 => ?_) | refine a_iadd C dMo_seen_111 (fun z_111 => ?_)
          refine gt_puti C dMo_seen_112 fl_Mo_293 h0 hVw10 rfl (by show 0 ≤ Int32.toInt _ ∧ Int32.toInt _ ≤ 24; omega) rfl (Or.inl rfl) (fun Iw11 eIw11 hVw11 => ?_)
          have tkw11_a0_23 : (Iw11 a0 23).toInt = z_111.toInt := by rw [eIw11, up2_self]
          have tkw11_a0_6 : (Iw11 a0 6).toInt = (Iw10 a0 6).toInt := by rw [eIw11, up2_ne _ _ (fun z => absurd z.2 (by decide))]
          have tkw11_a0_18 : (Iw11 a0 18).toInt = (Iw10 a0 18).toInt := by rw [eIw11, up2_ne _ _ (fun z => absurd z.2 (by decide))]
          have tkw11_S_27 : (Iw11 S 27).toInt = (Iw10 S 27).toInt := by rw [eIw11, up2_ne _ _ (fun z => by have q := hSk.2; rw [z.1, h0.2] at q; exact absurd q (by decide))]
          refine g_aload_n C dMo_seen_115 rfl ?_
          refine g_aload_n C dMo_seen_116 rfl ?_
          refine g_geti C dMo_seen_117 fl_Mo_293 h0 ?_
          have o_117 := hVw11.1.2 a0 h0.1 23
          rw [h0.2] at o_117
          have o_117 : 0 ≤ (Iw11 a0 23).toInt ∧ (Iw11 a0 23).toInt ≤ 24 := o_117
          refine s_callV_i (av := fun ad => [.int (Iw11 a0 23)]) C dMo_seen_120 mfMo_done mvMo_done ln_Mo_302 h0 (by decide) rfl hVw11 (frL_le (by decide)) (cMo_done hVw11.1 h0) rfl rfl (Nat.le_of_ble_eq_true rfl) ⟨Nat.le_of_ble_eq_true rfl, Nat.le_of_ble_eq_true rfl⟩ ⟨rfl, rfl⟩ ⟨Nat.zero_le _, Nat.zero_le _⟩ (fun Iw12 Jw12 hVw12 hFw12 z_120 p_120 => ?_)
          have tkw12_S_27 : (Iw12 S 27).toInt = (Iw11 S 27).toInt := by rw [(hFw12 S (by rw [hSk.2]; rfl)).1 27]
          have rz_120 := rg z_120
          try dsimp only at p_120
          exact s_iret C E dMo_seen_123 ⟨Nat.zero_le _, Nat.zero_le _⟩ hVw12 (by (try dsimp only); omega)
        · skip
          refine g_aload_n C dMo_seen_58 rfl ?_
          refine g_iconst (v := Int32.ofInt (3)) C dMo_seen_59 (by decide) ?_
          refine s_callV_i (av := fun ad => [.int (Int32.ofInt (3))]) C dMo_seen_60 mfMo_refused mvMo_refused ln_Mo_283 h0 (by decide) rfl hVw1 (frL_le (by decide)) (cMo_refused hVw1.1 h0) rfl rfl (Nat.le_of_ble_eq_true rfl) ⟨Nat.le_of_ble_eq_true rfl, Nat.le_of_ble_eq_true rfl⟩ ⟨rfl, rfl⟩ ⟨Nat.zero_le _, Nat.zero_le _⟩ (fun Iw13 Jw13 hVw13 hFw13 z_60 p_60 => ?_)
          have tkw13_S_27 : (Iw13 S 27).toInt = (Iw1 S 27).toInt := by rw [(hFw13 S (by rw [hSk.2]; rfl)).1 27]
          have rz_60 := rg z_60
          try dsimp only at p_60
          have hk1_60 : Int32.toInt (Int32.ofInt (3)) = 3 := ofI (by decide)
          exact s_iret C E dMo_seen_63 ⟨Nat.zero_le _, Nat.zero_le _⟩ hVw13 (by (try dsimp only); omega)
      · skip
        exact g_sub (jn_43  Iw1 J0 (by omega) (by omega) (by omega) hVw1) ⟨rfl, rfl, rfl, rfl, rfl, trivial⟩
  · skip
    refine g_aload_n C dMo_seen_14 rfl ?_
    refine g_iconst (v := Int32.ofInt (1)) C dMo_seen_15 (by decide) ?_
    refine s_callV_i (av := fun ad => [.int (Int32.ofInt (1))]) C dMo_seen_16 mfMo_refused mvMo_refused ln_Mo_283 h0 (by decide) rfl hVw1 (frL_le (by decide)) (cMo_refused hVw1.1 h0) rfl rfl (Nat.le_of_ble_eq_true rfl) ⟨Nat.le_of_ble_eq_true rfl, Nat.le_of_ble_eq_true rfl⟩ ⟨rfl, rfl⟩ ⟨Nat.zero_le _, Nat.zero_le _⟩ (fun Iw14 Jw14 hVw14 hFw14 z_16 p_16 => ?_)
    have tkw14_S_27 : (Iw14 S 27).toInt = (Iw1 S 27).toInt := by rw [(hFw14 S (by rw [hSk.2]; rfl)).1 27]
    have rz_16 := rg z_16
    try dsimp only at p_16
    have hk1_16 : Int32.toInt (Int32.ofInt (1)) = 1 := ofI (by decide)
    exact s_iret C E dMo_seen_19 ⟨Nat.zero_le _, Nat.zero_le _⟩ hVw14 (by (try dsimp only); omega)
set_option maxHeartbeats 4000000 in
set_option maxRecDepth 100000 in
theorem cMo_seen_G {P : List Nat} {K : Nat → Nat} {I0 : Nat → Nat → Int32} {O : Nat → Nat → Option Nat} {J0 : Nat → Nat → Int64} (hV : IV P K I0 O) {a0 : Nat} (h0 : a0 ∈ P ∧ K a0 = 10) {x1 : Int32} {x2 : Int32} {x3 : Int32} {x4 : Int32} {S : Nat} (hSo : O a0 16 = some S) (hSk : S ∈ P ∧ K S = 31) {M : Nat} (hMo : O a0 3 = some M) (hMk : M ∈ P ∧ K M = 9) (hGM : GM I0 M) : Con yMo_seen bMo_seen 5 (some .int) ({ frames := 2, cells := 0, slots := 0, locals := 44 } : Room) P K I0 O J0 [.ref a0, .int x1, .int x2, .int x3, .int x4] (SPo frM 1 (fun _ I_ => (I_ a0 6).toInt = (I0 a0 6).toInt ∧ (I_ a0 18).toInt = (I0 a0 18).toInt ∧ (I_ S 27).toInt = (I0 S 27).toInt) P K I0 O J0) := by
  refine Con.ofG mfMo_seen (Nat.le_of_ble_eq_true rfl) ?_
  intro X C E
  have r1 := rg x1
  have r2 := rg x2
  have r3 := rg x3
  have r4 := rg x4
  have ost := hV.2 a0 h0.1 18
  rw [h0.2] at ost
  have ost : 0 ≤ (I0 a0 18).toInt ∧ (I0 a0 18).toInt ≤ 240 := ost
  have oS := hV.2 S hSk.1 27
  rw [hSk.2] at oS
  have oS : 0 ≤ (I0 S 27).toInt ∧ (I0 S 27).toInt ≤ 240 := oS
  have hV0 : SV frM P K O I0 J0 I0 J0 := SV.rf hV
  refine g_aload_n C dMo_seen_0 rfl ?_
  refine g_iconst (v := Int32.ofInt (0)) C dMo_seen_1 (by decide) ?_
  refine gt_puti C dMo_seen_2 fl_Mo_73 h0 hV0 rfl trivial rfl (Or.inl rfl) (fun Iw1 eIw1 hVw1 => ?_)
  have tkw1_a0_23 : (Iw1 a0 23).toInt = (I0 a0 23).toInt := by rw [eIw1, up2_ne _ _ (fun z => absurd z.2 (by decide))]
  have tkw1_a0_6 : (Iw1 a0 6).toInt = (I0 a0 6).toInt := by rw [eIw1, up2_ne _ _ (fun z => absurd z.2 (by decide))]
  have tkw1_a0_18 : (Iw1 a0 18).toInt = (I0 a0 18).toInt := by rw [eIw1, up2_ne _ _ (fun z => absurd z.2 (by decide))]
  have tkw1_S_27 : (Iw1 S 27).toInt = (I0 S 27).toInt := by rw [eIw1, up2_ne _ _ (fun z => by have q := hSk.2; rw [z.1, h0.2] at q; exact absurd q (by decide))]
  refine g_aload_n C dMo_seen_5 rfl ?_
  refine g_iload_n C dMo_seen_6 rfl ?_
  refine g_iload_n C dMo_seen_7 rfl ?_
  refine s_callV_zp (av := fun ad => [.int x1, .int x2]) C dMo_seen_8 mfMo_isWhat mvMo_isWhat ln_Mo_338 h0 (by decide) rfl (cMo_isWhat_G hVw1.1 h0 hMo hMk (hGM.keep (hVw1.2 M (by rw [hMk.2]; rfl)).1)) rfl rfl (Nat.le_of_ble_eq_true rfl) ⟨Nat.le_of_ble_eq_true rfl, Nat.le_of_ble_eq_true rfl⟩ ⟨rfl, rfl⟩ ⟨Nat.zero_le _, Nat.zero_le _⟩ (fun z_8 b_8 p_8 => ?_)
  have rz_8 := rg z_8
  have u_8 := b_8
  unfold B01 at u_8
  try dsimp only at p_8
  refine gt_if_ne 20 C dMo_seen_11 (by decide) rfl (fun c_11 => ?_) (fun c_11 => ?_)
  · skip
    refine g_iload_n C dMo_seen_20 rfl ?_
    refine g_iconst (v := Int32.ofInt (0)) C dMo_seen_21 (by decide) ?_
    refine g_ldcw (v := Int32.ofInt (999999)) C dMo_seen_22 k_Mo_342 ?_
    refine s_callS_zp (av := fun ad => [.int x3, .int (Int32.ofInt (0)), .int (Int32.ofInt (999999))]) C dMo_seen_25 mfMo_in msMo_in ln_Mo_149 (cMo_in hVw1.1 ) rfl rfl (Nat.le_of_ble_eq_true rfl) ⟨Nat.le_of_ble_eq_true rfl, Nat.le_of_ble_eq_true rfl⟩ ⟨rfl, rfl⟩ ⟨Nat.zero_le _, Nat.zero_le _⟩ (fun z_25 b_25 p_25 => ?_)
    have rz_25 := rg z_25
    have u_25 := b_25
    unfold B01 at u_25
    try dsimp only at p_25
    have hk1_25 : Int32.toInt (Int32.ofInt (0)) = 0 := ofI (by decide)
    have hk2_25 : Int32.toInt (Int32.ofInt (999999)) = 999999 := ofI (by decide)
    have jn_43 : ∀   (Iw4 : Nat → Nat → Int32) (Jw4 : Nat → Nat → Int64), (Int32.toInt (Iw4 a0 6) = Int32.toInt (I0 a0 6)) → (Int32.toInt (Iw4 a0 18) = Int32.toInt (I0 a0 18)) → (Int32.toInt (Iw4 S 27) = Int32.toInt (I0 S 27)) → SV frM P K O I0 J0 Iw4 Jw4 → GG X 5 P K Iw4 O Jw4 0 0 43 [(0, .ref a0), (1, .int x1), (2, .int x2), (3, .int x3), (4, .int x4)] [] := by
      intro Iw4 Jw4 jv0_43 jv1_43 jv2_43 hVw4
      refine g_aload_n C dMo_seen_43 rfl ?_
      refine g_iconst (v := Int32.ofInt (2)) C dMo_seen_44 (by decide) ?_
      refine s_callV_i (av := fun ad => [.int (Int32.ofInt (2))]) C dMo_seen_45 mfMo_refused mvMo_refused ln_Mo_283 h0 (by decide) rfl hVw4 (frL_le (by decide)) (cMo_refused hVw4.1 h0) rfl rfl (Nat.le_of_ble_eq_true rfl) ⟨Nat.le_of_ble_eq_true rfl, Nat.le_of_ble_eq_true rfl⟩ ⟨rfl, rfl⟩ ⟨Nat.zero_le _, Nat.zero_le _⟩ (fun Iw5 Jw5 hVw5 hFw5 z_45 p_45 => ?_)
      have tkw5_S_27 : (Iw5 S 27).toInt = (Iw4 S 27).toInt := by rw [(hFw5 S (by rw [hSk.2]; rfl)).1 27]
      have rz_45 := rg z_45
      try dsimp only at p_45
      have hk1_45 : Int32.toInt (Int32.ofInt (2)) = 2 := ofI (by decide)
      exact s_iret C E dMo_seen_48 ⟨Nat.zero_le _, Nat.zero_le _⟩ hVw5 (by (try dsimp only); omega)
    refine gt_if_eq 43 C dMo_seen_28 (by decide) rfl (fun c_28 => ?_) (fun c_28 => ?_)
    · skip
      exact g_sub (jn_43  Iw1 J0 (by omega) (by omega) (by omega) hVw1) ⟨rfl, rfl, rfl, rfl, rfl, trivial⟩
    · skip
      refine g_iload C dMo_seen_31 rfl ?_
      refine g_iconst (v := Int32.ofInt (0)) C dMo_seen_33 (by decide) ?_
      refine g_sipush (v := Int32.ofInt (999)) C dMo_seen_34 (by decide) ?_
      refine s_callS_zp (av := fun ad => [.int x4, .int (Int32.ofInt (0)), .int (Int32.ofInt (999))]) C dMo_seen_37 mfMo_in msMo_in ln_Mo_149 (cMo_in hVw1.1 ) rfl rfl (Nat.le_of_ble_eq_true rfl) ⟨Nat.le_of_ble_eq_true rfl, Nat.le_of_ble_eq_true rfl⟩ ⟨rfl, rfl⟩ ⟨Nat.zero_le _, Nat.zero_le _⟩ (fun z_37 b_37 p_37 => ?_)
      have rz_37 := rg z_37
      have u_37 := b_37
      unfold B01 at u_37
      try dsimp only at p_37
      have hk1_37 : Int32.toInt (Int32.ofInt (0)) = 0 := ofI (by decide)
      have hk2_37 : Int32.toInt (Int32.ofInt (999)) = 999 := ofI (by decide)
      refine gt_if_ne 49 C dMo_seen_40 (by decide) rfl (fun c_40 => ?_) (fun c_40 => ?_)
      · skip
        refine g_aload_n C dMo_seen_49 rfl ?_
        refine g_geti C dMo_seen_50 fl_Mo_293 h0 ?_
        have o_50 := hVw1.1.2 a0 h0.1 23
        rw [h0.2] at o_50
        have o_50 : 0 ≤ (Iw1 a0 23).toInt ∧ (Iw1 a0 23).toInt ≤ 24 := o_50
        refine g_bipush (v := Int32.ofInt (24)) C dMo_seen_53 (by decide) ?_
        refine gt_icmp_ne 64 C dMo_seen_55 (by decide) rfl (ofI (by decide)) (fun c_55 => ?_) (fun c_55 => ?_)
        · skip
          refine g_aload_n C dMo_seen_64 rfl ?_
          refine gt_getr C dMo_seen_65 fl_Mo_36 h0 hVw1.1.1 rfl (fun b_65 q_65 hb_65 => ?_)
          refine g_aload_n C dMo_seen_68 rfl ?_
          refine g_geti C dMo_seen_69 fl_Mo_293 h0 ?_
          have o_69 := hVw1.1.2 a0 h0.1 23
          rw [h0.2] at o_69
          have o_69 : 0 ≤ (Iw1 a0 23).toInt ∧ (Iw1 a0 23).toInt ≤ 24 := o_69
          refine g_iload_n C dMo_seen_72 rfl ?_
          refine gt_iast C dMo_seen_73 hb_65 (by decide) rfl rfl (n := 24) rfl (by omega) hVw1 rfl trivial (fun Iw7 eIw7 hVw7 => ?_)
          have tkw7_a0_23 : (Iw7 a0 23).toInt = (Iw1 a0 23).toInt := by rw [eIw7, up2_ne _ _ (fun z => by have q := h0.2; rw [z.1, hb_65.2] at q; exact absurd q (by decide))]
          have tkw7_a0_6 : (Iw7 a0 6).toInt = (Iw1 a0 6).toInt := by rw [eIw7, up2_ne _ _ (fun z => by have q := h0.2; rw [z.1, hb_65.2] at q; exact absurd q (by decide))]
          have tkw7_a0_18 : (Iw7 a0 18).toInt = (Iw1 a0 18).toInt := by rw [eIw7, up2_ne _ _ (fun z => by have q := h0.2; rw [z.1, hb_65.2] at q; exact absurd q (by decide))]
          have tkw7_S_27 : (Iw7 S 27).toInt = (Iw1 S 27).toInt := by rw [eIw7, up2_ne _ _ (fun z => by have q := hSk.2; rw [z.1, hb_65.2] at q; exact absurd q (by decide))]
          refine g_aload_n C dMo_seen_74 rfl ?_
          refine gt_getr C dMo_seen_75 fl_Mo_39 h0 hVw7.1.1 rfl (fun b_75 q_75 hb_75 => ?_)
          refine g_aload_n C dMo_seen_78 rfl ?_
          refine g_geti C dMo_seen_79 fl_Mo_293 h0 ?_
          have o_79 := hVw7.1.2 a0 h0.1 23
          rw [h0.2] at o_79
          have o_79 : 0 ≤ (Iw7 a0 23).toInt ∧ (Iw7 a0 23).toInt ≤ 24 := o_79
          refine g_iload_n C dMo_seen_82 rfl ?_
          refine gt_iast C dMo_seen_83 hb_75 (by decide) rfl rfl (n := 24) rfl (by omega) hVw7 rfl (by show 0 ≤ Int32.toInt _ ∧ Int32.toInt _ ≤ 6; omega) (fun Iw8 eIw8 hVw8 => ?_)
          have tkw8_a0_23 : (Iw8 a0 23).toInt = (Iw7 a0 23).toInt := by rw [eIw8, up2_ne _ _ (fun z => by have q := h0.2; rw [z.1, hb_75.2] at q; exact absurd q (by decide))]
          have tkw8_a0_6 : (Iw8 a0 6).toInt = (Iw7 a0 6).toInt := by rw [eIw8, up2_ne _ _ (fun z => by have q := h0.2; rw [z.1, hb_75.2] at q; exact absurd q (by decide))]
          have tkw8_a0_18 : (Iw8 a0 18).toInt = (Iw7 a0 18).toInt := by rw [eIw8, up2_ne _ _ (fun z => by have q := h0.2; rw [z.1, hb_75.2] at q; exact absurd q (by decide))]
          have tkw8_S_27 : (Iw8 S 27).toInt = (Iw7 S 27).toInt := by rw [eIw8, up2_ne _ _ (fun z => by have q := hSk.2; rw [z.1, hb_75.2] at q; exact absurd q (by decide))]
          refine g_aload_n C dMo_seen_84 rfl ?_
          refine gt_getr C dMo_seen_85 fl_Mo_42 h0 hVw8.1.1 rfl (fun b_85 q_85 hb_85 => ?_)
          refine g_aload_n C dMo_seen_88 rfl ?_
          refine g_geti C dMo_seen_89 fl_Mo_293 h0 ?_
          have o_89 := hVw8.1.2 a0 h0.1 23
          rw [h0.2] at o_89
          have o_89 : 0 ≤ (Iw8 a0 23).toInt ∧ (Iw8 a0 23).toInt ≤ 24 := o_89
          refine g_iload_n C dMo_seen_92 rfl ?_
          refine gt_iast C dMo_seen_93 hb_85 (by decide) rfl rfl (n := 24) rfl (by omega) hVw8 rfl trivial (fun Iw9 eIw9 hVw9 => ?_)
          have tkw9_a0_23 : (Iw9 a0 23).toInt = (Iw8 a0 23).toInt := by rw [eIw9, up2_ne _ _ (fun z => by have q := h0.2; rw [z.1, hb_85.2] at q; exact absurd q (by decide))]
          have tkw9_a0_6 : (Iw9 a0 6).toInt = (Iw8 a0 6).toInt := by rw [eIw9, up2_ne _ _ (fun z => by have q := h0.2; rw [z.1, hb_85.2] at q; exact absurd q (by decide))]
          have tkw9_a0_18 : (Iw9 a0 18).toInt = (Iw8 a0 18).toInt := by rw [eIw9, up2_ne _ _ (fun z => by have q := h0.2; rw [z.1, hb_85.2] at q; exact absurd q (by decide))]
          have tkw9_S_27 : (Iw9 S 27).toInt = (Iw8 S 27).toInt := by rw [eIw9, up2_ne _ _ (fun z => by have q := hSk.2; rw [z.1, hb_85.2] at q; exact absurd q (by decide))]
          refine g_aload_n C dMo_seen_94 rfl ?_
          refine gt_getr C dMo_seen_95 fl_Mo_45 h0 hVw9.1.1 rfl (fun b_95 q_95 hb_95 => ?_)
          refine g_aload_n C dMo_seen_98 rfl ?_
          refine g_geti C dMo_seen_99 fl_Mo_293 h0 ?_
          have o_99 := hVw9.1.2 a0 h0.1 23
          rw [h0.2] at o_99
          have o_99 : 0 ≤ (Iw9 a0 23).toInt ∧ (Iw9 a0 23).toInt ≤ 24 := o_99
          refine g_iload C dMo_seen_102 rfl ?_
          refine gt_iast C dMo_seen_104 hb_95 (by decide) rfl rfl (n := 24) rfl (by omega) hVw9 rfl trivial (fun Iw10 eIw10 hVw10 => ?_)
          have tkw10_a0_23 : (Iw10 a0 23).toInt = (Iw9 a0 23).toInt := by rw [eIw10, up2_ne _ _ (fun z => by have q := h0.2; rw [z.1, hb_95.2] at q; exact absurd q (by decide))]
          have tkw10_a0_6 : (Iw10 a0 6).toInt = (Iw9 a0 6).toInt := by rw [eIw10, up2_ne _ _ (fun z => by have q := h0.2; rw [z.1, hb_95.2] at q; exact absurd q (by decide))]
          have tkw10_a0_18 : (Iw10 a0 18).toInt = (Iw9 a0 18).toInt := by rw [eIw10, up2_ne _ _ (fun z => by have q := h0.2; rw [z.1, hb_95.2] at q; exact absurd q (by decide))]
          have tkw10_S_27 : (Iw10 S 27).toInt = (Iw9 S 27).toInt := by rw [eIw10, up2_ne _ _ (fun z => by have q := hSk.2; rw [z.1, hb_95.2] at q; exact absurd q (by decide))]
          refine g_aload_n C dMo_seen_105 rfl ?_
          refine g_dup C dMo_seen_106 rfl ?_
          refine g_geti C dMo_seen_107 fl_Mo_293 h0 ?_
          have o_107 := hVw10.1.2 a0 h0.1 23
          rw [h0.2] at o_107
          have o_107 : 0 ≤ (Iw10 a0 23).toInt ∧ (Iw10 a0 23).toInt ≤ 24 := o_107
          refine g_iconst (v := Int32.ofInt (1)) C dMo_seen_110 (by decide) ?_
          first | refine n_iadd C dMo_seen_111 rfl (ofI (by decide)) (by omega) (fun z_111 e_111 => ?_) | refine a_iadd C dMo_seen_111 (fun z_111 => ?_)
          refine gt_puti C dMo_seen_112 fl_Mo_293 h0 hVw10 rfl (by show 0 ≤ Int32.toInt _ ∧ Int32.toInt _ ≤ 24; omega) rfl (Or.inl rfl) (fun Iw11 eIw11 hVw11 => ?_)
          have tkw11_a0_23 : (Iw11 a0 23).toInt = z_111.toInt := by rw [eIw11, up2_self]
          have tkw11_a0_6 : (Iw11 a0 6).toInt = (Iw10 a0 6).toInt := by rw [eIw11, up2_ne _ _ (fun z => absurd z.2 (by decide))]
          have tkw11_a0_18 : (Iw11 a0 18).toInt = (Iw10 a0 18).toInt := by rw [eIw11, up2_ne _ _ (fun z => absurd z.2 (by decide))]
          have tkw11_S_27 : (Iw11 S 27).toInt = (Iw10 S 27).toInt := by rw [eIw11, up2_ne _ _ (fun z => by have q := hSk.2; rw [z.1, h0.2] at q; exact absurd q (by decide))]
          refine g_aload_n C dMo_seen_115 rfl ?_
          refine g_aload_n C dMo_seen_116 rfl ?_
          refine g_geti C dMo_seen_117 fl_Mo_293 h0 ?_
          have o_117 := hVw11.1.2 a0 h0.1 23
          rw [h0.2] at o_117
          have o_117 : 0 ≤ (Iw11 a0 23).toInt ∧ (Iw11 a0 23).toInt ≤ 24 := o_117
          refine s_callV_i (av := fun ad => [.int (Iw11 a0 23)]) C dMo_seen_120 mfMo_done mvMo_done ln_Mo_302 h0 (by decide) rfl hVw11 (frL_le (by decide)) (cMo_done hVw11.1 h0) rfl rfl (Nat.le_of_ble_eq_true rfl) ⟨Nat.le_of_ble_eq_true rfl, Nat.le_of_ble_eq_true rfl⟩ ⟨rfl, rfl⟩ ⟨Nat.zero_le _, Nat.zero_le _⟩ (fun Iw12 Jw12 hVw12 hFw12 z_120 p_120 => ?_)
          have tkw12_S_27 : (Iw12 S 27).toInt = (Iw11 S 27).toInt := by rw [(hFw12 S (by rw [hSk.2]; rfl)).1 27]
          have rz_120 := rg z_120
          try dsimp only at p_120
          exact s_iret C E dMo_seen_123 ⟨Nat.zero_le _, Nat.zero_le _⟩ hVw12 (by (try dsimp only); omega)
        · skip
          refine g_aload_n C dMo_seen_58 rfl ?_
          refine g_iconst (v := Int32.ofInt (3)) C dMo_seen_59 (by decide) ?_
          refine s_callV_i (av := fun ad => [.int (Int32.ofInt (3))]) C dMo_seen_60 mfMo_refused mvMo_refused ln_Mo_283 h0 (by decide) rfl hVw1 (frL_le (by decide)) (cMo_refused hVw1.1 h0) rfl rfl (Nat.le_of_ble_eq_true rfl) ⟨Nat.le_of_ble_eq_true rfl, Nat.le_of_ble_eq_true rfl⟩ ⟨rfl, rfl⟩ ⟨Nat.zero_le _, Nat.zero_le _⟩ (fun Iw13 Jw13 hVw13 hFw13 z_60 p_60 => ?_)
          have tkw13_S_27 : (Iw13 S 27).toInt = (Iw1 S 27).toInt := by rw [(hFw13 S (by rw [hSk.2]; rfl)).1 27]
          have rz_60 := rg z_60
          try dsimp only at p_60
          have hk1_60 : Int32.toInt (Int32.ofInt (3)) = 3 := ofI (by decide)
          exact s_iret C E dMo_seen_63 ⟨Nat.zero_le _, Nat.zero_le _⟩ hVw13 (by (try dsimp only); omega)
      · skip
        exact g_sub (jn_43  Iw1 J0 (by omega) (by omega) (by omega) hVw1) ⟨rfl, rfl, rfl, rfl, rfl, trivial⟩
  · skip
    refine g_aload_n C dMo_seen_14 rfl ?_
    refine g_iconst (v := Int32.ofInt (1)) C dMo_seen_15 (by decide) ?_
    refine s_callV_i (av := fun ad => [.int (Int32.ofInt (1))]) C dMo_seen_16 mfMo_refused mvMo_refused ln_Mo_283 h0 (by decide) rfl hVw1 (frL_le (by decide)) (cMo_refused hVw1.1 h0) rfl rfl (Nat.le_of_ble_eq_true rfl) ⟨Nat.le_of_ble_eq_true rfl, Nat.le_of_ble_eq_true rfl⟩ ⟨rfl, rfl⟩ ⟨Nat.zero_le _, Nat.zero_le _⟩ (fun Iw14 Jw14 hVw14 hFw14 z_16 p_16 => ?_)
    have tkw14_S_27 : (Iw14 S 27).toInt = (Iw1 S 27).toInt := by rw [(hFw14 S (by rw [hSk.2]; rfl)).1 27]
    have rz_16 := rg z_16
    try dsimp only at p_16
    have hk1_16 : Int32.toInt (Int32.ofInt (1)) = 1 := ofI (by decide)
    exact s_iret C E dMo_seen_19 ⟨Nat.zero_le _, Nat.zero_le _⟩ hVw14 (by (try dsimp only); omega)
set_option maxHeartbeats 4000000 in
set_option maxRecDepth 100000 in
theorem cMo_number_Z {P : List Nat} {K : Nat → Nat} {I0 : Nat → Nat → Int32} {O : Nat → Nat → Option Nat} {J0 : Nat → Nat → Int64} (hV : IV P K I0 O) {a0 : Nat} (h0 : a0 ∈ P ∧ K a0 = 10) {x1 : Int32} {x2 : Int32} {S : Nat} (hSo : O a0 16 = some S) (hSk : S ∈ P ∧ K S = 31) {RW : Nat} (hRWo : O a0 33 = some RW) (hRWk : RW ∈ P ∧ K RW = 39) (hMn : O a0 3 = none) : Con yMo_number bMo_number 4 (some .int) ({ frames := 1, cells := 0, slots := 0, locals := 21 } : Room) P K I0 O J0 [.ref a0, .int x1, .int x2] (SPo frM 1 (fun _ I_ => (I_ a0 6).toInt = (I0 a0 6).toInt ∧ (I_ a0 18).toInt = (I0 a0 18).toInt ∧ (I_ S 27).toInt = (I0 S 27).toInt) P K I0 O J0) := by
  refine Con.ofG mfMo_number (Nat.le_of_ble_eq_true rfl) ?_
  intro X C E
  have r1 := rg x1
  have r2 := rg x2
  have ost := hV.2 a0 h0.1 18
  rw [h0.2] at ost
  have ost : 0 ≤ (I0 a0 18).toInt ∧ (I0 a0 18).toInt ≤ 240 := ost
  have oS := hV.2 S hSk.1 27
  rw [hSk.2] at oS
  have oS : 0 ≤ (I0 S 27).toInt ∧ (I0 S 27).toInt ≤ 240 := oS
  have hV0 : SV frM P K O I0 J0 I0 J0 := SV.rf hV
  refine g_aload_n C dMo_number_0 rfl ?_
  refine g_iconst (v := Int32.ofInt (0)) C dMo_number_1 (by decide) ?_
  refine gt_puti C dMo_number_2 fl_Mo_73 h0 hV0 rfl trivial rfl (Or.inl rfl) (fun Iw1 eIw1 hVw1 => ?_)
  have tkw1_a0_6 : (Iw1 a0 6).toInt = (I0 a0 6).toInt := by rw [eIw1, up2_ne _ _ (fun z => absurd z.2 (by decide))]
  have tkw1_a0_18 : (Iw1 a0 18).toInt = (I0 a0 18).toInt := by rw [eIw1, up2_ne _ _ (fun z => absurd z.2 (by decide))]
  have tkw1_S_27 : (Iw1 S 27).toInt = (I0 S 27).toInt := by rw [eIw1, up2_ne _ _ (fun z => by have q := hSk.2; rw [z.1, h0.2] at q; exact absurd q (by decide))]
  refine g_aload_n C dMo_number_5 rfl ?_
  refine gt_getN C dMo_number_6 fl_Mo_290 h0 hMn ?_
  refine g_ifnonnullN C dMo_number_9 ?_
  refine g_aload_n C dMo_number_12 rfl ?_
  refine g_iconst (v := Int32.ofInt (1)) C dMo_number_13 (by decide) ?_
  refine s_callV_i (av := fun ad => [.int (Int32.ofInt (1))]) C dMo_number_14 mfMo_refused mvMo_refused ln_Mo_283 h0 (by decide) rfl hVw1 (frL_le (by decide)) (cMo_refused hVw1.1 h0) rfl rfl (Nat.le_of_ble_eq_true rfl) ⟨Nat.le_of_ble_eq_true rfl, Nat.le_of_ble_eq_true rfl⟩ ⟨rfl, rfl⟩ ⟨Nat.zero_le _, Nat.zero_le _⟩ (fun Iw2 Jw2 hVw2 hFw2 z_14 p_14 => ?_)
  have tkw2_S_27 : (Iw2 S 27).toInt = (Iw1 S 27).toInt := by rw [(hFw2 S (by rw [hSk.2]; rfl)).1 27]
  have rz_14 := rg z_14
  try dsimp only at p_14
  have hk1_14 : Int32.toInt (Int32.ofInt (1)) = 1 := ofI (by decide)
  exact s_iret C E dMo_number_17 ⟨Nat.zero_le _, Nat.zero_le _⟩ hVw2 (by (try dsimp only); omega)
set_option maxHeartbeats 4000000 in
set_option maxRecDepth 100000 in
theorem cMo_number_G {P : List Nat} {K : Nat → Nat} {I0 : Nat → Nat → Int32} {O : Nat → Nat → Option Nat} {J0 : Nat → Nat → Int64} (hV : IV P K I0 O) {a0 : Nat} (h0 : a0 ∈ P ∧ K a0 = 10) {x1 : Int32} {x2 : Int32} {S : Nat} (hSo : O a0 16 = some S) (hSk : S ∈ P ∧ K S = 31) {RW : Nat} (hRWo : O a0 33 = some RW) (hRWk : RW ∈ P ∧ K RW = 39) {M : Nat} (hMo : O a0 3 = some M) (hMk : M ∈ P ∧ K M = 9) (hGM : GM I0 M) : Con yMo_number bMo_number 4 (some .int) ({ frames := 1, cells := 0, slots := 0, locals := 22 } : Room) P K I0 O J0 [.ref a0, .int x1, .int x2] (SPo frM 1 (fun _ I_ => (I_ a0 6).toInt = (I0 a0 6).toInt ∧ (I_ a0 18).toInt = (I0 a0 18).toInt ∧ (I_ S 27).toInt = (I0 S 27).toInt) P K I0 O J0) := by
  refine Con.ofG mfMo_number (Nat.le_of_ble_eq_true rfl) ?_
  intro X C E
  have r1 := rg x1
  have r2 := rg x2
  have ost := hV.2 a0 h0.1 18
  rw [h0.2] at ost
  have ost : 0 ≤ (I0 a0 18).toInt ∧ (I0 a0 18).toInt ≤ 240 := ost
  have oS := hV.2 S hSk.1 27
  rw [hSk.2] at oS
  have oS : 0 ≤ (I0 S 27).toInt ∧ (I0 S 27).toInt ≤ 240 := oS
  have hV0 : SV frM P K O I0 J0 I0 J0 := SV.rf hV
  refine g_aload_n C dMo_number_0 rfl ?_
  refine g_iconst (v := Int32.ofInt (0)) C dMo_number_1 (by decide) ?_
  refine gt_puti C dMo_number_2 fl_Mo_73 h0 hV0 rfl trivial rfl (Or.inl rfl) (fun Iw1 eIw1 hVw1 => ?_)
  have tkw1_a0_6 : (Iw1 a0 6).toInt = (I0 a0 6).toInt := by rw [eIw1, up2_ne _ _ (fun z => absurd z.2 (by decide))]
  have tkw1_a0_18 : (Iw1 a0 18).toInt = (I0 a0 18).toInt := by rw [eIw1, up2_ne _ _ (fun z => absurd z.2 (by decide))]
  have tkw1_S_27 : (Iw1 S 27).toInt = (I0 S 27).toInt := by rw [eIw1, up2_ne _ _ (fun z => by have q := hSk.2; rw [z.1, h0.2] at q; exact absurd q (by decide))]
  refine g_aload_n C dMo_number_5 rfl ?_
  refine gt_getS C dMo_number_6 fl_Mo_290 h0 hMo ?_
  refine g_ifnonnull 18 C dMo_number_9 (by decide) ?_
  refine g_iload_n C dMo_number_18 rfl ?_
  refine g_iconst (v := Int32.ofInt (0)) C dMo_number_19 (by decide) ?_
  refine g_sipush (v := Int32.ofInt (999)) C dMo_number_20 (by decide) ?_
  refine s_callS_zp (av := fun ad => [.int x2, .int (Int32.ofInt (0)), .int (Int32.ofInt (999))]) C dMo_number_23 mfMo_in msMo_in ln_Mo_149 (cMo_in hVw1.1 ) rfl rfl (Nat.le_of_ble_eq_true rfl) ⟨Nat.le_of_ble_eq_true rfl, Nat.le_of_ble_eq_true rfl⟩ ⟨rfl, rfl⟩ ⟨Nat.zero_le _, Nat.zero_le _⟩ (fun z_23 b_23 p_23 => ?_)
  have rz_23 := rg z_23
  have u_23 := b_23
  unfold B01 at u_23
  try dsimp only at p_23
  have hk1_23 : Int32.toInt (Int32.ofInt (0)) = 0 := ofI (by decide)
  have hk2_23 : Int32.toInt (Int32.ofInt (999)) = 999 := ofI (by decide)
  refine gt_if_ne 35 C dMo_number_26 (by decide) rfl (fun c_26 => ?_) (fun c_26 => ?_)
  · skip
    refine g_iload_n C dMo_number_35 rfl ?_
    have jn_44 : ∀  (s0_44 : Int32) (Iw3 : Nat → Nat → Int32) (Jw3 : Nat → Nat → Int64), (0 ≤ Int32.toInt s0_44 ∧ Int32.toInt s0_44 ≤ 1) → (Int32.toInt (Iw3 a0 6) = Int32.toInt (I0 a0 6)) → (Int32.toInt (Iw3 a0 18) = Int32.toInt (I0 a0 18)) → (Int32.toInt (Iw3 S 27) = Int32.toInt (I0 S 27)) → SV frM P K O I0 J0 Iw3 Jw3 → GG X 4 P K Iw3 O Jw3 0 0 44 [(0, .ref a0), (1, .int x1), (2, .int x2)] [.int s0_44] := by
      intro s0_44 Iw3 Jw3 jv0_44 jv1_44 jv2_44 jv3_44 hVw3
      refine g_istore_n (i := 3) C dMo_number_44 rfl (by decide) ?_
      refine g_aload_n C dMo_number_45 rfl ?_
      refine gt_getS C dMo_number_46 fl_Mo_60 h0 hRWo ?_
      refine g_iload_n C dMo_number_49 rfl ?_
      refine gt_iald C dMo_number_50 hRWk (by decide) rfl rfl (n := 2) rfl (by omega) ?_
      have o_50 := hVw3.1.2 RW hRWk.1 s0_44.toNatClampNeg
      rw [hRWk.2] at o_50
      have o_50 : 0 ≤ (Iw3 RW s0_44.toNatClampNeg).toInt ∧ (Iw3 RW s0_44.toNatClampNeg).toInt ≤ 8 := o_50
      refine g_bipush (v := Int32.ofInt (8)) C dMo_number_51 (by decide) ?_
      refine gt_icmp_ne 62 C dMo_number_53 (by decide) rfl (ofI (by decide)) (fun c_53 => ?_) (fun c_53 => ?_)
      · skip
        refine g_aload_n C dMo_number_62 rfl ?_
        refine gt_getr C dMo_number_63 fl_Mo_63 h0 hVw3.1.1 rfl (fun b_63 q_63 hb_63 => ?_)
        refine g_bipush (v := Int32.ofInt (8)) C dMo_number_66 (by decide) ?_
        refine g_iload_n C dMo_number_68 rfl ?_
        first | refine n_imul C dMo_number_69 (ofI (by decide)) rfl (by omega) (fun z_69 e_69 => ?_) | refine a_imul C dMo_number_69 (fun z_69 => ?_)
        refine g_aload_n C dMo_number_70 rfl ?_
        refine gt_getS C dMo_number_71 fl_Mo_60 h0 hRWo ?_
        refine g_iload_n C dMo_number_74 rfl ?_
        refine gt_iald C dMo_number_75 hRWk (by decide) rfl rfl (n := 2) rfl (by omega) ?_
        have o_75 := hVw3.1.2 RW hRWk.1 s0_44.toNatClampNeg
        rw [hRWk.2] at o_75
        have o_75 : 0 ≤ (Iw3 RW s0_44.toNatClampNeg).toInt ∧ (Iw3 RW s0_44.toNatClampNeg).toInt ≤ 8 := o_75
        first | refine n_iadd C dMo_number_76 rfl rfl (by omega) (fun z_76 e_76 => ?_) | refine a_iadd C dMo_number_76 (fun z_76 => ?_)
        refine g_iload_n C dMo_number_77 rfl ?_
        refine gt_iast C dMo_number_78 hb_63 (by decide) rfl rfl (n := 16) rfl (by omega) hVw3 rfl trivial (fun Iw4 eIw4 hVw4 => ?_)
        have tkw4_a0_6 : (Iw4 a0 6).toInt = (Iw3 a0 6).toInt := by rw [eIw4, up2_ne _ _ (fun z => by have q := h0.2; rw [z.1, hb_63.2] at q; exact absurd q (by decide))]
        have tkw4_a0_18 : (Iw4 a0 18).toInt = (Iw3 a0 18).toInt := by rw [eIw4, up2_ne _ _ (fun z => by have q := h0.2; rw [z.1, hb_63.2] at q; exact absurd q (by decide))]
        have tkw4_S_27 : (Iw4 S 27).toInt = (Iw3 S 27).toInt := by rw [eIw4, up2_ne _ _ (fun z => by have q := hSk.2; rw [z.1, hb_63.2] at q; exact absurd q (by decide))]
        have tq : (Iw4 RW s0_44.toNatClampNeg).toInt = (Iw3 RW s0_44.toNatClampNeg).toInt := by rw [eIw4, up2_ne _ _ (fun z => by have q := hRWk.2; rw [z.1, hb_63.2] at q; exact absurd q (by decide))]
        refine g_aload_n C dMo_number_79 rfl ?_
        refine gt_getS C dMo_number_80 fl_Mo_60 h0 hRWo ?_
        refine g_iload_n C dMo_number_83 rfl ?_
        refine g_dup2 C dMo_number_84 rfl rfl ?_
        refine gt_iald C dMo_number_85 hRWk (by decide) rfl rfl (n := 2) rfl (by omega) ?_
        have o_85 := hVw4.1.2 RW hRWk.1 s0_44.toNatClampNeg
        rw [hRWk.2] at o_85
        have o_85 : 0 ≤ (Iw4 RW s0_44.toNatClampNeg).toInt ∧ (Iw4 RW s0_44.toNatClampNeg).toInt ≤ 8 := o_85
        refine g_iconst (v := Int32.ofInt (1)) C dMo_number_86 (by decide) ?_
        first | refine n_iadd C dMo_number_87 rfl (ofI (by decide)) (by omega) (fun z_87 e_87 => ?_) | refine a_iadd C dMo_number_87 (fun z_87 => ?_)
        refine gt_iast C dMo_number_88 hRWk (by decide) rfl rfl (n := 2) rfl (by omega) hVw4 rfl (by show 0 ≤ Int32.toInt _ ∧ Int32.toInt _ ≤ 8; omega) (fun Iw5 eIw5 hVw5 => ?_)
        have tkw5_a0_6 : (Iw5 a0 6).toInt = (Iw4 a0 6).toInt := by rw [eIw5, up2_ne _ _ (fun z => by have q := h0.2; rw [z.1, hRWk.2] at q; exact absurd q (by decide))]
        have tkw5_a0_18 : (Iw5 a0 18).toInt = (Iw4 a0 18).toInt := by rw [eIw5, up2_ne _ _ (fun z => by have q := h0.2; rw [z.1, hRWk.2] at q; exact absurd q (by decide))]
        have tkw5_S_27 : (Iw5 S 27).toInt = (Iw4 S 27).toInt := by rw [eIw5, up2_ne _ _ (fun z => by have q := hSk.2; rw [z.1, hRWk.2] at q; exact absurd q (by decide))]
        refine g_aload_n C dMo_number_89 rfl ?_
        refine g_aload_n C dMo_number_90 rfl ?_
        refine gt_getS C dMo_number_91 fl_Mo_60 h0 hRWo ?_
        refine g_iload_n C dMo_number_94 rfl ?_
        refine gt_iald C dMo_number_95 hRWk (by decide) rfl rfl (n := 2) rfl (by omega) ?_
        have o_95 := hVw5.1.2 RW hRWk.1 s0_44.toNatClampNeg
        rw [hRWk.2] at o_95
        have o_95 : 0 ≤ (Iw5 RW s0_44.toNatClampNeg).toInt ∧ (Iw5 RW s0_44.toNatClampNeg).toInt ≤ 8 := o_95
        refine s_callV_i (av := fun ad => [.int (Iw5 RW s0_44.toNatClampNeg)]) C dMo_number_96 mfMo_done mvMo_done ln_Mo_302 h0 (by decide) rfl hVw5 (frL_le (by decide)) (cMo_done hVw5.1 h0) rfl rfl (Nat.le_of_ble_eq_true rfl) ⟨Nat.le_of_ble_eq_true rfl, Nat.le_of_ble_eq_true rfl⟩ ⟨rfl, rfl⟩ ⟨Nat.zero_le _, Nat.zero_le _⟩ (fun Iw6 Jw6 hVw6 hFw6 z_96 p_96 => ?_)
        have tkw6_S_27 : (Iw6 S 27).toInt = (Iw5 S 27).toInt := by rw [(hFw6 S (by rw [hSk.2]; rfl)).1 27]
        have rz_96 := rg z_96
        try dsimp only at p_96
        exact s_iret C E dMo_number_99 ⟨Nat.zero_le _, Nat.zero_le _⟩ hVw6 (by (try dsimp only); omega)
      · skip
        refine g_aload_n C dMo_number_56 rfl ?_
        refine g_iconst (v := Int32.ofInt (3)) C dMo_number_57 (by decide) ?_
        refine s_callV_i (av := fun ad => [.int (Int32.ofInt (3))]) C dMo_number_58 mfMo_refused mvMo_refused ln_Mo_283 h0 (by decide) rfl hVw3 (frL_le (by decide)) (cMo_refused hVw3.1 h0) rfl rfl (Nat.le_of_ble_eq_true rfl) ⟨Nat.le_of_ble_eq_true rfl, Nat.le_of_ble_eq_true rfl⟩ ⟨rfl, rfl⟩ ⟨Nat.zero_le _, Nat.zero_le _⟩ (fun Iw7 Jw7 hVw7 hFw7 z_58 p_58 => ?_)
        have tkw7_S_27 : (Iw7 S 27).toInt = (Iw3 S 27).toInt := by rw [(hFw7 S (by rw [hSk.2]; rfl)).1 27]
        have rz_58 := rg z_58
        try dsimp only at p_58
        have hk1_58 : Int32.toInt (Int32.ofInt (3)) = 3 := ofI (by decide)
        exact s_iret C E dMo_number_61 ⟨Nat.zero_le _, Nat.zero_le _⟩ hVw7 (by (try dsimp only); omega)
    refine gt_if_eq 43 C dMo_number_36 (by decide) rfl (fun c_36 => ?_) (fun c_36 => ?_)
    · skip
      refine g_iconst (v := Int32.ofInt (0)) C dMo_number_43 (by decide) ?_
      exact g_sub (jn_44 (Int32.ofInt (0)) Iw1 J0 (by have hci : Int32.toInt (Int32.ofInt (0)) = 0 := ofI (by decide); omega) (by omega) (by omega) (by omega) hVw1) ⟨rfl, rfl, rfl, trivial⟩
    · skip
      refine g_iconst (v := Int32.ofInt (1)) C dMo_number_39 (by decide) ?_
      refine g_goto 44 C dMo_number_40 (by decide) ?_
      exact g_sub (jn_44 (Int32.ofInt (1)) Iw1 J0 (by have hci : Int32.toInt (Int32.ofInt (1)) = 1 := ofI (by decide); omega) (by omega) (by omega) (by omega) hVw1) ⟨rfl, rfl, rfl, trivial⟩
  · skip
    refine g_aload_n C dMo_number_29 rfl ?_
    refine g_iconst (v := Int32.ofInt (2)) C dMo_number_30 (by decide) ?_
    refine s_callV_i (av := fun ad => [.int (Int32.ofInt (2))]) C dMo_number_31 mfMo_refused mvMo_refused ln_Mo_283 h0 (by decide) rfl hVw1 (frL_le (by decide)) (cMo_refused hVw1.1 h0) rfl rfl (Nat.le_of_ble_eq_true rfl) ⟨Nat.le_of_ble_eq_true rfl, Nat.le_of_ble_eq_true rfl⟩ ⟨rfl, rfl⟩ ⟨Nat.zero_le _, Nat.zero_le _⟩ (fun Iw8 Jw8 hVw8 hFw8 z_31 p_31 => ?_)
    have tkw8_S_27 : (Iw8 S 27).toInt = (Iw1 S 27).toInt := by rw [(hFw8 S (by rw [hSk.2]; rfl)).1 27]
    have rz_31 := rg z_31
    try dsimp only at p_31
    have hk1_31 : Int32.toInt (Int32.ofInt (2)) = 2 := ofI (by decide)
    exact s_iret C E dMo_number_34 ⟨Nat.zero_le _, Nat.zero_le _⟩ hVw8 (by (try dsimp only); omega)
set_option maxHeartbeats 4000000 in
set_option maxRecDepth 100000 in
theorem cMo_size_Z {P : List Nat} {K : Nat → Nat} {I0 : Nat → Nat → Int32} {O : Nat → Nat → Option Nat} {J0 : Nat → Nat → Int64} (hV : IV P K I0 O) {a0 : Nat} (h0 : a0 ∈ P ∧ K a0 = 10) {x1 : Int32} {S : Nat} (hSo : O a0 16 = some S) (hSk : S ∈ P ∧ K S = 31) (hMn : O a0 3 = none) : Con yMo_size bMo_size 2 (some .int) ({ frames := 1, cells := 0, slots := 0, locals := 22 } : Room) P K I0 O J0 [.ref a0, .int x1] (SPo frM 1 (fun _ I_ => (I_ a0 6).toInt = (I0 a0 6).toInt ∧ (I_ a0 18).toInt = (I0 a0 18).toInt ∧ (I_ S 27).toInt = (I0 S 27).toInt) P K I0 O J0) := by
  refine Con.ofG mfMo_size (Nat.le_of_ble_eq_true rfl) ?_
  intro X C E
  have r1 := rg x1
  have ost := hV.2 a0 h0.1 18
  rw [h0.2] at ost
  have ost : 0 ≤ (I0 a0 18).toInt ∧ (I0 a0 18).toInt ≤ 240 := ost
  have oS := hV.2 S hSk.1 27
  rw [hSk.2] at oS
  have oS : 0 ≤ (I0 S 27).toInt ∧ (I0 S 27).toInt ≤ 240 := oS
  have hV0 : SV frM P K O I0 J0 I0 J0 := SV.rf hV
  refine g_aload_n C dMo_size_0 rfl ?_
  refine g_iconst (v := Int32.ofInt (0)) C dMo_size_1 (by decide) ?_
  refine gt_puti C dMo_size_2 fl_Mo_73 h0 hV0 rfl trivial rfl (Or.inl rfl) (fun Iw1 eIw1 hVw1 => ?_)
  have tkw1_a0_6 : (Iw1 a0 6).toInt = (I0 a0 6).toInt := by rw [eIw1, up2_ne _ _ (fun z => absurd z.2 (by decide))]
  have tkw1_a0_18 : (Iw1 a0 18).toInt = (I0 a0 18).toInt := by rw [eIw1, up2_ne _ _ (fun z => absurd z.2 (by decide))]
  have tkw1_S_27 : (Iw1 S 27).toInt = (I0 S 27).toInt := by rw [eIw1, up2_ne _ _ (fun z => by have q := hSk.2; rw [z.1, h0.2] at q; exact absurd q (by decide))]
  refine g_iload_n C dMo_size_5 rfl ?_
  refine g_bipush (v := Int32.ofInt (11)) C dMo_size_6 (by decide) ?_
  refine gt_icmp_ne 16 C dMo_size_8 (by decide) rfl (ofI (by decide)) (fun c_8 => ?_) (fun c_8 => ?_)
  · skip
    refine g_iload_n C dMo_size_16 rfl ?_
    refine g_iconst (v := Int32.ofInt (0)) C dMo_size_17 (by decide) ?_
    refine g_bipush (v := Int32.ofInt (10)) C dMo_size_18 (by decide) ?_
    refine s_callS_zp (av := fun ad => [.int x1, .int (Int32.ofInt (0)), .int (Int32.ofInt (10))]) C dMo_size_20 mfMo_in msMo_in ln_Mo_149 (cMo_in hVw1.1 ) rfl rfl (Nat.le_of_ble_eq_true rfl) ⟨Nat.le_of_ble_eq_true rfl, Nat.le_of_ble_eq_true rfl⟩ ⟨rfl, rfl⟩ ⟨Nat.zero_le _, Nat.zero_le _⟩ (fun z_20 b_20 p_20 => ?_)
    have rz_20 := rg z_20
    have u_20 := b_20
    unfold B01 at u_20
    try dsimp only at p_20
    have hk1_20 : Int32.toInt (Int32.ofInt (0)) = 0 := ofI (by decide)
    have hk2_20 : Int32.toInt (Int32.ofInt (10)) = 10 := ofI (by decide)
    refine gt_if_ne 28 C dMo_size_23 (by decide) rfl (fun c_23 => ?_) (fun c_23 => ?_)
    · skip
      refine g_aload_n C dMo_size_28 rfl ?_
      refine gt_getN C dMo_size_29 fl_Mo_290 h0 hMn ?_
      refine g_ifnonnullN C dMo_size_32 ?_
      refine g_iconst (v := Int32.ofInt (0)) C dMo_size_35 (by decide) ?_
      exact s_iret C E dMo_size_36 ⟨Nat.zero_le _, Nat.zero_le _⟩ hVw1 (by have hci : Int32.toInt (Int32.ofInt (0)) = 0 := ofI (by decide); (try dsimp only); omega)
    · skip
      refine g_iconst (v := Int32.ofInt (-1)) C dMo_size_26 (by decide) ?_
      exact s_iret C E dMo_size_27 ⟨Nat.zero_le _, Nat.zero_le _⟩ hVw1 (by have hci : Int32.toInt (Int32.ofInt (-1)) = -1 := ofI (by decide); (try dsimp only); omega)
  · skip
    refine g_aload_n C dMo_size_11 rfl ?_
    refine g_geti C dMo_size_12 fl_Mo_280 h0 ?_
    exact s_iret C E dMo_size_15 ⟨Nat.zero_le _, Nat.zero_le _⟩ hVw1 (by (try dsimp only); omega)
set_option maxHeartbeats 4000000 in
set_option maxRecDepth 100000 in
theorem cMo_size_G {P : List Nat} {K : Nat → Nat} {I0 : Nat → Nat → Int32} {O : Nat → Nat → Option Nat} {J0 : Nat → Nat → Int64} (hV : IV P K I0 O) {a0 : Nat} (h0 : a0 ∈ P ∧ K a0 = 10) {x1 : Int32} {S : Nat} (hSo : O a0 16 = some S) (hSk : S ∈ P ∧ K S = 31) {M : Nat} (hMo : O a0 3 = some M) (hMk : M ∈ P ∧ K M = 9) (hGM : GM I0 M) : Con yMo_size bMo_size 2 (some .int) ({ frames := 1, cells := 0, slots := 0, locals := 22 } : Room) P K I0 O J0 [.ref a0, .int x1] (SPo frM 1 (fun _ I_ => (I_ a0 6).toInt = (I0 a0 6).toInt ∧ (I_ a0 18).toInt = (I0 a0 18).toInt ∧ (I_ S 27).toInt = (I0 S 27).toInt) P K I0 O J0) := by
  refine Con.ofG mfMo_size (Nat.le_of_ble_eq_true rfl) ?_
  intro X C E
  have r1 := rg x1
  have ost := hV.2 a0 h0.1 18
  rw [h0.2] at ost
  have ost : 0 ≤ (I0 a0 18).toInt ∧ (I0 a0 18).toInt ≤ 240 := ost
  have oS := hV.2 S hSk.1 27
  rw [hSk.2] at oS
  have oS : 0 ≤ (I0 S 27).toInt ∧ (I0 S 27).toInt ≤ 240 := oS
  have hV0 : SV frM P K O I0 J0 I0 J0 := SV.rf hV
  refine g_aload_n C dMo_size_0 rfl ?_
  refine g_iconst (v := Int32.ofInt (0)) C dMo_size_1 (by decide) ?_
  refine gt_puti C dMo_size_2 fl_Mo_73 h0 hV0 rfl trivial rfl (Or.inl rfl) (fun Iw1 eIw1 hVw1 => ?_)
  have tkw1_a0_6 : (Iw1 a0 6).toInt = (I0 a0 6).toInt := by rw [eIw1, up2_ne _ _ (fun z => absurd z.2 (by decide))]
  have tkw1_a0_18 : (Iw1 a0 18).toInt = (I0 a0 18).toInt := by rw [eIw1, up2_ne _ _ (fun z => absurd z.2 (by decide))]
  have tkw1_S_27 : (Iw1 S 27).toInt = (I0 S 27).toInt := by rw [eIw1, up2_ne _ _ (fun z => by have q := hSk.2; rw [z.1, h0.2] at q; exact absurd q (by decide))]
  refine g_iload_n C dMo_size_5 rfl ?_
  refine g_bipush (v := Int32.ofInt (11)) C dMo_size_6 (by decide) ?_
  refine gt_icmp_ne 16 C dMo_size_8 (by decide) rfl (ofI (by decide)) (fun c_8 => ?_) (fun c_8 => ?_)
  · skip
    refine g_iload_n C dMo_size_16 rfl ?_
    refine g_iconst (v := Int32.ofInt (0)) C dMo_size_17 (by decide) ?_
    refine g_bipush (v := Int32.ofInt (10)) C dMo_size_18 (by decide) ?_
    refine s_callS_zp (av := fun ad => [.int x1, .int (Int32.ofInt (0)), .int (Int32.ofInt (10))]) C dMo_size_20 mfMo_in msMo_in ln_Mo_149 (cMo_in hVw1.1 ) rfl rfl (Nat.le_of_ble_eq_true rfl) ⟨Nat.le_of_ble_eq_true rfl, Nat.le_of_ble_eq_true rfl⟩ ⟨rfl, rfl⟩ ⟨Nat.zero_le _, Nat.zero_le _⟩ (fun z_20 b_20 p_20 => ?_)
    have rz_20 := rg z_20
    have u_20 := b_20
    unfold B01 at u_20
    try dsimp only at p_20
    have hk1_20 : Int32.toInt (Int32.ofInt (0)) = 0 := ofI (by decide)
    have hk2_20 : Int32.toInt (Int32.ofInt (10)) = 10 := ofI (by decide)
    refine gt_if_ne 28 C dMo_size_23 (by decide) rfl (fun c_23 => ?_) (fun c_23 => ?_)
    · skip
      refine g_aload_n C dMo_size_28 rfl ?_
      refine gt_getS C dMo_size_29 fl_Mo_290 h0 hMo ?_
      refine g_ifnonnull 37 C dMo_size_32 (by decide) ?_
      refine g_iload_n C dMo_size_37 rfl ?_
      by_cases q_38 : x1.toInt < 0 ∨ 9 < x1.toInt
      · refine g_tOut 172 C dMo_size_38 q_38 (by decide) ?_
        refine g_aload_n C dMo_size_172 rfl ?_
        refine g_geti C dMo_size_173 fl_Mo_293 h0 ?_
        exact s_iret C E dMo_size_176 ⟨Nat.zero_le _, Nat.zero_le _⟩ hVw1 (by (try dsimp only); omega)
      rcases (show x1.toInt = 0 ∨ x1.toInt = 1 ∨ x1.toInt = 2 ∨ x1.toInt = 3 ∨ x1.toInt = 4 ∨ x1.toInt = 5 ∨ x1.toInt = 6 ∨ x1.toInt = 7 ∨ x1.toInt = 8 ∨ x1.toInt = 9 by omega) with q_38 | q_38 | q_38 | q_38 | q_38 | q_38 | q_38 | q_38 | q_38 | q_38
      · refine g_tIn 92 C dMo_size_38 (by omega) (by omega) (by rw [q_38]; rfl) (by decide) ?_
        refine g_aload_n C dMo_size_92 rfl ?_
        refine gt_getS C dMo_size_93 fl_Mo_290 h0 hMo ?_
        refine g_geti C dMo_size_96 fl_Mo_191 hMk ?_
        exact s_iret C E dMo_size_99 ⟨Nat.zero_le _, Nat.zero_le _⟩ hVw1 (by (try dsimp only); omega)
      · refine g_tIn 100 C dMo_size_38 (by omega) (by omega) (by rw [q_38]; rfl) (by decide) ?_
        refine g_aload_n C dMo_size_100 rfl ?_
        refine gt_getS C dMo_size_101 fl_Mo_290 h0 hMo ?_
        refine g_geti C dMo_size_104 fl_Mo_194 hMk ?_
        exact s_iret C E dMo_size_107 ⟨Nat.zero_le _, Nat.zero_le _⟩ hVw1 (by (try dsimp only); omega)
      · refine g_tIn 108 C dMo_size_38 (by omega) (by omega) (by rw [q_38]; rfl) (by decide) ?_
        refine g_aload_n C dMo_size_108 rfl ?_
        refine gt_getS C dMo_size_109 fl_Mo_290 h0 hMo ?_
        refine g_geti C dMo_size_112 fl_Mo_176 hMk ?_
        have gm_112 : 1 ≤ (Iw1 M 0).toInt := (hGM.keep (hVw1.2 M (by rw [hMk.2]; rfl)).1).1
        exact s_iret C E dMo_size_115 ⟨Nat.zero_le _, Nat.zero_le _⟩ hVw1 (by (try dsimp only); omega)
      · refine g_tIn 116 C dMo_size_38 (by omega) (by omega) (by rw [q_38]; rfl) (by decide) ?_
        refine g_aload_n C dMo_size_116 rfl ?_
        refine gt_getS C dMo_size_117 fl_Mo_290 h0 hMo ?_
        refine g_geti C dMo_size_120 fl_Mo_233 hMk ?_
        exact s_iret C E dMo_size_123 ⟨Nat.zero_le _, Nat.zero_le _⟩ hVw1 (by (try dsimp only); omega)
      · refine g_tIn 124 C dMo_size_38 (by omega) (by omega) (by rw [q_38]; rfl) (by decide) ?_
        refine g_aload_n C dMo_size_124 rfl ?_
        refine gt_getS C dMo_size_125 fl_Mo_290 h0 hMo ?_
        refine g_geti C dMo_size_128 fl_Mo_181 hMk ?_
        exact s_iret C E dMo_size_131 ⟨Nat.zero_le _, Nat.zero_le _⟩ hVw1 (by (try dsimp only); omega)
      · refine g_tIn 132 C dMo_size_38 (by omega) (by omega) (by rw [q_38]; rfl) (by decide) ?_
        refine g_aload_n C dMo_size_132 rfl ?_
        refine gt_getS C dMo_size_133 fl_Mo_290 h0 hMo ?_
        refine g_geti C dMo_size_136 fl_Mo_248 hMk ?_
        exact s_iret C E dMo_size_139 ⟨Nat.zero_le _, Nat.zero_le _⟩ hVw1 (by (try dsimp only); omega)
      · refine g_tIn 140 C dMo_size_38 (by omega) (by omega) (by rw [q_38]; rfl) (by decide) ?_
        refine g_aload_n C dMo_size_140 rfl ?_
        refine gt_getS C dMo_size_141 fl_Mo_290 h0 hMo ?_
        refine g_geti C dMo_size_144 fl_Mo_183 hMk ?_
        have gm_144 : 1 ≤ (Iw1 M 4).toInt := (hGM.keep (hVw1.2 M (by rw [hMk.2]; rfl)).1).2.1
        exact s_iret C E dMo_size_147 ⟨Nat.zero_le _, Nat.zero_le _⟩ hVw1 (by (try dsimp only); omega)
      · refine g_tIn 148 C dMo_size_38 (by omega) (by omega) (by rw [q_38]; rfl) (by decide) ?_
        refine g_aload_n C dMo_size_148 rfl ?_
        refine gt_getS C dMo_size_149 fl_Mo_290 h0 hMo ?_
        refine g_geti C dMo_size_152 fl_Mo_186 hMk ?_
        exact s_iret C E dMo_size_155 ⟨Nat.zero_le _, Nat.zero_le _⟩ hVw1 (by (try dsimp only); omega)
      · refine g_tIn 156 C dMo_size_38 (by omega) (by omega) (by rw [q_38]; rfl) (by decide) ?_
        refine g_aload_n C dMo_size_156 rfl ?_
        refine gt_getS C dMo_size_157 fl_Mo_290 h0 hMo ?_
        refine g_geti C dMo_size_160 fl_Mo_252 hMk ?_
        exact s_iret C E dMo_size_163 ⟨Nat.zero_le _, Nat.zero_le _⟩ hVw1 (by (try dsimp only); omega)
      · refine g_tIn 164 C dMo_size_38 (by omega) (by omega) (by rw [q_38]; rfl) (by decide) ?_
        refine g_aload_n C dMo_size_164 rfl ?_
        refine gt_getS C dMo_size_165 fl_Mo_290 h0 hMo ?_
        refine g_geti C dMo_size_168 fl_Mo_188 hMk ?_
        have gm_168 : 1 ≤ (Iw1 M 7).toInt := (hGM.keep (hVw1.2 M (by rw [hMk.2]; rfl)).1).2.2
        exact s_iret C E dMo_size_171 ⟨Nat.zero_le _, Nat.zero_le _⟩ hVw1 (by (try dsimp only); omega)
    · skip
      refine g_iconst (v := Int32.ofInt (-1)) C dMo_size_26 (by decide) ?_
      exact s_iret C E dMo_size_27 ⟨Nat.zero_le _, Nat.zero_le _⟩ hVw1 (by have hci : Int32.toInt (Int32.ofInt (-1)) = -1 := ofI (by decide); (try dsimp only); omega)
  · skip
    refine g_aload_n C dMo_size_11 rfl ?_
    refine g_geti C dMo_size_12 fl_Mo_280 h0 ?_
    exact s_iret C E dMo_size_15 ⟨Nat.zero_le _, Nat.zero_le _⟩ hVw1 (by (try dsimp only); omega)
