set_option maxHeartbeats 4000000 in
set_option maxRecDepth 100000 in
theorem cMo_sumOf_G {P : List Nat} {K : Nat → Nat} {I0 : Nat → Nat → Int32} {O : Nat → Nat → Option Nat} {J0 : Nat → Nat → Int64} (hV : IV P K I0 O) {a0 : Nat} (h0 : a0 ∈ P ∧ K a0 = 10) {a1 : Nat} (h1 : a1 ∈ P ∧ K a1 = 31) {x2 : Int32} {M : Nat} (hMo : O a0 3 = some M) (hMk : M ∈ P ∧ K M = 9) (hGM : GM I0 M) (pr0 : 0 ≤ Int32.toInt x2 ∧ Int32.toInt x2 ≤ 30) : Con yMo_sumOf bMo_sumOf 5 (some .int) ({ frames := 0, cells := 0, slots := 0, locals := 0 } : Room) P K I0 O J0 [.ref a0, .ref a1, .int x2] (SPo frP 1 (tt) P K I0 O J0) := by
  refine Con.ofG mfMo_sumOf (Nat.le_of_ble_eq_true rfl) ?_
  intro X C E
  have r2 := rg x2
  have hV0 : SV frP P K O I0 J0 I0 J0 := SV.rf hV
  refine g_iconst (v := Int32.ofInt (0)) C dMo_sumOf_0 (by decide) ?_
  refine g_istore_n (i := 3) C dMo_sumOf_1 rfl (by decide) ?_
  refine g_iconst (v := Int32.ofInt (0)) C dMo_sumOf_2 (by decide) ?_
  refine g_istore C dMo_sumOf_3 (by decide) ?_
  have lp_5 : ∀ (nn_5 : Nat) (x3_5 : Int32) (x4_5 : Int32), Int.toNat (5 - x4_5.toInt) = nn_5 → (0 ≤ Int32.toInt x4_5 ∧ Int32.toInt x4_5 ≤ 5) → GG X 5 P K I0 O J0 0 0 5 [(0, .ref a0), (1, .ref a1), (2, .int x2), (3, .int x3_5), (4, .int x4_5)] [] := by
    intro nn_5
    induction nn_5 using Nat.strongRecOn with
    | ind nn_5 ih_5 =>
    intro x3_5 x4_5  hn_5 iv0_5 
    have rg3_5 := rg x3_5
    have rg4_5 := rg x4_5
    refine g_iload C dMo_sumOf_5 rfl ?_
    refine g_aload_n C dMo_sumOf_7 rfl ?_
    refine gt_getS C dMo_sumOf_8 fl_Mo_290 h0 hMo ?_
    refine g_geti C dMo_sumOf_11 fl_Mo_191 hMk ?_
    have o_11 := hV0.1.2 M hMk.1 8
    rw [hMk.2] at o_11
    have o_11 : 0 ≤ (I0 M 8).toInt ∧ (I0 M 8).toInt ≤ 5 := o_11
    refine gt_icmp_ge 32 C dMo_sumOf_14 (by decide) rfl rfl (fun c_14 => ?_) (fun c_14 => ?_)
    · skip
      refine g_iload_n C dMo_sumOf_32 rfl ?_
      exact s_iret C E dMo_sumOf_33 ⟨Nat.zero_le _, Nat.zero_le _⟩ hV0 trivial
    · skip
      refine g_iload_n C dMo_sumOf_17 rfl ?_
      refine g_aload_n C dMo_sumOf_18 rfl ?_
      refine g_iload_n C dMo_sumOf_19 rfl ?_
      refine g_iload C dMo_sumOf_20 rfl ?_
      first | refine n_iadd C dMo_sumOf_22 rfl rfl (by omega) (fun z_22 e_22 => ?_) | refine a_iadd C dMo_sumOf_22 (fun z_22 => ?_)
      refine gt_iald C dMo_sumOf_23 h1 (by decide) rfl rfl (n := 37) rfl (by omega) ?_
      first | refine n_iadd C dMo_sumOf_24 rfl rfl (by omega) (fun z_24 e_24 => ?_) | refine a_iadd C dMo_sumOf_24 (fun z_24 => ?_)
      refine g_istore_n (i := 3) C dMo_sumOf_25 rfl (by decide) ?_
      first | refine n_iinc C dMo_sumOf_26 rfl rfl (by decide) (by decide) (by omega) (fun z_26 e_26 => ?_) | refine a_iinc C dMo_sumOf_26 rfl (by decide) (fun z_26 => ?_)
      refine g_goto 5 C dMo_sumOf_29 (by decide) ?_
      exact g_sub (ih_5 _ (by omega) z_24 z_26  rfl (by omega) ) ⟨rfl, rfl, rfl, rfl, rfl, trivial⟩
  exact g_sub (lp_5 _ (Int32.ofInt (0)) (Int32.ofInt (0))  rfl (by have hci : Int32.toInt (Int32.ofInt (0)) = 0 := ofI (by decide); omega) ) ⟨rfl, rfl, rfl, rfl, rfl, trivial⟩
set_option maxHeartbeats 4000000 in
set_option maxRecDepth 100000 in
theorem cMo_sumOf_G49 {P : List Nat} {K : Nat → Nat} {I0 : Nat → Nat → Int32} {O : Nat → Nat → Option Nat} {J0 : Nat → Nat → Int64} (hV : IV P K I0 O) {a0 : Nat} (h0 : a0 ∈ P ∧ K a0 = 10) {a1 : Nat} (h1 : a1 ∈ P ∧ K a1 = 49) {x2 : Int32} {M : Nat} (hMo : O a0 3 = some M) (hMk : M ∈ P ∧ K M = 9) (hGM : GM I0 M) (pr0 : 0 ≤ Int32.toInt x2 ∧ Int32.toInt x2 ≤ 30) : Con yMo_sumOf bMo_sumOf 5 (some .int) ({ frames := 0, cells := 0, slots := 0, locals := 0 } : Room) P K I0 O J0 [.ref a0, .ref a1, .int x2] (SPo frP 1 (tt) P K I0 O J0) := by
  refine Con.ofG mfMo_sumOf (Nat.le_of_ble_eq_true rfl) ?_
  intro X C E
  have r2 := rg x2
  have hV0 : SV frP P K O I0 J0 I0 J0 := SV.rf hV
  refine g_iconst (v := Int32.ofInt (0)) C dMo_sumOf_0 (by decide) ?_
  refine g_istore_n (i := 3) C dMo_sumOf_1 rfl (by decide) ?_
  refine g_iconst (v := Int32.ofInt (0)) C dMo_sumOf_2 (by decide) ?_
  refine g_istore C dMo_sumOf_3 (by decide) ?_
  have lp_5 : ∀ (nn_5 : Nat) (x3_5 : Int32) (x4_5 : Int32), Int.toNat (5 - x4_5.toInt) = nn_5 → (0 ≤ Int32.toInt x4_5 ∧ Int32.toInt x4_5 ≤ 5) → GG X 5 P K I0 O J0 0 0 5 [(0, .ref a0), (1, .ref a1), (2, .int x2), (3, .int x3_5), (4, .int x4_5)] [] := by
    intro nn_5
    induction nn_5 using Nat.strongRecOn with
    | ind nn_5 ih_5 =>
    intro x3_5 x4_5  hn_5 iv0_5 
    have rg3_5 := rg x3_5
    have rg4_5 := rg x4_5
    refine g_iload C dMo_sumOf_5 rfl ?_
    refine g_aload_n C dMo_sumOf_7 rfl ?_
    refine gt_getS C dMo_sumOf_8 fl_Mo_290 h0 hMo ?_
    refine g_geti C dMo_sumOf_11 fl_Mo_191 hMk ?_
    have o_11 := hV0.1.2 M hMk.1 8
    rw [hMk.2] at o_11
    have o_11 : 0 ≤ (I0 M 8).toInt ∧ (I0 M 8).toInt ≤ 5 := o_11
    refine gt_icmp_ge 32 C dMo_sumOf_14 (by decide) rfl rfl (fun c_14 => ?_) (fun c_14 => ?_)
    · skip
      refine g_iload_n C dMo_sumOf_32 rfl ?_
      exact s_iret C E dMo_sumOf_33 ⟨Nat.zero_le _, Nat.zero_le _⟩ hV0 trivial
    · skip
      refine g_iload_n C dMo_sumOf_17 rfl ?_
      refine g_aload_n C dMo_sumOf_18 rfl ?_
      refine g_iload_n C dMo_sumOf_19 rfl ?_
      refine g_iload C dMo_sumOf_20 rfl ?_
      first | refine n_iadd C dMo_sumOf_22 rfl rfl (by omega) (fun z_22 e_22 => ?_) | refine a_iadd C dMo_sumOf_22 (fun z_22 => ?_)
      refine gt_iald C dMo_sumOf_23 h1 (by decide) rfl rfl (n := 37) rfl (by omega) ?_
      first | refine n_iadd C dMo_sumOf_24 rfl rfl (by omega) (fun z_24 e_24 => ?_) | refine a_iadd C dMo_sumOf_24 (fun z_24 => ?_)
      refine g_istore_n (i := 3) C dMo_sumOf_25 rfl (by decide) ?_
      first | refine n_iinc C dMo_sumOf_26 rfl rfl (by decide) (by decide) (by omega) (fun z_26 e_26 => ?_) | refine a_iinc C dMo_sumOf_26 rfl (by decide) (fun z_26 => ?_)
      refine g_goto 5 C dMo_sumOf_29 (by decide) ?_
      exact g_sub (ih_5 _ (by omega) z_24 z_26  rfl (by omega) ) ⟨rfl, rfl, rfl, rfl, rfl, trivial⟩
  exact g_sub (lp_5 _ (Int32.ofInt (0)) (Int32.ofInt (0))  rfl (by have hci : Int32.toInt (Int32.ofInt (0)) = 0 := ofI (by decide); omega) ) ⟨rfl, rfl, rfl, rfl, rfl, trivial⟩
set_option maxHeartbeats 4000000 in
set_option maxRecDepth 100000 in
theorem cMo_sumOf_G50 {P : List Nat} {K : Nat → Nat} {I0 : Nat → Nat → Int32} {O : Nat → Nat → Option Nat} {J0 : Nat → Nat → Int64} (hV : IV P K I0 O) {a0 : Nat} (h0 : a0 ∈ P ∧ K a0 = 10) {a1 : Nat} (h1 : a1 ∈ P ∧ K a1 = 50) {x2 : Int32} {M : Nat} (hMo : O a0 3 = some M) (hMk : M ∈ P ∧ K M = 9) (hGM : GM I0 M) (pr0 : 0 ≤ Int32.toInt x2 ∧ Int32.toInt x2 ≤ 30) : Con yMo_sumOf bMo_sumOf 5 (some .int) ({ frames := 0, cells := 0, slots := 0, locals := 0 } : Room) P K I0 O J0 [.ref a0, .ref a1, .int x2] (SPo frP 1 (tt) P K I0 O J0) := by
  refine Con.ofG mfMo_sumOf (Nat.le_of_ble_eq_true rfl) ?_
  intro X C E
  have r2 := rg x2
  have hV0 : SV frP P K O I0 J0 I0 J0 := SV.rf hV
  refine g_iconst (v := Int32.ofInt (0)) C dMo_sumOf_0 (by decide) ?_
  refine g_istore_n (i := 3) C dMo_sumOf_1 rfl (by decide) ?_
  refine g_iconst (v := Int32.ofInt (0)) C dMo_sumOf_2 (by decide) ?_
  refine g_istore C dMo_sumOf_3 (by decide) ?_
  have lp_5 : ∀ (nn_5 : Nat) (x3_5 : Int32) (x4_5 : Int32), Int.toNat (5 - x4_5.toInt) = nn_5 → (0 ≤ Int32.toInt x4_5 ∧ Int32.toInt x4_5 ≤ 5) → GG X 5 P K I0 O J0 0 0 5 [(0, .ref a0), (1, .ref a1), (2, .int x2), (3, .int x3_5), (4, .int x4_5)] [] := by
    intro nn_5
    induction nn_5 using Nat.strongRecOn with
    | ind nn_5 ih_5 =>
    intro x3_5 x4_5  hn_5 iv0_5 
    have rg3_5 := rg x3_5
    have rg4_5 := rg x4_5
    refine g_iload C dMo_sumOf_5 rfl ?_
    refine g_aload_n C dMo_sumOf_7 rfl ?_
    refine gt_getS C dMo_sumOf_8 fl_Mo_290 h0 hMo ?_
    refine g_geti C dMo_sumOf_11 fl_Mo_191 hMk ?_
    have o_11 := hV0.1.2 M hMk.1 8
    rw [hMk.2] at o_11
    have o_11 : 0 ≤ (I0 M 8).toInt ∧ (I0 M 8).toInt ≤ 5 := o_11
    refine gt_icmp_ge 32 C dMo_sumOf_14 (by decide) rfl rfl (fun c_14 => ?_) (fun c_14 => ?_)
    · skip
      refine g_iload_n C dMo_sumOf_32 rfl ?_
      exact s_iret C E dMo_sumOf_33 ⟨Nat.zero_le _, Nat.zero_le _⟩ hV0 trivial
    · skip
      refine g_iload_n C dMo_sumOf_17 rfl ?_
      refine g_aload_n C dMo_sumOf_18 rfl ?_
      refine g_iload_n C dMo_sumOf_19 rfl ?_
      refine g_iload C dMo_sumOf_20 rfl ?_
      first | refine n_iadd C dMo_sumOf_22 rfl rfl (by omega) (fun z_22 e_22 => ?_) | refine a_iadd C dMo_sumOf_22 (fun z_22 => ?_)
      refine gt_iald C dMo_sumOf_23 h1 (by decide) rfl rfl (n := 37) rfl (by omega) ?_
      first | refine n_iadd C dMo_sumOf_24 rfl rfl (by omega) (fun z_24 e_24 => ?_) | refine a_iadd C dMo_sumOf_24 (fun z_24 => ?_)
      refine g_istore_n (i := 3) C dMo_sumOf_25 rfl (by decide) ?_
      first | refine n_iinc C dMo_sumOf_26 rfl rfl (by decide) (by decide) (by omega) (fun z_26 e_26 => ?_) | refine a_iinc C dMo_sumOf_26 rfl (by decide) (fun z_26 => ?_)
      refine g_goto 5 C dMo_sumOf_29 (by decide) ?_
      exact g_sub (ih_5 _ (by omega) z_24 z_26  rfl (by omega) ) ⟨rfl, rfl, rfl, rfl, rfl, trivial⟩
  exact g_sub (lp_5 _ (Int32.ofInt (0)) (Int32.ofInt (0))  rfl (by have hci : Int32.toInt (Int32.ofInt (0)) = 0 := ofI (by decide); omega) ) ⟨rfl, rfl, rfl, rfl, rfl, trivial⟩
set_option maxHeartbeats 4000000 in
set_option maxRecDepth 100000 in
theorem cMo_effectOf_G {P : List Nat} {K : Nat → Nat} {I0 : Nat → Nat → Int32} {O : Nat → Nat → Option Nat} {J0 : Nat → Nat → Int64} (hV : IV P K I0 O) {a0 : Nat} (h0 : a0 ∈ P ∧ K a0 = 10) {x1 : Int32} {x2 : Int32} {x3 : Int32} {M : Nat} (hMo : O a0 3 = some M) (hMk : M ∈ P ∧ K M = 9) (hGM : GM I0 M) (pr0 : 0 ≤ Int32.toInt x3 ∧ Int32.toInt x3 ≤ 3) : Con yMo_effectOf bMo_effectOf 8 (some .int) ({ frames := 0, cells := 0, slots := 0, locals := 0 } : Room) P K I0 O J0 [.ref a0, .int x1, .int x2, .int x3] (SPo frP 1 (tt) P K I0 O J0) := by
  refine Con.ofG mfMo_effectOf (Nat.le_of_ble_eq_true rfl) ?_
  intro X C E
  have r1 := rg x1
  have r2 := rg x2
  have r3 := rg x3
  have hV0 : SV frP P K O I0 J0 I0 J0 := SV.rf hV
  refine g_bipush (v := Int32.ofInt (100)) C dMo_effectOf_0 (by decide) ?_
  refine g_iload_n C dMo_effectOf_2 rfl ?_
  first | refine n_imul C dMo_effectOf_3 (ofI (by decide)) rfl (by omega) (fun z_3 e_3 => ?_) | refine a_imul C dMo_effectOf_3 (fun z_3 => ?_)
  refine g_aload_n C dMo_effectOf_4 rfl ?_
  refine gt_getS C dMo_effectOf_5 fl_Mo_290 h0 hMo ?_
  refine g_geti C dMo_effectOf_8 fl_Mo_176 hMk ?_
  have gm_8 : 1 ≤ (I0 M 0).toInt := (hGM.keep (hV0.2 M (by rw [hMk.2]; rfl)).1).1
  refine a_idiv C dMo_effectOf_11 (by omega) (fun z_11 => ?_)
  refine g_bipush (v := Int32.ofInt (50)) C dMo_effectOf_12 (by decide) ?_
  first | refine n_isub C dMo_effectOf_14 rfl (ofI (by decide)) (by omega) (fun z_14 e_14 => ?_) | refine a_isub C dMo_effectOf_14 (fun z_14 => ?_)
  refine g_istore C dMo_effectOf_15 (by decide) ?_
  refine g_aload_n C dMo_effectOf_17 rfl ?_
  refine gt_getS C dMo_effectOf_18 fl_Mo_290 h0 hMo ?_
  refine g_geti C dMo_effectOf_21 fl_Mo_183 hMk ?_
  have gm_21 : 1 ≤ (I0 M 4).toInt := (hGM.keep (hV0.2 M (by rw [hMk.2]; rfl)).1).2.1
  refine g_iconst (v := Int32.ofInt (2)) C dMo_effectOf_24 (by decide) ?_
  refine gt_idiv 2 C dMo_effectOf_25 rfl (ofI (by decide)) (by decide) (fun z_25 e_25 => ?_)
  refine g_istore C dMo_effectOf_26 (by decide) ?_
  refine g_aload_n C dMo_effectOf_28 rfl ?_
  refine gt_getS C dMo_effectOf_29 fl_Mo_290 h0 hMo ?_
  refine g_geti C dMo_effectOf_32 fl_Mo_183 hMk ?_
  have gm_32 : 1 ≤ (I0 M 4).toInt := (hGM.keep (hV0.2 M (by rw [hMk.2]; rfl)).1).2.1
  refine g_iload_n C dMo_effectOf_35 rfl ?_
  first | refine n_isub C dMo_effectOf_36 rfl rfl (by omega) (fun z_36 e_36 => ?_) | refine a_isub C dMo_effectOf_36 (fun z_36 => ?_)
  refine g_iload C dMo_effectOf_37 rfl ?_
  have jn_56 : ∀  (s0_56 : Int32),  GG X 8 P K I0 O J0 0 0 56 [(0, .ref a0), (1, .int x1), (2, .int x2), (3, .int x3), (4, .int z_14), (5, .int z_25)] [.int s0_56] := by
    intro s0_56
    refine g_istore C dMo_effectOf_56 (by decide) ?_
    refine g_bipush (v := Int32.ofInt (100)) C dMo_effectOf_58 (by decide) ?_
    refine g_iload C dMo_effectOf_60 rfl ?_
    have jn_73 : ∀  (s0_73 : Int32),  GG X 8 P K I0 O J0 0 0 73 [(0, .ref a0), (1, .int x1), (2, .int x2), (3, .int x3), (4, .int z_14), (5, .int z_25), (6, .int s0_56)] [.int s0_73, .int (Int32.ofInt (100))] := by
      intro s0_73
      first | refine n_isub C dMo_effectOf_73 (ofI (by decide)) rfl (by omega) (fun z_73 e_73 => ?_) | refine a_isub C dMo_effectOf_73 (fun z_73 => ?_)
      refine g_iload C dMo_effectOf_74 rfl ?_
      refine a_imul C dMo_effectOf_76 (fun z_76 => ?_)
      refine g_aload_n C dMo_effectOf_77 rfl ?_
      refine gt_getS C dMo_effectOf_78 fl_Mo_290 h0 hMo ?_
      refine g_geti C dMo_effectOf_81 fl_Mo_183 hMk ?_
      have gm_81 : 1 ≤ (I0 M 4).toInt := (hGM.keep (hV0.2 M (by rw [hMk.2]; rfl)).1).2.1
      refine a_idiv C dMo_effectOf_84 (by omega) (fun z_84 => ?_)
      refine g_istore C dMo_effectOf_85 (by decide) ?_
      refine g_bipush (v := Int32.ofInt (10)) C dMo_effectOf_87 (by decide) ?_
      refine g_iload C dMo_effectOf_89 rfl ?_
      first | refine n_imul C dMo_effectOf_91 (ofI (by decide)) rfl (by omega) (fun z_91 e_91 => ?_) | refine a_imul C dMo_effectOf_91 (fun z_91 => ?_)
      refine g_bipush (v := Int32.ofInt (9)) C dMo_effectOf_92 (by decide) ?_
      refine g_aload_n C dMo_effectOf_94 rfl ?_
      refine gt_getS C dMo_effectOf_95 fl_Mo_290 h0 hMo ?_
      refine gt_getr C dMo_effectOf_98 fl_Mo_276 hMk hV0.1.1 rfl (fun b_98 q_98 hb_98 => ?_)
      refine g_iload_n C dMo_effectOf_101 rfl ?_
      refine gt_iald C dMo_effectOf_102 hb_98 (by decide) rfl rfl (n := 4) rfl (by omega) ?_
      have o_102 := hV0.1.2 b_98 hb_98.1 x3.toNatClampNeg
      rw [hb_98.2] at o_102
      have o_102 : 0 ≤ (I0 b_98 x3.toNatClampNeg).toInt ∧ (I0 b_98 x3.toNatClampNeg).toInt ≤ 9 := o_102
      first | refine n_iadd C dMo_effectOf_103 (ofI (by decide)) rfl (by omega) (fun z_103 e_103 => ?_) | refine a_iadd C dMo_effectOf_103 (fun z_103 => ?_)
      refine a_idiv C dMo_effectOf_104 (by omega) (fun z_104 => ?_)
      exact s_iret C E dMo_effectOf_105 ⟨Nat.zero_le _, Nat.zero_le _⟩ hV0 trivial
    refine gt_if_ge 71 C dMo_effectOf_62 (by decide) rfl (fun c_62 => ?_) (fun c_62 => ?_)
    · skip
      refine g_iload C dMo_effectOf_71 rfl ?_
      exact g_sub (jn_73 z_14   ) ⟨rfl, rfl, rfl, rfl, rfl, rfl, rfl, trivial⟩
    · skip
      refine g_iload C dMo_effectOf_65 rfl ?_
      refine a_ineg C dMo_effectOf_67 (fun z_67 => ?_)
      refine g_goto 73 C dMo_effectOf_68 (by decide) ?_
      exact g_sub (jn_73 z_67   ) ⟨rfl, rfl, rfl, rfl, rfl, rfl, rfl, trivial⟩
  refine gt_icmp_ge 47 C dMo_effectOf_39 (by decide) rfl rfl (fun c_39 => ?_) (fun c_39 => ?_)
  · skip
    refine g_aload_n C dMo_effectOf_47 rfl ?_
    refine gt_getS C dMo_effectOf_48 fl_Mo_290 h0 hMo ?_
    refine g_geti C dMo_effectOf_51 fl_Mo_183 hMk ?_
    have gm_51 : 1 ≤ (I0 M 4).toInt := (hGM.keep (hV0.2 M (by rw [hMk.2]; rfl)).1).2.1
    refine g_iload_n C dMo_effectOf_54 rfl ?_
    first | refine n_isub C dMo_effectOf_55 rfl rfl (by omega) (fun z_55 e_55 => ?_) | refine a_isub C dMo_effectOf_55 (fun z_55 => ?_)
    exact g_sub (jn_56 z_55   ) ⟨rfl, rfl, rfl, rfl, rfl, rfl, trivial⟩
  · skip
    refine g_iload C dMo_effectOf_42 rfl ?_
    refine g_goto 56 C dMo_effectOf_44 (by decide) ?_
    exact g_sub (jn_56 z_25   ) ⟨rfl, rfl, rfl, rfl, rfl, rfl, trivial⟩
set_option maxHeartbeats 4000000 in
set_option maxRecDepth 100000 in
theorem cMo_passes_G {P : List Nat} {K : Nat → Nat} {I0 : Nat → Nat → Int32} {O : Nat → Nat → Option Nat} {J0 : Nat → Nat → Int64} (hV : IV P K I0 O) {a0 : Nat} (h0 : a0 ∈ P ∧ K a0 = 10) {x1 : Int32} {x2 : Int32} {M : Nat} (hMo : O a0 3 = some M) (hMk : M ∈ P ∧ K M = 9) (hGM : GM I0 M) : Con yMo_passes bMo_passes 3 (some .int) ({ frames := 0, cells := 0, slots := 0, locals := 0 } : Room) P K I0 O J0 [.ref a0, .int x1, .int x2] (SPo frP 1 (tt) P K I0 O J0) := by
  refine Con.ofG mfMo_passes (Nat.le_of_ble_eq_true rfl) ?_
  intro X C E
  have r1 := rg x1
  have r2 := rg x2
  have hV0 : SV frP P K O I0 J0 I0 J0 := SV.rf hV
  refine g_iload_n C dMo_passes_0 rfl ?_
  refine g_aload_n C dMo_passes_1 rfl ?_
  refine gt_getS C dMo_passes_2 fl_Mo_290 h0 hMo ?_
  refine g_geti C dMo_passes_5 fl_Mo_181 hMk ?_
  refine gt_icmp_lt 14 C dMo_passes_8 (by decide) rfl rfl (fun c_8 => ?_) (fun c_8 => ?_)
  · skip
    refine g_iload_n C dMo_passes_14 rfl ?_
    refine g_aload_n C dMo_passes_15 rfl ?_
    refine gt_getS C dMo_passes_16 fl_Mo_290 h0 hMo ?_
    refine g_geti C dMo_passes_19 fl_Mo_248 hMk ?_
    refine a_imul C dMo_passes_22 (fun z_22 => ?_)
    refine g_bipush (v := Int32.ofInt (100)) C dMo_passes_23 (by decide) ?_
    refine gt_icmp_le 33 C dMo_passes_25 (by decide) rfl (ofI (by decide)) (fun c_25 => ?_) (fun c_25 => ?_)
    · skip
      refine g_iload_n C dMo_passes_33 rfl ?_
      refine g_aload_n C dMo_passes_34 rfl ?_
      refine gt_getS C dMo_passes_35 fl_Mo_290 h0 hMo ?_
      refine g_geti C dMo_passes_38 fl_Mo_248 hMk ?_
      refine a_imul C dMo_passes_41 (fun z_41 => ?_)
      exact s_iret C E dMo_passes_42 ⟨Nat.zero_le _, Nat.zero_le _⟩ hV0 trivial
    · skip
      refine g_bipush (v := Int32.ofInt (100)) C dMo_passes_28 (by decide) ?_
      refine g_goto 42 C dMo_passes_30 (by decide) ?_
      exact s_iret C E dMo_passes_42 ⟨Nat.zero_le _, Nat.zero_le _⟩ hV0 trivial
  · skip
    refine g_bipush (v := Int32.ofInt (100)) C dMo_passes_11 (by decide) ?_
    exact s_iret C E dMo_passes_13 ⟨Nat.zero_le _, Nat.zero_le _⟩ hV0 trivial
set_option maxHeartbeats 4000000 in
set_option maxRecDepth 100000 in
theorem cMo_digs_G {P : List Nat} {K : Nat → Nat} {I0 : Nat → Nat → Int32} {O : Nat → Nat → Option Nat} {J0 : Nat → Nat → Int64} (hV : IV P K I0 O) {a0 : Nat} (h0 : a0 ∈ P ∧ K a0 = 10) {a1 : Nat} (h1 : a1 ∈ P ∧ K a1 = 31) {M : Nat} (hMo : O a0 3 = some M) (hMk : M ∈ P ∧ K M = 9) (hGM : GM I0 M) : Con yMo_digs bMo_digs 4 none ({ frames := 0, cells := 0, slots := 0, locals := 0 } : Room) P K I0 O J0 [.ref a0, .ref a1] (SPo frX31 0 (fun _ I_ => (I_ a1 27).toInt = (I0 a1 27).toInt) P K I0 O J0) := by
  refine Con.ofG mfMo_digs (Nat.le_of_ble_eq_true rfl) ?_
  intro X C E
  have hV0 : SV frX31 P K O I0 J0 I0 J0 := SV.rf hV
  refine g_iconst (v := Int32.ofInt (0)) C dMo_digs_0 (by decide) ?_
  refine g_istore_n (i := 2) C dMo_digs_1 rfl (by decide) ?_
  have lp_2 : ∀ (nn_2 : Nat) (x2_2 : Int32) (Iw1 : Nat → Nat → Int32) (Jw1 : Nat → Nat → Int64), Int.toNat (5 - x2_2.toInt) = nn_2 → (0 ≤ Int32.toInt x2_2 ∧ Int32.toInt x2_2 ≤ 5) → (Int32.toInt (Iw1 a1 27) = Int32.toInt (I0 a1 27)) → SV frX31 P K O I0 J0 Iw1 Jw1 → GG X 4 P K Iw1 O Jw1 0 0 2 [(0, .ref a0), (1, .ref a1), (2, .int x2_2)] [] := by
    intro nn_2
    induction nn_2 using Nat.strongRecOn with
    | ind nn_2 ih_2 =>
    intro x2_2 Iw1 Jw1 hn_2 iv0_2 iv1_2 hVw1
    have rg2_2 := rg x2_2
    refine g_iload_n C dMo_digs_2 rfl ?_
    refine g_aload_n C dMo_digs_3 rfl ?_
    refine gt_getS C dMo_digs_4 fl_Mo_290 h0 hMo ?_
    refine g_geti C dMo_digs_7 fl_Mo_191 hMk ?_
    have o_7 := hVw1.1.2 M hMk.1 8
    rw [hMk.2] at o_7
    have o_7 : 0 ≤ (Iw1 M 8).toInt ∧ (Iw1 M 8).toInt ≤ 5 := o_7
    refine gt_icmp_ge 73 C dMo_digs_10 (by decide) rfl rfl (fun c_10 => ?_) (fun c_10 => ?_)
    · skip
      exact s_vret C E dMo_digs_73 ⟨Nat.zero_le _, Nat.zero_le _⟩ hVw1 (by (try dsimp only); omega)
    · skip
      refine g_aload_n C dMo_digs_13 rfl ?_
      refine g_iconst (v := Int32.ofInt (0)) C dMo_digs_14 (by decide) ?_
      refine g_iload_n C dMo_digs_15 rfl ?_
      first | refine n_iadd C dMo_digs_16 (ofI (by decide)) rfl (by omega) (fun z_16 e_16 => ?_) | refine a_iadd C dMo_digs_16 (fun z_16 => ?_)
      refine gt_iald C dMo_digs_17 h1 (by decide) rfl rfl (n := 37) rfl (by omega) ?_
      refine g_bipush (v := Int32.ofInt (10)) C dMo_digs_18 (by decide) ?_
      refine gt_idiv 10 C dMo_digs_20 rfl (ofI (by decide)) (by decide) (fun z_20 e_20 => ?_)
      refine g_iconst (v := Int32.ofInt (1)) C dMo_digs_21 (by decide) ?_
      first | refine n_iadd C dMo_digs_22 rfl (ofI (by decide)) (by omega) (fun z_22 e_22 => ?_) | refine a_iadd C dMo_digs_22 (fun z_22 => ?_)
      refine g_aload_n C dMo_digs_23 rfl ?_
      refine g_iconst (v := Int32.ofInt (0)) C dMo_digs_24 (by decide) ?_
      refine g_iload_n C dMo_digs_25 rfl ?_
      first | refine n_iadd C dMo_digs_26 (ofI (by decide)) rfl (by omega) (fun z_26 e_26 => ?_) | refine a_iadd C dMo_digs_26 (fun z_26 => ?_)
      refine gt_iald C dMo_digs_27 h1 (by decide) rfl rfl (n := 37) rfl (by omega) ?_
      have jn_49 : ∀  (s0_49 : Int32) (Iw2 : Nat → Nat → Int32) (Jw2 : Nat → Nat → Int64), (Int32.toInt (Iw2 a1 27) = Int32.toInt (I0 a1 27)) → SV frX31 P K O I0 J0 Iw2 Jw2 → GG X 4 P K Iw2 O Jw2 0 0 49 [(0, .ref a0), (1, .ref a1), (2, .int x2_2)] [.int s0_49] := by
        intro s0_49 Iw2 Jw2 jv0_49 hVw2
        refine g_istore_n (i := 3) C dMo_digs_49 rfl (by decide) ?_
        refine g_aload_n C dMo_digs_50 rfl ?_
        refine g_iconst (v := Int32.ofInt (0)) C dMo_digs_51 (by decide) ?_
        refine g_iload_n C dMo_digs_52 rfl ?_
        first | refine n_iadd C dMo_digs_53 (ofI (by decide)) rfl (by omega) (fun z_53 e_53 => ?_) | refine a_iadd C dMo_digs_53 (fun z_53 => ?_)
        refine g_dup2 C dMo_digs_54 rfl rfl ?_
        refine gt_iald C dMo_digs_55 h1 (by decide) rfl rfl (n := 37) rfl (by omega) ?_
        refine g_iload_n C dMo_digs_56 rfl ?_
        first | refine n_isub C dMo_digs_57 rfl rfl (by omega) (fun z_57 e_57 => ?_) | refine a_isub C dMo_digs_57 (fun z_57 => ?_)
        refine gt_iast C dMo_digs_58 h1 (by decide) rfl rfl (n := 37) rfl (by omega) hVw2 rfl (okS (by decide) (by have q : z_53.toNatClampNeg = Int.toNat (z_53.toInt) := rfl; omega) (by have q : z_53.toNatClampNeg = Int.toNat (z_53.toInt) := rfl; omega)) (fun Iw3 eIw3 hVw3 => ?_)
        have tkw3_a1_27 : (Iw3 a1 27).toInt = (Iw2 a1 27).toInt := by rw [eIw3, up2_ne _ _ (fun z => by have q : z_53.toNatClampNeg = Int.toNat (z_53.toInt) := rfl; omega)]
        refine g_aload_n C dMo_digs_59 rfl ?_
        refine g_bipush (v := Int32.ofInt (21)) C dMo_digs_60 (by decide) ?_
        refine g_dup2 C dMo_digs_62 rfl rfl ?_
        refine gt_ialdc (c := 21) C dMo_digs_63 h1 (by decide) rfl (ofI (by decide)) (n := 37) rfl (by decide) (by decide) ?_
        refine g_iload_n C dMo_digs_64 rfl ?_
        first | refine n_iadd C dMo_digs_65 rfl rfl (by omega) (fun z_65 e_65 => ?_) | refine a_iadd C dMo_digs_65 (fun z_65 => ?_)
        refine gt_iastc (c := 21) C dMo_digs_66 h1 (by decide) rfl (ofI (by decide)) (n := 37) rfl (by decide) (by decide) hVw3 rfl trivial (fun Iw4 eIw4 hVw4 => ?_)
        have tkw4_a1_27 : (Iw4 a1 27).toInt = (Iw3 a1 27).toInt := by rw [eIw4, up2_ne _ _ (fun z => absurd z.2 (by decide))]
        first | refine n_iinc C dMo_digs_67 rfl rfl (by decide) (by decide) (by omega) (fun z_67 e_67 => ?_) | refine a_iinc C dMo_digs_67 rfl (by decide) (fun z_67 => ?_)
        refine g_goto 2 C dMo_digs_70 (by decide) ?_
        exact g_sub (ih_2 _ (by omega) z_67 Iw4 Jw2 rfl (by omega) (by omega) hVw4) ⟨rfl, rfl, rfl, trivial⟩
      refine gt_icmp_le 39 C dMo_digs_28 (by decide) rfl rfl (fun c_28 => ?_) (fun c_28 => ?_)
      · skip
        refine g_aload_n C dMo_digs_39 rfl ?_
        refine g_iconst (v := Int32.ofInt (0)) C dMo_digs_40 (by decide) ?_
        refine g_iload_n C dMo_digs_41 rfl ?_
        first | refine n_iadd C dMo_digs_42 (ofI (by decide)) rfl (by omega) (fun z_42 e_42 => ?_) | refine a_iadd C dMo_digs_42 (fun z_42 => ?_)
        refine gt_iald C dMo_digs_43 h1 (by decide) rfl rfl (n := 37) rfl (by omega) ?_
        refine g_bipush (v := Int32.ofInt (10)) C dMo_digs_44 (by decide) ?_
        refine gt_idiv 10 C dMo_digs_46 rfl (ofI (by decide)) (by decide) (fun z_46 e_46 => ?_)
        refine g_iconst (v := Int32.ofInt (1)) C dMo_digs_47 (by decide) ?_
        first | refine n_iadd C dMo_digs_48 rfl (ofI (by decide)) (by omega) (fun z_48 e_48 => ?_) | refine a_iadd C dMo_digs_48 (fun z_48 => ?_)
        exact g_sub (jn_49 z_48 Iw1 Jw1 (by omega) hVw1) ⟨rfl, rfl, rfl, trivial⟩
      · skip
        refine g_aload_n C dMo_digs_31 rfl ?_
        refine g_iconst (v := Int32.ofInt (0)) C dMo_digs_32 (by decide) ?_
        refine g_iload_n C dMo_digs_33 rfl ?_
        first | refine n_iadd C dMo_digs_34 (ofI (by decide)) rfl (by omega) (fun z_34 e_34 => ?_) | refine a_iadd C dMo_digs_34 (fun z_34 => ?_)
        refine gt_iald C dMo_digs_35 h1 (by decide) rfl rfl (n := 37) rfl (by omega) ?_
        refine g_goto 49 C dMo_digs_36 (by decide) ?_
        exact g_sub (jn_49 (Iw1 a1 z_34.toNatClampNeg) Iw1 Jw1 (by omega) hVw1) ⟨rfl, rfl, rfl, trivial⟩
  exact g_sub (lp_2 _ (Int32.ofInt (0)) I0 J0 rfl (by have hci : Int32.toInt (Int32.ofInt (0)) = 0 := ofI (by decide); omega) (by omega) hV0) ⟨rfl, rfl, rfl, trivial⟩
set_option maxHeartbeats 4000000 in
set_option maxRecDepth 100000 in
theorem cMo_grinds_G {P : List Nat} {K : Nat → Nat} {I0 : Nat → Nat → Int32} {O : Nat → Nat → Option Nat} {J0 : Nat → Nat → Int64} (hV : IV P K I0 O) {a0 : Nat} (h0 : a0 ∈ P ∧ K a0 = 10) {a1 : Nat} (h1 : a1 ∈ P ∧ K a1 = 31) {M : Nat} (hMo : O a0 3 = some M) (hMk : M ∈ P ∧ K M = 9) (hGM : GM I0 M) : Con yMo_grinds bMo_grinds 5 none ({ frames := 1, cells := 0, slots := 0, locals := 27 } : Room) P K I0 O J0 [.ref a0, .ref a1] (SPo frX31 0 (fun _ I_ => (I_ a1 27).toInt = (I0 a1 27).toInt) P K I0 O J0) := by
  refine Con.ofG mfMo_grinds (Nat.le_of_ble_eq_true rfl) ?_
  intro X C E
  have hV0 : SV frX31 P K O I0 J0 I0 J0 := SV.rf hV
  refine g_aload_n C dMo_grinds_0 rfl ?_
  refine g_bipush (v := Int32.ofInt (29)) C dMo_grinds_1 (by decide) ?_
  refine g_aload_n C dMo_grinds_3 rfl ?_
  refine g_aload_n C dMo_grinds_4 rfl ?_
  refine g_bipush (v := Int32.ofInt (28)) C dMo_grinds_5 (by decide) ?_
  refine gt_ialdc (c := 28) C dMo_grinds_7 h1 (by decide) rfl (ofI (by decide)) (n := 37) rfl (by decide) (by decide) ?_
  refine g_aload_n C dMo_grinds_8 rfl ?_
  refine g_bipush (v := Int32.ofInt (24)) C dMo_grinds_9 (by decide) ?_
  refine gt_ialdc (c := 24) C dMo_grinds_11 h1 (by decide) rfl (ofI (by decide)) (n := 37) rfl (by decide) (by decide) ?_
  refine g_aload_n C dMo_grinds_12 rfl ?_
  refine g_bipush (v := Int32.ofInt (36)) C dMo_grinds_13 (by decide) ?_
  refine gt_ialdc (c := 36) C dMo_grinds_15 h1 (by decide) rfl (ofI (by decide)) (n := 37) rfl (by decide) (by decide) ?_
  have o_15 := hV0.1.2 a1 h1.1 36
  rw [h1.2] at o_15
  have o_15 : 0 ≤ (I0 a1 36).toInt ∧ (I0 a1 36).toInt ≤ 3 := o_15
  refine s_callV_ip (av := fun ad => [.int (I0 a1 28), .int (I0 a1 24), .int (I0 a1 36)]) C dMo_grinds_16 mfMo_effectOf mvMo_effectOf ln_Mo_316 h0 (by decide) rfl (cMo_effectOf_G hV0.1 h0 hMo hMk (hGM.keep (hV0.2 M (by rw [hMk.2]; rfl)).1) (by omega)) rfl rfl (Nat.le_of_ble_eq_true rfl) ⟨Nat.le_of_ble_eq_true rfl, Nat.le_of_ble_eq_true rfl⟩ ⟨rfl, rfl⟩ ⟨Nat.zero_le _, Nat.zero_le _⟩ (fun z_16 p_16 => ?_)
  have rz_16 := rg z_16
  refine gt_iastc (c := 29) C dMo_grinds_19 h1 (by decide) rfl (ofI (by decide)) (n := 37) rfl (by decide) (by decide) hV0 rfl trivial (fun Iw2 eIw2 hVw2 => ?_)
  have tkw2_a1_27 : (Iw2 a1 27).toInt = (I0 a1 27).toInt := by rw [eIw2, up2_ne _ _ (fun z => absurd z.2 (by decide))]
  refine g_aload_n C dMo_grinds_20 rfl ?_
  refine g_bipush (v := Int32.ofInt (30)) C dMo_grinds_21 (by decide) ?_
  refine g_aload_n C dMo_grinds_23 rfl ?_
  refine g_bipush (v := Int32.ofInt (28)) C dMo_grinds_24 (by decide) ?_
  refine gt_ialdc (c := 28) C dMo_grinds_26 h1 (by decide) rfl (ofI (by decide)) (n := 37) rfl (by decide) (by decide) ?_
  refine g_aload_n C dMo_grinds_27 rfl ?_
  refine g_bipush (v := Int32.ofInt (29)) C dMo_grinds_28 (by decide) ?_
  refine gt_ialdc (c := 29) C dMo_grinds_30 h1 (by decide) rfl (ofI (by decide)) (n := 37) rfl (by decide) (by decide) ?_
  refine a_imul C dMo_grinds_31 (fun z_31 => ?_)
  refine g_bipush (v := Int32.ofInt (100)) C dMo_grinds_32 (by decide) ?_
  refine gt_idiv 100 C dMo_grinds_34 rfl (ofI (by decide)) (by decide) (fun z_34 e_34 => ?_)
  refine gt_iastc (c := 30) C dMo_grinds_35 h1 (by decide) rfl (ofI (by decide)) (n := 37) rfl (by decide) (by decide) hVw2 rfl trivial (fun Iw3 eIw3 hVw3 => ?_)
  have tkw3_a1_27 : (Iw3 a1 27).toInt = (Iw2 a1 27).toInt := by rw [eIw3, up2_ne _ _ (fun z => absurd z.2 (by decide))]
  refine g_aload_n C dMo_grinds_36 rfl ?_
  refine gt_getS C dMo_grinds_37 fl_Mo_290 h0 hMo ?_
  refine g_geti C dMo_grinds_40 fl_Mo_191 hMk ?_
  have o_40 := hVw3.1.2 M hMk.1 8
  rw [hMk.2] at o_40
  have o_40 : 0 ≤ (Iw3 M 8).toInt ∧ (Iw3 M 8).toInt ≤ 5 := o_40
  refine g_iconst (v := Int32.ofInt (2)) C dMo_grinds_43 (by decide) ?_
  first | refine n_isub C dMo_grinds_44 rfl (ofI (by decide)) (by omega) (fun z_44 e_44 => ?_) | refine a_isub C dMo_grinds_44 (fun z_44 => ?_)
  refine g_istore_n (i := 2) C dMo_grinds_45 rfl (by decide) ?_
  have lp_46 : ∀ (nn_46 : Nat) (x2_46 : Int32) (Iw4 : Nat → Nat → Int32) (Jw4 : Nat → Nat → Int64), Int.toNat (x2_46.toInt + 3) = nn_46 → (-2 ≤ Int32.toInt x2_46 ∧ Int32.toInt x2_46 ≤ 3) → (Int32.toInt (Iw4 a1 27) = Int32.toInt (I0 a1 27)) → SV frX31 P K O I0 J0 Iw4 Jw4 → GG X 5 P K Iw4 O Jw4 0 0 46 [(0, .ref a0), (1, .ref a1), (2, .int x2_46)] [] := by
    intro nn_46
    induction nn_46 using Nat.strongRecOn with
    | ind nn_46 ih_46 =>
    intro x2_46 Iw4 Jw4 hn_46 iv0_46 iv1_46 hVw4
    have rg2_46 := rg x2_46
    refine g_iload_n C dMo_grinds_46 rfl ?_
    refine gt_if_lt 151 C dMo_grinds_47 (by decide) rfl (fun c_47 => ?_) (fun c_47 => ?_)
    · skip
      refine g_iconst (v := Int32.ofInt (0)) C dMo_grinds_151 (by decide) ?_
      refine g_istore_n (i := 2) C dMo_grinds_152 rfl (by decide) ?_
      have lp_153 : ∀ (nn_153 : Nat) (x2_153 : Int32) (Iw5 : Nat → Nat → Int32) (Jw5 : Nat → Nat → Int64), Int.toNat (5 - x2_153.toInt) = nn_153 → (0 ≤ Int32.toInt x2_153 ∧ Int32.toInt x2_153 ≤ 5) → (Int32.toInt (Iw5 a1 27) = Int32.toInt (I0 a1 27)) → SV frX31 P K O I0 J0 Iw5 Jw5 → GG X 5 P K Iw5 O Jw5 0 0 153 [(0, .ref a0), (1, .ref a1), (2, .int x2_153)] [] := by
        intro nn_153
        induction nn_153 using Nat.strongRecOn with
        | ind nn_153 ih_153 =>
        intro x2_153 Iw5 Jw5 hn_153 iv0_153 iv1_153 hVw5
        have rg2_153 := rg x2_153
        refine g_iload_n C dMo_grinds_153 rfl ?_
        refine g_aload_n C dMo_grinds_154 rfl ?_
        refine gt_getS C dMo_grinds_155 fl_Mo_290 h0 hMo ?_
        refine g_geti C dMo_grinds_158 fl_Mo_191 hMk ?_
        have o_158 := hVw5.1.2 M hMk.1 8
        rw [hMk.2] at o_158
        have o_158 : 0 ≤ (Iw5 M 8).toInt ∧ (Iw5 M 8).toInt ≤ 5 := o_158
        refine gt_icmp_ge 243 C dMo_grinds_161 (by decide) rfl rfl (fun c_161 => ?_) (fun c_161 => ?_)
        · skip
          exact s_vret C E dMo_grinds_243 ⟨Nat.zero_le _, Nat.zero_le _⟩ hVw5 (by (try dsimp only); omega)
        · skip
          refine g_aload_n C dMo_grinds_164 rfl ?_
          refine g_iconst (v := Int32.ofInt (0)) C dMo_grinds_165 (by decide) ?_
          refine g_iload_n C dMo_grinds_166 rfl ?_
          first | refine n_iadd C dMo_grinds_167 (ofI (by decide)) rfl (by omega) (fun z_167 e_167 => ?_) | refine a_iadd C dMo_grinds_167 (fun z_167 => ?_)
          refine gt_iald C dMo_grinds_168 h1 (by decide) rfl rfl (n := 37) rfl (by omega) ?_
          refine g_bipush (v := Int32.ofInt (20)) C dMo_grinds_169 (by decide) ?_
          refine g_bipush (v := Int32.ofInt (10)) C dMo_grinds_171 (by decide) ?_
          refine g_aload_n C dMo_grinds_173 rfl ?_
          refine g_bipush (v := Int32.ofInt (35)) C dMo_grinds_174 (by decide) ?_
          refine gt_ialdc (c := 35) C dMo_grinds_176 h1 (by decide) rfl (ofI (by decide)) (n := 37) rfl (by decide) (by decide) ?_
          first | refine n_imul C dMo_grinds_177 (ofI (by decide)) rfl (by omega) (fun z_177 e_177 => ?_) | refine a_imul C dMo_grinds_177 (fun z_177 => ?_)
          first | refine n_iadd C dMo_grinds_178 (ofI (by decide)) rfl (by omega) (fun z_178 e_178 => ?_) | refine a_iadd C dMo_grinds_178 (fun z_178 => ?_)
          refine a_imul C dMo_grinds_179 (fun z_179 => ?_)
          refine g_bipush (v := Int32.ofInt (100)) C dMo_grinds_180 (by decide) ?_
          refine gt_idiv 100 C dMo_grinds_182 rfl (ofI (by decide)) (by decide) (fun z_182 e_182 => ?_)
          refine g_istore_n (i := 3) C dMo_grinds_183 rfl (by decide) ?_
          refine g_iload_n C dMo_grinds_184 rfl ?_
          refine g_aload_n C dMo_grinds_185 rfl ?_
          refine g_iload_n C dMo_grinds_186 rfl ?_
          refine g_aload_n C dMo_grinds_187 rfl ?_
          refine g_bipush (v := Int32.ofInt (25)) C dMo_grinds_188 (by decide) ?_
          refine gt_ialdc (c := 25) C dMo_grinds_190 h1 (by decide) rfl (ofI (by decide)) (n := 37) rfl (by decide) (by decide) ?_
          refine s_callV_ip (av := fun ad => [.int x2_153, .int (Iw5 a1 25)]) C dMo_grinds_191 mfMo_passes mvMo_passes ln_Mo_320 h0 (by decide) rfl (cMo_passes_G hVw5.1 h0 hMo hMk (hGM.keep (hVw5.2 M (by rw [hMk.2]; rfl)).1)) rfl rfl (Nat.le_of_ble_eq_true rfl) ⟨Nat.le_of_ble_eq_true rfl, Nat.le_of_ble_eq_true rfl⟩ ⟨rfl, rfl⟩ ⟨Nat.zero_le _, Nat.zero_le _⟩ (fun z_191 p_191 => ?_)
          have rz_191 := rg z_191
          refine a_imul C dMo_grinds_194 (fun z_194 => ?_)
          refine g_bipush (v := Int32.ofInt (100)) C dMo_grinds_195 (by decide) ?_
          refine gt_idiv 100 C dMo_grinds_197 rfl (ofI (by decide)) (by decide) (fun z_197 e_197 => ?_)
          refine g_istore C dMo_grinds_198 (by decide) ?_
          refine g_aload_n C dMo_grinds_200 rfl ?_
          refine g_iconst (v := Int32.ofInt (0)) C dMo_grinds_201 (by decide) ?_
          refine g_iload_n C dMo_grinds_202 rfl ?_
          first | refine n_iadd C dMo_grinds_203 (ofI (by decide)) rfl (by omega) (fun z_203 e_203 => ?_) | refine a_iadd C dMo_grinds_203 (fun z_203 => ?_)
          refine g_dup2 C dMo_grinds_204 rfl rfl ?_
          refine gt_iald C dMo_grinds_205 h1 (by decide) rfl rfl (n := 37) rfl (by omega) ?_
          refine g_iload_n C dMo_grinds_206 rfl ?_
          first | refine n_isub C dMo_grinds_207 rfl rfl (by omega) (fun z_207 e_207 => ?_) | refine a_isub C dMo_grinds_207 (fun z_207 => ?_)
          refine gt_iast C dMo_grinds_208 h1 (by decide) rfl rfl (n := 37) rfl (by omega) hVw5 rfl (okS (by decide) (by have q : z_203.toNatClampNeg = Int.toNat (z_203.toInt) := rfl; omega) (by have q : z_203.toNatClampNeg = Int.toNat (z_203.toInt) := rfl; omega)) (fun Iw7 eIw7 hVw7 => ?_)
          have tkw7_a1_27 : (Iw7 a1 27).toInt = (Iw5 a1 27).toInt := by rw [eIw7, up2_ne _ _ (fun z => by have q : z_203.toNatClampNeg = Int.toNat (z_203.toInt) := rfl; omega)]
          refine g_aload_n C dMo_grinds_209 rfl ?_
          refine g_bipush (v := Int32.ofInt (10)) C dMo_grinds_210 (by decide) ?_
          refine g_iload_n C dMo_grinds_212 rfl ?_
          first | refine n_iadd C dMo_grinds_213 (ofI (by decide)) rfl (by omega) (fun z_213 e_213 => ?_) | refine a_iadd C dMo_grinds_213 (fun z_213 => ?_)
          refine g_iload C dMo_grinds_214 rfl ?_
          refine gt_iast C dMo_grinds_216 h1 (by decide) rfl rfl (n := 37) rfl (by omega) hVw7 rfl (okS (by decide) (by have q : z_213.toNatClampNeg = Int.toNat (z_213.toInt) := rfl; omega) (by have q : z_213.toNatClampNeg = Int.toNat (z_213.toInt) := rfl; omega)) (fun Iw8 eIw8 hVw8 => ?_)
          have tkw8_a1_27 : (Iw8 a1 27).toInt = (Iw7 a1 27).toInt := by rw [eIw8, up2_ne _ _ (fun z => by have q : z_213.toNatClampNeg = Int.toNat (z_213.toInt) := rfl; omega)]
          refine g_aload_n C dMo_grinds_217 rfl ?_
          refine g_bipush (v := Int32.ofInt (15)) C dMo_grinds_218 (by decide) ?_
          refine g_iload_n C dMo_grinds_220 rfl ?_
          first | refine n_iadd C dMo_grinds_221 (ofI (by decide)) rfl (by omega) (fun z_221 e_221 => ?_) | refine a_iadd C dMo_grinds_221 (fun z_221 => ?_)
          refine g_dup2 C dMo_grinds_222 rfl rfl ?_
          refine gt_iald C dMo_grinds_223 h1 (by decide) rfl rfl (n := 37) rfl (by omega) ?_
          refine g_iload C dMo_grinds_224 rfl ?_
          first | refine n_iadd C dMo_grinds_226 rfl rfl (by omega) (fun z_226 e_226 => ?_) | refine a_iadd C dMo_grinds_226 (fun z_226 => ?_)
          refine gt_iast C dMo_grinds_227 h1 (by decide) rfl rfl (n := 37) rfl (by omega) hVw8 rfl (okS (by decide) (by have q : z_221.toNatClampNeg = Int.toNat (z_221.toInt) := rfl; omega) (by have q : z_221.toNatClampNeg = Int.toNat (z_221.toInt) := rfl; omega)) (fun Iw9 eIw9 hVw9 => ?_)
          have tkw9_a1_27 : (Iw9 a1 27).toInt = (Iw8 a1 27).toInt := by rw [eIw9, up2_ne _ _ (fun z => by have q : z_221.toNatClampNeg = Int.toNat (z_221.toInt) := rfl; omega)]
          refine g_aload_n C dMo_grinds_228 rfl ?_
          refine g_iconst (v := Int32.ofInt (5)) C dMo_grinds_229 (by decide) ?_
          refine g_iload_n C dMo_grinds_230 rfl ?_
          first | refine n_iadd C dMo_grinds_231 (ofI (by decide)) rfl (by omega) (fun z_231 e_231 => ?_) | refine a_iadd C dMo_grinds_231 (fun z_231 => ?_)
          refine g_iload_n C dMo_grinds_232 rfl ?_
          refine g_iload C dMo_grinds_233 rfl ?_
          first | refine n_isub C dMo_grinds_235 rfl rfl (by omega) (fun z_235 e_235 => ?_) | refine a_isub C dMo_grinds_235 (fun z_235 => ?_)
          refine gt_iast C dMo_grinds_236 h1 (by decide) rfl rfl (n := 37) rfl (by omega) hVw9 rfl (okS (by decide) (by have q : z_231.toNatClampNeg = Int.toNat (z_231.toInt) := rfl; omega) (by have q : z_231.toNatClampNeg = Int.toNat (z_231.toInt) := rfl; omega)) (fun Iw10 eIw10 hVw10 => ?_)
          have tkw10_a1_27 : (Iw10 a1 27).toInt = (Iw9 a1 27).toInt := by rw [eIw10, up2_ne _ _ (fun z => by have q : z_231.toNatClampNeg = Int.toNat (z_231.toInt) := rfl; omega)]
          first | refine n_iinc C dMo_grinds_237 rfl rfl (by decide) (by decide) (by omega) (fun z_237 e_237 => ?_) | refine a_iinc C dMo_grinds_237 rfl (by decide) (fun z_237 => ?_)
          refine g_goto 153 C dMo_grinds_240 (by decide) ?_
          exact g_sub (ih_153 _ (by omega) z_237 Iw10 Jw5 rfl (by omega) (by omega) hVw10) ⟨rfl, rfl, rfl, trivial⟩
      exact g_sub (lp_153 _ (Int32.ofInt (0)) Iw4 Jw4 rfl (by have hci : Int32.toInt (Int32.ofInt (0)) = 0 := ofI (by decide); omega) (by omega) hVw4) ⟨rfl, rfl, rfl, trivial⟩
    · skip
      refine g_aload_n C dMo_grinds_50 rfl ?_
      refine g_iconst (v := Int32.ofInt (0)) C dMo_grinds_51 (by decide) ?_
      refine g_iload_n C dMo_grinds_52 rfl ?_
      first | refine n_iadd C dMo_grinds_53 (ofI (by decide)) rfl (by omega) (fun z_53 e_53 => ?_) | refine a_iadd C dMo_grinds_53 (fun z_53 => ?_)
      refine gt_iald C dMo_grinds_54 h1 (by decide) rfl rfl (n := 37) rfl (by omega) ?_
      refine g_aload_n C dMo_grinds_55 rfl ?_
      refine gt_getS C dMo_grinds_56 fl_Mo_290 h0 hMo ?_
      refine gt_getr C dMo_grinds_59 fl_Mo_267 hMk hVw4.1.1 rfl (fun b_59 q_59 hb_59 => ?_)
      refine g_iload_n C dMo_grinds_62 rfl ?_
      refine gt_iald C dMo_grinds_63 hb_59 (by decide) rfl rfl (n := 5) rfl (by omega) ?_
      refine a_imul C dMo_grinds_64 (fun z_64 => ?_)
      refine g_aload_n C dMo_grinds_65 rfl ?_
      refine g_bipush (v := Int32.ofInt (29)) C dMo_grinds_66 (by decide) ?_
      refine gt_ialdc (c := 29) C dMo_grinds_68 h1 (by decide) rfl (ofI (by decide)) (n := 37) rfl (by decide) (by decide) ?_
      refine a_imul C dMo_grinds_69 (fun z_69 => ?_)
      refine g_sipush (v := Int32.ofInt (10000)) C dMo_grinds_70 (by decide) ?_
      refine gt_idiv 10000 C dMo_grinds_73 rfl (ofI (by decide)) (by decide) (fun z_73 e_73 => ?_)
      refine g_istore_n (i := 3) C dMo_grinds_74 rfl (by decide) ?_
      refine g_iload_n C dMo_grinds_75 rfl ?_
      refine g_aload_n C dMo_grinds_76 rfl ?_
      refine gt_getS C dMo_grinds_77 fl_Mo_290 h0 hMo ?_
      refine gt_getr C dMo_grinds_80 fl_Mo_270 hMk hVw4.1.1 rfl (fun b_80 q_80 hb_80 => ?_)
      refine g_iload_n C dMo_grinds_83 rfl ?_
      refine gt_iald C dMo_grinds_84 hb_80 (by decide) rfl rfl (n := 5) rfl (by omega) ?_
      refine a_imul C dMo_grinds_85 (fun z_85 => ?_)
      refine g_bipush (v := Int32.ofInt (100)) C dMo_grinds_86 (by decide) ?_
      refine gt_idiv 100 C dMo_grinds_88 rfl (ofI (by decide)) (by decide) (fun z_88 e_88 => ?_)
      refine g_istore C dMo_grinds_89 (by decide) ?_
      refine g_aload_n C dMo_grinds_91 rfl ?_
      refine g_iconst (v := Int32.ofInt (0)) C dMo_grinds_92 (by decide) ?_
      refine g_iload_n C dMo_grinds_93 rfl ?_
      first | refine n_iadd C dMo_grinds_94 (ofI (by decide)) rfl (by omega) (fun z_94 e_94 => ?_) | refine a_iadd C dMo_grinds_94 (fun z_94 => ?_)
      refine g_dup2 C dMo_grinds_95 rfl rfl ?_
      refine gt_iald C dMo_grinds_96 h1 (by decide) rfl rfl (n := 37) rfl (by omega) ?_
      refine g_iload_n C dMo_grinds_97 rfl ?_
      first | refine n_isub C dMo_grinds_98 rfl rfl (by omega) (fun z_98 e_98 => ?_) | refine a_isub C dMo_grinds_98 (fun z_98 => ?_)
      refine gt_iast C dMo_grinds_99 h1 (by decide) rfl rfl (n := 37) rfl (by omega) hVw4 rfl (okS (by decide) (by have q : z_94.toNatClampNeg = Int.toNat (z_94.toInt) := rfl; omega) (by have q : z_94.toNatClampNeg = Int.toNat (z_94.toInt) := rfl; omega)) (fun Iw11 eIw11 hVw11 => ?_)
      have tkw11_a1_27 : (Iw11 a1 27).toInt = (Iw4 a1 27).toInt := by rw [eIw11, up2_ne _ _ (fun z => by have q : z_94.toNatClampNeg = Int.toNat (z_94.toInt) := rfl; omega)]
      refine g_aload_n C dMo_grinds_100 rfl ?_
      refine g_iconst (v := Int32.ofInt (0)) C dMo_grinds_101 (by decide) ?_
      refine g_iload_n C dMo_grinds_102 rfl ?_
      first | refine n_iadd C dMo_grinds_103 (ofI (by decide)) rfl (by omega) (fun z_103 e_103 => ?_) | refine a_iadd C dMo_grinds_103 (fun z_103 => ?_)
      refine g_iconst (v := Int32.ofInt (1)) C dMo_grinds_104 (by decide) ?_
      first | refine n_iadd C dMo_grinds_105 rfl (ofI (by decide)) (by omega) (fun z_105 e_105 => ?_) | refine a_iadd C dMo_grinds_105 (fun z_105 => ?_)
      refine g_dup2 C dMo_grinds_106 rfl rfl ?_
      refine gt_iald C dMo_grinds_107 h1 (by decide) rfl rfl (n := 37) rfl (by omega) ?_
      refine g_iload C dMo_grinds_108 rfl ?_
      first | refine n_iadd C dMo_grinds_110 rfl rfl (by omega) (fun z_110 e_110 => ?_) | refine a_iadd C dMo_grinds_110 (fun z_110 => ?_)
      refine gt_iast C dMo_grinds_111 h1 (by decide) rfl rfl (n := 37) rfl (by omega) hVw11 rfl (okS (by decide) (by have q : z_105.toNatClampNeg = Int.toNat (z_105.toInt) := rfl; omega) (by have q : z_105.toNatClampNeg = Int.toNat (z_105.toInt) := rfl; omega)) (fun Iw12 eIw12 hVw12 => ?_)
      have tkw12_a1_27 : (Iw12 a1 27).toInt = (Iw11 a1 27).toInt := by rw [eIw12, up2_ne _ _ (fun z => by have q : z_105.toNatClampNeg = Int.toNat (z_105.toInt) := rfl; omega)]
      refine g_aload_n C dMo_grinds_112 rfl ?_
      refine g_iconst (v := Int32.ofInt (0)) C dMo_grinds_113 (by decide) ?_
      refine g_iload_n C dMo_grinds_114 rfl ?_
      refine g_iconst (v := Int32.ofInt (2)) C dMo_grinds_115 (by decide) ?_
      first | refine n_iadd C dMo_grinds_116 rfl (ofI (by decide)) (by omega) (fun z_116 e_116 => ?_) | refine a_iadd C dMo_grinds_116 (fun z_116 => ?_)
      refine g_aload_n C dMo_grinds_117 rfl ?_
      refine gt_getS C dMo_grinds_118 fl_Mo_290 h0 hMo ?_
      refine g_geti C dMo_grinds_121 fl_Mo_191 hMk ?_
      have o_121 := hVw12.1.2 M hMk.1 8
      rw [hMk.2] at o_121
      have o_121 : 0 ≤ (Iw12 M 8).toInt ∧ (Iw12 M 8).toInt ≤ 5 := o_121
      have jn_136 : ∀  (s0_136 : Int32) (Iw13 : Nat → Nat → Int32) (Jw13 : Nat → Nat → Int64), (0 ≤ Int32.toInt s0_136 ∧ Int32.toInt s0_136 ≤ 4) → (Int32.toInt (Iw13 a1 27) = Int32.toInt (I0 a1 27)) → SV frX31 P K O I0 J0 Iw13 Jw13 → GG X 5 P K Iw13 O Jw13 0 0 136 [(0, .ref a0), (1, .ref a1), (2, .int x2_46), (3, .int z_73), (4, .int z_88)] [.int s0_136, .int (Int32.ofInt (0)), .ref a1] := by
        intro s0_136 Iw13 Jw13 jv0_136 jv1_136 hVw13
        first | refine n_iadd C dMo_grinds_136 (ofI (by decide)) rfl (by omega) (fun z_136 e_136 => ?_) | refine a_iadd C dMo_grinds_136 (fun z_136 => ?_)
        refine g_dup2 C dMo_grinds_137 rfl rfl ?_
        refine gt_iald C dMo_grinds_138 h1 (by decide) rfl rfl (n := 37) rfl (by omega) ?_
        refine g_iload_n C dMo_grinds_139 rfl ?_
        refine g_iload C dMo_grinds_140 rfl ?_
        first | refine n_isub C dMo_grinds_142 rfl rfl (by omega) (fun z_142 e_142 => ?_) | refine a_isub C dMo_grinds_142 (fun z_142 => ?_)
        first | refine n_iadd C dMo_grinds_143 rfl rfl (by omega) (fun z_143 e_143 => ?_) | refine a_iadd C dMo_grinds_143 (fun z_143 => ?_)
        refine gt_iast C dMo_grinds_144 h1 (by decide) rfl rfl (n := 37) rfl (by omega) hVw13 rfl (okS (by decide) (by have q : z_136.toNatClampNeg = Int.toNat (z_136.toInt) := rfl; omega) (by have q : z_136.toNatClampNeg = Int.toNat (z_136.toInt) := rfl; omega)) (fun Iw14 eIw14 hVw14 => ?_)
        have tkw14_a1_27 : (Iw14 a1 27).toInt = (Iw13 a1 27).toInt := by rw [eIw14, up2_ne _ _ (fun z => by have q : z_136.toNatClampNeg = Int.toNat (z_136.toInt) := rfl; omega)]
        first | refine n_iinc C dMo_grinds_145 rfl rfl (by decide) (by decide) (by omega) (fun z_145 e_145 => ?_) | refine a_iinc C dMo_grinds_145 rfl (by decide) (fun z_145 => ?_)
        refine g_goto 46 C dMo_grinds_148 (by decide) ?_
        exact g_sub (ih_46 _ (by omega) z_145 Iw14 Jw13 rfl (by omega) (by omega) hVw14) ⟨rfl, rfl, rfl, trivial⟩
      refine gt_icmp_ge 133 C dMo_grinds_124 (by decide) rfl rfl (fun c_124 => ?_) (fun c_124 => ?_)
      · skip
        refine g_iload_n C dMo_grinds_133 rfl ?_
        refine g_iconst (v := Int32.ofInt (1)) C dMo_grinds_134 (by decide) ?_
        first | refine n_iadd C dMo_grinds_135 rfl (ofI (by decide)) (by omega) (fun z_135 e_135 => ?_) | refine a_iadd C dMo_grinds_135 (fun z_135 => ?_)
        exact g_sub (jn_136 z_135 Iw12 Jw4 (by omega) (by omega) hVw12) ⟨rfl, rfl, rfl, rfl, rfl, trivial⟩
      · skip
        refine g_iload_n C dMo_grinds_127 rfl ?_
        refine g_iconst (v := Int32.ofInt (2)) C dMo_grinds_128 (by decide) ?_
        first | refine n_iadd C dMo_grinds_129 rfl (ofI (by decide)) (by omega) (fun z_129 e_129 => ?_) | refine a_iadd C dMo_grinds_129 (fun z_129 => ?_)
        refine g_goto 136 C dMo_grinds_130 (by decide) ?_
        exact g_sub (jn_136 z_129 Iw12 Jw4 (by omega) (by omega) hVw12) ⟨rfl, rfl, rfl, rfl, rfl, trivial⟩
  exact g_sub (lp_46 _ z_44 Iw3 J0 rfl (by omega) (by omega) hVw3) ⟨rfl, rfl, rfl, trivial⟩
set_option maxHeartbeats 4000000 in
set_option maxRecDepth 100000 in
theorem cMo_goes_G {P : List Nat} {K : Nat → Nat} {I0 : Nat → Nat → Int32} {O : Nat → Nat → Option Nat} {J0 : Nat → Nat → Int64} (hV : IV P K I0 O) {a0 : Nat} (h0 : a0 ∈ P ∧ K a0 = 10) {a1 : Nat} (h1 : a1 ∈ P ∧ K a1 = 31) {M : Nat} (hMo : O a0 3 = some M) (hMk : M ∈ P ∧ K M = 9) (hGM : GM I0 M) (pr0 : Int32.toInt (I0 a1 27) ≤ 239) : Con yMo_goes bMo_goes 5 none ({ frames := 2, cells := 0, slots := 0, locals := 51 } : Room) P K I0 O J0 [.ref a0, .ref a1] (SPo frX31 0 (fun _ I_ => Int32.toInt (I_ a1 27) = Int32.toInt (I0 a1 27) + 1) P K I0 O J0) := by
  refine Con.ofG mfMo_goes (Nat.le_of_ble_eq_true rfl) ?_
  intro X C E
  have hV0 : SV frX31 P K O I0 J0 I0 J0 := SV.rf hV
  refine g_iconst (v := Int32.ofInt (0)) C dMo_goes_0 (by decide) ?_
  refine g_istore_n (i := 2) C dMo_goes_1 rfl (by decide) ?_
  have lp_2 : ∀ (nn_2 : Nat) (x2_2 : Int32) (Iw1 : Nat → Nat → Int32) (Jw1 : Nat → Nat → Int64), Int.toNat (5 - x2_2.toInt) = nn_2 → (0 ≤ Int32.toInt x2_2 ∧ Int32.toInt x2_2 ≤ 5) → (Int32.toInt (Iw1 a1 27) = Int32.toInt (I0 a1 27)) → SV frX31 P K O I0 J0 Iw1 Jw1 → GG X 5 P K Iw1 O Jw1 0 0 2 [(0, .ref a0), (1, .ref a1), (2, .int x2_2)] [] := by
    intro nn_2
    induction nn_2 using Nat.strongRecOn with
    | ind nn_2 ih_2 =>
    intro x2_2 Iw1 Jw1 hn_2 iv0_2 iv1_2 hVw1
    have rg2_2 := rg x2_2
    refine g_iload_n C dMo_goes_2 rfl ?_
    refine g_aload_n C dMo_goes_3 rfl ?_
    refine gt_getS C dMo_goes_4 fl_Mo_290 h0 hMo ?_
    refine g_geti C dMo_goes_7 fl_Mo_191 hMk ?_
    have o_7 := hVw1.1.2 M hMk.1 8
    rw [hMk.2] at o_7
    have o_7 : 0 ≤ (Iw1 M 8).toInt ∧ (Iw1 M 8).toInt ≤ 5 := o_7
    refine gt_icmp_ge 89 C dMo_goes_10 (by decide) rfl rfl (fun c_10 => ?_) (fun c_10 => ?_)
    · skip
      refine g_aload_n C dMo_goes_89 rfl ?_
      refine g_bipush (v := Int32.ofInt (28)) C dMo_goes_90 (by decide) ?_
      refine g_aload_n C dMo_goes_92 rfl ?_
      refine g_aload_n C dMo_goes_93 rfl ?_
      refine g_iconst (v := Int32.ofInt (0)) C dMo_goes_94 (by decide) ?_
      refine s_callV_ip (av := fun ad => [.ref a1, .int (Int32.ofInt (0))]) C dMo_goes_95 mfMo_sumOf mvMo_sumOf ln_Mo_305 h0 (by decide) rfl (cMo_sumOf_G hVw1.1 h0 h1 hMo hMk (hGM.keep (hVw1.2 M (by rw [hMk.2]; rfl)).1) (by have hk2 : Int32.toInt (Int32.ofInt (0)) = 0 := ofI (by decide); omega)) rfl rfl (Nat.le_of_ble_eq_true rfl) ⟨Nat.le_of_ble_eq_true rfl, Nat.le_of_ble_eq_true rfl⟩ ⟨rfl, rfl⟩ ⟨Nat.zero_le _, Nat.zero_le _⟩ (fun z_95 p_95 => ?_)
      have rz_95 := rg z_95
      refine gt_iastc (c := 28) C dMo_goes_98 h1 (by decide) rfl (ofI (by decide)) (n := 37) rfl (by decide) (by decide) hVw1 rfl trivial (fun Iw3 eIw3 hVw3 => ?_)
      have tkw3_a1_27 : (Iw3 a1 27).toInt = (Iw1 a1 27).toInt := by rw [eIw3, up2_ne _ _ (fun z => absurd z.2 (by decide))]
      refine g_aload_n C dMo_goes_99 rfl ?_
      refine g_bipush (v := Int32.ofInt (26)) C dMo_goes_100 (by decide) ?_
      refine g_aload_n C dMo_goes_102 rfl ?_
      refine g_bipush (v := Int32.ofInt (28)) C dMo_goes_103 (by decide) ?_
      refine gt_ialdc (c := 28) C dMo_goes_105 h1 (by decide) rfl (ofI (by decide)) (n := 37) rfl (by decide) (by decide) ?_
      refine g_aload_n C dMo_goes_106 rfl ?_
      refine gt_getS C dMo_goes_107 fl_Mo_290 h0 hMo ?_
      refine g_geti C dMo_goes_110 fl_Mo_176 hMk ?_
      have gm_110 : 1 ≤ (Iw3 M 0).toInt := (hGM.keep (hVw3.2 M (by rw [hMk.2]; rfl)).1).1
      have jn_121 : ∀  (s0_121 : Int32) (Iw4 : Nat → Nat → Int32) (Jw4 : Nat → Nat → Int64), (Int32.toInt (Iw4 a1 27) = Int32.toInt (I0 a1 27)) → SV frX31 P K O I0 J0 Iw4 Jw4 → GG X 5 P K Iw4 O Jw4 0 0 121 [(0, .ref a0), (1, .ref a1), (2, .int x2_2)] [.int s0_121, .int (Int32.ofInt (26)), .ref a1] := by
        intro s0_121 Iw4 Jw4 jv0_121 hVw4
        refine gt_iastc (c := 26) C dMo_goes_121 h1 (by decide) rfl (ofI (by decide)) (n := 37) rfl (by decide) (by decide) hVw4 rfl trivial (fun Iw5 eIw5 hVw5 => ?_)
        have tkw5_a1_27 : (Iw5 a1 27).toInt = (Iw4 a1 27).toInt := by rw [eIw5, up2_ne _ _ (fun z => absurd z.2 (by decide))]
        refine g_aload_n C dMo_goes_122 rfl ?_
        refine g_bipush (v := Int32.ofInt (29)) C dMo_goes_123 (by decide) ?_
        refine g_iconst (v := Int32.ofInt (0)) C dMo_goes_125 (by decide) ?_
        refine gt_iastc (c := 29) C dMo_goes_126 h1 (by decide) rfl (ofI (by decide)) (n := 37) rfl (by decide) (by decide) hVw5 rfl trivial (fun Iw6 eIw6 hVw6 => ?_)
        have tkw6_a1_27 : (Iw6 a1 27).toInt = (Iw5 a1 27).toInt := by rw [eIw6, up2_ne _ _ (fun z => absurd z.2 (by decide))]
        refine g_aload_n C dMo_goes_127 rfl ?_
        refine g_bipush (v := Int32.ofInt (30)) C dMo_goes_128 (by decide) ?_
        refine g_iconst (v := Int32.ofInt (0)) C dMo_goes_130 (by decide) ?_
        refine gt_iastc (c := 30) C dMo_goes_131 h1 (by decide) rfl (ofI (by decide)) (n := 37) rfl (by decide) (by decide) hVw6 rfl trivial (fun Iw7 eIw7 hVw7 => ?_)
        have tkw7_a1_27 : (Iw7 a1 27).toInt = (Iw6 a1 27).toInt := by rw [eIw7, up2_ne _ _ (fun z => absurd z.2 (by decide))]
        refine g_aload_n C dMo_goes_132 rfl ?_
        refine g_bipush (v := Int32.ofInt (26)) C dMo_goes_133 (by decide) ?_
        refine gt_ialdc (c := 26) C dMo_goes_135 h1 (by decide) rfl (ofI (by decide)) (n := 37) rfl (by decide) (by decide) ?_
        have jn_152 : ∀   (Iw8 : Nat → Nat → Int32) (Jw8 : Nat → Nat → Int64), (Int32.toInt (Iw8 a1 27) = Int32.toInt (I0 a1 27)) → SV frX31 P K O I0 J0 Iw8 Jw8 → GG X 5 P K Iw8 O Jw8 0 0 152 [(0, .ref a0), (1, .ref a1), (2, .int x2_2)] [] := by
          intro Iw8 Jw8 jv0_152 hVw8
          refine g_aload_n C dMo_goes_152 rfl ?_
          refine g_bipush (v := Int32.ofInt (20)) C dMo_goes_153 (by decide) ?_
          refine g_dup2 C dMo_goes_155 rfl rfl ?_
          refine gt_ialdc (c := 20) C dMo_goes_156 h1 (by decide) rfl (ofI (by decide)) (n := 37) rfl (by decide) (by decide) ?_
          refine g_aload_n C dMo_goes_157 rfl ?_
          refine g_aload_n C dMo_goes_158 rfl ?_
          refine g_bipush (v := Int32.ofInt (10)) C dMo_goes_159 (by decide) ?_
          refine s_callV_ip (av := fun ad => [.ref a1, .int (Int32.ofInt (10))]) C dMo_goes_161 mfMo_sumOf mvMo_sumOf ln_Mo_305 h0 (by decide) rfl (cMo_sumOf_G hVw8.1 h0 h1 hMo hMk (hGM.keep (hVw8.2 M (by rw [hMk.2]; rfl)).1) (by have hk2 : Int32.toInt (Int32.ofInt (10)) = 10 := ofI (by decide); omega)) rfl rfl (Nat.le_of_ble_eq_true rfl) ⟨Nat.le_of_ble_eq_true rfl, Nat.le_of_ble_eq_true rfl⟩ ⟨rfl, rfl⟩ ⟨Nat.zero_le _, Nat.zero_le _⟩ (fun z_161 p_161 => ?_)
          have rz_161 := rg z_161
          first | refine n_iadd C dMo_goes_164 rfl rfl (by omega) (fun z_164 e_164 => ?_) | refine a_iadd C dMo_goes_164 (fun z_164 => ?_)
          refine gt_iastc (c := 20) C dMo_goes_165 h1 (by decide) rfl (ofI (by decide)) (n := 37) rfl (by decide) (by decide) hVw8 rfl trivial (fun Iw10 eIw10 hVw10 => ?_)
          have tkw10_a1_27 : (Iw10 a1 27).toInt = (Iw8 a1 27).toInt := by rw [eIw10, up2_ne _ _ (fun z => absurd z.2 (by decide))]
          refine g_aload_n C dMo_goes_166 rfl ?_
          refine g_bipush (v := Int32.ofInt (20)) C dMo_goes_167 (by decide) ?_
          refine gt_ialdc (c := 20) C dMo_goes_169 h1 (by decide) rfl (ofI (by decide)) (n := 37) rfl (by decide) (by decide) ?_
          refine g_aload_n C dMo_goes_170 rfl ?_
          refine gt_getS C dMo_goes_171 fl_Mo_290 h0 hMo ?_
          refine g_geti C dMo_goes_174 fl_Mo_186 hMk ?_
          have jn_196 : ∀  (s0_196 : Int32) (Iw11 : Nat → Nat → Int32) (Jw11 : Nat → Nat → Int64), (Int32.toInt (Iw11 a1 27) = Int32.toInt (I0 a1 27)) → SV frX31 P K O I0 J0 Iw11 Jw11 → GG X 5 P K Iw11 O Jw11 0 0 196 [(0, .ref a0), (1, .ref a1), (2, .int x2_2)] [.int s0_196] := by
            intro s0_196 Iw11 Jw11 jv0_196 hVw11
            refine g_istore_n (i := 2) C dMo_goes_196 rfl (by decide) ?_
            refine g_aload_n C dMo_goes_197 rfl ?_
            refine g_bipush (v := Int32.ofInt (21)) C dMo_goes_198 (by decide) ?_
            refine g_dup2 C dMo_goes_200 rfl rfl ?_
            refine gt_ialdc (c := 21) C dMo_goes_201 h1 (by decide) rfl (ofI (by decide)) (n := 37) rfl (by decide) (by decide) ?_
            refine g_iload_n C dMo_goes_202 rfl ?_
            first | refine n_iadd C dMo_goes_203 rfl rfl (by omega) (fun z_203 e_203 => ?_) | refine a_iadd C dMo_goes_203 (fun z_203 => ?_)
            refine gt_iastc (c := 21) C dMo_goes_204 h1 (by decide) rfl (ofI (by decide)) (n := 37) rfl (by decide) (by decide) hVw11 rfl trivial (fun Iw12 eIw12 hVw12 => ?_)
            have tkw12_a1_27 : (Iw12 a1 27).toInt = (Iw11 a1 27).toInt := by rw [eIw12, up2_ne _ _ (fun z => absurd z.2 (by decide))]
            refine g_aload_n C dMo_goes_205 rfl ?_
            refine g_bipush (v := Int32.ofInt (20)) C dMo_goes_206 (by decide) ?_
            refine g_dup2 C dMo_goes_208 rfl rfl ?_
            refine gt_ialdc (c := 20) C dMo_goes_209 h1 (by decide) rfl (ofI (by decide)) (n := 37) rfl (by decide) (by decide) ?_
            refine g_iload_n C dMo_goes_210 rfl ?_
            first | refine n_isub C dMo_goes_211 rfl rfl (by omega) (fun z_211 e_211 => ?_) | refine a_isub C dMo_goes_211 (fun z_211 => ?_)
            refine gt_iastc (c := 20) C dMo_goes_212 h1 (by decide) rfl (ofI (by decide)) (n := 37) rfl (by decide) (by decide) hVw12 rfl trivial (fun Iw13 eIw13 hVw13 => ?_)
            have tkw13_a1_27 : (Iw13 a1 27).toInt = (Iw12 a1 27).toInt := by rw [eIw13, up2_ne _ _ (fun z => absurd z.2 (by decide))]
            refine g_aload_n C dMo_goes_213 rfl ?_
            refine g_bipush (v := Int32.ofInt (20)) C dMo_goes_214 (by decide) ?_
            refine gt_ialdc (c := 20) C dMo_goes_216 h1 (by decide) rfl (ofI (by decide)) (n := 37) rfl (by decide) (by decide) ?_
            refine g_aload_n C dMo_goes_217 rfl ?_
            refine gt_getS C dMo_goes_218 fl_Mo_290 h0 hMo ?_
            refine g_geti C dMo_goes_221 fl_Mo_252 hMk ?_
            have jn_241 : ∀  (s0_241 : Int32) (Iw14 : Nat → Nat → Int32) (Jw14 : Nat → Nat → Int64), (Int32.toInt (Iw14 a1 27) = Int32.toInt (I0 a1 27)) → SV frX31 P K O I0 J0 Iw14 Jw14 → GG X 5 P K Iw14 O Jw14 0 0 241 [(0, .ref a0), (1, .ref a1), (2, .int s0_196)] [.int s0_241] := by
              intro s0_241 Iw14 Jw14 jv0_241 hVw14
              refine g_istore_n (i := 3) C dMo_goes_241 rfl (by decide) ?_
              refine g_aload_n C dMo_goes_242 rfl ?_
              refine g_bipush (v := Int32.ofInt (20)) C dMo_goes_243 (by decide) ?_
              refine g_dup2 C dMo_goes_245 rfl rfl ?_
              refine gt_ialdc (c := 20) C dMo_goes_246 h1 (by decide) rfl (ofI (by decide)) (n := 37) rfl (by decide) (by decide) ?_
              refine g_iload_n C dMo_goes_247 rfl ?_
              first | refine n_isub C dMo_goes_248 rfl rfl (by omega) (fun z_248 e_248 => ?_) | refine a_isub C dMo_goes_248 (fun z_248 => ?_)
              refine gt_iastc (c := 20) C dMo_goes_249 h1 (by decide) rfl (ofI (by decide)) (n := 37) rfl (by decide) (by decide) hVw14 rfl trivial (fun Iw15 eIw15 hVw15 => ?_)
              have tkw15_a1_27 : (Iw15 a1 27).toInt = (Iw14 a1 27).toInt := by rw [eIw15, up2_ne _ _ (fun z => absurd z.2 (by decide))]
              refine g_aload_n C dMo_goes_250 rfl ?_
              refine g_bipush (v := Int32.ofInt (22)) C dMo_goes_251 (by decide) ?_
              refine g_dup2 C dMo_goes_253 rfl rfl ?_
              refine gt_ialdc (c := 22) C dMo_goes_254 h1 (by decide) rfl (ofI (by decide)) (n := 37) rfl (by decide) (by decide) ?_
              refine g_iload_n C dMo_goes_255 rfl ?_
              first | refine n_iadd C dMo_goes_256 rfl rfl (by omega) (fun z_256 e_256 => ?_) | refine a_iadd C dMo_goes_256 (fun z_256 => ?_)
              refine gt_iastc (c := 22) C dMo_goes_257 h1 (by decide) rfl (ofI (by decide)) (n := 37) rfl (by decide) (by decide) hVw15 rfl trivial (fun Iw16 eIw16 hVw16 => ?_)
              have tkw16_a1_27 : (Iw16 a1 27).toInt = (Iw15 a1 27).toInt := by rw [eIw16, up2_ne _ _ (fun z => absurd z.2 (by decide))]
              refine g_aload_n C dMo_goes_258 rfl ?_
              refine g_bipush (v := Int32.ofInt (23)) C dMo_goes_259 (by decide) ?_
              refine g_dup2 C dMo_goes_261 rfl rfl ?_
              refine gt_ialdc (c := 23) C dMo_goes_262 h1 (by decide) rfl (ofI (by decide)) (n := 37) rfl (by decide) (by decide) ?_
              refine g_aload_n C dMo_goes_263 rfl ?_
              refine gt_getS C dMo_goes_264 fl_Mo_290 h0 hMo ?_
              refine g_geti C dMo_goes_267 fl_Mo_252 hMk ?_
              refine g_iload_n C dMo_goes_270 rfl ?_
              first | refine n_isub C dMo_goes_271 rfl rfl (by omega) (fun z_271 e_271 => ?_) | refine a_isub C dMo_goes_271 (fun z_271 => ?_)
              first | refine n_iadd C dMo_goes_272 rfl rfl (by omega) (fun z_272 e_272 => ?_) | refine a_iadd C dMo_goes_272 (fun z_272 => ?_)
              refine gt_iastc (c := 23) C dMo_goes_273 h1 (by decide) rfl (ofI (by decide)) (n := 37) rfl (by decide) (by decide) hVw16 rfl trivial (fun Iw17 eIw17 hVw17 => ?_)
              have tkw17_a1_27 : (Iw17 a1 27).toInt = (Iw16 a1 27).toInt := by rw [eIw17, up2_ne _ _ (fun z => absurd z.2 (by decide))]
              refine g_aload_n C dMo_goes_274 rfl ?_
              refine gt_getS C dMo_goes_275 fl_Mo_290 h0 hMo ?_
              refine g_geti C dMo_goes_278 fl_Mo_233 hMk ?_
              refine g_aload_n C dMo_goes_281 rfl ?_
              refine gt_getS C dMo_goes_282 fl_Mo_290 h0 hMo ?_
              refine g_geti C dMo_goes_285 fl_Mo_233 hMk ?_
              refine g_aload_n C dMo_goes_288 rfl ?_
              refine g_bipush (v := Int32.ofInt (28)) C dMo_goes_289 (by decide) ?_
              refine gt_ialdc (c := 28) C dMo_goes_291 h1 (by decide) rfl (ofI (by decide)) (n := 37) rfl (by decide) (by decide) ?_
              refine a_imul C dMo_goes_292 (fun z_292 => ?_)
              refine g_aload_n C dMo_goes_293 rfl ?_
              refine gt_getS C dMo_goes_294 fl_Mo_290 h0 hMo ?_
              refine g_geti C dMo_goes_297 fl_Mo_176 hMk ?_
              have gm_297 : 1 ≤ (Iw17 M 0).toInt := (hGM.keep (hVw17.2 M (by rw [hMk.2]; rfl)).1).1
              refine a_idiv C dMo_goes_300 (by omega) (fun z_300 => ?_)
              first | refine n_isub C dMo_goes_301 rfl rfl (by omega) (fun z_301 e_301 => ?_) | refine a_isub C dMo_goes_301 (fun z_301 => ?_)
              refine g_istore C dMo_goes_302 (by decide) ?_
              refine g_aload_n C dMo_goes_304 rfl ?_
              refine g_bipush (v := Int32.ofInt (31)) C dMo_goes_305 (by decide) ?_
              refine g_iload C dMo_goes_307 rfl ?_
              have jn_318 : ∀  (s0_318 : Int32) (Iw18 : Nat → Nat → Int32) (Jw18 : Nat → Nat → Int64), (Int32.toInt (Iw18 a1 27) = Int32.toInt (I0 a1 27)) → SV frX31 P K O I0 J0 Iw18 Jw18 → GG X 5 P K Iw18 O Jw18 0 0 318 [(0, .ref a0), (1, .ref a1), (2, .int s0_196), (3, .int s0_241), (4, .int z_301)] [.int s0_318, .int (Int32.ofInt (31)), .ref a1] := by
                intro s0_318 Iw18 Jw18 jv0_318 hVw18
                refine gt_iastc (c := 31) C dMo_goes_318 h1 (by decide) rfl (ofI (by decide)) (n := 37) rfl (by decide) (by decide) hVw18 rfl trivial (fun Iw19 eIw19 hVw19 => ?_)
                have tkw19_a1_27 : (Iw19 a1 27).toInt = (Iw18 a1 27).toInt := by rw [eIw19, up2_ne _ _ (fun z => absurd z.2 (by decide))]
                refine g_aload_n C dMo_goes_319 rfl ?_
                refine g_bipush (v := Int32.ofInt (32)) C dMo_goes_320 (by decide) ?_
                refine g_dup2 C dMo_goes_322 rfl rfl ?_
                refine gt_ialdc (c := 32) C dMo_goes_323 h1 (by decide) rfl (ofI (by decide)) (n := 37) rfl (by decide) (by decide) ?_
                refine g_aload_n C dMo_goes_324 rfl ?_
                refine g_bipush (v := Int32.ofInt (30)) C dMo_goes_325 (by decide) ?_
                refine gt_ialdc (c := 30) C dMo_goes_327 h1 (by decide) rfl (ofI (by decide)) (n := 37) rfl (by decide) (by decide) ?_
                refine g_aload_n C dMo_goes_328 rfl ?_
                refine gt_getS C dMo_goes_329 fl_Mo_290 h0 hMo ?_
                refine gt_getr C dMo_goes_332 fl_Mo_254 hMk hVw19.1.1 rfl (fun b_332 q_332 hb_332 => ?_)
                refine g_aload_n C dMo_goes_335 rfl ?_
                refine g_bipush (v := Int32.ofInt (27)) C dMo_goes_336 (by decide) ?_
                refine gt_ialdc (c := 27) C dMo_goes_338 h1 (by decide) rfl (ofI (by decide)) (n := 37) rfl (by decide) (by decide) ?_
                have o_338 := hVw19.1.2 a1 h1.1 27
                rw [h1.2] at o_338
                have o_338 : 0 ≤ (Iw19 a1 27).toInt ∧ (Iw19 a1 27).toInt ≤ 240 := o_338
                refine g_aload_n C dMo_goes_339 rfl ?_
                refine gt_getS C dMo_goes_340 fl_Mo_290 h0 hMo ?_
                refine g_geti C dMo_goes_343 fl_Mo_188 hMk ?_
                have o_343 := hVw19.1.2 M hMk.1 7
                rw [hMk.2] at o_343
                have o_343 : 0 ≤ (Iw19 M 7).toInt ∧ (Iw19 M 7).toInt ≤ 6 := o_343
                have gm_343 : 1 ≤ (Iw19 M 7).toInt := (hGM.keep (hVw19.2 M (by rw [hMk.2]; rfl)).1).2.2
                refine gt_irem ((Iw19 M 7).toInt) C dMo_goes_346 rfl rfl (by omega) (fun z_346 e_346 => ?_)
                refine gt_iald C dMo_goes_347 hb_332 (by decide) rfl rfl (n := 6) rfl (by omega) ?_
                refine a_imul C dMo_goes_348 (fun z_348 => ?_)
                first | refine n_iadd C dMo_goes_349 rfl rfl (by omega) (fun z_349 e_349 => ?_) | refine a_iadd C dMo_goes_349 (fun z_349 => ?_)
                refine gt_iastc (c := 32) C dMo_goes_350 h1 (by decide) rfl (ofI (by decide)) (n := 37) rfl (by decide) (by decide) hVw19 rfl trivial (fun Iw20 eIw20 hVw20 => ?_)
                have tkw20_a1_27 : (Iw20 a1 27).toInt = (Iw19 a1 27).toInt := by rw [eIw20, up2_ne _ _ (fun z => absurd z.2 (by decide))]
                refine g_aload_n C dMo_goes_351 rfl ?_
                refine g_bipush (v := Int32.ofInt (24)) C dMo_goes_352 (by decide) ?_
                refine g_dup2 C dMo_goes_354 rfl rfl ?_
                refine gt_ialdc (c := 24) C dMo_goes_355 h1 (by decide) rfl (ofI (by decide)) (n := 37) rfl (by decide) (by decide) ?_
                refine g_iconst (v := Int32.ofInt (1)) C dMo_goes_356 (by decide) ?_
                first | refine n_iadd C dMo_goes_357 rfl (ofI (by decide)) (by omega) (fun z_357 e_357 => ?_) | refine a_iadd C dMo_goes_357 (fun z_357 => ?_)
                refine gt_iastc (c := 24) C dMo_goes_358 h1 (by decide) rfl (ofI (by decide)) (n := 37) rfl (by decide) (by decide) hVw20 rfl trivial (fun Iw21 eIw21 hVw21 => ?_)
                have tkw21_a1_27 : (Iw21 a1 27).toInt = (Iw20 a1 27).toInt := by rw [eIw21, up2_ne _ _ (fun z => absurd z.2 (by decide))]
                refine g_aload_n C dMo_goes_359 rfl ?_
                refine g_bipush (v := Int32.ofInt (27)) C dMo_goes_360 (by decide) ?_
                refine g_dup2 C dMo_goes_362 rfl rfl ?_
                refine gt_ialdc (c := 27) C dMo_goes_363 h1 (by decide) rfl (ofI (by decide)) (n := 37) rfl (by decide) (by decide) ?_
                have o_363 := hVw21.1.2 a1 h1.1 27
                rw [h1.2] at o_363
                have o_363 : 0 ≤ (Iw21 a1 27).toInt ∧ (Iw21 a1 27).toInt ≤ 240 := o_363
                refine g_iconst (v := Int32.ofInt (1)) C dMo_goes_364 (by decide) ?_
                first | refine n_iadd C dMo_goes_365 rfl (ofI (by decide)) (by omega) (fun z_365 e_365 => ?_) | refine a_iadd C dMo_goes_365 (fun z_365 => ?_)
                refine gt_iastc (c := 27) C dMo_goes_366 h1 (by decide) rfl (ofI (by decide)) (n := 37) rfl (by decide) (by decide) hVw21 rfl (by show 0 ≤ Int32.toInt _ ∧ Int32.toInt _ ≤ 240; omega) (fun Iw22 eIw22 hVw22 => ?_)
                have tkw22_a1_27 : (Iw22 a1 27).toInt = z_365.toInt := by rw [eIw22, up2_self]
                exact s_vret C E dMo_goes_367 ⟨Nat.zero_le _, Nat.zero_le _⟩ hVw22 (by (try dsimp only); omega)
              refine gt_if_ge 316 C dMo_goes_309 (by decide) rfl (fun c_309 => ?_) (fun c_309 => ?_)
              · skip
                refine g_iload C dMo_goes_316 rfl ?_
                exact g_sub (jn_318 z_301 Iw17 Jw14 (by omega) hVw17) ⟨rfl, rfl, rfl, rfl, rfl, trivial⟩
              · skip
                refine g_iconst (v := Int32.ofInt (0)) C dMo_goes_312 (by decide) ?_
                refine g_goto 318 C dMo_goes_313 (by decide) ?_
                exact g_sub (jn_318 (Int32.ofInt (0)) Iw17 Jw14 (by omega) hVw17) ⟨rfl, rfl, rfl, rfl, rfl, trivial⟩
            refine gt_icmp_ge 234 C dMo_goes_224 (by decide) rfl rfl (fun c_224 => ?_) (fun c_224 => ?_)
            · skip
              refine g_aload_n C dMo_goes_234 rfl ?_
              refine gt_getS C dMo_goes_235 fl_Mo_290 h0 hMo ?_
              refine g_geti C dMo_goes_238 fl_Mo_252 hMk ?_
              exact g_sub (jn_241 (Iw13 M 6) Iw13 Jw11 (by omega) hVw13) ⟨rfl, rfl, rfl, trivial⟩
            · skip
              refine g_aload_n C dMo_goes_227 rfl ?_
              refine g_bipush (v := Int32.ofInt (20)) C dMo_goes_228 (by decide) ?_
              refine gt_ialdc (c := 20) C dMo_goes_230 h1 (by decide) rfl (ofI (by decide)) (n := 37) rfl (by decide) (by decide) ?_
              refine g_goto 241 C dMo_goes_231 (by decide) ?_
              exact g_sub (jn_241 (Iw13 a1 20) Iw13 Jw11 (by omega) hVw13) ⟨rfl, rfl, rfl, trivial⟩
          refine gt_icmp_le 195 C dMo_goes_177 (by decide) rfl rfl (fun c_177 => ?_) (fun c_177 => ?_)
          · skip
            refine g_iconst (v := Int32.ofInt (0)) C dMo_goes_195 (by decide) ?_
            exact g_sub (jn_196 (Int32.ofInt (0)) Iw10 Jw8 (by omega) hVw10) ⟨rfl, rfl, rfl, trivial⟩
          · skip
            refine g_aload_n C dMo_goes_180 rfl ?_
            refine g_bipush (v := Int32.ofInt (20)) C dMo_goes_181 (by decide) ?_
            refine gt_ialdc (c := 20) C dMo_goes_183 h1 (by decide) rfl (ofI (by decide)) (n := 37) rfl (by decide) (by decide) ?_
            refine g_aload_n C dMo_goes_184 rfl ?_
            refine gt_getS C dMo_goes_185 fl_Mo_290 h0 hMo ?_
            refine g_geti C dMo_goes_188 fl_Mo_186 hMk ?_
            first | refine n_isub C dMo_goes_191 rfl rfl (by omega) (fun z_191 e_191 => ?_) | refine a_isub C dMo_goes_191 (fun z_191 => ?_)
            refine g_goto 196 C dMo_goes_192 (by decide) ?_
            exact g_sub (jn_196 z_191 Iw10 Jw8 (by omega) hVw10) ⟨rfl, rfl, rfl, trivial⟩
        refine gt_if_ne 147 C dMo_goes_136 (by decide) rfl (fun c_136 => ?_) (fun c_136 => ?_)
        · skip
          refine g_aload_n C dMo_goes_147 rfl ?_
          refine g_aload_n C dMo_goes_148 rfl ?_
          refine s_callV_v (av := fun ad => [.ref a1]) C dMo_goes_149 mfMo_digs mvMo_digs ln_Mo_313 h0 (by decide) rfl hVw7 (frL_le (by decide)) (cMo_digs_G hVw7.1 h0 h1 hMo hMk (hGM.keep (hVw7.2 M (by rw [hMk.2]; rfl)).1)) rfl rfl (Nat.le_of_ble_eq_true rfl) ⟨Nat.le_of_ble_eq_true rfl, Nat.le_of_ble_eq_true rfl⟩ ⟨rfl, rfl⟩ ⟨Nat.zero_le _, Nat.zero_le _⟩ (fun Iw23 Jw23 hVw23 hFw23 p_149 => ?_)
          try dsimp only at p_149
          exact g_sub (jn_152  Iw23 Jw23 (by omega) hVw23) ⟨rfl, rfl, rfl, trivial⟩
        · skip
          refine g_aload_n C dMo_goes_139 rfl ?_
          refine g_aload_n C dMo_goes_140 rfl ?_
          refine s_callV_v (av := fun ad => [.ref a1]) C dMo_goes_141 mfMo_grinds mvMo_grinds ln_Mo_309 h0 (by decide) rfl hVw7 (frL_le (by decide)) (cMo_grinds_G hVw7.1 h0 h1 hMo hMk (hGM.keep (hVw7.2 M (by rw [hMk.2]; rfl)).1)) rfl rfl (Nat.le_of_ble_eq_true rfl) ⟨Nat.le_of_ble_eq_true rfl, Nat.le_of_ble_eq_true rfl⟩ ⟨rfl, rfl⟩ ⟨Nat.zero_le _, Nat.zero_le _⟩ (fun Iw24 Jw24 hVw24 hFw24 p_141 => ?_)
          try dsimp only at p_141
          refine g_goto 152 C dMo_goes_144 (by decide) ?_
          exact g_sub (jn_152  Iw24 Jw24 (by omega) hVw24) ⟨rfl, rfl, rfl, trivial⟩
      refine gt_icmp_le 120 C dMo_goes_113 (by decide) rfl rfl (fun c_113 => ?_) (fun c_113 => ?_)
      · skip
        refine g_iconst (v := Int32.ofInt (0)) C dMo_goes_120 (by decide) ?_
        exact g_sub (jn_121 (Int32.ofInt (0)) Iw3 Jw1 (by omega) hVw3) ⟨rfl, rfl, rfl, trivial⟩
      · skip
        refine g_iconst (v := Int32.ofInt (1)) C dMo_goes_116 (by decide) ?_
        refine g_goto 121 C dMo_goes_117 (by decide) ?_
        exact g_sub (jn_121 (Int32.ofInt (1)) Iw3 Jw1 (by omega) hVw3) ⟨rfl, rfl, rfl, trivial⟩
    · skip
      refine g_aload_n C dMo_goes_13 rfl ?_
      refine g_bipush (v := Int32.ofInt (26)) C dMo_goes_14 (by decide) ?_
      refine gt_ialdc (c := 26) C dMo_goes_16 h1 (by decide) rfl (ofI (by decide)) (n := 37) rfl (by decide) (by decide) ?_
      refine g_iconst (v := Int32.ofInt (1)) C dMo_goes_17 (by decide) ?_
      have jn_46 : ∀  (s0_46 : Int32) (Iw25 : Nat → Nat → Int32) (Jw25 : Nat → Nat → Int64), (Int32.toInt (Iw25 a1 27) = Int32.toInt (I0 a1 27)) → SV frX31 P K O I0 J0 Iw25 Jw25 → GG X 5 P K Iw25 O Jw25 0 0 46 [(0, .ref a0), (1, .ref a1), (2, .int x2_2)] [.int s0_46] := by
        intro s0_46 Iw25 Jw25 jv0_46 hVw25
        refine g_istore_n (i := 3) C dMo_goes_46 rfl (by decide) ?_
        refine g_aload_n C dMo_goes_47 rfl ?_
        refine g_bipush (v := Int32.ofInt (33)) C dMo_goes_48 (by decide) ?_
        refine g_dup2 C dMo_goes_50 rfl rfl ?_
        refine gt_ialdc (c := 33) C dMo_goes_51 h1 (by decide) rfl (ofI (by decide)) (n := 37) rfl (by decide) (by decide) ?_
        refine g_iload_n C dMo_goes_52 rfl ?_
        first | refine n_iadd C dMo_goes_53 rfl rfl (by omega) (fun z_53 e_53 => ?_) | refine a_iadd C dMo_goes_53 (fun z_53 => ?_)
        refine gt_iastc (c := 33) C dMo_goes_54 h1 (by decide) rfl (ofI (by decide)) (n := 37) rfl (by decide) (by decide) hVw25 rfl trivial (fun Iw26 eIw26 hVw26 => ?_)
        have tkw26_a1_27 : (Iw26 a1 27).toInt = (Iw25 a1 27).toInt := by rw [eIw26, up2_ne _ _ (fun z => absurd z.2 (by decide))]
        refine g_aload_n C dMo_goes_55 rfl ?_
        refine g_iconst (v := Int32.ofInt (0)) C dMo_goes_56 (by decide) ?_
        refine g_iload_n C dMo_goes_57 rfl ?_
        first | refine n_iadd C dMo_goes_58 (ofI (by decide)) rfl (by omega) (fun z_58 e_58 => ?_) | refine a_iadd C dMo_goes_58 (fun z_58 => ?_)
        refine g_dup2 C dMo_goes_59 rfl rfl ?_
        refine gt_iald C dMo_goes_60 h1 (by decide) rfl rfl (n := 37) rfl (by omega) ?_
        refine g_iload_n C dMo_goes_61 rfl ?_
        refine g_aload_n C dMo_goes_62 rfl ?_
        refine g_iconst (v := Int32.ofInt (5)) C dMo_goes_63 (by decide) ?_
        refine g_iload_n C dMo_goes_64 rfl ?_
        first | refine n_iadd C dMo_goes_65 (ofI (by decide)) rfl (by omega) (fun z_65 e_65 => ?_) | refine a_iadd C dMo_goes_65 (fun z_65 => ?_)
        refine gt_iald C dMo_goes_66 h1 (by decide) rfl rfl (n := 37) rfl (by omega) ?_
        first | refine n_iadd C dMo_goes_67 rfl rfl (by omega) (fun z_67 e_67 => ?_) | refine a_iadd C dMo_goes_67 (fun z_67 => ?_)
        first | refine n_iadd C dMo_goes_68 rfl rfl (by omega) (fun z_68 e_68 => ?_) | refine a_iadd C dMo_goes_68 (fun z_68 => ?_)
        refine gt_iast C dMo_goes_69 h1 (by decide) rfl rfl (n := 37) rfl (by omega) hVw26 rfl (okS (by decide) (by have q : z_58.toNatClampNeg = Int.toNat (z_58.toInt) := rfl; omega) (by have q : z_58.toNatClampNeg = Int.toNat (z_58.toInt) := rfl; omega)) (fun Iw27 eIw27 hVw27 => ?_)
        have tkw27_a1_27 : (Iw27 a1 27).toInt = (Iw26 a1 27).toInt := by rw [eIw27, up2_ne _ _ (fun z => by have q : z_58.toNatClampNeg = Int.toNat (z_58.toInt) := rfl; omega)]
        refine g_aload_n C dMo_goes_70 rfl ?_
        refine g_iconst (v := Int32.ofInt (5)) C dMo_goes_71 (by decide) ?_
        refine g_iload_n C dMo_goes_72 rfl ?_
        first | refine n_iadd C dMo_goes_73 (ofI (by decide)) rfl (by omega) (fun z_73 e_73 => ?_) | refine a_iadd C dMo_goes_73 (fun z_73 => ?_)
        refine g_iconst (v := Int32.ofInt (0)) C dMo_goes_74 (by decide) ?_
        refine gt_iast C dMo_goes_75 h1 (by decide) rfl rfl (n := 37) rfl (by omega) hVw27 rfl (okS (by decide) (by have q : z_73.toNatClampNeg = Int.toNat (z_73.toInt) := rfl; omega) (by have q : z_73.toNatClampNeg = Int.toNat (z_73.toInt) := rfl; omega)) (fun Iw28 eIw28 hVw28 => ?_)
        have tkw28_a1_27 : (Iw28 a1 27).toInt = (Iw27 a1 27).toInt := by rw [eIw28, up2_ne _ _ (fun z => by have q : z_73.toNatClampNeg = Int.toNat (z_73.toInt) := rfl; omega)]
        refine g_aload_n C dMo_goes_76 rfl ?_
        refine g_bipush (v := Int32.ofInt (10)) C dMo_goes_77 (by decide) ?_
        refine g_iload_n C dMo_goes_79 rfl ?_
        first | refine n_iadd C dMo_goes_80 (ofI (by decide)) rfl (by omega) (fun z_80 e_80 => ?_) | refine a_iadd C dMo_goes_80 (fun z_80 => ?_)
        refine g_iconst (v := Int32.ofInt (0)) C dMo_goes_81 (by decide) ?_
        refine gt_iast C dMo_goes_82 h1 (by decide) rfl rfl (n := 37) rfl (by omega) hVw28 rfl (okS (by decide) (by have q : z_80.toNatClampNeg = Int.toNat (z_80.toInt) := rfl; omega) (by have q : z_80.toNatClampNeg = Int.toNat (z_80.toInt) := rfl; omega)) (fun Iw29 eIw29 hVw29 => ?_)
        have tkw29_a1_27 : (Iw29 a1 27).toInt = (Iw28 a1 27).toInt := by rw [eIw29, up2_ne _ _ (fun z => by have q : z_80.toNatClampNeg = Int.toNat (z_80.toInt) := rfl; omega)]
        first | refine n_iinc C dMo_goes_83 rfl rfl (by decide) (by decide) (by omega) (fun z_83 e_83 => ?_) | refine a_iinc C dMo_goes_83 rfl (by decide) (fun z_83 => ?_)
        refine g_goto 2 C dMo_goes_86 (by decide) ?_
        exact g_sub (ih_2 _ (by omega) z_83 Iw29 Jw25 rfl (by omega) (by omega) hVw29) ⟨rfl, rfl, rfl, trivial⟩
      refine gt_icmp_ne 25 C dMo_goes_18 (by decide) rfl (ofI (by decide)) (fun c_18 => ?_) (fun c_18 => ?_)
      · skip
        refine g_aload_n C dMo_goes_25 rfl ?_
        refine g_bipush (v := Int32.ofInt (34)) C dMo_goes_26 (by decide) ?_
        refine gt_ialdc (c := 34) C dMo_goes_28 h1 (by decide) rfl (ofI (by decide)) (n := 37) rfl (by decide) (by decide) ?_
        refine g_aload_n C dMo_goes_29 rfl ?_
        refine gt_getS C dMo_goes_30 fl_Mo_290 h0 hMo ?_
        refine gt_getr C dMo_goes_33 fl_Mo_278 hMk hVw1.1.1 rfl (fun b_33 q_33 hb_33 => ?_)
        refine g_iconst (v := Int32.ofInt (5)) C dMo_goes_36 (by decide) ?_
        refine g_aload_n C dMo_goes_37 rfl ?_
        refine g_bipush (v := Int32.ofInt (36)) C dMo_goes_38 (by decide) ?_
        refine gt_ialdc (c := 36) C dMo_goes_40 h1 (by decide) rfl (ofI (by decide)) (n := 37) rfl (by decide) (by decide) ?_
        have o_40 := hVw1.1.2 a1 h1.1 36
        rw [h1.2] at o_40
        have o_40 : 0 ≤ (Iw1 a1 36).toInt ∧ (Iw1 a1 36).toInt ≤ 3 := o_40
        first | refine n_imul C dMo_goes_41 (ofI (by decide)) rfl (by omega) (fun z_41 e_41 => ?_) | refine a_imul C dMo_goes_41 (fun z_41 => ?_)
        refine g_iload_n C dMo_goes_42 rfl ?_
        first | refine n_iadd C dMo_goes_43 rfl rfl (by omega) (fun z_43 e_43 => ?_) | refine a_iadd C dMo_goes_43 (fun z_43 => ?_)
        refine gt_iald C dMo_goes_44 hb_33 (by decide) rfl rfl (n := 20) rfl (by omega) ?_
        refine a_imul C dMo_goes_45 (fun z_45 => ?_)
        exact g_sub (jn_46 z_45 Iw1 Jw1 (by omega) hVw1) ⟨rfl, rfl, rfl, trivial⟩
      · skip
        refine g_iconst (v := Int32.ofInt (0)) C dMo_goes_21 (by decide) ?_
        refine g_goto 46 C dMo_goes_22 (by decide) ?_
        exact g_sub (jn_46 (Int32.ofInt (0)) Iw1 Jw1 (by omega) hVw1) ⟨rfl, rfl, rfl, trivial⟩
  exact g_sub (lp_2 _ (Int32.ofInt (0)) I0 J0 rfl (by have hci : Int32.toInt (Int32.ofInt (0)) = 0 := ofI (by decide); omega) (by omega) hV0) ⟨rfl, rfl, rfl, trivial⟩
set_option maxHeartbeats 4000000 in
set_option maxRecDepth 100000 in
theorem cMo_digs_G49 {P : List Nat} {K : Nat → Nat} {I0 : Nat → Nat → Int32} {O : Nat → Nat → Option Nat} {J0 : Nat → Nat → Int64} (hV : IV P K I0 O) {a0 : Nat} (h0 : a0 ∈ P ∧ K a0 = 10) {a1 : Nat} (h1 : a1 ∈ P ∧ K a1 = 49) {M : Nat} (hMo : O a0 3 = some M) (hMk : M ∈ P ∧ K M = 9) (hGM : GM I0 M) : Con yMo_digs bMo_digs 4 none ({ frames := 0, cells := 0, slots := 0, locals := 0 } : Room) P K I0 O J0 [.ref a0, .ref a1] (SPo frX49 0 (fun _ I_ => (I_ a1 27).toInt = (I0 a1 27).toInt) P K I0 O J0) := by
  refine Con.ofG mfMo_digs (Nat.le_of_ble_eq_true rfl) ?_
  intro X C E
  have hV0 : SV frX49 P K O I0 J0 I0 J0 := SV.rf hV
  refine g_iconst (v := Int32.ofInt (0)) C dMo_digs_0 (by decide) ?_
  refine g_istore_n (i := 2) C dMo_digs_1 rfl (by decide) ?_
  have lp_2 : ∀ (nn_2 : Nat) (x2_2 : Int32) (Iw1 : Nat → Nat → Int32) (Jw1 : Nat → Nat → Int64), Int.toNat (5 - x2_2.toInt) = nn_2 → (0 ≤ Int32.toInt x2_2 ∧ Int32.toInt x2_2 ≤ 5) → (Int32.toInt (Iw1 a1 27) = Int32.toInt (I0 a1 27)) → SV frX49 P K O I0 J0 Iw1 Jw1 → GG X 4 P K Iw1 O Jw1 0 0 2 [(0, .ref a0), (1, .ref a1), (2, .int x2_2)] [] := by
    intro nn_2
    induction nn_2 using Nat.strongRecOn with
    | ind nn_2 ih_2 =>
    intro x2_2 Iw1 Jw1 hn_2 iv0_2 iv1_2 hVw1
    have rg2_2 := rg x2_2
    refine g_iload_n C dMo_digs_2 rfl ?_
    refine g_aload_n C dMo_digs_3 rfl ?_
    refine gt_getS C dMo_digs_4 fl_Mo_290 h0 hMo ?_
    refine g_geti C dMo_digs_7 fl_Mo_191 hMk ?_
    have o_7 := hVw1.1.2 M hMk.1 8
    rw [hMk.2] at o_7
    have o_7 : 0 ≤ (Iw1 M 8).toInt ∧ (Iw1 M 8).toInt ≤ 5 := o_7
    refine gt_icmp_ge 73 C dMo_digs_10 (by decide) rfl rfl (fun c_10 => ?_) (fun c_10 => ?_)
    · skip
      exact s_vret C E dMo_digs_73 ⟨Nat.zero_le _, Nat.zero_le _⟩ hVw1 (by (try dsimp only); omega)
    · skip
      refine g_aload_n C dMo_digs_13 rfl ?_
      refine g_iconst (v := Int32.ofInt (0)) C dMo_digs_14 (by decide) ?_
      refine g_iload_n C dMo_digs_15 rfl ?_
      first | refine n_iadd C dMo_digs_16 (ofI (by decide)) rfl (by omega) (fun z_16 e_16 => ?_) | refine a_iadd C dMo_digs_16 (fun z_16 => ?_)
      refine gt_iald C dMo_digs_17 h1 (by decide) rfl rfl (n := 37) rfl (by omega) ?_
      refine g_bipush (v := Int32.ofInt (10)) C dMo_digs_18 (by decide) ?_
      refine gt_idiv 10 C dMo_digs_20 rfl (ofI (by decide)) (by decide) (fun z_20 e_20 => ?_)
      refine g_iconst (v := Int32.ofInt (1)) C dMo_digs_21 (by decide) ?_
      first | refine n_iadd C dMo_digs_22 rfl (ofI (by decide)) (by omega) (fun z_22 e_22 => ?_) | refine a_iadd C dMo_digs_22 (fun z_22 => ?_)
      refine g_aload_n C dMo_digs_23 rfl ?_
      refine g_iconst (v := Int32.ofInt (0)) C dMo_digs_24 (by decide) ?_
      refine g_iload_n C dMo_digs_25 rfl ?_
      first | refine n_iadd C dMo_digs_26 (ofI (by decide)) rfl (by omega) (fun z_26 e_26 => ?_) | refine a_iadd C dMo_digs_26 (fun z_26 => ?_)
      refine gt_iald C dMo_digs_27 h1 (by decide) rfl rfl (n := 37) rfl (by omega) ?_
      have jn_49 : ∀  (s0_49 : Int32) (Iw2 : Nat → Nat → Int32) (Jw2 : Nat → Nat → Int64), (Int32.toInt (Iw2 a1 27) = Int32.toInt (I0 a1 27)) → SV frX49 P K O I0 J0 Iw2 Jw2 → GG X 4 P K Iw2 O Jw2 0 0 49 [(0, .ref a0), (1, .ref a1), (2, .int x2_2)] [.int s0_49] := by
        intro s0_49 Iw2 Jw2 jv0_49 hVw2
        refine g_istore_n (i := 3) C dMo_digs_49 rfl (by decide) ?_
        refine g_aload_n C dMo_digs_50 rfl ?_
        refine g_iconst (v := Int32.ofInt (0)) C dMo_digs_51 (by decide) ?_
        refine g_iload_n C dMo_digs_52 rfl ?_
        first | refine n_iadd C dMo_digs_53 (ofI (by decide)) rfl (by omega) (fun z_53 e_53 => ?_) | refine a_iadd C dMo_digs_53 (fun z_53 => ?_)
        refine g_dup2 C dMo_digs_54 rfl rfl ?_
        refine gt_iald C dMo_digs_55 h1 (by decide) rfl rfl (n := 37) rfl (by omega) ?_
        refine g_iload_n C dMo_digs_56 rfl ?_
        first | refine n_isub C dMo_digs_57 rfl rfl (by omega) (fun z_57 e_57 => ?_) | refine a_isub C dMo_digs_57 (fun z_57 => ?_)
        refine gt_iast C dMo_digs_58 h1 (by decide) rfl rfl (n := 37) rfl (by omega) hVw2 rfl (okS (by decide) (by have q : z_53.toNatClampNeg = Int.toNat (z_53.toInt) := rfl; omega) (by have q : z_53.toNatClampNeg = Int.toNat (z_53.toInt) := rfl; omega)) (fun Iw3 eIw3 hVw3 => ?_)
        have tkw3_a1_27 : (Iw3 a1 27).toInt = (Iw2 a1 27).toInt := by rw [eIw3, up2_ne _ _ (fun z => by have q : z_53.toNatClampNeg = Int.toNat (z_53.toInt) := rfl; omega)]
        refine g_aload_n C dMo_digs_59 rfl ?_
        refine g_bipush (v := Int32.ofInt (21)) C dMo_digs_60 (by decide) ?_
        refine g_dup2 C dMo_digs_62 rfl rfl ?_
        refine gt_ialdc (c := 21) C dMo_digs_63 h1 (by decide) rfl (ofI (by decide)) (n := 37) rfl (by decide) (by decide) ?_
        refine g_iload_n C dMo_digs_64 rfl ?_
        first | refine n_iadd C dMo_digs_65 rfl rfl (by omega) (fun z_65 e_65 => ?_) | refine a_iadd C dMo_digs_65 (fun z_65 => ?_)
        refine gt_iastc (c := 21) C dMo_digs_66 h1 (by decide) rfl (ofI (by decide)) (n := 37) rfl (by decide) (by decide) hVw3 rfl trivial (fun Iw4 eIw4 hVw4 => ?_)
        have tkw4_a1_27 : (Iw4 a1 27).toInt = (Iw3 a1 27).toInt := by rw [eIw4, up2_ne _ _ (fun z => absurd z.2 (by decide))]
        first | refine n_iinc C dMo_digs_67 rfl rfl (by decide) (by decide) (by omega) (fun z_67 e_67 => ?_) | refine a_iinc C dMo_digs_67 rfl (by decide) (fun z_67 => ?_)
        refine g_goto 2 C dMo_digs_70 (by decide) ?_
        exact g_sub (ih_2 _ (by omega) z_67 Iw4 Jw2 rfl (by omega) (by omega) hVw4) ⟨rfl, rfl, rfl, trivial⟩
      refine gt_icmp_le 39 C dMo_digs_28 (by decide) rfl rfl (fun c_28 => ?_) (fun c_28 => ?_)
      · skip
        refine g_aload_n C dMo_digs_39 rfl ?_
        refine g_iconst (v := Int32.ofInt (0)) C dMo_digs_40 (by decide) ?_
        refine g_iload_n C dMo_digs_41 rfl ?_
        first | refine n_iadd C dMo_digs_42 (ofI (by decide)) rfl (by omega) (fun z_42 e_42 => ?_) | refine a_iadd C dMo_digs_42 (fun z_42 => ?_)
        refine gt_iald C dMo_digs_43 h1 (by decide) rfl rfl (n := 37) rfl (by omega) ?_
        refine g_bipush (v := Int32.ofInt (10)) C dMo_digs_44 (by decide) ?_
        refine gt_idiv 10 C dMo_digs_46 rfl (ofI (by decide)) (by decide) (fun z_46 e_46 => ?_)
        refine g_iconst (v := Int32.ofInt (1)) C dMo_digs_47 (by decide) ?_
        first | refine n_iadd C dMo_digs_48 rfl (ofI (by decide)) (by omega) (fun z_48 e_48 => ?_) | refine a_iadd C dMo_digs_48 (fun z_48 => ?_)
        exact g_sub (jn_49 z_48 Iw1 Jw1 (by omega) hVw1) ⟨rfl, rfl, rfl, trivial⟩
      · skip
        refine g_aload_n C dMo_digs_31 rfl ?_
        refine g_iconst (v := Int32.ofInt (0)) C dMo_digs_32 (by decide) ?_
        refine g_iload_n C dMo_digs_33 rfl ?_
        first | refine n_iadd C dMo_digs_34 (ofI (by decide)) rfl (by omega) (fun z_34 e_34 => ?_) | refine a_iadd C dMo_digs_34 (fun z_34 => ?_)
        refine gt_iald C dMo_digs_35 h1 (by decide) rfl rfl (n := 37) rfl (by omega) ?_
        refine g_goto 49 C dMo_digs_36 (by decide) ?_
        exact g_sub (jn_49 (Iw1 a1 z_34.toNatClampNeg) Iw1 Jw1 (by omega) hVw1) ⟨rfl, rfl, rfl, trivial⟩
  exact g_sub (lp_2 _ (Int32.ofInt (0)) I0 J0 rfl (by have hci : Int32.toInt (Int32.ofInt (0)) = 0 := ofI (by decide); omega) (by omega) hV0) ⟨rfl, rfl, rfl, trivial⟩
set_option maxHeartbeats 4000000 in
set_option maxRecDepth 100000 in
theorem cMo_grinds_G49 {P : List Nat} {K : Nat → Nat} {I0 : Nat → Nat → Int32} {O : Nat → Nat → Option Nat} {J0 : Nat → Nat → Int64} (hV : IV P K I0 O) {a0 : Nat} (h0 : a0 ∈ P ∧ K a0 = 10) {a1 : Nat} (h1 : a1 ∈ P ∧ K a1 = 49) {M : Nat} (hMo : O a0 3 = some M) (hMk : M ∈ P ∧ K M = 9) (hGM : GM I0 M) : Con yMo_grinds bMo_grinds 5 none ({ frames := 1, cells := 0, slots := 0, locals := 27 } : Room) P K I0 O J0 [.ref a0, .ref a1] (SPo frX49 0 (fun _ I_ => (I_ a1 27).toInt = (I0 a1 27).toInt) P K I0 O J0) := by
  refine Con.ofG mfMo_grinds (Nat.le_of_ble_eq_true rfl) ?_
  intro X C E
  have hV0 : SV frX49 P K O I0 J0 I0 J0 := SV.rf hV
  refine g_aload_n C dMo_grinds_0 rfl ?_
  refine g_bipush (v := Int32.ofInt (29)) C dMo_grinds_1 (by decide) ?_
  refine g_aload_n C dMo_grinds_3 rfl ?_
  refine g_aload_n C dMo_grinds_4 rfl ?_
  refine g_bipush (v := Int32.ofInt (28)) C dMo_grinds_5 (by decide) ?_
  refine gt_ialdc (c := 28) C dMo_grinds_7 h1 (by decide) rfl (ofI (by decide)) (n := 37) rfl (by decide) (by decide) ?_
  refine g_aload_n C dMo_grinds_8 rfl ?_
  refine g_bipush (v := Int32.ofInt (24)) C dMo_grinds_9 (by decide) ?_
  refine gt_ialdc (c := 24) C dMo_grinds_11 h1 (by decide) rfl (ofI (by decide)) (n := 37) rfl (by decide) (by decide) ?_
  refine g_aload_n C dMo_grinds_12 rfl ?_
  refine g_bipush (v := Int32.ofInt (36)) C dMo_grinds_13 (by decide) ?_
  refine gt_ialdc (c := 36) C dMo_grinds_15 h1 (by decide) rfl (ofI (by decide)) (n := 37) rfl (by decide) (by decide) ?_
  have o_15 := hV0.1.2 a1 h1.1 36
  rw [h1.2] at o_15
  have o_15 : 0 ≤ (I0 a1 36).toInt ∧ (I0 a1 36).toInt ≤ 3 := o_15
  refine s_callV_ip (av := fun ad => [.int (I0 a1 28), .int (I0 a1 24), .int (I0 a1 36)]) C dMo_grinds_16 mfMo_effectOf mvMo_effectOf ln_Mo_316 h0 (by decide) rfl (cMo_effectOf_G hV0.1 h0 hMo hMk (hGM.keep (hV0.2 M (by rw [hMk.2]; rfl)).1) (by omega)) rfl rfl (Nat.le_of_ble_eq_true rfl) ⟨Nat.le_of_ble_eq_true rfl, Nat.le_of_ble_eq_true rfl⟩ ⟨rfl, rfl⟩ ⟨Nat.zero_le _, Nat.zero_le _⟩ (fun z_16 p_16 => ?_)
  have rz_16 := rg z_16
  refine gt_iastc (c := 29) C dMo_grinds_19 h1 (by decide) rfl (ofI (by decide)) (n := 37) rfl (by decide) (by decide) hV0 rfl trivial (fun Iw2 eIw2 hVw2 => ?_)
  have tkw2_a1_27 : (Iw2 a1 27).toInt = (I0 a1 27).toInt := by rw [eIw2, up2_ne _ _ (fun z => absurd z.2 (by decide))]
  refine g_aload_n C dMo_grinds_20 rfl ?_
  refine g_bipush (v := Int32.ofInt (30)) C dMo_grinds_21 (by decide) ?_
  refine g_aload_n C dMo_grinds_23 rfl ?_
  refine g_bipush (v := Int32.ofInt (28)) C dMo_grinds_24 (by decide) ?_
  refine gt_ialdc (c := 28) C dMo_grinds_26 h1 (by decide) rfl (ofI (by decide)) (n := 37) rfl (by decide) (by decide) ?_
  refine g_aload_n C dMo_grinds_27 rfl ?_
  refine g_bipush (v := Int32.ofInt (29)) C dMo_grinds_28 (by decide) ?_
  refine gt_ialdc (c := 29) C dMo_grinds_30 h1 (by decide) rfl (ofI (by decide)) (n := 37) rfl (by decide) (by decide) ?_
  refine a_imul C dMo_grinds_31 (fun z_31 => ?_)
  refine g_bipush (v := Int32.ofInt (100)) C dMo_grinds_32 (by decide) ?_
  refine gt_idiv 100 C dMo_grinds_34 rfl (ofI (by decide)) (by decide) (fun z_34 e_34 => ?_)
  refine gt_iastc (c := 30) C dMo_grinds_35 h1 (by decide) rfl (ofI (by decide)) (n := 37) rfl (by decide) (by decide) hVw2 rfl trivial (fun Iw3 eIw3 hVw3 => ?_)
  have tkw3_a1_27 : (Iw3 a1 27).toInt = (Iw2 a1 27).toInt := by rw [eIw3, up2_ne _ _ (fun z => absurd z.2 (by decide))]
  refine g_aload_n C dMo_grinds_36 rfl ?_
  refine gt_getS C dMo_grinds_37 fl_Mo_290 h0 hMo ?_
  refine g_geti C dMo_grinds_40 fl_Mo_191 hMk ?_
  have o_40 := hVw3.1.2 M hMk.1 8
  rw [hMk.2] at o_40
  have o_40 : 0 ≤ (Iw3 M 8).toInt ∧ (Iw3 M 8).toInt ≤ 5 := o_40
  refine g_iconst (v := Int32.ofInt (2)) C dMo_grinds_43 (by decide) ?_
  first | refine n_isub C dMo_grinds_44 rfl (ofI (by decide)) (by omega) (fun z_44 e_44 => ?_) | refine a_isub C dMo_grinds_44 (fun z_44 => ?_)
  refine g_istore_n (i := 2) C dMo_grinds_45 rfl (by decide) ?_
  have lp_46 : ∀ (nn_46 : Nat) (x2_46 : Int32) (Iw4 : Nat → Nat → Int32) (Jw4 : Nat → Nat → Int64), Int.toNat (x2_46.toInt + 3) = nn_46 → (-2 ≤ Int32.toInt x2_46 ∧ Int32.toInt x2_46 ≤ 3) → (Int32.toInt (Iw4 a1 27) = Int32.toInt (I0 a1 27)) → SV frX49 P K O I0 J0 Iw4 Jw4 → GG X 5 P K Iw4 O Jw4 0 0 46 [(0, .ref a0), (1, .ref a1), (2, .int x2_46)] [] := by
    intro nn_46
    induction nn_46 using Nat.strongRecOn with
    | ind nn_46 ih_46 =>
    intro x2_46 Iw4 Jw4 hn_46 iv0_46 iv1_46 hVw4
    have rg2_46 := rg x2_46
    refine g_iload_n C dMo_grinds_46 rfl ?_
    refine gt_if_lt 151 C dMo_grinds_47 (by decide) rfl (fun c_47 => ?_) (fun c_47 => ?_)
    · skip
      refine g_iconst (v := Int32.ofInt (0)) C dMo_grinds_151 (by decide) ?_
      refine g_istore_n (i := 2) C dMo_grinds_152 rfl (by decide) ?_
      have lp_153 : ∀ (nn_153 : Nat) (x2_153 : Int32) (Iw5 : Nat → Nat → Int32) (Jw5 : Nat → Nat → Int64), Int.toNat (5 - x2_153.toInt) = nn_153 → (0 ≤ Int32.toInt x2_153 ∧ Int32.toInt x2_153 ≤ 5) → (Int32.toInt (Iw5 a1 27) = Int32.toInt (I0 a1 27)) → SV frX49 P K O I0 J0 Iw5 Jw5 → GG X 5 P K Iw5 O Jw5 0 0 153 [(0, .ref a0), (1, .ref a1), (2, .int x2_153)] [] := by
        intro nn_153
        induction nn_153 using Nat.strongRecOn with
        | ind nn_153 ih_153 =>
        intro x2_153 Iw5 Jw5 hn_153 iv0_153 iv1_153 hVw5
        have rg2_153 := rg x2_153
        refine g_iload_n C dMo_grinds_153 rfl ?_
        refine g_aload_n C dMo_grinds_154 rfl ?_
        refine gt_getS C dMo_grinds_155 fl_Mo_290 h0 hMo ?_
        refine g_geti C dMo_grinds_158 fl_Mo_191 hMk ?_
        have o_158 := hVw5.1.2 M hMk.1 8
        rw [hMk.2] at o_158
        have o_158 : 0 ≤ (Iw5 M 8).toInt ∧ (Iw5 M 8).toInt ≤ 5 := o_158
        refine gt_icmp_ge 243 C dMo_grinds_161 (by decide) rfl rfl (fun c_161 => ?_) (fun c_161 => ?_)
        · skip
          exact s_vret C E dMo_grinds_243 ⟨Nat.zero_le _, Nat.zero_le _⟩ hVw5 (by (try dsimp only); omega)
        · skip
          refine g_aload_n C dMo_grinds_164 rfl ?_
          refine g_iconst (v := Int32.ofInt (0)) C dMo_grinds_165 (by decide) ?_
          refine g_iload_n C dMo_grinds_166 rfl ?_
          first | refine n_iadd C dMo_grinds_167 (ofI (by decide)) rfl (by omega) (fun z_167 e_167 => ?_) | refine a_iadd C dMo_grinds_167 (fun z_167 => ?_)
          refine gt_iald C dMo_grinds_168 h1 (by decide) rfl rfl (n := 37) rfl (by omega) ?_
          refine g_bipush (v := Int32.ofInt (20)) C dMo_grinds_169 (by decide) ?_
          refine g_bipush (v := Int32.ofInt (10)) C dMo_grinds_171 (by decide) ?_
          refine g_aload_n C dMo_grinds_173 rfl ?_
          refine g_bipush (v := Int32.ofInt (35)) C dMo_grinds_174 (by decide) ?_
          refine gt_ialdc (c := 35) C dMo_grinds_176 h1 (by decide) rfl (ofI (by decide)) (n := 37) rfl (by decide) (by decide) ?_
          first | refine n_imul C dMo_grinds_177 (ofI (by decide)) rfl (by omega) (fun z_177 e_177 => ?_) | refine a_imul C dMo_grinds_177 (fun z_177 => ?_)
          first | refine n_iadd C dMo_grinds_178 (ofI (by decide)) rfl (by omega) (fun z_178 e_178 => ?_) | refine a_iadd C dMo_grinds_178 (fun z_178 => ?_)
          refine a_imul C dMo_grinds_179 (fun z_179 => ?_)
          refine g_bipush (v := Int32.ofInt (100)) C dMo_grinds_180 (by decide) ?_
          refine gt_idiv 100 C dMo_grinds_182 rfl (ofI (by decide)) (by decide) (fun z_182 e_182 => ?_)
          refine g_istore_n (i := 3) C dMo_grinds_183 rfl (by decide) ?_
          refine g_iload_n C dMo_grinds_184 rfl ?_
          refine g_aload_n C dMo_grinds_185 rfl ?_
          refine g_iload_n C dMo_grinds_186 rfl ?_
          refine g_aload_n C dMo_grinds_187 rfl ?_
          refine g_bipush (v := Int32.ofInt (25)) C dMo_grinds_188 (by decide) ?_
          refine gt_ialdc (c := 25) C dMo_grinds_190 h1 (by decide) rfl (ofI (by decide)) (n := 37) rfl (by decide) (by decide) ?_
          refine s_callV_ip (av := fun ad => [.int x2_153, .int (Iw5 a1 25)]) C dMo_grinds_191 mfMo_passes mvMo_passes ln_Mo_320 h0 (by decide) rfl (cMo_passes_G hVw5.1 h0 hMo hMk (hGM.keep (hVw5.2 M (by rw [hMk.2]; rfl)).1)) rfl rfl (Nat.le_of_ble_eq_true rfl) ⟨Nat.le_of_ble_eq_true rfl, Nat.le_of_ble_eq_true rfl⟩ ⟨rfl, rfl⟩ ⟨Nat.zero_le _, Nat.zero_le _⟩ (fun z_191 p_191 => ?_)
          have rz_191 := rg z_191
          refine a_imul C dMo_grinds_194 (fun z_194 => ?_)
          refine g_bipush (v := Int32.ofInt (100)) C dMo_grinds_195 (by decide) ?_
          refine gt_idiv 100 C dMo_grinds_197 rfl (ofI (by decide)) (by decide) (fun z_197 e_197 => ?_)
          refine g_istore C dMo_grinds_198 (by decide) ?_
          refine g_aload_n C dMo_grinds_200 rfl ?_
          refine g_iconst (v := Int32.ofInt (0)) C dMo_grinds_201 (by decide) ?_
          refine g_iload_n C dMo_grinds_202 rfl ?_
          first | refine n_iadd C dMo_grinds_203 (ofI (by decide)) rfl (by omega) (fun z_203 e_203 => ?_) | refine a_iadd C dMo_grinds_203 (fun z_203 => ?_)
          refine g_dup2 C dMo_grinds_204 rfl rfl ?_
          refine gt_iald C dMo_grinds_205 h1 (by decide) rfl rfl (n := 37) rfl (by omega) ?_
          refine g_iload_n C dMo_grinds_206 rfl ?_
          first | refine n_isub C dMo_grinds_207 rfl rfl (by omega) (fun z_207 e_207 => ?_) | refine a_isub C dMo_grinds_207 (fun z_207 => ?_)
          refine gt_iast C dMo_grinds_208 h1 (by decide) rfl rfl (n := 37) rfl (by omega) hVw5 rfl (okS (by decide) (by have q : z_203.toNatClampNeg = Int.toNat (z_203.toInt) := rfl; omega) (by have q : z_203.toNatClampNeg = Int.toNat (z_203.toInt) := rfl; omega)) (fun Iw7 eIw7 hVw7 => ?_)
          have tkw7_a1_27 : (Iw7 a1 27).toInt = (Iw5 a1 27).toInt := by rw [eIw7, up2_ne _ _ (fun z => by have q : z_203.toNatClampNeg = Int.toNat (z_203.toInt) := rfl; omega)]
          refine g_aload_n C dMo_grinds_209 rfl ?_
          refine g_bipush (v := Int32.ofInt (10)) C dMo_grinds_210 (by decide) ?_
          refine g_iload_n C dMo_grinds_212 rfl ?_
          first | refine n_iadd C dMo_grinds_213 (ofI (by decide)) rfl (by omega) (fun z_213 e_213 => ?_) | refine a_iadd C dMo_grinds_213 (fun z_213 => ?_)
          refine g_iload C dMo_grinds_214 rfl ?_
          refine gt_iast C dMo_grinds_216 h1 (by decide) rfl rfl (n := 37) rfl (by omega) hVw7 rfl (okS (by decide) (by have q : z_213.toNatClampNeg = Int.toNat (z_213.toInt) := rfl; omega) (by have q : z_213.toNatClampNeg = Int.toNat (z_213.toInt) := rfl; omega)) (fun Iw8 eIw8 hVw8 => ?_)
          have tkw8_a1_27 : (Iw8 a1 27).toInt = (Iw7 a1 27).toInt := by rw [eIw8, up2_ne _ _ (fun z => by have q : z_213.toNatClampNeg = Int.toNat (z_213.toInt) := rfl; omega)]
          refine g_aload_n C dMo_grinds_217 rfl ?_
          refine g_bipush (v := Int32.ofInt (15)) C dMo_grinds_218 (by decide) ?_
          refine g_iload_n C dMo_grinds_220 rfl ?_
          first | refine n_iadd C dMo_grinds_221 (ofI (by decide)) rfl (by omega) (fun z_221 e_221 => ?_) | refine a_iadd C dMo_grinds_221 (fun z_221 => ?_)
          refine g_dup2 C dMo_grinds_222 rfl rfl ?_
          refine gt_iald C dMo_grinds_223 h1 (by decide) rfl rfl (n := 37) rfl (by omega) ?_
          refine g_iload C dMo_grinds_224 rfl ?_
          first | refine n_iadd C dMo_grinds_226 rfl rfl (by omega) (fun z_226 e_226 => ?_) | refine a_iadd C dMo_grinds_226 (fun z_226 => ?_)
          refine gt_iast C dMo_grinds_227 h1 (by decide) rfl rfl (n := 37) rfl (by omega) hVw8 rfl (okS (by decide) (by have q : z_221.toNatClampNeg = Int.toNat (z_221.toInt) := rfl; omega) (by have q : z_221.toNatClampNeg = Int.toNat (z_221.toInt) := rfl; omega)) (fun Iw9 eIw9 hVw9 => ?_)
          have tkw9_a1_27 : (Iw9 a1 27).toInt = (Iw8 a1 27).toInt := by rw [eIw9, up2_ne _ _ (fun z => by have q : z_221.toNatClampNeg = Int.toNat (z_221.toInt) := rfl; omega)]
          refine g_aload_n C dMo_grinds_228 rfl ?_
          refine g_iconst (v := Int32.ofInt (5)) C dMo_grinds_229 (by decide) ?_
          refine g_iload_n C dMo_grinds_230 rfl ?_
          first | refine n_iadd C dMo_grinds_231 (ofI (by decide)) rfl (by omega) (fun z_231 e_231 => ?_) | refine a_iadd C dMo_grinds_231 (fun z_231 => ?_)
          refine g_iload_n C dMo_grinds_232 rfl ?_
          refine g_iload C dMo_grinds_233 rfl ?_
          first | refine n_isub C dMo_grinds_235 rfl rfl (by omega) (fun z_235 e_235 => ?_) | refine a_isub C dMo_grinds_235 (fun z_235 => ?_)
          refine gt_iast C dMo_grinds_236 h1 (by decide) rfl rfl (n := 37) rfl (by omega) hVw9 rfl (okS (by decide) (by have q : z_231.toNatClampNeg = Int.toNat (z_231.toInt) := rfl; omega) (by have q : z_231.toNatClampNeg = Int.toNat (z_231.toInt) := rfl; omega)) (fun Iw10 eIw10 hVw10 => ?_)
          have tkw10_a1_27 : (Iw10 a1 27).toInt = (Iw9 a1 27).toInt := by rw [eIw10, up2_ne _ _ (fun z => by have q : z_231.toNatClampNeg = Int.toNat (z_231.toInt) := rfl; omega)]
          first | refine n_iinc C dMo_grinds_237 rfl rfl (by decide) (by decide) (by omega) (fun z_237 e_237 => ?_) | refine a_iinc C dMo_grinds_237 rfl (by decide) (fun z_237 => ?_)
          refine g_goto 153 C dMo_grinds_240 (by decide) ?_
          exact g_sub (ih_153 _ (by omega) z_237 Iw10 Jw5 rfl (by omega) (by omega) hVw10) ⟨rfl, rfl, rfl, trivial⟩
      exact g_sub (lp_153 _ (Int32.ofInt (0)) Iw4 Jw4 rfl (by have hci : Int32.toInt (Int32.ofInt (0)) = 0 := ofI (by decide); omega) (by omega) hVw4) ⟨rfl, rfl, rfl, trivial⟩
    · skip
      refine g_aload_n C dMo_grinds_50 rfl ?_
      refine g_iconst (v := Int32.ofInt (0)) C dMo_grinds_51 (by decide) ?_
      refine g_iload_n C dMo_grinds_52 rfl ?_
      first | refine n_iadd C dMo_grinds_53 (ofI (by decide)) rfl (by omega) (fun z_53 e_53 => ?_) | refine a_iadd C dMo_grinds_53 (fun z_53 => ?_)
      refine gt_iald C dMo_grinds_54 h1 (by decide) rfl rfl (n := 37) rfl (by omega) ?_
      refine g_aload_n C dMo_grinds_55 rfl ?_
      refine gt_getS C dMo_grinds_56 fl_Mo_290 h0 hMo ?_
      refine gt_getr C dMo_grinds_59 fl_Mo_267 hMk hVw4.1.1 rfl (fun b_59 q_59 hb_59 => ?_)
      refine g_iload_n C dMo_grinds_62 rfl ?_
      refine gt_iald C dMo_grinds_63 hb_59 (by decide) rfl rfl (n := 5) rfl (by omega) ?_
      refine a_imul C dMo_grinds_64 (fun z_64 => ?_)
      refine g_aload_n C dMo_grinds_65 rfl ?_
      refine g_bipush (v := Int32.ofInt (29)) C dMo_grinds_66 (by decide) ?_
      refine gt_ialdc (c := 29) C dMo_grinds_68 h1 (by decide) rfl (ofI (by decide)) (n := 37) rfl (by decide) (by decide) ?_
      refine a_imul C dMo_grinds_69 (fun z_69 => ?_)
      refine g_sipush (v := Int32.ofInt (10000)) C dMo_grinds_70 (by decide) ?_
      refine gt_idiv 10000 C dMo_grinds_73 rfl (ofI (by decide)) (by decide) (fun z_73 e_73 => ?_)
      refine g_istore_n (i := 3) C dMo_grinds_74 rfl (by decide) ?_
      refine g_iload_n C dMo_grinds_75 rfl ?_
      refine g_aload_n C dMo_grinds_76 rfl ?_
      refine gt_getS C dMo_grinds_77 fl_Mo_290 h0 hMo ?_
      refine gt_getr C dMo_grinds_80 fl_Mo_270 hMk hVw4.1.1 rfl (fun b_80 q_80 hb_80 => ?_)
      refine g_iload_n C dMo_grinds_83 rfl ?_
      refine gt_iald C dMo_grinds_84 hb_80 (by decide) rfl rfl (n := 5) rfl (by omega) ?_
      refine a_imul C dMo_grinds_85 (fun z_85 => ?_)
      refine g_bipush (v := Int32.ofInt (100)) C dMo_grinds_86 (by decide) ?_
      refine gt_idiv 100 C dMo_grinds_88 rfl (ofI (by decide)) (by decide) (fun z_88 e_88 => ?_)
      refine g_istore C dMo_grinds_89 (by decide) ?_
      refine g_aload_n C dMo_grinds_91 rfl ?_
      refine g_iconst (v := Int32.ofInt (0)) C dMo_grinds_92 (by decide) ?_
      refine g_iload_n C dMo_grinds_93 rfl ?_
      first | refine n_iadd C dMo_grinds_94 (ofI (by decide)) rfl (by omega) (fun z_94 e_94 => ?_) | refine a_iadd C dMo_grinds_94 (fun z_94 => ?_)
      refine g_dup2 C dMo_grinds_95 rfl rfl ?_
      refine gt_iald C dMo_grinds_96 h1 (by decide) rfl rfl (n := 37) rfl (by omega) ?_
      refine g_iload_n C dMo_grinds_97 rfl ?_
      first | refine n_isub C dMo_grinds_98 rfl rfl (by omega) (fun z_98 e_98 => ?_) | refine a_isub C dMo_grinds_98 (fun z_98 => ?_)
      refine gt_iast C dMo_grinds_99 h1 (by decide) rfl rfl (n := 37) rfl (by omega) hVw4 rfl (okS (by decide) (by have q : z_94.toNatClampNeg = Int.toNat (z_94.toInt) := rfl; omega) (by have q : z_94.toNatClampNeg = Int.toNat (z_94.toInt) := rfl; omega)) (fun Iw11 eIw11 hVw11 => ?_)
      have tkw11_a1_27 : (Iw11 a1 27).toInt = (Iw4 a1 27).toInt := by rw [eIw11, up2_ne _ _ (fun z => by have q : z_94.toNatClampNeg = Int.toNat (z_94.toInt) := rfl; omega)]
      refine g_aload_n C dMo_grinds_100 rfl ?_
      refine g_iconst (v := Int32.ofInt (0)) C dMo_grinds_101 (by decide) ?_
      refine g_iload_n C dMo_grinds_102 rfl ?_
      first | refine n_iadd C dMo_grinds_103 (ofI (by decide)) rfl (by omega) (fun z_103 e_103 => ?_) | refine a_iadd C dMo_grinds_103 (fun z_103 => ?_)
      refine g_iconst (v := Int32.ofInt (1)) C dMo_grinds_104 (by decide) ?_
      first | refine n_iadd C dMo_grinds_105 rfl (ofI (by decide)) (by omega) (fun z_105 e_105 => ?_) | refine a_iadd C dMo_grinds_105 (fun z_105 => ?_)
      refine g_dup2 C dMo_grinds_106 rfl rfl ?_
      refine gt_iald C dMo_grinds_107 h1 (by decide) rfl rfl (n := 37) rfl (by omega) ?_
      refine g_iload C dMo_grinds_108 rfl ?_
      first | refine n_iadd C dMo_grinds_110 rfl rfl (by omega) (fun z_110 e_110 => ?_) | refine a_iadd C dMo_grinds_110 (fun z_110 => ?_)
      refine gt_iast C dMo_grinds_111 h1 (by decide) rfl rfl (n := 37) rfl (by omega) hVw11 rfl (okS (by decide) (by have q : z_105.toNatClampNeg = Int.toNat (z_105.toInt) := rfl; omega) (by have q : z_105.toNatClampNeg = Int.toNat (z_105.toInt) := rfl; omega)) (fun Iw12 eIw12 hVw12 => ?_)
      have tkw12_a1_27 : (Iw12 a1 27).toInt = (Iw11 a1 27).toInt := by rw [eIw12, up2_ne _ _ (fun z => by have q : z_105.toNatClampNeg = Int.toNat (z_105.toInt) := rfl; omega)]
      refine g_aload_n C dMo_grinds_112 rfl ?_
      refine g_iconst (v := Int32.ofInt (0)) C dMo_grinds_113 (by decide) ?_
      refine g_iload_n C dMo_grinds_114 rfl ?_
      refine g_iconst (v := Int32.ofInt (2)) C dMo_grinds_115 (by decide) ?_
      first | refine n_iadd C dMo_grinds_116 rfl (ofI (by decide)) (by omega) (fun z_116 e_116 => ?_) | refine a_iadd C dMo_grinds_116 (fun z_116 => ?_)
      refine g_aload_n C dMo_grinds_117 rfl ?_
      refine gt_getS C dMo_grinds_118 fl_Mo_290 h0 hMo ?_
      refine g_geti C dMo_grinds_121 fl_Mo_191 hMk ?_
      have o_121 := hVw12.1.2 M hMk.1 8
      rw [hMk.2] at o_121
      have o_121 : 0 ≤ (Iw12 M 8).toInt ∧ (Iw12 M 8).toInt ≤ 5 := o_121
      have jn_136 : ∀  (s0_136 : Int32) (Iw13 : Nat → Nat → Int32) (Jw13 : Nat → Nat → Int64), (0 ≤ Int32.toInt s0_136 ∧ Int32.toInt s0_136 ≤ 4) → (Int32.toInt (Iw13 a1 27) = Int32.toInt (I0 a1 27)) → SV frX49 P K O I0 J0 Iw13 Jw13 → GG X 5 P K Iw13 O Jw13 0 0 136 [(0, .ref a0), (1, .ref a1), (2, .int x2_46), (3, .int z_73), (4, .int z_88)] [.int s0_136, .int (Int32.ofInt (0)), .ref a1] := by
        intro s0_136 Iw13 Jw13 jv0_136 jv1_136 hVw13
        first | refine n_iadd C dMo_grinds_136 (ofI (by decide)) rfl (by omega) (fun z_136 e_136 => ?_) | refine a_iadd C dMo_grinds_136 (fun z_136 => ?_)
        refine g_dup2 C dMo_grinds_137 rfl rfl ?_
        refine gt_iald C dMo_grinds_138 h1 (by decide) rfl rfl (n := 37) rfl (by omega) ?_
        refine g_iload_n C dMo_grinds_139 rfl ?_
        refine g_iload C dMo_grinds_140 rfl ?_
        first | refine n_isub C dMo_grinds_142 rfl rfl (by omega) (fun z_142 e_142 => ?_) | refine a_isub C dMo_grinds_142 (fun z_142 => ?_)
        first | refine n_iadd C dMo_grinds_143 rfl rfl (by omega) (fun z_143 e_143 => ?_) | refine a_iadd C dMo_grinds_143 (fun z_143 => ?_)
        refine gt_iast C dMo_grinds_144 h1 (by decide) rfl rfl (n := 37) rfl (by omega) hVw13 rfl (okS (by decide) (by have q : z_136.toNatClampNeg = Int.toNat (z_136.toInt) := rfl; omega) (by have q : z_136.toNatClampNeg = Int.toNat (z_136.toInt) := rfl; omega)) (fun Iw14 eIw14 hVw14 => ?_)
        have tkw14_a1_27 : (Iw14 a1 27).toInt = (Iw13 a1 27).toInt := by rw [eIw14, up2_ne _ _ (fun z => by have q : z_136.toNatClampNeg = Int.toNat (z_136.toInt) := rfl; omega)]
        first | refine n_iinc C dMo_grinds_145 rfl rfl (by decide) (by decide) (by omega) (fun z_145 e_145 => ?_) | refine a_iinc C dMo_grinds_145 rfl (by decide) (fun z_145 => ?_)
        refine g_goto 46 C dMo_grinds_148 (by decide) ?_
        exact g_sub (ih_46 _ (by omega) z_145 Iw14 Jw13 rfl (by omega) (by omega) hVw14) ⟨rfl, rfl, rfl, trivial⟩
      refine gt_icmp_ge 133 C dMo_grinds_124 (by decide) rfl rfl (fun c_124 => ?_) (fun c_124 => ?_)
      · skip
        refine g_iload_n C dMo_grinds_133 rfl ?_
        refine g_iconst (v := Int32.ofInt (1)) C dMo_grinds_134 (by decide) ?_
        first | refine n_iadd C dMo_grinds_135 rfl (ofI (by decide)) (by omega) (fun z_135 e_135 => ?_) | refine a_iadd C dMo_grinds_135 (fun z_135 => ?_)
        exact g_sub (jn_136 z_135 Iw12 Jw4 (by omega) (by omega) hVw12) ⟨rfl, rfl, rfl, rfl, rfl, trivial⟩
      · skip
        refine g_iload_n C dMo_grinds_127 rfl ?_
        refine g_iconst (v := Int32.ofInt (2)) C dMo_grinds_128 (by decide) ?_
        first | refine n_iadd C dMo_grinds_129 rfl (ofI (by decide)) (by omega) (fun z_129 e_129 => ?_) | refine a_iadd C dMo_grinds_129 (fun z_129 => ?_)
        refine g_goto 136 C dMo_grinds_130 (by decide) ?_
        exact g_sub (jn_136 z_129 Iw12 Jw4 (by omega) (by omega) hVw12) ⟨rfl, rfl, rfl, rfl, rfl, trivial⟩
  exact g_sub (lp_46 _ z_44 Iw3 J0 rfl (by omega) (by omega) hVw3) ⟨rfl, rfl, rfl, trivial⟩
set_option maxHeartbeats 4000000 in
set_option maxRecDepth 100000 in
theorem cMo_goes_G49 {P : List Nat} {K : Nat → Nat} {I0 : Nat → Nat → Int32} {O : Nat → Nat → Option Nat} {J0 : Nat → Nat → Int64} (hV : IV P K I0 O) {a0 : Nat} (h0 : a0 ∈ P ∧ K a0 = 10) {a1 : Nat} (h1 : a1 ∈ P ∧ K a1 = 49) {M : Nat} (hMo : O a0 3 = some M) (hMk : M ∈ P ∧ K M = 9) (hGM : GM I0 M) (pr0 : Int32.toInt (I0 a1 27) ≤ 251) : Con yMo_goes bMo_goes 5 none ({ frames := 2, cells := 0, slots := 0, locals := 51 } : Room) P K I0 O J0 [.ref a0, .ref a1] (SPo frX49 0 (fun _ I_ => Int32.toInt (I_ a1 27) = Int32.toInt (I0 a1 27) + 1) P K I0 O J0) := by
  refine Con.ofG mfMo_goes (Nat.le_of_ble_eq_true rfl) ?_
  intro X C E
  have hV0 : SV frX49 P K O I0 J0 I0 J0 := SV.rf hV
  refine g_iconst (v := Int32.ofInt (0)) C dMo_goes_0 (by decide) ?_
  refine g_istore_n (i := 2) C dMo_goes_1 rfl (by decide) ?_
  have lp_2 : ∀ (nn_2 : Nat) (x2_2 : Int32) (Iw1 : Nat → Nat → Int32) (Jw1 : Nat → Nat → Int64), Int.toNat (5 - x2_2.toInt) = nn_2 → (0 ≤ Int32.toInt x2_2 ∧ Int32.toInt x2_2 ≤ 5) → (Int32.toInt (Iw1 a1 27) = Int32.toInt (I0 a1 27)) → SV frX49 P K O I0 J0 Iw1 Jw1 → GG X 5 P K Iw1 O Jw1 0 0 2 [(0, .ref a0), (1, .ref a1), (2, .int x2_2)] [] := by
    intro nn_2
    induction nn_2 using Nat.strongRecOn with
    | ind nn_2 ih_2 =>
    intro x2_2 Iw1 Jw1 hn_2 iv0_2 iv1_2 hVw1
    have rg2_2 := rg x2_2
    refine g_iload_n C dMo_goes_2 rfl ?_
    refine g_aload_n C dMo_goes_3 rfl ?_
    refine gt_getS C dMo_goes_4 fl_Mo_290 h0 hMo ?_
    refine g_geti C dMo_goes_7 fl_Mo_191 hMk ?_
    have o_7 := hVw1.1.2 M hMk.1 8
    rw [hMk.2] at o_7
    have o_7 : 0 ≤ (Iw1 M 8).toInt ∧ (Iw1 M 8).toInt ≤ 5 := o_7
    refine gt_icmp_ge 89 C dMo_goes_10 (by decide) rfl rfl (fun c_10 => ?_) (fun c_10 => ?_)
    · skip
      refine g_aload_n C dMo_goes_89 rfl ?_
      refine g_bipush (v := Int32.ofInt (28)) C dMo_goes_90 (by decide) ?_
      refine g_aload_n C dMo_goes_92 rfl ?_
      refine g_aload_n C dMo_goes_93 rfl ?_
      refine g_iconst (v := Int32.ofInt (0)) C dMo_goes_94 (by decide) ?_
      refine s_callV_ip (av := fun ad => [.ref a1, .int (Int32.ofInt (0))]) C dMo_goes_95 mfMo_sumOf mvMo_sumOf ln_Mo_305 h0 (by decide) rfl (cMo_sumOf_G49 hVw1.1 h0 h1 hMo hMk (hGM.keep (hVw1.2 M (by rw [hMk.2]; rfl)).1) (by have hk2 : Int32.toInt (Int32.ofInt (0)) = 0 := ofI (by decide); omega)) rfl rfl (Nat.le_of_ble_eq_true rfl) ⟨Nat.le_of_ble_eq_true rfl, Nat.le_of_ble_eq_true rfl⟩ ⟨rfl, rfl⟩ ⟨Nat.zero_le _, Nat.zero_le _⟩ (fun z_95 p_95 => ?_)
      have rz_95 := rg z_95
      refine gt_iastc (c := 28) C dMo_goes_98 h1 (by decide) rfl (ofI (by decide)) (n := 37) rfl (by decide) (by decide) hVw1 rfl trivial (fun Iw3 eIw3 hVw3 => ?_)
      have tkw3_a1_27 : (Iw3 a1 27).toInt = (Iw1 a1 27).toInt := by rw [eIw3, up2_ne _ _ (fun z => absurd z.2 (by decide))]
      refine g_aload_n C dMo_goes_99 rfl ?_
      refine g_bipush (v := Int32.ofInt (26)) C dMo_goes_100 (by decide) ?_
      refine g_aload_n C dMo_goes_102 rfl ?_
      refine g_bipush (v := Int32.ofInt (28)) C dMo_goes_103 (by decide) ?_
      refine gt_ialdc (c := 28) C dMo_goes_105 h1 (by decide) rfl (ofI (by decide)) (n := 37) rfl (by decide) (by decide) ?_
      refine g_aload_n C dMo_goes_106 rfl ?_
      refine gt_getS C dMo_goes_107 fl_Mo_290 h0 hMo ?_
      refine g_geti C dMo_goes_110 fl_Mo_176 hMk ?_
      have gm_110 : 1 ≤ (Iw3 M 0).toInt := (hGM.keep (hVw3.2 M (by rw [hMk.2]; rfl)).1).1
      have jn_121 : ∀  (s0_121 : Int32) (Iw4 : Nat → Nat → Int32) (Jw4 : Nat → Nat → Int64), (Int32.toInt (Iw4 a1 27) = Int32.toInt (I0 a1 27)) → SV frX49 P K O I0 J0 Iw4 Jw4 → GG X 5 P K Iw4 O Jw4 0 0 121 [(0, .ref a0), (1, .ref a1), (2, .int x2_2)] [.int s0_121, .int (Int32.ofInt (26)), .ref a1] := by
        intro s0_121 Iw4 Jw4 jv0_121 hVw4
        refine gt_iastc (c := 26) C dMo_goes_121 h1 (by decide) rfl (ofI (by decide)) (n := 37) rfl (by decide) (by decide) hVw4 rfl trivial (fun Iw5 eIw5 hVw5 => ?_)
        have tkw5_a1_27 : (Iw5 a1 27).toInt = (Iw4 a1 27).toInt := by rw [eIw5, up2_ne _ _ (fun z => absurd z.2 (by decide))]
        refine g_aload_n C dMo_goes_122 rfl ?_
        refine g_bipush (v := Int32.ofInt (29)) C dMo_goes_123 (by decide) ?_
        refine g_iconst (v := Int32.ofInt (0)) C dMo_goes_125 (by decide) ?_
        refine gt_iastc (c := 29) C dMo_goes_126 h1 (by decide) rfl (ofI (by decide)) (n := 37) rfl (by decide) (by decide) hVw5 rfl trivial (fun Iw6 eIw6 hVw6 => ?_)
        have tkw6_a1_27 : (Iw6 a1 27).toInt = (Iw5 a1 27).toInt := by rw [eIw6, up2_ne _ _ (fun z => absurd z.2 (by decide))]
        refine g_aload_n C dMo_goes_127 rfl ?_
        refine g_bipush (v := Int32.ofInt (30)) C dMo_goes_128 (by decide) ?_
        refine g_iconst (v := Int32.ofInt (0)) C dMo_goes_130 (by decide) ?_
        refine gt_iastc (c := 30) C dMo_goes_131 h1 (by decide) rfl (ofI (by decide)) (n := 37) rfl (by decide) (by decide) hVw6 rfl trivial (fun Iw7 eIw7 hVw7 => ?_)
        have tkw7_a1_27 : (Iw7 a1 27).toInt = (Iw6 a1 27).toInt := by rw [eIw7, up2_ne _ _ (fun z => absurd z.2 (by decide))]
        refine g_aload_n C dMo_goes_132 rfl ?_
        refine g_bipush (v := Int32.ofInt (26)) C dMo_goes_133 (by decide) ?_
        refine gt_ialdc (c := 26) C dMo_goes_135 h1 (by decide) rfl (ofI (by decide)) (n := 37) rfl (by decide) (by decide) ?_
        have jn_152 : ∀   (Iw8 : Nat → Nat → Int32) (Jw8 : Nat → Nat → Int64), (Int32.toInt (Iw8 a1 27) = Int32.toInt (I0 a1 27)) → SV frX49 P K O I0 J0 Iw8 Jw8 → GG X 5 P K Iw8 O Jw8 0 0 152 [(0, .ref a0), (1, .ref a1), (2, .int x2_2)] [] := by
          intro Iw8 Jw8 jv0_152 hVw8
          refine g_aload_n C dMo_goes_152 rfl ?_
          refine g_bipush (v := Int32.ofInt (20)) C dMo_goes_153 (by decide) ?_
          refine g_dup2 C dMo_goes_155 rfl rfl ?_
          refine gt_ialdc (c := 20) C dMo_goes_156 h1 (by decide) rfl (ofI (by decide)) (n := 37) rfl (by decide) (by decide) ?_
          refine g_aload_n C dMo_goes_157 rfl ?_
          refine g_aload_n C dMo_goes_158 rfl ?_
          refine g_bipush (v := Int32.ofInt (10)) C dMo_goes_159 (by decide) ?_
          refine s_callV_ip (av := fun ad => [.ref a1, .int (Int32.ofInt (10))]) C dMo_goes_161 mfMo_sumOf mvMo_sumOf ln_Mo_305 h0 (by decide) rfl (cMo_sumOf_G49 hVw8.1 h0 h1 hMo hMk (hGM.keep (hVw8.2 M (by rw [hMk.2]; rfl)).1) (by have hk2 : Int32.toInt (Int32.ofInt (10)) = 10 := ofI (by decide); omega)) rfl rfl (Nat.le_of_ble_eq_true rfl) ⟨Nat.le_of_ble_eq_true rfl, Nat.le_of_ble_eq_true rfl⟩ ⟨rfl, rfl⟩ ⟨Nat.zero_le _, Nat.zero_le _⟩ (fun z_161 p_161 => ?_)
          have rz_161 := rg z_161
          first | refine n_iadd C dMo_goes_164 rfl rfl (by omega) (fun z_164 e_164 => ?_) | refine a_iadd C dMo_goes_164 (fun z_164 => ?_)
          refine gt_iastc (c := 20) C dMo_goes_165 h1 (by decide) rfl (ofI (by decide)) (n := 37) rfl (by decide) (by decide) hVw8 rfl trivial (fun Iw10 eIw10 hVw10 => ?_)
          have tkw10_a1_27 : (Iw10 a1 27).toInt = (Iw8 a1 27).toInt := by rw [eIw10, up2_ne _ _ (fun z => absurd z.2 (by decide))]
          refine g_aload_n C dMo_goes_166 rfl ?_
          refine g_bipush (v := Int32.ofInt (20)) C dMo_goes_167 (by decide) ?_
          refine gt_ialdc (c := 20) C dMo_goes_169 h1 (by decide) rfl (ofI (by decide)) (n := 37) rfl (by decide) (by decide) ?_
          refine g_aload_n C dMo_goes_170 rfl ?_
          refine gt_getS C dMo_goes_171 fl_Mo_290 h0 hMo ?_
          refine g_geti C dMo_goes_174 fl_Mo_186 hMk ?_
          have jn_196 : ∀  (s0_196 : Int32) (Iw11 : Nat → Nat → Int32) (Jw11 : Nat → Nat → Int64), (Int32.toInt (Iw11 a1 27) = Int32.toInt (I0 a1 27)) → SV frX49 P K O I0 J0 Iw11 Jw11 → GG X 5 P K Iw11 O Jw11 0 0 196 [(0, .ref a0), (1, .ref a1), (2, .int x2_2)] [.int s0_196] := by
            intro s0_196 Iw11 Jw11 jv0_196 hVw11
            refine g_istore_n (i := 2) C dMo_goes_196 rfl (by decide) ?_
            refine g_aload_n C dMo_goes_197 rfl ?_
            refine g_bipush (v := Int32.ofInt (21)) C dMo_goes_198 (by decide) ?_
            refine g_dup2 C dMo_goes_200 rfl rfl ?_
            refine gt_ialdc (c := 21) C dMo_goes_201 h1 (by decide) rfl (ofI (by decide)) (n := 37) rfl (by decide) (by decide) ?_
            refine g_iload_n C dMo_goes_202 rfl ?_
            first | refine n_iadd C dMo_goes_203 rfl rfl (by omega) (fun z_203 e_203 => ?_) | refine a_iadd C dMo_goes_203 (fun z_203 => ?_)
            refine gt_iastc (c := 21) C dMo_goes_204 h1 (by decide) rfl (ofI (by decide)) (n := 37) rfl (by decide) (by decide) hVw11 rfl trivial (fun Iw12 eIw12 hVw12 => ?_)
            have tkw12_a1_27 : (Iw12 a1 27).toInt = (Iw11 a1 27).toInt := by rw [eIw12, up2_ne _ _ (fun z => absurd z.2 (by decide))]
            refine g_aload_n C dMo_goes_205 rfl ?_
            refine g_bipush (v := Int32.ofInt (20)) C dMo_goes_206 (by decide) ?_
            refine g_dup2 C dMo_goes_208 rfl rfl ?_
            refine gt_ialdc (c := 20) C dMo_goes_209 h1 (by decide) rfl (ofI (by decide)) (n := 37) rfl (by decide) (by decide) ?_
            refine g_iload_n C dMo_goes_210 rfl ?_
            first | refine n_isub C dMo_goes_211 rfl rfl (by omega) (fun z_211 e_211 => ?_) | refine a_isub C dMo_goes_211 (fun z_211 => ?_)
            refine gt_iastc (c := 20) C dMo_goes_212 h1 (by decide) rfl (ofI (by decide)) (n := 37) rfl (by decide) (by decide) hVw12 rfl trivial (fun Iw13 eIw13 hVw13 => ?_)
            have tkw13_a1_27 : (Iw13 a1 27).toInt = (Iw12 a1 27).toInt := by rw [eIw13, up2_ne _ _ (fun z => absurd z.2 (by decide))]
            refine g_aload_n C dMo_goes_213 rfl ?_
            refine g_bipush (v := Int32.ofInt (20)) C dMo_goes_214 (by decide) ?_
            refine gt_ialdc (c := 20) C dMo_goes_216 h1 (by decide) rfl (ofI (by decide)) (n := 37) rfl (by decide) (by decide) ?_
            refine g_aload_n C dMo_goes_217 rfl ?_
            refine gt_getS C dMo_goes_218 fl_Mo_290 h0 hMo ?_
            refine g_geti C dMo_goes_221 fl_Mo_252 hMk ?_
            have jn_241 : ∀  (s0_241 : Int32) (Iw14 : Nat → Nat → Int32) (Jw14 : Nat → Nat → Int64), (Int32.toInt (Iw14 a1 27) = Int32.toInt (I0 a1 27)) → SV frX49 P K O I0 J0 Iw14 Jw14 → GG X 5 P K Iw14 O Jw14 0 0 241 [(0, .ref a0), (1, .ref a1), (2, .int s0_196)] [.int s0_241] := by
              intro s0_241 Iw14 Jw14 jv0_241 hVw14
              refine g_istore_n (i := 3) C dMo_goes_241 rfl (by decide) ?_
              refine g_aload_n C dMo_goes_242 rfl ?_
              refine g_bipush (v := Int32.ofInt (20)) C dMo_goes_243 (by decide) ?_
              refine g_dup2 C dMo_goes_245 rfl rfl ?_
              refine gt_ialdc (c := 20) C dMo_goes_246 h1 (by decide) rfl (ofI (by decide)) (n := 37) rfl (by decide) (by decide) ?_
              refine g_iload_n C dMo_goes_247 rfl ?_
              first | refine n_isub C dMo_goes_248 rfl rfl (by omega) (fun z_248 e_248 => ?_) | refine a_isub C dMo_goes_248 (fun z_248 => ?_)
              refine gt_iastc (c := 20) C dMo_goes_249 h1 (by decide) rfl (ofI (by decide)) (n := 37) rfl (by decide) (by decide) hVw14 rfl trivial (fun Iw15 eIw15 hVw15 => ?_)
              have tkw15_a1_27 : (Iw15 a1 27).toInt = (Iw14 a1 27).toInt := by rw [eIw15, up2_ne _ _ (fun z => absurd z.2 (by decide))]
              refine g_aload_n C dMo_goes_250 rfl ?_
              refine g_bipush (v := Int32.ofInt (22)) C dMo_goes_251 (by decide) ?_
              refine g_dup2 C dMo_goes_253 rfl rfl ?_
              refine gt_ialdc (c := 22) C dMo_goes_254 h1 (by decide) rfl (ofI (by decide)) (n := 37) rfl (by decide) (by decide) ?_
              refine g_iload_n C dMo_goes_255 rfl ?_
              first | refine n_iadd C dMo_goes_256 rfl rfl (by omega) (fun z_256 e_256 => ?_) | refine a_iadd C dMo_goes_256 (fun z_256 => ?_)
              refine gt_iastc (c := 22) C dMo_goes_257 h1 (by decide) rfl (ofI (by decide)) (n := 37) rfl (by decide) (by decide) hVw15 rfl trivial (fun Iw16 eIw16 hVw16 => ?_)
              have tkw16_a1_27 : (Iw16 a1 27).toInt = (Iw15 a1 27).toInt := by rw [eIw16, up2_ne _ _ (fun z => absurd z.2 (by decide))]
              refine g_aload_n C dMo_goes_258 rfl ?_
              refine g_bipush (v := Int32.ofInt (23)) C dMo_goes_259 (by decide) ?_
              refine g_dup2 C dMo_goes_261 rfl rfl ?_
              refine gt_ialdc (c := 23) C dMo_goes_262 h1 (by decide) rfl (ofI (by decide)) (n := 37) rfl (by decide) (by decide) ?_
              refine g_aload_n C dMo_goes_263 rfl ?_
              refine gt_getS C dMo_goes_264 fl_Mo_290 h0 hMo ?_
              refine g_geti C dMo_goes_267 fl_Mo_252 hMk ?_
              refine g_iload_n C dMo_goes_270 rfl ?_
              first | refine n_isub C dMo_goes_271 rfl rfl (by omega) (fun z_271 e_271 => ?_) | refine a_isub C dMo_goes_271 (fun z_271 => ?_)
              first | refine n_iadd C dMo_goes_272 rfl rfl (by omega) (fun z_272 e_272 => ?_) | refine a_iadd C dMo_goes_272 (fun z_272 => ?_)
              refine gt_iastc (c := 23) C dMo_goes_273 h1 (by decide) rfl (ofI (by decide)) (n := 37) rfl (by decide) (by decide) hVw16 rfl trivial (fun Iw17 eIw17 hVw17 => ?_)
              have tkw17_a1_27 : (Iw17 a1 27).toInt = (Iw16 a1 27).toInt := by rw [eIw17, up2_ne _ _ (fun z => absurd z.2 (by decide))]
              refine g_aload_n C dMo_goes_274 rfl ?_
              refine gt_getS C dMo_goes_275 fl_Mo_290 h0 hMo ?_
              refine g_geti C dMo_goes_278 fl_Mo_233 hMk ?_
              refine g_aload_n C dMo_goes_281 rfl ?_
              refine gt_getS C dMo_goes_282 fl_Mo_290 h0 hMo ?_
              refine g_geti C dMo_goes_285 fl_Mo_233 hMk ?_
              refine g_aload_n C dMo_goes_288 rfl ?_
              refine g_bipush (v := Int32.ofInt (28)) C dMo_goes_289 (by decide) ?_
              refine gt_ialdc (c := 28) C dMo_goes_291 h1 (by decide) rfl (ofI (by decide)) (n := 37) rfl (by decide) (by decide) ?_
              refine a_imul C dMo_goes_292 (fun z_292 => ?_)
              refine g_aload_n C dMo_goes_293 rfl ?_
              refine gt_getS C dMo_goes_294 fl_Mo_290 h0 hMo ?_
              refine g_geti C dMo_goes_297 fl_Mo_176 hMk ?_
              have gm_297 : 1 ≤ (Iw17 M 0).toInt := (hGM.keep (hVw17.2 M (by rw [hMk.2]; rfl)).1).1
              refine a_idiv C dMo_goes_300 (by omega) (fun z_300 => ?_)
              first | refine n_isub C dMo_goes_301 rfl rfl (by omega) (fun z_301 e_301 => ?_) | refine a_isub C dMo_goes_301 (fun z_301 => ?_)
              refine g_istore C dMo_goes_302 (by decide) ?_
              refine g_aload_n C dMo_goes_304 rfl ?_
              refine g_bipush (v := Int32.ofInt (31)) C dMo_goes_305 (by decide) ?_
              refine g_iload C dMo_goes_307 rfl ?_
              have jn_318 : ∀  (s0_318 : Int32) (Iw18 : Nat → Nat → Int32) (Jw18 : Nat → Nat → Int64), (Int32.toInt (Iw18 a1 27) = Int32.toInt (I0 a1 27)) → SV frX49 P K O I0 J0 Iw18 Jw18 → GG X 5 P K Iw18 O Jw18 0 0 318 [(0, .ref a0), (1, .ref a1), (2, .int s0_196), (3, .int s0_241), (4, .int z_301)] [.int s0_318, .int (Int32.ofInt (31)), .ref a1] := by
                intro s0_318 Iw18 Jw18 jv0_318 hVw18
                refine gt_iastc (c := 31) C dMo_goes_318 h1 (by decide) rfl (ofI (by decide)) (n := 37) rfl (by decide) (by decide) hVw18 rfl trivial (fun Iw19 eIw19 hVw19 => ?_)
                have tkw19_a1_27 : (Iw19 a1 27).toInt = (Iw18 a1 27).toInt := by rw [eIw19, up2_ne _ _ (fun z => absurd z.2 (by decide))]
                refine g_aload_n C dMo_goes_319 rfl ?_
                refine g_bipush (v := Int32.ofInt (32)) C dMo_goes_320 (by decide) ?_
                refine g_dup2 C dMo_goes_322 rfl rfl ?_
                refine gt_ialdc (c := 32) C dMo_goes_323 h1 (by decide) rfl (ofI (by decide)) (n := 37) rfl (by decide) (by decide) ?_
                refine g_aload_n C dMo_goes_324 rfl ?_
                refine g_bipush (v := Int32.ofInt (30)) C dMo_goes_325 (by decide) ?_
                refine gt_ialdc (c := 30) C dMo_goes_327 h1 (by decide) rfl (ofI (by decide)) (n := 37) rfl (by decide) (by decide) ?_
                refine g_aload_n C dMo_goes_328 rfl ?_
                refine gt_getS C dMo_goes_329 fl_Mo_290 h0 hMo ?_
                refine gt_getr C dMo_goes_332 fl_Mo_254 hMk hVw19.1.1 rfl (fun b_332 q_332 hb_332 => ?_)
                refine g_aload_n C dMo_goes_335 rfl ?_
                refine g_bipush (v := Int32.ofInt (27)) C dMo_goes_336 (by decide) ?_
                refine gt_ialdc (c := 27) C dMo_goes_338 h1 (by decide) rfl (ofI (by decide)) (n := 37) rfl (by decide) (by decide) ?_
                have o_338 := hVw19.1.2 a1 h1.1 27
                rw [h1.2] at o_338
                have o_338 : 0 ≤ (Iw19 a1 27).toInt ∧ (Iw19 a1 27).toInt ≤ 252 := o_338
                refine g_aload_n C dMo_goes_339 rfl ?_
                refine gt_getS C dMo_goes_340 fl_Mo_290 h0 hMo ?_
                refine g_geti C dMo_goes_343 fl_Mo_188 hMk ?_
                have o_343 := hVw19.1.2 M hMk.1 7
                rw [hMk.2] at o_343
                have o_343 : 0 ≤ (Iw19 M 7).toInt ∧ (Iw19 M 7).toInt ≤ 6 := o_343
                have gm_343 : 1 ≤ (Iw19 M 7).toInt := (hGM.keep (hVw19.2 M (by rw [hMk.2]; rfl)).1).2.2
                refine gt_irem ((Iw19 M 7).toInt) C dMo_goes_346 rfl rfl (by omega) (fun z_346 e_346 => ?_)
                refine gt_iald C dMo_goes_347 hb_332 (by decide) rfl rfl (n := 6) rfl (by omega) ?_
                refine a_imul C dMo_goes_348 (fun z_348 => ?_)
                first | refine n_iadd C dMo_goes_349 rfl rfl (by omega) (fun z_349 e_349 => ?_) | refine a_iadd C dMo_goes_349 (fun z_349 => ?_)
                refine gt_iastc (c := 32) C dMo_goes_350 h1 (by decide) rfl (ofI (by decide)) (n := 37) rfl (by decide) (by decide) hVw19 rfl trivial (fun Iw20 eIw20 hVw20 => ?_)
                have tkw20_a1_27 : (Iw20 a1 27).toInt = (Iw19 a1 27).toInt := by rw [eIw20, up2_ne _ _ (fun z => absurd z.2 (by decide))]
                refine g_aload_n C dMo_goes_351 rfl ?_
                refine g_bipush (v := Int32.ofInt (24)) C dMo_goes_352 (by decide) ?_
                refine g_dup2 C dMo_goes_354 rfl rfl ?_
                refine gt_ialdc (c := 24) C dMo_goes_355 h1 (by decide) rfl (ofI (by decide)) (n := 37) rfl (by decide) (by decide) ?_
                refine g_iconst (v := Int32.ofInt (1)) C dMo_goes_356 (by decide) ?_
                first | refine n_iadd C dMo_goes_357 rfl (ofI (by decide)) (by omega) (fun z_357 e_357 => ?_) | refine a_iadd C dMo_goes_357 (fun z_357 => ?_)
                refine gt_iastc (c := 24) C dMo_goes_358 h1 (by decide) rfl (ofI (by decide)) (n := 37) rfl (by decide) (by decide) hVw20 rfl trivial (fun Iw21 eIw21 hVw21 => ?_)
                have tkw21_a1_27 : (Iw21 a1 27).toInt = (Iw20 a1 27).toInt := by rw [eIw21, up2_ne _ _ (fun z => absurd z.2 (by decide))]
                refine g_aload_n C dMo_goes_359 rfl ?_
                refine g_bipush (v := Int32.ofInt (27)) C dMo_goes_360 (by decide) ?_
                refine g_dup2 C dMo_goes_362 rfl rfl ?_
                refine gt_ialdc (c := 27) C dMo_goes_363 h1 (by decide) rfl (ofI (by decide)) (n := 37) rfl (by decide) (by decide) ?_
                have o_363 := hVw21.1.2 a1 h1.1 27
                rw [h1.2] at o_363
                have o_363 : 0 ≤ (Iw21 a1 27).toInt ∧ (Iw21 a1 27).toInt ≤ 252 := o_363
                refine g_iconst (v := Int32.ofInt (1)) C dMo_goes_364 (by decide) ?_
                first | refine n_iadd C dMo_goes_365 rfl (ofI (by decide)) (by omega) (fun z_365 e_365 => ?_) | refine a_iadd C dMo_goes_365 (fun z_365 => ?_)
                refine gt_iastc (c := 27) C dMo_goes_366 h1 (by decide) rfl (ofI (by decide)) (n := 37) rfl (by decide) (by decide) hVw21 rfl (by show 0 ≤ Int32.toInt _ ∧ Int32.toInt _ ≤ 252; omega) (fun Iw22 eIw22 hVw22 => ?_)
                have tkw22_a1_27 : (Iw22 a1 27).toInt = z_365.toInt := by rw [eIw22, up2_self]
                exact s_vret C E dMo_goes_367 ⟨Nat.zero_le _, Nat.zero_le _⟩ hVw22 (by (try dsimp only); omega)
              refine gt_if_ge 316 C dMo_goes_309 (by decide) rfl (fun c_309 => ?_) (fun c_309 => ?_)
              · skip
                refine g_iload C dMo_goes_316 rfl ?_
                exact g_sub (jn_318 z_301 Iw17 Jw14 (by omega) hVw17) ⟨rfl, rfl, rfl, rfl, rfl, trivial⟩
              · skip
                refine g_iconst (v := Int32.ofInt (0)) C dMo_goes_312 (by decide) ?_
                refine g_goto 318 C dMo_goes_313 (by decide) ?_
                exact g_sub (jn_318 (Int32.ofInt (0)) Iw17 Jw14 (by omega) hVw17) ⟨rfl, rfl, rfl, rfl, rfl, trivial⟩
            refine gt_icmp_ge 234 C dMo_goes_224 (by decide) rfl rfl (fun c_224 => ?_) (fun c_224 => ?_)
            · skip
              refine g_aload_n C dMo_goes_234 rfl ?_
              refine gt_getS C dMo_goes_235 fl_Mo_290 h0 hMo ?_
              refine g_geti C dMo_goes_238 fl_Mo_252 hMk ?_
              exact g_sub (jn_241 (Iw13 M 6) Iw13 Jw11 (by omega) hVw13) ⟨rfl, rfl, rfl, trivial⟩
            · skip
              refine g_aload_n C dMo_goes_227 rfl ?_
              refine g_bipush (v := Int32.ofInt (20)) C dMo_goes_228 (by decide) ?_
              refine gt_ialdc (c := 20) C dMo_goes_230 h1 (by decide) rfl (ofI (by decide)) (n := 37) rfl (by decide) (by decide) ?_
              refine g_goto 241 C dMo_goes_231 (by decide) ?_
              exact g_sub (jn_241 (Iw13 a1 20) Iw13 Jw11 (by omega) hVw13) ⟨rfl, rfl, rfl, trivial⟩
          refine gt_icmp_le 195 C dMo_goes_177 (by decide) rfl rfl (fun c_177 => ?_) (fun c_177 => ?_)
          · skip
            refine g_iconst (v := Int32.ofInt (0)) C dMo_goes_195 (by decide) ?_
            exact g_sub (jn_196 (Int32.ofInt (0)) Iw10 Jw8 (by omega) hVw10) ⟨rfl, rfl, rfl, trivial⟩
          · skip
            refine g_aload_n C dMo_goes_180 rfl ?_
            refine g_bipush (v := Int32.ofInt (20)) C dMo_goes_181 (by decide) ?_
            refine gt_ialdc (c := 20) C dMo_goes_183 h1 (by decide) rfl (ofI (by decide)) (n := 37) rfl (by decide) (by decide) ?_
            refine g_aload_n C dMo_goes_184 rfl ?_
            refine gt_getS C dMo_goes_185 fl_Mo_290 h0 hMo ?_
            refine g_geti C dMo_goes_188 fl_Mo_186 hMk ?_
            first | refine n_isub C dMo_goes_191 rfl rfl (by omega) (fun z_191 e_191 => ?_) | refine a_isub C dMo_goes_191 (fun z_191 => ?_)
            refine g_goto 196 C dMo_goes_192 (by decide) ?_
            exact g_sub (jn_196 z_191 Iw10 Jw8 (by omega) hVw10) ⟨rfl, rfl, rfl, trivial⟩
        refine gt_if_ne 147 C dMo_goes_136 (by decide) rfl (fun c_136 => ?_) (fun c_136 => ?_)
        · skip
          refine g_aload_n C dMo_goes_147 rfl ?_
          refine g_aload_n C dMo_goes_148 rfl ?_
          refine s_callV_v (av := fun ad => [.ref a1]) C dMo_goes_149 mfMo_digs mvMo_digs ln_Mo_313 h0 (by decide) rfl hVw7 (frL_le (by decide)) (cMo_digs_G49 hVw7.1 h0 h1 hMo hMk (hGM.keep (hVw7.2 M (by rw [hMk.2]; rfl)).1)) rfl rfl (Nat.le_of_ble_eq_true rfl) ⟨Nat.le_of_ble_eq_true rfl, Nat.le_of_ble_eq_true rfl⟩ ⟨rfl, rfl⟩ ⟨Nat.zero_le _, Nat.zero_le _⟩ (fun Iw23 Jw23 hVw23 hFw23 p_149 => ?_)
          try dsimp only at p_149
          exact g_sub (jn_152  Iw23 Jw23 (by omega) hVw23) ⟨rfl, rfl, rfl, trivial⟩
        · skip
          refine g_aload_n C dMo_goes_139 rfl ?_
          refine g_aload_n C dMo_goes_140 rfl ?_
          refine s_callV_v (av := fun ad => [.ref a1]) C dMo_goes_141 mfMo_grinds mvMo_grinds ln_Mo_309 h0 (by decide) rfl hVw7 (frL_le (by decide)) (cMo_grinds_G49 hVw7.1 h0 h1 hMo hMk (hGM.keep (hVw7.2 M (by rw [hMk.2]; rfl)).1)) rfl rfl (Nat.le_of_ble_eq_true rfl) ⟨Nat.le_of_ble_eq_true rfl, Nat.le_of_ble_eq_true rfl⟩ ⟨rfl, rfl⟩ ⟨Nat.zero_le _, Nat.zero_le _⟩ (fun Iw24 Jw24 hVw24 hFw24 p_141 => ?_)
          try dsimp only at p_141
          refine g_goto 152 C dMo_goes_144 (by decide) ?_
          exact g_sub (jn_152  Iw24 Jw24 (by omega) hVw24) ⟨rfl, rfl, rfl, trivial⟩
      refine gt_icmp_le 120 C dMo_goes_113 (by decide) rfl rfl (fun c_113 => ?_) (fun c_113 => ?_)
      · skip
        refine g_iconst (v := Int32.ofInt (0)) C dMo_goes_120 (by decide) ?_
        exact g_sub (jn_121 (Int32.ofInt (0)) Iw3 Jw1 (by omega) hVw3) ⟨rfl, rfl, rfl, trivial⟩
      · skip
        refine g_iconst (v := Int32.ofInt (1)) C dMo_goes_116 (by decide) ?_
        refine g_goto 121 C dMo_goes_117 (by decide) ?_
        exact g_sub (jn_121 (Int32.ofInt (1)) Iw3 Jw1 (by omega) hVw3) ⟨rfl, rfl, rfl, trivial⟩
    · skip
      refine g_aload_n C dMo_goes_13 rfl ?_
      refine g_bipush (v := Int32.ofInt (26)) C dMo_goes_14 (by decide) ?_
      refine gt_ialdc (c := 26) C dMo_goes_16 h1 (by decide) rfl (ofI (by decide)) (n := 37) rfl (by decide) (by decide) ?_
      refine g_iconst (v := Int32.ofInt (1)) C dMo_goes_17 (by decide) ?_
      have jn_46 : ∀  (s0_46 : Int32) (Iw25 : Nat → Nat → Int32) (Jw25 : Nat → Nat → Int64), (Int32.toInt (Iw25 a1 27) = Int32.toInt (I0 a1 27)) → SV frX49 P K O I0 J0 Iw25 Jw25 → GG X 5 P K Iw25 O Jw25 0 0 46 [(0, .ref a0), (1, .ref a1), (2, .int x2_2)] [.int s0_46] := by
        intro s0_46 Iw25 Jw25 jv0_46 hVw25
        refine g_istore_n (i := 3) C dMo_goes_46 rfl (by decide) ?_
        refine g_aload_n C dMo_goes_47 rfl ?_
        refine g_bipush (v := Int32.ofInt (33)) C dMo_goes_48 (by decide) ?_
        refine g_dup2 C dMo_goes_50 rfl rfl ?_
        refine gt_ialdc (c := 33) C dMo_goes_51 h1 (by decide) rfl (ofI (by decide)) (n := 37) rfl (by decide) (by decide) ?_
        refine g_iload_n C dMo_goes_52 rfl ?_
        first | refine n_iadd C dMo_goes_53 rfl rfl (by omega) (fun z_53 e_53 => ?_) | refine a_iadd C dMo_goes_53 (fun z_53 => ?_)
        refine gt_iastc (c := 33) C dMo_goes_54 h1 (by decide) rfl (ofI (by decide)) (n := 37) rfl (by decide) (by decide) hVw25 rfl trivial (fun Iw26 eIw26 hVw26 => ?_)
        have tkw26_a1_27 : (Iw26 a1 27).toInt = (Iw25 a1 27).toInt := by rw [eIw26, up2_ne _ _ (fun z => absurd z.2 (by decide))]
        refine g_aload_n C dMo_goes_55 rfl ?_
        refine g_iconst (v := Int32.ofInt (0)) C dMo_goes_56 (by decide) ?_
        refine g_iload_n C dMo_goes_57 rfl ?_
        first | refine n_iadd C dMo_goes_58 (ofI (by decide)) rfl (by omega) (fun z_58 e_58 => ?_) | refine a_iadd C dMo_goes_58 (fun z_58 => ?_)
        refine g_dup2 C dMo_goes_59 rfl rfl ?_
        refine gt_iald C dMo_goes_60 h1 (by decide) rfl rfl (n := 37) rfl (by omega) ?_
        refine g_iload_n C dMo_goes_61 rfl ?_
        refine g_aload_n C dMo_goes_62 rfl ?_
        refine g_iconst (v := Int32.ofInt (5)) C dMo_goes_63 (by decide) ?_
        refine g_iload_n C dMo_goes_64 rfl ?_
        first | refine n_iadd C dMo_goes_65 (ofI (by decide)) rfl (by omega) (fun z_65 e_65 => ?_) | refine a_iadd C dMo_goes_65 (fun z_65 => ?_)
        refine gt_iald C dMo_goes_66 h1 (by decide) rfl rfl (n := 37) rfl (by omega) ?_
        first | refine n_iadd C dMo_goes_67 rfl rfl (by omega) (fun z_67 e_67 => ?_) | refine a_iadd C dMo_goes_67 (fun z_67 => ?_)
        first | refine n_iadd C dMo_goes_68 rfl rfl (by omega) (fun z_68 e_68 => ?_) | refine a_iadd C dMo_goes_68 (fun z_68 => ?_)
        refine gt_iast C dMo_goes_69 h1 (by decide) rfl rfl (n := 37) rfl (by omega) hVw26 rfl (okS (by decide) (by have q : z_58.toNatClampNeg = Int.toNat (z_58.toInt) := rfl; omega) (by have q : z_58.toNatClampNeg = Int.toNat (z_58.toInt) := rfl; omega)) (fun Iw27 eIw27 hVw27 => ?_)
        have tkw27_a1_27 : (Iw27 a1 27).toInt = (Iw26 a1 27).toInt := by rw [eIw27, up2_ne _ _ (fun z => by have q : z_58.toNatClampNeg = Int.toNat (z_58.toInt) := rfl; omega)]
        refine g_aload_n C dMo_goes_70 rfl ?_
        refine g_iconst (v := Int32.ofInt (5)) C dMo_goes_71 (by decide) ?_
        refine g_iload_n C dMo_goes_72 rfl ?_
        first | refine n_iadd C dMo_goes_73 (ofI (by decide)) rfl (by omega) (fun z_73 e_73 => ?_) | refine a_iadd C dMo_goes_73 (fun z_73 => ?_)
        refine g_iconst (v := Int32.ofInt (0)) C dMo_goes_74 (by decide) ?_
        refine gt_iast C dMo_goes_75 h1 (by decide) rfl rfl (n := 37) rfl (by omega) hVw27 rfl (okS (by decide) (by have q : z_73.toNatClampNeg = Int.toNat (z_73.toInt) := rfl; omega) (by have q : z_73.toNatClampNeg = Int.toNat (z_73.toInt) := rfl; omega)) (fun Iw28 eIw28 hVw28 => ?_)
        have tkw28_a1_27 : (Iw28 a1 27).toInt = (Iw27 a1 27).toInt := by rw [eIw28, up2_ne _ _ (fun z => by have q : z_73.toNatClampNeg = Int.toNat (z_73.toInt) := rfl; omega)]
        refine g_aload_n C dMo_goes_76 rfl ?_
        refine g_bipush (v := Int32.ofInt (10)) C dMo_goes_77 (by decide) ?_
        refine g_iload_n C dMo_goes_79 rfl ?_
        first | refine n_iadd C dMo_goes_80 (ofI (by decide)) rfl (by omega) (fun z_80 e_80 => ?_) | refine a_iadd C dMo_goes_80 (fun z_80 => ?_)
        refine g_iconst (v := Int32.ofInt (0)) C dMo_goes_81 (by decide) ?_
        refine gt_iast C dMo_goes_82 h1 (by decide) rfl rfl (n := 37) rfl (by omega) hVw28 rfl (okS (by decide) (by have q : z_80.toNatClampNeg = Int.toNat (z_80.toInt) := rfl; omega) (by have q : z_80.toNatClampNeg = Int.toNat (z_80.toInt) := rfl; omega)) (fun Iw29 eIw29 hVw29 => ?_)
        have tkw29_a1_27 : (Iw29 a1 27).toInt = (Iw28 a1 27).toInt := by rw [eIw29, up2_ne _ _ (fun z => by have q : z_80.toNatClampNeg = Int.toNat (z_80.toInt) := rfl; omega)]
        first | refine n_iinc C dMo_goes_83 rfl rfl (by decide) (by decide) (by omega) (fun z_83 e_83 => ?_) | refine a_iinc C dMo_goes_83 rfl (by decide) (fun z_83 => ?_)
        refine g_goto 2 C dMo_goes_86 (by decide) ?_
        exact g_sub (ih_2 _ (by omega) z_83 Iw29 Jw25 rfl (by omega) (by omega) hVw29) ⟨rfl, rfl, rfl, trivial⟩
      refine gt_icmp_ne 25 C dMo_goes_18 (by decide) rfl (ofI (by decide)) (fun c_18 => ?_) (fun c_18 => ?_)
      · skip
        refine g_aload_n C dMo_goes_25 rfl ?_
        refine g_bipush (v := Int32.ofInt (34)) C dMo_goes_26 (by decide) ?_
        refine gt_ialdc (c := 34) C dMo_goes_28 h1 (by decide) rfl (ofI (by decide)) (n := 37) rfl (by decide) (by decide) ?_
        refine g_aload_n C dMo_goes_29 rfl ?_
        refine gt_getS C dMo_goes_30 fl_Mo_290 h0 hMo ?_
        refine gt_getr C dMo_goes_33 fl_Mo_278 hMk hVw1.1.1 rfl (fun b_33 q_33 hb_33 => ?_)
        refine g_iconst (v := Int32.ofInt (5)) C dMo_goes_36 (by decide) ?_
        refine g_aload_n C dMo_goes_37 rfl ?_
        refine g_bipush (v := Int32.ofInt (36)) C dMo_goes_38 (by decide) ?_
        refine gt_ialdc (c := 36) C dMo_goes_40 h1 (by decide) rfl (ofI (by decide)) (n := 37) rfl (by decide) (by decide) ?_
        have o_40 := hVw1.1.2 a1 h1.1 36
        rw [h1.2] at o_40
        have o_40 : 0 ≤ (Iw1 a1 36).toInt ∧ (Iw1 a1 36).toInt ≤ 3 := o_40
        first | refine n_imul C dMo_goes_41 (ofI (by decide)) rfl (by omega) (fun z_41 e_41 => ?_) | refine a_imul C dMo_goes_41 (fun z_41 => ?_)
        refine g_iload_n C dMo_goes_42 rfl ?_
        first | refine n_iadd C dMo_goes_43 rfl rfl (by omega) (fun z_43 e_43 => ?_) | refine a_iadd C dMo_goes_43 (fun z_43 => ?_)
        refine gt_iald C dMo_goes_44 hb_33 (by decide) rfl rfl (n := 20) rfl (by omega) ?_
        refine a_imul C dMo_goes_45 (fun z_45 => ?_)
        exact g_sub (jn_46 z_45 Iw1 Jw1 (by omega) hVw1) ⟨rfl, rfl, rfl, trivial⟩
      · skip
        refine g_iconst (v := Int32.ofInt (0)) C dMo_goes_21 (by decide) ?_
        refine g_goto 46 C dMo_goes_22 (by decide) ?_
        exact g_sub (jn_46 (Int32.ofInt (0)) Iw1 Jw1 (by omega) hVw1) ⟨rfl, rfl, rfl, trivial⟩
  exact g_sub (lp_2 _ (Int32.ofInt (0)) I0 J0 rfl (by have hci : Int32.toInt (Int32.ofInt (0)) = 0 := ofI (by decide); omega) (by omega) hV0) ⟨rfl, rfl, rfl, trivial⟩
set_option maxHeartbeats 4000000 in
set_option maxRecDepth 100000 in
theorem cMo_digs_G50 {P : List Nat} {K : Nat → Nat} {I0 : Nat → Nat → Int32} {O : Nat → Nat → Option Nat} {J0 : Nat → Nat → Int64} (hV : IV P K I0 O) {a0 : Nat} (h0 : a0 ∈ P ∧ K a0 = 10) {a1 : Nat} (h1 : a1 ∈ P ∧ K a1 = 50) {M : Nat} (hMo : O a0 3 = some M) (hMk : M ∈ P ∧ K M = 9) (hGM : GM I0 M) : Con yMo_digs bMo_digs 4 none ({ frames := 0, cells := 0, slots := 0, locals := 0 } : Room) P K I0 O J0 [.ref a0, .ref a1] (SPo frX50 0 (fun _ I_ => (I_ a1 27).toInt = (I0 a1 27).toInt) P K I0 O J0) := by
  refine Con.ofG mfMo_digs (Nat.le_of_ble_eq_true rfl) ?_
  intro X C E
  have hV0 : SV frX50 P K O I0 J0 I0 J0 := SV.rf hV
  refine g_iconst (v := Int32.ofInt (0)) C dMo_digs_0 (by decide) ?_
  refine g_istore_n (i := 2) C dMo_digs_1 rfl (by decide) ?_
  have lp_2 : ∀ (nn_2 : Nat) (x2_2 : Int32) (Iw1 : Nat → Nat → Int32) (Jw1 : Nat → Nat → Int64), Int.toNat (5 - x2_2.toInt) = nn_2 → (0 ≤ Int32.toInt x2_2 ∧ Int32.toInt x2_2 ≤ 5) → (Int32.toInt (Iw1 a1 27) = Int32.toInt (I0 a1 27)) → SV frX50 P K O I0 J0 Iw1 Jw1 → GG X 4 P K Iw1 O Jw1 0 0 2 [(0, .ref a0), (1, .ref a1), (2, .int x2_2)] [] := by
    intro nn_2
    induction nn_2 using Nat.strongRecOn with
    | ind nn_2 ih_2 =>
    intro x2_2 Iw1 Jw1 hn_2 iv0_2 iv1_2 hVw1
    have rg2_2 := rg x2_2
    refine g_iload_n C dMo_digs_2 rfl ?_
    refine g_aload_n C dMo_digs_3 rfl ?_
    refine gt_getS C dMo_digs_4 fl_Mo_290 h0 hMo ?_
    refine g_geti C dMo_digs_7 fl_Mo_191 hMk ?_
    have o_7 := hVw1.1.2 M hMk.1 8
    rw [hMk.2] at o_7
    have o_7 : 0 ≤ (Iw1 M 8).toInt ∧ (Iw1 M 8).toInt ≤ 5 := o_7
    refine gt_icmp_ge 73 C dMo_digs_10 (by decide) rfl rfl (fun c_10 => ?_) (fun c_10 => ?_)
    · skip
      exact s_vret C E dMo_digs_73 ⟨Nat.zero_le _, Nat.zero_le _⟩ hVw1 (by (try dsimp only); omega)
    · skip
      refine g_aload_n C dMo_digs_13 rfl ?_
      refine g_iconst (v := Int32.ofInt (0)) C dMo_digs_14 (by decide) ?_
      refine g_iload_n C dMo_digs_15 rfl ?_
      first | refine n_iadd C dMo_digs_16 (ofI (by decide)) rfl (by omega) (fun z_16 e_16 => ?_) | refine a_iadd C dMo_digs_16 (fun z_16 => ?_)
      refine gt_iald C dMo_digs_17 h1 (by decide) rfl rfl (n := 37) rfl (by omega) ?_
      refine g_bipush (v := Int32.ofInt (10)) C dMo_digs_18 (by decide) ?_
      refine gt_idiv 10 C dMo_digs_20 rfl (ofI (by decide)) (by decide) (fun z_20 e_20 => ?_)
      refine g_iconst (v := Int32.ofInt (1)) C dMo_digs_21 (by decide) ?_
      first | refine n_iadd C dMo_digs_22 rfl (ofI (by decide)) (by omega) (fun z_22 e_22 => ?_) | refine a_iadd C dMo_digs_22 (fun z_22 => ?_)
      refine g_aload_n C dMo_digs_23 rfl ?_
      refine g_iconst (v := Int32.ofInt (0)) C dMo_digs_24 (by decide) ?_
      refine g_iload_n C dMo_digs_25 rfl ?_
      first | refine n_iadd C dMo_digs_26 (ofI (by decide)) rfl (by omega) (fun z_26 e_26 => ?_) | refine a_iadd C dMo_digs_26 (fun z_26 => ?_)
      refine gt_iald C dMo_digs_27 h1 (by decide) rfl rfl (n := 37) rfl (by omega) ?_
      have jn_49 : ∀  (s0_49 : Int32) (Iw2 : Nat → Nat → Int32) (Jw2 : Nat → Nat → Int64), (Int32.toInt (Iw2 a1 27) = Int32.toInt (I0 a1 27)) → SV frX50 P K O I0 J0 Iw2 Jw2 → GG X 4 P K Iw2 O Jw2 0 0 49 [(0, .ref a0), (1, .ref a1), (2, .int x2_2)] [.int s0_49] := by
        intro s0_49 Iw2 Jw2 jv0_49 hVw2
        refine g_istore_n (i := 3) C dMo_digs_49 rfl (by decide) ?_
        refine g_aload_n C dMo_digs_50 rfl ?_
        refine g_iconst (v := Int32.ofInt (0)) C dMo_digs_51 (by decide) ?_
        refine g_iload_n C dMo_digs_52 rfl ?_
        first | refine n_iadd C dMo_digs_53 (ofI (by decide)) rfl (by omega) (fun z_53 e_53 => ?_) | refine a_iadd C dMo_digs_53 (fun z_53 => ?_)
        refine g_dup2 C dMo_digs_54 rfl rfl ?_
        refine gt_iald C dMo_digs_55 h1 (by decide) rfl rfl (n := 37) rfl (by omega) ?_
        refine g_iload_n C dMo_digs_56 rfl ?_
        first | refine n_isub C dMo_digs_57 rfl rfl (by omega) (fun z_57 e_57 => ?_) | refine a_isub C dMo_digs_57 (fun z_57 => ?_)
        refine gt_iast C dMo_digs_58 h1 (by decide) rfl rfl (n := 37) rfl (by omega) hVw2 rfl (okS (by decide) (by have q : z_53.toNatClampNeg = Int.toNat (z_53.toInt) := rfl; omega) (by have q : z_53.toNatClampNeg = Int.toNat (z_53.toInt) := rfl; omega)) (fun Iw3 eIw3 hVw3 => ?_)
        have tkw3_a1_27 : (Iw3 a1 27).toInt = (Iw2 a1 27).toInt := by rw [eIw3, up2_ne _ _ (fun z => by have q : z_53.toNatClampNeg = Int.toNat (z_53.toInt) := rfl; omega)]
        refine g_aload_n C dMo_digs_59 rfl ?_
        refine g_bipush (v := Int32.ofInt (21)) C dMo_digs_60 (by decide) ?_
        refine g_dup2 C dMo_digs_62 rfl rfl ?_
        refine gt_ialdc (c := 21) C dMo_digs_63 h1 (by decide) rfl (ofI (by decide)) (n := 37) rfl (by decide) (by decide) ?_
        refine g_iload_n C dMo_digs_64 rfl ?_
        first | refine n_iadd C dMo_digs_65 rfl rfl (by omega) (fun z_65 e_65 => ?_) | refine a_iadd C dMo_digs_65 (fun z_65 => ?_)
        refine gt_iastc (c := 21) C dMo_digs_66 h1 (by decide) rfl (ofI (by decide)) (n := 37) rfl (by decide) (by decide) hVw3 rfl trivial (fun Iw4 eIw4 hVw4 => ?_)
        have tkw4_a1_27 : (Iw4 a1 27).toInt = (Iw3 a1 27).toInt := by rw [eIw4, up2_ne _ _ (fun z => absurd z.2 (by decide))]
        first | refine n_iinc C dMo_digs_67 rfl rfl (by decide) (by decide) (by omega) (fun z_67 e_67 => ?_) | refine a_iinc C dMo_digs_67 rfl (by decide) (fun z_67 => ?_)
        refine g_goto 2 C dMo_digs_70 (by decide) ?_
        exact g_sub (ih_2 _ (by omega) z_67 Iw4 Jw2 rfl (by omega) (by omega) hVw4) ⟨rfl, rfl, rfl, trivial⟩
      refine gt_icmp_le 39 C dMo_digs_28 (by decide) rfl rfl (fun c_28 => ?_) (fun c_28 => ?_)
      · skip
        refine g_aload_n C dMo_digs_39 rfl ?_
        refine g_iconst (v := Int32.ofInt (0)) C dMo_digs_40 (by decide) ?_
        refine g_iload_n C dMo_digs_41 rfl ?_
        first | refine n_iadd C dMo_digs_42 (ofI (by decide)) rfl (by omega) (fun z_42 e_42 => ?_) | refine a_iadd C dMo_digs_42 (fun z_42 => ?_)
        refine gt_iald C dMo_digs_43 h1 (by decide) rfl rfl (n := 37) rfl (by omega) ?_
        refine g_bipush (v := Int32.ofInt (10)) C dMo_digs_44 (by decide) ?_
        refine gt_idiv 10 C dMo_digs_46 rfl (ofI (by decide)) (by decide) (fun z_46 e_46 => ?_)
        refine g_iconst (v := Int32.ofInt (1)) C dMo_digs_47 (by decide) ?_
        first | refine n_iadd C dMo_digs_48 rfl (ofI (by decide)) (by omega) (fun z_48 e_48 => ?_) | refine a_iadd C dMo_digs_48 (fun z_48 => ?_)
        exact g_sub (jn_49 z_48 Iw1 Jw1 (by omega) hVw1) ⟨rfl, rfl, rfl, trivial⟩
      · skip
        refine g_aload_n C dMo_digs_31 rfl ?_
        refine g_iconst (v := Int32.ofInt (0)) C dMo_digs_32 (by decide) ?_
        refine g_iload_n C dMo_digs_33 rfl ?_
        first | refine n_iadd C dMo_digs_34 (ofI (by decide)) rfl (by omega) (fun z_34 e_34 => ?_) | refine a_iadd C dMo_digs_34 (fun z_34 => ?_)
        refine gt_iald C dMo_digs_35 h1 (by decide) rfl rfl (n := 37) rfl (by omega) ?_
        refine g_goto 49 C dMo_digs_36 (by decide) ?_
        exact g_sub (jn_49 (Iw1 a1 z_34.toNatClampNeg) Iw1 Jw1 (by omega) hVw1) ⟨rfl, rfl, rfl, trivial⟩
  exact g_sub (lp_2 _ (Int32.ofInt (0)) I0 J0 rfl (by have hci : Int32.toInt (Int32.ofInt (0)) = 0 := ofI (by decide); omega) (by omega) hV0) ⟨rfl, rfl, rfl, trivial⟩
set_option maxHeartbeats 4000000 in
set_option maxRecDepth 100000 in
theorem cMo_grinds_G50 {P : List Nat} {K : Nat → Nat} {I0 : Nat → Nat → Int32} {O : Nat → Nat → Option Nat} {J0 : Nat → Nat → Int64} (hV : IV P K I0 O) {a0 : Nat} (h0 : a0 ∈ P ∧ K a0 = 10) {a1 : Nat} (h1 : a1 ∈ P ∧ K a1 = 50) {M : Nat} (hMo : O a0 3 = some M) (hMk : M ∈ P ∧ K M = 9) (hGM : GM I0 M) : Con yMo_grinds bMo_grinds 5 none ({ frames := 1, cells := 0, slots := 0, locals := 27 } : Room) P K I0 O J0 [.ref a0, .ref a1] (SPo frX50 0 (fun _ I_ => (I_ a1 27).toInt = (I0 a1 27).toInt) P K I0 O J0) := by
  refine Con.ofG mfMo_grinds (Nat.le_of_ble_eq_true rfl) ?_
  intro X C E
  have hV0 : SV frX50 P K O I0 J0 I0 J0 := SV.rf hV
  refine g_aload_n C dMo_grinds_0 rfl ?_
  refine g_bipush (v := Int32.ofInt (29)) C dMo_grinds_1 (by decide) ?_
  refine g_aload_n C dMo_grinds_3 rfl ?_
  refine g_aload_n C dMo_grinds_4 rfl ?_
  refine g_bipush (v := Int32.ofInt (28)) C dMo_grinds_5 (by decide) ?_
  refine gt_ialdc (c := 28) C dMo_grinds_7 h1 (by decide) rfl (ofI (by decide)) (n := 37) rfl (by decide) (by decide) ?_
  refine g_aload_n C dMo_grinds_8 rfl ?_
  refine g_bipush (v := Int32.ofInt (24)) C dMo_grinds_9 (by decide) ?_
  refine gt_ialdc (c := 24) C dMo_grinds_11 h1 (by decide) rfl (ofI (by decide)) (n := 37) rfl (by decide) (by decide) ?_
  refine g_aload_n C dMo_grinds_12 rfl ?_
  refine g_bipush (v := Int32.ofInt (36)) C dMo_grinds_13 (by decide) ?_
  refine gt_ialdc (c := 36) C dMo_grinds_15 h1 (by decide) rfl (ofI (by decide)) (n := 37) rfl (by decide) (by decide) ?_
  have o_15 := hV0.1.2 a1 h1.1 36
  rw [h1.2] at o_15
  have o_15 : 0 ≤ (I0 a1 36).toInt ∧ (I0 a1 36).toInt ≤ 3 := o_15
  refine s_callV_ip (av := fun ad => [.int (I0 a1 28), .int (I0 a1 24), .int (I0 a1 36)]) C dMo_grinds_16 mfMo_effectOf mvMo_effectOf ln_Mo_316 h0 (by decide) rfl (cMo_effectOf_G hV0.1 h0 hMo hMk (hGM.keep (hV0.2 M (by rw [hMk.2]; rfl)).1) (by omega)) rfl rfl (Nat.le_of_ble_eq_true rfl) ⟨Nat.le_of_ble_eq_true rfl, Nat.le_of_ble_eq_true rfl⟩ ⟨rfl, rfl⟩ ⟨Nat.zero_le _, Nat.zero_le _⟩ (fun z_16 p_16 => ?_)
  have rz_16 := rg z_16
  refine gt_iastc (c := 29) C dMo_grinds_19 h1 (by decide) rfl (ofI (by decide)) (n := 37) rfl (by decide) (by decide) hV0 rfl trivial (fun Iw2 eIw2 hVw2 => ?_)
  have tkw2_a1_27 : (Iw2 a1 27).toInt = (I0 a1 27).toInt := by rw [eIw2, up2_ne _ _ (fun z => absurd z.2 (by decide))]
  refine g_aload_n C dMo_grinds_20 rfl ?_
  refine g_bipush (v := Int32.ofInt (30)) C dMo_grinds_21 (by decide) ?_
  refine g_aload_n C dMo_grinds_23 rfl ?_
  refine g_bipush (v := Int32.ofInt (28)) C dMo_grinds_24 (by decide) ?_
  refine gt_ialdc (c := 28) C dMo_grinds_26 h1 (by decide) rfl (ofI (by decide)) (n := 37) rfl (by decide) (by decide) ?_
  refine g_aload_n C dMo_grinds_27 rfl ?_
  refine g_bipush (v := Int32.ofInt (29)) C dMo_grinds_28 (by decide) ?_
  refine gt_ialdc (c := 29) C dMo_grinds_30 h1 (by decide) rfl (ofI (by decide)) (n := 37) rfl (by decide) (by decide) ?_
  refine a_imul C dMo_grinds_31 (fun z_31 => ?_)
  refine g_bipush (v := Int32.ofInt (100)) C dMo_grinds_32 (by decide) ?_
  refine gt_idiv 100 C dMo_grinds_34 rfl (ofI (by decide)) (by decide) (fun z_34 e_34 => ?_)
  refine gt_iastc (c := 30) C dMo_grinds_35 h1 (by decide) rfl (ofI (by decide)) (n := 37) rfl (by decide) (by decide) hVw2 rfl trivial (fun Iw3 eIw3 hVw3 => ?_)
  have tkw3_a1_27 : (Iw3 a1 27).toInt = (Iw2 a1 27).toInt := by rw [eIw3, up2_ne _ _ (fun z => absurd z.2 (by decide))]
  refine g_aload_n C dMo_grinds_36 rfl ?_
  refine gt_getS C dMo_grinds_37 fl_Mo_290 h0 hMo ?_
  refine g_geti C dMo_grinds_40 fl_Mo_191 hMk ?_
  have o_40 := hVw3.1.2 M hMk.1 8
  rw [hMk.2] at o_40
  have o_40 : 0 ≤ (Iw3 M 8).toInt ∧ (Iw3 M 8).toInt ≤ 5 := o_40
  refine g_iconst (v := Int32.ofInt (2)) C dMo_grinds_43 (by decide) ?_
  first | refine n_isub C dMo_grinds_44 rfl (ofI (by decide)) (by omega) (fun z_44 e_44 => ?_) | refine a_isub C dMo_grinds_44 (fun z_44 => ?_)
  refine g_istore_n (i := 2) C dMo_grinds_45 rfl (by decide) ?_
  have lp_46 : ∀ (nn_46 : Nat) (x2_46 : Int32) (Iw4 : Nat → Nat → Int32) (Jw4 : Nat → Nat → Int64), Int.toNat (x2_46.toInt + 3) = nn_46 → (-2 ≤ Int32.toInt x2_46 ∧ Int32.toInt x2_46 ≤ 3) → (Int32.toInt (Iw4 a1 27) = Int32.toInt (I0 a1 27)) → SV frX50 P K O I0 J0 Iw4 Jw4 → GG X 5 P K Iw4 O Jw4 0 0 46 [(0, .ref a0), (1, .ref a1), (2, .int x2_46)] [] := by
    intro nn_46
    induction nn_46 using Nat.strongRecOn with
    | ind nn_46 ih_46 =>
    intro x2_46 Iw4 Jw4 hn_46 iv0_46 iv1_46 hVw4
    have rg2_46 := rg x2_46
    refine g_iload_n C dMo_grinds_46 rfl ?_
    refine gt_if_lt 151 C dMo_grinds_47 (by decide) rfl (fun c_47 => ?_) (fun c_47 => ?_)
    · skip
      refine g_iconst (v := Int32.ofInt (0)) C dMo_grinds_151 (by decide) ?_
      refine g_istore_n (i := 2) C dMo_grinds_152 rfl (by decide) ?_
      have lp_153 : ∀ (nn_153 : Nat) (x2_153 : Int32) (Iw5 : Nat → Nat → Int32) (Jw5 : Nat → Nat → Int64), Int.toNat (5 - x2_153.toInt) = nn_153 → (0 ≤ Int32.toInt x2_153 ∧ Int32.toInt x2_153 ≤ 5) → (Int32.toInt (Iw5 a1 27) = Int32.toInt (I0 a1 27)) → SV frX50 P K O I0 J0 Iw5 Jw5 → GG X 5 P K Iw5 O Jw5 0 0 153 [(0, .ref a0), (1, .ref a1), (2, .int x2_153)] [] := by
        intro nn_153
        induction nn_153 using Nat.strongRecOn with
        | ind nn_153 ih_153 =>
        intro x2_153 Iw5 Jw5 hn_153 iv0_153 iv1_153 hVw5
        have rg2_153 := rg x2_153
        refine g_iload_n C dMo_grinds_153 rfl ?_
        refine g_aload_n C dMo_grinds_154 rfl ?_
        refine gt_getS C dMo_grinds_155 fl_Mo_290 h0 hMo ?_
        refine g_geti C dMo_grinds_158 fl_Mo_191 hMk ?_
        have o_158 := hVw5.1.2 M hMk.1 8
        rw [hMk.2] at o_158
        have o_158 : 0 ≤ (Iw5 M 8).toInt ∧ (Iw5 M 8).toInt ≤ 5 := o_158
        refine gt_icmp_ge 243 C dMo_grinds_161 (by decide) rfl rfl (fun c_161 => ?_) (fun c_161 => ?_)
        · skip
          exact s_vret C E dMo_grinds_243 ⟨Nat.zero_le _, Nat.zero_le _⟩ hVw5 (by (try dsimp only); omega)
        · skip
          refine g_aload_n C dMo_grinds_164 rfl ?_
          refine g_iconst (v := Int32.ofInt (0)) C dMo_grinds_165 (by decide) ?_
          refine g_iload_n C dMo_grinds_166 rfl ?_
          first | refine n_iadd C dMo_grinds_167 (ofI (by decide)) rfl (by omega) (fun z_167 e_167 => ?_) | refine a_iadd C dMo_grinds_167 (fun z_167 => ?_)
          refine gt_iald C dMo_grinds_168 h1 (by decide) rfl rfl (n := 37) rfl (by omega) ?_
          refine g_bipush (v := Int32.ofInt (20)) C dMo_grinds_169 (by decide) ?_
          refine g_bipush (v := Int32.ofInt (10)) C dMo_grinds_171 (by decide) ?_
          refine g_aload_n C dMo_grinds_173 rfl ?_
          refine g_bipush (v := Int32.ofInt (35)) C dMo_grinds_174 (by decide) ?_
          refine gt_ialdc (c := 35) C dMo_grinds_176 h1 (by decide) rfl (ofI (by decide)) (n := 37) rfl (by decide) (by decide) ?_
          first | refine n_imul C dMo_grinds_177 (ofI (by decide)) rfl (by omega) (fun z_177 e_177 => ?_) | refine a_imul C dMo_grinds_177 (fun z_177 => ?_)
          first | refine n_iadd C dMo_grinds_178 (ofI (by decide)) rfl (by omega) (fun z_178 e_178 => ?_) | refine a_iadd C dMo_grinds_178 (fun z_178 => ?_)
          refine a_imul C dMo_grinds_179 (fun z_179 => ?_)
          refine g_bipush (v := Int32.ofInt (100)) C dMo_grinds_180 (by decide) ?_
          refine gt_idiv 100 C dMo_grinds_182 rfl (ofI (by decide)) (by decide) (fun z_182 e_182 => ?_)
          refine g_istore_n (i := 3) C dMo_grinds_183 rfl (by decide) ?_
          refine g_iload_n C dMo_grinds_184 rfl ?_
          refine g_aload_n C dMo_grinds_185 rfl ?_
          refine g_iload_n C dMo_grinds_186 rfl ?_
          refine g_aload_n C dMo_grinds_187 rfl ?_
          refine g_bipush (v := Int32.ofInt (25)) C dMo_grinds_188 (by decide) ?_
          refine gt_ialdc (c := 25) C dMo_grinds_190 h1 (by decide) rfl (ofI (by decide)) (n := 37) rfl (by decide) (by decide) ?_
          refine s_callV_ip (av := fun ad => [.int x2_153, .int (Iw5 a1 25)]) C dMo_grinds_191 mfMo_passes mvMo_passes ln_Mo_320 h0 (by decide) rfl (cMo_passes_G hVw5.1 h0 hMo hMk (hGM.keep (hVw5.2 M (by rw [hMk.2]; rfl)).1)) rfl rfl (Nat.le_of_ble_eq_true rfl) ⟨Nat.le_of_ble_eq_true rfl, Nat.le_of_ble_eq_true rfl⟩ ⟨rfl, rfl⟩ ⟨Nat.zero_le _, Nat.zero_le _⟩ (fun z_191 p_191 => ?_)
          have rz_191 := rg z_191
          refine a_imul C dMo_grinds_194 (fun z_194 => ?_)
          refine g_bipush (v := Int32.ofInt (100)) C dMo_grinds_195 (by decide) ?_
          refine gt_idiv 100 C dMo_grinds_197 rfl (ofI (by decide)) (by decide) (fun z_197 e_197 => ?_)
          refine g_istore C dMo_grinds_198 (by decide) ?_
          refine g_aload_n C dMo_grinds_200 rfl ?_
          refine g_iconst (v := Int32.ofInt (0)) C dMo_grinds_201 (by decide) ?_
          refine g_iload_n C dMo_grinds_202 rfl ?_
          first | refine n_iadd C dMo_grinds_203 (ofI (by decide)) rfl (by omega) (fun z_203 e_203 => ?_) | refine a_iadd C dMo_grinds_203 (fun z_203 => ?_)
          refine g_dup2 C dMo_grinds_204 rfl rfl ?_
          refine gt_iald C dMo_grinds_205 h1 (by decide) rfl rfl (n := 37) rfl (by omega) ?_
          refine g_iload_n C dMo_grinds_206 rfl ?_
          first | refine n_isub C dMo_grinds_207 rfl rfl (by omega) (fun z_207 e_207 => ?_) | refine a_isub C dMo_grinds_207 (fun z_207 => ?_)
          refine gt_iast C dMo_grinds_208 h1 (by decide) rfl rfl (n := 37) rfl (by omega) hVw5 rfl (okS (by decide) (by have q : z_203.toNatClampNeg = Int.toNat (z_203.toInt) := rfl; omega) (by have q : z_203.toNatClampNeg = Int.toNat (z_203.toInt) := rfl; omega)) (fun Iw7 eIw7 hVw7 => ?_)
          have tkw7_a1_27 : (Iw7 a1 27).toInt = (Iw5 a1 27).toInt := by rw [eIw7, up2_ne _ _ (fun z => by have q : z_203.toNatClampNeg = Int.toNat (z_203.toInt) := rfl; omega)]
          refine g_aload_n C dMo_grinds_209 rfl ?_
          refine g_bipush (v := Int32.ofInt (10)) C dMo_grinds_210 (by decide) ?_
          refine g_iload_n C dMo_grinds_212 rfl ?_
          first | refine n_iadd C dMo_grinds_213 (ofI (by decide)) rfl (by omega) (fun z_213 e_213 => ?_) | refine a_iadd C dMo_grinds_213 (fun z_213 => ?_)
          refine g_iload C dMo_grinds_214 rfl ?_
          refine gt_iast C dMo_grinds_216 h1 (by decide) rfl rfl (n := 37) rfl (by omega) hVw7 rfl (okS (by decide) (by have q : z_213.toNatClampNeg = Int.toNat (z_213.toInt) := rfl; omega) (by have q : z_213.toNatClampNeg = Int.toNat (z_213.toInt) := rfl; omega)) (fun Iw8 eIw8 hVw8 => ?_)
          have tkw8_a1_27 : (Iw8 a1 27).toInt = (Iw7 a1 27).toInt := by rw [eIw8, up2_ne _ _ (fun z => by have q : z_213.toNatClampNeg = Int.toNat (z_213.toInt) := rfl; omega)]
          refine g_aload_n C dMo_grinds_217 rfl ?_
          refine g_bipush (v := Int32.ofInt (15)) C dMo_grinds_218 (by decide) ?_
          refine g_iload_n C dMo_grinds_220 rfl ?_
          first | refine n_iadd C dMo_grinds_221 (ofI (by decide)) rfl (by omega) (fun z_221 e_221 => ?_) | refine a_iadd C dMo_grinds_221 (fun z_221 => ?_)
          refine g_dup2 C dMo_grinds_222 rfl rfl ?_
          refine gt_iald C dMo_grinds_223 h1 (by decide) rfl rfl (n := 37) rfl (by omega) ?_
          refine g_iload C dMo_grinds_224 rfl ?_
          first | refine n_iadd C dMo_grinds_226 rfl rfl (by omega) (fun z_226 e_226 => ?_) | refine a_iadd C dMo_grinds_226 (fun z_226 => ?_)
          refine gt_iast C dMo_grinds_227 h1 (by decide) rfl rfl (n := 37) rfl (by omega) hVw8 rfl (okS (by decide) (by have q : z_221.toNatClampNeg = Int.toNat (z_221.toInt) := rfl; omega) (by have q : z_221.toNatClampNeg = Int.toNat (z_221.toInt) := rfl; omega)) (fun Iw9 eIw9 hVw9 => ?_)
          have tkw9_a1_27 : (Iw9 a1 27).toInt = (Iw8 a1 27).toInt := by rw [eIw9, up2_ne _ _ (fun z => by have q : z_221.toNatClampNeg = Int.toNat (z_221.toInt) := rfl; omega)]
          refine g_aload_n C dMo_grinds_228 rfl ?_
          refine g_iconst (v := Int32.ofInt (5)) C dMo_grinds_229 (by decide) ?_
          refine g_iload_n C dMo_grinds_230 rfl ?_
          first | refine n_iadd C dMo_grinds_231 (ofI (by decide)) rfl (by omega) (fun z_231 e_231 => ?_) | refine a_iadd C dMo_grinds_231 (fun z_231 => ?_)
          refine g_iload_n C dMo_grinds_232 rfl ?_
          refine g_iload C dMo_grinds_233 rfl ?_
          first | refine n_isub C dMo_grinds_235 rfl rfl (by omega) (fun z_235 e_235 => ?_) | refine a_isub C dMo_grinds_235 (fun z_235 => ?_)
          refine gt_iast C dMo_grinds_236 h1 (by decide) rfl rfl (n := 37) rfl (by omega) hVw9 rfl (okS (by decide) (by have q : z_231.toNatClampNeg = Int.toNat (z_231.toInt) := rfl; omega) (by have q : z_231.toNatClampNeg = Int.toNat (z_231.toInt) := rfl; omega)) (fun Iw10 eIw10 hVw10 => ?_)
          have tkw10_a1_27 : (Iw10 a1 27).toInt = (Iw9 a1 27).toInt := by rw [eIw10, up2_ne _ _ (fun z => by have q : z_231.toNatClampNeg = Int.toNat (z_231.toInt) := rfl; omega)]
          first | refine n_iinc C dMo_grinds_237 rfl rfl (by decide) (by decide) (by omega) (fun z_237 e_237 => ?_) | refine a_iinc C dMo_grinds_237 rfl (by decide) (fun z_237 => ?_)
          refine g_goto 153 C dMo_grinds_240 (by decide) ?_
          exact g_sub (ih_153 _ (by omega) z_237 Iw10 Jw5 rfl (by omega) (by omega) hVw10) ⟨rfl, rfl, rfl, trivial⟩
      exact g_sub (lp_153 _ (Int32.ofInt (0)) Iw4 Jw4 rfl (by have hci : Int32.toInt (Int32.ofInt (0)) = 0 := ofI (by decide); omega) (by omega) hVw4) ⟨rfl, rfl, rfl, trivial⟩
    · skip
      refine g_aload_n C dMo_grinds_50 rfl ?_
      refine g_iconst (v := Int32.ofInt (0)) C dMo_grinds_51 (by decide) ?_
      refine g_iload_n C dMo_grinds_52 rfl ?_
      first | refine n_iadd C dMo_grinds_53 (ofI (by decide)) rfl (by omega) (fun z_53 e_53 => ?_) | refine a_iadd C dMo_grinds_53 (fun z_53 => ?_)
      refine gt_iald C dMo_grinds_54 h1 (by decide) rfl rfl (n := 37) rfl (by omega) ?_
      refine g_aload_n C dMo_grinds_55 rfl ?_
      refine gt_getS C dMo_grinds_56 fl_Mo_290 h0 hMo ?_
      refine gt_getr C dMo_grinds_59 fl_Mo_267 hMk hVw4.1.1 rfl (fun b_59 q_59 hb_59 => ?_)
      refine g_iload_n C dMo_grinds_62 rfl ?_
      refine gt_iald C dMo_grinds_63 hb_59 (by decide) rfl rfl (n := 5) rfl (by omega) ?_
      refine a_imul C dMo_grinds_64 (fun z_64 => ?_)
      refine g_aload_n C dMo_grinds_65 rfl ?_
      refine g_bipush (v := Int32.ofInt (29)) C dMo_grinds_66 (by decide) ?_
      refine gt_ialdc (c := 29) C dMo_grinds_68 h1 (by decide) rfl (ofI (by decide)) (n := 37) rfl (by decide) (by decide) ?_
      refine a_imul C dMo_grinds_69 (fun z_69 => ?_)
      refine g_sipush (v := Int32.ofInt (10000)) C dMo_grinds_70 (by decide) ?_
      refine gt_idiv 10000 C dMo_grinds_73 rfl (ofI (by decide)) (by decide) (fun z_73 e_73 => ?_)
      refine g_istore_n (i := 3) C dMo_grinds_74 rfl (by decide) ?_
      refine g_iload_n C dMo_grinds_75 rfl ?_
      refine g_aload_n C dMo_grinds_76 rfl ?_
      refine gt_getS C dMo_grinds_77 fl_Mo_290 h0 hMo ?_
      refine gt_getr C dMo_grinds_80 fl_Mo_270 hMk hVw4.1.1 rfl (fun b_80 q_80 hb_80 => ?_)
      refine g_iload_n C dMo_grinds_83 rfl ?_
      refine gt_iald C dMo_grinds_84 hb_80 (by decide) rfl rfl (n := 5) rfl (by omega) ?_
      refine a_imul C dMo_grinds_85 (fun z_85 => ?_)
      refine g_bipush (v := Int32.ofInt (100)) C dMo_grinds_86 (by decide) ?_
      refine gt_idiv 100 C dMo_grinds_88 rfl (ofI (by decide)) (by decide) (fun z_88 e_88 => ?_)
      refine g_istore C dMo_grinds_89 (by decide) ?_
      refine g_aload_n C dMo_grinds_91 rfl ?_
      refine g_iconst (v := Int32.ofInt (0)) C dMo_grinds_92 (by decide) ?_
      refine g_iload_n C dMo_grinds_93 rfl ?_
      first | refine n_iadd C dMo_grinds_94 (ofI (by decide)) rfl (by omega) (fun z_94 e_94 => ?_) | refine a_iadd C dMo_grinds_94 (fun z_94 => ?_)
      refine g_dup2 C dMo_grinds_95 rfl rfl ?_
      refine gt_iald C dMo_grinds_96 h1 (by decide) rfl rfl (n := 37) rfl (by omega) ?_
      refine g_iload_n C dMo_grinds_97 rfl ?_
      first | refine n_isub C dMo_grinds_98 rfl rfl (by omega) (fun z_98 e_98 => ?_) | refine a_isub C dMo_grinds_98 (fun z_98 => ?_)
      refine gt_iast C dMo_grinds_99 h1 (by decide) rfl rfl (n := 37) rfl (by omega) hVw4 rfl (okS (by decide) (by have q : z_94.toNatClampNeg = Int.toNat (z_94.toInt) := rfl; omega) (by have q : z_94.toNatClampNeg = Int.toNat (z_94.toInt) := rfl; omega)) (fun Iw11 eIw11 hVw11 => ?_)
      have tkw11_a1_27 : (Iw11 a1 27).toInt = (Iw4 a1 27).toInt := by rw [eIw11, up2_ne _ _ (fun z => by have q : z_94.toNatClampNeg = Int.toNat (z_94.toInt) := rfl; omega)]
      refine g_aload_n C dMo_grinds_100 rfl ?_
      refine g_iconst (v := Int32.ofInt (0)) C dMo_grinds_101 (by decide) ?_
      refine g_iload_n C dMo_grinds_102 rfl ?_
      first | refine n_iadd C dMo_grinds_103 (ofI (by decide)) rfl (by omega) (fun z_103 e_103 => ?_) | refine a_iadd C dMo_grinds_103 (fun z_103 => ?_)
      refine g_iconst (v := Int32.ofInt (1)) C dMo_grinds_104 (by decide) ?_
      first | refine n_iadd C dMo_grinds_105 rfl (ofI (by decide)) (by omega) (fun z_105 e_105 => ?_) | refine a_iadd C dMo_grinds_105 (fun z_105 => ?_)
      refine g_dup2 C dMo_grinds_106 rfl rfl ?_
      refine gt_iald C dMo_grinds_107 h1 (by decide) rfl rfl (n := 37) rfl (by omega) ?_
      refine g_iload C dMo_grinds_108 rfl ?_
      first | refine n_iadd C dMo_grinds_110 rfl rfl (by omega) (fun z_110 e_110 => ?_) | refine a_iadd C dMo_grinds_110 (fun z_110 => ?_)
      refine gt_iast C dMo_grinds_111 h1 (by decide) rfl rfl (n := 37) rfl (by omega) hVw11 rfl (okS (by decide) (by have q : z_105.toNatClampNeg = Int.toNat (z_105.toInt) := rfl; omega) (by have q : z_105.toNatClampNeg = Int.toNat (z_105.toInt) := rfl; omega)) (fun Iw12 eIw12 hVw12 => ?_)
      have tkw12_a1_27 : (Iw12 a1 27).toInt = (Iw11 a1 27).toInt := by rw [eIw12, up2_ne _ _ (fun z => by have q : z_105.toNatClampNeg = Int.toNat (z_105.toInt) := rfl; omega)]
      refine g_aload_n C dMo_grinds_112 rfl ?_
      refine g_iconst (v := Int32.ofInt (0)) C dMo_grinds_113 (by decide) ?_
      refine g_iload_n C dMo_grinds_114 rfl ?_
      refine g_iconst (v := Int32.ofInt (2)) C dMo_grinds_115 (by decide) ?_
      first | refine n_iadd C dMo_grinds_116 rfl (ofI (by decide)) (by omega) (fun z_116 e_116 => ?_) | refine a_iadd C dMo_grinds_116 (fun z_116 => ?_)
      refine g_aload_n C dMo_grinds_117 rfl ?_
      refine gt_getS C dMo_grinds_118 fl_Mo_290 h0 hMo ?_
      refine g_geti C dMo_grinds_121 fl_Mo_191 hMk ?_
      have o_121 := hVw12.1.2 M hMk.1 8
      rw [hMk.2] at o_121
      have o_121 : 0 ≤ (Iw12 M 8).toInt ∧ (Iw12 M 8).toInt ≤ 5 := o_121
      have jn_136 : ∀  (s0_136 : Int32) (Iw13 : Nat → Nat → Int32) (Jw13 : Nat → Nat → Int64), (0 ≤ Int32.toInt s0_136 ∧ Int32.toInt s0_136 ≤ 4) → (Int32.toInt (Iw13 a1 27) = Int32.toInt (I0 a1 27)) → SV frX50 P K O I0 J0 Iw13 Jw13 → GG X 5 P K Iw13 O Jw13 0 0 136 [(0, .ref a0), (1, .ref a1), (2, .int x2_46), (3, .int z_73), (4, .int z_88)] [.int s0_136, .int (Int32.ofInt (0)), .ref a1] := by
        intro s0_136 Iw13 Jw13 jv0_136 jv1_136 hVw13
        first | refine n_iadd C dMo_grinds_136 (ofI (by decide)) rfl (by omega) (fun z_136 e_136 => ?_) | refine a_iadd C dMo_grinds_136 (fun z_136 => ?_)
        refine g_dup2 C dMo_grinds_137 rfl rfl ?_
        refine gt_iald C dMo_grinds_138 h1 (by decide) rfl rfl (n := 37) rfl (by omega) ?_
        refine g_iload_n C dMo_grinds_139 rfl ?_
        refine g_iload C dMo_grinds_140 rfl ?_
        first | refine n_isub C dMo_grinds_142 rfl rfl (by omega) (fun z_142 e_142 => ?_) | refine a_isub C dMo_grinds_142 (fun z_142 => ?_)
        first | refine n_iadd C dMo_grinds_143 rfl rfl (by omega) (fun z_143 e_143 => ?_) | refine a_iadd C dMo_grinds_143 (fun z_143 => ?_)
        refine gt_iast C dMo_grinds_144 h1 (by decide) rfl rfl (n := 37) rfl (by omega) hVw13 rfl (okS (by decide) (by have q : z_136.toNatClampNeg = Int.toNat (z_136.toInt) := rfl; omega) (by have q : z_136.toNatClampNeg = Int.toNat (z_136.toInt) := rfl; omega)) (fun Iw14 eIw14 hVw14 => ?_)
        have tkw14_a1_27 : (Iw14 a1 27).toInt = (Iw13 a1 27).toInt := by rw [eIw14, up2_ne _ _ (fun z => by have q : z_136.toNatClampNeg = Int.toNat (z_136.toInt) := rfl; omega)]
        first | refine n_iinc C dMo_grinds_145 rfl rfl (by decide) (by decide) (by omega) (fun z_145 e_145 => ?_) | refine a_iinc C dMo_grinds_145 rfl (by decide) (fun z_145 => ?_)
        refine g_goto 46 C dMo_grinds_148 (by decide) ?_
        exact g_sub (ih_46 _ (by omega) z_145 Iw14 Jw13 rfl (by omega) (by omega) hVw14) ⟨rfl, rfl, rfl, trivial⟩
      refine gt_icmp_ge 133 C dMo_grinds_124 (by decide) rfl rfl (fun c_124 => ?_) (fun c_124 => ?_)
      · skip
        refine g_iload_n C dMo_grinds_133 rfl ?_
        refine g_iconst (v := Int32.ofInt (1)) C dMo_grinds_134 (by decide) ?_
        first | refine n_iadd C dMo_grinds_135 rfl (ofI (by decide)) (by omega) (fun z_135 e_135 => ?_) | refine a_iadd C dMo_grinds_135 (fun z_135 => ?_)
        exact g_sub (jn_136 z_135 Iw12 Jw4 (by omega) (by omega) hVw12) ⟨rfl, rfl, rfl, rfl, rfl, trivial⟩
      · skip
        refine g_iload_n C dMo_grinds_127 rfl ?_
        refine g_iconst (v := Int32.ofInt (2)) C dMo_grinds_128 (by decide) ?_
        first | refine n_iadd C dMo_grinds_129 rfl (ofI (by decide)) (by omega) (fun z_129 e_129 => ?_) | refine a_iadd C dMo_grinds_129 (fun z_129 => ?_)
        refine g_goto 136 C dMo_grinds_130 (by decide) ?_
        exact g_sub (jn_136 z_129 Iw12 Jw4 (by omega) (by omega) hVw12) ⟨rfl, rfl, rfl, rfl, rfl, trivial⟩
  exact g_sub (lp_46 _ z_44 Iw3 J0 rfl (by omega) (by omega) hVw3) ⟨rfl, rfl, rfl, trivial⟩
set_option maxHeartbeats 4000000 in
set_option maxRecDepth 100000 in
theorem cMo_goes_G50 {P : List Nat} {K : Nat → Nat} {I0 : Nat → Nat → Int32} {O : Nat → Nat → Option Nat} {J0 : Nat → Nat → Int64} (hV : IV P K I0 O) {a0 : Nat} (h0 : a0 ∈ P ∧ K a0 = 10) {a1 : Nat} (h1 : a1 ∈ P ∧ K a1 = 50) {M : Nat} (hMo : O a0 3 = some M) (hMk : M ∈ P ∧ K M = 9) (hGM : GM I0 M) (pr0 : Int32.toInt (I0 a1 27) ≤ 251) : Con yMo_goes bMo_goes 5 none ({ frames := 2, cells := 0, slots := 0, locals := 51 } : Room) P K I0 O J0 [.ref a0, .ref a1] (SPo frX50 0 (fun _ I_ => Int32.toInt (I_ a1 27) = Int32.toInt (I0 a1 27) + 1) P K I0 O J0) := by
  refine Con.ofG mfMo_goes (Nat.le_of_ble_eq_true rfl) ?_
  intro X C E
  have hV0 : SV frX50 P K O I0 J0 I0 J0 := SV.rf hV
  refine g_iconst (v := Int32.ofInt (0)) C dMo_goes_0 (by decide) ?_
  refine g_istore_n (i := 2) C dMo_goes_1 rfl (by decide) ?_
  have lp_2 : ∀ (nn_2 : Nat) (x2_2 : Int32) (Iw1 : Nat → Nat → Int32) (Jw1 : Nat → Nat → Int64), Int.toNat (5 - x2_2.toInt) = nn_2 → (0 ≤ Int32.toInt x2_2 ∧ Int32.toInt x2_2 ≤ 5) → (Int32.toInt (Iw1 a1 27) = Int32.toInt (I0 a1 27)) → SV frX50 P K O I0 J0 Iw1 Jw1 → GG X 5 P K Iw1 O Jw1 0 0 2 [(0, .ref a0), (1, .ref a1), (2, .int x2_2)] [] := by
    intro nn_2
    induction nn_2 using Nat.strongRecOn with
    | ind nn_2 ih_2 =>
    intro x2_2 Iw1 Jw1 hn_2 iv0_2 iv1_2 hVw1
    have rg2_2 := rg x2_2
    refine g_iload_n C dMo_goes_2 rfl ?_
    refine g_aload_n C dMo_goes_3 rfl ?_
    refine gt_getS C dMo_goes_4 fl_Mo_290 h0 hMo ?_
    refine g_geti C dMo_goes_7 fl_Mo_191 hMk ?_
    have o_7 := hVw1.1.2 M hMk.1 8
    rw [hMk.2] at o_7
    have o_7 : 0 ≤ (Iw1 M 8).toInt ∧ (Iw1 M 8).toInt ≤ 5 := o_7
    refine gt_icmp_ge 89 C dMo_goes_10 (by decide) rfl rfl (fun c_10 => ?_) (fun c_10 => ?_)
    · skip
      refine g_aload_n C dMo_goes_89 rfl ?_
      refine g_bipush (v := Int32.ofInt (28)) C dMo_goes_90 (by decide) ?_
      refine g_aload_n C dMo_goes_92 rfl ?_
      refine g_aload_n C dMo_goes_93 rfl ?_
      refine g_iconst (v := Int32.ofInt (0)) C dMo_goes_94 (by decide) ?_
      refine s_callV_ip (av := fun ad => [.ref a1, .int (Int32.ofInt (0))]) C dMo_goes_95 mfMo_sumOf mvMo_sumOf ln_Mo_305 h0 (by decide) rfl (cMo_sumOf_G50 hVw1.1 h0 h1 hMo hMk (hGM.keep (hVw1.2 M (by rw [hMk.2]; rfl)).1) (by have hk2 : Int32.toInt (Int32.ofInt (0)) = 0 := ofI (by decide); omega)) rfl rfl (Nat.le_of_ble_eq_true rfl) ⟨Nat.le_of_ble_eq_true rfl, Nat.le_of_ble_eq_true rfl⟩ ⟨rfl, rfl⟩ ⟨Nat.zero_le _, Nat.zero_le _⟩ (fun z_95 p_95 => ?_)
      have rz_95 := rg z_95
      refine gt_iastc (c := 28) C dMo_goes_98 h1 (by decide) rfl (ofI (by decide)) (n := 37) rfl (by decide) (by decide) hVw1 rfl trivial (fun Iw3 eIw3 hVw3 => ?_)
      have tkw3_a1_27 : (Iw3 a1 27).toInt = (Iw1 a1 27).toInt := by rw [eIw3, up2_ne _ _ (fun z => absurd z.2 (by decide))]
      refine g_aload_n C dMo_goes_99 rfl ?_
      refine g_bipush (v := Int32.ofInt (26)) C dMo_goes_100 (by decide) ?_
      refine g_aload_n C dMo_goes_102 rfl ?_
      refine g_bipush (v := Int32.ofInt (28)) C dMo_goes_103 (by decide) ?_
      refine gt_ialdc (c := 28) C dMo_goes_105 h1 (by decide) rfl (ofI (by decide)) (n := 37) rfl (by decide) (by decide) ?_
      refine g_aload_n C dMo_goes_106 rfl ?_
      refine gt_getS C dMo_goes_107 fl_Mo_290 h0 hMo ?_
      refine g_geti C dMo_goes_110 fl_Mo_176 hMk ?_
      have gm_110 : 1 ≤ (Iw3 M 0).toInt := (hGM.keep (hVw3.2 M (by rw [hMk.2]; rfl)).1).1
      have jn_121 : ∀  (s0_121 : Int32) (Iw4 : Nat → Nat → Int32) (Jw4 : Nat → Nat → Int64), (Int32.toInt (Iw4 a1 27) = Int32.toInt (I0 a1 27)) → SV frX50 P K O I0 J0 Iw4 Jw4 → GG X 5 P K Iw4 O Jw4 0 0 121 [(0, .ref a0), (1, .ref a1), (2, .int x2_2)] [.int s0_121, .int (Int32.ofInt (26)), .ref a1] := by
        intro s0_121 Iw4 Jw4 jv0_121 hVw4
        refine gt_iastc (c := 26) C dMo_goes_121 h1 (by decide) rfl (ofI (by decide)) (n := 37) rfl (by decide) (by decide) hVw4 rfl trivial (fun Iw5 eIw5 hVw5 => ?_)
        have tkw5_a1_27 : (Iw5 a1 27).toInt = (Iw4 a1 27).toInt := by rw [eIw5, up2_ne _ _ (fun z => absurd z.2 (by decide))]
        refine g_aload_n C dMo_goes_122 rfl ?_
        refine g_bipush (v := Int32.ofInt (29)) C dMo_goes_123 (by decide) ?_
        refine g_iconst (v := Int32.ofInt (0)) C dMo_goes_125 (by decide) ?_
        refine gt_iastc (c := 29) C dMo_goes_126 h1 (by decide) rfl (ofI (by decide)) (n := 37) rfl (by decide) (by decide) hVw5 rfl trivial (fun Iw6 eIw6 hVw6 => ?_)
        have tkw6_a1_27 : (Iw6 a1 27).toInt = (Iw5 a1 27).toInt := by rw [eIw6, up2_ne _ _ (fun z => absurd z.2 (by decide))]
        refine g_aload_n C dMo_goes_127 rfl ?_
        refine g_bipush (v := Int32.ofInt (30)) C dMo_goes_128 (by decide) ?_
        refine g_iconst (v := Int32.ofInt (0)) C dMo_goes_130 (by decide) ?_
        refine gt_iastc (c := 30) C dMo_goes_131 h1 (by decide) rfl (ofI (by decide)) (n := 37) rfl (by decide) (by decide) hVw6 rfl trivial (fun Iw7 eIw7 hVw7 => ?_)
        have tkw7_a1_27 : (Iw7 a1 27).toInt = (Iw6 a1 27).toInt := by rw [eIw7, up2_ne _ _ (fun z => absurd z.2 (by decide))]
        refine g_aload_n C dMo_goes_132 rfl ?_
        refine g_bipush (v := Int32.ofInt (26)) C dMo_goes_133 (by decide) ?_
        refine gt_ialdc (c := 26) C dMo_goes_135 h1 (by decide) rfl (ofI (by decide)) (n := 37) rfl (by decide) (by decide) ?_
        have jn_152 : ∀   (Iw8 : Nat → Nat → Int32) (Jw8 : Nat → Nat → Int64), (Int32.toInt (Iw8 a1 27) = Int32.toInt (I0 a1 27)) → SV frX50 P K O I0 J0 Iw8 Jw8 → GG X 5 P K Iw8 O Jw8 0 0 152 [(0, .ref a0), (1, .ref a1), (2, .int x2_2)] [] := by
          intro Iw8 Jw8 jv0_152 hVw8
          refine g_aload_n C dMo_goes_152 rfl ?_
          refine g_bipush (v := Int32.ofInt (20)) C dMo_goes_153 (by decide) ?_
          refine g_dup2 C dMo_goes_155 rfl rfl ?_
          refine gt_ialdc (c := 20) C dMo_goes_156 h1 (by decide) rfl (ofI (by decide)) (n := 37) rfl (by decide) (by decide) ?_
          refine g_aload_n C dMo_goes_157 rfl ?_
          refine g_aload_n C dMo_goes_158 rfl ?_
          refine g_bipush (v := Int32.ofInt (10)) C dMo_goes_159 (by decide) ?_
          refine s_callV_ip (av := fun ad => [.ref a1, .int (Int32.ofInt (10))]) C dMo_goes_161 mfMo_sumOf mvMo_sumOf ln_Mo_305 h0 (by decide) rfl (cMo_sumOf_G50 hVw8.1 h0 h1 hMo hMk (hGM.keep (hVw8.2 M (by rw [hMk.2]; rfl)).1) (by have hk2 : Int32.toInt (Int32.ofInt (10)) = 10 := ofI (by decide); omega)) rfl rfl (Nat.le_of_ble_eq_true rfl) ⟨Nat.le_of_ble_eq_true rfl, Nat.le_of_ble_eq_true rfl⟩ ⟨rfl, rfl⟩ ⟨Nat.zero_le _, Nat.zero_le _⟩ (fun z_161 p_161 => ?_)
          have rz_161 := rg z_161
          first | refine n_iadd C dMo_goes_164 rfl rfl (by omega) (fun z_164 e_164 => ?_) | refine a_iadd C dMo_goes_164 (fun z_164 => ?_)
          refine gt_iastc (c := 20) C dMo_goes_165 h1 (by decide) rfl (ofI (by decide)) (n := 37) rfl (by decide) (by decide) hVw8 rfl trivial (fun Iw10 eIw10 hVw10 => ?_)
          have tkw10_a1_27 : (Iw10 a1 27).toInt = (Iw8 a1 27).toInt := by rw [eIw10, up2_ne _ _ (fun z => absurd z.2 (by decide))]
          refine g_aload_n C dMo_goes_166 rfl ?_
          refine g_bipush (v := Int32.ofInt (20)) C dMo_goes_167 (by decide) ?_
          refine gt_ialdc (c := 20) C dMo_goes_169 h1 (by decide) rfl (ofI (by decide)) (n := 37) rfl (by decide) (by decide) ?_
          refine g_aload_n C dMo_goes_170 rfl ?_
          refine gt_getS C dMo_goes_171 fl_Mo_290 h0 hMo ?_
          refine g_geti C dMo_goes_174 fl_Mo_186 hMk ?_
          have jn_196 : ∀  (s0_196 : Int32) (Iw11 : Nat → Nat → Int32) (Jw11 : Nat → Nat → Int64), (Int32.toInt (Iw11 a1 27) = Int32.toInt (I0 a1 27)) → SV frX50 P K O I0 J0 Iw11 Jw11 → GG X 5 P K Iw11 O Jw11 0 0 196 [(0, .ref a0), (1, .ref a1), (2, .int x2_2)] [.int s0_196] := by
            intro s0_196 Iw11 Jw11 jv0_196 hVw11
            refine g_istore_n (i := 2) C dMo_goes_196 rfl (by decide) ?_
            refine g_aload_n C dMo_goes_197 rfl ?_
            refine g_bipush (v := Int32.ofInt (21)) C dMo_goes_198 (by decide) ?_
            refine g_dup2 C dMo_goes_200 rfl rfl ?_
            refine gt_ialdc (c := 21) C dMo_goes_201 h1 (by decide) rfl (ofI (by decide)) (n := 37) rfl (by decide) (by decide) ?_
            refine g_iload_n C dMo_goes_202 rfl ?_
            first | refine n_iadd C dMo_goes_203 rfl rfl (by omega) (fun z_203 e_203 => ?_) | refine a_iadd C dMo_goes_203 (fun z_203 => ?_)
            refine gt_iastc (c := 21) C dMo_goes_204 h1 (by decide) rfl (ofI (by decide)) (n := 37) rfl (by decide) (by decide) hVw11 rfl trivial (fun Iw12 eIw12 hVw12 => ?_)
            have tkw12_a1_27 : (Iw12 a1 27).toInt = (Iw11 a1 27).toInt := by rw [eIw12, up2_ne _ _ (fun z => absurd z.2 (by decide))]
            refine g_aload_n C dMo_goes_205 rfl ?_
            refine g_bipush (v := Int32.ofInt (20)) C dMo_goes_206 (by decide) ?_
            refine g_dup2 C dMo_goes_208 rfl rfl ?_
            refine gt_ialdc (c := 20) C dMo_goes_209 h1 (by decide) rfl (ofI (by decide)) (n := 37) rfl (by decide) (by decide) ?_
            refine g_iload_n C dMo_goes_210 rfl ?_
            first | refine n_isub C dMo_goes_211 rfl rfl (by omega) (fun z_211 e_211 => ?_) | refine a_isub C dMo_goes_211 (fun z_211 => ?_)
            refine gt_iastc (c := 20) C dMo_goes_212 h1 (by decide) rfl (ofI (by decide)) (n := 37) rfl (by decide) (by decide) hVw12 rfl trivial (fun Iw13 eIw13 hVw13 => ?_)
            have tkw13_a1_27 : (Iw13 a1 27).toInt = (Iw12 a1 27).toInt := by rw [eIw13, up2_ne _ _ (fun z => absurd z.2 (by decide))]
            refine g_aload_n C dMo_goes_213 rfl ?_
            refine g_bipush (v := Int32.ofInt (20)) C dMo_goes_214 (by decide) ?_
            refine gt_ialdc (c := 20) C dMo_goes_216 h1 (by decide) rfl (ofI (by decide)) (n := 37) rfl (by decide) (by decide) ?_
            refine g_aload_n C dMo_goes_217 rfl ?_
            refine gt_getS C dMo_goes_218 fl_Mo_290 h0 hMo ?_
            refine g_geti C dMo_goes_221 fl_Mo_252 hMk ?_
            have jn_241 : ∀  (s0_241 : Int32) (Iw14 : Nat → Nat → Int32) (Jw14 : Nat → Nat → Int64), (Int32.toInt (Iw14 a1 27) = Int32.toInt (I0 a1 27)) → SV frX50 P K O I0 J0 Iw14 Jw14 → GG X 5 P K Iw14 O Jw14 0 0 241 [(0, .ref a0), (1, .ref a1), (2, .int s0_196)] [.int s0_241] := by
              intro s0_241 Iw14 Jw14 jv0_241 hVw14
              refine g_istore_n (i := 3) C dMo_goes_241 rfl (by decide) ?_
              refine g_aload_n C dMo_goes_242 rfl ?_
              refine g_bipush (v := Int32.ofInt (20)) C dMo_goes_243 (by decide) ?_
              refine g_dup2 C dMo_goes_245 rfl rfl ?_
              refine gt_ialdc (c := 20) C dMo_goes_246 h1 (by decide) rfl (ofI (by decide)) (n := 37) rfl (by decide) (by decide) ?_
              refine g_iload_n C dMo_goes_247 rfl ?_
              first | refine n_isub C dMo_goes_248 rfl rfl (by omega) (fun z_248 e_248 => ?_) | refine a_isub C dMo_goes_248 (fun z_248 => ?_)
              refine gt_iastc (c := 20) C dMo_goes_249 h1 (by decide) rfl (ofI (by decide)) (n := 37) rfl (by decide) (by decide) hVw14 rfl trivial (fun Iw15 eIw15 hVw15 => ?_)
              have tkw15_a1_27 : (Iw15 a1 27).toInt = (Iw14 a1 27).toInt := by rw [eIw15, up2_ne _ _ (fun z => absurd z.2 (by decide))]
              refine g_aload_n C dMo_goes_250 rfl ?_
              refine g_bipush (v := Int32.ofInt (22)) C dMo_goes_251 (by decide) ?_
              refine g_dup2 C dMo_goes_253 rfl rfl ?_
              refine gt_ialdc (c := 22) C dMo_goes_254 h1 (by decide) rfl (ofI (by decide)) (n := 37) rfl (by decide) (by decide) ?_
              refine g_iload_n C dMo_goes_255 rfl ?_
              first | refine n_iadd C dMo_goes_256 rfl rfl (by omega) (fun z_256 e_256 => ?_) | refine a_iadd C dMo_goes_256 (fun z_256 => ?_)
              refine gt_iastc (c := 22) C dMo_goes_257 h1 (by decide) rfl (ofI (by decide)) (n := 37) rfl (by decide) (by decide) hVw15 rfl trivial (fun Iw16 eIw16 hVw16 => ?_)
              have tkw16_a1_27 : (Iw16 a1 27).toInt = (Iw15 a1 27).toInt := by rw [eIw16, up2_ne _ _ (fun z => absurd z.2 (by decide))]
              refine g_aload_n C dMo_goes_258 rfl ?_
              refine g_bipush (v := Int32.ofInt (23)) C dMo_goes_259 (by decide) ?_
              refine g_dup2 C dMo_goes_261 rfl rfl ?_
              refine gt_ialdc (c := 23) C dMo_goes_262 h1 (by decide) rfl (ofI (by decide)) (n := 37) rfl (by decide) (by decide) ?_
              refine g_aload_n C dMo_goes_263 rfl ?_
              refine gt_getS C dMo_goes_264 fl_Mo_290 h0 hMo ?_
              refine g_geti C dMo_goes_267 fl_Mo_252 hMk ?_
              refine g_iload_n C dMo_goes_270 rfl ?_
              first | refine n_isub C dMo_goes_271 rfl rfl (by omega) (fun z_271 e_271 => ?_) | refine a_isub C dMo_goes_271 (fun z_271 => ?_)
              first | refine n_iadd C dMo_goes_272 rfl rfl (by omega) (fun z_272 e_272 => ?_) | refine a_iadd C dMo_goes_272 (fun z_272 => ?_)
              refine gt_iastc (c := 23) C dMo_goes_273 h1 (by decide) rfl (ofI (by decide)) (n := 37) rfl (by decide) (by decide) hVw16 rfl trivial (fun Iw17 eIw17 hVw17 => ?_)
              have tkw17_a1_27 : (Iw17 a1 27).toInt = (Iw16 a1 27).toInt := by rw [eIw17, up2_ne _ _ (fun z => absurd z.2 (by decide))]
              refine g_aload_n C dMo_goes_274 rfl ?_
              refine gt_getS C dMo_goes_275 fl_Mo_290 h0 hMo ?_
              refine g_geti C dMo_goes_278 fl_Mo_233 hMk ?_
              refine g_aload_n C dMo_goes_281 rfl ?_
              refine gt_getS C dMo_goes_282 fl_Mo_290 h0 hMo ?_
              refine g_geti C dMo_goes_285 fl_Mo_233 hMk ?_
              refine g_aload_n C dMo_goes_288 rfl ?_
              refine g_bipush (v := Int32.ofInt (28)) C dMo_goes_289 (by decide) ?_
              refine gt_ialdc (c := 28) C dMo_goes_291 h1 (by decide) rfl (ofI (by decide)) (n := 37) rfl (by decide) (by decide) ?_
              refine a_imul C dMo_goes_292 (fun z_292 => ?_)
              refine g_aload_n C dMo_goes_293 rfl ?_
              refine gt_getS C dMo_goes_294 fl_Mo_290 h0 hMo ?_
              refine g_geti C dMo_goes_297 fl_Mo_176 hMk ?_
              have gm_297 : 1 ≤ (Iw17 M 0).toInt := (hGM.keep (hVw17.2 M (by rw [hMk.2]; rfl)).1).1
              refine a_idiv C dMo_goes_300 (by omega) (fun z_300 => ?_)
              first | refine n_isub C dMo_goes_301 rfl rfl (by omega) (fun z_301 e_301 => ?_) | refine a_isub C dMo_goes_301 (fun z_301 => ?_)
              refine g_istore C dMo_goes_302 (by decide) ?_
              refine g_aload_n C dMo_goes_304 rfl ?_
              refine g_bipush (v := Int32.ofInt (31)) C dMo_goes_305 (by decide) ?_
              refine g_iload C dMo_goes_307 rfl ?_
              have jn_318 : ∀  (s0_318 : Int32) (Iw18 : Nat → Nat → Int32) (Jw18 : Nat → Nat → Int64), (Int32.toInt (Iw18 a1 27) = Int32.toInt (I0 a1 27)) → SV frX50 P K O I0 J0 Iw18 Jw18 → GG X 5 P K Iw18 O Jw18 0 0 318 [(0, .ref a0), (1, .ref a1), (2, .int s0_196), (3, .int s0_241), (4, .int z_301)] [.int s0_318, .int (Int32.ofInt (31)), .ref a1] := by
                intro s0_318 Iw18 Jw18 jv0_318 hVw18
                refine gt_iastc (c := 31) C dMo_goes_318 h1 (by decide) rfl (ofI (by decide)) (n := 37) rfl (by decide) (by decide) hVw18 rfl trivial (fun Iw19 eIw19 hVw19 => ?_)
                have tkw19_a1_27 : (Iw19 a1 27).toInt = (Iw18 a1 27).toInt := by rw [eIw19, up2_ne _ _ (fun z => absurd z.2 (by decide))]
                refine g_aload_n C dMo_goes_319 rfl ?_
                refine g_bipush (v := Int32.ofInt (32)) C dMo_goes_320 (by decide) ?_
                refine g_dup2 C dMo_goes_322 rfl rfl ?_
                refine gt_ialdc (c := 32) C dMo_goes_323 h1 (by decide) rfl (ofI (by decide)) (n := 37) rfl (by decide) (by decide) ?_
                refine g_aload_n C dMo_goes_324 rfl ?_
                refine g_bipush (v := Int32.ofInt (30)) C dMo_goes_325 (by decide) ?_
                refine gt_ialdc (c := 30) C dMo_goes_327 h1 (by decide) rfl (ofI (by decide)) (n := 37) rfl (by decide) (by decide) ?_
                refine g_aload_n C dMo_goes_328 rfl ?_
                refine gt_getS C dMo_goes_329 fl_Mo_290 h0 hMo ?_
                refine gt_getr C dMo_goes_332 fl_Mo_254 hMk hVw19.1.1 rfl (fun b_332 q_332 hb_332 => ?_)
                refine g_aload_n C dMo_goes_335 rfl ?_
                refine g_bipush (v := Int32.ofInt (27)) C dMo_goes_336 (by decide) ?_
                refine gt_ialdc (c := 27) C dMo_goes_338 h1 (by decide) rfl (ofI (by decide)) (n := 37) rfl (by decide) (by decide) ?_
                have o_338 := hVw19.1.2 a1 h1.1 27
                rw [h1.2] at o_338
                have o_338 : 0 ≤ (Iw19 a1 27).toInt ∧ (Iw19 a1 27).toInt ≤ 252 := o_338
                refine g_aload_n C dMo_goes_339 rfl ?_
                refine gt_getS C dMo_goes_340 fl_Mo_290 h0 hMo ?_
                refine g_geti C dMo_goes_343 fl_Mo_188 hMk ?_
                have o_343 := hVw19.1.2 M hMk.1 7
                rw [hMk.2] at o_343
                have o_343 : 0 ≤ (Iw19 M 7).toInt ∧ (Iw19 M 7).toInt ≤ 6 := o_343
                have gm_343 : 1 ≤ (Iw19 M 7).toInt := (hGM.keep (hVw19.2 M (by rw [hMk.2]; rfl)).1).2.2
                refine gt_irem ((Iw19 M 7).toInt) C dMo_goes_346 rfl rfl (by omega) (fun z_346 e_346 => ?_)
                refine gt_iald C dMo_goes_347 hb_332 (by decide) rfl rfl (n := 6) rfl (by omega) ?_
                refine a_imul C dMo_goes_348 (fun z_348 => ?_)
                first | refine n_iadd C dMo_goes_349 rfl rfl (by omega) (fun z_349 e_349 => ?_) | refine a_iadd C dMo_goes_349 (fun z_349 => ?_)
                refine gt_iastc (c := 32) C dMo_goes_350 h1 (by decide) rfl (ofI (by decide)) (n := 37) rfl (by decide) (by decide) hVw19 rfl trivial (fun Iw20 eIw20 hVw20 => ?_)
                have tkw20_a1_27 : (Iw20 a1 27).toInt = (Iw19 a1 27).toInt := by rw [eIw20, up2_ne _ _ (fun z => absurd z.2 (by decide))]
                refine g_aload_n C dMo_goes_351 rfl ?_
                refine g_bipush (v := Int32.ofInt (24)) C dMo_goes_352 (by decide) ?_
                refine g_dup2 C dMo_goes_354 rfl rfl ?_
                refine gt_ialdc (c := 24) C dMo_goes_355 h1 (by decide) rfl (ofI (by decide)) (n := 37) rfl (by decide) (by decide) ?_
                refine g_iconst (v := Int32.ofInt (1)) C dMo_goes_356 (by decide) ?_
                first | refine n_iadd C dMo_goes_357 rfl (ofI (by decide)) (by omega) (fun z_357 e_357 => ?_) | refine a_iadd C dMo_goes_357 (fun z_357 => ?_)
                refine gt_iastc (c := 24) C dMo_goes_358 h1 (by decide) rfl (ofI (by decide)) (n := 37) rfl (by decide) (by decide) hVw20 rfl trivial (fun Iw21 eIw21 hVw21 => ?_)
                have tkw21_a1_27 : (Iw21 a1 27).toInt = (Iw20 a1 27).toInt := by rw [eIw21, up2_ne _ _ (fun z => absurd z.2 (by decide))]
                refine g_aload_n C dMo_goes_359 rfl ?_
                refine g_bipush (v := Int32.ofInt (27)) C dMo_goes_360 (by decide) ?_
                refine g_dup2 C dMo_goes_362 rfl rfl ?_
                refine gt_ialdc (c := 27) C dMo_goes_363 h1 (by decide) rfl (ofI (by decide)) (n := 37) rfl (by decide) (by decide) ?_
                have o_363 := hVw21.1.2 a1 h1.1 27
                rw [h1.2] at o_363
                have o_363 : 0 ≤ (Iw21 a1 27).toInt ∧ (Iw21 a1 27).toInt ≤ 252 := o_363
                refine g_iconst (v := Int32.ofInt (1)) C dMo_goes_364 (by decide) ?_
                first | refine n_iadd C dMo_goes_365 rfl (ofI (by decide)) (by omega) (fun z_365 e_365 => ?_) | refine a_iadd C dMo_goes_365 (fun z_365 => ?_)
                refine gt_iastc (c := 27) C dMo_goes_366 h1 (by decide) rfl (ofI (by decide)) (n := 37) rfl (by decide) (by decide) hVw21 rfl (by show 0 ≤ Int32.toInt _ ∧ Int32.toInt _ ≤ 252; omega) (fun Iw22 eIw22 hVw22 => ?_)
                have tkw22_a1_27 : (Iw22 a1 27).toInt = z_365.toInt := by rw [eIw22, up2_self]
                exact s_vret C E dMo_goes_367 ⟨Nat.zero_le _, Nat.zero_le _⟩ hVw22 (by (try dsimp only); omega)
              refine gt_if_ge 316 C dMo_goes_309 (by decide) rfl (fun c_309 => ?_) (fun c_309 => ?_)
              · skip
                refine g_iload C dMo_goes_316 rfl ?_
                exact g_sub (jn_318 z_301 Iw17 Jw14 (by omega) hVw17) ⟨rfl, rfl, rfl, rfl, rfl, trivial⟩
              · skip
                refine g_iconst (v := Int32.ofInt (0)) C dMo_goes_312 (by decide) ?_
                refine g_goto 318 C dMo_goes_313 (by decide) ?_
                exact g_sub (jn_318 (Int32.ofInt (0)) Iw17 Jw14 (by omega) hVw17) ⟨rfl, rfl, rfl, rfl, rfl, trivial⟩
            refine gt_icmp_ge 234 C dMo_goes_224 (by decide) rfl rfl (fun c_224 => ?_) (fun c_224 => ?_)
            · skip
              refine g_aload_n C dMo_goes_234 rfl ?_
              refine gt_getS C dMo_goes_235 fl_Mo_290 h0 hMo ?_
              refine g_geti C dMo_goes_238 fl_Mo_252 hMk ?_
              exact g_sub (jn_241 (Iw13 M 6) Iw13 Jw11 (by omega) hVw13) ⟨rfl, rfl, rfl, trivial⟩
            · skip
              refine g_aload_n C dMo_goes_227 rfl ?_
              refine g_bipush (v := Int32.ofInt (20)) C dMo_goes_228 (by decide) ?_
              refine gt_ialdc (c := 20) C dMo_goes_230 h1 (by decide) rfl (ofI (by decide)) (n := 37) rfl (by decide) (by decide) ?_
              refine g_goto 241 C dMo_goes_231 (by decide) ?_
              exact g_sub (jn_241 (Iw13 a1 20) Iw13 Jw11 (by omega) hVw13) ⟨rfl, rfl, rfl, trivial⟩
          refine gt_icmp_le 195 C dMo_goes_177 (by decide) rfl rfl (fun c_177 => ?_) (fun c_177 => ?_)
          · skip
            refine g_iconst (v := Int32.ofInt (0)) C dMo_goes_195 (by decide) ?_
            exact g_sub (jn_196 (Int32.ofInt (0)) Iw10 Jw8 (by omega) hVw10) ⟨rfl, rfl, rfl, trivial⟩
          · skip
            refine g_aload_n C dMo_goes_180 rfl ?_
            refine g_bipush (v := Int32.ofInt (20)) C dMo_goes_181 (by decide) ?_
            refine gt_ialdc (c := 20) C dMo_goes_183 h1 (by decide) rfl (ofI (by decide)) (n := 37) rfl (by decide) (by decide) ?_
            refine g_aload_n C dMo_goes_184 rfl ?_
            refine gt_getS C dMo_goes_185 fl_Mo_290 h0 hMo ?_
            refine g_geti C dMo_goes_188 fl_Mo_186 hMk ?_
            first | refine n_isub C dMo_goes_191 rfl rfl (by omega) (fun z_191 e_191 => ?_) | refine a_isub C dMo_goes_191 (fun z_191 => ?_)
            refine g_goto 196 C dMo_goes_192 (by decide) ?_
            exact g_sub (jn_196 z_191 Iw10 Jw8 (by omega) hVw10) ⟨rfl, rfl, rfl, trivial⟩
        refine gt_if_ne 147 C dMo_goes_136 (by decide) rfl (fun c_136 => ?_) (fun c_136 => ?_)
        · skip
          refine g_aload_n C dMo_goes_147 rfl ?_
          refine g_aload_n C dMo_goes_148 rfl ?_
          refine s_callV_v (av := fun ad => [.ref a1]) C dMo_goes_149 mfMo_digs mvMo_digs ln_Mo_313 h0 (by decide) rfl hVw7 (frL_le (by decide)) (cMo_digs_G50 hVw7.1 h0 h1 hMo hMk (hGM.keep (hVw7.2 M (by rw [hMk.2]; rfl)).1)) rfl rfl (Nat.le_of_ble_eq_true rfl) ⟨Nat.le_of_ble_eq_true rfl, Nat.le_of_ble_eq_true rfl⟩ ⟨rfl, rfl⟩ ⟨Nat.zero_le _, Nat.zero_le _⟩ (fun Iw23 Jw23 hVw23 hFw23 p_149 => ?_)
          try dsimp only at p_149
          exact g_sub (jn_152  Iw23 Jw23 (by omega) hVw23) ⟨rfl, rfl, rfl, trivial⟩
        · skip
          refine g_aload_n C dMo_goes_139 rfl ?_
          refine g_aload_n C dMo_goes_140 rfl ?_
          refine s_callV_v (av := fun ad => [.ref a1]) C dMo_goes_141 mfMo_grinds mvMo_grinds ln_Mo_309 h0 (by decide) rfl hVw7 (frL_le (by decide)) (cMo_grinds_G50 hVw7.1 h0 h1 hMo hMk (hGM.keep (hVw7.2 M (by rw [hMk.2]; rfl)).1)) rfl rfl (Nat.le_of_ble_eq_true rfl) ⟨Nat.le_of_ble_eq_true rfl, Nat.le_of_ble_eq_true rfl⟩ ⟨rfl, rfl⟩ ⟨Nat.zero_le _, Nat.zero_le _⟩ (fun Iw24 Jw24 hVw24 hFw24 p_141 => ?_)
          try dsimp only at p_141
          refine g_goto 152 C dMo_goes_144 (by decide) ?_
          exact g_sub (jn_152  Iw24 Jw24 (by omega) hVw24) ⟨rfl, rfl, rfl, trivial⟩
      refine gt_icmp_le 120 C dMo_goes_113 (by decide) rfl rfl (fun c_113 => ?_) (fun c_113 => ?_)
      · skip
        refine g_iconst (v := Int32.ofInt (0)) C dMo_goes_120 (by decide) ?_
        exact g_sub (jn_121 (Int32.ofInt (0)) Iw3 Jw1 (by omega) hVw3) ⟨rfl, rfl, rfl, trivial⟩
      · skip
        refine g_iconst (v := Int32.ofInt (1)) C dMo_goes_116 (by decide) ?_
        refine g_goto 121 C dMo_goes_117 (by decide) ?_
        exact g_sub (jn_121 (Int32.ofInt (1)) Iw3 Jw1 (by omega) hVw3) ⟨rfl, rfl, rfl, trivial⟩
    · skip
      refine g_aload_n C dMo_goes_13 rfl ?_
      refine g_bipush (v := Int32.ofInt (26)) C dMo_goes_14 (by decide) ?_
      refine gt_ialdc (c := 26) C dMo_goes_16 h1 (by decide) rfl (ofI (by decide)) (n := 37) rfl (by decide) (by decide) ?_
      refine g_iconst (v := Int32.ofInt (1)) C dMo_goes_17 (by decide) ?_
      have jn_46 : ∀  (s0_46 : Int32) (Iw25 : Nat → Nat → Int32) (Jw25 : Nat → Nat → Int64), (Int32.toInt (Iw25 a1 27) = Int32.toInt (I0 a1 27)) → SV frX50 P K O I0 J0 Iw25 Jw25 → GG X 5 P K Iw25 O Jw25 0 0 46 [(0, .ref a0), (1, .ref a1), (2, .int x2_2)] [.int s0_46] := by
        intro s0_46 Iw25 Jw25 jv0_46 hVw25
        refine g_istore_n (i := 3) C dMo_goes_46 rfl (by decide) ?_
        refine g_aload_n C dMo_goes_47 rfl ?_
        refine g_bipush (v := Int32.ofInt (33)) C dMo_goes_48 (by decide) ?_
        refine g_dup2 C dMo_goes_50 rfl rfl ?_
        refine gt_ialdc (c := 33) C dMo_goes_51 h1 (by decide) rfl (ofI (by decide)) (n := 37) rfl (by decide) (by decide) ?_
        refine g_iload_n C dMo_goes_52 rfl ?_
        first | refine n_iadd C dMo_goes_53 rfl rfl (by omega) (fun z_53 e_53 => ?_) | refine a_iadd C dMo_goes_53 (fun z_53 => ?_)
        refine gt_iastc (c := 33) C dMo_goes_54 h1 (by decide) rfl (ofI (by decide)) (n := 37) rfl (by decide) (by decide) hVw25 rfl trivial (fun Iw26 eIw26 hVw26 => ?_)
        have tkw26_a1_27 : (Iw26 a1 27).toInt = (Iw25 a1 27).toInt := by rw [eIw26, up2_ne _ _ (fun z => absurd z.2 (by decide))]
        refine g_aload_n C dMo_goes_55 rfl ?_
        refine g_iconst (v := Int32.ofInt (0)) C dMo_goes_56 (by decide) ?_
        refine g_iload_n C dMo_goes_57 rfl ?_
        first | refine n_iadd C dMo_goes_58 (ofI (by decide)) rfl (by omega) (fun z_58 e_58 => ?_) | refine a_iadd C dMo_goes_58 (fun z_58 => ?_)
        refine g_dup2 C dMo_goes_59 rfl rfl ?_
        refine gt_iald C dMo_goes_60 h1 (by decide) rfl rfl (n := 37) rfl (by omega) ?_
        refine g_iload_n C dMo_goes_61 rfl ?_
        refine g_aload_n C dMo_goes_62 rfl ?_
        refine g_iconst (v := Int32.ofInt (5)) C dMo_goes_63 (by decide) ?_
        refine g_iload_n C dMo_goes_64 rfl ?_
        first | refine n_iadd C dMo_goes_65 (ofI (by decide)) rfl (by omega) (fun z_65 e_65 => ?_) | refine a_iadd C dMo_goes_65 (fun z_65 => ?_)
        refine gt_iald C dMo_goes_66 h1 (by decide) rfl rfl (n := 37) rfl (by omega) ?_
        first | refine n_iadd C dMo_goes_67 rfl rfl (by omega) (fun z_67 e_67 => ?_) | refine a_iadd C dMo_goes_67 (fun z_67 => ?_)
        first | refine n_iadd C dMo_goes_68 rfl rfl (by omega) (fun z_68 e_68 => ?_) | refine a_iadd C dMo_goes_68 (fun z_68 => ?_)
        refine gt_iast C dMo_goes_69 h1 (by decide) rfl rfl (n := 37) rfl (by omega) hVw26 rfl (okS (by decide) (by have q : z_58.toNatClampNeg = Int.toNat (z_58.toInt) := rfl; omega) (by have q : z_58.toNatClampNeg = Int.toNat (z_58.toInt) := rfl; omega)) (fun Iw27 eIw27 hVw27 => ?_)
        have tkw27_a1_27 : (Iw27 a1 27).toInt = (Iw26 a1 27).toInt := by rw [eIw27, up2_ne _ _ (fun z => by have q : z_58.toNatClampNeg = Int.toNat (z_58.toInt) := rfl; omega)]
        refine g_aload_n C dMo_goes_70 rfl ?_
        refine g_iconst (v := Int32.ofInt (5)) C dMo_goes_71 (by decide) ?_
        refine g_iload_n C dMo_goes_72 rfl ?_
        first | refine n_iadd C dMo_goes_73 (ofI (by decide)) rfl (by omega) (fun z_73 e_73 => ?_) | refine a_iadd C dMo_goes_73 (fun z_73 => ?_)
        refine g_iconst (v := Int32.ofInt (0)) C dMo_goes_74 (by decide) ?_
        refine gt_iast C dMo_goes_75 h1 (by decide) rfl rfl (n := 37) rfl (by omega) hVw27 rfl (okS (by decide) (by have q : z_73.toNatClampNeg = Int.toNat (z_73.toInt) := rfl; omega) (by have q : z_73.toNatClampNeg = Int.toNat (z_73.toInt) := rfl; omega)) (fun Iw28 eIw28 hVw28 => ?_)
        have tkw28_a1_27 : (Iw28 a1 27).toInt = (Iw27 a1 27).toInt := by rw [eIw28, up2_ne _ _ (fun z => by have q : z_73.toNatClampNeg = Int.toNat (z_73.toInt) := rfl; omega)]
        refine g_aload_n C dMo_goes_76 rfl ?_
        refine g_bipush (v := Int32.ofInt (10)) C dMo_goes_77 (by decide) ?_
        refine g_iload_n C dMo_goes_79 rfl ?_
        first | refine n_iadd C dMo_goes_80 (ofI (by decide)) rfl (by omega) (fun z_80 e_80 => ?_) | refine a_iadd C dMo_goes_80 (fun z_80 => ?_)
        refine g_iconst (v := Int32.ofInt (0)) C dMo_goes_81 (by decide) ?_
        refine gt_iast C dMo_goes_82 h1 (by decide) rfl rfl (n := 37) rfl (by omega) hVw28 rfl (okS (by decide) (by have q : z_80.toNatClampNeg = Int.toNat (z_80.toInt) := rfl; omega) (by have q : z_80.toNatClampNeg = Int.toNat (z_80.toInt) := rfl; omega)) (fun Iw29 eIw29 hVw29 => ?_)
        have tkw29_a1_27 : (Iw29 a1 27).toInt = (Iw28 a1 27).toInt := by rw [eIw29, up2_ne _ _ (fun z => by have q : z_80.toNatClampNeg = Int.toNat (z_80.toInt) := rfl; omega)]
        first | refine n_iinc C dMo_goes_83 rfl rfl (by decide) (by decide) (by omega) (fun z_83 e_83 => ?_) | refine a_iinc C dMo_goes_83 rfl (by decide) (fun z_83 => ?_)
        refine g_goto 2 C dMo_goes_86 (by decide) ?_
        exact g_sub (ih_2 _ (by omega) z_83 Iw29 Jw25 rfl (by omega) (by omega) hVw29) ⟨rfl, rfl, rfl, trivial⟩
      refine gt_icmp_ne 25 C dMo_goes_18 (by decide) rfl (ofI (by decide)) (fun c_18 => ?_) (fun c_18 => ?_)
      · skip
        refine g_aload_n C dMo_goes_25 rfl ?_
        refine g_bipush (v := Int32.ofInt (34)) C dMo_goes_26 (by decide) ?_
        refine gt_ialdc (c := 34) C dMo_goes_28 h1 (by decide) rfl (ofI (by decide)) (n := 37) rfl (by decide) (by decide) ?_
        refine g_aload_n C dMo_goes_29 rfl ?_
        refine gt_getS C dMo_goes_30 fl_Mo_290 h0 hMo ?_
        refine gt_getr C dMo_goes_33 fl_Mo_278 hMk hVw1.1.1 rfl (fun b_33 q_33 hb_33 => ?_)
        refine g_iconst (v := Int32.ofInt (5)) C dMo_goes_36 (by decide) ?_
        refine g_aload_n C dMo_goes_37 rfl ?_
        refine g_bipush (v := Int32.ofInt (36)) C dMo_goes_38 (by decide) ?_
        refine gt_ialdc (c := 36) C dMo_goes_40 h1 (by decide) rfl (ofI (by decide)) (n := 37) rfl (by decide) (by decide) ?_
        have o_40 := hVw1.1.2 a1 h1.1 36
        rw [h1.2] at o_40
        have o_40 : 0 ≤ (Iw1 a1 36).toInt ∧ (Iw1 a1 36).toInt ≤ 3 := o_40
        first | refine n_imul C dMo_goes_41 (ofI (by decide)) rfl (by omega) (fun z_41 e_41 => ?_) | refine a_imul C dMo_goes_41 (fun z_41 => ?_)
        refine g_iload_n C dMo_goes_42 rfl ?_
        first | refine n_iadd C dMo_goes_43 rfl rfl (by omega) (fun z_43 e_43 => ?_) | refine a_iadd C dMo_goes_43 (fun z_43 => ?_)
        refine gt_iald C dMo_goes_44 hb_33 (by decide) rfl rfl (n := 20) rfl (by omega) ?_
        refine a_imul C dMo_goes_45 (fun z_45 => ?_)
        exact g_sub (jn_46 z_45 Iw1 Jw1 (by omega) hVw1) ⟨rfl, rfl, rfl, trivial⟩
      · skip
        refine g_iconst (v := Int32.ofInt (0)) C dMo_goes_21 (by decide) ?_
        refine g_goto 46 C dMo_goes_22 (by decide) ?_
        exact g_sub (jn_46 (Int32.ofInt (0)) Iw1 Jw1 (by omega) hVw1) ⟨rfl, rfl, rfl, trivial⟩
  exact g_sub (lp_2 _ (Int32.ofInt (0)) I0 J0 rfl (by have hci : Int32.toInt (Int32.ofInt (0)) = 0 := ofI (by decide); omega) (by omega) hV0) ⟨rfl, rfl, rfl, trivial⟩
