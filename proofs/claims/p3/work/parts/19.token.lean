set_option maxHeartbeats 4000000 in
set_option maxRecDepth 100000 in
theorem cMx_find {P : List Nat} {K : Nat → Nat} {I0 : Nat → Nat → Int32} {O : Nat → Nat → Option Nat} {J0 : Nat → Nat → Int64} (hV : IV P K I0 O) {a0 : Nat} (h0 : a0 ∈ P ∧ K a0 = 9) {x1 : Int64} : Con yMx_find bMx_find 4 (some .int) ({ frames := 0, cells := 0, slots := 0, locals := 0 } : Room) P K I0 O J0 [.ref a0, .long x1] (SPo frP 1 (fun z _ => Int32.toInt z = -1 ∨ (0 ≤ Int32.toInt z ∧ Int32.toInt z ≤ 8)) P K I0 O J0) := by
  refine Con.ofG mfMx_find (Nat.le_of_ble_eq_true rfl) ?_
  intro X C E
  have hV0 : SV frP P K O I0 J0 I0 J0 := SV.rf hV
  refine g_iconst (v := Int32.ofInt (0)) C dMx_find_0 (by decide) ?_
  refine g_istore_n (i := 3) C dMx_find_1 rfl (by decide) ?_
  have lp_2 : ∀ (nn_2 : Nat) (x3_2 : Int32), Int.toNat (9 - x3_2.toInt) = nn_2 → (0 ≤ Int32.toInt x3_2 ∧ Int32.toInt x3_2 ≤ 9) → GG X 4 P K I0 O J0 0 0 2 [(0, .ref a0), (1, .long x1), (3, .int x3_2)] [] := by
    intro nn_2
    induction nn_2 using Nat.strongRecOn with
    | ind nn_2 ih_2 =>
    intro x3_2  hn_2 iv0_2 
    have rg3_2 := rg x3_2
    refine g_iload_n C dMx_find_2 rfl ?_
    refine g_aload_n C dMx_find_3 rfl ?_
    refine g_geti C dMx_find_4 fl_Mx_47 h0 ?_
    have o_4 := hV0.1.2 a0 h0.1 10
    rw [h0.2] at o_4
    have o_4 : 0 ≤ (I0 a0 10).toInt ∧ (I0 a0 10).toInt ≤ 9 := o_4
    refine gt_icmp_ge 29 C dMx_find_7 (by decide) rfl rfl (fun c_7 => ?_) (fun c_7 => ?_)
    · skip
      refine g_iconst (v := Int32.ofInt (-1)) C dMx_find_29 (by decide) ?_
      exact s_iret C E dMx_find_30 ⟨Nat.zero_le _, Nat.zero_le _⟩ hV0 (by have hci : Int32.toInt (Int32.ofInt (-1)) = -1 := ofI (by decide); (try dsimp only); omega)
    · skip
      refine g_aload_n C dMx_find_10 rfl ?_
      refine gt_getr C dMx_find_11 fl_Mx_40 h0 hV0.1.1 rfl (fun b_11 q_11 hb_11 => ?_)
      refine g_iload_n C dMx_find_14 rfl ?_
      refine gt_lald C dMx_find_15 hb_11 (by decide) rfl rfl (n := 9) rfl (by omega) ?_
      refine g_lload_n C dMx_find_16 rfl ?_
      refine a_lcmp C dMx_find_17 (fun z_17 => ?_)
      refine gt_if_ne 23 C dMx_find_18 (by decide) rfl (fun c_18 => ?_) (fun c_18 => ?_)
      · skip
        first | refine n_iinc C dMx_find_23 rfl rfl (by decide) (by decide) (by omega) (fun z_23 e_23 => ?_) | refine a_iinc C dMx_find_23 rfl (by decide) (fun z_23 => ?_)
        refine g_goto 2 C dMx_find_26 (by decide) ?_
        exact g_sub (ih_2 _ (by omega) z_23  rfl (by omega) ) ⟨rfl, rfl, rfl, trivial⟩
      · skip
        refine g_iload_n C dMx_find_21 rfl ?_
        exact s_iret C E dMx_find_22 ⟨Nat.zero_le _, Nat.zero_le _⟩ hV0 (by (try dsimp only); omega)
  exact g_sub (lp_2 _ (Int32.ofInt (0))  rfl (by have hci : Int32.toInt (Int32.ofInt (0)) = 0 := ofI (by decide); omega) ) ⟨rfl, rfl, rfl, trivial⟩
set_option maxHeartbeats 4000000 in
set_option maxRecDepth 100000 in
theorem cMo_byteAt {P : List Nat} {K : Nat → Nat} {I0 : Nat → Nat → Int32} {O : Nat → Nat → Option Nat} {J0 : Nat → Nat → Int64} (hV : IV P K I0 O) {a0 : Nat} (h0 : a0 ∈ P ∧ K a0 = 10) {x1 : Int32} (pr0 : 0 ≤ Int32.toInt x1) : Con yMo_byteAt bMo_byteAt 2 (some .int) ({ frames := 0, cells := 0, slots := 0, locals := 0 } : Room) P K I0 O J0 [.ref a0, .int x1] (SPo frP 1 (fun z _ => Int32.toInt z = -1 ∨ (Int32.toInt x1 < Int32.toInt (I0 a0 7))) P K I0 O J0) := by
  refine Con.ofG mfMo_byteAt (Nat.le_of_ble_eq_true rfl) ?_
  intro X C E
  have r1 := rg x1
  have hV0 : SV frP P K O I0 J0 I0 J0 := SV.rf hV
  refine g_iload_n C dMo_byteAt_0 rfl ?_
  refine g_aload_n C dMo_byteAt_1 rfl ?_
  refine g_geti C dMo_byteAt_2 fl_Mo_79 h0 ?_
  have o_2 := hV0.1.2 a0 h0.1 7
  rw [h0.2] at o_2
  have o_2 : 0 ≤ (I0 a0 7).toInt ∧ (I0 a0 7).toInt ≤ 700 := o_2
  refine gt_icmp_ge 21 C dMo_byteAt_5 (by decide) rfl rfl (fun c_5 => ?_) (fun c_5 => ?_)
  · skip
    refine g_iconst (v := Int32.ofInt (-1)) C dMo_byteAt_21 (by decide) ?_
    exact s_iret C E dMo_byteAt_22 ⟨Nat.zero_le _, Nat.zero_le _⟩ hV0 (by have hci : Int32.toInt (Int32.ofInt (-1)) = -1 := ofI (by decide); (try dsimp only); omega)
  · skip
    refine g_aload_n C dMo_byteAt_8 rfl ?_
    refine gt_getr C dMo_byteAt_9 fl_Mo_13 h0 hV0.1.1 rfl (fun b_9 q_9 hb_9 => ?_)
    refine g_iload_n C dMo_byteAt_12 rfl ?_
    refine gt_bald C dMo_byteAt_13 hb_9 (by decide) rfl rfl (n := 700) rfl (by omega) ?_
    refine g_sipush (v := Int32.ofInt (255)) C dMo_byteAt_14 (by decide) ?_
    refine a_iand C dMo_byteAt_17 (fun z_17 => ?_)
    refine g_goto 22 C dMo_byteAt_18 (by decide) ?_
    exact s_iret C E dMo_byteAt_22 ⟨Nat.zero_le _, Nat.zero_le _⟩ hV0 (by (try dsimp only); omega)
set_option maxHeartbeats 4000000 in
set_option maxRecDepth 100000 in
theorem cMo_isLetter {P : List Nat} {K : Nat → Nat} {I0 : Nat → Nat → Int32} {O : Nat → Nat → Option Nat} {J0 : Nat → Nat → Int64} (hV : IV P K I0 O) {x0 : Int32} : Con yMo_isLetter bMo_isLetter 1 (some .boolean) ({ frames := 0, cells := 0, slots := 0, locals := 0 } : Room) P K I0 O J0 [.int x0] (SPo frP 2 (fun z _ => Int32.toInt z = 0 ∨ (97 ≤ Int32.toInt x0)) P K I0 O J0) := by
  refine Con.ofG mfMo_isLetter (Nat.le_of_ble_eq_true rfl) ?_
  intro X C E
  have r0 := rg x0
  have hV0 : SV frP P K O I0 J0 I0 J0 := SV.rf hV
  refine g_iload_n C dMo_isLetter_0 rfl ?_
  refine g_bipush (v := Int32.ofInt (97)) C dMo_isLetter_1 (by decide) ?_
  refine gt_icmp_lt 16 C dMo_isLetter_3 (by decide) rfl (ofI (by decide)) (fun c_3 => ?_) (fun c_3 => ?_)
  · skip
    refine g_iconst (v := Int32.ofInt (0)) C dMo_isLetter_16 (by decide) ?_
    exact s_zret C E dMo_isLetter_17 ⟨Nat.zero_le _, Nat.zero_le _⟩ hV0 (Or.inl (ofI (by decide))) (by have hci : Int32.toInt (Int32.ofInt (0)) = 0 := ofI (by decide); (try dsimp only); omega)
  · skip
    refine g_iload_n C dMo_isLetter_6 rfl ?_
    refine g_bipush (v := Int32.ofInt (122)) C dMo_isLetter_7 (by decide) ?_
    refine gt_icmp_gt 16 C dMo_isLetter_9 (by decide) rfl (ofI (by decide)) (fun c_9 => ?_) (fun c_9 => ?_)
    · skip
      refine g_iconst (v := Int32.ofInt (0)) C dMo_isLetter_16 (by decide) ?_
      exact s_zret C E dMo_isLetter_17 ⟨Nat.zero_le _, Nat.zero_le _⟩ hV0 (Or.inl (ofI (by decide))) (by have hci : Int32.toInt (Int32.ofInt (0)) = 0 := ofI (by decide); (try dsimp only); omega)
    · skip
      refine g_iconst (v := Int32.ofInt (1)) C dMo_isLetter_12 (by decide) ?_
      refine g_goto 17 C dMo_isLetter_13 (by decide) ?_
      exact s_zret C E dMo_isLetter_17 ⟨Nat.zero_le _, Nat.zero_le _⟩ hV0 (Or.inr (ofI (by decide))) (by have hci : Int32.toInt (Int32.ofInt (1)) = 1 := ofI (by decide); (try dsimp only); omega)
set_option maxHeartbeats 4000000 in
set_option maxRecDepth 100000 in
theorem cMo_isDigit {P : List Nat} {K : Nat → Nat} {I0 : Nat → Nat → Int32} {O : Nat → Nat → Option Nat} {J0 : Nat → Nat → Int64} (hV : IV P K I0 O) {x0 : Int32} : Con yMo_isDigit bMo_isDigit 1 (some .boolean) ({ frames := 0, cells := 0, slots := 0, locals := 0 } : Room) P K I0 O J0 [.int x0] (SPo frP 2 (fun z _ => Int32.toInt z = 0 ∨ (48 ≤ Int32.toInt x0)) P K I0 O J0) := by
  refine Con.ofG mfMo_isDigit (Nat.le_of_ble_eq_true rfl) ?_
  intro X C E
  have r0 := rg x0
  have hV0 : SV frP P K O I0 J0 I0 J0 := SV.rf hV
  refine g_iload_n C dMo_isDigit_0 rfl ?_
  refine g_bipush (v := Int32.ofInt (48)) C dMo_isDigit_1 (by decide) ?_
  refine gt_icmp_lt 16 C dMo_isDigit_3 (by decide) rfl (ofI (by decide)) (fun c_3 => ?_) (fun c_3 => ?_)
  · skip
    refine g_iconst (v := Int32.ofInt (0)) C dMo_isDigit_16 (by decide) ?_
    exact s_zret C E dMo_isDigit_17 ⟨Nat.zero_le _, Nat.zero_le _⟩ hV0 (Or.inl (ofI (by decide))) (by have hci : Int32.toInt (Int32.ofInt (0)) = 0 := ofI (by decide); (try dsimp only); omega)
  · skip
    refine g_iload_n C dMo_isDigit_6 rfl ?_
    refine g_bipush (v := Int32.ofInt (57)) C dMo_isDigit_7 (by decide) ?_
    refine gt_icmp_gt 16 C dMo_isDigit_9 (by decide) rfl (ofI (by decide)) (fun c_9 => ?_) (fun c_9 => ?_)
    · skip
      refine g_iconst (v := Int32.ofInt (0)) C dMo_isDigit_16 (by decide) ?_
      exact s_zret C E dMo_isDigit_17 ⟨Nat.zero_le _, Nat.zero_le _⟩ hV0 (Or.inl (ofI (by decide))) (by have hci : Int32.toInt (Int32.ofInt (0)) = 0 := ofI (by decide); (try dsimp only); omega)
    · skip
      refine g_iconst (v := Int32.ofInt (1)) C dMo_isDigit_12 (by decide) ?_
      refine g_goto 17 C dMo_isDigit_13 (by decide) ?_
      exact s_zret C E dMo_isDigit_17 ⟨Nat.zero_le _, Nat.zero_le _⟩ hV0 (Or.inr (ofI (by decide))) (by have hci : Int32.toInt (Int32.ofInt (1)) = 1 := ofI (by decide); (try dsimp only); omega)
set_option maxHeartbeats 4000000 in
set_option maxRecDepth 100000 in
theorem cMo_wordOf {P : List Nat} {K : Nat → Nat} {I0 : Nat → Nat → Int32} {O : Nat → Nat → Option Nat} {J0 : Nat → Nat → Int64} (hV : IV P K I0 O) {i0 : Nat} (h0 : i0 < 31) : ConA yMo_wordOf bMo_wordOf 4 (some .long) ({ frames := 4, cells := 0, slots := 0, locals := 85 } : Room) P K I0 O J0 (fun ad => [.ref (ad.1 i0)]) (SPo frP 3 (tt) P K I0 O J0) := by
  refine ConA.ofG mfMo_wordOf (fun _ => Nat.le_of_ble_eq_true rfl) ?_
  intro X C E
  have hV0 : SV frP P K O I0 J0 I0 J0 := SV.rf hV
  refine g_lconst (v := 0) C dMo_wordOf_0 (by decide) ?_
  refine g_lstore_n (i := 1) C dMo_wordOf_1 rfl (by decide) ?_
  refine g_iconst (v := Int32.ofInt (0)) C dMo_wordOf_2 (by decide) ?_
  refine g_istore_n (i := 3) C dMo_wordOf_3 rfl (by decide) ?_
  have lp_4 : ∀ (nn_4 : Nat) (x1_4 : Int64) (x3_4 : Int32), Int.toNat (((sLen.getD i0 0 : Nat) : Int) - x3_4.toInt) = nn_4 → (0 ≤ Int32.toInt x3_4) → GG X 4 P K I0 O J0 0 0 4 [(0, .ref ((adX X).1 i0)), (1, .long x1_4), (3, .int x3_4)] [] := by
    intro nn_4
    induction nn_4 using Nat.strongRecOn with
    | ind nn_4 ih_4 =>
    intro x1_4 x3_4  hn_4 iv0_4 
    have rg3_4 := rg x3_4
    refine g_iload_n C dMo_wordOf_4 rfl ?_
    refine g_aload_n C dMo_wordOf_5 rfl ?_
    refine s_callW_ip (av := fun _ => []) C dMo_wordOf_6 mfJS_length mvJS_length ln_Mo_82 h0 rfl (cJS_length hV0.1 h0) rfl rfl (Nat.le_of_ble_eq_true rfl) ⟨Nat.le_of_ble_eq_true rfl, Nat.le_of_ble_eq_true rfl⟩ ⟨rfl, rfl⟩ ⟨Nat.zero_le _, Nat.zero_le _⟩ (fun z_6 p_6 => ?_)
    have rz_6 := rg z_6
    try dsimp only at p_6
    refine gt_icmp_ge 36 C dMo_wordOf_9 (by decide) rfl rfl (fun c_9 => ?_) (fun c_9 => ?_)
    · skip
      refine g_lload_n C dMo_wordOf_36 rfl ?_
      exact s_lret C E dMo_wordOf_37 ⟨Nat.zero_le _, Nat.zero_le _⟩ hV0 trivial
    · skip
      refine g_ldc2 (v := 32) C dMo_wordOf_12 k_Mo_88 ?_
      refine g_lload_n C dMo_wordOf_15 rfl ?_
      refine a_lmul C dMo_wordOf_16 (fun z_16 => ?_)
      refine g_aload_n C dMo_wordOf_17 rfl ?_
      refine g_iload_n C dMo_wordOf_18 rfl ?_
      refine s_callW_ip (av := fun _ => [.int x3_4]) C dMo_wordOf_19 mfJS_charAt mvJS_charAt ln_Mo_90 h0 rfl (cJS_charAt hV0.1 h0 (by omega)) rfl rfl (Nat.le_of_ble_eq_true rfl) ⟨Nat.le_of_ble_eq_true rfl, Nat.le_of_ble_eq_true rfl⟩ ⟨rfl, rfl⟩ ⟨Nat.zero_le _, Nat.zero_le _⟩ (fun z_19 p_19 => ?_)
      have rz_19 := rg z_19
      try dsimp only at p_19
      refine g_bipush (v := Int32.ofInt (97)) C dMo_wordOf_22 (by decide) ?_
      first | refine n_isub C dMo_wordOf_24 rfl (ofI (by decide)) (by omega) (fun z_24 e_24 => ?_) | refine a_isub C dMo_wordOf_24 (fun z_24 => ?_)
      refine g_iconst (v := Int32.ofInt (1)) C dMo_wordOf_25 (by decide) ?_
      first | refine n_iadd C dMo_wordOf_26 rfl (ofI (by decide)) (by omega) (fun z_26 e_26 => ?_) | refine a_iadd C dMo_wordOf_26 (fun z_26 => ?_)
      refine gt_i2l C dMo_wordOf_27 (fun z_27 e_27 => ?_)
      refine a_ladd C dMo_wordOf_28 (fun z_28 => ?_)
      refine g_lstore_n (i := 1) C dMo_wordOf_29 rfl (by decide) ?_
      first | refine n_iinc C dMo_wordOf_30 rfl rfl (by decide) (by decide) (by omega) (fun z_30 e_30 => ?_) | refine a_iinc C dMo_wordOf_30 rfl (by decide) (fun z_30 => ?_)
      refine g_goto 4 C dMo_wordOf_33 (by decide) ?_
      exact g_sub (ih_4 _ (by omega) z_28 z_30  rfl (by omega) ) ⟨rfl, rfl, rfl, trivial⟩
  exact g_sub (lp_4 _ (0 : Int64) (Int32.ofInt (0))  rfl (by have hci : Int32.toInt (Int32.ofInt (0)) = 0 := ofI (by decide); omega) ) ⟨rfl, rfl, rfl, trivial⟩
set_option maxHeartbeats 4000000 in
set_option maxRecDepth 100000 in
theorem cMo_isWord {P : List Nat} {K : Nat → Nat} {I0 : Nat → Nat → Int32} {O : Nat → Nat → Option Nat} {J0 : Nat → Nat → Int64} (hV : IV P K I0 O) {a0 : Nat} (h0 : a0 ∈ P ∧ K a0 = 10) {i1 : Nat} (h1 : i1 < 31) : ConA yMo_isWord bMo_isWord 2 (some .boolean) ({ frames := 5, cells := 0, slots := 0, locals := 108 } : Room) P K I0 O J0 (fun ad => [.ref a0, .ref (ad.1 i1)]) (SPo frP 2 (tt) P K I0 O J0) := by
  refine ConA.ofG mfMo_isWord (fun _ => Nat.le_of_ble_eq_true rfl) ?_
  intro X C E
  have hV0 : SV frP P K O I0 J0 I0 J0 := SV.rf hV
  refine g_aload_n C dMo_isWord_0 rfl ?_
  refine g_geti C dMo_isWord_1 fl_Mo_94 h0 ?_
  refine g_iconst (v := Int32.ofInt (2)) C dMo_isWord_4 (by decide) ?_
  refine gt_icmp_ne 24 C dMo_isWord_5 (by decide) rfl (ofI (by decide)) (fun c_5 => ?_) (fun c_5 => ?_)
  · skip
    refine g_iconst (v := Int32.ofInt (0)) C dMo_isWord_24 (by decide) ?_
    exact s_zret C E dMo_isWord_25 ⟨Nat.zero_le _, Nat.zero_le _⟩ hV0 (Or.inl (ofI (by decide))) trivial
  · skip
    refine g_aload_n C dMo_isWord_8 rfl ?_
    refine g_getl C dMo_isWord_9 fl_Mo_114 h0 ?_
    refine g_aload_n C dMo_isWord_12 rfl ?_
    refine s_callS_lp (av := fun ad => [.ref (ad.1 i1)]) C dMo_isWord_13 mfMo_wordOf msMo_wordOf ln_Mo_134 (cMo_wordOf hV0.1 h1) rfl rfl (Nat.le_of_ble_eq_true rfl) ⟨Nat.le_of_ble_eq_true rfl, Nat.le_of_ble_eq_true rfl⟩ ⟨rfl, rfl⟩ ⟨Nat.zero_le _, Nat.zero_le _⟩ (fun z_13 p_13 => ?_)
    refine a_lcmp C dMo_isWord_16 (fun z_16 => ?_)
    refine gt_if_ne 24 C dMo_isWord_17 (by decide) rfl (fun c_17 => ?_) (fun c_17 => ?_)
    · skip
      refine g_iconst (v := Int32.ofInt (0)) C dMo_isWord_24 (by decide) ?_
      exact s_zret C E dMo_isWord_25 ⟨Nat.zero_le _, Nat.zero_le _⟩ hV0 (Or.inl (ofI (by decide))) trivial
    · skip
      refine g_iconst (v := Int32.ofInt (1)) C dMo_isWord_20 (by decide) ?_
      refine g_goto 25 C dMo_isWord_21 (by decide) ?_
      exact s_zret C E dMo_isWord_25 ⟨Nat.zero_le _, Nat.zero_le _⟩ hV0 (Or.inr (ofI (by decide))) trivial
set_option maxHeartbeats 4000000 in
set_option maxRecDepth 100000 in
theorem cMo_is {P : List Nat} {K : Nat → Nat} {I0 : Nat → Nat → Int32} {O : Nat → Nat → Option Nat} {J0 : Nat → Nat → Int64} (hV : IV P K I0 O) {a0 : Nat} (h0 : a0 ∈ P ∧ K a0 = 10) {x1 : Int32} (pr0 : 0 ≤ Int32.toInt (I0 a0 9)) : Con yMo_is bMo_is 2 (some .boolean) ({ frames := 0, cells := 0, slots := 0, locals := 0 } : Room) P K I0 O J0 [.ref a0, .int x1] (SPo frP 2 (fun z _ => (Int32.toInt z = 0 ∨ Int32.toInt (I0 a0 9) = 4)) P K I0 O J0) := by
  refine Con.ofG mfMo_is (Nat.le_of_ble_eq_true rfl) ?_
  intro X C E
  have r1 := rg x1
  have hV0 : SV frP P K O I0 J0 I0 J0 := SV.rf hV
  refine g_aload_n C dMo_is_0 rfl ?_
  refine g_geti C dMo_is_1 fl_Mo_94 h0 ?_
  refine g_iconst (v := Int32.ofInt (4)) C dMo_is_4 (by decide) ?_
  refine gt_icmp_ne 20 C dMo_is_5 (by decide) rfl (ofI (by decide)) (fun c_5 => ?_) (fun c_5 => ?_)
  · skip
    refine g_iconst (v := Int32.ofInt (0)) C dMo_is_20 (by decide) ?_
    exact s_zret C E dMo_is_21 ⟨Nat.zero_le _, Nat.zero_le _⟩ hV0 (Or.inl (ofI (by decide))) (by have hci : Int32.toInt (Int32.ofInt (0)) = 0 := ofI (by decide); (try dsimp only); omega)
  · skip
    refine g_aload_n C dMo_is_8 rfl ?_
    refine g_geti C dMo_is_9 fl_Mo_107 h0 ?_
    refine g_iload_n C dMo_is_12 rfl ?_
    refine gt_icmp_ne 20 C dMo_is_13 (by decide) rfl rfl (fun c_13 => ?_) (fun c_13 => ?_)
    · skip
      refine g_iconst (v := Int32.ofInt (0)) C dMo_is_20 (by decide) ?_
      exact s_zret C E dMo_is_21 ⟨Nat.zero_le _, Nat.zero_le _⟩ hV0 (Or.inl (ofI (by decide))) (by have hci : Int32.toInt (Int32.ofInt (0)) = 0 := ofI (by decide); (try dsimp only); omega)
    · skip
      refine g_iconst (v := Int32.ofInt (1)) C dMo_is_16 (by decide) ?_
      refine g_goto 21 C dMo_is_17 (by decide) ?_
      exact s_zret C E dMo_is_21 ⟨Nat.zero_le _, Nat.zero_le _⟩ hV0 (Or.inr (ofI (by decide))) (by have hci : Int32.toInt (Int32.ofInt (1)) = 1 := ofI (by decide); (try dsimp only); omega)
set_option maxHeartbeats 4000000 in
set_option maxRecDepth 100000 in
theorem cMo_isName {P : List Nat} {K : Nat → Nat} {I0 : Nat → Nat → Int32} {O : Nat → Nat → Option Nat} {J0 : Nat → Nat → Int64} (hV : IV P K I0 O) {a0 : Nat} (h0 : a0 ∈ P ∧ K a0 = 10) : Con yMo_isName bMo_isName 1 (some .boolean) ({ frames := 6, cells := 0, slots := 0, locals := 129 } : Room) P K I0 O J0 [.ref a0] (SPo frP 2 (tt) P K I0 O J0) := by
  refine Con.ofG mfMo_isName (Nat.le_of_ble_eq_true rfl) ?_
  intro X C E
  have hV0 : SV frP P K O I0 J0 I0 J0 := SV.rf hV
  refine g_aload_n C dMo_isName_0 rfl ?_
  refine g_geti C dMo_isName_1 fl_Mo_94 h0 ?_
  refine g_iconst (v := Int32.ofInt (2)) C dMo_isName_4 (by decide) ?_
  refine gt_icmp_ne 75 C dMo_isName_5 (by decide) rfl (ofI (by decide)) (fun c_5 => ?_) (fun c_5 => ?_)
  · skip
    refine g_iconst (v := Int32.ofInt (0)) C dMo_isName_75 (by decide) ?_
    exact s_zret C E dMo_isName_76 ⟨Nat.zero_le _, Nat.zero_le _⟩ hV0 (Or.inl (ofI (by decide))) trivial
  · skip
    refine g_aload_n C dMo_isName_8 rfl ?_
    refine g_ldcS 16 C dMo_isName_9 rfl ?_
    refine s_callV_zp (av := fun ad => [.ref (ad.1 16)]) C dMo_isName_11 mfMo_isWord mvMo_isWord ln_Mo_138 h0 (by decide) rfl (cMo_isWord hV0.1 h0 (by decide)) rfl rfl (Nat.le_of_ble_eq_true rfl) ⟨Nat.le_of_ble_eq_true rfl, Nat.le_of_ble_eq_true rfl⟩ ⟨rfl, rfl⟩ ⟨Nat.zero_le _, Nat.zero_le _⟩ (fun z_11 b_11 p_11 => ?_)
    have rz_11 := rg z_11
    have u_11 := b_11
    unfold B01 at u_11
    refine gt_if_ne 75 C dMo_isName_14 (by decide) rfl (fun c_14 => ?_) (fun c_14 => ?_)
    · skip
      refine g_iconst (v := Int32.ofInt (0)) C dMo_isName_75 (by decide) ?_
      exact s_zret C E dMo_isName_76 ⟨Nat.zero_le _, Nat.zero_le _⟩ hV0 (Or.inl (ofI (by decide))) trivial
    · skip
      refine g_aload_n C dMo_isName_17 rfl ?_
      refine g_ldcS 19 C dMo_isName_18 rfl ?_
      refine s_callV_zp (av := fun ad => [.ref (ad.1 19)]) C dMo_isName_20 mfMo_isWord mvMo_isWord ln_Mo_138 h0 (by decide) rfl (cMo_isWord hV0.1 h0 (by decide)) rfl rfl (Nat.le_of_ble_eq_true rfl) ⟨Nat.le_of_ble_eq_true rfl, Nat.le_of_ble_eq_true rfl⟩ ⟨rfl, rfl⟩ ⟨Nat.zero_le _, Nat.zero_le _⟩ (fun z_20 b_20 p_20 => ?_)
      have rz_20 := rg z_20
      have u_20 := b_20
      unfold B01 at u_20
      refine gt_if_ne 75 C dMo_isName_23 (by decide) rfl (fun c_23 => ?_) (fun c_23 => ?_)
      · skip
        refine g_iconst (v := Int32.ofInt (0)) C dMo_isName_75 (by decide) ?_
        exact s_zret C E dMo_isName_76 ⟨Nat.zero_le _, Nat.zero_le _⟩ hV0 (Or.inl (ofI (by decide))) trivial
      · skip
        refine g_aload_n C dMo_isName_26 rfl ?_
        refine g_ldcS 20 C dMo_isName_27 rfl ?_
        refine s_callV_zp (av := fun ad => [.ref (ad.1 20)]) C dMo_isName_29 mfMo_isWord mvMo_isWord ln_Mo_138 h0 (by decide) rfl (cMo_isWord hV0.1 h0 (by decide)) rfl rfl (Nat.le_of_ble_eq_true rfl) ⟨Nat.le_of_ble_eq_true rfl, Nat.le_of_ble_eq_true rfl⟩ ⟨rfl, rfl⟩ ⟨Nat.zero_le _, Nat.zero_le _⟩ (fun z_29 b_29 p_29 => ?_)
        have rz_29 := rg z_29
        have u_29 := b_29
        unfold B01 at u_29
        refine gt_if_ne 75 C dMo_isName_32 (by decide) rfl (fun c_32 => ?_) (fun c_32 => ?_)
        · skip
          refine g_iconst (v := Int32.ofInt (0)) C dMo_isName_75 (by decide) ?_
          exact s_zret C E dMo_isName_76 ⟨Nat.zero_le _, Nat.zero_le _⟩ hV0 (Or.inl (ofI (by decide))) trivial
        · skip
          refine g_aload_n C dMo_isName_35 rfl ?_
          refine g_ldcS 21 C dMo_isName_36 rfl ?_
          refine s_callV_zp (av := fun ad => [.ref (ad.1 21)]) C dMo_isName_38 mfMo_isWord mvMo_isWord ln_Mo_138 h0 (by decide) rfl (cMo_isWord hV0.1 h0 (by decide)) rfl rfl (Nat.le_of_ble_eq_true rfl) ⟨Nat.le_of_ble_eq_true rfl, Nat.le_of_ble_eq_true rfl⟩ ⟨rfl, rfl⟩ ⟨Nat.zero_le _, Nat.zero_le _⟩ (fun z_38 b_38 p_38 => ?_)
          have rz_38 := rg z_38
          have u_38 := b_38
          unfold B01 at u_38
          refine gt_if_ne 75 C dMo_isName_41 (by decide) rfl (fun c_41 => ?_) (fun c_41 => ?_)
          · skip
            refine g_iconst (v := Int32.ofInt (0)) C dMo_isName_75 (by decide) ?_
            exact s_zret C E dMo_isName_76 ⟨Nat.zero_le _, Nat.zero_le _⟩ hV0 (Or.inl (ofI (by decide))) trivial
          · skip
            refine g_aload_n C dMo_isName_44 rfl ?_
            refine g_ldcS 22 C dMo_isName_45 rfl ?_
            refine s_callV_zp (av := fun ad => [.ref (ad.1 22)]) C dMo_isName_47 mfMo_isWord mvMo_isWord ln_Mo_138 h0 (by decide) rfl (cMo_isWord hV0.1 h0 (by decide)) rfl rfl (Nat.le_of_ble_eq_true rfl) ⟨Nat.le_of_ble_eq_true rfl, Nat.le_of_ble_eq_true rfl⟩ ⟨rfl, rfl⟩ ⟨Nat.zero_le _, Nat.zero_le _⟩ (fun z_47 b_47 p_47 => ?_)
            have rz_47 := rg z_47
            have u_47 := b_47
            unfold B01 at u_47
            refine gt_if_ne 75 C dMo_isName_50 (by decide) rfl (fun c_50 => ?_) (fun c_50 => ?_)
            · skip
              refine g_iconst (v := Int32.ofInt (0)) C dMo_isName_75 (by decide) ?_
              exact s_zret C E dMo_isName_76 ⟨Nat.zero_le _, Nat.zero_le _⟩ hV0 (Or.inl (ofI (by decide))) trivial
            · skip
              refine g_aload_n C dMo_isName_53 rfl ?_
              refine g_ldcS 23 C dMo_isName_54 rfl ?_
              refine s_callV_zp (av := fun ad => [.ref (ad.1 23)]) C dMo_isName_56 mfMo_isWord mvMo_isWord ln_Mo_138 h0 (by decide) rfl (cMo_isWord hV0.1 h0 (by decide)) rfl rfl (Nat.le_of_ble_eq_true rfl) ⟨Nat.le_of_ble_eq_true rfl, Nat.le_of_ble_eq_true rfl⟩ ⟨rfl, rfl⟩ ⟨Nat.zero_le _, Nat.zero_le _⟩ (fun z_56 b_56 p_56 => ?_)
              have rz_56 := rg z_56
              have u_56 := b_56
              unfold B01 at u_56
              refine gt_if_ne 75 C dMo_isName_59 (by decide) rfl (fun c_59 => ?_) (fun c_59 => ?_)
              · skip
                refine g_iconst (v := Int32.ofInt (0)) C dMo_isName_75 (by decide) ?_
                exact s_zret C E dMo_isName_76 ⟨Nat.zero_le _, Nat.zero_le _⟩ hV0 (Or.inl (ofI (by decide))) trivial
              · skip
                refine g_aload_n C dMo_isName_62 rfl ?_
                refine g_ldcS 24 C dMo_isName_63 rfl ?_
                refine s_callV_zp (av := fun ad => [.ref (ad.1 24)]) C dMo_isName_65 mfMo_isWord mvMo_isWord ln_Mo_138 h0 (by decide) rfl (cMo_isWord hV0.1 h0 (by decide)) rfl rfl (Nat.le_of_ble_eq_true rfl) ⟨Nat.le_of_ble_eq_true rfl, Nat.le_of_ble_eq_true rfl⟩ ⟨rfl, rfl⟩ ⟨Nat.zero_le _, Nat.zero_le _⟩ (fun z_65 b_65 p_65 => ?_)
                have rz_65 := rg z_65
                have u_65 := b_65
                unfold B01 at u_65
                refine gt_if_ne 75 C dMo_isName_68 (by decide) rfl (fun c_68 => ?_) (fun c_68 => ?_)
                · skip
                  refine g_iconst (v := Int32.ofInt (0)) C dMo_isName_75 (by decide) ?_
                  exact s_zret C E dMo_isName_76 ⟨Nat.zero_le _, Nat.zero_le _⟩ hV0 (Or.inl (ofI (by decide))) trivial
                · skip
                  refine g_iconst (v := Int32.ofInt (1)) C dMo_isName_71 (by decide) ?_
                  refine g_goto 76 C dMo_isName_72 (by decide) ?_
                  exact s_zret C E dMo_isName_76 ⟨Nat.zero_le _, Nat.zero_le _⟩ hV0 (Or.inr (ofI (by decide))) trivial
set_option maxHeartbeats 4000000 in
set_option maxRecDepth 100000 in
theorem cMo_next_O {P : List Nat} {K : Nat → Nat} {I0 : Nat → Nat → Int32} {O : Nat → Nat → Option Nat} {J0 : Nat → Nat → Int64} (hV : IV P K I0 O) {a0 : Nat} (h0 : a0 ∈ P ∧ K a0 = 10) (pr0 : Int32.toInt (I0 a0 9) = 5 ∧ 1 ≤ Int32.toInt (I0 a0 13)) : Con yMo_next bMo_next 3 none ({ frames := 0, cells := 0, slots := 0, locals := 0 } : Room) P K I0 O J0 [.ref a0] (SPo frX10 0 (fun _ I_ => (I_ a0 6).toInt = (I0 a0 6).toInt ∧ (I_ a0 7).toInt = (I0 a0 7).toInt ∧ (I_ a0 18).toInt = (I0 a0 18).toInt ∧ (I_ a0 8).toInt = (I0 a0 8).toInt ∧ (I_ a0 9).toInt = (I0 a0 9).toInt ∧ (I_ a0 13).toInt = (I0 a0 13).toInt) P K I0 O J0) := by
  refine Con.ofG mfMo_next (Nat.le_of_ble_eq_true rfl) ?_
  intro X C E
  have ok_a0_7 := hV.2 a0 h0.1 7
  rw [h0.2] at ok_a0_7
  have ok_a0_7 : 0 ≤ (I0 a0 7).toInt ∧ (I0 a0 7).toInt ≤ 700 := ok_a0_7
  have ok_a0_8 := hV.2 a0 h0.1 8
  rw [h0.2] at ok_a0_8
  have ok_a0_8 : 0 ≤ (I0 a0 8).toInt ∧ (I0 a0 8).toInt ≤ 700 := ok_a0_8
  have hV0 : SV frX10 P K O I0 J0 I0 J0 := SV.rf hV
  refine g_aload_n C dMo_next_0 rfl ?_
  refine g_geti C dMo_next_1 fl_Mo_94 h0 ?_
  refine g_iconst (v := Int32.ofInt (5)) C dMo_next_4 (by decide) ?_
  refine gt_icmp_ne 9 C dMo_next_5 (by decide) rfl (ofI (by decide)) (fun c_5 => ?_) (fun c_5 => ?_)
  · skip
    exfalso; omega
  · skip
    exact s_vret C E dMo_next_8 ⟨Nat.zero_le _, Nat.zero_le _⟩ hV0 (by (try dsimp only); omega)
set_option maxHeartbeats 4000000 in
set_option maxRecDepth 100000 in
theorem cMo_next_N {P : List Nat} {K : Nat → Nat} {I0 : Nat → Nat → Int32} {O : Nat → Nat → Option Nat} {J0 : Nat → Nat → Int64} (hV : IV P K I0 O) {a0 : Nat} (h0 : a0 ∈ P ∧ K a0 = 10) (pr0 : 0 ≤ Int32.toInt (I0 a0 9) ∧ Int32.toInt (I0 a0 9) ≤ 4 ∧ Int32.toInt (I0 a0 13) = 0) : Con yMo_next bMo_next 3 none ({ frames := 1, cells := 0, slots := 0, locals := 21 } : Room) P K I0 O J0 [.ref a0] (SPo frX10 0 (fun _ I_ => 0 ≤ Int32.toInt (I_ a0 9) ∧ Int32.toInt (I_ a0 9) ≤ 4 ∧ Int32.toInt (I_ a0 13) = 0 ∧ Int32.toInt (I0 a0 8) ≤ Int32.toInt (I_ a0 8) ∧ Int32.toInt (I0 a0 8) + Int32.toInt (I_ a0 9) ≤ Int32.toInt (I_ a0 8) + 3 ∧ (I_ a0 6).toInt = (I0 a0 6).toInt ∧ (I_ a0 7).toInt = (I0 a0 7).toInt ∧ (I_ a0 18).toInt = (I0 a0 18).toInt) P K I0 O J0) := by
  refine Con.ofG mfMo_next (Nat.le_of_ble_eq_true rfl) ?_
  intro X C E
  have ok_a0_7 := hV.2 a0 h0.1 7
  rw [h0.2] at ok_a0_7
  have ok_a0_7 : 0 ≤ (I0 a0 7).toInt ∧ (I0 a0 7).toInt ≤ 700 := ok_a0_7
  have ok_a0_8 := hV.2 a0 h0.1 8
  rw [h0.2] at ok_a0_8
  have ok_a0_8 : 0 ≤ (I0 a0 8).toInt ∧ (I0 a0 8).toInt ≤ 700 := ok_a0_8
  have hV0 : SV frX10 P K O I0 J0 I0 J0 := SV.rf hV
  refine g_aload_n C dMo_next_0 rfl ?_
  refine g_geti C dMo_next_1 fl_Mo_94 h0 ?_
  refine g_iconst (v := Int32.ofInt (5)) C dMo_next_4 (by decide) ?_
  refine gt_icmp_ne 9 C dMo_next_5 (by decide) rfl (ofI (by decide)) (fun c_5 => ?_) (fun c_5 => ?_)
  · skip
    have lp_9 : ∀ (nn_9 : Nat)  (Iw1 : Nat → Nat → Int32) (Jw1 : Nat → Nat → Int64), Int.toNat (Int32.toInt (Iw1 a0 7) - Int32.toInt (Iw1 a0 8)) = nn_9 → (Int32.toInt (I0 a0 8) ≤ Int32.toInt (Iw1 a0 8)) → (Int32.toInt (Iw1 a0 9) = Int32.toInt (I0 a0 9)) → (Int32.toInt (Iw1 a0 13) = 0) → (Int32.toInt (Iw1 a0 6) = Int32.toInt (I0 a0 6)) → (Int32.toInt (Iw1 a0 7) = Int32.toInt (I0 a0 7)) → (Int32.toInt (Iw1 a0 18) = Int32.toInt (I0 a0 18)) → SV frX10 P K O I0 J0 Iw1 Jw1 → GG X 3 P K Iw1 O Jw1 0 0 9 [(0, .ref a0)] [] := by
      intro nn_9
      induction nn_9 using Nat.strongRecOn with
      | ind nn_9 ih_9 =>
      intro  Iw1 Jw1 hn_9 iv0_9 iv1_9 iv2_9 iv3_9 iv4_9 iv5_9 hVw1
      refine g_aload_n C dMo_next_9 rfl ?_
      refine g_aload_n C dMo_next_10 rfl ?_
      refine g_geti C dMo_next_11 fl_Mo_97 h0 ?_
      have o_11 := hVw1.1.2 a0 h0.1 8
      rw [h0.2] at o_11
      have o_11 : 0 ≤ (Iw1 a0 8).toInt ∧ (Iw1 a0 8).toInt ≤ 700 := o_11
      refine s_callV_ip (av := fun ad => [.int (Iw1 a0 8)]) C dMo_next_14 mfMo_byteAt mvMo_byteAt ln_Mo_100 h0 (by decide) rfl (cMo_byteAt hVw1.1 h0 (by omega)) rfl rfl (Nat.le_of_ble_eq_true rfl) ⟨Nat.le_of_ble_eq_true rfl, Nat.le_of_ble_eq_true rfl⟩ ⟨rfl, rfl⟩ ⟨Nat.zero_le _, Nat.zero_le _⟩ (fun z_14 p_14 => ?_)
      have rz_14 := rg z_14
      try dsimp only at p_14
      refine g_bipush (v := Int32.ofInt (32)) C dMo_next_17 (by decide) ?_
      refine gt_icmp_ne 35 C dMo_next_19 (by decide) rfl (ofI (by decide)) (fun c_19 => ?_) (fun c_19 => ?_)
      · skip
        refine g_aload_n C dMo_next_35 rfl ?_
        refine g_aload_n C dMo_next_36 rfl ?_
        refine g_geti C dMo_next_37 fl_Mo_97 h0 ?_
        have o_37 := hVw1.1.2 a0 h0.1 8
        rw [h0.2] at o_37
        have o_37 : 0 ≤ (Iw1 a0 8).toInt ∧ (Iw1 a0 8).toInt ≤ 700 := o_37
        refine gt_puti C dMo_next_40 fl_Mo_104 h0 hVw1 rfl trivial rfl (Or.inl rfl) (fun Iw3 eIw3 hVw3 => ?_)
        have tkw3_a0_8 : (Iw3 a0 8).toInt = (Iw1 a0 8).toInt := by rw [eIw3, up2_ne _ _ (fun z => absurd z.2 (by decide))]
        have tkw3_a0_9 : (Iw3 a0 9).toInt = (Iw1 a0 9).toInt := by rw [eIw3, up2_ne _ _ (fun z => absurd z.2 (by decide))]
        have tkw3_a0_13 : (Iw3 a0 13).toInt = (Iw1 a0 13).toInt := by rw [eIw3, up2_ne _ _ (fun z => absurd z.2 (by decide))]
        have tkw3_a0_6 : (Iw3 a0 6).toInt = (Iw1 a0 6).toInt := by rw [eIw3, up2_ne _ _ (fun z => absurd z.2 (by decide))]
        have tkw3_a0_7 : (Iw3 a0 7).toInt = (Iw1 a0 7).toInt := by rw [eIw3, up2_ne _ _ (fun z => absurd z.2 (by decide))]
        have tkw3_a0_18 : (Iw3 a0 18).toInt = (Iw1 a0 18).toInt := by rw [eIw3, up2_ne _ _ (fun z => absurd z.2 (by decide))]
        refine g_aload_n C dMo_next_43 rfl ?_
        refine g_iconst (v := Int32.ofInt (0)) C dMo_next_44 (by decide) ?_
        refine gt_puti C dMo_next_45 fl_Mo_94 h0 hVw3 rfl trivial rfl (Or.inl rfl) (fun Iw4 eIw4 hVw4 => ?_)
        have tkw4_a0_8 : (Iw4 a0 8).toInt = (Iw3 a0 8).toInt := by rw [eIw4, up2_ne _ _ (fun z => absurd z.2 (by decide))]
        have tkw4_a0_9 : (Iw4 a0 9).toInt = 0 := by rw [eIw4, up2_self]; exact ofI (by decide)
        have tkw4_a0_13 : (Iw4 a0 13).toInt = (Iw3 a0 13).toInt := by rw [eIw4, up2_ne _ _ (fun z => absurd z.2 (by decide))]
        have tkw4_a0_6 : (Iw4 a0 6).toInt = (Iw3 a0 6).toInt := by rw [eIw4, up2_ne _ _ (fun z => absurd z.2 (by decide))]
        have tkw4_a0_7 : (Iw4 a0 7).toInt = (Iw3 a0 7).toInt := by rw [eIw4, up2_ne _ _ (fun z => absurd z.2 (by decide))]
        have tkw4_a0_18 : (Iw4 a0 18).toInt = (Iw3 a0 18).toInt := by rw [eIw4, up2_ne _ _ (fun z => absurd z.2 (by decide))]
        refine g_aload_n C dMo_next_48 rfl ?_
        refine g_iconst (v := Int32.ofInt (0)) C dMo_next_49 (by decide) ?_
        refine gt_puti C dMo_next_50 fl_Mo_107 h0 hVw4 rfl trivial rfl (Or.inl rfl) (fun Iw5 eIw5 hVw5 => ?_)
        have tkw5_a0_8 : (Iw5 a0 8).toInt = (Iw4 a0 8).toInt := by rw [eIw5, up2_ne _ _ (fun z => absurd z.2 (by decide))]
        have tkw5_a0_9 : (Iw5 a0 9).toInt = (Iw4 a0 9).toInt := by rw [eIw5, up2_ne _ _ (fun z => absurd z.2 (by decide))]
        have tkw5_a0_13 : (Iw5 a0 13).toInt = (Iw4 a0 13).toInt := by rw [eIw5, up2_ne _ _ (fun z => absurd z.2 (by decide))]
        have tkw5_a0_6 : (Iw5 a0 6).toInt = (Iw4 a0 6).toInt := by rw [eIw5, up2_ne _ _ (fun z => absurd z.2 (by decide))]
        have tkw5_a0_7 : (Iw5 a0 7).toInt = (Iw4 a0 7).toInt := by rw [eIw5, up2_ne _ _ (fun z => absurd z.2 (by decide))]
        have tkw5_a0_18 : (Iw5 a0 18).toInt = (Iw4 a0 18).toInt := by rw [eIw5, up2_ne _ _ (fun z => absurd z.2 (by decide))]
        refine g_aload_n C dMo_next_53 rfl ?_
        refine g_aload_n C dMo_next_54 rfl ?_
        refine g_geti C dMo_next_55 fl_Mo_97 h0 ?_
        have o_55 := hVw5.1.2 a0 h0.1 8
        rw [h0.2] at o_55
        have o_55 : 0 ≤ (Iw5 a0 8).toInt ∧ (Iw5 a0 8).toInt ≤ 700 := o_55
        refine s_callV_ip (av := fun ad => [.int (Iw5 a0 8)]) C dMo_next_58 mfMo_byteAt mvMo_byteAt ln_Mo_100 h0 (by decide) rfl (cMo_byteAt hVw5.1 h0 (by omega)) rfl rfl (Nat.le_of_ble_eq_true rfl) ⟨Nat.le_of_ble_eq_true rfl, Nat.le_of_ble_eq_true rfl⟩ ⟨rfl, rfl⟩ ⟨Nat.zero_le _, Nat.zero_le _⟩ (fun z_58 p_58 => ?_)
        have rz_58 := rg z_58
        try dsimp only at p_58
        refine g_istore_n (i := 1) C dMo_next_61 rfl (by decide) ?_
        refine g_iconst (v := Int32.ofInt (0)) C dMo_next_62 (by decide) ?_
        refine g_istore_n (i := 2) C dMo_next_63 rfl (by decide) ?_
        refine g_iload_n C dMo_next_64 rfl ?_
        refine g_iconst (v := Int32.ofInt (-1)) C dMo_next_65 (by decide) ?_
        refine gt_icmp_ne 77 C dMo_next_66 (by decide) rfl (ofI (by decide)) (fun c_66 => ?_) (fun c_66 => ?_)
        · skip
          refine g_iload_n C dMo_next_77 rfl ?_
          refine s_callS_zp (av := fun ad => [.int z_58]) C dMo_next_78 mfMo_isLetter msMo_isLetter ln_Mo_110 (cMo_isLetter hVw5.1 ) rfl rfl (Nat.le_of_ble_eq_true rfl) ⟨Nat.le_of_ble_eq_true rfl, Nat.le_of_ble_eq_true rfl⟩ ⟨rfl, rfl⟩ ⟨Nat.zero_le _, Nat.zero_le _⟩ (fun z_78 b_78 p_78 => ?_)
          have rz_78 := rg z_78
          have u_78 := b_78
          unfold B01 at u_78
          try dsimp only at p_78
          refine gt_if_eq 166 C dMo_next_81 (by decide) rfl (fun c_81 => ?_) (fun c_81 => ?_)
          · skip
            refine g_iload_n C dMo_next_166 rfl ?_
            refine s_callS_zp (av := fun ad => [.int z_58]) C dMo_next_167 mfMo_isDigit msMo_isDigit ln_Mo_118 (cMo_isDigit hVw5.1 ) rfl rfl (Nat.le_of_ble_eq_true rfl) ⟨Nat.le_of_ble_eq_true rfl, Nat.le_of_ble_eq_true rfl⟩ ⟨rfl, rfl⟩ ⟨Nat.zero_le _, Nat.zero_le _⟩ (fun z_167 b_167 p_167 => ?_)
            have rz_167 := rg z_167
            have u_167 := b_167
            unfold B01 at u_167
            try dsimp only at p_167
            refine gt_if_eq 249 C dMo_next_170 (by decide) rfl (fun c_170 => ?_) (fun c_170 => ?_)
            · skip
              refine g_iload_n C dMo_next_249 rfl ?_
              refine g_bipush (v := Int32.ofInt (59)) C dMo_next_250 (by decide) ?_
              have jn_261 : ∀   (Iw9 : Nat → Nat → Int32) (Jw9 : Nat → Nat → Int64), (Int32.toInt (I0 a0 8) ≤ Int32.toInt (Iw9 a0 8)) → (Int32.toInt (Iw9 a0 9) = 0) → (Int32.toInt (Iw9 a0 13) = 0) → (Int32.toInt (Iw9 a0 8) < Int32.toInt (Iw9 a0 7)) → (Int32.toInt (Iw9 a0 6) = Int32.toInt (I0 a0 6)) → (Int32.toInt (Iw9 a0 7) = Int32.toInt (I0 a0 7)) → (Int32.toInt (Iw9 a0 18) = Int32.toInt (I0 a0 18)) → SV frX10 P K O I0 J0 Iw9 Jw9 → GG X 3 P K Iw9 O Jw9 0 0 261 [(0, .ref a0), (1, .int z_58), (2, .int (Int32.ofInt (0)))] [] := by
                intro Iw9 Jw9 jv0_261 jv1_261 jv2_261 jv3_261 jv4_261 jv5_261 jv6_261 hVw9
                refine g_aload_n C dMo_next_261 rfl ?_
                refine g_iconst (v := Int32.ofInt (4)) C dMo_next_262 (by decide) ?_
                refine gt_puti C dMo_next_263 fl_Mo_94 h0 hVw9 rfl trivial rfl (Or.inl rfl) (fun Iw10 eIw10 hVw10 => ?_)
                have tkw10_a0_8 : (Iw10 a0 8).toInt = (Iw9 a0 8).toInt := by rw [eIw10, up2_ne _ _ (fun z => absurd z.2 (by decide))]
                have tkw10_a0_9 : (Iw10 a0 9).toInt = 4 := by rw [eIw10, up2_self]; exact ofI (by decide)
                have tkw10_a0_13 : (Iw10 a0 13).toInt = (Iw9 a0 13).toInt := by rw [eIw10, up2_ne _ _ (fun z => absurd z.2 (by decide))]
                have tkw10_a0_6 : (Iw10 a0 6).toInt = (Iw9 a0 6).toInt := by rw [eIw10, up2_ne _ _ (fun z => absurd z.2 (by decide))]
                have tkw10_a0_7 : (Iw10 a0 7).toInt = (Iw9 a0 7).toInt := by rw [eIw10, up2_ne _ _ (fun z => absurd z.2 (by decide))]
                have tkw10_a0_18 : (Iw10 a0 18).toInt = (Iw9 a0 18).toInt := by rw [eIw10, up2_ne _ _ (fun z => absurd z.2 (by decide))]
                refine g_aload_n C dMo_next_266 rfl ?_
                refine g_iload_n C dMo_next_267 rfl ?_
                refine gt_puti C dMo_next_268 fl_Mo_107 h0 hVw10 rfl trivial rfl (Or.inl rfl) (fun Iw11 eIw11 hVw11 => ?_)
                have tkw11_a0_8 : (Iw11 a0 8).toInt = (Iw10 a0 8).toInt := by rw [eIw11, up2_ne _ _ (fun z => absurd z.2 (by decide))]
                have tkw11_a0_9 : (Iw11 a0 9).toInt = (Iw10 a0 9).toInt := by rw [eIw11, up2_ne _ _ (fun z => absurd z.2 (by decide))]
                have tkw11_a0_13 : (Iw11 a0 13).toInt = (Iw10 a0 13).toInt := by rw [eIw11, up2_ne _ _ (fun z => absurd z.2 (by decide))]
                have tkw11_a0_6 : (Iw11 a0 6).toInt = (Iw10 a0 6).toInt := by rw [eIw11, up2_ne _ _ (fun z => absurd z.2 (by decide))]
                have tkw11_a0_7 : (Iw11 a0 7).toInt = (Iw10 a0 7).toInt := by rw [eIw11, up2_ne _ _ (fun z => absurd z.2 (by decide))]
                have tkw11_a0_18 : (Iw11 a0 18).toInt = (Iw10 a0 18).toInt := by rw [eIw11, up2_ne _ _ (fun z => absurd z.2 (by decide))]
                refine g_aload_n C dMo_next_271 rfl ?_
                refine g_dup C dMo_next_272 rfl ?_
                refine g_geti C dMo_next_273 fl_Mo_97 h0 ?_
                have o_273 := hVw11.1.2 a0 h0.1 8
                rw [h0.2] at o_273
                have o_273 : 0 ≤ (Iw11 a0 8).toInt ∧ (Iw11 a0 8).toInt ≤ 700 := o_273
                refine g_iconst (v := Int32.ofInt (1)) C dMo_next_276 (by decide) ?_
                first | refine n_iadd C dMo_next_277 rfl (ofI (by decide)) (by omega) (fun z_277 e_277 => ?_) | refine a_iadd C dMo_next_277 (fun z_277 => ?_)
                refine gt_puti C dMo_next_278 fl_Mo_97 h0 hVw11 rfl (by show 0 ≤ Int32.toInt _ ∧ Int32.toInt _ ≤ 700; omega) rfl (Or.inl rfl) (fun Iw12 eIw12 hVw12 => ?_)
                have tkw12_a0_8 : (Iw12 a0 8).toInt = z_277.toInt := by rw [eIw12, up2_self]
                have tkw12_a0_9 : (Iw12 a0 9).toInt = (Iw11 a0 9).toInt := by rw [eIw12, up2_ne _ _ (fun z => absurd z.2 (by decide))]
                have tkw12_a0_13 : (Iw12 a0 13).toInt = (Iw11 a0 13).toInt := by rw [eIw12, up2_ne _ _ (fun z => absurd z.2 (by decide))]
                have tkw12_a0_6 : (Iw12 a0 6).toInt = (Iw11 a0 6).toInt := by rw [eIw12, up2_ne _ _ (fun z => absurd z.2 (by decide))]
                have tkw12_a0_7 : (Iw12 a0 7).toInt = (Iw11 a0 7).toInt := by rw [eIw12, up2_ne _ _ (fun z => absurd z.2 (by decide))]
                have tkw12_a0_18 : (Iw12 a0 18).toInt = (Iw11 a0 18).toInt := by rw [eIw12, up2_ne _ _ (fun z => absurd z.2 (by decide))]
                exact s_vret C E dMo_next_281 ⟨Nat.zero_le _, Nat.zero_le _⟩ hVw12 (by (try dsimp only); omega)
              refine gt_icmp_eq 261 C dMo_next_252 (by decide) rfl (ofI (by decide)) (fun c_252 => ?_) (fun c_252 => ?_)
              · skip
                exact g_sub (jn_261  Iw5 Jw1 (by omega) (by omega) (by omega) (by omega) (by omega) (by omega) (by omega) hVw5) ⟨rfl, rfl, rfl, trivial⟩
              · skip
                refine g_iload_n C dMo_next_255 rfl ?_
                refine g_bipush (v := Int32.ofInt (44)) C dMo_next_256 (by decide) ?_
                refine gt_icmp_ne 281 C dMo_next_258 (by decide) rfl (ofI (by decide)) (fun c_258 => ?_) (fun c_258 => ?_)
                · skip
                  exact s_vret C E dMo_next_281 ⟨Nat.zero_le _, Nat.zero_le _⟩ hVw5 (by (try dsimp only); omega)
                · skip
                  exact g_sub (jn_261  Iw5 Jw1 (by omega) (by omega) (by omega) (by omega) (by omega) (by omega) (by omega) hVw5) ⟨rfl, rfl, rfl, trivial⟩
            · skip
              refine g_aload_n C dMo_next_173 rfl ?_
              refine g_iconst (v := Int32.ofInt (0)) C dMo_next_174 (by decide) ?_
              refine gt_puti C dMo_next_175 fl_Mo_121 h0 hVw5 rfl trivial rfl (Or.inl rfl) (fun Iw13 eIw13 hVw13 => ?_)
              have tkw13_a0_8 : (Iw13 a0 8).toInt = (Iw5 a0 8).toInt := by rw [eIw13, up2_ne _ _ (fun z => absurd z.2 (by decide))]
              have tkw13_a0_9 : (Iw13 a0 9).toInt = (Iw5 a0 9).toInt := by rw [eIw13, up2_ne _ _ (fun z => absurd z.2 (by decide))]
              have tkw13_a0_13 : (Iw13 a0 13).toInt = (Iw5 a0 13).toInt := by rw [eIw13, up2_ne _ _ (fun z => absurd z.2 (by decide))]
              have tkw13_a0_6 : (Iw13 a0 6).toInt = (Iw5 a0 6).toInt := by rw [eIw13, up2_ne _ _ (fun z => absurd z.2 (by decide))]
              have tkw13_a0_7 : (Iw13 a0 7).toInt = (Iw5 a0 7).toInt := by rw [eIw13, up2_ne _ _ (fun z => absurd z.2 (by decide))]
              have tkw13_a0_18 : (Iw13 a0 18).toInt = (Iw5 a0 18).toInt := by rw [eIw13, up2_ne _ _ (fun z => absurd z.2 (by decide))]
              have lp_178 : ∀ (nn_178 : Nat) (x2_178 : Int32) (Iw14 : Nat → Nat → Int32) (Jw14 : Nat → Nat → Int64), Int.toNat (Int32.toInt (Iw14 a0 7) - Int32.toInt (Iw14 a0 8)) = nn_178 → (Int32.toInt (I0 a0 8) ≤ Int32.toInt (Iw14 a0 8)) → (Int32.toInt (Iw14 a0 9) = 0) → (Int32.toInt (Iw14 a0 13) = 0) → (Int32.toInt (Iw14 a0 6) = Int32.toInt (I0 a0 6)) → (Int32.toInt (Iw14 a0 7) = Int32.toInt (I0 a0 7)) → (Int32.toInt (Iw14 a0 18) = Int32.toInt (I0 a0 18)) → SV frX10 P K O I0 J0 Iw14 Jw14 → GG X 3 P K Iw14 O Jw14 0 0 178 [(0, .ref a0), (1, .int z_58), (2, .int x2_178)] [] := by
                intro nn_178
                induction nn_178 using Nat.strongRecOn with
                | ind nn_178 ih_178 =>
                intro x2_178 Iw14 Jw14 hn_178 iv0_178 iv1_178 iv2_178 iv3_178 iv4_178 iv5_178 hVw14
                have rg2_178 := rg x2_178
                refine g_aload_n C dMo_next_178 rfl ?_
                refine g_aload_n C dMo_next_179 rfl ?_
                refine g_geti C dMo_next_180 fl_Mo_97 h0 ?_
                have o_180 := hVw14.1.2 a0 h0.1 8
                rw [h0.2] at o_180
                have o_180 : 0 ≤ (Iw14 a0 8).toInt ∧ (Iw14 a0 8).toInt ≤ 700 := o_180
                refine s_callV_ip (av := fun ad => [.int (Iw14 a0 8)]) C dMo_next_183 mfMo_byteAt mvMo_byteAt ln_Mo_100 h0 (by decide) rfl (cMo_byteAt hVw14.1 h0 (by omega)) rfl rfl (Nat.le_of_ble_eq_true rfl) ⟨Nat.le_of_ble_eq_true rfl, Nat.le_of_ble_eq_true rfl⟩ ⟨rfl, rfl⟩ ⟨Nat.zero_le _, Nat.zero_le _⟩ (fun z_183 p_183 => ?_)
                have rz_183 := rg z_183
                try dsimp only at p_183
                refine s_callS_zp (av := fun ad => [.int z_183]) C dMo_next_186 mfMo_isDigit msMo_isDigit ln_Mo_118 (cMo_isDigit hVw14.1 ) rfl rfl (Nat.le_of_ble_eq_true rfl) ⟨Nat.le_of_ble_eq_true rfl, Nat.le_of_ble_eq_true rfl⟩ ⟨rfl, rfl⟩ ⟨Nat.zero_le _, Nat.zero_le _⟩ (fun z_186 b_186 p_186 => ?_)
                have rz_186 := rg z_186
                have u_186 := b_186
                unfold B01 at u_186
                try dsimp only at p_186
                refine gt_if_eq 236 C dMo_next_189 (by decide) rfl (fun c_189 => ?_) (fun c_189 => ?_)
                · skip
                  refine g_iload_n C dMo_next_236 rfl ?_
                  refine g_iconst (v := Int32.ofInt (3)) C dMo_next_237 (by decide) ?_
                  refine gt_icmp_gt 281 C dMo_next_238 (by decide) rfl (ofI (by decide)) (fun c_238 => ?_) (fun c_238 => ?_)
                  · skip
                    exact s_vret C E dMo_next_281 ⟨Nat.zero_le _, Nat.zero_le _⟩ hVw14 (by (try dsimp only); omega)
                  · skip
                    refine g_aload_n C dMo_next_241 rfl ?_
                    refine g_iconst (v := Int32.ofInt (3)) C dMo_next_242 (by decide) ?_
                    refine gt_puti C dMo_next_243 fl_Mo_94 h0 hVw14 rfl trivial rfl (Or.inl rfl) (fun Iw17 eIw17 hVw17 => ?_)
                    have tkw17_a0_8 : (Iw17 a0 8).toInt = (Iw14 a0 8).toInt := by rw [eIw17, up2_ne _ _ (fun z => absurd z.2 (by decide))]
                    have tkw17_a0_9 : (Iw17 a0 9).toInt = 3 := by rw [eIw17, up2_self]; exact ofI (by decide)
                    have tkw17_a0_13 : (Iw17 a0 13).toInt = (Iw14 a0 13).toInt := by rw [eIw17, up2_ne _ _ (fun z => absurd z.2 (by decide))]
                    have tkw17_a0_6 : (Iw17 a0 6).toInt = (Iw14 a0 6).toInt := by rw [eIw17, up2_ne _ _ (fun z => absurd z.2 (by decide))]
                    have tkw17_a0_7 : (Iw17 a0 7).toInt = (Iw14 a0 7).toInt := by rw [eIw17, up2_ne _ _ (fun z => absurd z.2 (by decide))]
                    have tkw17_a0_18 : (Iw17 a0 18).toInt = (Iw14 a0 18).toInt := by rw [eIw17, up2_ne _ _ (fun z => absurd z.2 (by decide))]
                    refine g_goto 281 C dMo_next_246 (by decide) ?_
                    exact s_vret C E dMo_next_281 ⟨Nat.zero_le _, Nat.zero_le _⟩ hVw17 (by (try dsimp only); omega)
                · skip
                  refine g_iload_n C dMo_next_192 rfl ?_
                  refine g_iconst (v := Int32.ofInt (3)) C dMo_next_193 (by decide) ?_
                  have jn_220 : ∀   (Iw18 : Nat → Nat → Int32) (Jw18 : Nat → Nat → Int64), (Int32.toInt (I0 a0 8) ≤ Int32.toInt (Iw18 a0 8)) → (Int32.toInt (Iw18 a0 9) = 0) → (Int32.toInt (Iw18 a0 13) = 0) → (Int32.toInt (Iw18 a0 8) < Int32.toInt (Iw18 a0 7)) → (Int32.toInt (Iw18 a0 8) = Int32.toInt (Iw14 a0 8)) → (Int32.toInt (Iw18 a0 6) = Int32.toInt (I0 a0 6)) → (Int32.toInt (Iw18 a0 7) = Int32.toInt (I0 a0 7)) → (Int32.toInt (Iw18 a0 18) = Int32.toInt (I0 a0 18)) → SV frX10 P K O I0 J0 Iw18 Jw18 → GG X 3 P K Iw18 O Jw18 0 0 220 [(0, .ref a0), (1, .int z_58), (2, .int x2_178)] [] := by
                    intro Iw18 Jw18 jv0_220 jv1_220 jv2_220 jv3_220 jv4_220 jv5_220 jv6_220 jv7_220 hVw18
                    first | refine n_iinc C dMo_next_220 rfl rfl (by decide) (by decide) (by omega) (fun z_220 e_220 => ?_) | refine a_iinc C dMo_next_220 rfl (by decide) (fun z_220 => ?_)
                    refine g_aload_n C dMo_next_223 rfl ?_
                    refine g_dup C dMo_next_224 rfl ?_
                    refine g_geti C dMo_next_225 fl_Mo_97 h0 ?_
                    have o_225 := hVw18.1.2 a0 h0.1 8
                    rw [h0.2] at o_225
                    have o_225 : 0 ≤ (Iw18 a0 8).toInt ∧ (Iw18 a0 8).toInt ≤ 700 := o_225
                    refine g_iconst (v := Int32.ofInt (1)) C dMo_next_228 (by decide) ?_
                    first | refine n_iadd C dMo_next_229 rfl (ofI (by decide)) (by omega) (fun z_229 e_229 => ?_) | refine a_iadd C dMo_next_229 (fun z_229 => ?_)
                    refine gt_puti C dMo_next_230 fl_Mo_97 h0 hVw18 rfl (by show 0 ≤ Int32.toInt _ ∧ Int32.toInt _ ≤ 700; omega) rfl (Or.inl rfl) (fun Iw19 eIw19 hVw19 => ?_)
                    have tkw19_a0_8 : (Iw19 a0 8).toInt = z_229.toInt := by rw [eIw19, up2_self]
                    have tkw19_a0_9 : (Iw19 a0 9).toInt = (Iw18 a0 9).toInt := by rw [eIw19, up2_ne _ _ (fun z => absurd z.2 (by decide))]
                    have tkw19_a0_13 : (Iw19 a0 13).toInt = (Iw18 a0 13).toInt := by rw [eIw19, up2_ne _ _ (fun z => absurd z.2 (by decide))]
                    have tkw19_a0_6 : (Iw19 a0 6).toInt = (Iw18 a0 6).toInt := by rw [eIw19, up2_ne _ _ (fun z => absurd z.2 (by decide))]
                    have tkw19_a0_7 : (Iw19 a0 7).toInt = (Iw18 a0 7).toInt := by rw [eIw19, up2_ne _ _ (fun z => absurd z.2 (by decide))]
                    have tkw19_a0_18 : (Iw19 a0 18).toInt = (Iw18 a0 18).toInt := by rw [eIw19, up2_ne _ _ (fun z => absurd z.2 (by decide))]
                    refine g_goto 178 C dMo_next_233 (by decide) ?_
                    exact g_sub (ih_178 _ (by omega) z_220 Iw19 Jw18 rfl (by omega) (by omega) (by omega) (by omega) (by omega) (by omega) hVw19) ⟨rfl, rfl, rfl, trivial⟩
                  refine gt_icmp_ge 220 C dMo_next_194 (by decide) rfl (ofI (by decide)) (fun c_194 => ?_) (fun c_194 => ?_)
                  · skip
                    exact g_sub (jn_220  Iw14 Jw14 (by omega) (by omega) (by omega) (by omega) (by omega) (by omega) (by omega) (by omega) hVw14) ⟨rfl, rfl, rfl, trivial⟩
                  · skip
                    refine g_aload_n C dMo_next_197 rfl ?_
                    refine g_bipush (v := Int32.ofInt (10)) C dMo_next_198 (by decide) ?_
                    refine g_aload_n C dMo_next_200 rfl ?_
                    refine g_geti C dMo_next_201 fl_Mo_121 h0 ?_
                    first | refine n_imul C dMo_next_204 (ofI (by decide)) rfl (by omega) (fun z_204 e_204 => ?_) | refine a_imul C dMo_next_204 (fun z_204 => ?_)
                    refine g_aload_n C dMo_next_205 rfl ?_
                    refine g_aload_n C dMo_next_206 rfl ?_
                    refine g_geti C dMo_next_207 fl_Mo_97 h0 ?_
                    have o_207 := hVw14.1.2 a0 h0.1 8
                    rw [h0.2] at o_207
                    have o_207 : 0 ≤ (Iw14 a0 8).toInt ∧ (Iw14 a0 8).toInt ≤ 700 := o_207
                    refine s_callV_ip (av := fun ad => [.int (Iw14 a0 8)]) C dMo_next_210 mfMo_byteAt mvMo_byteAt ln_Mo_100 h0 (by decide) rfl (cMo_byteAt hVw14.1 h0 (by omega)) rfl rfl (Nat.le_of_ble_eq_true rfl) ⟨Nat.le_of_ble_eq_true rfl, Nat.le_of_ble_eq_true rfl⟩ ⟨rfl, rfl⟩ ⟨Nat.zero_le _, Nat.zero_le _⟩ (fun z_210 p_210 => ?_)
                    have rz_210 := rg z_210
                    try dsimp only at p_210
                    first | refine n_iadd C dMo_next_213 rfl rfl (by omega) (fun z_213 e_213 => ?_) | refine a_iadd C dMo_next_213 (fun z_213 => ?_)
                    refine g_bipush (v := Int32.ofInt (48)) C dMo_next_214 (by decide) ?_
                    first | refine n_isub C dMo_next_216 rfl (ofI (by decide)) (by omega) (fun z_216 e_216 => ?_) | refine a_isub C dMo_next_216 (fun z_216 => ?_)
                    refine gt_puti C dMo_next_217 fl_Mo_121 h0 hVw14 rfl trivial rfl (Or.inl rfl) (fun Iw21 eIw21 hVw21 => ?_)
                    have tkw21_a0_8 : (Iw21 a0 8).toInt = (Iw14 a0 8).toInt := by rw [eIw21, up2_ne _ _ (fun z => absurd z.2 (by decide))]
                    have tkw21_a0_9 : (Iw21 a0 9).toInt = (Iw14 a0 9).toInt := by rw [eIw21, up2_ne _ _ (fun z => absurd z.2 (by decide))]
                    have tkw21_a0_13 : (Iw21 a0 13).toInt = (Iw14 a0 13).toInt := by rw [eIw21, up2_ne _ _ (fun z => absurd z.2 (by decide))]
                    have tkw21_a0_6 : (Iw21 a0 6).toInt = (Iw14 a0 6).toInt := by rw [eIw21, up2_ne _ _ (fun z => absurd z.2 (by decide))]
                    have tkw21_a0_7 : (Iw21 a0 7).toInt = (Iw14 a0 7).toInt := by rw [eIw21, up2_ne _ _ (fun z => absurd z.2 (by decide))]
                    have tkw21_a0_18 : (Iw21 a0 18).toInt = (Iw14 a0 18).toInt := by rw [eIw21, up2_ne _ _ (fun z => absurd z.2 (by decide))]
                    exact g_sub (jn_220  Iw21 Jw14 (by omega) (by omega) (by omega) (by omega) (by omega) (by omega) (by omega) (by omega) hVw21) ⟨rfl, rfl, rfl, trivial⟩
              exact g_sub (lp_178 _ (Int32.ofInt (0)) Iw13 Jw1 rfl (by omega) (by omega) (by omega) (by omega) (by omega) (by omega) hVw13) ⟨rfl, rfl, rfl, trivial⟩
          · skip
            refine g_aload_n C dMo_next_84 rfl ?_
            refine g_lconst (v := 0) C dMo_next_85 (by decide) ?_
            refine gt_putl C dMo_next_86 fl_Mo_114 h0 hVw5 rfl rfl rfl (fun Jw22 eJw22 hVw22 => ?_)
            have lp_89 : ∀ (nn_89 : Nat) (x2_89 : Int32) (Iw23 : Nat → Nat → Int32) (Jw23 : Nat → Nat → Int64), Int.toNat (Int32.toInt (Iw23 a0 7) - Int32.toInt (Iw23 a0 8)) = nn_89 → (Int32.toInt (I0 a0 8) ≤ Int32.toInt (Iw23 a0 8)) → (Int32.toInt (Iw23 a0 9) = 0) → (Int32.toInt (Iw23 a0 13) = 0) → (Int32.toInt (Iw23 a0 6) = Int32.toInt (I0 a0 6)) → (Int32.toInt (Iw23 a0 7) = Int32.toInt (I0 a0 7)) → (Int32.toInt (Iw23 a0 18) = Int32.toInt (I0 a0 18)) → SV frX10 P K O I0 J0 Iw23 Jw23 → GG X 3 P K Iw23 O Jw23 0 0 89 [(0, .ref a0), (1, .int z_58), (2, .int x2_89)] [] := by
              intro nn_89
              induction nn_89 using Nat.strongRecOn with
              | ind nn_89 ih_89 =>
              intro x2_89 Iw23 Jw23 hn_89 iv0_89 iv1_89 iv2_89 iv3_89 iv4_89 iv5_89 hVw23
              have rg2_89 := rg x2_89
              refine g_aload_n C dMo_next_89 rfl ?_
              refine g_aload_n C dMo_next_90 rfl ?_
              refine g_geti C dMo_next_91 fl_Mo_97 h0 ?_
              have o_91 := hVw23.1.2 a0 h0.1 8
              rw [h0.2] at o_91
              have o_91 : 0 ≤ (Iw23 a0 8).toInt ∧ (Iw23 a0 8).toInt ≤ 700 := o_91
              refine s_callV_ip (av := fun ad => [.int (Iw23 a0 8)]) C dMo_next_94 mfMo_byteAt mvMo_byteAt ln_Mo_100 h0 (by decide) rfl (cMo_byteAt hVw23.1 h0 (by omega)) rfl rfl (Nat.le_of_ble_eq_true rfl) ⟨Nat.le_of_ble_eq_true rfl, Nat.le_of_ble_eq_true rfl⟩ ⟨rfl, rfl⟩ ⟨Nat.zero_le _, Nat.zero_le _⟩ (fun z_94 p_94 => ?_)
              have rz_94 := rg z_94
              try dsimp only at p_94
              refine s_callS_zp (av := fun ad => [.int z_94]) C dMo_next_97 mfMo_isLetter msMo_isLetter ln_Mo_110 (cMo_isLetter hVw23.1 ) rfl rfl (Nat.le_of_ble_eq_true rfl) ⟨Nat.le_of_ble_eq_true rfl, Nat.le_of_ble_eq_true rfl⟩ ⟨rfl, rfl⟩ ⟨Nat.zero_le _, Nat.zero_le _⟩ (fun z_97 b_97 p_97 => ?_)
              have rz_97 := rg z_97
              have u_97 := b_97
              unfold B01 at u_97
              try dsimp only at p_97
              refine gt_if_eq 152 C dMo_next_100 (by decide) rfl (fun c_100 => ?_) (fun c_100 => ?_)
              · skip
                refine g_iload_n C dMo_next_152 rfl ?_
                refine g_bipush (v := Int32.ofInt (8)) C dMo_next_153 (by decide) ?_
                refine gt_icmp_gt 281 C dMo_next_155 (by decide) rfl (ofI (by decide)) (fun c_155 => ?_) (fun c_155 => ?_)
                · skip
                  exact s_vret C E dMo_next_281 ⟨Nat.zero_le _, Nat.zero_le _⟩ hVw23 (by (try dsimp only); omega)
                · skip
                  refine g_aload_n C dMo_next_158 rfl ?_
                  refine g_iconst (v := Int32.ofInt (2)) C dMo_next_159 (by decide) ?_
                  refine gt_puti C dMo_next_160 fl_Mo_94 h0 hVw23 rfl trivial rfl (Or.inl rfl) (fun Iw26 eIw26 hVw26 => ?_)
                  have tkw26_a0_8 : (Iw26 a0 8).toInt = (Iw23 a0 8).toInt := by rw [eIw26, up2_ne _ _ (fun z => absurd z.2 (by decide))]
                  have tkw26_a0_9 : (Iw26 a0 9).toInt = 2 := by rw [eIw26, up2_self]; exact ofI (by decide)
                  have tkw26_a0_13 : (Iw26 a0 13).toInt = (Iw23 a0 13).toInt := by rw [eIw26, up2_ne _ _ (fun z => absurd z.2 (by decide))]
                  have tkw26_a0_6 : (Iw26 a0 6).toInt = (Iw23 a0 6).toInt := by rw [eIw26, up2_ne _ _ (fun z => absurd z.2 (by decide))]
                  have tkw26_a0_7 : (Iw26 a0 7).toInt = (Iw23 a0 7).toInt := by rw [eIw26, up2_ne _ _ (fun z => absurd z.2 (by decide))]
                  have tkw26_a0_18 : (Iw26 a0 18).toInt = (Iw23 a0 18).toInt := by rw [eIw26, up2_ne _ _ (fun z => absurd z.2 (by decide))]
                  refine g_goto 281 C dMo_next_163 (by decide) ?_
                  exact s_vret C E dMo_next_281 ⟨Nat.zero_le _, Nat.zero_le _⟩ hVw26 (by (try dsimp only); omega)
              · skip
                refine g_iload_n C dMo_next_103 rfl ?_
                refine g_bipush (v := Int32.ofInt (8)) C dMo_next_104 (by decide) ?_
                have jn_136 : ∀   (Iw27 : Nat → Nat → Int32) (Jw27 : Nat → Nat → Int64), (Int32.toInt (I0 a0 8) ≤ Int32.toInt (Iw27 a0 8)) → (Int32.toInt (Iw27 a0 9) = 0) → (Int32.toInt (Iw27 a0 13) = 0) → (Int32.toInt (Iw27 a0 8) < Int32.toInt (Iw27 a0 7)) → (Int32.toInt (Iw27 a0 8) = Int32.toInt (Iw23 a0 8)) → (Int32.toInt (Iw27 a0 6) = Int32.toInt (I0 a0 6)) → (Int32.toInt (Iw27 a0 7) = Int32.toInt (I0 a0 7)) → (Int32.toInt (Iw27 a0 18) = Int32.toInt (I0 a0 18)) → SV frX10 P K O I0 J0 Iw27 Jw27 → GG X 3 P K Iw27 O Jw27 0 0 136 [(0, .ref a0), (1, .int z_58), (2, .int x2_89)] [] := by
                  intro Iw27 Jw27 jv0_136 jv1_136 jv2_136 jv3_136 jv4_136 jv5_136 jv6_136 jv7_136 hVw27
                  first | refine n_iinc C dMo_next_136 rfl rfl (by decide) (by decide) (by omega) (fun z_136 e_136 => ?_) | refine a_iinc C dMo_next_136 rfl (by decide) (fun z_136 => ?_)
                  refine g_aload_n C dMo_next_139 rfl ?_
                  refine g_dup C dMo_next_140 rfl ?_
                  refine g_geti C dMo_next_141 fl_Mo_97 h0 ?_
                  have o_141 := hVw27.1.2 a0 h0.1 8
                  rw [h0.2] at o_141
                  have o_141 : 0 ≤ (Iw27 a0 8).toInt ∧ (Iw27 a0 8).toInt ≤ 700 := o_141
                  refine g_iconst (v := Int32.ofInt (1)) C dMo_next_144 (by decide) ?_
                  first | refine n_iadd C dMo_next_145 rfl (ofI (by decide)) (by omega) (fun z_145 e_145 => ?_) | refine a_iadd C dMo_next_145 (fun z_145 => ?_)
                  refine gt_puti C dMo_next_146 fl_Mo_97 h0 hVw27 rfl (by show 0 ≤ Int32.toInt _ ∧ Int32.toInt _ ≤ 700; omega) rfl (Or.inl rfl) (fun Iw28 eIw28 hVw28 => ?_)
                  have tkw28_a0_8 : (Iw28 a0 8).toInt = z_145.toInt := by rw [eIw28, up2_self]
                  have tkw28_a0_9 : (Iw28 a0 9).toInt = (Iw27 a0 9).toInt := by rw [eIw28, up2_ne _ _ (fun z => absurd z.2 (by decide))]
                  have tkw28_a0_13 : (Iw28 a0 13).toInt = (Iw27 a0 13).toInt := by rw [eIw28, up2_ne _ _ (fun z => absurd z.2 (by decide))]
                  have tkw28_a0_6 : (Iw28 a0 6).toInt = (Iw27 a0 6).toInt := by rw [eIw28, up2_ne _ _ (fun z => absurd z.2 (by decide))]
                  have tkw28_a0_7 : (Iw28 a0 7).toInt = (Iw27 a0 7).toInt := by rw [eIw28, up2_ne _ _ (fun z => absurd z.2 (by decide))]
                  have tkw28_a0_18 : (Iw28 a0 18).toInt = (Iw27 a0 18).toInt := by rw [eIw28, up2_ne _ _ (fun z => absurd z.2 (by decide))]
                  refine g_goto 89 C dMo_next_149 (by decide) ?_
                  exact g_sub (ih_89 _ (by omega) z_136 Iw28 Jw27 rfl (by omega) (by omega) (by omega) (by omega) (by omega) (by omega) hVw28) ⟨rfl, rfl, rfl, trivial⟩
                refine gt_icmp_ge 136 C dMo_next_106 (by decide) rfl (ofI (by decide)) (fun c_106 => ?_) (fun c_106 => ?_)
                · skip
                  exact g_sub (jn_136  Iw23 Jw23 (by omega) (by omega) (by omega) (by omega) (by omega) (by omega) (by omega) (by omega) hVw23) ⟨rfl, rfl, rfl, trivial⟩
                · skip
                  refine g_aload_n C dMo_next_109 rfl ?_
                  refine g_ldc2 (v := 32) C dMo_next_110 k_Mo_88 ?_
                  refine g_aload_n C dMo_next_113 rfl ?_
                  refine g_getl C dMo_next_114 fl_Mo_114 h0 ?_
                  refine a_lmul C dMo_next_117 (fun z_117 => ?_)
                  refine g_aload_n C dMo_next_118 rfl ?_
                  refine g_aload_n C dMo_next_119 rfl ?_
                  refine g_geti C dMo_next_120 fl_Mo_97 h0 ?_
                  have o_120 := hVw23.1.2 a0 h0.1 8
                  rw [h0.2] at o_120
                  have o_120 : 0 ≤ (Iw23 a0 8).toInt ∧ (Iw23 a0 8).toInt ≤ 700 := o_120
                  refine s_callV_ip (av := fun ad => [.int (Iw23 a0 8)]) C dMo_next_123 mfMo_byteAt mvMo_byteAt ln_Mo_100 h0 (by decide) rfl (cMo_byteAt hVw23.1 h0 (by omega)) rfl rfl (Nat.le_of_ble_eq_true rfl) ⟨Nat.le_of_ble_eq_true rfl, Nat.le_of_ble_eq_true rfl⟩ ⟨rfl, rfl⟩ ⟨Nat.zero_le _, Nat.zero_le _⟩ (fun z_123 p_123 => ?_)
                  have rz_123 := rg z_123
                  try dsimp only at p_123
                  refine g_bipush (v := Int32.ofInt (97)) C dMo_next_126 (by decide) ?_
                  first | refine n_isub C dMo_next_128 rfl (ofI (by decide)) (by omega) (fun z_128 e_128 => ?_) | refine a_isub C dMo_next_128 (fun z_128 => ?_)
                  refine g_iconst (v := Int32.ofInt (1)) C dMo_next_129 (by decide) ?_
                  first | refine n_iadd C dMo_next_130 rfl (ofI (by decide)) (by omega) (fun z_130 e_130 => ?_) | refine a_iadd C dMo_next_130 (fun z_130 => ?_)
                  refine gt_i2l C dMo_next_131 (fun z_131 e_131 => ?_)
                  refine a_ladd C dMo_next_132 (fun z_132 => ?_)
                  refine gt_putl C dMo_next_133 fl_Mo_114 h0 hVw23 rfl rfl rfl (fun Jw30 eJw30 hVw30 => ?_)
                  exact g_sub (jn_136  Iw23 Jw30 (by omega) (by omega) (by omega) (by omega) (by omega) (by omega) (by omega) (by omega) hVw30) ⟨rfl, rfl, rfl, trivial⟩
            exact g_sub (lp_89 _ (Int32.ofInt (0)) Iw5 Jw22 rfl (by omega) (by omega) (by omega) (by omega) (by omega) (by omega) hVw22) ⟨rfl, rfl, rfl, trivial⟩
        · skip
          refine g_aload_n C dMo_next_69 rfl ?_
          refine g_iconst (v := Int32.ofInt (1)) C dMo_next_70 (by decide) ?_
          refine gt_puti C dMo_next_71 fl_Mo_94 h0 hVw5 rfl trivial rfl (Or.inl rfl) (fun Iw31 eIw31 hVw31 => ?_)
          have tkw31_a0_8 : (Iw31 a0 8).toInt = (Iw5 a0 8).toInt := by rw [eIw31, up2_ne _ _ (fun z => absurd z.2 (by decide))]
          have tkw31_a0_9 : (Iw31 a0 9).toInt = 1 := by rw [eIw31, up2_self]; exact ofI (by decide)
          have tkw31_a0_13 : (Iw31 a0 13).toInt = (Iw5 a0 13).toInt := by rw [eIw31, up2_ne _ _ (fun z => absurd z.2 (by decide))]
          have tkw31_a0_6 : (Iw31 a0 6).toInt = (Iw5 a0 6).toInt := by rw [eIw31, up2_ne _ _ (fun z => absurd z.2 (by decide))]
          have tkw31_a0_7 : (Iw31 a0 7).toInt = (Iw5 a0 7).toInt := by rw [eIw31, up2_ne _ _ (fun z => absurd z.2 (by decide))]
          have tkw31_a0_18 : (Iw31 a0 18).toInt = (Iw5 a0 18).toInt := by rw [eIw31, up2_ne _ _ (fun z => absurd z.2 (by decide))]
          refine g_goto 281 C dMo_next_74 (by decide) ?_
          exact s_vret C E dMo_next_281 ⟨Nat.zero_le _, Nat.zero_le _⟩ hVw31 (by (try dsimp only); omega)
      · skip
        refine g_aload_n C dMo_next_22 rfl ?_
        refine g_dup C dMo_next_23 rfl ?_
        refine g_geti C dMo_next_24 fl_Mo_97 h0 ?_
        have o_24 := hVw1.1.2 a0 h0.1 8
        rw [h0.2] at o_24
        have o_24 : 0 ≤ (Iw1 a0 8).toInt ∧ (Iw1 a0 8).toInt ≤ 700 := o_24
        refine g_iconst (v := Int32.ofInt (1)) C dMo_next_27 (by decide) ?_
        first | refine n_iadd C dMo_next_28 rfl (ofI (by decide)) (by omega) (fun z_28 e_28 => ?_) | refine a_iadd C dMo_next_28 (fun z_28 => ?_)
        refine gt_puti C dMo_next_29 fl_Mo_97 h0 hVw1 rfl (by show 0 ≤ Int32.toInt _ ∧ Int32.toInt _ ≤ 700; omega) rfl (Or.inl rfl) (fun Iw32 eIw32 hVw32 => ?_)
        have tkw32_a0_8 : (Iw32 a0 8).toInt = z_28.toInt := by rw [eIw32, up2_self]
        have tkw32_a0_9 : (Iw32 a0 9).toInt = (Iw1 a0 9).toInt := by rw [eIw32, up2_ne _ _ (fun z => absurd z.2 (by decide))]
        have tkw32_a0_13 : (Iw32 a0 13).toInt = (Iw1 a0 13).toInt := by rw [eIw32, up2_ne _ _ (fun z => absurd z.2 (by decide))]
        have tkw32_a0_6 : (Iw32 a0 6).toInt = (Iw1 a0 6).toInt := by rw [eIw32, up2_ne _ _ (fun z => absurd z.2 (by decide))]
        have tkw32_a0_7 : (Iw32 a0 7).toInt = (Iw1 a0 7).toInt := by rw [eIw32, up2_ne _ _ (fun z => absurd z.2 (by decide))]
        have tkw32_a0_18 : (Iw32 a0 18).toInt = (Iw1 a0 18).toInt := by rw [eIw32, up2_ne _ _ (fun z => absurd z.2 (by decide))]
        refine g_goto 9 C dMo_next_32 (by decide) ?_
        exact g_sub (ih_9 _ (by omega)  Iw32 Jw1 rfl (by omega) (by omega) (by omega) (by omega) (by omega) (by omega) hVw32) ⟨rfl, trivial⟩
    exact g_sub (lp_9 _  I0 J0 rfl (by omega) (by omega) (by omega) (by omega) (by omega) (by omega) hV0) ⟨rfl, trivial⟩
  · skip
    exfalso; omega
