set_option maxHeartbeats 4000000 in
set_option maxRecDepth 100000 in
theorem cRd_fail {P : List Nat} {K : Nat → Nat} {I0 : Nat → Nat → Int32} {O : Nat → Nat → Option Nat} {J0 : Nat → Nat → Int64} (hV : IV P K I0 O) {a0 : Nat} (h0 : a0 ∈ P ∧ K a0 = 5) {x1 : Int32} : Con yRd_fail bRd_fail 2 (some .boolean) ({ frames := 0, cells := 0, slots := 0, locals := 0 } : Room) P K I0 O J0 [.ref a0, .int x1] (SPo frC 2 (tt) P K I0 O J0) := by
  refine Con.ofG mfRd_fail (Nat.le_of_ble_eq_true rfl) ?_
  intro X C E
  have r1 := rg x1
  have hV0 : SV frC P K O I0 J0 I0 J0 := SV.rf hV
  refine g_aload_n C dRd_fail_0 rfl ?_
  refine g_iload_n C dRd_fail_1 rfl ?_
  refine gt_puti C dRd_fail_2 fl_Rd_31 h0 hV0 rfl trivial rfl (Or.inl rfl) (fun Iw1 eIw1 hVw1 => ?_)
  refine g_iconst (v := Int32.ofInt (0)) C dRd_fail_5 (by decide) ?_
  exact s_zret C E dRd_fail_6 ⟨Nat.zero_le _, Nat.zero_le _⟩ hVw1 (Or.inl (ofI (by decide))) trivial
set_option maxHeartbeats 4000000 in
set_option maxRecDepth 100000 in
theorem cRd_byteAt {P : List Nat} {K : Nat → Nat} {I0 : Nat → Nat → Int32} {O : Nat → Nat → Option Nat} {J0 : Nat → Nat → Int64} (hV : IV P K I0 O) {a0 : Nat} (h0 : a0 ∈ P ∧ K a0 = 5) {x1 : Int32} : Con yRd_byteAt bRd_byteAt 2 (some .int) ({ frames := 0, cells := 0, slots := 0, locals := 0 } : Room) P K I0 O J0 [.ref a0, .int x1] (SPo frP 1 (tt) P K I0 O J0) := by
  refine Con.ofG mfRd_byteAt (Nat.le_of_ble_eq_true rfl) ?_
  intro X C E
  have r1 := rg x1
  have hV0 : SV frP P K O I0 J0 I0 J0 := SV.rf hV
  refine g_iload_n C dRd_byteAt_0 rfl ?_
  refine gt_if_lt 28 C dRd_byteAt_1 (by decide) rfl (fun c_1 => ?_) (fun c_1 => ?_)
  · skip
    refine g_iconst (v := Int32.ofInt (-1)) C dRd_byteAt_28 (by decide) ?_
    exact s_iret C E dRd_byteAt_29 ⟨Nat.zero_le _, Nat.zero_le _⟩ hV0 trivial
  · skip
    refine g_iload_n C dRd_byteAt_4 rfl ?_
    refine g_aload_n C dRd_byteAt_5 rfl ?_
    refine g_geti C dRd_byteAt_6 fl_Rd_34 h0 ?_
    refine gt_icmp_ge 28 C dRd_byteAt_9 (by decide) rfl rfl (fun c_9 => ?_) (fun c_9 => ?_)
    · skip
      refine g_iconst (v := Int32.ofInt (-1)) C dRd_byteAt_28 (by decide) ?_
      exact s_iret C E dRd_byteAt_29 ⟨Nat.zero_le _, Nat.zero_le _⟩ hV0 trivial
    · skip
      refine g_iload_n C dRd_byteAt_12 rfl ?_
      refine g_sipush (v := Int32.ofInt (700)) C dRd_byteAt_13 (by decide) ?_
      refine gt_icmp_ge 28 C dRd_byteAt_16 (by decide) rfl (ofI (by decide)) (fun c_16 => ?_) (fun c_16 => ?_)
      · skip
        refine g_iconst (v := Int32.ofInt (-1)) C dRd_byteAt_28 (by decide) ?_
        exact s_iret C E dRd_byteAt_29 ⟨Nat.zero_le _, Nat.zero_le _⟩ hV0 trivial
      · skip
        refine g_aload_n C dRd_byteAt_19 rfl ?_
        refine gt_getr C dRd_byteAt_20 fl_Rd_11 h0 hV0.1.1 rfl (fun b_20 q_20 hb_20 => ?_)
        refine g_iload_n C dRd_byteAt_23 rfl ?_
        refine gt_bald C dRd_byteAt_24 hb_20 (by decide) rfl rfl (n := 700) rfl (by omega) ?_
        refine g_goto 29 C dRd_byteAt_25 (by decide) ?_
        exact s_iret C E dRd_byteAt_29 ⟨Nat.zero_le _, Nat.zero_le _⟩ hV0 trivial
set_option maxHeartbeats 4000000 in
set_option maxRecDepth 100000 in
theorem cRd_isLetter {P : List Nat} {K : Nat → Nat} {I0 : Nat → Nat → Int32} {O : Nat → Nat → Option Nat} {J0 : Nat → Nat → Int64} (hV : IV P K I0 O) {x0 : Int32} : Con yRd_isLetter bRd_isLetter 1 (some .boolean) ({ frames := 0, cells := 0, slots := 0, locals := 0 } : Room) P K I0 O J0 [.int x0] (SPo frP 2 (tt) P K I0 O J0) := by
  refine Con.ofG mfRd_isLetter (Nat.le_of_ble_eq_true rfl) ?_
  intro X C E
  have r0 := rg x0
  have hV0 : SV frP P K O I0 J0 I0 J0 := SV.rf hV
  refine g_iload_n C dRd_isLetter_0 rfl ?_
  refine g_bipush (v := Int32.ofInt (97)) C dRd_isLetter_1 (by decide) ?_
  refine gt_icmp_lt 16 C dRd_isLetter_3 (by decide) rfl (ofI (by decide)) (fun c_3 => ?_) (fun c_3 => ?_)
  · skip
    refine g_iconst (v := Int32.ofInt (0)) C dRd_isLetter_16 (by decide) ?_
    exact s_zret C E dRd_isLetter_17 ⟨Nat.zero_le _, Nat.zero_le _⟩ hV0 (Or.inl (ofI (by decide))) trivial
  · skip
    refine g_iload_n C dRd_isLetter_6 rfl ?_
    refine g_bipush (v := Int32.ofInt (122)) C dRd_isLetter_7 (by decide) ?_
    refine gt_icmp_gt 16 C dRd_isLetter_9 (by decide) rfl (ofI (by decide)) (fun c_9 => ?_) (fun c_9 => ?_)
    · skip
      refine g_iconst (v := Int32.ofInt (0)) C dRd_isLetter_16 (by decide) ?_
      exact s_zret C E dRd_isLetter_17 ⟨Nat.zero_le _, Nat.zero_le _⟩ hV0 (Or.inl (ofI (by decide))) trivial
    · skip
      refine g_iconst (v := Int32.ofInt (1)) C dRd_isLetter_12 (by decide) ?_
      refine g_goto 17 C dRd_isLetter_13 (by decide) ?_
      exact s_zret C E dRd_isLetter_17 ⟨Nat.zero_le _, Nat.zero_le _⟩ hV0 (Or.inr (ofI (by decide))) trivial
set_option maxHeartbeats 4000000 in
set_option maxRecDepth 100000 in
theorem cRd_isDigit {P : List Nat} {K : Nat → Nat} {I0 : Nat → Nat → Int32} {O : Nat → Nat → Option Nat} {J0 : Nat → Nat → Int64} (hV : IV P K I0 O) {x0 : Int32} : Con yRd_isDigit bRd_isDigit 1 (some .boolean) ({ frames := 0, cells := 0, slots := 0, locals := 0 } : Room) P K I0 O J0 [.int x0] (SPo frP 2 (tt) P K I0 O J0) := by
  refine Con.ofG mfRd_isDigit (Nat.le_of_ble_eq_true rfl) ?_
  intro X C E
  have r0 := rg x0
  have hV0 : SV frP P K O I0 J0 I0 J0 := SV.rf hV
  refine g_iload_n C dRd_isDigit_0 rfl ?_
  refine g_bipush (v := Int32.ofInt (48)) C dRd_isDigit_1 (by decide) ?_
  refine gt_icmp_lt 16 C dRd_isDigit_3 (by decide) rfl (ofI (by decide)) (fun c_3 => ?_) (fun c_3 => ?_)
  · skip
    refine g_iconst (v := Int32.ofInt (0)) C dRd_isDigit_16 (by decide) ?_
    exact s_zret C E dRd_isDigit_17 ⟨Nat.zero_le _, Nat.zero_le _⟩ hV0 (Or.inl (ofI (by decide))) trivial
  · skip
    refine g_iload_n C dRd_isDigit_6 rfl ?_
    refine g_bipush (v := Int32.ofInt (57)) C dRd_isDigit_7 (by decide) ?_
    refine gt_icmp_gt 16 C dRd_isDigit_9 (by decide) rfl (ofI (by decide)) (fun c_9 => ?_) (fun c_9 => ?_)
    · skip
      refine g_iconst (v := Int32.ofInt (0)) C dRd_isDigit_16 (by decide) ?_
      exact s_zret C E dRd_isDigit_17 ⟨Nat.zero_le _, Nat.zero_le _⟩ hV0 (Or.inl (ofI (by decide))) trivial
    · skip
      refine g_iconst (v := Int32.ofInt (1)) C dRd_isDigit_12 (by decide) ?_
      refine g_goto 17 C dRd_isDigit_13 (by decide) ?_
      exact s_zret C E dRd_isDigit_17 ⟨Nat.zero_le _, Nat.zero_le _⟩ hV0 (Or.inr (ofI (by decide))) trivial
set_option maxHeartbeats 4000000 in
set_option maxRecDepth 100000 in
theorem cRd_append {P : List Nat} {K : Nat → Nat} {I0 : Nat → Nat → Int32} {O : Nat → Nat → Option Nat} {J0 : Nat → Nat → Int64} (hV : IV P K I0 O) {a0 : Nat} (h0 : a0 ∈ P ∧ K a0 = 5) {x1 : Int32} : Con yRd_append bRd_append 3 none ({ frames := 0, cells := 0, slots := 0, locals := 0 } : Room) P K I0 O J0 [.ref a0, .int x1] (SPo frC 0 (tt) P K I0 O J0) := by
  refine Con.ofG mfRd_append (Nat.le_of_ble_eq_true rfl) ?_
  intro X C E
  have r1 := rg x1
  have hV0 : SV frC P K O I0 J0 I0 J0 := SV.rf hV
  refine g_bipush (v := Int32.ofInt (24)) C dRd_append_0 (by decide) ?_
  refine g_istore_n (i := 2) C dRd_append_2 rfl (by decide) ?_
  have lp_3 : ∀ (nn_3 : Nat) (x2_3 : Int32) (Iw1 : Nat → Nat → Int32) (Jw1 : Nat → Nat → Int64), Int.toNat (x2_3.toInt + 8) = nn_3 → (-8 ≤ Int32.toInt x2_3 ∧ Int32.toInt x2_3 ≤ 24) → SV frC P K O I0 J0 Iw1 Jw1 → GG X 3 P K Iw1 O Jw1 0 0 3 [(0, .ref a0), (1, .int x1), (2, .int x2_3)] [] := by
    intro nn_3
    induction nn_3 using Nat.strongRecOn with
    | ind nn_3 ih_3 =>
    intro x2_3 Iw1 Jw1 hn_3 iv0_3 hVw1
    have rg2_3 := rg x2_3
    refine g_iload_n C dRd_append_3 rfl ?_
    refine gt_if_lt 53 C dRd_append_4 (by decide) rfl (fun c_4 => ?_) (fun c_4 => ?_)
    · skip
      exact s_vret C E dRd_append_53 ⟨Nat.zero_le _, Nat.zero_le _⟩ hVw1 trivial
    · skip
      refine g_aload_n C dRd_append_7 rfl ?_
      refine g_geti C dRd_append_8 fl_Rd_22 h0 ?_
      have r_8 := rg (Iw1 a0 1)
      refine gt_if_lt 53 C dRd_append_11 (by decide) rfl (fun c_11 => ?_) (fun c_11 => ?_)
      · skip
        exact s_vret C E dRd_append_53 ⟨Nat.zero_le _, Nat.zero_le _⟩ hVw1 trivial
      · skip
        refine g_aload_n C dRd_append_14 rfl ?_
        refine g_geti C dRd_append_15 fl_Rd_22 h0 ?_
        have r_15 := rg (Iw1 a0 1)
        refine g_sipush (v := Int32.ofInt (700)) C dRd_append_18 (by decide) ?_
        refine gt_icmp_ge 53 C dRd_append_21 (by decide) rfl (ofI (by decide)) (fun c_21 => ?_) (fun c_21 => ?_)
        · skip
          exact s_vret C E dRd_append_53 ⟨Nat.zero_le _, Nat.zero_le _⟩ hVw1 trivial
        · skip
          refine g_aload_n C dRd_append_24 rfl ?_
          refine gt_getr C dRd_append_25 fl_Rd_11 h0 hVw1.1.1 rfl (fun b_25 q_25 hb_25 => ?_)
          refine g_aload_n C dRd_append_28 rfl ?_
          refine g_geti C dRd_append_29 fl_Rd_22 h0 ?_
          have r_29 := rg (Iw1 a0 1)
          refine g_iload_n C dRd_append_32 rfl ?_
          refine g_iload_n C dRd_append_33 rfl ?_
          refine a_ishr C dRd_append_34 (fun z_34 => ?_)
          refine a_i2b C dRd_append_35 (fun z_35 => ?_)
          refine gt_bast C dRd_append_36 hb_25 (by decide) rfl rfl (n := 700) rfl (by omega) hVw1 rfl trivial (fun Iw2 eIw2 hVw2 => ?_)
          refine g_aload_n C dRd_append_37 rfl ?_
          refine g_dup C dRd_append_38 rfl ?_
          refine g_geti C dRd_append_39 fl_Rd_22 h0 ?_
          have r_39 := rg (Iw2 a0 1)
          refine g_iconst (v := Int32.ofInt (1)) C dRd_append_42 (by decide) ?_
          first | refine n_iadd C dRd_append_43 rfl (ofI (by decide)) (by omega) (fun z_43 e_43 => ?_) | refine a_iadd C dRd_append_43 (fun z_43 => ?_)
          refine gt_puti C dRd_append_44 fl_Rd_22 h0 hVw2 rfl trivial rfl (Or.inl rfl) (fun Iw3 eIw3 hVw3 => ?_)
          first | refine n_iinc C dRd_append_47 rfl rfl (by decide) (by decide) (by omega) (fun z_47 e_47 => ?_) | refine a_iinc C dRd_append_47 rfl (by decide) (fun z_47 => ?_)
          refine g_goto 3 C dRd_append_50 (by decide) ?_
          exact g_sub (ih_3 _ (by omega) z_47 Iw3 Jw1 rfl (by omega) hVw3) ⟨rfl, rfl, rfl, trivial⟩
  exact g_sub (lp_3 _ (Int32.ofInt (24)) I0 J0 rfl (by have hci : Int32.toInt (Int32.ofInt (24)) = 24 := ofI (by decide); omega) hV0) ⟨rfl, rfl, rfl, trivial⟩
set_option maxHeartbeats 4000000 in
set_option maxRecDepth 100000 in
theorem cRd_stepWord {P : List Nat} {K : Nat → Nat} {I0 : Nat → Nat → Int32} {O : Nat → Nat → Option Nat} {J0 : Nat → Nat → Int64} (hV : IV P K I0 O) {a0 : Nat} (h0 : a0 ∈ P ∧ K a0 = 5) : Con yRd_stepWord bRd_stepWord 1 none ({ frames := 1, cells := 0, slots := 0, locals := 21 } : Room) P K I0 O J0 [.ref a0] (SPo frC 0 (tt) P K I0 O J0) := by
  refine Con.ofG mfRd_stepWord (Nat.le_of_ble_eq_true rfl) ?_
  intro X C E
  have hV0 : SV frC P K O I0 J0 I0 J0 := SV.rf hV
  have lp_0 : ∀ (nn_0 : Nat)  (Iw1 : Nat → Nat → Int32) (Jw1 : Nat → Nat → Int64), Int.toNat (Int32.toInt (Iw1 a0 4) - Int32.toInt (Iw1 a0 5)) = nn_0 →  SV frC P K O I0 J0 Iw1 Jw1 → GG X 1 P K Iw1 O Jw1 0 0 0 [(0, .ref a0)] [] := by
    intro nn_0
    induction nn_0 using Nat.strongRecOn with
    | ind nn_0 ih_0 =>
    intro  Iw1 Jw1 hn_0  hVw1
    refine g_aload_n C dRd_stepWord_0 rfl ?_
    refine g_geti C dRd_stepWord_1 fl_Rd_37 h0 ?_
    have r_1 := rg (Iw1 a0 5)
    refine g_aload_n C dRd_stepWord_4 rfl ?_
    refine g_geti C dRd_stepWord_5 fl_Rd_34 h0 ?_
    have r_5 := rg (Iw1 a0 4)
    have jn_38 : ∀   (Iw2 : Nat → Nat → Int32) (Jw2 : Nat → Nat → Int64),  SV frC P K O I0 J0 Iw2 Jw2 → GG X 1 P K Iw2 O Jw2 0 0 38 [(0, .ref a0)] [] := by
      intro Iw2 Jw2 hVw2
      refine g_aload_n C dRd_stepWord_38 rfl ?_
      refine g_aload_n C dRd_stepWord_39 rfl ?_
      refine g_geti C dRd_stepWord_40 fl_Rd_37 h0 ?_
      have r_40 := rg (Iw2 a0 5)
      refine g_aload_n C dRd_stepWord_43 rfl ?_
      refine g_geti C dRd_stepWord_44 fl_Rd_62 h0 ?_
      have r_44 := rg (Iw2 a0 3)
      first | refine n_isub C dRd_stepWord_47 rfl rfl (by omega) (fun z_47 e_47 => ?_) | refine a_isub C dRd_stepWord_47 (fun z_47 => ?_)
      refine g_bipush (v := Int32.ofInt (8)) C dRd_stepWord_48 (by decide) ?_
      have jn_58 : ∀  (s0_58 : Int32) (Iw3 : Nat → Nat → Int32) (Jw3 : Nat → Nat → Int64),  SV frC P K O I0 J0 Iw3 Jw3 → GG X 1 P K Iw3 O Jw3 0 0 58 [(0, .ref a0)] [.int s0_58, .ref a0] := by
        intro s0_58 Iw3 Jw3 hVw3
        refine gt_puti C dRd_stepWord_58 fl_Rd_47 h0 hVw3 rfl trivial rfl (Or.inl rfl) (fun Iw4 eIw4 hVw4 => ?_)
        have tkw4_a0_4 : (Iw4 a0 4).toInt = (Iw3 a0 4).toInt := by rw [eIw4, up2_ne _ _ (fun z => absurd z.2 (by decide))]
        have tkw4_a0_5 : (Iw4 a0 5).toInt = (Iw3 a0 5).toInt := by rw [eIw4, up2_ne _ _ (fun z => absurd z.2 (by decide))]
        exact s_vret C E dRd_stepWord_61 ⟨Nat.zero_le _, Nat.zero_le _⟩ hVw4 trivial
      refine gt_icmp_le 57 C dRd_stepWord_50 (by decide) rfl (ofI (by decide)) (fun c_50 => ?_) (fun c_50 => ?_)
      · skip
        refine g_iconst (v := Int32.ofInt (2)) C dRd_stepWord_57 (by decide) ?_
        exact g_sub (jn_58 (Int32.ofInt (2)) Iw2 Jw2  hVw2) ⟨rfl, trivial⟩
      · skip
        refine g_iconst (v := Int32.ofInt (1)) C dRd_stepWord_53 (by decide) ?_
        refine g_goto 58 C dRd_stepWord_54 (by decide) ?_
        exact g_sub (jn_58 (Int32.ofInt (1)) Iw2 Jw2  hVw2) ⟨rfl, trivial⟩
    refine gt_icmp_ge 38 C dRd_stepWord_8 (by decide) rfl rfl (fun c_8 => ?_) (fun c_8 => ?_)
    · skip
      exact g_sub (jn_38  Iw1 Jw1  hVw1) ⟨rfl, trivial⟩
    · skip
      refine g_aload_n C dRd_stepWord_11 rfl ?_
      refine g_aload_n C dRd_stepWord_12 rfl ?_
      refine g_geti C dRd_stepWord_13 fl_Rd_37 h0 ?_
      have r_13 := rg (Iw1 a0 5)
      refine s_callV_ip (av := fun ad => [.int (Iw1 a0 5)]) C dRd_stepWord_16 mfRd_byteAt mvRd_byteAt ln_Rd_65 h0 (by decide) rfl (cRd_byteAt hVw1.1 h0) rfl rfl (Nat.le_of_ble_eq_true rfl) ⟨Nat.le_of_ble_eq_true rfl, Nat.le_of_ble_eq_true rfl⟩ ⟨rfl, rfl⟩ ⟨Nat.zero_le _, Nat.zero_le _⟩ (fun z_16 p_16 => ?_)
      have rz_16 := rg z_16
      refine s_callS_zp (av := fun ad => [.int z_16]) C dRd_stepWord_19 mfRd_isLetter msRd_isLetter ln_Rd_69 (cRd_isLetter hVw1.1 ) rfl rfl (Nat.le_of_ble_eq_true rfl) ⟨Nat.le_of_ble_eq_true rfl, Nat.le_of_ble_eq_true rfl⟩ ⟨rfl, rfl⟩ ⟨Nat.zero_le _, Nat.zero_le _⟩ (fun z_19 b_19 p_19 => ?_)
      have rz_19 := rg z_19
      have u_19 := b_19
      unfold B01 at u_19
      refine gt_if_eq 38 C dRd_stepWord_22 (by decide) rfl (fun c_22 => ?_) (fun c_22 => ?_)
      · skip
        exact g_sub (jn_38  Iw1 Jw1  hVw1) ⟨rfl, trivial⟩
      · skip
        refine g_aload_n C dRd_stepWord_25 rfl ?_
        refine g_dup C dRd_stepWord_26 rfl ?_
        refine g_geti C dRd_stepWord_27 fl_Rd_37 h0 ?_
        have r_27 := rg (Iw1 a0 5)
        refine g_iconst (v := Int32.ofInt (1)) C dRd_stepWord_30 (by decide) ?_
        first | refine n_iadd C dRd_stepWord_31 rfl (ofI (by decide)) (by omega) (fun z_31 e_31 => ?_) | refine a_iadd C dRd_stepWord_31 (fun z_31 => ?_)
        refine gt_puti C dRd_stepWord_32 fl_Rd_37 h0 hVw1 rfl trivial rfl (Or.inl rfl) (fun Iw7 eIw7 hVw7 => ?_)
        have tkw7_a0_4 : (Iw7 a0 4).toInt = (Iw1 a0 4).toInt := by rw [eIw7, up2_ne _ _ (fun z => absurd z.2 (by decide))]
        have tkw7_a0_5 : (Iw7 a0 5).toInt = z_31.toInt := by rw [eIw7, up2_self]
        refine g_goto 0 C dRd_stepWord_35 (by decide) ?_
        exact g_sub (ih_0 _ (by omega)  Iw7 Jw1 rfl  hVw7) ⟨rfl, trivial⟩
  exact g_sub (lp_0 _  I0 J0 rfl  hV0) ⟨rfl, trivial⟩
set_option maxHeartbeats 4000000 in
set_option maxRecDepth 100000 in
theorem cRd_stepWhole {P : List Nat} {K : Nat → Nat} {I0 : Nat → Nat → Int32} {O : Nat → Nat → Option Nat} {J0 : Nat → Nat → Int64} (hV : IV P K I0 O) {a0 : Nat} (h0 : a0 ∈ P ∧ K a0 = 5) : Con yRd_stepWhole bRd_stepWhole 1 none ({ frames := 1, cells := 0, slots := 0, locals := 21 } : Room) P K I0 O J0 [.ref a0] (SPo frC 0 (tt) P K I0 O J0) := by
  refine Con.ofG mfRd_stepWhole (Nat.le_of_ble_eq_true rfl) ?_
  intro X C E
  have hV0 : SV frC P K O I0 J0 I0 J0 := SV.rf hV
  refine g_aload_n C dRd_stepWhole_0 rfl ?_
  refine g_iconst (v := Int32.ofInt (0)) C dRd_stepWhole_1 (by decide) ?_
  refine gt_puti C dRd_stepWhole_2 fl_Rd_81 h0 hV0 rfl trivial rfl (Or.inl rfl) (fun Iw1 eIw1 hVw1 => ?_)
  have tkw1_a0_4 : (Iw1 a0 4).toInt = (I0 a0 4).toInt := by rw [eIw1, up2_ne _ _ (fun z => absurd z.2 (by decide))]
  have tkw1_a0_5 : (Iw1 a0 5).toInt = (I0 a0 5).toInt := by rw [eIw1, up2_ne _ _ (fun z => absurd z.2 (by decide))]
  have lp_5 : ∀ (nn_5 : Nat)  (Iw2 : Nat → Nat → Int32) (Jw2 : Nat → Nat → Int64), Int.toNat (Int32.toInt (Iw2 a0 4) - Int32.toInt (Iw2 a0 5)) = nn_5 →  SV frC P K O I0 J0 Iw2 Jw2 → GG X 1 P K Iw2 O Jw2 0 0 5 [(0, .ref a0)] [] := by
    intro nn_5
    induction nn_5 using Nat.strongRecOn with
    | ind nn_5 ih_5 =>
    intro  Iw2 Jw2 hn_5  hVw2
    refine g_aload_n C dRd_stepWhole_5 rfl ?_
    refine g_geti C dRd_stepWhole_6 fl_Rd_37 h0 ?_
    have r_6 := rg (Iw2 a0 5)
    refine g_aload_n C dRd_stepWhole_9 rfl ?_
    refine g_geti C dRd_stepWhole_10 fl_Rd_34 h0 ?_
    have r_10 := rg (Iw2 a0 4)
    have jn_66 : ∀   (Iw3 : Nat → Nat → Int32) (Jw3 : Nat → Nat → Int64),  SV frC P K O I0 J0 Iw3 Jw3 → GG X 1 P K Iw3 O Jw3 0 0 66 [(0, .ref a0)] [] := by
      intro Iw3 Jw3 hVw3
      refine g_aload_n C dRd_stepWhole_66 rfl ?_
      refine g_aload_n C dRd_stepWhole_67 rfl ?_
      refine g_geti C dRd_stepWhole_68 fl_Rd_37 h0 ?_
      have r_68 := rg (Iw3 a0 5)
      refine g_aload_n C dRd_stepWhole_71 rfl ?_
      refine g_geti C dRd_stepWhole_72 fl_Rd_62 h0 ?_
      have r_72 := rg (Iw3 a0 3)
      first | refine n_isub C dRd_stepWhole_75 rfl rfl (by omega) (fun z_75 e_75 => ?_) | refine a_isub C dRd_stepWhole_75 (fun z_75 => ?_)
      refine g_iconst (v := Int32.ofInt (3)) C dRd_stepWhole_76 (by decide) ?_
      have jn_85 : ∀  (s0_85 : Int32) (Iw4 : Nat → Nat → Int32) (Jw4 : Nat → Nat → Int64),  SV frC P K O I0 J0 Iw4 Jw4 → GG X 1 P K Iw4 O Jw4 0 0 85 [(0, .ref a0)] [.int s0_85, .ref a0] := by
        intro s0_85 Iw4 Jw4 hVw4
        refine gt_puti C dRd_stepWhole_85 fl_Rd_47 h0 hVw4 rfl trivial rfl (Or.inl rfl) (fun Iw5 eIw5 hVw5 => ?_)
        have tkw5_a0_4 : (Iw5 a0 4).toInt = (Iw4 a0 4).toInt := by rw [eIw5, up2_ne _ _ (fun z => absurd z.2 (by decide))]
        have tkw5_a0_5 : (Iw5 a0 5).toInt = (Iw4 a0 5).toInt := by rw [eIw5, up2_ne _ _ (fun z => absurd z.2 (by decide))]
        exact s_vret C E dRd_stepWhole_88 ⟨Nat.zero_le _, Nat.zero_le _⟩ hVw5 trivial
      refine gt_icmp_le 84 C dRd_stepWhole_77 (by decide) rfl (ofI (by decide)) (fun c_77 => ?_) (fun c_77 => ?_)
      · skip
        refine g_iconst (v := Int32.ofInt (3)) C dRd_stepWhole_84 (by decide) ?_
        exact g_sub (jn_85 (Int32.ofInt (3)) Iw3 Jw3  hVw3) ⟨rfl, trivial⟩
      · skip
        refine g_iconst (v := Int32.ofInt (1)) C dRd_stepWhole_80 (by decide) ?_
        refine g_goto 85 C dRd_stepWhole_81 (by decide) ?_
        exact g_sub (jn_85 (Int32.ofInt (1)) Iw3 Jw3  hVw3) ⟨rfl, trivial⟩
    refine gt_icmp_ge 66 C dRd_stepWhole_13 (by decide) rfl rfl (fun c_13 => ?_) (fun c_13 => ?_)
    · skip
      exact g_sub (jn_66  Iw2 Jw2  hVw2) ⟨rfl, trivial⟩
    · skip
      refine g_aload_n C dRd_stepWhole_16 rfl ?_
      refine g_aload_n C dRd_stepWhole_17 rfl ?_
      refine g_geti C dRd_stepWhole_18 fl_Rd_37 h0 ?_
      have r_18 := rg (Iw2 a0 5)
      refine s_callV_ip (av := fun ad => [.int (Iw2 a0 5)]) C dRd_stepWhole_21 mfRd_byteAt mvRd_byteAt ln_Rd_65 h0 (by decide) rfl (cRd_byteAt hVw2.1 h0) rfl rfl (Nat.le_of_ble_eq_true rfl) ⟨Nat.le_of_ble_eq_true rfl, Nat.le_of_ble_eq_true rfl⟩ ⟨rfl, rfl⟩ ⟨Nat.zero_le _, Nat.zero_le _⟩ (fun z_21 p_21 => ?_)
      have rz_21 := rg z_21
      refine s_callS_zp (av := fun ad => [.int z_21]) C dRd_stepWhole_24 mfRd_isDigit msRd_isDigit ln_Rd_75 (cRd_isDigit hVw2.1 ) rfl rfl (Nat.le_of_ble_eq_true rfl) ⟨Nat.le_of_ble_eq_true rfl, Nat.le_of_ble_eq_true rfl⟩ ⟨rfl, rfl⟩ ⟨Nat.zero_le _, Nat.zero_le _⟩ (fun z_24 b_24 p_24 => ?_)
      have rz_24 := rg z_24
      have u_24 := b_24
      unfold B01 at u_24
      refine gt_if_eq 66 C dRd_stepWhole_27 (by decide) rfl (fun c_27 => ?_) (fun c_27 => ?_)
      · skip
        exact g_sub (jn_66  Iw2 Jw2  hVw2) ⟨rfl, trivial⟩
      · skip
        refine g_aload_n C dRd_stepWhole_30 rfl ?_
        refine g_aload_n C dRd_stepWhole_31 rfl ?_
        refine g_geti C dRd_stepWhole_32 fl_Rd_81 h0 ?_
        have r_32 := rg (Iw2 a0 7)
        refine g_bipush (v := Int32.ofInt (10)) C dRd_stepWhole_35 (by decide) ?_
        first | refine n_imul C dRd_stepWhole_37 rfl (ofI (by decide)) (by omega) (fun z_37 e_37 => ?_) | refine a_imul C dRd_stepWhole_37 (fun z_37 => ?_)
        refine g_aload_n C dRd_stepWhole_38 rfl ?_
        refine g_aload_n C dRd_stepWhole_39 rfl ?_
        refine g_geti C dRd_stepWhole_40 fl_Rd_37 h0 ?_
        have r_40 := rg (Iw2 a0 5)
        refine s_callV_ip (av := fun ad => [.int (Iw2 a0 5)]) C dRd_stepWhole_43 mfRd_byteAt mvRd_byteAt ln_Rd_65 h0 (by decide) rfl (cRd_byteAt hVw2.1 h0) rfl rfl (Nat.le_of_ble_eq_true rfl) ⟨Nat.le_of_ble_eq_true rfl, Nat.le_of_ble_eq_true rfl⟩ ⟨rfl, rfl⟩ ⟨Nat.zero_le _, Nat.zero_le _⟩ (fun z_43 p_43 => ?_)
        have rz_43 := rg z_43
        first | refine n_iadd C dRd_stepWhole_46 rfl rfl (by omega) (fun z_46 e_46 => ?_) | refine a_iadd C dRd_stepWhole_46 (fun z_46 => ?_)
        refine g_bipush (v := Int32.ofInt (48)) C dRd_stepWhole_47 (by decide) ?_
        first | refine n_isub C dRd_stepWhole_49 rfl (ofI (by decide)) (by omega) (fun z_49 e_49 => ?_) | refine a_isub C dRd_stepWhole_49 (fun z_49 => ?_)
        refine gt_puti C dRd_stepWhole_50 fl_Rd_81 h0 hVw2 rfl trivial rfl (Or.inl rfl) (fun Iw9 eIw9 hVw9 => ?_)
        have tkw9_a0_4 : (Iw9 a0 4).toInt = (Iw2 a0 4).toInt := by rw [eIw9, up2_ne _ _ (fun z => absurd z.2 (by decide))]
        have tkw9_a0_5 : (Iw9 a0 5).toInt = (Iw2 a0 5).toInt := by rw [eIw9, up2_ne _ _ (fun z => absurd z.2 (by decide))]
        refine g_aload_n C dRd_stepWhole_53 rfl ?_
        refine g_dup C dRd_stepWhole_54 rfl ?_
        refine g_geti C dRd_stepWhole_55 fl_Rd_37 h0 ?_
        have r_55 := rg (Iw9 a0 5)
        refine g_iconst (v := Int32.ofInt (1)) C dRd_stepWhole_58 (by decide) ?_
        first | refine n_iadd C dRd_stepWhole_59 rfl (ofI (by decide)) (by omega) (fun z_59 e_59 => ?_) | refine a_iadd C dRd_stepWhole_59 (fun z_59 => ?_)
        refine gt_puti C dRd_stepWhole_60 fl_Rd_37 h0 hVw9 rfl trivial rfl (Or.inl rfl) (fun Iw10 eIw10 hVw10 => ?_)
        have tkw10_a0_4 : (Iw10 a0 4).toInt = (Iw9 a0 4).toInt := by rw [eIw10, up2_ne _ _ (fun z => absurd z.2 (by decide))]
        have tkw10_a0_5 : (Iw10 a0 5).toInt = z_59.toInt := by rw [eIw10, up2_self]
        refine g_goto 5 C dRd_stepWhole_63 (by decide) ?_
        exact g_sub (ih_5 _ (by omega)  Iw10 Jw2 rfl  hVw10) ⟨rfl, trivial⟩
  exact g_sub (lp_5 _  Iw1 J0 rfl  hVw1) ⟨rfl, trivial⟩
set_option maxHeartbeats 4000000 in
set_option maxRecDepth 100000 in
theorem cRd_step {P : List Nat} {K : Nat → Nat} {I0 : Nat → Nat → Int32} {O : Nat → Nat → Option Nat} {J0 : Nat → Nat → Int64} (hV : IV P K I0 O) {a0 : Nat} (h0 : a0 ∈ P ∧ K a0 = 5) : Con yRd_step bRd_step 2 none ({ frames := 2, cells := 0, slots := 0, locals := 41 } : Room) P K I0 O J0 [.ref a0] (SPo frC 0 (tt) P K I0 O J0) := by
  refine Con.ofG mfRd_step (Nat.le_of_ble_eq_true rfl) ?_
  intro X C E
  have hV0 : SV frC P K O I0 J0 I0 J0 := SV.rf hV
  refine g_aload_n C dRd_step_0 rfl ?_
  refine g_aload_n C dRd_step_1 rfl ?_
  refine g_geti C dRd_step_2 fl_Rd_37 h0 ?_
  have r_2 := rg (I0 a0 5)
  refine gt_puti C dRd_step_5 fl_Rd_62 h0 hV0 rfl trivial rfl (Or.inl rfl) (fun Iw1 eIw1 hVw1 => ?_)
  have tkw1_a0_3 : (Iw1 a0 3).toInt = (I0 a0 5).toInt := by rw [eIw1, up2_self]
  have tkw1_a0_4 : (Iw1 a0 4).toInt = (I0 a0 4).toInt := by rw [eIw1, up2_ne _ _ (fun z => absurd z.2 (by decide))]
  have lp_8 : ∀ (nn_8 : Nat)  (Iw2 : Nat → Nat → Int32) (Jw2 : Nat → Nat → Int64), Int.toNat (Int32.toInt (Iw2 a0 4) - Int32.toInt (Iw2 a0 3)) = nn_8 →  SV frC P K O I0 J0 Iw2 Jw2 → GG X 2 P K Iw2 O Jw2 0 0 8 [(0, .ref a0)] [] := by
    intro nn_8
    induction nn_8 using Nat.strongRecOn with
    | ind nn_8 ih_8 =>
    intro  Iw2 Jw2 hn_8  hVw2
    refine g_aload_n C dRd_step_8 rfl ?_
    refine g_geti C dRd_step_9 fl_Rd_62 h0 ?_
    have r_9 := rg (Iw2 a0 3)
    refine g_aload_n C dRd_step_12 rfl ?_
    refine g_geti C dRd_step_13 fl_Rd_34 h0 ?_
    have r_13 := rg (Iw2 a0 4)
    have jn_45 : ∀   (Iw3 : Nat → Nat → Int32) (Jw3 : Nat → Nat → Int64),  SV frC P K O I0 J0 Iw3 Jw3 → GG X 2 P K Iw3 O Jw3 0 0 45 [(0, .ref a0)] [] := by
      intro Iw3 Jw3 hVw3
      refine g_aload_n C dRd_step_45 rfl ?_
      refine g_aload_n C dRd_step_46 rfl ?_
      refine g_geti C dRd_step_47 fl_Rd_62 h0 ?_
      have r_47 := rg (Iw3 a0 3)
      refine gt_puti C dRd_step_50 fl_Rd_37 h0 hVw3 rfl trivial rfl (Or.inl rfl) (fun Iw4 eIw4 hVw4 => ?_)
      have tkw4_a0_3 : (Iw4 a0 3).toInt = (Iw3 a0 3).toInt := by rw [eIw4, up2_ne _ _ (fun z => absurd z.2 (by decide))]
      have tkw4_a0_4 : (Iw4 a0 4).toInt = (Iw3 a0 4).toInt := by rw [eIw4, up2_ne _ _ (fun z => absurd z.2 (by decide))]
      refine g_aload_n C dRd_step_53 rfl ?_
      refine g_aload_n C dRd_step_54 rfl ?_
      refine g_geti C dRd_step_55 fl_Rd_62 h0 ?_
      have r_55 := rg (Iw4 a0 3)
      refine s_callV_ip (av := fun ad => [.int (Iw4 a0 3)]) C dRd_step_58 mfRd_byteAt mvRd_byteAt ln_Rd_65 h0 (by decide) rfl (cRd_byteAt hVw4.1 h0) rfl rfl (Nat.le_of_ble_eq_true rfl) ⟨Nat.le_of_ble_eq_true rfl, Nat.le_of_ble_eq_true rfl⟩ ⟨rfl, rfl⟩ ⟨Nat.zero_le _, Nat.zero_le _⟩ (fun z_58 p_58 => ?_)
      have rz_58 := rg z_58
      refine g_istore_n (i := 1) C dRd_step_61 rfl (by decide) ?_
      refine g_aload_n C dRd_step_62 rfl ?_
      refine g_geti C dRd_step_63 fl_Rd_62 h0 ?_
      have r_63 := rg (Iw4 a0 3)
      refine g_aload_n C dRd_step_66 rfl ?_
      refine g_geti C dRd_step_67 fl_Rd_34 h0 ?_
      have r_67 := rg (Iw4 a0 4)
      refine gt_icmp_lt 81 C dRd_step_70 (by decide) rfl rfl (fun c_70 => ?_) (fun c_70 => ?_)
      · skip
        refine g_iload_n C dRd_step_81 rfl ?_
        refine s_callS_zp (av := fun ad => [.int z_58]) C dRd_step_82 mfRd_isLetter msRd_isLetter ln_Rd_69 (cRd_isLetter hVw4.1 ) rfl rfl (Nat.le_of_ble_eq_true rfl) ⟨Nat.le_of_ble_eq_true rfl, Nat.le_of_ble_eq_true rfl⟩ ⟨rfl, rfl⟩ ⟨Nat.zero_le _, Nat.zero_le _⟩ (fun z_82 b_82 p_82 => ?_)
        have rz_82 := rg z_82
        have u_82 := b_82
        unfold B01 at u_82
        refine gt_if_eq 95 C dRd_step_85 (by decide) rfl (fun c_85 => ?_) (fun c_85 => ?_)
        · skip
          refine g_iload_n C dRd_step_95 rfl ?_
          refine s_callS_zp (av := fun ad => [.int z_58]) C dRd_step_96 mfRd_isDigit msRd_isDigit ln_Rd_75 (cRd_isDigit hVw4.1 ) rfl rfl (Nat.le_of_ble_eq_true rfl) ⟨Nat.le_of_ble_eq_true rfl, Nat.le_of_ble_eq_true rfl⟩ ⟨rfl, rfl⟩ ⟨Nat.zero_le _, Nat.zero_le _⟩ (fun z_96 b_96 p_96 => ?_)
          have rz_96 := rg z_96
          have u_96 := b_96
          unfold B01 at u_96
          refine gt_if_eq 109 C dRd_step_99 (by decide) rfl (fun c_99 => ?_) (fun c_99 => ?_)
          · skip
            refine g_aload_n C dRd_step_109 rfl ?_
            refine g_iload_n C dRd_step_110 rfl ?_
            refine g_bipush (v := Int32.ofInt (59)) C dRd_step_111 (by decide) ?_
            have jn_127 : ∀  (s0_127 : Int32) (Iw8 : Nat → Nat → Int32) (Jw8 : Nat → Nat → Int64),  SV frC P K O I0 J0 Iw8 Jw8 → GG X 2 P K Iw8 O Jw8 0 0 127 [(0, .ref a0), (1, .int z_58)] [.int s0_127, .ref a0] := by
              intro s0_127 Iw8 Jw8 hVw8
              refine gt_puti C dRd_step_127 fl_Rd_47 h0 hVw8 rfl trivial rfl (Or.inl rfl) (fun Iw9 eIw9 hVw9 => ?_)
              have tkw9_a0_3 : (Iw9 a0 3).toInt = (Iw8 a0 3).toInt := by rw [eIw9, up2_ne _ _ (fun z => absurd z.2 (by decide))]
              have tkw9_a0_4 : (Iw9 a0 4).toInt = (Iw8 a0 4).toInt := by rw [eIw9, up2_ne _ _ (fun z => absurd z.2 (by decide))]
              refine g_aload_n C dRd_step_130 rfl ?_
              refine g_aload_n C dRd_step_131 rfl ?_
              refine g_geti C dRd_step_132 fl_Rd_62 h0 ?_
              have r_132 := rg (Iw9 a0 3)
              refine g_iconst (v := Int32.ofInt (1)) C dRd_step_135 (by decide) ?_
              first | refine n_iadd C dRd_step_136 rfl (ofI (by decide)) (by omega) (fun z_136 e_136 => ?_) | refine a_iadd C dRd_step_136 (fun z_136 => ?_)
              refine gt_puti C dRd_step_137 fl_Rd_37 h0 hVw9 rfl trivial rfl (Or.inl rfl) (fun Iw10 eIw10 hVw10 => ?_)
              have tkw10_a0_3 : (Iw10 a0 3).toInt = (Iw9 a0 3).toInt := by rw [eIw10, up2_ne _ _ (fun z => absurd z.2 (by decide))]
              have tkw10_a0_4 : (Iw10 a0 4).toInt = (Iw9 a0 4).toInt := by rw [eIw10, up2_ne _ _ (fun z => absurd z.2 (by decide))]
              exact s_vret C E dRd_step_140 ⟨Nat.zero_le _, Nat.zero_le _⟩ hVw10 trivial
            have jn_122 : ∀   (Iw11 : Nat → Nat → Int32) (Jw11 : Nat → Nat → Int64),  SV frC P K O I0 J0 Iw11 Jw11 → GG X 2 P K Iw11 O Jw11 0 0 122 [(0, .ref a0), (1, .int z_58)] [.ref a0] := by
              intro Iw11 Jw11 hVw11
              refine g_iconst (v := Int32.ofInt (4)) C dRd_step_122 (by decide) ?_
              refine g_goto 127 C dRd_step_123 (by decide) ?_
              exact g_sub (jn_127 (Int32.ofInt (4)) Iw11 Jw11  hVw11) ⟨rfl, rfl, trivial⟩
            refine gt_icmp_eq 122 C dRd_step_113 (by decide) rfl (ofI (by decide)) (fun c_113 => ?_) (fun c_113 => ?_)
            · skip
              exact g_sub (jn_122  Iw4 Jw3  hVw4) ⟨rfl, rfl, trivial⟩
            · skip
              refine g_iload_n C dRd_step_116 rfl ?_
              refine g_bipush (v := Int32.ofInt (44)) C dRd_step_117 (by decide) ?_
              refine gt_icmp_ne 126 C dRd_step_119 (by decide) rfl (ofI (by decide)) (fun c_119 => ?_) (fun c_119 => ?_)
              · skip
                refine g_iconst (v := Int32.ofInt (1)) C dRd_step_126 (by decide) ?_
                exact g_sub (jn_127 (Int32.ofInt (1)) Iw4 Jw3  hVw4) ⟨rfl, rfl, trivial⟩
              · skip
                exact g_sub (jn_122  Iw4 Jw3  hVw4) ⟨rfl, rfl, trivial⟩
          · skip
            refine g_aload_n C dRd_step_102 rfl ?_
            refine s_callV_v (av := fun ad => []) C dRd_step_103 mfRd_stepWhole mvRd_stepWhole ln_Rd_78 h0 (by decide) rfl hVw4 fr_CC (cRd_stepWhole hVw4.1 h0) rfl rfl (Nat.le_of_ble_eq_true rfl) ⟨Nat.le_of_ble_eq_true rfl, Nat.le_of_ble_eq_true rfl⟩ ⟨rfl, rfl⟩ ⟨Nat.zero_le _, Nat.zero_le _⟩ (fun Iw12 Jw12 hVw12 hFw12 p_103 => ?_)
            refine g_goto 140 C dRd_step_106 (by decide) ?_
            exact s_vret C E dRd_step_140 ⟨Nat.zero_le _, Nat.zero_le _⟩ hVw12 trivial
        · skip
          refine g_aload_n C dRd_step_88 rfl ?_
          refine s_callV_v (av := fun ad => []) C dRd_step_89 mfRd_stepWord mvRd_stepWord ln_Rd_72 h0 (by decide) rfl hVw4 fr_CC (cRd_stepWord hVw4.1 h0) rfl rfl (Nat.le_of_ble_eq_true rfl) ⟨Nat.le_of_ble_eq_true rfl, Nat.le_of_ble_eq_true rfl⟩ ⟨rfl, rfl⟩ ⟨Nat.zero_le _, Nat.zero_le _⟩ (fun Iw13 Jw13 hVw13 hFw13 p_89 => ?_)
          refine g_goto 140 C dRd_step_92 (by decide) ?_
          exact s_vret C E dRd_step_140 ⟨Nat.zero_le _, Nat.zero_le _⟩ hVw13 trivial
      · skip
        refine g_aload_n C dRd_step_73 rfl ?_
        refine g_iconst (v := Int32.ofInt (0)) C dRd_step_74 (by decide) ?_
        refine gt_puti C dRd_step_75 fl_Rd_47 h0 hVw4 rfl trivial rfl (Or.inl rfl) (fun Iw14 eIw14 hVw14 => ?_)
        have tkw14_a0_3 : (Iw14 a0 3).toInt = (Iw4 a0 3).toInt := by rw [eIw14, up2_ne _ _ (fun z => absurd z.2 (by decide))]
        have tkw14_a0_4 : (Iw14 a0 4).toInt = (Iw4 a0 4).toInt := by rw [eIw14, up2_ne _ _ (fun z => absurd z.2 (by decide))]
        refine g_goto 140 C dRd_step_78 (by decide) ?_
        exact s_vret C E dRd_step_140 ⟨Nat.zero_le _, Nat.zero_le _⟩ hVw14 trivial
    refine gt_icmp_ge 45 C dRd_step_16 (by decide) rfl rfl (fun c_16 => ?_) (fun c_16 => ?_)
    · skip
      exact g_sub (jn_45  Iw2 Jw2  hVw2) ⟨rfl, trivial⟩
    · skip
      refine g_aload_n C dRd_step_19 rfl ?_
      refine g_aload_n C dRd_step_20 rfl ?_
      refine g_geti C dRd_step_21 fl_Rd_62 h0 ?_
      have r_21 := rg (Iw2 a0 3)
      refine s_callV_ip (av := fun ad => [.int (Iw2 a0 3)]) C dRd_step_24 mfRd_byteAt mvRd_byteAt ln_Rd_65 h0 (by decide) rfl (cRd_byteAt hVw2.1 h0) rfl rfl (Nat.le_of_ble_eq_true rfl) ⟨Nat.le_of_ble_eq_true rfl, Nat.le_of_ble_eq_true rfl⟩ ⟨rfl, rfl⟩ ⟨Nat.zero_le _, Nat.zero_le _⟩ (fun z_24 p_24 => ?_)
      have rz_24 := rg z_24
      refine g_bipush (v := Int32.ofInt (32)) C dRd_step_27 (by decide) ?_
      refine gt_icmp_ne 45 C dRd_step_29 (by decide) rfl (ofI (by decide)) (fun c_29 => ?_) (fun c_29 => ?_)
      · skip
        exact g_sub (jn_45  Iw2 Jw2  hVw2) ⟨rfl, trivial⟩
      · skip
        refine g_aload_n C dRd_step_32 rfl ?_
        refine g_dup C dRd_step_33 rfl ?_
        refine g_geti C dRd_step_34 fl_Rd_62 h0 ?_
        have r_34 := rg (Iw2 a0 3)
        refine g_iconst (v := Int32.ofInt (1)) C dRd_step_37 (by decide) ?_
        first | refine n_iadd C dRd_step_38 rfl (ofI (by decide)) (by omega) (fun z_38 e_38 => ?_) | refine a_iadd C dRd_step_38 (fun z_38 => ?_)
        refine gt_puti C dRd_step_39 fl_Rd_62 h0 hVw2 rfl trivial rfl (Or.inl rfl) (fun Iw16 eIw16 hVw16 => ?_)
        have tkw16_a0_3 : (Iw16 a0 3).toInt = z_38.toInt := by rw [eIw16, up2_self]
        have tkw16_a0_4 : (Iw16 a0 4).toInt = (Iw2 a0 4).toInt := by rw [eIw16, up2_ne _ _ (fun z => absurd z.2 (by decide))]
        refine g_goto 8 C dRd_step_42 (by decide) ?_
        exact g_sub (ih_8 _ (by omega)  Iw16 Jw2 rfl  hVw16) ⟨rfl, trivial⟩
  exact g_sub (lp_8 _  Iw1 J0 rfl  hVw1) ⟨rfl, trivial⟩
set_option maxHeartbeats 4000000 in
set_option maxRecDepth 100000 in
theorem cRd_isSign {P : List Nat} {K : Nat → Nat} {I0 : Nat → Nat → Int32} {O : Nat → Nat → Option Nat} {J0 : Nat → Nat → Int64} (hV : IV P K I0 O) {a0 : Nat} (h0 : a0 ∈ P ∧ K a0 = 5) {x1 : Int32} : Con yRd_isSign bRd_isSign 2 (some .boolean) ({ frames := 1, cells := 0, slots := 0, locals := 21 } : Room) P K I0 O J0 [.ref a0, .int x1] (SPo frP 2 (tt) P K I0 O J0) := by
  refine Con.ofG mfRd_isSign (Nat.le_of_ble_eq_true rfl) ?_
  intro X C E
  have r1 := rg x1
  have hV0 : SV frP P K O I0 J0 I0 J0 := SV.rf hV
  refine g_aload_n C dRd_isSign_0 rfl ?_
  refine g_geti C dRd_isSign_1 fl_Rd_47 h0 ?_
  refine g_iconst (v := Int32.ofInt (4)) C dRd_isSign_4 (by decide) ?_
  refine gt_icmp_ne 24 C dRd_isSign_5 (by decide) rfl (ofI (by decide)) (fun c_5 => ?_) (fun c_5 => ?_)
  · skip
    refine g_iconst (v := Int32.ofInt (0)) C dRd_isSign_24 (by decide) ?_
    exact s_zret C E dRd_isSign_25 ⟨Nat.zero_le _, Nat.zero_le _⟩ hV0 (Or.inl (ofI (by decide))) trivial
  · skip
    refine g_aload_n C dRd_isSign_8 rfl ?_
    refine g_aload_n C dRd_isSign_9 rfl ?_
    refine g_geti C dRd_isSign_10 fl_Rd_62 h0 ?_
    refine s_callV_ip (av := fun ad => [.int (I0 a0 3)]) C dRd_isSign_13 mfRd_byteAt mvRd_byteAt ln_Rd_65 h0 (by decide) rfl (cRd_byteAt hV0.1 h0) rfl rfl (Nat.le_of_ble_eq_true rfl) ⟨Nat.le_of_ble_eq_true rfl, Nat.le_of_ble_eq_true rfl⟩ ⟨rfl, rfl⟩ ⟨Nat.zero_le _, Nat.zero_le _⟩ (fun z_13 p_13 => ?_)
    have rz_13 := rg z_13
    refine g_iload_n C dRd_isSign_16 rfl ?_
    refine gt_icmp_ne 24 C dRd_isSign_17 (by decide) rfl rfl (fun c_17 => ?_) (fun c_17 => ?_)
    · skip
      refine g_iconst (v := Int32.ofInt (0)) C dRd_isSign_24 (by decide) ?_
      exact s_zret C E dRd_isSign_25 ⟨Nat.zero_le _, Nat.zero_le _⟩ hV0 (Or.inl (ofI (by decide))) trivial
    · skip
      refine g_iconst (v := Int32.ofInt (1)) C dRd_isSign_20 (by decide) ?_
      refine g_goto 25 C dRd_isSign_21 (by decide) ?_
      exact s_zret C E dRd_isSign_25 ⟨Nat.zero_le _, Nat.zero_le _⟩ hV0 (Or.inr (ofI (by decide))) trivial
set_option maxHeartbeats 4000000 in
set_option maxRecDepth 100000 in
theorem cRd_isWord {P : List Nat} {K : Nat → Nat} {I0 : Nat → Nat → Int32} {O : Nat → Nat → Option Nat} {J0 : Nat → Nat → Int64} (hV : IV P K I0 O) {a0 : Nat} (h0 : a0 ∈ P ∧ K a0 = 5) {i1 : Nat} (h1 : i1 < 31) : ConA yRd_isWord bRd_isWord 3 (some .boolean) ({ frames := 4, cells := 0, slots := 0, locals := 85 } : Room) P K I0 O J0 (fun ad => [.ref a0, .ref (ad.1 i1)]) (SPo frP 2 (tt) P K I0 O J0) := by
  refine ConA.ofG mfRd_isWord (fun _ => Nat.le_of_ble_eq_true rfl) ?_
  intro X C E
  have hV0 : SV frP P K O I0 J0 I0 J0 := SV.rf hV
  refine g_aload_n C dRd_isWord_0 rfl ?_
  refine g_geti C dRd_isWord_1 fl_Rd_47 h0 ?_
  refine g_iconst (v := Int32.ofInt (2)) C dRd_isWord_4 (by decide) ?_
  refine gt_icmp_ne 24 C dRd_isWord_5 (by decide) rfl (ofI (by decide)) (fun c_5 => ?_) (fun c_5 => ?_)
  · skip
    refine g_iconst (v := Int32.ofInt (0)) C dRd_isWord_24 (by decide) ?_
    exact s_zret C E dRd_isWord_25 ⟨Nat.zero_le _, Nat.zero_le _⟩ hV0 (Or.inl (ofI (by decide))) trivial
  · skip
    refine g_aload_n C dRd_isWord_8 rfl ?_
    refine g_geti C dRd_isWord_9 fl_Rd_37 h0 ?_
    refine g_aload_n C dRd_isWord_12 rfl ?_
    refine g_geti C dRd_isWord_13 fl_Rd_62 h0 ?_
    first | refine n_isub C dRd_isWord_16 rfl rfl (by omega) (fun z_16 e_16 => ?_) | refine a_isub C dRd_isWord_16 (fun z_16 => ?_)
    refine g_aload_n C dRd_isWord_17 rfl ?_
    refine s_callW_ip (av := fun _ => []) C dRd_isWord_18 mfJS_length mvJS_length ln_Rd_84 h1 rfl (cJS_length hV0.1 h1) rfl rfl (Nat.le_of_ble_eq_true rfl) ⟨Nat.le_of_ble_eq_true rfl, Nat.le_of_ble_eq_true rfl⟩ ⟨rfl, rfl⟩ ⟨Nat.zero_le _, Nat.zero_le _⟩ (fun z_18 p_18 => ?_)
    have rz_18 := rg z_18
    try dsimp only at p_18
    refine gt_icmp_eq 26 C dRd_isWord_21 (by decide) rfl rfl (fun c_21 => ?_) (fun c_21 => ?_)
    · skip
      refine g_iconst (v := Int32.ofInt (0)) C dRd_isWord_26 (by decide) ?_
      refine g_istore_n (i := 2) C dRd_isWord_27 rfl (by decide) ?_
      have lp_28 : ∀ (nn_28 : Nat) (x2_28 : Int32), Int.toNat (((sLen.getD i1 0 : Nat) : Int) - x2_28.toInt) = nn_28 → (0 ≤ Int32.toInt x2_28) → GG X 3 P K I0 O J0 0 0 28 [(0, .ref a0), (1, .ref ((adX X).1 i1)), (2, .int x2_28)] [] := by
        intro nn_28
        induction nn_28 using Nat.strongRecOn with
        | ind nn_28 ih_28 =>
        intro x2_28  hn_28 iv0_28 
        have rg2_28 := rg x2_28
        refine g_iload_n C dRd_isWord_28 rfl ?_
        refine g_aload_n C dRd_isWord_29 rfl ?_
        refine s_callW_ip (av := fun _ => []) C dRd_isWord_30 mfJS_length mvJS_length ln_Rd_84 h1 rfl (cJS_length hV0.1 h1) rfl rfl (Nat.le_of_ble_eq_true rfl) ⟨Nat.le_of_ble_eq_true rfl, Nat.le_of_ble_eq_true rfl⟩ ⟨rfl, rfl⟩ ⟨Nat.zero_le _, Nat.zero_le _⟩ (fun z_30 p_30 => ?_)
        have rz_30 := rg z_30
        try dsimp only at p_30
        refine gt_icmp_ge 62 C dRd_isWord_33 (by decide) rfl rfl (fun c_33 => ?_) (fun c_33 => ?_)
        · skip
          refine g_iconst (v := Int32.ofInt (1)) C dRd_isWord_62 (by decide) ?_
          exact s_zret C E dRd_isWord_63 ⟨Nat.zero_le _, Nat.zero_le _⟩ hV0 (Or.inr (ofI (by decide))) trivial
        · skip
          refine g_aload_n C dRd_isWord_36 rfl ?_
          refine g_aload_n C dRd_isWord_37 rfl ?_
          refine g_geti C dRd_isWord_38 fl_Rd_62 h0 ?_
          refine g_iload_n C dRd_isWord_41 rfl ?_
          first | refine n_iadd C dRd_isWord_42 rfl rfl (by omega) (fun z_42 e_42 => ?_) | refine a_iadd C dRd_isWord_42 (fun z_42 => ?_)
          refine s_callV_ip (av := fun ad => [.int z_42]) C dRd_isWord_43 mfRd_byteAt mvRd_byteAt ln_Rd_65 h0 (by decide) rfl (cRd_byteAt hV0.1 h0) rfl rfl (Nat.le_of_ble_eq_true rfl) ⟨Nat.le_of_ble_eq_true rfl, Nat.le_of_ble_eq_true rfl⟩ ⟨rfl, rfl⟩ ⟨Nat.zero_le _, Nat.zero_le _⟩ (fun z_43 p_43 => ?_)
          have rz_43 := rg z_43
          refine g_aload_n C dRd_isWord_46 rfl ?_
          refine g_iload_n C dRd_isWord_47 rfl ?_
          refine s_callW_ip (av := fun _ => [.int x2_28]) C dRd_isWord_48 mfJS_charAt mvJS_charAt ln_Rd_89 h1 rfl (cJS_charAt hV0.1 h1 (by omega)) rfl rfl (Nat.le_of_ble_eq_true rfl) ⟨Nat.le_of_ble_eq_true rfl, Nat.le_of_ble_eq_true rfl⟩ ⟨rfl, rfl⟩ ⟨Nat.zero_le _, Nat.zero_le _⟩ (fun z_48 p_48 => ?_)
          have rz_48 := rg z_48
          try dsimp only at p_48
          refine gt_icmp_eq 56 C dRd_isWord_51 (by decide) rfl rfl (fun c_51 => ?_) (fun c_51 => ?_)
          · skip
            first | refine n_iinc C dRd_isWord_56 rfl rfl (by decide) (by decide) (by omega) (fun z_56 e_56 => ?_) | refine a_iinc C dRd_isWord_56 rfl (by decide) (fun z_56 => ?_)
            refine g_goto 28 C dRd_isWord_59 (by decide) ?_
            exact g_sub (ih_28 _ (by omega) z_56  rfl (by omega) ) ⟨rfl, rfl, rfl, trivial⟩
          · skip
            refine g_iconst (v := Int32.ofInt (0)) C dRd_isWord_54 (by decide) ?_
            exact s_zret C E dRd_isWord_55 ⟨Nat.zero_le _, Nat.zero_le _⟩ hV0 (Or.inl (ofI (by decide))) trivial
      exact g_sub (lp_28 _ (Int32.ofInt (0))  rfl (by have hci : Int32.toInt (Int32.ofInt (0)) = 0 := ofI (by decide); omega) ) ⟨rfl, rfl, rfl, trivial⟩
    · skip
      refine g_iconst (v := Int32.ofInt (0)) C dRd_isWord_24 (by decide) ?_
      exact s_zret C E dRd_isWord_25 ⟨Nat.zero_le _, Nat.zero_le _⟩ hV0 (Or.inl (ofI (by decide))) trivial
set_option maxHeartbeats 4000000 in
set_option maxRecDepth 100000 in
theorem cRd_isName {P : List Nat} {K : Nat → Nat} {I0 : Nat → Nat → Int32} {O : Nat → Nat → Option Nat} {J0 : Nat → Nat → Int64} (hV : IV P K I0 O) {a0 : Nat} (h0 : a0 ∈ P ∧ K a0 = 5) : Con yRd_isName bRd_isName 1 (some .boolean) ({ frames := 5, cells := 0, slots := 0, locals := 107 } : Room) P K I0 O J0 [.ref a0] (SPo frP 2 (tt) P K I0 O J0) := by
  refine Con.ofG mfRd_isName (Nat.le_of_ble_eq_true rfl) ?_
  intro X C E
  have hV0 : SV frP P K O I0 J0 I0 J0 := SV.rf hV
  refine g_aload_n C dRd_isName_0 rfl ?_
  refine g_geti C dRd_isName_1 fl_Rd_47 h0 ?_
  refine g_iconst (v := Int32.ofInt (2)) C dRd_isName_4 (by decide) ?_
  refine gt_icmp_ne 75 C dRd_isName_5 (by decide) rfl (ofI (by decide)) (fun c_5 => ?_) (fun c_5 => ?_)
  · skip
    refine g_iconst (v := Int32.ofInt (0)) C dRd_isName_75 (by decide) ?_
    exact s_zret C E dRd_isName_76 ⟨Nat.zero_le _, Nat.zero_le _⟩ hV0 (Or.inl (ofI (by decide))) trivial
  · skip
    refine g_aload_n C dRd_isName_8 rfl ?_
    refine g_ldcS 0 C dRd_isName_9 rfl ?_
    refine s_callV_zp (av := fun ad => [.ref (ad.1 0)]) C dRd_isName_11 mfRd_isWord mvRd_isWord ln_Rd_95 h0 (by decide) rfl (cRd_isWord hV0.1 h0 (by decide)) rfl rfl (Nat.le_of_ble_eq_true rfl) ⟨Nat.le_of_ble_eq_true rfl, Nat.le_of_ble_eq_true rfl⟩ ⟨rfl, rfl⟩ ⟨Nat.zero_le _, Nat.zero_le _⟩ (fun z_11 b_11 p_11 => ?_)
    have rz_11 := rg z_11
    have u_11 := b_11
    unfold B01 at u_11
    refine gt_if_ne 75 C dRd_isName_14 (by decide) rfl (fun c_14 => ?_) (fun c_14 => ?_)
    · skip
      refine g_iconst (v := Int32.ofInt (0)) C dRd_isName_75 (by decide) ?_
      exact s_zret C E dRd_isName_76 ⟨Nat.zero_le _, Nat.zero_le _⟩ hV0 (Or.inl (ofI (by decide))) trivial
    · skip
      refine g_aload_n C dRd_isName_17 rfl ?_
      refine g_ldcS 3 C dRd_isName_18 rfl ?_
      refine s_callV_zp (av := fun ad => [.ref (ad.1 3)]) C dRd_isName_20 mfRd_isWord mvRd_isWord ln_Rd_95 h0 (by decide) rfl (cRd_isWord hV0.1 h0 (by decide)) rfl rfl (Nat.le_of_ble_eq_true rfl) ⟨Nat.le_of_ble_eq_true rfl, Nat.le_of_ble_eq_true rfl⟩ ⟨rfl, rfl⟩ ⟨Nat.zero_le _, Nat.zero_le _⟩ (fun z_20 b_20 p_20 => ?_)
      have rz_20 := rg z_20
      have u_20 := b_20
      unfold B01 at u_20
      refine gt_if_ne 75 C dRd_isName_23 (by decide) rfl (fun c_23 => ?_) (fun c_23 => ?_)
      · skip
        refine g_iconst (v := Int32.ofInt (0)) C dRd_isName_75 (by decide) ?_
        exact s_zret C E dRd_isName_76 ⟨Nat.zero_le _, Nat.zero_le _⟩ hV0 (Or.inl (ofI (by decide))) trivial
      · skip
        refine g_aload_n C dRd_isName_26 rfl ?_
        refine g_ldcS 4 C dRd_isName_27 rfl ?_
        refine s_callV_zp (av := fun ad => [.ref (ad.1 4)]) C dRd_isName_29 mfRd_isWord mvRd_isWord ln_Rd_95 h0 (by decide) rfl (cRd_isWord hV0.1 h0 (by decide)) rfl rfl (Nat.le_of_ble_eq_true rfl) ⟨Nat.le_of_ble_eq_true rfl, Nat.le_of_ble_eq_true rfl⟩ ⟨rfl, rfl⟩ ⟨Nat.zero_le _, Nat.zero_le _⟩ (fun z_29 b_29 p_29 => ?_)
        have rz_29 := rg z_29
        have u_29 := b_29
        unfold B01 at u_29
        refine gt_if_ne 75 C dRd_isName_32 (by decide) rfl (fun c_32 => ?_) (fun c_32 => ?_)
        · skip
          refine g_iconst (v := Int32.ofInt (0)) C dRd_isName_75 (by decide) ?_
          exact s_zret C E dRd_isName_76 ⟨Nat.zero_le _, Nat.zero_le _⟩ hV0 (Or.inl (ofI (by decide))) trivial
        · skip
          refine g_aload_n C dRd_isName_35 rfl ?_
          refine g_ldcS 5 C dRd_isName_36 rfl ?_
          refine s_callV_zp (av := fun ad => [.ref (ad.1 5)]) C dRd_isName_38 mfRd_isWord mvRd_isWord ln_Rd_95 h0 (by decide) rfl (cRd_isWord hV0.1 h0 (by decide)) rfl rfl (Nat.le_of_ble_eq_true rfl) ⟨Nat.le_of_ble_eq_true rfl, Nat.le_of_ble_eq_true rfl⟩ ⟨rfl, rfl⟩ ⟨Nat.zero_le _, Nat.zero_le _⟩ (fun z_38 b_38 p_38 => ?_)
          have rz_38 := rg z_38
          have u_38 := b_38
          unfold B01 at u_38
          refine gt_if_ne 75 C dRd_isName_41 (by decide) rfl (fun c_41 => ?_) (fun c_41 => ?_)
          · skip
            refine g_iconst (v := Int32.ofInt (0)) C dRd_isName_75 (by decide) ?_
            exact s_zret C E dRd_isName_76 ⟨Nat.zero_le _, Nat.zero_le _⟩ hV0 (Or.inl (ofI (by decide))) trivial
          · skip
            refine g_aload_n C dRd_isName_44 rfl ?_
            refine g_ldcS 6 C dRd_isName_45 rfl ?_
            refine s_callV_zp (av := fun ad => [.ref (ad.1 6)]) C dRd_isName_47 mfRd_isWord mvRd_isWord ln_Rd_95 h0 (by decide) rfl (cRd_isWord hV0.1 h0 (by decide)) rfl rfl (Nat.le_of_ble_eq_true rfl) ⟨Nat.le_of_ble_eq_true rfl, Nat.le_of_ble_eq_true rfl⟩ ⟨rfl, rfl⟩ ⟨Nat.zero_le _, Nat.zero_le _⟩ (fun z_47 b_47 p_47 => ?_)
            have rz_47 := rg z_47
            have u_47 := b_47
            unfold B01 at u_47
            refine gt_if_ne 75 C dRd_isName_50 (by decide) rfl (fun c_50 => ?_) (fun c_50 => ?_)
            · skip
              refine g_iconst (v := Int32.ofInt (0)) C dRd_isName_75 (by decide) ?_
              exact s_zret C E dRd_isName_76 ⟨Nat.zero_le _, Nat.zero_le _⟩ hV0 (Or.inl (ofI (by decide))) trivial
            · skip
              refine g_aload_n C dRd_isName_53 rfl ?_
              refine g_ldcS 7 C dRd_isName_54 rfl ?_
              refine s_callV_zp (av := fun ad => [.ref (ad.1 7)]) C dRd_isName_56 mfRd_isWord mvRd_isWord ln_Rd_95 h0 (by decide) rfl (cRd_isWord hV0.1 h0 (by decide)) rfl rfl (Nat.le_of_ble_eq_true rfl) ⟨Nat.le_of_ble_eq_true rfl, Nat.le_of_ble_eq_true rfl⟩ ⟨rfl, rfl⟩ ⟨Nat.zero_le _, Nat.zero_le _⟩ (fun z_56 b_56 p_56 => ?_)
              have rz_56 := rg z_56
              have u_56 := b_56
              unfold B01 at u_56
              refine gt_if_ne 75 C dRd_isName_59 (by decide) rfl (fun c_59 => ?_) (fun c_59 => ?_)
              · skip
                refine g_iconst (v := Int32.ofInt (0)) C dRd_isName_75 (by decide) ?_
                exact s_zret C E dRd_isName_76 ⟨Nat.zero_le _, Nat.zero_le _⟩ hV0 (Or.inl (ofI (by decide))) trivial
              · skip
                refine g_aload_n C dRd_isName_62 rfl ?_
                refine g_ldcS 8 C dRd_isName_63 rfl ?_
                refine s_callV_zp (av := fun ad => [.ref (ad.1 8)]) C dRd_isName_65 mfRd_isWord mvRd_isWord ln_Rd_95 h0 (by decide) rfl (cRd_isWord hV0.1 h0 (by decide)) rfl rfl (Nat.le_of_ble_eq_true rfl) ⟨Nat.le_of_ble_eq_true rfl, Nat.le_of_ble_eq_true rfl⟩ ⟨rfl, rfl⟩ ⟨Nat.zero_le _, Nat.zero_le _⟩ (fun z_65 b_65 p_65 => ?_)
                have rz_65 := rg z_65
                have u_65 := b_65
                unfold B01 at u_65
                refine gt_if_ne 75 C dRd_isName_68 (by decide) rfl (fun c_68 => ?_) (fun c_68 => ?_)
                · skip
                  refine g_iconst (v := Int32.ofInt (0)) C dRd_isName_75 (by decide) ?_
                  exact s_zret C E dRd_isName_76 ⟨Nat.zero_le _, Nat.zero_le _⟩ hV0 (Or.inl (ofI (by decide))) trivial
                · skip
                  refine g_iconst (v := Int32.ofInt (1)) C dRd_isName_71 (by decide) ?_
                  refine g_goto 76 C dRd_isName_72 (by decide) ?_
                  exact s_zret C E dRd_isName_76 ⟨Nat.zero_le _, Nat.zero_le _⟩ hV0 (Or.inr (ofI (by decide))) trivial
set_option maxHeartbeats 4000000 in
set_option maxRecDepth 100000 in
theorem cRd_nameCode {P : List Nat} {K : Nat → Nat} {I0 : Nat → Nat → Int32} {O : Nat → Nat → Option Nat} {J0 : Nat → Nat → Int64} (hV : IV P K I0 O) {a0 : Nat} (h0 : a0 ∈ P ∧ K a0 = 5) : Con yRd_nameCode bRd_nameCode 4 (some .long) ({ frames := 1, cells := 0, slots := 0, locals := 21 } : Room) P K I0 O J0 [.ref a0] (SPo frP 3 (tt) P K I0 O J0) := by
  refine Con.ofG mfRd_nameCode (Nat.le_of_ble_eq_true rfl) ?_
  intro X C E
  have hV0 : SV frP P K O I0 J0 I0 J0 := SV.rf hV
  refine g_lconst (v := 0) C dRd_nameCode_0 (by decide) ?_
  refine g_lstore_n (i := 1) C dRd_nameCode_1 rfl (by decide) ?_
  refine g_aload_n C dRd_nameCode_2 rfl ?_
  refine g_geti C dRd_nameCode_3 fl_Rd_62 h0 ?_
  have r_3 := rg (I0 a0 3)
  refine g_istore_n (i := 3) C dRd_nameCode_6 rfl (by decide) ?_
  have lp_7 : ∀ (nn_7 : Nat) (x1_7 : Int64) (x3_7 : Int32), Int.toNat (Int32.toInt (I0 a0 5) - x3_7.toInt) = nn_7 →  GG X 4 P K I0 O J0 0 0 7 [(0, .ref a0), (1, .long x1_7), (3, .int x3_7)] [] := by
    intro nn_7
    induction nn_7 using Nat.strongRecOn with
    | ind nn_7 ih_7 =>
    intro x1_7 x3_7  hn_7  
    have rg3_7 := rg x3_7
    refine g_iload_n C dRd_nameCode_7 rfl ?_
    refine g_aload_n C dRd_nameCode_8 rfl ?_
    refine g_geti C dRd_nameCode_9 fl_Rd_37 h0 ?_
    have r_9 := rg (I0 a0 5)
    refine gt_icmp_ge 39 C dRd_nameCode_12 (by decide) rfl rfl (fun c_12 => ?_) (fun c_12 => ?_)
    · skip
      refine g_lload_n C dRd_nameCode_39 rfl ?_
      exact s_lret C E dRd_nameCode_40 ⟨Nat.zero_le _, Nat.zero_le _⟩ hV0 trivial
    · skip
      refine g_lload_n C dRd_nameCode_15 rfl ?_
      refine g_ldc2 (v := 32) C dRd_nameCode_16 k_Rd_111 ?_
      refine a_lmul C dRd_nameCode_19 (fun z_19 => ?_)
      refine g_aload_n C dRd_nameCode_20 rfl ?_
      refine g_iload_n C dRd_nameCode_21 rfl ?_
      refine s_callV_ip (av := fun ad => [.int x3_7]) C dRd_nameCode_22 mfRd_byteAt mvRd_byteAt ln_Rd_65 h0 (by decide) rfl (cRd_byteAt hV0.1 h0) rfl rfl (Nat.le_of_ble_eq_true rfl) ⟨Nat.le_of_ble_eq_true rfl, Nat.le_of_ble_eq_true rfl⟩ ⟨rfl, rfl⟩ ⟨Nat.zero_le _, Nat.zero_le _⟩ (fun z_22 p_22 => ?_)
      have rz_22 := rg z_22
      refine g_bipush (v := Int32.ofInt (97)) C dRd_nameCode_25 (by decide) ?_
      first | refine n_isub C dRd_nameCode_27 rfl (ofI (by decide)) (by omega) (fun z_27 e_27 => ?_) | refine a_isub C dRd_nameCode_27 (fun z_27 => ?_)
      refine g_iconst (v := Int32.ofInt (1)) C dRd_nameCode_28 (by decide) ?_
      first | refine n_iadd C dRd_nameCode_29 rfl (ofI (by decide)) (by omega) (fun z_29 e_29 => ?_) | refine a_iadd C dRd_nameCode_29 (fun z_29 => ?_)
      refine gt_i2l C dRd_nameCode_30 (fun z_30 e_30 => ?_)
      refine a_ladd C dRd_nameCode_31 (fun z_31 => ?_)
      refine g_lstore_n (i := 1) C dRd_nameCode_32 rfl (by decide) ?_
      first | refine n_iinc C dRd_nameCode_33 rfl rfl (by decide) (by decide) (by omega) (fun z_33 e_33 => ?_) | refine a_iinc C dRd_nameCode_33 rfl (by decide) (fun z_33 => ?_)
      refine g_goto 7 C dRd_nameCode_36 (by decide) ?_
      exact g_sub (ih_7 _ (by omega) z_31 z_33  rfl  ) ⟨rfl, rfl, rfl, trivial⟩
  exact g_sub (lp_7 _ (0 : Int64) (I0 a0 3)  rfl  ) ⟨rfl, rfl, rfl, trivial⟩
set_option maxHeartbeats 4000000 in
set_option maxRecDepth 100000 in
theorem cRd_placeOf {P : List Nat} {K : Nat → Nat} {I0 : Nat → Nat → Int32} {O : Nat → Nat → Option Nat} {J0 : Nat → Nat → Int64} (hV : IV P K I0 O) {x0 : Int64} {a2 : Nat} (h2 : a2 ∈ P ∧ K a2 = 16) {x3 : Int32} : Con yRd_placeOf bRd_placeOf 5 (some .int) ({ frames := 0, cells := 0, slots := 0, locals := 0 } : Room) P K I0 O J0 [.long x0, .ref a2, .int x3] (SPo frP 1 (tt) P K I0 O J0) := by
  refine Con.ofG mfRd_placeOf (Nat.le_of_ble_eq_true rfl) ?_
  intro X C E
  have r3 := rg x3
  have hV0 : SV frP P K O I0 J0 I0 J0 := SV.rf hV
  refine g_iconst (v := Int32.ofInt (0)) C dRd_placeOf_0 (by decide) ?_
  refine g_istore C dRd_placeOf_1 (by decide) ?_
  have lp_3 : ∀ (nn_3 : Nat) (x4_3 : Int32), Int.toNat (5 - x4_3.toInt) = nn_3 → (0 ≤ Int32.toInt x4_3 ∧ Int32.toInt x4_3 ≤ 5) → GG X 5 P K I0 O J0 0 0 3 [(0, .long x0), (2, .ref a2), (3, .int x3), (4, .int x4_3)] [] := by
    intro nn_3
    induction nn_3 using Nat.strongRecOn with
    | ind nn_3 ih_3 =>
    intro x4_3  hn_3 iv0_3 
    have rg4_3 := rg x4_3
    refine g_iload C dRd_placeOf_3 rfl ?_
    refine g_iload_n C dRd_placeOf_5 rfl ?_
    refine gt_icmp_ge 34 C dRd_placeOf_6 (by decide) rfl rfl (fun c_6 => ?_) (fun c_6 => ?_)
    · skip
      refine g_iconst (v := Int32.ofInt (-1)) C dRd_placeOf_34 (by decide) ?_
      exact s_iret C E dRd_placeOf_35 ⟨Nat.zero_le _, Nat.zero_le _⟩ hV0 trivial
    · skip
      refine g_iload C dRd_placeOf_9 rfl ?_
      refine g_aload_n C dRd_placeOf_11 rfl ?_
      refine gt_alen C dRd_placeOf_12 h2 (by decide) (by decide) (by decide) (n := 5) rfl (fun z_12 e_12 => ?_)
      refine gt_icmp_ge 34 C dRd_placeOf_13 (by decide) rfl rfl (fun c_13 => ?_) (fun c_13 => ?_)
      · skip
        refine g_iconst (v := Int32.ofInt (-1)) C dRd_placeOf_34 (by decide) ?_
        exact s_iret C E dRd_placeOf_35 ⟨Nat.zero_le _, Nat.zero_le _⟩ hV0 trivial
      · skip
        refine g_aload_n C dRd_placeOf_16 rfl ?_
        refine g_iload C dRd_placeOf_17 rfl ?_
        refine gt_lald C dRd_placeOf_19 h2 (by decide) rfl rfl (n := 5) rfl (by omega) ?_
        refine g_lload_n C dRd_placeOf_20 rfl ?_
        refine a_lcmp C dRd_placeOf_21 (fun z_21 => ?_)
        refine gt_if_ne 28 C dRd_placeOf_22 (by decide) rfl (fun c_22 => ?_) (fun c_22 => ?_)
        · skip
          first | refine n_iinc C dRd_placeOf_28 rfl rfl (by decide) (by decide) (by omega) (fun z_28 e_28 => ?_) | refine a_iinc C dRd_placeOf_28 rfl (by decide) (fun z_28 => ?_)
          refine g_goto 3 C dRd_placeOf_31 (by decide) ?_
          exact g_sub (ih_3 _ (by omega) z_28  rfl (by omega) ) ⟨rfl, rfl, rfl, rfl, trivial⟩
        · skip
          refine g_iload C dRd_placeOf_25 rfl ?_
          exact s_iret C E dRd_placeOf_27 ⟨Nat.zero_le _, Nat.zero_le _⟩ hV0 trivial
  exact g_sub (lp_3 _ (Int32.ofInt (0))  rfl (by have hci : Int32.toInt (Int32.ofInt (0)) = 0 := ofI (by decide); omega) ) ⟨rfl, rfl, rfl, rfl, trivial⟩
set_option maxHeartbeats 4000000 in
set_option maxRecDepth 100000 in
theorem cRd_placeOf2 {P : List Nat} {K : Nat → Nat} {I0 : Nat → Nat → Int32} {O : Nat → Nat → Option Nat} {J0 : Nat → Nat → Int64} (hV : IV P K I0 O) {x0 : Int64} {a2 : Nat} (h2 : a2 ∈ P ∧ K a2 = 17) {x3 : Int32} : Con yRd_placeOf bRd_placeOf 5 (some .int) ({ frames := 0, cells := 0, slots := 0, locals := 0 } : Room) P K I0 O J0 [.long x0, .ref a2, .int x3] (SPo frP 1 (tt) P K I0 O J0) := by
  refine Con.ofG mfRd_placeOf (Nat.le_of_ble_eq_true rfl) ?_
  intro X C E
  have r3 := rg x3
  have hV0 : SV frP P K O I0 J0 I0 J0 := SV.rf hV
  refine g_iconst (v := Int32.ofInt (0)) C dRd_placeOf_0 (by decide) ?_
  refine g_istore C dRd_placeOf_1 (by decide) ?_
  have lp_3 : ∀ (nn_3 : Nat) (x4_3 : Int32), Int.toNat (4 - x4_3.toInt) = nn_3 → (0 ≤ Int32.toInt x4_3 ∧ Int32.toInt x4_3 ≤ 4) → GG X 5 P K I0 O J0 0 0 3 [(0, .long x0), (2, .ref a2), (3, .int x3), (4, .int x4_3)] [] := by
    intro nn_3
    induction nn_3 using Nat.strongRecOn with
    | ind nn_3 ih_3 =>
    intro x4_3  hn_3 iv0_3 
    have rg4_3 := rg x4_3
    refine g_iload C dRd_placeOf_3 rfl ?_
    refine g_iload_n C dRd_placeOf_5 rfl ?_
    refine gt_icmp_ge 34 C dRd_placeOf_6 (by decide) rfl rfl (fun c_6 => ?_) (fun c_6 => ?_)
    · skip
      refine g_iconst (v := Int32.ofInt (-1)) C dRd_placeOf_34 (by decide) ?_
      exact s_iret C E dRd_placeOf_35 ⟨Nat.zero_le _, Nat.zero_le _⟩ hV0 trivial
    · skip
      refine g_iload C dRd_placeOf_9 rfl ?_
      refine g_aload_n C dRd_placeOf_11 rfl ?_
      refine gt_alen C dRd_placeOf_12 h2 (by decide) (by decide) (by decide) (n := 4) rfl (fun z_12 e_12 => ?_)
      refine gt_icmp_ge 34 C dRd_placeOf_13 (by decide) rfl rfl (fun c_13 => ?_) (fun c_13 => ?_)
      · skip
        refine g_iconst (v := Int32.ofInt (-1)) C dRd_placeOf_34 (by decide) ?_
        exact s_iret C E dRd_placeOf_35 ⟨Nat.zero_le _, Nat.zero_le _⟩ hV0 trivial
      · skip
        refine g_aload_n C dRd_placeOf_16 rfl ?_
        refine g_iload C dRd_placeOf_17 rfl ?_
        refine gt_lald C dRd_placeOf_19 h2 (by decide) rfl rfl (n := 4) rfl (by omega) ?_
        refine g_lload_n C dRd_placeOf_20 rfl ?_
        refine a_lcmp C dRd_placeOf_21 (fun z_21 => ?_)
        refine gt_if_ne 28 C dRd_placeOf_22 (by decide) rfl (fun c_22 => ?_) (fun c_22 => ?_)
        · skip
          first | refine n_iinc C dRd_placeOf_28 rfl rfl (by decide) (by decide) (by omega) (fun z_28 e_28 => ?_) | refine a_iinc C dRd_placeOf_28 rfl (by decide) (fun z_28 => ?_)
          refine g_goto 3 C dRd_placeOf_31 (by decide) ?_
          exact g_sub (ih_3 _ (by omega) z_28  rfl (by omega) ) ⟨rfl, rfl, rfl, rfl, trivial⟩
        · skip
          refine g_iload C dRd_placeOf_25 rfl ?_
          exact s_iret C E dRd_placeOf_27 ⟨Nat.zero_le _, Nat.zero_le _⟩ hV0 trivial
  exact g_sub (lp_3 _ (Int32.ofInt (0))  rfl (by have hci : Int32.toInt (Int32.ofInt (0)) = 0 := ofI (by decide); omega) ) ⟨rfl, rfl, rfl, rfl, trivial⟩
set_option maxHeartbeats 4000000 in
set_option maxRecDepth 100000 in
theorem cRd_isTold {P : List Nat} {K : Nat → Nat} {I0 : Nat → Nat → Int32} {O : Nat → Nat → Option Nat} {J0 : Nat → Nat → Int64} (hV : IV P K I0 O) {a0 : Nat} (h0 : a0 ∈ P ∧ K a0 = 5) {a1 : Nat} (h1 : a1 ∈ P ∧ K a1 = 3) : Con yRd_isTold bRd_isTold 4 (some .boolean) ({ frames := 2, cells := 0, slots := 0, locals := 44 } : Room) P K I0 O J0 [.ref a0, .ref a1] (SPo frP 2 (tt) P K I0 O J0) := by
  refine Con.ofG mfRd_isTold (Nat.le_of_ble_eq_true rfl) ?_
  intro X C E
  have hV0 : SV frP P K O I0 J0 I0 J0 := SV.rf hV
  refine g_aload_n C dRd_isTold_0 rfl ?_
  refine s_callV_lp (av := fun ad => []) C dRd_isTold_1 mfRd_nameCode mvRd_nameCode ln_Rd_173 h0 (by decide) rfl (cRd_nameCode hV0.1 h0) rfl rfl (Nat.le_of_ble_eq_true rfl) ⟨Nat.le_of_ble_eq_true rfl, Nat.le_of_ble_eq_true rfl⟩ ⟨rfl, rfl⟩ ⟨Nat.zero_le _, Nat.zero_le _⟩ (fun z_1 p_1 => ?_)
  refine g_lstore_n (i := 2) C dRd_isTold_4 rfl (by decide) ?_
  refine g_lload_n C dRd_isTold_5 rfl ?_
  refine g_aload_n C dRd_isTold_6 rfl ?_
  refine gt_getr C dRd_isTold_7 fl_Rd_15 h0 hV0.1.1 rfl (fun b_7 q_7 hb_7 => ?_)
  refine g_aload_n C dRd_isTold_10 rfl ?_
  refine g_geti C dRd_isTold_11 fl_Rd_142 h1 ?_
  refine s_callS_ip (av := fun ad => [.long z_1, .ref b_7, .int (I0 a1 7)]) C dRd_isTold_14 mfRd_placeOf msRd_placeOf ln_Rd_177 (cRd_placeOf hV0.1 hb_7) rfl rfl (Nat.le_of_ble_eq_true rfl) ⟨Nat.le_of_ble_eq_true rfl, Nat.le_of_ble_eq_true rfl⟩ ⟨rfl, rfl⟩ ⟨Nat.zero_le _, Nat.zero_le _⟩ (fun z_14 p_14 => ?_)
  have rz_14 := rg z_14
  refine g_iconst (v := Int32.ofInt (-1)) C dRd_isTold_17 (by decide) ?_
  have jn_37 :  GG X 4 P K I0 O J0 0 0 37 [(0, .ref a0), (1, .ref a1), (2, .long z_1)] [] := by
    refine g_iconst (v := Int32.ofInt (1)) C dRd_isTold_37 (by decide) ?_
    refine g_goto 42 C dRd_isTold_38 (by decide) ?_
    exact s_zret C E dRd_isTold_42 ⟨Nat.zero_le _, Nat.zero_le _⟩ hV0 (Or.inr (ofI (by decide))) trivial
  refine gt_icmp_ne 37 C dRd_isTold_18 (by decide) rfl (ofI (by decide)) (fun c_18 => ?_) (fun c_18 => ?_)
  · skip
    exact g_sub (jn_37    ) ⟨rfl, rfl, rfl, trivial⟩
  · skip
    refine g_lload_n C dRd_isTold_21 rfl ?_
    refine g_aload_n C dRd_isTold_22 rfl ?_
    refine gt_getr C dRd_isTold_23 fl_Rd_19 h0 hV0.1.1 rfl (fun b_23 q_23 hb_23 => ?_)
    refine g_aload_n C dRd_isTold_26 rfl ?_
    refine g_geti C dRd_isTold_27 fl_Rd_149 h1 ?_
    refine s_callS_ip (av := fun ad => [.long z_1, .ref b_23, .int (I0 a1 8)]) C dRd_isTold_30 mfRd_placeOf msRd_placeOf ln_Rd_177 (cRd_placeOf2 hV0.1 hb_23) rfl rfl (Nat.le_of_ble_eq_true rfl) ⟨Nat.le_of_ble_eq_true rfl, Nat.le_of_ble_eq_true rfl⟩ ⟨rfl, rfl⟩ ⟨Nat.zero_le _, Nat.zero_le _⟩ (fun z_30 p_30 => ?_)
    have rz_30 := rg z_30
    refine g_iconst (v := Int32.ofInt (-1)) C dRd_isTold_33 (by decide) ?_
    refine gt_icmp_eq 41 C dRd_isTold_34 (by decide) rfl (ofI (by decide)) (fun c_34 => ?_) (fun c_34 => ?_)
    · skip
      refine g_iconst (v := Int32.ofInt (0)) C dRd_isTold_41 (by decide) ?_
      exact s_zret C E dRd_isTold_42 ⟨Nat.zero_le _, Nat.zero_le _⟩ hV0 (Or.inl (ofI (by decide))) trivial
    · skip
      exact g_sub (jn_37    ) ⟨rfl, rfl, rfl, trivial⟩
set_option maxHeartbeats 4000000 in
set_option maxRecDepth 100000 in
theorem cRd_checkWhole {P : List Nat} {K : Nat → Nat} {I0 : Nat → Nat → Int32} {O : Nat → Nat → Option Nat} {J0 : Nat → Nat → Int64} (hV : IV P K I0 O) {a0 : Nat} (h0 : a0 ∈ P ∧ K a0 = 5) {x1 : Int32} {x2 : Int32} : Con yRd_checkWhole bRd_checkWhole 3 (some .boolean) ({ frames := 1, cells := 0, slots := 0, locals := 21 } : Room) P K I0 O J0 [.ref a0, .int x1, .int x2] (SPo frC 2 (tt) P K I0 O J0) := by
  refine Con.ofG mfRd_checkWhole (Nat.le_of_ble_eq_true rfl) ?_
  intro X C E
  have r1 := rg x1
  have r2 := rg x2
  have hV0 : SV frC P K O I0 J0 I0 J0 := SV.rf hV
  refine g_aload_n C dRd_checkWhole_0 rfl ?_
  refine g_geti C dRd_checkWhole_1 fl_Rd_47 h0 ?_
  refine g_iconst (v := Int32.ofInt (3)) C dRd_checkWhole_4 (by decide) ?_
  refine gt_icmp_eq 14 C dRd_checkWhole_5 (by decide) rfl (ofI (by decide)) (fun c_5 => ?_) (fun c_5 => ?_)
  · skip
    refine g_aload_n C dRd_checkWhole_14 rfl ?_
    refine g_geti C dRd_checkWhole_15 fl_Rd_81 h0 ?_
    refine g_iload_n C dRd_checkWhole_18 rfl ?_
    have jn_30 : ∀   (Iw1 : Nat → Nat → Int32) (Jw1 : Nat → Nat → Int64),  SV frC P K O I0 J0 Iw1 Jw1 → GG X 3 P K Iw1 O Jw1 0 0 30 [(0, .ref a0), (1, .int x1), (2, .int x2)] [] := by
      intro Iw1 Jw1 hVw1
      refine g_aload_n C dRd_checkWhole_30 rfl ?_
      refine g_iconst (v := Int32.ofInt (4)) C dRd_checkWhole_31 (by decide) ?_
      refine s_callV_z (av := fun ad => [.int (Int32.ofInt (4))]) C dRd_checkWhole_32 mfRd_fail mvRd_fail ln_Rd_54 h0 (by decide) rfl hVw1 fr_CC (cRd_fail hVw1.1 h0) rfl rfl (Nat.le_of_ble_eq_true rfl) ⟨Nat.le_of_ble_eq_true rfl, Nat.le_of_ble_eq_true rfl⟩ ⟨rfl, rfl⟩ ⟨Nat.zero_le _, Nat.zero_le _⟩ (fun Iw2 Jw2 hVw2 hFw2 z_32 b_32 p_32 => ?_)
      have rz_32 := rg z_32
      have u_32 := b_32
      unfold B01 at u_32
      refine g_goto 39 C dRd_checkWhole_35 (by decide) ?_
      exact s_zret C E dRd_checkWhole_39 ⟨Nat.zero_le _, Nat.zero_le _⟩ hVw2 (by first | assumption | (unfold B01; omega)) trivial
    refine gt_icmp_lt 30 C dRd_checkWhole_19 (by decide) rfl rfl (fun c_19 => ?_) (fun c_19 => ?_)
    · skip
      exact g_sub (jn_30  I0 J0  hV0) ⟨rfl, rfl, rfl, trivial⟩
    · skip
      refine g_aload_n C dRd_checkWhole_22 rfl ?_
      refine g_geti C dRd_checkWhole_23 fl_Rd_81 h0 ?_
      refine g_iload_n C dRd_checkWhole_26 rfl ?_
      refine gt_icmp_le 38 C dRd_checkWhole_27 (by decide) rfl rfl (fun c_27 => ?_) (fun c_27 => ?_)
      · skip
        refine g_iconst (v := Int32.ofInt (1)) C dRd_checkWhole_38 (by decide) ?_
        exact s_zret C E dRd_checkWhole_39 ⟨Nat.zero_le _, Nat.zero_le _⟩ hV0 (Or.inr (ofI (by decide))) trivial
      · skip
        exact g_sub (jn_30  I0 J0  hV0) ⟨rfl, rfl, rfl, trivial⟩
  · skip
    refine g_aload_n C dRd_checkWhole_8 rfl ?_
    refine g_iconst (v := Int32.ofInt (1)) C dRd_checkWhole_9 (by decide) ?_
    refine s_callV_z (av := fun ad => [.int (Int32.ofInt (1))]) C dRd_checkWhole_10 mfRd_fail mvRd_fail ln_Rd_54 h0 (by decide) rfl hV0 fr_CC (cRd_fail hV0.1 h0) rfl rfl (Nat.le_of_ble_eq_true rfl) ⟨Nat.le_of_ble_eq_true rfl, Nat.le_of_ble_eq_true rfl⟩ ⟨rfl, rfl⟩ ⟨Nat.zero_le _, Nat.zero_le _⟩ (fun Iw3 Jw3 hVw3 hFw3 z_10 b_10 p_10 => ?_)
    have rz_10 := rg z_10
    have u_10 := b_10
    unfold B01 at u_10
    exact s_zret C E dRd_checkWhole_13 ⟨Nat.zero_le _, Nat.zero_le _⟩ hVw3 (by first | assumption | (unfold B01; omega)) trivial
set_option maxHeartbeats 4000000 in
set_option maxRecDepth 100000 in
theorem cRd_passWord {P : List Nat} {K : Nat → Nat} {I0 : Nat → Nat → Int32} {O : Nat → Nat → Option Nat} {J0 : Nat → Nat → Int64} (hV : IV P K I0 O) {a0 : Nat} (h0 : a0 ∈ P ∧ K a0 = 5) {i1 : Nat} (h1 : i1 < 31) : ConA yRd_passWord bRd_passWord 2 (some .boolean) ({ frames := 5, cells := 0, slots := 0, locals := 107 } : Room) P K I0 O J0 (fun ad => [.ref a0, .ref (ad.1 i1)]) (SPo frC 2 (tt) P K I0 O J0) := by
  refine ConA.ofG mfRd_passWord (fun _ => Nat.le_of_ble_eq_true rfl) ?_
  intro X C E
  have hV0 : SV frC P K O I0 J0 I0 J0 := SV.rf hV
  refine g_aload_n C dRd_passWord_0 rfl ?_
  refine g_aload_n C dRd_passWord_1 rfl ?_
  refine s_callV_zp (av := fun ad => [.ref (ad.1 i1)]) C dRd_passWord_2 mfRd_isWord mvRd_isWord ln_Rd_95 h0 (by decide) rfl (cRd_isWord hV0.1 h0 h1) rfl rfl (Nat.le_of_ble_eq_true rfl) ⟨Nat.le_of_ble_eq_true rfl, Nat.le_of_ble_eq_true rfl⟩ ⟨rfl, rfl⟩ ⟨Nat.zero_le _, Nat.zero_le _⟩ (fun z_2 b_2 p_2 => ?_)
  have rz_2 := rg z_2
  have u_2 := b_2
  unfold B01 at u_2
  refine gt_if_ne 14 C dRd_passWord_5 (by decide) rfl (fun c_5 => ?_) (fun c_5 => ?_)
  · skip
    refine g_aload_n C dRd_passWord_14 rfl ?_
    refine s_callV_v (av := fun ad => []) C dRd_passWord_15 mfRd_step mvRd_step ln_Rd_40 h0 (by decide) rfl hV0 fr_CC (cRd_step hV0.1 h0) rfl rfl (Nat.le_of_ble_eq_true rfl) ⟨Nat.le_of_ble_eq_true rfl, Nat.le_of_ble_eq_true rfl⟩ ⟨rfl, rfl⟩ ⟨Nat.zero_le _, Nat.zero_le _⟩ (fun Iw2 Jw2 hVw2 hFw2 p_15 => ?_)
    refine g_iconst (v := Int32.ofInt (1)) C dRd_passWord_18 (by decide) ?_
    exact s_zret C E dRd_passWord_19 ⟨Nat.zero_le _, Nat.zero_le _⟩ hVw2 (Or.inr (ofI (by decide))) trivial
  · skip
    refine g_aload_n C dRd_passWord_8 rfl ?_
    refine g_iconst (v := Int32.ofInt (1)) C dRd_passWord_9 (by decide) ?_
    refine s_callV_z (av := fun ad => [.int (Int32.ofInt (1))]) C dRd_passWord_10 mfRd_fail mvRd_fail ln_Rd_54 h0 (by decide) rfl hV0 fr_CC (cRd_fail hV0.1 h0) rfl rfl (Nat.le_of_ble_eq_true rfl) ⟨Nat.le_of_ble_eq_true rfl, Nat.le_of_ble_eq_true rfl⟩ ⟨rfl, rfl⟩ ⟨Nat.zero_le _, Nat.zero_le _⟩ (fun Iw3 Jw3 hVw3 hFw3 z_10 b_10 p_10 => ?_)
    have rz_10 := rg z_10
    have u_10 := b_10
    unfold B01 at u_10
    exact s_zret C E dRd_passWord_13 ⟨Nat.zero_le _, Nat.zero_le _⟩ hVw3 (by first | assumption | (unfold B01; omega)) trivial
set_option maxHeartbeats 4000000 in
set_option maxRecDepth 100000 in
theorem cRd_readDrum {P : List Nat} {K : Nat → Nat} {I0 : Nat → Nat → Int32} {O : Nat → Nat → Option Nat} {J0 : Nat → Nat → Int64} (hV : IV P K I0 O) {a0 : Nat} (h0 : a0 ∈ P ∧ K a0 = 5) {a1 : Nat} (h1 : a1 ∈ P ∧ K a1 = 3) : Con yRd_readDrum bRd_readDrum 2 (some .boolean) ({ frames := 6, cells := 0, slots := 0, locals := 128 } : Room) P K I0 O J0 [.ref a0, .ref a1] (SPo frC 2 (tt) P K I0 O J0) := by
  refine Con.ofG mfRd_readDrum (Nat.le_of_ble_eq_true rfl) ?_
  intro X C E
  have hV0 : SV frC P K O I0 J0 I0 J0 := SV.rf hV
  refine g_aload_n C dRd_readDrum_0 rfl ?_
  refine s_callV_v (av := fun ad => []) C dRd_readDrum_1 mfRd_step mvRd_step ln_Rd_40 h0 (by decide) rfl hV0 fr_CC (cRd_step hV0.1 h0) rfl rfl (Nat.le_of_ble_eq_true rfl) ⟨Nat.le_of_ble_eq_true rfl, Nat.le_of_ble_eq_true rfl⟩ ⟨rfl, rfl⟩ ⟨Nat.zero_le _, Nat.zero_le _⟩ (fun Iw1 Jw1 hVw1 hFw1 p_1 => ?_)
  refine g_aload_n C dRd_readDrum_4 rfl ?_
  refine g_ldcS 1 C dRd_readDrum_5 rfl ?_
  refine s_callV_z (av := fun ad => [.ref (ad.1 1)]) C dRd_readDrum_7 mfRd_passWord mvRd_passWord ln_Rd_159 h0 (by decide) rfl hVw1 fr_CC (cRd_passWord hVw1.1 h0 (by decide)) rfl rfl (Nat.le_of_ble_eq_true rfl) ⟨Nat.le_of_ble_eq_true rfl, Nat.le_of_ble_eq_true rfl⟩ ⟨rfl, rfl⟩ ⟨Nat.zero_le _, Nat.zero_le _⟩ (fun Iw2 Jw2 hVw2 hFw2 z_7 b_7 p_7 => ?_)
  have rz_7 := rg z_7
  have u_7 := b_7
  unfold B01 at u_7
  refine gt_if_eq 25 C dRd_readDrum_10 (by decide) rfl (fun c_10 => ?_) (fun c_10 => ?_)
  · skip
    refine g_iconst (v := Int32.ofInt (0)) C dRd_readDrum_25 (by decide) ?_
    exact s_zret C E dRd_readDrum_26 ⟨Nat.zero_le _, Nat.zero_le _⟩ hVw2 (Or.inl (ofI (by decide))) trivial
  · skip
    refine g_aload_n C dRd_readDrum_13 rfl ?_
    refine g_bipush (v := Int32.ofInt (20)) C dRd_readDrum_14 (by decide) ?_
    refine g_sipush (v := Int32.ofInt (999)) C dRd_readDrum_16 (by decide) ?_
    refine s_callV_z (av := fun ad => [.int (Int32.ofInt (20)), .int (Int32.ofInt (999))]) C dRd_readDrum_19 mfRd_checkWhole mvRd_checkWhole ln_Rd_162 h0 (by decide) rfl hVw2 fr_CC (cRd_checkWhole hVw2.1 h0) rfl rfl (Nat.le_of_ble_eq_true rfl) ⟨Nat.le_of_ble_eq_true rfl, Nat.le_of_ble_eq_true rfl⟩ ⟨rfl, rfl⟩ ⟨Nat.zero_le _, Nat.zero_le _⟩ (fun Iw3 Jw3 hVw3 hFw3 z_19 b_19 p_19 => ?_)
    have rz_19 := rg z_19
    have u_19 := b_19
    unfold B01 at u_19
    refine gt_if_ne 27 C dRd_readDrum_22 (by decide) rfl (fun c_22 => ?_) (fun c_22 => ?_)
    · skip
      refine g_aload_n C dRd_readDrum_27 rfl ?_
      refine g_aload_n C dRd_readDrum_28 rfl ?_
      refine g_geti C dRd_readDrum_29 fl_Rd_81 h0 ?_
      refine gt_puti C dRd_readDrum_32 fl_Rd_113 h1 hVw3 rfl trivial rfl (Or.inl rfl) (fun Iw4 eIw4 hVw4 => ?_)
      refine g_aload_n C dRd_readDrum_35 rfl ?_
      refine s_callV_v (av := fun ad => []) C dRd_readDrum_36 mfRd_step mvRd_step ln_Rd_40 h0 (by decide) rfl hVw4 fr_CC (cRd_step hVw4.1 h0) rfl rfl (Nat.le_of_ble_eq_true rfl) ⟨Nat.le_of_ble_eq_true rfl, Nat.le_of_ble_eq_true rfl⟩ ⟨rfl, rfl⟩ ⟨Nat.zero_le _, Nat.zero_le _⟩ (fun Iw5 Jw5 hVw5 hFw5 p_36 => ?_)
      refine g_aload_n C dRd_readDrum_39 rfl ?_
      refine g_ldcS 2 C dRd_readDrum_40 rfl ?_
      refine s_callV_z (av := fun ad => [.ref (ad.1 2)]) C dRd_readDrum_42 mfRd_passWord mvRd_passWord ln_Rd_159 h0 (by decide) rfl hVw5 fr_CC (cRd_passWord hVw5.1 h0 (by decide)) rfl rfl (Nat.le_of_ble_eq_true rfl) ⟨Nat.le_of_ble_eq_true rfl, Nat.le_of_ble_eq_true rfl⟩ ⟨rfl, rfl⟩ ⟨Nat.zero_le _, Nat.zero_le _⟩ (fun Iw6 Jw6 hVw6 hFw6 z_42 b_42 p_42 => ?_)
      have rz_42 := rg z_42
      have u_42 := b_42
      unfold B01 at u_42
      refine gt_if_eq 60 C dRd_readDrum_45 (by decide) rfl (fun c_45 => ?_) (fun c_45 => ?_)
      · skip
        refine g_iconst (v := Int32.ofInt (0)) C dRd_readDrum_60 (by decide) ?_
        exact s_zret C E dRd_readDrum_61 ⟨Nat.zero_le _, Nat.zero_le _⟩ hVw6 (Or.inl (ofI (by decide))) trivial
      · skip
        refine g_aload_n C dRd_readDrum_48 rfl ?_
        refine g_bipush (v := Int32.ofInt (10)) C dRd_readDrum_49 (by decide) ?_
        refine g_sipush (v := Int32.ofInt (200)) C dRd_readDrum_51 (by decide) ?_
        refine s_callV_z (av := fun ad => [.int (Int32.ofInt (10)), .int (Int32.ofInt (200))]) C dRd_readDrum_54 mfRd_checkWhole mvRd_checkWhole ln_Rd_162 h0 (by decide) rfl hVw6 fr_CC (cRd_checkWhole hVw6.1 h0) rfl rfl (Nat.le_of_ble_eq_true rfl) ⟨Nat.le_of_ble_eq_true rfl, Nat.le_of_ble_eq_true rfl⟩ ⟨rfl, rfl⟩ ⟨Nat.zero_le _, Nat.zero_le _⟩ (fun Iw7 Jw7 hVw7 hFw7 z_54 b_54 p_54 => ?_)
        have rz_54 := rg z_54
        have u_54 := b_54
        unfold B01 at u_54
        refine gt_if_ne 62 C dRd_readDrum_57 (by decide) rfl (fun c_57 => ?_) (fun c_57 => ?_)
        · skip
          refine g_aload_n C dRd_readDrum_62 rfl ?_
          refine g_aload_n C dRd_readDrum_63 rfl ?_
          refine g_geti C dRd_readDrum_64 fl_Rd_81 h0 ?_
          refine gt_puti C dRd_readDrum_67 fl_Rd_168 h1 hVw7 rfl trivial rfl (Or.inl rfl) (fun Iw8 eIw8 hVw8 => ?_)
          refine g_aload_n C dRd_readDrum_70 rfl ?_
          refine s_callV_v (av := fun ad => []) C dRd_readDrum_71 mfRd_step mvRd_step ln_Rd_40 h0 (by decide) rfl hVw8 fr_CC (cRd_step hVw8.1 h0) rfl rfl (Nat.le_of_ble_eq_true rfl) ⟨Nat.le_of_ble_eq_true rfl, Nat.le_of_ble_eq_true rfl⟩ ⟨rfl, rfl⟩ ⟨Nat.zero_le _, Nat.zero_le _⟩ (fun Iw9 Jw9 hVw9 hFw9 p_71 => ?_)
          refine g_iconst (v := Int32.ofInt (1)) C dRd_readDrum_74 (by decide) ?_
          exact s_zret C E dRd_readDrum_75 ⟨Nat.zero_le _, Nat.zero_le _⟩ hVw9 (Or.inr (ofI (by decide))) trivial
        · skip
          refine g_iconst (v := Int32.ofInt (0)) C dRd_readDrum_60 (by decide) ?_
          exact s_zret C E dRd_readDrum_61 ⟨Nat.zero_le _, Nat.zero_le _⟩ hVw7 (Or.inl (ofI (by decide))) trivial
    · skip
      refine g_iconst (v := Int32.ofInt (0)) C dRd_readDrum_25 (by decide) ?_
      exact s_zret C E dRd_readDrum_26 ⟨Nat.zero_le _, Nat.zero_le _⟩ hVw3 (Or.inl (ofI (by decide))) trivial
set_option maxHeartbeats 4000000 in
set_option maxRecDepth 100000 in
theorem cRd_readSieve {P : List Nat} {K : Nat → Nat} {I0 : Nat → Nat → Int32} {O : Nat → Nat → Option Nat} {J0 : Nat → Nat → Int64} (hV : IV P K I0 O) {a0 : Nat} (h0 : a0 ∈ P ∧ K a0 = 5) {a1 : Nat} (h1 : a1 ∈ P ∧ K a1 = 3) : Con yRd_readSieve bRd_readSieve 3 (some .boolean) ({ frames := 6, cells := 0, slots := 0, locals := 128 } : Room) P K I0 O J0 [.ref a0, .ref a1] (SPo frC 2 (tt) P K I0 O J0) := by
  refine Con.ofG mfRd_readSieve (Nat.le_of_ble_eq_true rfl) ?_
  intro X C E
  have hV0 : SV frC P K O I0 J0 I0 J0 := SV.rf hV
  refine g_aload_n C dRd_readSieve_0 rfl ?_
  refine s_callV_v (av := fun ad => []) C dRd_readSieve_1 mfRd_step mvRd_step ln_Rd_40 h0 (by decide) rfl hV0 fr_CC (cRd_step hV0.1 h0) rfl rfl (Nat.le_of_ble_eq_true rfl) ⟨Nat.le_of_ble_eq_true rfl, Nat.le_of_ble_eq_true rfl⟩ ⟨rfl, rfl⟩ ⟨Nat.zero_le _, Nat.zero_le _⟩ (fun Iw1 Jw1 hVw1 hFw1 p_1 => ?_)
  refine g_aload_n C dRd_readSieve_4 rfl ?_
  refine s_callV_zp (av := fun ad => []) C dRd_readSieve_5 mfRd_isName mvRd_isName ln_Rd_170 h0 (by decide) rfl (cRd_isName hVw1.1 h0) rfl rfl (Nat.le_of_ble_eq_true rfl) ⟨Nat.le_of_ble_eq_true rfl, Nat.le_of_ble_eq_true rfl⟩ ⟨rfl, rfl⟩ ⟨Nat.zero_le _, Nat.zero_le _⟩ (fun z_5 b_5 p_5 => ?_)
  have rz_5 := rg z_5
  have u_5 := b_5
  unfold B01 at u_5
  refine gt_if_ne 17 C dRd_readSieve_8 (by decide) rfl (fun c_8 => ?_) (fun c_8 => ?_)
  · skip
    refine g_aload_n C dRd_readSieve_17 rfl ?_
    refine s_callV_lp (av := fun ad => []) C dRd_readSieve_18 mfRd_nameCode mvRd_nameCode ln_Rd_173 h0 (by decide) rfl (cRd_nameCode hVw1.1 h0) rfl rfl (Nat.le_of_ble_eq_true rfl) ⟨Nat.le_of_ble_eq_true rfl, Nat.le_of_ble_eq_true rfl⟩ ⟨rfl, rfl⟩ ⟨Nat.zero_le _, Nat.zero_le _⟩ (fun z_18 p_18 => ?_)
    refine g_aload_n C dRd_readSieve_21 rfl ?_
    refine gt_getr C dRd_readSieve_22 fl_Rd_15 h0 hVw1.1.1 rfl (fun b_22 q_22 hb_22 => ?_)
    refine g_aload_n C dRd_readSieve_25 rfl ?_
    refine g_geti C dRd_readSieve_26 fl_Rd_142 h1 ?_
    refine s_callS_ip (av := fun ad => [.long z_18, .ref b_22, .int (Iw1 a1 7)]) C dRd_readSieve_29 mfRd_placeOf msRd_placeOf ln_Rd_177 (cRd_placeOf hVw1.1 hb_22) rfl rfl (Nat.le_of_ble_eq_true rfl) ⟨Nat.le_of_ble_eq_true rfl, Nat.le_of_ble_eq_true rfl⟩ ⟨rfl, rfl⟩ ⟨Nat.zero_le _, Nat.zero_le _⟩ (fun z_29 p_29 => ?_)
    have rz_29 := rg z_29
    refine g_istore_n (i := 2) C dRd_readSieve_32 rfl (by decide) ?_
    refine g_iload_n C dRd_readSieve_33 rfl ?_
    refine g_iconst (v := Int32.ofInt (-1)) C dRd_readSieve_34 (by decide) ?_
    refine gt_icmp_ne 44 C dRd_readSieve_35 (by decide) rfl (ofI (by decide)) (fun c_35 => ?_) (fun c_35 => ?_)
    · skip
      refine g_aload_n C dRd_readSieve_44 rfl ?_
      refine g_iload_n C dRd_readSieve_45 rfl ?_
      refine gt_puti C dRd_readSieve_46 fl_Rd_119 h1 hVw1 rfl trivial rfl (Or.inl rfl) (fun Iw5 eIw5 hVw5 => ?_)
      refine g_aload_n C dRd_readSieve_49 rfl ?_
      refine s_callV_v (av := fun ad => []) C dRd_readSieve_50 mfRd_step mvRd_step ln_Rd_40 h0 (by decide) rfl hVw5 fr_CC (cRd_step hVw5.1 h0) rfl rfl (Nat.le_of_ble_eq_true rfl) ⟨Nat.le_of_ble_eq_true rfl, Nat.le_of_ble_eq_true rfl⟩ ⟨rfl, rfl⟩ ⟨Nat.zero_le _, Nat.zero_le _⟩ (fun Iw6 Jw6 hVw6 hFw6 p_50 => ?_)
      refine g_aload_n C dRd_readSieve_53 rfl ?_
      refine g_ldcS 9 C dRd_readSieve_54 rfl ?_
      refine s_callV_z (av := fun ad => [.ref (ad.1 9)]) C dRd_readSieve_56 mfRd_passWord mvRd_passWord ln_Rd_159 h0 (by decide) rfl hVw6 fr_CC (cRd_passWord hVw6.1 h0 (by decide)) rfl rfl (Nat.le_of_ble_eq_true rfl) ⟨Nat.le_of_ble_eq_true rfl, Nat.le_of_ble_eq_true rfl⟩ ⟨rfl, rfl⟩ ⟨Nat.zero_le _, Nat.zero_le _⟩ (fun Iw7 Jw7 hVw7 hFw7 z_56 b_56 p_56 => ?_)
      have rz_56 := rg z_56
      have u_56 := b_56
      unfold B01 at u_56
      refine gt_if_eq 72 C dRd_readSieve_59 (by decide) rfl (fun c_59 => ?_) (fun c_59 => ?_)
      · skip
        refine g_iconst (v := Int32.ofInt (0)) C dRd_readSieve_72 (by decide) ?_
        exact s_zret C E dRd_readSieve_73 ⟨Nat.zero_le _, Nat.zero_le _⟩ hVw7 (Or.inl (ofI (by decide))) trivial
      · skip
        refine g_aload_n C dRd_readSieve_62 rfl ?_
        refine g_iconst (v := Int32.ofInt (0)) C dRd_readSieve_63 (by decide) ?_
        refine g_bipush (v := Int32.ofInt (50)) C dRd_readSieve_64 (by decide) ?_
        refine s_callV_z (av := fun ad => [.int (Int32.ofInt (0)), .int (Int32.ofInt (50))]) C dRd_readSieve_66 mfRd_checkWhole mvRd_checkWhole ln_Rd_162 h0 (by decide) rfl hVw7 fr_CC (cRd_checkWhole hVw7.1 h0) rfl rfl (Nat.le_of_ble_eq_true rfl) ⟨Nat.le_of_ble_eq_true rfl, Nat.le_of_ble_eq_true rfl⟩ ⟨rfl, rfl⟩ ⟨Nat.zero_le _, Nat.zero_le _⟩ (fun Iw8 Jw8 hVw8 hFw8 z_66 b_66 p_66 => ?_)
        have rz_66 := rg z_66
        have u_66 := b_66
        unfold B01 at u_66
        refine gt_if_ne 74 C dRd_readSieve_69 (by decide) rfl (fun c_69 => ?_) (fun c_69 => ?_)
        · skip
          refine g_aload_n C dRd_readSieve_74 rfl ?_
          refine g_aload_n C dRd_readSieve_75 rfl ?_
          refine g_geti C dRd_readSieve_76 fl_Rd_81 h0 ?_
          refine gt_puti C dRd_readSieve_79 fl_Rd_183 h1 hVw8 rfl trivial rfl (Or.inl rfl) (fun Iw9 eIw9 hVw9 => ?_)
          refine g_aload_n C dRd_readSieve_82 rfl ?_
          refine s_callV_v (av := fun ad => []) C dRd_readSieve_83 mfRd_step mvRd_step ln_Rd_40 h0 (by decide) rfl hVw9 fr_CC (cRd_step hVw9.1 h0) rfl rfl (Nat.le_of_ble_eq_true rfl) ⟨Nat.le_of_ble_eq_true rfl, Nat.le_of_ble_eq_true rfl⟩ ⟨rfl, rfl⟩ ⟨Nat.zero_le _, Nat.zero_le _⟩ (fun Iw10 Jw10 hVw10 hFw10 p_83 => ?_)
          refine g_iconst (v := Int32.ofInt (1)) C dRd_readSieve_86 (by decide) ?_
          exact s_zret C E dRd_readSieve_87 ⟨Nat.zero_le _, Nat.zero_le _⟩ hVw10 (Or.inr (ofI (by decide))) trivial
        · skip
          refine g_iconst (v := Int32.ofInt (0)) C dRd_readSieve_72 (by decide) ?_
          exact s_zret C E dRd_readSieve_73 ⟨Nat.zero_le _, Nat.zero_le _⟩ hVw8 (Or.inl (ofI (by decide))) trivial
    · skip
      refine g_aload_n C dRd_readSieve_38 rfl ?_
      refine g_iconst (v := Int32.ofInt (2)) C dRd_readSieve_39 (by decide) ?_
      refine s_callV_z (av := fun ad => [.int (Int32.ofInt (2))]) C dRd_readSieve_40 mfRd_fail mvRd_fail ln_Rd_54 h0 (by decide) rfl hVw1 fr_CC (cRd_fail hVw1.1 h0) rfl rfl (Nat.le_of_ble_eq_true rfl) ⟨Nat.le_of_ble_eq_true rfl, Nat.le_of_ble_eq_true rfl⟩ ⟨rfl, rfl⟩ ⟨Nat.zero_le _, Nat.zero_le _⟩ (fun Iw11 Jw11 hVw11 hFw11 z_40 b_40 p_40 => ?_)
      have rz_40 := rg z_40
      have u_40 := b_40
      unfold B01 at u_40
      exact s_zret C E dRd_readSieve_43 ⟨Nat.zero_le _, Nat.zero_le _⟩ hVw11 (by first | assumption | (unfold B01; omega)) trivial
  · skip
    refine g_aload_n C dRd_readSieve_11 rfl ?_
    refine g_iconst (v := Int32.ofInt (1)) C dRd_readSieve_12 (by decide) ?_
    refine s_callV_z (av := fun ad => [.int (Int32.ofInt (1))]) C dRd_readSieve_13 mfRd_fail mvRd_fail ln_Rd_54 h0 (by decide) rfl hVw1 fr_CC (cRd_fail hVw1.1 h0) rfl rfl (Nat.le_of_ble_eq_true rfl) ⟨Nat.le_of_ble_eq_true rfl, Nat.le_of_ble_eq_true rfl⟩ ⟨rfl, rfl⟩ ⟨Nat.zero_le _, Nat.zero_le _⟩ (fun Iw12 Jw12 hVw12 hFw12 z_13 b_13 p_13 => ?_)
    have rz_13 := rg z_13
    have u_13 := b_13
    unfold B01 at u_13
    exact s_zret C E dRd_readSieve_16 ⟨Nat.zero_le _, Nat.zero_le _⟩ hVw12 (by first | assumption | (unfold B01; omega)) trivial
set_option maxHeartbeats 4000000 in
set_option maxRecDepth 100000 in
theorem cRd_readLiner {P : List Nat} {K : Nat → Nat} {I0 : Nat → Nat → Int32} {O : Nat → Nat → Option Nat} {J0 : Nat → Nat → Int64} (hV : IV P K I0 O) {a0 : Nat} (h0 : a0 ∈ P ∧ K a0 = 5) {a1 : Nat} (h1 : a1 ∈ P ∧ K a1 = 3) : Con yRd_readLiner bRd_readLiner 2 (some .boolean) ({ frames := 3, cells := 0, slots := 0, locals := 62 } : Room) P K I0 O J0 [.ref a0, .ref a1] (SPo frC 2 (tt) P K I0 O J0) := by
  refine Con.ofG mfRd_readLiner (Nat.le_of_ble_eq_true rfl) ?_
  intro X C E
  have hV0 : SV frC P K O I0 J0 I0 J0 := SV.rf hV
  refine g_aload_n C dRd_readLiner_0 rfl ?_
  refine s_callV_v (av := fun ad => []) C dRd_readLiner_1 mfRd_step mvRd_step ln_Rd_40 h0 (by decide) rfl hV0 fr_CC (cRd_step hV0.1 h0) rfl rfl (Nat.le_of_ble_eq_true rfl) ⟨Nat.le_of_ble_eq_true rfl, Nat.le_of_ble_eq_true rfl⟩ ⟨rfl, rfl⟩ ⟨Nat.zero_le _, Nat.zero_le _⟩ (fun Iw1 Jw1 hVw1 hFw1 p_1 => ?_)
  refine g_aload_n C dRd_readLiner_4 rfl ?_
  refine g_iconst (v := Int32.ofInt (1)) C dRd_readLiner_5 (by decide) ?_
  refine g_sipush (v := Int32.ofInt (200)) C dRd_readLiner_6 (by decide) ?_
  refine s_callV_z (av := fun ad => [.int (Int32.ofInt (1)), .int (Int32.ofInt (200))]) C dRd_readLiner_9 mfRd_checkWhole mvRd_checkWhole ln_Rd_162 h0 (by decide) rfl hVw1 fr_CC (cRd_checkWhole hVw1.1 h0) rfl rfl (Nat.le_of_ble_eq_true rfl) ⟨Nat.le_of_ble_eq_true rfl, Nat.le_of_ble_eq_true rfl⟩ ⟨rfl, rfl⟩ ⟨Nat.zero_le _, Nat.zero_le _⟩ (fun Iw2 Jw2 hVw2 hFw2 z_9 b_9 p_9 => ?_)
  have rz_9 := rg z_9
  have u_9 := b_9
  unfold B01 at u_9
  refine gt_if_ne 17 C dRd_readLiner_12 (by decide) rfl (fun c_12 => ?_) (fun c_12 => ?_)
  · skip
    refine g_aload_n C dRd_readLiner_17 rfl ?_
    refine g_aload_n C dRd_readLiner_18 rfl ?_
    refine g_geti C dRd_readLiner_19 fl_Rd_81 h0 ?_
    refine gt_puti C dRd_readLiner_22 fl_Rd_124 h1 hVw2 rfl trivial rfl (Or.inl rfl) (fun Iw3 eIw3 hVw3 => ?_)
    refine g_aload_n C dRd_readLiner_25 rfl ?_
    refine s_callV_v (av := fun ad => []) C dRd_readLiner_26 mfRd_step mvRd_step ln_Rd_40 h0 (by decide) rfl hVw3 fr_CC (cRd_step hVw3.1 h0) rfl rfl (Nat.le_of_ble_eq_true rfl) ⟨Nat.le_of_ble_eq_true rfl, Nat.le_of_ble_eq_true rfl⟩ ⟨rfl, rfl⟩ ⟨Nat.zero_le _, Nat.zero_le _⟩ (fun Iw4 Jw4 hVw4 hFw4 p_26 => ?_)
    refine g_iconst (v := Int32.ofInt (1)) C dRd_readLiner_29 (by decide) ?_
    exact s_zret C E dRd_readLiner_30 ⟨Nat.zero_le _, Nat.zero_le _⟩ hVw4 (Or.inr (ofI (by decide))) trivial
  · skip
    refine g_iconst (v := Int32.ofInt (0)) C dRd_readLiner_15 (by decide) ?_
    exact s_zret C E dRd_readLiner_16 ⟨Nat.zero_le _, Nat.zero_le _⟩ hVw2 (Or.inl (ofI (by decide))) trivial
set_option maxHeartbeats 4000000 in
set_option maxRecDepth 100000 in
theorem cRd_readBin {P : List Nat} {K : Nat → Nat} {I0 : Nat → Nat → Int32} {O : Nat → Nat → Option Nat} {J0 : Nat → Nat → Int64} (hV : IV P K I0 O) {a0 : Nat} (h0 : a0 ∈ P ∧ K a0 = 5) {a1 : Nat} (h1 : a1 ∈ P ∧ K a1 = 3) : Con yRd_readBin bRd_readBin 2 (some .boolean) ({ frames := 6, cells := 0, slots := 0, locals := 128 } : Room) P K I0 O J0 [.ref a0, .ref a1] (SPo frC 2 (tt) P K I0 O J0) := by
  refine Con.ofG mfRd_readBin (Nat.le_of_ble_eq_true rfl) ?_
  intro X C E
  have hV0 : SV frC P K O I0 J0 I0 J0 := SV.rf hV
  refine g_aload_n C dRd_readBin_0 rfl ?_
  refine s_callV_v (av := fun ad => []) C dRd_readBin_1 mfRd_step mvRd_step ln_Rd_40 h0 (by decide) rfl hV0 fr_CC (cRd_step hV0.1 h0) rfl rfl (Nat.le_of_ble_eq_true rfl) ⟨Nat.le_of_ble_eq_true rfl, Nat.le_of_ble_eq_true rfl⟩ ⟨rfl, rfl⟩ ⟨Nat.zero_le _, Nat.zero_le _⟩ (fun Iw1 Jw1 hVw1 hFw1 p_1 => ?_)
  refine g_aload_n C dRd_readBin_4 rfl ?_
  refine g_iconst (v := Int32.ofInt (1)) C dRd_readBin_5 (by decide) ?_
  refine g_sipush (v := Int32.ofInt (999)) C dRd_readBin_6 (by decide) ?_
  refine s_callV_z (av := fun ad => [.int (Int32.ofInt (1)), .int (Int32.ofInt (999))]) C dRd_readBin_9 mfRd_checkWhole mvRd_checkWhole ln_Rd_162 h0 (by decide) rfl hVw1 fr_CC (cRd_checkWhole hVw1.1 h0) rfl rfl (Nat.le_of_ble_eq_true rfl) ⟨Nat.le_of_ble_eq_true rfl, Nat.le_of_ble_eq_true rfl⟩ ⟨rfl, rfl⟩ ⟨Nat.zero_le _, Nat.zero_le _⟩ (fun Iw2 Jw2 hVw2 hFw2 z_9 b_9 p_9 => ?_)
  have rz_9 := rg z_9
  have u_9 := b_9
  unfold B01 at u_9
  refine gt_if_ne 17 C dRd_readBin_12 (by decide) rfl (fun c_12 => ?_) (fun c_12 => ?_)
  · skip
    refine g_aload_n C dRd_readBin_17 rfl ?_
    refine g_aload_n C dRd_readBin_18 rfl ?_
    refine g_geti C dRd_readBin_19 fl_Rd_81 h0 ?_
    refine gt_puti C dRd_readBin_22 fl_Rd_130 h1 hVw2 rfl trivial rfl (Or.inl rfl) (fun Iw3 eIw3 hVw3 => ?_)
    refine g_aload_n C dRd_readBin_25 rfl ?_
    refine s_callV_v (av := fun ad => []) C dRd_readBin_26 mfRd_step mvRd_step ln_Rd_40 h0 (by decide) rfl hVw3 fr_CC (cRd_step hVw3.1 h0) rfl rfl (Nat.le_of_ble_eq_true rfl) ⟨Nat.le_of_ble_eq_true rfl, Nat.le_of_ble_eq_true rfl⟩ ⟨rfl, rfl⟩ ⟨Nat.zero_le _, Nat.zero_le _⟩ (fun Iw4 Jw4 hVw4 hFw4 p_26 => ?_)
    refine g_aload_n C dRd_readBin_29 rfl ?_
    refine g_ldcS 10 C dRd_readBin_30 rfl ?_
    refine s_callV_z (av := fun ad => [.ref (ad.1 10)]) C dRd_readBin_32 mfRd_passWord mvRd_passWord ln_Rd_159 h0 (by decide) rfl hVw4 fr_CC (cRd_passWord hVw4.1 h0 (by decide)) rfl rfl (Nat.le_of_ble_eq_true rfl) ⟨Nat.le_of_ble_eq_true rfl, Nat.le_of_ble_eq_true rfl⟩ ⟨rfl, rfl⟩ ⟨Nat.zero_le _, Nat.zero_le _⟩ (fun Iw5 Jw5 hVw5 hFw5 z_32 b_32 p_32 => ?_)
    have rz_32 := rg z_32
    have u_32 := b_32
    unfold B01 at u_32
    refine gt_if_eq 49 C dRd_readBin_35 (by decide) rfl (fun c_35 => ?_) (fun c_35 => ?_)
    · skip
      refine g_iconst (v := Int32.ofInt (0)) C dRd_readBin_49 (by decide) ?_
      exact s_zret C E dRd_readBin_50 ⟨Nat.zero_le _, Nat.zero_le _⟩ hVw5 (Or.inl (ofI (by decide))) trivial
    · skip
      refine g_aload_n C dRd_readBin_38 rfl ?_
      refine g_iconst (v := Int32.ofInt (0)) C dRd_readBin_39 (by decide) ?_
      refine g_sipush (v := Int32.ofInt (200)) C dRd_readBin_40 (by decide) ?_
      refine s_callV_z (av := fun ad => [.int (Int32.ofInt (0)), .int (Int32.ofInt (200))]) C dRd_readBin_43 mfRd_checkWhole mvRd_checkWhole ln_Rd_162 h0 (by decide) rfl hVw5 fr_CC (cRd_checkWhole hVw5.1 h0) rfl rfl (Nat.le_of_ble_eq_true rfl) ⟨Nat.le_of_ble_eq_true rfl, Nat.le_of_ble_eq_true rfl⟩ ⟨rfl, rfl⟩ ⟨Nat.zero_le _, Nat.zero_le _⟩ (fun Iw6 Jw6 hVw6 hFw6 z_43 b_43 p_43 => ?_)
      have rz_43 := rg z_43
      have u_43 := b_43
      unfold B01 at u_43
      refine gt_if_ne 51 C dRd_readBin_46 (by decide) rfl (fun c_46 => ?_) (fun c_46 => ?_)
      · skip
        refine g_aload_n C dRd_readBin_51 rfl ?_
        refine g_aload_n C dRd_readBin_52 rfl ?_
        refine g_geti C dRd_readBin_53 fl_Rd_81 h0 ?_
        refine gt_puti C dRd_readBin_56 fl_Rd_187 h1 hVw6 rfl trivial rfl (Or.inl rfl) (fun Iw7 eIw7 hVw7 => ?_)
        refine g_aload_n C dRd_readBin_59 rfl ?_
        refine s_callV_v (av := fun ad => []) C dRd_readBin_60 mfRd_step mvRd_step ln_Rd_40 h0 (by decide) rfl hVw7 fr_CC (cRd_step hVw7.1 h0) rfl rfl (Nat.le_of_ble_eq_true rfl) ⟨Nat.le_of_ble_eq_true rfl, Nat.le_of_ble_eq_true rfl⟩ ⟨rfl, rfl⟩ ⟨Nat.zero_le _, Nat.zero_le _⟩ (fun Iw8 Jw8 hVw8 hFw8 p_60 => ?_)
        refine g_iconst (v := Int32.ofInt (1)) C dRd_readBin_63 (by decide) ?_
        exact s_zret C E dRd_readBin_64 ⟨Nat.zero_le _, Nat.zero_le _⟩ hVw8 (Or.inr (ofI (by decide))) trivial
      · skip
        refine g_iconst (v := Int32.ofInt (0)) C dRd_readBin_49 (by decide) ?_
        exact s_zret C E dRd_readBin_50 ⟨Nat.zero_le _, Nat.zero_le _⟩ hVw6 (Or.inl (ofI (by decide))) trivial
  · skip
    refine g_iconst (v := Int32.ofInt (0)) C dRd_readBin_15 (by decide) ?_
    exact s_zret C E dRd_readBin_16 ⟨Nat.zero_le _, Nat.zero_le _⟩ hVw2 (Or.inl (ofI (by decide))) trivial
set_option maxHeartbeats 4000000 in
set_option maxRecDepth 100000 in
theorem cRd_readPrices {P : List Nat} {K : Nat → Nat} {I0 : Nat → Nat → Int32} {O : Nat → Nat → Option Nat} {J0 : Nat → Nat → Int64} (hV : IV P K I0 O) {a0 : Nat} (h0 : a0 ∈ P ∧ K a0 = 5) {a1 : Nat} (h1 : a1 ∈ P ∧ K a1 = 3) : Con yRd_readPrices bRd_readPrices 3 (some .boolean) ({ frames := 3, cells := 0, slots := 0, locals := 62 } : Room) P K I0 O J0 [.ref a0, .ref a1] (SPo frC 2 (tt) P K I0 O J0) := by
  refine Con.ofG mfRd_readPrices (Nat.le_of_ble_eq_true rfl) ?_
  intro X C E
  have hV0 : SV frC P K O I0 J0 I0 J0 := SV.rf hV
  refine g_iconst (v := Int32.ofInt (0)) C dRd_readPrices_0 (by decide) ?_
  refine g_istore_n (i := 2) C dRd_readPrices_1 rfl (by decide) ?_
  have lp_2 : ∀ (nn_2 : Nat) (x2_2 : Int32) (Iw1 : Nat → Nat → Int32) (Jw1 : Nat → Nat → Int64), Int.toNat (7 - x2_2.toInt) = nn_2 → (0 ≤ Int32.toInt x2_2 ∧ Int32.toInt x2_2 ≤ 7) → SV frC P K O I0 J0 Iw1 Jw1 → GG X 3 P K Iw1 O Jw1 0 0 2 [(0, .ref a0), (1, .ref a1), (2, .int x2_2)] [] := by
    intro nn_2
    induction nn_2 using Nat.strongRecOn with
    | ind nn_2 ih_2 =>
    intro x2_2 Iw1 Jw1 hn_2 iv0_2 hVw1
    have rg2_2 := rg x2_2
    refine g_iload_n C dRd_readPrices_2 rfl ?_
    refine g_bipush (v := Int32.ofInt (6)) C dRd_readPrices_3 (by decide) ?_
    refine gt_icmp_gt 74 C dRd_readPrices_5 (by decide) rfl (ofI (by decide)) (fun c_5 => ?_) (fun c_5 => ?_)
    · skip
      refine g_aload_n C dRd_readPrices_74 rfl ?_
      refine g_iconst (v := Int32.ofInt (5)) C dRd_readPrices_75 (by decide) ?_
      refine s_callV_z (av := fun ad => [.int (Int32.ofInt (5))]) C dRd_readPrices_76 mfRd_fail mvRd_fail ln_Rd_54 h0 (by decide) rfl hVw1 fr_CC (cRd_fail hVw1.1 h0) rfl rfl (Nat.le_of_ble_eq_true rfl) ⟨Nat.le_of_ble_eq_true rfl, Nat.le_of_ble_eq_true rfl⟩ ⟨rfl, rfl⟩ ⟨Nat.zero_le _, Nat.zero_le _⟩ (fun Iw2 Jw2 hVw2 hFw2 z_76 b_76 p_76 => ?_)
      have rz_76 := rg z_76
      have u_76 := b_76
      unfold B01 at u_76
      exact s_zret C E dRd_readPrices_79 ⟨Nat.zero_le _, Nat.zero_le _⟩ hVw2 (by first | assumption | (unfold B01; omega)) trivial
    · skip
      refine g_aload_n C dRd_readPrices_8 rfl ?_
      refine s_callV_v (av := fun ad => []) C dRd_readPrices_9 mfRd_step mvRd_step ln_Rd_40 h0 (by decide) rfl hVw1 fr_CC (cRd_step hVw1.1 h0) rfl rfl (Nat.le_of_ble_eq_true rfl) ⟨Nat.le_of_ble_eq_true rfl, Nat.le_of_ble_eq_true rfl⟩ ⟨rfl, rfl⟩ ⟨Nat.zero_le _, Nat.zero_le _⟩ (fun Iw3 Jw3 hVw3 hFw3 p_9 => ?_)
      refine g_aload_n C dRd_readPrices_12 rfl ?_
      refine g_iconst (v := Int32.ofInt (0)) C dRd_readPrices_13 (by decide) ?_
      refine g_bipush (v := Int32.ofInt (99)) C dRd_readPrices_14 (by decide) ?_
      refine s_callV_z (av := fun ad => [.int (Int32.ofInt (0)), .int (Int32.ofInt (99))]) C dRd_readPrices_16 mfRd_checkWhole mvRd_checkWhole ln_Rd_162 h0 (by decide) rfl hVw3 fr_CC (cRd_checkWhole hVw3.1 h0) rfl rfl (Nat.le_of_ble_eq_true rfl) ⟨Nat.le_of_ble_eq_true rfl, Nat.le_of_ble_eq_true rfl⟩ ⟨rfl, rfl⟩ ⟨Nat.zero_le _, Nat.zero_le _⟩ (fun Iw4 Jw4 hVw4 hFw4 z_16 b_16 p_16 => ?_)
      have rz_16 := rg z_16
      have u_16 := b_16
      unfold B01 at u_16
      refine gt_if_ne 24 C dRd_readPrices_19 (by decide) rfl (fun c_19 => ?_) (fun c_19 => ?_)
      · skip
        refine g_iload_n C dRd_readPrices_24 rfl ?_
        refine g_bipush (v := Int32.ofInt (6)) C dRd_readPrices_25 (by decide) ?_
        refine gt_icmp_lt 36 C dRd_readPrices_27 (by decide) rfl (ofI (by decide)) (fun c_27 => ?_) (fun c_27 => ?_)
        · skip
          refine g_aload_n C dRd_readPrices_36 rfl ?_
          refine gt_getr C dRd_readPrices_37 fl_Rd_189 h1 hVw4.1.1 rfl (fun b_37 q_37 hb_37 => ?_)
          refine g_iload_n C dRd_readPrices_40 rfl ?_
          refine g_aload_n C dRd_readPrices_41 rfl ?_
          refine g_geti C dRd_readPrices_42 fl_Rd_81 h0 ?_
          refine gt_iast C dRd_readPrices_45 hb_37 (by decide) rfl rfl (n := 6) rfl (by omega) hVw4 rfl trivial (fun Iw5 eIw5 hVw5 => ?_)
          refine g_aload_n C dRd_readPrices_46 rfl ?_
          refine g_iload_n C dRd_readPrices_47 rfl ?_
          refine g_iconst (v := Int32.ofInt (1)) C dRd_readPrices_48 (by decide) ?_
          first | refine n_iadd C dRd_readPrices_49 rfl (ofI (by decide)) (by omega) (fun z_49 e_49 => ?_) | refine a_iadd C dRd_readPrices_49 (fun z_49 => ?_)
          refine gt_puti C dRd_readPrices_50 fl_Rd_136 h1 hVw5 rfl trivial rfl (Or.inl rfl) (fun Iw6 eIw6 hVw6 => ?_)
          refine g_aload_n C dRd_readPrices_53 rfl ?_
          refine s_callV_v (av := fun ad => []) C dRd_readPrices_54 mfRd_step mvRd_step ln_Rd_40 h0 (by decide) rfl hVw6 fr_CC (cRd_step hVw6.1 h0) rfl rfl (Nat.le_of_ble_eq_true rfl) ⟨Nat.le_of_ble_eq_true rfl, Nat.le_of_ble_eq_true rfl⟩ ⟨rfl, rfl⟩ ⟨Nat.zero_le _, Nat.zero_le _⟩ (fun Iw7 Jw7 hVw7 hFw7 p_54 => ?_)
          refine g_aload_n C dRd_readPrices_57 rfl ?_
          refine g_bipush (v := Int32.ofInt (44)) C dRd_readPrices_58 (by decide) ?_
          refine s_callV_zp (av := fun ad => [.int (Int32.ofInt (44))]) C dRd_readPrices_60 mfRd_isSign mvRd_isSign ln_Rd_58 h0 (by decide) rfl (cRd_isSign hVw7.1 h0) rfl rfl (Nat.le_of_ble_eq_true rfl) ⟨Nat.le_of_ble_eq_true rfl, Nat.le_of_ble_eq_true rfl⟩ ⟨rfl, rfl⟩ ⟨Nat.zero_le _, Nat.zero_le _⟩ (fun z_60 b_60 p_60 => ?_)
          have rz_60 := rg z_60
          have u_60 := b_60
          unfold B01 at u_60
          refine gt_if_ne 68 C dRd_readPrices_63 (by decide) rfl (fun c_63 => ?_) (fun c_63 => ?_)
          · skip
            first | refine n_iinc C dRd_readPrices_68 rfl rfl (by decide) (by decide) (by omega) (fun z_68 e_68 => ?_) | refine a_iinc C dRd_readPrices_68 rfl (by decide) (fun z_68 => ?_)
            refine g_goto 2 C dRd_readPrices_71 (by decide) ?_
            exact g_sub (ih_2 _ (by omega) z_68 Iw7 Jw7 rfl (by omega) hVw7) ⟨rfl, rfl, rfl, trivial⟩
          · skip
            refine g_iconst (v := Int32.ofInt (1)) C dRd_readPrices_66 (by decide) ?_
            exact s_zret C E dRd_readPrices_67 ⟨Nat.zero_le _, Nat.zero_le _⟩ hVw7 (Or.inr (ofI (by decide))) trivial
        · skip
          refine g_aload_n C dRd_readPrices_30 rfl ?_
          refine g_iconst (v := Int32.ofInt (5)) C dRd_readPrices_31 (by decide) ?_
          refine s_callV_z (av := fun ad => [.int (Int32.ofInt (5))]) C dRd_readPrices_32 mfRd_fail mvRd_fail ln_Rd_54 h0 (by decide) rfl hVw4 fr_CC (cRd_fail hVw4.1 h0) rfl rfl (Nat.le_of_ble_eq_true rfl) ⟨Nat.le_of_ble_eq_true rfl, Nat.le_of_ble_eq_true rfl⟩ ⟨rfl, rfl⟩ ⟨Nat.zero_le _, Nat.zero_le _⟩ (fun Iw9 Jw9 hVw9 hFw9 z_32 b_32 p_32 => ?_)
          have rz_32 := rg z_32
          have u_32 := b_32
          unfold B01 at u_32
          exact s_zret C E dRd_readPrices_35 ⟨Nat.zero_le _, Nat.zero_le _⟩ hVw9 (by first | assumption | (unfold B01; omega)) trivial
      · skip
        refine g_iconst (v := Int32.ofInt (0)) C dRd_readPrices_22 (by decide) ?_
        exact s_zret C E dRd_readPrices_23 ⟨Nat.zero_le _, Nat.zero_le _⟩ hVw4 (Or.inl (ofI (by decide))) trivial
  exact g_sub (lp_2 _ (Int32.ofInt (0)) I0 J0 rfl (by have hci : Int32.toInt (Int32.ofInt (0)) = 0 := ofI (by decide); omega) hV0) ⟨rfl, rfl, rfl, trivial⟩
set_option maxHeartbeats 4000000 in
set_option maxRecDepth 100000 in
theorem cRd_readSize {P : List Nat} {K : Nat → Nat} {I0 : Nat → Nat → Int32} {O : Nat → Nat → Option Nat} {J0 : Nat → Nat → Int64} (hV : IV P K I0 O) {a0 : Nat} (h0 : a0 ∈ P ∧ K a0 = 5) {a1 : Nat} (h1 : a1 ∈ P ∧ K a1 = 3) {x2 : Int32} : Con yRd_readSize bRd_readSize 3 (some .boolean) ({ frames := 6, cells := 0, slots := 0, locals := 128 } : Room) P K I0 O J0 [.ref a0, .ref a1, .int x2] (SPo frC 2 (tt) P K I0 O J0) := by
  refine Con.ofG mfRd_readSize (Nat.le_of_ble_eq_true rfl) ?_
  intro X C E
  have r2 := rg x2
  have hV0 : SV frC P K O I0 J0 I0 J0 := SV.rf hV
  refine g_aload_n C dRd_readSize_0 rfl ?_
  refine s_callV_v (av := fun ad => []) C dRd_readSize_1 mfRd_step mvRd_step ln_Rd_40 h0 (by decide) rfl hV0 fr_CC (cRd_step hV0.1 h0) rfl rfl (Nat.le_of_ble_eq_true rfl) ⟨Nat.le_of_ble_eq_true rfl, Nat.le_of_ble_eq_true rfl⟩ ⟨rfl, rfl⟩ ⟨Nat.zero_le _, Nat.zero_le _⟩ (fun Iw1 Jw1 hVw1 hFw1 p_1 => ?_)
  refine g_aload_n C dRd_readSize_4 rfl ?_
  refine s_callV_zp (av := fun ad => []) C dRd_readSize_5 mfRd_isName mvRd_isName ln_Rd_170 h0 (by decide) rfl (cRd_isName hVw1.1 h0) rfl rfl (Nat.le_of_ble_eq_true rfl) ⟨Nat.le_of_ble_eq_true rfl, Nat.le_of_ble_eq_true rfl⟩ ⟨rfl, rfl⟩ ⟨Nat.zero_le _, Nat.zero_le _⟩ (fun z_5 b_5 p_5 => ?_)
  have rz_5 := rg z_5
  have u_5 := b_5
  unfold B01 at u_5
  refine gt_if_ne 17 C dRd_readSize_8 (by decide) rfl (fun c_8 => ?_) (fun c_8 => ?_)
  · skip
    refine g_aload_n C dRd_readSize_17 rfl ?_
    refine g_aload_n C dRd_readSize_18 rfl ?_
    refine s_callV_zp (av := fun ad => [.ref a1]) C dRd_readSize_19 mfRd_isTold mvRd_isTold ln_Rd_193 h0 (by decide) rfl (cRd_isTold hVw1.1 h0 h1) rfl rfl (Nat.le_of_ble_eq_true rfl) ⟨Nat.le_of_ble_eq_true rfl, Nat.le_of_ble_eq_true rfl⟩ ⟨rfl, rfl⟩ ⟨Nat.zero_le _, Nat.zero_le _⟩ (fun z_19 b_19 p_19 => ?_)
    have rz_19 := rg z_19
    have u_19 := b_19
    unfold B01 at u_19
    refine gt_if_eq 31 C dRd_readSize_22 (by decide) rfl (fun c_22 => ?_) (fun c_22 => ?_)
    · skip
      refine g_iload_n C dRd_readSize_31 rfl ?_
      have jn_40 : ∀   (Iw4 : Nat → Nat → Int32) (Jw4 : Nat → Nat → Int64),  SV frC P K O I0 J0 Iw4 Jw4 → GG X 3 P K Iw4 O Jw4 0 0 40 [(0, .ref a0), (1, .ref a1), (2, .int x2)] [] := by
        intro Iw4 Jw4 hVw4
        refine g_aload_n C dRd_readSize_40 rfl ?_
        refine g_iconst (v := Int32.ofInt (5)) C dRd_readSize_41 (by decide) ?_
        refine s_callV_z (av := fun ad => [.int (Int32.ofInt (5))]) C dRd_readSize_42 mfRd_fail mvRd_fail ln_Rd_54 h0 (by decide) rfl hVw4 fr_CC (cRd_fail hVw4.1 h0) rfl rfl (Nat.le_of_ble_eq_true rfl) ⟨Nat.le_of_ble_eq_true rfl, Nat.le_of_ble_eq_true rfl⟩ ⟨rfl, rfl⟩ ⟨Nat.zero_le _, Nat.zero_le _⟩ (fun Iw5 Jw5 hVw5 hFw5 z_42 b_42 p_42 => ?_)
        have rz_42 := rg z_42
        have u_42 := b_42
        unfold B01 at u_42
        exact s_zret C E dRd_readSize_45 ⟨Nat.zero_le _, Nat.zero_le _⟩ hVw5 (by first | assumption | (unfold B01; omega)) trivial
      refine gt_if_lt 40 C dRd_readSize_32 (by decide) rfl (fun c_32 => ?_) (fun c_32 => ?_)
      · skip
        exact g_sub (jn_40  Iw1 Jw1  hVw1) ⟨rfl, rfl, rfl, trivial⟩
      · skip
        refine g_iload_n C dRd_readSize_35 rfl ?_
        refine g_iconst (v := Int32.ofInt (5)) C dRd_readSize_36 (by decide) ?_
        refine gt_icmp_lt 46 C dRd_readSize_37 (by decide) rfl (ofI (by decide)) (fun c_37 => ?_) (fun c_37 => ?_)
        · skip
          refine g_aload_n C dRd_readSize_46 rfl ?_
          refine gt_getr C dRd_readSize_47 fl_Rd_15 h0 hVw1.1.1 rfl (fun b_47 q_47 hb_47 => ?_)
          refine g_iload_n C dRd_readSize_50 rfl ?_
          refine g_aload_n C dRd_readSize_51 rfl ?_
          refine s_callV_lp (av := fun ad => []) C dRd_readSize_52 mfRd_nameCode mvRd_nameCode ln_Rd_173 h0 (by decide) rfl (cRd_nameCode hVw1.1 h0) rfl rfl (Nat.le_of_ble_eq_true rfl) ⟨Nat.le_of_ble_eq_true rfl, Nat.le_of_ble_eq_true rfl⟩ ⟨rfl, rfl⟩ ⟨Nat.zero_le _, Nat.zero_le _⟩ (fun z_52 p_52 => ?_)
          refine gt_last C dRd_readSize_55 hb_47 (by decide) rfl rfl (n := 5) rfl (by omega) hVw1 rfl (fun Jw7 eJw7 hVw7 => ?_)
          refine g_aload_n C dRd_readSize_56 rfl ?_
          refine g_iload_n C dRd_readSize_57 rfl ?_
          refine g_iconst (v := Int32.ofInt (1)) C dRd_readSize_58 (by decide) ?_
          first | refine n_iadd C dRd_readSize_59 rfl (ofI (by decide)) (by omega) (fun z_59 e_59 => ?_) | refine a_iadd C dRd_readSize_59 (fun z_59 => ?_)
          refine gt_puti C dRd_readSize_60 fl_Rd_142 h1 hVw7 rfl (by show 0 ≤ Int32.toInt _ ∧ Int32.toInt _ ≤ 5; omega) rfl (Or.inl rfl) (fun Iw8 eIw8 hVw8 => ?_)
          refine g_aload_n C dRd_readSize_63 rfl ?_
          refine s_callV_v (av := fun ad => []) C dRd_readSize_64 mfRd_step mvRd_step ln_Rd_40 h0 (by decide) rfl hVw8 fr_CC (cRd_step hVw8.1 h0) rfl rfl (Nat.le_of_ble_eq_true rfl) ⟨Nat.le_of_ble_eq_true rfl, Nat.le_of_ble_eq_true rfl⟩ ⟨rfl, rfl⟩ ⟨Nat.zero_le _, Nat.zero_le _⟩ (fun Iw9 Jw9 hVw9 hFw9 p_64 => ?_)
          refine g_aload_n C dRd_readSize_67 rfl ?_
          refine g_ldcS 11 C dRd_readSize_68 rfl ?_
          refine s_callV_zp (av := fun ad => [.ref (ad.1 11)]) C dRd_readSize_70 mfRd_isWord mvRd_isWord ln_Rd_95 h0 (by decide) rfl (cRd_isWord hVw9.1 h0 (by decide)) rfl rfl (Nat.le_of_ble_eq_true rfl) ⟨Nat.le_of_ble_eq_true rfl, Nat.le_of_ble_eq_true rfl⟩ ⟨rfl, rfl⟩ ⟨Nat.zero_le _, Nat.zero_le _⟩ (fun z_70 b_70 p_70 => ?_)
          have rz_70 := rg z_70
          have u_70 := b_70
          unfold B01 at u_70
          refine gt_if_ne 78 C dRd_readSize_73 (by decide) rfl (fun c_73 => ?_) (fun c_73 => ?_)
          · skip
            refine g_aload_n C dRd_readSize_78 rfl ?_
            refine s_callV_v (av := fun ad => []) C dRd_readSize_79 mfRd_step mvRd_step ln_Rd_40 h0 (by decide) rfl hVw9 fr_CC (cRd_step hVw9.1 h0) rfl rfl (Nat.le_of_ble_eq_true rfl) ⟨Nat.le_of_ble_eq_true rfl, Nat.le_of_ble_eq_true rfl⟩ ⟨rfl, rfl⟩ ⟨Nat.zero_le _, Nat.zero_le _⟩ (fun Iw11 Jw11 hVw11 hFw11 p_79 => ?_)
            refine g_aload_n C dRd_readSize_82 rfl ?_
            refine g_iconst (v := Int32.ofInt (0)) C dRd_readSize_83 (by decide) ?_
            refine g_bipush (v := Int32.ofInt (100)) C dRd_readSize_84 (by decide) ?_
            refine s_callV_z (av := fun ad => [.int (Int32.ofInt (0)), .int (Int32.ofInt (100))]) C dRd_readSize_86 mfRd_checkWhole mvRd_checkWhole ln_Rd_162 h0 (by decide) rfl hVw11 fr_CC (cRd_checkWhole hVw11.1 h0) rfl rfl (Nat.le_of_ble_eq_true rfl) ⟨Nat.le_of_ble_eq_true rfl, Nat.le_of_ble_eq_true rfl⟩ ⟨rfl, rfl⟩ ⟨Nat.zero_le _, Nat.zero_le _⟩ (fun Iw12 Jw12 hVw12 hFw12 z_86 b_86 p_86 => ?_)
            have rz_86 := rg z_86
            have u_86 := b_86
            unfold B01 at u_86
            refine gt_if_ne 94 C dRd_readSize_89 (by decide) rfl (fun c_89 => ?_) (fun c_89 => ?_)
            · skip
              refine g_aload_n C dRd_readSize_94 rfl ?_
              refine gt_getr C dRd_readSize_95 fl_Rd_198 h1 hVw12.1.1 rfl (fun b_95 q_95 hb_95 => ?_)
              refine g_iload_n C dRd_readSize_98 rfl ?_
              refine g_aload_n C dRd_readSize_99 rfl ?_
              refine g_geti C dRd_readSize_100 fl_Rd_81 h0 ?_
              refine gt_iast C dRd_readSize_103 hb_95 (by decide) rfl rfl (n := 5) rfl (by omega) hVw12 rfl trivial (fun Iw13 eIw13 hVw13 => ?_)
              refine g_aload_n C dRd_readSize_104 rfl ?_
              refine s_callV_v (av := fun ad => []) C dRd_readSize_105 mfRd_step mvRd_step ln_Rd_40 h0 (by decide) rfl hVw13 fr_CC (cRd_step hVw13.1 h0) rfl rfl (Nat.le_of_ble_eq_true rfl) ⟨Nat.le_of_ble_eq_true rfl, Nat.le_of_ble_eq_true rfl⟩ ⟨rfl, rfl⟩ ⟨Nat.zero_le _, Nat.zero_le _⟩ (fun Iw14 Jw14 hVw14 hFw14 p_105 => ?_)
              refine g_aload_n C dRd_readSize_108 rfl ?_
              refine g_ldcS 12 C dRd_readSize_109 rfl ?_
              refine s_callV_z (av := fun ad => [.ref (ad.1 12)]) C dRd_readSize_111 mfRd_passWord mvRd_passWord ln_Rd_159 h0 (by decide) rfl hVw14 fr_CC (cRd_passWord hVw14.1 h0 (by decide)) rfl rfl (Nat.le_of_ble_eq_true rfl) ⟨Nat.le_of_ble_eq_true rfl, Nat.le_of_ble_eq_true rfl⟩ ⟨rfl, rfl⟩ ⟨Nat.zero_le _, Nat.zero_le _⟩ (fun Iw15 Jw15 hVw15 hFw15 z_111 b_111 p_111 => ?_)
              have rz_111 := rg z_111
              have u_111 := b_111
              unfold B01 at u_111
              refine gt_if_eq 127 C dRd_readSize_114 (by decide) rfl (fun c_114 => ?_) (fun c_114 => ?_)
              · skip
                refine g_iconst (v := Int32.ofInt (0)) C dRd_readSize_127 (by decide) ?_
                exact s_zret C E dRd_readSize_128 ⟨Nat.zero_le _, Nat.zero_le _⟩ hVw15 (Or.inl (ofI (by decide))) trivial
              · skip
                refine g_aload_n C dRd_readSize_117 rfl ?_
                refine g_iconst (v := Int32.ofInt (0)) C dRd_readSize_118 (by decide) ?_
                refine g_bipush (v := Int32.ofInt (100)) C dRd_readSize_119 (by decide) ?_
                refine s_callV_z (av := fun ad => [.int (Int32.ofInt (0)), .int (Int32.ofInt (100))]) C dRd_readSize_121 mfRd_checkWhole mvRd_checkWhole ln_Rd_162 h0 (by decide) rfl hVw15 fr_CC (cRd_checkWhole hVw15.1 h0) rfl rfl (Nat.le_of_ble_eq_true rfl) ⟨Nat.le_of_ble_eq_true rfl, Nat.le_of_ble_eq_true rfl⟩ ⟨rfl, rfl⟩ ⟨Nat.zero_le _, Nat.zero_le _⟩ (fun Iw16 Jw16 hVw16 hFw16 z_121 b_121 p_121 => ?_)
                have rz_121 := rg z_121
                have u_121 := b_121
                unfold B01 at u_121
                refine gt_if_ne 129 C dRd_readSize_124 (by decide) rfl (fun c_124 => ?_) (fun c_124 => ?_)
                · skip
                  refine g_aload_n C dRd_readSize_129 rfl ?_
                  refine gt_getr C dRd_readSize_130 fl_Rd_202 h1 hVw16.1.1 rfl (fun b_130 q_130 hb_130 => ?_)
                  refine g_iload_n C dRd_readSize_133 rfl ?_
                  refine g_aload_n C dRd_readSize_134 rfl ?_
                  refine g_geti C dRd_readSize_135 fl_Rd_81 h0 ?_
                  refine gt_iast C dRd_readSize_138 hb_130 (by decide) rfl rfl (n := 5) rfl (by omega) hVw16 rfl trivial (fun Iw17 eIw17 hVw17 => ?_)
                  refine g_aload_n C dRd_readSize_139 rfl ?_
                  refine s_callV_v (av := fun ad => []) C dRd_readSize_140 mfRd_step mvRd_step ln_Rd_40 h0 (by decide) rfl hVw17 fr_CC (cRd_step hVw17.1 h0) rfl rfl (Nat.le_of_ble_eq_true rfl) ⟨Nat.le_of_ble_eq_true rfl, Nat.le_of_ble_eq_true rfl⟩ ⟨rfl, rfl⟩ ⟨Nat.zero_le _, Nat.zero_le _⟩ (fun Iw18 Jw18 hVw18 hFw18 p_140 => ?_)
                  refine g_iconst (v := Int32.ofInt (1)) C dRd_readSize_143 (by decide) ?_
                  exact s_zret C E dRd_readSize_144 ⟨Nat.zero_le _, Nat.zero_le _⟩ hVw18 (Or.inr (ofI (by decide))) trivial
                · skip
                  refine g_iconst (v := Int32.ofInt (0)) C dRd_readSize_127 (by decide) ?_
                  exact s_zret C E dRd_readSize_128 ⟨Nat.zero_le _, Nat.zero_le _⟩ hVw16 (Or.inl (ofI (by decide))) trivial
            · skip
              refine g_iconst (v := Int32.ofInt (0)) C dRd_readSize_92 (by decide) ?_
              exact s_zret C E dRd_readSize_93 ⟨Nat.zero_le _, Nat.zero_le _⟩ hVw12 (Or.inl (ofI (by decide))) trivial
          · skip
            refine g_iconst (v := Int32.ofInt (1)) C dRd_readSize_76 (by decide) ?_
            exact s_zret C E dRd_readSize_77 ⟨Nat.zero_le _, Nat.zero_le _⟩ hVw9 (Or.inr (ofI (by decide))) trivial
        · skip
          exact g_sub (jn_40  Iw1 Jw1  hVw1) ⟨rfl, rfl, rfl, trivial⟩
    · skip
      refine g_aload_n C dRd_readSize_25 rfl ?_
      refine g_iconst (v := Int32.ofInt (3)) C dRd_readSize_26 (by decide) ?_
      refine s_callV_z (av := fun ad => [.int (Int32.ofInt (3))]) C dRd_readSize_27 mfRd_fail mvRd_fail ln_Rd_54 h0 (by decide) rfl hVw1 fr_CC (cRd_fail hVw1.1 h0) rfl rfl (Nat.le_of_ble_eq_true rfl) ⟨Nat.le_of_ble_eq_true rfl, Nat.le_of_ble_eq_true rfl⟩ ⟨rfl, rfl⟩ ⟨Nat.zero_le _, Nat.zero_le _⟩ (fun Iw19 Jw19 hVw19 hFw19 z_27 b_27 p_27 => ?_)
      have rz_27 := rg z_27
      have u_27 := b_27
      unfold B01 at u_27
      exact s_zret C E dRd_readSize_30 ⟨Nat.zero_le _, Nat.zero_le _⟩ hVw19 (by first | assumption | (unfold B01; omega)) trivial
  · skip
    refine g_aload_n C dRd_readSize_11 rfl ?_
    refine g_iconst (v := Int32.ofInt (1)) C dRd_readSize_12 (by decide) ?_
    refine s_callV_z (av := fun ad => [.int (Int32.ofInt (1))]) C dRd_readSize_13 mfRd_fail mvRd_fail ln_Rd_54 h0 (by decide) rfl hVw1 fr_CC (cRd_fail hVw1.1 h0) rfl rfl (Nat.le_of_ble_eq_true rfl) ⟨Nat.le_of_ble_eq_true rfl, Nat.le_of_ble_eq_true rfl⟩ ⟨rfl, rfl⟩ ⟨Nat.zero_le _, Nat.zero_le _⟩ (fun Iw20 Jw20 hVw20 hFw20 z_13 b_13 p_13 => ?_)
    have rz_13 := rg z_13
    have u_13 := b_13
    unfold B01 at u_13
    exact s_zret C E dRd_readSize_16 ⟨Nat.zero_le _, Nat.zero_le _⟩ hVw20 (by first | assumption | (unfold B01; omega)) trivial
set_option maxHeartbeats 4000000 in
set_option maxRecDepth 100000 in
theorem cRd_readOre {P : List Nat} {K : Nat → Nat} {I0 : Nat → Nat → Int32} {O : Nat → Nat → Option Nat} {J0 : Nat → Nat → Int64} (hV : IV P K I0 O) {a0 : Nat} (h0 : a0 ∈ P ∧ K a0 = 5) {a1 : Nat} (h1 : a1 ∈ P ∧ K a1 = 3) {x2 : Int32} : Con yRd_readOre bRd_readOre 3 (some .boolean) ({ frames := 6, cells := 0, slots := 0, locals := 128 } : Room) P K I0 O J0 [.ref a0, .ref a1, .int x2] (SPo frC 2 (tt) P K I0 O J0) := by
  refine Con.ofG mfRd_readOre (Nat.le_of_ble_eq_true rfl) ?_
  intro X C E
  have r2 := rg x2
  have hV0 : SV frC P K O I0 J0 I0 J0 := SV.rf hV
  refine g_aload_n C dRd_readOre_0 rfl ?_
  refine s_callV_v (av := fun ad => []) C dRd_readOre_1 mfRd_step mvRd_step ln_Rd_40 h0 (by decide) rfl hV0 fr_CC (cRd_step hV0.1 h0) rfl rfl (Nat.le_of_ble_eq_true rfl) ⟨Nat.le_of_ble_eq_true rfl, Nat.le_of_ble_eq_true rfl⟩ ⟨rfl, rfl⟩ ⟨Nat.zero_le _, Nat.zero_le _⟩ (fun Iw1 Jw1 hVw1 hFw1 p_1 => ?_)
  refine g_aload_n C dRd_readOre_4 rfl ?_
  refine s_callV_zp (av := fun ad => []) C dRd_readOre_5 mfRd_isName mvRd_isName ln_Rd_170 h0 (by decide) rfl (cRd_isName hVw1.1 h0) rfl rfl (Nat.le_of_ble_eq_true rfl) ⟨Nat.le_of_ble_eq_true rfl, Nat.le_of_ble_eq_true rfl⟩ ⟨rfl, rfl⟩ ⟨Nat.zero_le _, Nat.zero_le _⟩ (fun z_5 b_5 p_5 => ?_)
  have rz_5 := rg z_5
  have u_5 := b_5
  unfold B01 at u_5
  refine gt_if_ne 17 C dRd_readOre_8 (by decide) rfl (fun c_8 => ?_) (fun c_8 => ?_)
  · skip
    refine g_aload_n C dRd_readOre_17 rfl ?_
    refine g_aload_n C dRd_readOre_18 rfl ?_
    refine s_callV_zp (av := fun ad => [.ref a1]) C dRd_readOre_19 mfRd_isTold mvRd_isTold ln_Rd_193 h0 (by decide) rfl (cRd_isTold hVw1.1 h0 h1) rfl rfl (Nat.le_of_ble_eq_true rfl) ⟨Nat.le_of_ble_eq_true rfl, Nat.le_of_ble_eq_true rfl⟩ ⟨rfl, rfl⟩ ⟨Nat.zero_le _, Nat.zero_le _⟩ (fun z_19 b_19 p_19 => ?_)
    have rz_19 := rg z_19
    have u_19 := b_19
    unfold B01 at u_19
    refine gt_if_eq 31 C dRd_readOre_22 (by decide) rfl (fun c_22 => ?_) (fun c_22 => ?_)
    · skip
      refine g_iload_n C dRd_readOre_31 rfl ?_
      have jn_40 : ∀   (Iw4 : Nat → Nat → Int32) (Jw4 : Nat → Nat → Int64),  SV frC P K O I0 J0 Iw4 Jw4 → GG X 3 P K Iw4 O Jw4 0 0 40 [(0, .ref a0), (1, .ref a1), (2, .int x2)] [] := by
        intro Iw4 Jw4 hVw4
        refine g_aload_n C dRd_readOre_40 rfl ?_
        refine g_iconst (v := Int32.ofInt (5)) C dRd_readOre_41 (by decide) ?_
        refine s_callV_z (av := fun ad => [.int (Int32.ofInt (5))]) C dRd_readOre_42 mfRd_fail mvRd_fail ln_Rd_54 h0 (by decide) rfl hVw4 fr_CC (cRd_fail hVw4.1 h0) rfl rfl (Nat.le_of_ble_eq_true rfl) ⟨Nat.le_of_ble_eq_true rfl, Nat.le_of_ble_eq_true rfl⟩ ⟨rfl, rfl⟩ ⟨Nat.zero_le _, Nat.zero_le _⟩ (fun Iw5 Jw5 hVw5 hFw5 z_42 b_42 p_42 => ?_)
        have rz_42 := rg z_42
        have u_42 := b_42
        unfold B01 at u_42
        exact s_zret C E dRd_readOre_45 ⟨Nat.zero_le _, Nat.zero_le _⟩ hVw5 (by first | assumption | (unfold B01; omega)) trivial
      refine gt_if_lt 40 C dRd_readOre_32 (by decide) rfl (fun c_32 => ?_) (fun c_32 => ?_)
      · skip
        exact g_sub (jn_40  Iw1 Jw1  hVw1) ⟨rfl, rfl, rfl, trivial⟩
      · skip
        refine g_iload_n C dRd_readOre_35 rfl ?_
        refine g_iconst (v := Int32.ofInt (4)) C dRd_readOre_36 (by decide) ?_
        refine gt_icmp_lt 46 C dRd_readOre_37 (by decide) rfl (ofI (by decide)) (fun c_37 => ?_) (fun c_37 => ?_)
        · skip
          refine g_aload_n C dRd_readOre_46 rfl ?_
          refine gt_getr C dRd_readOre_47 fl_Rd_19 h0 hVw1.1.1 rfl (fun b_47 q_47 hb_47 => ?_)
          refine g_iload_n C dRd_readOre_50 rfl ?_
          refine g_aload_n C dRd_readOre_51 rfl ?_
          refine s_callV_lp (av := fun ad => []) C dRd_readOre_52 mfRd_nameCode mvRd_nameCode ln_Rd_173 h0 (by decide) rfl (cRd_nameCode hVw1.1 h0) rfl rfl (Nat.le_of_ble_eq_true rfl) ⟨Nat.le_of_ble_eq_true rfl, Nat.le_of_ble_eq_true rfl⟩ ⟨rfl, rfl⟩ ⟨Nat.zero_le _, Nat.zero_le _⟩ (fun z_52 p_52 => ?_)
          refine gt_last C dRd_readOre_55 hb_47 (by decide) rfl rfl (n := 4) rfl (by omega) hVw1 rfl (fun Jw7 eJw7 hVw7 => ?_)
          refine g_aload_n C dRd_readOre_56 rfl ?_
          refine g_iload_n C dRd_readOre_57 rfl ?_
          refine g_iconst (v := Int32.ofInt (1)) C dRd_readOre_58 (by decide) ?_
          first | refine n_iadd C dRd_readOre_59 rfl (ofI (by decide)) (by omega) (fun z_59 e_59 => ?_) | refine a_iadd C dRd_readOre_59 (fun z_59 => ?_)
          refine gt_puti C dRd_readOre_60 fl_Rd_149 h1 hVw7 rfl (by show 0 ≤ Int32.toInt _ ∧ Int32.toInt _ ≤ 4; omega) rfl (Or.inl rfl) (fun Iw8 eIw8 hVw8 => ?_)
          refine g_aload_n C dRd_readOre_63 rfl ?_
          refine s_callV_v (av := fun ad => []) C dRd_readOre_64 mfRd_step mvRd_step ln_Rd_40 h0 (by decide) rfl hVw8 fr_CC (cRd_step hVw8.1 h0) rfl rfl (Nat.le_of_ble_eq_true rfl) ⟨Nat.le_of_ble_eq_true rfl, Nat.le_of_ble_eq_true rfl⟩ ⟨rfl, rfl⟩ ⟨Nat.zero_le _, Nat.zero_le _⟩ (fun Iw9 Jw9 hVw9 hFw9 p_64 => ?_)
          refine g_aload_n C dRd_readOre_67 rfl ?_
          refine g_ldcS 13 C dRd_readOre_68 rfl ?_
          refine s_callV_z (av := fun ad => [.ref (ad.1 13)]) C dRd_readOre_70 mfRd_passWord mvRd_passWord ln_Rd_159 h0 (by decide) rfl hVw9 fr_CC (cRd_passWord hVw9.1 h0 (by decide)) rfl rfl (Nat.le_of_ble_eq_true rfl) ⟨Nat.le_of_ble_eq_true rfl, Nat.le_of_ble_eq_true rfl⟩ ⟨rfl, rfl⟩ ⟨Nat.zero_le _, Nat.zero_le _⟩ (fun Iw10 Jw10 hVw10 hFw10 z_70 b_70 p_70 => ?_)
          have rz_70 := rg z_70
          have u_70 := b_70
          unfold B01 at u_70
          refine gt_if_eq 86 C dRd_readOre_73 (by decide) rfl (fun c_73 => ?_) (fun c_73 => ?_)
          · skip
            refine g_iconst (v := Int32.ofInt (0)) C dRd_readOre_86 (by decide) ?_
            exact s_zret C E dRd_readOre_87 ⟨Nat.zero_le _, Nat.zero_le _⟩ hVw10 (Or.inl (ofI (by decide))) trivial
          · skip
            refine g_aload_n C dRd_readOre_76 rfl ?_
            refine g_iconst (v := Int32.ofInt (1)) C dRd_readOre_77 (by decide) ?_
            refine g_bipush (v := Int32.ofInt (9)) C dRd_readOre_78 (by decide) ?_
            refine s_callV_z (av := fun ad => [.int (Int32.ofInt (1)), .int (Int32.ofInt (9))]) C dRd_readOre_80 mfRd_checkWhole mvRd_checkWhole ln_Rd_162 h0 (by decide) rfl hVw10 fr_CC (cRd_checkWhole hVw10.1 h0) rfl rfl (Nat.le_of_ble_eq_true rfl) ⟨Nat.le_of_ble_eq_true rfl, Nat.le_of_ble_eq_true rfl⟩ ⟨rfl, rfl⟩ ⟨Nat.zero_le _, Nat.zero_le _⟩ (fun Iw11 Jw11 hVw11 hFw11 z_80 b_80 p_80 => ?_)
            have rz_80 := rg z_80
            have u_80 := b_80
            unfold B01 at u_80
            refine gt_if_ne 88 C dRd_readOre_83 (by decide) rfl (fun c_83 => ?_) (fun c_83 => ?_)
            · skip
              refine g_aload_n C dRd_readOre_88 rfl ?_
              refine gt_getr C dRd_readOre_89 fl_Rd_206 h1 hVw11.1.1 rfl (fun b_89 q_89 hb_89 => ?_)
              refine g_iload_n C dRd_readOre_92 rfl ?_
              refine g_aload_n C dRd_readOre_93 rfl ?_
              refine g_geti C dRd_readOre_94 fl_Rd_81 h0 ?_
              refine gt_iast C dRd_readOre_97 hb_89 (by decide) rfl rfl (n := 4) rfl (by omega) hVw11 rfl trivial (fun Iw12 eIw12 hVw12 => ?_)
              refine g_aload_n C dRd_readOre_98 rfl ?_
              refine s_callV_v (av := fun ad => []) C dRd_readOre_99 mfRd_step mvRd_step ln_Rd_40 h0 (by decide) rfl hVw12 fr_CC (cRd_step hVw12.1 h0) rfl rfl (Nat.le_of_ble_eq_true rfl) ⟨Nat.le_of_ble_eq_true rfl, Nat.le_of_ble_eq_true rfl⟩ ⟨rfl, rfl⟩ ⟨Nat.zero_le _, Nat.zero_le _⟩ (fun Iw13 Jw13 hVw13 hFw13 p_99 => ?_)
              refine g_aload_n C dRd_readOre_102 rfl ?_
              refine g_ldcS 14 C dRd_readOre_103 rfl ?_
              refine s_callV_zp (av := fun ad => [.ref (ad.1 14)]) C dRd_readOre_105 mfRd_isWord mvRd_isWord ln_Rd_95 h0 (by decide) rfl (cRd_isWord hVw13.1 h0 (by decide)) rfl rfl (Nat.le_of_ble_eq_true rfl) ⟨Nat.le_of_ble_eq_true rfl, Nat.le_of_ble_eq_true rfl⟩ ⟨rfl, rfl⟩ ⟨Nat.zero_le _, Nat.zero_le _⟩ (fun z_105 b_105 p_105 => ?_)
              have rz_105 := rg z_105
              have u_105 := b_105
              unfold B01 at u_105
              refine gt_if_eq 115 C dRd_readOre_108 (by decide) rfl (fun c_108 => ?_) (fun c_108 => ?_)
              · skip
                refine g_aload_n C dRd_readOre_115 rfl ?_
                refine g_iconst (v := Int32.ofInt (1)) C dRd_readOre_116 (by decide) ?_
                refine s_callV_z (av := fun ad => [.int (Int32.ofInt (1))]) C dRd_readOre_117 mfRd_fail mvRd_fail ln_Rd_54 h0 (by decide) rfl hVw13 fr_CC (cRd_fail hVw13.1 h0) rfl rfl (Nat.le_of_ble_eq_true rfl) ⟨Nat.le_of_ble_eq_true rfl, Nat.le_of_ble_eq_true rfl⟩ ⟨rfl, rfl⟩ ⟨Nat.zero_le _, Nat.zero_le _⟩ (fun Iw15 Jw15 hVw15 hFw15 z_117 b_117 p_117 => ?_)
                have rz_117 := rg z_117
                have u_117 := b_117
                unfold B01 at u_117
                exact s_zret C E dRd_readOre_120 ⟨Nat.zero_le _, Nat.zero_le _⟩ hVw15 (by first | assumption | (unfold B01; omega)) trivial
              · skip
                refine g_iconst (v := Int32.ofInt (1)) C dRd_readOre_111 (by decide) ?_
                refine g_goto 120 C dRd_readOre_112 (by decide) ?_
                exact s_zret C E dRd_readOre_120 ⟨Nat.zero_le _, Nat.zero_le _⟩ hVw13 (Or.inr (ofI (by decide))) trivial
            · skip
              refine g_iconst (v := Int32.ofInt (0)) C dRd_readOre_86 (by decide) ?_
              exact s_zret C E dRd_readOre_87 ⟨Nat.zero_le _, Nat.zero_le _⟩ hVw11 (Or.inl (ofI (by decide))) trivial
        · skip
          exact g_sub (jn_40  Iw1 Jw1  hVw1) ⟨rfl, rfl, rfl, trivial⟩
    · skip
      refine g_aload_n C dRd_readOre_25 rfl ?_
      refine g_iconst (v := Int32.ofInt (3)) C dRd_readOre_26 (by decide) ?_
      refine s_callV_z (av := fun ad => [.int (Int32.ofInt (3))]) C dRd_readOre_27 mfRd_fail mvRd_fail ln_Rd_54 h0 (by decide) rfl hVw1 fr_CC (cRd_fail hVw1.1 h0) rfl rfl (Nat.le_of_ble_eq_true rfl) ⟨Nat.le_of_ble_eq_true rfl, Nat.le_of_ble_eq_true rfl⟩ ⟨rfl, rfl⟩ ⟨Nat.zero_le _, Nat.zero_le _⟩ (fun Iw16 Jw16 hVw16 hFw16 z_27 b_27 p_27 => ?_)
      have rz_27 := rg z_27
      have u_27 := b_27
      unfold B01 at u_27
      exact s_zret C E dRd_readOre_30 ⟨Nat.zero_le _, Nat.zero_le _⟩ hVw16 (by first | assumption | (unfold B01; omega)) trivial
  · skip
    refine g_aload_n C dRd_readOre_11 rfl ?_
    refine g_iconst (v := Int32.ofInt (1)) C dRd_readOre_12 (by decide) ?_
    refine s_callV_z (av := fun ad => [.int (Int32.ofInt (1))]) C dRd_readOre_13 mfRd_fail mvRd_fail ln_Rd_54 h0 (by decide) rfl hVw1 fr_CC (cRd_fail hVw1.1 h0) rfl rfl (Nat.le_of_ble_eq_true rfl) ⟨Nat.le_of_ble_eq_true rfl, Nat.le_of_ble_eq_true rfl⟩ ⟨rfl, rfl⟩ ⟨Nat.zero_le _, Nat.zero_le _⟩ (fun Iw17 Jw17 hVw17 hFw17 z_13 b_13 p_13 => ?_)
    have rz_13 := rg z_13
    have u_13 := b_13
    unfold B01 at u_13
    exact s_zret C E dRd_readOre_16 ⟨Nat.zero_le _, Nat.zero_le _⟩ hVw17 (by first | assumption | (unfold B01; omega)) trivial
set_option maxHeartbeats 4000000 in
set_option maxRecDepth 100000 in
theorem cRd_readTons {P : List Nat} {K : Nat → Nat} {I0 : Nat → Nat → Int32} {O : Nat → Nat → Option Nat} {J0 : Nat → Nat → Int64} (hV : IV P K I0 O) {a0 : Nat} (h0 : a0 ∈ P ∧ K a0 = 5) {a1 : Nat} (h1 : a1 ∈ P ∧ K a1 = 3) {x2 : Int32} (pr0 : -1 ≤ Int32.toInt x2 ∧ Int32.toInt x2 ≤ 3) : Con yRd_readTons bRd_readTons 5 (some .boolean) ({ frames := 3, cells := 0, slots := 0, locals := 62 } : Room) P K I0 O J0 [.ref a0, .ref a1, .int x2] (SPo frC 2 (tt) P K I0 O J0) := by
  refine Con.ofG mfRd_readTons (Nat.le_of_ble_eq_true rfl) ?_
  intro X C E
  have r2 := rg x2
  have hV0 : SV frC P K O I0 J0 I0 J0 := SV.rf hV
  refine g_iload_n C dRd_readTons_0 rfl ?_
  refine g_iconst (v := Int32.ofInt (5)) C dRd_readTons_1 (by decide) ?_
  first | refine n_imul C dRd_readTons_2 rfl (ofI (by decide)) (by omega) (fun z_2 e_2 => ?_) | refine a_imul C dRd_readTons_2 (fun z_2 => ?_)
  refine g_istore_n (i := 3) C dRd_readTons_3 rfl (by decide) ?_
  refine g_iconst (v := Int32.ofInt (0)) C dRd_readTons_4 (by decide) ?_
  refine g_istore C dRd_readTons_5 (by decide) ?_
  have lp_7 : ∀ (nn_7 : Nat) (x4_7 : Int32) (Iw1 : Nat → Nat → Int32) (Jw1 : Nat → Nat → Int64), Int.toNat (6 - x4_7.toInt) = nn_7 → (0 ≤ Int32.toInt x4_7 ∧ Int32.toInt x4_7 ≤ 6) → SV frC P K O I0 J0 Iw1 Jw1 → GG X 5 P K Iw1 O Jw1 0 0 7 [(0, .ref a0), (1, .ref a1), (2, .int x2), (3, .int z_2), (4, .int x4_7)] [] := by
    intro nn_7
    induction nn_7 using Nat.strongRecOn with
    | ind nn_7 ih_7 =>
    intro x4_7 Iw1 Jw1 hn_7 iv0_7 hVw1
    have rg4_7 := rg x4_7
    refine g_iload C dRd_readTons_7 rfl ?_
    refine g_iconst (v := Int32.ofInt (5)) C dRd_readTons_9 (by decide) ?_
    refine gt_icmp_gt 94 C dRd_readTons_10 (by decide) rfl (ofI (by decide)) (fun c_10 => ?_) (fun c_10 => ?_)
    · skip
      refine g_aload_n C dRd_readTons_94 rfl ?_
      refine g_iconst (v := Int32.ofInt (5)) C dRd_readTons_95 (by decide) ?_
      refine s_callV_z (av := fun ad => [.int (Int32.ofInt (5))]) C dRd_readTons_96 mfRd_fail mvRd_fail ln_Rd_54 h0 (by decide) rfl hVw1 fr_CC (cRd_fail hVw1.1 h0) rfl rfl (Nat.le_of_ble_eq_true rfl) ⟨Nat.le_of_ble_eq_true rfl, Nat.le_of_ble_eq_true rfl⟩ ⟨rfl, rfl⟩ ⟨Nat.zero_le _, Nat.zero_le _⟩ (fun Iw2 Jw2 hVw2 hFw2 z_96 b_96 p_96 => ?_)
      have rz_96 := rg z_96
      have u_96 := b_96
      unfold B01 at u_96
      exact s_zret C E dRd_readTons_99 ⟨Nat.zero_le _, Nat.zero_le _⟩ hVw2 (by first | assumption | (unfold B01; omega)) trivial
    · skip
      refine g_aload_n C dRd_readTons_13 rfl ?_
      refine s_callV_v (av := fun ad => []) C dRd_readTons_14 mfRd_step mvRd_step ln_Rd_40 h0 (by decide) rfl hVw1 fr_CC (cRd_step hVw1.1 h0) rfl rfl (Nat.le_of_ble_eq_true rfl) ⟨Nat.le_of_ble_eq_true rfl, Nat.le_of_ble_eq_true rfl⟩ ⟨rfl, rfl⟩ ⟨Nat.zero_le _, Nat.zero_le _⟩ (fun Iw3 Jw3 hVw3 hFw3 p_14 => ?_)
      refine g_aload_n C dRd_readTons_17 rfl ?_
      refine g_iconst (v := Int32.ofInt (0)) C dRd_readTons_18 (by decide) ?_
      refine g_bipush (v := Int32.ofInt (50)) C dRd_readTons_19 (by decide) ?_
      refine s_callV_z (av := fun ad => [.int (Int32.ofInt (0)), .int (Int32.ofInt (50))]) C dRd_readTons_21 mfRd_checkWhole mvRd_checkWhole ln_Rd_162 h0 (by decide) rfl hVw3 fr_CC (cRd_checkWhole hVw3.1 h0) rfl rfl (Nat.le_of_ble_eq_true rfl) ⟨Nat.le_of_ble_eq_true rfl, Nat.le_of_ble_eq_true rfl⟩ ⟨rfl, rfl⟩ ⟨Nat.zero_le _, Nat.zero_le _⟩ (fun Iw4 Jw4 hVw4 hFw4 z_21 b_21 p_21 => ?_)
      have rz_21 := rg z_21
      have u_21 := b_21
      unfold B01 at u_21
      refine gt_if_ne 29 C dRd_readTons_24 (by decide) rfl (fun c_24 => ?_) (fun c_24 => ?_)
      · skip
        refine g_iload C dRd_readTons_29 rfl ?_
        refine g_aload_n C dRd_readTons_31 rfl ?_
        refine g_geti C dRd_readTons_32 fl_Rd_142 h1 ?_
        have jn_54 : ∀   (Iw5 : Nat → Nat → Int32) (Jw5 : Nat → Nat → Int64),  SV frC P K O I0 J0 Iw5 Jw5 → GG X 5 P K Iw5 O Jw5 0 0 54 [(0, .ref a0), (1, .ref a1), (2, .int x2), (3, .int z_2), (4, .int x4_7)] [] := by
          intro Iw5 Jw5 hVw5
          refine g_aload_n C dRd_readTons_54 rfl ?_
          refine g_iconst (v := Int32.ofInt (5)) C dRd_readTons_55 (by decide) ?_
          refine s_callV_z (av := fun ad => [.int (Int32.ofInt (5))]) C dRd_readTons_56 mfRd_fail mvRd_fail ln_Rd_54 h0 (by decide) rfl hVw5 fr_CC (cRd_fail hVw5.1 h0) rfl rfl (Nat.le_of_ble_eq_true rfl) ⟨Nat.le_of_ble_eq_true rfl, Nat.le_of_ble_eq_true rfl⟩ ⟨rfl, rfl⟩ ⟨Nat.zero_le _, Nat.zero_le _⟩ (fun Iw6 Jw6 hVw6 hFw6 z_56 b_56 p_56 => ?_)
          have rz_56 := rg z_56
          have u_56 := b_56
          unfold B01 at u_56
          exact s_zret C E dRd_readTons_59 ⟨Nat.zero_le _, Nat.zero_le _⟩ hVw6 (by first | assumption | (unfold B01; omega)) trivial
        refine gt_icmp_ge 54 C dRd_readTons_35 (by decide) rfl rfl (fun c_35 => ?_) (fun c_35 => ?_)
        · skip
          exact g_sub (jn_54  Iw4 Jw4  hVw4) ⟨rfl, rfl, rfl, rfl, rfl, trivial⟩
        · skip
          refine g_iload_n C dRd_readTons_38 rfl ?_
          refine gt_if_lt 54 C dRd_readTons_39 (by decide) rfl (fun c_39 => ?_) (fun c_39 => ?_)
          · skip
            exact g_sub (jn_54  Iw4 Jw4  hVw4) ⟨rfl, rfl, rfl, rfl, rfl, trivial⟩
          · skip
            refine g_iload_n C dRd_readTons_42 rfl ?_
            refine g_iload C dRd_readTons_43 rfl ?_
            first | refine n_iadd C dRd_readTons_45 rfl rfl (by omega) (fun z_45 e_45 => ?_) | refine a_iadd C dRd_readTons_45 (fun z_45 => ?_)
            refine g_aload_n C dRd_readTons_46 rfl ?_
            refine gt_getr C dRd_readTons_47 fl_Rd_210 h1 hVw4.1.1 rfl (fun b_47 q_47 hb_47 => ?_)
            refine gt_alen C dRd_readTons_50 hb_47 (by decide) (by decide) (by decide) (n := 20) rfl (fun z_50 e_50 => ?_)
            refine gt_icmp_lt 60 C dRd_readTons_51 (by decide) rfl rfl (fun c_51 => ?_) (fun c_51 => ?_)
            · skip
              refine g_aload_n C dRd_readTons_60 rfl ?_
              refine gt_getS C dRd_readTons_61 fl_Rd_210 h1 q_47 ?_
              refine g_iload_n C dRd_readTons_64 rfl ?_
              refine g_iload C dRd_readTons_65 rfl ?_
              first | refine n_iadd C dRd_readTons_67 rfl rfl (by omega) (fun z_67 e_67 => ?_) | refine a_iadd C dRd_readTons_67 (fun z_67 => ?_)
              refine g_aload_n C dRd_readTons_68 rfl ?_
              refine g_geti C dRd_readTons_69 fl_Rd_81 h0 ?_
              refine gt_iast C dRd_readTons_72 hb_47 (by decide) rfl rfl (n := 20) rfl (by omega) hVw4 rfl trivial (fun Iw7 eIw7 hVw7 => ?_)
              refine g_aload_n C dRd_readTons_73 rfl ?_
              refine s_callV_v (av := fun ad => []) C dRd_readTons_74 mfRd_step mvRd_step ln_Rd_40 h0 (by decide) rfl hVw7 fr_CC (cRd_step hVw7.1 h0) rfl rfl (Nat.le_of_ble_eq_true rfl) ⟨Nat.le_of_ble_eq_true rfl, Nat.le_of_ble_eq_true rfl⟩ ⟨rfl, rfl⟩ ⟨Nat.zero_le _, Nat.zero_le _⟩ (fun Iw8 Jw8 hVw8 hFw8 p_74 => ?_)
              refine g_aload_n C dRd_readTons_77 rfl ?_
              refine g_bipush (v := Int32.ofInt (44)) C dRd_readTons_78 (by decide) ?_
              refine s_callV_zp (av := fun ad => [.int (Int32.ofInt (44))]) C dRd_readTons_80 mfRd_isSign mvRd_isSign ln_Rd_58 h0 (by decide) rfl (cRd_isSign hVw8.1 h0) rfl rfl (Nat.le_of_ble_eq_true rfl) ⟨Nat.le_of_ble_eq_true rfl, Nat.le_of_ble_eq_true rfl⟩ ⟨rfl, rfl⟩ ⟨Nat.zero_le _, Nat.zero_le _⟩ (fun z_80 b_80 p_80 => ?_)
              have rz_80 := rg z_80
              have u_80 := b_80
              unfold B01 at u_80
              refine gt_if_ne 88 C dRd_readTons_83 (by decide) rfl (fun c_83 => ?_) (fun c_83 => ?_)
              · skip
                first | refine n_iinc C dRd_readTons_88 rfl rfl (by decide) (by decide) (by omega) (fun z_88 e_88 => ?_) | refine a_iinc C dRd_readTons_88 rfl (by decide) (fun z_88 => ?_)
                refine g_goto 7 C dRd_readTons_91 (by decide) ?_
                exact g_sub (ih_7 _ (by omega) z_88 Iw8 Jw8 rfl (by omega) hVw8) ⟨rfl, rfl, rfl, rfl, rfl, trivial⟩
              · skip
                refine g_iconst (v := Int32.ofInt (1)) C dRd_readTons_86 (by decide) ?_
                exact s_zret C E dRd_readTons_87 ⟨Nat.zero_le _, Nat.zero_le _⟩ hVw8 (Or.inr (ofI (by decide))) trivial
            · skip
              exact g_sub (jn_54  Iw4 Jw4  hVw4) ⟨rfl, rfl, rfl, rfl, rfl, trivial⟩
      · skip
        refine g_iconst (v := Int32.ofInt (0)) C dRd_readTons_27 (by decide) ?_
        exact s_zret C E dRd_readTons_28 ⟨Nat.zero_le _, Nat.zero_le _⟩ hVw4 (Or.inl (ofI (by decide))) trivial
  exact g_sub (lp_7 _ (Int32.ofInt (0)) I0 J0 rfl (by have hci : Int32.toInt (Int32.ofInt (0)) = 0 := ofI (by decide); omega) hV0) ⟨rfl, rfl, rfl, rfl, rfl, trivial⟩
set_option maxHeartbeats 4000000 in
set_option maxRecDepth 100000 in
theorem cRd_readLine {P : List Nat} {K : Nat → Nat} {I0 : Nat → Nat → Int32} {O : Nat → Nat → Option Nat} {J0 : Nat → Nat → Int64} (hV : IV P K I0 O) {a0 : Nat} (h0 : a0 ∈ P ∧ K a0 = 5) {a1 : Nat} (h1 : a1 ∈ P ∧ K a1 = 3) : Con yRd_readLine bRd_readLine 2 (some .boolean) ({ frames := 7, cells := 0, slots := 0, locals := 150 } : Room) P K I0 O J0 [.ref a0, .ref a1] (SPo frC 2 (tt) P K I0 O J0) := by
  refine Con.ofG mfRd_readLine (Nat.le_of_ble_eq_true rfl) ?_
  intro X C E
  have hV0 : SV frC P K O I0 J0 I0 J0 := SV.rf hV
  refine g_aload_n C dRd_readLine_0 rfl ?_
  refine g_ldcS 0 C dRd_readLine_1 rfl ?_
  refine s_callV_zp (av := fun ad => [.ref (ad.1 0)]) C dRd_readLine_3 mfRd_isWord mvRd_isWord ln_Rd_95 h0 (by decide) rfl (cRd_isWord hV0.1 h0 (by decide)) rfl rfl (Nat.le_of_ble_eq_true rfl) ⟨Nat.le_of_ble_eq_true rfl, Nat.le_of_ble_eq_true rfl⟩ ⟨rfl, rfl⟩ ⟨Nat.zero_le _, Nat.zero_le _⟩ (fun z_3 b_3 p_3 => ?_)
  have rz_3 := rg z_3
  have u_3 := b_3
  unfold B01 at u_3
  refine gt_if_eq 30 C dRd_readLine_6 (by decide) rfl (fun c_6 => ?_) (fun c_6 => ?_)
  · skip
    refine g_aload_n C dRd_readLine_30 rfl ?_
    refine g_ldcS 3 C dRd_readLine_31 rfl ?_
    refine s_callV_zp (av := fun ad => [.ref (ad.1 3)]) C dRd_readLine_33 mfRd_isWord mvRd_isWord ln_Rd_95 h0 (by decide) rfl (cRd_isWord hV0.1 h0 (by decide)) rfl rfl (Nat.le_of_ble_eq_true rfl) ⟨Nat.le_of_ble_eq_true rfl, Nat.le_of_ble_eq_true rfl⟩ ⟨rfl, rfl⟩ ⟨Nat.zero_le _, Nat.zero_le _⟩ (fun z_33 b_33 p_33 => ?_)
    have rz_33 := rg z_33
    have u_33 := b_33
    unfold B01 at u_33
    refine gt_if_eq 61 C dRd_readLine_36 (by decide) rfl (fun c_36 => ?_) (fun c_36 => ?_)
    · skip
      refine g_aload_n C dRd_readLine_61 rfl ?_
      refine g_ldcS 4 C dRd_readLine_62 rfl ?_
      refine s_callV_zp (av := fun ad => [.ref (ad.1 4)]) C dRd_readLine_64 mfRd_isWord mvRd_isWord ln_Rd_95 h0 (by decide) rfl (cRd_isWord hV0.1 h0 (by decide)) rfl rfl (Nat.le_of_ble_eq_true rfl) ⟨Nat.le_of_ble_eq_true rfl, Nat.le_of_ble_eq_true rfl⟩ ⟨rfl, rfl⟩ ⟨Nat.zero_le _, Nat.zero_le _⟩ (fun z_64 b_64 p_64 => ?_)
      have rz_64 := rg z_64
      have u_64 := b_64
      unfold B01 at u_64
      refine gt_if_eq 91 C dRd_readLine_67 (by decide) rfl (fun c_67 => ?_) (fun c_67 => ?_)
      · skip
        refine g_aload_n C dRd_readLine_91 rfl ?_
        refine g_ldcS 5 C dRd_readLine_92 rfl ?_
        refine s_callV_zp (av := fun ad => [.ref (ad.1 5)]) C dRd_readLine_94 mfRd_isWord mvRd_isWord ln_Rd_95 h0 (by decide) rfl (cRd_isWord hV0.1 h0 (by decide)) rfl rfl (Nat.le_of_ble_eq_true rfl) ⟨Nat.le_of_ble_eq_true rfl, Nat.le_of_ble_eq_true rfl⟩ ⟨rfl, rfl⟩ ⟨Nat.zero_le _, Nat.zero_le _⟩ (fun z_94 b_94 p_94 => ?_)
        have rz_94 := rg z_94
        have u_94 := b_94
        unfold B01 at u_94
        refine gt_if_eq 121 C dRd_readLine_97 (by decide) rfl (fun c_97 => ?_) (fun c_97 => ?_)
        · skip
          refine g_aload_n C dRd_readLine_121 rfl ?_
          refine g_ldcS 6 C dRd_readLine_122 rfl ?_
          refine s_callV_zp (av := fun ad => [.ref (ad.1 6)]) C dRd_readLine_124 mfRd_isWord mvRd_isWord ln_Rd_95 h0 (by decide) rfl (cRd_isWord hV0.1 h0 (by decide)) rfl rfl (Nat.le_of_ble_eq_true rfl) ⟨Nat.le_of_ble_eq_true rfl, Nat.le_of_ble_eq_true rfl⟩ ⟨rfl, rfl⟩ ⟨Nat.zero_le _, Nat.zero_le _⟩ (fun z_124 b_124 p_124 => ?_)
          have rz_124 := rg z_124
          have u_124 := b_124
          unfold B01 at u_124
          refine gt_if_eq 151 C dRd_readLine_127 (by decide) rfl (fun c_127 => ?_) (fun c_127 => ?_)
          · skip
            refine g_aload_n C dRd_readLine_151 rfl ?_
            refine g_ldcS 7 C dRd_readLine_152 rfl ?_
            refine s_callV_zp (av := fun ad => [.ref (ad.1 7)]) C dRd_readLine_154 mfRd_isWord mvRd_isWord ln_Rd_95 h0 (by decide) rfl (cRd_isWord hV0.1 h0 (by decide)) rfl rfl (Nat.le_of_ble_eq_true rfl) ⟨Nat.le_of_ble_eq_true rfl, Nat.le_of_ble_eq_true rfl⟩ ⟨rfl, rfl⟩ ⟨Nat.zero_le _, Nat.zero_le _⟩ (fun z_154 b_154 p_154 => ?_)
            have rz_154 := rg z_154
            have u_154 := b_154
            unfold B01 at u_154
            refine gt_if_eq 186 C dRd_readLine_157 (by decide) rfl (fun c_157 => ?_) (fun c_157 => ?_)
            · skip
              refine g_aload_n C dRd_readLine_186 rfl ?_
              refine g_ldcS 8 C dRd_readLine_187 rfl ?_
              refine s_callV_zp (av := fun ad => [.ref (ad.1 8)]) C dRd_readLine_189 mfRd_isWord mvRd_isWord ln_Rd_95 h0 (by decide) rfl (cRd_isWord hV0.1 h0 (by decide)) rfl rfl (Nat.le_of_ble_eq_true rfl) ⟨Nat.le_of_ble_eq_true rfl, Nat.le_of_ble_eq_true rfl⟩ ⟨rfl, rfl⟩ ⟨Nat.zero_le _, Nat.zero_le _⟩ (fun z_189 b_189 p_189 => ?_)
              have rz_189 := rg z_189
              have u_189 := b_189
              unfold B01 at u_189
              refine gt_if_eq 243 C dRd_readLine_192 (by decide) rfl (fun c_192 => ?_) (fun c_192 => ?_)
              · skip
                refine g_aload_n C dRd_readLine_243 rfl ?_
                refine g_iconst (v := Int32.ofInt (1)) C dRd_readLine_244 (by decide) ?_
                refine s_callV_z (av := fun ad => [.int (Int32.ofInt (1))]) C dRd_readLine_245 mfRd_fail mvRd_fail ln_Rd_54 h0 (by decide) rfl hV0 fr_CC (cRd_fail hV0.1 h0) rfl rfl (Nat.le_of_ble_eq_true rfl) ⟨Nat.le_of_ble_eq_true rfl, Nat.le_of_ble_eq_true rfl⟩ ⟨rfl, rfl⟩ ⟨Nat.zero_le _, Nat.zero_le _⟩ (fun Iw8 Jw8 hVw8 hFw8 z_245 b_245 p_245 => ?_)
                have rz_245 := rg z_245
                have u_245 := b_245
                unfold B01 at u_245
                exact s_zret C E dRd_readLine_248 ⟨Nat.zero_le _, Nat.zero_le _⟩ hVw8 (by first | assumption | (unfold B01; omega)) trivial
              · skip
                refine g_aload_n C dRd_readLine_195 rfl ?_
                refine g_geti C dRd_readLine_196 fl_Rd_149 h1 ?_
                have o_196 := hV0.1.2 a1 h1.1 8
                rw [h1.2] at o_196
                have o_196 : 0 ≤ (I0 a1 8).toInt ∧ (I0 a1 8).toInt ≤ 4 := o_196
                refine g_iconst (v := Int32.ofInt (4)) C dRd_readLine_199 (by decide) ?_
                refine gt_icmp_lt 211 C dRd_readLine_200 (by decide) rfl (ofI (by decide)) (fun c_200 => ?_) (fun c_200 => ?_)
                · skip
                  refine g_aload_n C dRd_readLine_211 rfl ?_
                  refine g_aload_n C dRd_readLine_212 rfl ?_
                  refine g_aload_n C dRd_readLine_213 rfl ?_
                  refine g_geti C dRd_readLine_214 fl_Rd_149 h1 ?_
                  have o_214 := hV0.1.2 a1 h1.1 8
                  rw [h1.2] at o_214
                  have o_214 : 0 ≤ (I0 a1 8).toInt ∧ (I0 a1 8).toInt ≤ 4 := o_214
                  refine s_callV_z (av := fun ad => [.ref a1, .int (I0 a1 8)]) C dRd_readLine_217 mfRd_readOre mvRd_readOre ln_Rd_152 h0 (by decide) rfl hV0 fr_CC (cRd_readOre hV0.1 h0 h1) rfl rfl (Nat.le_of_ble_eq_true rfl) ⟨Nat.le_of_ble_eq_true rfl, Nat.le_of_ble_eq_true rfl⟩ ⟨rfl, rfl⟩ ⟨Nat.zero_le _, Nat.zero_le _⟩ (fun Iw9 Jw9 hVw9 hFw9 z_217 b_217 p_217 => ?_)
                  have rz_217 := rg z_217
                  have u_217 := b_217
                  unfold B01 at u_217
                  refine gt_if_eq 241 C dRd_readLine_220 (by decide) rfl (fun c_220 => ?_) (fun c_220 => ?_)
                  · skip
                    refine g_iconst (v := Int32.ofInt (0)) C dRd_readLine_241 (by decide) ?_
                    exact s_zret C E dRd_readLine_242 ⟨Nat.zero_le _, Nat.zero_le _⟩ hVw9 (Or.inl (ofI (by decide))) trivial
                  · skip
                    refine g_aload_n C dRd_readLine_223 rfl ?_
                    refine g_aload_n C dRd_readLine_224 rfl ?_
                    refine g_aload_n C dRd_readLine_225 rfl ?_
                    refine g_geti C dRd_readLine_226 fl_Rd_149 h1 ?_
                    have o_226 := hVw9.1.2 a1 h1.1 8
                    rw [h1.2] at o_226
                    have o_226 : 0 ≤ (Iw9 a1 8).toInt ∧ (Iw9 a1 8).toInt ≤ 4 := o_226
                    refine g_iconst (v := Int32.ofInt (1)) C dRd_readLine_229 (by decide) ?_
                    first | refine n_isub C dRd_readLine_230 rfl (ofI (by decide)) (by omega) (fun z_230 e_230 => ?_) | refine a_isub C dRd_readLine_230 (fun z_230 => ?_)
                    refine s_callV_z (av := fun ad => [.ref a1, .int z_230]) C dRd_readLine_231 mfRd_readTons mvRd_readTons ln_Rd_155 h0 (by decide) rfl hVw9 fr_CC (cRd_readTons hVw9.1 h0 h1 (by omega)) rfl rfl (Nat.le_of_ble_eq_true rfl) ⟨Nat.le_of_ble_eq_true rfl, Nat.le_of_ble_eq_true rfl⟩ ⟨rfl, rfl⟩ ⟨Nat.zero_le _, Nat.zero_le _⟩ (fun Iw10 Jw10 hVw10 hFw10 z_231 b_231 p_231 => ?_)
                    have rz_231 := rg z_231
                    have u_231 := b_231
                    unfold B01 at u_231
                    refine gt_if_eq 241 C dRd_readLine_234 (by decide) rfl (fun c_234 => ?_) (fun c_234 => ?_)
                    · skip
                      refine g_iconst (v := Int32.ofInt (0)) C dRd_readLine_241 (by decide) ?_
                      exact s_zret C E dRd_readLine_242 ⟨Nat.zero_le _, Nat.zero_le _⟩ hVw10 (Or.inl (ofI (by decide))) trivial
                    · skip
                      refine g_iconst (v := Int32.ofInt (1)) C dRd_readLine_237 (by decide) ?_
                      refine g_goto 242 C dRd_readLine_238 (by decide) ?_
                      exact s_zret C E dRd_readLine_242 ⟨Nat.zero_le _, Nat.zero_le _⟩ hVw10 (Or.inr (ofI (by decide))) trivial
                · skip
                  refine g_aload_n C dRd_readLine_203 rfl ?_
                  refine g_iconst (v := Int32.ofInt (5)) C dRd_readLine_204 (by decide) ?_
                  refine s_callV_z (av := fun ad => [.int (Int32.ofInt (5))]) C dRd_readLine_205 mfRd_fail mvRd_fail ln_Rd_54 h0 (by decide) rfl hV0 fr_CC (cRd_fail hV0.1 h0) rfl rfl (Nat.le_of_ble_eq_true rfl) ⟨Nat.le_of_ble_eq_true rfl, Nat.le_of_ble_eq_true rfl⟩ ⟨rfl, rfl⟩ ⟨Nat.zero_le _, Nat.zero_le _⟩ (fun Iw11 Jw11 hVw11 hFw11 z_205 b_205 p_205 => ?_)
                  have rz_205 := rg z_205
                  have u_205 := b_205
                  unfold B01 at u_205
                  refine g_goto 242 C dRd_readLine_208 (by decide) ?_
                  exact s_zret C E dRd_readLine_242 ⟨Nat.zero_le _, Nat.zero_le _⟩ hVw11 (by first | assumption | (unfold B01; omega)) trivial
            · skip
              refine g_aload_n C dRd_readLine_160 rfl ?_
              refine g_geti C dRd_readLine_161 fl_Rd_142 h1 ?_
              have o_161 := hV0.1.2 a1 h1.1 7
              rw [h1.2] at o_161
              have o_161 : 0 ≤ (I0 a1 7).toInt ∧ (I0 a1 7).toInt ≤ 5 := o_161
              refine g_iconst (v := Int32.ofInt (5)) C dRd_readLine_164 (by decide) ?_
              refine gt_icmp_lt 176 C dRd_readLine_165 (by decide) rfl (ofI (by decide)) (fun c_165 => ?_) (fun c_165 => ?_)
              · skip
                refine g_aload_n C dRd_readLine_176 rfl ?_
                refine g_aload_n C dRd_readLine_177 rfl ?_
                refine g_aload_n C dRd_readLine_178 rfl ?_
                refine g_geti C dRd_readLine_179 fl_Rd_142 h1 ?_
                have o_179 := hV0.1.2 a1 h1.1 7
                rw [h1.2] at o_179
                have o_179 : 0 ≤ (I0 a1 7).toInt ∧ (I0 a1 7).toInt ≤ 5 := o_179
                refine s_callV_z (av := fun ad => [.ref a1, .int (I0 a1 7)]) C dRd_readLine_182 mfRd_readSize mvRd_readSize ln_Rd_145 h0 (by decide) rfl hV0 fr_CC (cRd_readSize hV0.1 h0 h1) rfl rfl (Nat.le_of_ble_eq_true rfl) ⟨Nat.le_of_ble_eq_true rfl, Nat.le_of_ble_eq_true rfl⟩ ⟨rfl, rfl⟩ ⟨Nat.zero_le _, Nat.zero_le _⟩ (fun Iw12 Jw12 hVw12 hFw12 z_182 b_182 p_182 => ?_)
                have rz_182 := rg z_182
                have u_182 := b_182
                unfold B01 at u_182
                exact s_zret C E dRd_readLine_185 ⟨Nat.zero_le _, Nat.zero_le _⟩ hVw12 (by first | assumption | (unfold B01; omega)) trivial
              · skip
                refine g_aload_n C dRd_readLine_168 rfl ?_
                refine g_iconst (v := Int32.ofInt (5)) C dRd_readLine_169 (by decide) ?_
                refine s_callV_z (av := fun ad => [.int (Int32.ofInt (5))]) C dRd_readLine_170 mfRd_fail mvRd_fail ln_Rd_54 h0 (by decide) rfl hV0 fr_CC (cRd_fail hV0.1 h0) rfl rfl (Nat.le_of_ble_eq_true rfl) ⟨Nat.le_of_ble_eq_true rfl, Nat.le_of_ble_eq_true rfl⟩ ⟨rfl, rfl⟩ ⟨Nat.zero_le _, Nat.zero_le _⟩ (fun Iw13 Jw13 hVw13 hFw13 z_170 b_170 p_170 => ?_)
                have rz_170 := rg z_170
                have u_170 := b_170
                unfold B01 at u_170
                refine g_goto 185 C dRd_readLine_173 (by decide) ?_
                exact s_zret C E dRd_readLine_185 ⟨Nat.zero_le _, Nat.zero_le _⟩ hVw13 (by first | assumption | (unfold B01; omega)) trivial
          · skip
            refine g_aload_n C dRd_readLine_130 rfl ?_
            refine g_geti C dRd_readLine_131 fl_Rd_136 h1 ?_
            refine gt_if_le 145 C dRd_readLine_134 (by decide) rfl (fun c_134 => ?_) (fun c_134 => ?_)
            · skip
              refine g_aload_n C dRd_readLine_145 rfl ?_
              refine g_aload_n C dRd_readLine_146 rfl ?_
              refine s_callV_z (av := fun ad => [.ref a1]) C dRd_readLine_147 mfRd_readPrices mvRd_readPrices ln_Rd_139 h0 (by decide) rfl hV0 fr_CC (cRd_readPrices hV0.1 h0 h1) rfl rfl (Nat.le_of_ble_eq_true rfl) ⟨Nat.le_of_ble_eq_true rfl, Nat.le_of_ble_eq_true rfl⟩ ⟨rfl, rfl⟩ ⟨Nat.zero_le _, Nat.zero_le _⟩ (fun Iw14 Jw14 hVw14 hFw14 z_147 b_147 p_147 => ?_)
              have rz_147 := rg z_147
              have u_147 := b_147
              unfold B01 at u_147
              exact s_zret C E dRd_readLine_150 ⟨Nat.zero_le _, Nat.zero_le _⟩ hVw14 (by first | assumption | (unfold B01; omega)) trivial
            · skip
              refine g_aload_n C dRd_readLine_137 rfl ?_
              refine g_iconst (v := Int32.ofInt (3)) C dRd_readLine_138 (by decide) ?_
              refine s_callV_z (av := fun ad => [.int (Int32.ofInt (3))]) C dRd_readLine_139 mfRd_fail mvRd_fail ln_Rd_54 h0 (by decide) rfl hV0 fr_CC (cRd_fail hV0.1 h0) rfl rfl (Nat.le_of_ble_eq_true rfl) ⟨Nat.le_of_ble_eq_true rfl, Nat.le_of_ble_eq_true rfl⟩ ⟨rfl, rfl⟩ ⟨Nat.zero_le _, Nat.zero_le _⟩ (fun Iw15 Jw15 hVw15 hFw15 z_139 b_139 p_139 => ?_)
              have rz_139 := rg z_139
              have u_139 := b_139
              unfold B01 at u_139
              refine g_goto 150 C dRd_readLine_142 (by decide) ?_
              exact s_zret C E dRd_readLine_150 ⟨Nat.zero_le _, Nat.zero_le _⟩ hVw15 (by first | assumption | (unfold B01; omega)) trivial
        · skip
          refine g_aload_n C dRd_readLine_100 rfl ?_
          refine g_geti C dRd_readLine_101 fl_Rd_130 h1 ?_
          refine gt_if_le 115 C dRd_readLine_104 (by decide) rfl (fun c_104 => ?_) (fun c_104 => ?_)
          · skip
            refine g_aload_n C dRd_readLine_115 rfl ?_
            refine g_aload_n C dRd_readLine_116 rfl ?_
            refine s_callV_z (av := fun ad => [.ref a1]) C dRd_readLine_117 mfRd_readBin mvRd_readBin ln_Rd_133 h0 (by decide) rfl hV0 fr_CC (cRd_readBin hV0.1 h0 h1) rfl rfl (Nat.le_of_ble_eq_true rfl) ⟨Nat.le_of_ble_eq_true rfl, Nat.le_of_ble_eq_true rfl⟩ ⟨rfl, rfl⟩ ⟨Nat.zero_le _, Nat.zero_le _⟩ (fun Iw16 Jw16 hVw16 hFw16 z_117 b_117 p_117 => ?_)
            have rz_117 := rg z_117
            have u_117 := b_117
            unfold B01 at u_117
            exact s_zret C E dRd_readLine_120 ⟨Nat.zero_le _, Nat.zero_le _⟩ hVw16 (by first | assumption | (unfold B01; omega)) trivial
          · skip
            refine g_aload_n C dRd_readLine_107 rfl ?_
            refine g_iconst (v := Int32.ofInt (3)) C dRd_readLine_108 (by decide) ?_
            refine s_callV_z (av := fun ad => [.int (Int32.ofInt (3))]) C dRd_readLine_109 mfRd_fail mvRd_fail ln_Rd_54 h0 (by decide) rfl hV0 fr_CC (cRd_fail hV0.1 h0) rfl rfl (Nat.le_of_ble_eq_true rfl) ⟨Nat.le_of_ble_eq_true rfl, Nat.le_of_ble_eq_true rfl⟩ ⟨rfl, rfl⟩ ⟨Nat.zero_le _, Nat.zero_le _⟩ (fun Iw17 Jw17 hVw17 hFw17 z_109 b_109 p_109 => ?_)
            have rz_109 := rg z_109
            have u_109 := b_109
            unfold B01 at u_109
            refine g_goto 120 C dRd_readLine_112 (by decide) ?_
            exact s_zret C E dRd_readLine_120 ⟨Nat.zero_le _, Nat.zero_le _⟩ hVw17 (by first | assumption | (unfold B01; omega)) trivial
      · skip
        refine g_aload_n C dRd_readLine_70 rfl ?_
        refine g_geti C dRd_readLine_71 fl_Rd_124 h1 ?_
        refine gt_if_le 85 C dRd_readLine_74 (by decide) rfl (fun c_74 => ?_) (fun c_74 => ?_)
        · skip
          refine g_aload_n C dRd_readLine_85 rfl ?_
          refine g_aload_n C dRd_readLine_86 rfl ?_
          refine s_callV_z (av := fun ad => [.ref a1]) C dRd_readLine_87 mfRd_readLiner mvRd_readLiner ln_Rd_127 h0 (by decide) rfl hV0 fr_CC (cRd_readLiner hV0.1 h0 h1) rfl rfl (Nat.le_of_ble_eq_true rfl) ⟨Nat.le_of_ble_eq_true rfl, Nat.le_of_ble_eq_true rfl⟩ ⟨rfl, rfl⟩ ⟨Nat.zero_le _, Nat.zero_le _⟩ (fun Iw18 Jw18 hVw18 hFw18 z_87 b_87 p_87 => ?_)
          have rz_87 := rg z_87
          have u_87 := b_87
          unfold B01 at u_87
          exact s_zret C E dRd_readLine_90 ⟨Nat.zero_le _, Nat.zero_le _⟩ hVw18 (by first | assumption | (unfold B01; omega)) trivial
        · skip
          refine g_aload_n C dRd_readLine_77 rfl ?_
          refine g_iconst (v := Int32.ofInt (3)) C dRd_readLine_78 (by decide) ?_
          refine s_callV_z (av := fun ad => [.int (Int32.ofInt (3))]) C dRd_readLine_79 mfRd_fail mvRd_fail ln_Rd_54 h0 (by decide) rfl hV0 fr_CC (cRd_fail hV0.1 h0) rfl rfl (Nat.le_of_ble_eq_true rfl) ⟨Nat.le_of_ble_eq_true rfl, Nat.le_of_ble_eq_true rfl⟩ ⟨rfl, rfl⟩ ⟨Nat.zero_le _, Nat.zero_le _⟩ (fun Iw19 Jw19 hVw19 hFw19 z_79 b_79 p_79 => ?_)
          have rz_79 := rg z_79
          have u_79 := b_79
          unfold B01 at u_79
          refine g_goto 90 C dRd_readLine_82 (by decide) ?_
          exact s_zret C E dRd_readLine_90 ⟨Nat.zero_le _, Nat.zero_le _⟩ hVw19 (by first | assumption | (unfold B01; omega)) trivial
    · skip
      refine g_aload_n C dRd_readLine_39 rfl ?_
      refine g_geti C dRd_readLine_40 fl_Rd_119 h1 ?_
      refine g_iconst (v := Int32.ofInt (-1)) C dRd_readLine_43 (by decide) ?_
      refine gt_icmp_eq 55 C dRd_readLine_44 (by decide) rfl (ofI (by decide)) (fun c_44 => ?_) (fun c_44 => ?_)
      · skip
        refine g_aload_n C dRd_readLine_55 rfl ?_
        refine g_aload_n C dRd_readLine_56 rfl ?_
        refine s_callV_z (av := fun ad => [.ref a1]) C dRd_readLine_57 mfRd_readSieve mvRd_readSieve ln_Rd_121 h0 (by decide) rfl hV0 fr_CC (cRd_readSieve hV0.1 h0 h1) rfl rfl (Nat.le_of_ble_eq_true rfl) ⟨Nat.le_of_ble_eq_true rfl, Nat.le_of_ble_eq_true rfl⟩ ⟨rfl, rfl⟩ ⟨Nat.zero_le _, Nat.zero_le _⟩ (fun Iw20 Jw20 hVw20 hFw20 z_57 b_57 p_57 => ?_)
        have rz_57 := rg z_57
        have u_57 := b_57
        unfold B01 at u_57
        exact s_zret C E dRd_readLine_60 ⟨Nat.zero_le _, Nat.zero_le _⟩ hVw20 (by first | assumption | (unfold B01; omega)) trivial
      · skip
        refine g_aload_n C dRd_readLine_47 rfl ?_
        refine g_iconst (v := Int32.ofInt (3)) C dRd_readLine_48 (by decide) ?_
        refine s_callV_z (av := fun ad => [.int (Int32.ofInt (3))]) C dRd_readLine_49 mfRd_fail mvRd_fail ln_Rd_54 h0 (by decide) rfl hV0 fr_CC (cRd_fail hV0.1 h0) rfl rfl (Nat.le_of_ble_eq_true rfl) ⟨Nat.le_of_ble_eq_true rfl, Nat.le_of_ble_eq_true rfl⟩ ⟨rfl, rfl⟩ ⟨Nat.zero_le _, Nat.zero_le _⟩ (fun Iw21 Jw21 hVw21 hFw21 z_49 b_49 p_49 => ?_)
        have rz_49 := rg z_49
        have u_49 := b_49
        unfold B01 at u_49
        refine g_goto 60 C dRd_readLine_52 (by decide) ?_
        exact s_zret C E dRd_readLine_60 ⟨Nat.zero_le _, Nat.zero_le _⟩ hVw21 (by first | assumption | (unfold B01; omega)) trivial
  · skip
    refine g_aload_n C dRd_readLine_9 rfl ?_
    refine g_geti C dRd_readLine_10 fl_Rd_113 h1 ?_
    refine gt_if_le 24 C dRd_readLine_13 (by decide) rfl (fun c_13 => ?_) (fun c_13 => ?_)
    · skip
      refine g_aload_n C dRd_readLine_24 rfl ?_
      refine g_aload_n C dRd_readLine_25 rfl ?_
      refine s_callV_z (av := fun ad => [.ref a1]) C dRd_readLine_26 mfRd_readDrum mvRd_readDrum ln_Rd_116 h0 (by decide) rfl hV0 fr_CC (cRd_readDrum hV0.1 h0 h1) rfl rfl (Nat.le_of_ble_eq_true rfl) ⟨Nat.le_of_ble_eq_true rfl, Nat.le_of_ble_eq_true rfl⟩ ⟨rfl, rfl⟩ ⟨Nat.zero_le _, Nat.zero_le _⟩ (fun Iw22 Jw22 hVw22 hFw22 z_26 b_26 p_26 => ?_)
      have rz_26 := rg z_26
      have u_26 := b_26
      unfold B01 at u_26
      exact s_zret C E dRd_readLine_29 ⟨Nat.zero_le _, Nat.zero_le _⟩ hVw22 (by first | assumption | (unfold B01; omega)) trivial
    · skip
      refine g_aload_n C dRd_readLine_16 rfl ?_
      refine g_iconst (v := Int32.ofInt (3)) C dRd_readLine_17 (by decide) ?_
      refine s_callV_z (av := fun ad => [.int (Int32.ofInt (3))]) C dRd_readLine_18 mfRd_fail mvRd_fail ln_Rd_54 h0 (by decide) rfl hV0 fr_CC (cRd_fail hV0.1 h0) rfl rfl (Nat.le_of_ble_eq_true rfl) ⟨Nat.le_of_ble_eq_true rfl, Nat.le_of_ble_eq_true rfl⟩ ⟨rfl, rfl⟩ ⟨Nat.zero_le _, Nat.zero_le _⟩ (fun Iw23 Jw23 hVw23 hFw23 z_18 b_18 p_18 => ?_)
      have rz_18 := rg z_18
      have u_18 := b_18
      unfold B01 at u_18
      refine g_goto 29 C dRd_readLine_21 (by decide) ?_
      exact s_zret C E dRd_readLine_29 ⟨Nat.zero_le _, Nat.zero_le _⟩ hVw23 (by first | assumption | (unfold B01; omega)) trivial
set_option maxHeartbeats 4000000 in
set_option maxRecDepth 100000 in
theorem cRd_read {P : List Nat} {K : Nat → Nat} {I0 : Nat → Nat → Int32} {O : Nat → Nat → Option Nat} {J0 : Nat → Nat → Int64} (hV : IV P K I0 O) {a0 : Nat} (h0 : a0 ∈ P ∧ K a0 = 5) {x1 : Int32} {a2 : Nat} (h2 : a2 ∈ P ∧ K a2 = 3) : Con yRd_read bRd_read 4 (some .boolean) ({ frames := 8, cells := 0, slots := 0, locals := 171 } : Room) P K I0 O J0 [.ref a0, .int x1, .ref a2] (SPo frC 2 (tt) P K I0 O J0) := by
  refine Con.ofG mfRd_read (Nat.le_of_ble_eq_true rfl) ?_
  intro X C E
  have r1 := rg x1
  have hV0 : SV frC P K O I0 J0 I0 J0 := SV.rf hV
  refine g_aload_n C dRd_read_0 rfl ?_
  refine s_callV_v (av := fun ad => []) C dRd_read_1 mfMl_makeEmpty mvMl_makeEmpty ln_Rd_26 h2 (by decide) rfl hV0 fr_CN (cMl_makeEmpty hV0.1 h2) rfl rfl (Nat.le_of_ble_eq_true rfl) ⟨Nat.le_of_ble_eq_true rfl, Nat.le_of_ble_eq_true rfl⟩ ⟨rfl, rfl⟩ ⟨Nat.zero_le _, Nat.zero_le _⟩ (fun Iw1 Jw1 hVw1 hFw1 p_1 => ?_)
  refine g_aload_n C dRd_read_4 rfl ?_
  refine g_iconst (v := Int32.ofInt (0)) C dRd_read_5 (by decide) ?_
  refine gt_puti C dRd_read_6 fl_Rd_31 h0 hVw1 rfl trivial rfl (Or.inl rfl) (fun Iw2 eIw2 hVw2 => ?_)
  refine g_aload_n C dRd_read_9 rfl ?_
  refine g_iload_n C dRd_read_10 rfl ?_
  refine gt_puti C dRd_read_11 fl_Rd_34 h0 hVw2 rfl trivial rfl (Or.inl rfl) (fun Iw3 eIw3 hVw3 => ?_)
  refine g_aload_n C dRd_read_14 rfl ?_
  refine g_iconst (v := Int32.ofInt (0)) C dRd_read_15 (by decide) ?_
  refine gt_puti C dRd_read_16 fl_Rd_37 h0 hVw3 rfl trivial rfl (Or.inl rfl) (fun Iw4 eIw4 hVw4 => ?_)
  refine g_aload_n C dRd_read_19 rfl ?_
  refine s_callV_v (av := fun ad => []) C dRd_read_20 mfRd_step mvRd_step ln_Rd_40 h0 (by decide) rfl hVw4 fr_CC (cRd_step hVw4.1 h0) rfl rfl (Nat.le_of_ble_eq_true rfl) ⟨Nat.le_of_ble_eq_true rfl, Nat.le_of_ble_eq_true rfl⟩ ⟨rfl, rfl⟩ ⟨Nat.zero_le _, Nat.zero_le _⟩ (fun Iw5 Jw5 hVw5 hFw5 p_20 => ?_)
  refine g_iconst (v := Int32.ofInt (0)) C dRd_read_23 (by decide) ?_
  refine g_istore_n (i := 3) C dRd_read_24 rfl (by decide) ?_
  have lp_25 : ∀ (nn_25 : Nat) (x3_25 : Int32) (Iw6 : Nat → Nat → Int32) (Jw6 : Nat → Nat → Int64), Int.toNat (701 - x3_25.toInt) = nn_25 → (0 ≤ Int32.toInt x3_25 ∧ Int32.toInt x3_25 ≤ 701) → SV frC P K O I0 J0 Iw6 Jw6 → GG X 4 P K Iw6 O Jw6 0 0 25 [(0, .ref a0), (1, .int x1), (2, .ref a2), (3, .int x3_25)] [] := by
    intro nn_25
    induction nn_25 using Nat.strongRecOn with
    | ind nn_25 ih_25 =>
    intro x3_25 Iw6 Jw6 hn_25 iv0_25 hVw6
    have rg3_25 := rg x3_25
    refine g_iload_n C dRd_read_25 rfl ?_
    refine g_sipush (v := Int32.ofInt (700)) C dRd_read_26 (by decide) ?_
    refine gt_icmp_gt 92 C dRd_read_29 (by decide) rfl (ofI (by decide)) (fun c_29 => ?_) (fun c_29 => ?_)
    · skip
      refine g_aload_n C dRd_read_92 rfl ?_
      refine g_iconst (v := Int32.ofInt (1)) C dRd_read_93 (by decide) ?_
      refine s_callV_z (av := fun ad => [.int (Int32.ofInt (1))]) C dRd_read_94 mfRd_fail mvRd_fail ln_Rd_54 h0 (by decide) rfl hVw6 fr_CC (cRd_fail hVw6.1 h0) rfl rfl (Nat.le_of_ble_eq_true rfl) ⟨Nat.le_of_ble_eq_true rfl, Nat.le_of_ble_eq_true rfl⟩ ⟨rfl, rfl⟩ ⟨Nat.zero_le _, Nat.zero_le _⟩ (fun Iw7 Jw7 hVw7 hFw7 z_94 b_94 p_94 => ?_)
      have rz_94 := rg z_94
      have u_94 := b_94
      unfold B01 at u_94
      exact s_zret C E dRd_read_97 ⟨Nat.zero_le _, Nat.zero_le _⟩ hVw7 (by first | assumption | (unfold B01; omega)) trivial
    · skip
      refine g_aload_n C dRd_read_32 rfl ?_
      refine g_aload_n C dRd_read_33 rfl ?_
      refine s_callV_z (av := fun ad => [.ref a2]) C dRd_read_34 mfRd_readLine mvRd_readLine ln_Rd_43 h0 (by decide) rfl hVw6 fr_CC (cRd_readLine hVw6.1 h0 h2) rfl rfl (Nat.le_of_ble_eq_true rfl) ⟨Nat.le_of_ble_eq_true rfl, Nat.le_of_ble_eq_true rfl⟩ ⟨rfl, rfl⟩ ⟨Nat.zero_le _, Nat.zero_le _⟩ (fun Iw8 Jw8 hVw8 hFw8 z_34 b_34 p_34 => ?_)
      have rz_34 := rg z_34
      have u_34 := b_34
      unfold B01 at u_34
      refine gt_if_ne 42 C dRd_read_37 (by decide) rfl (fun c_37 => ?_) (fun c_37 => ?_)
      · skip
        refine g_aload_n C dRd_read_42 rfl ?_
        refine g_geti C dRd_read_43 fl_Rd_47 h0 ?_
        refine gt_if_ne 67 C dRd_read_46 (by decide) rfl (fun c_46 => ?_) (fun c_46 => ?_)
        · skip
          refine g_aload_n C dRd_read_67 rfl ?_
          refine g_bipush (v := Int32.ofInt (59)) C dRd_read_68 (by decide) ?_
          refine s_callV_zp (av := fun ad => [.int (Int32.ofInt (59))]) C dRd_read_70 mfRd_isSign mvRd_isSign ln_Rd_58 h0 (by decide) rfl (cRd_isSign hVw8.1 h0) rfl rfl (Nat.le_of_ble_eq_true rfl) ⟨Nat.le_of_ble_eq_true rfl, Nat.le_of_ble_eq_true rfl⟩ ⟨rfl, rfl⟩ ⟨Nat.zero_le _, Nat.zero_le _⟩ (fun z_70 b_70 p_70 => ?_)
          have rz_70 := rg z_70
          have u_70 := b_70
          unfold B01 at u_70
          refine gt_if_ne 82 C dRd_read_73 (by decide) rfl (fun c_73 => ?_) (fun c_73 => ?_)
          · skip
            refine g_aload_n C dRd_read_82 rfl ?_
            refine s_callV_v (av := fun ad => []) C dRd_read_83 mfRd_step mvRd_step ln_Rd_40 h0 (by decide) rfl hVw8 fr_CC (cRd_step hVw8.1 h0) rfl rfl (Nat.le_of_ble_eq_true rfl) ⟨Nat.le_of_ble_eq_true rfl, Nat.le_of_ble_eq_true rfl⟩ ⟨rfl, rfl⟩ ⟨Nat.zero_le _, Nat.zero_le _⟩ (fun Iw10 Jw10 hVw10 hFw10 p_83 => ?_)
            first | refine n_iinc C dRd_read_86 rfl rfl (by decide) (by decide) (by omega) (fun z_86 e_86 => ?_) | refine a_iinc C dRd_read_86 rfl (by decide) (fun z_86 => ?_)
            refine g_goto 25 C dRd_read_89 (by decide) ?_
            exact g_sub (ih_25 _ (by omega) z_86 Iw10 Jw10 rfl (by omega) hVw10) ⟨rfl, rfl, rfl, rfl, trivial⟩
          · skip
            refine g_aload_n C dRd_read_76 rfl ?_
            refine g_iconst (v := Int32.ofInt (1)) C dRd_read_77 (by decide) ?_
            refine s_callV_z (av := fun ad => [.int (Int32.ofInt (1))]) C dRd_read_78 mfRd_fail mvRd_fail ln_Rd_54 h0 (by decide) rfl hVw8 fr_CC (cRd_fail hVw8.1 h0) rfl rfl (Nat.le_of_ble_eq_true rfl) ⟨Nat.le_of_ble_eq_true rfl, Nat.le_of_ble_eq_true rfl⟩ ⟨rfl, rfl⟩ ⟨Nat.zero_le _, Nat.zero_le _⟩ (fun Iw11 Jw11 hVw11 hFw11 z_78 b_78 p_78 => ?_)
            have rz_78 := rg z_78
            have u_78 := b_78
            unfold B01 at u_78
            exact s_zret C E dRd_read_81 ⟨Nat.zero_le _, Nat.zero_le _⟩ hVw11 (by first | assumption | (unfold B01; omega)) trivial
        · skip
          refine g_aload_n C dRd_read_49 rfl ?_
          refine s_callV_zp (av := fun ad => []) C dRd_read_50 mfMl_lacksLine mvMl_lacksLine ln_Rd_50 h2 (by decide) rfl (cMl_lacksLine hVw8.1 h2) rfl rfl (Nat.le_of_ble_eq_true rfl) ⟨Nat.le_of_ble_eq_true rfl, Nat.le_of_ble_eq_true rfl⟩ ⟨rfl, rfl⟩ ⟨Nat.zero_le _, Nat.zero_le _⟩ (fun z_50 b_50 p_50 => ?_)
          have rz_50 := rg z_50
          have u_50 := b_50
          unfold B01 at u_50
          refine gt_if_eq 65 C dRd_read_53 (by decide) rfl (fun c_53 => ?_) (fun c_53 => ?_)
          · skip
            refine g_iconst (v := Int32.ofInt (1)) C dRd_read_65 (by decide) ?_
            exact s_zret C E dRd_read_66 ⟨Nat.zero_le _, Nat.zero_le _⟩ hVw8 (Or.inr (ofI (by decide))) trivial
          · skip
            refine g_aload_n C dRd_read_56 rfl ?_
            refine g_bipush (v := Int32.ofInt (6)) C dRd_read_57 (by decide) ?_
            refine s_callV_z (av := fun ad => [.int (Int32.ofInt (6))]) C dRd_read_59 mfRd_fail mvRd_fail ln_Rd_54 h0 (by decide) rfl hVw8 fr_CC (cRd_fail hVw8.1 h0) rfl rfl (Nat.le_of_ble_eq_true rfl) ⟨Nat.le_of_ble_eq_true rfl, Nat.le_of_ble_eq_true rfl⟩ ⟨rfl, rfl⟩ ⟨Nat.zero_le _, Nat.zero_le _⟩ (fun Iw13 Jw13 hVw13 hFw13 z_59 b_59 p_59 => ?_)
            have rz_59 := rg z_59
            have u_59 := b_59
            unfold B01 at u_59
            refine g_goto 66 C dRd_read_62 (by decide) ?_
            exact s_zret C E dRd_read_66 ⟨Nat.zero_le _, Nat.zero_le _⟩ hVw13 (by first | assumption | (unfold B01; omega)) trivial
      · skip
        refine g_iconst (v := Int32.ofInt (0)) C dRd_read_40 (by decide) ?_
        exact s_zret C E dRd_read_41 ⟨Nat.zero_le _, Nat.zero_le _⟩ hVw8 (Or.inl (ofI (by decide))) trivial
  exact g_sub (lp_25 _ (Int32.ofInt (0)) Iw5 Jw5 rfl (by have hci : Int32.toInt (Int32.ofInt (0)) = 0 := ofI (by decide); omega) hVw5) ⟨rfl, rfl, rfl, rfl, trivial⟩
