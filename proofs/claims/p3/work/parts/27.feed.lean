set_option maxHeartbeats 4000000 in
set_option maxRecDepth 100000 in
theorem cRd_hasRoomFor {P : List Nat} {K : Nat → Nat} {I0 : Nat → Nat → Int32} {O : Nat → Nat → Option Nat} {J0 : Nat → Nat → Int64} (hV : IV P K I0 O) {a0 : Nat} (h0 : a0 ∈ P ∧ K a0 = 5) {x1 : Int32} (pr0 : 0 ≤ Int32.toInt (I0 a0 1) ∧ Int32.toInt (I0 a0 1) ≤ 700 ∧ 0 ≤ Int32.toInt x1 ∧ Int32.toInt x1 ≤ 1000) : Con yRd_hasRoomFor bRd_hasRoomFor 2 (some .boolean) ({ frames := 0, cells := 0, slots := 0, locals := 0 } : Room) P K I0 O J0 [.ref a0, .int x1] (SPo frP 2 (fun z _ => (Int32.toInt z = 1 ∧ Int32.toInt (I0 a0 1) + Int32.toInt x1 ≤ 700) ∨ (Int32.toInt z = 0 ∧ 700 < Int32.toInt (I0 a0 1) + Int32.toInt x1)) P K I0 O J0) := by
  refine Con.ofG mfRd_hasRoomFor (Nat.le_of_ble_eq_true rfl) ?_
  intro X C E
  have r1 := rg x1
  have hV0 : SV frP P K O I0 J0 I0 J0 := SV.rf hV
  refine g_aload_n C dRd_hasRoomFor_0 rfl ?_
  refine g_geti C dRd_hasRoomFor_1 fl_Rd_22 h0 ?_
  refine g_iload_n C dRd_hasRoomFor_4 rfl ?_
  first | refine n_iadd C dRd_hasRoomFor_5 rfl rfl (by omega) (fun z_5 e_5 => ?_) | refine a_iadd C dRd_hasRoomFor_5 (fun z_5 => ?_)
  refine g_sipush (v := Int32.ofInt (700)) C dRd_hasRoomFor_6 (by decide) ?_
  refine gt_icmp_gt 16 C dRd_hasRoomFor_9 (by decide) rfl (ofI (by decide)) (fun c_9 => ?_) (fun c_9 => ?_)
  · skip
    refine g_iconst (v := Int32.ofInt (0)) C dRd_hasRoomFor_16 (by decide) ?_
    exact s_zret C E dRd_hasRoomFor_17 ⟨Nat.zero_le _, Nat.zero_le _⟩ hV0 (Or.inl (ofI (by decide))) (by have hci : Int32.toInt (Int32.ofInt (0)) = 0 := ofI (by decide); (try dsimp only); omega)
  · skip
    refine g_iconst (v := Int32.ofInt (1)) C dRd_hasRoomFor_12 (by decide) ?_
    refine g_goto 17 C dRd_hasRoomFor_13 (by decide) ?_
    exact s_zret C E dRd_hasRoomFor_17 ⟨Nat.zero_le _, Nat.zero_le _⟩ hV0 (Or.inr (ofI (by decide))) (by have hci : Int32.toInt (Int32.ofInt (1)) = 1 := ofI (by decide); (try dsimp only); omega)
set_option maxHeartbeats 4000000 in
set_option maxRecDepth 100000 in
theorem cRd_appendF {P : List Nat} {K : Nat → Nat} {I0 : Nat → Nat → Int32} {O : Nat → Nat → Option Nat} {J0 : Nat → Nat → Int64} (hV : IV P K I0 O) {a0 : Nat} (h0 : a0 ∈ P ∧ K a0 = 5) {x1 : Int32} (pr0 : 0 ≤ Int32.toInt (I0 a0 1) ∧ Int32.toInt (I0 a0 1) ≤ 696) : Con yRd_append bRd_append 3 none ({ frames := 0, cells := 0, slots := 0, locals := 0 } : Room) P K I0 O J0 [.ref a0, .int x1] (SPo frC 0 (fun _ I_ => Int32.toInt (I_ a0 1) = Int32.toInt (I0 a0 1) + 4) P K I0 O J0) := by
  refine Con.ofG mfRd_append (Nat.le_of_ble_eq_true rfl) ?_
  intro X C E
  have r1 := rg x1
  have hV0 : SV frC P K O I0 J0 I0 J0 := SV.rf hV
  refine g_bipush (v := Int32.ofInt (24)) C dRd_append_0 (by decide) ?_
  refine g_istore_n (i := 2) C dRd_append_2 rfl (by decide) ?_
  have lp_3 : ∀ (nn_3 : Nat) (x2_3 : Int32) (Iw1 : Nat → Nat → Int32) (Jw1 : Nat → Nat → Int64), Int.toNat (x2_3.toInt + 8) = nn_3 → (-8 ≤ Int32.toInt x2_3 ∧ Int32.toInt x2_3 ≤ 24) → (8 * Int32.toInt (Iw1 a0 1) = 8 * Int32.toInt (I0 a0 1) + 24 - x2_3.toInt) → SV frC P K O I0 J0 Iw1 Jw1 → GG X 3 P K Iw1 O Jw1 0 0 3 [(0, .ref a0), (1, .int x1), (2, .int x2_3)] [] := by
    intro nn_3
    induction nn_3 using Nat.strongRecOn with
    | ind nn_3 ih_3 =>
    intro x2_3 Iw1 Jw1 hn_3 iv0_3 iv1_3 hVw1
    have rg2_3 := rg x2_3
    refine g_iload_n C dRd_append_3 rfl ?_
    refine gt_if_lt 53 C dRd_append_4 (by decide) rfl (fun c_4 => ?_) (fun c_4 => ?_)
    · skip
      exact s_vret C E dRd_append_53 ⟨Nat.zero_le _, Nat.zero_le _⟩ hVw1 (by (try dsimp only); omega)
    · skip
      refine g_aload_n C dRd_append_7 rfl ?_
      refine g_geti C dRd_append_8 fl_Rd_22 h0 ?_
      refine gt_if_lt 53 C dRd_append_11 (by decide) rfl (fun c_11 => ?_) (fun c_11 => ?_)
      · skip
        exact s_vret C E dRd_append_53 ⟨Nat.zero_le _, Nat.zero_le _⟩ hVw1 (by (try dsimp only); omega)
      · skip
        refine g_aload_n C dRd_append_14 rfl ?_
        refine g_geti C dRd_append_15 fl_Rd_22 h0 ?_
        refine g_sipush (v := Int32.ofInt (700)) C dRd_append_18 (by decide) ?_
        refine gt_icmp_ge 53 C dRd_append_21 (by decide) rfl (ofI (by decide)) (fun c_21 => ?_) (fun c_21 => ?_)
        · skip
          exact s_vret C E dRd_append_53 ⟨Nat.zero_le _, Nat.zero_le _⟩ hVw1 (by (try dsimp only); omega)
        · skip
          refine g_aload_n C dRd_append_24 rfl ?_
          refine gt_getr C dRd_append_25 fl_Rd_11 h0 hVw1.1.1 rfl (fun b_25 q_25 hb_25 => ?_)
          refine g_aload_n C dRd_append_28 rfl ?_
          refine g_geti C dRd_append_29 fl_Rd_22 h0 ?_
          refine g_iload_n C dRd_append_32 rfl ?_
          refine g_iload_n C dRd_append_33 rfl ?_
          refine a_ishr C dRd_append_34 (fun z_34 => ?_)
          refine a_i2b C dRd_append_35 (fun z_35 => ?_)
          refine gt_bast C dRd_append_36 hb_25 (by decide) rfl rfl (n := 700) rfl (by omega) hVw1 rfl trivial (fun Iw2 eIw2 hVw2 => ?_)
          have tkw2_a0_1 : (Iw2 a0 1).toInt = (Iw1 a0 1).toInt := by rw [eIw2, up2_ne _ _ (fun z => by have q := h0.2; rw [z.1, hb_25.2] at q; exact absurd q (by decide))]
          refine g_aload_n C dRd_append_37 rfl ?_
          refine g_dup C dRd_append_38 rfl ?_
          refine g_geti C dRd_append_39 fl_Rd_22 h0 ?_
          refine g_iconst (v := Int32.ofInt (1)) C dRd_append_42 (by decide) ?_
          first | refine n_iadd C dRd_append_43 rfl (ofI (by decide)) (by omega) (fun z_43 e_43 => ?_) | refine a_iadd C dRd_append_43 (fun z_43 => ?_)
          refine gt_puti C dRd_append_44 fl_Rd_22 h0 hVw2 rfl trivial rfl (Or.inl rfl) (fun Iw3 eIw3 hVw3 => ?_)
          have tkw3_a0_1 : (Iw3 a0 1).toInt = z_43.toInt := by rw [eIw3, up2_self]
          first | refine n_iinc C dRd_append_47 rfl rfl (by decide) (by decide) (by omega) (fun z_47 e_47 => ?_) | refine a_iinc C dRd_append_47 rfl (by decide) (fun z_47 => ?_)
          refine g_goto 3 C dRd_append_50 (by decide) ?_
          exact g_sub (ih_3 _ (by omega) z_47 Iw3 Jw1 rfl (by omega) (by omega) hVw3) ⟨rfl, rfl, rfl, trivial⟩
  exact g_sub (lp_3 _ (Int32.ofInt (24)) I0 J0 rfl (by have hci : Int32.toInt (Int32.ofInt (24)) = 24 := ofI (by decide); omega) (by have hci : Int32.toInt (Int32.ofInt (24)) = 24 := ofI (by decide); omega) hV0) ⟨rfl, rfl, rfl, trivial⟩
