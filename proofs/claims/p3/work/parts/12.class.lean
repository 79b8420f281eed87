set_option maxHeartbeats 4000000 in
set_option maxRecDepth 100000 in
theorem cRM_refuse {P : List Nat} {K : Nat → Nat} {I0 : Nat → Nat → Int32} {O : Nat → Nat → Option Nat} {J0 : Nat → Nat → Int64} (hV : IV P K I0 O) {a0 : Nat} (h0 : a0 ∈ P ∧ K a0 = 8) {x1 : Int32} : Con yRM_refuse bRM_refuse 2 (some .int) ({ frames := 0, cells := 0, slots := 0, locals := 0 } : Room) P K I0 O J0 [.ref a0, .int x1] (SPo frN 1 (tt) P K I0 O J0) := by
  refine Con.ofG mfRM_refuse (Nat.le_of_ble_eq_true rfl) ?_
  intro X C E
  have r1 := rg x1
  have hV0 : SV frN P K O I0 J0 I0 J0 := SV.rf hV
  refine g_aload_n C dRM_refuse_0 rfl ?_
  refine g_iload_n C dRM_refuse_1 rfl ?_
  refine gt_puti C dRM_refuse_2 fl_RM_81 h0 hV0 rfl trivial rfl (Or.inl rfl) (fun Iw1 eIw1 hVw1 => ?_)
  refine g_iconst (v := Int32.ofInt (-1)) C dRM_refuse_5 (by decide) ?_
  exact s_iret C E dRM_refuse_6 ⟨Nat.zero_le _, Nat.zero_le _⟩ hVw1 trivial
set_option maxHeartbeats 4000000 in
set_option maxRecDepth 100000 in
theorem cRM_accept {P : List Nat} {K : Nat → Nat} {I0 : Nat → Nat → Int32} {O : Nat → Nat → Option Nat} {J0 : Nat → Nat → Int64} (hV : IV P K I0 O) {a0 : Nat} (h0 : a0 ∈ P ∧ K a0 = 8) {x1 : Int32} : Con yRM_accept bRM_accept 2 (some .int) ({ frames := 0, cells := 0, slots := 0, locals := 0 } : Room) P K I0 O J0 [.ref a0, .int x1] (SPo frN 1 (tt) P K I0 O J0) := by
  refine Con.ofG mfRM_accept (Nat.le_of_ble_eq_true rfl) ?_
  intro X C E
  have r1 := rg x1
  have hV0 : SV frN P K O I0 J0 I0 J0 := SV.rf hV
  refine g_aload_n C dRM_accept_0 rfl ?_
  refine g_iconst (v := Int32.ofInt (0)) C dRM_accept_1 (by decide) ?_
  refine gt_puti C dRM_accept_2 fl_RM_81 h0 hV0 rfl trivial rfl (Or.inl rfl) (fun Iw1 eIw1 hVw1 => ?_)
  refine g_iload_n C dRM_accept_5 rfl ?_
  exact s_iret C E dRM_accept_6 ⟨Nat.zero_le _, Nat.zero_le _⟩ hVw1 trivial
set_option maxHeartbeats 4000000 in
set_option maxRecDepth 100000 in
theorem cRM_deny {P : List Nat} {K : Nat → Nat} {I0 : Nat → Nat → Int32} {O : Nat → Nat → Option Nat} {J0 : Nat → Nat → Int64} (hV : IV P K I0 O) {a0 : Nat} (h0 : a0 ∈ P ∧ K a0 = 8) {x1 : Int32} : Con yRM_deny bRM_deny 2 (some .boolean) ({ frames := 0, cells := 0, slots := 0, locals := 0 } : Room) P K I0 O J0 [.ref a0, .int x1] (SPo frN 2 (tt) P K I0 O J0) := by
  refine Con.ofG mfRM_deny (Nat.le_of_ble_eq_true rfl) ?_
  intro X C E
  have r1 := rg x1
  have hV0 : SV frN P K O I0 J0 I0 J0 := SV.rf hV
  refine g_aload_n C dRM_deny_0 rfl ?_
  refine g_iload_n C dRM_deny_1 rfl ?_
  refine gt_puti C dRM_deny_2 fl_RM_81 h0 hV0 rfl trivial rfl (Or.inl rfl) (fun Iw1 eIw1 hVw1 => ?_)
  refine g_iconst (v := Int32.ofInt (0)) C dRM_deny_5 (by decide) ?_
  exact s_zret C E dRM_deny_6 ⟨Nat.zero_le _, Nat.zero_le _⟩ hVw1 (Or.inl (ofI (by decide))) trivial
set_option maxHeartbeats 4000000 in
set_option maxRecDepth 100000 in
theorem cRM_allow {P : List Nat} {K : Nat → Nat} {I0 : Nat → Nat → Int32} {O : Nat → Nat → Option Nat} {J0 : Nat → Nat → Int64} (hV : IV P K I0 O) {a0 : Nat} (h0 : a0 ∈ P ∧ K a0 = 8) : Con yRM_allow bRM_allow 1 (some .boolean) ({ frames := 0, cells := 0, slots := 0, locals := 0 } : Room) P K I0 O J0 [.ref a0] (SPo frN 2 (tt) P K I0 O J0) := by
  refine Con.ofG mfRM_allow (Nat.le_of_ble_eq_true rfl) ?_
  intro X C E
  have hV0 : SV frN P K O I0 J0 I0 J0 := SV.rf hV
  refine g_aload_n C dRM_allow_0 rfl ?_
  refine g_iconst (v := Int32.ofInt (0)) C dRM_allow_1 (by decide) ?_
  refine gt_puti C dRM_allow_2 fl_RM_81 h0 hV0 rfl trivial rfl (Or.inl rfl) (fun Iw1 eIw1 hVw1 => ?_)
  refine g_iconst (v := Int32.ofInt (1)) C dRM_allow_5 (by decide) ?_
  exact s_zret C E dRM_allow_6 ⟨Nat.zero_le _, Nat.zero_le _⟩ hVw1 (Or.inr (ofI (by decide))) trivial
set_option maxHeartbeats 4000000 in
set_option maxRecDepth 100000 in
theorem cRM_noMill {P : List Nat} {K : Nat → Nat} {I0 : Nat → Nat → Int32} {O : Nat → Nat → Option Nat} {J0 : Nat → Nat → Int64} (hV : IV P K I0 O) {a0 : Nat} (h0 : a0 ∈ P ∧ K a0 = 8) : Con yRM_noMill bRM_noMill 1 (some .boolean) ({ frames := 0, cells := 0, slots := 0, locals := 0 } : Room) P K I0 O J0 [.ref a0] (SPo frP 2 (tt) P K I0 O J0) := by
  refine Con.ofG mfRM_noMill (Nat.le_of_ble_eq_true rfl) ?_
  intro X C E
  have hV0 : SV frP P K O I0 J0 I0 J0 := SV.rf hV
  refine g_aload_n C dRM_noMill_0 rfl ?_
  refine gt_getr C dRM_noMill_1 fl_RM_19 h0 hV0.1.1 rfl (fun b_1 q_1 hb_1 => ?_)
  refine g_geti C dRM_noMill_4 fl_RM_119 hb_1 ?_
  refine gt_if_ne 14 C dRM_noMill_7 (by decide) rfl (fun c_7 => ?_) (fun c_7 => ?_)
  · skip
    refine g_iconst (v := Int32.ofInt (0)) C dRM_noMill_14 (by decide) ?_
    exact s_zret C E dRM_noMill_15 ⟨Nat.zero_le _, Nat.zero_le _⟩ hV0 (Or.inl (ofI (by decide))) trivial
  · skip
    refine g_iconst (v := Int32.ofInt (1)) C dRM_noMill_10 (by decide) ?_
    refine g_goto 15 C dRM_noMill_11 (by decide) ?_
    exact s_zret C E dRM_noMill_15 ⟨Nat.zero_le _, Nat.zero_le _⟩ hV0 (Or.inr (ofI (by decide))) trivial
set_option maxHeartbeats 4000000 in
set_option maxRecDepth 100000 in
theorem cRM_isSize {P : List Nat} {K : Nat → Nat} {I0 : Nat → Nat → Int32} {O : Nat → Nat → Option Nat} {J0 : Nat → Nat → Int64} (hV : IV P K I0 O) {a0 : Nat} (h0 : a0 ∈ P ∧ K a0 = 8) {x1 : Int32} : Con yRM_isSize bRM_isSize 2 (some .boolean) ({ frames := 0, cells := 0, slots := 0, locals := 0 } : Room) P K I0 O J0 [.ref a0, .int x1] (SPo frP 2 (fun z _ => Int32.toInt z = 0 ∨ (0 ≤ Int32.toInt x1 ∧ Int32.toInt x1 < 5)) P K I0 O J0) := by
  refine Con.ofG mfRM_isSize (Nat.le_of_ble_eq_true rfl) ?_
  intro X C E
  have r1 := rg x1
  have hV0 : SV frP P K O I0 J0 I0 J0 := SV.rf hV
  refine g_iload_n C dRM_isSize_0 rfl ?_
  refine gt_if_lt 24 C dRM_isSize_1 (by decide) rfl (fun c_1 => ?_) (fun c_1 => ?_)
  · skip
    refine g_iconst (v := Int32.ofInt (0)) C dRM_isSize_24 (by decide) ?_
    exact s_zret C E dRM_isSize_25 ⟨Nat.zero_le _, Nat.zero_le _⟩ hV0 (Or.inl (ofI (by decide))) (by have hci : Int32.toInt (Int32.ofInt (0)) = 0 := ofI (by decide); (try dsimp only); omega)
  · skip
    refine g_iload_n C dRM_isSize_4 rfl ?_
    refine g_aload_n C dRM_isSize_5 rfl ?_
    refine gt_getr C dRM_isSize_6 fl_RM_19 h0 hV0.1.1 rfl (fun b_6 q_6 hb_6 => ?_)
    refine g_geti C dRM_isSize_9 fl_RM_119 hb_6 ?_
    refine gt_icmp_ge 24 C dRM_isSize_12 (by decide) rfl rfl (fun c_12 => ?_) (fun c_12 => ?_)
    · skip
      refine g_iconst (v := Int32.ofInt (0)) C dRM_isSize_24 (by decide) ?_
      exact s_zret C E dRM_isSize_25 ⟨Nat.zero_le _, Nat.zero_le _⟩ hV0 (Or.inl (ofI (by decide))) (by have hci : Int32.toInt (Int32.ofInt (0)) = 0 := ofI (by decide); (try dsimp only); omega)
    · skip
      refine g_iload_n C dRM_isSize_15 rfl ?_
      refine g_iconst (v := Int32.ofInt (5)) C dRM_isSize_16 (by decide) ?_
      refine gt_icmp_ge 24 C dRM_isSize_17 (by decide) rfl (ofI (by decide)) (fun c_17 => ?_) (fun c_17 => ?_)
      · skip
        refine g_iconst (v := Int32.ofInt (0)) C dRM_isSize_24 (by decide) ?_
        exact s_zret C E dRM_isSize_25 ⟨Nat.zero_le _, Nat.zero_le _⟩ hV0 (Or.inl (ofI (by decide))) (by have hci : Int32.toInt (Int32.ofInt (0)) = 0 := ofI (by decide); (try dsimp only); omega)
      · skip
        refine g_iconst (v := Int32.ofInt (1)) C dRM_isSize_20 (by decide) ?_
        refine g_goto 25 C dRM_isSize_21 (by decide) ?_
        exact s_zret C E dRM_isSize_25 ⟨Nat.zero_le _, Nat.zero_le _⟩ hV0 (Or.inr (ofI (by decide))) (by have hci : Int32.toInt (Int32.ofInt (1)) = 1 := ofI (by decide); (try dsimp only); omega)
set_option maxHeartbeats 4000000 in
set_option maxRecDepth 100000 in
theorem cRM_isOre {P : List Nat} {K : Nat → Nat} {I0 : Nat → Nat → Int32} {O : Nat → Nat → Option Nat} {J0 : Nat → Nat → Int64} (hV : IV P K I0 O) {a0 : Nat} (h0 : a0 ∈ P ∧ K a0 = 8) {x1 : Int32} : Con yRM_isOre bRM_isOre 2 (some .boolean) ({ frames := 0, cells := 0, slots := 0, locals := 0 } : Room) P K I0 O J0 [.ref a0, .int x1] (SPo frP 2 (tt) P K I0 O J0) := by
  refine Con.ofG mfRM_isOre (Nat.le_of_ble_eq_true rfl) ?_
  intro X C E
  have r1 := rg x1
  have hV0 : SV frP P K O I0 J0 I0 J0 := SV.rf hV
  refine g_iload_n C dRM_isOre_0 rfl ?_
  refine gt_if_lt 19 C dRM_isOre_1 (by decide) rfl (fun c_1 => ?_) (fun c_1 => ?_)
  · skip
    refine g_iconst (v := Int32.ofInt (0)) C dRM_isOre_19 (by decide) ?_
    exact s_zret C E dRM_isOre_20 ⟨Nat.zero_le _, Nat.zero_le _⟩ hV0 (Or.inl (ofI (by decide))) trivial
  · skip
    refine g_iload_n C dRM_isOre_4 rfl ?_
    refine g_aload_n C dRM_isOre_5 rfl ?_
    refine gt_getr C dRM_isOre_6 fl_RM_19 h0 hV0.1.1 rfl (fun b_6 q_6 hb_6 => ?_)
    refine g_geti C dRM_isOre_9 fl_RM_319 hb_6 ?_
    refine gt_icmp_ge 19 C dRM_isOre_12 (by decide) rfl rfl (fun c_12 => ?_) (fun c_12 => ?_)
    · skip
      refine g_iconst (v := Int32.ofInt (0)) C dRM_isOre_19 (by decide) ?_
      exact s_zret C E dRM_isOre_20 ⟨Nat.zero_le _, Nat.zero_le _⟩ hV0 (Or.inl (ofI (by decide))) trivial
    · skip
      refine g_iconst (v := Int32.ofInt (1)) C dRM_isOre_15 (by decide) ?_
      refine g_goto 20 C dRM_isOre_16 (by decide) ?_
      exact s_zret C E dRM_isOre_20 ⟨Nat.zero_le _, Nat.zero_le _⟩ hV0 (Or.inr (ofI (by decide))) trivial
set_option maxHeartbeats 4000000 in
set_option maxRecDepth 100000 in
theorem cRM_isHeard {P : List Nat} {K : Nat → Nat} {I0 : Nat → Nat → Int32} {O : Nat → Nat → Option Nat} {J0 : Nat → Nat → Int64} (hV : IV P K I0 O) {a0 : Nat} (h0 : a0 ∈ P ∧ K a0 = 8) {x1 : Int32} : Con yRM_isHeard bRM_isHeard 2 (some .boolean) ({ frames := 0, cells := 0, slots := 0, locals := 0 } : Room) P K I0 O J0 [.ref a0, .int x1] (SPo frP 2 (tt) P K I0 O J0) := by
  refine Con.ofG mfRM_isHeard (Nat.le_of_ble_eq_true rfl) ?_
  intro X C E
  have r1 := rg x1
  have hV0 : SV frP P K O I0 J0 I0 J0 := SV.rf hV
  refine g_iload_n C dRM_isHeard_0 rfl ?_
  refine gt_if_lt 21 C dRM_isHeard_1 (by decide) rfl (fun c_1 => ?_) (fun c_1 => ?_)
  · skip
    refine g_iconst (v := Int32.ofInt (0)) C dRM_isHeard_21 (by decide) ?_
    exact s_zret C E dRM_isHeard_22 ⟨Nat.zero_le _, Nat.zero_le _⟩ hV0 (Or.inl (ofI (by decide))) trivial
  · skip
    refine g_iload_n C dRM_isHeard_4 rfl ?_
    refine g_iconst (v := Int32.ofInt (2)) C dRM_isHeard_5 (by decide) ?_
    refine g_aload_n C dRM_isHeard_6 rfl ?_
    refine gt_getr C dRM_isHeard_7 fl_RM_19 h0 hV0.1.1 rfl (fun b_7 q_7 hb_7 => ?_)
    refine g_geti C dRM_isHeard_10 fl_RM_119 hb_7 ?_
    first | refine n_iadd C dRM_isHeard_13 (ofI (by decide)) rfl (by omega) (fun z_13 e_13 => ?_) | refine a_iadd C dRM_isHeard_13 (fun z_13 => ?_)
    refine gt_icmp_ge 21 C dRM_isHeard_14 (by decide) rfl rfl (fun c_14 => ?_) (fun c_14 => ?_)
    · skip
      refine g_iconst (v := Int32.ofInt (0)) C dRM_isHeard_21 (by decide) ?_
      exact s_zret C E dRM_isHeard_22 ⟨Nat.zero_le _, Nat.zero_le _⟩ hV0 (Or.inl (ofI (by decide))) trivial
    · skip
      refine g_iconst (v := Int32.ofInt (1)) C dRM_isHeard_17 (by decide) ?_
      refine g_goto 22 C dRM_isHeard_18 (by decide) ?_
      exact s_zret C E dRM_isHeard_22 ⟨Nat.zero_le _, Nat.zero_le _⟩ hV0 (Or.inr (ofI (by decide))) trivial
set_option maxHeartbeats 4000000 in
set_option maxRecDepth 100000 in
theorem cRM_noteStood {P : List Nat} {K : Nat → Nat} {I0 : Nat → Nat → Int32} {O : Nat → Nat → Option Nat} {J0 : Nat → Nat → Int64} (hV : IV P K I0 O) {a0 : Nat} (h0 : a0 ∈ P ∧ K a0 = 8) {x1 : Int32} : Con yRM_noteStood bRM_noteStood 2 none ({ frames := 0, cells := 0, slots := 0, locals := 0 } : Room) P K I0 O J0 [.ref a0, .int x1] (SPo frN 0 (tt) P K I0 O J0) := by
  refine Con.ofG mfRM_noteStood (Nat.le_of_ble_eq_true rfl) ?_
  intro X C E
  have r1 := rg x1
  have hV0 : SV frN P K O I0 J0 I0 J0 := SV.rf hV
  refine g_aload_n C dRM_noteStood_0 rfl ?_
  refine g_geti C dRM_noteStood_1 fl_RM_309 h0 ?_
  have o_1 := hV0.1.2 a0 h0.1 13
  rw [h0.2] at o_1
  have o_1 : 0 ≤ (I0 a0 13).toInt ∧ (I0 a0 13).toInt ≤ 240 := o_1
  refine g_aload_n C dRM_noteStood_4 rfl ?_
  refine gt_getr C dRM_noteStood_5 fl_RM_78 h0 hV0.1.1 rfl (fun b_5 q_5 hb_5 => ?_)
  refine gt_alen C dRM_noteStood_8 hb_5 (by decide) (by decide) (by decide) (n := 240) rfl (fun z_8 e_8 => ?_)
  refine gt_icmp_ge 32 C dRM_noteStood_9 (by decide) rfl rfl (fun c_9 => ?_) (fun c_9 => ?_)
  · skip
    exact s_vret C E dRM_noteStood_32 ⟨Nat.zero_le _, Nat.zero_le _⟩ hV0 trivial
  · skip
    refine g_aload_n C dRM_noteStood_12 rfl ?_
    refine gt_getS C dRM_noteStood_13 fl_RM_78 h0 q_5 ?_
    refine g_aload_n C dRM_noteStood_16 rfl ?_
    refine g_geti C dRM_noteStood_17 fl_RM_309 h0 ?_
    have o_17 := hV0.1.2 a0 h0.1 13
    rw [h0.2] at o_17
    have o_17 : 0 ≤ (I0 a0 13).toInt ∧ (I0 a0 13).toInt ≤ 240 := o_17
    refine g_iload_n C dRM_noteStood_20 rfl ?_
    refine gt_iast C dRM_noteStood_21 hb_5 (by decide) rfl rfl (n := 240) rfl (by omega) hV0 rfl trivial (fun Iw1 eIw1 hVw1 => ?_)
    have tkw1_a0_13 : (Iw1 a0 13).toInt = (I0 a0 13).toInt := by rw [eIw1, up2_ne _ _ (fun z => by have q := h0.2; rw [z.1, hb_5.2] at q; exact absurd q (by decide))]
    refine g_aload_n C dRM_noteStood_22 rfl ?_
    refine g_dup C dRM_noteStood_23 rfl ?_
    refine g_geti C dRM_noteStood_24 fl_RM_309 h0 ?_
    have o_24 := hVw1.1.2 a0 h0.1 13
    rw [h0.2] at o_24
    have o_24 : 0 ≤ (Iw1 a0 13).toInt ∧ (Iw1 a0 13).toInt ≤ 240 := o_24
    refine g_iconst (v := Int32.ofInt (1)) C dRM_noteStood_27 (by decide) ?_
    first | refine n_iadd C dRM_noteStood_28 rfl (ofI (by decide)) (by omega) (fun z_28 e_28 => ?_) | refine a_iadd C dRM_noteStood_28 (fun z_28 => ?_)
    refine gt_puti C dRM_noteStood_29 fl_RM_309 h0 hVw1 rfl (by show 0 ≤ Int32.toInt _ ∧ Int32.toInt _ ≤ 240; omega) rfl (Or.inl rfl) (fun Iw2 eIw2 hVw2 => ?_)
    have tkw2_a0_13 : (Iw2 a0 13).toInt = z_28.toInt := by rw [eIw2, up2_self]
    exact s_vret C E dRM_noteStood_32 ⟨Nat.zero_le _, Nat.zero_le _⟩ hVw2 trivial
set_option maxHeartbeats 4000000 in
set_option maxRecDepth 100000 in
theorem cRM_findFits {P : List Nat} {K : Nat → Nat} {I0 : Nat → Nat → Int32} {O : Nat → Nat → Option Nat} {J0 : Nat → Nat → Int64} (hV : IV P K I0 O) {a0 : Nat} (h0 : a0 ∈ P ∧ K a0 = 8) : Con yRM_findFits bRM_findFits 1 (some .int) ({ frames := 6, cells := 0, slots := 0, locals := 136 } : Room) P K I0 O J0 [.ref a0] (SPo frN 1 (tt) P K I0 O J0) := by
  refine Con.ofG mfRM_findFits (Nat.le_of_ble_eq_true rfl) ?_
  intro X C E
  have hV0 : SV frN P K O I0 J0 I0 J0 := SV.rf hV
  refine g_aload_n C dRM_findFits_0 rfl ?_
  refine gt_getr C dRM_findFits_1 fl_RM_43 h0 hV0.1.1 rfl (fun b_1 q_1 hb_1 => ?_)
  refine g_aload_n C dRM_findFits_4 rfl ?_
  refine gt_getr C dRM_findFits_5 fl_RM_19 h0 hV0.1.1 rfl (fun b_5 q_5 hb_5 => ?_)
  refine g_aload_n C dRM_findFits_8 rfl ?_
  refine gt_getr C dRM_findFits_9 fl_RM_37 h0 hV0.1.1 rfl (fun b_9 q_9 hb_9 => ?_)
  refine s_callV_v (av := fun ad => [.ref b_5, .ref b_9]) C dRM_findFits_12 mfGu_tellAll mvGu_tellAll ln_RM_359 hb_1 (by decide) rfl hV0 fr_NN (cGu_tellAll hV0.1 hb_1 hb_5 hb_9 ⟨by decide, rfl, rfl, fun _ _ => trivial, by decide⟩) rfl rfl (Nat.le_of_ble_eq_true rfl) ⟨Nat.le_of_ble_eq_true rfl, Nat.le_of_ble_eq_true rfl⟩ ⟨rfl, rfl⟩ ⟨Nat.zero_le _, Nat.zero_le _⟩ (fun Iw1 Jw1 hVw1 hFw1 p_12 => ?_)
  refine g_aload_n C dRM_findFits_15 rfl ?_
  refine gt_getr C dRM_findFits_16 fl_RM_50 h0 hVw1.1.1 rfl (fun b_16 q_16 hb_16 => ?_)
  refine g_aload_n C dRM_findFits_19 rfl ?_
  refine gt_getS C dRM_findFits_20 fl_RM_43 h0 q_1 ?_
  refine s_callV_i (av := fun ad => [.ref b_1]) C dRM_findFits_23 mfSi_findFits mvSi_findFits ln_RM_363 hb_16 (by decide) rfl hVw1 fr_NN (cSi_findFits hVw1.1 hb_16 hb_1) rfl rfl (Nat.le_of_ble_eq_true rfl) ⟨Nat.le_of_ble_eq_true rfl, Nat.le_of_ble_eq_true rfl⟩ ⟨rfl, rfl⟩ ⟨Nat.zero_le _, Nat.zero_le _⟩ (fun Iw2 Jw2 hVw2 hFw2 z_23 p_23 => ?_)
  have rz_23 := rg z_23
  exact s_iret C E dRM_findFits_26 ⟨Nat.zero_le _, Nat.zero_le _⟩ hVw2 trivial
set_option maxHeartbeats 4000000 in
set_option maxRecDepth 100000 in
theorem cRM_leadMarks {P : List Nat} {K : Nat → Nat} {I0 : Nat → Nat → Int32} {O : Nat → Nat → Option Nat} {J0 : Nat → Nat → Int64} (hV : IV P K I0 O) {a0 : Nat} (h0 : a0 ∈ P ∧ K a0 = 8) {x1 : Int32} : Con yRM_leadMarks bRM_leadMarks 2 (some .int) ({ frames := 2, cells := 0, slots := 0, locals := 48 } : Room) P K I0 O J0 [.ref a0, .int x1] (SPo frN 1 (tt) P K I0 O J0) := by
  refine Con.ofG mfRM_leadMarks (Nat.le_of_ble_eq_true rfl) ?_
  intro X C E
  have r1 := rg x1
  have hV0 : SV frN P K O I0 J0 I0 J0 := SV.rf hV
  refine g_aload_n C dRM_leadMarks_0 rfl ?_
  refine gt_getr C dRM_leadMarks_1 fl_RM_71 h0 hV0.1.1 rfl (fun b_1 q_1 hb_1 => ?_)
  refine s_callV_v (av := fun ad => []) C dRM_leadMarks_4 mfLd_takeBack mvLd_takeBack ln_RM_366 hb_1 (by decide) rfl hV0 fr_NN (cLd_takeBack hV0.1 hb_1) rfl rfl (Nat.le_of_ble_eq_true rfl) ⟨Nat.le_of_ble_eq_true rfl, Nat.le_of_ble_eq_true rfl⟩ ⟨rfl, rfl⟩ ⟨Nat.zero_le _, Nat.zero_le _⟩ (fun Iw1 Jw1 hVw1 hFw1 p_4 => ?_)
  refine g_aload_n C dRM_leadMarks_7 rfl ?_
  refine gt_getr C dRM_leadMarks_8 fl_RM_75 h0 hVw1.1.1 rfl (fun b_8 q_8 hb_8 => ?_)
  refine g_geti C dRM_leadMarks_11 fl_RM_157 hb_8 ?_
  refine gt_if_eq 19 C dRM_leadMarks_14 (by decide) rfl (fun c_14 => ?_) (fun c_14 => ?_)
  · skip
    refine g_aload_n C dRM_leadMarks_19 rfl ?_
    refine gt_getS C dRM_leadMarks_20 fl_RM_71 h0 q_1 ?_
    refine g_aload_n C dRM_leadMarks_23 rfl ?_
    refine gt_getr C dRM_leadMarks_24 fl_RM_19 h0 hVw1.1.1 rfl (fun b_24 q_24 hb_24 => ?_)
    refine g_aload_n C dRM_leadMarks_27 rfl ?_
    refine gt_getS C dRM_leadMarks_28 fl_RM_75 h0 q_8 ?_
    refine g_geti C dRM_leadMarks_31 fl_RM_197 hb_8 ?_
    refine s_callV_v (av := fun ad => [.ref b_24, .int (Iw1 b_8 8)]) C dRM_leadMarks_34 mfLd_breakUp mvLd_breakUp ln_RM_369 hb_1 (by decide) rfl hVw1 fr_NN (cLd_breakUp hVw1.1 hb_1 hb_24) rfl rfl (Nat.le_of_ble_eq_true rfl) ⟨Nat.le_of_ble_eq_true rfl, Nat.le_of_ble_eq_true rfl⟩ ⟨rfl, rfl⟩ ⟨Nat.zero_le _, Nat.zero_le _⟩ (fun Iw2 Jw2 hVw2 hFw2 p_34 => ?_)
    refine g_aload_n C dRM_leadMarks_37 rfl ?_
    refine gt_getS C dRM_leadMarks_38 fl_RM_71 h0 q_1 ?_
    refine g_aload_n C dRM_leadMarks_41 rfl ?_
    refine gt_getS C dRM_leadMarks_42 fl_RM_19 h0 q_24 ?_
    refine g_iload_n C dRM_leadMarks_45 rfl ?_
    refine g_aload_n C dRM_leadMarks_46 rfl ?_
    refine gt_getS C dRM_leadMarks_47 fl_RM_75 h0 q_8 ?_
    refine g_geti C dRM_leadMarks_50 fl_RM_144 hb_8 ?_
    refine s_callV_v (av := fun ad => [.ref b_24, .int x1, .int (Iw2 b_8 4)]) C dRM_leadMarks_53 mfLd_sift mvLd_sift ln_RM_372 hb_1 (by decide) rfl hVw2 fr_NN (cLd_sift hVw2.1 hb_1 hb_24) rfl rfl (Nat.le_of_ble_eq_true rfl) ⟨Nat.le_of_ble_eq_true rfl, Nat.le_of_ble_eq_true rfl⟩ ⟨rfl, rfl⟩ ⟨Nat.zero_le _, Nat.zero_le _⟩ (fun Iw3 Jw3 hVw3 hFw3 p_53 => ?_)
    refine g_aload_n C dRM_leadMarks_56 rfl ?_
    refine gt_getS C dRM_leadMarks_57 fl_RM_71 h0 q_1 ?_
    refine gt_getr C dRM_leadMarks_60 fl_RM_176 hb_1 hVw3.1.1 rfl (fun b_60 q_60 hb_60 => ?_)
    refine s_callS_ip (av := fun ad => [.ref b_60]) C dRM_leadMarks_63 mfRM_sumOf msRM_sumOf ln_RM_376 (cRM_sumOf hVw3.1 hb_60 ⟨by decide, rfl, rfl, fun _ _ => trivial, by decide⟩) rfl rfl (Nat.le_of_ble_eq_true rfl) ⟨Nat.le_of_ble_eq_true rfl, Nat.le_of_ble_eq_true rfl⟩ ⟨rfl, rfl⟩ ⟨Nat.zero_le _, Nat.zero_le _⟩ (fun z_63 p_63 => ?_)
    have rz_63 := rg z_63
    exact s_iret C E dRM_leadMarks_66 ⟨Nat.zero_le _, Nat.zero_le _⟩ hVw3 trivial
  · skip
    refine g_iconst (v := Int32.ofInt (0)) C dRM_leadMarks_17 (by decide) ?_
    exact s_iret C E dRM_leadMarks_18 ⟨Nat.zero_le _, Nat.zero_le _⟩ hVw1 trivial
set_option maxHeartbeats 4000000 in
set_option maxRecDepth 100000 in
theorem cRM_beginAnew {P : List Nat} {K : Nat → Nat} {I0 : Nat → Nat → Int32} {O : Nat → Nat → Option Nat} {J0 : Nat → Nat → Int64} (hV : IV P K I0 O) {a0 : Nat} (h0 : a0 ∈ P ∧ K a0 = 8) : Con yRM_beginAnew bRM_beginAnew 2 none ({ frames := 3, cells := 0, slots := 0, locals := 61 } : Room) P K I0 O J0 [.ref a0] (SPo frN 0 (tt) P K I0 O J0) := by
  refine Con.ofG mfRM_beginAnew (Nat.le_of_ble_eq_true rfl) ?_
  intro X C E
  have hV0 : SV frN P K O I0 J0 I0 J0 := SV.rf hV
  refine g_aload_n C dRM_beginAnew_0 rfl ?_
  refine gt_getr C dRM_beginAnew_1 fl_RM_29 h0 hV0.1.1 rfl (fun b_1 q_1 hb_1 => ?_)
  refine s_callV_v (av := fun ad => []) C dRM_beginAnew_4 mfDr_beginEmpty mvDr_beginEmpty ln_RM_354 hb_1 (by decide) rfl hV0 fr_NN (cDr_beginEmpty hV0.1 hb_1) rfl rfl (Nat.le_of_ble_eq_true rfl) ⟨Nat.le_of_ble_eq_true rfl, Nat.le_of_ble_eq_true rfl⟩ ⟨rfl, rfl⟩ ⟨Nat.zero_le _, Nat.zero_le _⟩ (fun Iw1 Jw1 hVw1 hFw1 p_4 => ?_)
  refine g_aload_n C dRM_beginAnew_7 rfl ?_
  refine gt_getr C dRM_beginAnew_8 fl_RM_33 h0 hVw1.1.1 rfl (fun b_8 q_8 hb_8 => ?_)
  refine g_iconst (v := Int32.ofInt (0)) C dRM_beginAnew_11 (by decide) ?_
  refine g_iconst (v := Int32.ofInt (1)) C dRM_beginAnew_12 (by decide) ?_
  refine gt_iastc (c := 0) C dRM_beginAnew_13 hb_8 (by decide) rfl (ofI (by decide)) (n := 3) rfl (by decide) (by decide) hVw1 rfl trivial (fun Iw2 eIw2 hVw2 => ?_)
  refine g_aload_n C dRM_beginAnew_14 rfl ?_
  refine gt_getS C dRM_beginAnew_15 fl_RM_33 h0 q_8 ?_
  refine g_iconst (v := Int32.ofInt (1)) C dRM_beginAnew_18 (by decide) ?_
  refine g_iconst (v := Int32.ofInt (1)) C dRM_beginAnew_19 (by decide) ?_
  refine gt_iastc (c := 1) C dRM_beginAnew_20 hb_8 (by decide) rfl (ofI (by decide)) (n := 3) rfl (by decide) (by decide) hVw2 rfl trivial (fun Iw3 eIw3 hVw3 => ?_)
  refine g_aload_n C dRM_beginAnew_21 rfl ?_
  refine gt_getS C dRM_beginAnew_22 fl_RM_33 h0 q_8 ?_
  refine g_iconst (v := Int32.ofInt (2)) C dRM_beginAnew_25 (by decide) ?_
  refine g_iconst (v := Int32.ofInt (0)) C dRM_beginAnew_26 (by decide) ?_
  refine gt_iastc (c := 2) C dRM_beginAnew_27 hb_8 (by decide) rfl (ofI (by decide)) (n := 3) rfl (by decide) (by decide) hVw3 rfl trivial (fun Iw4 eIw4 hVw4 => ?_)
  refine g_iconst (v := Int32.ofInt (0)) C dRM_beginAnew_28 (by decide) ?_
  refine g_istore_n (i := 1) C dRM_beginAnew_29 rfl (by decide) ?_
  have lp_30 : ∀ (nn_30 : Nat) (x1_30 : Int32) (Iw5 : Nat → Nat → Int32) (Jw5 : Nat → Nat → Int64), Int.toNat (12 - x1_30.toInt) = nn_30 → (0 ≤ Int32.toInt x1_30 ∧ Int32.toInt x1_30 ≤ 12) → SV frN P K O I0 J0 Iw5 Jw5 → GG X 2 P K Iw5 O Jw5 0 0 30 [(0, .ref a0), (1, .int x1_30)] [] := by
    intro nn_30
    induction nn_30 using Nat.strongRecOn with
    | ind nn_30 ih_30 =>
    intro x1_30 Iw5 Jw5 hn_30 iv0_30 hVw5
    have rg1_30 := rg x1_30
    refine g_iload_n C dRM_beginAnew_30 rfl ?_
    refine g_bipush (v := Int32.ofInt (12)) C dRM_beginAnew_31 (by decide) ?_
    refine gt_icmp_ge 75 C dRM_beginAnew_33 (by decide) rfl (ofI (by decide)) (fun c_33 => ?_) (fun c_33 => ?_)
    · skip
      refine g_aload_n C dRM_beginAnew_75 rfl ?_
      refine gt_getr C dRM_beginAnew_76 fl_RM_43 h0 hVw5.1.1 rfl (fun b_76 q_76 hb_76 => ?_)
      refine s_callV_v (av := fun ad => []) C dRM_beginAnew_79 mfGu_makeStale mvGu_makeStale ln_RM_215 hb_76 (by decide) rfl hVw5 fr_NN (cGu_makeStale hVw5.1 hb_76) rfl rfl (Nat.le_of_ble_eq_true rfl) ⟨Nat.le_of_ble_eq_true rfl, Nat.le_of_ble_eq_true rfl⟩ ⟨rfl, rfl⟩ ⟨Nat.zero_le _, Nat.zero_le _⟩ (fun Iw6 Jw6 hVw6 hFw6 p_79 => ?_)
      refine g_aload_n C dRM_beginAnew_82 rfl ?_
      refine gt_getr C dRM_beginAnew_83 fl_RM_50 h0 hVw6.1.1 rfl (fun b_83 q_83 hb_83 => ?_)
      refine s_callV_i (av := fun ad => []) C dRM_beginAnew_86 mfSi_drop mvSi_drop ln_RM_232 hb_83 (by decide) rfl hVw6 fr_NN (cSi_drop hVw6.1 hb_83) rfl rfl (Nat.le_of_ble_eq_true rfl) ⟨Nat.le_of_ble_eq_true rfl, Nat.le_of_ble_eq_true rfl⟩ ⟨rfl, rfl⟩ ⟨Nat.zero_le _, Nat.zero_le _⟩ (fun Iw7 Jw7 hVw7 hFw7 z_86 p_86 => ?_)
      have rz_86 := rg z_86
      refine g_pop C dRM_beginAnew_89 rfl ?_
      refine g_aload_n C dRM_beginAnew_90 rfl ?_
      refine gt_getr C dRM_beginAnew_91 fl_RM_64 h0 hVw7.1.1 rfl (fun b_91 q_91 hb_91 => ?_)
      refine s_callV_i (av := fun ad => []) C dRM_beginAnew_94 mfTr_drop mvTr_drop ln_RM_297 hb_91 (by decide) rfl hVw7 fr_NN (cTr_drop hVw7.1 hb_91) rfl rfl (Nat.le_of_ble_eq_true rfl) ⟨Nat.le_of_ble_eq_true rfl, Nat.le_of_ble_eq_true rfl⟩ ⟨rfl, rfl⟩ ⟨Nat.zero_le _, Nat.zero_le _⟩ (fun Iw8 Jw8 hVw8 hFw8 z_94 p_94 => ?_)
      have rz_94 := rg z_94
      refine g_pop C dRM_beginAnew_97 rfl ?_
      refine g_aload_n C dRM_beginAnew_98 rfl ?_
      refine gt_getr C dRM_beginAnew_99 fl_RM_57 h0 hVw8.1.1 rfl (fun b_99 q_99 hb_99 => ?_)
      refine s_callV_v (av := fun ad => []) C dRM_beginAnew_102 mfPl_drop mvPl_drop ln_RM_357 hb_99 (by decide) rfl hVw8 fr_NN (cPl_drop hVw8.1 hb_99) rfl rfl (Nat.le_of_ble_eq_true rfl) ⟨Nat.le_of_ble_eq_true rfl, Nat.le_of_ble_eq_true rfl⟩ ⟨rfl, rfl⟩ ⟨Nat.zero_le _, Nat.zero_le _⟩ (fun Iw9 Jw9 hVw9 hFw9 p_102 => ?_)
      refine g_aload_n C dRM_beginAnew_105 rfl ?_
      refine g_iconst (v := Int32.ofInt (0)) C dRM_beginAnew_106 (by decide) ?_
      refine gt_puti C dRM_beginAnew_107 fl_RM_309 h0 hVw9 rfl (by show 0 ≤ Int32.toInt _ ∧ Int32.toInt _ ≤ 240; rw [ofI (by decide)]; omega) rfl (Or.inl rfl) (fun Iw10 eIw10 hVw10 => ?_)
      exact s_vret C E dRM_beginAnew_110 ⟨Nat.zero_le _, Nat.zero_le _⟩ hVw10 trivial
    · skip
      refine g_aload_n C dRM_beginAnew_36 rfl ?_
      refine gt_getr C dRM_beginAnew_37 fl_RM_37 h0 hVw5.1.1 rfl (fun b_37 q_37 hb_37 => ?_)
      refine g_iload_n C dRM_beginAnew_40 rfl ?_
      refine g_iconst (v := Int32.ofInt (3)) C dRM_beginAnew_41 (by decide) ?_
      first | refine n_imul C dRM_beginAnew_42 rfl (ofI (by decide)) (by omega) (fun z_42 e_42 => ?_) | refine a_imul C dRM_beginAnew_42 (fun z_42 => ?_)
      refine g_iconst (v := Int32.ofInt (0)) C dRM_beginAnew_43 (by decide) ?_
      first | refine n_iadd C dRM_beginAnew_44 rfl (ofI (by decide)) (by omega) (fun z_44 e_44 => ?_) | refine a_iadd C dRM_beginAnew_44 (fun z_44 => ?_)
      refine g_iconst (v := Int32.ofInt (1)) C dRM_beginAnew_45 (by decide) ?_
      refine gt_iast C dRM_beginAnew_46 hb_37 (by decide) rfl rfl (n := 36) rfl (by omega) hVw5 rfl trivial (fun Iw11 eIw11 hVw11 => ?_)
      refine g_aload_n C dRM_beginAnew_47 rfl ?_
      refine gt_getS C dRM_beginAnew_48 fl_RM_37 h0 q_37 ?_
      refine g_iload_n C dRM_beginAnew_51 rfl ?_
      refine g_iconst (v := Int32.ofInt (3)) C dRM_beginAnew_52 (by decide) ?_
      first | refine n_imul C dRM_beginAnew_53 rfl (ofI (by decide)) (by omega) (fun z_53 e_53 => ?_) | refine a_imul C dRM_beginAnew_53 (fun z_53 => ?_)
      refine g_iconst (v := Int32.ofInt (1)) C dRM_beginAnew_54 (by decide) ?_
      first | refine n_iadd C dRM_beginAnew_55 rfl (ofI (by decide)) (by omega) (fun z_55 e_55 => ?_) | refine a_iadd C dRM_beginAnew_55 (fun z_55 => ?_)
      refine g_iconst (v := Int32.ofInt (1)) C dRM_beginAnew_56 (by decide) ?_
      refine gt_iast C dRM_beginAnew_57 hb_37 (by decide) rfl rfl (n := 36) rfl (by omega) hVw11 rfl trivial (fun Iw12 eIw12 hVw12 => ?_)
      refine g_aload_n C dRM_beginAnew_58 rfl ?_
      refine gt_getS C dRM_beginAnew_59 fl_RM_37 h0 q_37 ?_
      refine g_iload_n C dRM_beginAnew_62 rfl ?_
      refine g_iconst (v := Int32.ofInt (3)) C dRM_beginAnew_63 (by decide) ?_
      first | refine n_imul C dRM_beginAnew_64 rfl (ofI (by decide)) (by omega) (fun z_64 e_64 => ?_) | refine a_imul C dRM_beginAnew_64 (fun z_64 => ?_)
      refine g_iconst (v := Int32.ofInt (2)) C dRM_beginAnew_65 (by decide) ?_
      first | refine n_iadd C dRM_beginAnew_66 rfl (ofI (by decide)) (by omega) (fun z_66 e_66 => ?_) | refine a_iadd C dRM_beginAnew_66 (fun z_66 => ?_)
      refine g_iconst (v := Int32.ofInt (0)) C dRM_beginAnew_67 (by decide) ?_
      refine gt_iast C dRM_beginAnew_68 hb_37 (by decide) rfl rfl (n := 36) rfl (by omega) hVw12 rfl trivial (fun Iw13 eIw13 hVw13 => ?_)
      first | refine n_iinc C dRM_beginAnew_69 rfl rfl (by decide) (by decide) (by omega) (fun z_69 e_69 => ?_) | refine a_iinc C dRM_beginAnew_69 rfl (by decide) (fun z_69 => ?_)
      refine g_goto 30 C dRM_beginAnew_72 (by decide) ?_
      exact g_sub (ih_30 _ (by omega) z_69 Iw13 Jw5 rfl (by omega) hVw13) ⟨rfl, rfl, trivial⟩
  exact g_sub (lp_30 _ (Int32.ofInt (0)) Iw4 Jw1 rfl (by have hci : Int32.toInt (Int32.ofInt (0)) = 0 := ofI (by decide); omega) hVw4) ⟨rfl, rfl, trivial⟩
set_option maxHeartbeats 4000000 in
set_option maxRecDepth 100000 in
theorem cRM_fault {P : List Nat} {K : Nat → Nat} {I0 : Nat → Nat → Int32} {O : Nat → Nat → Option Nat} {J0 : Nat → Nat → Int64} (hV : IV P K I0 O) {a0 : Nat} (h0 : a0 ∈ P ∧ K a0 = 8) : Con yRM_fault bRM_fault 1 (some .int) ({ frames := 0, cells := 0, slots := 0, locals := 0 } : Room) P K I0 O J0 [.ref a0] (SPo frP 1 (tt) P K I0 O J0) := by
  refine Con.ofG mfRM_fault (Nat.le_of_ble_eq_true rfl) ?_
  intro X C E
  have hV0 : SV frP P K O I0 J0 I0 J0 := SV.rf hV
  refine g_aload_n C dRM_fault_0 rfl ?_
  refine g_geti C dRM_fault_1 fl_RM_107 h0 ?_
  exact s_iret C E dRM_fault_4 ⟨Nat.zero_le _, Nat.zero_le _⟩ hV0 trivial
set_option maxHeartbeats 4000000 in
set_option maxRecDepth 100000 in
theorem cRM_where {P : List Nat} {K : Nat → Nat} {I0 : Nat → Nat → Int32} {O : Nat → Nat → Option Nat} {J0 : Nat → Nat → Int64} (hV : IV P K I0 O) {a0 : Nat} (h0 : a0 ∈ P ∧ K a0 = 8) : Con yRM_where bRM_where 1 (some .int) ({ frames := 0, cells := 0, slots := 0, locals := 0 } : Room) P K I0 O J0 [.ref a0] (SPo frP 1 (tt) P K I0 O J0) := by
  refine Con.ofG mfRM_where (Nat.le_of_ble_eq_true rfl) ?_
  intro X C E
  have hV0 : SV frP P K O I0 J0 I0 J0 := SV.rf hV
  refine g_aload_n C dRM_where_0 rfl ?_
  refine g_geti C dRM_where_1 fl_RM_81 h0 ?_
  refine g_iconst (v := Int32.ofInt (4)) C dRM_where_4 (by decide) ?_
  refine gt_icmp_ne 15 C dRM_where_5 (by decide) rfl (ofI (by decide)) (fun c_5 => ?_) (fun c_5 => ?_)
  · skip
    refine g_iconst (v := Int32.ofInt (-1)) C dRM_where_15 (by decide) ?_
    exact s_iret C E dRM_where_16 ⟨Nat.zero_le _, Nat.zero_le _⟩ hV0 trivial
  · skip
    refine g_aload_n C dRM_where_8 rfl ?_
    refine g_geti C dRM_where_9 fl_RM_113 h0 ?_
    refine g_goto 16 C dRM_where_12 (by decide) ?_
    exact s_iret C E dRM_where_16 ⟨Nat.zero_le _, Nat.zero_le _⟩ hV0 trivial
set_option maxHeartbeats 4000000 in
set_option maxRecDepth 100000 in
theorem cRM_set {P : List Nat} {K : Nat → Nat} {I0 : Nat → Nat → Int32} {O : Nat → Nat → Option Nat} {J0 : Nat → Nat → Int64} (hV : IV P K I0 O) {a0 : Nat} (h0 : a0 ∈ P ∧ K a0 = 8) {x1 : Int32} {x2 : Int32} {x3 : Int32} : Con yRM_set bRM_set 4 (some .boolean) ({ frames := 1, cells := 0, slots := 0, locals := 21 } : Room) P K I0 O J0 [.ref a0, .int x1, .int x2, .int x3] (SPo frN 2 (tt) P K I0 O J0) := by
  refine Con.ofG mfRM_set (Nat.le_of_ble_eq_true rfl) ?_
  intro X C E
  have r1 := rg x1
  have r2 := rg x2
  have r3 := rg x3
  have hV0 : SV frN P K O I0 J0 I0 J0 := SV.rf hV
  refine g_aload_n C dRM_set_0 rfl ?_
  refine g_iload_n C dRM_set_1 rfl ?_
  refine s_callV_zp (av := fun ad => [.int x3]) C dRM_set_2 mfRM_isOre mvRM_isOre ln_RM_125 h0 (by decide) rfl (cRM_isOre hV0.1 h0) rfl rfl (Nat.le_of_ble_eq_true rfl) ⟨Nat.le_of_ble_eq_true rfl, Nat.le_of_ble_eq_true rfl⟩ ⟨rfl, rfl⟩ ⟨Nat.zero_le _, Nat.zero_le _⟩ (fun z_2 b_2 p_2 => ?_)
  have rz_2 := rg z_2
  have u_2 := b_2
  unfold B01 at u_2
  refine gt_if_ne 14 C dRM_set_5 (by decide) rfl (fun c_5 => ?_) (fun c_5 => ?_)
  · skip
    refine g_iload_n C dRM_set_14 rfl ?_
    refine s_callS_zp (av := fun ad => [.int x1]) C dRM_set_15 mfRM_isRate msRM_isRate ln_RM_131 (cRM_isRate hV0.1 ) rfl rfl (Nat.le_of_ble_eq_true rfl) ⟨Nat.le_of_ble_eq_true rfl, Nat.le_of_ble_eq_true rfl⟩ ⟨rfl, rfl⟩ ⟨Nat.zero_le _, Nat.zero_le _⟩ (fun z_15 b_15 p_15 => ?_)
    have rz_15 := rg z_15
    have u_15 := b_15
    unfold B01 at u_15
    have jn_28 : ∀   (Iw3 : Nat → Nat → Int32) (Jw3 : Nat → Nat → Int64),  SV frN P K O I0 J0 Iw3 Jw3 → GG X 4 P K Iw3 O Jw3 0 0 28 [(0, .ref a0), (1, .int x1), (2, .int x2), (3, .int x3)] [] := by
      intro Iw3 Jw3 hVw3
      refine g_aload_n C dRM_set_28 rfl ?_
      refine g_iconst (v := Int32.ofInt (2)) C dRM_set_29 (by decide) ?_
      refine s_callV_z (av := fun ad => [.int (Int32.ofInt (2))]) C dRM_set_30 mfRM_deny mvRM_deny ln_RM_128 h0 (by decide) rfl hVw3 fr_NN (cRM_deny hVw3.1 h0) rfl rfl (Nat.le_of_ble_eq_true rfl) ⟨Nat.le_of_ble_eq_true rfl, Nat.le_of_ble_eq_true rfl⟩ ⟨rfl, rfl⟩ ⟨Nat.zero_le _, Nat.zero_le _⟩ (fun Iw4 Jw4 hVw4 hFw4 z_30 b_30 p_30 => ?_)
      have rz_30 := rg z_30
      have u_30 := b_30
      unfold B01 at u_30
      exact s_zret C E dRM_set_33 ⟨Nat.zero_le _, Nat.zero_le _⟩ hVw4 (by first | assumption | (unfold B01; omega)) trivial
    refine gt_if_eq 28 C dRM_set_18 (by decide) rfl (fun c_18 => ?_) (fun c_18 => ?_)
    · skip
      exact g_sub (jn_28  I0 J0  hV0) ⟨rfl, rfl, rfl, rfl, trivial⟩
    · skip
      refine g_iload_n C dRM_set_21 rfl ?_
      refine s_callS_zp (av := fun ad => [.int x2]) C dRM_set_22 mfRM_isWater msRM_isWater ln_RM_134 (cRM_isWater hV0.1 ) rfl rfl (Nat.le_of_ble_eq_true rfl) ⟨Nat.le_of_ble_eq_true rfl, Nat.le_of_ble_eq_true rfl⟩ ⟨rfl, rfl⟩ ⟨Nat.zero_le _, Nat.zero_le _⟩ (fun z_22 b_22 p_22 => ?_)
      have rz_22 := rg z_22
      have u_22 := b_22
      unfold B01 at u_22
      refine gt_if_ne 34 C dRM_set_25 (by decide) rfl (fun c_25 => ?_) (fun c_25 => ?_)
      · skip
        refine g_aload_n C dRM_set_34 rfl ?_
        refine gt_getr C dRM_set_35 fl_RM_33 h0 hV0.1.1 rfl (fun b_35 q_35 hb_35 => ?_)
        refine g_iconst (v := Int32.ofInt (0)) C dRM_set_38 (by decide) ?_
        refine g_iload_n C dRM_set_39 rfl ?_
        refine gt_iastc (c := 0) C dRM_set_40 hb_35 (by decide) rfl (ofI (by decide)) (n := 3) rfl (by decide) (by decide) hV0 rfl trivial (fun Iw6 eIw6 hVw6 => ?_)
        refine g_aload_n C dRM_set_41 rfl ?_
        refine gt_getS C dRM_set_42 fl_RM_33 h0 q_35 ?_
        refine g_iconst (v := Int32.ofInt (1)) C dRM_set_45 (by decide) ?_
        refine g_iload_n C dRM_set_46 rfl ?_
        refine gt_iastc (c := 1) C dRM_set_47 hb_35 (by decide) rfl (ofI (by decide)) (n := 3) rfl (by decide) (by decide) hVw6 rfl trivial (fun Iw7 eIw7 hVw7 => ?_)
        refine g_aload_n C dRM_set_48 rfl ?_
        refine gt_getS C dRM_set_49 fl_RM_33 h0 q_35 ?_
        refine g_iconst (v := Int32.ofInt (2)) C dRM_set_52 (by decide) ?_
        refine g_iload_n C dRM_set_53 rfl ?_
        refine gt_iastc (c := 2) C dRM_set_54 hb_35 (by decide) rfl (ofI (by decide)) (n := 3) rfl (by decide) (by decide) hVw7 rfl trivial (fun Iw8 eIw8 hVw8 => ?_)
        refine g_aload_n C dRM_set_55 rfl ?_
        refine s_callV_z (av := fun ad => []) C dRM_set_56 mfRM_allow mvRM_allow ln_RM_137 h0 (by decide) rfl hVw8 fr_NN (cRM_allow hVw8.1 h0) rfl rfl (Nat.le_of_ble_eq_true rfl) ⟨Nat.le_of_ble_eq_true rfl, Nat.le_of_ble_eq_true rfl⟩ ⟨rfl, rfl⟩ ⟨Nat.zero_le _, Nat.zero_le _⟩ (fun Iw9 Jw9 hVw9 hFw9 z_56 b_56 p_56 => ?_)
        have rz_56 := rg z_56
        have u_56 := b_56
        unfold B01 at u_56
        exact s_zret C E dRM_set_59 ⟨Nat.zero_le _, Nat.zero_le _⟩ hVw9 (by first | assumption | (unfold B01; omega)) trivial
      · skip
        exact g_sub (jn_28  I0 J0  hV0) ⟨rfl, rfl, rfl, rfl, trivial⟩
  · skip
    refine g_aload_n C dRM_set_8 rfl ?_
    refine g_iconst (v := Int32.ofInt (1)) C dRM_set_9 (by decide) ?_
    refine s_callV_z (av := fun ad => [.int (Int32.ofInt (1))]) C dRM_set_10 mfRM_deny mvRM_deny ln_RM_128 h0 (by decide) rfl hV0 fr_NN (cRM_deny hV0.1 h0) rfl rfl (Nat.le_of_ble_eq_true rfl) ⟨Nat.le_of_ble_eq_true rfl, Nat.le_of_ble_eq_true rfl⟩ ⟨rfl, rfl⟩ ⟨Nat.zero_le _, Nat.zero_le _⟩ (fun Iw10 Jw10 hVw10 hFw10 z_10 b_10 p_10 => ?_)
    have rz_10 := rg z_10
    have u_10 := b_10
    unfold B01 at u_10
    exact s_zret C E dRM_set_13 ⟨Nat.zero_le _, Nat.zero_le _⟩ hVw10 (by first | assumption | (unfold B01; omega)) trivial
set_option maxHeartbeats 4000000 in
set_option maxRecDepth 100000 in
theorem cRM_mend {P : List Nat} {K : Nat → Nat} {I0 : Nat → Nat → Int32} {O : Nat → Nat → Option Nat} {J0 : Nat → Nat → Int64} (hV : IV P K I0 O) {a0 : Nat} (h0 : a0 ∈ P ∧ K a0 = 8) {x1 : Int32} {x2 : Int32} : Con yRM_mend bRM_mend 3 (some .boolean) ({ frames := 1, cells := 0, slots := 0, locals := 21 } : Room) P K I0 O J0 [.ref a0, .int x1, .int x2] (SPo frN 2 (tt) P K I0 O J0) := by
  refine Con.ofG mfRM_mend (Nat.le_of_ble_eq_true rfl) ?_
  intro X C E
  have r1 := rg x1
  have r2 := rg x2
  have hV0 : SV frN P K O I0 J0 I0 J0 := SV.rf hV
  refine g_aload_n C dRM_mend_0 rfl ?_
  refine s_callV_zp (av := fun ad => []) C dRM_mend_1 mfRM_noMill mvRM_noMill ln_RM_141 h0 (by decide) rfl (cRM_noMill hV0.1 h0) rfl rfl (Nat.le_of_ble_eq_true rfl) ⟨Nat.le_of_ble_eq_true rfl, Nat.le_of_ble_eq_true rfl⟩ ⟨rfl, rfl⟩ ⟨Nat.zero_le _, Nat.zero_le _⟩ (fun z_1 b_1 p_1 => ?_)
  have rz_1 := rg z_1
  have u_1 := b_1
  unfold B01 at u_1
  refine gt_if_eq 13 C dRM_mend_4 (by decide) rfl (fun c_4 => ?_) (fun c_4 => ?_)
  · skip
    refine g_iload_n C dRM_mend_13 rfl ?_
    have jn_22 : ∀   (Iw2 : Nat → Nat → Int32) (Jw2 : Nat → Nat → Int64),  SV frN P K O I0 J0 Iw2 Jw2 → GG X 3 P K Iw2 O Jw2 0 0 22 [(0, .ref a0), (1, .int x1), (2, .int x2)] [] := by
      intro Iw2 Jw2 hVw2
      refine g_aload_n C dRM_mend_22 rfl ?_
      refine g_iconst (v := Int32.ofInt (2)) C dRM_mend_23 (by decide) ?_
      refine s_callV_z (av := fun ad => [.int (Int32.ofInt (2))]) C dRM_mend_24 mfRM_deny mvRM_deny ln_RM_128 h0 (by decide) rfl hVw2 fr_NN (cRM_deny hVw2.1 h0) rfl rfl (Nat.le_of_ble_eq_true rfl) ⟨Nat.le_of_ble_eq_true rfl, Nat.le_of_ble_eq_true rfl⟩ ⟨rfl, rfl⟩ ⟨Nat.zero_le _, Nat.zero_le _⟩ (fun Iw3 Jw3 hVw3 hFw3 z_24 b_24 p_24 => ?_)
      have rz_24 := rg z_24
      have u_24 := b_24
      unfold B01 at u_24
      exact s_zret C E dRM_mend_27 ⟨Nat.zero_le _, Nat.zero_le _⟩ hVw3 (by first | assumption | (unfold B01; omega)) trivial
    refine gt_if_lt 22 C dRM_mend_14 (by decide) rfl (fun c_14 => ?_) (fun c_14 => ?_)
    · skip
      exact g_sub (jn_22  I0 J0  hV0) ⟨rfl, rfl, rfl, trivial⟩
    · skip
      refine g_iload_n C dRM_mend_17 rfl ?_
      refine g_iconst (v := Int32.ofInt (3)) C dRM_mend_18 (by decide) ?_
      refine gt_icmp_le 28 C dRM_mend_19 (by decide) rfl (ofI (by decide)) (fun c_19 => ?_) (fun c_19 => ?_)
      · skip
        refine g_aload_n C dRM_mend_28 rfl ?_
        refine gt_getr C dRM_mend_29 fl_RM_29 h0 hV0.1.1 rfl (fun b_29 q_29 hb_29 => ?_)
        refine g_iload_n C dRM_mend_32 rfl ?_
        refine gt_puti C dRM_mend_33 fl_RM_144 hb_29 hV0 rfl trivial rfl (Or.inl rfl) (fun Iw4 eIw4 hVw4 => ?_)
        refine g_iload_n C dRM_mend_36 rfl ?_
        have jn_48 : ∀   (Iw5 : Nat → Nat → Int32) (Jw5 : Nat → Nat → Int64),  SV frN P K O I0 J0 Iw5 Jw5 → GG X 3 P K Iw5 O Jw5 0 0 48 [(0, .ref a0), (1, .int x1), (2, .int x2)] [] := by
          intro Iw5 Jw5 hVw5
          refine g_aload_n C dRM_mend_48 rfl ?_
          refine s_callV_z (av := fun ad => []) C dRM_mend_49 mfRM_allow mvRM_allow ln_RM_137 h0 (by decide) rfl hVw5 fr_NN (cRM_allow hVw5.1 h0) rfl rfl (Nat.le_of_ble_eq_true rfl) ⟨Nat.le_of_ble_eq_true rfl, Nat.le_of_ble_eq_true rfl⟩ ⟨rfl, rfl⟩ ⟨Nat.zero_le _, Nat.zero_le _⟩ (fun Iw6 Jw6 hVw6 hFw6 z_49 b_49 p_49 => ?_)
          have rz_49 := rg z_49
          have u_49 := b_49
          unfold B01 at u_49
          exact s_zret C E dRM_mend_52 ⟨Nat.zero_le _, Nat.zero_le _⟩ hVw6 (by first | assumption | (unfold B01; omega)) trivial
        refine gt_if_eq 48 C dRM_mend_37 (by decide) rfl (fun c_37 => ?_) (fun c_37 => ?_)
        · skip
          exact g_sub (jn_48  Iw4 J0  hVw4) ⟨rfl, rfl, rfl, trivial⟩
        · skip
          refine g_aload_n C dRM_mend_40 rfl ?_
          refine gt_getS C dRM_mend_41 fl_RM_29 h0 q_29 ?_
          refine g_iconst (v := Int32.ofInt (0)) C dRM_mend_44 (by decide) ?_
          refine gt_puti C dRM_mend_45 fl_RM_147 hb_29 hVw4 rfl trivial rfl (Or.inl rfl) (fun Iw7 eIw7 hVw7 => ?_)
          exact g_sub (jn_48  Iw7 J0  hVw7) ⟨rfl, rfl, rfl, trivial⟩
      · skip
        exact g_sub (jn_22  I0 J0  hV0) ⟨rfl, rfl, rfl, trivial⟩
  · skip
    refine g_aload_n C dRM_mend_7 rfl ?_
    refine g_iconst (v := Int32.ofInt (1)) C dRM_mend_8 (by decide) ?_
    refine s_callV_z (av := fun ad => [.int (Int32.ofInt (1))]) C dRM_mend_9 mfRM_deny mvRM_deny ln_RM_128 h0 (by decide) rfl hV0 fr_NN (cRM_deny hV0.1 h0) rfl rfl (Nat.le_of_ble_eq_true rfl) ⟨Nat.le_of_ble_eq_true rfl, Nat.le_of_ble_eq_true rfl⟩ ⟨rfl, rfl⟩ ⟨Nat.zero_le _, Nat.zero_le _⟩ (fun Iw8 Jw8 hVw8 hFw8 z_9 b_9 p_9 => ?_)
    have rz_9 := rg z_9
    have u_9 := b_9
    unfold B01 at u_9
    exact s_zret C E dRM_mend_12 ⟨Nat.zero_le _, Nat.zero_le _⟩ hVw8 (by first | assumption | (unfold B01; omega)) trivial
set_option maxHeartbeats 4000000 in
set_option maxRecDepth 100000 in
theorem cRM_go {P : List Nat} {K : Nat → Nat} {I0 : Nat → Nat → Int32} {O : Nat → Nat → Option Nat} {J0 : Nat → Nat → Int64} (hV : IV P K I0 O) {a0 : Nat} (h0 : a0 ∈ P ∧ K a0 = 8) {x1 : Int32} : Con yRM_go bRM_go 5 (some .int) ({ frames := 4, cells := 0, slots := 0, locals := 87 } : Room) P K I0 O J0 [.ref a0, .int x1] (SPo frN 1 (tt) P K I0 O J0) := by
  refine Con.ofG mfRM_go (Nat.le_of_ble_eq_true rfl) ?_
  intro X C E
  have r1 := rg x1
  have hV0 : SV frN P K O I0 J0 I0 J0 := SV.rf hV
  refine g_aload_n C dRM_go_0 rfl ?_
  refine s_callV_zp (av := fun ad => []) C dRM_go_1 mfRM_noMill mvRM_noMill ln_RM_141 h0 (by decide) rfl (cRM_noMill hV0.1 h0) rfl rfl (Nat.le_of_ble_eq_true rfl) ⟨Nat.le_of_ble_eq_true rfl, Nat.le_of_ble_eq_true rfl⟩ ⟨rfl, rfl⟩ ⟨Nat.zero_le _, Nat.zero_le _⟩ (fun z_1 b_1 p_1 => ?_)
  have rz_1 := rg z_1
  have u_1 := b_1
  unfold B01 at u_1
  refine gt_if_eq 13 C dRM_go_4 (by decide) rfl (fun c_4 => ?_) (fun c_4 => ?_)
  · skip
    refine g_iload_n C dRM_go_13 rfl ?_
    refine g_iconst (v := Int32.ofInt (1)) C dRM_go_14 (by decide) ?_
    have jn_24 : ∀   (Iw2 : Nat → Nat → Int32) (Jw2 : Nat → Nat → Int64),  SV frN P K O I0 J0 Iw2 Jw2 → GG X 5 P K Iw2 O Jw2 0 0 24 [(0, .ref a0), (1, .int x1)] [] := by
      intro Iw2 Jw2 hVw2
      refine g_aload_n C dRM_go_24 rfl ?_
      refine g_iconst (v := Int32.ofInt (2)) C dRM_go_25 (by decide) ?_
      refine s_callV_i (av := fun ad => [.int (Int32.ofInt (2))]) C dRM_go_26 mfRM_refuse mvRM_refuse ln_RM_96 h0 (by decide) rfl hVw2 fr_NN (cRM_refuse hVw2.1 h0) rfl rfl (Nat.le_of_ble_eq_true rfl) ⟨Nat.le_of_ble_eq_true rfl, Nat.le_of_ble_eq_true rfl⟩ ⟨rfl, rfl⟩ ⟨Nat.zero_le _, Nat.zero_le _⟩ (fun Iw3 Jw3 hVw3 hFw3 z_26 p_26 => ?_)
      have rz_26 := rg z_26
      exact s_iret C E dRM_go_29 ⟨Nat.zero_le _, Nat.zero_le _⟩ hVw3 trivial
    refine gt_icmp_lt 24 C dRM_go_15 (by decide) rfl (ofI (by decide)) (fun c_15 => ?_) (fun c_15 => ?_)
    · skip
      exact g_sub (jn_24  I0 J0  hV0) ⟨rfl, rfl, trivial⟩
    · skip
      refine g_iload_n C dRM_go_18 rfl ?_
      refine g_bipush (v := Int32.ofInt (24)) C dRM_go_19 (by decide) ?_
      refine gt_icmp_le 30 C dRM_go_21 (by decide) rfl (ofI (by decide)) (fun c_21 => ?_) (fun c_21 => ?_)
      · skip
        refine g_aload_n C dRM_go_30 rfl ?_
        refine gt_getr C dRM_go_31 fl_RM_29 h0 hV0.1.1 rfl (fun b_31 q_31 hb_31 => ?_)
        refine g_geti C dRM_go_34 fl_RM_150 hb_31 ?_
        refine g_iload_n C dRM_go_37 rfl ?_
        first | refine n_iadd C dRM_go_38 rfl rfl (by omega) (fun z_38 e_38 => ?_) | refine a_iadd C dRM_go_38 (fun z_38 => ?_)
        refine g_sipush (v := Int32.ofInt (240)) C dRM_go_39 (by decide) ?_
        refine gt_icmp_le 51 C dRM_go_42 (by decide) rfl (ofI (by decide)) (fun c_42 => ?_) (fun c_42 => ?_)
        · skip
          refine g_iconst (v := Int32.ofInt (0)) C dRM_go_51 (by decide) ?_
          refine g_istore_n (i := 2) C dRM_go_52 rfl (by decide) ?_
          refine g_iconst (v := Int32.ofInt (0)) C dRM_go_53 (by decide) ?_
          refine g_istore_n (i := 3) C dRM_go_54 rfl (by decide) ?_
          have lp_55 : ∀ (nn_55 : Nat) (x2_55 : Int32) (x3_55 : Int32) (Iw4 : Nat → Nat → Int32) (Jw4 : Nat → Nat → Int64), Int.toNat (24 - x3_55.toInt) = nn_55 → (0 ≤ Int32.toInt x3_55 ∧ Int32.toInt x3_55 ≤ 24) → SV frN P K O I0 J0 Iw4 Jw4 → GG X 5 P K Iw4 O Jw4 0 0 55 [(0, .ref a0), (1, .int x1), (2, .int x2_55), (3, .int x3_55)] [] := by
            intro nn_55
            induction nn_55 using Nat.strongRecOn with
            | ind nn_55 ih_55 =>
            intro x2_55 x3_55 Iw4 Jw4 hn_55 iv0_55 hVw4
            have rg2_55 := rg x2_55
            have rg3_55 := rg x3_55
            refine g_iload_n C dRM_go_55 rfl ?_
            refine g_iload_n C dRM_go_56 rfl ?_
            refine gt_icmp_ge 113 C dRM_go_57 (by decide) rfl rfl (fun c_57 => ?_) (fun c_57 => ?_)
            · skip
              refine g_aload_n C dRM_go_113 rfl ?_
              refine g_iload_n C dRM_go_114 rfl ?_
              refine s_callV_i (av := fun ad => [.int x2_55]) C dRM_go_115 mfRM_accept mvRM_accept ln_RM_122 h0 (by decide) rfl hVw4 fr_NN (cRM_accept hVw4.1 h0) rfl rfl (Nat.le_of_ble_eq_true rfl) ⟨Nat.le_of_ble_eq_true rfl, Nat.le_of_ble_eq_true rfl⟩ ⟨rfl, rfl⟩ ⟨Nat.zero_le _, Nat.zero_le _⟩ (fun Iw5 Jw5 hVw5 hFw5 z_115 p_115 => ?_)
              have rz_115 := rg z_115
              exact s_iret C E dRM_go_118 ⟨Nat.zero_le _, Nat.zero_le _⟩ hVw5 trivial
            · skip
              refine g_aload_n C dRM_go_60 rfl ?_
              refine gt_getS C dRM_go_61 fl_RM_29 h0 q_31 ?_
              refine g_geti C dRM_go_64 fl_RM_150 hb_31 ?_
              refine g_istore C dRM_go_67 (by decide) ?_
              refine g_aload_n C dRM_go_69 rfl ?_
              refine gt_getS C dRM_go_70 fl_RM_29 h0 q_31 ?_
              refine g_aload_n C dRM_go_73 rfl ?_
              refine gt_getr C dRM_go_74 fl_RM_19 h0 hVw4.1.1 rfl (fun b_74 q_74 hb_74 => ?_)
              refine g_aload_n C dRM_go_77 rfl ?_
              refine gt_getr C dRM_go_78 fl_RM_33 h0 hVw4.1.1 rfl (fun b_78 q_78 hb_78 => ?_)
              refine g_iconst (v := Int32.ofInt (0)) C dRM_go_81 (by decide) ?_
              refine s_callV_v (av := fun ad => [.ref b_74, .ref b_78, .int (Int32.ofInt (0))]) C dRM_go_82 mfDr_runHour mvDr_runHour ln_RM_153 hb_31 (by decide) rfl hVw4 fr_NN (cDr_runHour hVw4.1 hb_31 hb_74 hb_78 ⟨by decide, rfl, rfl, fun _ _ => trivial, by decide⟩ (by have hk3 : Int32.toInt (Int32.ofInt (0)) = 0 := ofI (by decide); omega)) rfl rfl (Nat.le_of_ble_eq_true rfl) ⟨Nat.le_of_ble_eq_true rfl, Nat.le_of_ble_eq_true rfl⟩ ⟨rfl, rfl⟩ ⟨Nat.zero_le _, Nat.zero_le _⟩ (fun Iw6 Jw6 hVw6 hFw6 p_82 => ?_)
              refine g_aload_n C dRM_go_85 rfl ?_
              refine gt_getS C dRM_go_86 fl_RM_29 h0 q_31 ?_
              refine g_geti C dRM_go_89 fl_RM_157 hb_31 ?_
              have jn_107 : ∀ (y2_107 : Int32)  (Iw7 : Nat → Nat → Int32) (Jw7 : Nat → Nat → Int64),  SV frN P K O I0 J0 Iw7 Jw7 → GG X 5 P K Iw7 O Jw7 0 0 107 [(0, .ref a0), (1, .int x1), (2, .int y2_107), (3, .int x3_55), (4, .int (Iw4 b_31 6))] [] := by
                intro y2_107 Iw7 Jw7 hVw7
                first | refine n_iinc C dRM_go_107 rfl rfl (by decide) (by decide) (by omega) (fun z_107 e_107 => ?_) | refine a_iinc C dRM_go_107 rfl (by decide) (fun z_107 => ?_)
                refine g_goto 55 C dRM_go_110 (by decide) ?_
                exact g_sub (ih_55 _ (by omega) y2_107 z_107 Iw7 Jw7 rfl (by omega) hVw7) ⟨rfl, rfl, rfl, rfl, trivial⟩
              refine gt_if_eq 104 C dRM_go_92 (by decide) rfl (fun c_92 => ?_) (fun c_92 => ?_)
              · skip
                first | refine n_iinc C dRM_go_104 rfl rfl (by decide) (by decide) (by omega) (fun z_104 e_104 => ?_) | refine a_iinc C dRM_go_104 rfl (by decide) (fun z_104 => ?_)
                exact g_sub (jn_107 z_104 Iw6 Jw6  hVw6) ⟨rfl, rfl, rfl, rfl, rfl, trivial⟩
              · skip
                refine g_aload_n C dRM_go_95 rfl ?_
                refine g_iload C dRM_go_96 rfl ?_
                refine s_callV_v (av := fun ad => [.int (Iw4 b_31 6)]) C dRM_go_98 mfRM_noteStood mvRM_noteStood ln_RM_161 h0 (by decide) rfl hVw6 fr_NN (cRM_noteStood hVw6.1 h0) rfl rfl (Nat.le_of_ble_eq_true rfl) ⟨Nat.le_of_ble_eq_true rfl, Nat.le_of_ble_eq_true rfl⟩ ⟨rfl, rfl⟩ ⟨Nat.zero_le _, Nat.zero_le _⟩ (fun Iw8 Jw8 hVw8 hFw8 p_98 => ?_)
                refine g_goto 107 C dRM_go_101 (by decide) ?_
                exact g_sub (jn_107 x2_55 Iw8 Jw8  hVw8) ⟨rfl, rfl, rfl, rfl, rfl, trivial⟩
          exact g_sub (lp_55 _ (Int32.ofInt (0)) (Int32.ofInt (0)) I0 J0 rfl (by have hci : Int32.toInt (Int32.ofInt (0)) = 0 := ofI (by decide); omega) hV0) ⟨rfl, rfl, rfl, rfl, trivial⟩
        · skip
          refine g_aload_n C dRM_go_45 rfl ?_
          refine g_iconst (v := Int32.ofInt (3)) C dRM_go_46 (by decide) ?_
          refine s_callV_i (av := fun ad => [.int (Int32.ofInt (3))]) C dRM_go_47 mfRM_refuse mvRM_refuse ln_RM_96 h0 (by decide) rfl hV0 fr_NN (cRM_refuse hV0.1 h0) rfl rfl (Nat.le_of_ble_eq_true rfl) ⟨Nat.le_of_ble_eq_true rfl, Nat.le_of_ble_eq_true rfl⟩ ⟨rfl, rfl⟩ ⟨Nat.zero_le _, Nat.zero_le _⟩ (fun Iw9 Jw9 hVw9 hFw9 z_47 p_47 => ?_)
          have rz_47 := rg z_47
          exact s_iret C E dRM_go_50 ⟨Nat.zero_le _, Nat.zero_le _⟩ hVw9 trivial
      · skip
        exact g_sub (jn_24  I0 J0  hV0) ⟨rfl, rfl, trivial⟩
  · skip
    refine g_aload_n C dRM_go_7 rfl ?_
    refine g_iconst (v := Int32.ofInt (1)) C dRM_go_8 (by decide) ?_
    refine s_callV_i (av := fun ad => [.int (Int32.ofInt (1))]) C dRM_go_9 mfRM_refuse mvRM_refuse ln_RM_96 h0 (by decide) rfl hV0 fr_NN (cRM_refuse hV0.1 h0) rfl rfl (Nat.le_of_ble_eq_true rfl) ⟨Nat.le_of_ble_eq_true rfl, Nat.le_of_ble_eq_true rfl⟩ ⟨rfl, rfl⟩ ⟨Nat.zero_le _, Nat.zero_le _⟩ (fun Iw10 Jw10 hVw10 hFw10 z_9 p_9 => ?_)
    have rz_9 := rg z_9
    exact s_iret C E dRM_go_12 ⟨Nat.zero_le _, Nat.zero_le _⟩ hVw10 trivial
set_option maxHeartbeats 4000000 in
set_option maxRecDepth 100000 in
theorem cRM_tons {P : List Nat} {K : Nat → Nat} {I0 : Nat → Nat → Int32} {O : Nat → Nat → Option Nat} {J0 : Nat → Nat → Int64} (hV : IV P K I0 O) {a0 : Nat} (h0 : a0 ∈ P ∧ K a0 = 8) {x1 : Int32} {x2 : Int32} : Con yRM_tons bRM_tons 3 (some .int) ({ frames := 1, cells := 0, slots := 0, locals := 21 } : Room) P K I0 O J0 [.ref a0, .int x1, .int x2] (SPo frP 1 (tt) P K I0 O J0) := by
  refine Con.ofG mfRM_tons (Nat.le_of_ble_eq_true rfl) ?_
  intro X C E
  have r1 := rg x1
  have r2 := rg x2
  have hV0 : SV frP P K O I0 J0 I0 J0 := SV.rf hV
  refine g_aload_n C dRM_tons_0 rfl ?_
  refine g_iload_n C dRM_tons_1 rfl ?_
  refine s_callV_zp (av := fun ad => [.int x1]) C dRM_tons_2 mfRM_isSize mvRM_isSize ln_RM_164 h0 (by decide) rfl (cRM_isSize hV0.1 h0) rfl rfl (Nat.le_of_ble_eq_true rfl) ⟨Nat.le_of_ble_eq_true rfl, Nat.le_of_ble_eq_true rfl⟩ ⟨rfl, rfl⟩ ⟨Nat.zero_le _, Nat.zero_le _⟩ (fun z_2 b_2 p_2 => ?_)
  have rz_2 := rg z_2
  have u_2 := b_2
  unfold B01 at u_2
  try dsimp only at p_2
  refine gt_if_ne 10 C dRM_tons_5 (by decide) rfl (fun c_5 => ?_) (fun c_5 => ?_)
  · skip
    refine g_iload_n C dRM_tons_10 rfl ?_
    by_cases q_11 : x2.toInt < 0 ∨ 3 < x2.toInt
    · refine g_tOut 89 C dRM_tons_11 q_11 (by decide) ?_
      refine g_iconst (v := Int32.ofInt (-1)) C dRM_tons_89 (by decide) ?_
      exact s_iret C E dRM_tons_90 ⟨Nat.zero_le _, Nat.zero_le _⟩ hV0 trivial
    rcases (show x2.toInt = 0 ∨ x2.toInt = 1 ∨ x2.toInt = 2 ∨ x2.toInt = 3 by omega) with q_11 | q_11 | q_11 | q_11
    · refine g_tIn 40 C dRM_tons_11 (by omega) (by omega) (by rw [q_11]; rfl) (by decide) ?_
      refine g_aload_n C dRM_tons_40 rfl ?_
      refine gt_getr C dRM_tons_41 fl_RM_29 h0 hV0.1.1 rfl (fun b_41 q_41 hb_41 => ?_)
      refine gt_getr C dRM_tons_44 fl_RM_167 hb_41 hV0.1.1 rfl (fun b_44 q_44 hb_44 => ?_)
      refine gt_getr C dRM_tons_47 fl_RM_170 hb_44 hV0.1.1 rfl (fun b_47 q_47 hb_47 => ?_)
      refine g_iload_n C dRM_tons_50 rfl ?_
      refine gt_iald C dRM_tons_51 hb_47 (by decide) rfl rfl (n := 5) rfl (by omega) ?_
      exact s_iret C E dRM_tons_52 ⟨Nat.zero_le _, Nat.zero_le _⟩ hV0 trivial
    · refine g_tIn 53 C dRM_tons_11 (by omega) (by omega) (by rw [q_11]; rfl) (by decide) ?_
      refine g_aload_n C dRM_tons_53 rfl ?_
      refine gt_getr C dRM_tons_54 fl_RM_29 h0 hV0.1.1 rfl (fun b_54 q_54 hb_54 => ?_)
      refine gt_getr C dRM_tons_57 fl_RM_167 hb_54 hV0.1.1 rfl (fun b_57 q_57 hb_57 => ?_)
      refine gt_getr C dRM_tons_60 fl_RM_173 hb_57 hV0.1.1 rfl (fun b_60 q_60 hb_60 => ?_)
      refine g_iload_n C dRM_tons_63 rfl ?_
      refine gt_iald C dRM_tons_64 hb_60 (by decide) rfl rfl (n := 5) rfl (by omega) ?_
      exact s_iret C E dRM_tons_65 ⟨Nat.zero_le _, Nat.zero_le _⟩ hV0 trivial
    · refine g_tIn 66 C dRM_tons_11 (by omega) (by omega) (by rw [q_11]; rfl) (by decide) ?_
      refine g_aload_n C dRM_tons_66 rfl ?_
      refine gt_getr C dRM_tons_67 fl_RM_29 h0 hV0.1.1 rfl (fun b_67 q_67 hb_67 => ?_)
      refine gt_getr C dRM_tons_70 fl_RM_167 hb_67 hV0.1.1 rfl (fun b_70 q_70 hb_70 => ?_)
      refine gt_getr C dRM_tons_73 fl_RM_176 hb_70 hV0.1.1 rfl (fun b_73 q_73 hb_73 => ?_)
      refine g_iload_n C dRM_tons_76 rfl ?_
      refine gt_iald C dRM_tons_77 hb_73 (by decide) rfl rfl (n := 5) rfl (by omega) ?_
      exact s_iret C E dRM_tons_78 ⟨Nat.zero_le _, Nat.zero_le _⟩ hV0 trivial
    · refine g_tIn 79 C dRM_tons_11 (by omega) (by omega) (by rw [q_11]; rfl) (by decide) ?_
      refine g_aload_n C dRM_tons_79 rfl ?_
      refine gt_getr C dRM_tons_80 fl_RM_29 h0 hV0.1.1 rfl (fun b_80 q_80 hb_80 => ?_)
      refine gt_getr C dRM_tons_83 fl_RM_179 hb_80 hV0.1.1 rfl (fun b_83 q_83 hb_83 => ?_)
      refine g_iload_n C dRM_tons_86 rfl ?_
      refine gt_iald C dRM_tons_87 hb_83 (by decide) rfl rfl (n := 5) rfl (by omega) ?_
      exact s_iret C E dRM_tons_88 ⟨Nat.zero_le _, Nat.zero_le _⟩ hV0 trivial
  · skip
    refine g_iconst (v := Int32.ofInt (-1)) C dRM_tons_8 (by decide) ?_
    exact s_iret C E dRM_tons_9 ⟨Nat.zero_le _, Nat.zero_le _⟩ hV0 trivial
set_option maxHeartbeats 4000000 in
set_option maxRecDepth 100000 in
theorem cRM_state {P : List Nat} {K : Nat → Nat} {I0 : Nat → Nat → Int32} {O : Nat → Nat → Option Nat} {J0 : Nat → Nat → Int64} (hV : IV P K I0 O) {a0 : Nat} (h0 : a0 ∈ P ∧ K a0 = 8) {x1 : Int32} : Con yRM_state bRM_state 2 (some .int) ({ frames := 0, cells := 0, slots := 0, locals := 0 } : Room) P K I0 O J0 [.ref a0, .int x1] (SPo frP 1 (tt) P K I0 O J0) := by
  refine Con.ofG mfRM_state (Nat.le_of_ble_eq_true rfl) ?_
  intro X C E
  have r1 := rg x1
  have hV0 : SV frP P K O I0 J0 I0 J0 := SV.rf hV
  refine g_iload_n C dRM_state_0 rfl ?_
  by_cases q_1 : x1.toInt < 0 ∨ 16 < x1.toInt
  · refine g_tOut 225 C dRM_state_1 q_1 (by decide) ?_
    refine g_iconst (v := Int32.ofInt (-1)) C dRM_state_225 (by decide) ?_
    exact s_iret C E dRM_state_226 ⟨Nat.zero_le _, Nat.zero_le _⟩ hV0 trivial
  rcases (show x1.toInt = 0 ∨ x1.toInt = 1 ∨ x1.toInt = 2 ∨ x1.toInt = 3 ∨ x1.toInt = 4 ∨ x1.toInt = 5 ∨ x1.toInt = 6 ∨ x1.toInt = 7 ∨ x1.toInt = 8 ∨ x1.toInt = 9 ∨ x1.toInt = 10 ∨ x1.toInt = 11 ∨ x1.toInt = 12 ∨ x1.toInt = 13 ∨ x1.toInt = 14 ∨ x1.toInt = 15 ∨ x1.toInt = 16 by omega) with q_1 | q_1 | q_1 | q_1 | q_1 | q_1 | q_1 | q_1 | q_1 | q_1 | q_1 | q_1 | q_1 | q_1 | q_1 | q_1 | q_1
  · refine g_tIn 84 C dRM_state_1 (by omega) (by omega) (by rw [q_1]; rfl) (by decide) ?_
    refine g_aload_n C dRM_state_84 rfl ?_
    refine gt_getr C dRM_state_85 fl_RM_29 h0 hV0.1.1 rfl (fun b_85 q_85 hb_85 => ?_)
    refine g_geti C dRM_state_88 fl_RM_182 hb_85 ?_
    exact s_iret C E dRM_state_91 ⟨Nat.zero_le _, Nat.zero_le _⟩ hV0 trivial
  · refine g_tIn 92 C dRM_state_1 (by omega) (by omega) (by rw [q_1]; rfl) (by decide) ?_
    refine g_aload_n C dRM_state_92 rfl ?_
    refine gt_getr C dRM_state_93 fl_RM_29 h0 hV0.1.1 rfl (fun b_93 q_93 hb_93 => ?_)
    refine g_geti C dRM_state_96 fl_RM_185 hb_93 ?_
    exact s_iret C E dRM_state_99 ⟨Nat.zero_le _, Nat.zero_le _⟩ hV0 trivial
  · refine g_tIn 100 C dRM_state_1 (by omega) (by omega) (by rw [q_1]; rfl) (by decide) ?_
    refine g_aload_n C dRM_state_100 rfl ?_
    refine gt_getr C dRM_state_101 fl_RM_29 h0 hV0.1.1 rfl (fun b_101 q_101 hb_101 => ?_)
    refine g_geti C dRM_state_104 fl_RM_188 hb_101 ?_
    exact s_iret C E dRM_state_107 ⟨Nat.zero_le _, Nat.zero_le _⟩ hV0 trivial
  · refine g_tIn 108 C dRM_state_1 (by omega) (by omega) (by rw [q_1]; rfl) (by decide) ?_
    refine g_aload_n C dRM_state_108 rfl ?_
    refine gt_getr C dRM_state_109 fl_RM_29 h0 hV0.1.1 rfl (fun b_109 q_109 hb_109 => ?_)
    refine g_geti C dRM_state_112 fl_RM_191 hb_109 ?_
    exact s_iret C E dRM_state_115 ⟨Nat.zero_le _, Nat.zero_le _⟩ hV0 trivial
  · refine g_tIn 116 C dRM_state_1 (by omega) (by omega) (by rw [q_1]; rfl) (by decide) ?_
    refine g_aload_n C dRM_state_116 rfl ?_
    refine gt_getr C dRM_state_117 fl_RM_29 h0 hV0.1.1 rfl (fun b_117 q_117 hb_117 => ?_)
    refine g_geti C dRM_state_120 fl_RM_147 hb_117 ?_
    exact s_iret C E dRM_state_123 ⟨Nat.zero_le _, Nat.zero_le _⟩ hV0 trivial
  · refine g_tIn 124 C dRM_state_1 (by omega) (by omega) (by rw [q_1]; rfl) (by decide) ?_
    refine g_aload_n C dRM_state_124 rfl ?_
    refine gt_getr C dRM_state_125 fl_RM_29 h0 hV0.1.1 rfl (fun b_125 q_125 hb_125 => ?_)
    refine g_geti C dRM_state_128 fl_RM_144 hb_125 ?_
    exact s_iret C E dRM_state_131 ⟨Nat.zero_le _, Nat.zero_le _⟩ hV0 trivial
  · refine g_tIn 132 C dRM_state_1 (by omega) (by omega) (by rw [q_1]; rfl) (by decide) ?_
    refine g_aload_n C dRM_state_132 rfl ?_
    refine gt_getr C dRM_state_133 fl_RM_29 h0 hV0.1.1 rfl (fun b_133 q_133 hb_133 => ?_)
    refine g_geti C dRM_state_136 fl_RM_157 hb_133 ?_
    refine gt_if_eq 146 C dRM_state_139 (by decide) rfl (fun c_139 => ?_) (fun c_139 => ?_)
    · skip
      refine g_iconst (v := Int32.ofInt (0)) C dRM_state_146 (by decide) ?_
      exact s_iret C E dRM_state_147 ⟨Nat.zero_le _, Nat.zero_le _⟩ hV0 trivial
    · skip
      refine g_iconst (v := Int32.ofInt (1)) C dRM_state_142 (by decide) ?_
      refine g_goto 147 C dRM_state_143 (by decide) ?_
      exact s_iret C E dRM_state_147 ⟨Nat.zero_le _, Nat.zero_le _⟩ hV0 trivial
  · refine g_tIn 148 C dRM_state_1 (by omega) (by omega) (by rw [q_1]; rfl) (by decide) ?_
    refine g_aload_n C dRM_state_148 rfl ?_
    refine gt_getr C dRM_state_149 fl_RM_29 h0 hV0.1.1 rfl (fun b_149 q_149 hb_149 => ?_)
    refine g_geti C dRM_state_152 fl_RM_150 hb_149 ?_
    exact s_iret C E dRM_state_155 ⟨Nat.zero_le _, Nat.zero_le _⟩ hV0 trivial
  · refine g_tIn 156 C dRM_state_1 (by omega) (by omega) (by rw [q_1]; rfl) (by decide) ?_
    refine g_aload_n C dRM_state_156 rfl ?_
    refine gt_getr C dRM_state_157 fl_RM_29 h0 hV0.1.1 rfl (fun b_157 q_157 hb_157 => ?_)
    refine g_geti C dRM_state_160 fl_RM_194 hb_157 ?_
    exact s_iret C E dRM_state_163 ⟨Nat.zero_le _, Nat.zero_le _⟩ hV0 trivial
  · refine g_tIn 164 C dRM_state_1 (by omega) (by omega) (by rw [q_1]; rfl) (by decide) ?_
    refine g_aload_n C dRM_state_164 rfl ?_
    refine gt_getr C dRM_state_165 fl_RM_29 h0 hV0.1.1 rfl (fun b_165 q_165 hb_165 => ?_)
    refine g_geti C dRM_state_168 fl_RM_197 hb_165 ?_
    exact s_iret C E dRM_state_171 ⟨Nat.zero_le _, Nat.zero_le _⟩ hV0 trivial
  · refine g_tIn 172 C dRM_state_1 (by omega) (by omega) (by rw [q_1]; rfl) (by decide) ?_
    refine g_aload_n C dRM_state_172 rfl ?_
    refine gt_getr C dRM_state_173 fl_RM_29 h0 hV0.1.1 rfl (fun b_173 q_173 hb_173 => ?_)
    refine g_geti C dRM_state_176 fl_RM_200 hb_173 ?_
    exact s_iret C E dRM_state_179 ⟨Nat.zero_le _, Nat.zero_le _⟩ hV0 trivial
  · refine g_tIn 180 C dRM_state_1 (by omega) (by omega) (by rw [q_1]; rfl) (by decide) ?_
    refine g_aload_n C dRM_state_180 rfl ?_
    refine gt_getr C dRM_state_181 fl_RM_29 h0 hV0.1.1 rfl (fun b_181 q_181 hb_181 => ?_)
    refine g_geti C dRM_state_184 fl_RM_203 hb_181 ?_
    exact s_iret C E dRM_state_187 ⟨Nat.zero_le _, Nat.zero_le _⟩ hV0 trivial
  · refine g_tIn 188 C dRM_state_1 (by omega) (by omega) (by rw [q_1]; rfl) (by decide) ?_
    refine g_aload_n C dRM_state_188 rfl ?_
    refine gt_getr C dRM_state_189 fl_RM_29 h0 hV0.1.1 rfl (fun b_189 q_189 hb_189 => ?_)
    refine g_geti C dRM_state_192 fl_RM_206 hb_189 ?_
    exact s_iret C E dRM_state_195 ⟨Nat.zero_le _, Nat.zero_le _⟩ hV0 trivial
  · refine g_tIn 196 C dRM_state_1 (by omega) (by omega) (by rw [q_1]; rfl) (by decide) ?_
    refine g_aload_n C dRM_state_196 rfl ?_
    refine gt_getr C dRM_state_197 fl_RM_29 h0 hV0.1.1 rfl (fun b_197 q_197 hb_197 => ?_)
    refine g_geti C dRM_state_200 fl_RM_209 hb_197 ?_
    exact s_iret C E dRM_state_203 ⟨Nat.zero_le _, Nat.zero_le _⟩ hV0 trivial
  · refine g_tIn 204 C dRM_state_1 (by omega) (by omega) (by rw [q_1]; rfl) (by decide) ?_
    refine g_aload_n C dRM_state_204 rfl ?_
    refine gt_getr C dRM_state_205 fl_RM_33 h0 hV0.1.1 rfl (fun b_205 q_205 hb_205 => ?_)
    refine g_iconst (v := Int32.ofInt (0)) C dRM_state_208 (by decide) ?_
    refine gt_ialdc (c := 0) C dRM_state_209 hb_205 (by decide) rfl (ofI (by decide)) (n := 3) rfl (by decide) (by decide) ?_
    exact s_iret C E dRM_state_210 ⟨Nat.zero_le _, Nat.zero_le _⟩ hV0 trivial
  · refine g_tIn 211 C dRM_state_1 (by omega) (by omega) (by rw [q_1]; rfl) (by decide) ?_
    refine g_aload_n C dRM_state_211 rfl ?_
    refine gt_getr C dRM_state_212 fl_RM_33 h0 hV0.1.1 rfl (fun b_212 q_212 hb_212 => ?_)
    refine g_iconst (v := Int32.ofInt (1)) C dRM_state_215 (by decide) ?_
    refine gt_ialdc (c := 1) C dRM_state_216 hb_212 (by decide) rfl (ofI (by decide)) (n := 3) rfl (by decide) (by decide) ?_
    exact s_iret C E dRM_state_217 ⟨Nat.zero_le _, Nat.zero_le _⟩ hV0 trivial
  · refine g_tIn 218 C dRM_state_1 (by omega) (by omega) (by rw [q_1]; rfl) (by decide) ?_
    refine g_aload_n C dRM_state_218 rfl ?_
    refine gt_getr C dRM_state_219 fl_RM_33 h0 hV0.1.1 rfl (fun b_219 q_219 hb_219 => ?_)
    refine g_iconst (v := Int32.ofInt (2)) C dRM_state_222 (by decide) ?_
    refine gt_ialdc (c := 2) C dRM_state_223 hb_219 (by decide) rfl (ofI (by decide)) (n := 3) rfl (by decide) (by decide) ?_
    exact s_iret C E dRM_state_224 ⟨Nat.zero_le _, Nat.zero_le _⟩ hV0 trivial
set_option maxHeartbeats 4000000 in
set_option maxRecDepth 100000 in
theorem cRM_program {P : List Nat} {K : Nat → Nat} {I0 : Nat → Nat → Int32} {O : Nat → Nat → Option Nat} {J0 : Nat → Nat → Int64} (hV : IV P K I0 O) {a0 : Nat} (h0 : a0 ∈ P ∧ K a0 = 8) {x1 : Int32} {x2 : Int32} {x3 : Int32} {x4 : Int32} : Con yRM_program bRM_program 5 (some .boolean) ({ frames := 1, cells := 0, slots := 0, locals := 21 } : Room) P K I0 O J0 [.ref a0, .int x1, .int x2, .int x3, .int x4] (SPo frN 2 (tt) P K I0 O J0) := by
  refine Con.ofG mfRM_program (Nat.le_of_ble_eq_true rfl) ?_
  intro X C E
  have r1 := rg x1
  have r2 := rg x2
  have r3 := rg x3
  have r4 := rg x4
  have hV0 : SV frN P K O I0 J0 I0 J0 := SV.rf hV
  refine g_iload_n C dRM_program_0 rfl ?_
  refine s_callS_zp (av := fun ad => [.int x1]) C dRM_program_1 mfRM_isHour msRM_isHour ln_RM_212 (cRM_isHour hV0.1 ) rfl rfl (Nat.le_of_ble_eq_true rfl) ⟨Nat.le_of_ble_eq_true rfl, Nat.le_of_ble_eq_true rfl⟩ ⟨rfl, rfl⟩ ⟨Nat.zero_le _, Nat.zero_le _⟩ (fun z_1 b_1 p_1 => ?_)
  have rz_1 := rg z_1
  have u_1 := b_1
  unfold B01 at u_1
  try dsimp only at p_1
  have jn_16 : ∀   (Iw2 : Nat → Nat → Int32) (Jw2 : Nat → Nat → Int64),  SV frN P K O I0 J0 Iw2 Jw2 → GG X 5 P K Iw2 O Jw2 0 0 16 [(0, .ref a0), (1, .int x1), (2, .int x2), (3, .int x3), (4, .int x4)] [] := by
    intro Iw2 Jw2 hVw2
    refine g_aload_n C dRM_program_16 rfl ?_
    refine g_iconst (v := Int32.ofInt (1)) C dRM_program_17 (by decide) ?_
    refine s_callV_z (av := fun ad => [.int (Int32.ofInt (1))]) C dRM_program_18 mfRM_deny mvRM_deny ln_RM_128 h0 (by decide) rfl hVw2 fr_NN (cRM_deny hVw2.1 h0) rfl rfl (Nat.le_of_ble_eq_true rfl) ⟨Nat.le_of_ble_eq_true rfl, Nat.le_of_ble_eq_true rfl⟩ ⟨rfl, rfl⟩ ⟨Nat.zero_le _, Nat.zero_le _⟩ (fun Iw3 Jw3 hVw3 hFw3 z_18 b_18 p_18 => ?_)
    have rz_18 := rg z_18
    have u_18 := b_18
    unfold B01 at u_18
    exact s_zret C E dRM_program_21 ⟨Nat.zero_le _, Nat.zero_le _⟩ hVw3 (by first | assumption | (unfold B01; omega)) trivial
  refine gt_if_eq 16 C dRM_program_4 (by decide) rfl (fun c_4 => ?_) (fun c_4 => ?_)
  · skip
    exact g_sub (jn_16  I0 J0  hV0) ⟨rfl, rfl, rfl, rfl, rfl, trivial⟩
  · skip
    refine g_aload_n C dRM_program_7 rfl ?_
    refine g_iload C dRM_program_8 rfl ?_
    refine s_callV_zp (av := fun ad => [.int x4]) C dRM_program_10 mfRM_isOre mvRM_isOre ln_RM_125 h0 (by decide) rfl (cRM_isOre hV0.1 h0) rfl rfl (Nat.le_of_ble_eq_true rfl) ⟨Nat.le_of_ble_eq_true rfl, Nat.le_of_ble_eq_true rfl⟩ ⟨rfl, rfl⟩ ⟨Nat.zero_le _, Nat.zero_le _⟩ (fun z_10 b_10 p_10 => ?_)
    have rz_10 := rg z_10
    have u_10 := b_10
    unfold B01 at u_10
    refine gt_if_ne 22 C dRM_program_13 (by decide) rfl (fun c_13 => ?_) (fun c_13 => ?_)
    · skip
      refine g_iload_n C dRM_program_22 rfl ?_
      refine s_callS_zp (av := fun ad => [.int x2]) C dRM_program_23 mfRM_isRate msRM_isRate ln_RM_131 (cRM_isRate hV0.1 ) rfl rfl (Nat.le_of_ble_eq_true rfl) ⟨Nat.le_of_ble_eq_true rfl, Nat.le_of_ble_eq_true rfl⟩ ⟨rfl, rfl⟩ ⟨Nat.zero_le _, Nat.zero_le _⟩ (fun z_23 b_23 p_23 => ?_)
      have rz_23 := rg z_23
      have u_23 := b_23
      unfold B01 at u_23
      have jn_36 : ∀   (Iw6 : Nat → Nat → Int32) (Jw6 : Nat → Nat → Int64),  SV frN P K O I0 J0 Iw6 Jw6 → GG X 5 P K Iw6 O Jw6 0 0 36 [(0, .ref a0), (1, .int x1), (2, .int x2), (3, .int x3), (4, .int x4)] [] := by
        intro Iw6 Jw6 hVw6
        refine g_aload_n C dRM_program_36 rfl ?_
        refine g_iconst (v := Int32.ofInt (2)) C dRM_program_37 (by decide) ?_
        refine s_callV_z (av := fun ad => [.int (Int32.ofInt (2))]) C dRM_program_38 mfRM_deny mvRM_deny ln_RM_128 h0 (by decide) rfl hVw6 fr_NN (cRM_deny hVw6.1 h0) rfl rfl (Nat.le_of_ble_eq_true rfl) ⟨Nat.le_of_ble_eq_true rfl, Nat.le_of_ble_eq_true rfl⟩ ⟨rfl, rfl⟩ ⟨Nat.zero_le _, Nat.zero_le _⟩ (fun Iw7 Jw7 hVw7 hFw7 z_38 b_38 p_38 => ?_)
        have rz_38 := rg z_38
        have u_38 := b_38
        unfold B01 at u_38
        exact s_zret C E dRM_program_41 ⟨Nat.zero_le _, Nat.zero_le _⟩ hVw7 (by first | assumption | (unfold B01; omega)) trivial
      refine gt_if_eq 36 C dRM_program_26 (by decide) rfl (fun c_26 => ?_) (fun c_26 => ?_)
      · skip
        exact g_sub (jn_36  I0 J0  hV0) ⟨rfl, rfl, rfl, rfl, rfl, trivial⟩
      · skip
        refine g_iload_n C dRM_program_29 rfl ?_
        refine s_callS_zp (av := fun ad => [.int x3]) C dRM_program_30 mfRM_isWater msRM_isWater ln_RM_134 (cRM_isWater hV0.1 ) rfl rfl (Nat.le_of_ble_eq_true rfl) ⟨Nat.le_of_ble_eq_true rfl, Nat.le_of_ble_eq_true rfl⟩ ⟨rfl, rfl⟩ ⟨Nat.zero_le _, Nat.zero_le _⟩ (fun z_30 b_30 p_30 => ?_)
        have rz_30 := rg z_30
        have u_30 := b_30
        unfold B01 at u_30
        refine gt_if_ne 42 C dRM_program_33 (by decide) rfl (fun c_33 => ?_) (fun c_33 => ?_)
        · skip
          refine g_aload_n C dRM_program_42 rfl ?_
          refine gt_getr C dRM_program_43 fl_RM_37 h0 hV0.1.1 rfl (fun b_43 q_43 hb_43 => ?_)
          refine g_iload_n C dRM_program_46 rfl ?_
          refine g_iconst (v := Int32.ofInt (3)) C dRM_program_47 (by decide) ?_
          first | refine n_imul C dRM_program_48 rfl (ofI (by decide)) (by omega) (fun z_48 e_48 => ?_) | refine a_imul C dRM_program_48 (fun z_48 => ?_)
          refine g_iconst (v := Int32.ofInt (0)) C dRM_program_49 (by decide) ?_
          first | refine n_iadd C dRM_program_50 rfl (ofI (by decide)) (by omega) (fun z_50 e_50 => ?_) | refine a_iadd C dRM_program_50 (fun z_50 => ?_)
          refine g_iload_n C dRM_program_51 rfl ?_
          refine gt_iast C dRM_program_52 hb_43 (by decide) rfl rfl (n := 36) rfl (by omega) hV0 rfl trivial (fun Iw9 eIw9 hVw9 => ?_)
          refine g_aload_n C dRM_program_53 rfl ?_
          refine gt_getS C dRM_program_54 fl_RM_37 h0 q_43 ?_
          refine g_iload_n C dRM_program_57 rfl ?_
          refine g_iconst (v := Int32.ofInt (3)) C dRM_program_58 (by decide) ?_
          first | refine n_imul C dRM_program_59 rfl (ofI (by decide)) (by omega) (fun z_59 e_59 => ?_) | refine a_imul C dRM_program_59 (fun z_59 => ?_)
          refine g_iconst (v := Int32.ofInt (1)) C dRM_program_60 (by decide) ?_
          first | refine n_iadd C dRM_program_61 rfl (ofI (by decide)) (by omega) (fun z_61 e_61 => ?_) | refine a_iadd C dRM_program_61 (fun z_61 => ?_)
          refine g_iload_n C dRM_program_62 rfl ?_
          refine gt_iast C dRM_program_63 hb_43 (by decide) rfl rfl (n := 36) rfl (by omega) hVw9 rfl trivial (fun Iw10 eIw10 hVw10 => ?_)
          refine g_aload_n C dRM_program_64 rfl ?_
          refine gt_getS C dRM_program_65 fl_RM_37 h0 q_43 ?_
          refine g_iload_n C dRM_program_68 rfl ?_
          refine g_iconst (v := Int32.ofInt (3)) C dRM_program_69 (by decide) ?_
          first | refine n_imul C dRM_program_70 rfl (ofI (by decide)) (by omega) (fun z_70 e_70 => ?_) | refine a_imul C dRM_program_70 (fun z_70 => ?_)
          refine g_iconst (v := Int32.ofInt (2)) C dRM_program_71 (by decide) ?_
          first | refine n_iadd C dRM_program_72 rfl (ofI (by decide)) (by omega) (fun z_72 e_72 => ?_) | refine a_iadd C dRM_program_72 (fun z_72 => ?_)
          refine g_iload C dRM_program_73 rfl ?_
          refine gt_iast C dRM_program_75 hb_43 (by decide) rfl rfl (n := 36) rfl (by omega) hVw10 rfl trivial (fun Iw11 eIw11 hVw11 => ?_)
          refine g_aload_n C dRM_program_76 rfl ?_
          refine gt_getr C dRM_program_77 fl_RM_43 h0 hVw11.1.1 rfl (fun b_77 q_77 hb_77 => ?_)
          refine s_callV_v (av := fun ad => []) C dRM_program_80 mfGu_makeStale mvGu_makeStale ln_RM_215 hb_77 (by decide) rfl hVw11 fr_NN (cGu_makeStale hVw11.1 hb_77) rfl rfl (Nat.le_of_ble_eq_true rfl) ⟨Nat.le_of_ble_eq_true rfl, Nat.le_of_ble_eq_true rfl⟩ ⟨rfl, rfl⟩ ⟨Nat.zero_le _, Nat.zero_le _⟩ (fun Iw12 Jw12 hVw12 hFw12 p_80 => ?_)
          refine g_aload_n C dRM_program_83 rfl ?_
          refine gt_getr C dRM_program_84 fl_RM_50 h0 hVw12.1.1 rfl (fun b_84 q_84 hb_84 => ?_)
          refine g_iconst (v := Int32.ofInt (0)) C dRM_program_87 (by decide) ?_
          refine gt_puti C dRM_program_88 fl_RM_218 hb_84 hVw12 rfl (Or.inl (ofI (by decide))) rfl (Or.inr ⟨rfl, (Or.inl (ofI (by decide)))⟩) (fun Iw13 eIw13 hVw13 => ?_)
          refine g_aload_n C dRM_program_91 rfl ?_
          refine s_callV_z (av := fun ad => []) C dRM_program_92 mfRM_allow mvRM_allow ln_RM_137 h0 (by decide) rfl hVw13 fr_NN (cRM_allow hVw13.1 h0) rfl rfl (Nat.le_of_ble_eq_true rfl) ⟨Nat.le_of_ble_eq_true rfl, Nat.le_of_ble_eq_true rfl⟩ ⟨rfl, rfl⟩ ⟨Nat.zero_le _, Nat.zero_le _⟩ (fun Iw14 Jw14 hVw14 hFw14 z_92 b_92 p_92 => ?_)
          have rz_92 := rg z_92
          have u_92 := b_92
          unfold B01 at u_92
          exact s_zret C E dRM_program_95 ⟨Nat.zero_le _, Nat.zero_le _⟩ hVw14 (by first | assumption | (unfold B01; omega)) trivial
        · skip
          exact g_sub (jn_36  I0 J0  hV0) ⟨rfl, rfl, rfl, rfl, rfl, trivial⟩
    · skip
      exact g_sub (jn_16  I0 J0  hV0) ⟨rfl, rfl, rfl, rfl, rfl, trivial⟩
set_option maxHeartbeats 4000000 in
set_option maxRecDepth 100000 in
theorem cRM_seen {P : List Nat} {K : Nat → Nat} {I0 : Nat → Nat → Int32} {O : Nat → Nat → Option Nat} {J0 : Nat → Nat → Int64} (hV : IV P K I0 O) {a0 : Nat} (h0 : a0 ∈ P ∧ K a0 = 8) {x1 : Int32} {x2 : Int32} {x3 : Int32} {x4 : Int32} : Con yRM_seen bRM_seen 5 (some .int) ({ frames := 1, cells := 0, slots := 0, locals := 24 } : Room) P K I0 O J0 [.ref a0, .int x1, .int x2, .int x3, .int x4] (SPo frN 1 (tt) P K I0 O J0) := by
  refine Con.ofG mfRM_seen (Nat.le_of_ble_eq_true rfl) ?_
  intro X C E
  have r1 := rg x1
  have r2 := rg x2
  have r3 := rg x3
  have r4 := rg x4
  have hV0 : SV frN P K O I0 J0 I0 J0 := SV.rf hV
  refine g_iload_n C dRM_seen_0 rfl ?_
  refine s_callS_zp (av := fun ad => [.int x1]) C dRM_seen_1 mfRM_isHour msRM_isHour ln_RM_212 (cRM_isHour hV0.1 ) rfl rfl (Nat.le_of_ble_eq_true rfl) ⟨Nat.le_of_ble_eq_true rfl, Nat.le_of_ble_eq_true rfl⟩ ⟨rfl, rfl⟩ ⟨Nat.zero_le _, Nat.zero_le _⟩ (fun z_1 b_1 p_1 => ?_)
  have rz_1 := rg z_1
  have u_1 := b_1
  unfold B01 at u_1
  try dsimp only at p_1
  have jn_15 : ∀   (Iw2 : Nat → Nat → Int32) (Jw2 : Nat → Nat → Int64),  SV frN P K O I0 J0 Iw2 Jw2 → GG X 5 P K Iw2 O Jw2 0 0 15 [(0, .ref a0), (1, .int x1), (2, .int x2), (3, .int x3), (4, .int x4)] [] := by
    intro Iw2 Jw2 hVw2
    refine g_aload_n C dRM_seen_15 rfl ?_
    refine g_iconst (v := Int32.ofInt (1)) C dRM_seen_16 (by decide) ?_
    refine s_callV_i (av := fun ad => [.int (Int32.ofInt (1))]) C dRM_seen_17 mfRM_refuse mvRM_refuse ln_RM_96 h0 (by decide) rfl hVw2 fr_NN (cRM_refuse hVw2.1 h0) rfl rfl (Nat.le_of_ble_eq_true rfl) ⟨Nat.le_of_ble_eq_true rfl, Nat.le_of_ble_eq_true rfl⟩ ⟨rfl, rfl⟩ ⟨Nat.zero_le _, Nat.zero_le _⟩ (fun Iw3 Jw3 hVw3 hFw3 z_17 p_17 => ?_)
    have rz_17 := rg z_17
    exact s_iret C E dRM_seen_20 ⟨Nat.zero_le _, Nat.zero_le _⟩ hVw3 trivial
  refine gt_if_eq 15 C dRM_seen_4 (by decide) rfl (fun c_4 => ?_) (fun c_4 => ?_)
  · skip
    exact g_sub (jn_15  I0 J0  hV0) ⟨rfl, rfl, rfl, rfl, rfl, trivial⟩
  · skip
    refine g_aload_n C dRM_seen_7 rfl ?_
    refine g_iload_n C dRM_seen_8 rfl ?_
    refine s_callV_zp (av := fun ad => [.int x2]) C dRM_seen_9 mfRM_isHeard mvRM_isHeard ln_RM_221 h0 (by decide) rfl (cRM_isHeard hV0.1 h0) rfl rfl (Nat.le_of_ble_eq_true rfl) ⟨Nat.le_of_ble_eq_true rfl, Nat.le_of_ble_eq_true rfl⟩ ⟨rfl, rfl⟩ ⟨Nat.zero_le _, Nat.zero_le _⟩ (fun z_9 b_9 p_9 => ?_)
    have rz_9 := rg z_9
    have u_9 := b_9
    unfold B01 at u_9
    refine gt_if_ne 21 C dRM_seen_12 (by decide) rfl (fun c_12 => ?_) (fun c_12 => ?_)
    · skip
      refine g_iload_n C dRM_seen_21 rfl ?_
      have jn_44 : ∀   (Iw5 : Nat → Nat → Int32) (Jw5 : Nat → Nat → Int64),  SV frN P K O I0 J0 Iw5 Jw5 → GG X 5 P K Iw5 O Jw5 0 0 44 [(0, .ref a0), (1, .int x1), (2, .int x2), (3, .int x3), (4, .int x4)] [] := by
        intro Iw5 Jw5 hVw5
        refine g_aload_n C dRM_seen_44 rfl ?_
        refine g_iconst (v := Int32.ofInt (2)) C dRM_seen_45 (by decide) ?_
        refine s_callV_i (av := fun ad => [.int (Int32.ofInt (2))]) C dRM_seen_46 mfRM_refuse mvRM_refuse ln_RM_96 h0 (by decide) rfl hVw5 fr_NN (cRM_refuse hVw5.1 h0) rfl rfl (Nat.le_of_ble_eq_true rfl) ⟨Nat.le_of_ble_eq_true rfl, Nat.le_of_ble_eq_true rfl⟩ ⟨rfl, rfl⟩ ⟨Nat.zero_le _, Nat.zero_le _⟩ (fun Iw6 Jw6 hVw6 hFw6 z_46 p_46 => ?_)
        have rz_46 := rg z_46
        exact s_iret C E dRM_seen_49 ⟨Nat.zero_le _, Nat.zero_le _⟩ hVw6 trivial
      refine gt_if_lt 44 C dRM_seen_22 (by decide) rfl (fun c_22 => ?_) (fun c_22 => ?_)
      · skip
        exact g_sub (jn_44  I0 J0  hV0) ⟨rfl, rfl, rfl, rfl, rfl, trivial⟩
      · skip
        refine g_iload_n C dRM_seen_25 rfl ?_
        refine g_ldc (v := Int32.ofInt (999999)) C dRM_seen_26 k_RM_224 ?_
        refine gt_icmp_gt 44 C dRM_seen_28 (by decide) rfl (ofI (by decide)) (fun c_28 => ?_) (fun c_28 => ?_)
        · skip
          exact g_sub (jn_44  I0 J0  hV0) ⟨rfl, rfl, rfl, rfl, rfl, trivial⟩
        · skip
          refine g_iload C dRM_seen_31 rfl ?_
          refine gt_if_lt 44 C dRM_seen_33 (by decide) rfl (fun c_33 => ?_) (fun c_33 => ?_)
          · skip
            exact g_sub (jn_44  I0 J0  hV0) ⟨rfl, rfl, rfl, rfl, rfl, trivial⟩
          · skip
            refine g_iload C dRM_seen_36 rfl ?_
            refine g_sipush (v := Int32.ofInt (999)) C dRM_seen_38 (by decide) ?_
            refine gt_icmp_le 50 C dRM_seen_41 (by decide) rfl (ofI (by decide)) (fun c_41 => ?_) (fun c_41 => ?_)
            · skip
              refine g_aload_n C dRM_seen_50 rfl ?_
              refine gt_getr C dRM_seen_51 fl_RM_50 h0 hV0.1.1 rfl (fun b_51 q_51 hb_51 => ?_)
              refine s_callV_zp (av := fun ad => []) C dRM_seen_54 mfSi_isFilled mvSi_isFilled ln_RM_225 hb_51 (by decide) rfl (cSi_isFilled hV0.1 hb_51) rfl rfl (Nat.le_of_ble_eq_true rfl) ⟨Nat.le_of_ble_eq_true rfl, Nat.le_of_ble_eq_true rfl⟩ ⟨rfl, rfl⟩ ⟨Nat.zero_le _, Nat.zero_le _⟩ (fun z_54 b_54 p_54 => ?_)
              have rz_54 := rg z_54
              have u_54 := b_54
              unfold B01 at u_54
              refine gt_if_eq 66 C dRM_seen_57 (by decide) rfl (fun c_57 => ?_) (fun c_57 => ?_)
              · skip
                refine g_aload_n C dRM_seen_66 rfl ?_
                refine g_aload_n C dRM_seen_67 rfl ?_
                refine gt_getS C dRM_seen_68 fl_RM_50 h0 q_51 ?_
                refine g_iload_n C dRM_seen_71 rfl ?_
                refine g_iload_n C dRM_seen_72 rfl ?_
                refine g_iload_n C dRM_seen_73 rfl ?_
                refine g_iload C dRM_seen_74 rfl ?_
                refine s_callV_i (av := fun ad => [.int x1, .int x2, .int x3, .int x4]) C dRM_seen_76 mfSi_note mvSi_note ln_RM_228 hb_51 (by decide) rfl hV0 fr_NN (cSi_note hV0.1 hb_51) rfl rfl (Nat.le_of_ble_eq_true rfl) ⟨Nat.le_of_ble_eq_true rfl, Nat.le_of_ble_eq_true rfl⟩ ⟨rfl, rfl⟩ ⟨Nat.zero_le _, Nat.zero_le _⟩ (fun Iw8 Jw8 hVw8 hFw8 z_76 p_76 => ?_)
                have rz_76 := rg z_76
                refine s_callV_i (av := fun ad => [.int z_76]) C dRM_seen_79 mfRM_accept mvRM_accept ln_RM_122 h0 (by decide) rfl hVw8 fr_NN (cRM_accept hVw8.1 h0) rfl rfl (Nat.le_of_ble_eq_true rfl) ⟨Nat.le_of_ble_eq_true rfl, Nat.le_of_ble_eq_true rfl⟩ ⟨rfl, rfl⟩ ⟨Nat.zero_le _, Nat.zero_le _⟩ (fun Iw9 Jw9 hVw9 hFw9 z_79 p_79 => ?_)
                have rz_79 := rg z_79
                exact s_iret C E dRM_seen_82 ⟨Nat.zero_le _, Nat.zero_le _⟩ hVw9 trivial
              · skip
                refine g_aload_n C dRM_seen_60 rfl ?_
                refine g_iconst (v := Int32.ofInt (3)) C dRM_seen_61 (by decide) ?_
                refine s_callV_i (av := fun ad => [.int (Int32.ofInt (3))]) C dRM_seen_62 mfRM_refuse mvRM_refuse ln_RM_96 h0 (by decide) rfl hV0 fr_NN (cRM_refuse hV0.1 h0) rfl rfl (Nat.le_of_ble_eq_true rfl) ⟨Nat.le_of_ble_eq_true rfl, Nat.le_of_ble_eq_true rfl⟩ ⟨rfl, rfl⟩ ⟨Nat.zero_le _, Nat.zero_le _⟩ (fun Iw10 Jw10 hVw10 hFw10 z_62 p_62 => ?_)
                have rz_62 := rg z_62
                exact s_iret C E dRM_seen_65 ⟨Nat.zero_le _, Nat.zero_le _⟩ hVw10 trivial
            · skip
              exact g_sub (jn_44  I0 J0  hV0) ⟨rfl, rfl, rfl, rfl, rfl, trivial⟩
    · skip
      exact g_sub (jn_15  I0 J0  hV0) ⟨rfl, rfl, rfl, rfl, rfl, trivial⟩
set_option maxHeartbeats 4000000 in
set_option maxRecDepth 100000 in
theorem cRM_forget {P : List Nat} {K : Nat → Nat} {I0 : Nat → Nat → Int32} {O : Nat → Nat → Option Nat} {J0 : Nat → Nat → Int64} (hV : IV P K I0 O) {a0 : Nat} (h0 : a0 ∈ P ∧ K a0 = 8) : Con yRM_forget bRM_forget 1 (some .int) ({ frames := 1, cells := 0, slots := 0, locals := 21 } : Room) P K I0 O J0 [.ref a0] (SPo frN 1 (tt) P K I0 O J0) := by
  refine Con.ofG mfRM_forget (Nat.le_of_ble_eq_true rfl) ?_
  intro X C E
  have hV0 : SV frN P K O I0 J0 I0 J0 := SV.rf hV
  refine g_aload_n C dRM_forget_0 rfl ?_
  refine gt_getr C dRM_forget_1 fl_RM_50 h0 hV0.1.1 rfl (fun b_1 q_1 hb_1 => ?_)
  refine s_callV_i (av := fun ad => []) C dRM_forget_4 mfSi_drop mvSi_drop ln_RM_232 hb_1 (by decide) rfl hV0 fr_NN (cSi_drop hV0.1 hb_1) rfl rfl (Nat.le_of_ble_eq_true rfl) ⟨Nat.le_of_ble_eq_true rfl, Nat.le_of_ble_eq_true rfl⟩ ⟨rfl, rfl⟩ ⟨Nat.zero_le _, Nat.zero_le _⟩ (fun Iw1 Jw1 hVw1 hFw1 z_4 p_4 => ?_)
  have rz_4 := rg z_4
  exact s_iret C E dRM_forget_7 ⟨Nat.zero_le _, Nat.zero_le _⟩ hVw1 trivial
set_option maxHeartbeats 4000000 in
set_option maxRecDepth 100000 in
theorem cRM_fits {P : List Nat} {K : Nat → Nat} {I0 : Nat → Nat → Int32} {O : Nat → Nat → Option Nat} {J0 : Nat → Nat → Int64} (hV : IV P K I0 O) {a0 : Nat} (h0 : a0 ∈ P ∧ K a0 = 8) : Con yRM_fits bRM_fits 1 (some .int) ({ frames := 7, cells := 0, slots := 0, locals := 156 } : Room) P K I0 O J0 [.ref a0] (SPo frN 1 (tt) P K I0 O J0) := by
  refine Con.ofG mfRM_fits (Nat.le_of_ble_eq_true rfl) ?_
  intro X C E
  have hV0 : SV frN P K O I0 J0 I0 J0 := SV.rf hV
  refine g_aload_n C dRM_fits_0 rfl ?_
  refine s_callV_zp (av := fun ad => []) C dRM_fits_1 mfRM_noMill mvRM_noMill ln_RM_141 h0 (by decide) rfl (cRM_noMill hV0.1 h0) rfl rfl (Nat.le_of_ble_eq_true rfl) ⟨Nat.le_of_ble_eq_true rfl, Nat.le_of_ble_eq_true rfl⟩ ⟨rfl, rfl⟩ ⟨Nat.zero_le _, Nat.zero_le _⟩ (fun z_1 b_1 p_1 => ?_)
  have rz_1 := rg z_1
  have u_1 := b_1
  unfold B01 at u_1
  refine gt_if_eq 13 C dRM_fits_4 (by decide) rfl (fun c_4 => ?_) (fun c_4 => ?_)
  · skip
    refine g_aload_n C dRM_fits_13 rfl ?_
    refine g_aload_n C dRM_fits_14 rfl ?_
    refine s_callV_i (av := fun ad => []) C dRM_fits_15 mfRM_findFits mvRM_findFits ln_RM_236 h0 (by decide) rfl hV0 fr_NN (cRM_findFits hV0.1 h0) rfl rfl (Nat.le_of_ble_eq_true rfl) ⟨Nat.le_of_ble_eq_true rfl, Nat.le_of_ble_eq_true rfl⟩ ⟨rfl, rfl⟩ ⟨Nat.zero_le _, Nat.zero_le _⟩ (fun Iw2 Jw2 hVw2 hFw2 z_15 p_15 => ?_)
    have rz_15 := rg z_15
    refine s_callV_i (av := fun ad => [.int z_15]) C dRM_fits_18 mfRM_accept mvRM_accept ln_RM_122 h0 (by decide) rfl hVw2 fr_NN (cRM_accept hVw2.1 h0) rfl rfl (Nat.le_of_ble_eq_true rfl) ⟨Nat.le_of_ble_eq_true rfl, Nat.le_of_ble_eq_true rfl⟩ ⟨rfl, rfl⟩ ⟨Nat.zero_le _, Nat.zero_le _⟩ (fun Iw3 Jw3 hVw3 hFw3 z_18 p_18 => ?_)
    have rz_18 := rg z_18
    exact s_iret C E dRM_fits_21 ⟨Nat.zero_le _, Nat.zero_le _⟩ hVw3 trivial
  · skip
    refine g_aload_n C dRM_fits_7 rfl ?_
    refine g_iconst (v := Int32.ofInt (1)) C dRM_fits_8 (by decide) ?_
    refine s_callV_i (av := fun ad => [.int (Int32.ofInt (1))]) C dRM_fits_9 mfRM_refuse mvRM_refuse ln_RM_96 h0 (by decide) rfl hV0 fr_NN (cRM_refuse hV0.1 h0) rfl rfl (Nat.le_of_ble_eq_true rfl) ⟨Nat.le_of_ble_eq_true rfl, Nat.le_of_ble_eq_true rfl⟩ ⟨rfl, rfl⟩ ⟨Nat.zero_le _, Nat.zero_le _⟩ (fun Iw4 Jw4 hVw4 hFw4 z_9 p_9 => ?_)
    have rz_9 := rg z_9
    exact s_iret C E dRM_fits_12 ⟨Nat.zero_le _, Nat.zero_le _⟩ hVw4 trivial
set_option maxHeartbeats 4000000 in
set_option maxRecDepth 100000 in
theorem cRM_fitAt {P : List Nat} {K : Nat → Nat} {I0 : Nat → Nat → Int32} {O : Nat → Nat → Option Nat} {J0 : Nat → Nat → Int64} (hV : IV P K I0 O) {a0 : Nat} (h0 : a0 ∈ P ∧ K a0 = 8) {x1 : Int32} {x2 : Int32} : Con yRM_fitAt bRM_fitAt 3 (some .int) ({ frames := 7, cells := 0, slots := 0, locals := 156 } : Room) P K I0 O J0 [.ref a0, .int x1, .int x2] (SPo frN 1 (tt) P K I0 O J0) := by
  refine Con.ofG mfRM_fitAt (Nat.le_of_ble_eq_true rfl) ?_
  intro X C E
  have r1 := rg x1
  have r2 := rg x2
  have hV0 : SV frN P K O I0 J0 I0 J0 := SV.rf hV
  refine g_aload_n C dRM_fitAt_0 rfl ?_
  refine s_callV_zp (av := fun ad => []) C dRM_fitAt_1 mfRM_noMill mvRM_noMill ln_RM_141 h0 (by decide) rfl (cRM_noMill hV0.1 h0) rfl rfl (Nat.le_of_ble_eq_true rfl) ⟨Nat.le_of_ble_eq_true rfl, Nat.le_of_ble_eq_true rfl⟩ ⟨rfl, rfl⟩ ⟨Nat.zero_le _, Nat.zero_le _⟩ (fun z_1 b_1 p_1 => ?_)
  have rz_1 := rg z_1
  have u_1 := b_1
  unfold B01 at u_1
  have jn_28 : ∀   (Iw2 : Nat → Nat → Int32) (Jw2 : Nat → Nat → Int64),  SV frN P K O I0 J0 Iw2 Jw2 → GG X 3 P K Iw2 O Jw2 0 0 28 [(0, .ref a0), (1, .int x1), (2, .int x2)] [] := by
    intro Iw2 Jw2 hVw2
    refine g_aload_n C dRM_fitAt_28 rfl ?_
    refine g_iconst (v := Int32.ofInt (1)) C dRM_fitAt_29 (by decide) ?_
    refine s_callV_i (av := fun ad => [.int (Int32.ofInt (1))]) C dRM_fitAt_30 mfRM_refuse mvRM_refuse ln_RM_96 h0 (by decide) rfl hVw2 fr_NN (cRM_refuse hVw2.1 h0) rfl rfl (Nat.le_of_ble_eq_true rfl) ⟨Nat.le_of_ble_eq_true rfl, Nat.le_of_ble_eq_true rfl⟩ ⟨rfl, rfl⟩ ⟨Nat.zero_le _, Nat.zero_le _⟩ (fun Iw3 Jw3 hVw3 hFw3 z_30 p_30 => ?_)
    have rz_30 := rg z_30
    exact s_iret C E dRM_fitAt_33 ⟨Nat.zero_le _, Nat.zero_le _⟩ hVw3 trivial
  refine gt_if_ne 28 C dRM_fitAt_4 (by decide) rfl (fun c_4 => ?_) (fun c_4 => ?_)
  · skip
    exact g_sub (jn_28  I0 J0  hV0) ⟨rfl, rfl, rfl, trivial⟩
  · skip
    refine g_iload_n C dRM_fitAt_7 rfl ?_
    refine gt_if_lt 28 C dRM_fitAt_8 (by decide) rfl (fun c_8 => ?_) (fun c_8 => ?_)
    · skip
      exact g_sub (jn_28  I0 J0  hV0) ⟨rfl, rfl, rfl, trivial⟩
    · skip
      refine g_iload_n C dRM_fitAt_11 rfl ?_
      refine g_iconst (v := Int32.ofInt (2)) C dRM_fitAt_12 (by decide) ?_
      refine gt_icmp_gt 28 C dRM_fitAt_13 (by decide) rfl (ofI (by decide)) (fun c_13 => ?_) (fun c_13 => ?_)
      · skip
        exact g_sub (jn_28  I0 J0  hV0) ⟨rfl, rfl, rfl, trivial⟩
      · skip
        refine g_iload_n C dRM_fitAt_16 rfl ?_
        refine gt_if_lt 28 C dRM_fitAt_17 (by decide) rfl (fun c_17 => ?_) (fun c_17 => ?_)
        · skip
          exact g_sub (jn_28  I0 J0  hV0) ⟨rfl, rfl, rfl, trivial⟩
        · skip
          refine g_iload_n C dRM_fitAt_20 rfl ?_
          refine g_aload_n C dRM_fitAt_21 rfl ?_
          refine s_callV_i (av := fun ad => []) C dRM_fitAt_22 mfRM_findFits mvRM_findFits ln_RM_236 h0 (by decide) rfl hV0 fr_NN (cRM_findFits hV0.1 h0) rfl rfl (Nat.le_of_ble_eq_true rfl) ⟨Nat.le_of_ble_eq_true rfl, Nat.le_of_ble_eq_true rfl⟩ ⟨rfl, rfl⟩ ⟨Nat.zero_le _, Nat.zero_le _⟩ (fun Iw4 Jw4 hVw4 hFw4 z_22 p_22 => ?_)
          have rz_22 := rg z_22
          refine gt_icmp_lt 34 C dRM_fitAt_25 (by decide) rfl rfl (fun c_25 => ?_) (fun c_25 => ?_)
          · skip
            refine g_aload_n C dRM_fitAt_34 rfl ?_
            refine g_aload_n C dRM_fitAt_35 rfl ?_
            refine gt_getr C dRM_fitAt_36 fl_RM_50 h0 hVw4.1.1 rfl (fun b_36 q_36 hb_36 => ?_)
            refine g_iload_n C dRM_fitAt_39 rfl ?_
            refine s_callV_ip (av := fun ad => [.int x1]) C dRM_fitAt_40 mfSi_fitOf mvSi_fitOf ln_RM_239 hb_36 (by decide) rfl (cSi_fitOf hVw4.1 hb_36) rfl rfl (Nat.le_of_ble_eq_true rfl) ⟨Nat.le_of_ble_eq_true rfl, Nat.le_of_ble_eq_true rfl⟩ ⟨rfl, rfl⟩ ⟨Nat.zero_le _, Nat.zero_le _⟩ (fun z_40 p_40 => ?_)
            have rz_40 := rg z_40
            refine g_iload_n C dRM_fitAt_43 rfl ?_
            refine s_callS_ip (av := fun ad => [.int z_40, .int x2]) C dRM_fitAt_44 mfRM_partOfStart msRM_partOfStart ln_RM_242 (cRM_partOfStart hVw4.1 ) rfl rfl (Nat.le_of_ble_eq_true rfl) ⟨Nat.le_of_ble_eq_true rfl, Nat.le_of_ble_eq_true rfl⟩ ⟨rfl, rfl⟩ ⟨Nat.zero_le _, Nat.zero_le _⟩ (fun z_44 p_44 => ?_)
            have rz_44 := rg z_44
            refine s_callV_i (av := fun ad => [.int z_44]) C dRM_fitAt_47 mfRM_accept mvRM_accept ln_RM_122 h0 (by decide) rfl hVw4 fr_NN (cRM_accept hVw4.1 h0) rfl rfl (Nat.le_of_ble_eq_true rfl) ⟨Nat.le_of_ble_eq_true rfl, Nat.le_of_ble_eq_true rfl⟩ ⟨rfl, rfl⟩ ⟨Nat.zero_le _, Nat.zero_le _⟩ (fun Iw7 Jw7 hVw7 hFw7 z_47 p_47 => ?_)
            have rz_47 := rg z_47
            exact s_iret C E dRM_fitAt_50 ⟨Nat.zero_le _, Nat.zero_le _⟩ hVw7 trivial
          · skip
            exact g_sub (jn_28  Iw4 Jw4  hVw4) ⟨rfl, rfl, rfl, trivial⟩
set_option maxHeartbeats 4000000 in
set_option maxRecDepth 100000 in
theorem cRM_certain {P : List Nat} {K : Nat → Nat} {I0 : Nat → Nat → Int32} {O : Nat → Nat → Option Nat} {J0 : Nat → Nat → Int64} (hV : IV P K I0 O) {a0 : Nat} (h0 : a0 ∈ P ∧ K a0 = 8) {x1 : Int32} : Con yRM_certain bRM_certain 5 (some .int) ({ frames := 7, cells := 0, slots := 0, locals := 156 } : Room) P K I0 O J0 [.ref a0, .int x1] (SPo frN 1 (tt) P K I0 O J0) := by
  refine Con.ofG mfRM_certain (Nat.le_of_ble_eq_true rfl) ?_
  intro X C E
  have r1 := rg x1
  have hV0 : SV frN P K O I0 J0 I0 J0 := SV.rf hV
  refine g_aload_n C dRM_certain_0 rfl ?_
  refine s_callV_zp (av := fun ad => []) C dRM_certain_1 mfRM_noMill mvRM_noMill ln_RM_141 h0 (by decide) rfl (cRM_noMill hV0.1 h0) rfl rfl (Nat.le_of_ble_eq_true rfl) ⟨Nat.le_of_ble_eq_true rfl, Nat.le_of_ble_eq_true rfl⟩ ⟨rfl, rfl⟩ ⟨Nat.zero_le _, Nat.zero_le _⟩ (fun z_1 b_1 p_1 => ?_)
  have rz_1 := rg z_1
  have u_1 := b_1
  unfold B01 at u_1
  have jn_16 : ∀   (Iw2 : Nat → Nat → Int32) (Jw2 : Nat → Nat → Int64),  SV frN P K O I0 J0 Iw2 Jw2 → GG X 5 P K Iw2 O Jw2 0 0 16 [(0, .ref a0), (1, .int x1)] [] := by
    intro Iw2 Jw2 hVw2
    refine g_aload_n C dRM_certain_16 rfl ?_
    refine g_iconst (v := Int32.ofInt (1)) C dRM_certain_17 (by decide) ?_
    refine s_callV_i (av := fun ad => [.int (Int32.ofInt (1))]) C dRM_certain_18 mfRM_refuse mvRM_refuse ln_RM_96 h0 (by decide) rfl hVw2 fr_NN (cRM_refuse hVw2.1 h0) rfl rfl (Nat.le_of_ble_eq_true rfl) ⟨Nat.le_of_ble_eq_true rfl, Nat.le_of_ble_eq_true rfl⟩ ⟨rfl, rfl⟩ ⟨Nat.zero_le _, Nat.zero_le _⟩ (fun Iw3 Jw3 hVw3 hFw3 z_18 p_18 => ?_)
    have rz_18 := rg z_18
    exact s_iret C E dRM_certain_21 ⟨Nat.zero_le _, Nat.zero_le _⟩ hVw3 trivial
  refine gt_if_ne 16 C dRM_certain_4 (by decide) rfl (fun c_4 => ?_) (fun c_4 => ?_)
  · skip
    exact g_sub (jn_16  I0 J0  hV0) ⟨rfl, rfl, trivial⟩
  · skip
    refine g_iload_n C dRM_certain_7 rfl ?_
    refine gt_if_lt 16 C dRM_certain_8 (by decide) rfl (fun c_8 => ?_) (fun c_8 => ?_)
    · skip
      exact g_sub (jn_16  I0 J0  hV0) ⟨rfl, rfl, trivial⟩
    · skip
      refine g_iload_n C dRM_certain_11 rfl ?_
      refine g_iconst (v := Int32.ofInt (2)) C dRM_certain_12 (by decide) ?_
      refine gt_icmp_le 22 C dRM_certain_13 (by decide) rfl (ofI (by decide)) (fun c_13 => ?_) (fun c_13 => ?_)
      · skip
        refine g_aload_n C dRM_certain_22 rfl ?_
        refine s_callV_i (av := fun ad => []) C dRM_certain_23 mfRM_findFits mvRM_findFits ln_RM_236 h0 (by decide) rfl hV0 fr_NN (cRM_findFits hV0.1 h0) rfl rfl (Nat.le_of_ble_eq_true rfl) ⟨Nat.le_of_ble_eq_true rfl, Nat.le_of_ble_eq_true rfl⟩ ⟨rfl, rfl⟩ ⟨Nat.zero_le _, Nat.zero_le _⟩ (fun Iw4 Jw4 hVw4 hFw4 z_23 p_23 => ?_)
        have rz_23 := rg z_23
        refine g_istore_n (i := 2) C dRM_certain_26 rfl (by decide) ?_
        refine g_iload_n C dRM_certain_27 rfl ?_
        refine gt_if_ne 38 C dRM_certain_28 (by decide) rfl (fun c_28 => ?_) (fun c_28 => ?_)
        · skip
          refine g_aload_n C dRM_certain_38 rfl ?_
          refine gt_getr C dRM_certain_39 fl_RM_50 h0 hVw4.1.1 rfl (fun b_39 q_39 hb_39 => ?_)
          refine g_iconst (v := Int32.ofInt (0)) C dRM_certain_42 (by decide) ?_
          refine s_callV_ip (av := fun ad => [.int (Int32.ofInt (0))]) C dRM_certain_43 mfSi_fitOf mvSi_fitOf ln_RM_239 hb_39 (by decide) rfl (cSi_fitOf hVw4.1 hb_39) rfl rfl (Nat.le_of_ble_eq_true rfl) ⟨Nat.le_of_ble_eq_true rfl, Nat.le_of_ble_eq_true rfl⟩ ⟨rfl, rfl⟩ ⟨Nat.zero_le _, Nat.zero_le _⟩ (fun z_43 p_43 => ?_)
          have rz_43 := rg z_43
          refine g_iload_n C dRM_certain_46 rfl ?_
          refine s_callS_ip (av := fun ad => [.int z_43, .int x1]) C dRM_certain_47 mfRM_partOfStart msRM_partOfStart ln_RM_242 (cRM_partOfStart hVw4.1 ) rfl rfl (Nat.le_of_ble_eq_true rfl) ⟨Nat.le_of_ble_eq_true rfl, Nat.le_of_ble_eq_true rfl⟩ ⟨rfl, rfl⟩ ⟨Nat.zero_le _, Nat.zero_le _⟩ (fun z_47 p_47 => ?_)
          have rz_47 := rg z_47
          refine g_istore_n (i := 3) C dRM_certain_50 rfl (by decide) ?_
          refine g_iconst (v := Int32.ofInt (1)) C dRM_certain_51 (by decide) ?_
          refine g_istore C dRM_certain_52 (by decide) ?_
          have lp_54 : ∀ (nn_54 : Nat) (x4_54 : Int32) (Iw7 : Nat → Nat → Int32) (Jw7 : Nat → Nat → Int64), Int.toNat (z_23.toInt - x4_54.toInt) = nn_54 → (1 ≤ Int32.toInt x4_54) → SV frN P K O I0 J0 Iw7 Jw7 → GG X 5 P K Iw7 O Jw7 0 0 54 [(0, .ref a0), (1, .int x1), (2, .int z_23), (3, .int z_47), (4, .int x4_54)] [] := by
            intro nn_54
            induction nn_54 using Nat.strongRecOn with
            | ind nn_54 ih_54 =>
            intro x4_54 Iw7 Jw7 hn_54 iv0_54 hVw7
            have rg4_54 := rg x4_54
            refine g_iload C dRM_certain_54 rfl ?_
            refine g_iload_n C dRM_certain_56 rfl ?_
            refine gt_icmp_ge 90 C dRM_certain_57 (by decide) rfl rfl (fun c_57 => ?_) (fun c_57 => ?_)
            · skip
              refine g_aload_n C dRM_certain_90 rfl ?_
              refine g_iload_n C dRM_certain_91 rfl ?_
              refine s_callV_i (av := fun ad => [.int z_47]) C dRM_certain_92 mfRM_accept mvRM_accept ln_RM_122 h0 (by decide) rfl hVw7 fr_NN (cRM_accept hVw7.1 h0) rfl rfl (Nat.le_of_ble_eq_true rfl) ⟨Nat.le_of_ble_eq_true rfl, Nat.le_of_ble_eq_true rfl⟩ ⟨rfl, rfl⟩ ⟨Nat.zero_le _, Nat.zero_le _⟩ (fun Iw8 Jw8 hVw8 hFw8 z_92 p_92 => ?_)
              have rz_92 := rg z_92
              exact s_iret C E dRM_certain_95 ⟨Nat.zero_le _, Nat.zero_le _⟩ hVw8 trivial
            · skip
              refine g_aload_n C dRM_certain_60 rfl ?_
              refine gt_getS C dRM_certain_61 fl_RM_50 h0 q_39 ?_
              refine g_iload C dRM_certain_64 rfl ?_
              refine s_callV_ip (av := fun ad => [.int x4_54]) C dRM_certain_66 mfSi_fitOf mvSi_fitOf ln_RM_239 hb_39 (by decide) rfl (cSi_fitOf hVw7.1 hb_39) rfl rfl (Nat.le_of_ble_eq_true rfl) ⟨Nat.le_of_ble_eq_true rfl, Nat.le_of_ble_eq_true rfl⟩ ⟨rfl, rfl⟩ ⟨Nat.zero_le _, Nat.zero_le _⟩ (fun z_66 p_66 => ?_)
              have rz_66 := rg z_66
              refine g_iload_n C dRM_certain_69 rfl ?_
              refine s_callS_ip (av := fun ad => [.int z_66, .int x1]) C dRM_certain_70 mfRM_partOfStart msRM_partOfStart ln_RM_242 (cRM_partOfStart hVw7.1 ) rfl rfl (Nat.le_of_ble_eq_true rfl) ⟨Nat.le_of_ble_eq_true rfl, Nat.le_of_ble_eq_true rfl⟩ ⟨rfl, rfl⟩ ⟨Nat.zero_le _, Nat.zero_le _⟩ (fun z_70 p_70 => ?_)
              have rz_70 := rg z_70
              refine g_iload_n C dRM_certain_73 rfl ?_
              refine gt_icmp_eq 84 C dRM_certain_74 (by decide) rfl rfl (fun c_74 => ?_) (fun c_74 => ?_)
              · skip
                first | refine n_iinc C dRM_certain_84 rfl rfl (by decide) (by decide) (by omega) (fun z_84 e_84 => ?_) | refine a_iinc C dRM_certain_84 rfl (by decide) (fun z_84 => ?_)
                refine g_goto 54 C dRM_certain_87 (by decide) ?_
                exact g_sub (ih_54 _ (by omega) z_84 Iw7 Jw7 rfl (by omega) hVw7) ⟨rfl, rfl, rfl, rfl, rfl, trivial⟩
              · skip
                refine g_aload_n C dRM_certain_77 rfl ?_
                refine g_bipush (v := Int32.ofInt (-2)) C dRM_certain_78 (by decide) ?_
                refine s_callV_i (av := fun ad => [.int (Int32.ofInt (-2))]) C dRM_certain_80 mfRM_accept mvRM_accept ln_RM_122 h0 (by decide) rfl hVw7 fr_NN (cRM_accept hVw7.1 h0) rfl rfl (Nat.le_of_ble_eq_true rfl) ⟨Nat.le_of_ble_eq_true rfl, Nat.le_of_ble_eq_true rfl⟩ ⟨rfl, rfl⟩ ⟨Nat.zero_le _, Nat.zero_le _⟩ (fun Iw11 Jw11 hVw11 hFw11 z_80 p_80 => ?_)
                have rz_80 := rg z_80
                exact s_iret C E dRM_certain_83 ⟨Nat.zero_le _, Nat.zero_le _⟩ hVw11 trivial
          exact g_sub (lp_54 _ (Int32.ofInt (1)) Iw4 Jw4 rfl (by have hci : Int32.toInt (Int32.ofInt (1)) = 1 := ofI (by decide); omega) hVw4) ⟨rfl, rfl, rfl, rfl, rfl, trivial⟩
        · skip
          refine g_aload_n C dRM_certain_31 rfl ?_
          refine g_bipush (v := Int32.ofInt (6)) C dRM_certain_32 (by decide) ?_
          refine s_callV_i (av := fun ad => [.int (Int32.ofInt (6))]) C dRM_certain_34 mfRM_refuse mvRM_refuse ln_RM_96 h0 (by decide) rfl hVw4 fr_NN (cRM_refuse hVw4.1 h0) rfl rfl (Nat.le_of_ble_eq_true rfl) ⟨Nat.le_of_ble_eq_true rfl, Nat.le_of_ble_eq_true rfl⟩ ⟨rfl, rfl⟩ ⟨Nat.zero_le _, Nat.zero_le _⟩ (fun Iw12 Jw12 hVw12 hFw12 z_34 p_34 => ?_)
          have rz_34 := rg z_34
          exact s_iret C E dRM_certain_37 ⟨Nat.zero_le _, Nat.zero_le _⟩ hVw12 trivial
      · skip
        exact g_sub (jn_16  I0 J0  hV0) ⟨rfl, rfl, trivial⟩
set_option maxHeartbeats 4000000 in
set_option maxRecDepth 100000 in
theorem cRM_guess {P : List Nat} {K : Nat → Nat} {I0 : Nat → Nat → Int32} {O : Nat → Nat → Option Nat} {J0 : Nat → Nat → Int64} (hV : IV P K I0 O) {a0 : Nat} (h0 : a0 ∈ P ∧ K a0 = 8) {x1 : Int32} {x2 : Int32} {x3 : Int32} {x4 : Int32} {x5 : Int32} : Con yRM_guess bRM_guess 7 (some .int) ({ frames := 5, cells := 0, slots := 0, locals := 113 } : Room) P K I0 O J0 [.ref a0, .int x1, .int x2, .int x3, .int x4, .int x5] (SPo frN 1 (tt) P K I0 O J0) := by
  refine Con.ofG mfRM_guess (Nat.le_of_ble_eq_true rfl) ?_
  intro X C E
  have r1 := rg x1
  have r2 := rg x2
  have r3 := rg x3
  have r4 := rg x4
  have r5 := rg x5
  have hV0 : SV frN P K O I0 J0 I0 J0 := SV.rf hV
  refine g_aload_n C dRM_guess_0 rfl ?_
  refine s_callV_zp (av := fun ad => []) C dRM_guess_1 mfRM_noMill mvRM_noMill ln_RM_141 h0 (by decide) rfl (cRM_noMill hV0.1 h0) rfl rfl (Nat.le_of_ble_eq_true rfl) ⟨Nat.le_of_ble_eq_true rfl, Nat.le_of_ble_eq_true rfl⟩ ⟨rfl, rfl⟩ ⟨Nat.zero_le _, Nat.zero_le _⟩ (fun z_1 b_1 p_1 => ?_)
  have rz_1 := rg z_1
  have u_1 := b_1
  unfold B01 at u_1
  have jn_24 : ∀   (Iw2 : Nat → Nat → Int32) (Jw2 : Nat → Nat → Int64),  SV frN P K O I0 J0 Iw2 Jw2 → GG X 7 P K Iw2 O Jw2 0 0 24 [(0, .ref a0), (1, .int x1), (2, .int x2), (3, .int x3), (4, .int x4), (5, .int x5)] [] := by
    intro Iw2 Jw2 hVw2
    refine g_aload_n C dRM_guess_24 rfl ?_
    refine g_iconst (v := Int32.ofInt (1)) C dRM_guess_25 (by decide) ?_
    refine s_callV_i (av := fun ad => [.int (Int32.ofInt (1))]) C dRM_guess_26 mfRM_refuse mvRM_refuse ln_RM_96 h0 (by decide) rfl hVw2 fr_NN (cRM_refuse hVw2.1 h0) rfl rfl (Nat.le_of_ble_eq_true rfl) ⟨Nat.le_of_ble_eq_true rfl, Nat.le_of_ble_eq_true rfl⟩ ⟨rfl, rfl⟩ ⟨Nat.zero_le _, Nat.zero_le _⟩ (fun Iw3 Jw3 hVw3 hFw3 z_26 p_26 => ?_)
    have rz_26 := rg z_26
    exact s_iret C E dRM_guess_29 ⟨Nat.zero_le _, Nat.zero_le _⟩ hVw3 trivial
  refine gt_if_ne 24 C dRM_guess_4 (by decide) rfl (fun c_4 => ?_) (fun c_4 => ?_)
  · skip
    exact g_sub (jn_24  I0 J0  hV0) ⟨rfl, rfl, rfl, rfl, rfl, rfl, trivial⟩
  · skip
    refine g_iload C dRM_guess_7 rfl ?_
    refine s_callS_zp (av := fun ad => [.int x4]) C dRM_guess_9 mfRM_isHour msRM_isHour ln_RM_212 (cRM_isHour hV0.1 ) rfl rfl (Nat.le_of_ble_eq_true rfl) ⟨Nat.le_of_ble_eq_true rfl, Nat.le_of_ble_eq_true rfl⟩ ⟨rfl, rfl⟩ ⟨Nat.zero_le _, Nat.zero_le _⟩ (fun z_9 b_9 p_9 => ?_)
    have rz_9 := rg z_9
    have u_9 := b_9
    unfold B01 at u_9
    try dsimp only at p_9
    refine gt_if_eq 24 C dRM_guess_12 (by decide) rfl (fun c_12 => ?_) (fun c_12 => ?_)
    · skip
      exact g_sub (jn_24  I0 J0  hV0) ⟨rfl, rfl, rfl, rfl, rfl, rfl, trivial⟩
    · skip
      refine g_aload_n C dRM_guess_15 rfl ?_
      refine g_iload C dRM_guess_16 rfl ?_
      refine s_callV_zp (av := fun ad => [.int x5]) C dRM_guess_18 mfRM_isHeard mvRM_isHeard ln_RM_221 h0 (by decide) rfl (cRM_isHeard hV0.1 h0) rfl rfl (Nat.le_of_ble_eq_true rfl) ⟨Nat.le_of_ble_eq_true rfl, Nat.le_of_ble_eq_true rfl⟩ ⟨rfl, rfl⟩ ⟨Nat.zero_le _, Nat.zero_le _⟩ (fun z_18 b_18 p_18 => ?_)
      have rz_18 := rg z_18
      have u_18 := b_18
      unfold B01 at u_18
      refine gt_if_ne 30 C dRM_guess_21 (by decide) rfl (fun c_21 => ?_) (fun c_21 => ?_)
      · skip
        refine g_iload_n C dRM_guess_30 rfl ?_
        refine g_iload_n C dRM_guess_31 rfl ?_
        refine g_iload_n C dRM_guess_32 rfl ?_
        refine s_callS_zp (av := fun ad => [.int x1, .int x2, .int x3]) C dRM_guess_33 mfRM_isStart msRM_isStart ln_RM_246 (cRM_isStart hV0.1 ) rfl rfl (Nat.le_of_ble_eq_true rfl) ⟨Nat.le_of_ble_eq_true rfl, Nat.le_of_ble_eq_true rfl⟩ ⟨rfl, rfl⟩ ⟨Nat.zero_le _, Nat.zero_le _⟩ (fun z_33 b_33 p_33 => ?_)
        have rz_33 := rg z_33
        have u_33 := b_33
        unfold B01 at u_33
        try dsimp only at p_33
        refine gt_if_ne 45 C dRM_guess_36 (by decide) rfl (fun c_36 => ?_) (fun c_36 => ?_)
        · skip
          refine g_iload_n C dRM_guess_45 rfl ?_
          refine g_iload_n C dRM_guess_46 rfl ?_
          refine g_iload_n C dRM_guess_47 rfl ?_
          refine s_callS_ip (av := fun ad => [.int x1, .int x2, .int x3]) C dRM_guess_48 mfRM_startOf msRM_startOf ln_RM_250 (cRM_startOf hV0.1 ) rfl rfl (Nat.le_of_ble_eq_true rfl) ⟨Nat.le_of_ble_eq_true rfl, Nat.le_of_ble_eq_true rfl⟩ ⟨rfl, rfl⟩ ⟨Nat.zero_le _, Nat.zero_le _⟩ (fun z_48 p_48 => ?_)
          have rz_48 := rg z_48
          refine g_istore C dRM_guess_51 (by decide) ?_
          refine g_aload_n C dRM_guess_53 rfl ?_
          refine gt_getr C dRM_guess_54 fl_RM_43 h0 hV0.1.1 rfl (fun b_54 q_54 hb_54 => ?_)
          refine g_aload_n C dRM_guess_57 rfl ?_
          refine gt_getr C dRM_guess_58 fl_RM_19 h0 hV0.1.1 rfl (fun b_58 q_58 hb_58 => ?_)
          refine g_aload_n C dRM_guess_61 rfl ?_
          refine gt_getr C dRM_guess_62 fl_RM_37 h0 hV0.1.1 rfl (fun b_62 q_62 hb_62 => ?_)
          refine g_iload C dRM_guess_65 rfl ?_
          refine s_callV_v (av := fun ad => [.ref b_58, .ref b_62, .int z_48]) C dRM_guess_67 mfGu_tellOne mvGu_tellOne ln_RM_254 hb_54 (by decide) rfl hV0 fr_NN (cGu_tellOne hV0.1 hb_54 hb_58 hb_62 ⟨by decide, rfl, rfl, fun _ _ => trivial, by decide⟩) rfl rfl (Nat.le_of_ble_eq_true rfl) ⟨Nat.le_of_ble_eq_true rfl, Nat.le_of_ble_eq_true rfl⟩ ⟨rfl, rfl⟩ ⟨Nat.zero_le _, Nat.zero_le _⟩ (fun Iw8 Jw8 hVw8 hFw8 p_67 => ?_)
          refine g_aload_n C dRM_guess_70 rfl ?_
          refine g_aload_n C dRM_guess_71 rfl ?_
          refine gt_getS C dRM_guess_72 fl_RM_43 h0 q_54 ?_
          refine g_iload C dRM_guess_75 rfl ?_
          refine g_iload C dRM_guess_77 rfl ?_
          refine g_iload C dRM_guess_79 rfl ?_
          refine s_callV_ip (av := fun ad => [.int z_48, .int x4, .int x5]) C dRM_guess_81 mfGu_toldOf mvGu_toldOf ln_RM_257 hb_54 (by decide) rfl (cGu_toldOf hVw8.1 hb_54) rfl rfl (Nat.le_of_ble_eq_true rfl) ⟨Nat.le_of_ble_eq_true rfl, Nat.le_of_ble_eq_true rfl⟩ ⟨rfl, rfl⟩ ⟨Nat.zero_le _, Nat.zero_le _⟩ (fun z_81 p_81 => ?_)
          have rz_81 := rg z_81
          refine s_callV_i (av := fun ad => [.int z_81]) C dRM_guess_84 mfRM_accept mvRM_accept ln_RM_122 h0 (by decide) rfl hVw8 fr_NN (cRM_accept hVw8.1 h0) rfl rfl (Nat.le_of_ble_eq_true rfl) ⟨Nat.le_of_ble_eq_true rfl, Nat.le_of_ble_eq_true rfl⟩ ⟨rfl, rfl⟩ ⟨Nat.zero_le _, Nat.zero_le _⟩ (fun Iw10 Jw10 hVw10 hFw10 z_84 p_84 => ?_)
          have rz_84 := rg z_84
          exact s_iret C E dRM_guess_87 ⟨Nat.zero_le _, Nat.zero_le _⟩ hVw10 trivial
        · skip
          refine g_aload_n C dRM_guess_39 rfl ?_
          refine g_iconst (v := Int32.ofInt (2)) C dRM_guess_40 (by decide) ?_
          refine s_callV_i (av := fun ad => [.int (Int32.ofInt (2))]) C dRM_guess_41 mfRM_refuse mvRM_refuse ln_RM_96 h0 (by decide) rfl hV0 fr_NN (cRM_refuse hV0.1 h0) rfl rfl (Nat.le_of_ble_eq_true rfl) ⟨Nat.le_of_ble_eq_true rfl, Nat.le_of_ble_eq_true rfl⟩ ⟨rfl, rfl⟩ ⟨Nat.zero_le _, Nat.zero_le _⟩ (fun Iw11 Jw11 hVw11 hFw11 z_41 p_41 => ?_)
          have rz_41 := rg z_41
          exact s_iret C E dRM_guess_44 ⟨Nat.zero_le _, Nat.zero_le _⟩ hVw11 trivial
      · skip
        exact g_sub (jn_24  I0 J0  hV0) ⟨rfl, rfl, rfl, rfl, rfl, rfl, trivial⟩
set_option maxHeartbeats 4000000 in
set_option maxRecDepth 100000 in
theorem cRM_swapped {P : List Nat} {K : Nat → Nat} {I0 : Nat → Nat → Int32} {O : Nat → Nat → Option Nat} {J0 : Nat → Nat → Int64} (hV : IV P K I0 O) {a0 : Nat} (h0 : a0 ∈ P ∧ K a0 = 8) : Con yRM_swapped bRM_swapped 3 (some .int) ({ frames := 7, cells := 0, slots := 0, locals := 156 } : Room) P K I0 O J0 [.ref a0] (SPo frN 1 (tt) P K I0 O J0) := by
  refine Con.ofG mfRM_swapped (Nat.le_of_ble_eq_true rfl) ?_
  intro X C E
  have hV0 : SV frN P K O I0 J0 I0 J0 := SV.rf hV
  refine g_aload_n C dRM_swapped_0 rfl ?_
  refine s_callV_zp (av := fun ad => []) C dRM_swapped_1 mfRM_noMill mvRM_noMill ln_RM_141 h0 (by decide) rfl (cRM_noMill hV0.1 h0) rfl rfl (Nat.le_of_ble_eq_true rfl) ⟨Nat.le_of_ble_eq_true rfl, Nat.le_of_ble_eq_true rfl⟩ ⟨rfl, rfl⟩ ⟨Nat.zero_le _, Nat.zero_le _⟩ (fun z_1 b_1 p_1 => ?_)
  have rz_1 := rg z_1
  have u_1 := b_1
  unfold B01 at u_1
  refine gt_if_eq 13 C dRM_swapped_4 (by decide) rfl (fun c_4 => ?_) (fun c_4 => ?_)
  · skip
    refine g_aload_n C dRM_swapped_13 rfl ?_
    refine s_callV_i (av := fun ad => []) C dRM_swapped_14 mfRM_findFits mvRM_findFits ln_RM_236 h0 (by decide) rfl hV0 fr_NN (cRM_findFits hV0.1 h0) rfl rfl (Nat.le_of_ble_eq_true rfl) ⟨Nat.le_of_ble_eq_true rfl, Nat.le_of_ble_eq_true rfl⟩ ⟨rfl, rfl⟩ ⟨Nat.zero_le _, Nat.zero_le _⟩ (fun Iw2 Jw2 hVw2 hFw2 z_14 p_14 => ?_)
    have rz_14 := rg z_14
    refine gt_if_le 26 C dRM_swapped_17 (by decide) rfl (fun c_17 => ?_) (fun c_17 => ?_)
    · skip
      refine g_iconst (v := Int32.ofInt (0)) C dRM_swapped_26 (by decide) ?_
      refine g_istore_n (i := 1) C dRM_swapped_27 rfl (by decide) ?_
      have lp_28 : ∀ (nn_28 : Nat) (x1_28 : Int32) (Iw3 : Nat → Nat → Int32) (Jw3 : Nat → Nat → Int64), Int.toNat (12 - x1_28.toInt) = nn_28 → (0 ≤ Int32.toInt x1_28 ∧ Int32.toInt x1_28 ≤ 12) → SV frN P K O I0 J0 Iw3 Jw3 → GG X 3 P K Iw3 O Jw3 0 0 28 [(0, .ref a0), (1, .int x1_28)] [] := by
        intro nn_28
        induction nn_28 using Nat.strongRecOn with
        | ind nn_28 ih_28 =>
        intro x1_28 Iw3 Jw3 hn_28 iv0_28 hVw3
        have rg1_28 := rg x1_28
        refine g_iload_n C dRM_swapped_28 rfl ?_
        refine g_bipush (v := Int32.ofInt (12)) C dRM_swapped_29 (by decide) ?_
        refine gt_icmp_ge 83 C dRM_swapped_31 (by decide) rfl (ofI (by decide)) (fun c_31 => ?_) (fun c_31 => ?_)
        · skip
          refine g_aload_n C dRM_swapped_83 rfl ?_
          refine g_bipush (v := Int32.ofInt (-2)) C dRM_swapped_84 (by decide) ?_
          refine s_callV_i (av := fun ad => [.int (Int32.ofInt (-2))]) C dRM_swapped_86 mfRM_accept mvRM_accept ln_RM_122 h0 (by decide) rfl hVw3 fr_NN (cRM_accept hVw3.1 h0) rfl rfl (Nat.le_of_ble_eq_true rfl) ⟨Nat.le_of_ble_eq_true rfl, Nat.le_of_ble_eq_true rfl⟩ ⟨rfl, rfl⟩ ⟨Nat.zero_le _, Nat.zero_le _⟩ (fun Iw4 Jw4 hVw4 hFw4 z_86 p_86 => ?_)
          have rz_86 := rg z_86
          exact s_iret C E dRM_swapped_89 ⟨Nat.zero_le _, Nat.zero_le _⟩ hVw4 trivial
        · skip
          refine g_iload_n C dRM_swapped_34 rfl ?_
          refine g_iconst (v := Int32.ofInt (1)) C dRM_swapped_35 (by decide) ?_
          first | refine n_iadd C dRM_swapped_36 rfl (ofI (by decide)) (by omega) (fun z_36 e_36 => ?_) | refine a_iadd C dRM_swapped_36 (fun z_36 => ?_)
          refine g_istore_n (i := 2) C dRM_swapped_37 rfl (by decide) ?_
          have lp_38 : ∀ (nn_38 : Nat) (x2_38 : Int32) (Iw5 : Nat → Nat → Int32) (Jw5 : Nat → Nat → Int64), Int.toNat (12 - x2_38.toInt) = nn_38 → (0 ≤ Int32.toInt x2_38 ∧ Int32.toInt x2_38 ≤ 12) → SV frN P K O I0 J0 Iw5 Jw5 → GG X 3 P K Iw5 O Jw5 0 0 38 [(0, .ref a0), (1, .int x1_28), (2, .int x2_38)] [] := by
            intro nn_38
            induction nn_38 using Nat.strongRecOn with
            | ind nn_38 ih_38 =>
            intro x2_38 Iw5 Jw5 hn_38 iv0_38 hVw5
            have rg2_38 := rg x2_38
            refine g_iload_n C dRM_swapped_38 rfl ?_
            refine g_bipush (v := Int32.ofInt (12)) C dRM_swapped_39 (by decide) ?_
            refine gt_icmp_ge 77 C dRM_swapped_41 (by decide) rfl (ofI (by decide)) (fun c_41 => ?_) (fun c_41 => ?_)
            · skip
              first | refine n_iinc C dRM_swapped_77 rfl rfl (by decide) (by decide) (by omega) (fun z_77 e_77 => ?_) | refine a_iinc C dRM_swapped_77 rfl (by decide) (fun z_77 => ?_)
              refine g_goto 28 C dRM_swapped_80 (by decide) ?_
              exact g_sub (ih_28 _ (by omega) z_77 Iw5 Jw5 rfl (by omega) hVw5) ⟨rfl, rfl, trivial⟩
            · skip
              refine g_aload_n C dRM_swapped_44 rfl ?_
              refine gt_getr C dRM_swapped_45 fl_RM_50 h0 hVw5.1.1 rfl (fun b_45 q_45 hb_45 => ?_)
              refine g_aload_n C dRM_swapped_48 rfl ?_
              refine gt_getr C dRM_swapped_49 fl_RM_43 h0 hVw5.1.1 rfl (fun b_49 q_49 hb_49 => ?_)
              refine g_iload_n C dRM_swapped_52 rfl ?_
              refine g_iload_n C dRM_swapped_53 rfl ?_
              refine s_callV_zp (av := fun ad => [.ref b_49, .int x1_28, .int x2_38]) C dRM_swapped_54 mfSi_anyAgrees mvSi_anyAgrees ln_RM_260 hb_45 (by decide) rfl (cSi_anyAgrees hVw5.1 hb_45 hb_49) rfl rfl (Nat.le_of_ble_eq_true rfl) ⟨Nat.le_of_ble_eq_true rfl, Nat.le_of_ble_eq_true rfl⟩ ⟨rfl, rfl⟩ ⟨Nat.zero_le _, Nat.zero_le _⟩ (fun z_54 b_54 p_54 => ?_)
              have rz_54 := rg z_54
              have u_54 := b_54
              unfold B01 at u_54
              refine gt_if_eq 71 C dRM_swapped_57 (by decide) rfl (fun c_57 => ?_) (fun c_57 => ?_)
              · skip
                first | refine n_iinc C dRM_swapped_71 rfl rfl (by decide) (by decide) (by omega) (fun z_71 e_71 => ?_) | refine a_iinc C dRM_swapped_71 rfl (by decide) (fun z_71 => ?_)
                refine g_goto 38 C dRM_swapped_74 (by decide) ?_
                exact g_sub (ih_38 _ (by omega) z_71 Iw5 Jw5 rfl (by omega) hVw5) ⟨rfl, rfl, rfl, trivial⟩
              · skip
                refine g_aload_n C dRM_swapped_60 rfl ?_
                refine g_bipush (v := Int32.ofInt (100)) C dRM_swapped_61 (by decide) ?_
                refine g_iload_n C dRM_swapped_63 rfl ?_
                first | refine n_imul C dRM_swapped_64 (ofI (by decide)) rfl (by omega) (fun z_64 e_64 => ?_) | refine a_imul C dRM_swapped_64 (fun z_64 => ?_)
                refine g_iload_n C dRM_swapped_65 rfl ?_
                first | refine n_iadd C dRM_swapped_66 rfl rfl (by omega) (fun z_66 e_66 => ?_) | refine a_iadd C dRM_swapped_66 (fun z_66 => ?_)
                refine s_callV_i (av := fun ad => [.int z_66]) C dRM_swapped_67 mfRM_accept mvRM_accept ln_RM_122 h0 (by decide) rfl hVw5 fr_NN (cRM_accept hVw5.1 h0) rfl rfl (Nat.le_of_ble_eq_true rfl) ⟨Nat.le_of_ble_eq_true rfl, Nat.le_of_ble_eq_true rfl⟩ ⟨rfl, rfl⟩ ⟨Nat.zero_le _, Nat.zero_le _⟩ (fun Iw7 Jw7 hVw7 hFw7 z_67 p_67 => ?_)
                have rz_67 := rg z_67
                exact s_iret C E dRM_swapped_70 ⟨Nat.zero_le _, Nat.zero_le _⟩ hVw7 trivial
          exact g_sub (lp_38 _ z_36 Iw3 Jw3 rfl (by omega) hVw3) ⟨rfl, rfl, rfl, trivial⟩
      exact g_sub (lp_28 _ (Int32.ofInt (0)) Iw2 Jw2 rfl (by have hci : Int32.toInt (Int32.ofInt (0)) = 0 := ofI (by decide); omega) hVw2) ⟨rfl, rfl, trivial⟩
    · skip
      refine g_aload_n C dRM_swapped_20 rfl ?_
      refine g_iconst (v := Int32.ofInt (5)) C dRM_swapped_21 (by decide) ?_
      refine s_callV_i (av := fun ad => [.int (Int32.ofInt (5))]) C dRM_swapped_22 mfRM_refuse mvRM_refuse ln_RM_96 h0 (by decide) rfl hVw2 fr_NN (cRM_refuse hVw2.1 h0) rfl rfl (Nat.le_of_ble_eq_true rfl) ⟨Nat.le_of_ble_eq_true rfl, Nat.le_of_ble_eq_true rfl⟩ ⟨rfl, rfl⟩ ⟨Nat.zero_le _, Nat.zero_le _⟩ (fun Iw8 Jw8 hVw8 hFw8 z_22 p_22 => ?_)
      have rz_22 := rg z_22
      exact s_iret C E dRM_swapped_25 ⟨Nat.zero_le _, Nat.zero_le _⟩ hVw8 trivial
  · skip
    refine g_aload_n C dRM_swapped_7 rfl ?_
    refine g_iconst (v := Int32.ofInt (1)) C dRM_swapped_8 (by decide) ?_
    refine s_callV_i (av := fun ad => [.int (Int32.ofInt (1))]) C dRM_swapped_9 mfRM_refuse mvRM_refuse ln_RM_96 h0 (by decide) rfl hV0 fr_NN (cRM_refuse hV0.1 h0) rfl rfl (Nat.le_of_ble_eq_true rfl) ⟨Nat.le_of_ble_eq_true rfl, Nat.le_of_ble_eq_true rfl⟩ ⟨rfl, rfl⟩ ⟨Nat.zero_le _, Nat.zero_le _⟩ (fun Iw9 Jw9 hVw9 hFw9 z_9 p_9 => ?_)
    have rz_9 := rg z_9
    exact s_iret C E dRM_swapped_12 ⟨Nat.zero_le _, Nat.zero_le _⟩ hVw9 trivial
set_option maxHeartbeats 4000000 in
set_option maxRecDepth 100000 in
theorem cRM_plan {P : List Nat} {K : Nat → Nat} {I0 : Nat → Nat → Int32} {O : Nat → Nat → Option Nat} {J0 : Nat → Nat → Int64} (hV : IV P K I0 O) {a0 : Nat} (h0 : a0 ∈ P ∧ K a0 = 8) {x1 : Int32} : Con yRM_plan bRM_plan 3 (some .int) ({ frames := 12, cells := 0, slots := 0, locals := 294 } : Room) P K I0 O J0 [.ref a0, .int x1] (SPo frN 1 (tt) P K I0 O J0) := by
  refine Con.ofG mfRM_plan (Nat.le_of_ble_eq_true rfl) ?_
  intro X C E
  have r1 := rg x1
  have hV0 : SV frN P K O I0 J0 I0 J0 := SV.rf hV
  refine g_aload_n C dRM_plan_0 rfl ?_
  refine s_callV_zp (av := fun ad => []) C dRM_plan_1 mfRM_noMill mvRM_noMill ln_RM_141 h0 (by decide) rfl (cRM_noMill hV0.1 h0) rfl rfl (Nat.le_of_ble_eq_true rfl) ⟨Nat.le_of_ble_eq_true rfl, Nat.le_of_ble_eq_true rfl⟩ ⟨rfl, rfl⟩ ⟨Nat.zero_le _, Nat.zero_le _⟩ (fun z_1 b_1 p_1 => ?_)
  have rz_1 := rg z_1
  have u_1 := b_1
  unfold B01 at u_1
  refine gt_if_eq 13 C dRM_plan_4 (by decide) rfl (fun c_4 => ?_) (fun c_4 => ?_)
  · skip
    refine g_iload_n C dRM_plan_13 rfl ?_
    refine s_callS_zp (av := fun ad => [.int x1]) C dRM_plan_14 mfRM_isPlanLength msRM_isPlanLength ln_RM_264 (cRM_isPlanLength hV0.1 ) rfl rfl (Nat.le_of_ble_eq_true rfl) ⟨Nat.le_of_ble_eq_true rfl, Nat.le_of_ble_eq_true rfl⟩ ⟨rfl, rfl⟩ ⟨Nat.zero_le _, Nat.zero_le _⟩ (fun z_14 b_14 p_14 => ?_)
    have rz_14 := rg z_14
    have u_14 := b_14
    unfold B01 at u_14
    try dsimp only at p_14
    refine gt_if_ne 26 C dRM_plan_17 (by decide) rfl (fun c_17 => ?_) (fun c_17 => ?_)
    · skip
      refine g_aload_n C dRM_plan_26 rfl ?_
      refine gt_getr C dRM_plan_27 fl_RM_57 h0 hV0.1.1 rfl (fun b_27 q_27 hb_27 => ?_)
      refine g_aload_n C dRM_plan_30 rfl ?_
      refine gt_getr C dRM_plan_31 fl_RM_19 h0 hV0.1.1 rfl (fun b_31 q_31 hb_31 => ?_)
      refine g_aload_n C dRM_plan_34 rfl ?_
      refine gt_getr C dRM_plan_35 fl_RM_29 h0 hV0.1.1 rfl (fun b_35 q_35 hb_35 => ?_)
      refine g_aload_n C dRM_plan_38 rfl ?_
      refine gt_getr C dRM_plan_39 fl_RM_33 h0 hV0.1.1 rfl (fun b_39 q_39 hb_39 => ?_)
      refine g_iload_n C dRM_plan_42 rfl ?_
      refine s_callV_i (av := fun ad => [.ref b_31, .ref b_35, .ref b_39, .int x1]) C dRM_plan_43 mfPl_findCheapest mvPl_findCheapest ln_RM_267 hb_27 (by decide) rfl hV0 fr_NN (cPl_findCheapest hV0.1 hb_27 hb_31 hb_35 hb_39 ⟨by decide, rfl, rfl, fun _ _ => trivial, by decide⟩) rfl rfl (Nat.le_of_ble_eq_true rfl) ⟨Nat.le_of_ble_eq_true rfl, Nat.le_of_ble_eq_true rfl⟩ ⟨rfl, rfl⟩ ⟨Nat.zero_le _, Nat.zero_le _⟩ (fun Iw3 Jw3 hVw3 hFw3 z_43 p_43 => ?_)
      have rz_43 := rg z_43
      refine g_istore_n (i := 2) C dRM_plan_46 rfl (by decide) ?_
      refine g_iload_n C dRM_plan_47 rfl ?_
      refine g_iconst (v := Int32.ofInt (-1)) C dRM_plan_48 (by decide) ?_
      refine gt_icmp_ne 61 C dRM_plan_49 (by decide) rfl (ofI (by decide)) (fun c_49 => ?_) (fun c_49 => ?_)
      · skip
        refine g_aload_n C dRM_plan_61 rfl ?_
        refine g_iload_n C dRM_plan_62 rfl ?_
        refine s_callV_i (av := fun ad => [.int z_43]) C dRM_plan_63 mfRM_accept mvRM_accept ln_RM_122 h0 (by decide) rfl hVw3 fr_NN (cRM_accept hVw3.1 h0) rfl rfl (Nat.le_of_ble_eq_true rfl) ⟨Nat.le_of_ble_eq_true rfl, Nat.le_of_ble_eq_true rfl⟩ ⟨rfl, rfl⟩ ⟨Nat.zero_le _, Nat.zero_le _⟩ (fun Iw4 Jw4 hVw4 hFw4 z_63 p_63 => ?_)
        have rz_63 := rg z_63
        exact s_iret C E dRM_plan_66 ⟨Nat.zero_le _, Nat.zero_le _⟩ hVw4 trivial
      · skip
        refine g_aload_n C dRM_plan_52 rfl ?_
        refine g_bipush (v := Int32.ofInt (6)) C dRM_plan_53 (by decide) ?_
        refine s_callV_i (av := fun ad => [.int (Int32.ofInt (6))]) C dRM_plan_55 mfRM_refuse mvRM_refuse ln_RM_96 h0 (by decide) rfl hVw3 fr_NN (cRM_refuse hVw3.1 h0) rfl rfl (Nat.le_of_ble_eq_true rfl) ⟨Nat.le_of_ble_eq_true rfl, Nat.le_of_ble_eq_true rfl⟩ ⟨rfl, rfl⟩ ⟨Nat.zero_le _, Nat.zero_le _⟩ (fun Iw5 Jw5 hVw5 hFw5 z_55 p_55 => ?_)
        have rz_55 := rg z_55
        refine g_goto 66 C dRM_plan_58 (by decide) ?_
        exact s_iret C E dRM_plan_66 ⟨Nat.zero_le _, Nat.zero_le _⟩ hVw5 trivial
    · skip
      refine g_aload_n C dRM_plan_20 rfl ?_
      refine g_iconst (v := Int32.ofInt (2)) C dRM_plan_21 (by decide) ?_
      refine s_callV_i (av := fun ad => [.int (Int32.ofInt (2))]) C dRM_plan_22 mfRM_refuse mvRM_refuse ln_RM_96 h0 (by decide) rfl hV0 fr_NN (cRM_refuse hV0.1 h0) rfl rfl (Nat.le_of_ble_eq_true rfl) ⟨Nat.le_of_ble_eq_true rfl, Nat.le_of_ble_eq_true rfl⟩ ⟨rfl, rfl⟩ ⟨Nat.zero_le _, Nat.zero_le _⟩ (fun Iw6 Jw6 hVw6 hFw6 z_22 p_22 => ?_)
      have rz_22 := rg z_22
      exact s_iret C E dRM_plan_25 ⟨Nat.zero_le _, Nat.zero_le _⟩ hVw6 trivial
  · skip
    refine g_aload_n C dRM_plan_7 rfl ?_
    refine g_iconst (v := Int32.ofInt (1)) C dRM_plan_8 (by decide) ?_
    refine s_callV_i (av := fun ad => [.int (Int32.ofInt (1))]) C dRM_plan_9 mfRM_refuse mvRM_refuse ln_RM_96 h0 (by decide) rfl hV0 fr_NN (cRM_refuse hV0.1 h0) rfl rfl (Nat.le_of_ble_eq_true rfl) ⟨Nat.le_of_ble_eq_true rfl, Nat.le_of_ble_eq_true rfl⟩ ⟨rfl, rfl⟩ ⟨Nat.zero_le _, Nat.zero_le _⟩ (fun Iw7 Jw7 hVw7 hFw7 z_9 p_9 => ?_)
    have rz_9 := rg z_9
    exact s_iret C E dRM_plan_12 ⟨Nat.zero_le _, Nat.zero_le _⟩ hVw7 trivial
set_option maxHeartbeats 4000000 in
set_option maxRecDepth 100000 in
theorem cRM_rate {P : List Nat} {K : Nat → Nat} {I0 : Nat → Nat → Int32} {O : Nat → Nat → Option Nat} {J0 : Nat → Nat → Int64} (hV : IV P K I0 O) {a0 : Nat} (h0 : a0 ∈ P ∧ K a0 = 8) {x1 : Int32} : Con yRM_rate bRM_rate 2 (some .int) ({ frames := 1, cells := 0, slots := 0, locals := 21 } : Room) P K I0 O J0 [.ref a0, .int x1] (SPo frP 1 (tt) P K I0 O J0) := by
  refine Con.ofG mfRM_rate (Nat.le_of_ble_eq_true rfl) ?_
  intro X C E
  have r1 := rg x1
  have hV0 : SV frP P K O I0 J0 I0 J0 := SV.rf hV
  refine g_aload_n C dRM_rate_0 rfl ?_
  refine gt_getr C dRM_rate_1 fl_RM_57 h0 hV0.1.1 rfl (fun b_1 q_1 hb_1 => ?_)
  refine g_iload_n C dRM_rate_4 rfl ?_
  refine s_callV_ip (av := fun ad => [.int x1]) C dRM_rate_5 mfPl_keptRate mvPl_keptRate ln_RM_271 hb_1 (by decide) rfl (cPl_keptRate hV0.1 hb_1) rfl rfl (Nat.le_of_ble_eq_true rfl) ⟨Nat.le_of_ble_eq_true rfl, Nat.le_of_ble_eq_true rfl⟩ ⟨rfl, rfl⟩ ⟨Nat.zero_le _, Nat.zero_le _⟩ (fun z_5 p_5 => ?_)
  have rz_5 := rg z_5
  exact s_iret C E dRM_rate_8 ⟨Nat.zero_le _, Nat.zero_le _⟩ hV0 trivial
set_option maxHeartbeats 4000000 in
set_option maxRecDepth 100000 in
theorem cRM_rule {P : List Nat} {K : Nat → Nat} {I0 : Nat → Nat → Int32} {O : Nat → Nat → Option Nat} {J0 : Nat → Nat → Int64} (hV : IV P K I0 O) {a0 : Nat} (h0 : a0 ∈ P ∧ K a0 = 8) {x1 : Int32} : Con yRM_rule bRM_rule 2 (some .int) ({ frames := 6, cells := 0, slots := 0, locals := 134 } : Room) P K I0 O J0 [.ref a0, .int x1] (SPo frN 1 (tt) P K I0 O J0) := by
  refine Con.ofG mfRM_rule (Nat.le_of_ble_eq_true rfl) ?_
  intro X C E
  have r1 := rg x1
  have hV0 : SV frN P K O I0 J0 I0 J0 := SV.rf hV
  refine g_aload_n C dRM_rule_0 rfl ?_
  refine s_callV_zp (av := fun ad => []) C dRM_rule_1 mfRM_noMill mvRM_noMill ln_RM_141 h0 (by decide) rfl (cRM_noMill hV0.1 h0) rfl rfl (Nat.le_of_ble_eq_true rfl) ⟨Nat.le_of_ble_eq_true rfl, Nat.le_of_ble_eq_true rfl⟩ ⟨rfl, rfl⟩ ⟨Nat.zero_le _, Nat.zero_le _⟩ (fun z_1 b_1 p_1 => ?_)
  have rz_1 := rg z_1
  have u_1 := b_1
  unfold B01 at u_1
  refine gt_if_eq 13 C dRM_rule_4 (by decide) rfl (fun c_4 => ?_) (fun c_4 => ?_)
  · skip
    refine g_iload_n C dRM_rule_13 rfl ?_
    refine s_callS_zp (av := fun ad => [.int x1]) C dRM_rule_14 mfRM_isPlanLength msRM_isPlanLength ln_RM_264 (cRM_isPlanLength hV0.1 ) rfl rfl (Nat.le_of_ble_eq_true rfl) ⟨Nat.le_of_ble_eq_true rfl, Nat.le_of_ble_eq_true rfl⟩ ⟨rfl, rfl⟩ ⟨Nat.zero_le _, Nat.zero_le _⟩ (fun z_14 b_14 p_14 => ?_)
    have rz_14 := rg z_14
    have u_14 := b_14
    unfold B01 at u_14
    try dsimp only at p_14
    refine gt_if_ne 26 C dRM_rule_17 (by decide) rfl (fun c_17 => ?_) (fun c_17 => ?_)
    · skip
      refine g_aload_n C dRM_rule_26 rfl ?_
      refine gt_getr C dRM_rule_27 fl_RM_57 h0 hV0.1.1 rfl (fun b_27 q_27 hb_27 => ?_)
      refine g_aload_n C dRM_rule_30 rfl ?_
      refine gt_getr C dRM_rule_31 fl_RM_19 h0 hV0.1.1 rfl (fun b_31 q_31 hb_31 => ?_)
      refine g_aload_n C dRM_rule_34 rfl ?_
      refine gt_getr C dRM_rule_35 fl_RM_29 h0 hV0.1.1 rfl (fun b_35 q_35 hb_35 => ?_)
      refine g_aload_n C dRM_rule_38 rfl ?_
      refine gt_getr C dRM_rule_39 fl_RM_33 h0 hV0.1.1 rfl (fun b_39 q_39 hb_39 => ?_)
      refine g_iload_n C dRM_rule_42 rfl ?_
      refine s_callV_v (av := fun ad => [.ref b_31, .ref b_35, .ref b_39, .int x1]) C dRM_rule_43 mfPl_keepRule mvPl_keepRule ln_RM_274 hb_27 (by decide) rfl hV0 fr_NN (cPl_keepRule hV0.1 hb_27 hb_31 hb_35 hb_39 ⟨by decide, rfl, rfl, fun _ _ => trivial, by decide⟩) rfl rfl (Nat.le_of_ble_eq_true rfl) ⟨Nat.le_of_ble_eq_true rfl, Nat.le_of_ble_eq_true rfl⟩ ⟨rfl, rfl⟩ ⟨Nat.zero_le _, Nat.zero_le _⟩ (fun Iw3 Jw3 hVw3 hFw3 p_43 => ?_)
      refine g_aload_n C dRM_rule_46 rfl ?_
      refine g_aload_n C dRM_rule_47 rfl ?_
      refine gt_getS C dRM_rule_48 fl_RM_57 h0 q_27 ?_
      refine gt_getr C dRM_rule_51 fl_RM_278 hb_27 hVw3.1.1 rfl (fun b_51 q_51 hb_51 => ?_)
      refine g_geti C dRM_rule_54 fl_RM_206 hb_51 ?_
      refine g_aload_n C dRM_rule_57 rfl ?_
      refine gt_getS C dRM_rule_58 fl_RM_29 h0 q_35 ?_
      refine g_geti C dRM_rule_61 fl_RM_206 hb_35 ?_
      first | refine n_isub C dRM_rule_64 rfl rfl (by omega) (fun z_64 e_64 => ?_) | refine a_isub C dRM_rule_64 (fun z_64 => ?_)
      refine s_callV_i (av := fun ad => [.int z_64]) C dRM_rule_65 mfRM_accept mvRM_accept ln_RM_122 h0 (by decide) rfl hVw3 fr_NN (cRM_accept hVw3.1 h0) rfl rfl (Nat.le_of_ble_eq_true rfl) ⟨Nat.le_of_ble_eq_true rfl, Nat.le_of_ble_eq_true rfl⟩ ⟨rfl, rfl⟩ ⟨Nat.zero_le _, Nat.zero_le _⟩ (fun Iw4 Jw4 hVw4 hFw4 z_65 p_65 => ?_)
      have rz_65 := rg z_65
      exact s_iret C E dRM_rule_68 ⟨Nat.zero_le _, Nat.zero_le _⟩ hVw4 trivial
    · skip
      refine g_aload_n C dRM_rule_20 rfl ?_
      refine g_iconst (v := Int32.ofInt (2)) C dRM_rule_21 (by decide) ?_
      refine s_callV_i (av := fun ad => [.int (Int32.ofInt (2))]) C dRM_rule_22 mfRM_refuse mvRM_refuse ln_RM_96 h0 (by decide) rfl hV0 fr_NN (cRM_refuse hV0.1 h0) rfl rfl (Nat.le_of_ble_eq_true rfl) ⟨Nat.le_of_ble_eq_true rfl, Nat.le_of_ble_eq_true rfl⟩ ⟨rfl, rfl⟩ ⟨Nat.zero_le _, Nat.zero_le _⟩ (fun Iw5 Jw5 hVw5 hFw5 z_22 p_22 => ?_)
      have rz_22 := rg z_22
      exact s_iret C E dRM_rule_25 ⟨Nat.zero_le _, Nat.zero_le _⟩ hVw5 trivial
  · skip
    refine g_aload_n C dRM_rule_7 rfl ?_
    refine g_iconst (v := Int32.ofInt (1)) C dRM_rule_8 (by decide) ?_
    refine s_callV_i (av := fun ad => [.int (Int32.ofInt (1))]) C dRM_rule_9 mfRM_refuse mvRM_refuse ln_RM_96 h0 (by decide) rfl hV0 fr_NN (cRM_refuse hV0.1 h0) rfl rfl (Nat.le_of_ble_eq_true rfl) ⟨Nat.le_of_ble_eq_true rfl, Nat.le_of_ble_eq_true rfl⟩ ⟨rfl, rfl⟩ ⟨Nat.zero_le _, Nat.zero_le _⟩ (fun Iw6 Jw6 hVw6 hFw6 z_9 p_9 => ?_)
    have rz_9 := rg z_9
    exact s_iret C E dRM_rule_12 ⟨Nat.zero_le _, Nat.zero_le _⟩ hVw6 trivial
set_option maxHeartbeats 4000000 in
set_option maxRecDepth 100000 in
theorem cRM_lacks {P : List Nat} {K : Nat → Nat} {I0 : Nat → Nat → Int32} {O : Nat → Nat → Option Nat} {J0 : Nat → Nat → Int64} (hV : IV P K I0 O) {a0 : Nat} (h0 : a0 ∈ P ∧ K a0 = 8) {x1 : Int32} : Con yRM_lacks bRM_lacks 2 (some .int) ({ frames := 6, cells := 0, slots := 0, locals := 134 } : Room) P K I0 O J0 [.ref a0, .int x1] (SPo frN 1 (tt) P K I0 O J0) := by
  refine Con.ofG mfRM_lacks (Nat.le_of_ble_eq_true rfl) ?_
  intro X C E
  have r1 := rg x1
  have hV0 : SV frN P K O I0 J0 I0 J0 := SV.rf hV
  refine g_aload_n C dRM_lacks_0 rfl ?_
  refine s_callV_zp (av := fun ad => []) C dRM_lacks_1 mfRM_noMill mvRM_noMill ln_RM_141 h0 (by decide) rfl (cRM_noMill hV0.1 h0) rfl rfl (Nat.le_of_ble_eq_true rfl) ⟨Nat.le_of_ble_eq_true rfl, Nat.le_of_ble_eq_true rfl⟩ ⟨rfl, rfl⟩ ⟨Nat.zero_le _, Nat.zero_le _⟩ (fun z_1 b_1 p_1 => ?_)
  have rz_1 := rg z_1
  have u_1 := b_1
  unfold B01 at u_1
  refine gt_if_eq 13 C dRM_lacks_4 (by decide) rfl (fun c_4 => ?_) (fun c_4 => ?_)
  · skip
    refine g_iload_n C dRM_lacks_13 rfl ?_
    refine s_callS_zp (av := fun ad => [.int x1]) C dRM_lacks_14 mfRM_isPlanLength msRM_isPlanLength ln_RM_264 (cRM_isPlanLength hV0.1 ) rfl rfl (Nat.le_of_ble_eq_true rfl) ⟨Nat.le_of_ble_eq_true rfl, Nat.le_of_ble_eq_true rfl⟩ ⟨rfl, rfl⟩ ⟨Nat.zero_le _, Nat.zero_le _⟩ (fun z_14 b_14 p_14 => ?_)
    have rz_14 := rg z_14
    have u_14 := b_14
    unfold B01 at u_14
    try dsimp only at p_14
    refine gt_if_ne 26 C dRM_lacks_17 (by decide) rfl (fun c_17 => ?_) (fun c_17 => ?_)
    · skip
      refine g_aload_n C dRM_lacks_26 rfl ?_
      refine gt_getr C dRM_lacks_27 fl_RM_57 h0 hV0.1.1 rfl (fun b_27 q_27 hb_27 => ?_)
      refine g_aload_n C dRM_lacks_30 rfl ?_
      refine gt_getr C dRM_lacks_31 fl_RM_19 h0 hV0.1.1 rfl (fun b_31 q_31 hb_31 => ?_)
      refine g_aload_n C dRM_lacks_34 rfl ?_
      refine gt_getr C dRM_lacks_35 fl_RM_29 h0 hV0.1.1 rfl (fun b_35 q_35 hb_35 => ?_)
      refine g_aload_n C dRM_lacks_38 rfl ?_
      refine gt_getr C dRM_lacks_39 fl_RM_33 h0 hV0.1.1 rfl (fun b_39 q_39 hb_39 => ?_)
      refine g_iload_n C dRM_lacks_42 rfl ?_
      refine s_callV_v (av := fun ad => [.ref b_31, .ref b_35, .ref b_39, .int x1]) C dRM_lacks_43 mfPl_keepRule mvPl_keepRule ln_RM_274 hb_27 (by decide) rfl hV0 fr_NN (cPl_keepRule hV0.1 hb_27 hb_31 hb_35 hb_39 ⟨by decide, rfl, rfl, fun _ _ => trivial, by decide⟩) rfl rfl (Nat.le_of_ble_eq_true rfl) ⟨Nat.le_of_ble_eq_true rfl, Nat.le_of_ble_eq_true rfl⟩ ⟨rfl, rfl⟩ ⟨Nat.zero_le _, Nat.zero_le _⟩ (fun Iw3 Jw3 hVw3 hFw3 p_43 => ?_)
      refine g_aload_n C dRM_lacks_46 rfl ?_
      refine g_aload_n C dRM_lacks_47 rfl ?_
      refine gt_getS C dRM_lacks_48 fl_RM_57 h0 q_27 ?_
      refine gt_getr C dRM_lacks_51 fl_RM_278 hb_27 hVw3.1.1 rfl (fun b_51 q_51 hb_51 => ?_)
      refine g_geti C dRM_lacks_54 fl_RM_191 hb_51 ?_
      refine g_aload_n C dRM_lacks_57 rfl ?_
      refine gt_getS C dRM_lacks_58 fl_RM_29 h0 q_35 ?_
      refine g_geti C dRM_lacks_61 fl_RM_191 hb_35 ?_
      first | refine n_isub C dRM_lacks_64 rfl rfl (by omega) (fun z_64 e_64 => ?_) | refine a_isub C dRM_lacks_64 (fun z_64 => ?_)
      refine s_callV_i (av := fun ad => [.int z_64]) C dRM_lacks_65 mfRM_accept mvRM_accept ln_RM_122 h0 (by decide) rfl hVw3 fr_NN (cRM_accept hVw3.1 h0) rfl rfl (Nat.le_of_ble_eq_true rfl) ⟨Nat.le_of_ble_eq_true rfl, Nat.le_of_ble_eq_true rfl⟩ ⟨rfl, rfl⟩ ⟨Nat.zero_le _, Nat.zero_le _⟩ (fun Iw4 Jw4 hVw4 hFw4 z_65 p_65 => ?_)
      have rz_65 := rg z_65
      exact s_iret C E dRM_lacks_68 ⟨Nat.zero_le _, Nat.zero_le _⟩ hVw4 trivial
    · skip
      refine g_aload_n C dRM_lacks_20 rfl ?_
      refine g_iconst (v := Int32.ofInt (2)) C dRM_lacks_21 (by decide) ?_
      refine s_callV_i (av := fun ad => [.int (Int32.ofInt (2))]) C dRM_lacks_22 mfRM_refuse mvRM_refuse ln_RM_96 h0 (by decide) rfl hV0 fr_NN (cRM_refuse hV0.1 h0) rfl rfl (Nat.le_of_ble_eq_true rfl) ⟨Nat.le_of_ble_eq_true rfl, Nat.le_of_ble_eq_true rfl⟩ ⟨rfl, rfl⟩ ⟨Nat.zero_le _, Nat.zero_le _⟩ (fun Iw5 Jw5 hVw5 hFw5 z_22 p_22 => ?_)
      have rz_22 := rg z_22
      exact s_iret C E dRM_lacks_25 ⟨Nat.zero_le _, Nat.zero_le _⟩ hVw5 trivial
  · skip
    refine g_aload_n C dRM_lacks_7 rfl ?_
    refine g_iconst (v := Int32.ofInt (1)) C dRM_lacks_8 (by decide) ?_
    refine s_callV_i (av := fun ad => [.int (Int32.ofInt (1))]) C dRM_lacks_9 mfRM_refuse mvRM_refuse ln_RM_96 h0 (by decide) rfl hV0 fr_NN (cRM_refuse hV0.1 h0) rfl rfl (Nat.le_of_ble_eq_true rfl) ⟨Nat.le_of_ble_eq_true rfl, Nat.le_of_ble_eq_true rfl⟩ ⟨rfl, rfl⟩ ⟨Nat.zero_le _, Nat.zero_le _⟩ (fun Iw6 Jw6 hVw6 hFw6 z_9 p_9 => ?_)
    have rz_9 := rg z_9
    exact s_iret C E dRM_lacks_12 ⟨Nat.zero_le _, Nat.zero_le _⟩ hVw6 trivial
set_option maxHeartbeats 4000000 in
set_option maxRecDepth 100000 in
theorem cRM_number {P : List Nat} {K : Nat → Nat} {I0 : Nat → Nat → Int32} {O : Nat → Nat → Option Nat} {J0 : Nat → Nat → Int64} (hV : IV P K I0 O) {a0 : Nat} (h0 : a0 ∈ P ∧ K a0 = 8) {x1 : Int32} {x2 : Int32} : Con yRM_number bRM_number 3 (some .int) ({ frames := 2, cells := 0, slots := 0, locals := 43 } : Room) P K I0 O J0 [.ref a0, .int x1, .int x2] (SPo frN 1 (tt) P K I0 O J0) := by
  refine Con.ofG mfRM_number (Nat.le_of_ble_eq_true rfl) ?_
  intro X C E
  have r1 := rg x1
  have r2 := rg x2
  have hV0 : SV frN P K O I0 J0 I0 J0 := SV.rf hV
  refine g_aload_n C dRM_number_0 rfl ?_
  refine s_callV_zp (av := fun ad => []) C dRM_number_1 mfRM_noMill mvRM_noMill ln_RM_141 h0 (by decide) rfl (cRM_noMill hV0.1 h0) rfl rfl (Nat.le_of_ble_eq_true rfl) ⟨Nat.le_of_ble_eq_true rfl, Nat.le_of_ble_eq_true rfl⟩ ⟨rfl, rfl⟩ ⟨Nat.zero_le _, Nat.zero_le _⟩ (fun z_1 b_1 p_1 => ?_)
  have rz_1 := rg z_1
  have u_1 := b_1
  unfold B01 at u_1
  refine gt_if_eq 13 C dRM_number_4 (by decide) rfl (fun c_4 => ?_) (fun c_4 => ?_)
  · skip
    refine g_iload_n C dRM_number_13 rfl ?_
    have jn_24 : ∀   (Iw2 : Nat → Nat → Int32) (Jw2 : Nat → Nat → Int64),  SV frN P K O I0 J0 Iw2 Jw2 → GG X 3 P K Iw2 O Jw2 0 0 24 [(0, .ref a0), (1, .int x1), (2, .int x2)] [] := by
      intro Iw2 Jw2 hVw2
      refine g_aload_n C dRM_number_24 rfl ?_
      refine g_iconst (v := Int32.ofInt (2)) C dRM_number_25 (by decide) ?_
      refine s_callV_i (av := fun ad => [.int (Int32.ofInt (2))]) C dRM_number_26 mfRM_refuse mvRM_refuse ln_RM_96 h0 (by decide) rfl hVw2 fr_NN (cRM_refuse hVw2.1 h0) rfl rfl (Nat.le_of_ble_eq_true rfl) ⟨Nat.le_of_ble_eq_true rfl, Nat.le_of_ble_eq_true rfl⟩ ⟨rfl, rfl⟩ ⟨Nat.zero_le _, Nat.zero_le _⟩ (fun Iw3 Jw3 hVw3 hFw3 z_26 p_26 => ?_)
      have rz_26 := rg z_26
      exact s_iret C E dRM_number_29 ⟨Nat.zero_le _, Nat.zero_le _⟩ hVw3 trivial
    refine gt_if_lt 24 C dRM_number_14 (by decide) rfl (fun c_14 => ?_) (fun c_14 => ?_)
    · skip
      exact g_sub (jn_24  I0 J0  hV0) ⟨rfl, rfl, rfl, trivial⟩
    · skip
      refine g_iload_n C dRM_number_17 rfl ?_
      refine g_sipush (v := Int32.ofInt (999)) C dRM_number_18 (by decide) ?_
      refine gt_icmp_le 30 C dRM_number_21 (by decide) rfl (ofI (by decide)) (fun c_21 => ?_) (fun c_21 => ?_)
      · skip
        refine g_aload_n C dRM_number_30 rfl ?_
        refine gt_getr C dRM_number_31 fl_RM_64 h0 hV0.1.1 rfl (fun b_31 q_31 hb_31 => ?_)
        refine g_iload_n C dRM_number_34 rfl ?_
        refine s_callV_zp (av := fun ad => [.int x1]) C dRM_number_35 mfTr_isFilled mvTr_isFilled ln_RM_281 hb_31 (by decide) rfl (cTr_isFilled hV0.1 hb_31) rfl rfl (Nat.le_of_ble_eq_true rfl) ⟨Nat.le_of_ble_eq_true rfl, Nat.le_of_ble_eq_true rfl⟩ ⟨rfl, rfl⟩ ⟨Nat.zero_le _, Nat.zero_le _⟩ (fun z_35 b_35 p_35 => ?_)
        have rz_35 := rg z_35
        have u_35 := b_35
        unfold B01 at u_35
        try dsimp only at p_35
        refine gt_if_eq 47 C dRM_number_38 (by decide) rfl (fun c_38 => ?_) (fun c_38 => ?_)
        · skip
          refine g_aload_n C dRM_number_47 rfl ?_
          refine g_aload_n C dRM_number_48 rfl ?_
          refine gt_getS C dRM_number_49 fl_RM_64 h0 q_31 ?_
          refine g_iload_n C dRM_number_52 rfl ?_
          refine g_iload_n C dRM_number_53 rfl ?_
          refine s_callV_i (av := fun ad => [.int x1, .int x2]) C dRM_number_54 mfTr_add mvTr_add ln_RM_284 hb_31 (by decide) rfl hV0 fr_NN (cTr_add hV0.1 hb_31) rfl rfl (Nat.le_of_ble_eq_true rfl) ⟨Nat.le_of_ble_eq_true rfl, Nat.le_of_ble_eq_true rfl⟩ ⟨rfl, rfl⟩ ⟨Nat.zero_le _, Nat.zero_le _⟩ (fun Iw5 Jw5 hVw5 hFw5 z_54 p_54 => ?_)
          have rz_54 := rg z_54
          refine s_callV_i (av := fun ad => [.int z_54]) C dRM_number_57 mfRM_accept mvRM_accept ln_RM_122 h0 (by decide) rfl hVw5 fr_NN (cRM_accept hVw5.1 h0) rfl rfl (Nat.le_of_ble_eq_true rfl) ⟨Nat.le_of_ble_eq_true rfl, Nat.le_of_ble_eq_true rfl⟩ ⟨rfl, rfl⟩ ⟨Nat.zero_le _, Nat.zero_le _⟩ (fun Iw6 Jw6 hVw6 hFw6 z_57 p_57 => ?_)
          have rz_57 := rg z_57
          exact s_iret C E dRM_number_60 ⟨Nat.zero_le _, Nat.zero_le _⟩ hVw6 trivial
        · skip
          refine g_aload_n C dRM_number_41 rfl ?_
          refine g_iconst (v := Int32.ofInt (3)) C dRM_number_42 (by decide) ?_
          refine s_callV_i (av := fun ad => [.int (Int32.ofInt (3))]) C dRM_number_43 mfRM_refuse mvRM_refuse ln_RM_96 h0 (by decide) rfl hV0 fr_NN (cRM_refuse hV0.1 h0) rfl rfl (Nat.le_of_ble_eq_true rfl) ⟨Nat.le_of_ble_eq_true rfl, Nat.le_of_ble_eq_true rfl⟩ ⟨rfl, rfl⟩ ⟨Nat.zero_le _, Nat.zero_le _⟩ (fun Iw7 Jw7 hVw7 hFw7 z_43 p_43 => ?_)
          have rz_43 := rg z_43
          exact s_iret C E dRM_number_46 ⟨Nat.zero_le _, Nat.zero_le _⟩ hVw7 trivial
      · skip
        exact g_sub (jn_24  I0 J0  hV0) ⟨rfl, rfl, rfl, trivial⟩
  · skip
    refine g_aload_n C dRM_number_7 rfl ?_
    refine g_iconst (v := Int32.ofInt (1)) C dRM_number_8 (by decide) ?_
    refine s_callV_i (av := fun ad => [.int (Int32.ofInt (1))]) C dRM_number_9 mfRM_refuse mvRM_refuse ln_RM_96 h0 (by decide) rfl hV0 fr_NN (cRM_refuse hV0.1 h0) rfl rfl (Nat.le_of_ble_eq_true rfl) ⟨Nat.le_of_ble_eq_true rfl, Nat.le_of_ble_eq_true rfl⟩ ⟨rfl, rfl⟩ ⟨Nat.zero_le _, Nat.zero_le _⟩ (fun Iw8 Jw8 hVw8 hFw8 z_9 p_9 => ?_)
    have rz_9 := rg z_9
    exact s_iret C E dRM_number_12 ⟨Nat.zero_le _, Nat.zero_le _⟩ hVw8 trivial
set_option maxHeartbeats 4000000 in
set_option maxRecDepth 100000 in
theorem cRM_chance {P : List Nat} {K : Nat → Nat} {I0 : Nat → Nat → Int32} {O : Nat → Nat → Option Nat} {J0 : Nat → Nat → Int64} (hV : IV P K I0 O) {a0 : Nat} (h0 : a0 ∈ P ∧ K a0 = 8) : Con yRM_chance bRM_chance 1 (some .int) ({ frames := 19, cells := 0, slots := 0, locals := 454 } : Room) P K I0 O J0 [.ref a0] (SPo frN 1 (tt) P K I0 O J0) := by
  refine Con.ofG mfRM_chance (Nat.le_of_ble_eq_true rfl) ?_
  intro X C E
  have hV0 : SV frN P K O I0 J0 I0 J0 := SV.rf hV
  refine g_aload_n C dRM_chance_0 rfl ?_
  refine gt_getr C dRM_chance_1 fl_RM_64 h0 hV0.1.1 rfl (fun b_1 q_1 hb_1 => ?_)
  refine s_callV_zp (av := fun ad => []) C dRM_chance_4 mfTr_lacksRow mvTr_lacksRow ln_RM_288 hb_1 (by decide) rfl (cTr_lacksRow hV0.1 hb_1) rfl rfl (Nat.le_of_ble_eq_true rfl) ⟨Nat.le_of_ble_eq_true rfl, Nat.le_of_ble_eq_true rfl⟩ ⟨rfl, rfl⟩ ⟨Nat.zero_le _, Nat.zero_le _⟩ (fun z_4 b_4 p_4 => ?_)
  have rz_4 := rg z_4
  have u_4 := b_4
  unfold B01 at u_4
  refine gt_if_eq 18 C dRM_chance_7 (by decide) rfl (fun c_7 => ?_) (fun c_7 => ?_)
  · skip
    refine g_aload_n C dRM_chance_18 rfl ?_
    refine g_aload_n C dRM_chance_19 rfl ?_
    refine gt_getS C dRM_chance_20 fl_RM_64 h0 q_1 ?_
    refine s_callV_i (av := fun ad => []) C dRM_chance_23 mfTr_countNoLess mvTr_countNoLess ln_RM_291 hb_1 (by decide) rfl hV0 fr_NN (cTr_countNoLess hV0.1 hb_1) rfl rfl (Nat.le_of_ble_eq_true rfl) ⟨Nat.le_of_ble_eq_true rfl, Nat.le_of_ble_eq_true rfl⟩ ⟨rfl, rfl⟩ ⟨Nat.zero_le _, Nat.zero_le _⟩ (fun Iw2 Jw2 hVw2 hFw2 z_23 p_23 => ?_)
    have rz_23 := rg z_23
    refine s_callV_i (av := fun ad => [.int z_23]) C dRM_chance_26 mfRM_accept mvRM_accept ln_RM_122 h0 (by decide) rfl hVw2 fr_NN (cRM_accept hVw2.1 h0) rfl rfl (Nat.le_of_ble_eq_true rfl) ⟨Nat.le_of_ble_eq_true rfl, Nat.le_of_ble_eq_true rfl⟩ ⟨rfl, rfl⟩ ⟨Nat.zero_le _, Nat.zero_le _⟩ (fun Iw3 Jw3 hVw3 hFw3 z_26 p_26 => ?_)
    have rz_26 := rg z_26
    exact s_iret C E dRM_chance_29 ⟨Nat.zero_le _, Nat.zero_le _⟩ hVw3 trivial
  · skip
    refine g_aload_n C dRM_chance_10 rfl ?_
    refine g_iconst (v := Int32.ofInt (5)) C dRM_chance_11 (by decide) ?_
    refine s_callV_i (av := fun ad => [.int (Int32.ofInt (5))]) C dRM_chance_12 mfRM_refuse mvRM_refuse ln_RM_96 h0 (by decide) rfl hV0 fr_NN (cRM_refuse hV0.1 h0) rfl rfl (Nat.le_of_ble_eq_true rfl) ⟨Nat.le_of_ble_eq_true rfl, Nat.le_of_ble_eq_true rfl⟩ ⟨rfl, rfl⟩ ⟨Nat.zero_le _, Nat.zero_le _⟩ (fun Iw4 Jw4 hVw4 hFw4 z_12 p_12 => ?_)
    have rz_12 := rg z_12
    refine g_goto 29 C dRM_chance_15 (by decide) ?_
    exact s_iret C E dRM_chance_29 ⟨Nat.zero_le _, Nat.zero_le _⟩ hVw4 trivial
set_option maxHeartbeats 4000000 in
set_option maxRecDepth 100000 in
theorem cRM_splits {P : List Nat} {K : Nat → Nat} {I0 : Nat → Nat → Int32} {O : Nat → Nat → Option Nat} {J0 : Nat → Nat → Int64} (hV : IV P K I0 O) {a0 : Nat} (h0 : a0 ∈ P ∧ K a0 = 8) : Con yRM_splits bRM_splits 1 (some .int) ({ frames := 1, cells := 0, slots := 0, locals := 23 } : Room) P K I0 O J0 [.ref a0] (SPo frN 1 (tt) P K I0 O J0) := by
  refine Con.ofG mfRM_splits (Nat.le_of_ble_eq_true rfl) ?_
  intro X C E
  have hV0 : SV frN P K O I0 J0 I0 J0 := SV.rf hV
  refine g_aload_n C dRM_splits_0 rfl ?_
  refine gt_getr C dRM_splits_1 fl_RM_64 h0 hV0.1.1 rfl (fun b_1 q_1 hb_1 => ?_)
  refine s_callV_zp (av := fun ad => []) C dRM_splits_4 mfTr_lacksRow mvTr_lacksRow ln_RM_288 hb_1 (by decide) rfl (cTr_lacksRow hV0.1 hb_1) rfl rfl (Nat.le_of_ble_eq_true rfl) ⟨Nat.le_of_ble_eq_true rfl, Nat.le_of_ble_eq_true rfl⟩ ⟨rfl, rfl⟩ ⟨Nat.zero_le _, Nat.zero_le _⟩ (fun z_4 b_4 p_4 => ?_)
  have rz_4 := rg z_4
  have u_4 := b_4
  unfold B01 at u_4
  refine gt_if_eq 18 C dRM_splits_7 (by decide) rfl (fun c_7 => ?_) (fun c_7 => ?_)
  · skip
    refine g_aload_n C dRM_splits_18 rfl ?_
    refine g_aload_n C dRM_splits_19 rfl ?_
    refine gt_getS C dRM_splits_20 fl_RM_64 h0 q_1 ?_
    refine s_callV_ip (av := fun ad => []) C dRM_splits_23 mfTr_countAll mvTr_countAll ln_RM_294 hb_1 (by decide) rfl (cTr_countAll hV0.1 hb_1) rfl rfl (Nat.le_of_ble_eq_true rfl) ⟨Nat.le_of_ble_eq_true rfl, Nat.le_of_ble_eq_true rfl⟩ ⟨rfl, rfl⟩ ⟨Nat.zero_le _, Nat.zero_le _⟩ (fun z_23 p_23 => ?_)
    have rz_23 := rg z_23
    refine s_callV_i (av := fun ad => [.int z_23]) C dRM_splits_26 mfRM_accept mvRM_accept ln_RM_122 h0 (by decide) rfl hV0 fr_NN (cRM_accept hV0.1 h0) rfl rfl (Nat.le_of_ble_eq_true rfl) ⟨Nat.le_of_ble_eq_true rfl, Nat.le_of_ble_eq_true rfl⟩ ⟨rfl, rfl⟩ ⟨Nat.zero_le _, Nat.zero_le _⟩ (fun Iw3 Jw3 hVw3 hFw3 z_26 p_26 => ?_)
    have rz_26 := rg z_26
    exact s_iret C E dRM_splits_29 ⟨Nat.zero_le _, Nat.zero_le _⟩ hVw3 trivial
  · skip
    refine g_aload_n C dRM_splits_10 rfl ?_
    refine g_iconst (v := Int32.ofInt (5)) C dRM_splits_11 (by decide) ?_
    refine s_callV_i (av := fun ad => [.int (Int32.ofInt (5))]) C dRM_splits_12 mfRM_refuse mvRM_refuse ln_RM_96 h0 (by decide) rfl hV0 fr_NN (cRM_refuse hV0.1 h0) rfl rfl (Nat.le_of_ble_eq_true rfl) ⟨Nat.le_of_ble_eq_true rfl, Nat.le_of_ble_eq_true rfl⟩ ⟨rfl, rfl⟩ ⟨Nat.zero_le _, Nat.zero_le _⟩ (fun Iw4 Jw4 hVw4 hFw4 z_12 p_12 => ?_)
    have rz_12 := rg z_12
    refine g_goto 29 C dRM_splits_15 (by decide) ?_
    exact s_iret C E dRM_splits_29 ⟨Nat.zero_le _, Nat.zero_le _⟩ hVw4 trivial
set_option maxHeartbeats 4000000 in
set_option maxRecDepth 100000 in
theorem cRM_clear {P : List Nat} {K : Nat → Nat} {I0 : Nat → Nat → Int32} {O : Nat → Nat → Option Nat} {J0 : Nat → Nat → Int64} (hV : IV P K I0 O) {a0 : Nat} (h0 : a0 ∈ P ∧ K a0 = 8) : Con yRM_clear bRM_clear 1 (some .int) ({ frames := 1, cells := 0, slots := 0, locals := 21 } : Room) P K I0 O J0 [.ref a0] (SPo frN 1 (tt) P K I0 O J0) := by
  refine Con.ofG mfRM_clear (Nat.le_of_ble_eq_true rfl) ?_
  intro X C E
  have hV0 : SV frN P K O I0 J0 I0 J0 := SV.rf hV
  refine g_aload_n C dRM_clear_0 rfl ?_
  refine gt_getr C dRM_clear_1 fl_RM_64 h0 hV0.1.1 rfl (fun b_1 q_1 hb_1 => ?_)
  refine s_callV_i (av := fun ad => []) C dRM_clear_4 mfTr_drop mvTr_drop ln_RM_297 hb_1 (by decide) rfl hV0 fr_NN (cTr_drop hV0.1 hb_1) rfl rfl (Nat.le_of_ble_eq_true rfl) ⟨Nat.le_of_ble_eq_true rfl, Nat.le_of_ble_eq_true rfl⟩ ⟨rfl, rfl⟩ ⟨Nat.zero_le _, Nat.zero_le _⟩ (fun Iw1 Jw1 hVw1 hFw1 z_4 p_4 => ?_)
  have rz_4 := rg z_4
  exact s_iret C E dRM_clear_7 ⟨Nat.zero_le _, Nat.zero_le _⟩ hVw1 trivial
set_option maxHeartbeats 4000000 in
set_option maxRecDepth 100000 in
theorem cRM_marks {P : List Nat} {K : Nat → Nat} {I0 : Nat → Nat → Int32} {O : Nat → Nat → Option Nat} {J0 : Nat → Nat → Int64} (hV : IV P K I0 O) {a0 : Nat} (h0 : a0 ∈ P ∧ K a0 = 8) {x1 : Int32} {x2 : Int32} {x3 : Int32} {x4 : Int32} {x5 : Int32} {x6 : Int32} : Con yRM_marks bRM_marks 9 (some .int) ({ frames := 4, cells := 0, slots := 0, locals := 87 } : Room) P K I0 O J0 [.ref a0, .int x1, .int x2, .int x3, .int x4, .int x5, .int x6] (SPo frN 1 (tt) P K I0 O J0) := by
  refine Con.ofG mfRM_marks (Nat.le_of_ble_eq_true rfl) ?_
  intro X C E
  have r1 := rg x1
  have r2 := rg x2
  have r3 := rg x3
  have r4 := rg x4
  have r5 := rg x5
  have r6 := rg x6
  have hV0 : SV frN P K O I0 J0 I0 J0 := SV.rf hV
  refine g_aload_n C dRM_marks_0 rfl ?_
  refine g_iload C dRM_marks_1 rfl ?_
  refine s_callV_zp (av := fun ad => [.int x4]) C dRM_marks_3 mfRM_isSize mvRM_isSize ln_RM_164 h0 (by decide) rfl (cRM_isSize hV0.1 h0) rfl rfl (Nat.le_of_ble_eq_true rfl) ⟨Nat.le_of_ble_eq_true rfl, Nat.le_of_ble_eq_true rfl⟩ ⟨rfl, rfl⟩ ⟨Nat.zero_le _, Nat.zero_le _⟩ (fun z_3 b_3 p_3 => ?_)
  have rz_3 := rg z_3
  have u_3 := b_3
  unfold B01 at u_3
  try dsimp only at p_3
  have jn_25 : ∀   (Iw2 : Nat → Nat → Int32) (Jw2 : Nat → Nat → Int64),  SV frN P K O I0 J0 Iw2 Jw2 → GG X 9 P K Iw2 O Jw2 0 0 25 [(0, .ref a0), (1, .int x1), (2, .int x2), (3, .int x3), (4, .int x4), (5, .int x5), (6, .int x6)] [] := by
    intro Iw2 Jw2 hVw2
    refine g_aload_n C dRM_marks_25 rfl ?_
    refine g_iconst (v := Int32.ofInt (1)) C dRM_marks_26 (by decide) ?_
    refine s_callV_i (av := fun ad => [.int (Int32.ofInt (1))]) C dRM_marks_27 mfRM_refuse mvRM_refuse ln_RM_96 h0 (by decide) rfl hVw2 fr_NN (cRM_refuse hVw2.1 h0) rfl rfl (Nat.le_of_ble_eq_true rfl) ⟨Nat.le_of_ble_eq_true rfl, Nat.le_of_ble_eq_true rfl⟩ ⟨rfl, rfl⟩ ⟨Nat.zero_le _, Nat.zero_le _⟩ (fun Iw3 Jw3 hVw3 hFw3 z_27 p_27 => ?_)
    have rz_27 := rg z_27
    exact s_iret C E dRM_marks_30 ⟨Nat.zero_le _, Nat.zero_le _⟩ hVw3 trivial
  refine gt_if_eq 25 C dRM_marks_6 (by decide) rfl (fun c_6 => ?_) (fun c_6 => ?_)
  · skip
    exact g_sub (jn_25  I0 J0  hV0) ⟨rfl, rfl, rfl, rfl, rfl, rfl, rfl, trivial⟩
  · skip
    refine g_iload C dRM_marks_9 rfl ?_
    refine s_callS_zp (av := fun ad => [.int x5]) C dRM_marks_11 mfRM_isHour msRM_isHour ln_RM_212 (cRM_isHour hV0.1 ) rfl rfl (Nat.le_of_ble_eq_true rfl) ⟨Nat.le_of_ble_eq_true rfl, Nat.le_of_ble_eq_true rfl⟩ ⟨rfl, rfl⟩ ⟨Nat.zero_le _, Nat.zero_le _⟩ (fun z_11 b_11 p_11 => ?_)
    have rz_11 := rg z_11
    have u_11 := b_11
    unfold B01 at u_11
    try dsimp only at p_11
    refine gt_if_eq 25 C dRM_marks_14 (by decide) rfl (fun c_14 => ?_) (fun c_14 => ?_)
    · skip
      exact g_sub (jn_25  I0 J0  hV0) ⟨rfl, rfl, rfl, rfl, rfl, rfl, rfl, trivial⟩
    · skip
      refine g_iload C dRM_marks_17 rfl ?_
      refine s_callS_zp (av := fun ad => [.int x6]) C dRM_marks_19 mfRM_isHour msRM_isHour ln_RM_212 (cRM_isHour hV0.1 ) rfl rfl (Nat.le_of_ble_eq_true rfl) ⟨Nat.le_of_ble_eq_true rfl, Nat.le_of_ble_eq_true rfl⟩ ⟨rfl, rfl⟩ ⟨Nat.zero_le _, Nat.zero_le _⟩ (fun z_19 b_19 p_19 => ?_)
      have rz_19 := rg z_19
      have u_19 := b_19
      unfold B01 at u_19
      try dsimp only at p_19
      refine gt_if_ne 31 C dRM_marks_22 (by decide) rfl (fun c_22 => ?_) (fun c_22 => ?_)
      · skip
        refine g_iload_n C dRM_marks_31 rfl ?_
        refine g_iload_n C dRM_marks_32 rfl ?_
        refine g_iload_n C dRM_marks_33 rfl ?_
        refine s_callS_zp (av := fun ad => [.int x1, .int x2, .int x3]) C dRM_marks_34 mfRM_isStart msRM_isStart ln_RM_246 (cRM_isStart hV0.1 ) rfl rfl (Nat.le_of_ble_eq_true rfl) ⟨Nat.le_of_ble_eq_true rfl, Nat.le_of_ble_eq_true rfl⟩ ⟨rfl, rfl⟩ ⟨Nat.zero_le _, Nat.zero_le _⟩ (fun z_34 b_34 p_34 => ?_)
        have rz_34 := rg z_34
        have u_34 := b_34
        unfold B01 at u_34
        try dsimp only at p_34
        have jn_47 : ∀   (Iw7 : Nat → Nat → Int32) (Jw7 : Nat → Nat → Int64),  SV frN P K O I0 J0 Iw7 Jw7 → GG X 9 P K Iw7 O Jw7 0 0 47 [(0, .ref a0), (1, .int x1), (2, .int x2), (3, .int x3), (4, .int x4), (5, .int x5), (6, .int x6)] [] := by
          intro Iw7 Jw7 hVw7
          refine g_aload_n C dRM_marks_47 rfl ?_
          refine g_iconst (v := Int32.ofInt (2)) C dRM_marks_48 (by decide) ?_
          refine s_callV_i (av := fun ad => [.int (Int32.ofInt (2))]) C dRM_marks_49 mfRM_refuse mvRM_refuse ln_RM_96 h0 (by decide) rfl hVw7 fr_NN (cRM_refuse hVw7.1 h0) rfl rfl (Nat.le_of_ble_eq_true rfl) ⟨Nat.le_of_ble_eq_true rfl, Nat.le_of_ble_eq_true rfl⟩ ⟨rfl, rfl⟩ ⟨Nat.zero_le _, Nat.zero_le _⟩ (fun Iw8 Jw8 hVw8 hFw8 z_49 p_49 => ?_)
          have rz_49 := rg z_49
          exact s_iret C E dRM_marks_52 ⟨Nat.zero_le _, Nat.zero_le _⟩ hVw8 trivial
        refine gt_if_eq 47 C dRM_marks_37 (by decide) rfl (fun c_37 => ?_) (fun c_37 => ?_)
        · skip
          exact g_sub (jn_47  I0 J0  hV0) ⟨rfl, rfl, rfl, rfl, rfl, rfl, rfl, trivial⟩
        · skip
          refine g_iload C dRM_marks_40 rfl ?_
          refine g_iload C dRM_marks_42 rfl ?_
          refine gt_icmp_ge 53 C dRM_marks_44 (by decide) rfl rfl (fun c_44 => ?_) (fun c_44 => ?_)
          · skip
            refine g_aload_n C dRM_marks_53 rfl ?_
            refine gt_getr C dRM_marks_54 fl_RM_75 h0 hV0.1.1 rfl (fun b_54 q_54 hb_54 => ?_)
            refine g_aload_n C dRM_marks_57 rfl ?_
            refine gt_getr C dRM_marks_58 fl_RM_19 h0 hV0.1.1 rfl (fun b_58 q_58 hb_58 => ?_)
            refine g_iload_n C dRM_marks_61 rfl ?_
            refine g_iload_n C dRM_marks_62 rfl ?_
            refine g_iload_n C dRM_marks_63 rfl ?_
            refine s_callS_ip (av := fun ad => [.int x1, .int x2, .int x3]) C dRM_marks_64 mfRM_startOf msRM_startOf ln_RM_250 (cRM_startOf hV0.1 ) rfl rfl (Nat.le_of_ble_eq_true rfl) ⟨Nat.le_of_ble_eq_true rfl, Nat.le_of_ble_eq_true rfl⟩ ⟨rfl, rfl⟩ ⟨Nat.zero_le _, Nat.zero_le _⟩ (fun z_64 p_64 => ?_)
            have rz_64 := rg z_64
            refine s_callV_v (av := fun ad => [.ref b_58, .int z_64]) C dRM_marks_67 mfDr_beginStart mvDr_beginStart ln_RM_298 hb_54 (by decide) rfl hV0 fr_NN (cDr_beginStart hV0.1 hb_54 hb_58) rfl rfl (Nat.le_of_ble_eq_true rfl) ⟨Nat.le_of_ble_eq_true rfl, Nat.le_of_ble_eq_true rfl⟩ ⟨rfl, rfl⟩ ⟨Nat.zero_le _, Nat.zero_le _⟩ (fun Iw10 Jw10 hVw10 hFw10 p_67 => ?_)
            refine g_aload_n C dRM_marks_70 rfl ?_
            refine gt_getr C dRM_marks_71 fl_RM_71 h0 hVw10.1.1 rfl (fun b_71 q_71 hb_71 => ?_)
            refine s_callV_v (av := fun ad => []) C dRM_marks_74 mfLd_makeEmpty mvLd_makeEmpty ln_RM_302 hb_71 (by decide) rfl hVw10 fr_NN (cLd_makeEmpty hVw10.1 hb_71) rfl rfl (Nat.le_of_ble_eq_true rfl) ⟨Nat.le_of_ble_eq_true rfl, Nat.le_of_ble_eq_true rfl⟩ ⟨rfl, rfl⟩ ⟨Nat.zero_le _, Nat.zero_le _⟩ (fun Iw11 Jw11 hVw11 hFw11 p_74 => ?_)
            refine g_iconst (v := Int32.ofInt (0)) C dRM_marks_77 (by decide) ?_
            refine g_istore C dRM_marks_78 (by decide) ?_
            refine g_iconst (v := Int32.ofInt (0)) C dRM_marks_80 (by decide) ?_
            refine g_istore C dRM_marks_81 (by decide) ?_
            have lp_83 : ∀ (nn_83 : Nat) (x7_83 : Int32) (x8_83 : Int32) (Iw12 : Nat → Nat → Int32) (Jw12 : Nat → Nat → Int64), Int.toNat (12 - x8_83.toInt) = nn_83 → (0 ≤ Int32.toInt x8_83 ∧ Int32.toInt x8_83 ≤ 12) → SV frN P K O I0 J0 Iw12 Jw12 → GG X 9 P K Iw12 O Jw12 0 0 83 [(0, .ref a0), (1, .int x1), (2, .int x2), (3, .int x3), (4, .int x4), (5, .int x5), (6, .int x6), (7, .int x7_83), (8, .int x8_83)] [] := by
              intro nn_83
              induction nn_83 using Nat.strongRecOn with
              | ind nn_83 ih_83 =>
              intro x7_83 x8_83 Iw12 Jw12 hn_83 iv0_83 hVw12
              have rg7_83 := rg x7_83
              have rg8_83 := rg x8_83
              refine g_iload C dRM_marks_83 rfl ?_
              refine g_iload C dRM_marks_85 rfl ?_
              refine gt_icmp_gt 155 C dRM_marks_87 (by decide) rfl rfl (fun c_87 => ?_) (fun c_87 => ?_)
              · skip
                refine g_aload_n C dRM_marks_155 rfl ?_
                refine g_iload C dRM_marks_156 rfl ?_
                refine s_callV_i (av := fun ad => [.int x7_83]) C dRM_marks_158 mfRM_accept mvRM_accept ln_RM_122 h0 (by decide) rfl hVw12 fr_NN (cRM_accept hVw12.1 h0) rfl rfl (Nat.le_of_ble_eq_true rfl) ⟨Nat.le_of_ble_eq_true rfl, Nat.le_of_ble_eq_true rfl⟩ ⟨rfl, rfl⟩ ⟨Nat.zero_le _, Nat.zero_le _⟩ (fun Iw13 Jw13 hVw13 hFw13 z_158 p_158 => ?_)
                have rz_158 := rg z_158
                exact s_iret C E dRM_marks_161 ⟨Nat.zero_le _, Nat.zero_le _⟩ hVw13 trivial
              · skip
                refine g_iload C dRM_marks_90 rfl ?_
                refine g_iload C dRM_marks_92 rfl ?_
                have jn_110 : ∀   (Iw14 : Nat → Nat → Int32) (Jw14 : Nat → Nat → Int64),  SV frN P K O I0 J0 Iw14 Jw14 → GG X 9 P K Iw14 O Jw14 0 0 110 [(0, .ref a0), (1, .int x1), (2, .int x2), (3, .int x3), (4, .int x4), (5, .int x5), (6, .int x6), (7, .int x7_83), (8, .int x8_83)] [] := by
                  intro Iw14 Jw14 hVw14
                  refine g_aload_n C dRM_marks_110 rfl ?_
                  refine gt_getS C dRM_marks_111 fl_RM_75 h0 q_54 ?_
                  refine g_aload_n C dRM_marks_114 rfl ?_
                  refine gt_getS C dRM_marks_115 fl_RM_19 h0 q_58 ?_
                  refine g_aload_n C dRM_marks_118 rfl ?_
                  refine gt_getr C dRM_marks_119 fl_RM_37 h0 hVw14.1.1 rfl (fun b_119 q_119 hb_119 => ?_)
                  refine g_iload C dRM_marks_122 rfl ?_
                  refine g_iconst (v := Int32.ofInt (3)) C dRM_marks_124 (by decide) ?_
                  first | refine n_imul C dRM_marks_125 rfl (ofI (by decide)) (by omega) (fun z_125 e_125 => ?_) | refine a_imul C dRM_marks_125 (fun z_125 => ?_)
                  refine s_callV_v (av := fun ad => [.ref b_58, .ref b_119, .int z_125]) C dRM_marks_126 mfDr_runHour mvDr_runHour ln_RM_153 hb_54 (by decide) rfl hVw14 fr_NN (cDr_runHour hVw14.1 hb_54 hb_58 hb_119 ⟨by decide, rfl, rfl, fun _ _ => trivial, by decide⟩ (by omega)) rfl rfl (Nat.le_of_ble_eq_true rfl) ⟨Nat.le_of_ble_eq_true rfl, Nat.le_of_ble_eq_true rfl⟩ ⟨rfl, rfl⟩ ⟨Nat.zero_le _, Nat.zero_le _⟩ (fun Iw15 Jw15 hVw15 hFw15 p_126 => ?_)
                  refine g_iload C dRM_marks_129 rfl ?_
                  refine g_aload_n C dRM_marks_131 rfl ?_
                  refine g_aload_n C dRM_marks_132 rfl ?_
                  refine gt_getS C dRM_marks_133 fl_RM_37 h0 q_119 ?_
                  refine g_iload C dRM_marks_136 rfl ?_
                  refine g_iconst (v := Int32.ofInt (3)) C dRM_marks_138 (by decide) ?_
                  first | refine n_imul C dRM_marks_139 rfl (ofI (by decide)) (by omega) (fun z_139 e_139 => ?_) | refine a_imul C dRM_marks_139 (fun z_139 => ?_)
                  refine g_iconst (v := Int32.ofInt (1)) C dRM_marks_140 (by decide) ?_
                  first | refine n_iadd C dRM_marks_141 rfl (ofI (by decide)) (by omega) (fun z_141 e_141 => ?_) | refine a_iadd C dRM_marks_141 (fun z_141 => ?_)
                  refine gt_iald C dRM_marks_142 hb_119 (by decide) rfl rfl (n := 36) rfl (by omega) ?_
                  refine s_callV_i (av := fun ad => [.int (Iw15 b_119 z_141.toNatClampNeg)]) C dRM_marks_143 mfRM_leadMarks mvRM_leadMarks ln_RM_306 h0 (by decide) rfl hVw15 fr_NN (cRM_leadMarks hVw15.1 h0) rfl rfl (Nat.le_of_ble_eq_true rfl) ⟨Nat.le_of_ble_eq_true rfl, Nat.le_of_ble_eq_true rfl⟩ ⟨rfl, rfl⟩ ⟨Nat.zero_le _, Nat.zero_le _⟩ (fun Iw16 Jw16 hVw16 hFw16 z_143 p_143 => ?_)
                  have rz_143 := rg z_143
                  first | refine n_iadd C dRM_marks_146 rfl rfl (by omega) (fun z_146 e_146 => ?_) | refine a_iadd C dRM_marks_146 (fun z_146 => ?_)
                  refine g_istore C dRM_marks_147 (by decide) ?_
                  first | refine n_iinc C dRM_marks_149 rfl rfl (by decide) (by decide) (by omega) (fun z_149 e_149 => ?_) | refine a_iinc C dRM_marks_149 rfl (by decide) (fun z_149 => ?_)
                  refine g_goto 83 C dRM_marks_152 (by decide) ?_
                  exact g_sub (ih_83 _ (by omega) z_146 z_149 Iw16 Jw16 rfl (by omega) hVw16) ⟨rfl, rfl, rfl, rfl, rfl, rfl, rfl, rfl, rfl, trivial⟩
                refine gt_icmp_ne 110 C dRM_marks_94 (by decide) rfl rfl (fun c_94 => ?_) (fun c_94 => ?_)
                · skip
                  exact g_sub (jn_110  Iw12 Jw12  hVw12) ⟨rfl, rfl, rfl, rfl, rfl, rfl, rfl, rfl, rfl, trivial⟩
                · skip
                  refine g_aload_n C dRM_marks_97 rfl ?_
                  refine gt_getS C dRM_marks_98 fl_RM_71 h0 q_71 ?_
                  refine gt_getr C dRM_marks_101 fl_RM_170 hb_71 hVw12.1.1 rfl (fun b_101 q_101 hb_101 => ?_)
                  refine g_iload C dRM_marks_104 rfl ?_
                  refine g_ldcw (v := Int32.ofInt (1000000)) C dRM_marks_106 k_RM_305 ?_
                  refine gt_iast C dRM_marks_109 hb_101 (by decide) rfl rfl (n := 5) rfl (by omega) hVw12 rfl trivial (fun Iw17 eIw17 hVw17 => ?_)
                  exact g_sub (jn_110  Iw17 Jw12  hVw17) ⟨rfl, rfl, rfl, rfl, rfl, rfl, rfl, rfl, rfl, trivial⟩
            exact g_sub (lp_83 _ (Int32.ofInt (0)) (Int32.ofInt (0)) Iw11 Jw11 rfl (by have hci : Int32.toInt (Int32.ofInt (0)) = 0 := ofI (by decide); omega) hVw11) ⟨rfl, rfl, rfl, rfl, rfl, rfl, rfl, rfl, rfl, trivial⟩
          · skip
            exact g_sub (jn_47  I0 J0  hV0) ⟨rfl, rfl, rfl, rfl, rfl, rfl, rfl, trivial⟩
      · skip
        exact g_sub (jn_25  I0 J0  hV0) ⟨rfl, rfl, rfl, rfl, rfl, rfl, rfl, trivial⟩
set_option maxHeartbeats 4000000 in
set_option maxRecDepth 100000 in
theorem cRM_size {P : List Nat} {K : Nat → Nat} {I0 : Nat → Nat → Int32} {O : Nat → Nat → Option Nat} {J0 : Nat → Nat → Int64} (hV : IV P K I0 O) {a0 : Nat} (h0 : a0 ∈ P ∧ K a0 = 8) {x1 : Int32} : Con yRM_size bRM_size 2 (some .int) ({ frames := 1, cells := 0, slots := 0, locals := 21 } : Room) P K I0 O J0 [.ref a0, .int x1] (SPo frP 1 (tt) P K I0 O J0) := by
  refine Con.ofG mfRM_size (Nat.le_of_ble_eq_true rfl) ?_
  intro X C E
  have r1 := rg x1
  have hV0 : SV frP P K O I0 J0 I0 J0 := SV.rf hV
  refine g_iload_n C dRM_size_0 rfl ?_
  by_cases q_1 : x1.toInt < 0 ∨ 11 < x1.toInt
  · refine g_tOut 164 C dRM_size_1 q_1 (by decide) ?_
    refine g_iconst (v := Int32.ofInt (-1)) C dRM_size_164 (by decide) ?_
    exact s_iret C E dRM_size_165 ⟨Nat.zero_le _, Nat.zero_le _⟩ hV0 trivial
  rcases (show x1.toInt = 0 ∨ x1.toInt = 1 ∨ x1.toInt = 2 ∨ x1.toInt = 3 ∨ x1.toInt = 4 ∨ x1.toInt = 5 ∨ x1.toInt = 6 ∨ x1.toInt = 7 ∨ x1.toInt = 8 ∨ x1.toInt = 9 ∨ x1.toInt = 10 ∨ x1.toInt = 11 by omega) with q_1 | q_1 | q_1 | q_1 | q_1 | q_1 | q_1 | q_1 | q_1 | q_1 | q_1 | q_1
  · refine g_tIn 64 C dRM_size_1 (by omega) (by omega) (by rw [q_1]; rfl) (by decide) ?_
    refine g_aload_n C dRM_size_64 rfl ?_
    refine gt_getr C dRM_size_65 fl_RM_19 h0 hV0.1.1 rfl (fun b_65 q_65 hb_65 => ?_)
    refine g_geti C dRM_size_68 fl_RM_119 hb_65 ?_
    exact s_iret C E dRM_size_71 ⟨Nat.zero_le _, Nat.zero_le _⟩ hV0 trivial
  · refine g_tIn 72 C dRM_size_1 (by omega) (by omega) (by rw [q_1]; rfl) (by decide) ?_
    refine g_aload_n C dRM_size_72 rfl ?_
    refine gt_getr C dRM_size_73 fl_RM_19 h0 hV0.1.1 rfl (fun b_73 q_73 hb_73 => ?_)
    refine g_geti C dRM_size_76 fl_RM_319 hb_73 ?_
    exact s_iret C E dRM_size_79 ⟨Nat.zero_le _, Nat.zero_le _⟩ hV0 trivial
  · refine g_tIn 80 C dRM_size_1 (by omega) (by omega) (by rw [q_1]; rfl) (by decide) ?_
    refine g_aload_n C dRM_size_80 rfl ?_
    refine gt_getr C dRM_size_81 fl_RM_19 h0 hV0.1.1 rfl (fun b_81 q_81 hb_81 => ?_)
    refine g_geti C dRM_size_84 fl_RM_322 hb_81 ?_
    exact s_iret C E dRM_size_87 ⟨Nat.zero_le _, Nat.zero_le _⟩ hV0 trivial
  · refine g_tIn 88 C dRM_size_1 (by omega) (by omega) (by rw [q_1]; rfl) (by decide) ?_
    refine g_aload_n C dRM_size_88 rfl ?_
    refine gt_getr C dRM_size_89 fl_RM_19 h0 hV0.1.1 rfl (fun b_89 q_89 hb_89 => ?_)
    refine g_geti C dRM_size_92 fl_RM_325 hb_89 ?_
    exact s_iret C E dRM_size_95 ⟨Nat.zero_le _, Nat.zero_le _⟩ hV0 trivial
  · refine g_tIn 96 C dRM_size_1 (by omega) (by omega) (by rw [q_1]; rfl) (by decide) ?_
    refine g_aload_n C dRM_size_96 rfl ?_
    refine gt_getr C dRM_size_97 fl_RM_19 h0 hV0.1.1 rfl (fun b_97 q_97 hb_97 => ?_)
    refine g_geti C dRM_size_100 fl_RM_328 hb_97 ?_
    refine g_iconst (v := Int32.ofInt (0)) C dRM_size_103 (by decide) ?_
    refine gt_max C dRM_size_104 ml_RM_331 (Nat.le_of_ble_eq_true rfl) ⟨Nat.le_of_ble_eq_true rfl, Nat.le_of_ble_eq_true rfl⟩ ⟨Nat.zero_le _, Nat.zero_le _⟩ (fun z_104 e_104 => ?_)
    have k_104 : Int32.toInt (Int32.ofInt (0)) = 0 := ofI (by decide)
    exact s_iret C E dRM_size_107 ⟨Nat.zero_le _, Nat.zero_le _⟩ hV0 trivial
  · refine g_tIn 108 C dRM_size_1 (by omega) (by omega) (by rw [q_1]; rfl) (by decide) ?_
    refine g_aload_n C dRM_size_108 rfl ?_
    refine gt_getr C dRM_size_109 fl_RM_19 h0 hV0.1.1 rfl (fun b_109 q_109 hb_109 => ?_)
    refine g_geti C dRM_size_112 fl_RM_336 hb_109 ?_
    exact s_iret C E dRM_size_115 ⟨Nat.zero_le _, Nat.zero_le _⟩ hV0 trivial
  · refine g_tIn 116 C dRM_size_1 (by omega) (by omega) (by rw [q_1]; rfl) (by decide) ?_
    refine g_aload_n C dRM_size_116 rfl ?_
    refine gt_getr C dRM_size_117 fl_RM_19 h0 hV0.1.1 rfl (fun b_117 q_117 hb_117 => ?_)
    refine g_geti C dRM_size_120 fl_RM_339 hb_117 ?_
    exact s_iret C E dRM_size_123 ⟨Nat.zero_le _, Nat.zero_le _⟩ hV0 trivial
  · refine g_tIn 124 C dRM_size_1 (by omega) (by omega) (by rw [q_1]; rfl) (by decide) ?_
    refine g_aload_n C dRM_size_124 rfl ?_
    refine gt_getr C dRM_size_125 fl_RM_19 h0 hV0.1.1 rfl (fun b_125 q_125 hb_125 => ?_)
    refine g_geti C dRM_size_128 fl_RM_342 hb_125 ?_
    exact s_iret C E dRM_size_131 ⟨Nat.zero_le _, Nat.zero_le _⟩ hV0 trivial
  · refine g_tIn 132 C dRM_size_1 (by omega) (by omega) (by rw [q_1]; rfl) (by decide) ?_
    refine g_aload_n C dRM_size_132 rfl ?_
    refine gt_getr C dRM_size_133 fl_RM_19 h0 hV0.1.1 rfl (fun b_133 q_133 hb_133 => ?_)
    refine g_geti C dRM_size_136 fl_RM_345 hb_133 ?_
    exact s_iret C E dRM_size_139 ⟨Nat.zero_le _, Nat.zero_le _⟩ hV0 trivial
  · refine g_tIn 140 C dRM_size_1 (by omega) (by omega) (by rw [q_1]; rfl) (by decide) ?_
    refine g_aload_n C dRM_size_140 rfl ?_
    refine gt_getr C dRM_size_141 fl_RM_19 h0 hV0.1.1 rfl (fun b_141 q_141 hb_141 => ?_)
    refine g_geti C dRM_size_144 fl_RM_348 hb_141 ?_
    exact s_iret C E dRM_size_147 ⟨Nat.zero_le _, Nat.zero_le _⟩ hV0 trivial
  · refine g_tIn 148 C dRM_size_1 (by omega) (by omega) (by rw [q_1]; rfl) (by decide) ?_
    refine g_aload_n C dRM_size_148 rfl ?_
    refine gt_getr C dRM_size_149 fl_RM_50 h0 hV0.1.1 rfl (fun b_149 q_149 hb_149 => ?_)
    refine g_geti C dRM_size_152 fl_RM_351 hb_149 ?_
    exact s_iret C E dRM_size_155 ⟨Nat.zero_le _, Nat.zero_le _⟩ hV0 trivial
  · refine g_tIn 156 C dRM_size_1 (by omega) (by omega) (by rw [q_1]; rfl) (by decide) ?_
    refine g_aload_n C dRM_size_156 rfl ?_
    refine gt_getr C dRM_size_157 fl_RM_12 h0 hV0.1.1 rfl (fun b_157 q_157 hb_157 => ?_)
    refine g_geti C dRM_size_160 fl_RM_93 hb_157 ?_
    exact s_iret C E dRM_size_163 ⟨Nat.zero_le _, Nat.zero_le _⟩ hV0 trivial
set_option maxHeartbeats 4000000 in
set_option maxRecDepth 100000 in
theorem cRM_trouble {P : List Nat} {K : Nat → Nat} {I0 : Nat → Nat → Int32} {O : Nat → Nat → Option Nat} {J0 : Nat → Nat → Int64} (hV : IV P K I0 O) {a0 : Nat} (h0 : a0 ∈ P ∧ K a0 = 8) : Con yRM_trouble bRM_trouble 1 (some .int) ({ frames := 0, cells := 0, slots := 0, locals := 0 } : Room) P K I0 O J0 [.ref a0] (SPo frP 1 (tt) P K I0 O J0) := by
  refine Con.ofG mfRM_trouble (Nat.le_of_ble_eq_true rfl) ?_
  intro X C E
  have hV0 : SV frP P K O I0 J0 I0 J0 := SV.rf hV
  refine g_aload_n C dRM_trouble_0 rfl ?_
  refine g_geti C dRM_trouble_1 fl_RM_81 h0 ?_
  exact s_iret C E dRM_trouble_4 ⟨Nat.zero_le _, Nat.zero_le _⟩ hV0 trivial
