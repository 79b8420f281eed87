set_option maxHeartbeats 4000000 in
set_option maxRecDepth 100000 in
theorem cMo_begins_G {P : List Nat} {K : Nat → Nat} {I0 : Nat → Nat → Int32} {O : Nat → Nat → Option Nat} {J0 : Nat → Nat → Int64} (hV : IV P K I0 O) {a0 : Nat} (h0 : a0 ∈ P ∧ K a0 = 10) {a1 : Nat} (h1 : a1 ∈ P ∧ K a1 = 49) {x2 : Int32} {x3 : Int32} {x4 : Int32} {M : Nat} (hMo : O a0 3 = some M) (hMk : M ∈ P ∧ K M = 9) (hGM : GM I0 M) : Con yMo_begins bMo_begins 6 none ({ frames := 0, cells := 0, slots := 0, locals := 0 } : Room) P K I0 O J0 [.ref a0, .ref a1, .int x2, .int x3, .int x4] (SPo frX49 0 (fun _ I_ => Int32.toInt (I_ a1 27) = 0) P K I0 O J0) := by
  refine Con.ofG mfMo_begins (Nat.le_of_ble_eq_true rfl) ?_
  intro X C E
  have r2 := rg x2
  have r3 := rg x3
  have r4 := rg x4
  have hV0 : SV frX49 P K O I0 J0 I0 J0 := SV.rf hV
  refine g_iconst (v := Int32.ofInt (0)) C dMo_begins_0 (by decide) ?_
  refine g_istore C dMo_begins_1 (by decide) ?_
  have lp_3 : ∀ (nn_3 : Nat) (x5_3 : Int32) (Iw1 : Nat → Nat → Int32) (Jw1 : Nat → Nat → Int64), Int.toNat (37 - x5_3.toInt) = nn_3 → (0 ≤ Int32.toInt x5_3 ∧ Int32.toInt x5_3 ≤ 37) → (Int32.toInt x5_3 ≤ 27 ∨ Int32.toInt (Iw1 a1 27) = 0) → SV frX49 P K O I0 J0 Iw1 Jw1 → GG X 6 P K Iw1 O Jw1 0 0 3 [(0, .ref a0), (1, .ref a1), (2, .int x2), (3, .int x3), (4, .int x4), (5, .int x5_3)] [] := by
    intro nn_3
    induction nn_3 using Nat.strongRecOn with
    | ind nn_3 ih_3 =>
    intro x5_3 Iw1 Jw1 hn_3 iv0_3 iv1_3 hVw1
    have rg5_3 := rg x5_3
    refine g_iload C dMo_begins_3 rfl ?_
    refine g_bipush (v := Int32.ofInt (37)) C dMo_begins_5 (by decide) ?_
    refine gt_icmp_ge 21 C dMo_begins_7 (by decide) rfl (ofI (by decide)) (fun c_7 => ?_) (fun c_7 => ?_)
    · skip
      refine g_iconst (v := Int32.ofInt (0)) C dMo_begins_21 (by decide) ?_
      refine g_istore C dMo_begins_22 (by decide) ?_
      have lp_24 : ∀ (nn_24 : Nat) (x5_24 : Int32) (Iw2 : Nat → Nat → Int32) (Jw2 : Nat → Nat → Int64), Int.toNat (5 - x5_24.toInt) = nn_24 → (0 ≤ Int32.toInt x5_24 ∧ Int32.toInt x5_24 ≤ 5) → (Int32.toInt (Iw2 a1 27) = 0) → SV frX49 P K O I0 J0 Iw2 Jw2 → GG X 6 P K Iw2 O Jw2 0 0 24 [(0, .ref a0), (1, .ref a1), (2, .int x2), (3, .int x3), (4, .int x4), (5, .int x5_24)] [] := by
        intro nn_24
        induction nn_24 using Nat.strongRecOn with
        | ind nn_24 ih_24 =>
        intro x5_24 Iw2 Jw2 hn_24 iv0_24 iv1_24 hVw2
        have rg5_24 := rg x5_24
        refine g_iload C dMo_begins_24 rfl ?_
        refine g_aload_n C dMo_begins_26 rfl ?_
        refine gt_getS C dMo_begins_27 fl_Mo_290 h0 hMo ?_
        refine g_geti C dMo_begins_30 fl_Mo_191 hMk ?_
        have o_30 := hVw2.1.2 M hMk.1 8
        rw [hMk.2] at o_30
        have o_30 : 0 ≤ (Iw2 M 8).toInt ∧ (Iw2 M 8).toInt ≤ 5 := o_30
        refine gt_icmp_ge 61 C dMo_begins_33 (by decide) rfl rfl (fun c_33 => ?_) (fun c_33 => ?_)
        · skip
          refine g_aload_n C dMo_begins_61 rfl ?_
          refine g_bipush (v := Int32.ofInt (25)) C dMo_begins_62 (by decide) ?_
          refine g_iload_n C dMo_begins_64 rfl ?_
          refine gt_iastc (c := 25) C dMo_begins_65 h1 (by decide) rfl (ofI (by decide)) (n := 37) rfl (by decide) (by decide) hVw2 rfl trivial (fun Iw3 eIw3 hVw3 => ?_)
          have tkw3_a1_27 : (Iw3 a1 27).toInt = (Iw2 a1 27).toInt := by rw [eIw3, up2_ne _ _ (fun z => absurd z.2 (by decide))]
          refine g_aload_n C dMo_begins_66 rfl ?_
          refine g_bipush (v := Int32.ofInt (24)) C dMo_begins_67 (by decide) ?_
          refine g_iload_n C dMo_begins_69 rfl ?_
          refine g_aload_n C dMo_begins_70 rfl ?_
          refine gt_getS C dMo_begins_71 fl_Mo_290 h0 hMo ?_
          refine g_geti C dMo_begins_74 fl_Mo_183 hMk ?_
          have gm_74 : 1 ≤ (Iw3 M 4).toInt := (hGM.keep (hVw3.2 M (by rw [hMk.2]; rfl)).1).2.1
          refine a_imul C dMo_begins_77 (fun z_77 => ?_)
          refine g_iconst (v := Int32.ofInt (4)) C dMo_begins_78 (by decide) ?_
          refine gt_idiv 4 C dMo_begins_79 rfl (ofI (by decide)) (by decide) (fun z_79 e_79 => ?_)
          refine gt_iastc (c := 24) C dMo_begins_80 h1 (by decide) rfl (ofI (by decide)) (n := 37) rfl (by decide) (by decide) hVw3 rfl trivial (fun Iw4 eIw4 hVw4 => ?_)
          have tkw4_a1_27 : (Iw4 a1 27).toInt = (Iw3 a1 27).toInt := by rw [eIw4, up2_ne _ _ (fun z => absurd z.2 (by decide))]
          refine g_aload_n C dMo_begins_81 rfl ?_
          refine g_bipush (v := Int32.ofInt (20)) C dMo_begins_82 (by decide) ?_
          refine g_aload_n C dMo_begins_84 rfl ?_
          refine gt_getS C dMo_begins_85 fl_Mo_290 h0 hMo ?_
          refine g_geti C dMo_begins_88 fl_Mo_186 hMk ?_
          refine g_iconst (v := Int32.ofInt (2)) C dMo_begins_91 (by decide) ?_
          refine gt_idiv 2 C dMo_begins_92 rfl (ofI (by decide)) (by decide) (fun z_92 e_92 => ?_)
          refine gt_iastc (c := 20) C dMo_begins_93 h1 (by decide) rfl (ofI (by decide)) (n := 37) rfl (by decide) (by decide) hVw4 rfl trivial (fun Iw5 eIw5 hVw5 => ?_)
          have tkw5_a1_27 : (Iw5 a1 27).toInt = (Iw4 a1 27).toInt := by rw [eIw5, up2_ne _ _ (fun z => absurd z.2 (by decide))]
          exact s_vret C E dMo_begins_94 ⟨Nat.zero_le _, Nat.zero_le _⟩ hVw5 (by (try dsimp only); omega)
        · skip
          refine g_aload_n C dMo_begins_36 rfl ?_
          refine g_iconst (v := Int32.ofInt (0)) C dMo_begins_37 (by decide) ?_
          refine g_iload C dMo_begins_38 rfl ?_
          first | refine n_iadd C dMo_begins_40 (ofI (by decide)) rfl (by omega) (fun z_40 e_40 => ?_) | refine a_iadd C dMo_begins_40 (fun z_40 => ?_)
          refine g_iload C dMo_begins_41 rfl ?_
          refine g_aload_n C dMo_begins_43 rfl ?_
          refine gt_getS C dMo_begins_44 fl_Mo_290 h0 hMo ?_
          refine gt_getr C dMo_begins_47 fl_Mo_278 hMk hVw2.1.1 rfl (fun b_47 q_47 hb_47 => ?_)
          refine g_iload C dMo_begins_50 rfl ?_
          refine gt_iald C dMo_begins_52 hb_47 (by decide) rfl rfl (n := 20) rfl (by omega) ?_
          refine a_imul C dMo_begins_53 (fun z_53 => ?_)
          refine gt_iast C dMo_begins_54 h1 (by decide) rfl rfl (n := 37) rfl (by omega) hVw2 rfl (okS (by decide) (by have q : z_40.toNatClampNeg = Int.toNat (z_40.toInt) := rfl; omega) (by have q : z_40.toNatClampNeg = Int.toNat (z_40.toInt) := rfl; omega)) (fun Iw6 eIw6 hVw6 => ?_)
          have tkw6_a1_27 : (Iw6 a1 27).toInt = (Iw2 a1 27).toInt := by rw [eIw6, up2_ne _ _ (fun z => by have q : z_40.toNatClampNeg = Int.toNat (z_40.toInt) := rfl; omega)]
          first | refine n_iinc C dMo_begins_55 rfl rfl (by decide) (by decide) (by omega) (fun z_55 e_55 => ?_) | refine a_iinc C dMo_begins_55 rfl (by decide) (fun z_55 => ?_)
          refine g_goto 24 C dMo_begins_58 (by decide) ?_
          exact g_sub (ih_24 _ (by omega) z_55 Iw6 Jw2 rfl (by omega) (by omega) hVw6) ⟨rfl, rfl, rfl, rfl, rfl, rfl, trivial⟩
      exact g_sub (lp_24 _ (Int32.ofInt (0)) Iw1 Jw1 rfl (by have hci : Int32.toInt (Int32.ofInt (0)) = 0 := ofI (by decide); omega) (by omega) hVw1) ⟨rfl, rfl, rfl, rfl, rfl, rfl, trivial⟩
    · skip
      refine g_aload_n C dMo_begins_10 rfl ?_
      refine g_iload C dMo_begins_11 rfl ?_
      refine g_iconst (v := Int32.ofInt (0)) C dMo_begins_13 (by decide) ?_
      refine gt_iast C dMo_begins_14 h1 (by decide) rfl rfl (n := 37) rfl (by omega) hVw1 rfl (okS_0 (by decide)) (fun Iw7 eIw7 hVw7 => ?_)
      have tkw7_a1_27 : (x5_3.toInt = 27 ∧ (Iw7 a1 27).toInt = 0) ∨ (¬ x5_3.toInt = 27 ∧ (Iw7 a1 27).toInt = (Iw1 a1 27).toInt) := by rw [eIw7]; exact up2_dis (by omega) (ofI (by decide))
      first | refine n_iinc C dMo_begins_15 rfl rfl (by decide) (by decide) (by omega) (fun z_15 e_15 => ?_) | refine a_iinc C dMo_begins_15 rfl (by decide) (fun z_15 => ?_)
      refine g_goto 3 C dMo_begins_18 (by decide) ?_
      exact g_sub (ih_3 _ (by omega) z_15 Iw7 Jw1 rfl (by omega) (by omega) hVw7) ⟨rfl, rfl, rfl, rfl, rfl, rfl, trivial⟩
  exact g_sub (lp_3 _ (Int32.ofInt (0)) I0 J0 rfl (by have hci : Int32.toInt (Int32.ofInt (0)) = 0 := ofI (by decide); omega) (by have hci : Int32.toInt (Int32.ofInt (0)) = 0 := ofI (by decide); omega) hV0) ⟨rfl, rfl, rfl, rfl, rfl, rfl, trivial⟩
set_option maxHeartbeats 4000000 in
set_option maxRecDepth 100000 in
theorem cMo_byProgram_G {P : List Nat} {K : Nat → Nat} {I0 : Nat → Nat → Int32} {O : Nat → Nat → Option Nat} {J0 : Nat → Nat → Int64} (hV : IV P K I0 O) {a0 : Nat} (h0 : a0 ∈ P ∧ K a0 = 10) {a1 : Nat} (h1 : a1 ∈ P ∧ K a1 = 49) {x2 : Int32} {M : Nat} (hMo : O a0 3 = some M) (hMk : M ∈ P ∧ K M = 9) (hGM : GM I0 M) (pr0 : 0 ≤ Int32.toInt x2 ∧ Int32.toInt x2 ≤ 11) (pr1 : Int32.toInt (I0 a1 27) ≤ 251) : Con yMo_byProgram bMo_byProgram 3 none ({ frames := 3, cells := 0, slots := 0, locals := 75 } : Room) P K I0 O J0 [.ref a0, .ref a1, .int x2] (SPo frX49 0 (fun _ I_ => Int32.toInt (I_ a1 27) = Int32.toInt (I0 a1 27) + 1) P K I0 O J0) := by
  refine Con.ofG mfMo_byProgram (Nat.le_of_ble_eq_true rfl) ?_
  intro X C E
  have r2 := rg x2
  have hV0 : SV frX49 P K O I0 J0 I0 J0 := SV.rf hV
  refine g_aload_n C dMo_byProgram_0 rfl ?_
  refine g_bipush (v := Int32.ofInt (34)) C dMo_byProgram_1 (by decide) ?_
  refine g_aload_n C dMo_byProgram_3 rfl ?_
  refine gt_getr C dMo_byProgram_4 fl_Mo_27 h0 hV0.1.1 rfl (fun b_4 q_4 hb_4 => ?_)
  refine g_iload_n C dMo_byProgram_7 rfl ?_
  refine gt_iald C dMo_byProgram_8 hb_4 (by decide) rfl rfl (n := 12) rfl (by omega) ?_
  refine gt_iastc (c := 34) C dMo_byProgram_9 h1 (by decide) rfl (ofI (by decide)) (n := 37) rfl (by decide) (by decide) hV0 rfl trivial (fun Iw1 eIw1 hVw1 => ?_)
  have tkw1_a1_27 : (Iw1 a1 27).toInt = (I0 a1 27).toInt := by rw [eIw1, up2_ne _ _ (fun z => absurd z.2 (by decide))]
  refine g_aload_n C dMo_byProgram_10 rfl ?_
  refine g_bipush (v := Int32.ofInt (35)) C dMo_byProgram_11 (by decide) ?_
  refine g_aload_n C dMo_byProgram_13 rfl ?_
  refine gt_getr C dMo_byProgram_14 fl_Mo_30 h0 hVw1.1.1 rfl (fun b_14 q_14 hb_14 => ?_)
  refine g_iload_n C dMo_byProgram_17 rfl ?_
  refine gt_iald C dMo_byProgram_18 hb_14 (by decide) rfl rfl (n := 12) rfl (by omega) ?_
  refine gt_iastc (c := 35) C dMo_byProgram_19 h1 (by decide) rfl (ofI (by decide)) (n := 37) rfl (by decide) (by decide) hVw1 rfl trivial (fun Iw2 eIw2 hVw2 => ?_)
  have tkw2_a1_27 : (Iw2 a1 27).toInt = (Iw1 a1 27).toInt := by rw [eIw2, up2_ne _ _ (fun z => absurd z.2 (by decide))]
  refine g_aload_n C dMo_byProgram_20 rfl ?_
  refine g_bipush (v := Int32.ofInt (36)) C dMo_byProgram_21 (by decide) ?_
  refine g_aload_n C dMo_byProgram_23 rfl ?_
  refine gt_getr C dMo_byProgram_24 fl_Mo_33 h0 hVw2.1.1 rfl (fun b_24 q_24 hb_24 => ?_)
  refine g_iload_n C dMo_byProgram_27 rfl ?_
  refine gt_iald C dMo_byProgram_28 hb_24 (by decide) rfl rfl (n := 12) rfl (by omega) ?_
  have o_28 := hVw2.1.2 b_24 hb_24.1 x2.toNatClampNeg
  rw [hb_24.2] at o_28
  have o_28 : 0 ≤ (Iw2 b_24 x2.toNatClampNeg).toInt ∧ (Iw2 b_24 x2.toNatClampNeg).toInt ≤ 3 := o_28
  refine gt_iastc (c := 36) C dMo_byProgram_29 h1 (by decide) rfl (ofI (by decide)) (n := 37) rfl (by decide) (by decide) hVw2 rfl (by show 0 ≤ Int32.toInt _ ∧ Int32.toInt _ ≤ 3; omega) (fun Iw3 eIw3 hVw3 => ?_)
  have tkw3_a1_27 : (Iw3 a1 27).toInt = (Iw2 a1 27).toInt := by rw [eIw3, up2_ne _ _ (fun z => absurd z.2 (by decide))]
  refine g_aload_n C dMo_byProgram_30 rfl ?_
  refine g_aload_n C dMo_byProgram_31 rfl ?_
  refine s_callV_v (av := fun ad => [.ref a1]) C dMo_byProgram_32 mfMo_goes mvMo_goes ln_Mo_332 h0 (by decide) rfl hVw3 (frL_le (by decide)) (cMo_goes_G49 hVw3.1 h0 h1 hMo hMk (hGM.keep (hVw3.2 M (by rw [hMk.2]; rfl)).1) (by omega)) rfl rfl (Nat.le_of_ble_eq_true rfl) ⟨Nat.le_of_ble_eq_true rfl, Nat.le_of_ble_eq_true rfl⟩ ⟨rfl, rfl⟩ ⟨Nat.zero_le _, Nat.zero_le _⟩ (fun Iw4 Jw4 hVw4 hFw4 p_32 => ?_)
  try dsimp only at p_32
  exact s_vret C E dMo_byProgram_35 ⟨Nat.zero_le _, Nat.zero_le _⟩ hVw4 (by (try dsimp only); omega)
set_option maxHeartbeats 4000000 in
set_option maxRecDepth 100000 in
theorem cMo_hourOf {P : List Nat} {K : Nat → Nat} {I0 : Nat → Nat → Int32} {O : Nat → Nat → Option Nat} {J0 : Nat → Nat → Int64} (hV : IV P K I0 O) {a0 : Nat} (h0 : a0 ∈ P ∧ K a0 = 10) {x1 : Int32} {x2 : Int32} {x3 : Int32} (pr0 : 0 ≤ Int32.toInt x1 ∧ Int32.toInt x1 ≤ 23) : Con yMo_hourOf bMo_hourOf 5 (some .int) ({ frames := 0, cells := 0, slots := 0, locals := 0 } : Room) P K I0 O J0 [.ref a0, .int x1, .int x2, .int x3] (SPo frP 1 (tt) P K I0 O J0) := by
  refine Con.ofG mfMo_hourOf (Nat.le_of_ble_eq_true rfl) ?_
  intro X C E
  have r1 := rg x1
  have r2 := rg x2
  have r3 := rg x3
  have hV0 : SV frP P K O I0 J0 I0 J0 := SV.rf hV
  refine g_aload_n C dMo_hourOf_0 rfl ?_
  refine gt_getr C dMo_hourOf_1 fl_Mo_36 h0 hV0.1.1 rfl (fun b_1 q_1 hb_1 => ?_)
  refine g_iload_n C dMo_hourOf_4 rfl ?_
  refine gt_iald C dMo_hourOf_5 hb_1 (by decide) rfl rfl (n := 24) rfl (by omega) ?_
  refine g_istore C dMo_hourOf_6 (by decide) ?_
  refine g_aload_n C dMo_hourOf_8 rfl ?_
  refine gt_getr C dMo_hourOf_9 fl_Mo_39 h0 hV0.1.1 rfl (fun b_9 q_9 hb_9 => ?_)
  refine g_iload_n C dMo_hourOf_12 rfl ?_
  refine gt_iald C dMo_hourOf_13 hb_9 (by decide) rfl rfl (n := 24) rfl (by omega) ?_
  have o_13 := hV0.1.2 b_9 hb_9.1 x1.toNatClampNeg
  rw [hb_9.2] at o_13
  have o_13 : 0 ≤ (I0 b_9 x1.toNatClampNeg).toInt ∧ (I0 b_9 x1.toNatClampNeg).toInt ≤ 6 := o_13
  refine g_iconst (v := Int32.ofInt (2)) C dMo_hourOf_14 (by decide) ?_
  refine gt_icmp_ge 21 C dMo_hourOf_15 (by decide) rfl (ofI (by decide)) (fun c_15 => ?_) (fun c_15 => ?_)
  · skip
    refine g_iload C dMo_hourOf_21 rfl ?_
    refine g_iload_n C dMo_hourOf_23 rfl ?_
    refine gt_icmp_ne 31 C dMo_hourOf_24 (by decide) rfl rfl (fun c_24 => ?_) (fun c_24 => ?_)
    · skip
      refine g_iload C dMo_hourOf_31 rfl ?_
      refine g_iload_n C dMo_hourOf_33 rfl ?_
      refine gt_icmp_ne 41 C dMo_hourOf_34 (by decide) rfl rfl (fun c_34 => ?_) (fun c_34 => ?_)
      · skip
        refine g_iload C dMo_hourOf_41 rfl ?_
        exact s_iret C E dMo_hourOf_43 ⟨Nat.zero_le _, Nat.zero_le _⟩ hV0 trivial
      · skip
        refine g_iload_n C dMo_hourOf_37 rfl ?_
        refine g_goto 43 C dMo_hourOf_38 (by decide) ?_
        exact s_iret C E dMo_hourOf_43 ⟨Nat.zero_le _, Nat.zero_le _⟩ hV0 trivial
    · skip
      refine g_iload_n C dMo_hourOf_27 rfl ?_
      refine g_goto 43 C dMo_hourOf_28 (by decide) ?_
      exact s_iret C E dMo_hourOf_43 ⟨Nat.zero_le _, Nat.zero_le _⟩ hV0 trivial
  · skip
    refine g_iload C dMo_hourOf_18 rfl ?_
    exact s_iret C E dMo_hourOf_20 ⟨Nat.zero_le _, Nat.zero_le _⟩ hV0 trivial
set_option maxHeartbeats 4000000 in
set_option maxRecDepth 100000 in
theorem cMo_agrees_G {P : List Nat} {K : Nat → Nat} {I0 : Nat → Nat → Int32} {O : Nat → Nat → Option Nat} {J0 : Nat → Nat → Int64} (hV : IV P K I0 O) {a0 : Nat} (h0 : a0 ∈ P ∧ K a0 = 10) {x1 : Int32} {x2 : Int32} {x3 : Int32} {TW : Nat} (hTWo : O a0 17 = some TW) (hTWk : TW ∈ P ∧ K TW = 49) {M : Nat} (hMo : O a0 3 = some M) (hMk : M ∈ P ∧ K M = 9) (hGM : GM I0 M) : Con yMo_agrees bMo_agrees 7 (some .boolean) ({ frames := 4, cells := 0, slots := 0, locals := 97 } : Room) P K I0 O J0 [.ref a0, .int x1, .int x2, .int x3] (SPo frT 2 (tt) P K I0 O J0) := by
  refine Con.ofG mfMo_agrees (Nat.le_of_ble_eq_true rfl) ?_
  intro X C E
  have r1 := rg x1
  have r2 := rg x2
  have r3 := rg x3
  have hV0 : SV frT P K O I0 J0 I0 J0 := SV.rf hV
  refine g_aload_n C dMo_agrees_0 rfl ?_
  refine g_aload_n C dMo_agrees_1 rfl ?_
  refine gt_getS C dMo_agrees_2 fl_Mo_21 h0 hTWo ?_
  refine g_iload_n C dMo_agrees_5 rfl ?_
  refine g_bipush (v := Int32.ofInt (25)) C dMo_agrees_6 (by decide) ?_
  refine gt_idiv 25 C dMo_agrees_8 rfl (ofI (by decide)) (by decide) (fun z_8 e_8 => ?_)
  refine g_iload_n C dMo_agrees_9 rfl ?_
  refine g_iconst (v := Int32.ofInt (5)) C dMo_agrees_10 (by decide) ?_
  refine gt_idiv 5 C dMo_agrees_11 rfl (ofI (by decide)) (by decide) (fun z_11 e_11 => ?_)
  refine g_iconst (v := Int32.ofInt (5)) C dMo_agrees_12 (by decide) ?_
  refine gt_irem 5 C dMo_agrees_13 rfl (ofI (by decide)) (by decide) (fun z_13 e_13 => ?_)
  refine g_iload_n C dMo_agrees_14 rfl ?_
  refine g_iconst (v := Int32.ofInt (5)) C dMo_agrees_15 (by decide) ?_
  refine gt_irem 5 C dMo_agrees_16 rfl (ofI (by decide)) (by decide) (fun z_16 e_16 => ?_)
  refine s_callV_v (av := fun ad => [.ref TW, .int z_8, .int z_13, .int z_16]) C dMo_agrees_17 mfMo_begins mvMo_begins ln_Mo_343 h0 (by decide) rfl hV0 (frL_le (by decide)) (cMo_begins_G hV0.1 h0 hTWk hMo hMk (hGM.keep (hV0.2 M (by rw [hMk.2]; rfl)).1)) rfl rfl (Nat.le_of_ble_eq_true rfl) ⟨Nat.le_of_ble_eq_true rfl, Nat.le_of_ble_eq_true rfl⟩ ⟨rfl, rfl⟩ ⟨Nat.zero_le _, Nat.zero_le _⟩ (fun Iw1 Jw1 hVw1 hFw1 p_17 => ?_)
  try dsimp only at p_17
  refine g_iconst (v := Int32.ofInt (0)) C dMo_agrees_20 (by decide) ?_
  refine g_istore C dMo_agrees_21 (by decide) ?_
  have lp_23 : ∀ (nn_23 : Nat) (x4_23 : Int32) (Iw2 : Nat → Nat → Int32) (Jw2 : Nat → Nat → Int64), Int.toNat (12 - x4_23.toInt) = nn_23 → (0 ≤ Int32.toInt x4_23 ∧ Int32.toInt x4_23 ≤ 12) → (Int32.toInt (Iw2 TW 27) = x4_23.toInt) → SV frT P K O I0 J0 Iw2 Jw2 → GG X 7 P K Iw2 O Jw2 0 0 23 [(0, .ref a0), (1, .int x1), (2, .int x2), (3, .int x3), (4, .int x4_23)] [] := by
    intro nn_23
    induction nn_23 using Nat.strongRecOn with
    | ind nn_23 ih_23 =>
    intro x4_23 Iw2 Jw2 hn_23 iv0_23 iv1_23 hVw2
    have rg4_23 := rg x4_23
    refine g_iload C dMo_agrees_23 rfl ?_
    refine g_bipush (v := Int32.ofInt (12)) C dMo_agrees_25 (by decide) ?_
    refine gt_icmp_ge 131 C dMo_agrees_27 (by decide) rfl (ofI (by decide)) (fun c_27 => ?_) (fun c_27 => ?_)
    · skip
      refine g_iconst (v := Int32.ofInt (1)) C dMo_agrees_131 (by decide) ?_
      exact s_zret C E dMo_agrees_132 ⟨Nat.zero_le _, Nat.zero_le _⟩ hVw2 (Or.inr (ofI (by decide))) trivial
    · skip
      refine g_aload_n C dMo_agrees_30 rfl ?_
      refine g_aload_n C dMo_agrees_31 rfl ?_
      refine gt_getS C dMo_agrees_32 fl_Mo_21 h0 hTWo ?_
      refine g_iload C dMo_agrees_35 rfl ?_
      refine s_callV_v (av := fun ad => [.ref TW, .int x4_23]) C dMo_agrees_37 mfMo_byProgram mvMo_byProgram ln_Mo_347 h0 (by decide) rfl hVw2 (frL_le (by decide)) (cMo_byProgram_G hVw2.1 h0 hTWk hMo hMk (hGM.keep (hVw2.2 M (by rw [hMk.2]; rfl)).1) (by omega) (by omega)) rfl rfl (Nat.le_of_ble_eq_true rfl) ⟨Nat.le_of_ble_eq_true rfl, Nat.le_of_ble_eq_true rfl⟩ ⟨rfl, rfl⟩ ⟨Nat.zero_le _, Nat.zero_le _⟩ (fun Iw3 Jw3 hVw3 hFw3 p_37 => ?_)
      try dsimp only at p_37
      refine g_iconst (v := Int32.ofInt (0)) C dMo_agrees_40 (by decide) ?_
      refine g_istore C dMo_agrees_41 (by decide) ?_
      have lp_43 : ∀ (nn_43 : Nat) (x5_43 : Int32) (Iw4 : Nat → Nat → Int32) (Jw4 : Nat → Nat → Int64), Int.toNat (24 - x5_43.toInt) = nn_43 → (0 ≤ Int32.toInt x5_43 ∧ Int32.toInt x5_43 ≤ 24) → (Int32.toInt (Iw4 TW 27) = x4_23.toInt + 1) → SV frT P K O I0 J0 Iw4 Jw4 → GG X 7 P K Iw4 O Jw4 0 0 43 [(0, .ref a0), (1, .int x1), (2, .int x2), (3, .int x3), (4, .int x4_23), (5, .int x5_43)] [] := by
        intro nn_43
        induction nn_43 using Nat.strongRecOn with
        | ind nn_43 ih_43 =>
        intro x5_43 Iw4 Jw4 hn_43 iv0_43 iv1_43 hVw4
        have rg5_43 := rg x5_43
        refine g_iload C dMo_agrees_43 rfl ?_
        refine g_aload_n C dMo_agrees_45 rfl ?_
        refine g_geti C dMo_agrees_46 fl_Mo_293 h0 ?_
        have o_46 := hVw4.1.2 a0 h0.1 23
        rw [h0.2] at o_46
        have o_46 : 0 ≤ (Iw4 a0 23).toInt ∧ (Iw4 a0 23).toInt ≤ 24 := o_46
        refine gt_icmp_ge 125 C dMo_agrees_49 (by decide) rfl rfl (fun c_49 => ?_) (fun c_49 => ?_)
        · skip
          first | refine n_iinc C dMo_agrees_125 rfl rfl (by decide) (by decide) (by omega) (fun z_125 e_125 => ?_) | refine a_iinc C dMo_agrees_125 rfl (by decide) (fun z_125 => ?_)
          refine g_goto 23 C dMo_agrees_128 (by decide) ?_
          exact g_sub (ih_23 _ (by omega) z_125 Iw4 Jw4 rfl (by omega) (by omega) hVw4) ⟨rfl, rfl, rfl, rfl, rfl, trivial⟩
        · skip
          refine g_aload_n C dMo_agrees_52 rfl ?_
          refine g_iload C dMo_agrees_53 rfl ?_
          refine g_iload_n C dMo_agrees_55 rfl ?_
          refine g_iload_n C dMo_agrees_56 rfl ?_
          refine s_callV_ip (av := fun ad => [.int x5_43, .int x2, .int x3]) C dMo_agrees_57 mfMo_hourOf mvMo_hourOf ln_Mo_351 h0 (by decide) rfl (cMo_hourOf hVw4.1 h0 (by omega)) rfl rfl (Nat.le_of_ble_eq_true rfl) ⟨Nat.le_of_ble_eq_true rfl, Nat.le_of_ble_eq_true rfl⟩ ⟨rfl, rfl⟩ ⟨Nat.zero_le _, Nat.zero_le _⟩ (fun z_57 p_57 => ?_)
          have rz_57 := rg z_57
          refine g_iload C dMo_agrees_60 rfl ?_
          have jn_119 : ∀   (Iw6 : Nat → Nat → Int32) (Jw6 : Nat → Nat → Int64), (Int32.toInt (Iw6 TW 27) = x4_23.toInt + 1) → SV frT P K O I0 J0 Iw6 Jw6 → GG X 7 P K Iw6 O Jw6 0 0 119 [(0, .ref a0), (1, .int x1), (2, .int x2), (3, .int x3), (4, .int x4_23), (5, .int x5_43)] [] := by
            intro Iw6 Jw6 jv0_119 hVw6
            first | refine n_iinc C dMo_agrees_119 rfl rfl (by decide) (by decide) (by omega) (fun z_119 e_119 => ?_) | refine a_iinc C dMo_agrees_119 rfl (by decide) (fun z_119 => ?_)
            refine g_goto 43 C dMo_agrees_122 (by decide) ?_
            exact g_sub (ih_43 _ (by omega) z_119 Iw6 Jw6 rfl (by omega) (by omega) hVw6) ⟨rfl, rfl, rfl, rfl, rfl, rfl, trivial⟩
          refine gt_icmp_eq 68 C dMo_agrees_62 (by decide) rfl rfl (fun c_62 => ?_) (fun c_62 => ?_)
          · skip
            refine g_aload_n C dMo_agrees_68 rfl ?_
            refine gt_getS C dMo_agrees_69 fl_Mo_21 h0 hTWo ?_
            refine g_aload_n C dMo_agrees_72 rfl ?_
            refine gt_getr C dMo_agrees_73 fl_Mo_39 h0 hVw4.1.1 rfl (fun b_73 q_73 hb_73 => ?_)
            refine g_iload C dMo_agrees_76 rfl ?_
            refine gt_iald C dMo_agrees_78 hb_73 (by decide) rfl rfl (n := 24) rfl (by omega) ?_
            have o_78 := hVw4.1.2 b_73 hb_73.1 x5_43.toNatClampNeg
            rw [hb_73.2] at o_78
            have o_78 : 0 ≤ (Iw4 b_73 x5_43.toNatClampNeg).toInt ∧ (Iw4 b_73 x5_43.toNatClampNeg).toInt ≤ 6 := o_78
            refine s_callS_ip (av := fun ad => [.ref TW, .int (Iw4 b_73 x5_43.toNatClampNeg)]) C dMo_agrees_79 mfMo_valueOf msMo_valueOf ln_Mo_354 (cMo_valueOf hVw4.1 hTWk (by omega)) rfl rfl (Nat.le_of_ble_eq_true rfl) ⟨Nat.le_of_ble_eq_true rfl, Nat.le_of_ble_eq_true rfl⟩ ⟨rfl, rfl⟩ ⟨Nat.zero_le _, Nat.zero_le _⟩ (fun z_79 p_79 => ?_)
            have rz_79 := rg z_79
            refine g_aload_n C dMo_agrees_82 rfl ?_
            refine gt_getr C dMo_agrees_83 fl_Mo_42 h0 hVw4.1.1 rfl (fun b_83 q_83 hb_83 => ?_)
            refine g_iload C dMo_agrees_86 rfl ?_
            refine gt_iald C dMo_agrees_88 hb_83 (by decide) rfl rfl (n := 24) rfl (by omega) ?_
            first | refine n_isub C dMo_agrees_89 rfl rfl (by omega) (fun z_89 e_89 => ?_) | refine a_isub C dMo_agrees_89 (fun z_89 => ?_)
            refine g_istore C dMo_agrees_90 (by decide) ?_
            refine g_iload C dMo_agrees_92 rfl ?_
            refine g_aload_n C dMo_agrees_94 rfl ?_
            refine gt_getr C dMo_agrees_95 fl_Mo_45 h0 hVw4.1.1 rfl (fun b_95 q_95 hb_95 => ?_)
            refine g_iload C dMo_agrees_98 rfl ?_
            refine gt_iald C dMo_agrees_100 hb_95 (by decide) rfl rfl (n := 24) rfl (by omega) ?_
            refine gt_icmp_gt 117 C dMo_agrees_101 (by decide) rfl rfl (fun c_101 => ?_) (fun c_101 => ?_)
            · skip
              refine g_iconst (v := Int32.ofInt (0)) C dMo_agrees_117 (by decide) ?_
              exact s_zret C E dMo_agrees_118 ⟨Nat.zero_le _, Nat.zero_le _⟩ hVw4 (Or.inl (ofI (by decide))) trivial
            · skip
              refine g_iload C dMo_agrees_104 rfl ?_
              refine a_ineg C dMo_agrees_106 (fun z_106 => ?_)
              refine g_aload_n C dMo_agrees_107 rfl ?_
              refine gt_getS C dMo_agrees_108 fl_Mo_45 h0 q_95 ?_
              refine g_iload C dMo_agrees_111 rfl ?_
              refine gt_iald C dMo_agrees_113 hb_95 (by decide) rfl rfl (n := 24) rfl (by omega) ?_
              refine gt_icmp_le 119 C dMo_agrees_114 (by decide) rfl rfl (fun c_114 => ?_) (fun c_114 => ?_)
              · skip
                exact g_sub (jn_119  Iw4 Jw4 (by omega) hVw4) ⟨rfl, rfl, rfl, rfl, rfl, rfl, trivial⟩
              · skip
                refine g_iconst (v := Int32.ofInt (0)) C dMo_agrees_117 (by decide) ?_
                exact s_zret C E dMo_agrees_118 ⟨Nat.zero_le _, Nat.zero_le _⟩ hVw4 (Or.inl (ofI (by decide))) trivial
          · skip
            refine g_goto 119 C dMo_agrees_65 (by decide) ?_
            exact g_sub (jn_119  Iw4 Jw4 (by omega) hVw4) ⟨rfl, rfl, rfl, rfl, rfl, rfl, trivial⟩
      exact g_sub (lp_43 _ (Int32.ofInt (0)) Iw3 Jw3 rfl (by have hci : Int32.toInt (Int32.ofInt (0)) = 0 := ofI (by decide); omega) (by omega) hVw3) ⟨rfl, rfl, rfl, rfl, rfl, rfl, trivial⟩
  exact g_sub (lp_23 _ (Int32.ofInt (0)) Iw1 Jw1 rfl (by have hci : Int32.toInt (Int32.ofInt (0)) = 0 := ofI (by decide); omega) (by have hci : Int32.toInt (Int32.ofInt (0)) = 0 := ofI (by decide); omega) hVw1) ⟨rfl, rfl, rfl, rfl, rfl, trivial⟩
set_option maxHeartbeats 4000000 in
set_option maxRecDepth 100000 in
theorem cMo_allFits_G {P : List Nat} {K : Nat → Nat} {I0 : Nat → Nat → Int32} {O : Nat → Nat → Option Nat} {J0 : Nat → Nat → Int64} (hV : IV P K I0 O) {a0 : Nat} (h0 : a0 ∈ P ∧ K a0 = 10) {x1 : Int32} {x2 : Int32} {TW : Nat} (hTWo : O a0 17 = some TW) (hTWk : TW ∈ P ∧ K TW = 49) {M : Nat} (hMo : O a0 3 = some M) (hMk : M ∈ P ∧ K M = 9) (hGM : GM I0 M) : Con yMo_allFits bMo_allFits 5 (some .int) ({ frames := 5, cells := 0, slots := 0, locals := 123 } : Room) P K I0 O J0 [.ref a0, .int x1, .int x2] (SPo frT 1 (fun z _ => 0 ≤ Int32.toInt z ∧ Int32.toInt z ≤ 100) P K I0 O J0) := by
  refine Con.ofG mfMo_allFits (Nat.le_of_ble_eq_true rfl) ?_
  intro X C E
  have r1 := rg x1
  have r2 := rg x2
  have hV0 : SV frT P K O I0 J0 I0 J0 := SV.rf hV
  refine g_iconst (v := Int32.ofInt (0)) C dMo_allFits_0 (by decide) ?_
  refine g_istore_n (i := 3) C dMo_allFits_1 rfl (by decide) ?_
  refine g_iconst (v := Int32.ofInt (0)) C dMo_allFits_2 (by decide) ?_
  refine g_istore C dMo_allFits_3 (by decide) ?_
  have lp_5 : ∀ (nn_5 : Nat) (x3_5 : Int32) (x4_5 : Int32) (Iw1 : Nat → Nat → Int32) (Jw1 : Nat → Nat → Int64), Int.toNat (100 - x4_5.toInt) = nn_5 → (0 ≤ Int32.toInt x4_5 ∧ Int32.toInt x4_5 ≤ 100) → (0 ≤ Int32.toInt x3_5 ∧ Int32.toInt x3_5 ≤ Int32.toInt x4_5) → SV frT P K O I0 J0 Iw1 Jw1 → GG X 5 P K Iw1 O Jw1 0 0 5 [(0, .ref a0), (1, .int x1), (2, .int x2), (3, .int x3_5), (4, .int x4_5)] [] := by
    intro nn_5
    induction nn_5 using Nat.strongRecOn with
    | ind nn_5 ih_5 =>
    intro x3_5 x4_5 Iw1 Jw1 hn_5 iv0_5 iv1_5 hVw1
    have rg3_5 := rg x3_5
    have rg4_5 := rg x4_5
    refine g_iload C dMo_allFits_5 rfl ?_
    refine g_bipush (v := Int32.ofInt (100)) C dMo_allFits_7 (by decide) ?_
    refine gt_icmp_ge 43 C dMo_allFits_9 (by decide) rfl (ofI (by decide)) (fun c_9 => ?_) (fun c_9 => ?_)
    · skip
      refine g_iload_n C dMo_allFits_43 rfl ?_
      exact s_iret C E dMo_allFits_44 ⟨Nat.zero_le _, Nat.zero_le _⟩ hVw1 (by (try dsimp only); omega)
    · skip
      refine g_aload_n C dMo_allFits_12 rfl ?_
      refine g_iload C dMo_allFits_13 rfl ?_
      refine g_iload_n C dMo_allFits_15 rfl ?_
      refine g_iload_n C dMo_allFits_16 rfl ?_
      refine s_callV_z (av := fun ad => [.int x4_5, .int x1, .int x2]) C dMo_allFits_17 mfMo_agrees mvMo_agrees ln_Mo_357 h0 (by decide) rfl hVw1 (frL_le (by decide)) (cMo_agrees_G hVw1.1 h0 hTWo hTWk hMo hMk (hGM.keep (hVw1.2 M (by rw [hMk.2]; rfl)).1)) rfl rfl (Nat.le_of_ble_eq_true rfl) ⟨Nat.le_of_ble_eq_true rfl, Nat.le_of_ble_eq_true rfl⟩ ⟨rfl, rfl⟩ ⟨Nat.zero_le _, Nat.zero_le _⟩ (fun Iw2 Jw2 hVw2 hFw2 z_17 b_17 p_17 => ?_)
      have rz_17 := rg z_17
      have u_17 := b_17
      unfold B01 at u_17
      have jn_37 : ∀ (y3_37 : Int32)  (Iw3 : Nat → Nat → Int32) (Jw3 : Nat → Nat → Int64), (0 ≤ Int32.toInt y3_37 ∧ Int32.toInt y3_37 ≤ Int32.toInt x4_5 + 1) → SV frT P K O I0 J0 Iw3 Jw3 → GG X 5 P K Iw3 O Jw3 0 0 37 [(0, .ref a0), (1, .int x1), (2, .int x2), (3, .int y3_37), (4, .int x4_5)] [] := by
        intro y3_37 Iw3 Jw3 jv0_37 hVw3
        first | refine n_iinc C dMo_allFits_37 rfl rfl (by decide) (by decide) (by omega) (fun z_37 e_37 => ?_) | refine a_iinc C dMo_allFits_37 rfl (by decide) (fun z_37 => ?_)
        refine g_goto 5 C dMo_allFits_40 (by decide) ?_
        exact g_sub (ih_5 _ (by omega) y3_37 z_37 Iw3 Jw3 rfl (by omega) (by omega) hVw3) ⟨rfl, rfl, rfl, rfl, rfl, trivial⟩
      refine gt_if_ne 26 C dMo_allFits_20 (by decide) rfl (fun c_20 => ?_) (fun c_20 => ?_)
      · skip
        refine g_aload_n C dMo_allFits_26 rfl ?_
        refine gt_getr C dMo_allFits_27 fl_Mo_48 h0 hVw2.1.1 rfl (fun b_27 q_27 hb_27 => ?_)
        refine g_iload_n C dMo_allFits_30 rfl ?_
        refine g_iload C dMo_allFits_31 rfl ?_
        refine gt_iast C dMo_allFits_33 hb_27 (by decide) rfl rfl (n := 100) rfl (by omega) hVw2 rfl trivial (fun Iw4 eIw4 hVw4 => ?_)
        first | refine n_iinc C dMo_allFits_34 rfl rfl (by decide) (by decide) (by omega) (fun z_34 e_34 => ?_) | refine a_iinc C dMo_allFits_34 rfl (by decide) (fun z_34 => ?_)
        exact g_sub (jn_37 z_34 Iw4 Jw2 (by omega) hVw4) ⟨rfl, rfl, rfl, rfl, rfl, trivial⟩
      · skip
        refine g_goto 37 C dMo_allFits_23 (by decide) ?_
        exact g_sub (jn_37 x3_5 Iw2 Jw2 (by omega) hVw2) ⟨rfl, rfl, rfl, rfl, rfl, trivial⟩
  exact g_sub (lp_5 _ (Int32.ofInt (0)) (Int32.ofInt (0)) I0 J0 rfl (by have hci : Int32.toInt (Int32.ofInt (0)) = 0 := ofI (by decide); omega) (by have hci : Int32.toInt (Int32.ofInt (0)) = 0 ∧ Int32.toInt (Int32.ofInt (0)) = 0 := ⟨ofI (by decide), ofI (by decide)⟩; omega) hV0) ⟨rfl, rfl, rfl, rfl, rfl, trivial⟩
set_option maxHeartbeats 4000000 in
set_option maxRecDepth 100000 in
theorem cMo_copies {P : List Nat} {K : Nat → Nat} {I0 : Nat → Nat → Int32} {O : Nat → Nat → Option Nat} {J0 : Nat → Nat → Int64} (hV : IV P K I0 O) {a0 : Nat} (h0 : a0 ∈ P ∧ K a0 = 10) {S : Nat} (hSo : O a0 16 = some S) (hSk : S ∈ P ∧ K S = 31) {TW : Nat} (hTWo : O a0 17 = some TW) (hTWk : TW ∈ P ∧ K TW = 49) : Con yMo_copies bMo_copies 2 none ({ frames := 0, cells := 0, slots := 0, locals := 0 } : Room) P K I0 O J0 [.ref a0] (SPo frX49 0 (fun _ I_ => Int32.toInt (I_ TW 27) = Int32.toInt (I_ S 27) ∧ Int32.toInt (I_ S 27) = Int32.toInt (I0 S 27)) P K I0 O J0) := by
  refine Con.ofG mfMo_copies (Nat.le_of_ble_eq_true rfl) ?_
  intro X C E
  have oS := hV.2 S hSk.1 27
  rw [hSk.2] at oS
  have oS : 0 ≤ (I0 S 27).toInt ∧ (I0 S 27).toInt ≤ 240 := oS
  have hV0 : SV frX49 P K O I0 J0 I0 J0 := SV.rf hV
  refine g_iconst (v := Int32.ofInt (0)) C dMo_copies_0 (by decide) ?_
  refine g_istore_n (i := 1) C dMo_copies_1 rfl (by decide) ?_
  have lp_2 : ∀ (nn_2 : Nat) (x1_2 : Int32) (Iw1 : Nat → Nat → Int32) (Jw1 : Nat → Nat → Int64), Int.toNat (37 - x1_2.toInt) = nn_2 → (0 ≤ Int32.toInt x1_2 ∧ Int32.toInt x1_2 ≤ 37) → (Int32.toInt (Iw1 S 27) = Int32.toInt (I0 S 27)) → (Int32.toInt x1_2 ≤ 27 ∨ Int32.toInt (Iw1 TW 27) = Int32.toInt (Iw1 S 27)) → SV frX49 P K O I0 J0 Iw1 Jw1 → GG X 2 P K Iw1 O Jw1 0 0 2 [(0, .ref a0), (1, .int x1_2)] [] := by
    intro nn_2
    induction nn_2 using Nat.strongRecOn with
    | ind nn_2 ih_2 =>
    intro x1_2 Iw1 Jw1 hn_2 iv0_2 iv1_2 iv2_2 hVw1
    have rg1_2 := rg x1_2
    refine g_iload_n C dMo_copies_2 rfl ?_
    refine g_bipush (v := Int32.ofInt (37)) C dMo_copies_3 (by decide) ?_
    refine gt_icmp_ge 26 C dMo_copies_5 (by decide) rfl (ofI (by decide)) (fun c_5 => ?_) (fun c_5 => ?_)
    · skip
      exact s_vret C E dMo_copies_26 ⟨Nat.zero_le _, Nat.zero_le _⟩ hVw1 (by (try dsimp only); omega)
    · skip
      refine g_aload_n C dMo_copies_8 rfl ?_
      refine gt_getS C dMo_copies_9 fl_Mo_21 h0 hTWo ?_
      refine g_iload_n C dMo_copies_12 rfl ?_
      refine g_aload_n C dMo_copies_13 rfl ?_
      refine gt_getS C dMo_copies_14 fl_Mo_17 h0 hSo ?_
      refine g_iload_n C dMo_copies_17 rfl ?_
      refine gt_iald C dMo_copies_18 hSk (by decide) rfl rfl (n := 37) rfl (by omega) ?_
      refine gt_iast C dMo_copies_19 hTWk (by decide) rfl rfl (n := 37) rfl (by omega) hVw1 rfl (okS_31 (by have q := hVw1.1.2 S hSk.1 x1_2.toNatClampNeg; rw [hSk.2] at q; exact q)) (fun Iw2 eIw2 hVw2 => ?_)
      have cpw2 : x1_2.toInt = 27 → (Iw1 S x1_2.toNatClampNeg).toInt = (Iw1 S 27).toInt := fun q => have e9 : x1_2.toNatClampNeg = Int.toNat (x1_2.toInt) := rfl; have e8 : x1_2.toNatClampNeg = 27 := (by omega); (by rw [e8])
      have tkw2_TW_27 : (x1_2.toInt = 27 ∧ (Iw2 TW 27).toInt = (Iw1 S x1_2.toNatClampNeg).toInt) ∨ (¬ x1_2.toInt = 27 ∧ (Iw2 TW 27).toInt = (Iw1 TW 27).toInt) := by rw [eIw2]; exact up2_dis (by omega) rfl
      have tkw2_S_27 : (Iw2 S 27).toInt = (Iw1 S 27).toInt := by rw [eIw2, up2_ne _ _ (fun z => by have q := hSk.2; rw [z.1, hTWk.2] at q; exact absurd q (by decide))]
      first | refine n_iinc C dMo_copies_20 rfl rfl (by decide) (by decide) (by omega) (fun z_20 e_20 => ?_) | refine a_iinc C dMo_copies_20 rfl (by decide) (fun z_20 => ?_)
      refine g_goto 2 C dMo_copies_23 (by decide) ?_
      exact g_sub (ih_2 _ (by omega) z_20 Iw2 Jw1 rfl (by omega) (by omega) (by omega) hVw2) ⟨rfl, rfl, trivial⟩
  exact g_sub (lp_2 _ (Int32.ofInt (0)) I0 J0 rfl (by have hci : Int32.toInt (Int32.ofInt (0)) = 0 := ofI (by decide); omega) (by omega) (by have hci : Int32.toInt (Int32.ofInt (0)) = 0 := ofI (by decide); omega) hV0) ⟨rfl, rfl, trivial⟩
def frX41 : Nat → Bool := frL [41]
set_option maxHeartbeats 4000000 in
set_option maxRecDepth 100000 in
theorem cMo_isWell_G {P : List Nat} {K : Nat → Nat} {I0 : Nat → Nat → Int32} {O : Nat → Nat → Option Nat} {J0 : Nat → Nat → Int64} (hV : IV P K I0 O) {a0 : Nat} (h0 : a0 ∈ P ∧ K a0 = 10) {x1 : Int32} {x2 : Int32} {S : Nat} (hSo : O a0 16 = some S) (hSk : S ∈ P ∧ K S = 31) {TW : Nat} (hTWo : O a0 17 = some TW) (hTWk : TW ∈ P ∧ K TW = 49) {M : Nat} (hMo : O a0 3 = some M) (hMk : M ∈ P ∧ K M = 9) (hGM : GM I0 M) (pr0 : 1 ≤ Int32.toInt x1 ∧ Int32.toInt x1 ≤ 5) : Con yMo_isWell bMo_isWell 4 (some .boolean) ({ frames := 3, cells := 0, slots := 0, locals := 75 } : Room) P K I0 O J0 [.ref a0, .int x1, .int x2] (SPo frT 2 (tt) P K I0 O J0) := by
  refine Con.ofG mfMo_isWell (Nat.le_of_ble_eq_true rfl) ?_
  intro X C E
  have r1 := rg x1
  have r2 := rg x2
  have oS := hV.2 S hSk.1 27
  rw [hSk.2] at oS
  have oS : 0 ≤ (I0 S 27).toInt ∧ (I0 S 27).toInt ≤ 240 := oS
  have hV0 : SV frT P K O I0 J0 I0 J0 := SV.rf hV
  refine g_aload_n C dMo_isWell_0 rfl ?_
  refine s_callV_v (av := fun ad => []) C dMo_isWell_1 mfMo_copies mvMo_copies ln_Mo_369 h0 (by decide) rfl hV0 (frL_le (by decide)) (cMo_copies hV0.1 h0 hSo hSk hTWo hTWk) rfl rfl (Nat.le_of_ble_eq_true rfl) ⟨Nat.le_of_ble_eq_true rfl, Nat.le_of_ble_eq_true rfl⟩ ⟨rfl, rfl⟩ ⟨Nat.zero_le _, Nat.zero_le _⟩ (fun Iw1 Jw1 hVw1 hFw1 p_1 => ?_)
  have tkw1_S_27 : (Iw1 S 27).toInt = (I0 S 27).toInt := by rw [(hFw1 S (by rw [hSk.2]; rfl)).1 27]
  try dsimp only at p_1
  refine g_iconst (v := Int32.ofInt (0)) C dMo_isWell_4 (by decide) ?_
  refine g_istore_n (i := 3) C dMo_isWell_5 rfl (by decide) ?_
  have lp_6 : ∀ (nn_6 : Nat) (x3_6 : Int32) (Iw2 : Nat → Nat → Int32) (Jw2 : Nat → Nat → Int64), Int.toNat (5 - x3_6.toInt) = nn_6 → (0 ≤ Int32.toInt x3_6 ∧ Int32.toInt x3_6 ≤ 5) → (Int32.toInt (Iw2 S 27) = Int32.toInt (I0 S 27)) → (Int32.toInt (Iw2 TW 27) = Int32.toInt (I0 S 27) + x3_6.toInt) → SV frT P K O I0 J0 Iw2 Jw2 → GG X 4 P K Iw2 O Jw2 0 0 6 [(0, .ref a0), (1, .int x1), (2, .int x2), (3, .int x3_6)] [] := by
    intro nn_6
    induction nn_6 using Nat.strongRecOn with
    | ind nn_6 ih_6 =>
    intro x3_6 Iw2 Jw2 hn_6 iv0_6 iv1_6 iv2_6 hVw2
    have rg3_6 := rg x3_6
    refine g_iload_n C dMo_isWell_6 rfl ?_
    refine g_iload_n C dMo_isWell_7 rfl ?_
    refine gt_icmp_ge 85 C dMo_isWell_8 (by decide) rfl rfl (fun c_8 => ?_) (fun c_8 => ?_)
    · skip
      refine g_iconst (v := Int32.ofInt (1)) C dMo_isWell_85 (by decide) ?_
      exact s_zret C E dMo_isWell_86 ⟨Nat.zero_le _, Nat.zero_le _⟩ hVw2 (Or.inr (ofI (by decide))) trivial
    · skip
      refine g_aload_n C dMo_isWell_11 rfl ?_
      refine gt_getr C dMo_isWell_12 fl_Mo_54 h0 hVw2.1.1 rfl (fun b_12 q_12 hb_12 => ?_)
      refine g_iload_n C dMo_isWell_15 rfl ?_
      refine g_iload_n C dMo_isWell_16 rfl ?_
      refine g_iconst (v := Int32.ofInt (2)) C dMo_isWell_17 (by decide) ?_
      refine g_iload_n C dMo_isWell_18 rfl ?_
      refine g_iconst (v := Int32.ofInt (1)) C dMo_isWell_19 (by decide) ?_
      first | refine n_isub C dMo_isWell_20 rfl (ofI (by decide)) (by omega) (fun z_20 e_20 => ?_) | refine a_isub C dMo_isWell_20 (fun z_20 => ?_)
      refine g_iload_n C dMo_isWell_21 rfl ?_
      first | refine n_isub C dMo_isWell_22 rfl rfl (by omega) (fun z_22 e_22 => ?_) | refine a_isub C dMo_isWell_22 (fun z_22 => ?_)
      first | refine n_imul C dMo_isWell_23 (ofI (by decide)) rfl (by omega) (fun z_23 e_23 => ?_) | refine a_imul C dMo_isWell_23 (fun z_23 => ?_)
      refine a_ishr C dMo_isWell_24 (fun z_24 => ?_)
      refine g_iconst (v := Int32.ofInt (3)) C dMo_isWell_25 (by decide) ?_
      refine a_iand C dMo_isWell_26 (fun z_26 => ?_)
      refine gt_iast C dMo_isWell_27 hb_12 (by decide) rfl rfl (n := 5) rfl (by omega) hVw2 rfl trivial (fun Iw3 eIw3 hVw3 => ?_)
      have tkw3_TW_27 : (Iw3 TW 27).toInt = (Iw2 TW 27).toInt := by rw [eIw3, up2_ne _ _ (fun z => by have q := hTWk.2; rw [z.1, hb_12.2] at q; exact absurd q (by decide))]
      have tkw3_S_27 : (Iw3 S 27).toInt = (Iw2 S 27).toInt := by rw [eIw3, up2_ne _ _ (fun z => by have q := hSk.2; rw [z.1, hb_12.2] at q; exact absurd q (by decide))]
      refine g_aload_n C dMo_isWell_28 rfl ?_
      refine gt_getS C dMo_isWell_29 fl_Mo_21 h0 hTWo ?_
      refine g_bipush (v := Int32.ofInt (34)) C dMo_isWell_32 (by decide) ?_
      refine g_aload_n C dMo_isWell_34 rfl ?_
      refine gt_getS C dMo_isWell_35 fl_Mo_54 h0 q_12 ?_
      refine g_iload_n C dMo_isWell_38 rfl ?_
      refine gt_iald C dMo_isWell_39 hb_12 (by decide) rfl rfl (n := 5) rfl (by omega) ?_
      refine gt_iastc (c := 34) C dMo_isWell_40 hTWk (by decide) rfl (ofI (by decide)) (n := 37) rfl (by decide) (by decide) hVw3 rfl trivial (fun Iw4 eIw4 hVw4 => ?_)
      have tkw4_TW_27 : (Iw4 TW 27).toInt = (Iw3 TW 27).toInt := by rw [eIw4, up2_ne _ _ (fun z => absurd z.2 (by decide))]
      have tkw4_S_27 : (Iw4 S 27).toInt = (Iw3 S 27).toInt := by rw [eIw4, up2_ne _ _ (fun z => by have q := hSk.2; rw [z.1, hTWk.2] at q; exact absurd q (by decide))]
      refine g_aload_n C dMo_isWell_41 rfl ?_
      refine g_aload_n C dMo_isWell_42 rfl ?_
      refine gt_getS C dMo_isWell_43 fl_Mo_21 h0 hTWo ?_
      refine s_callV_v (av := fun ad => [.ref TW]) C dMo_isWell_46 mfMo_goes mvMo_goes ln_Mo_332 h0 (by decide) rfl hVw4 (frL_le (by decide)) (cMo_goes_G49 hVw4.1 h0 hTWk hMo hMk (hGM.keep (hVw4.2 M (by rw [hMk.2]; rfl)).1) (by omega)) rfl rfl (Nat.le_of_ble_eq_true rfl) ⟨Nat.le_of_ble_eq_true rfl, Nat.le_of_ble_eq_true rfl⟩ ⟨rfl, rfl⟩ ⟨Nat.zero_le _, Nat.zero_le _⟩ (fun Iw5 Jw5 hVw5 hFw5 p_46 => ?_)
      have tkw5_S_27 : (Iw5 S 27).toInt = (Iw4 S 27).toInt := by rw [(hFw5 S (by rw [hSk.2]; rfl)).1 27]
      try dsimp only at p_46
      refine g_aload_n C dMo_isWell_49 rfl ?_
      refine gt_getS C dMo_isWell_50 fl_Mo_21 h0 hTWo ?_
      refine g_bipush (v := Int32.ofInt (26)) C dMo_isWell_53 (by decide) ?_
      refine gt_ialdc (c := 26) C dMo_isWell_55 hTWk (by decide) rfl (ofI (by decide)) (n := 37) rfl (by decide) (by decide) ?_
      refine g_iconst (v := Int32.ofInt (1)) C dMo_isWell_56 (by decide) ?_
      refine gt_icmp_eq 77 C dMo_isWell_57 (by decide) rfl (ofI (by decide)) (fun c_57 => ?_) (fun c_57 => ?_)
      · skip
        refine g_iconst (v := Int32.ofInt (0)) C dMo_isWell_77 (by decide) ?_
        exact s_zret C E dMo_isWell_78 ⟨Nat.zero_le _, Nat.zero_le _⟩ hVw5 (Or.inl (ofI (by decide))) trivial
      · skip
        refine g_aload_n C dMo_isWell_60 rfl ?_
        refine gt_getS C dMo_isWell_61 fl_Mo_21 h0 hTWo ?_
        refine g_bipush (v := Int32.ofInt (23)) C dMo_isWell_64 (by decide) ?_
        refine gt_ialdc (c := 23) C dMo_isWell_66 hTWk (by decide) rfl (ofI (by decide)) (n := 37) rfl (by decide) (by decide) ?_
        refine g_aload_n C dMo_isWell_67 rfl ?_
        refine gt_getS C dMo_isWell_68 fl_Mo_17 h0 hSo ?_
        refine g_bipush (v := Int32.ofInt (23)) C dMo_isWell_71 (by decide) ?_
        refine gt_ialdc (c := 23) C dMo_isWell_73 hSk (by decide) rfl (ofI (by decide)) (n := 37) rfl (by decide) (by decide) ?_
        refine gt_icmp_eq 79 C dMo_isWell_74 (by decide) rfl rfl (fun c_74 => ?_) (fun c_74 => ?_)
        · skip
          first | refine n_iinc C dMo_isWell_79 rfl rfl (by decide) (by decide) (by omega) (fun z_79 e_79 => ?_) | refine a_iinc C dMo_isWell_79 rfl (by decide) (fun z_79 => ?_)
          refine g_goto 6 C dMo_isWell_82 (by decide) ?_
          exact g_sub (ih_6 _ (by omega) z_79 Iw5 Jw5 rfl (by omega) (by omega) (by omega) hVw5) ⟨rfl, rfl, rfl, rfl, trivial⟩
        · skip
          refine g_iconst (v := Int32.ofInt (0)) C dMo_isWell_77 (by decide) ?_
          exact s_zret C E dMo_isWell_78 ⟨Nat.zero_le _, Nat.zero_le _⟩ hVw5 (Or.inl (ofI (by decide))) trivial
  exact g_sub (lp_6 _ (Int32.ofInt (0)) Iw1 Jw1 rfl (by have hci : Int32.toInt (Int32.ofInt (0)) = 0 := ofI (by decide); omega) (by omega) (by have hci : Int32.toInt (Int32.ofInt (0)) = 0 := ofI (by decide); omega) hVw1) ⟨rfl, rfl, rfl, rfl, trivial⟩
set_option maxHeartbeats 4000000 in
set_option maxRecDepth 100000 in
theorem cMo_rules_G {P : List Nat} {K : Nat → Nat} {I0 : Nat → Nat → Int32} {O : Nat → Nat → Option Nat} {J0 : Nat → Nat → Int64} (hV : IV P K I0 O) {a0 : Nat} (h0 : a0 ∈ P ∧ K a0 = 10) {x1 : Int32} {S : Nat} (hSo : O a0 16 = some S) (hSk : S ∈ P ∧ K S = 31) {TW : Nat} (hTWo : O a0 17 = some TW) (hTWk : TW ∈ P ∧ K TW = 49) {TL : Nat} (hTLo : O a0 32 = some TL) (hTLk : TL ∈ P ∧ K TL = 50) {M : Nat} (hMo : O a0 3 = some M) (hMk : M ∈ P ∧ K M = 9) (hGM : GM I0 M) (pr0 : 1 ≤ Int32.toInt x1 ∧ Int32.toInt x1 ≤ 5) : Con yMo_rules bMo_rules 6 none ({ frames := 3, cells := 0, slots := 0, locals := 75 } : Room) P K I0 O J0 [.ref a0, .int x1] (SPo frT 0 (tt) P K I0 O J0) := by
  refine Con.ofG mfMo_rules (Nat.le_of_ble_eq_true rfl) ?_
  intro X C E
  have r1 := rg x1
  have oS := hV.2 S hSk.1 27
  rw [hSk.2] at oS
  have oS : 0 ≤ (I0 S 27).toInt ∧ (I0 S 27).toInt ≤ 240 := oS
  have hV0 : SV frT P K O I0 J0 I0 J0 := SV.rf hV
  refine g_aload_n C dMo_rules_0 rfl ?_
  refine s_callV_v (av := fun ad => []) C dMo_rules_1 mfMo_copies mvMo_copies ln_Mo_369 h0 (by decide) rfl hV0 (frL_le (by decide)) (cMo_copies hV0.1 h0 hSo hSk hTWo hTWk) rfl rfl (Nat.le_of_ble_eq_true rfl) ⟨Nat.le_of_ble_eq_true rfl, Nat.le_of_ble_eq_true rfl⟩ ⟨rfl, rfl⟩ ⟨Nat.zero_le _, Nat.zero_le _⟩ (fun Iw1 Jw1 hVw1 hFw1 p_1 => ?_)
  have tkw1_S_27 : (Iw1 S 27).toInt = (I0 S 27).toInt := by rw [(hFw1 S (by rw [hSk.2]; rfl)).1 27]
  have tkw1_TL_27 : (Iw1 TL 27).toInt = (I0 TL 27).toInt := by rw [(hFw1 TL (by rw [hTLk.2]; rfl)).1 27]
  try dsimp only at p_1
  refine g_iconst (v := Int32.ofInt (0)) C dMo_rules_4 (by decide) ?_
  refine g_istore_n (i := 2) C dMo_rules_5 rfl (by decide) ?_
  have lp_6 : ∀ (nn_6 : Nat) (x2_6 : Int32) (Iw2 : Nat → Nat → Int32) (Jw2 : Nat → Nat → Int64), Int.toNat (5 - x2_6.toInt) = nn_6 → (0 ≤ Int32.toInt x2_6 ∧ Int32.toInt x2_6 ≤ 5) → (Int32.toInt (Iw2 S 27) = Int32.toInt (I0 S 27)) → (Int32.toInt (Iw2 TW 27) = Int32.toInt (I0 S 27) + x2_6.toInt) → SV frT P K O I0 J0 Iw2 Jw2 → GG X 6 P K Iw2 O Jw2 0 0 6 [(0, .ref a0), (1, .int x1), (2, .int x2_6)] [] := by
    intro nn_6
    induction nn_6 using Nat.strongRecOn with
    | ind nn_6 ih_6 =>
    intro x2_6 Iw2 Jw2 hn_6 iv0_6 iv1_6 iv2_6 hVw2
    have rg2_6 := rg x2_6
    refine g_iload_n C dMo_rules_6 rfl ?_
    refine g_iload_n C dMo_rules_7 rfl ?_
    refine gt_icmp_ge 141 C dMo_rules_8 (by decide) rfl rfl (fun c_8 => ?_) (fun c_8 => ?_)
    · skip
      exact s_vret C E dMo_rules_141 ⟨Nat.zero_le _, Nat.zero_le _⟩ hVw2 trivial
    · skip
      refine g_iconst (v := Int32.ofInt (-1)) C dMo_rules_11 (by decide) ?_
      refine g_istore_n (i := 3) C dMo_rules_12 rfl (by decide) ?_
      refine g_iconst (v := Int32.ofInt (0)) C dMo_rules_13 (by decide) ?_
      refine g_istore C dMo_rules_14 (by decide) ?_
      have lp_16 : ∀ (nn_16 : Nat) (x3_16 : Int32) (x4_16 : Int32) (Iw3 : Nat → Nat → Int32) (Jw3 : Nat → Nat → Int64), Int.toNat (4 - x4_16.toInt) = nn_16 → (0 ≤ Int32.toInt x4_16 ∧ Int32.toInt x4_16 ≤ 4) → (Int32.toInt (Iw3 S 27) = Int32.toInt (I0 S 27)) → (Int32.toInt (Iw3 TW 27) = Int32.toInt (I0 S 27) + x2_6.toInt) → SV frT P K O I0 J0 Iw3 Jw3 → GG X 6 P K Iw3 O Jw3 0 0 16 [(0, .ref a0), (1, .int x1), (2, .int x2_6), (3, .int x3_16), (4, .int x4_16)] [] := by
        intro nn_16
        induction nn_16 using Nat.strongRecOn with
        | ind nn_16 ih_16 =>
        intro x3_16 x4_16 Iw3 Jw3 hn_16 iv0_16 iv1_16 iv2_16 hVw3
        have rg3_16 := rg x3_16
        have rg4_16 := rg x4_16
        refine g_iload C dMo_rules_16 rfl ?_
        refine g_iconst (v := Int32.ofInt (3)) C dMo_rules_18 (by decide) ?_
        have jn_110 : ∀ (y3_110 : Int32) (y4_110 : Int32)  (Iw4 : Nat → Nat → Int32) (Jw4 : Nat → Nat → Int64), (Int32.toInt (Iw4 S 27) = Int32.toInt (I0 S 27)) → (Int32.toInt (Iw4 TW 27) = Int32.toInt (I0 S 27) + x2_6.toInt) → SV frT P K O I0 J0 Iw4 Jw4 → GG X 6 P K Iw4 O Jw4 0 0 110 [(0, .ref a0), (1, .int x1), (2, .int x2_6), (3, .int y3_110), (4, .int y4_110)] [] := by
          intro y3_110 y4_110 Iw4 Jw4 jv0_110 jv1_110 hVw4
          refine g_aload_n C dMo_rules_110 rfl ?_
          refine gt_getS C dMo_rules_111 fl_Mo_21 h0 hTWo ?_
          refine g_bipush (v := Int32.ofInt (34)) C dMo_rules_114 (by decide) ?_
          refine g_iload_n C dMo_rules_116 rfl ?_
          refine g_iconst (v := Int32.ofInt (-1)) C dMo_rules_117 (by decide) ?_
          have jn_126 : ∀  (s0_126 : Int32) (Iw5 : Nat → Nat → Int32) (Jw5 : Nat → Nat → Int64), (Int32.toInt (Iw5 S 27) = Int32.toInt (I0 S 27)) → (Int32.toInt (Iw5 TW 27) = Int32.toInt (I0 S 27) + x2_6.toInt) → SV frT P K O I0 J0 Iw5 Jw5 → GG X 6 P K Iw5 O Jw5 0 0 126 [(0, .ref a0), (1, .int x1), (2, .int x2_6), (3, .int y3_110), (4, .int y4_110)] [.int s0_126, .int (Int32.ofInt (34)), .ref TW] := by
            intro s0_126 Iw5 Jw5 jv0_126 jv1_126 hVw5
            refine gt_iastc (c := 34) C dMo_rules_126 hTWk (by decide) rfl (ofI (by decide)) (n := 37) rfl (by decide) (by decide) hVw5 rfl trivial (fun Iw6 eIw6 hVw6 => ?_)
            have tkw6_TW_27 : (Iw6 TW 27).toInt = (Iw5 TW 27).toInt := by rw [eIw6, up2_ne _ _ (fun z => absurd z.2 (by decide))]
            have tkw6_S_27 : (Iw6 S 27).toInt = (Iw5 S 27).toInt := by rw [eIw6, up2_ne _ _ (fun z => by have q := hSk.2; rw [z.1, hTWk.2] at q; exact absurd q (by decide))]
            have tkw6_TL_27 : (Iw6 TL 27).toInt = (Iw5 TL 27).toInt := by rw [eIw6, up2_ne _ _ (fun z => by have q := hTLk.2; rw [z.1, hTWk.2] at q; exact absurd q (by decide))]
            refine g_aload_n C dMo_rules_127 rfl ?_
            refine g_aload_n C dMo_rules_128 rfl ?_
            refine gt_getS C dMo_rules_129 fl_Mo_21 h0 hTWo ?_
            refine s_callV_v (av := fun ad => [.ref TW]) C dMo_rules_132 mfMo_goes mvMo_goes ln_Mo_332 h0 (by decide) rfl hVw6 (frL_le (by decide)) (cMo_goes_G49 hVw6.1 h0 hTWk hMo hMk (hGM.keep (hVw6.2 M (by rw [hMk.2]; rfl)).1) (by omega)) rfl rfl (Nat.le_of_ble_eq_true rfl) ⟨Nat.le_of_ble_eq_true rfl, Nat.le_of_ble_eq_true rfl⟩ ⟨rfl, rfl⟩ ⟨Nat.zero_le _, Nat.zero_le _⟩ (fun Iw7 Jw7 hVw7 hFw7 p_132 => ?_)
            have tkw7_S_27 : (Iw7 S 27).toInt = (Iw6 S 27).toInt := by rw [(hFw7 S (by rw [hSk.2]; rfl)).1 27]
            have tkw7_TL_27 : (Iw7 TL 27).toInt = (Iw6 TL 27).toInt := by rw [(hFw7 TL (by rw [hTLk.2]; rfl)).1 27]
            try dsimp only at p_132
            first | refine n_iinc C dMo_rules_135 rfl rfl (by decide) (by decide) (by omega) (fun z_135 e_135 => ?_) | refine a_iinc C dMo_rules_135 rfl (by decide) (fun z_135 => ?_)
            refine g_goto 6 C dMo_rules_138 (by decide) ?_
            exact g_sub (ih_6 _ (by omega) z_135 Iw7 Jw7 rfl (by omega) (by omega) (by omega) hVw7) ⟨rfl, rfl, rfl, trivial⟩
          refine gt_icmp_ne 125 C dMo_rules_118 (by decide) rfl (ofI (by decide)) (fun c_118 => ?_) (fun c_118 => ?_)
          · skip
            refine g_iload_n C dMo_rules_125 rfl ?_
            exact g_sub (jn_126 y3_110 Iw4 Jw4 (by omega) (by omega) hVw4) ⟨rfl, rfl, rfl, rfl, rfl, trivial⟩
          · skip
            refine g_iconst (v := Int32.ofInt (0)) C dMo_rules_121 (by decide) ?_
            refine g_goto 126 C dMo_rules_122 (by decide) ?_
            exact g_sub (jn_126 (Int32.ofInt (0)) Iw4 Jw4 (by omega) (by omega) hVw4) ⟨rfl, rfl, rfl, rfl, rfl, trivial⟩
        refine gt_icmp_gt 110 C dMo_rules_19 (by decide) rfl (ofI (by decide)) (fun c_19 => ?_) (fun c_19 => ?_)
        · skip
          exact g_sub (jn_110 x3_16 x4_16 Iw3 Jw3 (by omega) (by omega) hVw3) ⟨rfl, rfl, rfl, rfl, rfl, trivial⟩
        · skip
          refine g_iload_n C dMo_rules_22 rfl ?_
          refine g_iconst (v := Int32.ofInt (-1)) C dMo_rules_23 (by decide) ?_
          refine gt_icmp_ne 110 C dMo_rules_24 (by decide) rfl (ofI (by decide)) (fun c_24 => ?_) (fun c_24 => ?_)
          · skip
            exact g_sub (jn_110 x3_16 x4_16 Iw3 Jw3 (by omega) (by omega) hVw3) ⟨rfl, rfl, rfl, rfl, rfl, trivial⟩
          · skip
            refine g_iconst (v := Int32.ofInt (0)) C dMo_rules_27 (by decide) ?_
            refine g_istore C dMo_rules_28 (by decide) ?_
            have lp_30 : ∀ (nn_30 : Nat) (x5_30 : Int32) (Iw8 : Nat → Nat → Int32) (Jw8 : Nat → Nat → Int64), Int.toNat (37 - x5_30.toInt) = nn_30 → (0 ≤ Int32.toInt x5_30 ∧ Int32.toInt x5_30 ≤ 37) → (Int32.toInt (Iw8 S 27) = Int32.toInt (I0 S 27)) → (Int32.toInt (Iw8 TW 27) = Int32.toInt (I0 S 27) + x2_6.toInt) → (Int32.toInt x5_30 ≤ 27 ∨ Int32.toInt (Iw8 TL 27) = Int32.toInt (Iw8 TW 27)) → SV frT P K O I0 J0 Iw8 Jw8 → GG X 6 P K Iw8 O Jw8 0 0 30 [(0, .ref a0), (1, .int x1), (2, .int x2_6), (3, .int x3_16), (4, .int x4_16), (5, .int x5_30)] [] := by
              intro nn_30
              induction nn_30 using Nat.strongRecOn with
              | ind nn_30 ih_30 =>
              intro x5_30 Iw8 Jw8 hn_30 iv0_30 iv1_30 iv2_30 iv3_30 hVw8
              have rg5_30 := rg x5_30
              refine g_iload C dMo_rules_30 rfl ?_
              refine g_bipush (v := Int32.ofInt (37)) C dMo_rules_32 (by decide) ?_
              refine gt_icmp_ge 57 C dMo_rules_34 (by decide) rfl (ofI (by decide)) (fun c_34 => ?_) (fun c_34 => ?_)
              · skip
                refine g_aload_n C dMo_rules_57 rfl ?_
                refine gt_getS C dMo_rules_58 fl_Mo_57 h0 hTLo ?_
                refine g_bipush (v := Int32.ofInt (34)) C dMo_rules_61 (by decide) ?_
                refine g_iload C dMo_rules_63 rfl ?_
                refine gt_iastc (c := 34) C dMo_rules_65 hTLk (by decide) rfl (ofI (by decide)) (n := 37) rfl (by decide) (by decide) hVw8 rfl trivial (fun Iw9 eIw9 hVw9 => ?_)
                have tkw9_TW_27 : (Iw9 TW 27).toInt = (Iw8 TW 27).toInt := by rw [eIw9, up2_ne _ _ (fun z => by have q := hTWk.2; rw [z.1, hTLk.2] at q; exact absurd q (by decide))]
                have tkw9_S_27 : (Iw9 S 27).toInt = (Iw8 S 27).toInt := by rw [eIw9, up2_ne _ _ (fun z => by have q := hSk.2; rw [z.1, hTLk.2] at q; exact absurd q (by decide))]
                have tkw9_TL_27 : (Iw9 TL 27).toInt = (Iw8 TL 27).toInt := by rw [eIw9, up2_ne _ _ (fun z => absurd z.2 (by decide))]
                refine g_aload_n C dMo_rules_66 rfl ?_
                refine g_aload_n C dMo_rules_67 rfl ?_
                refine gt_getS C dMo_rules_68 fl_Mo_57 h0 hTLo ?_
                refine s_callV_v (av := fun ad => [.ref TL]) C dMo_rules_71 mfMo_goes mvMo_goes ln_Mo_332 h0 (by decide) rfl hVw9 (frL_le (by decide)) (cMo_goes_G50 hVw9.1 h0 hTLk hMo hMk (hGM.keep (hVw9.2 M (by rw [hMk.2]; rfl)).1) (by omega)) rfl rfl (Nat.le_of_ble_eq_true rfl) ⟨Nat.le_of_ble_eq_true rfl, Nat.le_of_ble_eq_true rfl⟩ ⟨rfl, rfl⟩ ⟨Nat.zero_le _, Nat.zero_le _⟩ (fun Iw10 Jw10 hVw10 hFw10 p_71 => ?_)
                have tkw10_TW_27 : (Iw10 TW 27).toInt = (Iw9 TW 27).toInt := by rw [(hFw10 TW (by rw [hTWk.2]; rfl)).1 27]
                have tkw10_S_27 : (Iw10 S 27).toInt = (Iw9 S 27).toInt := by rw [(hFw10 S (by rw [hSk.2]; rfl)).1 27]
                try dsimp only at p_71
                refine g_aload_n C dMo_rules_74 rfl ?_
                refine gt_getS C dMo_rules_75 fl_Mo_57 h0 hTLo ?_
                refine g_bipush (v := Int32.ofInt (26)) C dMo_rules_78 (by decide) ?_
                refine gt_ialdc (c := 26) C dMo_rules_80 hTLk (by decide) rfl (ofI (by decide)) (n := 37) rfl (by decide) (by decide) ?_
                have jn_104 : ∀ (y3_104 : Int32)  (Iw11 : Nat → Nat → Int32) (Jw11 : Nat → Nat → Int64), (Int32.toInt (Iw11 S 27) = Int32.toInt (I0 S 27)) → (Int32.toInt (Iw11 TW 27) = Int32.toInt (I0 S 27) + x2_6.toInt) → SV frT P K O I0 J0 Iw11 Jw11 → GG X 6 P K Iw11 O Jw11 0 0 104 [(0, .ref a0), (1, .int x1), (2, .int x2_6), (3, .int y3_104), (4, .int x4_16), (5, .int x5_30)] [] := by
                  intro y3_104 Iw11 Jw11 jv0_104 jv1_104 hVw11
                  first | refine n_iinc C dMo_rules_104 rfl rfl (by decide) (by decide) (by omega) (fun z_104 e_104 => ?_) | refine a_iinc C dMo_rules_104 rfl (by decide) (fun z_104 => ?_)
                  refine g_goto 16 C dMo_rules_107 (by decide) ?_
                  exact g_sub (ih_16 _ (by omega) y3_104 z_104 Iw11 Jw11 rfl (by omega) (by omega) (by omega) hVw11) ⟨rfl, rfl, rfl, rfl, rfl, trivial⟩
                refine gt_if_ne 104 C dMo_rules_81 (by decide) rfl (fun c_81 => ?_) (fun c_81 => ?_)
                · skip
                  exact g_sub (jn_104 x3_16 Iw10 Jw10 (by omega) (by omega) hVw10) ⟨rfl, rfl, rfl, rfl, rfl, rfl, trivial⟩
                · skip
                  refine g_aload_n C dMo_rules_84 rfl ?_
                  refine gt_getS C dMo_rules_85 fl_Mo_57 h0 hTLo ?_
                  refine g_bipush (v := Int32.ofInt (23)) C dMo_rules_88 (by decide) ?_
                  refine gt_ialdc (c := 23) C dMo_rules_90 hTLk (by decide) rfl (ofI (by decide)) (n := 37) rfl (by decide) (by decide) ?_
                  refine g_aload_n C dMo_rules_91 rfl ?_
                  refine gt_getS C dMo_rules_92 fl_Mo_21 h0 hTWo ?_
                  refine g_bipush (v := Int32.ofInt (23)) C dMo_rules_95 (by decide) ?_
                  refine gt_ialdc (c := 23) C dMo_rules_97 hTWk (by decide) rfl (ofI (by decide)) (n := 37) rfl (by decide) (by decide) ?_
                  refine gt_icmp_ne 104 C dMo_rules_98 (by decide) rfl rfl (fun c_98 => ?_) (fun c_98 => ?_)
                  · skip
                    exact g_sub (jn_104 x3_16 Iw10 Jw10 (by omega) (by omega) hVw10) ⟨rfl, rfl, rfl, rfl, rfl, rfl, trivial⟩
                  · skip
                    refine g_iload C dMo_rules_101 rfl ?_
                    refine g_istore_n (i := 3) C dMo_rules_103 rfl (by decide) ?_
                    exact g_sub (jn_104 x4_16 Iw10 Jw10 (by omega) (by omega) hVw10) ⟨rfl, rfl, rfl, rfl, rfl, rfl, trivial⟩
              · skip
                refine g_aload_n C dMo_rules_37 rfl ?_
                refine gt_getS C dMo_rules_38 fl_Mo_57 h0 hTLo ?_
                refine g_iload C dMo_rules_41 rfl ?_
                refine g_aload_n C dMo_rules_43 rfl ?_
                refine gt_getS C dMo_rules_44 fl_Mo_21 h0 hTWo ?_
                refine g_iload C dMo_rules_47 rfl ?_
                refine gt_iald C dMo_rules_49 hTWk (by decide) rfl rfl (n := 37) rfl (by omega) ?_
                refine gt_iast C dMo_rules_50 hTLk (by decide) rfl rfl (n := 37) rfl (by omega) hVw8 rfl (okS_49 (by have q := hVw8.1.2 TW hTWk.1 x5_30.toNatClampNeg; rw [hTWk.2] at q; exact q)) (fun Iw12 eIw12 hVw12 => ?_)
                have tkw12_TW_27 : (Iw12 TW 27).toInt = (Iw8 TW 27).toInt := by rw [eIw12, up2_ne _ _ (fun z => by have q := hTWk.2; rw [z.1, hTLk.2] at q; exact absurd q (by decide))]
                have tkw12_S_27 : (Iw12 S 27).toInt = (Iw8 S 27).toInt := by rw [eIw12, up2_ne _ _ (fun z => by have q := hSk.2; rw [z.1, hTLk.2] at q; exact absurd q (by decide))]
                have cpw12 : x5_30.toInt = 27 → (Iw8 TW x5_30.toNatClampNeg).toInt = (Iw8 TW 27).toInt := fun q => have e9 : x5_30.toNatClampNeg = Int.toNat (x5_30.toInt) := rfl; have e8 : x5_30.toNatClampNeg = 27 := (by omega); (by rw [e8])
                have tkw12_TL_27 : (x5_30.toInt = 27 ∧ (Iw12 TL 27).toInt = (Iw8 TW x5_30.toNatClampNeg).toInt) ∨ (¬ x5_30.toInt = 27 ∧ (Iw12 TL 27).toInt = (Iw8 TL 27).toInt) := by rw [eIw12]; exact up2_dis (by omega) rfl
                first | refine n_iinc C dMo_rules_51 rfl rfl (by decide) (by decide) (by omega) (fun z_51 e_51 => ?_) | refine a_iinc C dMo_rules_51 rfl (by decide) (fun z_51 => ?_)
                refine g_goto 30 C dMo_rules_54 (by decide) ?_
                exact g_sub (ih_30 _ (by omega) z_51 Iw12 Jw8 rfl (by omega) (by omega) (by omega) (by omega) hVw12) ⟨rfl, rfl, rfl, rfl, rfl, rfl, trivial⟩
            exact g_sub (lp_30 _ (Int32.ofInt (0)) Iw3 Jw3 rfl (by have hci : Int32.toInt (Int32.ofInt (0)) = 0 := ofI (by decide); omega) (by omega) (by omega) (by have hci : Int32.toInt (Int32.ofInt (0)) = 0 := ofI (by decide); omega) hVw3) ⟨rfl, rfl, rfl, rfl, rfl, rfl, trivial⟩
      exact g_sub (lp_16 _ (Int32.ofInt (-1)) (Int32.ofInt (0)) Iw2 Jw2 rfl (by have hci : Int32.toInt (Int32.ofInt (0)) = 0 := ofI (by decide); omega) (by omega) (by omega) hVw2) ⟨rfl, rfl, rfl, rfl, rfl, trivial⟩
  exact g_sub (lp_6 _ (Int32.ofInt (0)) Iw1 Jw1 rfl (by have hci : Int32.toInt (Int32.ofInt (0)) = 0 := ofI (by decide); omega) (by omega) (by have hci : Int32.toInt (Int32.ofInt (0)) = 0 := ofI (by decide); omega) hVw1) ⟨rfl, rfl, rfl, trivial⟩
set_option maxHeartbeats 4000000 in
set_option maxRecDepth 100000 in
theorem cMo_leads_G {P : List Nat} {K : Nat → Nat} {I0 : Nat → Nat → Int32} {O : Nat → Nat → Option Nat} {J0 : Nat → Nat → Int64} (hV : IV P K I0 O) {a0 : Nat} (h0 : a0 ∈ P ∧ K a0 = 10) {M : Nat} (hMo : O a0 3 = some M) (hMk : M ∈ P ∧ K M = 9) (hGM : GM I0 M) : Con yMo_leads bMo_leads 8 (some .long) ({ frames := 1, cells := 0, slots := 0, locals := 22 } : Room) P K I0 O J0 [.ref a0] (SPo frX41 3 (tt) P K I0 O J0) := by
  refine Con.ofG mfMo_leads (Nat.le_of_ble_eq_true rfl) ?_
  intro X C E
  have hV0 : SV frX41 P K O I0 J0 I0 J0 := SV.rf hV
  refine g_iconst (v := Int32.ofInt (0)) C dMo_leads_0 (by decide) ?_
  refine g_istore_n (i := 1) C dMo_leads_1 rfl (by decide) ?_
  have lp_2 : ∀ (nn_2 : Nat) (x1_2 : Int32) (Iw1 : Nat → Nat → Int32) (Jw1 : Nat → Nat → Int64), Int.toNat (5 - x1_2.toInt) = nn_2 → (0 ≤ Int32.toInt x1_2 ∧ Int32.toInt x1_2 ≤ 5) → SV frX41 P K O I0 J0 Iw1 Jw1 → GG X 8 P K Iw1 O Jw1 0 0 2 [(0, .ref a0), (1, .int x1_2)] [] := by
    intro nn_2
    induction nn_2 using Nat.strongRecOn with
    | ind nn_2 ih_2 =>
    intro x1_2 Iw1 Jw1 hn_2 iv0_2 hVw1
    have rg1_2 := rg x1_2
    refine g_iload_n C dMo_leads_2 rfl ?_
    refine g_aload_n C dMo_leads_3 rfl ?_
    refine gt_getS C dMo_leads_4 fl_Mo_290 h0 hMo ?_
    refine g_geti C dMo_leads_7 fl_Mo_191 hMk ?_
    have o_7 := hVw1.1.2 M hMk.1 8
    rw [hMk.2] at o_7
    have o_7 : 0 ≤ (Iw1 M 8).toInt ∧ (Iw1 M 8).toInt ≤ 5 := o_7
    refine gt_icmp_ge 41 C dMo_leads_10 (by decide) rfl rfl (fun c_10 => ?_) (fun c_10 => ?_)
    · skip
      refine g_aload_n C dMo_leads_41 rfl ?_
      refine gt_getr C dMo_leads_42 fl_Mo_21 h0 hVw1.1.1 rfl (fun b_42 q_42 hb_42 => ?_)
      refine g_bipush (v := Int32.ofInt (26)) C dMo_leads_45 (by decide) ?_
      refine gt_ialdc (c := 26) C dMo_leads_47 hb_42 (by decide) rfl (ofI (by decide)) (n := 37) rfl (by decide) (by decide) ?_
      refine g_iconst (v := Int32.ofInt (1)) C dMo_leads_48 (by decide) ?_
      refine gt_icmp_ne 54 C dMo_leads_49 (by decide) rfl (ofI (by decide)) (fun c_49 => ?_) (fun c_49 => ?_)
      · skip
        refine g_aload_n C dMo_leads_54 rfl ?_
        refine gt_getS C dMo_leads_55 fl_Mo_290 h0 hMo ?_
        refine g_geti C dMo_leads_58 fl_Mo_191 hMk ?_
        have o_58 := hVw1.1.2 M hMk.1 8
        rw [hMk.2] at o_58
        have o_58 : 0 ≤ (Iw1 M 8).toInt ∧ (Iw1 M 8).toInt ≤ 5 := o_58
        refine g_iconst (v := Int32.ofInt (2)) C dMo_leads_61 (by decide) ?_
        first | refine n_isub C dMo_leads_62 rfl (ofI (by decide)) (by omega) (fun z_62 e_62 => ?_) | refine a_isub C dMo_leads_62 (fun z_62 => ?_)
        refine g_istore_n (i := 1) C dMo_leads_63 rfl (by decide) ?_
        have lp_64 : ∀ (nn_64 : Nat) (x1_64 : Int32) (Iw2 : Nat → Nat → Int32) (Jw2 : Nat → Nat → Int64), Int.toNat (x1_64.toInt + 3) = nn_64 → (-2 ≤ Int32.toInt x1_64 ∧ Int32.toInt x1_64 ≤ 3) → SV frX41 P K O I0 J0 Iw2 Jw2 → GG X 8 P K Iw2 O Jw2 0 0 64 [(0, .ref a0), (1, .int x1_64)] [] := by
          intro nn_64
          induction nn_64 using Nat.strongRecOn with
          | ind nn_64 ih_64 =>
          intro x1_64 Iw2 Jw2 hn_64 iv0_64 hVw2
          have rg1_64 := rg x1_64
          refine g_iload_n C dMo_leads_64 rfl ?_
          refine gt_if_lt 180 C dMo_leads_65 (by decide) rfl (fun c_65 => ?_) (fun c_65 => ?_)
          · skip
            refine g_lconst (v := 0) C dMo_leads_180 (by decide) ?_
            refine g_lstore_n (i := 1) C dMo_leads_181 rfl (by decide) ?_
            refine g_iconst (v := Int32.ofInt (0)) C dMo_leads_182 (by decide) ?_
            refine g_istore_n (i := 3) C dMo_leads_183 rfl (by decide) ?_
            have lp_184 : ∀ (nn_184 : Nat) (x1_184 : Int64) (x3_184 : Int32) (Iw3 : Nat → Nat → Int32) (Jw3 : Nat → Nat → Int64), Int.toNat (5 - x3_184.toInt) = nn_184 → (0 ≤ Int32.toInt x3_184 ∧ Int32.toInt x3_184 ≤ 5) → SV frX41 P K O I0 J0 Iw3 Jw3 → GG X 8 P K Iw3 O Jw3 0 0 184 [(0, .ref a0), (1, .long x1_184), (3, .int x3_184)] [] := by
              intro nn_184
              induction nn_184 using Nat.strongRecOn with
              | ind nn_184 ih_184 =>
              intro x1_184 x3_184 Iw3 Jw3 hn_184 iv0_184 hVw3
              have rg3_184 := rg x3_184
              refine g_iload_n C dMo_leads_184 rfl ?_
              refine g_aload_n C dMo_leads_185 rfl ?_
              refine gt_getS C dMo_leads_186 fl_Mo_290 h0 hMo ?_
              refine g_geti C dMo_leads_189 fl_Mo_191 hMk ?_
              have o_189 := hVw3.1.2 M hMk.1 8
              rw [hMk.2] at o_189
              have o_189 : 0 ≤ (Iw3 M 8).toInt ∧ (Iw3 M 8).toInt ≤ 5 := o_189
              refine gt_icmp_ge 277 C dMo_leads_192 (by decide) rfl rfl (fun c_192 => ?_) (fun c_192 => ?_)
              · skip
                refine g_lload_n C dMo_leads_277 rfl ?_
                exact s_lret C E dMo_leads_278 ⟨Nat.zero_le _, Nat.zero_le _⟩ hVw3 trivial
              · skip
                refine g_aload_n C dMo_leads_195 rfl ?_
                refine gt_getr C dMo_leads_196 fl_Mo_66 h0 hVw3.1.1 rfl (fun b_196 q_196 hb_196 => ?_)
                refine g_iload_n C dMo_leads_199 rfl ?_
                refine gt_lald C dMo_leads_200 hb_196 (by decide) rfl rfl (n := 5) rfl (by omega) ?_
                refine g_bipush (v := Int32.ofInt (20)) C dMo_leads_201 (by decide) ?_
                refine g_bipush (v := Int32.ofInt (10)) C dMo_leads_203 (by decide) ?_
                refine g_aload_n C dMo_leads_205 rfl ?_
                refine gt_getS C dMo_leads_206 fl_Mo_21 h0 q_42 ?_
                refine g_bipush (v := Int32.ofInt (35)) C dMo_leads_209 (by decide) ?_
                refine gt_ialdc (c := 35) C dMo_leads_211 hb_42 (by decide) rfl (ofI (by decide)) (n := 37) rfl (by decide) (by decide) ?_
                first | refine n_imul C dMo_leads_212 (ofI (by decide)) rfl (by omega) (fun z_212 e_212 => ?_) | refine a_imul C dMo_leads_212 (fun z_212 => ?_)
                first | refine n_iadd C dMo_leads_213 (ofI (by decide)) rfl (by omega) (fun z_213 e_213 => ?_) | refine a_iadd C dMo_leads_213 (fun z_213 => ?_)
                refine gt_i2l C dMo_leads_214 (fun z_214 e_214 => ?_)
                refine a_lmul C dMo_leads_215 (fun z_215 => ?_)
                refine g_ldc2 (v := 100) C dMo_leads_216 k_Mo_386 ?_
                refine a_ldiv C dMo_leads_219 (by decide) (fun z_219 => ?_)
                refine g_lstore C dMo_leads_220 (by decide) ?_
                refine g_lload C dMo_leads_222 rfl ?_
                refine g_aload_n C dMo_leads_224 rfl ?_
                refine g_iload_n C dMo_leads_225 rfl ?_
                refine g_aload_n C dMo_leads_226 rfl ?_
                refine gt_getS C dMo_leads_227 fl_Mo_21 h0 q_42 ?_
                refine g_bipush (v := Int32.ofInt (25)) C dMo_leads_230 (by decide) ?_
                refine gt_ialdc (c := 25) C dMo_leads_232 hb_42 (by decide) rfl (ofI (by decide)) (n := 37) rfl (by decide) (by decide) ?_
                refine s_callV_ip (av := fun ad => [.int x3_184, .int (Iw3 b_42 25)]) C dMo_leads_233 mfMo_passes mvMo_passes ln_Mo_320 h0 (by decide) rfl (cMo_passes_G hVw3.1 h0 hMo hMk (hGM.keep (hVw3.2 M (by rw [hMk.2]; rfl)).1)) rfl rfl (Nat.le_of_ble_eq_true rfl) ⟨Nat.le_of_ble_eq_true rfl, Nat.le_of_ble_eq_true rfl⟩ ⟨rfl, rfl⟩ ⟨Nat.zero_le _, Nat.zero_le _⟩ (fun z_233 p_233 => ?_)
                have rz_233 := rg z_233
                refine gt_i2l C dMo_leads_236 (fun z_236 e_236 => ?_)
                refine a_lmul C dMo_leads_237 (fun z_237 => ?_)
                refine g_ldc2 (v := 100) C dMo_leads_238 k_Mo_386 ?_
                refine a_ldiv C dMo_leads_241 (by decide) (fun z_241 => ?_)
                refine g_lstore C dMo_leads_242 (by decide) ?_
                refine g_aload_n C dMo_leads_244 rfl ?_
                refine gt_getS C dMo_leads_245 fl_Mo_66 h0 q_196 ?_
                refine g_iload_n C dMo_leads_248 rfl ?_
                refine g_dup2 C dMo_leads_249 rfl rfl ?_
                refine gt_lald C dMo_leads_250 hb_196 (by decide) rfl rfl (n := 5) rfl (by omega) ?_
                refine g_lload C dMo_leads_251 rfl ?_
                refine a_lsub C dMo_leads_253 (fun z_253 => ?_)
                refine gt_last C dMo_leads_254 hb_196 (by decide) rfl rfl (n := 5) rfl (by omega) hVw3 rfl (fun Jw5 eJw5 hVw5 => ?_)
                refine g_aload_n C dMo_leads_255 rfl ?_
                refine gt_getr C dMo_leads_256 fl_Mo_70 h0 hVw5.1.1 rfl (fun b_256 q_256 hb_256 => ?_)
                refine g_iload_n C dMo_leads_259 rfl ?_
                refine g_lload C dMo_leads_260 rfl ?_
                refine g_lload C dMo_leads_262 rfl ?_
                refine a_lsub C dMo_leads_264 (fun z_264 => ?_)
                refine gt_last C dMo_leads_265 hb_256 (by decide) rfl rfl (n := 5) rfl (by omega) hVw5 rfl (fun Jw6 eJw6 hVw6 => ?_)
                refine g_lload_n C dMo_leads_266 rfl ?_
                refine g_lload C dMo_leads_267 rfl ?_
                refine a_ladd C dMo_leads_269 (fun z_269 => ?_)
                refine g_lstore_n (i := 1) C dMo_leads_270 rfl (by decide) ?_
                first | refine n_iinc C dMo_leads_271 rfl rfl (by decide) (by decide) (by omega) (fun z_271 e_271 => ?_) | refine a_iinc C dMo_leads_271 rfl (by decide) (fun z_271 => ?_)
                refine g_goto 184 C dMo_leads_274 (by decide) ?_
                exact g_sub (ih_184 _ (by omega) z_269 z_271 Iw3 Jw6 rfl (by omega) hVw6) ⟨rfl, rfl, rfl, trivial⟩
            exact g_sub (lp_184 _ (0 : Int64) (Int32.ofInt (0)) Iw2 Jw2 rfl (by have hci : Int32.toInt (Int32.ofInt (0)) = 0 := ofI (by decide); omega) hVw2) ⟨rfl, rfl, rfl, trivial⟩
          · skip
            refine g_aload_n C dMo_leads_68 rfl ?_
            refine gt_getr C dMo_leads_69 fl_Mo_66 h0 hVw2.1.1 rfl (fun b_69 q_69 hb_69 => ?_)
            refine g_iload_n C dMo_leads_72 rfl ?_
            refine gt_lald C dMo_leads_73 hb_69 (by decide) rfl rfl (n := 5) rfl (by omega) ?_
            refine g_aload_n C dMo_leads_74 rfl ?_
            refine gt_getS C dMo_leads_75 fl_Mo_290 h0 hMo ?_
            refine gt_getr C dMo_leads_78 fl_Mo_267 hMk hVw2.1.1 rfl (fun b_78 q_78 hb_78 => ?_)
            refine g_iload_n C dMo_leads_81 rfl ?_
            refine gt_iald C dMo_leads_82 hb_78 (by decide) rfl rfl (n := 5) rfl (by omega) ?_
            refine gt_i2l C dMo_leads_83 (fun z_83 e_83 => ?_)
            refine a_lmul C dMo_leads_84 (fun z_84 => ?_)
            refine g_aload_n C dMo_leads_85 rfl ?_
            refine gt_getS C dMo_leads_86 fl_Mo_21 h0 q_42 ?_
            refine g_bipush (v := Int32.ofInt (29)) C dMo_leads_89 (by decide) ?_
            refine gt_ialdc (c := 29) C dMo_leads_91 hb_42 (by decide) rfl (ofI (by decide)) (n := 37) rfl (by decide) (by decide) ?_
            refine gt_i2l C dMo_leads_92 (fun z_92 e_92 => ?_)
            refine a_lmul C dMo_leads_93 (fun z_93 => ?_)
            refine g_ldc2 (v := 10000) C dMo_leads_94 k_Mo_384 ?_
            refine a_ldiv C dMo_leads_97 (by decide) (fun z_97 => ?_)
            refine g_lstore_n (i := 2) C dMo_leads_98 rfl (by decide) ?_
            refine g_lload_n C dMo_leads_99 rfl ?_
            refine g_aload_n C dMo_leads_100 rfl ?_
            refine gt_getS C dMo_leads_101 fl_Mo_290 h0 hMo ?_
            refine gt_getr C dMo_leads_104 fl_Mo_270 hMk hVw2.1.1 rfl (fun b_104 q_104 hb_104 => ?_)
            refine g_iload_n C dMo_leads_107 rfl ?_
            refine gt_iald C dMo_leads_108 hb_104 (by decide) rfl rfl (n := 5) rfl (by omega) ?_
            refine gt_i2l C dMo_leads_109 (fun z_109 e_109 => ?_)
            refine a_lmul C dMo_leads_110 (fun z_110 => ?_)
            refine g_ldc2 (v := 100) C dMo_leads_111 k_Mo_386 ?_
            refine a_ldiv C dMo_leads_114 (by decide) (fun z_114 => ?_)
            refine g_lstore C dMo_leads_115 (by decide) ?_
            refine g_aload_n C dMo_leads_117 rfl ?_
            refine gt_getS C dMo_leads_118 fl_Mo_66 h0 q_69 ?_
            refine g_iload_n C dMo_leads_121 rfl ?_
            refine g_dup2 C dMo_leads_122 rfl rfl ?_
            refine gt_lald C dMo_leads_123 hb_69 (by decide) rfl rfl (n := 5) rfl (by omega) ?_
            refine g_lload_n C dMo_leads_124 rfl ?_
            refine a_lsub C dMo_leads_125 (fun z_125 => ?_)
            refine gt_last C dMo_leads_126 hb_69 (by decide) rfl rfl (n := 5) rfl (by omega) hVw2 rfl (fun Jw7 eJw7 hVw7 => ?_)
            refine g_aload_n C dMo_leads_127 rfl ?_
            refine gt_getS C dMo_leads_128 fl_Mo_66 h0 q_69 ?_
            refine g_iload_n C dMo_leads_131 rfl ?_
            refine g_iconst (v := Int32.ofInt (1)) C dMo_leads_132 (by decide) ?_
            first | refine n_iadd C dMo_leads_133 rfl (ofI (by decide)) (by omega) (fun z_133 e_133 => ?_) | refine a_iadd C dMo_leads_133 (fun z_133 => ?_)
            refine g_dup2 C dMo_leads_134 rfl rfl ?_
            refine gt_lald C dMo_leads_135 hb_69 (by decide) rfl rfl (n := 5) rfl (by omega) ?_
            refine g_lload C dMo_leads_136 rfl ?_
            refine a_ladd C dMo_leads_138 (fun z_138 => ?_)
            refine gt_last C dMo_leads_139 hb_69 (by decide) rfl rfl (n := 5) rfl (by omega) hVw7 rfl (fun Jw8 eJw8 hVw8 => ?_)
            refine g_aload_n C dMo_leads_140 rfl ?_
            refine gt_getS C dMo_leads_141 fl_Mo_66 h0 q_69 ?_
            refine g_iload_n C dMo_leads_144 rfl ?_
            refine g_iconst (v := Int32.ofInt (2)) C dMo_leads_145 (by decide) ?_
            first | refine n_iadd C dMo_leads_146 rfl (ofI (by decide)) (by omega) (fun z_146 e_146 => ?_) | refine a_iadd C dMo_leads_146 (fun z_146 => ?_)
            refine g_aload_n C dMo_leads_147 rfl ?_
            refine gt_getS C dMo_leads_148 fl_Mo_290 h0 hMo ?_
            refine g_geti C dMo_leads_151 fl_Mo_191 hMk ?_
            have o_151 := hVw8.1.2 M hMk.1 8
            rw [hMk.2] at o_151
            have o_151 : 0 ≤ (Iw2 M 8).toInt ∧ (Iw2 M 8).toInt ≤ 5 := o_151
            have jn_166 : ∀  (s0_166 : Int32) (Iw9 : Nat → Nat → Int32) (Jw9 : Nat → Nat → Int64), (0 ≤ Int32.toInt s0_166 ∧ Int32.toInt s0_166 ≤ 4) → SV frX41 P K O I0 J0 Iw9 Jw9 → GG X 8 P K Iw9 O Jw9 0 0 166 [(0, .ref a0), (1, .int x1_64), (2, .long z_97), (4, .long z_114)] [.int s0_166, .ref b_69] := by
              intro s0_166 Iw9 Jw9 jv0_166 hVw9
              refine g_dup2 C dMo_leads_166 rfl rfl ?_
              refine gt_lald C dMo_leads_167 hb_69 (by decide) rfl rfl (n := 5) rfl (by omega) ?_
              refine g_lload_n C dMo_leads_168 rfl ?_
              refine g_lload C dMo_leads_169 rfl ?_
              refine a_lsub C dMo_leads_171 (fun z_171 => ?_)
              refine a_ladd C dMo_leads_172 (fun z_172 => ?_)
              refine gt_last C dMo_leads_173 hb_69 (by decide) rfl rfl (n := 5) rfl (by omega) hVw9 rfl (fun Jw10 eJw10 hVw10 => ?_)
              first | refine n_iinc C dMo_leads_174 rfl rfl (by decide) (by decide) (by omega) (fun z_174 e_174 => ?_) | refine a_iinc C dMo_leads_174 rfl (by decide) (fun z_174 => ?_)
              refine g_goto 64 C dMo_leads_177 (by decide) ?_
              exact g_sub (ih_64 _ (by omega) z_174 Iw9 Jw10 rfl (by omega) hVw10) ⟨rfl, rfl, trivial⟩
            refine gt_icmp_ge 163 C dMo_leads_154 (by decide) rfl rfl (fun c_154 => ?_) (fun c_154 => ?_)
            · skip
              refine g_iload_n C dMo_leads_163 rfl ?_
              refine g_iconst (v := Int32.ofInt (1)) C dMo_leads_164 (by decide) ?_
              first | refine n_iadd C dMo_leads_165 rfl (ofI (by decide)) (by omega) (fun z_165 e_165 => ?_) | refine a_iadd C dMo_leads_165 (fun z_165 => ?_)
              exact g_sub (jn_166 z_165 Iw2 Jw8 (by omega) hVw8) ⟨rfl, rfl, rfl, rfl, trivial⟩
            · skip
              refine g_iload_n C dMo_leads_157 rfl ?_
              refine g_iconst (v := Int32.ofInt (2)) C dMo_leads_158 (by decide) ?_
              first | refine n_iadd C dMo_leads_159 rfl (ofI (by decide)) (by omega) (fun z_159 e_159 => ?_) | refine a_iadd C dMo_leads_159 (fun z_159 => ?_)
              refine g_goto 166 C dMo_leads_160 (by decide) ?_
              exact g_sub (jn_166 z_159 Iw2 Jw8 (by omega) hVw8) ⟨rfl, rfl, rfl, rfl, trivial⟩
        exact g_sub (lp_64 _ z_62 Iw1 Jw1 rfl (by omega) hVw1) ⟨rfl, rfl, trivial⟩
      · skip
        refine g_lconst (v := 0) C dMo_leads_52 (by decide) ?_
        exact s_lret C E dMo_leads_53 ⟨Nat.zero_le _, Nat.zero_le _⟩ hVw1 trivial
    · skip
      refine g_aload_n C dMo_leads_13 rfl ?_
      refine gt_getr C dMo_leads_14 fl_Mo_66 h0 hVw1.1.1 rfl (fun b_14 q_14 hb_14 => ?_)
      refine g_iload_n C dMo_leads_17 rfl ?_
      refine g_dup2 C dMo_leads_18 rfl rfl ?_
      refine gt_lald C dMo_leads_19 hb_14 (by decide) rfl rfl (n := 5) rfl (by omega) ?_
      refine g_aload_n C dMo_leads_20 rfl ?_
      refine gt_getr C dMo_leads_21 fl_Mo_70 h0 hVw1.1.1 rfl (fun b_21 q_21 hb_21 => ?_)
      refine g_iload_n C dMo_leads_24 rfl ?_
      refine gt_lald C dMo_leads_25 hb_21 (by decide) rfl rfl (n := 5) rfl (by omega) ?_
      refine a_ladd C dMo_leads_26 (fun z_26 => ?_)
      refine gt_last C dMo_leads_27 hb_14 (by decide) rfl rfl (n := 5) rfl (by omega) hVw1 rfl (fun Jw11 eJw11 hVw11 => ?_)
      refine g_aload_n C dMo_leads_28 rfl ?_
      refine gt_getS C dMo_leads_29 fl_Mo_70 h0 q_21 ?_
      refine g_iload_n C dMo_leads_32 rfl ?_
      refine g_lconst (v := 0) C dMo_leads_33 (by decide) ?_
      refine gt_last C dMo_leads_34 hb_21 (by decide) rfl rfl (n := 5) rfl (by omega) hVw11 rfl (fun Jw12 eJw12 hVw12 => ?_)
      first | refine n_iinc C dMo_leads_35 rfl rfl (by decide) (by decide) (by omega) (fun z_35 e_35 => ?_) | refine a_iinc C dMo_leads_35 rfl (by decide) (fun z_35 => ?_)
      refine g_goto 2 C dMo_leads_38 (by decide) ?_
      exact g_sub (ih_2 _ (by omega) z_35 Iw1 Jw12 rfl (by omega) hVw12) ⟨rfl, rfl, trivial⟩
  exact g_sub (lp_2 _ (Int32.ofInt (0)) I0 J0 rfl (by have hci : Int32.toInt (Int32.ofInt (0)) = 0 := ofI (by decide); omega) hV0) ⟨rfl, rfl, trivial⟩
