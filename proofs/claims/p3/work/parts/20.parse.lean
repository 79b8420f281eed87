set_option maxHeartbeats 4000000 in
set_option maxRecDepth 100000 in
theorem cMo_wrongHere_O {P : List Nat} {K : Nat → Nat} {I0 : Nat → Nat → Int32} {O : Nat → Nat → Option Nat} {J0 : Nat → Nat → Int64} (hV : IV P K I0 O) {a0 : Nat} (h0 : a0 ∈ P ∧ K a0 = 10) {x1 : Int32} {x2 : Int32} (pr0 : Int32.toInt (I0 a0 9) = 5 ∧ 1 ≤ Int32.toInt (I0 a0 13)) : Con yMo_wrongHere bMo_wrongHere 3 none ({ frames := 0, cells := 0, slots := 0, locals := 0 } : Room) P K I0 O J0 [.ref a0, .int x1, .int x2] (SPo frX10 0 (fun _ I_ => (I_ a0 6).toInt = (I0 a0 6).toInt ∧ (I_ a0 7).toInt = (I0 a0 7).toInt ∧ (I_ a0 18).toInt = (I0 a0 18).toInt ∧ (I_ a0 8).toInt = (I0 a0 8).toInt ∧ (I_ a0 9).toInt = (I0 a0 9).toInt ∧ (I_ a0 13).toInt = (I0 a0 13).toInt) P K I0 O J0) := by
  refine Con.ofG mfMo_wrongHere (Nat.le_of_ble_eq_true rfl) ?_
  intro X C E
  have r1 := rg x1
  have r2 := rg x2
  have ok_a0_7 := hV.2 a0 h0.1 7
  rw [h0.2] at ok_a0_7
  have ok_a0_7 : 0 ≤ (I0 a0 7).toInt ∧ (I0 a0 7).toInt ≤ 700 := ok_a0_7
  have ok_a0_8 := hV.2 a0 h0.1 8
  rw [h0.2] at ok_a0_8
  have ok_a0_8 : 0 ≤ (I0 a0 8).toInt ∧ (I0 a0 8).toInt ≤ 700 := ok_a0_8
  have hV0 : SV frX10 P K O I0 J0 I0 J0 := SV.rf hV
  refine g_aload_n C dMo_wrongHere_0 rfl ?_
  refine g_geti C dMo_wrongHere_1 fl_Mo_94 h0 ?_
  refine g_iconst (v := Int32.ofInt (5)) C dMo_wrongHere_4 (by decide) ?_
  refine gt_icmp_ne 9 C dMo_wrongHere_5 (by decide) rfl (ofI (by decide)) (fun c_5 => ?_) (fun c_5 => ?_)
  · skip
    exfalso; omega
  · skip
    exact s_vret C E dMo_wrongHere_8 ⟨Nat.zero_le _, Nat.zero_le _⟩ hV0 (by (try dsimp only); omega)
set_option maxHeartbeats 4000000 in
set_option maxRecDepth 100000 in
theorem cMo_wrongHere_N {P : List Nat} {K : Nat → Nat} {I0 : Nat → Nat → Int32} {O : Nat → Nat → Option Nat} {J0 : Nat → Nat → Int64} (hV : IV P K I0 O) {a0 : Nat} (h0 : a0 ∈ P ∧ K a0 = 10) {x1 : Int32} {x2 : Int32} (pr0 : 0 ≤ Int32.toInt (I0 a0 9) ∧ Int32.toInt (I0 a0 9) ≤ 4 ∧ Int32.toInt (I0 a0 13) = 0) (pr1 : 1 ≤ Int32.toInt x1) : Con yMo_wrongHere bMo_wrongHere 3 none ({ frames := 0, cells := 0, slots := 0, locals := 0 } : Room) P K I0 O J0 [.ref a0, .int x1, .int x2] (SPo frX10 0 (fun _ I_ => Int32.toInt (I_ a0 9) = 5 ∧ 1 ≤ Int32.toInt (I_ a0 13) ∧ Int32.toInt (I_ a0 8) = Int32.toInt (I0 a0 8) ∧ (I_ a0 6).toInt = (I0 a0 6).toInt ∧ (I_ a0 7).toInt = (I0 a0 7).toInt ∧ (I_ a0 18).toInt = (I0 a0 18).toInt) P K I0 O J0) := by
  refine Con.ofG mfMo_wrongHere (Nat.le_of_ble_eq_true rfl) ?_
  intro X C E
  have r1 := rg x1
  have r2 := rg x2
  have ok_a0_7 := hV.2 a0 h0.1 7
  rw [h0.2] at ok_a0_7
  have ok_a0_7 : 0 ≤ (I0 a0 7).toInt ∧ (I0 a0 7).toInt ≤ 700 := ok_a0_7
  have ok_a0_8 := hV.2 a0 h0.1 8
  rw [h0.2] at ok_a0_8
  have ok_a0_8 : 0 ≤ (I0 a0 8).toInt ∧ (I0 a0 8).toInt ≤ 700 := ok_a0_8
  have hV0 : SV frX10 P K O I0 J0 I0 J0 := SV.rf hV
  refine g_aload_n C dMo_wrongHere_0 rfl ?_
  refine g_geti C dMo_wrongHere_1 fl_Mo_94 h0 ?_
  refine g_iconst (v := Int32.ofInt (5)) C dMo_wrongHere_4 (by decide) ?_
  refine gt_icmp_ne 9 C dMo_wrongHere_5 (by decide) rfl (ofI (by decide)) (fun c_5 => ?_) (fun c_5 => ?_)
  · skip
    refine g_aload_n C dMo_wrongHere_9 rfl ?_
    refine g_iload_n C dMo_wrongHere_10 rfl ?_
    refine gt_puti C dMo_wrongHere_11 fl_Mo_128 h0 hV0 rfl trivial rfl (Or.inl rfl) (fun Iw1 eIw1 hVw1 => ?_)
    have tkw1_a0_8 : (Iw1 a0 8).toInt = (I0 a0 8).toInt := by rw [eIw1, up2_ne _ _ (fun z => absurd z.2 (by decide))]
    have tkw1_a0_9 : (Iw1 a0 9).toInt = (I0 a0 9).toInt := by rw [eIw1, up2_ne _ _ (fun z => absurd z.2 (by decide))]
    have tkw1_a0_13 : (Iw1 a0 13).toInt = x1.toInt := by rw [eIw1, up2_self]
    have tkw1_a0_6 : (Iw1 a0 6).toInt = (I0 a0 6).toInt := by rw [eIw1, up2_ne _ _ (fun z => absurd z.2 (by decide))]
    have tkw1_a0_7 : (Iw1 a0 7).toInt = (I0 a0 7).toInt := by rw [eIw1, up2_ne _ _ (fun z => absurd z.2 (by decide))]
    have tkw1_a0_18 : (Iw1 a0 18).toInt = (I0 a0 18).toInt := by rw [eIw1, up2_ne _ _ (fun z => absurd z.2 (by decide))]
    refine g_aload_n C dMo_wrongHere_14 rfl ?_
    refine g_iload_n C dMo_wrongHere_15 rfl ?_
    refine gt_puti C dMo_wrongHere_16 fl_Mo_131 h0 hVw1 rfl trivial rfl (Or.inl rfl) (fun Iw2 eIw2 hVw2 => ?_)
    have tkw2_a0_8 : (Iw2 a0 8).toInt = (Iw1 a0 8).toInt := by rw [eIw2, up2_ne _ _ (fun z => absurd z.2 (by decide))]
    have tkw2_a0_9 : (Iw2 a0 9).toInt = (Iw1 a0 9).toInt := by rw [eIw2, up2_ne _ _ (fun z => absurd z.2 (by decide))]
    have tkw2_a0_13 : (Iw2 a0 13).toInt = (Iw1 a0 13).toInt := by rw [eIw2, up2_ne _ _ (fun z => absurd z.2 (by decide))]
    have tkw2_a0_6 : (Iw2 a0 6).toInt = (Iw1 a0 6).toInt := by rw [eIw2, up2_ne _ _ (fun z => absurd z.2 (by decide))]
    have tkw2_a0_7 : (Iw2 a0 7).toInt = (Iw1 a0 7).toInt := by rw [eIw2, up2_ne _ _ (fun z => absurd z.2 (by decide))]
    have tkw2_a0_18 : (Iw2 a0 18).toInt = (Iw1 a0 18).toInt := by rw [eIw2, up2_ne _ _ (fun z => absurd z.2 (by decide))]
    refine g_aload_n C dMo_wrongHere_19 rfl ?_
    refine g_iconst (v := Int32.ofInt (5)) C dMo_wrongHere_20 (by decide) ?_
    refine gt_puti C dMo_wrongHere_21 fl_Mo_94 h0 hVw2 rfl trivial rfl (Or.inl rfl) (fun Iw3 eIw3 hVw3 => ?_)
    have tkw3_a0_8 : (Iw3 a0 8).toInt = (Iw2 a0 8).toInt := by rw [eIw3, up2_ne _ _ (fun z => absurd z.2 (by decide))]
    have tkw3_a0_9 : (Iw3 a0 9).toInt = 5 := by rw [eIw3, up2_self]; exact ofI (by decide)
    have tkw3_a0_13 : (Iw3 a0 13).toInt = (Iw2 a0 13).toInt := by rw [eIw3, up2_ne _ _ (fun z => absurd z.2 (by decide))]
    have tkw3_a0_6 : (Iw3 a0 6).toInt = (Iw2 a0 6).toInt := by rw [eIw3, up2_ne _ _ (fun z => absurd z.2 (by decide))]
    have tkw3_a0_7 : (Iw3 a0 7).toInt = (Iw2 a0 7).toInt := by rw [eIw3, up2_ne _ _ (fun z => absurd z.2 (by decide))]
    have tkw3_a0_18 : (Iw3 a0 18).toInt = (Iw2 a0 18).toInt := by rw [eIw3, up2_ne _ _ (fun z => absurd z.2 (by decide))]
    exact s_vret C E dMo_wrongHere_24 ⟨Nat.zero_le _, Nat.zero_le _⟩ hVw3 (by (try dsimp only); omega)
  · skip
    exfalso; omega
set_option maxHeartbeats 4000000 in
set_option maxRecDepth 100000 in
theorem cMo_wrong_O {P : List Nat} {K : Nat → Nat} {I0 : Nat → Nat → Int32} {O : Nat → Nat → Option Nat} {J0 : Nat → Nat → Int64} (hV : IV P K I0 O) {a0 : Nat} (h0 : a0 ∈ P ∧ K a0 = 10) {x1 : Int32} (pr0 : Int32.toInt (I0 a0 9) = 5 ∧ 1 ≤ Int32.toInt (I0 a0 13)) : Con yMo_wrong bMo_wrong 2 none ({ frames := 1, cells := 0, slots := 0, locals := 22 } : Room) P K I0 O J0 [.ref a0, .int x1] (SPo frX10 0 (fun _ I_ => (I_ a0 6).toInt = (I0 a0 6).toInt ∧ (I_ a0 7).toInt = (I0 a0 7).toInt ∧ (I_ a0 18).toInt = (I0 a0 18).toInt ∧ (I_ a0 8).toInt = (I0 a0 8).toInt ∧ (I_ a0 9).toInt = (I0 a0 9).toInt ∧ (I_ a0 13).toInt = (I0 a0 13).toInt) P K I0 O J0) := by
  refine Con.ofG mfMo_wrong (Nat.le_of_ble_eq_true rfl) ?_
  intro X C E
  have r1 := rg x1
  have ok_a0_7 := hV.2 a0 h0.1 7
  rw [h0.2] at ok_a0_7
  have ok_a0_7 : 0 ≤ (I0 a0 7).toInt ∧ (I0 a0 7).toInt ≤ 700 := ok_a0_7
  have ok_a0_8 := hV.2 a0 h0.1 8
  rw [h0.2] at ok_a0_8
  have ok_a0_8 : 0 ≤ (I0 a0 8).toInt ∧ (I0 a0 8).toInt ≤ 700 := ok_a0_8
  have hV0 : SV frX10 P K O I0 J0 I0 J0 := SV.rf hV
  refine g_aload_n C dMo_wrong_0 rfl ?_
  refine g_iload_n C dMo_wrong_1 rfl ?_
  refine g_aload_n C dMo_wrong_2 rfl ?_
  refine g_geti C dMo_wrong_3 fl_Mo_104 h0 ?_
  refine s_callV_v (av := fun ad => [.int x1, .int (I0 a0 10)]) C dMo_wrong_6 mfMo_wrongHere mvMo_wrongHere ln_Mo_124 h0 (by decide) rfl hV0 (frL_le (by decide)) (cMo_wrongHere_O hV0.1 h0 (by omega)) rfl rfl (Nat.le_of_ble_eq_true rfl) ⟨Nat.le_of_ble_eq_true rfl, Nat.le_of_ble_eq_true rfl⟩ ⟨rfl, rfl⟩ ⟨Nat.zero_le _, Nat.zero_le _⟩ (fun Iw1 Jw1 hVw1 hFw1 p_6 => ?_)
  try dsimp only at p_6
  exact s_vret C E dMo_wrong_9 ⟨Nat.zero_le _, Nat.zero_le _⟩ hVw1 (by (try dsimp only); omega)
set_option maxHeartbeats 4000000 in
set_option maxRecDepth 100000 in
theorem cMo_wrong_N {P : List Nat} {K : Nat → Nat} {I0 : Nat → Nat → Int32} {O : Nat → Nat → Option Nat} {J0 : Nat → Nat → Int64} (hV : IV P K I0 O) {a0 : Nat} (h0 : a0 ∈ P ∧ K a0 = 10) {x1 : Int32} (pr0 : 0 ≤ Int32.toInt (I0 a0 9) ∧ Int32.toInt (I0 a0 9) ≤ 4 ∧ Int32.toInt (I0 a0 13) = 0) (pr1 : 1 ≤ Int32.toInt x1) : Con yMo_wrong bMo_wrong 2 none ({ frames := 1, cells := 0, slots := 0, locals := 22 } : Room) P K I0 O J0 [.ref a0, .int x1] (SPo frX10 0 (fun _ I_ => Int32.toInt (I_ a0 9) = 5 ∧ 1 ≤ Int32.toInt (I_ a0 13) ∧ Int32.toInt (I_ a0 8) = Int32.toInt (I0 a0 8) ∧ (I_ a0 6).toInt = (I0 a0 6).toInt ∧ (I_ a0 7).toInt = (I0 a0 7).toInt ∧ (I_ a0 18).toInt = (I0 a0 18).toInt) P K I0 O J0) := by
  refine Con.ofG mfMo_wrong (Nat.le_of_ble_eq_true rfl) ?_
  intro X C E
  have r1 := rg x1
  have ok_a0_7 := hV.2 a0 h0.1 7
  rw [h0.2] at ok_a0_7
  have ok_a0_7 : 0 ≤ (I0 a0 7).toInt ∧ (I0 a0 7).toInt ≤ 700 := ok_a0_7
  have ok_a0_8 := hV.2 a0 h0.1 8
  rw [h0.2] at ok_a0_8
  have ok_a0_8 : 0 ≤ (I0 a0 8).toInt ∧ (I0 a0 8).toInt ≤ 700 := ok_a0_8
  have hV0 : SV frX10 P K O I0 J0 I0 J0 := SV.rf hV
  refine g_aload_n C dMo_wrong_0 rfl ?_
  refine g_iload_n C dMo_wrong_1 rfl ?_
  refine g_aload_n C dMo_wrong_2 rfl ?_
  refine g_geti C dMo_wrong_3 fl_Mo_104 h0 ?_
  refine s_callV_v (av := fun ad => [.int x1, .int (I0 a0 10)]) C dMo_wrong_6 mfMo_wrongHere mvMo_wrongHere ln_Mo_124 h0 (by decide) rfl hV0 (frL_le (by decide)) (cMo_wrongHere_N hV0.1 h0 (by omega) (by omega)) rfl rfl (Nat.le_of_ble_eq_true rfl) ⟨Nat.le_of_ble_eq_true rfl, Nat.le_of_ble_eq_true rfl⟩ ⟨rfl, rfl⟩ ⟨Nat.zero_le _, Nat.zero_le _⟩ (fun Iw1 Jw1 hVw1 hFw1 p_6 => ?_)
  try dsimp only at p_6
  exact s_vret C E dMo_wrong_9 ⟨Nat.zero_le _, Nat.zero_le _⟩ hVw1 (by (try dsimp only); omega)
set_option maxHeartbeats 4000000 in
set_option maxRecDepth 100000 in
theorem cMo_needWord_O {P : List Nat} {K : Nat → Nat} {I0 : Nat → Nat → Int32} {O : Nat → Nat → Option Nat} {J0 : Nat → Nat → Int64} (hV : IV P K I0 O) {a0 : Nat} (h0 : a0 ∈ P ∧ K a0 = 10) {i1 : Nat} (h1 : i1 < 31) (pr0 : Int32.toInt (I0 a0 9) = 5 ∧ 1 ≤ Int32.toInt (I0 a0 13)) : ConA yMo_needWord bMo_needWord 2 none ({ frames := 6, cells := 0, slots := 0, locals := 129 } : Room) P K I0 O J0 (fun ad => [.ref a0, .ref (ad.1 i1)]) (SPo frX10 0 (fun _ I_ => (I_ a0 6).toInt = (I0 a0 6).toInt ∧ (I_ a0 7).toInt = (I0 a0 7).toInt ∧ (I_ a0 18).toInt = (I0 a0 18).toInt ∧ (I_ a0 8).toInt = (I0 a0 8).toInt ∧ (I_ a0 9).toInt = (I0 a0 9).toInt ∧ (I_ a0 13).toInt = (I0 a0 13).toInt) P K I0 O J0) := by
  refine ConA.ofG mfMo_needWord (fun _ => Nat.le_of_ble_eq_true rfl) ?_
  intro X C E
  have ok_a0_7 := hV.2 a0 h0.1 7
  rw [h0.2] at ok_a0_7
  have ok_a0_7 : 0 ≤ (I0 a0 7).toInt ∧ (I0 a0 7).toInt ≤ 700 := ok_a0_7
  have ok_a0_8 := hV.2 a0 h0.1 8
  rw [h0.2] at ok_a0_8
  have ok_a0_8 : 0 ≤ (I0 a0 8).toInt ∧ (I0 a0 8).toInt ≤ 700 := ok_a0_8
  have hV0 : SV frX10 P K O I0 J0 I0 J0 := SV.rf hV
  refine g_aload_n C dMo_needWord_0 rfl ?_
  refine g_aload_n C dMo_needWord_1 rfl ?_
  refine s_callV_zp (av := fun ad => [.ref (ad.1 i1)]) C dMo_needWord_2 mfMo_isWord mvMo_isWord ln_Mo_138 h0 (by decide) rfl (cMo_isWord hV0.1 h0 h1) rfl rfl (Nat.le_of_ble_eq_true rfl) ⟨Nat.le_of_ble_eq_true rfl, Nat.le_of_ble_eq_true rfl⟩ ⟨rfl, rfl⟩ ⟨Nat.zero_le _, Nat.zero_le _⟩ (fun z_2 b_2 p_2 => ?_)
  have rz_2 := rg z_2
  have u_2 := b_2
  unfold B01 at u_2
  refine gt_if_ne 13 C dMo_needWord_5 (by decide) rfl (fun c_5 => ?_) (fun c_5 => ?_)
  · skip
    refine g_aload_n C dMo_needWord_13 rfl ?_
    refine s_callV_v (av := fun ad => []) C dMo_needWord_14 mfMo_next mvMo_next ln_Mo_146 h0 (by decide) rfl hV0 (frL_le (by decide)) (cMo_next_O hV0.1 h0 (by omega)) rfl rfl (Nat.le_of_ble_eq_true rfl) ⟨Nat.le_of_ble_eq_true rfl, Nat.le_of_ble_eq_true rfl⟩ ⟨rfl, rfl⟩ ⟨Nat.zero_le _, Nat.zero_le _⟩ (fun Iw2 Jw2 hVw2 hFw2 p_14 => ?_)
    try dsimp only at p_14
    exact s_vret C E dMo_needWord_17 ⟨Nat.zero_le _, Nat.zero_le _⟩ hVw2 (by (try dsimp only); omega)
  · skip
    refine g_aload_n C dMo_needWord_8 rfl ?_
    refine g_iconst (v := Int32.ofInt (1)) C dMo_needWord_9 (by decide) ?_
    refine s_callV_v (av := fun ad => [.int (Int32.ofInt (1))]) C dMo_needWord_10 mfMo_wrong mvMo_wrong ln_Mo_142 h0 (by decide) rfl hV0 (frL_le (by decide)) (cMo_wrong_O hV0.1 h0 (by have hk1 : Int32.toInt (Int32.ofInt (1)) = 1 := ofI (by decide); omega)) rfl rfl (Nat.le_of_ble_eq_true rfl) ⟨Nat.le_of_ble_eq_true rfl, Nat.le_of_ble_eq_true rfl⟩ ⟨rfl, rfl⟩ ⟨Nat.zero_le _, Nat.zero_le _⟩ (fun Iw3 Jw3 hVw3 hFw3 p_10 => ?_)
    try dsimp only at p_10
    have hk1_10 : Int32.toInt (Int32.ofInt (1)) = 1 := ofI (by decide)
    refine g_aload_n C dMo_needWord_13 rfl ?_
    refine s_callV_v (av := fun ad => []) C dMo_needWord_14 mfMo_next mvMo_next ln_Mo_146 h0 (by decide) rfl hVw3 (frL_le (by decide)) (cMo_next_O hVw3.1 h0 (by omega)) rfl rfl (Nat.le_of_ble_eq_true rfl) ⟨Nat.le_of_ble_eq_true rfl, Nat.le_of_ble_eq_true rfl⟩ ⟨rfl, rfl⟩ ⟨Nat.zero_le _, Nat.zero_le _⟩ (fun Iw4 Jw4 hVw4 hFw4 p_14 => ?_)
    try dsimp only at p_14
    exact s_vret C E dMo_needWord_17 ⟨Nat.zero_le _, Nat.zero_le _⟩ hVw4 (by (try dsimp only); omega)
set_option maxHeartbeats 4000000 in
set_option maxRecDepth 100000 in
theorem cMo_needWord_N {P : List Nat} {K : Nat → Nat} {I0 : Nat → Nat → Int32} {O : Nat → Nat → Option Nat} {J0 : Nat → Nat → Int64} (hV : IV P K I0 O) {a0 : Nat} (h0 : a0 ∈ P ∧ K a0 = 10) {i1 : Nat} (h1 : i1 < 31) (pr0 : 0 ≤ Int32.toInt (I0 a0 9) ∧ Int32.toInt (I0 a0 9) ≤ 4 ∧ Int32.toInt (I0 a0 13) = 0) : ConA yMo_needWord bMo_needWord 2 none ({ frames := 6, cells := 0, slots := 0, locals := 129 } : Room) P K I0 O J0 (fun ad => [.ref a0, .ref (ad.1 i1)]) (SPo frX10 0 (fun _ I_ => ((Int32.toInt (I_ a0 9) = 5 ∧ 1 ≤ Int32.toInt (I_ a0 13) ∧ Int32.toInt (I0 a0 8) ≤ Int32.toInt (I_ a0 8)) ∨ (0 ≤ Int32.toInt (I_ a0 9) ∧ Int32.toInt (I_ a0 9) ≤ 4 ∧ Int32.toInt (I_ a0 13) = 0 ∧ Int32.toInt (I0 a0 8) ≤ Int32.toInt (I_ a0 8) ∧ Int32.toInt (I0 a0 8) + Int32.toInt (I_ a0 9) ≤ Int32.toInt (I_ a0 8) + 3)) ∧ (I_ a0 6).toInt = (I0 a0 6).toInt ∧ (I_ a0 7).toInt = (I0 a0 7).toInt ∧ (I_ a0 18).toInt = (I0 a0 18).toInt) P K I0 O J0) := by
  refine ConA.ofG mfMo_needWord (fun _ => Nat.le_of_ble_eq_true rfl) ?_
  intro X C E
  have ok_a0_7 := hV.2 a0 h0.1 7
  rw [h0.2] at ok_a0_7
  have ok_a0_7 : 0 ≤ (I0 a0 7).toInt ∧ (I0 a0 7).toInt ≤ 700 := ok_a0_7
  have ok_a0_8 := hV.2 a0 h0.1 8
  rw [h0.2] at ok_a0_8
  have ok_a0_8 : 0 ≤ (I0 a0 8).toInt ∧ (I0 a0 8).toInt ≤ 700 := ok_a0_8
  have hV0 : SV frX10 P K O I0 J0 I0 J0 := SV.rf hV
  refine g_aload_n C dMo_needWord_0 rfl ?_
  refine g_aload_n C dMo_needWord_1 rfl ?_
  refine s_callV_zp (av := fun ad => [.ref (ad.1 i1)]) C dMo_needWord_2 mfMo_isWord mvMo_isWord ln_Mo_138 h0 (by decide) rfl (cMo_isWord hV0.1 h0 h1) rfl rfl (Nat.le_of_ble_eq_true rfl) ⟨Nat.le_of_ble_eq_true rfl, Nat.le_of_ble_eq_true rfl⟩ ⟨rfl, rfl⟩ ⟨Nat.zero_le _, Nat.zero_le _⟩ (fun z_2 b_2 p_2 => ?_)
  have rz_2 := rg z_2
  have u_2 := b_2
  unfold B01 at u_2
  refine gt_if_ne 13 C dMo_needWord_5 (by decide) rfl (fun c_5 => ?_) (fun c_5 => ?_)
  · skip
    refine g_aload_n C dMo_needWord_13 rfl ?_
    refine s_callV_v (av := fun ad => []) C dMo_needWord_14 mfMo_next mvMo_next ln_Mo_146 h0 (by decide) rfl hV0 (frL_le (by decide)) (cMo_next_N hV0.1 h0 (by omega)) rfl rfl (Nat.le_of_ble_eq_true rfl) ⟨Nat.le_of_ble_eq_true rfl, Nat.le_of_ble_eq_true rfl⟩ ⟨rfl, rfl⟩ ⟨Nat.zero_le _, Nat.zero_le _⟩ (fun Iw2 Jw2 hVw2 hFw2 p_14 => ?_)
    try dsimp only at p_14
    exact s_vret C E dMo_needWord_17 ⟨Nat.zero_le _, Nat.zero_le _⟩ hVw2 (by (try dsimp only); omega)
  · skip
    refine g_aload_n C dMo_needWord_8 rfl ?_
    refine g_iconst (v := Int32.ofInt (1)) C dMo_needWord_9 (by decide) ?_
    refine s_callV_v (av := fun ad => [.int (Int32.ofInt (1))]) C dMo_needWord_10 mfMo_wrong mvMo_wrong ln_Mo_142 h0 (by decide) rfl hV0 (frL_le (by decide)) (cMo_wrong_N hV0.1 h0 (by have hk1 : Int32.toInt (Int32.ofInt (1)) = 1 := ofI (by decide); omega) (by have hk1 : Int32.toInt (Int32.ofInt (1)) = 1 := ofI (by decide); omega)) rfl rfl (Nat.le_of_ble_eq_true rfl) ⟨Nat.le_of_ble_eq_true rfl, Nat.le_of_ble_eq_true rfl⟩ ⟨rfl, rfl⟩ ⟨Nat.zero_le _, Nat.zero_le _⟩ (fun Iw3 Jw3 hVw3 hFw3 p_10 => ?_)
    try dsimp only at p_10
    have hk1_10 : Int32.toInt (Int32.ofInt (1)) = 1 := ofI (by decide)
    refine g_aload_n C dMo_needWord_13 rfl ?_
    refine s_callV_v (av := fun ad => []) C dMo_needWord_14 mfMo_next mvMo_next ln_Mo_146 h0 (by decide) rfl hVw3 (frL_le (by decide)) (cMo_next_O hVw3.1 h0 (by omega)) rfl rfl (Nat.le_of_ble_eq_true rfl) ⟨Nat.le_of_ble_eq_true rfl, Nat.le_of_ble_eq_true rfl⟩ ⟨rfl, rfl⟩ ⟨Nat.zero_le _, Nat.zero_le _⟩ (fun Iw4 Jw4 hVw4 hFw4 p_14 => ?_)
    try dsimp only at p_14
    exact s_vret C E dMo_needWord_17 ⟨Nat.zero_le _, Nat.zero_le _⟩ hVw4 (by (try dsimp only); omega)
set_option maxHeartbeats 4000000 in
set_option maxRecDepth 100000 in
theorem cMo_once_O {P : List Nat} {K : Nat → Nat} {I0 : Nat → Nat → Int32} {O : Nat → Nat → Option Nat} {J0 : Nat → Nat → Int64} (hV : IV P K I0 O) {a0 : Nat} (h0 : a0 ∈ P ∧ K a0 = 10) {x1 : Int32} (pr0 : Int32.toInt (I0 a0 9) = 5 ∧ 1 ≤ Int32.toInt (I0 a0 13)) : Con yMo_once bMo_once 2 none ({ frames := 2, cells := 0, slots := 0, locals := 43 } : Room) P K I0 O J0 [.ref a0, .int x1] (SPo frX10 0 (fun _ I_ => (I_ a0 6).toInt = (I0 a0 6).toInt ∧ (I_ a0 7).toInt = (I0 a0 7).toInt ∧ (I_ a0 18).toInt = (I0 a0 18).toInt ∧ (I_ a0 8).toInt = (I0 a0 8).toInt ∧ (I_ a0 9).toInt = (I0 a0 9).toInt ∧ (I_ a0 13).toInt = (I0 a0 13).toInt) P K I0 O J0) := by
  refine Con.ofG mfMo_once (Nat.le_of_ble_eq_true rfl) ?_
  intro X C E
  have r1 := rg x1
  have ok_a0_7 := hV.2 a0 h0.1 7
  rw [h0.2] at ok_a0_7
  have ok_a0_7 : 0 ≤ (I0 a0 7).toInt ∧ (I0 a0 7).toInt ≤ 700 := ok_a0_7
  have ok_a0_8 := hV.2 a0 h0.1 8
  rw [h0.2] at ok_a0_8
  have ok_a0_8 : 0 ≤ (I0 a0 8).toInt ∧ (I0 a0 8).toInt ≤ 700 := ok_a0_8
  have hV0 : SV frX10 P K O I0 J0 I0 J0 := SV.rf hV
  refine g_iload_n C dMo_once_0 rfl ?_
  refine gt_if_eq 9 C dMo_once_1 (by decide) rfl (fun c_1 => ?_) (fun c_1 => ?_)
  · skip
    refine g_aload_n C dMo_once_9 rfl ?_
    refine s_callV_v (av := fun ad => []) C dMo_once_10 mfMo_next mvMo_next ln_Mo_146 h0 (by decide) rfl hV0 (frL_le (by decide)) (cMo_next_O hV0.1 h0 (by omega)) rfl rfl (Nat.le_of_ble_eq_true rfl) ⟨Nat.le_of_ble_eq_true rfl, Nat.le_of_ble_eq_true rfl⟩ ⟨rfl, rfl⟩ ⟨Nat.zero_le _, Nat.zero_le _⟩ (fun Iw1 Jw1 hVw1 hFw1 p_10 => ?_)
    try dsimp only at p_10
    exact s_vret C E dMo_once_13 ⟨Nat.zero_le _, Nat.zero_le _⟩ hVw1 (by (try dsimp only); omega)
  · skip
    refine g_aload_n C dMo_once_4 rfl ?_
    refine g_iconst (v := Int32.ofInt (3)) C dMo_once_5 (by decide) ?_
    refine s_callV_v (av := fun ad => [.int (Int32.ofInt (3))]) C dMo_once_6 mfMo_wrong mvMo_wrong ln_Mo_142 h0 (by decide) rfl hV0 (frL_le (by decide)) (cMo_wrong_O hV0.1 h0 (by have hk1 : Int32.toInt (Int32.ofInt (3)) = 3 := ofI (by decide); omega)) rfl rfl (Nat.le_of_ble_eq_true rfl) ⟨Nat.le_of_ble_eq_true rfl, Nat.le_of_ble_eq_true rfl⟩ ⟨rfl, rfl⟩ ⟨Nat.zero_le _, Nat.zero_le _⟩ (fun Iw2 Jw2 hVw2 hFw2 p_6 => ?_)
    try dsimp only at p_6
    have hk1_6 : Int32.toInt (Int32.ofInt (3)) = 3 := ofI (by decide)
    refine g_aload_n C dMo_once_9 rfl ?_
    refine s_callV_v (av := fun ad => []) C dMo_once_10 mfMo_next mvMo_next ln_Mo_146 h0 (by decide) rfl hVw2 (frL_le (by decide)) (cMo_next_O hVw2.1 h0 (by omega)) rfl rfl (Nat.le_of_ble_eq_true rfl) ⟨Nat.le_of_ble_eq_true rfl, Nat.le_of_ble_eq_true rfl⟩ ⟨rfl, rfl⟩ ⟨Nat.zero_le _, Nat.zero_le _⟩ (fun Iw3 Jw3 hVw3 hFw3 p_10 => ?_)
    try dsimp only at p_10
    exact s_vret C E dMo_once_13 ⟨Nat.zero_le _, Nat.zero_le _⟩ hVw3 (by (try dsimp only); omega)
set_option maxHeartbeats 4000000 in
set_option maxRecDepth 100000 in
theorem cMo_once_N {P : List Nat} {K : Nat → Nat} {I0 : Nat → Nat → Int32} {O : Nat → Nat → Option Nat} {J0 : Nat → Nat → Int64} (hV : IV P K I0 O) {a0 : Nat} (h0 : a0 ∈ P ∧ K a0 = 10) {x1 : Int32} (pr0 : 0 ≤ Int32.toInt (I0 a0 9) ∧ Int32.toInt (I0 a0 9) ≤ 4 ∧ Int32.toInt (I0 a0 13) = 0) : Con yMo_once bMo_once 2 none ({ frames := 2, cells := 0, slots := 0, locals := 43 } : Room) P K I0 O J0 [.ref a0, .int x1] (SPo frX10 0 (fun _ I_ => ((Int32.toInt (I_ a0 9) = 5 ∧ 1 ≤ Int32.toInt (I_ a0 13) ∧ Int32.toInt (I0 a0 8) ≤ Int32.toInt (I_ a0 8)) ∨ (0 ≤ Int32.toInt (I_ a0 9) ∧ Int32.toInt (I_ a0 9) ≤ 4 ∧ Int32.toInt (I_ a0 13) = 0 ∧ Int32.toInt (I0 a0 8) ≤ Int32.toInt (I_ a0 8) ∧ Int32.toInt (I0 a0 8) + Int32.toInt (I_ a0 9) ≤ Int32.toInt (I_ a0 8) + 3)) ∧ (I_ a0 6).toInt = (I0 a0 6).toInt ∧ (I_ a0 7).toInt = (I0 a0 7).toInt ∧ (I_ a0 18).toInt = (I0 a0 18).toInt) P K I0 O J0) := by
  refine Con.ofG mfMo_once (Nat.le_of_ble_eq_true rfl) ?_
  intro X C E
  have r1 := rg x1
  have ok_a0_7 := hV.2 a0 h0.1 7
  rw [h0.2] at ok_a0_7
  have ok_a0_7 : 0 ≤ (I0 a0 7).toInt ∧ (I0 a0 7).toInt ≤ 700 := ok_a0_7
  have ok_a0_8 := hV.2 a0 h0.1 8
  rw [h0.2] at ok_a0_8
  have ok_a0_8 : 0 ≤ (I0 a0 8).toInt ∧ (I0 a0 8).toInt ≤ 700 := ok_a0_8
  have hV0 : SV frX10 P K O I0 J0 I0 J0 := SV.rf hV
  refine g_iload_n C dMo_once_0 rfl ?_
  refine gt_if_eq 9 C dMo_once_1 (by decide) rfl (fun c_1 => ?_) (fun c_1 => ?_)
  · skip
    refine g_aload_n C dMo_once_9 rfl ?_
    refine s_callV_v (av := fun ad => []) C dMo_once_10 mfMo_next mvMo_next ln_Mo_146 h0 (by decide) rfl hV0 (frL_le (by decide)) (cMo_next_N hV0.1 h0 (by omega)) rfl rfl (Nat.le_of_ble_eq_true rfl) ⟨Nat.le_of_ble_eq_true rfl, Nat.le_of_ble_eq_true rfl⟩ ⟨rfl, rfl⟩ ⟨Nat.zero_le _, Nat.zero_le _⟩ (fun Iw1 Jw1 hVw1 hFw1 p_10 => ?_)
    try dsimp only at p_10
    exact s_vret C E dMo_once_13 ⟨Nat.zero_le _, Nat.zero_le _⟩ hVw1 (by (try dsimp only); omega)
  · skip
    refine g_aload_n C dMo_once_4 rfl ?_
    refine g_iconst (v := Int32.ofInt (3)) C dMo_once_5 (by decide) ?_
    refine s_callV_v (av := fun ad => [.int (Int32.ofInt (3))]) C dMo_once_6 mfMo_wrong mvMo_wrong ln_Mo_142 h0 (by decide) rfl hV0 (frL_le (by decide)) (cMo_wrong_N hV0.1 h0 (by have hk1 : Int32.toInt (Int32.ofInt (3)) = 3 := ofI (by decide); omega) (by have hk1 : Int32.toInt (Int32.ofInt (3)) = 3 := ofI (by decide); omega)) rfl rfl (Nat.le_of_ble_eq_true rfl) ⟨Nat.le_of_ble_eq_true rfl, Nat.le_of_ble_eq_true rfl⟩ ⟨rfl, rfl⟩ ⟨Nat.zero_le _, Nat.zero_le _⟩ (fun Iw2 Jw2 hVw2 hFw2 p_6 => ?_)
    try dsimp only at p_6
    have hk1_6 : Int32.toInt (Int32.ofInt (3)) = 3 := ofI (by decide)
    refine g_aload_n C dMo_once_9 rfl ?_
    refine s_callV_v (av := fun ad => []) C dMo_once_10 mfMo_next mvMo_next ln_Mo_146 h0 (by decide) rfl hVw2 (frL_le (by decide)) (cMo_next_O hVw2.1 h0 (by omega)) rfl rfl (Nat.le_of_ble_eq_true rfl) ⟨Nat.le_of_ble_eq_true rfl, Nat.le_of_ble_eq_true rfl⟩ ⟨rfl, rfl⟩ ⟨Nat.zero_le _, Nat.zero_le _⟩ (fun Iw3 Jw3 hVw3 hFw3 p_10 => ?_)
    try dsimp only at p_10
    exact s_vret C E dMo_once_13 ⟨Nat.zero_le _, Nat.zero_le _⟩ hVw3 (by (try dsimp only); omega)
set_option maxHeartbeats 4000000 in
set_option maxRecDepth 100000 in
theorem cMo_readWhole_O {P : List Nat} {K : Nat → Nat} {I0 : Nat → Nat → Int32} {O : Nat → Nat → Option Nat} {J0 : Nat → Nat → Int64} (hV : IV P K I0 O) {a0 : Nat} (h0 : a0 ∈ P ∧ K a0 = 10) {x1 : Int32} {x2 : Int32} (pr0 : Int32.toInt (I0 a0 9) = 5 ∧ 1 ≤ Int32.toInt (I0 a0 13)) : Con yMo_readWhole bMo_readWhole 4 (some .int) ({ frames := 2, cells := 0, slots := 0, locals := 43 } : Room) P K I0 O J0 [.ref a0, .int x1, .int x2] (SPo frX10 1 (fun _ I_ => (I_ a0 6).toInt = (I0 a0 6).toInt ∧ (I_ a0 7).toInt = (I0 a0 7).toInt ∧ (I_ a0 18).toInt = (I0 a0 18).toInt ∧ (I_ a0 8).toInt = (I0 a0 8).toInt ∧ (I_ a0 9).toInt = (I0 a0 9).toInt ∧ (I_ a0 13).toInt = (I0 a0 13).toInt) P K I0 O J0) := by
  refine Con.ofG mfMo_readWhole (Nat.le_of_ble_eq_true rfl) ?_
  intro X C E
  have r1 := rg x1
  have r2 := rg x2
  have ok_a0_7 := hV.2 a0 h0.1 7
  rw [h0.2] at ok_a0_7
  have ok_a0_7 : 0 ≤ (I0 a0 7).toInt ∧ (I0 a0 7).toInt ≤ 700 := ok_a0_7
  have ok_a0_8 := hV.2 a0 h0.1 8
  rw [h0.2] at ok_a0_8
  have ok_a0_8 : 0 ≤ (I0 a0 8).toInt ∧ (I0 a0 8).toInt ≤ 700 := ok_a0_8
  have hV0 : SV frX10 P K O I0 J0 I0 J0 := SV.rf hV
  refine g_aload_n C dMo_readWhole_0 rfl ?_
  refine g_geti C dMo_readWhole_1 fl_Mo_94 h0 ?_
  refine g_iconst (v := Int32.ofInt (3)) C dMo_readWhole_4 (by decide) ?_
  refine gt_icmp_eq 16 C dMo_readWhole_5 (by decide) rfl (ofI (by decide)) (fun c_5 => ?_) (fun c_5 => ?_)
  · skip
    exfalso; omega
  · skip
    refine g_aload_n C dMo_readWhole_8 rfl ?_
    refine g_iconst (v := Int32.ofInt (1)) C dMo_readWhole_9 (by decide) ?_
    refine s_callV_v (av := fun ad => [.int (Int32.ofInt (1))]) C dMo_readWhole_10 mfMo_wrong mvMo_wrong ln_Mo_142 h0 (by decide) rfl hV0 (frL_le (by decide)) (cMo_wrong_O hV0.1 h0 (by have hk1 : Int32.toInt (Int32.ofInt (1)) = 1 := ofI (by decide); omega)) rfl rfl (Nat.le_of_ble_eq_true rfl) ⟨Nat.le_of_ble_eq_true rfl, Nat.le_of_ble_eq_true rfl⟩ ⟨rfl, rfl⟩ ⟨Nat.zero_le _, Nat.zero_le _⟩ (fun Iw1 Jw1 hVw1 hFw1 p_10 => ?_)
    try dsimp only at p_10
    have hk1_10 : Int32.toInt (Int32.ofInt (1)) = 1 := ofI (by decide)
    refine g_goto 33 C dMo_readWhole_13 (by decide) ?_
    refine g_aload_n C dMo_readWhole_33 rfl ?_
    refine g_geti C dMo_readWhole_34 fl_Mo_121 h0 ?_
    refine g_istore_n (i := 3) C dMo_readWhole_37 rfl (by decide) ?_
    refine g_aload_n C dMo_readWhole_38 rfl ?_
    refine s_callV_v (av := fun ad => []) C dMo_readWhole_39 mfMo_next mvMo_next ln_Mo_146 h0 (by decide) rfl hVw1 (frL_le (by decide)) (cMo_next_O hVw1.1 h0 (by omega)) rfl rfl (Nat.le_of_ble_eq_true rfl) ⟨Nat.le_of_ble_eq_true rfl, Nat.le_of_ble_eq_true rfl⟩ ⟨rfl, rfl⟩ ⟨Nat.zero_le _, Nat.zero_le _⟩ (fun Iw2 Jw2 hVw2 hFw2 p_39 => ?_)
    try dsimp only at p_39
    refine g_iload_n C dMo_readWhole_42 rfl ?_
    exact s_iret C E dMo_readWhole_43 ⟨Nat.zero_le _, Nat.zero_le _⟩ hVw2 (by (try dsimp only); omega)
set_option maxHeartbeats 4000000 in
set_option maxRecDepth 100000 in
theorem cMo_readWhole_N {P : List Nat} {K : Nat → Nat} {I0 : Nat → Nat → Int32} {O : Nat → Nat → Option Nat} {J0 : Nat → Nat → Int64} (hV : IV P K I0 O) {a0 : Nat} (h0 : a0 ∈ P ∧ K a0 = 10) {x1 : Int32} {x2 : Int32} (pr0 : 0 ≤ Int32.toInt (I0 a0 9) ∧ Int32.toInt (I0 a0 9) ≤ 4 ∧ Int32.toInt (I0 a0 13) = 0) : Con yMo_readWhole bMo_readWhole 4 (some .int) ({ frames := 2, cells := 0, slots := 0, locals := 43 } : Room) P K I0 O J0 [.ref a0, .int x1, .int x2] (SPo frX10 1 (fun z I_ => ((Int32.toInt (I_ a0 9) = 5 ∧ 1 ≤ Int32.toInt (I_ a0 13) ∧ Int32.toInt (I0 a0 8) ≤ Int32.toInt (I_ a0 8)) ∨ (0 ≤ Int32.toInt (I_ a0 9) ∧ Int32.toInt (I_ a0 9) ≤ 4 ∧ Int32.toInt (I_ a0 13) = 0 ∧ Int32.toInt (I0 a0 8) ≤ Int32.toInt (I_ a0 8) ∧ Int32.toInt (I0 a0 8) + Int32.toInt (I_ a0 9) ≤ Int32.toInt (I_ a0 8) + 3 ∧ Int32.toInt x1 ≤ Int32.toInt z ∧ Int32.toInt z ≤ Int32.toInt x2)) ∧ (I_ a0 6).toInt = (I0 a0 6).toInt ∧ (I_ a0 7).toInt = (I0 a0 7).toInt ∧ (I_ a0 18).toInt = (I0 a0 18).toInt) P K I0 O J0) := by
  refine Con.ofG mfMo_readWhole (Nat.le_of_ble_eq_true rfl) ?_
  intro X C E
  have r1 := rg x1
  have r2 := rg x2
  have ok_a0_7 := hV.2 a0 h0.1 7
  rw [h0.2] at ok_a0_7
  have ok_a0_7 : 0 ≤ (I0 a0 7).toInt ∧ (I0 a0 7).toInt ≤ 700 := ok_a0_7
  have ok_a0_8 := hV.2 a0 h0.1 8
  rw [h0.2] at ok_a0_8
  have ok_a0_8 : 0 ≤ (I0 a0 8).toInt ∧ (I0 a0 8).toInt ≤ 700 := ok_a0_8
  have hV0 : SV frX10 P K O I0 J0 I0 J0 := SV.rf hV
  refine g_aload_n C dMo_readWhole_0 rfl ?_
  refine g_geti C dMo_readWhole_1 fl_Mo_94 h0 ?_
  refine g_iconst (v := Int32.ofInt (3)) C dMo_readWhole_4 (by decide) ?_
  refine gt_icmp_eq 16 C dMo_readWhole_5 (by decide) rfl (ofI (by decide)) (fun c_5 => ?_) (fun c_5 => ?_)
  · skip
    refine g_aload_n C dMo_readWhole_16 rfl ?_
    refine g_geti C dMo_readWhole_17 fl_Mo_121 h0 ?_
    refine g_iload_n C dMo_readWhole_20 rfl ?_
    refine g_iload_n C dMo_readWhole_21 rfl ?_
    refine s_callS_zp (av := fun ad => [.int (I0 a0 12), .int x1, .int x2]) C dMo_readWhole_22 mfMo_in msMo_in ln_Mo_149 (cMo_in hV0.1 ) rfl rfl (Nat.le_of_ble_eq_true rfl) ⟨Nat.le_of_ble_eq_true rfl, Nat.le_of_ble_eq_true rfl⟩ ⟨rfl, rfl⟩ ⟨Nat.zero_le _, Nat.zero_le _⟩ (fun z_22 b_22 p_22 => ?_)
    have rz_22 := rg z_22
    have u_22 := b_22
    unfold B01 at u_22
    try dsimp only at p_22
    refine gt_if_ne 33 C dMo_readWhole_25 (by decide) rfl (fun c_25 => ?_) (fun c_25 => ?_)
    · skip
      refine g_aload_n C dMo_readWhole_33 rfl ?_
      refine g_geti C dMo_readWhole_34 fl_Mo_121 h0 ?_
      refine g_istore_n (i := 3) C dMo_readWhole_37 rfl (by decide) ?_
      refine g_aload_n C dMo_readWhole_38 rfl ?_
      refine s_callV_v (av := fun ad => []) C dMo_readWhole_39 mfMo_next mvMo_next ln_Mo_146 h0 (by decide) rfl hV0 (frL_le (by decide)) (cMo_next_N hV0.1 h0 (by omega)) rfl rfl (Nat.le_of_ble_eq_true rfl) ⟨Nat.le_of_ble_eq_true rfl, Nat.le_of_ble_eq_true rfl⟩ ⟨rfl, rfl⟩ ⟨Nat.zero_le _, Nat.zero_le _⟩ (fun Iw2 Jw2 hVw2 hFw2 p_39 => ?_)
      try dsimp only at p_39
      refine g_iload_n C dMo_readWhole_42 rfl ?_
      exact s_iret C E dMo_readWhole_43 ⟨Nat.zero_le _, Nat.zero_le _⟩ hVw2 (by (try dsimp only); omega)
    · skip
      refine g_aload_n C dMo_readWhole_28 rfl ?_
      refine g_iconst (v := Int32.ofInt (4)) C dMo_readWhole_29 (by decide) ?_
      refine s_callV_v (av := fun ad => [.int (Int32.ofInt (4))]) C dMo_readWhole_30 mfMo_wrong mvMo_wrong ln_Mo_142 h0 (by decide) rfl hV0 (frL_le (by decide)) (cMo_wrong_N hV0.1 h0 (by have hk1 : Int32.toInt (Int32.ofInt (4)) = 4 := ofI (by decide); omega) (by have hk1 : Int32.toInt (Int32.ofInt (4)) = 4 := ofI (by decide); omega)) rfl rfl (Nat.le_of_ble_eq_true rfl) ⟨Nat.le_of_ble_eq_true rfl, Nat.le_of_ble_eq_true rfl⟩ ⟨rfl, rfl⟩ ⟨Nat.zero_le _, Nat.zero_le _⟩ (fun Iw3 Jw3 hVw3 hFw3 p_30 => ?_)
      try dsimp only at p_30
      have hk1_30 : Int32.toInt (Int32.ofInt (4)) = 4 := ofI (by decide)
      refine g_aload_n C dMo_readWhole_33 rfl ?_
      refine g_geti C dMo_readWhole_34 fl_Mo_121 h0 ?_
      refine g_istore_n (i := 3) C dMo_readWhole_37 rfl (by decide) ?_
      refine g_aload_n C dMo_readWhole_38 rfl ?_
      refine s_callV_v (av := fun ad => []) C dMo_readWhole_39 mfMo_next mvMo_next ln_Mo_146 h0 (by decide) rfl hVw3 (frL_le (by decide)) (cMo_next_O hVw3.1 h0 (by omega)) rfl rfl (Nat.le_of_ble_eq_true rfl) ⟨Nat.le_of_ble_eq_true rfl, Nat.le_of_ble_eq_true rfl⟩ ⟨rfl, rfl⟩ ⟨Nat.zero_le _, Nat.zero_le _⟩ (fun Iw4 Jw4 hVw4 hFw4 p_39 => ?_)
      try dsimp only at p_39
      refine g_iload_n C dMo_readWhole_42 rfl ?_
      exact s_iret C E dMo_readWhole_43 ⟨Nat.zero_le _, Nat.zero_le _⟩ hVw4 (by (try dsimp only); omega)
  · skip
    refine g_aload_n C dMo_readWhole_8 rfl ?_
    refine g_iconst (v := Int32.ofInt (1)) C dMo_readWhole_9 (by decide) ?_
    refine s_callV_v (av := fun ad => [.int (Int32.ofInt (1))]) C dMo_readWhole_10 mfMo_wrong mvMo_wrong ln_Mo_142 h0 (by decide) rfl hV0 (frL_le (by decide)) (cMo_wrong_N hV0.1 h0 (by have hk1 : Int32.toInt (Int32.ofInt (1)) = 1 := ofI (by decide); omega) (by have hk1 : Int32.toInt (Int32.ofInt (1)) = 1 := ofI (by decide); omega)) rfl rfl (Nat.le_of_ble_eq_true rfl) ⟨Nat.le_of_ble_eq_true rfl, Nat.le_of_ble_eq_true rfl⟩ ⟨rfl, rfl⟩ ⟨Nat.zero_le _, Nat.zero_le _⟩ (fun Iw5 Jw5 hVw5 hFw5 p_10 => ?_)
    try dsimp only at p_10
    have hk1_10 : Int32.toInt (Int32.ofInt (1)) = 1 := ofI (by decide)
    refine g_goto 33 C dMo_readWhole_13 (by decide) ?_
    refine g_aload_n C dMo_readWhole_33 rfl ?_
    refine g_geti C dMo_readWhole_34 fl_Mo_121 h0 ?_
    refine g_istore_n (i := 3) C dMo_readWhole_37 rfl (by decide) ?_
    refine g_aload_n C dMo_readWhole_38 rfl ?_
    refine s_callV_v (av := fun ad => []) C dMo_readWhole_39 mfMo_next mvMo_next ln_Mo_146 h0 (by decide) rfl hVw5 (frL_le (by decide)) (cMo_next_O hVw5.1 h0 (by omega)) rfl rfl (Nat.le_of_ble_eq_true rfl) ⟨Nat.le_of_ble_eq_true rfl, Nat.le_of_ble_eq_true rfl⟩ ⟨rfl, rfl⟩ ⟨Nat.zero_le _, Nat.zero_le _⟩ (fun Iw6 Jw6 hVw6 hFw6 p_39 => ?_)
    try dsimp only at p_39
    refine g_iload_n C dMo_readWhole_42 rfl ?_
    exact s_iret C E dMo_readWhole_43 ⟨Nat.zero_le _, Nat.zero_le _⟩ hVw6 (by (try dsimp only); omega)
