theorem cov_4 : ∀ f κ', sp 4 f = some κ' → f ∈ [9, 8, 6, 3, 2, 1, 0] := by
  intro f κ' h
  by_cases hf : f < 10
  · revert h; revert κ'; revert f; intro f hf κ' h
    have : ∀ f, f < 10 → (sp 4 f).isSome = true → f ∈ [9, 8, 6, 3, 2, 1, 0] := by decide +kernel
    exact this f hf (by rw [h]; rfl)
  · exfalso
    have : sp 4 f = none := by
      show sp4 f = none
      unfold sp4
      split <;> first | rfl | omega
    rw [this] at h; cases h
set_option maxHeartbeats 4000000 in
set_option maxRecDepth 100000 in
theorem nRM_init (P : List Nat) (K : Nat → Nat) (I : Nat → Nat → Int32) (O : Nat → Nat → Option Nat) (J : Nat → Nat → Int64) (a : Nat) (ha : a ∈ P ∧ K a = 8) (hz : ∀ k, I a k = 0) (ho : ∀ k, O a k = none) : ConB yRM_init bRM_init 1 none ({ frames := 4, cells := 108, slots := 10344, locals := 81 } : Room) P K I O J [.ref a] (CPo [12, 11, 10, 9, 8, 7, 6, 5, 4, 3, 2, 1, 0] (fun I' O' => True) P K I O J a) := by
  refine ConB.ofI mfRM_init (Nat.le_of_ble_eq_true rfl) ?_
  intro X C E N hAO
  have hC := CT.start (K := K) (O := O) (J := J) ha.1 hz
  refine g_aload_n C dRM_init_0 rfl ?_
  refine g_objInit C dRM_init_1 oi_RM (Nat.le_of_ble_eq_true rfl) ⟨Nat.le_of_ble_eq_true rfl, Nat.le_of_ble_eq_true rfl⟩ ?_
  refine g_aload_n C dRM_init_4 rfl ?_
  refine gc_sub (κ := 5) (Dq := [9, 8, 0]) (ext := fun b I2 O2 => True) C hC ha.1 dRM_init_5 dRM_init_8 dRM_init_9 (by decide) kl_RM_9 ki_5 kn_5 mfRd_init miRd_init rfl ln_RM_11 (cov_5) (fun P K I O J b hb hz ho => nRd_init P K I O J b hb hz ho) (Nat.le_of_ble_eq_true rfl) ⟨Nat.le_of_ble_eq_true rfl, Nat.le_of_ble_eq_true rfl⟩ ⟨Nat.le_of_ble_eq_true rfl, Nat.le_of_ble_eq_true rfl⟩ (fun P1 K1 I1 O1 J1 q1 hC hq1 eI1 eO1 ex1 up1 => ?_)
  refine g_putrF C N dRM_init_12 fl_RM_12 (wG_p2 136 (by decide +kernel) (by decide +kernel)) ⟨(hC.1 a ha.1).1, (hC.1 a ha.1).2.1.trans ha.2⟩ rfl rfl rfl rfl ?_
  replace hC := hC.putO (f := 0) ha.1 ((hC.1 a ha.1).2.1.trans ha.2) rfl hq1
  refine g_aload_n C dRM_init_15 rfl ?_
  refine gc_sub (κ := 3) (Dq := [14, 13, 12, 11, 10]) (ext := fun b I2 O2 => True) C hC ha.1 dRM_init_16 dRM_init_19 dRM_init_20 (by decide) kl_RM_16 ki_3 kn_3 mfMl_init miMl_init rfl ln_RM_18 (cov_3) (fun P K I O J b hb hz ho => nMl_init P K I O J b hb hz ho) (Nat.le_of_ble_eq_true rfl) ⟨Nat.le_of_ble_eq_true rfl, Nat.le_of_ble_eq_true rfl⟩ ⟨Nat.le_of_ble_eq_true rfl, Nat.le_of_ble_eq_true rfl⟩ (fun P2 K2 I2 O2 J2 q2 hC hq2 eI2 eO2 ex2 up2 => ?_)
  refine g_putr (x := some q2) C dRM_init_23 fl_RM_19 ⟨(hC.1 a ha.1).1, (hC.1 a ha.1).2.1.trans ha.2⟩ rfl rfl rfl ?_
  replace hC := hC.putO (f := 1) ha.1 ((hC.1 a ha.1).2.1.trans ha.2) rfl hq2
  refine g_aload_n C dRM_init_26 rfl ?_
  refine gc_sub (κ := 3) (Dq := [14, 13, 12, 11, 10]) (ext := fun b I2 O2 => True) C hC ha.1 dRM_init_27 dRM_init_30 dRM_init_31 (by decide) kl_RM_16 ki_3 kn_3 mfMl_init miMl_init rfl ln_RM_18 (cov_3) (fun P K I O J b hb hz ho => nMl_init P K I O J b hb hz ho) (Nat.le_of_ble_eq_true rfl) ⟨Nat.le_of_ble_eq_true rfl, Nat.le_of_ble_eq_true rfl⟩ ⟨Nat.le_of_ble_eq_true rfl, Nat.le_of_ble_eq_true rfl⟩ (fun P3 K3 I3 O3 J3 q3 hC hq3 eI3 eO3 ex3 up3 => ?_)
  refine g_putr (x := some q3) C dRM_init_34 fl_RM_23 ⟨(hC.1 a ha.1).1, (hC.1 a ha.1).2.1.trans ha.2⟩ rfl rfl rfl ?_
  replace hC := hC.putO (f := 2) ha.1 ((hC.1 a ha.1).2.1.trans ha.2) rfl hq3
  refine g_aload_n C dRM_init_37 rfl ?_
  refine gc_sub (κ := 0) (Dq := [1, 0]) (ext := fun b I2 O2 => True) C hC ha.1 dRM_init_38 dRM_init_41 dRM_init_42 (by decide) kl_RM_26 ki_0 kn_0 mfDr_init miDr_init rfl ln_RM_28 (cov_0) (fun P K I O J b hb hz ho => nDr_init P K I O J b hb hz ho) (Nat.le_of_ble_eq_true rfl) ⟨Nat.le_of_ble_eq_true rfl, Nat.le_of_ble_eq_true rfl⟩ ⟨Nat.le_of_ble_eq_true rfl, Nat.le_of_ble_eq_true rfl⟩ (fun P4 K4 I4 O4 J4 q4 hC hq4 eI4 eO4 ex4 up4 => ?_)
  refine g_putrF C N dRM_init_45 fl_RM_29 (wG_p2 139 (by decide +kernel) (by decide +kernel)) ⟨(hC.1 a ha.1).1, (hC.1 a ha.1).2.1.trans ha.2⟩ rfl rfl rfl rfl ?_
  replace hC := hC.putO (f := 3) ha.1 ((hC.1 a ha.1).2.1.trans ha.2) rfl hq4
  refine g_aload_n C dRM_init_48 rfl ?_
  refine g_iconst (v := Int32.ofInt (3)) C dRM_init_49 (by decide) ?_
  refine gc_newa (κ := 18) C hC ha.1 dRM_init_50 (by decide) (fun _ => rfl) ac_int rfl (Or.inr (Or.inl ⟨rfl, rfl⟩)) (ofI (by decide)) (by decide) ⟨Nat.le_of_ble_eq_true rfl, Nat.le_of_ble_eq_true rfl⟩ (fun P5 K5 I5 O5 J5 q5 hC hq5 eI5 eO5 => ?_)
  refine g_putrF C N dRM_init_52 fl_RM_33 (wG_p2 140 (by decide +kernel) (by decide +kernel)) ⟨(hC.1 a ha.1).1, (hC.1 a ha.1).2.1.trans ha.2⟩ rfl rfl rfl rfl ?_
  replace hC := hC.putO (f := 4) ha.1 ((hC.1 a ha.1).2.1.trans ha.2) rfl hq5
  refine g_aload_n C dRM_init_55 rfl ?_
  refine g_bipush (v := Int32.ofInt (36)) C dRM_init_56 (by decide) ?_
  refine gc_newa (κ := 19) C hC ha.1 dRM_init_58 (by decide) (fun _ => rfl) ac_int rfl (Or.inr (Or.inl ⟨rfl, rfl⟩)) (ofI (by decide)) (by decide) ⟨Nat.le_of_ble_eq_true rfl, Nat.le_of_ble_eq_true rfl⟩ (fun P6 K6 I6 O6 J6 q6 hC hq6 eI6 eO6 => ?_)
  refine g_putrF C N dRM_init_60 fl_RM_37 (wG_p2 141 (by decide +kernel) (by decide +kernel)) ⟨(hC.1 a ha.1).1, (hC.1 a ha.1).2.1.trans ha.2⟩ rfl rfl rfl rfl ?_
  replace hC := hC.putO (f := 5) ha.1 ((hC.1 a ha.1).2.1.trans ha.2) rfl hq6
  refine g_aload_n C dRM_init_63 rfl ?_
  refine gc_sub (κ := 1) (Dq := [2, 1, 0]) (ext := fun b I2 O2 => True) C hC ha.1 dRM_init_64 dRM_init_67 dRM_init_68 (by decide) kl_RM_40 ki_1 kn_1 mfGu_init miGu_init rfl ln_RM_42 (cov_1) (fun P K I O J b hb hz ho => nGu_init P K I O J b hb hz ho) (Nat.le_of_ble_eq_true rfl) ⟨Nat.le_of_ble_eq_true rfl, Nat.le_of_ble_eq_true rfl⟩ ⟨Nat.le_of_ble_eq_true rfl, Nat.le_of_ble_eq_true rfl⟩ (fun P7 K7 I7 O7 J7 q7 hC hq7 eI7 eO7 ex7 up7 => ?_)
  refine g_putrF C N dRM_init_71 fl_RM_43 (wG_p2 142 (by decide +kernel) (by decide +kernel)) ⟨(hC.1 a ha.1).1, (hC.1 a ha.1).2.1.trans ha.2⟩ rfl rfl rfl rfl ?_
  replace hC := hC.putO (f := 6) ha.1 ((hC.1 a ha.1).2.1.trans ha.2) rfl hq7
  refine g_aload_n C dRM_init_74 rfl ?_
  refine gc_sub (κ := 6) (Dq := [5, 3, 2, 1, 0]) (ext := fun b I2 O2 => True) C hC ha.1 dRM_init_75 dRM_init_78 dRM_init_79 (by decide) kl_RM_47 ki_6 kn_6 mfSi_init miSi_init rfl ln_RM_49 (cov_6) (fun P K I O J b hb hz ho => nSi_init P K I O J b hb hz ho) (Nat.le_of_ble_eq_true rfl) ⟨Nat.le_of_ble_eq_true rfl, Nat.le_of_ble_eq_true rfl⟩ ⟨Nat.le_of_ble_eq_true rfl, Nat.le_of_ble_eq_true rfl⟩ (fun P8 K8 I8 O8 J8 q8 hC hq8 eI8 eO8 ex8 up8 => ?_)
  refine g_putrF C N dRM_init_82 fl_RM_50 (wG_p2 143 (by decide +kernel) (by decide +kernel)) ⟨(hC.1 a ha.1).1, (hC.1 a ha.1).2.1.trans ha.2⟩ rfl rfl rfl rfl ?_
  replace hC := hC.putO (f := 7) ha.1 ((hC.1 a ha.1).2.1.trans ha.2) rfl hq8
  refine g_aload_n C dRM_init_85 rfl ?_
  refine gc_subB (κ := 4) (Dq := [9, 8, 6, 3, 2, 1, 0]) (ext := fun b I2 O2 => True) C hAO hC ha.1 dRM_init_86 dRM_init_89 dRM_init_90 (by decide) kl_RM_54 ki_4 kn_4 mfPl_init miPl_init rfl ln_RM_56 (cov_4) (fun P K I O J b hb hz ho => nPl_init P K I O J b hb hz ho) (Nat.le_of_ble_eq_true rfl) ⟨Nat.le_of_ble_eq_true rfl, Nat.le_of_ble_eq_true rfl⟩ ⟨Nat.le_of_ble_eq_true rfl, Nat.le_of_ble_eq_true rfl⟩ (fun P9 K9 I9 O9 J9 q9 hC hq9 eI9 eO9 ex9 up9 => ?_)
  refine g_putrF C N dRM_init_93 fl_RM_57 (wG_p2 144 (by decide +kernel) (by decide +kernel)) ⟨(hC.1 a ha.1).1, (hC.1 a ha.1).2.1.trans ha.2⟩ rfl rfl rfl rfl ?_
  replace hC := hC.putO (f := 8) ha.1 ((hC.1 a ha.1).2.1.trans ha.2) rfl hq9
  refine g_aload_n C dRM_init_96 rfl ?_
  refine gc_sub (κ := 7) (Dq := [2, 1, 0]) (ext := fun b I2 O2 => True) C hC ha.1 dRM_init_97 dRM_init_100 dRM_init_101 (by decide) kl_RM_61 ki_7 kn_7 mfTr_init miTr_init rfl ln_RM_63 (cov_7) (fun P K I O J b hb hz ho => nTr_init P K I O J b hb hz ho) (Nat.le_of_ble_eq_true rfl) ⟨Nat.le_of_ble_eq_true rfl, Nat.le_of_ble_eq_true rfl⟩ ⟨Nat.le_of_ble_eq_true rfl, Nat.le_of_ble_eq_true rfl⟩ (fun P10 K10 I10 O10 J10 q10 hC hq10 eI10 eO10 ex10 up10 => ?_)
  refine g_putrF C N dRM_init_104 fl_RM_64 (wG_p2 145 (by decide +kernel) (by decide +kernel)) ⟨(hC.1 a ha.1).1, (hC.1 a ha.1).2.1.trans ha.2⟩ rfl rfl rfl rfl ?_
  replace hC := hC.putO (f := 9) ha.1 ((hC.1 a ha.1).2.1.trans ha.2) rfl hq10
  refine g_aload_n C dRM_init_107 rfl ?_
  refine gc_sub (κ := 2) (Dq := [2, 1, 0]) (ext := fun b I2 O2 => True) C hC ha.1 dRM_init_108 dRM_init_111 dRM_init_112 (by decide) kl_RM_68 ki_2 kn_2 mfLd_init miLd_init rfl ln_RM_70 (cov_2) (fun P K I O J b hb hz ho => nLd_init P K I O J b hb hz ho) (Nat.le_of_ble_eq_true rfl) ⟨Nat.le_of_ble_eq_true rfl, Nat.le_of_ble_eq_true rfl⟩ ⟨Nat.le_of_ble_eq_true rfl, Nat.le_of_ble_eq_true rfl⟩ (fun P11 K11 I11 O11 J11 q11 hC hq11 eI11 eO11 ex11 up11 => ?_)
  refine g_putrF C N dRM_init_115 fl_RM_71 (wG_p2 146 (by decide +kernel) (by decide +kernel)) ⟨(hC.1 a ha.1).1, (hC.1 a ha.1).2.1.trans ha.2⟩ rfl rfl rfl rfl ?_
  replace hC := hC.putO (f := 10) ha.1 ((hC.1 a ha.1).2.1.trans ha.2) rfl hq11
  refine g_aload_n C dRM_init_118 rfl ?_
  refine gc_sub (κ := 0) (Dq := [1, 0]) (ext := fun b I2 O2 => True) C hC ha.1 dRM_init_119 dRM_init_122 dRM_init_123 (by decide) kl_RM_26 ki_0 kn_0 mfDr_init miDr_init rfl ln_RM_28 (cov_0) (fun P K I O J b hb hz ho => nDr_init P K I O J b hb hz ho) (Nat.le_of_ble_eq_true rfl) ⟨Nat.le_of_ble_eq_true rfl, Nat.le_of_ble_eq_true rfl⟩ ⟨Nat.le_of_ble_eq_true rfl, Nat.le_of_ble_eq_true rfl⟩ (fun P12 K12 I12 O12 J12 q12 hC hq12 eI12 eO12 ex12 up12 => ?_)
  refine g_putrF C N dRM_init_126 fl_RM_75 (wG_p2 147 (by decide +kernel) (by decide +kernel)) ⟨(hC.1 a ha.1).1, (hC.1 a ha.1).2.1.trans ha.2⟩ rfl rfl rfl rfl ?_
  replace hC := hC.putO (f := 11) ha.1 ((hC.1 a ha.1).2.1.trans ha.2) rfl hq12
  refine g_aload_n C dRM_init_129 rfl ?_
  refine g_sipush (v := Int32.ofInt (240)) C dRM_init_130 (by decide) ?_
  refine gc_newa (κ := 28) C hC ha.1 dRM_init_133 (by decide) (fun _ => rfl) ac_int rfl (Or.inr (Or.inl ⟨rfl, rfl⟩)) (ofI (by decide)) (by decide) ⟨Nat.le_of_ble_eq_true rfl, Nat.le_of_ble_eq_true rfl⟩ (fun P13 K13 I13 O13 J13 q13 hC hq13 eI13 eO13 => ?_)
  refine g_putrF C N dRM_init_135 fl_RM_78 (wG_p2 148 (by decide +kernel) (by decide +kernel)) ⟨(hC.1 a ha.1).1, (hC.1 a ha.1).2.1.trans ha.2⟩ rfl rfl rfl rfl ?_
  replace hC := hC.putO (f := 12) ha.1 ((hC.1 a ha.1).2.1.trans ha.2) rfl hq13
  refine g_aload_n C dRM_init_138 rfl ?_
  refine g_iconst (v := Int32.ofInt (0)) C dRM_init_139 (by decide) ?_
  refine g_puti (x := Int32.ofInt (0)) C dRM_init_140 fl_RM_81 ⟨(hC.1 a ha.1).1, (hC.1 a ha.1).2.1.trans ha.2⟩ rfl rfl rfl ?_
  replace hC := hC.putI (f := 14) (x := Int32.ofInt (0)) ha.1 ((hC.1 a ha.1).2.1.trans ha.2) trivial (by decide)
  exact g_vret C E dRM_init_143 (Nat.le_of_ble_eq_true rfl) (Nat.le_of_ble_eq_true rfl) ⟨rfl, hC, trivial⟩
theorem cov_8 : ∀ f κ', sp 8 f = some κ' → f ∈ [12, 11, 10, 9, 8, 7, 6, 5, 4, 3, 2, 1, 0] := by
  intro f κ' h
  by_cases hf : f < 17
  · revert h; revert κ'; revert f; intro f hf κ' h
    have : ∀ f, f < 17 → (sp 8 f).isSome = true → f ∈ [12, 11, 10, 9, 8, 7, 6, 5, 4, 3, 2, 1, 0] := by decide +kernel
    exact this f hf (by rw [h]; rfl)
  · exfalso
    have : sp 8 f = none := by
      show sp8 f = none
      unfold sp8
      split <;> first | rfl | omega
    rw [this] at h; cases h
theorem cov_10 : ∀ f κ', sp 10 f = some κ' → f ∈ [36, 35, 34, 33, 32, 31, 30, 28, 27, 26, 25, 24, 22, 21, 20, 19, 17, 16, 5] := by
  intro f κ' h
  by_cases hf : f < 37
  · revert h; revert κ'; revert f; intro f hf κ' h
    have : ∀ f, f < 37 → (sp 10 f).isSome = true → f ∈ [36, 35, 34, 33, 32, 31, 30, 28, 27, 26, 25, 24, 22, 21, 20, 19, 17, 16, 5] := by decide +kernel
    exact this f hf (by rw [h]; rfl)
  · exfalso
    have : sp 10 f = none := by
      show sp10 f = none
      unfold sp10
      split <;> first | rfl | omega
    rw [this] at h; cases h
