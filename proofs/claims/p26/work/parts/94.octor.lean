/-! the constructors, with ownership -/
set_option maxHeartbeats 4000000 in
set_option maxRecDepth 100000 in
theorem mLd_init (P : List Nat) (K : Nat → Nat) (I : Nat → Nat → Int32) (O : Nat → Nat → Option Nat) (J : Nat → Nat → Int64) (a : Nat) (ha : a ∈ P ∧ K a = 2) (hz : ∀ k, I a k = 0) (ho : ∀ k, O a k = none) : Con yLd_init bLd_init 1 none ({ frames := 1, cells := 3, slots := 15, locals := 20 } : Room) P K I O J [.ref a] (CQo [2, 1, 0] (fun I' O' => True) P K I O J a) := by
  refine Con.ofI mfLd_init (Nat.le_of_ble_eq_true rfl) ?_
  intro X C E N
  have hC := CT.start (K := K) (O := O) (J := J) ha.1 hz
  have hI : CI P P O a := CI.start ho
  refine g_aload_n C dLd_init_0 rfl ?_
  refine g_objInit C dLd_init_1 oi_Ld (Nat.le_of_ble_eq_true rfl) ⟨Nat.le_of_ble_eq_true rfl, Nat.le_of_ble_eq_true rfl⟩ ?_
  refine g_aload_n C dLd_init_4 rfl ?_
  refine g_iconst (v := Int32.ofInt (5)) C dLd_init_5 (by decide) ?_
  refine gq_newa (κ := 11) C hC hI ha.1 dLd_init_6 (by decide) (fun _ => rfl) ac_int rfl (Or.inr (Or.inl ⟨rfl, rfl⟩)) (ofI (by decide)) (by decide) ⟨Nat.le_of_ble_eq_true rfl, Nat.le_of_ble_eq_true rfl⟩ (fun P1 K1 I1 O1 J1 q1 hC hq1 eI1 eO1 hI1 => ?_)
  refine g_putrF C N dLd_init_8 fl_Ld_9 (wG_p1 171 (by decide +kernel) (by decide +kernel)) ⟨(hC.1 a ha.1).1, (hC.1 a ha.1).2.1.trans ha.2⟩ rfl rfl rfl rfl ?_
  replace hC := hC.putO (f := 0) ha.1 ((hC.1 a ha.1).2.1.trans ha.2) rfl hq1
  replace hI := hI1 0
  refine g_aload_n C dLd_init_11 rfl ?_
  refine g_iconst (v := Int32.ofInt (5)) C dLd_init_12 (by decide) ?_
  refine gq_newa (κ := 11) C hC hI ha.1 dLd_init_13 (by decide) (fun _ => rfl) ac_int rfl (Or.inr (Or.inl ⟨rfl, rfl⟩)) (ofI (by decide)) (by decide) ⟨Nat.le_of_ble_eq_true rfl, Nat.le_of_ble_eq_true rfl⟩ (fun P2 K2 I2 O2 J2 q2 hC hq2 eI2 eO2 hI2 => ?_)
  refine g_putrF C N dLd_init_15 fl_Ld_15 (wG_p1 174 (by decide +kernel) (by decide +kernel)) ⟨(hC.1 a ha.1).1, (hC.1 a ha.1).2.1.trans ha.2⟩ rfl rfl rfl rfl ?_
  replace hC := hC.putO (f := 1) ha.1 ((hC.1 a ha.1).2.1.trans ha.2) rfl hq2
  replace hI := hI2 1
  refine g_aload_n C dLd_init_18 rfl ?_
  refine g_iconst (v := Int32.ofInt (5)) C dLd_init_19 (by decide) ?_
  refine gq_newa (κ := 11) C hC hI ha.1 dLd_init_20 (by decide) (fun _ => rfl) ac_int rfl (Or.inr (Or.inl ⟨rfl, rfl⟩)) (ofI (by decide)) (by decide) ⟨Nat.le_of_ble_eq_true rfl, Nat.le_of_ble_eq_true rfl⟩ (fun P3 K3 I3 O3 J3 q3 hC hq3 eI3 eO3 hI3 => ?_)
  refine g_putrF C N dLd_init_22 fl_Ld_18 (wG_p1 176 (by decide +kernel) (by decide +kernel)) ⟨(hC.1 a ha.1).1, (hC.1 a ha.1).2.1.trans ha.2⟩ rfl rfl rfl rfl ?_
  replace hC := hC.putO (f := 2) ha.1 ((hC.1 a ha.1).2.1.trans ha.2) rfl hq3
  replace hI := hI3 2
  exact g_vret C E dLd_init_25 (Nat.le_of_ble_eq_true rfl) (Nat.le_of_ble_eq_true rfl) ⟨⟨rfl, hC, trivial⟩, hI⟩
set_option maxHeartbeats 4000000 in
set_option maxRecDepth 100000 in
theorem mMl_init (P : List Nat) (K : Nat → Nat) (I : Nat → Nat → Int32) (O : Nat → Nat → Option Nat) (J : Nat → Nat → Int64) (a : Nat) (ha : a ∈ P ∧ K a = 3) (hz : ∀ k, I a k = 0) (ho : ∀ k, O a k = none) : Con yMl_init bMl_init 1 none ({ frames := 1, cells := 5, slots := 40, locals := 20 } : Room) P K I O J [.ref a] (CQo [14, 13, 12, 11, 10] (fun I' O' => True) P K I O J a) := by
  refine Con.ofI mfMl_init (Nat.le_of_ble_eq_true rfl) ?_
  intro X C E N
  have hC := CT.start (K := K) (O := O) (J := J) ha.1 hz
  have hI : CI P P O a := CI.start ho
  refine g_aload_n C dMl_init_0 rfl ?_
  refine g_objInit C dMl_init_1 oi_Ml (Nat.le_of_ble_eq_true rfl) ⟨Nat.le_of_ble_eq_true rfl, Nat.le_of_ble_eq_true rfl⟩ ?_
  refine g_aload_n C dMl_init_4 rfl ?_
  refine g_iconst (v := Int32.ofInt (-1)) C dMl_init_5 (by decide) ?_
  refine g_puti (x := Int32.ofInt (-1)) C dMl_init_6 fl_Ml_9 ⟨(hC.1 a ha.1).1, (hC.1 a ha.1).2.1.trans ha.2⟩ rfl rfl rfl ?_
  replace hC := hC.putI (f := 2) (x := Int32.ofInt (-1)) ha.1 ((hC.1 a ha.1).2.1.trans ha.2) trivial (by decide)
  refine g_aload_n C dMl_init_9 rfl ?_
  refine g_bipush (v := Int32.ofInt (6)) C dMl_init_10 (by decide) ?_
  refine gq_newa (κ := 13) C hC hI ha.1 dMl_init_12 (by decide) (fun _ => rfl) ac_int rfl (Or.inr (Or.inl ⟨rfl, rfl⟩)) (ofI (by decide)) (by decide) ⟨Nat.le_of_ble_eq_true rfl, Nat.le_of_ble_eq_true rfl⟩ (fun P1 K1 I1 O1 J1 q1 hC hq1 eI1 eO1 hI1 => ?_)
  refine g_putrF C N dMl_init_14 fl_Ml_15 (wG_p1 115 (by decide +kernel) (by decide +kernel)) ⟨(hC.1 a ha.1).1, (hC.1 a ha.1).2.1.trans ha.2⟩ rfl rfl rfl rfl ?_
  replace hC := hC.putO (f := 10) ha.1 ((hC.1 a ha.1).2.1.trans ha.2) rfl hq1
  replace hI := hI1 10
  refine g_aload_n C dMl_init_17 rfl ?_
  refine g_iconst (v := Int32.ofInt (5)) C dMl_init_18 (by decide) ?_
  refine gq_newa (κ := 11) C hC hI ha.1 dMl_init_19 (by decide) (fun _ => rfl) ac_int rfl (Or.inr (Or.inl ⟨rfl, rfl⟩)) (ofI (by decide)) (by decide) ⟨Nat.le_of_ble_eq_true rfl, Nat.le_of_ble_eq_true rfl⟩ (fun P2 K2 I2 O2 J2 q2 hC hq2 eI2 eO2 hI2 => ?_)
  refine g_putrF C N dMl_init_21 fl_Ml_19 (wG_p1 117 (by decide +kernel) (by decide +kernel)) ⟨(hC.1 a ha.1).1, (hC.1 a ha.1).2.1.trans ha.2⟩ rfl rfl rfl rfl ?_
  replace hC := hC.putO (f := 11) ha.1 ((hC.1 a ha.1).2.1.trans ha.2) rfl hq2
  replace hI := hI2 11
  refine g_aload_n C dMl_init_24 rfl ?_
  refine g_iconst (v := Int32.ofInt (5)) C dMl_init_25 (by decide) ?_
  refine gq_newa (κ := 11) C hC hI ha.1 dMl_init_26 (by decide) (fun _ => rfl) ac_int rfl (Or.inr (Or.inl ⟨rfl, rfl⟩)) (ofI (by decide)) (by decide) ⟨Nat.le_of_ble_eq_true rfl, Nat.le_of_ble_eq_true rfl⟩ (fun P3 K3 I3 O3 J3 q3 hC hq3 eI3 eO3 hI3 => ?_)
  refine g_putrF C N dMl_init_28 fl_Ml_22 (wG_p1 120 (by decide +kernel) (by decide +kernel)) ⟨(hC.1 a ha.1).1, (hC.1 a ha.1).2.1.trans ha.2⟩ rfl rfl rfl rfl ?_
  replace hC := hC.putO (f := 12) ha.1 ((hC.1 a ha.1).2.1.trans ha.2) rfl hq3
  replace hI := hI3 12
  refine g_aload_n C dMl_init_31 rfl ?_
  refine g_iconst (v := Int32.ofInt (4)) C dMl_init_32 (by decide) ?_
  refine gq_newa (κ := 12) C hC hI ha.1 dMl_init_33 (by decide) (fun _ => rfl) ac_int rfl (Or.inr (Or.inl ⟨rfl, rfl⟩)) (ofI (by decide)) (by decide) ⟨Nat.le_of_ble_eq_true rfl, Nat.le_of_ble_eq_true rfl⟩ (fun P4 K4 I4 O4 J4 q4 hC hq4 eI4 eO4 hI4 => ?_)
  refine g_putrF C N dMl_init_35 fl_Ml_25 (wG_p1 123 (by decide +kernel) (by decide +kernel)) ⟨(hC.1 a ha.1).1, (hC.1 a ha.1).2.1.trans ha.2⟩ rfl rfl rfl rfl ?_
  replace hC := hC.putO (f := 13) ha.1 ((hC.1 a ha.1).2.1.trans ha.2) rfl hq4
  replace hI := hI4 13
  refine g_aload_n C dMl_init_38 rfl ?_
  refine g_bipush (v := Int32.ofInt (20)) C dMl_init_39 (by decide) ?_
  refine gq_newa (κ := 14) C hC hI ha.1 dMl_init_41 (by decide) (fun _ => rfl) ac_int rfl (Or.inr (Or.inl ⟨rfl, rfl⟩)) (ofI (by decide)) (by decide) ⟨Nat.le_of_ble_eq_true rfl, Nat.le_of_ble_eq_true rfl⟩ (fun P5 K5 I5 O5 J5 q5 hC hq5 eI5 eO5 hI5 => ?_)
  refine g_putrF C N dMl_init_43 fl_Ml_28 (wG_p1 125 (by decide +kernel) (by decide +kernel)) ⟨(hC.1 a ha.1).1, (hC.1 a ha.1).2.1.trans ha.2⟩ rfl rfl rfl rfl ?_
  replace hC := hC.putO (f := 14) ha.1 ((hC.1 a ha.1).2.1.trans ha.2) rfl hq5
  replace hI := hI5 14
  exact g_vret C E dMl_init_46 (Nat.le_of_ble_eq_true rfl) (Nat.le_of_ble_eq_true rfl) ⟨⟨rfl, hC, trivial⟩, hI⟩
set_option maxHeartbeats 4000000 in
set_option maxRecDepth 100000 in
theorem mRd_init (P : List Nat) (K : Nat → Nat) (I : Nat → Nat → Int32) (O : Nat → Nat → Option Nat) (J : Nat → Nat → Int64) (a : Nat) (ha : a ∈ P ∧ K a = 5) (hz : ∀ k, I a k = 0) (ho : ∀ k, O a k = none) : Con yRd_init bRd_init 1 none ({ frames := 1, cells := 3, slots := 709, locals := 20 } : Room) P K I O J [.ref a] (CQo [9, 8, 0] (fun I' O' => True) P K I O J a) := by
  refine Con.ofI mfRd_init (Nat.le_of_ble_eq_true rfl) ?_
  intro X C E N
  have hC := CT.start (K := K) (O := O) (J := J) ha.1 hz
  have hI : CI P P O a := CI.start ho
  refine g_aload_n C dRd_init_0 rfl ?_
  refine g_objInit C dRd_init_1 oi_Rd (Nat.le_of_ble_eq_true rfl) ⟨Nat.le_of_ble_eq_true rfl, Nat.le_of_ble_eq_true rfl⟩ ?_
  refine g_aload_n C dRd_init_4 rfl ?_
  refine g_sipush (v := Int32.ofInt (700)) C dRd_init_5 (by decide) ?_
  refine gq_newa (κ := 15) C hC hI ha.1 dRd_init_8 (by decide) (fun _ => rfl) ac_byte rfl (Or.inl ⟨rfl, rfl⟩) (ofI (by decide)) (by decide) ⟨Nat.le_of_ble_eq_true rfl, Nat.le_of_ble_eq_true rfl⟩ (fun P1 K1 I1 O1 J1 q1 hC hq1 eI1 eO1 hI1 => ?_)
  refine g_putrF C N dRd_init_10 fl_Rd_11 (wG_p1 35 (by decide +kernel) (by decide +kernel)) ⟨(hC.1 a ha.1).1, (hC.1 a ha.1).2.1.trans ha.2⟩ rfl rfl rfl rfl ?_
  replace hC := hC.putO (f := 0) ha.1 ((hC.1 a ha.1).2.1.trans ha.2) rfl hq1
  replace hI := hI1 0
  refine g_aload_n C dRd_init_13 rfl ?_
  refine g_iconst (v := Int32.ofInt (5)) C dRd_init_14 (by decide) ?_
  refine gq_newa (κ := 16) C hC hI ha.1 dRd_init_15 (by decide) (fun _ => rfl) ac_long rfl (Or.inr (Or.inr (Or.inl ⟨rfl, rfl⟩))) (ofI (by decide)) (by decide) ⟨Nat.le_of_ble_eq_true rfl, Nat.le_of_ble_eq_true rfl⟩ (fun P2 K2 I2 O2 J2 q2 hC hq2 eI2 eO2 hI2 => ?_)
  refine g_putrF C N dRd_init_17 fl_Rd_15 (wG_p1 46 (by decide +kernel) (by decide +kernel)) ⟨(hC.1 a ha.1).1, (hC.1 a ha.1).2.1.trans ha.2⟩ rfl rfl rfl rfl ?_
  replace hC := hC.putO (f := 8) ha.1 ((hC.1 a ha.1).2.1.trans ha.2) rfl hq2
  replace hI := hI2 8
  refine g_aload_n C dRd_init_20 rfl ?_
  refine g_iconst (v := Int32.ofInt (4)) C dRd_init_21 (by decide) ?_
  refine gq_newa (κ := 17) C hC hI ha.1 dRd_init_22 (by decide) (fun _ => rfl) ac_long rfl (Or.inr (Or.inr (Or.inl ⟨rfl, rfl⟩))) (ofI (by decide)) (by decide) ⟨Nat.le_of_ble_eq_true rfl, Nat.le_of_ble_eq_true rfl⟩ (fun P3 K3 I3 O3 J3 q3 hC hq3 eI3 eO3 hI3 => ?_)
  refine g_putrF C N dRd_init_24 fl_Rd_19 (wG_p1 47 (by decide +kernel) (by decide +kernel)) ⟨(hC.1 a ha.1).1, (hC.1 a ha.1).2.1.trans ha.2⟩ rfl rfl rfl rfl ?_
  replace hC := hC.putO (f := 9) ha.1 ((hC.1 a ha.1).2.1.trans ha.2) rfl hq3
  replace hI := hI3 9
  exact g_vret C E dRd_init_27 (Nat.le_of_ble_eq_true rfl) (Nat.le_of_ble_eq_true rfl) ⟨⟨rfl, hC, trivial⟩, hI⟩
set_option maxHeartbeats 4000000 in
set_option maxRecDepth 100000 in
theorem mSi_init (P : List Nat) (K : Nat → Nat) (I : Nat → Nat → Int32) (O : Nat → Nat → Option Nat) (J : Nat → Nat → Int64) (a : Nat) (ha : a ∈ P ∧ K a = 6) (hz : ∀ k, I a k = 0) (ho : ∀ k, O a k = none) : Con ySi_init bSi_init 1 none ({ frames := 1, cells := 5, slots := 196, locals := 20 } : Room) P K I O J [.ref a] (CQo [5, 3, 2, 1, 0] (fun I' O' => True) P K I O J a) := by
  refine Con.ofI mfSi_init (Nat.le_of_ble_eq_true rfl) ?_
  intro X C E N
  have hC := CT.start (K := K) (O := O) (J := J) ha.1 hz
  have hI : CI P P O a := CI.start ho
  refine g_aload_n C dSi_init_0 rfl ?_
  refine g_objInit C dSi_init_1 oi_Si (Nat.le_of_ble_eq_true rfl) ⟨Nat.le_of_ble_eq_true rfl, Nat.le_of_ble_eq_true rfl⟩ ?_
  refine g_aload_n C dSi_init_4 rfl ?_
  refine g_bipush (v := Int32.ofInt (24)) C dSi_init_5 (by decide) ?_
  refine gq_newa (κ := 22) C hC hI ha.1 dSi_init_7 (by decide) (fun _ => rfl) ac_int rfl (Or.inr (Or.inl ⟨rfl, rfl⟩)) (ofI (by decide)) (by decide) ⟨Nat.le_of_ble_eq_true rfl, Nat.le_of_ble_eq_true rfl⟩ (fun P1 K1 I1 O1 J1 q1 hC hq1 eI1 eO1 hI1 => ?_)
  refine g_putrF C N dSi_init_9 fl_Si_11 (wG_p2 44 (by decide +kernel) (by decide +kernel)) ⟨(hC.1 a ha.1).1, (hC.1 a ha.1).2.1.trans ha.2⟩ rfl rfl rfl rfl ?_
  replace hC := hC.putO (f := 0) ha.1 ((hC.1 a ha.1).2.1.trans ha.2) rfl hq1
  replace hI := hI1 0
  refine g_aload_n C dSi_init_12 rfl ?_
  refine g_bipush (v := Int32.ofInt (24)) C dSi_init_13 (by decide) ?_
  refine gq_newa (κ := 22) C hC hI ha.1 dSi_init_15 (by decide) (fun _ => rfl) ac_int rfl (Or.inr (Or.inl ⟨rfl, rfl⟩)) (ofI (by decide)) (by decide) ⟨Nat.le_of_ble_eq_true rfl, Nat.le_of_ble_eq_true rfl⟩ (fun P2 K2 I2 O2 J2 q2 hC hq2 eI2 eO2 hI2 => ?_)
  refine g_putrF C N dSi_init_17 fl_Si_15 (wG_p2 45 (by decide +kernel) (by decide +kernel)) ⟨(hC.1 a ha.1).1, (hC.1 a ha.1).2.1.trans ha.2⟩ rfl rfl rfl rfl ?_
  replace hC := hC.putO (f := 1) ha.1 ((hC.1 a ha.1).2.1.trans ha.2) rfl hq2
  replace hI := hI2 1
  refine g_aload_n C dSi_init_20 rfl ?_
  refine g_bipush (v := Int32.ofInt (24)) C dSi_init_21 (by decide) ?_
  refine gq_newa (κ := 22) C hC hI ha.1 dSi_init_23 (by decide) (fun _ => rfl) ac_int rfl (Or.inr (Or.inl ⟨rfl, rfl⟩)) (ofI (by decide)) (by decide) ⟨Nat.le_of_ble_eq_true rfl, Nat.le_of_ble_eq_true rfl⟩ (fun P3 K3 I3 O3 J3 q3 hC hq3 eI3 eO3 hI3 => ?_)
  refine g_putrF C N dSi_init_25 fl_Si_18 (wG_p2 46 (by decide +kernel) (by decide +kernel)) ⟨(hC.1 a ha.1).1, (hC.1 a ha.1).2.1.trans ha.2⟩ rfl rfl rfl rfl ?_
  replace hC := hC.putO (f := 2) ha.1 ((hC.1 a ha.1).2.1.trans ha.2) rfl hq3
  replace hI := hI3 2
  refine g_aload_n C dSi_init_28 rfl ?_
  refine g_bipush (v := Int32.ofInt (24)) C dSi_init_29 (by decide) ?_
  refine gq_newa (κ := 22) C hC hI ha.1 dSi_init_31 (by decide) (fun _ => rfl) ac_int rfl (Or.inr (Or.inl ⟨rfl, rfl⟩)) (ofI (by decide)) (by decide) ⟨Nat.le_of_ble_eq_true rfl, Nat.le_of_ble_eq_true rfl⟩ (fun P4 K4 I4 O4 J4 q4 hC hq4 eI4 eO4 hI4 => ?_)
  refine g_putrF C N dSi_init_33 fl_Si_21 (wG_p2 47 (by decide +kernel) (by decide +kernel)) ⟨(hC.1 a ha.1).1, (hC.1 a ha.1).2.1.trans ha.2⟩ rfl rfl rfl rfl ?_
  replace hC := hC.putO (f := 3) ha.1 ((hC.1 a ha.1).2.1.trans ha.2) rfl hq4
  replace hI := hI4 3
  refine g_aload_n C dSi_init_36 rfl ?_
  refine g_bipush (v := Int32.ofInt (100)) C dSi_init_37 (by decide) ?_
  refine gq_newa (κ := 23) C hC hI ha.1 dSi_init_39 (by decide) (fun _ => rfl) ac_int rfl (Or.inr (Or.inl ⟨rfl, rfl⟩)) (ofI (by decide)) (by decide) ⟨Nat.le_of_ble_eq_true rfl, Nat.le_of_ble_eq_true rfl⟩ (fun P5 K5 I5 O5 J5 q5 hC hq5 eI5 eO5 hI5 => ?_)
  refine g_putrF C N dSi_init_41 fl_Si_24 (wG_p2 50 (by decide +kernel) (by decide +kernel)) ⟨(hC.1 a ha.1).1, (hC.1 a ha.1).2.1.trans ha.2⟩ rfl rfl rfl rfl ?_
  replace hC := hC.putO (f := 5) ha.1 ((hC.1 a ha.1).2.1.trans ha.2) rfl hq5
  replace hI := hI5 5
  exact g_vret C E dSi_init_44 (Nat.le_of_ble_eq_true rfl) (Nat.le_of_ble_eq_true rfl) ⟨⟨rfl, hC, trivial⟩, hI⟩
set_option maxHeartbeats 4000000 in
set_option maxRecDepth 100000 in
theorem mTr_init (P : List Nat) (K : Nat → Nat) (I : Nat → Nat → Int32) (O : Nat → Nat → Option Nat) (J : Nat → Nat → Int64) (a : Nat) (ha : a ∈ P ∧ K a = 7) (hz : ∀ k, I a k = 0) (ho : ∀ k, O a k = none) : Con yTr_init bTr_init 1 none ({ frames := 1, cells := 3, slots := 32, locals := 20 } : Room) P K I O J [.ref a] (CQo [2, 1, 0] (fun I' O' => True) P K I O J a) := by
  refine Con.ofI mfTr_init (Nat.le_of_ble_eq_true rfl) ?_
  intro X C E N
  have hC := CT.start (K := K) (O := O) (J := J) ha.1 hz
  have hI : CI P P O a := CI.start ho
  refine g_aload_n C dTr_init_0 rfl ?_
  refine g_objInit C dTr_init_1 oi_Tr (Nat.le_of_ble_eq_true rfl) ⟨Nat.le_of_ble_eq_true rfl, Nat.le_of_ble_eq_true rfl⟩ ?_
  refine g_aload_n C dTr_init_4 rfl ?_
  refine g_bipush (v := Int32.ofInt (8)) C dTr_init_5 (by decide) ?_
  refine gq_newa (κ := 26) C hC hI ha.1 dTr_init_7 (by decide) (fun _ => rfl) ac_int rfl (Or.inr (Or.inl ⟨rfl, rfl⟩)) (ofI (by decide)) (by decide) ⟨Nat.le_of_ble_eq_true rfl, Nat.le_of_ble_eq_true rfl⟩ (fun P1 K1 I1 O1 J1 q1 hC hq1 eI1 eO1 hI1 => ?_)
  refine g_putrF C N dTr_init_9 fl_Tr_9 (wG_p2 118 (by decide +kernel) (by decide +kernel)) ⟨(hC.1 a ha.1).1, (hC.1 a ha.1).2.1.trans ha.2⟩ rfl rfl rfl rfl ?_
  replace hC := hC.putO (f := 0) ha.1 ((hC.1 a ha.1).2.1.trans ha.2) rfl hq1
  replace hI := hI1 0
  refine g_aload_n C dTr_init_12 rfl ?_
  refine g_bipush (v := Int32.ofInt (8)) C dTr_init_13 (by decide) ?_
  refine gq_newa (κ := 26) C hC hI ha.1 dTr_init_15 (by decide) (fun _ => rfl) ac_int rfl (Or.inr (Or.inl ⟨rfl, rfl⟩)) (ofI (by decide)) (by decide) ⟨Nat.le_of_ble_eq_true rfl, Nat.le_of_ble_eq_true rfl⟩ (fun P2 K2 I2 O2 J2 q2 hC hq2 eI2 eO2 hI2 => ?_)
  refine g_putrF C N dTr_init_17 fl_Tr_13 (wG_p2 119 (by decide +kernel) (by decide +kernel)) ⟨(hC.1 a ha.1).1, (hC.1 a ha.1).2.1.trans ha.2⟩ rfl rfl rfl rfl ?_
  replace hC := hC.putO (f := 1) ha.1 ((hC.1 a ha.1).2.1.trans ha.2) rfl hq2
  replace hI := hI2 1
  refine g_aload_n C dTr_init_20 rfl ?_
  refine g_bipush (v := Int32.ofInt (16)) C dTr_init_21 (by decide) ?_
  refine gq_newa (κ := 27) C hC hI ha.1 dTr_init_23 (by decide) (fun _ => rfl) ac_int rfl (Or.inr (Or.inl ⟨rfl, rfl⟩)) (ofI (by decide)) (by decide) ⟨Nat.le_of_ble_eq_true rfl, Nat.le_of_ble_eq_true rfl⟩ (fun P3 K3 I3 O3 J3 q3 hC hq3 eI3 eO3 hI3 => ?_)
  refine g_putrF C N dTr_init_25 fl_Tr_16 (wG_p2 120 (by decide +kernel) (by decide +kernel)) ⟨(hC.1 a ha.1).1, (hC.1 a ha.1).2.1.trans ha.2⟩ rfl rfl rfl rfl ?_
  replace hC := hC.putO (f := 2) ha.1 ((hC.1 a ha.1).2.1.trans ha.2) rfl hq3
  replace hI := hI3 2
  exact g_vret C E dTr_init_28 (Nat.le_of_ble_eq_true rfl) (Nat.le_of_ble_eq_true rfl) ⟨⟨rfl, hC, trivial⟩, hI⟩
set_option maxHeartbeats 4000000 in
set_option maxRecDepth 100000 in
theorem mDr_init (P : List Nat) (K : Nat → Nat) (I : Nat → Nat → Int32) (O : Nat → Nat → Option Nat) (J : Nat → Nat → Int64) (a : Nat) (ha : a ∈ P ∧ K a = 0) (hz : ∀ k, I a k = 0) (ho : ∀ k, O a k = none) : Con yDr_init bDr_init 1 none ({ frames := 2, cells := 5, slots := 23, locals := 40 } : Room) P K I O J [.ref a] (CQo [1, 0] (fun I' O' => True) P K I O J a) := by
  refine Con.ofI mfDr_init (Nat.le_of_ble_eq_true rfl) ?_
  intro X C E N
  have hC := CT.start (K := K) (O := O) (J := J) ha.1 hz
  have hI : CI P P O a := CI.start ho
  refine g_aload_n C dDr_init_0 rfl ?_
  refine g_objInit C dDr_init_1 oi_Dr (Nat.le_of_ble_eq_true rfl) ⟨Nat.le_of_ble_eq_true rfl, Nat.le_of_ble_eq_true rfl⟩ ?_
  refine g_aload_n C dDr_init_4 rfl ?_
  refine gq_sub (κ := 2) (Dq := [2, 1, 0]) (ext := fun b I2 O2 => True) C hC hI ha.1 dDr_init_5 dDr_init_8 dDr_init_9 (by decide) kl_Dr_9 ki_2 kn_2 mfLd_init miLd_init rfl ln_Dr_11 (cov_2) (fun P K I O J b hb hz ho => mLd_init P K I O J b hb hz ho) (Nat.le_of_ble_eq_true rfl) ⟨Nat.le_of_ble_eq_true rfl, Nat.le_of_ble_eq_true rfl⟩ ⟨Nat.le_of_ble_eq_true rfl, Nat.le_of_ble_eq_true rfl⟩ (fun P1 K1 I1 O1 J1 q1 hC hq1 eI1 eO1 ex1 up1 hI1 => ?_)
  refine g_putrF C N dDr_init_12 fl_Dr_12 (wG_p1 187 (by decide +kernel) (by decide +kernel)) ⟨(hC.1 a ha.1).1, (hC.1 a ha.1).2.1.trans ha.2⟩ rfl rfl rfl rfl ?_
  replace hC := hC.putO (f := 0) ha.1 ((hC.1 a ha.1).2.1.trans ha.2) rfl hq1
  replace hI := hI1 0
  refine g_aload_n C dDr_init_15 rfl ?_
  refine g_iconst (v := Int32.ofInt (5)) C dDr_init_16 (by decide) ?_
  refine gq_newa (κ := 11) C hC hI ha.1 dDr_init_17 (by decide) (fun _ => rfl) ac_int rfl (Or.inr (Or.inl ⟨rfl, rfl⟩)) (ofI (by decide)) (by decide) ⟨Nat.le_of_ble_eq_true rfl, Nat.le_of_ble_eq_true rfl⟩ (fun P2 K2 I2 O2 J2 q2 hC hq2 eI2 eO2 hI2 => ?_)
  refine g_putrF C N dDr_init_19 fl_Dr_18 (wG_p1 190 (by decide +kernel) (by decide +kernel)) ⟨(hC.1 a ha.1).1, (hC.1 a ha.1).2.1.trans ha.2⟩ rfl rfl rfl rfl ?_
  replace hC := hC.putO (f := 1) ha.1 ((hC.1 a ha.1).2.1.trans ha.2) rfl hq2
  replace hI := hI2 1
  exact g_vret C E dDr_init_22 (Nat.le_of_ble_eq_true rfl) (Nat.le_of_ble_eq_true rfl) ⟨⟨rfl, hC, trivial⟩, hI⟩
set_option maxHeartbeats 4000000 in
set_option maxRecDepth 100000 in
theorem mGu_init (P : List Nat) (K : Nat → Nat) (I : Nat → Nat → Int32) (O : Nat → Nat → Option Nat) (J : Nat → Nat → Int64) (a : Nat) (ha : a ∈ P ∧ K a = 1) (hz : ∀ k, I a k = 0) (ho : ∀ k, O a k = none) : Con yGu_init bGu_init 1 none ({ frames := 3, cells := 8, slots := 8540, locals := 60 } : Room) P K I O J [.ref a] (CQo [2, 1, 0] (fun I' O' => True) P K I O J a) := by
  refine Con.ofI mfGu_init (Nat.le_of_ble_eq_true rfl) ?_
  intro X C E N
  have hC := CT.start (K := K) (O := O) (J := J) ha.1 hz
  have hI : CI P P O a := CI.start ho
  refine g_aload_n C dGu_init_0 rfl ?_
  refine g_objInit C dGu_init_1 oi_Gu (Nat.le_of_ble_eq_true rfl) ⟨Nat.le_of_ble_eq_true rfl, Nat.le_of_ble_eq_true rfl⟩ ?_
  refine g_aload_n C dGu_init_4 rfl ?_
  refine g_sipush (v := Int32.ofInt (8400)) C dGu_init_5 (by decide) ?_
  refine gq_newa (κ := 20) C hC hI ha.1 dGu_init_8 (by decide) (fun _ => rfl) ac_int rfl (Or.inr (Or.inl ⟨rfl, rfl⟩)) (ofI (by decide)) (by decide) ⟨Nat.le_of_ble_eq_true rfl, Nat.le_of_ble_eq_true rfl⟩ (fun P1 K1 I1 O1 J1 q1 hC hq1 eI1 eO1 hI1 => ?_)
  refine g_putrF C N dGu_init_10 fl_Gu_11 (wG_p2 27 (by decide +kernel) (by decide +kernel)) ⟨(hC.1 a ha.1).1, (hC.1 a ha.1).2.1.trans ha.2⟩ rfl rfl rfl rfl ?_
  replace hC := hC.putO (f := 0) ha.1 ((hC.1 a ha.1).2.1.trans ha.2) rfl hq1
  replace hI := hI1 0
  refine g_aload_n C dGu_init_13 rfl ?_
  refine g_bipush (v := Int32.ofInt (100)) C dGu_init_14 (by decide) ?_
  refine gq_newa (κ := 21) C hC hI ha.1 dGu_init_16 (by decide) (fun _ => rfl) ac_boolean rfl (Or.inr (Or.inr (Or.inr ⟨rfl, rfl⟩))) (ofI (by decide)) (by decide) ⟨Nat.le_of_ble_eq_true rfl, Nat.le_of_ble_eq_true rfl⟩ (fun P2 K2 I2 O2 J2 q2 hC hq2 eI2 eO2 hI2 => ?_)
  refine g_putrF C N dGu_init_18 fl_Gu_15 (wG_p2 28 (by decide +kernel) (by decide +kernel)) ⟨(hC.1 a ha.1).1, (hC.1 a ha.1).2.1.trans ha.2⟩ rfl rfl rfl rfl ?_
  replace hC := hC.putO (f := 1) ha.1 ((hC.1 a ha.1).2.1.trans ha.2) rfl hq2
  replace hI := hI2 1
  refine g_aload_n C dGu_init_21 rfl ?_
  refine gq_sub (κ := 0) (Dq := [1, 0]) (ext := fun b I2 O2 => True) C hC hI ha.1 dGu_init_22 dGu_init_25 dGu_init_26 (by decide) kl_Gu_19 ki_0 kn_0 mfDr_init miDr_init rfl ln_Gu_21 (cov_0) (fun P K I O J b hb hz ho => mDr_init P K I O J b hb hz ho) (Nat.le_of_ble_eq_true rfl) ⟨Nat.le_of_ble_eq_true rfl, Nat.le_of_ble_eq_true rfl⟩ ⟨Nat.le_of_ble_eq_true rfl, Nat.le_of_ble_eq_true rfl⟩ (fun P3 K3 I3 O3 J3 q3 hC hq3 eI3 eO3 ex3 up3 hI3 => ?_)
  refine g_putrF C N dGu_init_29 fl_Gu_22 (wG_p2 29 (by decide +kernel) (by decide +kernel)) ⟨(hC.1 a ha.1).1, (hC.1 a ha.1).2.1.trans ha.2⟩ rfl rfl rfl rfl ?_
  replace hC := hC.putO (f := 2) ha.1 ((hC.1 a ha.1).2.1.trans ha.2) rfl hq3
  replace hI := hI3 2
  exact g_vret C E dGu_init_32 (Nat.le_of_ble_eq_true rfl) (Nat.le_of_ble_eq_true rfl) ⟨⟨rfl, hC, trivial⟩, hI⟩
set_option maxHeartbeats 4000000 in
set_option maxRecDepth 100000 in
theorem mMo_init (P : List Nat) (K : Nat → Nat) (I : Nat → Nat → Int32) (O : Nat → Nat → Option Nat) (J : Nat → Nat → Int64) (a : Nat) (ha : a ∈ P ∧ K a = 10) (hz : ∀ k, I a k = 0) (ho : ∀ k, O a k = none) : Con yMo_init bMo_init 1 none ({ frames := 1, cells := 19, slots := 1321, locals := 20 } : Room) P K I O J [.ref a] (CQo [36, 35, 34, 33, 32, 31, 30, 28, 27, 26, 25, 24, 22, 21, 20, 19, 17, 16, 5] (fun I' O' => (∀ k, k ≠ 2 → I' a k = 0) ∧ I' a 2 = Int32.ofInt (-1) ∧ O' a 3 = none ∧ O' a 4 = none) P K I O J a) := by
  refine Con.ofI mfMo_init (Nat.le_of_ble_eq_true rfl) ?_
  intro X C E N
  have hC := CT.start (K := K) (O := O) (J := J) ha.1 hz
  have hI : CI P P O a := CI.start ho
  refine g_aload_n C dMo_init_0 rfl ?_
  refine g_objInit C dMo_init_1 oi_Mo (Nat.le_of_ble_eq_true rfl) ⟨Nat.le_of_ble_eq_true rfl, Nat.le_of_ble_eq_true rfl⟩ ?_
  refine g_aload_n C dMo_init_4 rfl ?_
  refine g_iconst (v := Int32.ofInt (-1)) C dMo_init_5 (by decide) ?_
  refine g_puti (x := Int32.ofInt (-1)) C dMo_init_6 fl_Mo_9 ⟨(hC.1 a ha.1).1, (hC.1 a ha.1).2.1.trans ha.2⟩ rfl rfl rfl ?_
  replace hC := hC.putI (f := 2) (x := Int32.ofInt (-1)) ha.1 ((hC.1 a ha.1).2.1.trans ha.2) trivial (by decide)
  refine g_aload_n C dMo_init_9 rfl ?_
  refine g_sipush (v := Int32.ofInt (700)) C dMo_init_10 (by decide) ?_
  refine gq_newa (κ := 30) C hC hI ha.1 dMo_init_13 (by decide) (fun _ => rfl) ac_byte rfl (Or.inl ⟨rfl, rfl⟩) (ofI (by decide)) (by decide) ⟨Nat.le_of_ble_eq_true rfl, Nat.le_of_ble_eq_true rfl⟩ (fun P1 K1 I1 O1 J1 q1 hC hq1 eI1 eO1 hI1 => ?_)
  refine g_putrF C N dMo_init_15 fl_Mo_13 (wG_p5 132 (by decide +kernel) (by decide +kernel)) ⟨(hC.1 a ha.1).1, (hC.1 a ha.1).2.1.trans ha.2⟩ rfl rfl rfl rfl ?_
  replace hC := hC.putO (f := 5) ha.1 ((hC.1 a ha.1).2.1.trans ha.2) rfl hq1
  replace hI := hI1 5
  refine g_aload_n C dMo_init_18 rfl ?_
  refine g_bipush (v := Int32.ofInt (37)) C dMo_init_19 (by decide) ?_
  refine gq_newa (κ := 31) C hC hI ha.1 dMo_init_21 (by decide) (fun _ => rfl) ac_int rfl (Or.inr (Or.inl ⟨rfl, rfl⟩)) (ofI (by decide)) (by decide) ⟨Nat.le_of_ble_eq_true rfl, Nat.le_of_ble_eq_true rfl⟩ (fun P2 K2 I2 O2 J2 q2 hC hq2 eI2 eO2 hI2 => ?_)
  refine g_putrF C N dMo_init_23 fl_Mo_17 (wG_p5 143 (by decide +kernel) (by decide +kernel)) ⟨(hC.1 a ha.1).1, (hC.1 a ha.1).2.1.trans ha.2⟩ rfl rfl rfl rfl ?_
  replace hC := hC.putO (f := 16) ha.1 ((hC.1 a ha.1).2.1.trans ha.2) rfl hq2
  replace hI := hI2 16
  refine g_aload_n C dMo_init_26 rfl ?_
  refine g_bipush (v := Int32.ofInt (37)) C dMo_init_27 (by decide) ?_
  refine gq_newa (κ := 49) C hC hI ha.1 dMo_init_29 (by decide) (fun _ => rfl) ac_int rfl (Or.inr (Or.inl ⟨rfl, rfl⟩)) (ofI (by decide)) (by decide) ⟨Nat.le_of_ble_eq_true rfl, Nat.le_of_ble_eq_true rfl⟩ (fun P3 K3 I3 O3 J3 q3 hC hq3 eI3 eO3 hI3 => ?_)
  refine g_putrF C N dMo_init_31 fl_Mo_21 (wG_p5 144 (by decide +kernel) (by decide +kernel)) ⟨(hC.1 a ha.1).1, (hC.1 a ha.1).2.1.trans ha.2⟩ rfl rfl rfl rfl ?_
  replace hC := hC.putO (f := 17) ha.1 ((hC.1 a ha.1).2.1.trans ha.2) rfl hq3
  replace hI := hI3 17
  refine g_aload_n C dMo_init_34 rfl ?_
  refine g_sipush (v := Int32.ofInt (240)) C dMo_init_35 (by decide) ?_
  refine gq_newa (κ := 32) C hC hI ha.1 dMo_init_38 (by decide) (fun _ => rfl) ac_int rfl (Or.inr (Or.inl ⟨rfl, rfl⟩)) (ofI (by decide)) (by decide) ⟨Nat.le_of_ble_eq_true rfl, Nat.le_of_ble_eq_true rfl⟩ (fun P4 K4 I4 O4 J4 q4 hC hq4 eI4 eO4 hI4 => ?_)
  refine g_putrF C N dMo_init_40 fl_Mo_24 (wG_p5 146 (by decide +kernel) (by decide +kernel)) ⟨(hC.1 a ha.1).1, (hC.1 a ha.1).2.1.trans ha.2⟩ rfl rfl rfl rfl ?_
  replace hC := hC.putO (f := 19) ha.1 ((hC.1 a ha.1).2.1.trans ha.2) rfl hq4
  replace hI := hI4 19
  refine g_aload_n C dMo_init_43 rfl ?_
  refine g_bipush (v := Int32.ofInt (12)) C dMo_init_44 (by decide) ?_
  refine gq_newa (κ := 33) C hC hI ha.1 dMo_init_46 (by decide) (fun _ => rfl) ac_int rfl (Or.inr (Or.inl ⟨rfl, rfl⟩)) (ofI (by decide)) (by decide) ⟨Nat.le_of_ble_eq_true rfl, Nat.le_of_ble_eq_true rfl⟩ (fun P5 K5 I5 O5 J5 q5 hC hq5 eI5 eO5 hI5 => ?_)
  refine g_putrF C N dMo_init_48 fl_Mo_27 (wG_p5 147 (by decide +kernel) (by decide +kernel)) ⟨(hC.1 a ha.1).1, (hC.1 a ha.1).2.1.trans ha.2⟩ rfl rfl rfl rfl ?_
  replace hC := hC.putO (f := 20) ha.1 ((hC.1 a ha.1).2.1.trans ha.2) rfl hq5
  replace hI := hI5 20
  refine g_aload_n C dMo_init_51 rfl ?_
  refine g_bipush (v := Int32.ofInt (12)) C dMo_init_52 (by decide) ?_
  refine gq_newa (κ := 33) C hC hI ha.1 dMo_init_54 (by decide) (fun _ => rfl) ac_int rfl (Or.inr (Or.inl ⟨rfl, rfl⟩)) (ofI (by decide)) (by decide) ⟨Nat.le_of_ble_eq_true rfl, Nat.le_of_ble_eq_true rfl⟩ (fun P6 K6 I6 O6 J6 q6 hC hq6 eI6 eO6 hI6 => ?_)
  refine g_putrF C N dMo_init_56 fl_Mo_30 (wG_p5 148 (by decide +kernel) (by decide +kernel)) ⟨(hC.1 a ha.1).1, (hC.1 a ha.1).2.1.trans ha.2⟩ rfl rfl rfl rfl ?_
  replace hC := hC.putO (f := 21) ha.1 ((hC.1 a ha.1).2.1.trans ha.2) rfl hq6
  replace hI := hI6 21
  refine g_aload_n C dMo_init_59 rfl ?_
  refine g_bipush (v := Int32.ofInt (12)) C dMo_init_60 (by decide) ?_
  refine gq_newa (κ := 34) C hC hI ha.1 dMo_init_62 (by decide) (fun _ => rfl) ac_int rfl (Or.inr (Or.inl ⟨rfl, rfl⟩)) (ofI (by decide)) (by decide) ⟨Nat.le_of_ble_eq_true rfl, Nat.le_of_ble_eq_true rfl⟩ (fun P7 K7 I7 O7 J7 q7 hC hq7 eI7 eO7 hI7 => ?_)
  refine g_putrF C N dMo_init_64 fl_Mo_33 (wG_p5 149 (by decide +kernel) (by decide +kernel)) ⟨(hC.1 a ha.1).1, (hC.1 a ha.1).2.1.trans ha.2⟩ rfl rfl rfl rfl ?_
  replace hC := hC.putO (f := 22) ha.1 ((hC.1 a ha.1).2.1.trans ha.2) rfl hq7
  replace hI := hI7 22
  refine g_aload_n C dMo_init_67 rfl ?_
  refine g_bipush (v := Int32.ofInt (24)) C dMo_init_68 (by decide) ?_
  refine gq_newa (κ := 35) C hC hI ha.1 dMo_init_70 (by decide) (fun _ => rfl) ac_int rfl (Or.inr (Or.inl ⟨rfl, rfl⟩)) (ofI (by decide)) (by decide) ⟨Nat.le_of_ble_eq_true rfl, Nat.le_of_ble_eq_true rfl⟩ (fun P8 K8 I8 O8 J8 q8 hC hq8 eI8 eO8 hI8 => ?_)
  refine g_putrF C N dMo_init_72 fl_Mo_36 (wG_p5 151 (by decide +kernel) (by decide +kernel)) ⟨(hC.1 a ha.1).1, (hC.1 a ha.1).2.1.trans ha.2⟩ rfl rfl rfl rfl ?_
  replace hC := hC.putO (f := 24) ha.1 ((hC.1 a ha.1).2.1.trans ha.2) rfl hq8
  replace hI := hI8 24
  refine g_aload_n C dMo_init_75 rfl ?_
  refine g_bipush (v := Int32.ofInt (24)) C dMo_init_76 (by decide) ?_
  refine gq_newa (κ := 36) C hC hI ha.1 dMo_init_78 (by decide) (fun _ => rfl) ac_int rfl (Or.inr (Or.inl ⟨rfl, rfl⟩)) (ofI (by decide)) (by decide) ⟨Nat.le_of_ble_eq_true rfl, Nat.le_of_ble_eq_true rfl⟩ (fun P9 K9 I9 O9 J9 q9 hC hq9 eI9 eO9 hI9 => ?_)
  refine g_putrF C N dMo_init_80 fl_Mo_39 (wG_p5 152 (by decide +kernel) (by decide +kernel)) ⟨(hC.1 a ha.1).1, (hC.1 a ha.1).2.1.trans ha.2⟩ rfl rfl rfl rfl ?_
  replace hC := hC.putO (f := 25) ha.1 ((hC.1 a ha.1).2.1.trans ha.2) rfl hq9
  replace hI := hI9 25
  refine g_aload_n C dMo_init_83 rfl ?_
  refine g_bipush (v := Int32.ofInt (24)) C dMo_init_84 (by decide) ?_
  refine gq_newa (κ := 35) C hC hI ha.1 dMo_init_86 (by decide) (fun _ => rfl) ac_int rfl (Or.inr (Or.inl ⟨rfl, rfl⟩)) (ofI (by decide)) (by decide) ⟨Nat.le_of_ble_eq_true rfl, Nat.le_of_ble_eq_true rfl⟩ (fun P10 K10 I10 O10 J10 q10 hC hq10 eI10 eO10 hI10 => ?_)
  refine g_putrF C N dMo_init_88 fl_Mo_42 (wG_p5 153 (by decide +kernel) (by decide +kernel)) ⟨(hC.1 a ha.1).1, (hC.1 a ha.1).2.1.trans ha.2⟩ rfl rfl rfl rfl ?_
  replace hC := hC.putO (f := 26) ha.1 ((hC.1 a ha.1).2.1.trans ha.2) rfl hq10
  replace hI := hI10 26
  refine g_aload_n C dMo_init_91 rfl ?_
  refine g_bipush (v := Int32.ofInt (24)) C dMo_init_92 (by decide) ?_
  refine gq_newa (κ := 35) C hC hI ha.1 dMo_init_94 (by decide) (fun _ => rfl) ac_int rfl (Or.inr (Or.inl ⟨rfl, rfl⟩)) (ofI (by decide)) (by decide) ⟨Nat.le_of_ble_eq_true rfl, Nat.le_of_ble_eq_true rfl⟩ (fun P11 K11 I11 O11 J11 q11 hC hq11 eI11 eO11 hI11 => ?_)
  refine g_putrF C N dMo_init_96 fl_Mo_45 (wG_p5 154 (by decide +kernel) (by decide +kernel)) ⟨(hC.1 a ha.1).1, (hC.1 a ha.1).2.1.trans ha.2⟩ rfl rfl rfl rfl ?_
  replace hC := hC.putO (f := 27) ha.1 ((hC.1 a ha.1).2.1.trans ha.2) rfl hq11
  replace hI := hI11 27
  refine g_aload_n C dMo_init_99 rfl ?_
  refine g_bipush (v := Int32.ofInt (100)) C dMo_init_100 (by decide) ?_
  refine gq_newa (κ := 37) C hC hI ha.1 dMo_init_102 (by decide) (fun _ => rfl) ac_int rfl (Or.inr (Or.inl ⟨rfl, rfl⟩)) (ofI (by decide)) (by decide) ⟨Nat.le_of_ble_eq_true rfl, Nat.le_of_ble_eq_true rfl⟩ (fun P12 K12 I12 O12 J12 q12 hC hq12 eI12 eO12 hI12 => ?_)
  refine g_putrF C N dMo_init_104 fl_Mo_48 (wG_p5 155 (by decide +kernel) (by decide +kernel)) ⟨(hC.1 a ha.1).1, (hC.1 a ha.1).2.1.trans ha.2⟩ rfl rfl rfl rfl ?_
  replace hC := hC.putO (f := 28) ha.1 ((hC.1 a ha.1).2.1.trans ha.2) rfl hq12
  replace hI := hI12 28
  refine g_aload_n C dMo_init_107 rfl ?_
  refine g_iconst (v := Int32.ofInt (5)) C dMo_init_108 (by decide) ?_
  refine gq_newa (κ := 38) C hC hI ha.1 dMo_init_109 (by decide) (fun _ => rfl) ac_int rfl (Or.inr (Or.inl ⟨rfl, rfl⟩)) (ofI (by decide)) (by decide) ⟨Nat.le_of_ble_eq_true rfl, Nat.le_of_ble_eq_true rfl⟩ (fun P13 K13 I13 O13 J13 q13 hC hq13 eI13 eO13 hI13 => ?_)
  refine g_putrF C N dMo_init_111 fl_Mo_51 (wG_p5 157 (by decide +kernel) (by decide +kernel)) ⟨(hC.1 a ha.1).1, (hC.1 a ha.1).2.1.trans ha.2⟩ rfl rfl rfl rfl ?_
  replace hC := hC.putO (f := 30) ha.1 ((hC.1 a ha.1).2.1.trans ha.2) rfl hq13
  replace hI := hI13 30
  refine g_aload_n C dMo_init_114 rfl ?_
  refine g_iconst (v := Int32.ofInt (5)) C dMo_init_115 (by decide) ?_
  refine gq_newa (κ := 38) C hC hI ha.1 dMo_init_116 (by decide) (fun _ => rfl) ac_int rfl (Or.inr (Or.inl ⟨rfl, rfl⟩)) (ofI (by decide)) (by decide) ⟨Nat.le_of_ble_eq_true rfl, Nat.le_of_ble_eq_true rfl⟩ (fun P14 K14 I14 O14 J14 q14 hC hq14 eI14 eO14 hI14 => ?_)
  refine g_putrF C N dMo_init_118 fl_Mo_54 (wG_p5 158 (by decide +kernel) (by decide +kernel)) ⟨(hC.1 a ha.1).1, (hC.1 a ha.1).2.1.trans ha.2⟩ rfl rfl rfl rfl ?_
  replace hC := hC.putO (f := 31) ha.1 ((hC.1 a ha.1).2.1.trans ha.2) rfl hq14
  replace hI := hI14 31
  refine g_aload_n C dMo_init_121 rfl ?_
  refine g_bipush (v := Int32.ofInt (37)) C dMo_init_122 (by decide) ?_
  refine gq_newa (κ := 50) C hC hI ha.1 dMo_init_124 (by decide) (fun _ => rfl) ac_int rfl (Or.inr (Or.inl ⟨rfl, rfl⟩)) (ofI (by decide)) (by decide) ⟨Nat.le_of_ble_eq_true rfl, Nat.le_of_ble_eq_true rfl⟩ (fun P15 K15 I15 O15 J15 q15 hC hq15 eI15 eO15 hI15 => ?_)
  refine g_putrF C N dMo_init_126 fl_Mo_57 (wG_p5 159 (by decide +kernel) (by decide +kernel)) ⟨(hC.1 a ha.1).1, (hC.1 a ha.1).2.1.trans ha.2⟩ rfl rfl rfl rfl ?_
  replace hC := hC.putO (f := 32) ha.1 ((hC.1 a ha.1).2.1.trans ha.2) rfl hq15
  replace hI := hI15 32
  refine g_aload_n C dMo_init_129 rfl ?_
  refine g_iconst (v := Int32.ofInt (2)) C dMo_init_130 (by decide) ?_
  refine gq_newa (κ := 39) C hC hI ha.1 dMo_init_131 (by decide) (fun _ => rfl) ac_int rfl (Or.inr (Or.inl ⟨rfl, rfl⟩)) (ofI (by decide)) (by decide) ⟨Nat.le_of_ble_eq_true rfl, Nat.le_of_ble_eq_true rfl⟩ (fun P16 K16 I16 O16 J16 q16 hC hq16 eI16 eO16 hI16 => ?_)
  refine g_putrF C N dMo_init_133 fl_Mo_60 (wG_p5 160 (by decide +kernel) (by decide +kernel)) ⟨(hC.1 a ha.1).1, (hC.1 a ha.1).2.1.trans ha.2⟩ rfl rfl rfl rfl ?_
  replace hC := hC.putO (f := 33) ha.1 ((hC.1 a ha.1).2.1.trans ha.2) rfl hq16
  replace hI := hI16 33
  refine g_aload_n C dMo_init_136 rfl ?_
  refine g_bipush (v := Int32.ofInt (16)) C dMo_init_137 (by decide) ?_
  refine gq_newa (κ := 40) C hC hI ha.1 dMo_init_139 (by decide) (fun _ => rfl) ac_int rfl (Or.inr (Or.inl ⟨rfl, rfl⟩)) (ofI (by decide)) (by decide) ⟨Nat.le_of_ble_eq_true rfl, Nat.le_of_ble_eq_true rfl⟩ (fun P17 K17 I17 O17 J17 q17 hC hq17 eI17 eO17 hI17 => ?_)
  refine g_putrF C N dMo_init_141 fl_Mo_63 (wG_p5 161 (by decide +kernel) (by decide +kernel)) ⟨(hC.1 a ha.1).1, (hC.1 a ha.1).2.1.trans ha.2⟩ rfl rfl rfl rfl ?_
  replace hC := hC.putO (f := 34) ha.1 ((hC.1 a ha.1).2.1.trans ha.2) rfl hq17
  replace hI := hI17 34
  refine g_aload_n C dMo_init_144 rfl ?_
  refine g_iconst (v := Int32.ofInt (5)) C dMo_init_145 (by decide) ?_
  refine gq_newa (κ := 41) C hC hI ha.1 dMo_init_146 (by decide) (fun _ => rfl) ac_long rfl (Or.inr (Or.inr (Or.inl ⟨rfl, rfl⟩))) (ofI (by decide)) (by decide) ⟨Nat.le_of_ble_eq_true rfl, Nat.le_of_ble_eq_true rfl⟩ (fun P18 K18 I18 O18 J18 q18 hC hq18 eI18 eO18 hI18 => ?_)
  refine g_putrF C N dMo_init_148 fl_Mo_66 (wG_p5 162 (by decide +kernel) (by decide +kernel)) ⟨(hC.1 a ha.1).1, (hC.1 a ha.1).2.1.trans ha.2⟩ rfl rfl rfl rfl ?_
  replace hC := hC.putO (f := 35) ha.1 ((hC.1 a ha.1).2.1.trans ha.2) rfl hq18
  replace hI := hI18 35
  refine g_aload_n C dMo_init_151 rfl ?_
  refine g_iconst (v := Int32.ofInt (5)) C dMo_init_152 (by decide) ?_
  refine gq_newa (κ := 41) C hC hI ha.1 dMo_init_153 (by decide) (fun _ => rfl) ac_long rfl (Or.inr (Or.inr (Or.inl ⟨rfl, rfl⟩))) (ofI (by decide)) (by decide) ⟨Nat.le_of_ble_eq_true rfl, Nat.le_of_ble_eq_true rfl⟩ (fun P19 K19 I19 O19 J19 q19 hC hq19 eI19 eO19 hI19 => ?_)
  refine g_putrF C N dMo_init_155 fl_Mo_70 (wG_p5 163 (by decide +kernel) (by decide +kernel)) ⟨(hC.1 a ha.1).1, (hC.1 a ha.1).2.1.trans ha.2⟩ rfl rfl rfl rfl ?_
  replace hC := hC.putO (f := 36) ha.1 ((hC.1 a ha.1).2.1.trans ha.2) rfl hq19
  replace hI := hI19 36
  exact g_vret C E dMo_init_158 (Nat.le_of_ble_eq_true rfl) (Nat.le_of_ble_eq_true rfl) ⟨⟨rfl, hC, ⟨fun k hk => by simp [eI1, eO1, eI2, eO2, eI3, eO3, eI4, eO4, eI5, eO5, eI6, eO6, eI7, eO7, eI8, eO8, eI9, eO9, eI10, eO10, eI11, eO11, eI12, eO12, eI13, eO13, eI14, eO14, eI15, eO15, eI16, eO16, eI17, eO17, eI18, eO18, eI19, eO19, up2, hz, hk], by simp [eI1, eO1, eI2, eO2, eI3, eO3, eI4, eO4, eI5, eO5, eI6, eO6, eI7, eO7, eI8, eO8, eI9, eO9, eI10, eO10, eI11, eO11, eI12, eO12, eI13, eO13, eI14, eO14, eI15, eO15, eI16, eO16, eI17, eO17, eI18, eO18, eI19, eO19, up2], by simp [eI1, eO1, eI2, eO2, eI3, eO3, eI4, eO4, eI5, eO5, eI6, eO6, eI7, eO7, eI8, eO8, eI9, eO9, eI10, eO10, eI11, eO11, eI12, eO12, eI13, eO13, eI14, eO14, eI15, eO15, eI16, eO16, eI17, eO17, eI18, eO18, eI19, eO19, up2, ho], by simp [eI1, eO1, eI2, eO2, eI3, eO3, eI4, eO4, eI5, eO5, eI6, eO6, eI7, eO7, eI8, eO8, eI9, eO9, eI10, eO10, eI11, eO11, eI12, eO12, eI13, eO13, eI14, eO14, eI15, eO15, eI16, eO16, eI17, eO17, eI18, eO18, eI19, eO19, up2, ho]⟩⟩, hI⟩
