/-! RoarMill.mill as a pure function: the two mills may change places, so the references come out too -/
def sw12 (O : WO) (a : Nat) : WO := up2 (up2 O a 1 (some (rf O a 2))) a 2 (some (rf O a 1))
def F_RM_mill (N : Nat) (O : WO) (I0 : WI) (J0 : WJ) (a0 : Nat) (x1 : Int32) : Option (Int32 × WI × WJ × WO) :=
  if x1.toInt < 0 then (bd2 (F_RM_refuse N O I0 J0 a0 (Int32.ofInt (2))) fun r I1 => some (r, I1, J0, O))
  else (if x1.toInt ≤ (I0 (rf O a0 0) 1).toInt then
    (bd3 (F_Rd_read N O I0 J0 (rf O a0 0) x1 (rf O a0 2)) fun r I1 J1 =>
      lb (up2 I1 (rf O a0 0) 1 (Int32.ofInt (0))) fun I2 => lb (up2 I2 a0 15 (I2 (rf O a0 0) 2)) fun I3 => lb (up2 I3 a0 16 (I3 (rf O a0 0) 3)) fun I4 =>
      if r.toInt = 0 then (bd2 (F_RM_refuse N O I4 J1 a0 (Int32.ofInt (4))) fun r I5 => some (r, I5, J1, O))
      else (bd1 (F_RM_beginAnew N (sw12 O a0) I4 J1 a0) fun I5 => bd2 (F_RM_accept N (sw12 O a0) I5 J1 a0 (I5 (rf (sw12 O a0) a0 1) 7)) fun r I6 => some (r, I6, J1, sw12 O a0)))
    else (bd2 (F_RM_refuse N O I0 J0 a0 (Int32.ofInt (2))) fun r I1 => some (r, I1, J0, O)))
theorem sw12_TR {P : List Nat} {K : Nat → Nat} {O : WO} (hT : TR P K O) {a : Nat} (h0 : a ∈ P ∧ K a = 8) : TR P K (sw12 O a) := by
  have t1 := rf_ok hT h0 (show sp 8 1 = some 3 from rfl)
  have t2 := rf_ok hT h0 (show sp 8 2 = some 3 from rfl)
  intro b hb k κ' hs
  unfold sw12
  by_cases e : b = a
  · subst e
    by_cases e2 : k = 2
    · subst e2; rw [h0.2] at hs; cases hs; exact ⟨_, up2_self _ _ _ _, t1⟩
    · by_cases e1 : k = 1
      · subst e1; rw [h0.2] at hs; cases hs; exact ⟨_, by rw [up2_ne _ _ (fun z => absurd z.2 (by decide)), up2_self], t2⟩
      · rw [up2_ne _ _ (fun z => e2 z.2), up2_ne _ _ (fun z => e1 z.2)]; exact hT b hb k κ' hs
  · rw [up2_row _ _ e, up2_row _ _ e]; exact hT b hb k κ' hs
theorem sw12_1 {O : WO} {a : Nat} : rf (sw12 O a) a 1 = rf O a 2 := by unfold sw12; rw [rf, up2_ne _ _ (fun z => absurd z.2 (by decide)), up2_self]; rfl
theorem sw12_2 {O : WO} {a : Nat} : rf (sw12 O a) a 2 = rf O a 1 := by unfold sw12; rw [rf, up2_self]; rfl
theorem sw12_o {O : WO} {a f : Nat} (h1 : f ≠ 1) (h2 : f ≠ 2) : (sw12 O a) a f = O a f := by unfold sw12; rw [up2_ne _ _ (fun z => h2 z.2), up2_ne _ _ (fun z => h1 z.2)]
theorem sw12_r {O : WO} {a b : Nat} (h : ¬ b = a) : (sw12 O a) b = O b := by unfold sw12; rw [up2_row _ _ h, up2_row _ _ h]
theorem x_iret4 {X : CTX} {cc : ByteArray} {nL : Nat} {own : String} {rm : Room} {P : List Nat} {K : Nat → Nat} {I I' : WI} {O O' : WO} {J J' : WJ} {nc ns pc : Nat} {L : List (Nat × Value)} {v r : Int32} (C : Cx X cc nL own rm) (E : Rx X (some .int) (EPo (some (.int r)) I' J' P K O') rm) (d : decode cc pc = .ok (.ireturn, 1)) (hro : nc ≤ rm.cells ∧ ns ≤ rm.slots) (h : some (v, I, J, O) = some (r, I', J', O')) : GG X nL P K I O J nc ns pc L [.int v] := by
  cases h; exact g_iret C E d hro.1 hro.2 ⟨rfl, rfl, rfl, rfl, rfl, rfl⟩
set_option maxHeartbeats 4000000 in
set_option maxRecDepth 100000 in
theorem f_RM_mill {P : List Nat} {K : Nat → Nat} {N : Nat} {O : WO} {I0 : WI} {J0 : WJ} (hT : TR P K O) {a0 : Nat} (h0 : a0 ∈ P ∧ K a0 = 8) {x1 : Int32} {r : Int32} {I' : WI} {J' : WJ} {O' : WO} (h : F_RM_mill N O I0 J0 a0 x1 = some (r, I', J', O')) : Con yRM_mill bRM_mill 4 (some .int) ({ frames := 9, cells := 0, slots := 0, locals := 194 } : Room) P K I0 O J0 [.ref a0, .int x1] (EPo (some (.int r)) I' J' P K O') := by
  refine Con.ofG mfRM_mill (Nat.le_of_ble_eq_true rfl) ?_
  intro X C E
  unfold F_RM_mill at h
  have t0 := rf_ok hT h0 (show sp 8 0 = some 5 from rfl)
  have t1 := rf_ok hT h0 (show sp 8 1 = some 3 from rfl)
  have t2 := rf_ok hT h0 (show sp 8 2 = some 3 from rfl)
  refine g_iload_n C dRM_mill_0 rfl ?_
  refine gt_if_lt 15 C dRM_mill_1 (by decide) rfl (fun c_1 => ?_) (fun c_1 => ?_)
  · have h := x_pos c_1 h
    refine g_aload_n C dRM_mill_15 rfl ?_
    refine g_iconst (v := Int32.ofInt (2)) C dRM_mill_16 (by decide) ?_
    obtain ⟨z, I1, e, h⟩ := bd2_some h
    refine x_callVi (av := fun ad => [.int (Int32.ofInt (2))]) C dRM_mill_17 mfRM_refuse mvRM_refuse ln_RM_96 h0 (by decide) rfl (f_RM_refuse hT h0 e) rfl rfl (Nat.le_of_ble_eq_true rfl) ⟨Nat.le_of_ble_eq_true rfl, Nat.le_of_ble_eq_true rfl⟩ ⟨rfl, rfl⟩ ⟨Nat.zero_le _, Nat.zero_le _⟩ ?_
    exact x_iret4 C E dRM_mill_20 ⟨Nat.zero_le _, Nat.zero_le _⟩ h
  · have h := x_neg (by omega) h
    refine g_iload_n C dRM_mill_4 rfl ?_
    refine g_aload_n C dRM_mill_5 rfl ?_
    refine x_getr C dRM_mill_6 fl_RM_12 h0 hT (show sp 8 0 = some 5 from rfl) ?_
    refine g_geti C dRM_mill_9 fl_RM_93 t0 ?_
    refine gt_icmp_le 21 C dRM_mill_12 (by decide) rfl rfl (fun c_12 => ?_) (fun c_12 => ?_)
    · have h := x_pos c_12 h
      refine g_aload_n C dRM_mill_21 rfl ?_
      refine x_getr C dRM_mill_22 fl_RM_12 h0 hT (show sp 8 0 = some 5 from rfl) ?_
      refine g_iload_n C dRM_mill_25 rfl ?_
      refine g_aload_n C dRM_mill_26 rfl ?_
      refine x_getr C dRM_mill_27 fl_RM_23 h0 hT (show sp 8 2 = some 3 from rfl) ?_
      obtain ⟨z, I1, J1, e, h⟩ := bd3_some h
      refine x_callVi (av := fun ad => [.int x1, .ref (rf O a0 2)]) C dRM_mill_30 mfRd_read mvRd_read ln_RM_100 t0 (by decide) rfl (f_Rd_read hT t0 t2 e) rfl rfl (Nat.le_of_ble_eq_true rfl) ⟨Nat.le_of_ble_eq_true rfl, Nat.le_of_ble_eq_true rfl⟩ ⟨rfl, rfl⟩ ⟨Nat.zero_le _, Nat.zero_le _⟩ ?_
      refine g_istore_n (i := 2) C dRM_mill_33 rfl (by decide) ?_
      refine g_aload_n C dRM_mill_34 rfl ?_
      refine x_getr C dRM_mill_35 fl_RM_12 h0 hT (show sp 8 0 = some 5 from rfl) ?_
      refine g_iconst (v := Int32.ofInt (0)) C dRM_mill_38 (by decide) ?_
      refine x_puti C dRM_mill_39 fl_RM_93 t0 rfl (Or.inl rfl) h (fun I2 h => ?_)
      refine g_aload_n C dRM_mill_42 rfl ?_
      refine g_aload_n C dRM_mill_43 rfl ?_
      refine x_getr C dRM_mill_44 fl_RM_12 h0 hT (show sp 8 0 = some 5 from rfl) ?_
      refine g_geti C dRM_mill_47 fl_RM_104 t0 ?_
      refine x_puti C dRM_mill_50 fl_RM_107 h0 rfl (Or.inl rfl) h (fun I3 h => ?_)
      refine g_aload_n C dRM_mill_53 rfl ?_
      refine g_aload_n C dRM_mill_54 rfl ?_
      refine x_getr C dRM_mill_55 fl_RM_12 h0 hT (show sp 8 0 = some 5 from rfl) ?_
      refine g_geti C dRM_mill_58 fl_RM_110 t0 ?_
      refine x_puti C dRM_mill_61 fl_RM_113 h0 rfl (Or.inl rfl) h (fun I4 h => ?_)
      refine g_iload_n C dRM_mill_64 rfl ?_
      refine gt_if_ne 74 C dRM_mill_65 (by decide) rfl (fun c_65 => ?_) (fun c_65 => ?_)
      · have h := x_neg c_65 h
        refine g_aload_n C dRM_mill_74 rfl ?_
        refine x_getr C dRM_mill_75 fl_RM_19 h0 hT (show sp 8 1 = some 3 from rfl) ?_
        refine g_astore_n (i := 3) C dRM_mill_78 rfl (by decide) ?_
        refine g_aload_n C dRM_mill_79 rfl ?_
        refine g_aload_n C dRM_mill_80 rfl ?_
        refine x_getr C dRM_mill_81 fl_RM_23 h0 hT (show sp 8 2 = some 3 from rfl) ?_
        refine g_putr (x := some (rf O a0 2)) C dRM_mill_84 fl_RM_19 h0 rfl rfl rfl ?_
        refine g_aload_n C dRM_mill_87 rfl ?_
        refine g_aload_n C dRM_mill_88 rfl ?_
        refine g_putr (x := some (rf O a0 1)) C dRM_mill_89 fl_RM_23 h0 rfl rfl rfl ?_
        show GG X 4 P K I4 (sw12 O a0) J1 0 0 92 _ _
        have hT2 := sw12_TR hT h0
        obtain ⟨I5, e5, h⟩ := bd1_some h
        refine g_aload_n C dRM_mill_92 rfl ?_
        refine x_callVv (av := fun ad => []) C dRM_mill_93 mfRM_beginAnew mvRM_beginAnew ln_RM_116 h0 (by decide) rfl (f_RM_beginAnew hT2 h0 e5) rfl rfl (Nat.le_of_ble_eq_true rfl) ⟨Nat.le_of_ble_eq_true rfl, Nat.le_of_ble_eq_true rfl⟩ ⟨rfl, rfl⟩ ⟨Nat.zero_le _, Nat.zero_le _⟩ ?_
        refine g_aload_n C dRM_mill_96 rfl ?_
        refine g_aload_n C dRM_mill_97 rfl ?_
        have t3 := rf_ok hT2 h0 (show sp 8 1 = some 3 from rfl)
        refine x_getr C dRM_mill_98 fl_RM_19 h0 hT2 (show sp 8 1 = some 3 from rfl) ?_
        refine g_geti C dRM_mill_101 fl_RM_119 t3 ?_
        obtain ⟨z6, I6, e6, h⟩ := bd2_some h
        refine x_callVi (av := fun ad => [.int (I5 (rf (sw12 O a0) a0 1) 7)]) C dRM_mill_104 mfRM_accept mvRM_accept ln_RM_122 h0 (by decide) rfl (f_RM_accept hT2 h0 e6) rfl rfl (Nat.le_of_ble_eq_true rfl) ⟨Nat.le_of_ble_eq_true rfl, Nat.le_of_ble_eq_true rfl⟩ ⟨rfl, rfl⟩ ⟨Nat.zero_le _, Nat.zero_le _⟩ ?_
        exact x_iret4 C E dRM_mill_107 ⟨Nat.zero_le _, Nat.zero_le _⟩ h
      · have h := x_pos c_65 h
        refine g_aload_n C dRM_mill_68 rfl ?_
        refine g_iconst (v := Int32.ofInt (4)) C dRM_mill_69 (by decide) ?_
        obtain ⟨z5, I5, e5, h⟩ := bd2_some h
        refine x_callVi (av := fun ad => [.int (Int32.ofInt (4))]) C dRM_mill_70 mfRM_refuse mvRM_refuse ln_RM_96 h0 (by decide) rfl (f_RM_refuse hT h0 e5) rfl rfl (Nat.le_of_ble_eq_true rfl) ⟨Nat.le_of_ble_eq_true rfl, Nat.le_of_ble_eq_true rfl⟩ ⟨rfl, rfl⟩ ⟨Nat.zero_le _, Nat.zero_le _⟩ ?_
        exact x_iret4 C E dRM_mill_73 ⟨Nat.zero_le _, Nat.zero_le _⟩ h
    · have h := x_neg (by omega) h
      refine g_aload_n C dRM_mill_15 rfl ?_
      refine g_iconst (v := Int32.ofInt (2)) C dRM_mill_16 (by decide) ?_
      obtain ⟨z, I1, e, h⟩ := bd2_some h
      refine x_callVi (av := fun ad => [.int (Int32.ofInt (2))]) C dRM_mill_17 mfRM_refuse mvRM_refuse ln_RM_96 h0 (by decide) rfl (f_RM_refuse hT h0 e) rfl rfl (Nat.le_of_ble_eq_true rfl) ⟨Nat.le_of_ble_eq_true rfl, Nat.le_of_ble_eq_true rfl⟩ ⟨rfl, rfl⟩ ⟨Nat.zero_le _, Nat.zero_le _⟩ ?_
      exact x_iret4 C E dRM_mill_20 ⟨Nat.zero_le _, Nat.zero_le _⟩ h
