/-! what each public method does, for the law: an answer, a world, and that the invariants hold on -/
def RS (P : List Nat) (K : Nat → Nat) (I : WI) (O : WO) (a : Nat) : Prop := (O a 3 = none ∨ (NN P K O a 3 9 ∧ GM I (rf O a 3))) ∧ (0 ≤ (I a 18).toInt ∧ (I a 18).toInt ≤ (I (rf O a 16) 27).toInt)
theorem RS.keep1 {P : List Nat} {K : Nat → Nat} {I I' : WI} {O : WO} {J J' : WJ} {a : Nat} {fr : Nat → Bool} (h : RS P K I O a) (hF : FR fr K I J I' J') (h9 : fr 9 = true) (h2 : 0 ≤ (I' a 18).toInt ∧ (I' a 18).toInt ≤ (I' (rf O a 16) 27).toInt) : RS P K I' O a := by
  refine ⟨?_, h2⟩
  rcases h.1 with z | ⟨z1, z2⟩
  · exact Or.inl z
  · exact Or.inr ⟨z1, z2.keep (hF _ (by rw [z1.2.2]; exact h9)).1⟩
theorem RS.keep {P : List Nat} {K : Nat → Nat} {I I' : WI} {O : WO} {J J' : WJ} {a : Nat} {fr : Nat → Bool} (h : RS P K I O a) (hF : FR fr K I J I' J') (h9 : fr 9 = true) (h2 : (I' a 6).toInt = (I a 6).toInt ∧ (I' a 18).toInt = (I a 18).toInt ∧ (I' (rf O a 16) 27).toInt = (I (rf O a 16) 27).toInt) : RS P K I' O a := h.keep1 hF h9 (by rw [h2.2.1, h2.2.2]; exact h.2)
theorem RS.q3 {P : List Nat} {K : Nat → Nat} {I : WI} {O : WO} {a : Nat} (h : RS P K I O a) : ∀ b, O a 3 = some b → b ∈ P ∧ K b = 9 := by
  intro b hb
  rcases h.1 with z | ⟨z1, -⟩
  · rw [z] at hb; cases hb
  · have e : rf O a 3 = b := by unfold rf; rw [hb]; rfl
    rw [← e]; exact z1.2
def DM (y : MethodName) (cc : ByteArray) (nL : Nat) (rt : Option FieldType) (rm : Room) (P : List Nat) (K : Nat → Nat) (I : WI) (O : WO) (J : WJ) (a : Nat) (av : List Value) : Prop := ∃ z I' J', Con y cc nL rt rm P K I O J (.ref a :: av) (EPo (some (.int z)) I' J' P K O) ∧ IV P K I' O ∧ FR frM2 K I J I' J' ∧ RS P K I' O a ∧ (I' a 6).toInt = (I a 6).toInt
def DC (y : MethodName) (cc : ByteArray) (nL : Nat) (rt : Option FieldType) (rm : Room) (P : List Nat) (K : Nat → Nat) (I : WI) (O : WO) (J : WJ) (a : Nat) (av : List Value) : Prop := ∃ z I' J', Con y cc nL rt rm P K I O J (.ref a :: av) (EPo (some (.int z)) I' J' P K O) ∧ IV P K I' O ∧ FR frK K I J I' J'
set_option maxHeartbeats 4000000 in
set_option maxRecDepth 100000 in
theorem f_Mo_guess_Z {P : List Nat} {K : Nat → Nat} {N : Nat} {O : WO} {I0 : WI} {J0 : WJ} (hT : TR P K O) {a0 : Nat} (h0 : a0 ∈ P ∧ K a0 = 10) {x1 : Int32} {x2 : Int32} {x3 : Int32} {x4 : Int32} {x5 : Int32} (hN : 2147483648 ≤ N) (hV : IV P K I0 O) (hMn : O a0 3 = none) (hQ3 : ∀ b, O a0 3 = some b → b ∈ P ∧ K b = 9) {r : Int32} {I' : WI} (h : F_Mo_guess N O I0 J0 a0 x1 x2 x3 x4 x5 = some (r, I')) : Con yMo_guess bMo_guess 7 (some .int) ({ frames := 4, cells := 0, slots := 0, locals := 97 } : Room) P K I0 O J0 [.ref a0, .int x1, .int x2, .int x3, .int x4, .int x5] (EPo (some (.int r)) I' J0 P K O) := by
  refine Con.ofG mfMo_guess (Nat.le_of_ble_eq_true rfl) ?_
  intro X C E
  unfold F_Mo_guess at h
  have s1 : SV frM2 P K O I0 J0 (up2 I0 a0 0 (Int32.ofInt 0)) J0 := (SV.rf hV).putI h0.2 rfl trivial
  refine g_aload_n C dMo_guess_0 rfl ?_
  refine g_iconst (v := Int32.ofInt (0)) C dMo_guess_1 (by decide) ?_
  refine g_puti (x := Int32.ofInt 0) C dMo_guess_2 fl_Mo_73 h0 rfl rfl rfl ?_
  refine g_aload_n C dMo_guess_5 rfl ?_
  refine g_iload C dMo_guess_6 rfl ?_
  refine g_iload C dMo_guess_8 rfl ?_
  obtain ⟨z_10, e_10, h⟩ := bd1_some h
  have z0 : z_10.toInt = 0 := by
    obtain ⟨z', e', q⟩ := s_Mo_isWhat_Z (J0 := J0) (x1 := x4) (x2 := x5) hN s1.1 h0 hMn (Q := fun z => z.toInt = 0) (fun z _ h => h)
    rw [e_10] at e'; cases e'; exact q
  refine x_callVi (av := fun ad => [.int x4, .int x5]) C dMo_guess_10 mfMo_isWhat mvMo_isWhat ln_Mo_338 h0 (by decide) rfl (f_Mo_isWhat hT h0 hQ3 e_10) rfl rfl (Nat.le_of_ble_eq_true rfl) ⟨Nat.le_of_ble_eq_true rfl, Nat.le_of_ble_eq_true rfl⟩ ⟨rfl, rfl⟩ ⟨Nat.zero_le _, Nat.zero_le _⟩ ?_
  refine gt_if_ne 22 C dMo_guess_13 (by decide) rfl (fun c_13 => absurd z0 c_13) (fun c_13 => ?_)
  have h := x_pos c_13 h
  refine g_aload_n C dMo_guess_16 rfl ?_
  refine g_iconst (v := Int32.ofInt (1)) C dMo_guess_17 (by decide) ?_
  obtain ⟨z_18, I9, e_18, h⟩ := bd2_some h
  refine x_callVi (av := fun ad => [.int (Int32.ofInt (1))]) C dMo_guess_18 mfMo_refused mvMo_refused ln_Mo_283 h0 (by decide) rfl (f_Mo_refused hT h0 e_18) rfl rfl (Nat.le_of_ble_eq_true rfl) ⟨Nat.le_of_ble_eq_true rfl, Nat.le_of_ble_eq_true rfl⟩ ⟨rfl, rfl⟩ ⟨Nat.zero_le _, Nat.zero_le _⟩ ?_
  exact x_iret1 C E dMo_guess_21 ⟨Nat.zero_le _, Nat.zero_le _⟩ h
set_option maxHeartbeats 4000000 in
set_option maxRecDepth 100000 in
theorem f_Mo_marks_Z {P : List Nat} {K : Nat → Nat} {N : Nat} {O : WO} {I0 : WI} {J0 : WJ} (hT : TR P K O) {a0 : Nat} (h0 : a0 ∈ P ∧ K a0 = 10) {x1 : Int32} {x2 : Int32} {x3 : Int32} {x4 : Int32} {x5 : Int32} {x6 : Int32} (hN : 2147483648 ≤ N) (hV : IV P K I0 O) (hMn : O a0 3 = none) (hQ3 : ∀ b, O a0 3 = some b → b ∈ P ∧ K b = 9) {r : Int32} {I' : WI} {J' : WJ} (h : F_Mo_marks N O I0 J0 a0 x1 x2 x3 x4 x5 x6 = some (r, I', J')) : Con yMo_marks bMo_marks 10 (some .int) ({ frames := 4, cells := 0, slots := 0, locals := 97 } : Room) P K I0 O J0 [.ref a0, .int x1, .int x2, .int x3, .int x4, .int x5, .int x6] (EPo (some (.int r)) I' J' P K O) := by
  refine Con.ofG mfMo_marks (Nat.le_of_ble_eq_true rfl) ?_
  intro X C E
  unfold F_Mo_marks at h
  have s1 : SV frM2 P K O I0 J0 (up2 I0 a0 0 (Int32.ofInt 0)) J0 := (SV.rf hV).putI h0.2 rfl trivial
  refine g_aload_n C dMo_marks_0 rfl ?_
  refine g_iconst (v := Int32.ofInt (0)) C dMo_marks_1 (by decide) ?_
  refine g_puti (x := Int32.ofInt 0) C dMo_marks_2 fl_Mo_73 h0 rfl rfl rfl ?_
  refine g_aload_n C dMo_marks_5 rfl ?_
  refine g_iload C dMo_marks_6 rfl ?_
  obtain ⟨z_8, e_8, h⟩ := bd1_some h
  have z0 : z_8.toInt = 0 := by
    obtain ⟨z', e', q⟩ := s_Mo_isSize_Z (J0 := J0) (x1 := x4) hN s1.1 h0 hMn (Q := fun z => z.toInt = 0) (fun z _ h => h)
    rw [e_8] at e'; cases e'; exact q
  refine x_callVi (av := fun ad => [.int x4]) C dMo_marks_8 mfMo_isSize mvMo_isSize ln_Mo_335 h0 (by decide) rfl (f_Mo_isSize hT h0 hQ3 e_8) rfl rfl (Nat.le_of_ble_eq_true rfl) ⟨Nat.le_of_ble_eq_true rfl, Nat.le_of_ble_eq_true rfl⟩ ⟨rfl, rfl⟩ ⟨Nat.zero_le _, Nat.zero_le _⟩ ?_
  unfold jn at h
  refine gt_if_eq 36 C dMo_marks_11 (by decide) rfl (fun c_11 => ?_) (fun c_11 => absurd z0 c_11)
  have h := x_pos c_11 h
  refine g_aload_n C dMo_marks_36 rfl ?_
  refine g_iconst (v := Int32.ofInt (1)) C dMo_marks_37 (by decide) ?_
  obtain ⟨z_38, I3, e_38, h⟩ := bd2_some h
  refine x_callVi (av := fun ad => [.int (Int32.ofInt (1))]) C dMo_marks_38 mfMo_refused mvMo_refused ln_Mo_283 h0 (by decide) rfl (f_Mo_refused hT h0 e_38) rfl rfl (Nat.le_of_ble_eq_true rfl) ⟨Nat.le_of_ble_eq_true rfl, Nat.le_of_ble_eq_true rfl⟩ ⟨rfl, rfl⟩ ⟨Nat.zero_le _, Nat.zero_le _⟩ ?_
  exact x_iret2 C E dMo_marks_41 ⟨Nat.zero_le _, Nat.zero_le _⟩ h
set_option maxRecDepth 100000 in
theorem d_RM_fault {P : List Nat} {K : Nat → Nat} {O : WO} {I0 : WI} {J0 : WJ} (hV : IV P K I0 O) {a0 : Nat} (h0 : a0 ∈ P ∧ K a0 = 8)  : DC yRM_fault bRM_fault 1 (some .int) ({ frames := 0, cells := 0, slots := 0, locals := 0 } : Room) P K I0 O J0 a0 [] := by
  obtain ⟨z, e, q3⟩ := s_RM_fault (N := 2147483648) (J0 := J0) (Nat.le_refl _) hV h0 (Q := fun w => True) (fun z h3 => h3)
  exact ⟨z, I0, J0, f_RM_fault hV.1 h0 e, hV, FR.rf⟩
set_option maxRecDepth 100000 in
theorem d_Mo_fault {P : List Nat} {K : Nat → Nat} {O : WO} {I0 : WI} {J0 : WJ} (hV : IV P K I0 O) {a0 : Nat} (h0 : a0 ∈ P ∧ K a0 = 10) (hR : RS P K I0 O a0)  : DM yMo_fault bMo_fault 1 (some .int) ({ frames := 0, cells := 0, slots := 0, locals := 0 } : Room) P K I0 O J0 a0 [] := by
  obtain ⟨⟨z, I'⟩, e, q1, q2, q3⟩ := s_Mo_fault (N := 2147483648) (J0 := J0) (Nat.le_refl _) hV h0 (Q := fun w => IV P K w.2 O ∧ FR frM2 K I0 J0 w.2 J0 ∧ ((w.2 a0 6).toInt = (I0 a0 6).toInt ∧ (w.2 a0 18).toInt = (I0 a0 18).toInt ∧ (w.2 (rf O a0 16) 27).toInt = (I0 (rf O a0 16) 27).toInt)) (fun z I_ h1 h2 h3 => ⟨h1, h2, h3⟩)
  exact ⟨z, I', J0, f_Mo_fault hV.1 h0 e, q1, q2, hR.keep q2 rfl q3, q3.1⟩
set_option maxRecDepth 100000 in
theorem d_RM_where {P : List Nat} {K : Nat → Nat} {O : WO} {I0 : WI} {J0 : WJ} (hV : IV P K I0 O) {a0 : Nat} (h0 : a0 ∈ P ∧ K a0 = 8)  : DC yRM_where bRM_where 1 (some .int) ({ frames := 0, cells := 0, slots := 0, locals := 0 } : Room) P K I0 O J0 a0 [] := by
  obtain ⟨z, e, q3⟩ := s_RM_where (N := 2147483648) (J0 := J0) (Nat.le_refl _) hV h0 (Q := fun w => True) (fun z h3 => h3)
  exact ⟨z, I0, J0, f_RM_where hV.1 h0 e, hV, FR.rf⟩
set_option maxRecDepth 100000 in
theorem d_Mo_where {P : List Nat} {K : Nat → Nat} {O : WO} {I0 : WI} {J0 : WJ} (hV : IV P K I0 O) {a0 : Nat} (h0 : a0 ∈ P ∧ K a0 = 10) (hR : RS P K I0 O a0)  : DM yMo_where bMo_where 1 (some .int) ({ frames := 0, cells := 0, slots := 0, locals := 0 } : Room) P K I0 O J0 a0 [] := by
  obtain ⟨⟨z, I'⟩, e, q1, q2, q3⟩ := s_Mo_where (N := 2147483648) (J0 := J0) (Nat.le_refl _) hV h0 (Q := fun w => IV P K w.2 O ∧ FR frM2 K I0 J0 w.2 J0 ∧ ((w.2 a0 6).toInt = (I0 a0 6).toInt ∧ (w.2 a0 18).toInt = (I0 a0 18).toInt ∧ (w.2 (rf O a0 16) 27).toInt = (I0 (rf O a0 16) 27).toInt)) (fun z I_ h1 h2 h3 => ⟨h1, h2, h3⟩)
  exact ⟨z, I', J0, f_Mo_where hV.1 h0 e, q1, q2, hR.keep q2 rfl q3, q3.1⟩
set_option maxRecDepth 100000 in
theorem d_RM_set {P : List Nat} {K : Nat → Nat} {O : WO} {I0 : WI} {J0 : WJ} (hV : IV P K I0 O) {a0 : Nat} (h0 : a0 ∈ P ∧ K a0 = 8) {x1 : Int32} {x2 : Int32} {x3 : Int32} : DC yRM_set bRM_set 4 (some .boolean) ({ frames := 1, cells := 0, slots := 0, locals := 21 } : Room) P K I0 O J0 a0 [.int x1, .int x2, .int x3] := by
  obtain ⟨⟨z, I'⟩, e, q1, q2, q3⟩ := s_RM_set (N := 2147483648) (J0 := J0) (Nat.le_refl _) hV h0 (Q := fun w => IV P K w.2 O ∧ FR frK K I0 J0 w.2 J0 ∧ True) (fun z I_ h1 h2 _ h3 => ⟨h1, h2, h3⟩)
  exact ⟨z, I', J0, f_RM_set hV.1 h0 e, q1, q2⟩
set_option maxRecDepth 100000 in
theorem d_Mo_set {P : List Nat} {K : Nat → Nat} {O : WO} {I0 : WI} {J0 : WJ} (hV : IV P K I0 O) {a0 : Nat} (h0 : a0 ∈ P ∧ K a0 = 10) (hR : RS P K I0 O a0) {x1 : Int32} {x2 : Int32} {x3 : Int32} : DM yMo_set bMo_set 4 (some .boolean) ({ frames := 1, cells := 0, slots := 0, locals := 22 } : Room) P K I0 O J0 a0 [.int x1, .int x2, .int x3] := by
  rcases hR.1 with hMn | ⟨hN3, hGM⟩
  · skip
    obtain ⟨⟨z, I'⟩, e, q1, q2, q3⟩ := s_Mo_set_Z (N := 2147483648) (J0 := J0) (Nat.le_refl _) hV h0 hMn (Q := fun w => IV P K w.2 O ∧ FR frM2 K I0 J0 w.2 J0 ∧ ((w.2 a0 6).toInt = (I0 a0 6).toInt ∧ (w.2 a0 18).toInt = (I0 a0 18).toInt ∧ (w.2 (rf O a0 16) 27).toInt = (I0 (rf O a0 16) 27).toInt)) (fun z I_ h1 h2 _ h3 => ⟨h1, h2, h3⟩)
    exact ⟨z, I', J0, f_Mo_set hV.1 h0 hR.q3 e, q1, q2, hR.keep q2 rfl q3, q3.1⟩
  · skip
    obtain ⟨⟨z, I'⟩, e, q1, q2, q3⟩ := s_Mo_set_G (N := 2147483648) (J0 := J0) (Nat.le_refl _) hV h0 hN3 hGM (Q := fun w => IV P K w.2 O ∧ FR frM2 K I0 J0 w.2 J0 ∧ ((w.2 a0 6).toInt = (I0 a0 6).toInt ∧ (w.2 a0 18).toInt = (I0 a0 18).toInt ∧ (w.2 (rf O a0 16) 27).toInt = (I0 (rf O a0 16) 27).toInt)) (fun z I_ h1 h2 _ h3 => ⟨h1, h2, h3⟩)
    exact ⟨z, I', J0, f_Mo_set hV.1 h0 hR.q3 e, q1, q2, hR.keep q2 rfl q3, q3.1⟩
set_option maxRecDepth 100000 in
theorem d_RM_mend {P : List Nat} {K : Nat → Nat} {O : WO} {I0 : WI} {J0 : WJ} (hV : IV P K I0 O) {a0 : Nat} (h0 : a0 ∈ P ∧ K a0 = 8) {x1 : Int32} {x2 : Int32} : DC yRM_mend bRM_mend 3 (some .boolean) ({ frames := 1, cells := 0, slots := 0, locals := 21 } : Room) P K I0 O J0 a0 [.int x1, .int x2] := by
  obtain ⟨⟨z, I'⟩, e, q1, q2, q3⟩ := s_RM_mend (N := 2147483648) (J0 := J0) (Nat.le_refl _) hV h0 (Q := fun w => IV P K w.2 O ∧ FR frK K I0 J0 w.2 J0 ∧ True) (fun z I_ h1 h2 _ h3 => ⟨h1, h2, h3⟩)
  exact ⟨z, I', J0, f_RM_mend hV.1 h0 e, q1, q2⟩
set_option maxRecDepth 100000 in
theorem d_Mo_mend {P : List Nat} {K : Nat → Nat} {O : WO} {I0 : WI} {J0 : WJ} (hV : IV P K I0 O) {a0 : Nat} (h0 : a0 ∈ P ∧ K a0 = 10) (hR : RS P K I0 O a0) {x1 : Int32} {x2 : Int32} : DM yMo_mend bMo_mend 3 (some .boolean) ({ frames := 1, cells := 0, slots := 0, locals := 22 } : Room) P K I0 O J0 a0 [.int x1, .int x2] := by
  rcases hR.1 with hMn | ⟨hN3, hGM⟩
  · skip
    obtain ⟨⟨z, I'⟩, e, q1, q2, q3⟩ := s_Mo_mend_Z (N := 2147483648) (J0 := J0) (Nat.le_refl _) hV h0 hMn (Q := fun w => IV P K w.2 O ∧ FR frM2 K I0 J0 w.2 J0 ∧ ((w.2 a0 6).toInt = (I0 a0 6).toInt ∧ (w.2 a0 18).toInt = (I0 a0 18).toInt ∧ (w.2 (rf O a0 16) 27).toInt = (I0 (rf O a0 16) 27).toInt)) (fun z I_ h1 h2 _ h3 => ⟨h1, h2, h3⟩)
    exact ⟨z, I', J0, f_Mo_mend hV.1 h0 hR.q3 e, q1, q2, hR.keep q2 rfl q3, q3.1⟩
  · skip
    obtain ⟨⟨z, I'⟩, e, q1, q2, q3⟩ := s_Mo_mend_G (N := 2147483648) (J0 := J0) (Nat.le_refl _) hV h0 hN3 hGM (Q := fun w => IV P K w.2 O ∧ FR frM2 K I0 J0 w.2 J0 ∧ ((w.2 a0 6).toInt = (I0 a0 6).toInt ∧ (w.2 a0 18).toInt = (I0 a0 18).toInt ∧ (w.2 (rf O a0 16) 27).toInt = (I0 (rf O a0 16) 27).toInt)) (fun z I_ h1 h2 _ h3 => ⟨h1, h2, h3⟩)
    exact ⟨z, I', J0, f_Mo_mend hV.1 h0 hR.q3 e, q1, q2, hR.keep q2 rfl q3, q3.1⟩
set_option maxRecDepth 100000 in
theorem d_RM_go {P : List Nat} {K : Nat → Nat} {O : WO} {I0 : WI} {J0 : WJ} (hV : IV P K I0 O) {a0 : Nat} (h0 : a0 ∈ P ∧ K a0 = 8) {x1 : Int32} : DC yRM_go bRM_go 5 (some .int) ({ frames := 4, cells := 0, slots := 0, locals := 87 } : Room) P K I0 O J0 a0 [.int x1] := by
  obtain ⟨⟨z, I'⟩, e, q1, q2, q3⟩ := s_RM_go (N := 2147483648) (J0 := J0) (Nat.le_refl _) hV h0 (Q := fun w => IV P K w.2 O ∧ FR frK K I0 J0 w.2 J0 ∧ True) (fun z I_ h1 h2 h3 => ⟨h1, h2, h3⟩)
  exact ⟨z, I', J0, f_RM_go hV.1 h0 e, q1, q2⟩
set_option maxRecDepth 100000 in
theorem d_Mo_go {P : List Nat} {K : Nat → Nat} {O : WO} {I0 : WI} {J0 : WJ} (hV : IV P K I0 O) {a0 : Nat} (h0 : a0 ∈ P ∧ K a0 = 10) (hR : RS P K I0 O a0) {x1 : Int32} : DM yMo_go bMo_go 4 (some .int) ({ frames := 3, cells := 0, slots := 0, locals := 75 } : Room) P K I0 O J0 a0 [.int x1] := by
  rcases hR.1 with hMn | ⟨hN3, hGM⟩
  · skip
    obtain ⟨⟨z, I'⟩, e, q1, q2, q3⟩ := s_Mo_go_Z (N := 2147483648) (J0 := J0) (Nat.le_refl _) hV h0 hMn (Q := fun w => IV P K w.2 O ∧ FR frM2 K I0 J0 w.2 J0 ∧ ((w.2 a0 6).toInt = (I0 a0 6).toInt ∧ (w.2 a0 18).toInt = (I0 a0 18).toInt ∧ (w.2 (rf O a0 16) 27).toInt = (I0 (rf O a0 16) 27).toInt)) (fun z I_ h1 h2 h3 => ⟨h1, h2, h3⟩)
    exact ⟨z, I', J0, f_Mo_go hV.1 h0 hR.q3 e, q1, q2, hR.keep q2 rfl q3, q3.1⟩
  · skip
    obtain ⟨⟨z, I'⟩, e, q1, q2, q3⟩ := s_Mo_go_G (N := 2147483648) (J0 := J0) (Nat.le_refl _) hV h0 hN3 hGM hR.2 (Q := fun w => IV P K w.2 O ∧ FR frM2 K I0 J0 w.2 J0 ∧ (0 ≤ Int32.toInt (w.2 a0 18) ∧ Int32.toInt (w.2 a0 18) ≤ Int32.toInt (w.2 (rf O a0 16) 27) ∧ Int32.toInt (w.2 a0 6) = Int32.toInt (I0 a0 6))) (fun z I_ h1 h2 h3 => ⟨h1, h2, h3⟩)
    exact ⟨z, I', J0, f_Mo_go hV.1 h0 hR.q3 e, q1, q2, hR.keep1 q2 rfl ⟨q3.1, q3.2.1⟩, q3.2.2⟩
set_option maxRecDepth 100000 in
theorem d_RM_tons {P : List Nat} {K : Nat → Nat} {O : WO} {I0 : WI} {J0 : WJ} (hV : IV P K I0 O) {a0 : Nat} (h0 : a0 ∈ P ∧ K a0 = 8) {x1 : Int32} {x2 : Int32} : DC yRM_tons bRM_tons 3 (some .int) ({ frames := 1, cells := 0, slots := 0, locals := 21 } : Room) P K I0 O J0 a0 [.int x1, .int x2] := by
  obtain ⟨z, e, q3⟩ := s_RM_tons (N := 2147483648) (J0 := J0) (Nat.le_refl _) hV h0 (Q := fun w => True) (fun z h3 => h3)
  exact ⟨z, I0, J0, f_RM_tons hV.1 h0 e, hV, FR.rf⟩
set_option maxRecDepth 100000 in
theorem d_Mo_tons {P : List Nat} {K : Nat → Nat} {O : WO} {I0 : WI} {J0 : WJ} (hV : IV P K I0 O) {a0 : Nat} (h0 : a0 ∈ P ∧ K a0 = 10) (hR : RS P K I0 O a0) {x1 : Int32} {x2 : Int32} : DM yMo_tons bMo_tons 3 (some .int) ({ frames := 1, cells := 0, slots := 0, locals := 22 } : Room) P K I0 O J0 a0 [.int x1, .int x2] := by
  rcases hR.1 with hMn | ⟨hN3, hGM⟩
  · skip
    obtain ⟨⟨z, I'⟩, e, q1, q2, q3⟩ := s_Mo_tons_Z (N := 2147483648) (J0 := J0) (Nat.le_refl _) hV h0 hMn (Q := fun w => IV P K w.2 O ∧ FR frM2 K I0 J0 w.2 J0 ∧ ((w.2 a0 6).toInt = (I0 a0 6).toInt ∧ (w.2 a0 18).toInt = (I0 a0 18).toInt ∧ (w.2 (rf O a0 16) 27).toInt = (I0 (rf O a0 16) 27).toInt)) (fun z I_ h1 h2 h3 => ⟨h1, h2, h3⟩)
    exact ⟨z, I', J0, f_Mo_tons hV.1 h0 hR.q3 e, q1, q2, hR.keep q2 rfl q3, q3.1⟩
  · skip
    obtain ⟨⟨z, I'⟩, e, q1, q2, q3⟩ := s_Mo_tons_G (N := 2147483648) (J0 := J0) (Nat.le_refl _) hV h0 hN3 hGM (Q := fun w => IV P K w.2 O ∧ FR frM2 K I0 J0 w.2 J0 ∧ ((w.2 a0 6).toInt = (I0 a0 6).toInt ∧ (w.2 a0 18).toInt = (I0 a0 18).toInt ∧ (w.2 (rf O a0 16) 27).toInt = (I0 (rf O a0 16) 27).toInt)) (fun z I_ h1 h2 h3 => ⟨h1, h2, h3⟩)
    exact ⟨z, I', J0, f_Mo_tons hV.1 h0 hR.q3 e, q1, q2, hR.keep q2 rfl q3, q3.1⟩
set_option maxRecDepth 100000 in
theorem d_RM_state {P : List Nat} {K : Nat → Nat} {O : WO} {I0 : WI} {J0 : WJ} (hV : IV P K I0 O) {a0 : Nat} (h0 : a0 ∈ P ∧ K a0 = 8) {x1 : Int32} : DC yRM_state bRM_state 2 (some .int) ({ frames := 0, cells := 0, slots := 0, locals := 0 } : Room) P K I0 O J0 a0 [.int x1] := by
  obtain ⟨z, e, q3⟩ := s_RM_state (N := 2147483648) (J0 := J0) (Nat.le_refl _) hV h0 (Q := fun w => True) (fun z h3 => h3)
  exact ⟨z, I0, J0, f_RM_state hV.1 h0 e, hV, FR.rf⟩
set_option maxRecDepth 100000 in
theorem d_Mo_state {P : List Nat} {K : Nat → Nat} {O : WO} {I0 : WI} {J0 : WJ} (hV : IV P K I0 O) {a0 : Nat} (h0 : a0 ∈ P ∧ K a0 = 10) (hR : RS P K I0 O a0) {x1 : Int32} : DM yMo_state bMo_state 2 (some .int) ({ frames := 1, cells := 0, slots := 0, locals := 22 } : Room) P K I0 O J0 a0 [.int x1] := by
  obtain ⟨⟨z, I'⟩, e, q1, q2, q3⟩ := s_Mo_state (N := 2147483648) (J0 := J0) (Nat.le_refl _) hV h0 (Q := fun w => IV P K w.2 O ∧ FR frM2 K I0 J0 w.2 J0 ∧ ((w.2 a0 6).toInt = (I0 a0 6).toInt ∧ (w.2 a0 18).toInt = (I0 a0 18).toInt ∧ (w.2 (rf O a0 16) 27).toInt = (I0 (rf O a0 16) 27).toInt)) (fun z I_ h1 h2 h3 => ⟨h1, h2, h3⟩)
  exact ⟨z, I', J0, f_Mo_state hV.1 h0 e, q1, q2, hR.keep q2 rfl q3, q3.1⟩
set_option maxRecDepth 100000 in
theorem d_RM_program {P : List Nat} {K : Nat → Nat} {O : WO} {I0 : WI} {J0 : WJ} (hV : IV P K I0 O) {a0 : Nat} (h0 : a0 ∈ P ∧ K a0 = 8) {x1 : Int32} {x2 : Int32} {x3 : Int32} {x4 : Int32} : DC yRM_program bRM_program 5 (some .boolean) ({ frames := 1, cells := 0, slots := 0, locals := 21 } : Room) P K I0 O J0 a0 [.int x1, .int x2, .int x3, .int x4] := by
  obtain ⟨⟨z, I'⟩, e, q1, q2, q3⟩ := s_RM_program (N := 2147483648) (J0 := J0) (Nat.le_refl _) hV h0 (Q := fun w => IV P K w.2 O ∧ FR frK K I0 J0 w.2 J0 ∧ True) (fun z I_ h1 h2 _ h3 => ⟨h1, h2, h3⟩)
  exact ⟨z, I', J0, f_RM_program hV.1 h0 e, q1, q2⟩
set_option maxRecDepth 100000 in
theorem d_Mo_program {P : List Nat} {K : Nat → Nat} {O : WO} {I0 : WI} {J0 : WJ} (hV : IV P K I0 O) {a0 : Nat} (h0 : a0 ∈ P ∧ K a0 = 10) (hR : RS P K I0 O a0) {x1 : Int32} {x2 : Int32} {x3 : Int32} {x4 : Int32} : DM yMo_program bMo_program 5 (some .boolean) ({ frames := 1, cells := 0, slots := 0, locals := 22 } : Room) P K I0 O J0 a0 [.int x1, .int x2, .int x3, .int x4] := by
  rcases hR.1 with hMn | ⟨hN3, hGM⟩
  · skip
    obtain ⟨⟨z, I'⟩, e, q1, q2, q3⟩ := s_Mo_program_Z (N := 2147483648) (J0 := J0) (Nat.le_refl _) hV h0 hMn (Q := fun w => IV P K w.2 O ∧ FR frM2 K I0 J0 w.2 J0 ∧ ((w.2 a0 6).toInt = (I0 a0 6).toInt ∧ (w.2 a0 18).toInt = (I0 a0 18).toInt ∧ (w.2 (rf O a0 16) 27).toInt = (I0 (rf O a0 16) 27).toInt)) (fun z I_ h1 h2 _ h3 => ⟨h1, h2, h3⟩)
    exact ⟨z, I', J0, f_Mo_program hV.1 h0 hR.q3 e, q1, q2, hR.keep q2 rfl q3, q3.1⟩
  · skip
    obtain ⟨⟨z, I'⟩, e, q1, q2, q3⟩ := s_Mo_program_G (N := 2147483648) (J0 := J0) (Nat.le_refl _) hV h0 hN3 hGM (Q := fun w => IV P K w.2 O ∧ FR frM2 K I0 J0 w.2 J0 ∧ ((w.2 a0 6).toInt = (I0 a0 6).toInt ∧ (w.2 a0 18).toInt = (I0 a0 18).toInt ∧ (w.2 (rf O a0 16) 27).toInt = (I0 (rf O a0 16) 27).toInt)) (fun z I_ h1 h2 _ h3 => ⟨h1, h2, h3⟩)
    exact ⟨z, I', J0, f_Mo_program hV.1 h0 hR.q3 e, q1, q2, hR.keep q2 rfl q3, q3.1⟩
set_option maxRecDepth 100000 in
theorem d_RM_seen {P : List Nat} {K : Nat → Nat} {O : WO} {I0 : WI} {J0 : WJ} (hV : IV P K I0 O) {a0 : Nat} (h0 : a0 ∈ P ∧ K a0 = 8) {x1 : Int32} {x2 : Int32} {x3 : Int32} {x4 : Int32} : DC yRM_seen bRM_seen 5 (some .int) ({ frames := 1, cells := 0, slots := 0, locals := 24 } : Room) P K I0 O J0 a0 [.int x1, .int x2, .int x3, .int x4] := by
  obtain ⟨⟨z, I'⟩, e, q1, q2, q3⟩ := s_RM_seen (N := 2147483648) (J0 := J0) (Nat.le_refl _) hV h0 (Q := fun w => IV P K w.2 O ∧ FR frK K I0 J0 w.2 J0 ∧ True) (fun z I_ h1 h2 h3 => ⟨h1, h2, h3⟩)
  exact ⟨z, I', J0, f_RM_seen hV.1 h0 e, q1, q2⟩
set_option maxRecDepth 100000 in
theorem d_Mo_seen {P : List Nat} {K : Nat → Nat} {O : WO} {I0 : WI} {J0 : WJ} (hV : IV P K I0 O) {a0 : Nat} (h0 : a0 ∈ P ∧ K a0 = 10) (hR : RS P K I0 O a0) {x1 : Int32} {x2 : Int32} {x3 : Int32} {x4 : Int32} : DM yMo_seen bMo_seen 5 (some .int) ({ frames := 2, cells := 0, slots := 0, locals := 44 } : Room) P K I0 O J0 a0 [.int x1, .int x2, .int x3, .int x4] := by
  rcases hR.1 with hMn | ⟨hN3, hGM⟩
  · skip
    obtain ⟨⟨z, I'⟩, e, q1, q2, q3⟩ := s_Mo_seen_Z (N := 2147483648) (J0 := J0) (Nat.le_refl _) hV h0 hMn (Q := fun w => IV P K w.2 O ∧ FR frM2 K I0 J0 w.2 J0 ∧ ((w.2 a0 6).toInt = (I0 a0 6).toInt ∧ (w.2 a0 18).toInt = (I0 a0 18).toInt ∧ (w.2 (rf O a0 16) 27).toInt = (I0 (rf O a0 16) 27).toInt)) (fun z I_ h1 h2 h3 => ⟨h1, h2, h3⟩)
    exact ⟨z, I', J0, f_Mo_seen hV.1 h0 hR.q3 e, q1, q2, hR.keep q2 rfl q3, q3.1⟩
  · skip
    obtain ⟨⟨z, I'⟩, e, q1, q2, q3⟩ := s_Mo_seen_G (N := 2147483648) (J0 := J0) (Nat.le_refl _) hV h0 hN3 hGM (Q := fun w => IV P K w.2 O ∧ FR frM2 K I0 J0 w.2 J0 ∧ ((w.2 a0 6).toInt = (I0 a0 6).toInt ∧ (w.2 a0 18).toInt = (I0 a0 18).toInt ∧ (w.2 (rf O a0 16) 27).toInt = (I0 (rf O a0 16) 27).toInt)) (fun z I_ h1 h2 h3 => ⟨h1, h2, h3⟩)
    exact ⟨z, I', J0, f_Mo_seen hV.1 h0 hR.q3 e, q1, q2, hR.keep q2 rfl q3, q3.1⟩
set_option maxRecDepth 100000 in
theorem d_RM_forget {P : List Nat} {K : Nat → Nat} {O : WO} {I0 : WI} {J0 : WJ} (hV : IV P K I0 O) {a0 : Nat} (h0 : a0 ∈ P ∧ K a0 = 8)  : DC yRM_forget bRM_forget 1 (some .int) ({ frames := 1, cells := 0, slots := 0, locals := 21 } : Room) P K I0 O J0 a0 [] := by
  obtain ⟨⟨z, I'⟩, e, q1, q2, q3⟩ := s_RM_forget (N := 2147483648) (J0 := J0) (Nat.le_refl _) hV h0 (Q := fun w => IV P K w.2 O ∧ FR frK K I0 J0 w.2 J0 ∧ True) (fun z I_ h1 h2 h3 => ⟨h1, h2, h3⟩)
  exact ⟨z, I', J0, f_RM_forget hV.1 h0 e, q1, q2⟩
set_option maxRecDepth 100000 in
theorem d_Mo_forget {P : List Nat} {K : Nat → Nat} {O : WO} {I0 : WI} {J0 : WJ} (hV : IV P K I0 O) {a0 : Nat} (h0 : a0 ∈ P ∧ K a0 = 10) (hR : RS P K I0 O a0)  : DM yMo_forget bMo_forget 2 (some .int) ({ frames := 0, cells := 0, slots := 0, locals := 0 } : Room) P K I0 O J0 a0 [] := by
  obtain ⟨⟨z, I'⟩, e, q1, q2, q3⟩ := s_Mo_forget (N := 2147483648) (J0 := J0) (Nat.le_refl _) hV h0 (Q := fun w => IV P K w.2 O ∧ FR frM2 K I0 J0 w.2 J0 ∧ ((w.2 a0 6).toInt = (I0 a0 6).toInt ∧ (w.2 a0 18).toInt = (I0 a0 18).toInt ∧ (w.2 (rf O a0 16) 27).toInt = (I0 (rf O a0 16) 27).toInt)) (fun z I_ h1 h2 h3 => ⟨h1, h2, h3⟩)
  exact ⟨z, I', J0, f_Mo_forget hV.1 h0 e, q1, q2, hR.keep q2 rfl q3, q3.1⟩
set_option maxRecDepth 100000 in
theorem d_RM_fits {P : List Nat} {K : Nat → Nat} {O : WO} {I0 : WI} {J0 : WJ} (hV : IV P K I0 O) {a0 : Nat} (h0 : a0 ∈ P ∧ K a0 = 8)  : DC yRM_fits bRM_fits 1 (some .int) ({ frames := 7, cells := 0, slots := 0, locals := 156 } : Room) P K I0 O J0 a0 [] := by
  obtain ⟨⟨z, I'⟩, e, q1, q2, q3⟩ := s_RM_fits (N := 2147483648) (J0 := J0) (Nat.le_refl _) hV h0 (Q := fun w => IV P K w.2 O ∧ FR frK K I0 J0 w.2 J0 ∧ True) (fun z I_ h1 h2 h3 => ⟨h1, h2, h3⟩)
  exact ⟨z, I', J0, f_RM_fits hV.1 h0 e, q1, q2⟩
set_option maxRecDepth 100000 in
theorem d_Mo_fits {P : List Nat} {K : Nat → Nat} {O : WO} {I0 : WI} {J0 : WJ} (hV : IV P K I0 O) {a0 : Nat} (h0 : a0 ∈ P ∧ K a0 = 10) (hR : RS P K I0 O a0)  : DM yMo_fits bMo_fits 1 (some .int) ({ frames := 6, cells := 0, slots := 0, locals := 147 } : Room) P K I0 O J0 a0 [] := by
  rcases hR.1 with hMn | ⟨hN3, hGM⟩
  · skip
    obtain ⟨⟨z, I'⟩, e, q1, q2, q3⟩ := s_Mo_fits_Z (N := 2147483648) (J0 := J0) (Nat.le_refl _) hV h0 hMn (Q := fun w => IV P K w.2 O ∧ FR frM2 K I0 J0 w.2 J0 ∧ ((w.2 a0 6).toInt = (I0 a0 6).toInt ∧ (w.2 a0 18).toInt = (I0 a0 18).toInt ∧ (w.2 (rf O a0 16) 27).toInt = (I0 (rf O a0 16) 27).toInt)) (fun z I_ h1 h2 h3 => ⟨h1, h2, h3⟩)
    exact ⟨z, I', J0, f_Mo_fits hV.1 h0 hR.q3 e, q1, q2, hR.keep q2 rfl q3, q3.1⟩
  · skip
    obtain ⟨⟨z, I'⟩, e, q1, q2, q3⟩ := s_Mo_fits_G (N := 2147483648) (J0 := J0) (Nat.le_refl _) hV h0 hN3 hGM (Q := fun w => IV P K w.2 O ∧ FR frM2 K I0 J0 w.2 J0 ∧ ((w.2 a0 6).toInt = (I0 a0 6).toInt ∧ (w.2 a0 18).toInt = (I0 a0 18).toInt ∧ (w.2 (rf O a0 16) 27).toInt = (I0 (rf O a0 16) 27).toInt)) (fun z I_ h1 h2 h3 => ⟨h1, h2, h3⟩)
    exact ⟨z, I', J0, f_Mo_fits hV.1 h0 hR.q3 e, q1, q2, hR.keep q2 rfl q3, q3.1⟩
set_option maxRecDepth 100000 in
theorem d_RM_fitAt {P : List Nat} {K : Nat → Nat} {O : WO} {I0 : WI} {J0 : WJ} (hV : IV P K I0 O) {a0 : Nat} (h0 : a0 ∈ P ∧ K a0 = 8) {x1 : Int32} {x2 : Int32} : DC yRM_fitAt bRM_fitAt 3 (some .int) ({ frames := 7, cells := 0, slots := 0, locals := 156 } : Room) P K I0 O J0 a0 [.int x1, .int x2] := by
  obtain ⟨⟨z, I'⟩, e, q1, q2, q3⟩ := s_RM_fitAt (N := 2147483648) (J0 := J0) (Nat.le_refl _) hV h0 (Q := fun w => IV P K w.2 O ∧ FR frK K I0 J0 w.2 J0 ∧ True) (fun z I_ h1 h2 h3 => ⟨h1, h2, h3⟩)
  exact ⟨z, I', J0, f_RM_fitAt hV.1 h0 e, q1, q2⟩
set_option maxRecDepth 100000 in
theorem d_Mo_fitAt {P : List Nat} {K : Nat → Nat} {O : WO} {I0 : WI} {J0 : WJ} (hV : IV P K I0 O) {a0 : Nat} (h0 : a0 ∈ P ∧ K a0 = 10) (hR : RS P K I0 O a0) {x1 : Int32} {x2 : Int32} : DM yMo_fitAt bMo_fitAt 4 (some .int) ({ frames := 6, cells := 0, slots := 0, locals := 147 } : Room) P K I0 O J0 a0 [.int x1, .int x2] := by
  rcases hR.1 with hMn | ⟨hN3, hGM⟩
  · skip
    obtain ⟨⟨z, I'⟩, e, q1, q2, q3⟩ := s_Mo_fitAt_Z (N := 2147483648) (J0 := J0) (Nat.le_refl _) hV h0 hMn (Q := fun w => IV P K w.2 O ∧ FR frM2 K I0 J0 w.2 J0 ∧ ((w.2 a0 6).toInt = (I0 a0 6).toInt ∧ (w.2 a0 18).toInt = (I0 a0 18).toInt ∧ (w.2 (rf O a0 16) 27).toInt = (I0 (rf O a0 16) 27).toInt)) (fun z I_ h1 h2 h3 => ⟨h1, h2, h3⟩)
    exact ⟨z, I', J0, f_Mo_fitAt hV.1 h0 hR.q3 e, q1, q2, hR.keep q2 rfl q3, q3.1⟩
  · skip
    obtain ⟨⟨z, I'⟩, e, q1, q2, q3⟩ := s_Mo_fitAt_G (N := 2147483648) (J0 := J0) (Nat.le_refl _) hV h0 hN3 hGM (Q := fun w => IV P K w.2 O ∧ FR frM2 K I0 J0 w.2 J0 ∧ ((w.2 a0 6).toInt = (I0 a0 6).toInt ∧ (w.2 a0 18).toInt = (I0 a0 18).toInt ∧ (w.2 (rf O a0 16) 27).toInt = (I0 (rf O a0 16) 27).toInt)) (fun z I_ h1 h2 h3 => ⟨h1, h2, h3⟩)
    exact ⟨z, I', J0, f_Mo_fitAt hV.1 h0 hR.q3 e, q1, q2, hR.keep q2 rfl q3, q3.1⟩
set_option maxRecDepth 100000 in
theorem d_RM_certain {P : List Nat} {K : Nat → Nat} {O : WO} {I0 : WI} {J0 : WJ} (hV : IV P K I0 O) {a0 : Nat} (h0 : a0 ∈ P ∧ K a0 = 8) {x1 : Int32} : DC yRM_certain bRM_certain 5 (some .int) ({ frames := 7, cells := 0, slots := 0, locals := 156 } : Room) P K I0 O J0 a0 [.int x1] := by
  obtain ⟨⟨z, I'⟩, e, q1, q2, q3⟩ := s_RM_certain (N := 2147483648) (J0 := J0) (Nat.le_refl _) hV h0 (Q := fun w => IV P K w.2 O ∧ FR frK K I0 J0 w.2 J0 ∧ True) (fun z I_ h1 h2 h3 => ⟨h1, h2, h3⟩)
  exact ⟨z, I', J0, f_RM_certain hV.1 h0 e, q1, q2⟩
set_option maxRecDepth 100000 in
theorem d_Mo_certain {P : List Nat} {K : Nat → Nat} {O : WO} {I0 : WI} {J0 : WJ} (hV : IV P K I0 O) {a0 : Nat} (h0 : a0 ∈ P ∧ K a0 = 10) (hR : RS P K I0 O a0) {x1 : Int32} : DM yMo_certain bMo_certain 4 (some .int) ({ frames := 6, cells := 0, slots := 0, locals := 147 } : Room) P K I0 O J0 a0 [.int x1] := by
  rcases hR.1 with hMn | ⟨hN3, hGM⟩
  · skip
    obtain ⟨⟨z, I'⟩, e, q1, q2, q3⟩ := s_Mo_certain_Z (N := 2147483648) (J0 := J0) (Nat.le_refl _) hV h0 hMn (Q := fun w => IV P K w.2 O ∧ FR frM2 K I0 J0 w.2 J0 ∧ ((w.2 a0 6).toInt = (I0 a0 6).toInt ∧ (w.2 a0 18).toInt = (I0 a0 18).toInt ∧ (w.2 (rf O a0 16) 27).toInt = (I0 (rf O a0 16) 27).toInt)) (fun z I_ h1 h2 h3 => ⟨h1, h2, h3⟩)
    exact ⟨z, I', J0, f_Mo_certain hV.1 h0 hR.q3 e, q1, q2, hR.keep q2 rfl q3, q3.1⟩
  · skip
    obtain ⟨⟨z, I'⟩, e, q1, q2, q3⟩ := s_Mo_certain_G (N := 2147483648) (J0 := J0) (Nat.le_refl _) hV h0 hN3 hGM (Q := fun w => IV P K w.2 O ∧ FR frM2 K I0 J0 w.2 J0 ∧ ((w.2 a0 6).toInt = (I0 a0 6).toInt ∧ (w.2 a0 18).toInt = (I0 a0 18).toInt ∧ (w.2 (rf O a0 16) 27).toInt = (I0 (rf O a0 16) 27).toInt)) (fun z I_ h1 h2 h3 => ⟨h1, h2, h3⟩)
    exact ⟨z, I', J0, f_Mo_certain hV.1 h0 hR.q3 e, q1, q2, hR.keep q2 rfl q3, q3.1⟩
set_option maxRecDepth 100000 in
theorem d_RM_guess {P : List Nat} {K : Nat → Nat} {O : WO} {I0 : WI} {J0 : WJ} (hV : IV P K I0 O) {a0 : Nat} (h0 : a0 ∈ P ∧ K a0 = 8) {x1 : Int32} {x2 : Int32} {x3 : Int32} {x4 : Int32} {x5 : Int32} : DC yRM_guess bRM_guess 7 (some .int) ({ frames := 5, cells := 0, slots := 0, locals := 113 } : Room) P K I0 O J0 a0 [.int x1, .int x2, .int x3, .int x4, .int x5] := by
  obtain ⟨⟨z, I'⟩, e, q1, q2, q3⟩ := s_RM_guess (N := 2147483648) (J0 := J0) (Nat.le_refl _) hV h0 (Q := fun w => IV P K w.2 O ∧ FR frK K I0 J0 w.2 J0 ∧ True) (fun z I_ h1 h2 h3 => ⟨h1, h2, h3⟩)
  exact ⟨z, I', J0, f_RM_guess hV.1 h0 e, q1, q2⟩
set_option maxRecDepth 100000 in
theorem d_Mo_guess {P : List Nat} {K : Nat → Nat} {O : WO} {I0 : WI} {J0 : WJ} (hV : IV P K I0 O) {a0 : Nat} (h0 : a0 ∈ P ∧ K a0 = 10) (hR : RS P K I0 O a0) {x1 : Int32} {x2 : Int32} {x3 : Int32} {x4 : Int32} {x5 : Int32} : DM yMo_guess bMo_guess 7 (some .int) ({ frames := 4, cells := 0, slots := 0, locals := 97 } : Room) P K I0 O J0 a0 [.int x1, .int x2, .int x3, .int x4, .int x5] := by
  rcases hR.1 with hMn | ⟨hN3, hGM⟩
  · skip
    obtain ⟨⟨z, I'⟩, e, q1, q2, q3⟩ := s_Mo_guess_Z (N := 2147483648) (J0 := J0) (Nat.le_refl _) hV h0 hMn (Q := fun w => IV P K w.2 O ∧ FR frM2 K I0 J0 w.2 J0 ∧ ((w.2 a0 6).toInt = (I0 a0 6).toInt ∧ (w.2 a0 18).toInt = (I0 a0 18).toInt ∧ (w.2 (rf O a0 16) 27).toInt = (I0 (rf O a0 16) 27).toInt)) (fun z I_ h1 h2 h3 => ⟨h1, h2, h3⟩)
    exact ⟨z, I', J0, f_Mo_guess_Z hV.1 h0 (Nat.le_refl _) hV hMn hR.q3 e, q1, q2, hR.keep q2 rfl q3, q3.1⟩
  · skip
    obtain ⟨⟨z, I'⟩, e, q1, q2, q3⟩ := s_Mo_guess_G (N := 2147483648) (J0 := J0) (Nat.le_refl _) hV h0 hN3 hGM (Q := fun w => IV P K w.2 O ∧ FR frM2 K I0 J0 w.2 J0 ∧ ((w.2 a0 6).toInt = (I0 a0 6).toInt ∧ (w.2 a0 18).toInt = (I0 a0 18).toInt ∧ (w.2 (rf O a0 16) 27).toInt = (I0 (rf O a0 16) 27).toInt)) (fun z I_ h1 h2 h3 => ⟨h1, h2, h3⟩)
    exact ⟨z, I', J0, f_Mo_guess hV.1 h0 hN3 hR.q3 e, q1, q2, hR.keep q2 rfl q3, q3.1⟩
set_option maxRecDepth 100000 in
theorem d_RM_swapped {P : List Nat} {K : Nat → Nat} {O : WO} {I0 : WI} {J0 : WJ} (hV : IV P K I0 O) {a0 : Nat} (h0 : a0 ∈ P ∧ K a0 = 8)  : DC yRM_swapped bRM_swapped 3 (some .int) ({ frames := 7, cells := 0, slots := 0, locals := 156 } : Room) P K I0 O J0 a0 [] := by
  obtain ⟨⟨z, I'⟩, e, q1, q2, q3⟩ := s_RM_swapped (N := 2147483648) (J0 := J0) (Nat.le_refl _) hV h0 (Q := fun w => IV P K w.2 O ∧ FR frK K I0 J0 w.2 J0 ∧ True) (fun z I_ h1 h2 h3 => ⟨h1, h2, h3⟩)
  exact ⟨z, I', J0, f_RM_swapped hV.1 h0 e, q1, q2⟩
set_option maxRecDepth 100000 in
theorem d_Mo_swapped {P : List Nat} {K : Nat → Nat} {O : WO} {I0 : WI} {J0 : WJ} (hV : IV P K I0 O) {a0 : Nat} (h0 : a0 ∈ P ∧ K a0 = 10) (hR : RS P K I0 O a0)  : DM yMo_swapped bMo_swapped 3 (some .int) ({ frames := 6, cells := 0, slots := 0, locals := 147 } : Room) P K I0 O J0 a0 [] := by
  rcases hR.1 with hMn | ⟨hN3, hGM⟩
  · skip
    obtain ⟨⟨z, I'⟩, e, q1, q2, q3⟩ := s_Mo_swapped_Z (N := 2147483648) (J0 := J0) (Nat.le_refl _) hV h0 hMn (Q := fun w => IV P K w.2 O ∧ FR frM2 K I0 J0 w.2 J0 ∧ ((w.2 a0 6).toInt = (I0 a0 6).toInt ∧ (w.2 a0 18).toInt = (I0 a0 18).toInt ∧ (w.2 (rf O a0 16) 27).toInt = (I0 (rf O a0 16) 27).toInt)) (fun z I_ h1 h2 h3 => ⟨h1, h2, h3⟩)
    exact ⟨z, I', J0, f_Mo_swapped hV.1 h0 hR.q3 e, q1, q2, hR.keep q2 rfl q3, q3.1⟩
  · skip
    obtain ⟨⟨z, I'⟩, e, q1, q2, q3⟩ := s_Mo_swapped_G (N := 2147483648) (J0 := J0) (Nat.le_refl _) hV h0 hN3 hGM (Q := fun w => IV P K w.2 O ∧ FR frM2 K I0 J0 w.2 J0 ∧ ((w.2 a0 6).toInt = (I0 a0 6).toInt ∧ (w.2 a0 18).toInt = (I0 a0 18).toInt ∧ (w.2 (rf O a0 16) 27).toInt = (I0 (rf O a0 16) 27).toInt)) (fun z I_ h1 h2 h3 => ⟨h1, h2, h3⟩)
    exact ⟨z, I', J0, f_Mo_swapped hV.1 h0 hR.q3 e, q1, q2, hR.keep q2 rfl q3, q3.1⟩
set_option maxRecDepth 100000 in
theorem d_RM_plan {P : List Nat} {K : Nat → Nat} {O : WO} {I0 : WI} {J0 : WJ} (hV : IV P K I0 O) {a0 : Nat} (h0 : a0 ∈ P ∧ K a0 = 8) {x1 : Int32} : DC yRM_plan bRM_plan 3 (some .int) ({ frames := 13, cells := 0, slots := 0, locals := 320 } : Room) P K I0 O J0 a0 [.int x1] := by
  obtain ⟨⟨z, I'⟩, e, q1, q2, q3⟩ := s_RM_plan (N := 2147483648) (J0 := J0) (Nat.le_refl _) hV h0 (Q := fun w => IV P K w.2 O ∧ FR frK K I0 J0 w.2 J0 ∧ True) (fun z I_ h1 h2 h3 => ⟨h1, h2, h3⟩)
  exact ⟨z, I', J0, f_RM_plan hV.1 h0 e, q1, q2⟩
set_option maxRecDepth 100000 in
theorem d_Mo_plan {P : List Nat} {K : Nat → Nat} {O : WO} {I0 : WI} {J0 : WJ} (hV : IV P K I0 O) {a0 : Nat} (h0 : a0 ∈ P ∧ K a0 = 10) (hR : RS P K I0 O a0) {x1 : Int32} : DM yMo_plan bMo_plan 6 (some .int) ({ frames := 4, cells := 0, slots := 0, locals := 98 } : Room) P K I0 O J0 a0 [.int x1] := by
  rcases hR.1 with hMn | ⟨hN3, hGM⟩
  · skip
    obtain ⟨⟨z, I'⟩, e, q1, q2, q3⟩ := s_Mo_plan_Z (N := 2147483648) (J0 := J0) (Nat.le_refl _) hV h0 hMn (Q := fun w => IV P K w.2 O ∧ FR frM2 K I0 J0 w.2 J0 ∧ ((w.2 a0 6).toInt = (I0 a0 6).toInt ∧ (w.2 a0 18).toInt = (I0 a0 18).toInt ∧ (w.2 (rf O a0 16) 27).toInt = (I0 (rf O a0 16) 27).toInt)) (fun z I_ h1 h2 h3 => ⟨h1, h2, h3⟩)
    exact ⟨z, I', J0, f_Mo_plan hV.1 h0 hR.q3 e, q1, q2, hR.keep q2 rfl q3, q3.1⟩
  · skip
    obtain ⟨⟨z, I'⟩, e, q1, q2, q3⟩ := s_Mo_plan_G (N := 2147483648) (J0 := J0) (Nat.le_refl _) hV h0 hN3 hGM (Q := fun w => IV P K w.2 O ∧ FR frM2 K I0 J0 w.2 J0 ∧ ((w.2 a0 6).toInt = (I0 a0 6).toInt ∧ (w.2 a0 18).toInt = (I0 a0 18).toInt ∧ (w.2 (rf O a0 16) 27).toInt = (I0 (rf O a0 16) 27).toInt)) (fun z I_ h1 h2 h3 => ⟨h1, h2, h3⟩)
    exact ⟨z, I', J0, f_Mo_plan hV.1 h0 hR.q3 e, q1, q2, hR.keep q2 rfl q3, q3.1⟩
set_option maxRecDepth 100000 in
theorem d_RM_rate {P : List Nat} {K : Nat → Nat} {O : WO} {I0 : WI} {J0 : WJ} (hV : IV P K I0 O) {a0 : Nat} (h0 : a0 ∈ P ∧ K a0 = 8) {x1 : Int32} : DC yRM_rate bRM_rate 2 (some .int) ({ frames := 1, cells := 0, slots := 0, locals := 21 } : Room) P K I0 O J0 a0 [.int x1] := by
  obtain ⟨z, e, q3⟩ := s_RM_rate (N := 2147483648) (J0 := J0) (Nat.le_refl _) hV h0 (Q := fun w => True) (fun z h3 => h3)
  exact ⟨z, I0, J0, f_RM_rate hV.1 h0 e, hV, FR.rf⟩
set_option maxRecDepth 100000 in
theorem d_Mo_rate {P : List Nat} {K : Nat → Nat} {O : WO} {I0 : WI} {J0 : WJ} (hV : IV P K I0 O) {a0 : Nat} (h0 : a0 ∈ P ∧ K a0 = 10) (hR : RS P K I0 O a0) {x1 : Int32} : DM yMo_rate bMo_rate 2 (some .int) ({ frames := 0, cells := 0, slots := 0, locals := 0 } : Room) P K I0 O J0 a0 [.int x1] := by
  obtain ⟨⟨z, I'⟩, e, q1, q2, q3⟩ := s_Mo_rate (N := 2147483648) (J0 := J0) (Nat.le_refl _) hV h0 (Q := fun w => IV P K w.2 O ∧ FR frM2 K I0 J0 w.2 J0 ∧ ((w.2 a0 6).toInt = (I0 a0 6).toInt ∧ (w.2 a0 18).toInt = (I0 a0 18).toInt ∧ (w.2 (rf O a0 16) 27).toInt = (I0 (rf O a0 16) 27).toInt)) (fun z I_ h1 h2 h3 => ⟨h1, h2, h3⟩)
  exact ⟨z, I', J0, f_Mo_rate hV.1 h0 e, q1, q2, hR.keep q2 rfl q3, q3.1⟩
set_option maxRecDepth 100000 in
theorem d_RM_rule {P : List Nat} {K : Nat → Nat} {O : WO} {I0 : WI} {J0 : WJ} (hV : IV P K I0 O) {a0 : Nat} (h0 : a0 ∈ P ∧ K a0 = 8) {x1 : Int32} : DC yRM_rule bRM_rule 2 (some .int) ({ frames := 6, cells := 0, slots := 0, locals := 134 } : Room) P K I0 O J0 a0 [.int x1] := by
  obtain ⟨⟨z, I'⟩, e, q1, q2, q3⟩ := s_RM_rule (N := 2147483648) (J0 := J0) (Nat.le_refl _) hV h0 (Q := fun w => IV P K w.2 O ∧ FR frK K I0 J0 w.2 J0 ∧ True) (fun z I_ h1 h2 h3 => ⟨h1, h2, h3⟩)
  exact ⟨z, I', J0, f_RM_rule hV.1 h0 e, q1, q2⟩
set_option maxRecDepth 100000 in
theorem d_Mo_rule {P : List Nat} {K : Nat → Nat} {O : WO} {I0 : WI} {J0 : WJ} (hV : IV P K I0 O) {a0 : Nat} (h0 : a0 ∈ P ∧ K a0 = 10) (hR : RS P K I0 O a0) {x1 : Int32} : DM yMo_rule bMo_rule 2 (some .int) ({ frames := 4, cells := 0, slots := 0, locals := 100 } : Room) P K I0 O J0 a0 [.int x1] := by
  rcases hR.1 with hMn | ⟨hN3, hGM⟩
  · skip
    obtain ⟨⟨z, I'⟩, e, q1, q2, q3⟩ := s_Mo_rule_Z (N := 2147483648) (J0 := J0) (Nat.le_refl _) hV h0 hMn (Q := fun w => IV P K w.2 O ∧ FR frM2 K I0 J0 w.2 J0 ∧ ((w.2 a0 6).toInt = (I0 a0 6).toInt ∧ (w.2 a0 18).toInt = (I0 a0 18).toInt ∧ (w.2 (rf O a0 16) 27).toInt = (I0 (rf O a0 16) 27).toInt)) (fun z I_ h1 h2 h3 => ⟨h1, h2, h3⟩)
    exact ⟨z, I', J0, f_Mo_rule hV.1 h0 hR.q3 e, q1, q2, hR.keep q2 rfl q3, q3.1⟩
  · skip
    obtain ⟨⟨z, I'⟩, e, q1, q2, q3⟩ := s_Mo_rule_G (N := 2147483648) (J0 := J0) (Nat.le_refl _) hV h0 hN3 hGM (Q := fun w => IV P K w.2 O ∧ FR frM2 K I0 J0 w.2 J0 ∧ ((w.2 a0 6).toInt = (I0 a0 6).toInt ∧ (w.2 a0 18).toInt = (I0 a0 18).toInt ∧ (w.2 (rf O a0 16) 27).toInt = (I0 (rf O a0 16) 27).toInt)) (fun z I_ h1 h2 h3 => ⟨h1, h2, h3⟩)
    exact ⟨z, I', J0, f_Mo_rule hV.1 h0 hR.q3 e, q1, q2, hR.keep q2 rfl q3, q3.1⟩
set_option maxRecDepth 100000 in
theorem d_RM_lacks {P : List Nat} {K : Nat → Nat} {O : WO} {I0 : WI} {J0 : WJ} (hV : IV P K I0 O) {a0 : Nat} (h0 : a0 ∈ P ∧ K a0 = 8) {x1 : Int32} : DC yRM_lacks bRM_lacks 2 (some .int) ({ frames := 6, cells := 0, slots := 0, locals := 134 } : Room) P K I0 O J0 a0 [.int x1] := by
  obtain ⟨⟨z, I'⟩, e, q1, q2, q3⟩ := s_RM_lacks (N := 2147483648) (J0 := J0) (Nat.le_refl _) hV h0 (Q := fun w => IV P K w.2 O ∧ FR frK K I0 J0 w.2 J0 ∧ True) (fun z I_ h1 h2 h3 => ⟨h1, h2, h3⟩)
  exact ⟨z, I', J0, f_RM_lacks hV.1 h0 e, q1, q2⟩
set_option maxRecDepth 100000 in
theorem d_Mo_lacks {P : List Nat} {K : Nat → Nat} {O : WO} {I0 : WI} {J0 : WJ} (hV : IV P K I0 O) {a0 : Nat} (h0 : a0 ∈ P ∧ K a0 = 10) (hR : RS P K I0 O a0) {x1 : Int32} : DM yMo_lacks bMo_lacks 2 (some .int) ({ frames := 4, cells := 0, slots := 0, locals := 100 } : Room) P K I0 O J0 a0 [.int x1] := by
  rcases hR.1 with hMn | ⟨hN3, hGM⟩
  · skip
    obtain ⟨⟨z, I'⟩, e, q1, q2, q3⟩ := s_Mo_lacks_Z (N := 2147483648) (J0 := J0) (Nat.le_refl _) hV h0 hMn (Q := fun w => IV P K w.2 O ∧ FR frM2 K I0 J0 w.2 J0 ∧ ((w.2 a0 6).toInt = (I0 a0 6).toInt ∧ (w.2 a0 18).toInt = (I0 a0 18).toInt ∧ (w.2 (rf O a0 16) 27).toInt = (I0 (rf O a0 16) 27).toInt)) (fun z I_ h1 h2 h3 => ⟨h1, h2, h3⟩)
    exact ⟨z, I', J0, f_Mo_lacks hV.1 h0 hR.q3 e, q1, q2, hR.keep q2 rfl q3, q3.1⟩
  · skip
    obtain ⟨⟨z, I'⟩, e, q1, q2, q3⟩ := s_Mo_lacks_G (N := 2147483648) (J0 := J0) (Nat.le_refl _) hV h0 hN3 hGM (Q := fun w => IV P K w.2 O ∧ FR frM2 K I0 J0 w.2 J0 ∧ ((w.2 a0 6).toInt = (I0 a0 6).toInt ∧ (w.2 a0 18).toInt = (I0 a0 18).toInt ∧ (w.2 (rf O a0 16) 27).toInt = (I0 (rf O a0 16) 27).toInt)) (fun z I_ h1 h2 h3 => ⟨h1, h2, h3⟩)
    exact ⟨z, I', J0, f_Mo_lacks hV.1 h0 hR.q3 e, q1, q2, hR.keep q2 rfl q3, q3.1⟩
set_option maxRecDepth 100000 in
theorem d_RM_number {P : List Nat} {K : Nat → Nat} {O : WO} {I0 : WI} {J0 : WJ} (hV : IV P K I0 O) {a0 : Nat} (h0 : a0 ∈ P ∧ K a0 = 8) {x1 : Int32} {x2 : Int32} : DC yRM_number bRM_number 3 (some .int) ({ frames := 2, cells := 0, slots := 0, locals := 43 } : Room) P K I0 O J0 a0 [.int x1, .int x2] := by
  obtain ⟨⟨z, I'⟩, e, q1, q2, q3⟩ := s_RM_number (N := 2147483648) (J0 := J0) (Nat.le_refl _) hV h0 (Q := fun w => IV P K w.2 O ∧ FR frK K I0 J0 w.2 J0 ∧ True) (fun z I_ h1 h2 h3 => ⟨h1, h2, h3⟩)
  exact ⟨z, I', J0, f_RM_number hV.1 h0 e, q1, q2⟩
set_option maxRecDepth 100000 in
theorem d_Mo_number {P : List Nat} {K : Nat → Nat} {O : WO} {I0 : WI} {J0 : WJ} (hV : IV P K I0 O) {a0 : Nat} (h0 : a0 ∈ P ∧ K a0 = 10) (hR : RS P K I0 O a0) {x1 : Int32} {x2 : Int32} : DM yMo_number bMo_number 4 (some .int) ({ frames := 1, cells := 0, slots := 0, locals := 22 } : Room) P K I0 O J0 a0 [.int x1, .int x2] := by
  rcases hR.1 with hMn | ⟨hN3, hGM⟩
  · skip
    obtain ⟨⟨z, I'⟩, e, q1, q2, q3⟩ := s_Mo_number_Z (N := 2147483648) (J0 := J0) (Nat.le_refl _) hV h0 hMn (Q := fun w => IV P K w.2 O ∧ FR frM2 K I0 J0 w.2 J0 ∧ ((w.2 a0 6).toInt = (I0 a0 6).toInt ∧ (w.2 a0 18).toInt = (I0 a0 18).toInt ∧ (w.2 (rf O a0 16) 27).toInt = (I0 (rf O a0 16) 27).toInt)) (fun z I_ h1 h2 h3 => ⟨h1, h2, h3⟩)
    exact ⟨z, I', J0, f_Mo_number hV.1 h0 hR.q3 e, q1, q2, hR.keep q2 rfl q3, q3.1⟩
  · skip
    obtain ⟨⟨z, I'⟩, e, q1, q2, q3⟩ := s_Mo_number_G (N := 2147483648) (J0 := J0) (Nat.le_refl _) hV h0 hN3 hGM (Q := fun w => IV P K w.2 O ∧ FR frM2 K I0 J0 w.2 J0 ∧ ((w.2 a0 6).toInt = (I0 a0 6).toInt ∧ (w.2 a0 18).toInt = (I0 a0 18).toInt ∧ (w.2 (rf O a0 16) 27).toInt = (I0 (rf O a0 16) 27).toInt)) (fun z I_ h1 h2 h3 => ⟨h1, h2, h3⟩)
    exact ⟨z, I', J0, f_Mo_number hV.1 h0 hR.q3 e, q1, q2, hR.keep q2 rfl q3, q3.1⟩
set_option maxRecDepth 100000 in
theorem d_RM_chance {P : List Nat} {K : Nat → Nat} {O : WO} {I0 : WI} {J0 : WJ} (hV : IV P K I0 O) {a0 : Nat} (h0 : a0 ∈ P ∧ K a0 = 8)  : DC yRM_chance bRM_chance 1 (some .int) ({ frames := 20, cells := 0, slots := 0, locals := 478 } : Room) P K I0 O J0 a0 [] := by
  obtain ⟨⟨z, I'⟩, e, q1, q2, q3⟩ := s_RM_chance (N := 2147483648) (J0 := J0) (Nat.le_refl _) hV h0 (Q := fun w => IV P K w.2 O ∧ FR frK K I0 J0 w.2 J0 ∧ True) (fun z I_ h1 h2 h3 => ⟨h1, h2, h3⟩)
  exact ⟨z, I', J0, f_RM_chance hV.1 h0 e, q1, q2⟩
set_option maxRecDepth 100000 in
theorem d_Mo_chance {P : List Nat} {K : Nat → Nat} {O : WO} {I0 : WI} {J0 : WJ} (hV : IV P K I0 O) {a0 : Nat} (h0 : a0 ∈ P ∧ K a0 = 10) (hR : RS P K I0 O a0)  : DM yMo_chance bMo_chance 3 (some .int) ({ frames := 2, cells := 0, slots := 0, locals := 48 } : Room) P K I0 O J0 a0 [] := by
  obtain ⟨⟨z, I'⟩, e, q1, q2, q3⟩ := s_Mo_chance (N := 2147483648) (J0 := J0) (Nat.le_refl _) hV h0 (Q := fun w => IV P K w.2 O ∧ FR frM2 K I0 J0 w.2 J0 ∧ ((w.2 a0 6).toInt = (I0 a0 6).toInt ∧ (w.2 a0 18).toInt = (I0 a0 18).toInt ∧ (w.2 (rf O a0 16) 27).toInt = (I0 (rf O a0 16) 27).toInt)) (fun z I_ h1 h2 h3 => ⟨h1, h2, h3⟩)
  exact ⟨z, I', J0, f_Mo_chance hV.1 h0 e, q1, q2, hR.keep q2 rfl q3, q3.1⟩
set_option maxRecDepth 100000 in
theorem d_RM_splits {P : List Nat} {K : Nat → Nat} {O : WO} {I0 : WI} {J0 : WJ} (hV : IV P K I0 O) {a0 : Nat} (h0 : a0 ∈ P ∧ K a0 = 8)  : DC yRM_splits bRM_splits 1 (some .int) ({ frames := 1, cells := 0, slots := 0, locals := 23 } : Room) P K I0 O J0 a0 [] := by
  obtain ⟨⟨z, I'⟩, e, q1, q2, q3⟩ := s_RM_splits (N := 2147483648) (J0 := J0) (Nat.le_refl _) hV h0 (Q := fun w => IV P K w.2 O ∧ FR frK K I0 J0 w.2 J0 ∧ True) (fun z I_ h1 h2 h3 => ⟨h1, h2, h3⟩)
  exact ⟨z, I', J0, f_RM_splits hV.1 h0 e, q1, q2⟩
set_option maxRecDepth 100000 in
theorem d_Mo_splits {P : List Nat} {K : Nat → Nat} {O : WO} {I0 : WI} {J0 : WJ} (hV : IV P K I0 O) {a0 : Nat} (h0 : a0 ∈ P ∧ K a0 = 10) (hR : RS P K I0 O a0)  : DM yMo_splits bMo_splits 1 (some .int) ({ frames := 2, cells := 0, slots := 0, locals := 48 } : Room) P K I0 O J0 a0 [] := by
  obtain ⟨⟨z, I'⟩, e, q1, q2, q3⟩ := s_Mo_splits (N := 2147483648) (J0 := J0) (Nat.le_refl _) hV h0 (Q := fun w => IV P K w.2 O ∧ FR frM2 K I0 J0 w.2 J0 ∧ ((w.2 a0 6).toInt = (I0 a0 6).toInt ∧ (w.2 a0 18).toInt = (I0 a0 18).toInt ∧ (w.2 (rf O a0 16) 27).toInt = (I0 (rf O a0 16) 27).toInt)) (fun z I_ h1 h2 h3 => ⟨h1, h2, h3⟩)
  exact ⟨z, I', J0, f_Mo_splits hV.1 h0 e, q1, q2, hR.keep q2 rfl q3, q3.1⟩
set_option maxRecDepth 100000 in
theorem d_RM_clear {P : List Nat} {K : Nat → Nat} {O : WO} {I0 : WI} {J0 : WJ} (hV : IV P K I0 O) {a0 : Nat} (h0 : a0 ∈ P ∧ K a0 = 8)  : DC yRM_clear bRM_clear 1 (some .int) ({ frames := 1, cells := 0, slots := 0, locals := 21 } : Room) P K I0 O J0 a0 [] := by
  obtain ⟨⟨z, I'⟩, e, q1, q2, q3⟩ := s_RM_clear (N := 2147483648) (J0 := J0) (Nat.le_refl _) hV h0 (Q := fun w => IV P K w.2 O ∧ FR frK K I0 J0 w.2 J0 ∧ True) (fun z I_ h1 h2 h3 => ⟨h1, h2, h3⟩)
  exact ⟨z, I', J0, f_RM_clear hV.1 h0 e, q1, q2⟩
set_option maxRecDepth 100000 in
theorem d_Mo_clear {P : List Nat} {K : Nat → Nat} {O : WO} {I0 : WI} {J0 : WJ} (hV : IV P K I0 O) {a0 : Nat} (h0 : a0 ∈ P ∧ K a0 = 10) (hR : RS P K I0 O a0)  : DM yMo_clear bMo_clear 2 (some .int) ({ frames := 0, cells := 0, slots := 0, locals := 0 } : Room) P K I0 O J0 a0 [] := by
  obtain ⟨⟨z, I'⟩, e, q1, q2, q3⟩ := s_Mo_clear (N := 2147483648) (J0 := J0) (Nat.le_refl _) hV h0 (Q := fun w => IV P K w.2 O ∧ FR frM2 K I0 J0 w.2 J0 ∧ ((w.2 a0 6).toInt = (I0 a0 6).toInt ∧ (w.2 a0 18).toInt = (I0 a0 18).toInt ∧ (w.2 (rf O a0 16) 27).toInt = (I0 (rf O a0 16) 27).toInt)) (fun z I_ h1 h2 h3 => ⟨h1, h2, h3⟩)
  exact ⟨z, I', J0, f_Mo_clear hV.1 h0 e, q1, q2, hR.keep q2 rfl q3, q3.1⟩
set_option maxRecDepth 100000 in
theorem d_RM_marks {P : List Nat} {K : Nat → Nat} {O : WO} {I0 : WI} {J0 : WJ} (hV : IV P K I0 O) {a0 : Nat} (h0 : a0 ∈ P ∧ K a0 = 8) {x1 : Int32} {x2 : Int32} {x3 : Int32} {x4 : Int32} {x5 : Int32} {x6 : Int32} : DC yRM_marks bRM_marks 9 (some .int) ({ frames := 4, cells := 0, slots := 0, locals := 87 } : Room) P K I0 O J0 a0 [.int x1, .int x2, .int x3, .int x4, .int x5, .int x6] := by
  obtain ⟨⟨z, I'⟩, e, q1, q2, q3⟩ := s_RM_marks (N := 2147483648) (J0 := J0) (Nat.le_refl _) hV h0 (Q := fun w => IV P K w.2 O ∧ FR frK K I0 J0 w.2 J0 ∧ True) (fun z I_ h1 h2 h3 => ⟨h1, h2, h3⟩)
  exact ⟨z, I', J0, f_RM_marks hV.1 h0 e, q1, q2⟩
set_option maxRecDepth 100000 in
theorem d_Mo_marks {P : List Nat} {K : Nat → Nat} {O : WO} {I0 : WI} {J0 : WJ} (hV : IV P K I0 O) {a0 : Nat} (h0 : a0 ∈ P ∧ K a0 = 10) (hR : RS P K I0 O a0) {x1 : Int32} {x2 : Int32} {x3 : Int32} {x4 : Int32} {x5 : Int32} {x6 : Int32} : DM yMo_marks bMo_marks 10 (some .int) ({ frames := 4, cells := 0, slots := 0, locals := 97 } : Room) P K I0 O J0 a0 [.int x1, .int x2, .int x3, .int x4, .int x5, .int x6] := by
  rcases hR.1 with hMn | ⟨hN3, hGM⟩
  · skip
    obtain ⟨⟨z, I', J'⟩, e, q1, q2, q3⟩ := s_Mo_marks_Z (N := 2147483648) (J0 := J0) (Nat.le_refl _) hV h0 hMn (Q := fun w => IV P K w.2.1 O ∧ FR frM2 K I0 J0 w.2.1 w.2.2 ∧ ((w.2.1 a0 6).toInt = (I0 a0 6).toInt ∧ (w.2.1 a0 18).toInt = (I0 a0 18).toInt ∧ (w.2.1 (rf O a0 16) 27).toInt = (I0 (rf O a0 16) 27).toInt)) (fun z I_ J_ h1 h2 h3 => ⟨h1, h2, h3⟩)
    exact ⟨z, I', J', f_Mo_marks_Z hV.1 h0 (Nat.le_refl _) hV hMn hR.q3 e, q1, q2, hR.keep q2 rfl q3, q3.1⟩
  · skip
    obtain ⟨⟨z, I', J'⟩, e, q1, q2, q3⟩ := s_Mo_marks_G (N := 2147483648) (J0 := J0) (Nat.le_refl _) hV h0 hN3 hGM (Q := fun w => IV P K w.2.1 O ∧ FR frM2 K I0 J0 w.2.1 w.2.2 ∧ ((w.2.1 a0 6).toInt = (I0 a0 6).toInt ∧ (w.2.1 a0 18).toInt = (I0 a0 18).toInt ∧ (w.2.1 (rf O a0 16) 27).toInt = (I0 (rf O a0 16) 27).toInt)) (fun z I_ J_ h1 h2 h3 => ⟨h1, h2, h3⟩)
    exact ⟨z, I', J', f_Mo_marks hV.1 h0 hN3 hR.q3 e, q1, q2, hR.keep q2 rfl q3, q3.1⟩
set_option maxRecDepth 100000 in
theorem d_Mo_led {P : List Nat} {K : Nat → Nat} {O : WO} {I0 : WI} {J0 : WJ} (hV : IV P K I0 O) {a0 : Nat} (h0 : a0 ∈ P ∧ K a0 = 10) (hR : RS P K I0 O a0) {x1 : Int32} : DM yMo_led bMo_led 2 (some .int) ({ frames := 0, cells := 0, slots := 0, locals := 0 } : Room) P K I0 O J0 a0 [.int x1] := by
  obtain ⟨⟨z, I'⟩, e, q1, q2, q3⟩ := s_Mo_led (N := 2147483648) (J0 := J0) (Nat.le_refl _) hV h0 (Q := fun w => IV P K w.2 O ∧ FR frM2 K I0 J0 w.2 J0 ∧ ((w.2 a0 6).toInt = (I0 a0 6).toInt ∧ (w.2 a0 18).toInt = (I0 a0 18).toInt ∧ (w.2 (rf O a0 16) 27).toInt = (I0 (rf O a0 16) 27).toInt)) (fun z I_ h1 h2 h3 => ⟨h1, h2, h3⟩)
  exact ⟨z, I', J0, f_Mo_led hV.1 h0 e, q1, q2, hR.keep q2 rfl q3, q3.1⟩
set_option maxRecDepth 100000 in
theorem d_RM_size {P : List Nat} {K : Nat → Nat} {O : WO} {I0 : WI} {J0 : WJ} (hV : IV P K I0 O) {a0 : Nat} (h0 : a0 ∈ P ∧ K a0 = 8) {x1 : Int32} : DC yRM_size bRM_size 2 (some .int) ({ frames := 1, cells := 0, slots := 0, locals := 21 } : Room) P K I0 O J0 a0 [.int x1] := by
  obtain ⟨z, e, q3⟩ := s_RM_size (N := 2147483648) (J0 := J0) (Nat.le_refl _) hV h0 (Q := fun w => True) (fun z h3 => h3)
  exact ⟨z, I0, J0, f_RM_size hV.1 h0 e, hV, FR.rf⟩
set_option maxRecDepth 100000 in
theorem d_Mo_size {P : List Nat} {K : Nat → Nat} {O : WO} {I0 : WI} {J0 : WJ} (hV : IV P K I0 O) {a0 : Nat} (h0 : a0 ∈ P ∧ K a0 = 10) (hR : RS P K I0 O a0) {x1 : Int32} : DM yMo_size bMo_size 2 (some .int) ({ frames := 1, cells := 0, slots := 0, locals := 22 } : Room) P K I0 O J0 a0 [.int x1] := by
  rcases hR.1 with hMn | ⟨hN3, hGM⟩
  · skip
    obtain ⟨⟨z, I'⟩, e, q1, q2, q3⟩ := s_Mo_size_Z (N := 2147483648) (J0 := J0) (Nat.le_refl _) hV h0 hMn (Q := fun w => IV P K w.2 O ∧ FR frM2 K I0 J0 w.2 J0 ∧ ((w.2 a0 6).toInt = (I0 a0 6).toInt ∧ (w.2 a0 18).toInt = (I0 a0 18).toInt ∧ (w.2 (rf O a0 16) 27).toInt = (I0 (rf O a0 16) 27).toInt)) (fun z I_ h1 h2 h3 => ⟨h1, h2, h3⟩)
    exact ⟨z, I', J0, f_Mo_size hV.1 h0 hR.q3 e, q1, q2, hR.keep q2 rfl q3, q3.1⟩
  · skip
    obtain ⟨⟨z, I'⟩, e, q1, q2, q3⟩ := s_Mo_size_G (N := 2147483648) (J0 := J0) (Nat.le_refl _) hV h0 hN3 hGM (Q := fun w => IV P K w.2 O ∧ FR frM2 K I0 J0 w.2 J0 ∧ ((w.2 a0 6).toInt = (I0 a0 6).toInt ∧ (w.2 a0 18).toInt = (I0 a0 18).toInt ∧ (w.2 (rf O a0 16) 27).toInt = (I0 (rf O a0 16) 27).toInt)) (fun z I_ h1 h2 h3 => ⟨h1, h2, h3⟩)
    exact ⟨z, I', J0, f_Mo_size hV.1 h0 hR.q3 e, q1, q2, hR.keep q2 rfl q3, q3.1⟩
set_option maxRecDepth 100000 in
theorem d_RM_trouble {P : List Nat} {K : Nat → Nat} {O : WO} {I0 : WI} {J0 : WJ} (hV : IV P K I0 O) {a0 : Nat} (h0 : a0 ∈ P ∧ K a0 = 8)  : DC yRM_trouble bRM_trouble 1 (some .int) ({ frames := 0, cells := 0, slots := 0, locals := 0 } : Room) P K I0 O J0 a0 [] := by
  obtain ⟨z, e, q3⟩ := s_RM_trouble (N := 2147483648) (J0 := J0) (Nat.le_refl _) hV h0 (Q := fun w => True) (fun z h3 => h3)
  exact ⟨z, I0, J0, f_RM_trouble hV.1 h0 e, hV, FR.rf⟩
set_option maxRecDepth 100000 in
theorem d_Mo_trouble {P : List Nat} {K : Nat → Nat} {O : WO} {I0 : WI} {J0 : WJ} (hV : IV P K I0 O) {a0 : Nat} (h0 : a0 ∈ P ∧ K a0 = 10) (hR : RS P K I0 O a0)  : DM yMo_trouble bMo_trouble 1 (some .int) ({ frames := 0, cells := 0, slots := 0, locals := 0 } : Room) P K I0 O J0 a0 [] := by
  obtain ⟨⟨z, I'⟩, e, q1, q2, q3⟩ := s_Mo_trouble (N := 2147483648) (J0 := J0) (Nat.le_refl _) hV h0 (Q := fun w => IV P K w.2 O ∧ FR frM2 K I0 J0 w.2 J0 ∧ ((w.2 a0 6).toInt = (I0 a0 6).toInt ∧ (w.2 a0 18).toInt = (I0 a0 18).toInt ∧ (w.2 (rf O a0 16) 27).toInt = (I0 (rf O a0 16) 27).toInt)) (fun z I_ h1 h2 h3 => ⟨h1, h2, h3⟩)
  exact ⟨z, I', J0, f_Mo_trouble hV.1 h0 e, q1, q2, hR.keep q2 rfl q3, q3.1⟩
