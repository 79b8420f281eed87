/-! the reference's fresh mill, exactly: its fields, its tables (new, apart from each other, all zero) -/
def mlab (j : Nat) : Nat := if j = 0 then 42 else if j = 1 then 43 else if j = 2 then 43 else if j = 3 then 44 else if j = 4 then 45 else if j = 5 then 46 else 47
def AX (P : List Nat) (K : Nat → Nat) (I : WI) (O : WO) (J : WJ) (a : Nat) (P' : List Nat) (K' : Nat → Nat) (I' : WI) (O' : WO) (J' : WJ) (n : Nat) : Prop := (∀ b, b ∈ P → b ∈ P' ∧ K' b = K b ∧ (b ≠ a → I' b = I b ∧ O' b = O b ∧ J' b = J b)) ∧ (∀ j, j < n → O' a (11 + j) = some (rf O' a (11 + j)) ∧ rf O' a (11 + j) ∉ P ∧ rf O' a (11 + j) ∈ P' ∧ K' (rf O' a (11 + j)) = mlab j ∧ (∀ k, I' (rf O' a (11 + j)) k = 0)) ∧ (∀ i j, i < n → j < n → rf O' a (11 + i) = rf O' a (11 + j) → i = j) ∧ (∀ b, b ∈ P' → b ∈ P ∨ ∃ j, j < n ∧ b = rf O' a (11 + j))
theorem AX.old {P P' : List Nat} {K K' : Nat → Nat} {I I' : WI} {O O' : WO} {J J' : WJ} {a n : Nat} (h : AX P K I O J a P' K' I' O' J' n) : ∀ b, b ∈ P → b ∈ P' ∧ K' b = K b ∧ (b ≠ a → I' b = I b ∧ O' b = O b ∧ J' b = J b) := h.1
theorem AX.arr {P P' : List Nat} {K K' : Nat → Nat} {I I' : WI} {O O' : WO} {J J' : WJ} {a n : Nat} (h : AX P K I O J a P' K' I' O' J' n) : ∀ j, j < n → O' a (11 + j) = some (rf O' a (11 + j)) ∧ rf O' a (11 + j) ∉ P ∧ rf O' a (11 + j) ∈ P' ∧ K' (rf O' a (11 + j)) = mlab j ∧ (∀ k, I' (rf O' a (11 + j)) k = 0) := h.2.1
theorem AX.inj {P P' : List Nat} {K K' : Nat → Nat} {I I' : WI} {O O' : WO} {J J' : WJ} {a n : Nat} (h : AX P K I O J a P' K' I' O' J' n) : ∀ i j, i < n → j < n → rf O' a (11 + i) = rf O' a (11 + j) → i = j := h.2.2.1
theorem AX.new {P P' : List Nat} {K K' : Nat → Nat} {I I' : WI} {O O' : WO} {J J' : WJ} {a n : Nat} (h : AX P K I O J a P' K' I' O' J' n) : ∀ b, b ∈ P' → b ∈ P ∨ ∃ j, j < n ∧ b = rf O' a (11 + j) := h.2.2.2
theorem AX.start {P : List Nat} {K : Nat → Nat} {I : WI} {O : WO} {J : WJ} {a : Nat} : AX P K I O J a P K I O J 0 := ⟨fun b hb => ⟨hb, rfl, fun _ => ⟨rfl, rfl, rfl⟩⟩, fun j h => absurd h (Nat.not_lt_zero j), fun i j h => absurd h (Nat.not_lt_zero i), fun b hb => Or.inl hb⟩
theorem AX.puti {P P' : List Nat} {K K' : Nat → Nat} {I I' : WI} {O O' : WO} {J J' : WJ} {a n f : Nat} {x : Int32} (h : AX P K I O J a P' K' I' O' J' n) (ha : a ∈ P) : AX P K I O J a P' K' (up2 I' a f x) O' J' n := ⟨fun b hb => ⟨(h.old b hb).1, (h.old b hb).2.1, fun z => by rw [up2_row _ _ z]; exact (h.old b hb).2.2 z⟩, fun j hj => by
    obtain ⟨h1, h2, h3, h4, h5⟩ := h.arr j hj
    exact ⟨h1, h2, h3, h4, fun k => by rw [up2_row _ _ (fun z => h2 (by rw [z]; exact ha))]; exact h5 k⟩, h.inj, h.new⟩
theorem AX.step {P P' : List Nat} {K K' : Nat → Nat} {I I' : WI} {O O' : WO} {J J' : WJ} {a n q κ : Nat} (h : AX P K I O J a P' K' I' O' J' n) (ha : a ∈ P) (hq : q ∉ P') (hκ : mlab n = κ) : AX P K I O J a (P' ++ [q]) (lab K' q κ) (clr I' q 0) (up2 (clr O' q none) a (11 + n) (some q)) (clr J' q 0) (n + 1) := by
  have haP := (h.old a ha).1
  have hne : ∀ b, b ∈ P' → ¬ b = q := fun b hb z => hq (z ▸ hb)
  have hr : ∀ j, j < n → (up2 (clr O' q none) a (11 + n) (some q)) a (11 + j) = O' a (11 + j) := fun j hj => by
    rw [up2_ne _ _ (fun z => by omega), clr_ne _ _ (hne a haP)]
  have hrf : ∀ j, j < n → rf (up2 (clr O' q none) a (11 + n) (some q)) a (11 + j) = rf O' a (11 + j) := fun j hj => by unfold rf; rw [hr j hj]
  have hrn : rf (up2 (clr O' q none) a (11 + n) (some q)) a (11 + n) = q := by unfold rf; rw [up2_self]; rfl
  refine ⟨fun b hb => ?_, fun j hj => ?_, fun i j hi hj e => ?_, fun b hb => ?_⟩
  · obtain ⟨h1, h2, h3⟩ := h.old b hb
    refine ⟨List.mem_append_left _ h1, by rw [lab_ne _ (hne b h1)]; exact h2, fun z => ?_⟩
    rw [clr_ne _ _ (hne b h1), up2_row _ _ z, clr_ne _ _ (hne b h1), clr_ne _ _ (hne b h1)]; exact h3 z
  · by_cases e : j = n
    · subst e
      rw [hrn]
      exact ⟨up2_self _ _ _ _, fun z => hq (h.old q z).1, List.mem_append_right _ (List.mem_singleton.mpr rfl), by rw [lab_self, hκ], fun k => by rw [clr_self]⟩
    · obtain ⟨h1, h2, h3, h4, h5⟩ := h.arr j (by omega)
      rw [hrf j (by omega), hr j (by omega)]
      exact ⟨h1, h2, List.mem_append_left _ h3, by rw [lab_ne _ (hne _ h3)]; exact h4, fun k => by rw [clr_ne _ _ (hne _ h3)]; exact h5 k⟩
  · by_cases e1 : i = n
    · by_cases e2 : j = n
      · omega
      · rw [e1, hrn, hrf j (by omega)] at e
        exact absurd e.symm (hne _ (h.arr j (by omega)).2.2.1)
    · by_cases e2 : j = n
      · rw [e2, hrn, hrf i (by omega)] at e
        exact absurd e (hne _ (h.arr i (by omega)).2.2.1)
      · rw [hrf i (by omega), hrf j (by omega)] at e
        exact h.inj i j (by omega) (by omega) e
  · rcases List.mem_append.mp hb with z | z
    · rcases h.new b z with y | ⟨j, hj, y⟩
      · exact Or.inl y
      · exact Or.inr ⟨j, by omega, by rw [hrf j hj]; exact y⟩
    · exact Or.inr ⟨n, by omega, by rw [hrn]; exact List.mem_singleton.mp z⟩
def XPo (P : List Nat) (K : Nat → Nat) (I : WI) (O : WO) (J : WJ) (a : Nat) : PST := fun r P' K' I' O' J' => r = none ∧ AX P K I O J a P' K' I' O' J' 7 ∧ (∀ k, I' a k = if k = 0 ∨ k = 2 ∨ k = 4 ∨ k = 5 then Int32.ofInt (-1) else 0)
set_option maxHeartbeats 4000000 in
set_option maxRecDepth 100000 in
theorem xMx_init (P : List Nat) (K : Nat → Nat) (I : Nat → Nat → Int32) (O : Nat → Nat → Option Nat) (J : Nat → Nat → Int64) (a : Nat) (ha : a ∈ P ∧ K a = 9) (hz : ∀ k, I a k = 0) : Con yMx_init bMx_init 1 none ({ frames := 1, cells := 7, slots := 58, locals := 20 } : Room) P K I O J [.ref a] (XPo P K I O J a) := by
  refine Con.ofI mfMx_init (Nat.le_of_ble_eq_true rfl) ?_
  intro X C E N
  have hC : AX P K I O J a P K I O J 0 := AX.start
  refine g_aload_n C dMx_init_0 rfl ?_
  refine g_objInit C dMx_init_1 oi_Mx (Nat.le_of_ble_eq_true rfl) ⟨Nat.le_of_ble_eq_true rfl, Nat.le_of_ble_eq_true rfl⟩ ?_
  refine g_aload_n C dMx_init_4 rfl ?_
  refine g_iconst (v := Int32.ofInt (-1)) C dMx_init_5 (by decide) ?_
  refine g_puti (x := Int32.ofInt (-1)) C dMx_init_6 fl_Mx_9 ⟨(hC.old a ha.1).1, (hC.old a ha.1).2.1.trans ha.2⟩ rfl rfl rfl ?_
  replace hC := hC.puti (f := 0) (x := Int32.ofInt (-1)) ha.1
  refine g_aload_n C dMx_init_9 rfl ?_
  refine g_iconst (v := Int32.ofInt (-1)) C dMx_init_10 (by decide) ?_
  refine g_puti (x := Int32.ofInt (-1)) C dMx_init_11 fl_Mx_15 ⟨(hC.old a ha.1).1, (hC.old a ha.1).2.1.trans ha.2⟩ rfl rfl rfl ?_
  replace hC := hC.puti (f := 2) (x := Int32.ofInt (-1)) ha.1
  refine g_aload_n C dMx_init_14 rfl ?_
  refine g_iconst (v := Int32.ofInt (-1)) C dMx_init_15 (by decide) ?_
  refine g_puti (x := Int32.ofInt (-1)) C dMx_init_16 fl_Mx_18 ⟨(hC.old a ha.1).1, (hC.old a ha.1).2.1.trans ha.2⟩ rfl rfl rfl ?_
  replace hC := hC.puti (f := 4) (x := Int32.ofInt (-1)) ha.1
  refine g_aload_n C dMx_init_19 rfl ?_
  refine g_iconst (v := Int32.ofInt (-1)) C dMx_init_20 (by decide) ?_
  refine g_puti (x := Int32.ofInt (-1)) C dMx_init_21 fl_Mx_21 ⟨(hC.old a ha.1).1, (hC.old a ha.1).2.1.trans ha.2⟩ rfl rfl rfl ?_
  replace hC := hC.puti (f := 5) (x := Int32.ofInt (-1)) ha.1
  refine g_aload_n C dMx_init_24 rfl ?_
  refine g_bipush (v := Int32.ofInt (6)) C dMx_init_25 (by decide) ?_
  refine g_newa (κ := 42) C dMx_init_27 (by decide) ac_int rfl (Or.inr (Or.inl ⟨rfl, rfl⟩)) (ofI (by decide)) (by decide) ⟨Nat.le_of_ble_eq_true rfl, Nat.le_of_ble_eq_true rfl⟩ (fun q1 hq1 => ?_)
  have nq1 : ¬ a = q1 := fun z => hq1 (z ▸ (hC.old a ha.1).1)
  have hs1 := hC.step ha.1 hq1 (show mlab 0 = 42 from rfl)
  refine g_putrF C N dMx_init_29 fl_Mx_24 (wG_p6 33 (by decide +kernel) (by decide +kernel)) ⟨(hs1.old a ha.1).1, (hs1.old a ha.1).2.1.trans ha.2⟩ rfl rfl rfl rfl ?_
  replace hC := hs1
  refine g_aload_n C dMx_init_32 rfl ?_
  refine g_iconst (v := Int32.ofInt (5)) C dMx_init_33 (by decide) ?_
  refine g_newa (κ := 43) C dMx_init_34 (by decide) ac_int rfl (Or.inr (Or.inl ⟨rfl, rfl⟩)) (ofI (by decide)) (by decide) ⟨Nat.le_of_ble_eq_true rfl, Nat.le_of_ble_eq_true rfl⟩ (fun q2 hq2 => ?_)
  have nq2 : ¬ a = q2 := fun z => hq2 (z ▸ (hC.old a ha.1).1)
  have hs2 := hC.step ha.1 hq2 (show mlab 1 = 43 from rfl)
  refine g_putrF C N dMx_init_36 fl_Mx_28 (wG_p6 35 (by decide +kernel) (by decide +kernel)) ⟨(hs2.old a ha.1).1, (hs2.old a ha.1).2.1.trans ha.2⟩ rfl rfl rfl rfl ?_
  replace hC := hs2
  refine g_aload_n C dMx_init_39 rfl ?_
  refine g_iconst (v := Int32.ofInt (5)) C dMx_init_40 (by decide) ?_
  refine g_newa (κ := 43) C dMx_init_41 (by decide) ac_int rfl (Or.inr (Or.inl ⟨rfl, rfl⟩)) (ofI (by decide)) (by decide) ⟨Nat.le_of_ble_eq_true rfl, Nat.le_of_ble_eq_true rfl⟩ (fun q3 hq3 => ?_)
  have nq3 : ¬ a = q3 := fun z => hq3 (z ▸ (hC.old a ha.1).1)
  have hs3 := hC.step ha.1 hq3 (show mlab 2 = 43 from rfl)
  refine g_putrF C N dMx_init_43 fl_Mx_31 (wG_p6 37 (by decide +kernel) (by decide +kernel)) ⟨(hs3.old a ha.1).1, (hs3.old a ha.1).2.1.trans ha.2⟩ rfl rfl rfl rfl ?_
  replace hC := hs3
  refine g_aload_n C dMx_init_46 rfl ?_
  refine g_iconst (v := Int32.ofInt (4)) C dMx_init_47 (by decide) ?_
  refine g_newa (κ := 44) C dMx_init_48 (by decide) ac_int rfl (Or.inr (Or.inl ⟨rfl, rfl⟩)) (ofI (by decide)) (by decide) ⟨Nat.le_of_ble_eq_true rfl, Nat.le_of_ble_eq_true rfl⟩ (fun q4 hq4 => ?_)
  have nq4 : ¬ a = q4 := fun z => hq4 (z ▸ (hC.old a ha.1).1)
  have hs4 := hC.step ha.1 hq4 (show mlab 3 = 44 from rfl)
  refine g_putrF C N dMx_init_50 fl_Mx_34 (wG_p6 39 (by decide +kernel) (by decide +kernel)) ⟨(hs4.old a ha.1).1, (hs4.old a ha.1).2.1.trans ha.2⟩ rfl rfl rfl rfl ?_
  replace hC := hs4
  refine g_aload_n C dMx_init_53 rfl ?_
  refine g_bipush (v := Int32.ofInt (20)) C dMx_init_54 (by decide) ?_
  refine g_newa (κ := 45) C dMx_init_56 (by decide) ac_int rfl (Or.inr (Or.inl ⟨rfl, rfl⟩)) (ofI (by decide)) (by decide) ⟨Nat.le_of_ble_eq_true rfl, Nat.le_of_ble_eq_true rfl⟩ (fun q5 hq5 => ?_)
  have nq5 : ¬ a = q5 := fun z => hq5 (z ▸ (hC.old a ha.1).1)
  have hs5 := hC.step ha.1 hq5 (show mlab 4 = 45 from rfl)
  refine g_putrF C N dMx_init_58 fl_Mx_37 (wG_p6 41 (by decide +kernel) (by decide +kernel)) ⟨(hs5.old a ha.1).1, (hs5.old a ha.1).2.1.trans ha.2⟩ rfl rfl rfl rfl ?_
  replace hC := hs5
  refine g_aload_n C dMx_init_61 rfl ?_
  refine g_bipush (v := Int32.ofInt (9)) C dMx_init_62 (by decide) ?_
  refine g_newa (κ := 46) C dMx_init_64 (by decide) ac_long rfl (Or.inr (Or.inr (Or.inl ⟨rfl, rfl⟩))) (ofI (by decide)) (by decide) ⟨Nat.le_of_ble_eq_true rfl, Nat.le_of_ble_eq_true rfl⟩ (fun q6 hq6 => ?_)
  have nq6 : ¬ a = q6 := fun z => hq6 (z ▸ (hC.old a ha.1).1)
  have hs6 := hC.step ha.1 hq6 (show mlab 5 = 46 from rfl)
  refine g_putrF C N dMx_init_66 fl_Mx_40 (wG_p6 43 (by decide +kernel) (by decide +kernel)) ⟨(hs6.old a ha.1).1, (hs6.old a ha.1).2.1.trans ha.2⟩ rfl rfl rfl rfl ?_
  replace hC := hs6
  refine g_aload_n C dMx_init_69 rfl ?_
  refine g_bipush (v := Int32.ofInt (9)) C dMx_init_70 (by decide) ?_
  refine g_newa (κ := 47) C dMx_init_72 (by decide) ac_int rfl (Or.inr (Or.inl ⟨rfl, rfl⟩)) (ofI (by decide)) (by decide) ⟨Nat.le_of_ble_eq_true rfl, Nat.le_of_ble_eq_true rfl⟩ (fun q7 hq7 => ?_)
  have nq7 : ¬ a = q7 := fun z => hq7 (z ▸ (hC.old a ha.1).1)
  have hs7 := hC.step ha.1 hq7 (show mlab 6 = 47 from rfl)
  refine g_putrF C N dMx_init_74 fl_Mx_44 (wG_p6 45 (by decide +kernel) (by decide +kernel)) ⟨(hs7.old a ha.1).1, (hs7.old a ha.1).2.1.trans ha.2⟩ rfl rfl rfl rfl ?_
  replace hC := hs7
  refine g_vret C E dMx_init_77 (Nat.le_of_ble_eq_true rfl) (Nat.le_of_ble_eq_true rfl) ⟨rfl, hC, fun k => ?_⟩
  rw [clr_ne _ _ nq7]
  rw [clr_ne _ _ nq6]
  rw [clr_ne _ _ nq5]
  rw [clr_ne _ _ nq4]
  rw [clr_ne _ _ nq3]
  rw [clr_ne _ _ nq2]
  rw [clr_ne _ _ nq1]
  by_cases k5 : k = 5
  · subst k5; rw [up2_self]; rfl
  rw [up2_ne _ _ (fun z => k5 z.2)]
  by_cases k4 : k = 4
  · subst k4; rw [up2_self]; rfl
  rw [up2_ne _ _ (fun z => k4 z.2)]
  by_cases k2 : k = 2
  · subst k2; rw [up2_self]; rfl
  rw [up2_ne _ _ (fun z => k2 z.2)]
  by_cases k0 : k = 0
  · subst k0; rw [up2_self]; rfl
  rw [up2_ne _ _ (fun z => k0 z.2), hz, if_neg (by omega)]
