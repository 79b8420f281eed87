/-! ownership: Planner and RoarMill -/
theorem CI.subW {P0 P P2 : List Nat} {O O2 : WO} {a q w : Nat} (h : CI P0 P O a) (hP : ∀ b, b ∈ P0 → b ∈ P) (hw : w ∈ P) (hwn : w ∉ P0 ∨ w = a) (hq : q ∉ P) (hc : CI (P ++ [q]) P2 O2 q) (hold : ∀ b, b ∈ P → b ∈ P2 ∧ O2 b = O b) (hq2 : q ∈ P2) (f : Nat) : CI P0 P2 (up2 O2 w f (some q)) a := by
  have hqq : q ∈ P ++ [q] := List.mem_append_right _ (List.mem_singleton.mpr rfl)
  have key : ∀ b g c, b ∈ P2 → (b ∉ P0 ∨ b = a) → up2 O2 w f (some q) b g = some c → (b = w ∧ g = f ∧ c = q) ∨ (b ∈ P ∧ O b g = some c ∧ c ∈ P ∧ c ∉ P0) ∨ (b ∉ P ∧ (b ∉ P ++ [q] ∨ b = q) ∧ O2 b g = some c ∧ c ∈ P2 ∧ c ∉ P ++ [q]) := by
    intro b g c hb hn hcc
    by_cases e : b = w ∧ g = f
    · rw [e.1, e.2, up2_self] at hcc; exact Or.inl ⟨e.1, e.2, (Option.some.inj hcc).symm⟩
    · rw [up2_ne _ _ e] at hcc
      by_cases z : b ∈ P
      · rw [(hold b z).2] at hcc
        obtain ⟨z1, z2⟩ := h.1 b g c z hn hcc
        exact Or.inr (Or.inl ⟨z, hcc, z1, z2⟩)
      · have w : b ∉ P ++ [q] ∨ b = q := by
          by_cases y : b = q
          · exact Or.inr y
          · exact Or.inl (fun v => (List.mem_append.mp v).elim z (fun v => y (List.mem_singleton.mp v)))
        obtain ⟨z1, z2⟩ := hc.1 b g c hb w hcc
        exact Or.inr (Or.inr ⟨z, w, hcc, z1, z2⟩)
  refine ⟨fun b g c hb hn hcc => ?_, fun b g b' g' c hb hn hb' hn' hcc hcc' => ?_⟩
  · rcases key b g c hb hn hcc with ⟨_, _, e3⟩ | ⟨e1, e2, e3, e4⟩ | ⟨e1, e2, e3, e4, e5⟩
    · rw [e3]; exact ⟨hq2, fun z => hq (hP q z)⟩
    · exact ⟨(hold c e3).1, e4⟩
    · exact ⟨e4, fun z => e5 (List.mem_append_left _ (hP c z))⟩
  · rcases key b g c hb hn hcc with ⟨e1, e2, e3⟩ | ⟨e1, e2, e3, e4⟩ | ⟨e1, e2, e3, e4, e5⟩
    · rcases key b' g' c hb' hn' hcc' with ⟨f1, f2, f3⟩ | ⟨f1, f2, f3, f4⟩ | ⟨f1, f2, f3, f4, f5⟩
      · exact ⟨e1.trans f1.symm, e2.trans f2.symm⟩
      · exact absurd f3 (by rw [e3]; exact hq)
      · exact absurd hqq (fun z => f5 (by rw [e3]; exact z))
    · rcases key b' g' c hb' hn' hcc' with ⟨f1, f2, f3⟩ | ⟨f1, f2, f3, f4⟩ | ⟨f1, f2, f3, f4, f5⟩
      · exact absurd e3 (by rw [f3]; exact hq)
      · exact h.2 b g b' g' c e1 hn f1 hn' e2 f2
      · exact absurd (List.mem_append_left _ e3) f5
    · rcases key b' g' c hb' hn' hcc' with ⟨f1, f2, f3⟩ | ⟨f1, f2, f3, f4⟩ | ⟨f1, f2, f3, f4, f5⟩
      · exact absurd hqq (fun z => e5 (by rw [f3]; exact z))
      · exact absurd (List.mem_append_left _ f3) e5
      · exact hc.2 b g b' g' c hb e2 hb' f2 e3 f3
section OROWS
variable {X : CTX} {cc : ByteArray} {nL : Nat} {own : String} {rm : Room} {P : List Nat} {K : Nat → Nat} {I : WI} {O : WO} {J : WJ} {nc ns pc : Nat} {L : List (Nat × Value)} {st : List Value} {P0 : List Nat} {K0 : Nat → Nat} {I0 : WI} {O0 : WO} {J0 : WJ} {a : Nat} {D : List Nat}
theorem gp_newa {Q0 : List Nat} {atype : ArrayType} {κ : Nat} {n : Int32} {ty : FieldType} (C : Cx X cc nL own rm) (hC : CT P0 K0 I0 O0 J0 P K I O J a D) (hI : CI Q0 P O a) (hQ : ∀ b, b ∈ Q0 → b ∈ P) (haQ : a ∈ Q0) (ha : a ∈ P0) (d : decode cc pc = .ok (.newarray atype, 2)) (hκ : ¬ κ < 11) (hs : ∀ f, sp κ f = none) (hw : Cond.arrayClass (newarray.typeOf atype) ∈ wG) (hty : newarray.typeOf atype = ty) (hc : (aty κ = 0 ∧ ty = .byte) ∨ (aty κ = 1 ∧ ty = .int) ∨ (aty κ = 2 ∧ ty = .long) ∨ (aty κ = 3 ∧ ty = .boolean)) (hn : n.toInt = ((alen κ : Nat) : Int)) (hb0 : alen κ < 10000) (hro : nc + 1 ≤ rm.cells ∧ ns + alen κ ≤ rm.slots) (k : ∀ (P' : List Nat) (K' : Nat → Nat) (I' : WI) (O' : WO) (J' : WJ) (q : Nat), CT P0 K0 I0 O0 J0 P' K' I' O' J' a D → (q ∈ P' ∧ K' q = κ) → I' a = I a → O' a = O a → (∀ f, CI Q0 P' (up2 O' a f (some q)) a) → GG X nL P' K' I' O' J' (nc + 1) (ns + alen κ) (pc + 2) L (.ref q :: st)) : GG X nL P K I O J nc ns pc L (.int n :: st) := by
  have haP := (hC.1 a ha).1
  refine g_newa C d hκ hw hty hc hn hb0 hro (fun q hq => ?_)
  have hne : ¬ a = q := fun z => hq (z ▸ haP)
  exact k _ _ _ _ _ q (hC.cell ha hq hs (by omega)) ⟨List.mem_append_right _ (List.mem_singleton.mpr rfl), lab_self _ _ _⟩ (clr_ne _ _ hne) (clr_ne _ _ hne) (fun f => hI.cell hQ haQ hq f)
theorem gp_sub {Q0 : List Nat} {idx idx2 κ nL' : Nat} {y : MethodName} {cc' : ByteArray} {rm' : Room} {Dq : List Nat} {ext : Nat → WI → WO → Prop} (C : Cx X cc nL own rm) (hC : CT P0 K0 I0 O0 J0 P K I O J a D) (hI : CI Q0 P O a) (hQ : ∀ b, b ∈ Q0 → b ∈ P) (haQ : a ∈ Q0) (ha : a ∈ P0) (d : decode cc pc = .ok (.new idx, 3)) (d3 : decode cc (pc + 3) = .ok (.dup, 1)) (d4 : decode cc (pc + 4) = .ok (.invokespecial idx2, 3)) (hκ : κ < 11) (hw : Cond.classLink own idx (cN κ) ∈ wG) (hi : Cond.instantiable (cN κ) (nf κ) ∈ wG) (hn : Cond.initialized (cN κ) ∈ wG) (hm : MF y cc' nL' none 0) (hv : Cond.instanceMethod y ∈ wG) (hyn : y.name = "<init>") (hl0 : LN own idx2 y) (hs : ∀ f κ', sp κ f = some κ' → f ∈ Dq)
    (hc : ∀ (P : List Nat) (K : Nat → Nat) (I : WI) (O : WO) (J : WJ) (b : Nat), b ∈ P ∧ K b = κ → (∀ k, I b k = 0) → (∀ k, O b k = none) → Con y cc' nL' none rm' P K I O J [.ref b] (CQo Dq (ext b) P K I O J b)) (hst : ((st).map fun v => v.category).sum ≤ 7) (hR' : rm'.frames + 1 ≤ rm.frames ∧ 8 + (nL' + 11) + rm'.locals ≤ rm.locals) (hro : nc + 1 + rm'.cells ≤ rm.cells ∧ ns + nf κ + rm'.slots ≤ rm.slots)
    (k : ∀ (P' : List Nat) (K' : Nat → Nat) (I' : WI) (O' : WO) (J' : WJ) (q : Nat), CT P0 K0 I0 O0 J0 P' K' I' O' J' a D → (q ∈ P' ∧ K' q = κ) → I' a = I a → O' a = O a → ext q I' O' → (∀ c, c ∈ P → c ∈ P' ∧ K' c = K c) → (∀ w f, w ∈ P → (w ∉ Q0 ∨ w = a) → CI Q0 P' (up2 O' w f (some q)) a) → GG X nL P' K' I' O' J' (nc + 1 + rm'.cells) (ns + nf κ + rm'.slots) (pc + 7) L (.ref q :: st)) : GG X nL P K I O J nc ns pc L st := by
  refine g_new C d hκ hw hi hn ⟨by omega, by omega⟩ (fun q hq => ?_)
  refine g_dup C d3 rfl ?_
  refine g_callI (av := fun _ => []) C d4 hm hv hyn hl0 (hc _ _ _ _ _ q ⟨List.mem_append_right _ (List.mem_singleton.mpr rfl), lab_self _ _ _⟩ (fun k => by rw [clr_self]) (fun k => by rw [clr_self])) rfl rfl (by simp only [List.map_cons, List.sum_cons]; have : (Value.ref q).category = 1 := rfl; omega) hR' hro (fun r P' K' I' O' J' hp => ?_)
  obtain ⟨⟨rfl, h1, h2⟩, h3⟩ := hp
  obtain ⟨e1, e2, e3, e4, e5⟩ := hC.sub ha hq h1 hs
  have hne : ∀ b, b ∈ P → ¬ b = q := fun b hb z => hq (z ▸ hb)
  refine k _ _ _ _ _ q e1 e2 e3 e4 h2 e5 (fun w f hw hwn => hI.subW hQ hw hwn hq h3 (fun b hb => ⟨(e5 b hb).1, ?_⟩) e2.1 f)
  rw [((h1.1 b (List.mem_append_left _ hb)).2.2 (hne b hb)).2.1, clr_ne _ _ (hne b hb)]
theorem gq_subB {idx idx2 κ nL' : Nat} {y : MethodName} {cc' : ByteArray} {rm' : Room} {Dq : List Nat} {ext : Nat → WI → WO → Prop} (C : Cx X cc nL own rm) (hAO : AOX X) (hC : CT P0 K0 I0 O0 J0 P K I O J a D) (hI : CI P0 P O a) (ha : a ∈ P0) (d : decode cc pc = .ok (.new idx, 3)) (d3 : decode cc (pc + 3) = .ok (.dup, 1)) (d4 : decode cc (pc + 4) = .ok (.invokespecial idx2, 3)) (hκ : κ < 11) (hw : Cond.classLink own idx (cN κ) ∈ wG) (hi : Cond.instantiable (cN κ) (nf κ) ∈ wG) (hn : Cond.initialized (cN κ) ∈ wG) (hm : MF y cc' nL' none 0) (hv : Cond.instanceMethod y ∈ wG) (hyn : y.name = "<init>") (hl0 : LN own idx2 y) (hs : ∀ f κ', sp κ f = some κ' → f ∈ Dq)
    (hc : ∀ (P : List Nat) (K : Nat → Nat) (I : WI) (O : WO) (J : WJ) (b : Nat), b ∈ P ∧ K b = κ → (∀ k, I b k = 0) → (∀ k, O b k = none) → ConB y cc' nL' none rm' P K I O J [.ref b] (CQo Dq (ext b) P K I O J b)) (hst : ((st).map fun v => v.category).sum ≤ 7) (hR' : rm'.frames + 1 ≤ rm.frames ∧ 8 + (nL' + 11) + rm'.locals ≤ rm.locals) (hro : nc + 1 + rm'.cells ≤ rm.cells ∧ ns + nf κ + rm'.slots ≤ rm.slots)
    (k : ∀ (P' : List Nat) (K' : Nat → Nat) (I' : WI) (O' : WO) (J' : WJ) (q : Nat), CT P0 K0 I0 O0 J0 P' K' I' O' J' a D → (q ∈ P' ∧ K' q = κ) → I' a = I a → O' a = O a → ext q I' O' → (∀ c, c ∈ P → c ∈ P' ∧ K' c = K c) → (∀ f, CI P0 P' (up2 O' a f (some q)) a) → GG X nL P' K' I' O' J' (nc + 1 + rm'.cells) (ns + nf κ + rm'.slots) (pc + 7) L (.ref q :: st)) : GG X nL P K I O J nc ns pc L st := by
  refine g_new C d hκ hw hi hn ⟨by omega, by omega⟩ (fun q hq => ?_)
  refine g_dup C d3 rfl ?_
  refine g_callB C hAO d4 hm hv hyn hl0 (hc _ _ _ _ _ q ⟨List.mem_append_right _ (List.mem_singleton.mpr rfl), lab_self _ _ _⟩ (fun k => by rw [clr_self]) (fun k => by rw [clr_self])) rfl rfl (by simp only [List.map_cons, List.sum_cons]; have : (Value.ref q).category = 1 := rfl; omega) hR' hro (fun r P' K' I' O' J' hp => ?_)
  obtain ⟨⟨rfl, h1, h2⟩, h3⟩ := hp
  obtain ⟨e1, e2, e3, e4, e5⟩ := hC.sub ha hq h1 hs
  have hne : ∀ b, b ∈ P → ¬ b = q := fun b hb z => hq (z ▸ hb)
  refine k _ _ _ _ _ q e1 e2 e3 e4 h2 e5 (fun f => hI.sub (fun b hb => (hC.1 b hb).1) ha hq h3 (fun b hb => ⟨(e5 b hb).1, ?_⟩) e2.1 f)
  rw [((h1.1 b (List.mem_append_left _ hb)).2.2 (hne b hb)).2.1, clr_ne _ _ (hne b hb)]
end OROWS
set_option maxHeartbeats 4000000 in
set_option maxRecDepth 100000 in
theorem mPl_init (P : List Nat) (K : Nat → Nat) (I : Nat → Nat → Int32) (O : Nat → Nat → Option Nat) (J : Nat → Nat → Int64) (a : Nat) (ha : a ∈ P ∧ K a = 4) (hz : ∀ k, I a k = 0) (ho : ∀ k, O a k = none) : ConB yPl_init bPl_init 2 none ({ frames := 3, cells := 53, slots := 344, locals := 60 } : Room) P K I O J [.ref a] (CQo [9, 8, 6, 3, 2, 1, 0] (fun I' O' => True) P K I O J a) := by
  refine ConB.ofI mfPl_init (Nat.le_of_ble_eq_true rfl) ?_
  intro X C E N hAO
  refine g_aload_n C dPl_init_0 rfl ?_
  refine g_objInit C dPl_init_1 oi_Pl (Nat.le_of_ble_eq_true rfl) ⟨Nat.le_of_ble_eq_true rfl, Nat.le_of_ble_eq_true rfl⟩ ?_
  refine g_aload_n C dPl_init_4 rfl ?_
  refine g_bipush (v := Int32.ofInt (6)) C dPl_init_5 (by decide) ?_
  refine g_anew C hAO dPl_init_7 kl_Pl_9 (ofI (by decide)) ⟨Nat.le_of_ble_eq_true rfl, Nat.le_of_ble_eq_true rfl⟩ (fun q hq => ?_)
  have hqa : ¬ a = q := fun z => hq (z ▸ ha.1)
  have ha1 : a ∈ P ++ [q] ∧ lab K q 24 a = 4 := ⟨List.mem_append_left _ ha.1, (lab_ne _ hqa).trans ha.2⟩
  have hqB : q ∈ P ++ [q] ∧ lab K q 24 q = 24 := ⟨List.mem_append_right _ (List.mem_singleton.mpr rfl), lab_self _ _ _⟩
  have hC := CT.start (K := lab K q 24) (O := clr O q none) (J := clr J q 0) ha1.1 (I := clr I q 0) (fun k => by rw [clr_ne _ _ hqa]; exact hz k)
  refine g_putrF C N dPl_init_10 fl_Pl_11 (wG_p2 80 (by decide +kernel) (by decide +kernel)) ha1 rfl rfl rfl rfl ?_
  replace hC := hC.putO (f := 0) ha1.1 ha1.2 rfl hqB
  have hI : CI P (P ++ [q]) (up2 (clr O q none) a 0 (some q)) a := (CI.start ho).cell (fun b hb => hb) ha.1 hq 0
  have hOa : (up2 (clr O q none) a 0 (some q)) a 0 = some q := up2_self _ _ _ _
  refine g_aload_n C dPl_init_13 rfl ?_
  refine g_iconst (v := Int32.ofInt (3)) C dPl_init_14 (by decide) ?_
  refine gp_newa (κ := 18) C hC hI (fun b hb => (hC.1 b (List.mem_append_left _ hb)).1) ha.1 ha1.1 dPl_init_15 (by decide) (fun _ => rfl) ac_int rfl (Or.inr (Or.inl ⟨rfl, rfl⟩)) (ofI (by decide)) (by decide) ⟨Nat.le_of_ble_eq_true rfl, Nat.le_of_ble_eq_true rfl⟩ (fun P1 K1 I1 O1 J1 q1 hC hq1 eI1 eO1 hI1 => ?_)
  refine g_putrF C N dPl_init_17 fl_Pl_17 (wG_p2 81 (by decide +kernel) (by decide +kernel)) ⟨(hC.1 a ha1.1).1, (hC.1 a ha1.1).2.1.trans ha1.2⟩ rfl rfl rfl rfl ?_
  replace hOa : (up2 O1 a 1 (some q1)) a 0 = some q := by rw [up2_ne _ _ (fun z => absurd z.2 (by decide)), eO1]; exact hOa
  replace hC := hC.putO (f := 1) ha1.1 ((hC.1 a ha1.1).2.1.trans ha1.2) rfl hq1
  replace hI := hI1 1
  refine g_aload_n C dPl_init_20 rfl ?_
  refine g_iconst (v := Int32.ofInt (5)) C dPl_init_21 (by decide) ?_
  refine gp_newa (κ := 11) C hC hI (fun b hb => (hC.1 b (List.mem_append_left _ hb)).1) ha.1 ha1.1 dPl_init_22 (by decide) (fun _ => rfl) ac_int rfl (Or.inr (Or.inl ⟨rfl, rfl⟩)) (ofI (by decide)) (by decide) ⟨Nat.le_of_ble_eq_true rfl, Nat.le_of_ble_eq_true rfl⟩ (fun P2 K2 I2 O2 J2 q2 hC hq2 eI2 eO2 hI2 => ?_)
  refine g_putrF C N dPl_init_24 fl_Pl_21 (wG_p2 82 (by decide +kernel) (by decide +kernel)) ⟨(hC.1 a ha1.1).1, (hC.1 a ha1.1).2.1.trans ha1.2⟩ rfl rfl rfl rfl ?_
  replace hOa : (up2 O2 a 2 (some q2)) a 0 = some q := by rw [up2_ne _ _ (fun z => absurd z.2 (by decide)), eO2]; exact hOa
  replace hC := hC.putO (f := 2) ha1.1 ((hC.1 a ha1.1).2.1.trans ha1.2) rfl hq2
  replace hI := hI2 2
  refine g_aload_n C dPl_init_27 rfl ?_
  refine g_iconst (v := Int32.ofInt (5)) C dPl_init_28 (by decide) ?_
  refine gp_newa (κ := 11) C hC hI (fun b hb => (hC.1 b (List.mem_append_left _ hb)).1) ha.1 ha1.1 dPl_init_29 (by decide) (fun _ => rfl) ac_int rfl (Or.inr (Or.inl ⟨rfl, rfl⟩)) (ofI (by decide)) (by decide) ⟨Nat.le_of_ble_eq_true rfl, Nat.le_of_ble_eq_true rfl⟩ (fun P3 K3 I3 O3 J3 q3 hC hq3 eI3 eO3 hI3 => ?_)
  refine g_putrF C N dPl_init_31 fl_Pl_24 (wG_p2 83 (by decide +kernel) (by decide +kernel)) ⟨(hC.1 a ha1.1).1, (hC.1 a ha1.1).2.1.trans ha1.2⟩ rfl rfl rfl rfl ?_
  replace hOa : (up2 O3 a 3 (some q3)) a 0 = some q := by rw [up2_ne _ _ (fun z => absurd z.2 (by decide)), eO3]; exact hOa
  replace hC := hC.putO (f := 3) ha1.1 ((hC.1 a ha1.1).2.1.trans ha1.2) rfl hq3
  replace hI := hI3 3
  refine g_aload_n C dPl_init_34 rfl ?_
  refine g_iconst (v := Int32.ofInt (5)) C dPl_init_35 (by decide) ?_
  refine gp_newa (κ := 11) C hC hI (fun b hb => (hC.1 b (List.mem_append_left _ hb)).1) ha.1 ha1.1 dPl_init_36 (by decide) (fun _ => rfl) ac_int rfl (Or.inr (Or.inl ⟨rfl, rfl⟩)) (ofI (by decide)) (by decide) ⟨Nat.le_of_ble_eq_true rfl, Nat.le_of_ble_eq_true rfl⟩ (fun P4 K4 I4 O4 J4 q4 hC hq4 eI4 eO4 hI4 => ?_)
  refine g_putrF C N dPl_init_38 fl_Pl_27 (wG_p2 86 (by decide +kernel) (by decide +kernel)) ⟨(hC.1 a ha1.1).1, (hC.1 a ha1.1).2.1.trans ha1.2⟩ rfl rfl rfl rfl ?_
  replace hOa : (up2 O4 a 6 (some q4)) a 0 = some q := by rw [up2_ne _ _ (fun z => absurd z.2 (by decide)), eO4]; exact hOa
  replace hC := hC.putO (f := 6) ha1.1 ((hC.1 a ha1.1).2.1.trans ha1.2) rfl hq4
  replace hI := hI4 6
  refine g_aload_n C dPl_init_41 rfl ?_
  have hap := (hC.1 a ha1.1).1
  have hqp := (hC.1 q hqB.1).1
  refine gp_sub (κ := 0) (Dq := [1, 0]) (ext := fun b I2 O2 => True) C hC hI (fun b hb => (hC.1 b (List.mem_append_left _ hb)).1) ha.1 ha1.1 dPl_init_42 dPl_init_45 dPl_init_46 (by decide) kl_Pl_9 ki_0 kn_0 mfDr_init miDr_init rfl ln_Pl_30 cov_0 (fun P K I O J b hb hz ho => mDr_init P K I O J b hb hz ho) (Nat.le_of_ble_eq_true rfl) ⟨Nat.le_of_ble_eq_true rfl, Nat.le_of_ble_eq_true rfl⟩ ⟨Nat.le_of_ble_eq_true rfl, Nat.le_of_ble_eq_true rfl⟩ (fun P5 K5 I5 O5 J5 q5 hC hq5 eI5 eO5 ex5 up5 hI5 => ?_)
  refine g_putrF C N dPl_init_49 fl_Pl_31 (wG_p2 88 (by decide +kernel) (by decide +kernel)) ⟨(hC.1 a ha1.1).1, (hC.1 a ha1.1).2.1.trans ha1.2⟩ rfl rfl rfl rfl ?_
  replace hOa : (up2 O5 a 8 (some q5)) a 0 = some q := by rw [up2_ne _ _ (fun z => absurd z.2 (by decide)), eO5]; exact hOa
  replace hC := hC.putO (f := 8) ha1.1 ((hC.1 a ha1.1).2.1.trans ha1.2) rfl hq5
  replace hI := hI5 a 8 hap (Or.inr rfl)
  refine g_aload_n C dPl_init_52 rfl ?_
  have hap := (hC.1 a ha1.1).1
  have hqp := (hC.1 q hqB.1).1
  refine gp_sub (κ := 0) (Dq := [1, 0]) (ext := fun b I2 O2 => True) C hC hI (fun b hb => (hC.1 b (List.mem_append_left _ hb)).1) ha.1 ha1.1 dPl_init_53 dPl_init_56 dPl_init_57 (by decide) kl_Pl_9 ki_0 kn_0 mfDr_init miDr_init rfl ln_Pl_30 cov_0 (fun P K I O J b hb hz ho => mDr_init P K I O J b hb hz ho) (Nat.le_of_ble_eq_true rfl) ⟨Nat.le_of_ble_eq_true rfl, Nat.le_of_ble_eq_true rfl⟩ ⟨Nat.le_of_ble_eq_true rfl, Nat.le_of_ble_eq_true rfl⟩ (fun P6 K6 I6 O6 J6 q6 hC hq6 eI6 eO6 ex6 up6 hI6 => ?_)
  refine g_putrF C N dPl_init_60 fl_Pl_35 (wG_p2 89 (by decide +kernel) (by decide +kernel)) ⟨(hC.1 a ha1.1).1, (hC.1 a ha1.1).2.1.trans ha1.2⟩ rfl rfl rfl rfl ?_
  replace hOa : (up2 O6 a 9 (some q6)) a 0 = some q := by rw [up2_ne _ _ (fun z => absurd z.2 (by decide)), eO6]; exact hOa
  replace hC := hC.putO (f := 9) ha1.1 ((hC.1 a ha1.1).2.1.trans ha1.2) rfl hq6
  replace hI := hI6 a 9 hap (Or.inr rfl)
  refine g_iconst (v := Int32.ofInt (0)) C dPl_init_63 (by decide) ?_
  refine g_istore_n (i := 1) C dPl_init_64 rfl (by decide) ?_
  have lp : ∀ (n : Nat) (x : Int32) (O1 : Nat → Nat → Option Nat) (P2 : List Nat) (K2 : Nat → Nat) (I2 : Nat → Nat → Int32) (O2 : Nat → Nat → Option Nat) (J2 : Nat → Nat → Int64), Int.toNat (6 - x.toInt) = n → 0 ≤ x.toInt ∧ x.toInt ≤ 6 → CT (P ++ [q]) (lab K q 24) (clr I q 0) O1 (clr J q 0) P2 K2 I2 O2 J2 a [9, 8, 6, 3, 2, 1, 0] → (∀ b, ¬ b = q → O1 b = clr O q none b) → O2 a 0 = some q → (∀ f : Nat, (f : Int) < x.toInt → ∃ d, O2 q f = some d ∧ d ∈ P2 ∧ K2 d = 0) → CI P P2 O2 a → GG X 2 P2 K2 I2 O2 J2 (17 + 6 * x.toInt.toNat) (104 + 40 * x.toInt.toNat) 65 [(0, .ref a), (1, .int x)] [] := by
    intro n
    induction n using Nat.strongRecOn with
    | ind n ih =>
    intro x O1 P2 K2 I2 O2 J2 hn hx hC hO hOa hd hI
    have haC : a ∈ P2 ∧ K2 a = 4 := ⟨(hC.1 a ha1.1).1, (hC.1 a ha1.1).2.1.trans ha1.2⟩
    have hqC : q ∈ P2 ∧ K2 q = 24 := ⟨(hC.1 q hqB.1).1, (hC.1 q hqB.1).2.1.trans hqB.2⟩
    refine g_iload_n C dPl_init_65 rfl ?_
    refine g_iconst (v := Int32.ofInt (5)) C dPl_init_66 (by decide) ?_
    refine gt_icmp_gt 89 C dPl_init_67 (by decide) rfl (ofI (by decide)) (fun c => ?_) (fun c => ?_)
    · have hx6 : x.toInt = 6 := by omega
      refine g_vret C E dPl_init_89 (by rw [hx6]; decide) (by rw [hx6]; decide) ⟨⟨rfl, ?_, trivial⟩, hI⟩
      exact CT.done hq ha.1 hC hO (fun f hf => hd f (by omega))
    · refine g_aload_n C dPl_init_70 rfl ?_
      refine gt_getS C dPl_init_71 fl_Pl_11 haC hOa ?_
      refine g_iload_n C dPl_init_74 rfl ?_
      have hCold := hC
      have hap := (hC.1 a ha1.1).1
      have hqp := (hC.1 q hqB.1).1
      refine gp_sub (κ := 0) (Dq := [1, 0]) (ext := fun b I2 O2 => True) C hC hI (fun b hb => (hC.1 b (List.mem_append_left _ hb)).1) ha.1 ha1.1 dPl_init_75 dPl_init_78 dPl_init_79 (by decide) kl_Pl_9 ki_0 kn_0 mfDr_init miDr_init rfl ln_Pl_30 cov_0 (fun P K I O J b hb hz ho => mDr_init P K I O J b hb hz ho) (Nat.le_of_ble_eq_true rfl) ⟨Nat.le_of_ble_eq_true rfl, Nat.le_of_ble_eq_true rfl⟩ ⟨by dsimp only; omega, by show 104 + 40 * x.toInt.toNat + 17 + 23 ≤ 344; omega⟩ (fun P3 K3 I3 O3 J3 q3 hC hq3 eI eO ex up hI3 => ?_)
      have hPK : ∀ d, d ∈ P2 → K2 d = 0 → d ∈ P3 ∧ K3 d = 0 := fun d h1 h2 => ⟨(up d h1).1, (up d h1).2.trans h2⟩
      have hqC : q ∈ P3 ∧ K3 q = 24 := ⟨(hC.1 q hqB.1).1, (hC.1 q hqB.1).2.1.trans hqB.2⟩
      have hqq : ¬ q = a := fun z => hqa z.symm
      have hOq : O3 q = O2 q := by rw [((hC.1 q hqB.1).2.2 hqq).2.1]; exact ((hCold.1 q hqB.1).2.2 hqq).2.1.symm
      refine g_aast C dPl_init_82 hqC hq3 (vp_in_iff.mpr (by show 0 ≤ x.toInt ∧ x.toInt < (6 : Int); omega)) ?_
      refine n_iinc C dPl_init_83 rfl rfl (by decide) (by decide) (by omega) (fun z ez => ?_)
      refine g_goto 65 C dPl_init_86 (by decide) ?_
      have hxn : x.toNatClampNeg = x.toInt.toNat := rfl
      refine g_widen (nc' := 17 + 6 * z.toInt.toNat) (ns' := 104 + 40 * z.toInt.toNat) (by dsimp only; omega) (by show 104 + 40 * x.toInt.toNat + 17 + 23 ≤ _; omega) ?_
      refine g_sub (ih _ (by omega) z (up2 O1 q x.toNatClampNeg (some q3)) P3 K3 I3 (up2 O3 q x.toNatClampNeg (some q3)) J3 rfl (by omega) (hC.base hqB.1 hqq) (fun b hb => by rw [up2_row _ _ hb]; exact hO b hb) (by rw [up2_row _ _ hqa, eO]; exact hOa) (fun f hf => ?_) (hI3 q x.toNatClampNeg hqp (Or.inl hq))) ⟨rfl, rfl, trivial⟩
      by_cases e : f = x.toNatClampNeg
      · subst e; exact ⟨q3, up2_self _ _ _ _, hq3⟩
      · obtain ⟨d, d1, d2, d3⟩ := hd f (by omega)
        exact ⟨d, by rw [up2_ne _ _ (fun w => e w.2), hOq]; exact d1, hPK d d2 d3⟩
  exact g_sub (lp _ (Int32.ofInt (0)) _ _ _ _ _ _ rfl (by rw [ofI (by decide)]; decide) hC (fun b hb => rfl) hOa (fun f hf => by rw [ofI (by decide)] at hf; exact absurd hf (by omega)) hI) ⟨rfl, rfl, trivial⟩
set_option maxHeartbeats 4000000 in
set_option maxRecDepth 100000 in
theorem mRM_init (P : List Nat) (K : Nat → Nat) (I : Nat → Nat → Int32) (O : Nat → Nat → Option Nat) (J : Nat → Nat → Int64) (a : Nat) (ha : a ∈ P ∧ K a = 8) (hz : ∀ k, I a k = 0) (ho : ∀ k, O a k = none) : ConB yRM_init bRM_init 1 none ({ frames := 4, cells := 108, slots := 10344, locals := 81 } : Room) P K I O J [.ref a] (CQo [12, 11, 10, 9, 8, 7, 6, 5, 4, 3, 2, 1, 0] (fun I' O' => True) P K I O J a) := by
  refine ConB.ofI mfRM_init (Nat.le_of_ble_eq_true rfl) ?_
  intro X C E N hAO
  have hC := CT.start (K := K) (O := O) (J := J) ha.1 hz
  have hI : CI P P O a := CI.start ho
  refine g_aload_n C dRM_init_0 rfl ?_
  refine g_objInit C dRM_init_1 oi_RM (Nat.le_of_ble_eq_true rfl) ⟨Nat.le_of_ble_eq_true rfl, Nat.le_of_ble_eq_true rfl⟩ ?_
  refine g_aload_n C dRM_init_4 rfl ?_
  refine gq_sub (κ := 5) (Dq := [9, 8, 0]) (ext := fun b I2 O2 => True) C hC hI ha.1 dRM_init_5 dRM_init_8 dRM_init_9 (by decide) kl_RM_9 ki_5 kn_5 mfRd_init miRd_init rfl ln_RM_11 (cov_5) (fun P K I O J b hb hz ho => mRd_init P K I O J b hb hz ho) (Nat.le_of_ble_eq_true rfl) ⟨Nat.le_of_ble_eq_true rfl, Nat.le_of_ble_eq_true rfl⟩ ⟨Nat.le_of_ble_eq_true rfl, Nat.le_of_ble_eq_true rfl⟩ (fun P1 K1 I1 O1 J1 q1 hC hq1 eI1 eO1 ex1 up1 hI1 => ?_)
  refine g_putrF C N dRM_init_12 fl_RM_12 (wG_p2 136 (by decide +kernel) (by decide +kernel)) ⟨(hC.1 a ha.1).1, (hC.1 a ha.1).2.1.trans ha.2⟩ rfl rfl rfl rfl ?_
  replace hC := hC.putO (f := 0) ha.1 ((hC.1 a ha.1).2.1.trans ha.2) rfl hq1
  replace hI := hI1 0
  refine g_aload_n C dRM_init_15 rfl ?_
  refine gq_sub (κ := 3) (Dq := [14, 13, 12, 11, 10]) (ext := fun b I2 O2 => True) C hC hI ha.1 dRM_init_16 dRM_init_19 dRM_init_20 (by decide) kl_RM_16 ki_3 kn_3 mfMl_init miMl_init rfl ln_RM_18 (cov_3) (fun P K I O J b hb hz ho => mMl_init P K I O J b hb hz ho) (Nat.le_of_ble_eq_true rfl) ⟨Nat.le_of_ble_eq_true rfl, Nat.le_of_ble_eq_true rfl⟩ ⟨Nat.le_of_ble_eq_true rfl, Nat.le_of_ble_eq_true rfl⟩ (fun P2 K2 I2 O2 J2 q2 hC hq2 eI2 eO2 ex2 up2 hI2 => ?_)
  refine g_putr (x := some q2) C dRM_init_23 fl_RM_19 ⟨(hC.1 a ha.1).1, (hC.1 a ha.1).2.1.trans ha.2⟩ rfl rfl rfl ?_
  replace hC := hC.putO (f := 1) ha.1 ((hC.1 a ha.1).2.1.trans ha.2) rfl hq2
  replace hI := hI2 1
  refine g_aload_n C dRM_init_26 rfl ?_
  refine gq_sub (κ := 3) (Dq := [14, 13, 12, 11, 10]) (ext := fun b I2 O2 => True) C hC hI ha.1 dRM_init_27 dRM_init_30 dRM_init_31 (by decide) kl_RM_16 ki_3 kn_3 mfMl_init miMl_init rfl ln_RM_18 (cov_3) (fun P K I O J b hb hz ho => mMl_init P K I O J b hb hz ho) (Nat.le_of_ble_eq_true rfl) ⟨Nat.le_of_ble_eq_true rfl, Nat.le_of_ble_eq_true rfl⟩ ⟨Nat.le_of_ble_eq_true rfl, Nat.le_of_ble_eq_true rfl⟩ (fun P3 K3 I3 O3 J3 q3 hC hq3 eI3 eO3 ex3 up3 hI3 => ?_)
  refine g_putr (x := some q3) C dRM_init_34 fl_RM_23 ⟨(hC.1 a ha.1).1, (hC.1 a ha.1).2.1.trans ha.2⟩ rfl rfl rfl ?_
  replace hC := hC.putO (f := 2) ha.1 ((hC.1 a ha.1).2.1.trans ha.2) rfl hq3
  replace hI := hI3 2
  refine g_aload_n C dRM_init_37 rfl ?_
  refine gq_sub (κ := 0) (Dq := [1, 0]) (ext := fun b I2 O2 => True) C hC hI ha.1 dRM_init_38 dRM_init_41 dRM_init_42 (by decide) kl_RM_26 ki_0 kn_0 mfDr_init miDr_init rfl ln_RM_28 (cov_0) (fun P K I O J b hb hz ho => mDr_init P K I O J b hb hz ho) (Nat.le_of_ble_eq_true rfl) ⟨Nat.le_of_ble_eq_true rfl, Nat.le_of_ble_eq_true rfl⟩ ⟨Nat.le_of_ble_eq_true rfl, Nat.le_of_ble_eq_true rfl⟩ (fun P4 K4 I4 O4 J4 q4 hC hq4 eI4 eO4 ex4 up4 hI4 => ?_)
  refine g_putrF C N dRM_init_45 fl_RM_29 (wG_p2 139 (by decide +kernel) (by decide +kernel)) ⟨(hC.1 a ha.1).1, (hC.1 a ha.1).2.1.trans ha.2⟩ rfl rfl rfl rfl ?_
  replace hC := hC.putO (f := 3) ha.1 ((hC.1 a ha.1).2.1.trans ha.2) rfl hq4
  replace hI := hI4 3
  refine g_aload_n C dRM_init_48 rfl ?_
  refine g_iconst (v := Int32.ofInt (3)) C dRM_init_49 (by decide) ?_
  refine gq_newa (κ := 18) C hC hI ha.1 dRM_init_50 (by decide) (fun _ => rfl) ac_int rfl (Or.inr (Or.inl ⟨rfl, rfl⟩)) (ofI (by decide)) (by decide) ⟨Nat.le_of_ble_eq_true rfl, Nat.le_of_ble_eq_true rfl⟩ (fun P5 K5 I5 O5 J5 q5 hC hq5 eI5 eO5 hI5 => ?_)
  refine g_putrF C N dRM_init_52 fl_RM_33 (wG_p2 140 (by decide +kernel) (by decide +kernel)) ⟨(hC.1 a ha.1).1, (hC.1 a ha.1).2.1.trans ha.2⟩ rfl rfl rfl rfl ?_
  replace hC := hC.putO (f := 4) ha.1 ((hC.1 a ha.1).2.1.trans ha.2) rfl hq5
  replace hI := hI5 4
  refine g_aload_n C dRM_init_55 rfl ?_
  refine g_bipush (v := Int32.ofInt (36)) C dRM_init_56 (by decide) ?_
  refine gq_newa (κ := 19) C hC hI ha.1 dRM_init_58 (by decide) (fun _ => rfl) ac_int rfl (Or.inr (Or.inl ⟨rfl, rfl⟩)) (ofI (by decide)) (by decide) ⟨Nat.le_of_ble_eq_true rfl, Nat.le_of_ble_eq_true rfl⟩ (fun P6 K6 I6 O6 J6 q6 hC hq6 eI6 eO6 hI6 => ?_)
  refine g_putrF C N dRM_init_60 fl_RM_37 (wG_p2 141 (by decide +kernel) (by decide +kernel)) ⟨(hC.1 a ha.1).1, (hC.1 a ha.1).2.1.trans ha.2⟩ rfl rfl rfl rfl ?_
  replace hC := hC.putO (f := 5) ha.1 ((hC.1 a ha.1).2.1.trans ha.2) rfl hq6
  replace hI := hI6 5
  refine g_aload_n C dRM_init_63 rfl ?_
  refine gq_sub (κ := 1) (Dq := [2, 1, 0]) (ext := fun b I2 O2 => True) C hC hI ha.1 dRM_init_64 dRM_init_67 dRM_init_68 (by decide) kl_RM_40 ki_1 kn_1 mfGu_init miGu_init rfl ln_RM_42 (cov_1) (fun P K I O J b hb hz ho => mGu_init P K I O J b hb hz ho) (Nat.le_of_ble_eq_true rfl) ⟨Nat.le_of_ble_eq_true rfl, Nat.le_of_ble_eq_true rfl⟩ ⟨Nat.le_of_ble_eq_true rfl, Nat.le_of_ble_eq_true rfl⟩ (fun P7 K7 I7 O7 J7 q7 hC hq7 eI7 eO7 ex7 up7 hI7 => ?_)
  refine g_putrF C N dRM_init_71 fl_RM_43 (wG_p2 142 (by decide +kernel) (by decide +kernel)) ⟨(hC.1 a ha.1).1, (hC.1 a ha.1).2.1.trans ha.2⟩ rfl rfl rfl rfl ?_
  replace hC := hC.putO (f := 6) ha.1 ((hC.1 a ha.1).2.1.trans ha.2) rfl hq7
  replace hI := hI7 6
  refine g_aload_n C dRM_init_74 rfl ?_
  refine gq_sub (κ := 6) (Dq := [5, 3, 2, 1, 0]) (ext := fun b I2 O2 => True) C hC hI ha.1 dRM_init_75 dRM_init_78 dRM_init_79 (by decide) kl_RM_47 ki_6 kn_6 mfSi_init miSi_init rfl ln_RM_49 (cov_6) (fun P K I O J b hb hz ho => mSi_init P K I O J b hb hz ho) (Nat.le_of_ble_eq_true rfl) ⟨Nat.le_of_ble_eq_true rfl, Nat.le_of_ble_eq_true rfl⟩ ⟨Nat.le_of_ble_eq_true rfl, Nat.le_of_ble_eq_true rfl⟩ (fun P8 K8 I8 O8 J8 q8 hC hq8 eI8 eO8 ex8 up8 hI8 => ?_)
  refine g_putrF C N dRM_init_82 fl_RM_50 (wG_p2 143 (by decide +kernel) (by decide +kernel)) ⟨(hC.1 a ha.1).1, (hC.1 a ha.1).2.1.trans ha.2⟩ rfl rfl rfl rfl ?_
  replace hC := hC.putO (f := 7) ha.1 ((hC.1 a ha.1).2.1.trans ha.2) rfl hq8
  replace hI := hI8 7
  refine g_aload_n C dRM_init_85 rfl ?_
  refine gq_subB (κ := 4) (Dq := [9, 8, 6, 3, 2, 1, 0]) (ext := fun b I2 O2 => True) C hAO hC hI ha.1 dRM_init_86 dRM_init_89 dRM_init_90 (by decide) kl_RM_54 ki_4 kn_4 mfPl_init miPl_init rfl ln_RM_56 (cov_4) (fun P K I O J b hb hz ho => mPl_init P K I O J b hb hz ho) (Nat.le_of_ble_eq_true rfl) ⟨Nat.le_of_ble_eq_true rfl, Nat.le_of_ble_eq_true rfl⟩ ⟨Nat.le_of_ble_eq_true rfl, Nat.le_of_ble_eq_true rfl⟩ (fun P9 K9 I9 O9 J9 q9 hC hq9 eI9 eO9 ex9 up9 hI9 => ?_)
  refine g_putrF C N dRM_init_93 fl_RM_57 (wG_p2 144 (by decide +kernel) (by decide +kernel)) ⟨(hC.1 a ha.1).1, (hC.1 a ha.1).2.1.trans ha.2⟩ rfl rfl rfl rfl ?_
  replace hC := hC.putO (f := 8) ha.1 ((hC.1 a ha.1).2.1.trans ha.2) rfl hq9
  replace hI := hI9 8
  refine g_aload_n C dRM_init_96 rfl ?_
  refine gq_sub (κ := 7) (Dq := [2, 1, 0]) (ext := fun b I2 O2 => True) C hC hI ha.1 dRM_init_97 dRM_init_100 dRM_init_101 (by decide) kl_RM_61 ki_7 kn_7 mfTr_init miTr_init rfl ln_RM_63 (cov_7) (fun P K I O J b hb hz ho => mTr_init P K I O J b hb hz ho) (Nat.le_of_ble_eq_true rfl) ⟨Nat.le_of_ble_eq_true rfl, Nat.le_of_ble_eq_true rfl⟩ ⟨Nat.le_of_ble_eq_true rfl, Nat.le_of_ble_eq_true rfl⟩ (fun P10 K10 I10 O10 J10 q10 hC hq10 eI10 eO10 ex10 up10 hI10 => ?_)
  refine g_putrF C N dRM_init_104 fl_RM_64 (wG_p2 145 (by decide +kernel) (by decide +kernel)) ⟨(hC.1 a ha.1).1, (hC.1 a ha.1).2.1.trans ha.2⟩ rfl rfl rfl rfl ?_
  replace hC := hC.putO (f := 9) ha.1 ((hC.1 a ha.1).2.1.trans ha.2) rfl hq10
  replace hI := hI10 9
  refine g_aload_n C dRM_init_107 rfl ?_
  refine gq_sub (κ := 2) (Dq := [2, 1, 0]) (ext := fun b I2 O2 => True) C hC hI ha.1 dRM_init_108 dRM_init_111 dRM_init_112 (by decide) kl_RM_68 ki_2 kn_2 mfLd_init miLd_init rfl ln_RM_70 (cov_2) (fun P K I O J b hb hz ho => mLd_init P K I O J b hb hz ho) (Nat.le_of_ble_eq_true rfl) ⟨Nat.le_of_ble_eq_true rfl, Nat.le_of_ble_eq_true rfl⟩ ⟨Nat.le_of_ble_eq_true rfl, Nat.le_of_ble_eq_true rfl⟩ (fun P11 K11 I11 O11 J11 q11 hC hq11 eI11 eO11 ex11 up11 hI11 => ?_)
  refine g_putrF C N dRM_init_115 fl_RM_71 (wG_p2 146 (by decide +kernel) (by decide +kernel)) ⟨(hC.1 a ha.1).1, (hC.1 a ha.1).2.1.trans ha.2⟩ rfl rfl rfl rfl ?_
  replace hC := hC.putO (f := 10) ha.1 ((hC.1 a ha.1).2.1.trans ha.2) rfl hq11
  replace hI := hI11 10
  refine g_aload_n C dRM_init_118 rfl ?_
  refine gq_sub (κ := 0) (Dq := [1, 0]) (ext := fun b I2 O2 => True) C hC hI ha.1 dRM_init_119 dRM_init_122 dRM_init_123 (by decide) kl_RM_26 ki_0 kn_0 mfDr_init miDr_init rfl ln_RM_28 (cov_0) (fun P K I O J b hb hz ho => mDr_init P K I O J b hb hz ho) (Nat.le_of_ble_eq_true rfl) ⟨Nat.le_of_ble_eq_true rfl, Nat.le_of_ble_eq_true rfl⟩ ⟨Nat.le_of_ble_eq_true rfl, Nat.le_of_ble_eq_true rfl⟩ (fun P12 K12 I12 O12 J12 q12 hC hq12 eI12 eO12 ex12 up12 hI12 => ?_)
  refine g_putrF C N dRM_init_126 fl_RM_75 (wG_p2 147 (by decide +kernel) (by decide +kernel)) ⟨(hC.1 a ha.1).1, (hC.1 a ha.1).2.1.trans ha.2⟩ rfl rfl rfl rfl ?_
  replace hC := hC.putO (f := 11) ha.1 ((hC.1 a ha.1).2.1.trans ha.2) rfl hq12
  replace hI := hI12 11
  refine g_aload_n C dRM_init_129 rfl ?_
  refine g_sipush (v := Int32.ofInt (240)) C dRM_init_130 (by decide) ?_
  refine gq_newa (κ := 28) C hC hI ha.1 dRM_init_133 (by decide) (fun _ => rfl) ac_int rfl (Or.inr (Or.inl ⟨rfl, rfl⟩)) (ofI (by decide)) (by decide) ⟨Nat.le_of_ble_eq_true rfl, Nat.le_of_ble_eq_true rfl⟩ (fun P13 K13 I13 O13 J13 q13 hC hq13 eI13 eO13 hI13 => ?_)
  refine g_putrF C N dRM_init_135 fl_RM_78 (wG_p2 148 (by decide +kernel) (by decide +kernel)) ⟨(hC.1 a ha.1).1, (hC.1 a ha.1).2.1.trans ha.2⟩ rfl rfl rfl rfl ?_
  replace hC := hC.putO (f := 12) ha.1 ((hC.1 a ha.1).2.1.trans ha.2) rfl hq13
  replace hI := hI13 12
  refine g_aload_n C dRM_init_138 rfl ?_
  refine g_iconst (v := Int32.ofInt (0)) C dRM_init_139 (by decide) ?_
  refine g_puti (x := Int32.ofInt (0)) C dRM_init_140 fl_RM_81 ⟨(hC.1 a ha.1).1, (hC.1 a ha.1).2.1.trans ha.2⟩ rfl rfl rfl ?_
  replace hC := hC.putI (f := 14) (x := Int32.ofInt (0)) ha.1 ((hC.1 a ha.1).2.1.trans ha.2) trivial (by decide)
  exact g_vret C E dRM_init_143 (Nat.le_of_ble_eq_true rfl) (Nat.le_of_ble_eq_true rfl) ⟨⟨rfl, hC, trivial⟩, hI⟩
