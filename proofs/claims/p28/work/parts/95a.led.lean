/-! led exactly: class (throws or tells), the law's led, the reference's led and what it notes -/
def LTx (I : WI) (x : Nat) (x1 : Int32) : Prop := x1.toInt < 0 ∨ (I x 13).toInt ≤ x1.toInt ∨ 240 ≤ x1.toInt
section LEDX
variable {X : CTX} {rm : Room} {P : List Nat} {K : Nat → Nat} {I : WI} {O : WO} {J : WJ}
theorem led_walkX (C : Cx X bRM_led 2 "RoarMill" rm) (hV : IV P K I O) {a0 : Nat} (h0 : a0 ∈ P ∧ K a0 = 8) {x1 : Int32} (kt : LTx I a0 x1 → GG X 2 P K I O J 0 0 21 [(0, .ref a0), (1, .int x1)] []) (kr : ¬ LTx I a0 x1 → GG X 2 P K I O J 0 0 38 [(0, .ref a0), (1, .int x1)] [.int (I (rf O a0 12) x1.toInt.toNat)]) : GG X 2 P K I O J 0 0 0 [(0, .ref a0), (1, .int x1)] [] := by
  have t12 := rf_ok hV.1 h0 (show sp 8 12 = some 28 from rfl)
  refine g_iload_n C dRM_led_0 rfl ?_
  refine gt_if_lt 21 C dRM_led_1 (by decide) rfl (fun c1 => kt (Or.inl c1)) (fun c1 => ?_)
  refine g_iload_n C dRM_led_4 rfl ?_
  refine g_aload_n C dRM_led_5 rfl ?_
  refine g_geti C dRM_led_6 fl_RM_309 h0 ?_
  refine gt_icmp_ge 21 C dRM_led_9 (by decide) rfl rfl (fun c9 => kt (Or.inr (Or.inl c9))) (fun c9 => ?_)
  refine g_iload_n C dRM_led_12 rfl ?_
  refine g_aload_n C dRM_led_13 rfl ?_
  refine x_getr C dRM_led_14 fl_RM_78 h0 hV.1 (show sp 8 12 = some 28 from rfl) ?_
  refine gt_alen C dRM_led_17 t12 (by decide) (by decide) (by decide) (n := 240) rfl (fun z e => ?_)
  refine gt_icmp_lt 32 C dRM_led_18 (by decide) rfl e (fun c18 => ?_) (fun c18 => kt (Or.inr (Or.inr c18)))
  refine g_aload_n C dRM_led_32 rfl ?_
  refine x_getr C dRM_led_33 fl_RM_78 h0 hV.1 (show sp 8 12 = some 28 from rfl) ?_
  refine g_iload_n C dRM_led_36 rfl ?_
  refine x_iald (m := 240) C dRM_led_37 t12 (by decide) rfl rfl ⟨by omega, by omega⟩ ?_
  exact kr (fun h => by
    rcases h with h | h | h
    · omega
    · omega
    · omega)
end LEDX
theorem cRM_ledN {P : List Nat} {K : Nat → Nat} {I : WI} {O : WO} {J : WJ} (hV : IV P K I O) {a0 : Nat} (h0 : a0 ∈ P ∧ K a0 = 8) {x1 : Int32} (hN : ¬ LTx I a0 x1) : Con yRM_led bRM_led 2 (some .int) ({ frames := 0, cells := 0, slots := 0, locals := 0 } : Room) P K I O J [.ref a0, .int x1] (EPo (some (.int (I (rf O a0 12) x1.toInt.toNat))) I J P K O) := by
  refine Con.ofG mfRM_led (Nat.le_of_ble_eq_true rfl) ?_
  intro X C E
  refine led_walkX C hV h0 (fun h => absurd h hN) (fun _ => ?_)
  exact x_iret0 C E dRM_led_38 ⟨Nat.zero_le _, Nat.zero_le _⟩ rfl
theorem cRM_ledT {P : List Nat} {K : Nat → Nat} {I : WI} {O : WO} {J : WJ} (hV : IV P K I O) {a0 : Nat} (h0 : a0 ∈ P ∧ K a0 = 8) {x1 : Int32} (hT : LTx I a0 x1) : ConT yRM_led bRM_led 2 (some .int) ({ frames := 6, cells := 1, slots := 6, locals := 82 } : Room) P K I O J [.ref a0, .int x1] (fun _ _ _ _ _ _ => False) := by
  intro l hlt D cy ad sz
  refine vx_ofW (cc := bRM_led) (maxL := 2) (ret := some .int) mfRM_led.2.2.1 rfl ?_
  intro p e s m args below meth c s₁ B hml htb hv
  obtain ⟨⟨rfl, hsz, hP, hK, hD0, hSC⟩, hLT⟩ := hv
  have hts := atoms_spec (ws := Cond.code yRM_led bRM_led 2 (some .int) :: wG) B.pre
  have hown : s.vm.findClass "RoarMill" = some m.cls := findClass_of_methodNamed B.named
  subst hsz
  have hD := hD0.self (sz := s.heap.size)
  have hl := lv_entry [.ref a0, .int x1] (n := 2) (Nat.le_of_ble_eq_true rfl)
  rw [lg_entry_eq]
  have C1 : ∀ Q, Cx (p, l, e, (headSpec (Cond.code yRM_led bRM_led 2 (some .int) :: wG) ({ frames := 6, cells := 1, slots := 6, locals := 82 } : Room)).room, s, m, ([.ref a0, .int x1] : List Value).toArray, below, meth, c, Q, va_A (pw cy P K I O J) s.heap.size, D, cy, ad) bRM_led 2 "RoarMill" ({ frames := 6, cells := 1, slots := 6, locals := 82 } : Room) := fun Q => ⟨⟨B.exec, B.bytes, hml, hown, fun w hw => hts w (List.mem_cons_of_mem _ hw)⟩, hK, fun q h => Or.inr h, B.notSynchronized, hSC, rfl⟩
  refine led_walkX (C1 _) hV h0 (x1 := x1) (fun _ => ?_) (fun h => absurd hT h) _ s.heap [] hl hP hD va_S.rf
  intro ls H locs hl hP hD hS
  refine xt_row (A := va_A (pw cy P K I O J) s.heap.size) B.exec B.bytes hlt hown (fun w hw => hts w (List.mem_cons_of_mem _ hw)) (hSC.2.1 15 _ rfl) hLT hS (hl.1.trans hml.symm) dRM_led_21 dRM_led_24 dRM_led_25 dRM_led_28 dRM_led_31 (fun x hx => absurd hx (htb x)) (by decide) (by decide) (by decide) (by decide) B.notSynchronized ?_ hS.2.2 (Nat.le_refl _) (Nat.le_refl _)
  intro t hal hz hq
  exact ⟨rfl, hP.kept (fun k q hk => hq q.1 ((hP k q hk).lt)), va_K.moved hal hK, Nat.le_trans hS.1 hz, fun q h1 h2 => by rw [hq q (Nat.lt_of_lt_of_le h1 hS.1)]; exact hS.2.1 q h1 h2⟩
def LPo (P : List Nat) (K : Nat → Nat) (I : WI) (O : WO) (J : WJ) (x out : Nat) (x1 : Int32) : PST := fun r P' K' I' O' J' => P' = P ∧ K' = K ∧ O' = O ∧ I' = I ∧ ∃ z : Int32, r = some (.int z) ∧ ((LTx I x x1 ∧ z.toInt = 1 ∧ J' = J) ∨ (¬ LTx I x x1 ∧ z.toInt = 0 ∧ J' = up2 J out 0 (I (rf O x 12) x1.toInt.toNat).toInt64))
theorem cLw_ledX {P : List Nat} {K : Nat → Nat} {I : WI} {O : WO} {J : WJ} (hV : IV P K I O) {a0 a2 : Nat} (h0 : a0 ∈ P ∧ K a0 = 8) (h2 : a2 ∈ P ∧ K a2 = 48) {x1 : Int32} : ConH yLw_led bLw_led 4 (some .int) hLw_led ({ frames := 7, cells := 1, slots := 6, locals := 103 } : Room) P K I O J [.ref a0, .int x1, .ref a2] (LPo P K I O J a0 a2 x1) := by
  intro l hlt D cy ad sz
  refine mt_ofWH (cc := bLw_led) (maxL := 4) (ret := some .int) (hh := hLw_led) (by decide +kernel) rfl ?_
  intro p e s m args below meth c s₁ B hml hv
  obtain ⟨⟨rfl, hsz, hP, hK, hD0, hSC⟩, hLT⟩ := hv
  have hts := atoms_spec (ws := Cond.codeWith yLw_led bLw_led 4 (some .int) hLw_led :: wG) B.pre
  have htab : c.exceptionTable.toList = tableOf hLw_led := vx_table (x := yLw_led) B (hts _ List.mem_cons_self)
  have hown : s.vm.findClass "RoarMillLaw" = some m.cls := findClass_of_methodNamed B.named
  subst hsz
  have hD := hD0.self (sz := s.heap.size)
  have hl := lv_entry [.ref a0, .int x1, .ref a2] (n := 4) (Nat.le_of_ble_eq_true rfl)
  rw [lg_entry_eq]
  generalize hX : ((p, l, e, (headSpec (Cond.codeWith yLw_led bLw_led 4 (some .int) hLw_led :: wG) ({ frames := 7, cells := 1, slots := 6, locals := 103 } : Room)).room, s, m, ([.ref a0, .int x1, .ref a2] : List Value).toArray, below, meth, c, MQ below (QQ D cy (LPo P K I O J a0 a2 x1) (va_A (pw cy P K I O J) s.heap.size)) ([.ref a0, .int x1, .ref a2] : List Value).toArray s 1 6 (va_A (pw cy P K I O J) s.heap.size), va_A (pw cy P K I O J) s.heap.size, D, cy, ad) : CTX) = X
  have C : Cx X bLw_led 4 "RoarMillLaw" ({ frames := 7, cells := 1, slots := 6, locals := 103 } : Room) := by
    subst hX
    exact ⟨⟨B.exec, B.bytes, hml, hown, fun w hw => hts w (List.mem_cons_of_mem _ hw)⟩, hK, fun q h => Or.inr h, B.notSynchronized, hSC, rfl⟩
  have E : Rx X (some .int) (LPo P K I O J a0 a2 x1) ({ frames := 7, cells := 1, slots := 6, locals := 103 } : Room) := by
    subst hX
    exact ⟨rfl, B.returns⟩
  have hLX : LX X := by
    subst hX
    exact ⟨hlt, hLT⟩
  have hg : GG X 4 P K I O J 0 0 0 [(0, .ref a0), (1, .int x1), (2, .ref a2)] [] := by
    refine g_aload_n C dLw_led_0 rfl ?_
    refine g_iconst (v := 0) C dLw_led_1 (by decide) ?_
    refine g_aload_n C dLw_led_2 rfl ?_
    refine g_iload_n C dLw_led_3 rfl ?_
    by_cases hT : LTx I a0 x1
    · refine g_callT (av := [.int x1]) (rest := [.int 0, .ref a2]) C hLX dLw_led_4 mfRM_led mvRM_led wLw_7 h0 (by decide) rfl (cRM_ledT hV h0 hT) rfl rfl (Nat.le_of_ble_eq_true rfl) ⟨by decide, by decide⟩ ⟨by decide, by decide⟩ ?_ (fun _ _ _ _ _ _ h => h.elim)
      refine g_catch ⟨0, 9, 12, 13⟩ (i := 13) C hLX (by subst hX; exact htab) rfl rfl (by decide) wLw_k13 (fun q => ?_)
      refine g_astore_n (i := 3) C dLw_led_12 rfl (by decide) ?_
      refine g_iconst (v := 1) C dLw_led_13 (by decide) ?_
      exact g_iret C E dLw_led_14 (by decide) (by decide) ⟨rfl, rfl, rfl, rfl, _, rfl, Or.inl ⟨hT, by decide, rfl⟩⟩
    · refine g_callV (av := fun _ => [.int x1]) (rest := [.int 0, .ref a2]) C dLw_led_4 mfRM_led mvRM_led (Or.inl wLw_7) h0 (by decide) rfl (cRM_ledN hV h0 hT) rfl rfl (Nat.le_of_ble_eq_true rfl) ⟨by decide, by decide⟩ ⟨by decide, by decide⟩ ?_
      rintro r P' K' I' O' J' ⟨rfl, rfl, rfl, rfl, rfl, rfl⟩
      refine g_i2l C dLw_led_7 ?_
      refine gt_last (n := 1) C dLw_led_8 h2 (by decide) rfl (ii := 0) rfl rfl (by decide) (SV.rf (fr := frL [48]) hV) rfl (fun J1 eJ hV1 => ?_)
      refine g_goto 15 C dLw_led_9 (by decide) ?_
      refine g_iconst (v := 0) C dLw_led_15 (by decide) ?_
      exact g_iret C E dLw_led_16 (by decide) (by decide) ⟨rfl, rfl, rfl, rfl, _, rfl, Or.inr ⟨hT, by decide, eJ⟩⟩
  subst hX
  exact hg _ s.heap [] hl hP hD va_S.rf
section RLED
variable {P : List Nat} {K : Nat → Nat} {N : Nat} {O : WO} {I : WI} {J : WJ}
theorem cMo_thrown {a : Nat} (h0 : a ∈ P ∧ K a = 10) : Con yMo_thrown bMo_thrown 1 (some .int) ({ frames := 0, cells := 0, slots := 0, locals := 0 } : Room) P K I O J [.ref a] (EPo (some (.int (I a 0))) I J P K O) := by
  refine Con.ofG mfMo_thrown (Nat.le_of_ble_eq_true rfl) ?_
  intro X C E
  refine g_aload_n C dMo_thrown_0 rfl ?_
  refine g_geti C dMo_thrown_1 fl_Mo_73 h0 ?_
  exact x_iret0 C E dMo_thrown_4 ⟨Nat.zero_le _, Nat.zero_le _⟩ rfl
theorem r_ledP {a : Nat} {x1 : Int32} (n19 : ¬ rf O a 19 = a) : Pp (F_Mo_led N O I J a x1) (fun q => ((x1.toInt < 0 ∨ (I a 18).toInt ≤ x1.toInt) ∧ (q.2 a 0).toInt = 1) ∨ ((0 ≤ x1.toInt ∧ x1.toInt < (I a 18).toInt) ∧ x1.toInt < 240 ∧ (q.2 a 0).toInt = 0 ∧ q.1 = I (rf O a 19) x1.toInt.toNat)) := by
  unfold F_Mo_led jn lb
  have r1 : ∀ c : x1.toInt < 0 ∨ (I a 18).toInt ≤ x1.toInt, Pp (if ((up2 I a 0 (Int32.ofInt 1)) a 0).toInt ≤ 0 then (if 0 ≤ x1.toInt ∧ x1.toInt < 240 then some ((up2 I a 0 (Int32.ofInt 1)) (rf O a 19) x1.toInt.toNat, up2 I a 0 (Int32.ofInt 1)) else none) else some (Int32.ofInt 0, up2 I a 0 (Int32.ofInt 1))) (fun q => ((x1.toInt < 0 ∨ (I a 18).toInt ≤ x1.toInt) ∧ (q.2 a 0).toInt = 1) ∨ ((0 ≤ x1.toInt ∧ x1.toInt < (I a 18).toInt) ∧ x1.toInt < 240 ∧ (q.2 a 0).toInt = 0 ∧ q.1 = I (rf O a 19) x1.toInt.toNat)) := fun c => by
    refine Pp.ite (fun e => absurd e (by rw [up2_self, k_1]; decide)) (fun _ => Pp.ret (Or.inl ⟨c, ?_⟩))
    show (up2 I a 0 (Int32.ofInt 1) a 0).toInt = 1
    rw [up2_self]; exact k_1
  refine Pp.ite (fun c => r1 (Or.inl c)) (fun c => Pp.ite (fun d => ?_) (fun d => r1 (Or.inr (by omega))))
  refine Pp.ite (fun _ => Pp.g (fun g => Pp.ret (Or.inr ⟨⟨by omega, d⟩, g.2, ?_, ?_⟩))) (fun e => absurd (by rw [up2_self, k_0]; decide) e)
  · show (up2 I a 0 (Int32.ofInt 0) a 0).toInt = 0
    rw [up2_self]; exact k_0
  · show up2 I a 0 (Int32.ofInt 0) (rf O a 19) x1.toInt.toNat = _
    rw [up2_row _ _ n19]
end RLED
