/-- the script lies where nobody writes -/
def SCR (X : CTX) (b Ln : Nat) (xs : Nat → Int32) : Prop := match X with
  | (_, _, _, _, s, _, _, _, _, _, _, A, _, _, _) => va_X b Ln xs s s.heap ∧ b < s.heap.size ∧ ¬ A b
def sv (xs : Nat → Int32) (i : Int32) (k : Int) : Int32 := xs (i + Int32.ofInt k).toNatClampNeg
theorem sidx {i : Int32} {Ln : Nat} (hi : 0 ≤ i.toInt ∧ i.toInt + 7 ≤ (Ln : Int)) (hL : Ln ≤ 3584) {k : Int} (hk : 0 ≤ k ∧ k ≤ 6) : vp_in (i + Int32.ofInt k) Ln := by
  have e0 : (Int32.ofInt k).toInt = k := ofI (by omega)
  have e1 : (i + Int32.ofInt k).toInt = i.toInt + k := by rw [Int32.toInt_add, wr32, e0]; omega
  exact vp_in_iff.mpr (by rw [e1]; omega)
section LROW
variable {X : CTX} {cc : ByteArray} {nL : Nat} {own : String} {rm : Room} {P : List Nat} {K : Nat → Nat} {I : Nat → Nat → Int32} {O : Nat → Nat → Option Nat} {J : Nat → Nat → Int64} {nc ns pc : Nat} {L : List (Nat × Value)} {st : List Value}
theorem g_slen {b Ln : Nat} {xs : Nat → Int32} (C : Cx X cc nL own rm) (hs : SCR X b Ln xs) (d : decode cc pc = .ok (.arraylength, 1)) (k : GG X nL P K I O J nc ns (pc + 1) L (.int (Int32.ofNat Ln) :: st)) : GG X nL P K I O J nc ns pc L (.ref b :: st) := by
  obtain ⟨p, l, e, R, s, m, args, below, meth, c, Q, A, D, cy, ad⟩ := X
  obtain ⟨⟨hx, hb, hml, hown, hts⟩, hK, hA, hlk, hSC, hR⟩ := C
  exact fun ls H locs hl hP hD hS => va_slen hx hb hs.1 hs.2.1 hs.2.2 hS d (k ls H locs hl hP hD hS)
theorem g_sld {b Ln : Nat} {xs : Nat → Int32} {i : Int32} (C : Cx X cc nL own rm) (hs : SCR X b Ln xs) (hi : vp_in i Ln) (d : decode cc pc = .ok (.iaload, 1)) (k : GG X nL P K I O J nc ns (pc + 1) L (.int (xs i.toNatClampNeg) :: st)) : GG X nL P K I O J nc ns pc L (.int i :: .ref b :: st) := by
  obtain ⟨p, l, e, R, s, m, args, below, meth, c, Q, A, D, cy, ad⟩ := X
  obtain ⟨⟨hx, hb, hml, hown, hts⟩, hK, hA, hlk, hSC, hR⟩ := C
  exact fun ls H locs hl hP hD hS => va_sld hx hb hs.1 hs.2.1 hs.2.2 hS hi d (k ls H locs hl hP hD hS)
/-- script[i + k] -/
theorem g_sarg {b Ln : Nat} {xs : Nat → Int32} {i : Int32} {k : Int} (C : Cx X cc nL own rm) (hs : SCR X b Ln xs) (hL : Ln ≤ 3584) (hi : 0 ≤ i.toInt ∧ i.toInt + 7 ≤ (Ln : Int)) (hk : 0 ≤ k ∧ k ≤ 6) (h0 : lkp L 0 = some (.ref b)) (h4 : lkp L 4 = some (.int i)) (d0 : decode cc pc = .ok (.aload_n 0, 1)) (d1 : decode cc (pc + 1) = .ok (.iload 4, 2)) (d3 : decode cc (pc + 3) = .ok (.iconst k, 1)) (d4 : decode cc (pc + 4) = .ok (.iadd, 1)) (d5 : decode cc (pc + 5) = .ok (.iaload, 1)) (kk : GG X nL P K I O J nc ns (pc + 6) L (.int (sv xs i k) :: st)) : GG X nL P K I O J nc ns pc L st :=
  g_aload_n C d0 h0 (g_iload C d1 h4 (g_iconst C d3 rfl (g_iadd C d4 (g_sld C hs (sidx hi hL hk) d5 kk))))
theorem g_sarg6 {b Ln : Nat} {xs : Nat → Int32} {i : Int32} (C : Cx X cc nL own rm) (hs : SCR X b Ln xs) (hL : Ln ≤ 3584) (hi : 0 ≤ i.toInt ∧ i.toInt + 7 ≤ (Ln : Int)) (h0 : lkp L 0 = some (.ref b)) (h4 : lkp L 4 = some (.int i)) (d0 : decode cc pc = .ok (.aload_n 0, 1)) (d1 : decode cc (pc + 1) = .ok (.iload 4, 2)) (d3 : decode cc (pc + 3) = .ok (.bipush 6, 2)) (d4 : decode cc (pc + 5) = .ok (.iadd, 1)) (d5 : decode cc (pc + 6) = .ok (.iaload, 1)) (kk : GG X nL P K I O J nc ns (pc + 7) L (.int (sv xs i 6) :: st)) : GG X nL P K I O J nc ns pc L st :=
  g_aload_n C d0 h0 (g_iload C d1 h4 (g_bipush (v := Int32.ofInt 6) C d3 (by decide) (g_iadd C d4 (g_sld C hs (sidx hi hL ⟨by decide, by decide⟩) d5 kk))))
/-- b != 0 -/
theorem g_nz {x : Int32} (tgt : Nat) (C : Cx X cc nL own rm) (d0 : decode cc pc = .ok (.ifCond .eq 7, 3)) (d3 : decode cc (pc + 3) = .ok (.iconst 1, 1)) (d4 : decode cc (pc + 4) = .ok (.goto 4, 3)) (d7 : decode cc (pc + 7) = .ok (.iconst 0, 1)) (k : ∀ v : Int32, ((¬ x.toInt = 0 ∧ v.toInt = 1) ∨ (x.toInt = 0 ∧ v.toInt = 0)) → GG X nL P K I O J nc ns (pc + 8) L (.int v :: st)) : GG X nL P K I O J nc ns pc L (.int x :: st) :=
  gt_if_eq (pc + 7) C d0 (by omega) rfl (fun c => g_iconst (v := Int32.ofInt 0) C d7 (by decide) (k _ (Or.inr ⟨c, ofI (by decide)⟩))) (fun c => g_iconst (v := Int32.ofInt 1) C d3 (by decide) (g_goto (pc + 8) C d4 (by omega) (k _ (Or.inl ⟨c, ofI (by decide)⟩))))
theorem g_callS2 {idx n nL' : Nat} {y : MethodName} {cc' : ByteArray} {rt' : Option FieldType} {hh : List (Nat × Nat × Nat × Nat)} {rm' : Room} {post : PST} {av : List Value} {rest : List Value} (C : Cx X cc nL own rm) (hLX : LX X) (d : decode cc pc = .ok (.invokestatic idx, 3)) (hcb : Cond.codeWith y cc' nL' rt' hh ∈ wG) (hini : Cond.initialized y.cls ∈ wG) (hcl : y.cls ≠ "java/lang/invoke/MethodHandle" ∧ y.cls ≠ "java/lang/invoke/VarHandle") (hpm : (parseMethodDescriptor y.desc).map (fun d => d.parameters.length) = some n) (hv : Cond.static y ∈ wG) (hl0 : Cond.methodLink own idx y ∈ wG) (hc : ConH y cc' nL' rt' hh rm' P K I O J av post) (hn : av.length = n) (hst : st = av.reverse ++ rest) (hw : (rest.map fun v => v.category).sum ≤ 8) (hR' : rm'.frames + 1 ≤ rm.frames ∧ 8 + (nL' + 11) + rm'.locals ≤ rm.locals) (hro : nc + rm'.cells ≤ rm.cells ∧ ns + rm'.slots ≤ rm.slots)
    (k : ∀ (r : Option Value) (P' : List Nat) (K' : Nat → Nat) (I' : Nat → Nat → Int32) (O' : Nat → Nat → Option Nat) (J' : Nat → Nat → Int64), post r P' K' I' O' J' → GG X nL P' K' I' O' J' (nc + rm'.cells) (ns + rm'.slots) (pc + 3) L (r.toList ++ rest)) : GG X nL P K I O J nc ns pc L st := by
  obtain ⟨p, l, e, R, s, m, args, below, meth, c, Q, A, D, cy, ad⟩ := X
  obtain ⟨⟨hx, hb, hml, hown, hts⟩, hK, hA, hlk, hSC, hR⟩ := C
  obtain ⟨hlt, hLT⟩ := hLX
  subst hR
  intro ls H locs hl hP hD hS T hT X0
  have hFr : ∀ q, va_A (pw cy P K I O J) H.size q → A q := by
    rintro q (⟨k1, e1, h1⟩ | h1)
    · exact hD.2 k1 (q, e1) h1
    · exact hA q (Nat.le_trans hS.1 h1)
  have hp : PreS s H (PPT D cy ad H.size P K I O J av) av := ⟨PPT.blind, fun U hU hW => ⟨⟨rfl, by rw [hU], by rw [hU]; exact hP, va_K.moved hW.alike hK, hD.weaken (fun _ _ _ _ => trivial), hSC.call hS hW hU hFr⟩, hLT.call hS hW hU hFr⟩⟩
  have hgd := wG_in2 hcb
  have hpm' : ∀ sig, parseMethodDescriptor y.desc = some sig → n = sig.parameters.length := fun sig hs => by rw [hs] at hpm; exact (Option.some.inj hpm).symm
  have hws : ∀ w ∈ (Cond.codeWith y cc' nL' rt' hh :: wG), ∀ (a' : Array Value) (U : State), s.WarmedH U.vm → w.before a' U = true := pay_in hts hgd
  have hr := vx_runSW (locs := locs) (cells := nc) (slots := ns) (e := e) (below := below) (meth := meth) (As := av) (rest := rest) (g := F0 m pc ls st) ⟨hx, hb, hml, hown, hts⟩ (hc l hlt D cy ad H.size) ⟨⟨rfl, rfl, hR'.1, hR'.2, hws, List.mem_cons_self⟩, hts _ hcb, hts _ hini, hcl, hpm', hts _ hl0, hts _ hv⟩ hp rfl hn hl.1 hst (lv_room hw) d hro
  obtain ⟨v, st₀, t, T', Lc, h0, X', hL, e1, e2, ⟨⟨r, P', K', I', O', J', hv, hp, hP1, hK1, hD1⟩, hz, hk⟩, stp⟩ := hr T hT X0
  cases hv
  rw [h0] at hz hk
  have hw := k v P' K' I' O' J' hp ls T'.heap (locs ++ Lc) hl (by rw [e1]; exact hP1) (hD1.weaken (fun _ q _ h => hFr q.1 h)) ⟨Nat.le_trans hS.1 (by rw [e1]; exact hz), fun q h1 h2 => by rw [e1, hk q (Nat.lt_of_lt_of_le h1 hS.1) (fun z => h2 (hFr q z))]; exact hS.2.1 q h1 h2, fun q hq => by
    rcases List.mem_append.mp hq with h | h
    · exact hS.2.2 q h
    · exact hFr _ (hL q h)⟩
  obtain ⟨t2, a1, b1⟩ := hw T' rfl X'
  exact ⟨t2, stp t2 a1, b1⟩
/-- a method that makes no cell, by its contract of safety -/
theorem lx_call {idx n nL' κ a rc : Nat} {y : MethodName} {cc' : ByteArray} {rt' : Option FieldType} {rm' : Room} {fr : Nat → Bool} {ρ : Int32 → (Nat → Nat → Int32) → Prop} {av : List Value} {rest : List Value} (C : Cx X cc nL own room_1) (d : decode cc pc = .ok (.invokevirtual idx, 3)) (hm : MF y cc' nL' rt' n) (hv : MV y) (hl0 : LN own idx y) (ha : a ∈ P ∧ K a = κ) (hκ : κ < 11) (hcn : cN κ = y.cls) (hc : Con y cc' nL' rt' rm' P K I O J (.ref a :: av) (SPo fr rc ρ P K I O J)) (hrc : rc = 1 ∨ rc = 2) (hn : av.length = n) (hst : st = av.reverse ++ .ref a :: rest) (hw : (rest.map fun v => v.category).sum ≤ 8) (hR' : Nat.ble (rm'.frames + 1) 2048 = true ∧ Nat.ble (8 + (nL' + 11) + rm'.locals) 84000 = true) (hz : rm'.cells = 0 ∧ rm'.slots = 0) (hro : nc ≤ 601024 ∧ ns ≤ 7293034)
    (k : ∀ (z : Int32) (I' : Nat → Nat → Int32) (J' : Nat → Nat → Int64), IV P K I' O → FR fr K I J I' J' → ρ z I' → GG X nL P K I' O J' nc ns (pc + 3) L (.int z :: rest)) : GG X nL P K I O J nc ns pc L st := by
  refine g_callV (av := fun _ => av) (rest := rest) C d hm hv hl0 ha hκ hcn hc hn hst hw ⟨Nat.le_of_ble_eq_true hR'.1, Nat.le_of_ble_eq_true hR'.2⟩ (by rw [hz.1, hz.2]; exact hro) ?_
  rintro r P' K' I' O' J' ⟨rfl, rfl, rfl, hV, hF, hr⟩
  rw [hz.1, hz.2]
  rcases hrc with rfl | rfl
  · obtain ⟨z, rfl, hq⟩ := hr
    exact k z I' J' hV hF hq
  · obtain ⟨z, rfl, -, hq⟩ := hr
    exact k z I' J' hV hF hq
end LROW
/-- what stands at the law's loop -/
theorem lx_callC {X : CTX} {cc : ByteArray} {nL : Nat} {own : String} {P : List Nat} {K : Nat → Nat} {I : WI} {O : WO} {J : WJ} {nc ns pc : Nat} {L : List (Nat × Value)} {st : List Value} {idx n nL' κ a : Nat} {y : MethodName} {cc' : ByteArray} {rt' : Option FieldType} {rm' : Room} {av : List Value} {rest : List Value} {kp : Nat → Nat → Bool} {Φ : Int32 → WI → WJ → Prop} (C : Cx X cc nL own room_1) (d : decode cc pc = .ok (.invokevirtual idx, 3)) (hm : MF y cc' nL' rt' n) (hv : MV y) (hl0 : LN own idx y) (ha : a ∈ P ∧ K a = κ) (hκ : κ < 11) (hcn : cN κ = y.cls) (hc : DC y cc' nL' rt' rm' P K I O J a av kp Φ) (hn : av.length = n) (hst : st = av.reverse ++ .ref a :: rest) (hw : (rest.map fun v => v.category).sum ≤ 8) (hR' : Nat.ble (rm'.frames + 1) 2048 = true ∧ Nat.ble (8 + (nL' + 11) + rm'.locals) 84000 = true) (hz : rm'.cells = 0 ∧ rm'.slots = 0) (hro : nc ≤ 601024 ∧ ns ≤ 7293034)
    (k : ∀ (z : Int32) (I' : WI) (J' : WJ), IV P K I' O → FQ kp K I J I' J' → Φ z I' J' → GG X nL P K I' O J' nc ns (pc + 3) L (.int z :: rest)) : GG X nL P K I O J nc ns pc L st := by
  obtain ⟨z, I', J', hc, h1, h2, hΦ⟩ := hc
  refine g_callV (av := fun _ => av) (rest := rest) C d hm hv hl0 ha hκ hcn hc hn hst hw ⟨Nat.le_of_ble_eq_true hR'.1, Nat.le_of_ble_eq_true hR'.2⟩ (by rw [hz.1, hz.2]; exact hro) ?_
  rintro r P' K' I2 O' J2 ⟨rfl, rfl, rfl, rfl, rfl, rfl⟩
  rw [hz.1, hz.2]
  exact k z _ _ h1 h2 hΦ
theorem lx_callM {X : CTX} {cc : ByteArray} {nL : Nat} {own : String} {P : List Nat} {K : Nat → Nat} {I : WI} {O : WO} {J : WJ} {nc ns pc : Nat} {L : List (Nat × Value)} {st : List Value} {idx n nL' κ a : Nat} {y : MethodName} {cc' : ByteArray} {rt' : Option FieldType} {rm' : Room} {av : List Value} {rest : List Value} {kp : Nat → Nat → Bool} {Φ : Int32 → WI → WJ → Prop} (C : Cx X cc nL own room_1) (d : decode cc pc = .ok (.invokevirtual idx, 3)) (hm : MF y cc' nL' rt' n) (hv : MV y) (hl0 : LN own idx y) (ha : a ∈ P ∧ K a = κ) (hκ : κ < 11) (hcn : cN κ = y.cls) (hc : DM y cc' nL' rt' rm' P K I O J a av kp Φ) (hn : av.length = n) (hst : st = av.reverse ++ .ref a :: rest) (hw : (rest.map fun v => v.category).sum ≤ 8) (hR' : Nat.ble (rm'.frames + 1) 2048 = true ∧ Nat.ble (8 + (nL' + 11) + rm'.locals) 84000 = true) (hz : rm'.cells = 0 ∧ rm'.slots = 0) (hro : nc ≤ 601024 ∧ ns ≤ 7293034)
    (k : ∀ (z : Int32) (I' : WI) (J' : WJ), IV P K I' O → FQ kp K I J I' J' → RS P K I' O a → (I' a 6).toInt = (I a 6).toInt → Φ z I' J' → GG X nL P K I' O J' nc ns (pc + 3) L (.int z :: rest)) : GG X nL P K I O J nc ns pc L st := by
  obtain ⟨z, I', J', hc, h1, h2, h3, h4, hΦ⟩ := hc
  refine g_callV (av := fun _ => av) (rest := rest) C d hm hv hl0 ha hκ hcn hc hn hst hw ⟨Nat.le_of_ble_eq_true hR'.1, Nat.le_of_ble_eq_true hR'.2⟩ (by rw [hz.1, hz.2]; exact hro) ?_
  rintro r P' K' I2 O' J2 ⟨rfl, rfl, rfl, rfl, rfl, rfl⟩
  rw [hz.1, hz.2]
  exact k z _ _ h1 h2 h3 h4 hΦ
def SPc (O : WO) (x : Nat) : Prop := rf O (rf O x 1) 11 ≠ rf O (rf O x 1) 12 ∧ rf O (rf O x 2) 11 ≠ rf O (rf O x 2) 12
def HT3 (I : WI) (O : WO) (x mo : Nat) : Prop := (I (rf O x 0) 1).toInt = (I mo 6).toInt ∧ (0 ≤ (I mo 6).toInt ∧ (I mo 6).toInt ≤ 700) ∧ ∀ i : Nat, (i : Int) < (I mo 6).toInt → I (rf O (rf O x 0) 0) i = I (rf O mo 5) i ∧ -128 ≤ (I (rf O mo 5) i).toInt ∧ (I (rf O mo 5) i).toInt ≤ 127
def L3 (P : List Nat) (K : Nat → Nat) (I : WI) (O : WO) (x mo out : Nat) : Prop := IV P K I O ∧ (x ∈ P ∧ K x = 8) ∧ (mo ∈ P ∧ K mo = 10) ∧ (out ∈ P ∧ K out = 48) ∧ RS P K I O mo ∧ SPc O x ∧ HT3 I O x mo
theorem L3.cls {P : List Nat} {K : Nat → Nat} {I I' : WI} {O : WO} {J J' : WJ} {x mo out : Nat} {fr : Nat → Bool} (h : L3 P K I O x mo out) (hV : IV P K I' O) (hF : FR fr K I J I' J') (h5 : fr 5 = true) (h15 : fr 15 = true) (h9 : fr 9 = true) (h10 : fr 10 = true) (h30 : fr 30 = true) (h31 : fr 31 = true) : L3 P K I' O x mo out := by
  obtain ⟨-, hx, hm, ho, hR, hS, hH⟩ := h
  have t0 := rf_ok hV.1 hx (show sp 8 0 = some 5 from rfl)
  have tt := rf_ok hV.1 t0 (show sp 5 0 = some 15 from rfl)
  have t5 := rf_ok hV.1 hm (show sp 10 5 = some 30 from rfl)
  have t16 := rf_ok hV.1 hm (show sp 10 16 = some 31 from rfl)
  have e1 := (hF _ (by rw [t0.2]; exact h5)).1
  have e2 := (hF _ (by rw [tt.2]; exact h15)).1
  have e3 := (hF _ (by rw [t5.2]; exact h30)).1
  have e4 := (hF _ (by rw [hm.2]; exact h10)).1
  have e5 := (hF _ (by rw [t16.2]; exact h31)).1
  refine ⟨hV, hx, hm, ho, hR.keep1 hF h9 ?_, hS, ?_⟩
  · rw [e4, e5]; exact hR.2
  · unfold HT3
    rw [e1, e4]
    refine ⟨hH.1, hH.2.1, fun i hi => ?_⟩
    rw [e2, e3]; exact hH.2.2 i hi
theorem L3.ref {P : List Nat} {K : Nat → Nat} {I I' : WI} {O : WO} {J J' : WJ} {x mo out : Nat} (h : L3 P K I O x mo out) (hV : IV P K I' O) (hF : FR frM2 K I J I' J') (hR' : RS P K I' O mo) (h6 : (I' mo 6).toInt = (I mo 6).toInt) : L3 P K I' O x mo out := by
  obtain ⟨-, hx, hm, ho, hR, hS, hH⟩ := h
  have t0 := rf_ok hV.1 hx (show sp 8 0 = some 5 from rfl)
  have tt := rf_ok hV.1 t0 (show sp 5 0 = some 15 from rfl)
  have t5 := rf_ok hV.1 hm (show sp 10 5 = some 30 from rfl)
  have e1 := (hF _ (by rw [t0.2]; rfl)).1
  have e2 := (hF _ (by rw [tt.2]; rfl)).1
  have e3 := (hF _ (by rw [t5.2]; rfl)).1
  refine ⟨hV, hx, hm, ho, hR', hS, ?_⟩
  unfold HT3
  rw [e1, h6]
  refine ⟨hH.1, hH.2.1, fun i hi => ?_⟩
  rw [e2, e3]; exact hH.2.2 i hi
/-- what the class and the reference have alike: the fault, its place, the mill's sizes and ores, the numbers of a try -/
def AL (I : WI) (O : WO) (x mo : Nat) : Prop := (I x 15).toInt = (I mo 13).toInt ∧ (((I x 14).toInt = 4 ∧ (I x 16).toInt = (I mo 2).toInt) ∨ (¬ (I x 14).toInt = 4 ∧ (I mo 2).toInt = -1)) ∧ ((O mo 3 = none ∧ (I (rf O x 1) 7).toInt = 0 ∧ (I (rf O x 1) 8).toInt = 0) ∨ (¬ O mo 3 = none ∧ (I (rf O x 1) 7).toInt = (I (rf O mo 3) 8).toInt ∧ (I (rf O x 1) 8).toInt = (I (rf O mo 3) 9).toInt ∧ 2 ≤ (I (rf O mo 3) 8).toInt)) ∧ (I (rf O x 9) 3).toInt = (I (rf O mo 33) 0).toInt ∧ (I (rf O x 9) 4).toInt = (I (rf O mo 33) 1).toInt
def L4 (P : List Nat) (K : Nat → Nat) (I : WI) (O : WO) (x mo out : Nat) : Prop := L3 P K I O x mo out ∧ (∃ Q, OW Q P O x mo) ∧ AL I O x mo
theorem FQ.mL_2 {K : Nat → Nat} {I I' : WI} {J J' : WJ} (h : FQ mL K I J I' J') : FR frM2 K I J I' J' := FQ.fr (h.le (kp2 := mN) (kpL_le (frL_le (by decide)) rfl))
theorem FQ.mS_2 {K : Nat → Nat} {I I' : WI} {J J' : WJ} (h : FQ mS K I J I' J') : FR frM2 K I J I' J' := FQ.fr (h.le (kp2 := mN) (kpL_le (frL_le (by decide)) rfl))
theorem FQ.mN_2 {K : Nat → Nat} {I I' : WI} {J J' : WJ} (h : FQ mN K I J I' J') : FR frM2 K I J I' J' := FQ.fr h
theorem FQ.mC_2 {K : Nat → Nat} {I I' : WI} {J J' : WJ} (h : FQ mC K I J I' J') : FR frM2 K I J I' J' := FQ.fr h
theorem FQ.kD_C {K : Nat → Nat} {I I' : WI} {J J' : WJ} (h : FQ kD K I J I' J') : FQ kG K I J I' J' := h.le (kpL_le (fun _ h => h) rfl)
theorem FQ.kC_N {K : Nat → Nat} {I I' : WI} {J J' : WJ} (h : FQ kG K I J I' J') : FQ kZ K I J I' J' := h.le (kpL_le (fun _ h => h) rfl)
theorem FQ.kT_N {K : Nat → Nat} {I I' : WI} {J J' : WJ} (h : FQ kT K I J I' J') : FQ kZ K I J I' J' := h.le (kpL_le (fun _ h => h) rfl)
theorem FQ.mS_N {K : Nat → Nat} {I I' : WI} {J J' : WJ} (h : FQ mS K I J I' J') : FQ mN K I J I' J' := h.le (kpL_le (frL_le (by decide)) rfl)
theorem FQ.mL_S {K : Nat → Nat} {I I' : WI} {J J' : WJ} (h : FQ mL K I J I' J') : FQ mS K I J I' J' := h.le (kpL_le (fun _ h => h) rfl)
theorem FQ.mC_N {K : Nat → Nat} {I I' : WI} {J J' : WJ} (h : FQ mC K I J I' J') : FQ mN K I J I' J' := h.le (kpL_le (fun _ h => h) rfl)
theorem AL.same {I I2 : WI} {O : WO} {x mo : Nat} (h : AL I O x mo) (e14 : I2 x 14 = I x 14) (e15 : I2 x 15 = I x 15) (e16 : I2 x 16 = I x 16) (f13 : I2 mo 13 = I mo 13) (f2 : I2 mo 2 = I mo 2) (c : I2 (rf O x 1) = I (rf O x 1)) (m : ¬ O mo 3 = none → I2 (rf O mo 3) = I (rf O mo 3)) (t : I2 (rf O x 9) = I (rf O x 9)) (r : I2 (rf O mo 33) = I (rf O mo 33)) : AL I2 O x mo := by
  unfold AL at h ⊢
  rw [e14, e15, e16, f13, f2, c, t, r]
  obtain ⟨h1, h2, h3, h4, h5⟩ := h
  refine ⟨h1, h2, ?_, h4, h5⟩
  rcases h3 with w | ⟨w1, w2⟩
  · exact Or.inl w
  · exact Or.inr ⟨w1, by rw [m w1]; exact w2⟩
section LFOUR
variable {P : List Nat} {K : Nat → Nat} {I I1 I2 : WI} {O : WO} {J J1 J2 : WJ} {x mo out : Nat}
theorem L4.led (hj : L4 P K I O x mo out) (hF : FR (frL [48]) K I J I1 J1) : AL I1 O x mo := by
  obtain ⟨⟨hV, hx, hm, ho, hR, hS, hH⟩, hQ, hA⟩ := hj
  have kk : ∀ b κ, K b = κ → frL [48] κ = true → I1 b = I b := fun b κ h1 h2 => by funext k; exact (hF b (by rw [h1]; exact h2)).1 k
  have kx := kk x 8 hx.2 rfl
  have km := kk mo 10 hm.2 rfl
  refine hA.same (by rw [kx]) (by rw [kx]) (by rw [kx]) (by rw [km]) (by rw [km]) (kk _ 3 (rf_ok hV.1 hx (show sp 8 1 = some 3 from rfl)).2 rfl) (fun q => ?_) (kk _ 7 (rf_ok hV.1 hx (show sp 8 9 = some 7 from rfl)).2 rfl) (kk _ 39 (rf_ok hV.1 hm (show sp 10 33 = some 39 from rfl)).2 rfl)
  rcases hR.1 with w | ⟨w, _⟩
  · exact absurd w q
  · exact kk _ 9 w.2.2 rfl
theorem L4.step (hj : L4 P K I O x mo out) (hF1 : FQ kZ K I J I1 J1) (hF2 : FQ mN K I1 J1 I2 J2) (hb : ((I1 x 14).toInt = 4 ∧ (I x 16).toInt = (I2 mo 2).toInt) ∨ (¬ (I1 x 14).toInt = 4 ∧ (I2 mo 2).toInt = -1)) (h3 : (I1 (rf O x 9) 3).toInt = (I2 (rf O mo 33) 0).toInt) (h4 : (I1 (rf O x 9) 4).toInt = (I2 (rf O mo 33) 1).toInt) : AL I2 O x mo := by
  obtain ⟨⟨hV, hx, hm, ho, hR, hS, hH⟩, hQ, a1, a2, a3, a4, a5⟩ := hj
  have t1 := rf_ok hV.1 hx (show sp 8 1 = some 3 from rfl)
  have t9 := rf_ok hV.1 hx (show sp 8 9 = some 7 from rfl)
  have e : ∀ k, I2 x k = I1 x k := fun k => (hF2 x k (by rw [hx.2]; rfl)).1
  have c : ∀ k, I2 (rf O x 1) k = I (rf O x 1) k := fun k => (hF2 _ k (by rw [t1.2]; rfl)).1.trans (hF1 _ k (by rw [t1.2]; rfl)).1
  have t : ∀ k, I2 (rf O x 9) k = I1 (rf O x 9) k := fun k => (hF2 _ k (by rw [t9.2]; rfl)).1
  have m : ¬ O mo 3 = none → ∀ k, I2 (rf O mo 3) k = I (rf O mo 3) k := fun q k => by
    rcases hR.1 with w | ⟨w, _⟩
    · exact absurd w q
    · exact (hF2 _ k (by rw [w.2.2]; rfl)).1.trans (hF1 _ k (by rw [w.2.2]; rfl)).1
  refine ⟨?_, ?_, ?_, ?_, ?_⟩
  · rw [e, (hF1 x 15 (by rw [hx.2]; rfl)).1, (hF2 mo 13 (by rw [hm.2]; rfl)).1, (hF1 mo 13 (by rw [hm.2]; rfl)).1]; exact a1
  · rw [e, e, (hF1 x 16 (by rw [hx.2]; rfl)).1]; exact hb
  · rcases a3 with ⟨w1, w2⟩ | ⟨w1, w2⟩
    · exact Or.inl ⟨w1, by rw [c, c]; exact w2⟩
    · exact Or.inr ⟨w1, by rw [c, c, m w1, m w1]; exact w2⟩
  · rw [t]; exact h3
  · rw [t]; exact h4
theorem L4.tr (hj : L4 P K I O x mo out) (hF1 : FQ kG K I J I1 J1) (hF2 : FQ mS K I1 J1 I2 J2) : (I1 (rf O x 9) 3).toInt = (I2 (rf O mo 33) 0).toInt ∧ (I1 (rf O x 9) 4).toInt = (I2 (rf O mo 33) 1).toInt := by
  obtain ⟨⟨hV, hx, hm, ho, hR, hS, hH⟩, hQ, a1, a2, a3, a4, a5⟩ := hj
  have t9 := rf_ok hV.1 hx (show sp 8 9 = some 7 from rfl)
  have t33 := rf_ok hV.1 hm (show sp 10 33 = some 39 from rfl)
  rw [(hF1 _ 3 (by rw [t9.2]; rfl)).1, (hF1 _ 4 (by rw [t9.2]; rfl)).1, (hF2 _ 0 (by rw [t33.2]; rfl)).1, (hF2 _ 1 (by rw [t33.2]; rfl)).1, (hF1 _ 0 (by rw [t33.2]; rfl)).1, (hF1 _ 1 (by rw [t33.2]; rfl)).1]
  exact ⟨a4, a5⟩
theorem L4.set (hj : L4 P K I O x mo out) (_ : IV P K I1 O) (_ : IV P K I2 O) (hF1 : FQ kG K I J I1 J1) (hF2 : FQ mS K I1 J1 I2 J2) (h14 : ¬ (I1 x 14).toInt = 4) (h2 : (I2 mo 2).toInt = -1) : AL I2 O x mo :=
  hj.step (FQ.kC_N hF1) (FQ.mS_N hF2) (Or.inr ⟨h14, h2⟩) (hj.tr hF1 hF2).1 (hj.tr hF1 hF2).2
theorem L4.kept (hj : L4 P K I O x mo out) (h14 : I1 x 14 = I x 14) (h2 : I2 mo 2 = I mo 2) : ((I1 x 14).toInt = 4 ∧ (I x 16).toInt = (I2 mo 2).toInt) ∨ (¬ (I1 x 14).toInt = 4 ∧ (I2 mo 2).toInt = -1) := by
  rw [h14, h2]; exact hj.2.2.2.1
theorem L4.leave (hj : L4 P K I O x mo out) (_ : IV P K I1 O) (_ : IV P K I2 O) (hF1 : FQ kD K I J I1 J1) (hF2 : FQ mL K I1 J1 I2 J2) : AL I2 O x mo := by
  have hx := hj.1.2.1
  have hm := hj.1.2.2.1
  exact hj.step (FQ.kC_N (FQ.kD_C hF1)) (FQ.mS_N (FQ.mL_S hF2)) (hj.kept (hF1 x 14 (by rw [hx.2]; rfl)).1 ((hF2 mo 2 (by rw [hm.2]; rfl)).1.trans (hF1 mo 2 (by rw [hm.2]; rfl)).1)) (hj.tr (FQ.kD_C hF1) (FQ.mL_S hF2)).1 (hj.tr (FQ.kD_C hF1) (FQ.mL_S hF2)).2
/-- the reference's fields that answers rest on, behind the class's call -/
theorem L4.moe (hj : L4 P K I O x mo out) (hF1 : FQ kZ K I J I1 J1) : (I1 mo 13).toInt = (I mo 13).toInt ∧ (I1 mo 2).toInt = (I mo 2).toInt ∧ (I1 (rf O mo 33) 0).toInt = (I (rf O mo 33) 0).toInt ∧ (I1 (rf O mo 33) 1).toInt = (I (rf O mo 33) 1).toInt ∧ (¬ O mo 3 = none → (I1 (rf O mo 3) 8).toInt = (I (rf O mo 3) 8).toInt ∧ (I1 (rf O mo 3) 9).toInt = (I (rf O mo 3) 9).toInt) := by
  obtain ⟨⟨hV, hx, hm, ho, hR, hS, hH⟩, hQ, a1, a2, a3, a4, a5⟩ := hj
  have t33 := rf_ok hV.1 hm (show sp 10 33 = some 39 from rfl)
  refine ⟨by rw [(hF1 mo 13 (by rw [hm.2]; rfl)).1], by rw [(hF1 mo 2 (by rw [hm.2]; rfl)).1], by rw [(hF1 _ 0 (by rw [t33.2]; rfl)).1], by rw [(hF1 _ 1 (by rw [t33.2]; rfl)).1], fun q => ?_⟩
  rcases hR.1 with w | ⟨w, _⟩
  · exact absurd w q
  · exact ⟨by rw [(hF1 _ 8 (by rw [w.2.2]; rfl)).1], by rw [(hF1 _ 9 (by rw [w.2.2]; rfl)).1]⟩
end LFOUR
theorem FQ.kC_G {K : Nat → Nat} {I I' : WI} {J J' : WJ} (h : FQ kC K I J I' J') : FQ kG K I J I' J' := h.le (kpL_le (fun _ h => h) rfl)
theorem FQ.kN_Z {K : Nat → Nat} {I I' : WI} {J J' : WJ} (h : FQ kN K I J I' J') : FQ kZ K I J I' J' := h.le (kpL_le (fun _ h => h) rfl)
/-! states alike: drums, settings, ledgers -/
theorem SI.cg {M : MM} {σ σ' : Nat → Int} (h : SI M σ) (e : ∀ k, k < 34 → σ' k = σ k) : SI M σ' := by
  obtain ⟨s1, s2, s3, s4, s5', s6, s7, s8, s9, s10⟩ := h
  have ss : s5 σ' = s5 σ := by
    show σ' 0 + σ' 1 + σ' 2 + σ' 3 + σ' 4 = σ 0 + σ 1 + σ 2 + σ 3 + σ 4
    rw [e 0 (by decide), e 1 (by decide), e 2 (by decide), e 3 (by decide), e 4 (by decide)]
  have sb : s5 (fun k => σ' (5 + k)) = s5 (fun k => σ (5 + k)) := by
    show σ' 5 + σ' 6 + σ' 7 + σ' 8 + σ' 9 = σ 5 + σ 6 + σ 7 + σ 8 + σ 9
    rw [e 5 (by decide), e 6 (by decide), e 7 (by decide), e 8 (by decide), e 9 (by decide)]
  refine ⟨fun k hk => by rw [e k (by omega), e (5 + k) (by omega)]; exact s1 k hk, by rw [ss, sb]; exact s2, by rw [ss, sb, e 26 (by decide)]; exact s3, by rw [e 26 (by decide)]; exact s4, by rw [e 27 (by decide)]; exact s5', by rw [e 24 (by decide), e 27 (by decide)]; exact s6, by rw [e 25 (by decide)]; exact s7, by rw [e 20 (by decide)]; exact s8, fun k hk => by rw [e k (by omega), e 27 (by decide)]; exact s9 k hk, fun k hk hz => by rw [e k (by omega), e (5 + k) (by omega), e (10 + k) (by omega), e (15 + k) (by omega)]; exact s10 k hk hz⟩
theorem DRs.cg {I : WI} {O : WO} {d : Nat} {σ σ' : Nat → Int} (h : DRs I O d σ) (e : ∀ k, k < 34 → σ' k = σ k) : DRs I O d σ' := by
  obtain ⟨i0, i20, i21, i22, i23, i24, i25, i26, i27, i28, i29, i30, i31, i32, i33⟩ := h
  exact ⟨fun k hk => by rw [e k (by omega), e (5 + k) (by omega), e (10 + k) (by omega), e (15 + k) (by omega)]; exact i0 k hk, by rw [e 20 (by decide)]; exact i20, by rw [e 21 (by decide)]; exact i21, by rw [e 22 (by decide)]; exact i22, by rw [e 23 (by decide)]; exact i23, by rw [e 24 (by decide)]; exact i24, by rw [e 25 (by decide)]; exact i25, by rw [e 26 (by decide)]; exact i26, by rw [e 27 (by decide)]; exact i27, by rw [e 28 (by decide)]; exact i28, by rw [e 29 (by decide)]; exact i29, by rw [e 30 (by decide)]; exact i30, by rw [e 31 (by decide)]; exact i31, by rw [e 32 (by decide)]; exact i32, by rw [e 33 (by decide)]; exact i33⟩
theorem DRs.fr {I I2 : WI} {O : WO} {d : Nat} {σ : Nat → Int} (h : DRs I O d σ) (f : ∀ b, WD O d b → I2 b = I b) : DRs I2 O d σ := by
  obtain ⟨g0, g1⟩ := h
  refine ⟨fun k hk => ?_, ?_⟩
  · rw [f _ (Or.inr (Or.inl rfl)), f _ (Or.inr (Or.inr (Or.inl rfl))), f _ (Or.inr (Or.inr (Or.inr (Or.inl rfl)))), f _ (Or.inr (Or.inr (Or.inr (Or.inr rfl))))]; exact g0 k hk
  · rw [f _ (Or.inl rfl)]; exact g1
theorem TB.wd {O : WO} {x b : Nat} (h : WD O (rf O x 3) b) : TB O x b := by
  rcases h with h | h | h | h | h
  · exact Or.inr (Or.inr (Or.inl h))
  · exact Or.inr (Or.inr (Or.inr (Or.inr (Or.inl ⟨0, by decide, h⟩))))
  · exact Or.inr (Or.inr (Or.inr (Or.inr (Or.inl ⟨1, by decide, h⟩))))
  · exact Or.inr (Or.inr (Or.inr (Or.inr (Or.inl ⟨2, by decide, h⟩))))
  · exact Or.inr (Or.inr (Or.inr (Or.inr (Or.inr (Or.inl h)))))
def BR (I : WI) (O : WO) (x mo : Nat) : Prop := ∃ (M : MM) (t : GT), GC I O x t ∧ GR I O mo t ∧ ((I (rf O x 4) 0).toInt = t.1 34 ∧ (I (rf O x 4) 1).toInt = t.1 35 ∧ (I (rf O x 4) 2).toInt = t.1 36) ∧ (t.1 26 = 0 ∨ t.1 26 = 1) ∧ (¬ O mo 3 = none → MB M ∧ CMl I O (rf O x 1) M ∧ RMl I O (rf O mo 3) M ∧ GI M t ∧ ST3 M (t.1 34) (t.1 35) (t.1 36) ∧ t.2.2.2 = 0 ∧ t.1 27 ≤ 240)
theorem BR.keep {I I2 : WI} {O : WO} {x mo : Nat} (h : BR I O x mo) (c : ∀ b, TB O x b → I2 b = I b) (h13 : I2 x 13 = I x 13) (r16 : I2 (rf O mo 16) = I (rf O mo 16)) (r19 : I2 (rf O mo 19) = I (rf O mo 19)) (r18 : I2 mo 18 = I mo 18) (rF : ¬ O mo 3 = none → I2 (rf O mo 3) = I (rf O mo 3) ∧ ∀ j, j < 5 → I2 (rf O (rf O mo 3) (11 + j)) = I (rf O (rf O mo 3) (11 + j))) : BR I2 O x mo := by
  obtain ⟨M, t, ⟨c1, c2, c3⟩, ⟨g1, g2, g3⟩, hs, h26, hm⟩ := h
  have t4 : TB O x (rf O x 4) := Or.inr (Or.inr (Or.inr (Or.inr (Or.inr (Or.inr (Or.inl rfl))))))
  have t12 : TB O x (rf O x 12) := Or.inr (Or.inr (Or.inr (Or.inr (Or.inr (Or.inr (Or.inr rfl))))))
  refine ⟨M, t, ⟨c1.fr (fun b hb => c b (TB.wd hb)), by rw [h13]; exact c2, fun j hj => by rw [c _ t12]; exact c3 j hj⟩, ⟨fun k hk => by rw [r16]; exact g1 k hk, by rw [r18]; exact g2, fun j hj => by rw [r19]; exact g3 j hj⟩, by rw [c _ t4]; exact hs, h26, fun q => ?_⟩
  obtain ⟨m1, m2, m3, m4, m5⟩ := hm q
  refine ⟨m1, ⟨fun k hk => by rw [c _ (Or.inl rfl)]; exact m2.1 k hk, fun j i hj hi => by rw [c _ (Or.inr (Or.inl ⟨j, hj, rfl⟩))]; exact m2.2 j i hj hi⟩, ⟨by rw [(rF q).1]; exact m3.1, fun j i hj hi => by rw [(rF q).2 j hj]; exact m3.2 j i hj hi⟩, m4, m5⟩
def mB : Nat → Nat → Bool := kpL (frL [10, 33, 34, 35, 36, 37, 38, 39, 40, 41, 49, 50]) [(10, 18)]
def L5 (P : List Nat) (K : Nat → Nat) (I : WI) (O : WO) (x mo out : Nat) : Prop := L4 P K I O x mo out ∧ BR I O x mo
theorem kpL_fr {fr : Nat → Bool} {ex : List (Nat × Nat)} {κ k : Nat} (h : fr κ = true) : kpL fr ex κ k = true := by unfold kpL; rw [h]; rfl
section LFIVE
variable {P : List Nat} {K : Nat → Nat} {I I1 I2 : WI} {O : WO} {J J1 J2 : WJ} {x mo out : Nat}
theorem TB.cls {b : Nat} (hT : TR P K O) (hx : x ∈ P ∧ K x = 8) (h : TB O x b) : K b = 0 ∨ K b = 2 ∨ K b = 3 ∨ (11 ≤ K b ∧ K b ≤ 14) ∨ K b = 18 ∨ K b = 28 := by
  have t1 := rf_ok hT hx (show sp 8 1 = some 3 from rfl)
  have t3 := rf_ok hT hx (show sp 8 3 = some 0 from rfl)
  have t4 := rf_ok hT hx (show sp 8 4 = some 18 from rfl)
  have t12 := rf_ok hT hx (show sp 8 12 = some 28 from rfl)
  have t30 := rf_ok hT t3 (show sp 0 0 = some 2 from rfl)
  have t31 := rf_ok hT t3 (show sp 0 1 = some 11 from rfl)
  rcases h with h | ⟨j, hj, h⟩ | h | h | ⟨j, hj, h⟩ | h | h | h
  · rw [h, t1.2]; decide
  · rw [h]
    have : j = 0 ∨ j = 1 ∨ j = 2 ∨ j = 3 ∨ j = 4 := by omega
    rcases this with rfl | rfl | rfl | rfl | rfl
    · rw [(rf_ok hT t1 (show sp 3 (10 + 0) = some 13 from rfl)).2]; decide
    · rw [(rf_ok hT t1 (show sp 3 (10 + 1) = some 11 from rfl)).2]; decide
    · rw [(rf_ok hT t1 (show sp 3 (10 + 2) = some 11 from rfl)).2]; decide
    · rw [(rf_ok hT t1 (show sp 3 (10 + 3) = some 12 from rfl)).2]; decide
    · rw [(rf_ok hT t1 (show sp 3 (10 + 4) = some 14 from rfl)).2]; decide
  · rw [h, t3.2]; decide
  · rw [h, t30.2]; decide
  · rw [h]
    have : j = 0 ∨ j = 1 ∨ j = 2 := by omega
    rcases this with rfl | rfl | rfl
    · rw [(rf_ok hT t30 (show sp 2 0 = some 11 from rfl)).2]; decide
    · rw [(rf_ok hT t30 (show sp 2 1 = some 11 from rfl)).2]; decide
    · rw [(rf_ok hT t30 (show sp 2 2 = some 11 from rfl)).2]; decide
  · rw [h, t31.2]; decide
  · rw [h, t4.2]; decide
  · rw [h, t12.2]; decide
theorem frB_c : ∀ κ, κ < 29 → κ ≠ 10 → frL [10, 33, 34, 35, 36, 37, 38, 39, 40, 41, 49, 50] κ = true := by decide
/-- the cells of the reference's mill -/
theorem RS.cells {F : Nat} (hT : TR P K O) (hF : F ∈ P ∧ K F = 9) : ∀ j, j < 5 → ∃ κ, K (rf O F (11 + j)) = κ ∧ 42 ≤ κ ∧ κ ≤ 45 := fun j hj => by
  have : j = 0 ∨ j = 1 ∨ j = 2 ∨ j = 3 ∨ j = 4 := by omega
  rcases this with rfl | rfl | rfl | rfl | rfl
  · exact ⟨_, (rf_ok hT hF (show sp 9 (11 + 0) = some 42 from rfl)).2, by decide, by decide⟩
  · exact ⟨_, (rf_ok hT hF (show sp 9 (11 + 1) = some 43 from rfl)).2, by decide, by decide⟩
  · exact ⟨_, (rf_ok hT hF (show sp 9 (11 + 2) = some 43 from rfl)).2, by decide, by decide⟩
  · exact ⟨_, (rf_ok hT hF (show sp 9 (11 + 3) = some 44 from rfl)).2, by decide, by decide⟩
  · exact ⟨_, (rf_ok hT hF (show sp 9 (11 + 4) = some 45 from rfl)).2, by decide, by decide⟩
theorem frK_m : ∀ κ, 42 ≤ κ → κ ≤ 45 → frK κ = true ∧ frL [10, 33, 34, 35, 36, 37, 38, 39, 40, 41, 49, 50] κ = true := fun κ h1 h2 => by
  have : κ = 42 ∨ κ = 43 ∨ κ = 44 ∨ κ = 45 := by omega
  rcases this with rfl | rfl | rfl | rfl <;> exact ⟨rfl, rfl⟩
theorem L5.keep (hj : L5 P K I O x mo out) (hF1 : FR frK K I J I1 J1) (c : ∀ b, TB O x b → I1 b = I b) (h13 : I1 x 13 = I x 13) (hF2 : FQ mB K I1 J1 I2 J2) : BR I2 O x mo := by
  obtain ⟨⟨⟨hV, hx, hm, ho, hR, hS, hH⟩, hQ, hA⟩, hB⟩ := hj
  have t16 := rf_ok hV.1 hm (show sp 10 16 = some 31 from rfl)
  have t19 := rf_ok hV.1 hm (show sp 10 19 = some 32 from rfl)
  refine hB.keep (fun b hb => ?_) ?_ ?_ ?_ ?_ (fun q => ?_)
  · have l := hb.cls hV.1 hx
    funext k
    rw [(hF2 b k (kpL_fr (frB_c _ (by omega) (by omega)))).1, c b hb]
  · rw [(hF2 x 13 (by rw [hx.2]; rfl)).1]; exact h13
  · funext k; rw [(hF2 _ k (by rw [t16.2]; rfl)).1, (hF1 _ (by rw [t16.2]; rfl)).1 k]
  · funext k; rw [(hF2 _ k (by rw [t19.2]; rfl)).1, (hF1 _ (by rw [t19.2]; rfl)).1 k]
  · rw [(hF2 mo 18 (by rw [hm.2]; rfl)).1, (hF1 mo (by rw [hm.2]; rfl)).1 18]
  · rcases hR.1 with w | ⟨w, _⟩
    · exact absurd w q
    · refine ⟨by funext k; rw [(hF2 _ k (by rw [w.2.2]; rfl)).1, (hF1 _ (by rw [w.2.2]; rfl)).1 k], fun j hj2 => ?_⟩
      obtain ⟨κ, k1, k2, k3⟩ := RS.cells hV.1 w.2 j hj2
      have fk := frK_m κ k2 k3
      funext k
      rw [(hF2 _ k (by rw [k1]; exact kpL_fr fk.2)).1, (hF1 _ (by rw [k1]; exact fk.1)).1 k]
end LFIVE
section LSET
variable {P : List Nat} {K : Nat → Nat} {I I1 I2 : WI} {O : WO} {J J1 J2 : WJ} {x mo out : Nat}
theorem L5.setB (hj : L5 P K I O x mo out) (h13 : I1 x 13 = I x 13) (hF1 : FR frK K I J I1 J1) (h18 : I2 mo 18 = I1 mo 18) {z1 z2 x1 x2 x3 : Int32}
    (q1 : (z1.toInt = 1 ∧ (¬ rf O x 4 = x → I1 (rf O x 4) 0 = x1 ∧ I1 (rf O x 4) 1 = x2 ∧ I1 (rf O x 4) 2 = x3) ∧ (∀ b, ¬ b = x → ¬ b = rf O x 4 → I1 b = I b)) ∨ (z1.toInt = 0 ∧ ∀ b, ¬ b = x → I1 b = I b))
    (q2 : (z2.toInt = 1 ∧ (¬ rf O mo 16 = mo → I2 (rf O mo 16) 34 = x1 ∧ I2 (rf O mo 16) 35 = x2 ∧ I2 (rf O mo 16) 36 = x3 ∧ ∀ k, k < 34 → I2 (rf O mo 16) k = I1 (rf O mo 16) k) ∧ (∀ b, ¬ b = mo → ¬ b = rf O mo 16 → I2 b = I1 b)) ∨ (z2.toInt = 0 ∧ ∀ b, ¬ b = mo → I2 b = I1 b))
    (hz : z1.toInt = z2.toInt) (rb : z1.toInt = 1 → (0 ≤ x1.toInt ∧ x1.toInt ≤ 3) ∧ (0 ≤ x2.toInt ∧ x2.toInt ≤ 3) ∧ 0 ≤ x3.toInt ∧ x3.toInt < (I (rf O x 1) 8).toInt) : BR I2 O x mo := by
  obtain ⟨⟨⟨hV, hx, hm, ho, hR, hS, hH⟩, ⟨Q0, hQ0⟩, hA⟩, hB⟩ := hj
  obtain ⟨sd1, ⟨sd2, sd3, sd4⟩, ⟨sn1, sn2, sn3, sn4, sn5, sn6, sn7⟩, sd5, sd6⟩ := sep_all hV.1 hx hQ0
  have nlb : ∀ {c d κ κ' : Nat}, K c = κ → K d = κ' → κ ≠ κ' → ¬ c = d := fun h1 h2 h3 z => h3 (by rw [← h1, ← h2, z])
  have t16 := rf_ok hV.1 hm (show sp 10 16 = some 31 from rfl)
  have t19 := rf_ok hV.1 hm (show sp 10 19 = some 32 from rfl)
  have n16 : ¬ rf O mo 16 = mo := nlb t16.2 hm.2 (by decide)
  have tbm : ∀ b, TB O x b → ¬ b = mo ∧ ¬ b = rf O mo 16 ∧ ¬ b = x := fun b hb => by
    have l := hb.cls hV.1 hx
    exact ⟨fun z => by rw [z, hm.2] at l; omega, fun z => by rw [z, t16.2] at l; omega, fun z => (hb.own2 hV.1 hx).1 (by rw [z]; exact hx.2)⟩
  have nxm : ¬ x = mo := nlb hx.2 hm.2 (by decide)
  have nxS : ¬ x = rf O mo 16 := nlb hx.2 t16.2 (by decide)
  have rFm : ¬ O mo 3 = none → (¬ rf O mo 3 = mo ∧ ¬ rf O mo 3 = rf O mo 16) ∧ (I1 (rf O mo 3) = I (rf O mo 3)) ∧ ∀ j, j < 5 → (¬ rf O (rf O mo 3) (11 + j) = mo ∧ ¬ rf O (rf O mo 3) (11 + j) = rf O mo 16) ∧ I1 (rf O (rf O mo 3) (11 + j)) = I (rf O (rf O mo 3) (11 + j)) := fun q => by
    rcases hR.1 with w | ⟨w, _⟩
    · exact absurd w q
    · refine ⟨⟨nlb w.2.2 hm.2 (by decide), nlb w.2.2 t16.2 (by decide)⟩, by funext k; exact (hF1 _ (by rw [w.2.2]; rfl)).1 k, fun j hj2 => ?_⟩
      obtain ⟨κ, k1, k2, k3⟩ := RS.cells hV.1 w.2 j hj2
      exact ⟨⟨nlb k1 hm.2 (by omega), nlb k1 t16.2 (by omega)⟩, by funext k; exact (hF1 _ (by rw [k1]; exact (frK_m κ k2 k3).1)).1 k⟩
  have eS1 : I1 (rf O mo 16) = I (rf O mo 16) := by funext k; exact (hF1 _ (by rw [t16.2]; rfl)).1 k
  have eA1 : I1 (rf O mo 19) = I (rf O mo 19) := by funext k; exact (hF1 _ (by rw [t19.2]; rfl)).1 k
  have e181 : I1 mo 18 = I mo 18 := (hF1 mo (by rw [hm.2]; rfl)).1 18
  have n19 : ¬ rf O mo 19 = mo ∧ ¬ rf O mo 19 = rf O mo 16 := ⟨nlb t19.2 hm.2 (by decide), nlb t19.2 t16.2 (by decide)⟩
  rcases q1 with ⟨a1, a2, a3⟩ | ⟨a1, a2⟩
  · rcases q2 with ⟨b1, b2, b3⟩ | ⟨b1, b2⟩
    · obtain ⟨s1, s2, s3⟩ := a2 sn2
      obtain ⟨u1', u2, u3, u4⟩ := b2 n16
      obtain ⟨M, t, ⟨c1, c2, c3⟩, ⟨g1, g2, g3⟩, hs, h26, hmm⟩ := hB
      have kTB : ∀ b, TB O x b → ¬ b = rf O x 4 → I2 b = I b := fun b hb h4 => by rw [b3 b (tbm b hb).1 (tbm b hb).2.1, a3 b (tbm b hb).2.2 h4]
      have t4 : TB O x (rf O x 4) := Or.inr (Or.inr (Or.inr (Or.inr (Or.inr (Or.inr (Or.inl rfl))))))
      have t12 : TB O x (rf O x 12) := Or.inr (Or.inr (Or.inr (Or.inr (Or.inr (Or.inr (Or.inr rfl))))))
      have e : ∀ k, k < 34 → u1 (u1 (u1 t.1 34 x1.toInt) 35 x2.toInt) 36 x3.toInt k = t.1 k := fun k hk => by rw [u1_n (by omega), u1_n (by omega), u1_n (by omega)]
      have s4 : I2 (rf O x 4) = I1 (rf O x 4) := b3 _ (tbm _ t4).1 (tbm _ t4).2.1
      refine ⟨M, (u1 (u1 (u1 t.1 34 x1.toInt) 35 x2.toInt) 36 x3.toInt, t.2.1, t.2.2.1, t.2.2.2), ⟨(c1.fr (fun b hb => kTB b (TB.wd hb) (fun z => sd2 (by rw [← z]; exact hb)))).cg e, by rw [b3 x nxm nxS, h13]; exact c2, fun j hj2 => by rw [kTB _ t12 (fun z => sn3 z.symm)]; exact c3 j hj2⟩, ⟨fun k hk => ?_, by rw [h18, e181]; exact g2, fun j hj2 => by rw [b3 _ n19.1 n19.2, eA1]; exact g3 j hj2⟩, ⟨by rw [s4, s1]; rfl, by rw [s4, s2]; rfl, by rw [s4, s3]; rfl⟩, h26, fun q => ?_⟩
      · show (I2 (rf O mo 16) k).toInt = u1 (u1 (u1 t.1 34 x1.toInt) 35 x2.toInt) 36 x3.toInt k
        by_cases k36 : k = 36
        · subst k36; rw [u3, u1_s]
        rw [u1_n k36]
        by_cases k35 : k = 35
        · subst k35; rw [u2, u1_s]
        rw [u1_n k35]
        by_cases k34 : k = 34
        · subst k34; rw [u1', u1_s]
        rw [u1_n k34, u4 k (by omega), eS1]; exact g1 k hk
      · obtain ⟨m1, m2, m3, m4, m5, m6, m7⟩ := hmm q
        have rr := rb a1
        rw [m2.1 8 (by decide)] at rr
        have rF := rFm q
        refine ⟨m1, ⟨fun k hk => by rw [kTB _ (Or.inl rfl) sn6]; exact m2.1 k hk, fun j i hj2 hi => by rw [kTB _ (Or.inr (Or.inl ⟨j, hj2, rfl⟩)) (sd5 j hj2).2.2]; exact m2.2 j i hj2 hi⟩, ⟨by rw [b3 _ rF.1.1 rF.1.2, rF.2.1]; exact m3.1, fun j i hj2 hi => by rw [b3 _ (rF.2.2 j hj2).1.1 (rF.2.2 j hj2).1.2, (rF.2.2 j hj2).2]; exact m3.2 j i hj2 hi⟩, ⟨m4.1.cg e, m4.2⟩, ⟨rr.1, rr.2.1, rr.2.2⟩, m6, m7⟩
    · omega
  · rcases q2 with ⟨b1, b2, b3⟩ | ⟨b1, b2⟩
    · omega
    · refine hB.keep (fun b hb => by rw [b2 b (tbm b hb).1, a2 b (tbm b hb).2.2]) (by rw [b2 x nxm, h13]) (by rw [b2 _ n16, eS1]) (by rw [b2 _ n19.1, eA1]) (by rw [h18, e181]) (fun q => ?_)
      have rF := rFm q
      exact ⟨by rw [b2 _ rF.1.1, rF.2.1], fun j hj2 => by rw [b2 _ (rF.2.2 j hj2).1.1, (rF.2.2 j hj2).2]⟩
end LSET
theorem SI.md {M : MM} {σ σ' : Nat → Int} (h : SI M σ) (e : ∀ k, ¬ k = 24 → ¬ k = 25 → σ' k = σ k) (h24 : 0 ≤ σ' 24 ∧ σ' 24 ≤ 200 + σ 27) (h25 : 0 ≤ σ' 25 ∧ σ' 25 ≤ 3) : SI M σ' := by
  obtain ⟨s1, s2, s3, s4, s5', s6, s7, s8, s9, s10⟩ := h
  have ss : s5 σ' = s5 σ := by
    show σ' 0 + σ' 1 + σ' 2 + σ' 3 + σ' 4 = σ 0 + σ 1 + σ 2 + σ 3 + σ 4
    rw [e 0 (by decide) (by decide), e 1 (by decide) (by decide), e 2 (by decide) (by decide), e 3 (by decide) (by decide), e 4 (by decide) (by decide)]
  have sb : s5 (fun k => σ' (5 + k)) = s5 (fun k => σ (5 + k)) := by
    show σ' 5 + σ' 6 + σ' 7 + σ' 8 + σ' 9 = σ 5 + σ 6 + σ 7 + σ 8 + σ 9
    rw [e 5 (by decide) (by decide), e 6 (by decide) (by decide), e 7 (by decide) (by decide), e 8 (by decide) (by decide), e 9 (by decide) (by decide)]
  refine ⟨fun k hk => by rw [e k (by omega) (by omega), e (5 + k) (by omega) (by omega)]; exact s1 k hk, by rw [ss, sb]; exact s2, by rw [ss, sb, e 26 (by decide) (by decide)]; exact s3, by rw [e 26 (by decide) (by decide)]; exact s4, by rw [e 27 (by decide) (by decide)]; exact s5', by rw [e 27 (by decide) (by decide)]; exact h24, h25, by rw [e 20 (by decide) (by decide)]; exact s8, fun k hk => by rw [e k (by omega) (by omega), e 27 (by decide) (by decide)]; exact s9 k hk, fun k hk hz => by rw [e k (by omega) (by omega), e (5 + k) (by omega) (by omega), e (10 + k) (by omega) (by omega), e (15 + k) (by omega) (by omega)]; exact s10 k hk hz⟩
section LMEND
variable {P : List Nat} {K : Nat → Nat} {I I1 I2 : WI} {O : WO} {J J1 J2 : WJ} {x mo out : Nat}
theorem L5.mendB (hj : L5 P K I O x mo out) (h13 : I1 x 13 = I x 13) (hF1 : FR frK K I J I1 J1) (h18 : I2 mo 18 = I1 mo 18) {z1 z2 x1 v1 v2 : Int32} (q1 : mqC O I x x1 v1 (z1, I1)) (q2 : mqR O I1 mo x1 v2 (z2, I2)) (hv : v1.toInt = v2.toInt) (hz : z1.toInt = z2.toInt) (rb : z1.toInt = 1 → 0 ≤ x1.toInt ∧ x1.toInt ≤ 3) : BR I2 O x mo := by
  obtain ⟨⟨⟨hV, hx, hm, ho, hR, hS, hH⟩, ⟨Q0, hQ0⟩, hA⟩, hB⟩ := hj
  obtain ⟨sd1, ⟨sd2, sd3, sd4⟩, ⟨sn1, sn2, sn3, sn4, sn5, sn6, sn7⟩, sd5, sd6⟩ := sep_all hV.1 hx hQ0
  have nlb : ∀ {c d κ κ' : Nat}, K c = κ → K d = κ' → κ ≠ κ' → ¬ c = d := fun h1 h2 h3 z => h3 (by rw [← h1, ← h2, z])
  have t3 := rf_ok hV.1 hx (show sp 8 3 = some 0 from rfl)
  have t16 := rf_ok hV.1 hm (show sp 10 16 = some 31 from rfl)
  have t19 := rf_ok hV.1 hm (show sp 10 19 = some 32 from rfl)
  have n16 : ¬ rf O mo 16 = mo := nlb t16.2 hm.2 (by decide)
  have tbm : ∀ b, TB O x b → ¬ b = mo ∧ ¬ b = rf O mo 16 ∧ ¬ b = x := fun b hb => by
    have l := hb.cls hV.1 hx
    exact ⟨fun z => by rw [z, hm.2] at l; omega, fun z => by rw [z, t16.2] at l; omega, fun z => (hb.own2 hV.1 hx).1 (by rw [z]; exact hx.2)⟩
  have nxm : ¬ x = mo := nlb hx.2 hm.2 (by decide)
  have nxS : ¬ x = rf O mo 16 := nlb hx.2 t16.2 (by decide)
  have rFm : ¬ O mo 3 = none → (¬ rf O mo 3 = mo ∧ ¬ rf O mo 3 = rf O mo 16) ∧ (I1 (rf O mo 3) = I (rf O mo 3)) ∧ ∀ j, j < 5 → (¬ rf O (rf O mo 3) (11 + j) = mo ∧ ¬ rf O (rf O mo 3) (11 + j) = rf O mo 16) ∧ I1 (rf O (rf O mo 3) (11 + j)) = I (rf O (rf O mo 3) (11 + j)) := fun q => by
    rcases hR.1 with w | ⟨w, _⟩
    · exact absurd w q
    · refine ⟨⟨nlb w.2.2 hm.2 (by decide), nlb w.2.2 t16.2 (by decide)⟩, by funext k; exact (hF1 _ (by rw [w.2.2]; rfl)).1 k, fun j hj2 => ?_⟩
      obtain ⟨κ, k1, k2, k3⟩ := RS.cells hV.1 w.2 j hj2
      exact ⟨⟨nlb k1 hm.2 (by omega), nlb k1 t16.2 (by omega)⟩, by funext k; exact (hF1 _ (by rw [k1]; exact (frK_m κ k2 k3).1)).1 k⟩
  have eS1 : I1 (rf O mo 16) = I (rf O mo 16) := by funext k; exact (hF1 _ (by rw [t16.2]; rfl)).1 k
  have eA1 : I1 (rf O mo 19) = I (rf O mo 19) := by funext k; exact (hF1 _ (by rw [t19.2]; rfl)).1 k
  have e181 : I1 mo 18 = I mo 18 := (hF1 mo (by rw [hm.2]; rfl)).1 18
  have n19 : ¬ rf O mo 19 = mo ∧ ¬ rf O mo 19 = rf O mo 16 := ⟨nlb t19.2 hm.2 (by decide), nlb t19.2 t16.2 (by decide)⟩
  rcases q1 with ⟨a1, a2, a3⟩ | ⟨a1, a2⟩
  · rcases q2 with ⟨b1, b2, b3⟩ | ⟨b1, b2⟩
    · obtain ⟨s1, s2, s3⟩ := a2 sn7
      obtain ⟨u1', u2, u4⟩ := b2 n16
      dsimp only at a1 a3 b1 b3 s1 s2 s3 u1' u2 u4
      obtain ⟨M, t, ⟨c1, c2, c3⟩, ⟨g1, g2, g3⟩, hs, h26, hmm⟩ := hB
      obtain ⟨⟨n01, n02, n03, n12, n13, n23⟩, ⟨d0, d1, d2, d3⟩, sm⟩ := id sd1
      have kTB : ∀ b, TB O x b → ¬ b = rf O x 3 → I2 b = I b := fun b hb h4 => by rw [b3 b (tbm b hb).1 (tbm b hb).2.1, a3 b (tbm b hb).2.2 h4]
      have td : TB O x (rf O x 3) := Or.inr (Or.inr (Or.inl rfl))
      have t4 : TB O x (rf O x 4) := Or.inr (Or.inr (Or.inr (Or.inr (Or.inr (Or.inr (Or.inl rfl))))))
      have t12 : TB O x (rf O x 12) := Or.inr (Or.inr (Or.inr (Or.inr (Or.inr (Or.inr (Or.inr rfl))))))
      have ed : I2 (rf O x 3) = I1 (rf O x 3) := b3 _ (tbm _ td).1 (tbm _ td).2.1
      have n43 : ¬ rf O x 4 = rf O x 3 := fun z => sd2 (Or.inl z)
      have n123 : ¬ rf O x 12 = rf O x 3 := fun z => sd4 (Or.inl z)
      generalize hσ : u1 (if v1.toInt = 0 then t.1 else u1 t.1 24 0) 25 x1.toInt = σ'
      have e : ∀ k, ¬ k = 24 → ¬ k = 25 → σ' k = t.1 k := fun k k24 k25 => by
        rw [← hσ, u1_n k25]
        split
        · rfl
        · rw [u1_n k24]
      have e25 : σ' 25 = x1.toInt := by rw [← hσ, u1_s]
      obtain ⟨i0, i20, i21, i22, i23, i24, i25, i26, i27, i28, i29, i30, i31, i32, i33⟩ := c1
      have e24 : σ' 24 = (if v1.toInt = 0 then t.1 24 else 0) := by
        rw [← hσ, u1_n (by decide)]
        split
        · rfl
        · rw [u1_s]
      have d24 : (I2 (rf O x 3) 3).toInt = σ' 24 := by
        rw [ed, s2, e24]
        split
        · exact i24
        · exact k_0
      refine ⟨M, (σ', t.2.1, t.2.2.1, t.2.2.2), ⟨⟨fun k hk => ?_, ?_, ?_, ?_, ?_, ?_, ?_, ?_, ?_, ?_, ?_, ?_, ?_, ?_, ?_⟩, by rw [b3 x nxm nxS, h13]; exact c2, fun j hj2 => by rw [kTB _ t12 n123]; exact c3 j hj2⟩, ⟨fun k hk => ?_, by rw [h18, e181]; exact g2, fun j hj2 => by rw [b3 _ n19.1 n19.2, eA1]; exact g3 j hj2⟩, ⟨by rw [kTB _ t4 n43]; show _ = σ' 34; rw [e 34 (by decide) (by decide)]; exact hs.1, by rw [kTB _ t4 n43]; show _ = σ' 35; rw [e 35 (by decide) (by decide)]; exact hs.2.1, by rw [kTB _ t4 n43]; show _ = σ' 36; rw [e 36 (by decide) (by decide)]; exact hs.2.2⟩, by show σ' 26 = 0 ∨ σ' 26 = 1; rw [e 26 (by decide) (by decide)]; exact h26, fun q => ?_⟩
      · show _ = σ' k ∧ _ = σ' (5 + k) ∧ _ = σ' (10 + k) ∧ _ = σ' (15 + k)
        rw [kTB _ (TB.wd (Or.inr (Or.inl rfl))) d0, kTB _ (TB.wd (Or.inr (Or.inr (Or.inl rfl)))) d1, kTB _ (TB.wd (Or.inr (Or.inr (Or.inr (Or.inl rfl))))) d2, kTB _ (TB.wd (Or.inr (Or.inr (Or.inr (Or.inr rfl))))) d3, e k (by omega) (by omega), e (5 + k) (by omega) (by omega), e (10 + k) (by omega) (by omega), e (15 + k) (by omega) (by omega)]; exact i0 k hk
      · show _ = σ' 20; rw [ed, s3 2 (by decide) (by decide), e 20 (by decide) (by decide)]; exact i20
      · show _ = σ' 21; rw [ed, s3 13 (by decide) (by decide), e 21 (by decide) (by decide)]; exact i21
      · show _ = σ' 22; rw [ed, s3 14 (by decide) (by decide), e 22 (by decide) (by decide)]; exact i22
      · show _ = σ' 23; rw [ed, s3 12 (by decide) (by decide), e 23 (by decide) (by decide)]; exact i23
      · exact d24
      · show _ = σ' 25; rw [ed, s1, e25]
      · show _ = σ' 26; rw [ed, s3 5 (by decide) (by decide), e 26 (by decide) (by decide)]; exact i26
      · show _ = σ' 27; rw [ed, s3 6 (by decide) (by decide), e 27 (by decide) (by decide)]; exact i27
      · show _ = σ' 28; rw [ed, s3 7 (by decide) (by decide), e 28 (by decide) (by decide)]; exact i28
      · show _ = σ' 29; rw [ed, s3 8 (by decide) (by decide), e 29 (by decide) (by decide)]; exact i29
      · show _ = σ' 30; rw [ed, s3 9 (by decide) (by decide), e 30 (by decide) (by decide)]; exact i30
      · show _ = σ' 31; rw [ed, s3 10 (by decide) (by decide), e 31 (by decide) (by decide)]; exact i31
      · show _ = σ' 32; rw [ed, s3 15 (by decide) (by decide), e 32 (by decide) (by decide)]; exact i32
      · show _ = σ' 33; rw [ed, s3 16 (by decide) (by decide), e 33 (by decide) (by decide)]; exact i33
      · show (I2 (rf O mo 16) k).toInt = σ' k
        by_cases k25 : k = 25
        · subst k25; rw [u1', e25]
        by_cases k24 : k = 24
        · subst k24; rw [u2, e24, ← hv, eS1]
          split
          · exact g1 24 (by decide)
          · exact k_0
        rw [u4 k k24 k25, eS1, e k k24 k25]; exact g1 k hk
      · obtain ⟨m1, m2, m3, m4, m5, m6, m7⟩ := hmm q
        have rF := rFm q
        have n13' : ¬ rf O x 1 = rf O x 3 := (sm _ (Or.inl rfl)).1
        have l6 := m4.1.2.2.2.2.2.1
        have l5 := m4.1.2.2.2.2.1
        refine ⟨m1, ⟨fun k hk => by rw [kTB _ (Or.inl rfl) n13']; exact m2.1 k hk, fun j i hj2 hi => by rw [kTB _ (Or.inr (Or.inl ⟨j, hj2, rfl⟩)) ((sm _ (Or.inl rfl)).2 j hj2)]; exact m2.2 j i hj2 hi⟩, ⟨by rw [b3 _ rF.1.1 rF.1.2, rF.2.1]; exact m3.1, fun j i hj2 hi => by rw [b3 _ (rF.2.2 j hj2).1.1 (rF.2.2 j hj2).1.2, (rF.2.2 j hj2).2]; exact m3.2 j i hj2 hi⟩, ⟨m4.1.md e (by dsimp only; rw [e24]; split <;> omega) (by dsimp only; rw [e25]; exact rb a1), ?_, m4.2.2⟩, ?_, m6, ?_⟩
        · show _ ≤ σ' 27; rw [e 27 (by decide) (by decide)]; exact m4.2.1
        · show ST3 M (σ' 34) (σ' 35) (σ' 36); rw [e 34 (by decide) (by decide), e 35 (by decide) (by decide), e 36 (by decide) (by decide)]; exact m5
        · show σ' 27 ≤ 240; rw [e 27 (by decide) (by decide)]; exact m7
    · exfalso; dsimp only at a1 b1; omega
  · rcases q2 with ⟨b1, b2, b3⟩ | ⟨b1, b2⟩
    · exfalso; dsimp only at a1 b1; omega
    · dsimp only at a2 b2
      refine hB.keep (fun b hb => by rw [b2 b (tbm b hb).1, a2 b (tbm b hb).2.2]) (by rw [b2 x nxm, h13]) (by rw [b2 _ n16, eS1]) (by rw [b2 _ n19.1, eA1]) (by rw [h18, e181]) (fun q => ?_)
      have rF := rFm q
      exact ⟨by rw [b2 _ rF.1.1, rF.2.1], fun j hj2 => by rw [b2 _ (rF.2.2 j hj2).1.1, (rF.2.2 j hj2).2]⟩
end LMEND
theorem gIt_s {M : MM} {r w o : Int} {t : GT} (n : Nat) : (gIt M r w o n t).1 34 = t.1 34 ∧ (gIt M r w o n t).1 35 = t.1 35 ∧ (gIt M r w o n t).1 36 = t.1 36 ∧ (gIt M r w o n t).1 27 = t.1 27 + n := by
  induction n with
  | zero => exact ⟨rfl, rfl, rfl, by show t.1 27 = t.1 27 + ((0 : Nat) : Int); omega⟩
  | succ n ih =>
    have e : (gIt M r w o (n + 1) t).1 = HH M r w o (gIt M r w o n t).1 := gst1
    rw [e]
    refine ⟨(show (gIt M r w o n t).1 34 = t.1 34 from ih.1), (show (gIt M r w o n t).1 35 = t.1 35 from ih.2.1), (show (gIt M r w o n t).1 36 = t.1 36 from ih.2.2.1), ?_⟩
    show (gIt M r w o n t).1 27 + 1 = _
    rw [ih.2.2.2]; omega
section LGO
variable {P : List Nat} {K : Nat → Nat} {I I1 I2 : WI} {O : WO} {J J1 J2 : WJ} {x mo out : Nat}
theorem L5.goB (hj : L5 P K I O x mo out) (hF1 : FR frK K I J I1 J1) (hF2 : FQ q_go K I1 J1 I2 J2) {z1 z2 x1 : Int32} (p1 : F_RM_go 2147483648 O I J x x1 = some (z1, I1)) (p2 : F_Mo_go 2147483648 O I1 J1 mo x1 = some (z2, I2)) : z1.toInt = z2.toInt ∧ BR I2 O x mo := by
  obtain ⟨⟨⟨hV, hx, hm, ho, hR, hS, hH⟩, ⟨Q0, hQ0⟩, hA⟩, hB⟩ := hj
  obtain ⟨sd1, ⟨sd2, sd3, sd4⟩, ⟨sn1, sn2, sn3, sn4, sn5, sn6, sn7⟩, sd5, sd6⟩ := sep_all hV.1 hx hQ0
  have nlb : ∀ {c d κ κ' : Nat}, K c = κ → K d = κ' → κ ≠ κ' → ¬ c = d := fun h1 h2 h3 z => h3 (by rw [← h1, ← h2, z])
  have t16 := rf_ok hV.1 hm (show sp 10 16 = some 31 from rfl)
  have t19 := rf_ok hV.1 hm (show sp 10 19 = some 32 from rfl)
  have eS1 : I1 (rf O mo 16) = I (rf O mo 16) := by funext k; exact (hF1 _ (by rw [t16.2]; rfl)).1 k
  have eA1 : I1 (rf O mo 19) = I (rf O mo 19) := by funext k; exact (hF1 _ (by rw [t19.2]; rfl)).1 k
  have e181 : I1 mo 18 = I mo 18 := (hF1 mo (by rw [hm.2]; rfl)).1 18
  obtain ⟨M, t, gc, gr, hs, h26, hmm⟩ := hB
  have mil : (O mo 3 = none ∧ (I (rf O x 1) 7).toInt = 0) ∨ (¬ O mo 3 = none ∧ ¬ (I (rf O x 1) 7).toInt = 0) := by
    rcases hA.2.2.1 with ⟨w1, w2, _⟩ | ⟨w1, w2, w3, w4⟩
    · exact Or.inl ⟨w1, w2⟩
    · exact Or.inr ⟨w1, by omega⟩
  have srl : ¬ O mo 3 = none → SR O (rf O mo 3) (rf O mo 16) ∧ SR O (rf O mo 3) (rf O mo 19) ∧ SR O (rf O mo 3) mo := fun q => by
    rcases hR.1 with w | ⟨w, _⟩
    · exact absurd w q
    · have cl := RS.cells hV.1 w.2
      refine ⟨⟨nlb w.2.2 t16.2 (by decide), fun j hj2 => ?_⟩, ⟨nlb w.2.2 t19.2 (by decide), fun j hj2 => ?_⟩, ⟨nlb w.2.2 hm.2 (by decide), fun j hj2 => ?_⟩⟩
      · obtain ⟨κ, k1, k2, k3⟩ := cl j hj2; exact nlb k1 t16.2 (by omega)
      · obtain ⟨κ, k1, k2, k3⟩ := cl j hj2; exact nlb k1 t19.2 (by omega)
      · obtain ⟨κ, k1, k2, k3⟩ := cl j hj2; exact nlb k1 hm.2 (by omega)
  have rF1 : ¬ O mo 3 = none → I1 (rf O mo 3) = I (rf O mo 3) ∧ ∀ j, j < 5 → I1 (rf O (rf O mo 3) (11 + j)) = I (rf O (rf O mo 3) (11 + j)) := fun q => by
    rcases hR.1 with w | ⟨w, _⟩
    · exact absurd w q
    · refine ⟨by funext k; exact (hF1 _ (by rw [w.2.2]; rfl)).1 k, fun j hj2 => ?_⟩
      obtain ⟨κ, k1, k2, k3⟩ := RS.cells hV.1 w.2 j hj2
      funext k; exact (hF1 _ (by rw [k1]; exact (frK_m κ k2 k3).1)).1 k
  have q1 := c_goP (N := 2147483648) (J := J) (M := M) (r := t.1 34) (w := t.1 35) (o := t.1 36) (x1 := x1) (t := t) (by decide) sd1 sd2 sd3 sd4 sn1 sn2 sn3 sn4 sn5 (fun j hj2 => ⟨(sd5 j hj2).1, (sd5 j hj2).2.1⟩) hs.1 hs.2.1 hs.2.2 gc (fun q => by
    rcases mil with ⟨_, w⟩ | ⟨w, _⟩
    · exact absurd w q
    · obtain ⟨m1, m2, m3, m4, m5, m6, m7⟩ := hmm w
      exact ⟨m1, m2, m5, m4, m6, m7⟩) (z1, I1) p1
  have gr1 : GR I1 O mo t := ⟨fun k hk => by rw [eS1]; exact gr.1 k hk, by rw [e181]; exact gr.2.1, fun j hj2 => by rw [eA1]; exact gr.2.2 j hj2⟩
  have q2 := r_goP (N := 2147483648) (J := J1) (M := M) (r := t.1 34) (w := t.1 35) (o := t.1 36) (x1 := x1) (t := t) (by decide) srl (nlb t19.2 t16.2 (by decide)) (nlb hm.2 t16.2 (by decide)) (nlb t19.2 hm.2 (by decide)) rfl rfl rfl gr1 (fun q => by
    obtain ⟨m1, m2, m3, m4, m5, m6, m7⟩ := hmm q
    have rr := rF1 q
    exact ⟨m1, ⟨by rw [rr.1]; exact m3.1, fun j i hj2 hi => by rw [rr.2 j hj2]; exact m3.2 j i hj2 hi⟩, m5, m4, m6, m7⟩) (z2, I2) p2
  have c2 : ∀ b, TB O x b → I2 b = I1 b := fun b hb => by
    have l := hb.cls hV.1 hx
    funext k
    exact (hF2 b k (kpL_fr ((by decide : ∀ κ, κ < 29 → κ ≠ 10 → frL [10, 31, 32] κ = true) _ (by omega) (by omega)))).1
  have c13 : I2 x 13 = I1 x 13 := (hF2 x 13 (by rw [hx.2]; rfl)).1
  have t4 : TB O x (rf O x 4) := Or.inr (Or.inr (Or.inr (Or.inr (Or.inr (Or.inr (Or.inl rfl))))))
  have t12 : TB O x (rf O x 12) := Or.inr (Or.inr (Or.inr (Or.inr (Or.inr (Or.inr (Or.inr rfl))))))
  have tbx : ∀ b, TB O x b → ¬ b = x := fun b hb z => (hb.own2 hV.1 hx).1 (by rw [z]; exact hx.2)
  rcases q1 with ⟨a1, a2, a3, a4⟩ | ⟨a1, a2, a3, a4, a5, a6⟩
  · rcases q2 with ⟨b1, b2, b3, b4⟩ | ⟨b1, b2, b3, b4, b5, b6⟩
    · dsimp only at a2 a3 a4 b2 b3 b4
      refine ⟨by rw [a2, b2], BR.keep ⟨M, t, gc, gr, hs, h26, hmm⟩ (fun b hb => by rw [c2 b hb, a3 b (tbx b hb)]) (by rw [c13, a4]) (by rw [b3 _ (nlb t16.2 hm.2 (by decide)), eS1]) (by rw [b3 _ (nlb t19.2 hm.2 (by decide)), eA1]) (by rw [b4, e181]) (fun q => ?_)⟩
      have rr := rF1 q
      have ss := (srl q).2.2
      exact ⟨by rw [b3 _ ss.1, rr.1], fun j hj2 => by rw [b3 _ (ss.2 j hj2), rr.2 j hj2]⟩
    · exfalso
      rcases mil with ⟨w1, w2⟩ | ⟨w1, w2⟩
      · exact b1 w1
      · rcases a1 with y | y
        · exact w2 y
        · omega
  · rcases q2 with ⟨b1, b2, b3, b4⟩ | ⟨b1, b2, b3, b4, b5, b6⟩
    · exfalso
      rcases mil with ⟨w1, w2⟩ | ⟨w1, w2⟩
      · exact a1 w2
      · rcases b1 with y | y
        · exact w1 y
        · omega
    · dsimp only at a3 a4 a6 b3 b4 b6
      have gs := gIt_s (M := M) (r := t.1 34) (w := t.1 35) (o := t.1 36) (t := t) x1.toInt.toNat
      generalize hgg : gIt M (t.1 34) (t.1 35) (t.1 36) x1.toInt.toNat t = g at a3 a4 a5 b3 b4 b5 gs
      refine ⟨by rw [a3, b3], M, (g.1, g.2.1, g.2.2.1, 0), ⟨a4.1.fr (fun b hb => c2 b (TB.wd hb)), by rw [c13]; exact a4.2.1, fun j hj2 => by rw [c2 _ t12]; exact a4.2.2 j hj2⟩, ⟨b4.1, b4.2.1, b4.2.2⟩, ?_, a5.1.2.2.2.1, fun q => ?_⟩
      · rw [c2 _ t4, a6 _ sd2 sn2 sn3]
        exact ⟨hs.1.trans gs.1.symm, hs.2.1.trans gs.2.1.symm, hs.2.2.trans gs.2.2.1.symm⟩
      · obtain ⟨m1, m2, m3, m4, m5, m6, m7⟩ := hmm q
        have rr := rF1 q
        have ss := srl q
        refine ⟨m1, ⟨fun k hk => by rw [c2 _ (Or.inl rfl), a6 _ (fun z => (sd1.2.2 _ z).1 rfl) sn4 sn5]; exact m2.1 k hk, fun j i hj2 hi => by rw [c2 _ (Or.inr (Or.inl ⟨j, hj2, rfl⟩)), a6 _ (fun z => (sd1.2.2 _ z).2 j hj2 rfl) (sd5 j hj2).1 (sd5 j hj2).2.1]; exact m2.2 j i hj2 hi⟩, ⟨by rw [b6 _ ss.1.1 ss.2.2.1 ss.2.1.1, rr.1]; exact m3.1, fun j i hj2 hi => by rw [b6 _ (ss.1.2 j hj2) (ss.2.2.2 j hj2) (ss.2.1.2 j hj2), rr.2 j hj2]; exact m3.2 j i hj2 hi⟩, ⟨a5.1, a5.2.1, Int.le_refl _, (show (0 : Int) ≤ 1000 from by decide)⟩, ?_, rfl, ?_⟩
        · show ST3 M (g.1 34) (g.1 35) (g.1 36)
          rw [gs.1, gs.2.1, gs.2.2.1]; exact m5
        · show g.1 27 ≤ 240
          rw [gs.2.2.2]; omega
end LGO

theorem rf_eq {O O2 : WO} {b : Nat} (h : O2 b = O b) (f : Nat) : rf O2 b f = rf O b f := by unfold rf; rw [h]
/-- the relation sees the references of these cells alone -/
theorem BR.o {I : WI} {O O2 : WO} {x mo : Nat} (h : BR I O x mo) (e0 : ∀ f, f = 1 ∨ f = 3 ∨ f = 4 ∨ f = 12 → O2 x f = O x f) (e : ∀ b, TB O x b → O2 b = O b) (em : ∀ f, f ≠ 4 → O2 mo f = O mo f) (eF : ¬ O mo 3 = none → O2 (rf O mo 3) = O (rf O mo 3)) : BR I O2 x mo := by
  have r1 : rf O2 x 1 = rf O x 1 := by unfold rf; rw [e0 1 (by omega)]
  have r3 : rf O2 x 3 = rf O x 3 := by unfold rf; rw [e0 3 (by omega)]
  have r4 : rf O2 x 4 = rf O x 4 := by unfold rf; rw [e0 4 (by omega)]
  have r12 : rf O2 x 12 = rf O x 12 := by unfold rf; rw [e0 12 (by omega)]
  have d : ∀ f, rf O2 (rf O x 3) f = rf O (rf O x 3) f := fun f => rf_eq (e _ (Or.inr (Or.inr (Or.inl rfl)))) f
  have l : ∀ f, rf O2 (rf O (rf O x 3) 0) f = rf O (rf O (rf O x 3) 0) f := fun f => rf_eq (e _ (Or.inr (Or.inr (Or.inr (Or.inl rfl))))) f
  have m : ∀ f, rf O2 (rf O x 1) f = rf O (rf O x 1) f := fun f => rf_eq (e _ (Or.inl rfl)) f
  have a16 : rf O2 mo 16 = rf O mo 16 := by unfold rf; rw [em 16 (by decide)]
  have a19 : rf O2 mo 19 = rf O mo 19 := by unfold rf; rw [em 19 (by decide)]
  have a3 : rf O2 mo 3 = rf O mo 3 := by unfold rf; rw [em 3 (by decide)]
  obtain ⟨M, t, ⟨c1, c2, c3⟩, ⟨g1, g2, g3⟩, hs, h26, hm⟩ := h
  refine ⟨M, t, ⟨?_, c2, by rw [r12]; exact c3⟩, ⟨by rw [a16]; exact g1, g2, by rw [a19]; exact g3⟩, by rw [r4]; exact hs, h26, fun q => ?_⟩
  · unfold DRs; rw [r3, d, d, l, l, l]; exact c1
  · rw [em 3 (by decide)] at q
    obtain ⟨m1, m2, m3, m4, m5⟩ := hm q
    refine ⟨m1, ⟨by rw [r1]; exact m2.1, fun j i hj hi => by rw [r1, m]; exact m2.2 j i hj hi⟩, ⟨by rw [a3]; exact m3.1, fun j i hj hi => by rw [a3, rf_eq (eF q)]; exact m3.2 j i hj hi⟩, m4, m5⟩
theorem SI0 {M : MM} : SI M (fun k => if k = 34 ∨ k = 35 then 1 else 0) := by
  refine ⟨fun k hk => ⟨by dsimp only; rw [if_neg (by omega)]; exact Int.le_refl _, by dsimp only; rw [if_neg (by omega)]; exact Int.le_refl _⟩, (by decide : s5 (fun k => if k = 34 ∨ k = 35 then 1 else 0) + s5 (fun k => if 5 + k = 34 ∨ 5 + k = 35 then 1 else 0) ≤ 1750), fun _ => (by decide : s5 (fun k => if k = 34 ∨ k = 35 then 1 else 0) + s5 (fun k => if 5 + k = 34 ∨ 5 + k = 35 then 1 else 0) ≤ 1000), Or.inl rfl, ⟨Int.le_refl _, (show (0 : Int) ≤ 252 from by decide)⟩, ⟨Int.le_refl _, (show (0 : Int) ≤ 200 + 0 from by decide)⟩, ⟨Int.le_refl _, (show (0 : Int) ≤ 3 from by decide)⟩, ⟨Int.le_refl _, (show (0 : Int) ≤ 999 from by decide)⟩, fun k hk => ?_, fun k hk _ => ⟨if_neg (by omega), if_neg (by omega), if_neg (by omega), if_neg (by omega)⟩⟩
  show 0 ≤ (if k = 34 ∨ k = 35 then (1 : Int) else 0) ∧ (if k = 34 ∨ k = 35 then (1 : Int) else 0) ≤ 200000 * 0
  rw [if_neg (by omega)]; decide
theorem L5.view {P : List Nat} {K : Nat → Nat} {I I1 : WI} {O : WO} {J J1 : WJ} {x mo out : Nat} (hj : L5 P K I O x mo out) (hF1 : FR frK K I J I1 J1) : ∃ (M : MM) (t : GT), GC I O x t ∧ GR I1 O mo t ∧ ((I (rf O x 4) 0).toInt = t.1 34 ∧ (I (rf O x 4) 1).toInt = t.1 35 ∧ (I (rf O x 4) 2).toInt = t.1 36) ∧ (t.1 26 = 0 ∨ t.1 26 = 1) ∧ ((O mo 3 = none ∧ (I (rf O x 1) 7).toInt = 0) ∨ (¬ O mo 3 = none ∧ ¬ (I (rf O x 1) 7).toInt = 0 ∧ MB M ∧ CMl I O (rf O x 1) M ∧ RMl I1 O (rf O mo 3) M ∧ GI M t ∧ ST3 M (t.1 34) (t.1 35) (t.1 36) ∧ t.2.2.2 = 0 ∧ t.1 27 ≤ 240 ∧ (∀ S κ, K S = κ → ¬ κ = 9 → (κ < 42 ∨ 45 < κ) → SR O (rf O mo 3) S))) := by
  obtain ⟨⟨⟨hV, hx, hm, ho, hR, hS, hH⟩, ⟨Q0, hQ0⟩, hA⟩, hB⟩ := hj
  have nlb : ∀ {c d κ κ' : Nat}, K c = κ → K d = κ' → κ ≠ κ' → ¬ c = d := fun h1 h2 h3 z => h3 (by rw [← h1, ← h2, z])
  have t16 := rf_ok hV.1 hm (show sp 10 16 = some 31 from rfl)
  have t19 := rf_ok hV.1 hm (show sp 10 19 = some 32 from rfl)
  have eS1 : I1 (rf O mo 16) = I (rf O mo 16) := by funext k; exact (hF1 _ (by rw [t16.2]; rfl)).1 k
  have eA1 : I1 (rf O mo 19) = I (rf O mo 19) := by funext k; exact (hF1 _ (by rw [t19.2]; rfl)).1 k
  have e181 : I1 mo 18 = I mo 18 := (hF1 mo (by rw [hm.2]; rfl)).1 18
  obtain ⟨M, t, gc, gr, hs, h26, hmm⟩ := hB
  refine ⟨M, t, gc, ⟨fun k hk => by rw [eS1]; exact gr.1 k hk, by rw [e181]; exact gr.2.1, fun j hj2 => by rw [eA1]; exact gr.2.2 j hj2⟩, hs, h26, ?_⟩
  rcases hA.2.2.1 with ⟨w1, w2, _⟩ | ⟨w1, w2, w3, w4⟩
  · exact Or.inl ⟨w1, w2⟩
  · obtain ⟨m1, m2, m3, m4, m5, m6, m7⟩ := hmm w1
    rcases hR.1 with w | ⟨w, _⟩
    · exact absurd w w1
    · have cl := RS.cells hV.1 w.2
      refine Or.inr ⟨w1, by omega, m1, m2, ⟨?_, fun j i hj2 hi => ?_⟩, m4, m5, m6, m7, fun S κ hS h9 h42 => ⟨nlb w.2.2 hS (fun z => h9 z.symm), fun j hj2 => ?_⟩⟩
      · rw [show I1 (rf O mo 3) = I (rf O mo 3) by funext k; exact (hF1 _ (by rw [w.2.2]; rfl)).1 k]; exact m3.1
      · obtain ⟨κ, k1, k2, k3⟩ := cl j hj2
        rw [show I1 (rf O (rf O mo 3) (11 + j)) = I (rf O (rf O mo 3) (11 + j)) by funext k; exact (hF1 _ (by rw [k1]; exact (frK_m κ k2 k3).1)).1 k]; exact m3.2 j i hj2 hi
      · obtain ⟨κ', k1, k2, k3⟩ := cl j hj2
        exact nlb k1 hS (by omega)
/-! the sights through the law's loop -/
section LFITS
variable {P : List Nat} {K : Nat → Nat} {I I1 I2 : WI} {O : WO} {J J1 J2 : WJ} {x mo out : Nat}
theorem CVo.cv {c : CO} {n : Int} {M : MM} (h : CVo c n) (e : n = M.1 8) : CV M c := fun k hk => by
  have q := h k hk
  rw [e] at q
  exact ⟨q.1, q.2.1, q.2.2⟩
theorem ml_kc {fs : List Nat} (kc : ∀ l, l ∈ sLs → rt l ∉ fs → I1 (pAt O x l) = I (pAt O x l)) (h1 : 1 ∉ fs) {M : MM} (hc : CMl I1 O (rf O x 1) M) : CMl I O (rf O x 1) M := by
  have e1 : I1 (rf O x 1) = I (rf O x 1) := kc [1] (by decide) h1
  refine hc.fr e1.symm (fun j hj => ?_)
  have : j = 0 ∨ j = 1 ∨ j = 2 ∨ j = 3 ∨ j = 4 := by omega
  rcases this with rfl | rfl | rfl | rfl | rfl
  · exact (kc [10, 1] (by decide) h1).symm
  · exact (kc [11, 1] (by decide) h1).symm
  · exact (kc [12, 1] (by decide) h1).symm
  · exact (kc [13, 1] (by decide) h1).symm
  · exact (kc [14, 1] (by decide) h1).symm
theorem L5.fitsS (hj : L5 P K I O x mo out) (hc : CRS I O x mo) (hF1 : FR frK K I J I1 J1) (k1 : ME I I1 O mo) (kc : ∀ l, l ∈ sLs → rt l ∉ [6, 7] → I1 (pAt O x l) = I (pAt O x l)) {z1 z2 : Int32} (fe1 : F_RM_fits 2147483648 O I J x = some (z1, I1)) (fe2 : F_Mo_fits 2147483648 O I1 J1 mo = some (z2, I2)) : z1.toInt = z2.toInt ∧ CRS I1 O x mo := by
  obtain ⟨M, t, gc, gr, hs, h26, mil⟩ := hj.view hF1
  obtain ⟨⟨⟨hV, hx, hm, ho, hR, hS, hH⟩, ⟨Q0, hQ0⟩, hA⟩, hB⟩ := hj
  obtain ⟨ri, c, c1, c2, c3⟩ := hc
  have nlb : ∀ {c d κ κ' : Nat}, K c = κ → K d = κ' → κ ≠ κ' → ¬ c = d := fun h1 h2 h3 z => h3 (by rw [← h1, ← h2, z])
  have t17 := rf_ok hV.1 hm (show sp 10 17 = some 49 from rfl)
  have t28 := rf_ok hV.1 hm (show sp 10 28 = some 37 from rfl)
  have pc1 : PCr I1 O mo c := by unfold PCr; rw [k1.1, k1.2.1, k1.2.2.1]; exact c2
  have ec5 : I1 (rf O x 5) = I (rf O x 5) := kc [5] (by decide) (by decide)
  have cc1 : CCr I1 (rf O x 5) c := by unfold CCr; rw [ec5]; exact c1
  have e1 : I1 (rf O x 1) = I (rf O x 1) := kc [1] (by decide) (by decide)
  have sb := SRb.of hV.1 hm
  rcases mil with ⟨w, w2⟩ | ⟨w, w2, m1, m2, m3, m4, m5, m6, m7, m8⟩
  · have q1 := c_fitsP (N := 2147483648) (J := J) (M := M) (c := c) (q := (fun _ => 0, fun _ => 0, fun _ => 0, fun _ => 0)) (n := 0) (by decide) hV.1 hx hQ0 (fun q => absurd w2 q) _ fe1
    have q2 := r_fitsP (N := 2147483648) (J := J1) (M := M) (c := c) (q := (fun _ => 0, fun _ => 0, fun _ => 0, fun _ => 0)) (n := 0) (by decide) sb (fun q => absurd w q) _ fe2
    refine ⟨?_, ri, c, cc1, pc1, fun z => absurd w z⟩
    rcases q1.1 with ⟨_, a⟩ | ⟨a, _⟩
    · rcases q2 with ⟨_, b⟩ | ⟨b, _⟩
      · exact Eq.trans a (Eq.symm b)
      · exact absurd w b
    · exact absurd w2 a
  · obtain ⟨v1, q, n, s1, s2, s3, s4⟩ := c3 w
    have cv : CV M c := v1.cv (m2.1 8 (by decide))
    have s3' : SNb q n (M.1 7) := by rw [← m2.1 7 (by decide)]; exact s3
    have fh : ∀ M', MB M' → CMl I O (rf O x 1) M' → FHy I O x M' c q n := fun M' h1 h2 => ⟨h1, v1.cv (h2.1 8 (by decide)), by rw [← h2.1 7 (by decide)]; exact s3, h2, c1, (s4 M' h1 h2).1, s1, (s4 M' h1 h2).2⟩
    have q1 := fun (M' : MM) (h1 : MB M') (h2 : CMl I O (rf O x 1) M') => c_fitsP (N := 2147483648) (J := J) (M := M') (c := c) (q := q) (n := n) (by decide) hV.1 hx hQ0 (fun _ => fh M' h1 h2) _ fe1
    have rs1 : RSn I1 O mo q n := by unfold RSn; rw [k1.2.2.2.1, k1.2.2.2.2.1, k1.2.2.2.2.2.1, k1.2.2.2.2.2.2.1, k1.2.2.2.2.2.2.2]; exact s2
    have q2 := r_fitsP (N := 2147483648) (J := J1) (M := M) (c := c) (q := q) (n := n) (by decide) sb (fun _ => ⟨m1, cv, s3', ⟨m3, pc1, rs1⟩, m8 _ 49 t17.2 (by decide) (by decide), m8 _ 37 t28.2 (by decide) (by decide), m8 _ 10 hm.2 (by decide) (by decide)⟩) _ fe2
    refine ⟨?_, ri, c, cc1, pc1, fun _ => ⟨by rw [e1]; exact v1, q, n, ((q1 M m1 m2).2 w2).2.2.2.1, rs1, by rw [e1]; exact s3, fun M' h1 h2 => ?_⟩⟩
    · rcases (q1 M m1 m2).1 with ⟨a, _⟩ | ⟨_, a⟩
      · exact absurd a w2
      · rcases q2 with ⟨b, _⟩ | ⟨_, b⟩
        · exact absurd b w
        · exact Eq.trans a (Eq.symm b)
    · have f := (q1 M' h1 (ml_kc kc (by decide) h2)).2 w2
      exact ⟨f.2.2.1, f.2.2.2.2⟩
theorem L5.fitAtS (hj : L5 P K I O x mo out) (hc : CRS I O x mo) (hF1 : FR frK K I J I1 J1) (k1 : ME I I1 O mo) (kc : ∀ l, l ∈ sLs → rt l ∉ [6, 7] → I1 (pAt O x l) = I (pAt O x l)) {z1 z2 : Int32} {x1 x2 : Int32} (fe1 : F_RM_fitAt 2147483648 O I J x x1 x2 = some (z1, I1)) (fe2 : F_Mo_fitAt 2147483648 O I1 J1 mo x1 x2 = some (z2, I2)) : z1.toInt = z2.toInt ∧ CRS I1 O x mo := by
  obtain ⟨M, t, gc, gr, hs, h26, mil⟩ := hj.view hF1
  obtain ⟨⟨⟨hV, hx, hm, ho, hR, hS, hH⟩, ⟨Q0, hQ0⟩, hA⟩, hB⟩ := hj
  obtain ⟨ri, c, c1, c2, c3⟩ := hc
  have nlb : ∀ {c d κ κ' : Nat}, K c = κ → K d = κ' → κ ≠ κ' → ¬ c = d := fun h1 h2 h3 z => h3 (by rw [← h1, ← h2, z])
  have t17 := rf_ok hV.1 hm (show sp 10 17 = some 49 from rfl)
  have t28 := rf_ok hV.1 hm (show sp 10 28 = some 37 from rfl)
  have pc1 : PCr I1 O mo c := by unfold PCr; rw [k1.1, k1.2.1, k1.2.2.1]; exact c2
  have ec5 : I1 (rf O x 5) = I (rf O x 5) := kc [5] (by decide) (by decide)
  have cc1 : CCr I1 (rf O x 5) c := by unfold CCr; rw [ec5]; exact c1
  have e1 : I1 (rf O x 1) = I (rf O x 1) := kc [1] (by decide) (by decide)
  have sb := SRb.of hV.1 hm
  rcases mil with ⟨w, w2⟩ | ⟨w, w2, m1, m2, m3, m4, m5, m6, m7, m8⟩
  · have q1 := c_fitAtP (N := 2147483648) (J := J) (M := M) (c := c) (q := (fun _ => 0, fun _ => 0, fun _ => 0, fun _ => 0)) (n := 0) (x1 := x1) (x2 := x2) (by decide) hV.1 hx hQ0 (fun q => absurd w2 q) _ fe1
    have q2 := r_fitAtP (N := 2147483648) (J := J1) (M := M) (c := c) (q := (fun _ => 0, fun _ => 0, fun _ => 0, fun _ => 0)) (n := 0) (x1 := x1) (x2 := x2) (by decide) sb (fun q => absurd w q) _ fe2
    refine ⟨?_, ri, c, cc1, pc1, fun z => absurd w z⟩
    rcases q1.1 with ⟨_, a⟩ | ⟨a, _⟩
    · rcases q2 with ⟨_, b⟩ | ⟨b, _⟩
      · exact Eq.trans a (Eq.symm b)
      · exact absurd w b
    · exact absurd w2 a
  · obtain ⟨v1, q, n, s1, s2, s3, s4⟩ := c3 w
    have cv : CV M c := v1.cv (m2.1 8 (by decide))
    have s3' : SNb q n (M.1 7) := by rw [← m2.1 7 (by decide)]; exact s3
    have fh : ∀ M', MB M' → CMl I O (rf O x 1) M' → FHy I O x M' c q n := fun M' h1 h2 => ⟨h1, v1.cv (h2.1 8 (by decide)), by rw [← h2.1 7 (by decide)]; exact s3, h2, c1, (s4 M' h1 h2).1, s1, (s4 M' h1 h2).2⟩
    have q1 := fun (M' : MM) (h1 : MB M') (h2 : CMl I O (rf O x 1) M') => c_fitAtP (N := 2147483648) (J := J) (M := M') (c := c) (q := q) (n := n) (x1 := x1) (x2 := x2) (by decide) hV.1 hx hQ0 (fun _ => fh M' h1 h2) _ fe1
    have rs1 : RSn I1 O mo q n := by unfold RSn; rw [k1.2.2.2.1, k1.2.2.2.2.1, k1.2.2.2.2.2.1, k1.2.2.2.2.2.2.1, k1.2.2.2.2.2.2.2]; exact s2
    have q2 := r_fitAtP (N := 2147483648) (J := J1) (M := M) (c := c) (q := q) (n := n) (x1 := x1) (x2 := x2) (by decide) sb (fun _ => ⟨m1, cv, s3', ⟨m3, pc1, rs1⟩, m8 _ 49 t17.2 (by decide) (by decide), m8 _ 37 t28.2 (by decide) (by decide), m8 _ 10 hm.2 (by decide) (by decide)⟩) _ fe2
    refine ⟨?_, ri, c, cc1, pc1, fun _ => ⟨by rw [e1]; exact v1, q, n, ((q1 M m1 m2).2 w2).2.2.2.1, rs1, by rw [e1]; exact s3, fun M' h1 h2 => ?_⟩⟩
    · rcases (q1 M m1 m2).1 with ⟨a, _⟩ | ⟨_, a⟩
      · exact absurd a w2
      · rcases q2 with ⟨b, _⟩ | ⟨_, b⟩
        · exact absurd b w
        · exact faQ.u a b
    · have f := (q1 M' h1 (ml_kc kc (by decide) h2)).2 w2
      exact ⟨f.2.2.1, f.2.2.2.2⟩
theorem L5.certainS (hj : L5 P K I O x mo out) (hc : CRS I O x mo) (hF1 : FR frK K I J I1 J1) (k1 : ME I I1 O mo) (kc : ∀ l, l ∈ sLs → rt l ∉ [6, 7] → I1 (pAt O x l) = I (pAt O x l)) {z1 z2 : Int32} {x1 : Int32} (fe1 : F_RM_certain 2147483648 O I J x x1 = some (z1, I1)) (fe2 : F_Mo_certain 2147483648 O I1 J1 mo x1 = some (z2, I2)) : z1.toInt = z2.toInt ∧ CRS I1 O x mo := by
  obtain ⟨M, t, gc, gr, hs, h26, mil⟩ := hj.view hF1
  obtain ⟨⟨⟨hV, hx, hm, ho, hR, hS, hH⟩, ⟨Q0, hQ0⟩, hA⟩, hB⟩ := hj
  obtain ⟨ri, c, c1, c2, c3⟩ := hc
  have nlb : ∀ {c d κ κ' : Nat}, K c = κ → K d = κ' → κ ≠ κ' → ¬ c = d := fun h1 h2 h3 z => h3 (by rw [← h1, ← h2, z])
  have t17 := rf_ok hV.1 hm (show sp 10 17 = some 49 from rfl)
  have t28 := rf_ok hV.1 hm (show sp 10 28 = some 37 from rfl)
  have pc1 : PCr I1 O mo c := by unfold PCr; rw [k1.1, k1.2.1, k1.2.2.1]; exact c2
  have ec5 : I1 (rf O x 5) = I (rf O x 5) := kc [5] (by decide) (by decide)
  have cc1 : CCr I1 (rf O x 5) c := by unfold CCr; rw [ec5]; exact c1
  have e1 : I1 (rf O x 1) = I (rf O x 1) := kc [1] (by decide) (by decide)
  have sb := SRb.of hV.1 hm
  rcases mil with ⟨w, w2⟩ | ⟨w, w2, m1, m2, m3, m4, m5, m6, m7, m8⟩
  · have q1 := c_certainP (N := 2147483648) (J := J) (M := M) (c := c) (q := (fun _ => 0, fun _ => 0, fun _ => 0, fun _ => 0)) (n := 0) (x1 := x1) (by decide) hV.1 hx hQ0 (fun q => absurd w2 q) _ fe1
    have q2 := r_certainP (N := 2147483648) (J := J1) (M := M) (c := c) (q := (fun _ => 0, fun _ => 0, fun _ => 0, fun _ => 0)) (n := 0) (x1 := x1) (by decide) sb (fun q => absurd w q) _ fe2
    refine ⟨?_, ri, c, cc1, pc1, fun z => absurd w z⟩
    rcases q1.1 with ⟨_, a⟩ | ⟨a, _⟩
    · rcases q2 with ⟨_, b⟩ | ⟨b, _⟩
      · exact Eq.trans a (Eq.symm b)
      · exact absurd w b
    · exact absurd w2 a
  · obtain ⟨v1, q, n, s1, s2, s3, s4⟩ := c3 w
    have cv : CV M c := v1.cv (m2.1 8 (by decide))
    have s3' : SNb q n (M.1 7) := by rw [← m2.1 7 (by decide)]; exact s3
    have fh : ∀ M', MB M' → CMl I O (rf O x 1) M' → FHy I O x M' c q n := fun M' h1 h2 => ⟨h1, v1.cv (h2.1 8 (by decide)), by rw [← h2.1 7 (by decide)]; exact s3, h2, c1, (s4 M' h1 h2).1, s1, (s4 M' h1 h2).2⟩
    have q1 := fun (M' : MM) (h1 : MB M') (h2 : CMl I O (rf O x 1) M') => c_certainP (N := 2147483648) (J := J) (M := M') (c := c) (q := q) (n := n) (x1 := x1) (by decide) hV.1 hx hQ0 (fun _ => fh M' h1 h2) _ fe1
    have rs1 : RSn I1 O mo q n := by unfold RSn; rw [k1.2.2.2.1, k1.2.2.2.2.1, k1.2.2.2.2.2.1, k1.2.2.2.2.2.2.1, k1.2.2.2.2.2.2.2]; exact s2
    have q2 := r_certainP (N := 2147483648) (J := J1) (M := M) (c := c) (q := q) (n := n) (x1 := x1) (by decide) sb (fun _ => ⟨m1, cv, s3', ⟨m3, pc1, rs1⟩, m8 _ 49 t17.2 (by decide) (by decide), m8 _ 37 t28.2 (by decide) (by decide), m8 _ 10 hm.2 (by decide) (by decide)⟩) _ fe2
    refine ⟨?_, ri, c, cc1, pc1, fun _ => ⟨by rw [e1]; exact v1, q, n, ((q1 M m1 m2).2 w2).2.2.2.1, rs1, by rw [e1]; exact s3, fun M' h1 h2 => ?_⟩⟩
    · rcases (q1 M m1 m2).1 with ⟨a, _⟩ | ⟨_, a⟩
      · exact absurd a w2
      · rcases q2 with ⟨b, _⟩ | ⟨_, b⟩
        · exact absurd b w
        · exact ceQ.u a b
    · have f := (q1 M' h1 (ml_kc kc (by decide) h2)).2 w2
      exact ⟨f.2.2.1, f.2.2.2.2⟩
theorem L5.swappedS (hj : L5 P K I O x mo out) (hc : CRS I O x mo) (hF1 : FR frK K I J I1 J1) (k1 : ME I I1 O mo) (kc : ∀ l, l ∈ sLs → rt l ∉ [6, 7] → I1 (pAt O x l) = I (pAt O x l)) {z1 z2 : Int32} (fe1 : F_RM_swapped 2147483648 O I J x = some (z1, I1)) (fe2 : F_Mo_swapped 2147483648 O I1 J1 mo = some (z2, I2)) : z1.toInt = z2.toInt ∧ CRS I1 O x mo := by
  obtain ⟨M, t, gc, gr, hs, h26, mil⟩ := hj.view hF1
  obtain ⟨⟨⟨hV, hx, hm, ho, hR, hS, hH⟩, ⟨Q0, hQ0⟩, hA⟩, hB⟩ := hj
  obtain ⟨ri, c, c1, c2, c3⟩ := hc
  have nlb : ∀ {c d κ κ' : Nat}, K c = κ → K d = κ' → κ ≠ κ' → ¬ c = d := fun h1 h2 h3 z => h3 (by rw [← h1, ← h2, z])
  have t17 := rf_ok hV.1 hm (show sp 10 17 = some 49 from rfl)
  have t28 := rf_ok hV.1 hm (show sp 10 28 = some 37 from rfl)
  have pc1 : PCr I1 O mo c := by unfold PCr; rw [k1.1, k1.2.1, k1.2.2.1]; exact c2
  have ec5 : I1 (rf O x 5) = I (rf O x 5) := kc [5] (by decide) (by decide)
  have cc1 : CCr I1 (rf O x 5) c := by unfold CCr; rw [ec5]; exact c1
  have e1 : I1 (rf O x 1) = I (rf O x 1) := kc [1] (by decide) (by decide)
  have sb := SRb.of hV.1 hm
  rcases mil with ⟨w, w2⟩ | ⟨w, w2, m1, m2, m3, m4, m5, m6, m7, m8⟩
  · have q1 := c_swappedP (N := 2147483648) (J := J) (M := M) (c := c) (q := (fun _ => 0, fun _ => 0, fun _ => 0, fun _ => 0)) (n := 0) (by decide) hV.1 hx hQ0 (fun q => absurd w2 q) _ fe1
    have q2 := r_swappedP (N := 2147483648) (J := J1) (M := M) (c := c) (q := (fun _ => 0, fun _ => 0, fun _ => 0, fun _ => 0)) (n := 0) (by decide) sb (fun q => absurd w q) _ fe2
    refine ⟨?_, ri, c, cc1, pc1, fun z => absurd w z⟩
    rcases q1.1 with ⟨_, a⟩ | ⟨a, _⟩
    · rcases q2 with ⟨_, b⟩ | ⟨b, _⟩
      · exact Eq.trans a (Eq.symm b)
      · exact absurd w b
    · exact absurd w2 a
  · obtain ⟨v1, q, n, s1, s2, s3, s4⟩ := c3 w
    have cv : CV M c := v1.cv (m2.1 8 (by decide))
    have s3' : SNb q n (M.1 7) := by rw [← m2.1 7 (by decide)]; exact s3
    have fh : ∀ M', MB M' → CMl I O (rf O x 1) M' → FHy I O x M' c q n := fun M' h1 h2 => ⟨h1, v1.cv (h2.1 8 (by decide)), by rw [← h2.1 7 (by decide)]; exact s3, h2, c1, (s4 M' h1 h2).1, s1, (s4 M' h1 h2).2⟩
    have q1 := fun (M' : MM) (h1 : MB M') (h2 : CMl I O (rf O x 1) M') => c_swappedP (N := 2147483648) (J := J) (M := M') (c := c) (q := q) (n := n) (by decide) hV.1 hx hQ0 (fun _ => fh M' h1 h2) _ fe1
    have rs1 : RSn I1 O mo q n := by unfold RSn; rw [k1.2.2.2.1, k1.2.2.2.2.1, k1.2.2.2.2.2.1, k1.2.2.2.2.2.2.1, k1.2.2.2.2.2.2.2]; exact s2
    have q2 := r_swappedP (N := 2147483648) (J := J1) (M := M) (c := c) (q := q) (n := n) (by decide) sb (fun _ => ⟨m1, cv, s3', ⟨m3, pc1, rs1⟩, m8 _ 49 t17.2 (by decide) (by decide), m8 _ 37 t28.2 (by decide) (by decide), m8 _ 10 hm.2 (by decide) (by decide)⟩) _ fe2
    refine ⟨?_, ri, c, cc1, pc1, fun _ => ⟨by rw [e1]; exact v1, q, n, ((q1 M m1 m2).2 w2).2.2.2.1, rs1, by rw [e1]; exact s3, fun M' h1 h2 => ?_⟩⟩
    · rcases (q1 M m1 m2).1 with ⟨a, _⟩ | ⟨_, a⟩
      · exact absurd a w2
      · rcases q2 with ⟨b, _⟩ | ⟨_, b⟩
        · exact absurd b w
        · rcases a with ⟨a0, a⟩ | ⟨a0, a⟩
          · rcases b with ⟨b0, b⟩ | ⟨b0, b⟩
            · exact Eq.trans a (Eq.symm b)
            · exact absurd b0 a0
          · rcases b with ⟨b0, b⟩ | ⟨b0, b⟩
            · exact absurd a0 b0
            · exact swQ.u a b
    · have f := (q1 M' h1 (ml_kc kc (by decide) h2)).2 w2
      exact ⟨f.2.2.1, f.2.2.2.2⟩
theorem L5.guessS (hj : L5 P K I O x mo out) (hc : CRS I O x mo) (hF1 : FR frK K I J I1 J1) (k1 : ME I I1 O mo) (kc : ∀ l, l ∈ sLs → rt l ∉ [6] → I1 (pAt O x l) = I (pAt O x l)) {z1 z2 x1 x2 x3 x4 x5 : Int32} (fe1 : F_RM_guess 2147483648 O I J x x1 x2 x3 x4 x5 = some (z1, I1)) (fe2 : F_Mo_guess 2147483648 O I1 J1 mo x1 x2 x3 x4 x5 = some (z2, I2)) : z1.toInt = z2.toInt ∧ CRS I1 O x mo := by
  obtain ⟨M, t, gc, gr, hs, h26, mil⟩ := hj.view hF1
  obtain ⟨⟨⟨hV, hx, hm, ho, hR, hS, hH⟩, ⟨Q0, hQ0⟩, hA⟩, hB⟩ := hj
  obtain ⟨ri, c, c1, c2, c3⟩ := hc
  have nlb : ∀ {c d κ κ' : Nat}, K c = κ → K d = κ' → κ ≠ κ' → ¬ c = d := fun h1 h2 h3 z => h3 (by rw [← h1, ← h2, z])
  have t17 := rf_ok hV.1 hm (show sp 10 17 = some 49 from rfl)
  have t28 := rf_ok hV.1 hm (show sp 10 28 = some 37 from rfl)
  have pc1 : PCr I1 O mo c := by unfold PCr; rw [k1.1, k1.2.1, k1.2.2.1]; exact c2
  have ec5 : I1 (rf O x 5) = I (rf O x 5) := kc [5] (by decide) (by decide)
  have cc1 : CCr I1 (rf O x 5) c := by unfold CCr; rw [ec5]; exact c1
  have e1 : I1 (rf O x 1) = I (rf O x 1) := kc [1] (by decide) (by decide)
  have t1 := rf_ok hV.1 hx (show sp 8 1 = some 3 from rfl)
  have t6 := rf_ok hV.1 hx (show sp 8 6 = some 1 from rfl)
  have t60 := rf_ok hV.1 t6 (show sp 1 0 = some 20 from rfl)
  have t61 := rf_ok hV.1 t6 (show sp 1 1 = some 21 from rfl)
  have t20 := rf_ok hV.1 hm (show sp 10 20 = some 33 from rfl)
  have t21 := rf_ok hV.1 hm (show sp 10 21 = some 33 from rfl)
  have t22 := rf_ok hV.1 hm (show sp 10 22 = some 34 from rfl)
  have b7 := hV.2 _ t1.1 7
  rw [t1.2] at b7
  replace b7 : 0 ≤ (I (rf O x 1) 7).toInt ∧ (I (rf O x 1) 7).toInt ≤ 5 := b7
  have nx : ¬ rf O (rf O x 6) 0 = x ∧ ¬ rf O (rf O x 6) 1 = x := ⟨nlb t60.2 hx.2 (by decide), nlb t61.2 hx.2 (by decide)⟩
  have q2 := r_guessP (N := 2147483648) (J := J1) (M := M) (c := c) (x1 := x1) (x2 := x2) (x3 := x3) (x4 := x4) (x5 := x5) (by decide) (fun q => by
    rcases mil with ⟨w, _⟩ | ⟨_, _, m1, m2, m3, m4, m5, m6, m7, m8⟩
    · exact absurd w q
    · rw [m3.1.2.2.2.2.2.2.2.2.1]; have := m1.2.2.2.2.2.2.1; omega) (nlb t20.2 t17.2 (by decide)) (nlb t21.2 t17.2 (by decide)) (nlb t22.2 t17.2 (by decide)) ⟨nlb t20.2 hm.2 (by decide), nlb t21.2 hm.2 (by decide), nlb t22.2 hm.2 (by decide)⟩ (fun q => by
    rcases mil with ⟨w, _⟩ | ⟨w, _, m1, m2, m3, m4, m5, m6, m7, m8⟩
    · exact absurd w q
    · exact ⟨m1, (c3 w).1.cv (m2.1 8 (by decide)), m3, pc1, m8 _ 49 t17.2 (by decide) (by decide), m8 _ 10 hm.2 (by decide) (by decide)⟩) _ fe2
  dsimp only at q2
  rcases mil with ⟨w, w2⟩ | ⟨w, w2, m1, m2, m3, m4, m5, m6, m7, m8⟩
  · have q1 := c_guessP (N := 2147483648) (J := J) (M := M) (c := c) (x1 := x1) (x2 := x2) (x3 := x3) (x4 := x4) (x5 := x5) (by decide) b7 (c_sgu hV.1 hx hQ0) nx (fun q => absurd w2 q) _ fe1
    refine ⟨?_, ri, c, cc1, pc1, fun z => absurd w z⟩
    have a := q1.1
    dsimp only at a
    unfold gq at a q2
    rcases a with ⟨_, a⟩ | ⟨a, _⟩
    · rcases q2 with ⟨_, b⟩ | ⟨b, _⟩
      · rw [a, b]
      · exact absurd w b
    · exact absurd w2 a
  · obtain ⟨v1, q, n, s1, s2, s3, s4⟩ := c3 w
    have q1 := fun (M' : MM) (h1 : MB M') (h2 : CMl I O (rf O x 1) M') => c_guessP (N := 2147483648) (J := J) (M := M') (c := c) (x1 := x1) (x2 := x2) (x3 := x3) (x4 := x4) (x5 := x5) (by decide) b7 (c_sgu hV.1 hx hQ0) nx (fun _ => ⟨h1, v1.cv (h2.1 8 (by decide)), h2, c1, (s4 M' h1 h2).1⟩) _ fe1
    have rs1 : RSn I1 O mo q n := by unfold RSn; rw [k1.2.2.2.1, k1.2.2.2.2.1, k1.2.2.2.2.2.1, k1.2.2.2.2.2.2.1, k1.2.2.2.2.2.2.2]; exact s2
    have e7 : I1 (rf O x 7) = I (rf O x 7) := kc [7] (by decide) (by decide)
    have e70 : I1 (rf O (rf O x 7) 0) = I (rf O (rf O x 7) 0) := kc [0, 7] (by decide) (by decide)
    have e71 : I1 (rf O (rf O x 7) 1) = I (rf O (rf O x 7) 1) := kc [1, 7] (by decide) (by decide)
    have e72 : I1 (rf O (rf O x 7) 2) = I (rf O (rf O x 7) 2) := kc [2, 7] (by decide) (by decide)
    have e73 : I1 (rf O (rf O x 7) 3) = I (rf O (rf O x 7) 3) := kc [3, 7] (by decide) (by decide)
    have e75 : I1 (rf O (rf O x 7) 5) = I (rf O (rf O x 7) 5) := kc [5, 7] (by decide) (by decide)
    refine ⟨?_, ri, c, cc1, pc1, fun _ => ⟨by rw [e1]; exact v1, q, n, ?_, rs1, by rw [e1]; exact s3, fun M' h1 h2 => ⟨?_, ?_⟩⟩⟩
    · have es : (I1 (rf O mo 3) 8).toInt = (I (rf O x 1) 7).toInt := by rw [m3.1.2.2.2.2.2.2.2.2.1]; exact (m2.1 7 (by decide)).symm
      rw [es] at q2
      exact gq.u ⟨fun y => absurd y w2, fun y => absurd y w⟩ (q1 M m1 m2).1 q2
    · unfold CSn; rw [e7, e70, e71, e72, e73]; exact s1
    · exact (q1 M' h1 (ml_kc kc (by decide) h2)).2.1 w2
    · unfold FTc FTs; rw [e7, e75]; exact (s4 M' h1 (ml_kc kc (by decide) h2)).2
theorem L5.seenS (hj : L5 P K I O x mo out) (hc : CRS I O x mo) (hF1 : FR frK K I J I1 J1) (k1 : ME I I1 O mo) (kc : ∀ l, l ∈ sLs → rt l ∉ [7] → I1 (pAt O x l) = I (pAt O x l)) (cc : SE I1 I2 O x) (k2 : I2 (rf O mo 20) = I1 (rf O mo 20) ∧ I2 (rf O mo 21) = I1 (rf O mo 21) ∧ I2 (rf O mo 22) = I1 (rf O mo 22)) (ok23 : 0 ≤ (I1 mo 23).toInt ∧ (I1 mo 23).toInt ≤ 24) {z1 z2 x1 x2 x3 x4 : Int32} (fe1 : F_RM_seen 2147483648 O I J x x1 x2 x3 x4 = some (z1, I1)) (fe2 : F_Mo_seen 2147483648 O I1 J1 mo x1 x2 x3 x4 = some (z2, I2)) : CRS I2 O x mo := by
  obtain ⟨M, t, gc, gr, hs, h26, mil⟩ := hj.view hF1
  obtain ⟨⟨⟨hV, hx, hm, ho, hR, hS, hH⟩, ⟨Q0, hQ0⟩, hA⟩, hB⟩ := hj
  obtain ⟨ri, c, c1, c2, c3⟩ := hc
  have nlb : ∀ {c d κ κ' : Nat}, K c = κ → K d = κ' → κ ≠ κ' → ¬ c = d := fun h1 h2 h3 z => h3 (by rw [← h1, ← h2, z])
  have t17 := rf_ok hV.1 hm (show sp 10 17 = some 49 from rfl)
  have t28 := rf_ok hV.1 hm (show sp 10 28 = some 37 from rfl)
  have pc1 : PCr I1 O mo c := by unfold PCr; rw [k1.1, k1.2.1, k1.2.2.1]; exact c2
  have ec5 : I1 (rf O x 5) = I (rf O x 5) := kc [5] (by decide) (by decide)
  have cc1 : CCr I1 (rf O x 5) c := by unfold CCr; rw [ec5]; exact c1
  have e1 : I1 (rf O x 1) = I (rf O x 1) := kc [1] (by decide) (by decide)
  have t1 := rf_ok hV.1 hx (show sp 8 1 = some 3 from rfl)
  have t7 := rf_ok hV.1 hx (show sp 8 7 = some 6 from rfl)
  have t70 := rf_ok hV.1 t7 (show sp 6 0 = some 22 from rfl)
  have t71 := rf_ok hV.1 t7 (show sp 6 1 = some 22 from rfl)
  have t72 := rf_ok hV.1 t7 (show sp 6 2 = some 22 from rfl)
  have t73 := rf_ok hV.1 t7 (show sp 6 3 = some 22 from rfl)
  have t24 := rf_ok hV.1 hm (show sp 10 24 = some 35 from rfl)
  have t25 := rf_ok hV.1 hm (show sp 10 25 = some 36 from rfl)
  have t26 := rf_ok hV.1 hm (show sp 10 26 = some 35 from rfl)
  have t27 := rf_ok hV.1 hm (show sp 10 27 = some 35 from rfl)
  have b7 := hV.2 _ t1.1 7
  rw [t1.2] at b7
  replace b7 : 0 ≤ (I (rf O x 1) 7).toInt ∧ (I (rf O x 1) 7).toInt ≤ 5 := b7
  have ne := fun {p q : List Nat} {κ κ' : Nat} (a : pLb p = some κ) (b : pLb q = some κ') (c : p ≠ q) => pNe hV.1 hx hQ0 a b c
  have pc2 : PCr I2 O mo c := by unfold PCr; rw [k2.1, k2.2.1, k2.2.2]; exact pc1
  have i5 : I2 (rf O x 5) = I1 (rf O x 5) := cc [5] (by decide)
  have i1 : I2 (rf O x 1) = I1 (rf O x 1) := cc [1] (by decide)
  have cc2 : CCr I2 (rf O x 5) c := by unfold CCr; rw [i5]; exact cc1
  refine ⟨ri, c, cc2, pc2, fun w => ?_⟩
  rcases mil with ⟨w', _⟩ | ⟨_, w2, m1, m2, m3, m4, m5, m6, m7, m8⟩
  · exact absurd w' w
  obtain ⟨v1, q, n, s1, s2, s3, s4⟩ := c3 w
  have i7 : I2 (rf O x 7) = I1 (rf O x 7) := cc [7] (by decide)
  have i70 : I2 (rf O (rf O x 7) 0) = I1 (rf O (rf O x 7) 0) := cc [0, 7] (by decide)
  have i71 : I2 (rf O (rf O x 7) 1) = I1 (rf O (rf O x 7) 1) := cc [1, 7] (by decide)
  have i72 : I2 (rf O (rf O x 7) 2) = I1 (rf O (rf O x 7) 2) := cc [2, 7] (by decide)
  have i73 : I2 (rf O (rf O x 7) 3) = I1 (rf O (rf O x 7) 3) := cc [3, 7] (by decide)
  have i75 : I2 (rf O (rf O x 7) 5) = I1 (rf O (rf O x 7) 5) := cc [5, 7] (by decide)
  have g60 : I2 (rf O (rf O x 6) 0) = I (rf O (rf O x 6) 0) := Eq.trans (cc [0, 6] (by decide)) (kc [0, 6] (by decide) (by decide))
  have g61 : I2 (rf O (rf O x 6) 1) = I (rf O (rf O x 6) 1) := Eq.trans (cc [1, 6] (by decide)) (kc [1, 6] (by decide) (by decide))
  have rs1 : RSn I1 O mo q n := by unfold RSn; rw [k1.2.2.2.1, k1.2.2.2.2.1, k1.2.2.2.2.2.1, k1.2.2.2.2.2.2.1, k1.2.2.2.2.2.2.2]; exact s2
  have ml2 : ∀ M' : MM, CMl I2 O (rf O x 1) M' → CMl I O (rf O x 1) M' := fun M' h => ml_kc kc (by decide) (cc.ml h)
  have q1 := c_seenQ (N := 2147483648) (O := O) (I := I) (J := J) (a := x) (x1 := x1) (x2 := x2) (x3 := x3) (x4 := x4) b7 (by rw [s1.1]; omega) (nlb t7.2 hx.2 (by decide)) (fun j hj => by
    have : j = 0 ∨ j = 1 ∨ j = 2 ∨ j = 3 := by omega
    rcases this with rfl | rfl | rfl | rfl
    · exact ⟨nlb t70.2 hx.2 (by decide), nlb t70.2 t7.2 (by decide)⟩
    · exact ⟨nlb t71.2 hx.2 (by decide), nlb t71.2 t7.2 (by decide)⟩
    · exact ⟨nlb t72.2 hx.2 (by decide), nlb t72.2 t7.2 (by decide)⟩
    · exact ⟨nlb t73.2 hx.2 (by decide), nlb t73.2 t7.2 (by decide)⟩) (fun i j hi hj hij => by
    have L : ∀ i, i < 4 → pLb [i, 7] = some 22 := fun i hi => by
      have : i = 0 ∨ i = 1 ∨ i = 2 ∨ i = 3 := by omega
      rcases this with rfl | rfl | rfl | rfl <;> rfl
    exact ne (p := [i, 7]) (q := [j, 7]) (L i hi) (L j hj) (fun z => hij (List.cons.inj z).1)) _ fe1
  have n3 : ¬ rf O mo 3 = mo := fun z => (m8 mo 10 hm.2 (by decide) (by decide)).1 z
  have e8 : (I1 (rf O mo 3) 8).toInt = M.1 7 := m3.1.2.2.2.2.2.2.2.2.1
  have q2 := r_seenQ (N := 2147483648) (O := O) (I := I1) (J := J1) (a := mo) (x1 := x1) (x2 := x2) (x3 := x3) (x4 := x4) w (by rw [e8, ← m2.1 7 (by decide)]; exact b7) ok23 n3 (nlb t24.2 hm.2 (by decide)) (nlb t25.2 hm.2 (by decide)) (nlb t26.2 hm.2 (by decide)) (nlb t27.2 hm.2 (by decide)) (nlb t24.2 t25.2 (by decide)) ri.2.2.1 ri.2.2.2.1 (nlb t25.2 t26.2 (by decide)) (nlb t25.2 t27.2 (by decide)) ri.2.2.2.2.1 _ fe2
  have en : (I1 mo 23).toInt = (n : Int) := rs1.1
  have ec : (I (rf O x 7) 4).toInt = (n : Int) := s1.1
  have es : (I (rf O x 1) 7).toInt = M.1 7 := m2.1 7 (by decide)
  unfold SEc at q1
  unfold SEr at q2
  dsimp only at q1 q2
  rw [ec, es, Int.toNat_natCast] at q1
  rw [en, e8, Int.toNat_natCast] at q2
  refine ⟨by rw [i1, e1]; exact v1, ?_⟩
  rcases q1 with ⟨p1, p2⟩ | ⟨p1, p2, p3, p4, p5, p6, p7⟩
  · rcases q2 with ⟨r1, r2, r3⟩ | ⟨r1, _⟩
    · have y : ∀ b κ, K b = κ → κ ≠ 8 → κ ≠ 10 → I1 b = I b := fun b κ h1 h2 _ => p2 b (nlb h1 hx.2 h2)
      refine ⟨q, n, ?_, ?_, by rw [i1, e1]; exact s3, fun M' h1 h2 => ⟨?_, ?_⟩⟩
      · unfold CSn
        rw [i7, i70, i71, i72, i73, y _ 6 t7.2 (by decide) (by decide), y _ 22 t70.2 (by decide) (by decide), y _ 22 t71.2 (by decide) (by decide), y _ 22 t72.2 (by decide) (by decide), y _ 22 t73.2 (by decide) (by decide)]; exact s1
      · unfold RSn
        rw [r3, r2 _ (nlb t24.2 hm.2 (by decide)), r2 _ (nlb t25.2 hm.2 (by decide)), r2 _ (nlb t26.2 hm.2 (by decide)), r2 _ (nlb t27.2 hm.2 (by decide))]; exact rs1
      · unfold GCa; rw [g60, g61]; exact (s4 M' h1 (ml2 M' h2)).1
      · have t75 := rf_ok hV.1 t7 (show sp 6 5 = some 23 from rfl)
        unfold FTc FTs; rw [i7, i75, y _ 6 t7.2 (by decide) (by decide), y _ 23 t75.2 (by decide) (by decide)]; exact (s4 M' h1 (ml2 M' h2)).2
    · exact absurd r1 p1
  · rcases q2 with ⟨r1, _⟩ | ⟨r1, r2, r3, r4, r5, r6⟩
    · exact absurd p1 r1
    · obtain ⟨o1, o2, o3, o4, o5⟩ := p1
      have hn : n < 24 := by omega
      refine ⟨(fun k => if k = n then x1.toInt else q.1 k, fun k => if k = n then x2.toInt else q.2.1 k, fun k => if k = n then x3.toInt else q.2.2.1 k, fun k => if k = n then x4.toInt else q.2.2.2 k), n + 1, ⟨by rw [i7, p6]; omega, fun k hk => ?_⟩, ⟨by rw [r6]; omega, fun k hk => ?_⟩, ⟨by omega, fun k hk => ?_⟩, fun M' h1 h2 => ⟨?_, fun z => absurd p7 (by rw [i7] at z; exact z)⟩⟩
      · rw [i70, i71, i72, i73, p2 k, p3 k, p4 k, p5 k]
        by_cases e : k = n
        · rw [if_pos e, if_pos e, if_pos e, if_pos e]; dsimp only; rw [if_pos e, if_pos e, if_pos e, if_pos e]; exact ⟨rfl, rfl, rfl, rfl⟩
        · rw [if_neg e, if_neg e, if_neg e, if_neg e]; dsimp only; rw [if_neg e, if_neg e, if_neg e, if_neg e]; exact s1.2 k (by omega)
      · rw [r2 k, r3 k, r4 k, r5 k]
        by_cases e : k = n
        · rw [if_pos e, if_pos e, if_pos e, if_pos e]; dsimp only; rw [if_pos e, if_pos e, if_pos e, if_pos e]; exact ⟨rfl, rfl, rfl, rfl⟩
        · rw [if_neg e, if_neg e, if_neg e, if_neg e]; dsimp only; rw [if_neg e, if_neg e, if_neg e, if_neg e]; exact rs1.2 k (by omega)
      · dsimp only
        rw [i1, e1]
        by_cases e : k = n
        · rw [if_pos e, if_pos e, if_pos e, if_pos e, es]; exact ⟨o1, o2, o3, o4⟩
        · rw [if_neg e, if_neg e, if_neg e, if_neg e]; exact s3.2 k (by omega)
      · unfold GCa; rw [g60, g61]; exact (s4 M' h1 (ml2 M' h2)).1
theorem L5.forgetS (hj : L5 P K I O x mo out) (hc : CRS I O x mo) (k1 : ME I I1 O mo) (cc : SE I1 I2 O x) (k2 : I2 (rf O mo 20) = I1 (rf O mo 20) ∧ I2 (rf O mo 21) = I1 (rf O mo 21) ∧ I2 (rf O mo 22) = I1 (rf O mo 22)) {z1 z2 : Int32} (fe1 : F_RM_forget 2147483648 O I J x = some (z1, I1)) (fe2 : F_Mo_forget 2147483648 O I1 J1 mo = some (z2, I2)) : CRS I2 O x mo := by
  obtain ⟨⟨⟨hV, hx, hm, ho, hR, hS, hH⟩, ⟨Q0, hQ0⟩, hA⟩, hB⟩ := hj
  obtain ⟨ri, c, c1, c2, c3⟩ := hc
  obtain ⟨q1, q2, q3⟩ := c_forgetQ (N := 2147483648) (O := O) (I := I) (J := J) (a := x) _ fe1
  have q4 := r_forgetQ (N := 2147483648) (O := O) (I := I1) (J := J1) (a := mo) _ fe2
  dsimp only at q1 q2 q3 q4
  have y : ∀ l κ, pLb l = some κ → l ≠ [7] → I1 (pAt O x l) = I (pAt O x l) := fun l κ h1 h2 => q3 _ (pNe hV.1 hx hQ0 (l' := [7]) h1 (show pLb [7] = some 6 from rfl) h2)
  have i5 : I2 (rf O x 5) = I (rf O x 5) := Eq.trans (cc [5] (by decide)) (y [5] 19 rfl (by decide))
  have i1 : I2 (rf O x 1) = I (rf O x 1) := Eq.trans (cc [1] (by decide)) (y [1] 3 rfl (by decide))
  have g60 : I2 (rf O (rf O x 6) 0) = I (rf O (rf O x 6) 0) := Eq.trans (cc [0, 6] (by decide)) (y [0, 6] 20 rfl (by decide))
  have g61 : I2 (rf O (rf O x 6) 1) = I (rf O (rf O x 6) 1) := Eq.trans (cc [1, 6] (by decide)) (y [1, 6] 21 rfl (by decide))
  have i7 : I2 (rf O x 7) = I1 (rf O x 7) := cc [7] (by decide)
  refine ⟨ri, c, ?_, ?_, fun w => ?_⟩
  · unfold CCr; rw [i5]; exact c1
  · unfold PCr; rw [k2.1, k2.2.1, k2.2.2, k1.1, k1.2.1, k1.2.2.1]; exact c2
  · obtain ⟨v1, q, n, s1, s2, s3, s4⟩ := c3 w
    refine ⟨by rw [i1]; exact v1, (fun _ => 0, fun _ => 0, fun _ => 0, fun _ => 0), 0, ⟨by rw [i7, q1]; rfl, fun k hk => absurd hk (Nat.not_lt_zero _)⟩, ⟨by rw [q4]; rfl, fun k hk => absurd hk (Nat.not_lt_zero _)⟩, ⟨by decide, fun k hk => absurd hk (Nat.not_lt_zero _)⟩, fun M' h1 h2 => ⟨?_, fun z => absurd q2 (by rw [i7] at z; exact z)⟩⟩
    unfold GCa; rw [g60, g61]
    have h2' := cc.ml h2
    refine (s4 M' h1 (h2'.fr (Eq.symm (y [1] 3 rfl (by decide))) (fun j hj => ?_))).1
    have : j = 0 ∨ j = 1 ∨ j = 2 ∨ j = 3 ∨ j = 4 := by omega
    rcases this with rfl | rfl | rfl | rfl | rfl
    · exact Eq.symm (y [10, 1] 13 rfl (by decide))
    · exact Eq.symm (y [11, 1] 11 rfl (by decide))
    · exact Eq.symm (y [12, 1] 11 rfl (by decide))
    · exact Eq.symm (y [13, 1] 12 rfl (by decide))
    · exact Eq.symm (y [14, 1] 14 rfl (by decide))
theorem L4.progS (hj : L4 P K I O x mo out) (hc : CRS I O x mo) (hF1 : FR frK K I J I1 J1) (k1 : ME I I1 O mo) (cc : SE I1 I2 O x) {z1 z2 x1 x2 x3 x4 : Int32} (fe1 : F_RM_program 2147483648 O I J x x1 x2 x3 x4 = some (z1, I1)) (fe2 : F_Mo_program 2147483648 O I1 J1 mo x1 x2 x3 x4 = some (z2, I2)) (k2 : I2 (rf O mo 24) = I1 (rf O mo 24) ∧ I2 (rf O mo 25) = I1 (rf O mo 25) ∧ I2 (rf O mo 26) = I1 (rf O mo 26) ∧ I2 (rf O mo 27) = I1 (rf O mo 27) ∧ I2 mo 23 = I1 mo 23) (hz : z1.toInt = z2.toInt) (rb : z1.toInt = 1 → (0 ≤ x2.toInt ∧ x2.toInt ≤ 3) ∧ (0 ≤ x3.toInt ∧ x3.toInt ≤ 3) ∧ 0 ≤ x4.toInt ∧ x4.toInt < (I (rf O x 1) 8).toInt) : CRS I2 O x mo := by
  obtain ⟨⟨hV, hx, hm, ho, hR, hS, hH⟩, ⟨Q0, hQ0⟩, hA⟩ := hj
  have nlb : ∀ {c d κ κ' : Nat}, K c = κ → K d = κ' → κ ≠ κ' → ¬ c = d := fun h1 h2 h3 z => h3 (by rw [← h1, ← h2, z])
  have t5 := rf_ok hV.1 hx (show sp 8 5 = some 19 from rfl)
  have t6 := rf_ok hV.1 hx (show sp 8 6 = some 1 from rfl)
  have t61 := rf_ok hV.1 t6 (show sp 1 1 = some 21 from rfl)
  have t7 := rf_ok hV.1 hx (show sp 8 7 = some 6 from rfl)
  have t20 := rf_ok hV.1 hm (show sp 10 20 = some 33 from rfl)
  have t21 := rf_ok hV.1 hm (show sp 10 21 = some 33 from rfl)
  have t22 := rf_ok hV.1 hm (show sp 10 22 = some 34 from rfl)
  have q1 := c_programQ (N := 2147483648) (O := O) (I := I) (J := J) (x1 := x1) (x2 := x2) (x3 := x3) (x4 := x4) (by decide) (nlb t5.2 hx.2 (by decide)) (nlb t61.2 hx.2 (by decide)) (nlb t7.2 hx.2 (by decide)) (nlb t5.2 t61.2 (by decide)) (nlb t5.2 t7.2 (by decide)) (nlb t61.2 t7.2 (by decide)) _ fe1
  have q2 := r_programQ (N := 2147483648) (O := O) (I := I1) (J := J1) (x1 := x1) (x2 := x2) (x3 := x3) (x4 := x4) (nlb t20.2 hm.2 (by decide)) (nlb t21.2 hm.2 (by decide)) (nlb t22.2 hm.2 (by decide)) hc.1.1 (nlb t20.2 t22.2 (by decide)) (nlb t21.2 t22.2 (by decide)) _ fe2
  have lab : ∀ l, l ∈ sLs → ∃ κ, pLb l = some κ ∧ κ ∈ sKs := fun l hl => by
    have h : sOKs l = true := (by decide : ∀ l ∈ sLs, sOKs l = true) l hl
    unfold sOKs at h
    cases hp : pLb l with
    | none => rw [hp] at h; cases h
    | some κ => rw [hp] at h; exact ⟨κ, rfl, of_decide_eq_true h⟩
  refine hc.prog q1 q2 hz rb (fun l hl => ?_) (fun l hl h5 h61 h7 => ?_) cc ⟨nlb t20.2 hm.2 (by decide), nlb t21.2 hm.2 (by decide), nlb t22.2 hm.2 (by decide)⟩ k1 k2
  · obtain ⟨κ, h1, h2⟩ := lab l hl
    exact nlb (pAt_ok hV.1 hx l κ h1).2 hx.2 ((by decide : ∀ κ ∈ sKs, κ ≠ 8) κ h2)
  · obtain ⟨κ, h1, h2⟩ := lab l hl
    exact ⟨pNe hV.1 hx hQ0 (l' := [5]) h1 (show pLb [5] = some 19 from rfl) h5, pNe hV.1 hx hQ0 (l' := [1, 6]) h1 (show pLb [1, 6] = some 21 from rfl) h61, pNe hV.1 hx hQ0 (l' := [7]) h1 (show pLb [7] = some 6 from rfl) h7⟩
end LFITS
theorem kpK {kp : Nat → Nat → Bool} {K : Nat → Nat} {κ k b : Nat} (h : K b = κ) (e : kp κ k = true) : kp (K b) k = true := by rw [h]; exact e
def L6 (P : List Nat) (K : Nat → Nat) (I : WI) (O : WO) (x mo out : Nat) : Prop := L5 P K I O x mo out ∧ CRS I O x mo
