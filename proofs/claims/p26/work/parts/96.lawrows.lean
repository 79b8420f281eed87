/-- the script lies where nobody writes -/
def SCR (X : CTX) (b Ln : Nat) (xs : Nat → Int32) : Prop := match X with
  | (_, _, _, _, s, _, _, _, _, _, _, A, _, _, _) => va_X b Ln xs s s.heap ∧ b < s.heap.size ∧ ¬ A b
def sv (xs : Nat → Int32) (i : Int32) (k : Int) : Int32 := xs (i + Int32.ofInt k).toNatClampNeg
theorem sidx {i : Int32} {Ln : Nat} (hi : 0 ≤ i.toInt ∧ i.toInt + 7 ≤ (Ln : Int)) (hL : Ln ≤ 3584) {k : Int} (hk : 0 ≤ k ∧ k ≤ 6) : vp_in (i + Int32.ofInt k) Ln := by
  have e0 : (Int32.ofInt k).toInt = k := ofI (by omega)
  have e1 : (i + Int32.ofInt k).toInt = i.toInt + k := by rw [Int32.toInt_add, wr32, e0]; omega
  exact vp_in_iff.mpr (by rw [e1]; omega)
section LROW
variable {X : CTX} {cc : ByteArray} {nL : Nat} {own : String} {rm : Room} {P : List Nat} {K : Nat → Nat} {I : Nat → Nat → Int32} {O : Nat → Nat → Option Nat} {J : Nat → Nat → Int64} {nc ns pc : Nat} {L : List (Nat × Value)} {st : List Value}
theorem g_slen {b Ln : Nat} {xs : Nat → Int32} (C : Cx X cc nL own rm) (hs : SCR X b Ln xs) (d : decode cc pc = .ok (.arraylength, 1)) (k : GG X nL P K I O J nc ns (pc + 1) L (.int (Int32.ofNat Ln) :: st)) : GG X nL P K I O J nc ns pc L (.ref b :: st) := by
  obtain ⟨p, l, e, R, s, m, args, below, meth, c, Q, A, D, cy, ad⟩ := X
  obtain ⟨⟨hx, hb, hml, hown, hts⟩, hK, hA, hlk, hSC, hR⟩ := C
  exact fun ls H locs hl hP hD hS => va_slen hx hb hs.1 hs.2.1 hs.2.2 hS d (k ls H locs hl hP hD hS)
theorem g_sld {b Ln : Nat} {xs : Nat → Int32} {i : Int32} (C : Cx X cc nL own rm) (hs : SCR X b Ln xs) (hi : vp_in i Ln) (d : decode cc pc = .ok (.iaload, 1)) (k : GG X nL P K I O J nc ns (pc + 1) L (.int (xs i.toNatClampNeg) :: st)) : GG X nL P K I O J nc ns pc L (.int i :: .ref b :: st) := by
  obtain ⟨p, l, e, R, s, m, args, below, meth, c, Q, A, D, cy, ad⟩ := X
  obtain ⟨⟨hx, hb, hml, hown, hts⟩, hK, hA, hlk, hSC, hR⟩ := C
  exact fun ls H locs hl hP hD hS => va_sld hx hb hs.1 hs.2.1 hs.2.2 hS hi d (k ls H locs hl hP hD hS)
/-- script[i + k] -/
theorem g_sarg {b Ln : Nat} {xs : Nat → Int32} {i : Int32} {k : Int} (C : Cx X cc nL own rm) (hs : SCR X b Ln xs) (hL : Ln ≤ 3584) (hi : 0 ≤ i.toInt ∧ i.toInt + 7 ≤ (Ln : Int)) (hk : 0 ≤ k ∧ k ≤ 6) (h0 : lkp L 0 = some (.ref b)) (h4 : lkp L 4 = some (.int i)) (d0 : decode cc pc = .ok (.aload_n 0, 1)) (d1 : decode cc (pc + 1) = .ok (.iload 4, 2)) (d3 : decode cc (pc + 3) = .ok (.iconst k, 1)) (d4 : decode cc (pc + 4) = .ok (.iadd, 1)) (d5 : decode cc (pc + 5) = .ok (.iaload, 1)) (kk : GG X nL P K I O J nc ns (pc + 6) L (.int (sv xs i k) :: st)) : GG X nL P K I O J nc ns pc L st :=
  g_aload_n C d0 h0 (g_iload C d1 h4 (g_iconst C d3 rfl (g_iadd C d4 (g_sld C hs (sidx hi hL hk) d5 kk))))
theorem g_sarg6 {b Ln : Nat} {xs : Nat → Int32} {i : Int32} (C : Cx X cc nL own rm) (hs : SCR X b Ln xs) (hL : Ln ≤ 3584) (hi : 0 ≤ i.toInt ∧ i.toInt + 7 ≤ (Ln : Int)) (h0 : lkp L 0 = some (.ref b)) (h4 : lkp L 4 = some (.int i)) (d0 : decode cc pc = .ok (.aload_n 0, 1)) (d1 : decode cc (pc + 1) = .ok (.iload 4, 2)) (d3 : decode cc (pc + 3) = .ok (.bipush 6, 2)) (d4 : decode cc (pc + 5) = .ok (.iadd, 1)) (d5 : decode cc (pc + 6) = .ok (.iaload, 1)) (kk : GG X nL P K I O J nc ns (pc + 7) L (.int (sv xs i 6) :: st)) : GG X nL P K I O J nc ns pc L st :=
  g_aload_n C d0 h0 (g_iload C d1 h4 (g_bipush (v := Int32.ofInt 6) C d3 (by decide) (g_iadd C d4 (g_sld C hs (sidx hi hL ⟨by decide, by decide⟩) d5 kk))))
/-- b != 0 -/
theorem g_nz {x : Int32} (tgt : Nat) (C : Cx X cc nL own rm) (d0 : decode cc pc = .ok (.ifCond .eq 7, 3)) (d3 : decode cc (pc + 3) = .ok (.iconst 1, 1)) (d4 : decode cc (pc + 4) = .ok (.goto 4, 3)) (d7 : decode cc (pc + 7) = .ok (.iconst 0, 1)) (k : ∀ v : Int32, ((¬ x.toInt = 0 ∧ v.toInt = 1) ∨ (x.toInt = 0 ∧ v.toInt = 0)) → GG X nL P K I O J nc ns (pc + 8) L (.int v :: st)) : GG X nL P K I O J nc ns pc L (.int x :: st) :=
  gt_if_eq (pc + 7) C d0 (by omega) rfl (fun c => g_iconst (v := Int32.ofInt 0) C d7 (by decide) (k _ (Or.inr ⟨c, ofI (by decide)⟩))) (fun c => g_iconst (v := Int32.ofInt 1) C d3 (by decide) (g_goto (pc + 8) C d4 (by omega) (k _ (Or.inl ⟨c, ofI (by decide)⟩))))
theorem g_callS2 {idx n nL' : Nat} {y : MethodName} {cc' : ByteArray} {rt' : Option FieldType} {hh : List (Nat × Nat × Nat × Nat)} {rm' : Room} {post : PST} {av : List Value} {rest : List Value} (C : Cx X cc nL own rm) (hLX : LX X) (d : decode cc pc = .ok (.invokestatic idx, 3)) (hcb : Cond.codeWith y cc' nL' rt' hh ∈ wG) (hini : Cond.initialized y.cls ∈ wG) (hcl : y.cls ≠ "java/lang/invoke/MethodHandle" ∧ y.cls ≠ "java/lang/invoke/VarHandle") (hpm : (parseMethodDescriptor y.desc).map (fun d => d.parameters.length) = some n) (hv : Cond.static y ∈ wG) (hl0 : Cond.methodLink own idx y ∈ wG) (hc : ConH y cc' nL' rt' hh rm' P K I O J av post) (hn : av.length = n) (hst : st = av.reverse ++ rest) (hw : (rest.map fun v => v.category).sum ≤ 8) (hR' : rm'.frames + 1 ≤ rm.frames ∧ 8 + (nL' + 11) + rm'.locals ≤ rm.locals) (hro : nc + rm'.cells ≤ rm.cells ∧ ns + rm'.slots ≤ rm.slots)
    (k : ∀ (r : Option Value) (P' : List Nat) (K' : Nat → Nat) (I' : Nat → Nat → Int32) (O' : Nat → Nat → Option Nat) (J' : Nat → Nat → Int64), post r P' K' I' O' J' → GG X nL P' K' I' O' J' (nc + rm'.cells) (ns + rm'.slots) (pc + 3) L (r.toList ++ rest)) : GG X nL P K I O J nc ns pc L st := by
  obtain ⟨p, l, e, R, s, m, args, below, meth, c, Q, A, D, cy, ad⟩ := X
  obtain ⟨⟨hx, hb, hml, hown, hts⟩, hK, hA, hlk, hSC, hR⟩ := C
  obtain ⟨hlt, hLT⟩ := hLX
  subst hR
  intro ls H locs hl hP hD hS T hT X0
  have hFr : ∀ q, va_A (pw cy P K I O J) H.size q → A q := by
    rintro q (⟨k1, e1, h1⟩ | h1)
    · exact hD.2 k1 (q, e1) h1
    · exact hA q (Nat.le_trans hS.1 h1)
  have hp : PreS s H (PPT D cy ad H.size P K I O J av) av := ⟨PPT.blind, fun U hU hW => ⟨⟨rfl, by rw [hU], by rw [hU]; exact hP, va_K.moved hW.alike hK, hD.weaken (fun _ _ _ _ => trivial), hSC.call hS hW hU hFr⟩, hLT.call hS hW hU hFr⟩⟩
  have hgd := wG_in2 hcb
  have hpm' : ∀ sig, parseMethodDescriptor y.desc = some sig → n = sig.parameters.length := fun sig hs => by rw [hs] at hpm; exact (Option.some.inj hpm).symm
  have hws : ∀ w ∈ (Cond.codeWith y cc' nL' rt' hh :: wG), ∀ (a' : Array Value) (U : State), s.WarmedH U.vm → w.before a' U = true := pay_in hts hgd
  have hr := vx_runSW (locs := locs) (cells := nc) (slots := ns) (e := e) (below := below) (meth := meth) (As := av) (rest := rest) (g := F0 m pc ls st) ⟨hx, hb, hml, hown, hts⟩ (hc l hlt D cy ad H.size) ⟨⟨rfl, rfl, hR'.1, hR'.2, hws, List.mem_cons_self⟩, hts _ hcb, hts _ hini, hcl, hpm', hts _ hl0, hts _ hv⟩ hp rfl hn hl.1 hst (lv_room hw) d hro
  obtain ⟨v, st₀, t, T', Lc, h0, X', hL, e1, e2, ⟨⟨r, P', K', I', O', J', hv, hp, hP1, hK1, hD1⟩, hz, hk⟩, stp⟩ := hr T hT X0
  cases hv
  rw [h0] at hz hk
  have hw := k v P' K' I' O' J' hp ls T'.heap (locs ++ Lc) hl (by rw [e1]; exact hP1) (hD1.weaken (fun _ q _ h => hFr q.1 h)) ⟨Nat.le_trans hS.1 (by rw [e1]; exact hz), fun q h1 h2 => by rw [e1, hk q (Nat.lt_of_lt_of_le h1 hS.1) (fun z => h2 (hFr q z))]; exact hS.2.1 q h1 h2, fun q hq => by
    rcases List.mem_append.mp hq with h | h
    · exact hS.2.2 q h
    · exact hFr _ (hL q h)⟩
  obtain ⟨t2, a1, b1⟩ := hw T' rfl X'
  exact ⟨t2, stp t2 a1, b1⟩
/-- a method that makes no cell, by its contract of safety -/
theorem lx_call {idx n nL' κ a rc : Nat} {y : MethodName} {cc' : ByteArray} {rt' : Option FieldType} {rm' : Room} {fr : Nat → Bool} {ρ : Int32 → (Nat → Nat → Int32) → Prop} {av : List Value} {rest : List Value} (C : Cx X cc nL own room_1) (d : decode cc pc = .ok (.invokevirtual idx, 3)) (hm : MF y cc' nL' rt' n) (hv : MV y) (hl0 : LN own idx y) (ha : a ∈ P ∧ K a = κ) (hκ : κ < 11) (hcn : cN κ = y.cls) (hc : Con y cc' nL' rt' rm' P K I O J (.ref a :: av) (SPo fr rc ρ P K I O J)) (hrc : rc = 1 ∨ rc = 2) (hn : av.length = n) (hst : st = av.reverse ++ .ref a :: rest) (hw : (rest.map fun v => v.category).sum ≤ 8) (hR' : Nat.ble (rm'.frames + 1) 2048 = true ∧ Nat.ble (8 + (nL' + 11) + rm'.locals) 84000 = true) (hz : rm'.cells = 0 ∧ rm'.slots = 0) (hro : nc ≤ 601024 ∧ ns ≤ 7293034)
    (k : ∀ (z : Int32) (I' : Nat → Nat → Int32) (J' : Nat → Nat → Int64), IV P K I' O → FR fr K I J I' J' → ρ z I' → GG X nL P K I' O J' nc ns (pc + 3) L (.int z :: rest)) : GG X nL P K I O J nc ns pc L st := by
  refine g_callV (av := fun _ => av) (rest := rest) C d hm hv hl0 ha hκ hcn hc hn hst hw ⟨Nat.le_of_ble_eq_true hR'.1, Nat.le_of_ble_eq_true hR'.2⟩ (by rw [hz.1, hz.2]; exact hro) ?_
  rintro r P' K' I' O' J' ⟨rfl, rfl, rfl, hV, hF, hr⟩
  rw [hz.1, hz.2]
  rcases hrc with rfl | rfl
  · obtain ⟨z, rfl, hq⟩ := hr
    exact k z I' J' hV hF hq
  · obtain ⟨z, rfl, -, hq⟩ := hr
    exact k z I' J' hV hF hq
end LROW
/-- what stands at the law's loop -/
theorem lx_callC {X : CTX} {cc : ByteArray} {nL : Nat} {own : String} {P : List Nat} {K : Nat → Nat} {I : WI} {O : WO} {J : WJ} {nc ns pc : Nat} {L : List (Nat × Value)} {st : List Value} {idx n nL' κ a : Nat} {y : MethodName} {cc' : ByteArray} {rt' : Option FieldType} {rm' : Room} {av : List Value} {rest : List Value} {kp : Nat → Nat → Bool} {Φ : Int32 → WI → WJ → Prop} (C : Cx X cc nL own room_1) (d : decode cc pc = .ok (.invokevirtual idx, 3)) (hm : MF y cc' nL' rt' n) (hv : MV y) (hl0 : LN own idx y) (ha : a ∈ P ∧ K a = κ) (hκ : κ < 11) (hcn : cN κ = y.cls) (hc : DC y cc' nL' rt' rm' P K I O J a av kp Φ) (hn : av.length = n) (hst : st = av.reverse ++ .ref a :: rest) (hw : (rest.map fun v => v.category).sum ≤ 8) (hR' : Nat.ble (rm'.frames + 1) 2048 = true ∧ Nat.ble (8 + (nL' + 11) + rm'.locals) 84000 = true) (hz : rm'.cells = 0 ∧ rm'.slots = 0) (hro : nc ≤ 601024 ∧ ns ≤ 7293034)
    (k : ∀ (z : Int32) (I' : WI) (J' : WJ), IV P K I' O → FQ kp K I J I' J' → Φ z I' J' → GG X nL P K I' O J' nc ns (pc + 3) L (.int z :: rest)) : GG X nL P K I O J nc ns pc L st := by
  obtain ⟨z, I', J', hc, h1, h2, hΦ⟩ := hc
  refine g_callV (av := fun _ => av) (rest := rest) C d hm hv hl0 ha hκ hcn hc hn hst hw ⟨Nat.le_of_ble_eq_true hR'.1, Nat.le_of_ble_eq_true hR'.2⟩ (by rw [hz.1, hz.2]; exact hro) ?_
  rintro r P' K' I2 O' J2 ⟨rfl, rfl, rfl, rfl, rfl, rfl⟩
  rw [hz.1, hz.2]
  exact k z _ _ h1 h2 hΦ
theorem lx_callM {X : CTX} {cc : ByteArray} {nL : Nat} {own : String} {P : List Nat} {K : Nat → Nat} {I : WI} {O : WO} {J : WJ} {nc ns pc : Nat} {L : List (Nat × Value)} {st : List Value} {idx n nL' κ a : Nat} {y : MethodName} {cc' : ByteArray} {rt' : Option FieldType} {rm' : Room} {av : List Value} {rest : List Value} {kp : Nat → Nat → Bool} {Φ : Int32 → WI → WJ → Prop} (C : Cx X cc nL own room_1) (d : decode cc pc = .ok (.invokevirtual idx, 3)) (hm : MF y cc' nL' rt' n) (hv : MV y) (hl0 : LN own idx y) (ha : a ∈ P ∧ K a = κ) (hκ : κ < 11) (hcn : cN κ = y.cls) (hc : DM y cc' nL' rt' rm' P K I O J a av kp Φ) (hn : av.length = n) (hst : st = av.reverse ++ .ref a :: rest) (hw : (rest.map fun v => v.category).sum ≤ 8) (hR' : Nat.ble (rm'.frames + 1) 2048 = true ∧ Nat.ble (8 + (nL' + 11) + rm'.locals) 84000 = true) (hz : rm'.cells = 0 ∧ rm'.slots = 0) (hro : nc ≤ 601024 ∧ ns ≤ 7293034)
    (k : ∀ (z : Int32) (I' : WI) (J' : WJ), IV P K I' O → FQ kp K I J I' J' → RS P K I' O a → (I' a 6).toInt = (I a 6).toInt → Φ z I' J' → GG X nL P K I' O J' nc ns (pc + 3) L (.int z :: rest)) : GG X nL P K I O J nc ns pc L st := by
  obtain ⟨z, I', J', hc, h1, h2, h3, h4, hΦ⟩ := hc
  refine g_callV (av := fun _ => av) (rest := rest) C d hm hv hl0 ha hκ hcn hc hn hst hw ⟨Nat.le_of_ble_eq_true hR'.1, Nat.le_of_ble_eq_true hR'.2⟩ (by rw [hz.1, hz.2]; exact hro) ?_
  rintro r P' K' I2 O' J2 ⟨rfl, rfl, rfl, rfl, rfl, rfl⟩
  rw [hz.1, hz.2]
  exact k z _ _ h1 h2 h3 h4 hΦ
def SPc (O : WO) (x : Nat) : Prop := rf O (rf O x 1) 11 ≠ rf O (rf O x 1) 12 ∧ rf O (rf O x 2) 11 ≠ rf O (rf O x 2) 12
def HT3 (I : WI) (O : WO) (x mo : Nat) : Prop := (I (rf O x 0) 1).toInt = (I mo 6).toInt ∧ (0 ≤ (I mo 6).toInt ∧ (I mo 6).toInt ≤ 700) ∧ ∀ i : Nat, (i : Int) < (I mo 6).toInt → I (rf O (rf O x 0) 0) i = I (rf O mo 5) i ∧ -128 ≤ (I (rf O mo 5) i).toInt ∧ (I (rf O mo 5) i).toInt ≤ 127
def L3 (P : List Nat) (K : Nat → Nat) (I : WI) (O : WO) (x mo out : Nat) : Prop := IV P K I O ∧ (x ∈ P ∧ K x = 8) ∧ (mo ∈ P ∧ K mo = 10) ∧ (out ∈ P ∧ K out = 48) ∧ RS P K I O mo ∧ SPc O x ∧ HT3 I O x mo
theorem L3.cls {P : List Nat} {K : Nat → Nat} {I I' : WI} {O : WO} {J J' : WJ} {x mo out : Nat} {fr : Nat → Bool} (h : L3 P K I O x mo out) (hV : IV P K I' O) (hF : FR fr K I J I' J') (h5 : fr 5 = true) (h15 : fr 15 = true) (h9 : fr 9 = true) (h10 : fr 10 = true) (h30 : fr 30 = true) (h31 : fr 31 = true) : L3 P K I' O x mo out := by
  obtain ⟨-, hx, hm, ho, hR, hS, hH⟩ := h
  have t0 := rf_ok hV.1 hx (show sp 8 0 = some 5 from rfl)
  have tt := rf_ok hV.1 t0 (show sp 5 0 = some 15 from rfl)
  have t5 := rf_ok hV.1 hm (show sp 10 5 = some 30 from rfl)
  have t16 := rf_ok hV.1 hm (show sp 10 16 = some 31 from rfl)
  have e1 := (hF _ (by rw [t0.2]; exact h5)).1
  have e2 := (hF _ (by rw [tt.2]; exact h15)).1
  have e3 := (hF _ (by rw [t5.2]; exact h30)).1
  have e4 := (hF _ (by rw [hm.2]; exact h10)).1
  have e5 := (hF _ (by rw [t16.2]; exact h31)).1
  refine ⟨hV, hx, hm, ho, hR.keep1 hF h9 ?_, hS, ?_⟩
  · rw [e4, e5]; exact hR.2
  · unfold HT3
    rw [e1, e4]
    refine ⟨hH.1, hH.2.1, fun i hi => ?_⟩
    rw [e2, e3]; exact hH.2.2 i hi
theorem L3.ref {P : List Nat} {K : Nat → Nat} {I I' : WI} {O : WO} {J J' : WJ} {x mo out : Nat} (h : L3 P K I O x mo out) (hV : IV P K I' O) (hF : FR frM2 K I J I' J') (hR' : RS P K I' O mo) (h6 : (I' mo 6).toInt = (I mo 6).toInt) : L3 P K I' O x mo out := by
  obtain ⟨-, hx, hm, ho, hR, hS, hH⟩ := h
  have t0 := rf_ok hV.1 hx (show sp 8 0 = some 5 from rfl)
  have tt := rf_ok hV.1 t0 (show sp 5 0 = some 15 from rfl)
  have t5 := rf_ok hV.1 hm (show sp 10 5 = some 30 from rfl)
  have e1 := (hF _ (by rw [t0.2]; rfl)).1
  have e2 := (hF _ (by rw [tt.2]; rfl)).1
  have e3 := (hF _ (by rw [t5.2]; rfl)).1
  refine ⟨hV, hx, hm, ho, hR', hS, ?_⟩
  unfold HT3
  rw [e1, h6]
  refine ⟨hH.1, hH.2.1, fun i hi => ?_⟩
  rw [e2, e3]; exact hH.2.2 i hi
/-- the class's cells: closed under references, no two references to one cell -/
def OW (Q P : List Nat) (O : WO) (x mo : Nat) : Prop := x ∈ Q ∧ mo ∉ Q ∧ (∀ b, b ∈ Q → b ∈ P) ∧ (∀ b f c, b ∈ Q → O b f = some c → c ∈ Q) ∧ (∀ b f b' f' c, b ∈ Q → b' ∈ Q → O b f = some c → O b' f' = some c → b = b' ∧ f = f')
/-- what the class and the reference have alike: the fault, its place, the mill's sizes and ores, the numbers of a try -/
def AL (I : WI) (O : WO) (x mo : Nat) : Prop := (I x 15).toInt = (I mo 13).toInt ∧ (((I x 14).toInt = 4 ∧ (I x 16).toInt = (I mo 2).toInt) ∨ (¬ (I x 14).toInt = 4 ∧ (I mo 2).toInt = -1)) ∧ ((O mo 3 = none ∧ (I (rf O x 1) 7).toInt = 0 ∧ (I (rf O x 1) 8).toInt = 0) ∨ (¬ O mo 3 = none ∧ (I (rf O x 1) 7).toInt = (I (rf O mo 3) 8).toInt ∧ (I (rf O x 1) 8).toInt = (I (rf O mo 3) 9).toInt ∧ 2 ≤ (I (rf O mo 3) 8).toInt)) ∧ (I (rf O x 9) 3).toInt = (I (rf O mo 33) 0).toInt ∧ (I (rf O x 9) 4).toInt = (I (rf O mo 33) 1).toInt
def L4 (P : List Nat) (K : Nat → Nat) (I : WI) (O : WO) (x mo out : Nat) : Prop := L3 P K I O x mo out ∧ (∃ Q, OW Q P O x mo) ∧ AL I O x mo
theorem FQ.mL_2 {K : Nat → Nat} {I I' : WI} {J J' : WJ} (h : FQ mL K I J I' J') : FR frM2 K I J I' J' := FQ.fr (h.le (kp2 := mN) (kpL_le (frL_le (by decide)) rfl))
theorem FQ.mS_2 {K : Nat → Nat} {I I' : WI} {J J' : WJ} (h : FQ mS K I J I' J') : FR frM2 K I J I' J' := FQ.fr (h.le (kp2 := mN) (kpL_le (frL_le (by decide)) rfl))
theorem FQ.mN_2 {K : Nat → Nat} {I I' : WI} {J J' : WJ} (h : FQ mN K I J I' J') : FR frM2 K I J I' J' := FQ.fr h
theorem FQ.mC_2 {K : Nat → Nat} {I I' : WI} {J J' : WJ} (h : FQ mC K I J I' J') : FR frM2 K I J I' J' := FQ.fr h
theorem FQ.kD_C {K : Nat → Nat} {I I' : WI} {J J' : WJ} (h : FQ kD K I J I' J') : FQ kC K I J I' J' := h.le (kpL_le (fun _ h => h) rfl)
theorem FQ.kC_N {K : Nat → Nat} {I I' : WI} {J J' : WJ} (h : FQ kC K I J I' J') : FQ kN K I J I' J' := h.le (kpL_le (fun _ h => h) rfl)
theorem FQ.kT_N {K : Nat → Nat} {I I' : WI} {J J' : WJ} (h : FQ kT K I J I' J') : FQ kN K I J I' J' := h.le (kpL_le (fun _ h => h) rfl)
theorem FQ.mS_N {K : Nat → Nat} {I I' : WI} {J J' : WJ} (h : FQ mS K I J I' J') : FQ mN K I J I' J' := h.le (kpL_le (frL_le (by decide)) rfl)
theorem FQ.mL_S {K : Nat → Nat} {I I' : WI} {J J' : WJ} (h : FQ mL K I J I' J') : FQ mS K I J I' J' := h.le (kpL_le (fun _ h => h) rfl)
theorem FQ.mC_N {K : Nat → Nat} {I I' : WI} {J J' : WJ} (h : FQ mC K I J I' J') : FQ mN K I J I' J' := h.le (kpL_le (fun _ h => h) rfl)
theorem AL.same {I I2 : WI} {O : WO} {x mo : Nat} (h : AL I O x mo) (e14 : I2 x 14 = I x 14) (e15 : I2 x 15 = I x 15) (e16 : I2 x 16 = I x 16) (f13 : I2 mo 13 = I mo 13) (f2 : I2 mo 2 = I mo 2) (c : I2 (rf O x 1) = I (rf O x 1)) (m : ¬ O mo 3 = none → I2 (rf O mo 3) = I (rf O mo 3)) (t : I2 (rf O x 9) = I (rf O x 9)) (r : I2 (rf O mo 33) = I (rf O mo 33)) : AL I2 O x mo := by
  unfold AL at h ⊢
  rw [e14, e15, e16, f13, f2, c, t, r]
  obtain ⟨h1, h2, h3, h4, h5⟩ := h
  refine ⟨h1, h2, ?_, h4, h5⟩
  rcases h3 with w | ⟨w1, w2⟩
  · exact Or.inl w
  · exact Or.inr ⟨w1, by rw [m w1]; exact w2⟩
section LFOUR
variable {P : List Nat} {K : Nat → Nat} {I I1 I2 : WI} {O : WO} {J J1 J2 : WJ} {x mo out : Nat}
theorem L4.led (hj : L4 P K I O x mo out) (hF : FR (frL [48]) K I J I1 J1) : AL I1 O x mo := by
  obtain ⟨⟨hV, hx, hm, ho, hR, hS, hH⟩, hQ, hA⟩ := hj
  have kk : ∀ b κ, K b = κ → frL [48] κ = true → I1 b = I b := fun b κ h1 h2 => by funext k; exact (hF b (by rw [h1]; exact h2)).1 k
  have kx := kk x 8 hx.2 rfl
  have km := kk mo 10 hm.2 rfl
  refine hA.same (by rw [kx]) (by rw [kx]) (by rw [kx]) (by rw [km]) (by rw [km]) (kk _ 3 (rf_ok hV.1 hx (show sp 8 1 = some 3 from rfl)).2 rfl) (fun q => ?_) (kk _ 7 (rf_ok hV.1 hx (show sp 8 9 = some 7 from rfl)).2 rfl) (kk _ 39 (rf_ok hV.1 hm (show sp 10 33 = some 39 from rfl)).2 rfl)
  rcases hR.1 with w | ⟨w, _⟩
  · exact absurd w q
  · exact kk _ 9 w.2.2 rfl
theorem L4.step (hj : L4 P K I O x mo out) (hF1 : FQ kN K I J I1 J1) (hF2 : FQ mN K I1 J1 I2 J2) (hb : ((I1 x 14).toInt = 4 ∧ (I x 16).toInt = (I2 mo 2).toInt) ∨ (¬ (I1 x 14).toInt = 4 ∧ (I2 mo 2).toInt = -1)) (h3 : (I1 (rf O x 9) 3).toInt = (I2 (rf O mo 33) 0).toInt) (h4 : (I1 (rf O x 9) 4).toInt = (I2 (rf O mo 33) 1).toInt) : AL I2 O x mo := by
  obtain ⟨⟨hV, hx, hm, ho, hR, hS, hH⟩, hQ, a1, a2, a3, a4, a5⟩ := hj
  have t1 := rf_ok hV.1 hx (show sp 8 1 = some 3 from rfl)
  have t9 := rf_ok hV.1 hx (show sp 8 9 = some 7 from rfl)
  have e : ∀ k, I2 x k = I1 x k := fun k => (hF2 x k (by rw [hx.2]; rfl)).1
  have c : ∀ k, I2 (rf O x 1) k = I (rf O x 1) k := fun k => (hF2 _ k (by rw [t1.2]; rfl)).1.trans (hF1 _ k (by rw [t1.2]; rfl)).1
  have t : ∀ k, I2 (rf O x 9) k = I1 (rf O x 9) k := fun k => (hF2 _ k (by rw [t9.2]; rfl)).1
  have m : ¬ O mo 3 = none → ∀ k, I2 (rf O mo 3) k = I (rf O mo 3) k := fun q k => by
    rcases hR.1 with w | ⟨w, _⟩
    · exact absurd w q
    · exact (hF2 _ k (by rw [w.2.2]; rfl)).1.trans (hF1 _ k (by rw [w.2.2]; rfl)).1
  refine ⟨?_, ?_, ?_, ?_, ?_⟩
  · rw [e, (hF1 x 15 (by rw [hx.2]; rfl)).1, (hF2 mo 13 (by rw [hm.2]; rfl)).1, (hF1 mo 13 (by rw [hm.2]; rfl)).1]; exact a1
  · rw [e, e, (hF1 x 16 (by rw [hx.2]; rfl)).1]; exact hb
  · rcases a3 with ⟨w1, w2⟩ | ⟨w1, w2⟩
    · exact Or.inl ⟨w1, by rw [c, c]; exact w2⟩
    · exact Or.inr ⟨w1, by rw [c, c, m w1, m w1]; exact w2⟩
  · rw [t]; exact h3
  · rw [t]; exact h4
theorem L4.tr (hj : L4 P K I O x mo out) (hF1 : FQ kC K I J I1 J1) (hF2 : FQ mS K I1 J1 I2 J2) : (I1 (rf O x 9) 3).toInt = (I2 (rf O mo 33) 0).toInt ∧ (I1 (rf O x 9) 4).toInt = (I2 (rf O mo 33) 1).toInt := by
  obtain ⟨⟨hV, hx, hm, ho, hR, hS, hH⟩, hQ, a1, a2, a3, a4, a5⟩ := hj
  have t9 := rf_ok hV.1 hx (show sp 8 9 = some 7 from rfl)
  have t33 := rf_ok hV.1 hm (show sp 10 33 = some 39 from rfl)
  rw [(hF1 _ 3 (by rw [t9.2]; rfl)).1, (hF1 _ 4 (by rw [t9.2]; rfl)).1, (hF2 _ 0 (by rw [t33.2]; rfl)).1, (hF2 _ 1 (by rw [t33.2]; rfl)).1, (hF1 _ 0 (by rw [t33.2]; rfl)).1, (hF1 _ 1 (by rw [t33.2]; rfl)).1]
  exact ⟨a4, a5⟩
theorem L4.set (hj : L4 P K I O x mo out) (_ : IV P K I1 O) (_ : IV P K I2 O) (hF1 : FQ kC K I J I1 J1) (hF2 : FQ mS K I1 J1 I2 J2) (h14 : ¬ (I1 x 14).toInt = 4) (h2 : (I2 mo 2).toInt = -1) : AL I2 O x mo :=
  hj.step (FQ.kC_N hF1) (FQ.mS_N hF2) (Or.inr ⟨h14, h2⟩) (hj.tr hF1 hF2).1 (hj.tr hF1 hF2).2
theorem L4.kept (hj : L4 P K I O x mo out) (h14 : I1 x 14 = I x 14) (h2 : I2 mo 2 = I mo 2) : ((I1 x 14).toInt = 4 ∧ (I x 16).toInt = (I2 mo 2).toInt) ∨ (¬ (I1 x 14).toInt = 4 ∧ (I2 mo 2).toInt = -1) := by
  rw [h14, h2]; exact hj.2.2.2.1
theorem L4.leave (hj : L4 P K I O x mo out) (_ : IV P K I1 O) (_ : IV P K I2 O) (hF1 : FQ kD K I J I1 J1) (hF2 : FQ mL K I1 J1 I2 J2) : AL I2 O x mo := by
  have hx := hj.1.2.1
  have hm := hj.1.2.2.1
  exact hj.step (FQ.kC_N (FQ.kD_C hF1)) (FQ.mS_N (FQ.mL_S hF2)) (hj.kept (hF1 x 14 (by rw [hx.2]; rfl)).1 ((hF2 mo 2 (by rw [hm.2]; rfl)).1.trans (hF1 mo 2 (by rw [hm.2]; rfl)).1)) (hj.tr (FQ.kD_C hF1) (FQ.mL_S hF2)).1 (hj.tr (FQ.kD_C hF1) (FQ.mL_S hF2)).2
/-- the reference's fields that answers rest on, behind the class's call -/
theorem L4.moe (hj : L4 P K I O x mo out) (hF1 : FQ kN K I J I1 J1) : (I1 mo 13).toInt = (I mo 13).toInt ∧ (I1 mo 2).toInt = (I mo 2).toInt ∧ (I1 (rf O mo 33) 0).toInt = (I (rf O mo 33) 0).toInt ∧ (I1 (rf O mo 33) 1).toInt = (I (rf O mo 33) 1).toInt ∧ (¬ O mo 3 = none → (I1 (rf O mo 3) 8).toInt = (I (rf O mo 3) 8).toInt ∧ (I1 (rf O mo 3) 9).toInt = (I (rf O mo 3) 9).toInt) := by
  obtain ⟨⟨hV, hx, hm, ho, hR, hS, hH⟩, hQ, a1, a2, a3, a4, a5⟩ := hj
  have t33 := rf_ok hV.1 hm (show sp 10 33 = some 39 from rfl)
  refine ⟨by rw [(hF1 mo 13 (by rw [hm.2]; rfl)).1], by rw [(hF1 mo 2 (by rw [hm.2]; rfl)).1], by rw [(hF1 _ 0 (by rw [t33.2]; rfl)).1], by rw [(hF1 _ 1 (by rw [t33.2]; rfl)).1], fun q => ?_⟩
  rcases hR.1 with w | ⟨w, _⟩
  · exact absurd w q
  · exact ⟨by rw [(hF1 _ 8 (by rw [w.2.2]; rfl)).1], by rw [(hF1 _ 9 (by rw [w.2.2]; rfl)).1]⟩
end LFOUR
theorem OW.sw {Q P : List Nat} {O : WO} {x mo : Nat} {c1 c2 : Nat} (h : OW Q P O x mo) (h1 : O x 1 = some c1) (h2 : O x 2 = some c2) : OW Q P (sw12 O x) x mo := by
  obtain ⟨q1, q2, q3, q4, q5⟩ := h
  have r1 : rf O x 1 = c1 := by unfold rf; rw [h1]; rfl
  have r2 : rf O x 2 = c2 := by unfold rf; rw [h2]; rfl
  have key : ∀ b f c, sw12 O x b f = some c → O b (if b = x then (if f = 1 then 2 else if f = 2 then 1 else f) else f) = some c := by
    intro b f c hc
    by_cases e : b = x
    · subst e
      rw [if_pos rfl]
      by_cases e1 : f = 1
      · subst e1
        rw [if_pos rfl, h2]
        unfold sw12 at hc
        rw [up2_ne _ _ (fun z => absurd z.2 (by decide)), up2_self, r2] at hc
        exact hc
      · rw [if_neg e1]
        by_cases e2 : f = 2
        · subst e2
          rw [if_pos rfl, h1]
          unfold sw12 at hc
          rw [up2_self, r1] at hc
          exact hc
        · rw [if_neg e2]
          rw [sw12_o e1 e2] at hc; exact hc
    · rw [if_neg e]; rw [sw12_r e] at hc; exact hc
  refine ⟨q1, q2, q3, fun b f c hb hc => q4 b _ c hb (key b f c hc), fun b f b' f' c hb hb' hc hc' => ?_⟩
  have k1 := q5 b _ b' _ c hb hb' (key b f c hc) (key b' f' c hc')
  refine ⟨k1.1, ?_⟩
  have k2 := k1.2
  rw [← k1.1] at k2
  by_cases e : b = x
  · rw [if_pos e, if_pos e] at k2
    by_cases a1 : f = 1
    · by_cases b1 : f' = 1
      · rw [a1, b1]
      · by_cases b2 : f' = 2
        · subst a1 b2; simp at k2
        · subst a1; simp [b1, b2] at k2; omega
    · by_cases a2 : f = 2
      · by_cases b1 : f' = 1
        · subst a2 b1; simp at k2
        · by_cases b2 : f' = 2
          · rw [a2, b2]
          · subst a2; simp [b1, b2] at k2; omega
      · by_cases b1 : f' = 1
        · subst b1; simp [a1, a2] at k2
        · by_cases b2 : f' = 2
          · subst b2; simp [a1, a2] at k2
          · simp [a1, a2, b1, b2] at k2; exact k2
  · rw [if_neg e, if_neg e] at k2; exact k2
theorem OW.up {Q P P2 : List Nat} {O O2 : WO} {x mo : Nat} (h : OW Q P O x mo) (hP : ∀ b, b ∈ P → b ∈ P2) (hO : ∀ b, b ∈ Q → O2 b = O b) : OW Q P2 O2 x mo := by
  obtain ⟨q1, q2, q3, q4, q5⟩ := h
  exact ⟨q1, q2, fun b hb => hP b (q3 b hb), fun b f c hb hc => q4 b f c hb (by rw [← hO b hb]; exact hc), fun b f b' f' c hb hb' hc hc' => q5 b f b' f' c hb hb' (by rw [← hO b hb]; exact hc) (by rw [← hO b' hb']; exact hc')⟩
