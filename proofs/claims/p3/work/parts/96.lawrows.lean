/-- the script lies where nobody writes -/
def SCR (X : CTX) (b Ln : Nat) (xs : Nat → Int32) : Prop := match X with
  | (_, _, _, _, s, _, _, _, _, _, _, A, _, _, _) => va_X b Ln xs s s.heap ∧ b < s.heap.size ∧ ¬ A b
def sv (xs : Nat → Int32) (i : Int32) (k : Int) : Int32 := xs (i + Int32.ofInt k).toNatClampNeg
theorem sidx {i : Int32} {Ln : Nat} (hi : 0 ≤ i.toInt ∧ i.toInt + 7 ≤ (Ln : Int)) (hL : Ln ≤ 3584) {k : Int} (hk : 0 ≤ k ∧ k ≤ 6) : vp_in (i + Int32.ofInt k) Ln := by
  have e0 : (Int32.ofInt k).toInt = k := ofI (by omega)
  have e1 : (i + Int32.ofInt k).toInt = i.toInt + k := by rw [Int32.toInt_add, wr32, e0]; omega
  exact vp_in_iff.mpr (by rw [e1]; omega)
section LROW
variable {X : CTX} {cc : ByteArray} {nL : Nat} {own : String} {rm : Room} {P : List Nat} {K : Nat → Nat} {I : Nat → Nat → Int32} {O : Nat → Nat → Option Nat} {J : Nat → Nat → Int64} {nc ns pc : Nat} {L : List (Nat × Value)} {st : List Value}
theorem g_slen {b Ln : Nat} {xs : Nat → Int32} (C : Cx X cc nL own rm) (hs : SCR X b Ln xs) (d : decode cc pc = .ok (.arraylength, 1)) (k : GG X nL P K I O J nc ns (pc + 1) L (.int (Int32.ofNat Ln) :: st)) : GG X nL P K I O J nc ns pc L (.ref b :: st) := by
  obtain ⟨p, l, e, R, s, m, args, below, meth, c, Q, A, D, cy, ad⟩ := X
  obtain ⟨⟨hx, hb, hml, hown, hts⟩, hK, hA, hlk, hSC, hR⟩ := C
  exact fun ls H locs hl hP hD hS => va_slen hx hb hs.1 hs.2.1 hs.2.2 hS d (k ls H locs hl hP hD hS)
theorem g_sld {b Ln : Nat} {xs : Nat → Int32} {i : Int32} (C : Cx X cc nL own rm) (hs : SCR X b Ln xs) (hi : vp_in i Ln) (d : decode cc pc = .ok (.iaload, 1)) (k : GG X nL P K I O J nc ns (pc + 1) L (.int (xs i.toNatClampNeg) :: st)) : GG X nL P K I O J nc ns pc L (.int i :: .ref b :: st) := by
  obtain ⟨p, l, e, R, s, m, args, below, meth, c, Q, A, D, cy, ad⟩ := X
  obtain ⟨⟨hx, hb, hml, hown, hts⟩, hK, hA, hlk, hSC, hR⟩ := C
  exact fun ls H locs hl hP hD hS => va_sld hx hb hs.1 hs.2.1 hs.2.2 hS hi d (k ls H locs hl hP hD hS)
/-- script[i + k] -/
theorem g_sarg {b Ln : Nat} {xs : Nat → Int32} {i : Int32} {k : Int} (C : Cx X cc nL own rm) (hs : SCR X b Ln xs) (hL : Ln ≤ 3584) (hi : 0 ≤ i.toInt ∧ i.toInt + 7 ≤ (Ln : Int)) (hk : 0 ≤ k ∧ k ≤ 6) (h0 : lkp L 0 = some (.ref b)) (h4 : lkp L 4 = some (.int i)) (d0 : decode cc pc = .ok (.aload_n 0, 1)) (d1 : decode cc (pc + 1) = .ok (.iload 4, 2)) (d3 : decode cc (pc + 3) = .ok (.iconst k, 1)) (d4 : decode cc (pc + 4) = .ok (.iadd, 1)) (d5 : decode cc (pc + 5) = .ok (.iaload, 1)) (kk : GG X nL P K I O J nc ns (pc + 6) L (.int (sv xs i k) :: st)) : GG X nL P K I O J nc ns pc L st :=
  g_aload_n C d0 h0 (g_iload C d1 h4 (g_iconst C d3 rfl (g_iadd C d4 (g_sld C hs (sidx hi hL hk) d5 kk))))
theorem g_sarg6 {b Ln : Nat} {xs : Nat → Int32} {i : Int32} (C : Cx X cc nL own rm) (hs : SCR X b Ln xs) (hL : Ln ≤ 3584) (hi : 0 ≤ i.toInt ∧ i.toInt + 7 ≤ (Ln : Int)) (h0 : lkp L 0 = some (.ref b)) (h4 : lkp L 4 = some (.int i)) (d0 : decode cc pc = .ok (.aload_n 0, 1)) (d1 : decode cc (pc + 1) = .ok (.iload 4, 2)) (d3 : decode cc (pc + 3) = .ok (.bipush 6, 2)) (d4 : decode cc (pc + 5) = .ok (.iadd, 1)) (d5 : decode cc (pc + 6) = .ok (.iaload, 1)) (kk : GG X nL P K I O J nc ns (pc + 7) L (.int (sv xs i 6) :: st)) : GG X nL P K I O J nc ns pc L st :=
  g_aload_n C d0 h0 (g_iload C d1 h4 (g_bipush (v := Int32.ofInt 6) C d3 (by decide) (g_iadd C d4 (g_sld C hs (sidx hi hL ⟨by decide, by decide⟩) d5 kk))))
/-- b != 0 -/
theorem g_nz {x : Int32} (tgt : Nat) (C : Cx X cc nL own rm) (d0 : decode cc pc = .ok (.ifCond .eq 7, 3)) (d3 : decode cc (pc + 3) = .ok (.iconst 1, 1)) (d4 : decode cc (pc + 4) = .ok (.goto 4, 3)) (d7 : decode cc (pc + 7) = .ok (.iconst 0, 1)) (k : ∀ v : Int32, GG X nL P K I O J nc ns (pc + 8) L (.int v :: st)) : GG X nL P K I O J nc ns pc L (.int x :: st) :=
  g_if_eq (pc + 7) C d0 (by omega) (fun _ => g_iconst C d7 rfl (k _)) (fun _ => g_iconst C d3 rfl (g_goto (pc + 8) C d4 (by omega) (k _)))
theorem g_callS2 {idx n nL' : Nat} {y : MethodName} {cc' : ByteArray} {rt' : Option FieldType} {hh : List (Nat × Nat × Nat × Nat)} {rm' : Room} {post : PST} {av : List Value} {rest : List Value} (C : Cx X cc nL own rm) (hLX : LX X) (d : decode cc pc = .ok (.invokestatic idx, 3)) (hcb : Cond.codeWith y cc' nL' rt' hh ∈ wG) (hini : Cond.initialized y.cls ∈ wG) (hcl : y.cls ≠ "java/lang/invoke/MethodHandle" ∧ y.cls ≠ "java/lang/invoke/VarHandle") (hpm : (parseMethodDescriptor y.desc).map (fun d => d.parameters.length) = some n) (hv : Cond.static y ∈ wG) (hl0 : Cond.methodLink own idx y ∈ wG) (hc : ConH y cc' nL' rt' hh rm' P K I O J av post) (hn : av.length = n) (hst : st = av.reverse ++ rest) (hw : (rest.map fun v => v.category).sum ≤ 8) (hR' : rm'.frames + 1 ≤ rm.frames ∧ 8 + (nL' + 11) + rm'.locals ≤ rm.locals) (hro : nc + rm'.cells ≤ rm.cells ∧ ns + rm'.slots ≤ rm.slots)
    (k : ∀ (r : Option Value) (P' : List Nat) (K' : Nat → Nat) (I' : Nat → Nat → Int32) (O' : Nat → Nat → Option Nat) (J' : Nat → Nat → Int64), post r P' K' I' O' J' → GG X nL P' K' I' O' J' (nc + rm'.cells) (ns + rm'.slots) (pc + 3) L (r.toList ++ rest)) : GG X nL P K I O J nc ns pc L st := by
  obtain ⟨p, l, e, R, s, m, args, below, meth, c, Q, A, D, cy, ad⟩ := X
  obtain ⟨⟨hx, hb, hml, hown, hts⟩, hK, hA, hlk, hSC, hR⟩ := C
  obtain ⟨hlt, hLT⟩ := hLX
  subst hR
  intro ls H locs hl hP hD hS T hT X0
  have hFr : ∀ q, va_A (pw cy P K I O J) H.size q → A q := by
    rintro q (⟨k1, e1, h1⟩ | h1)
    · exact hD.2 k1 (q, e1) h1
    · exact hA q (Nat.le_trans hS.1 h1)
  have hp : PreS s H (PPT D cy ad H.size P K I O J av) av := ⟨PPT.blind, fun U hU hW => ⟨⟨rfl, by rw [hU], by rw [hU]; exact hP, va_K.moved hW.alike hK, hD.weaken (fun _ _ _ _ => trivial), hSC.call hS hW hU hFr⟩, hLT.call hS hW hU hFr⟩⟩
  have hgd := wG_in2 hcb
  have hpm' : ∀ sig, parseMethodDescriptor y.desc = some sig → n = sig.parameters.length := fun sig hs => by rw [hs] at hpm; exact (Option.some.inj hpm).symm
  have hws : ∀ w ∈ (Cond.codeWith y cc' nL' rt' hh :: wG), ∀ (a' : Array Value) (U : State), s.WarmedH U.vm → w.before a' U = true := pay_in hts hgd
  have hr := vx_runSW (locs := locs) (cells := nc) (slots := ns) (e := e) (below := below) (meth := meth) (As := av) (rest := rest) (g := F0 m pc ls st) ⟨hx, hb, hml, hown, hts⟩ (hc l hlt D cy ad H.size) ⟨⟨rfl, rfl, hR'.1, hR'.2, hws, List.mem_cons_self⟩, hts _ hcb, hts _ hini, hcl, hpm', hts _ hl0, hts _ hv⟩ hp rfl hn hl.1 hst (lv_room hw) d hro
  obtain ⟨v, st₀, t, T', Lc, h0, X', hL, e1, e2, ⟨⟨r, P', K', I', O', J', hv, hp, hP1, hK1, hD1⟩, hz, hk⟩, stp⟩ := hr T hT X0
  cases hv
  rw [h0] at hz hk
  have hw := k v P' K' I' O' J' hp ls T'.heap (locs ++ Lc) hl (by rw [e1]; exact hP1) (hD1.weaken (fun _ q _ h => hFr q.1 h)) ⟨Nat.le_trans hS.1 (by rw [e1]; exact hz), fun q h1 h2 => by rw [e1, hk q (Nat.lt_of_lt_of_le h1 hS.1) (fun z => h2 (hFr q z))]; exact hS.2.1 q h1 h2, fun q hq => by
    rcases List.mem_append.mp hq with h | h
    · exact hS.2.2 q h
    · exact hFr _ (hL q h)⟩
  obtain ⟨t2, a1, b1⟩ := hw T' rfl X'
  exact ⟨t2, stp t2 a1, b1⟩
/-- a method that makes no cell, by its contract of safety -/
theorem lx_call {idx n nL' κ a rc : Nat} {y : MethodName} {cc' : ByteArray} {rt' : Option FieldType} {rm' : Room} {fr : Nat → Bool} {ρ : Int32 → (Nat → Nat → Int32) → Prop} {av : List Value} {rest : List Value} (C : Cx X cc nL own room_1) (d : decode cc pc = .ok (.invokevirtual idx, 3)) (hm : MF y cc' nL' rt' n) (hv : MV y) (hl0 : LN own idx y) (ha : a ∈ P ∧ K a = κ) (hκ : κ < 11) (hcn : cN κ = y.cls) (hc : Con y cc' nL' rt' rm' P K I O J (.ref a :: av) (SPo fr rc ρ P K I O J)) (hrc : rc = 1 ∨ rc = 2) (hn : av.length = n) (hst : st = av.reverse ++ .ref a :: rest) (hw : (rest.map fun v => v.category).sum ≤ 8) (hR' : Nat.ble (rm'.frames + 1) 2048 = true ∧ Nat.ble (8 + (nL' + 11) + rm'.locals) 84000 = true) (hz : rm'.cells = 0 ∧ rm'.slots = 0) (hro : nc ≤ 601024 ∧ ns ≤ 7293034)
    (k : ∀ (z : Int32) (I' : Nat → Nat → Int32) (J' : Nat → Nat → Int64), IV P K I' O → FR fr K I J I' J' → ρ z I' → GG X nL P K I' O J' nc ns (pc + 3) L (.int z :: rest)) : GG X nL P K I O J nc ns pc L st := by
  refine g_callV (av := fun _ => av) (rest := rest) C d hm hv hl0 ha hκ hcn hc hn hst hw ⟨Nat.le_of_ble_eq_true hR'.1, Nat.le_of_ble_eq_true hR'.2⟩ (by rw [hz.1, hz.2]; exact hro) ?_
  rintro r P' K' I' O' J' ⟨rfl, rfl, rfl, hV, hF, hr⟩
  rw [hz.1, hz.2]
  rcases hrc with rfl | rfl
  · obtain ⟨z, rfl, hq⟩ := hr
    exact k z I' J' hV hF hq
  · obtain ⟨z, rfl, -, hq⟩ := hr
    exact k z I' J' hV hF hq
end LROW
/-- what stands at the law's loop -/
theorem lx_callC {X : CTX} {cc : ByteArray} {nL : Nat} {own : String} {P : List Nat} {K : Nat → Nat} {I : WI} {O : WO} {J : WJ} {nc ns pc : Nat} {L : List (Nat × Value)} {st : List Value} {idx n nL' κ a : Nat} {y : MethodName} {cc' : ByteArray} {rt' : Option FieldType} {rm' : Room} {av : List Value} {rest : List Value} (C : Cx X cc nL own room_1) (d : decode cc pc = .ok (.invokevirtual idx, 3)) (hm : MF y cc' nL' rt' n) (hv : MV y) (hl0 : LN own idx y) (ha : a ∈ P ∧ K a = κ) (hκ : κ < 11) (hcn : cN κ = y.cls) (hc : DC y cc' nL' rt' rm' P K I O J a av) (hn : av.length = n) (hst : st = av.reverse ++ .ref a :: rest) (hw : (rest.map fun v => v.category).sum ≤ 8) (hR' : Nat.ble (rm'.frames + 1) 2048 = true ∧ Nat.ble (8 + (nL' + 11) + rm'.locals) 84000 = true) (hz : rm'.cells = 0 ∧ rm'.slots = 0) (hro : nc ≤ 601024 ∧ ns ≤ 7293034)
    (k : ∀ (z : Int32) (I' : WI) (J' : WJ), IV P K I' O → FR frK K I J I' J' → GG X nL P K I' O J' nc ns (pc + 3) L (.int z :: rest)) : GG X nL P K I O J nc ns pc L st := by
  obtain ⟨z, I', J', hc, h1, h2⟩ := hc
  refine g_callV (av := fun _ => av) (rest := rest) C d hm hv hl0 ha hκ hcn hc hn hst hw ⟨Nat.le_of_ble_eq_true hR'.1, Nat.le_of_ble_eq_true hR'.2⟩ (by rw [hz.1, hz.2]; exact hro) ?_
  rintro r P' K' I2 O' J2 ⟨rfl, rfl, rfl, rfl, rfl, rfl⟩
  rw [hz.1, hz.2]
  exact k z _ _ h1 h2
theorem lx_callM {X : CTX} {cc : ByteArray} {nL : Nat} {own : String} {P : List Nat} {K : Nat → Nat} {I : WI} {O : WO} {J : WJ} {nc ns pc : Nat} {L : List (Nat × Value)} {st : List Value} {idx n nL' κ a : Nat} {y : MethodName} {cc' : ByteArray} {rt' : Option FieldType} {rm' : Room} {av : List Value} {rest : List Value} (C : Cx X cc nL own room_1) (d : decode cc pc = .ok (.invokevirtual idx, 3)) (hm : MF y cc' nL' rt' n) (hv : MV y) (hl0 : LN own idx y) (ha : a ∈ P ∧ K a = κ) (hκ : κ < 11) (hcn : cN κ = y.cls) (hc : DM y cc' nL' rt' rm' P K I O J a av) (hn : av.length = n) (hst : st = av.reverse ++ .ref a :: rest) (hw : (rest.map fun v => v.category).sum ≤ 8) (hR' : Nat.ble (rm'.frames + 1) 2048 = true ∧ Nat.ble (8 + (nL' + 11) + rm'.locals) 84000 = true) (hz : rm'.cells = 0 ∧ rm'.slots = 0) (hro : nc ≤ 601024 ∧ ns ≤ 7293034)
    (k : ∀ (z : Int32) (I' : WI) (J' : WJ), IV P K I' O → FR frM2 K I J I' J' → RS P K I' O a → (I' a 6).toInt = (I a 6).toInt → GG X nL P K I' O J' nc ns (pc + 3) L (.int z :: rest)) : GG X nL P K I O J nc ns pc L st := by
  obtain ⟨z, I', J', hc, h1, h2, h3, h4⟩ := hc
  refine g_callV (av := fun _ => av) (rest := rest) C d hm hv hl0 ha hκ hcn hc hn hst hw ⟨Nat.le_of_ble_eq_true hR'.1, Nat.le_of_ble_eq_true hR'.2⟩ (by rw [hz.1, hz.2]; exact hro) ?_
  rintro r P' K' I2 O' J2 ⟨rfl, rfl, rfl, rfl, rfl, rfl⟩
  rw [hz.1, hz.2]
  exact k z _ _ h1 h2 h3 h4

def SPc (O : WO) (x : Nat) : Prop := rf O (rf O x 1) 11 ≠ rf O (rf O x 1) 12 ∧ rf O (rf O x 2) 11 ≠ rf O (rf O x 2) 12
def HT3 (I : WI) (O : WO) (x mo : Nat) : Prop := (I (rf O x 0) 1).toInt = (I mo 6).toInt ∧ (0 ≤ (I mo 6).toInt ∧ (I mo 6).toInt ≤ 700) ∧ ∀ i : Nat, (i : Int) < (I mo 6).toInt → I (rf O (rf O x 0) 0) i = I (rf O mo 5) i ∧ -128 ≤ (I (rf O mo 5) i).toInt ∧ (I (rf O mo 5) i).toInt ≤ 127
def L3 (P : List Nat) (K : Nat → Nat) (I : WI) (O : WO) (x mo out : Nat) : Prop := IV P K I O ∧ (x ∈ P ∧ K x = 8) ∧ (mo ∈ P ∧ K mo = 10) ∧ (out ∈ P ∧ K out = 48) ∧ RS P K I O mo ∧ SPc O x ∧ HT3 I O x mo
theorem L3.cls {P : List Nat} {K : Nat → Nat} {I I' : WI} {O : WO} {J J' : WJ} {x mo out : Nat} {fr : Nat → Bool} (h : L3 P K I O x mo out) (hV : IV P K I' O) (hF : FR fr K I J I' J') (h5 : fr 5 = true) (h15 : fr 15 = true) (h9 : fr 9 = true) (h10 : fr 10 = true) (h30 : fr 30 = true) (h31 : fr 31 = true) : L3 P K I' O x mo out := by
  obtain ⟨-, hx, hm, ho, hR, hS, hH⟩ := h
  have t0 := rf_ok hV.1 hx (show sp 8 0 = some 5 from rfl)
  have tt := rf_ok hV.1 t0 (show sp 5 0 = some 15 from rfl)
  have t5 := rf_ok hV.1 hm (show sp 10 5 = some 30 from rfl)
  have t16 := rf_ok hV.1 hm (show sp 10 16 = some 31 from rfl)
  have e1 := (hF _ (by rw [t0.2]; exact h5)).1
  have e2 := (hF _ (by rw [tt.2]; exact h15)).1
  have e3 := (hF _ (by rw [t5.2]; exact h30)).1
  have e4 := (hF _ (by rw [hm.2]; exact h10)).1
  have e5 := (hF _ (by rw [t16.2]; exact h31)).1
  refine ⟨hV, hx, hm, ho, hR.keep1 hF h9 ?_, hS, ?_⟩
  · rw [e4, e5]; exact hR.2
  · unfold HT3
    rw [e1, e4]
    refine ⟨hH.1, hH.2.1, fun i hi => ?_⟩
    rw [e2, e3]; exact hH.2.2 i hi
theorem L3.ref {P : List Nat} {K : Nat → Nat} {I I' : WI} {O : WO} {J J' : WJ} {x mo out : Nat} (h : L3 P K I O x mo out) (hV : IV P K I' O) (hF : FR frM2 K I J I' J') (hR' : RS P K I' O mo) (h6 : (I' mo 6).toInt = (I mo 6).toInt) : L3 P K I' O x mo out := by
  obtain ⟨-, hx, hm, ho, hR, hS, hH⟩ := h
  have t0 := rf_ok hV.1 hx (show sp 8 0 = some 5 from rfl)
  have tt := rf_ok hV.1 t0 (show sp 5 0 = some 15 from rfl)
  have t5 := rf_ok hV.1 hm (show sp 10 5 = some 30 from rfl)
  have e1 := (hF _ (by rw [t0.2]; rfl)).1
  have e2 := (hF _ (by rw [tt.2]; rfl)).1
  have e3 := (hF _ (by rw [t5.2]; rfl)).1
  refine ⟨hV, hx, hm, ho, hR', hS, ?_⟩
  unfold HT3
  rw [e1, h6]
  refine ⟨hH.1, hH.2.1, fun i hi => ?_⟩
  rw [e2, e3]; exact hH.2.2 i hi
