def AOX (X : CTX) : Prop := match X with
  | (_, _, _, _, s, _, _, _, _, _, _, _, _, _, _) => va_AO "RoarMill$Drum" s
def PPB (D : va_G) (cy : Nat → ClassId) (ad : AD) (sz : Nat) (P : List Nat) (K : Nat → Nat) (I : Nat → Nat → Int32) (O : Nat → Nat → Option Nat) (J : Nat → Nat → Int64) (av : List Value) : Array Value → State → Prop := fun v U => PP D cy ad sz P K I O J av v U ∧ va_AO "RoarMill$Drum" U
def ConB (y : MethodName) (cc : ByteArray) (nL : Nat) (rt : Option FieldType) (rm : Room) (P : List Nat) (K : Nat → Nat) (I : Nat → Nat → Int32) (O : Nat → Nat → Option Nat) (J : Nat → Nat → Int64) (av : List Value) (post : PST) : Prop := ∀ (l : Launch) (D : va_G) (cy : Nat → ClassId) (ad : AD) (sz : Nat), Met l y (Cond.code y cc nL rt :: wG) rm (PPB D cy ad sz P K I O J av) (QQ D cy post (va_A (pw cy P K I O J) sz)) rm.cells rm.slots (va_A (pw cy P K I O J) sz)
theorem PPB.blind {D : va_G} {cy : Nat → ClassId} {ad : AD} {sz : Nat} {P : List Nat} {K : Nat → Nat} {I : Nat → Nat → Int32} {O : Nat → Nat → Option Nat} {J : Nat → Nat → Int64} {av : List Value} : FrameBlind (PPB D cy ad sz P K I O J av) := by
  intro a U g mk q
  exact ⟨PP.blind a U g mk q.1, va_AO.moved (Vm.Alike.refl U.vm) q.2⟩
theorem ConB.ofI {y : MethodName} {cc : ByteArray} {nL n : Nat} {rt : Option FieldType} {rm : Room} {P : List Nat} {K : Nat → Nat} {I : Nat → Nat → Int32} {O : Nat → Nat → Option Nat} {J : Nat → Nat → Int64} {av : List Value} {post : PST} (hy : MF y cc nL rt n) (hav : (lg_sl av).length ≤ nL) (body : ∀ X, Cx X cc nL y.cls rm → Rx X rt post rm → NMX X y.name → AOX X → GG X nL P K I O J 0 0 0 (lv_args 0 av) []) : ConB y cc nL rt rm P K I O J av post := by
  intro l D cy ad sz
  refine Met.ofW (cc := cc) (maxL := nL) (ret := rt) hy.2.2.1 rfl ?_
  intro p e s m args below meth c s₁ B hml hv
  obtain ⟨⟨rfl, hsz, hP, hK, hD0, hSC⟩, hAO⟩ := hv
  have hts := atoms_spec (ws := Cond.code y cc nL rt :: wG) B.pre
  have hown : s.vm.findClass y.cls = some m.cls := findClass_of_methodNamed B.named
  have hnm : meth.name = y.name := (name_of_methodNamed B.named B.method).1
  subst hsz
  have hD := hD0.self (sz := s.heap.size)
  have hl := lv_entry av (n := nL) hav
  rw [lg_entry_eq]
  exact body (p, l, e, (headSpec (Cond.code y cc nL rt :: wG) rm).room, s, m, av.toArray, below, meth, c, MQ below (QQ D cy post (va_A (pw cy P K I O J) s.heap.size)) av.toArray s rm.cells rm.slots (va_A (pw cy P K I O J) s.heap.size), va_A (pw cy P K I O J) s.heap.size, D, cy, ad) ⟨⟨B.exec, B.bytes, hml, hown, fun w hw => hts w (List.mem_cons_of_mem _ hw)⟩, hK, fun q h => Or.inr h, B.notSynchronized, hSC, rfl⟩ ⟨rfl, B.returns⟩ hnm hAO _ s.heap [] hl hP hD va_S.rf
section BROWS
variable {X : CTX} {cc : ByteArray} {nL : Nat} {own : String} {rm : Room} {P : List Nat} {K : Nat → Nat} {I : Nat → Nat → Int32} {O : Nat → Nat → Option Nat} {J : Nat → Nat → Int64} {nc ns pc : Nat} {L : List (Nat × Value)} {st : List Value} {P0 : List Nat} {K0 : Nat → Nat} {I0 : Nat → Nat → Int32} {O0 : Nat → Nat → Option Nat} {J0 : Nat → Nat → Int64} {a : Nat} {D : List Nat}
theorem g_callB {idx n nL' b : Nat} {y : MethodName} {cc' : ByteArray} {rm' : Room} {post : PST} {rest : List Value} (C : Cx X cc nL own rm) (hAO : AOX X) (d : decode cc pc = .ok (.invokespecial idx, 3)) (hm : MF y cc' nL' none n) (hv : Cond.instanceMethod y ∈ wG) (hyn : y.name = "<init>") (hl0 : LN own idx y) (hc : ConB y cc' nL' none rm' P K I O J [.ref b] post) (hn : ([] : List Value).length = n) (hst : st = .ref b :: rest) (hw : (rest.map fun v => v.category).sum ≤ 8) (hR' : rm'.frames + 1 ≤ rm.frames ∧ 8 + (nL' + 11) + rm'.locals ≤ rm.locals) (hro : nc + rm'.cells ≤ rm.cells ∧ ns + rm'.slots ≤ rm.slots) (k : ∀ (r : Option Value) (P' : List Nat) (K' : Nat → Nat) (I' : Nat → Nat → Int32) (O' : Nat → Nat → Option Nat) (J' : Nat → Nat → Int64), post r P' K' I' O' J' → GG X nL P' K' I' O' J' (nc + rm'.cells) (ns + rm'.slots) (pc + 3) L (r.toList ++ rest)) : GG X nL P K I O J nc ns pc L st := by
  obtain ⟨p, l, e, R, s, m, args, below, meth, c, Q, A, D, cy, ad⟩ := X
  obtain ⟨⟨hx, hb, hml, hown, hts⟩, hK, hA, hlk, hSC, hR⟩ := C
  subst hR
  intro ls H locs hl hP hD hS T hT X0
  have hFr : ∀ q, va_A (pw cy P K I O J) H.size q → A q := by
    rintro q (⟨k1, e1, h1⟩ | h1)
    · exact hD.2 k1 (q, e1) h1
    · exact hA q (Nat.le_trans hS.1 h1)
  have kk : va_Run p l e R s m args below meth c H locs nc ns rm'.cells rm'.slots (F0 m pc ls st) rest (QQ D cy post (va_A (pw cy P K I O J) H.size) (.ref b :: []).toArray) (va_A (pw cy P K I O J) H.size) → ∃ t, Steps p.tables e below (T.setTop (F0 m pc ls st)) t ∧ Q t := by
    intro hr
    obtain ⟨v, st₀, t, T', Lc, h0, X', hL, e1, e2, ⟨⟨r, P', K', I', O', J', hv, hp, hP1, hK1, hD1⟩, hz, hk⟩, stp⟩ := hr T hT X0
    cases hv
    rw [h0] at hz hk
    have hw := k v P' K' I' O' J' hp ls T'.heap (locs ++ Lc) hl (by rw [e1]; exact hP1) (hD1.weaken (fun _ q _ h => hFr q.1 h)) ⟨Nat.le_trans hS.1 (by rw [e1]; exact hz), fun q h1 h2 => by rw [e1, hk q (Nat.lt_of_lt_of_le h1 hS.1) (fun z => h2 (hFr q z))]; exact hS.2.1 q h1 h2, fun q hq => by
      rcases List.mem_append.mp hq with h | h
      · exact hS.2.2 q h
      · exact hFr _ (hL q h)⟩
    obtain ⟨t2, a1, b1⟩ := hw T' rfl X'
    exact ⟨t2, stp t2 a1, b1⟩
  have hp : PreS s H (PPB D cy ad H.size P K I O J [.ref b]) (.ref b :: []) := ⟨PPB.blind, fun U hU hW => ⟨⟨rfl, by rw [hU], by rw [hU]; exact hP, va_K.moved hW.alike hK, hD.weaken (fun _ _ _ _ => trivial), hSC.call hS hW hU hFr⟩, va_AO.moved hW.alike hAO⟩⟩
  have hcb := hm.1
  have hgd := wG_in2 hcb
  have hpm : ∀ sig, parseMethodDescriptor y.desc = some sig → n = sig.parameters.length := fun sig hs => by have := hm.2.2.2.2; rw [hs] at this; exact (Option.some.inj this).symm
  have hws : ∀ w ∈ (Cond.code y cc' nL' none :: wG), ∀ (a' : Array Value) (U : State), s.WarmedH U.vm → w.before a' U = true := pay_in hts hgd
  rcases hl0 with hl0 | ⟨host, hl0⟩
  · exact kk (va_runI (As := []) (rest := rest) ⟨hx, hb, hml, hown, hts⟩ (hc l D cy ad H.size) ⟨⟨rfl, rfl, hR'.1, hR'.2, hws, List.mem_cons_self, hts _ hcb, hts _ hm.2.1, hm.2.2.2.1, hpm, hts _ hl0⟩, hyn, hts _ hv⟩ hp rfl hn hl.1 hst (lv_room hw) d hro)
  · exact kk (va_runIN (As := []) (rest := rest) ⟨hx, hb, hml, hown, hts⟩ (hc l D cy ad H.size) ⟨⟨⟨rfl, rfl, hR'.1, hR'.2, hws, List.mem_cons_self⟩, hts _ hcb, hts _ hm.2.1, hm.2.2.2.1, hpm, hSC.2.2.1.use hl0⟩, hyn, hts _ hv⟩ hp rfl hn hl.1 hst (lv_room hw) d hro)
theorem gc_subB {idx idx2 κ nL' : Nat} {y : MethodName} {cc' : ByteArray} {rm' : Room} {Dq : List Nat} {ext : Nat → (Nat → Nat → Int32) → (Nat → Nat → Option Nat) → Prop} (C : Cx X cc nL own rm) (hAO : AOX X) (hC : CT P0 K0 I0 O0 J0 P K I O J a D) (ha : a ∈ P0) (d : decode cc pc = .ok (.new idx, 3)) (d3 : decode cc (pc + 3) = .ok (.dup, 1)) (d4 : decode cc (pc + 4) = .ok (.invokespecial idx2, 3)) (hκ : κ < 11) (hw : Cond.classLink own idx (cN κ) ∈ wG) (hi : Cond.instantiable (cN κ) (nf κ) ∈ wG) (hn : Cond.initialized (cN κ) ∈ wG) (hm : MF y cc' nL' none 0) (hv : Cond.instanceMethod y ∈ wG) (hyn : y.name = "<init>") (hl0 : LN own idx2 y) (hs : ∀ f κ', sp κ f = some κ' → f ∈ Dq)
    (hc : ∀ (P : List Nat) (K : Nat → Nat) (I : Nat → Nat → Int32) (O : Nat → Nat → Option Nat) (J : Nat → Nat → Int64) (b : Nat), b ∈ P ∧ K b = κ → (∀ k, I b k = 0) → (∀ k, O b k = none) → ConB y cc' nL' none rm' P K I O J [.ref b] (CPo Dq (ext b) P K I O J b)) (hst : ((st).map fun v => v.category).sum ≤ 7) (hR' : rm'.frames + 1 ≤ rm.frames ∧ 8 + (nL' + 11) + rm'.locals ≤ rm.locals) (hro : nc + 1 + rm'.cells ≤ rm.cells ∧ ns + nf κ + rm'.slots ≤ rm.slots)
    (k : ∀ (P' : List Nat) (K' : Nat → Nat) (I' : Nat → Nat → Int32) (O' : Nat → Nat → Option Nat) (J' : Nat → Nat → Int64) (q : Nat), CT P0 K0 I0 O0 J0 P' K' I' O' J' a D → (q ∈ P' ∧ K' q = κ) → I' a = I a → O' a = O a → ext q I' O' → (∀ c, c ∈ P → c ∈ P' ∧ K' c = K c) → GG X nL P' K' I' O' J' (nc + 1 + rm'.cells) (ns + nf κ + rm'.slots) (pc + 7) L (.ref q :: st)) : GG X nL P K I O J nc ns pc L st := by
  refine g_new C d hκ hw hi hn ⟨by omega, by omega⟩ (fun q hq => ?_)
  refine g_dup C d3 rfl ?_
  refine g_callB C hAO d4 hm hv hyn hl0 (hc _ _ _ _ _ q ⟨List.mem_append_right _ (List.mem_singleton.mpr rfl), lab_self _ _ _⟩ (fun k => by rw [clr_self]) (fun k => by rw [clr_self])) rfl rfl (by simp only [List.map_cons, List.sum_cons]; have : (Value.ref q).category = 1 := rfl; omega) hR' hro (fun r P' K' I' O' J' hp => ?_)
  obtain ⟨rfl, h1, h2⟩ := hp
  obtain ⟨e1, e2, e3, e4, e5⟩ := hC.sub ha hq h1 hs
  exact k _ _ _ _ _ q e1 e2 e3 e4 h2 e5
theorem g_anew {idx : Nat} {n : Int32} (C : Cx X cc nL own rm) (hAO : AOX X) (d : decode cc pc = .ok (.anewarray idx, 3)) (hw : Cond.classLink own idx "RoarMill$Drum" ∈ wG) (hn : n.toInt = 6) (hro : nc + 1 ≤ rm.cells ∧ ns + 6 ≤ rm.slots) (k : ∀ q, q ∉ P → GG X nL (P ++ [q]) (lab K q 24) (clr I q 0) (clr O q none) (clr J q 0) (nc + 1) (ns + 6) (pc + 3) L (.ref q :: st)) : GG X nL P K I O J nc ns pc L (.int n :: st) := by
  obtain ⟨p, l, e, R, s, m, args, below, meth, c, Q, A, D1, cy, ad⟩ := X
  obtain ⟨⟨hx, hb, hml, hown, hts⟩, hK, hA, hlk, hSC, hR⟩ := C
  subst hR
  intro ls H locs hl hP hD hS
  have h0 : (0 : Int32).toInt = 0 := rfl
  refine va_newq (N' := 6) hx hb hown (hts _ hw) hAO hK hP hD hS hA (by rw [Int32.lt_iff_toInt_lt]; omega) (by have e : n.toNatClampNeg = n.toInt.toNat := rfl; omega) (by decide) hro.1 hro.2 d (fun q cA H1 hK1 h1 h2 h3 => ?_)
  have hcA : cA = cy 4 := by
    obtain ⟨k1, c1, -, -, -, e1⟩ := (hK1.2 5 (cA, .object "RoarMill$Drum") rfl).2
    obtain ⟨k2, c2, -, -, -, e2⟩ := (hK.2 4 (cy 4, .object "RoarMill$Drum") rfl).2
    exact Option.some.inj (e1.symm.trans e2)
  subst hcA
  have hq := pw_fresh h2
  have e := pw_push (cy := cy) (K := K) (I := I) (O := O) (J := J) (κ := 24) hq
  rw [cEr_a (by decide)] at e
  have e' : pw cy P K I O J ++ [(q, .inl (cy 4, 6, .inr (.inr (.inr (.inr (fun _ => none))))))] = pw cy (P ++ [q]) (lab K q 24) (clr I q 0) (clr O q none) (clr J q 0) := e
  rw [e'] at h1 h2
  exact k q hq ls H1 locs hl h1 h2 h3
theorem g_aast {q v : Nat} {i : Int32} (C : Cx X cc nL own rm) (d : decode cc pc = .ok (.aastore, 1)) (ha : q ∈ P ∧ K q = 24) (hv : v ∈ P ∧ K v = 0) (hi : vp_in i 6) (k : GG X nL P K I (up2 O q i.toNatClampNeg (some v)) J nc ns (pc + 1) L st) : GG X nL P K I O J nc ns pc L (.ref v :: .int i :: .ref q :: st) := by
  obtain ⟨p, l, e, R, s, m, args, below, meth, c, Q, A, D1, cy, ad⟩ := X
  obtain ⟨⟨hx, hb, hml, hown, hts⟩, hK, hA, hlk, hSC, hR⟩ := C
  subst hR
  intro ls H locs hl hP hD hS
  obtain ⟨q0, hq, he⟩ := pw_a (cy := cy) (I := I) (O := O) (J := J) ha (by decide)
  obtain ⟨q1, hq1, he1⟩ := pw_o (cy := cy) (I := I) (O := O) (J := J) hv (by decide)
  refine va_astq (r := (cN 0, cT 0, nf 0)) hx hb hK hP hD hS q0 4 q1 0 (hq.trans (congrArg (fun z => some (q, z)) he)) rfl (hq1.trans (congrArg (fun z => some (v, z)) he1)) rfl hi d (fun H1 locs1 h1 h2 h3 => ?_)
  have e := cE_astO (cy := cy) (I := I) (O := O) (J := J) (k := i.toNatClampNeg) (x := some v) ha.2 (by decide) rfl
  have e' : va_up (cE cy K I O J) q (.inl (cy (aty 24), (alen 24, .inr (.inr (.inr (.inr (va_up (O q) i.toNatClampNeg (some v)))))))) = cE cy K I (up2 O q i.toNatClampNeg (some v)) J := e
  rw [pw_set hD ha.1 hq, e'] at h1 h2
  exact k ls H1 locs1 hl h1 h2 h3
theorem CT.base {q i : Nat} {x : Option Nat} (h : CT P0 K0 I0 O0 J0 P K I O J a D) (hq : q ∈ P0) (hqa : q ≠ a) : CT P0 K0 I0 (up2 O0 q i x) J0 P K I (up2 O q i x) J a D := by
  obtain ⟨h1, h2, h3, h4⟩ := h
  refine ⟨fun b hb => ⟨(h1 b hb).1, (h1 b hb).2.1, fun hne => ⟨((h1 b hb).2.2 hne).1, ?_, ((h1 b hb).2.2 hne).2.2⟩⟩, fun b hb hn => ⟨fun f κ' hs => ?_, (h2 b hb hn).2⟩, fun f hf κ' hs => ?_, h4⟩
  · funext j
    unfold up2
    rw [((h1 b hb).2.2 hne).2.1]
  · have hne : ¬ b = q := fun z => hn (z ▸ hq)
    obtain ⟨c, e1, e2⟩ := (h2 b hb hn).1 f κ' hs
    exact ⟨c, by rw [up2_row _ _ hne]; exact e1, e2⟩
  · obtain ⟨c, e1, e2⟩ := h3 f hf κ' hs
    exact ⟨c, by rw [up2_row _ _ (fun z => hqa z.symm)]; exact e1, e2⟩
theorem CT.done {q : Nat} {O1 : Nat → Nat → Option Nat} {P' : List Nat} {K' : Nat → Nat} {I' : Nat → Nat → Int32} {O' : Nat → Nat → Option Nat} {J' : Nat → Nat → Int64} (hq : q ∉ P) (ha : a ∈ P) (h : CT (P ++ [q]) (lab K q 24) (clr I q 0) O1 (clr J q 0) P' K' I' O' J' a D) (hO : ∀ b, ¬ b = q → O1 b = clr O q none b) (hd : ∀ f, f < 6 → ∃ d, O' q f = some d ∧ d ∈ P' ∧ K' d = 0) : CT P K I O J P' K' I' O' J' a D := by
  obtain ⟨h1, h2, h3, h4⟩ := h
  have hne : ∀ b, b ∈ P → ¬ b = q := fun b hb z => hq (z ▸ hb)
  refine ⟨fun b hb => ?_, fun b hb hn => ?_, h3, h4⟩
  · obtain ⟨e1, e2, e3⟩ := h1 b (List.mem_append_left _ hb)
    refine ⟨e1, by rw [e2, lab_ne _ (hne b hb)], fun z => ?_⟩
    obtain ⟨f1, f2, f3⟩ := e3 z
    exact ⟨by rw [f1, clr_ne _ _ (hne b hb)], by rw [f2, hO b (hne b hb), clr_ne _ _ (hne b hb)], by rw [f3, clr_ne _ _ (hne b hb)]⟩
  · by_cases e : b = q
    · subst e
      obtain ⟨e1, e2, e3⟩ := h1 b (List.mem_append_right _ (List.mem_singleton.mpr rfl))
      rw [lab_self] at e2
      obtain ⟨f1, -, -⟩ := e3 (fun z => hq (z ▸ ha))
      refine ⟨fun f κ' hs => ?_, fun k => ?_, fun z => ?_⟩
      · rw [e2] at hs
        have hs : (bif Nat.blt f 6 then some 0 else none) = some κ' := hs
        cases hb : Nat.blt f 6 with
        | false => rw [hb] at hs; cases hs
        | true =>
          rw [hb] at hs
          cases hs
          exact hd f (Nat.ble_eq.mp hb)
      · rw [f1, clr_self]; exact okI_0 _ _
      · rw [f1, clr_self]; exact Or.inr (Or.inr rfl)
    · exact h2 b hb (fun z => (List.mem_append.mp z).elim hn (fun z => e (List.mem_singleton.mp z)))
end BROWS
set_option maxHeartbeats 4000000 in
set_option maxRecDepth 100000 in
theorem nPl_init (P : List Nat) (K : Nat → Nat) (I : Nat → Nat → Int32) (O : Nat → Nat → Option Nat) (J : Nat → Nat → Int64) (a : Nat) (ha : a ∈ P ∧ K a = 4) (hz : ∀ k, I a k = 0) (ho : ∀ k, O a k = none) : ConB yPl_init bPl_init 2 none ({ frames := 3, cells := 53, slots := 344, locals := 60 } : Room) P K I O J [.ref a] (CPo [9, 8, 6, 3, 2, 1, 0] (fun I' O' => True) P K I O J a) := by
  refine ConB.ofI mfPl_init (Nat.le_of_ble_eq_true rfl) ?_
  intro X C E N hAO
  refine g_aload_n C dPl_init_0 rfl ?_
  refine g_objInit C dPl_init_1 oi_Pl (Nat.le_of_ble_eq_true rfl) ⟨Nat.le_of_ble_eq_true rfl, Nat.le_of_ble_eq_true rfl⟩ ?_
  refine g_aload_n C dPl_init_4 rfl ?_
  refine g_bipush (v := Int32.ofInt (6)) C dPl_init_5 (by decide) ?_
  refine g_anew C hAO dPl_init_7 kl_Pl_9 (ofI (by decide)) ⟨Nat.le_of_ble_eq_true rfl, Nat.le_of_ble_eq_true rfl⟩ (fun q hq => ?_)
  have hqa : ¬ a = q := fun z => hq (z ▸ ha.1)
  have ha1 : a ∈ P ++ [q] ∧ lab K q 24 a = 4 := ⟨List.mem_append_left _ ha.1, (lab_ne _ hqa).trans ha.2⟩
  have hqB : q ∈ P ++ [q] ∧ lab K q 24 q = 24 := ⟨List.mem_append_right _ (List.mem_singleton.mpr rfl), lab_self _ _ _⟩
  have hC := CT.start (K := lab K q 24) (O := clr O q none) (J := clr J q 0) ha1.1 (I := clr I q 0) (fun k => by rw [clr_ne _ _ hqa]; exact hz k)
  refine g_putrF C N dPl_init_10 fl_Pl_11 (wG_p2 80 (by decide +kernel) (by decide +kernel)) ha1 rfl rfl rfl rfl ?_
  replace hC := hC.putO (f := 0) ha1.1 ha1.2 rfl hqB
  have hOa : (up2 (clr O q none) a 0 (some q)) a 0 = some q := up2_self _ _ _ _
  refine g_aload_n C dPl_init_13 rfl ?_
  refine g_iconst (v := Int32.ofInt (3)) C dPl_init_14 (by decide) ?_
  refine gc_newa (κ := 18) C hC ha1.1 dPl_init_15 (by decide) (fun _ => rfl) ac_int rfl (Or.inr (Or.inl ⟨rfl, rfl⟩)) (ofI (by decide)) (by decide) ⟨Nat.le_of_ble_eq_true rfl, Nat.le_of_ble_eq_true rfl⟩ (fun P1 K1 I1 O1 J1 q1 hC hq1 eI1 eO1 => ?_)
  refine g_putrF C N dPl_init_17 fl_Pl_17 (wG_p2 81 (by decide +kernel) (by decide +kernel)) ⟨(hC.1 a ha1.1).1, (hC.1 a ha1.1).2.1.trans ha1.2⟩ rfl rfl rfl rfl ?_
  replace hOa : (up2 O1 a 1 (some q1)) a 0 = some q := by rw [up2_ne _ _ (fun z => absurd z.2 (by decide)), eO1]; exact hOa
  replace hC := hC.putO (f := 1) ha1.1 ((hC.1 a ha1.1).2.1.trans ha1.2) rfl hq1
  refine g_aload_n C dPl_init_20 rfl ?_
  refine g_iconst (v := Int32.ofInt (5)) C dPl_init_21 (by decide) ?_
  refine gc_newa (κ := 11) C hC ha1.1 dPl_init_22 (by decide) (fun _ => rfl) ac_int rfl (Or.inr (Or.inl ⟨rfl, rfl⟩)) (ofI (by decide)) (by decide) ⟨Nat.le_of_ble_eq_true rfl, Nat.le_of_ble_eq_true rfl⟩ (fun P2 K2 I2 O2 J2 q2 hC hq2 eI2 eO2 => ?_)
  refine g_putrF C N dPl_init_24 fl_Pl_21 (wG_p2 82 (by decide +kernel) (by decide +kernel)) ⟨(hC.1 a ha1.1).1, (hC.1 a ha1.1).2.1.trans ha1.2⟩ rfl rfl rfl rfl ?_
  replace hOa : (up2 O2 a 2 (some q2)) a 0 = some q := by rw [up2_ne _ _ (fun z => absurd z.2 (by decide)), eO2]; exact hOa
  replace hC := hC.putO (f := 2) ha1.1 ((hC.1 a ha1.1).2.1.trans ha1.2) rfl hq2
  refine g_aload_n C dPl_init_27 rfl ?_
  refine g_iconst (v := Int32.ofInt (5)) C dPl_init_28 (by decide) ?_
  refine gc_newa (κ := 11) C hC ha1.1 dPl_init_29 (by decide) (fun _ => rfl) ac_int rfl (Or.inr (Or.inl ⟨rfl, rfl⟩)) (ofI (by decide)) (by decide) ⟨Nat.le_of_ble_eq_true rfl, Nat.le_of_ble_eq_true rfl⟩ (fun P3 K3 I3 O3 J3 q3 hC hq3 eI3 eO3 => ?_)
  refine g_putrF C N dPl_init_31 fl_Pl_24 (wG_p2 83 (by decide +kernel) (by decide +kernel)) ⟨(hC.1 a ha1.1).1, (hC.1 a ha1.1).2.1.trans ha1.2⟩ rfl rfl rfl rfl ?_
  replace hOa : (up2 O3 a 3 (some q3)) a 0 = some q := by rw [up2_ne _ _ (fun z => absurd z.2 (by decide)), eO3]; exact hOa
  replace hC := hC.putO (f := 3) ha1.1 ((hC.1 a ha1.1).2.1.trans ha1.2) rfl hq3
  refine g_aload_n C dPl_init_34 rfl ?_
  refine g_iconst (v := Int32.ofInt (5)) C dPl_init_35 (by decide) ?_
  refine gc_newa (κ := 11) C hC ha1.1 dPl_init_36 (by decide) (fun _ => rfl) ac_int rfl (Or.inr (Or.inl ⟨rfl, rfl⟩)) (ofI (by decide)) (by decide) ⟨Nat.le_of_ble_eq_true rfl, Nat.le_of_ble_eq_true rfl⟩ (fun P4 K4 I4 O4 J4 q4 hC hq4 eI4 eO4 => ?_)
  refine g_putrF C N dPl_init_38 fl_Pl_27 (wG_p2 86 (by decide +kernel) (by decide +kernel)) ⟨(hC.1 a ha1.1).1, (hC.1 a ha1.1).2.1.trans ha1.2⟩ rfl rfl rfl rfl ?_
  replace hOa : (up2 O4 a 6 (some q4)) a 0 = some q := by rw [up2_ne _ _ (fun z => absurd z.2 (by decide)), eO4]; exact hOa
  replace hC := hC.putO (f := 6) ha1.1 ((hC.1 a ha1.1).2.1.trans ha1.2) rfl hq4
  refine g_aload_n C dPl_init_41 rfl ?_
  refine gc_sub (κ := 0) (Dq := [1, 0]) (ext := fun b I2 O2 => True) C hC ha1.1 dPl_init_42 dPl_init_45 dPl_init_46 (by decide) kl_Pl_9 ki_0 kn_0 mfDr_init miDr_init rfl ln_Pl_30 cov_0 (fun P K I O J b hb hz ho => nDr_init P K I O J b hb hz ho) (Nat.le_of_ble_eq_true rfl) ⟨Nat.le_of_ble_eq_true rfl, Nat.le_of_ble_eq_true rfl⟩ ⟨Nat.le_of_ble_eq_true rfl, Nat.le_of_ble_eq_true rfl⟩ (fun P5 K5 I5 O5 J5 q5 hC hq5 eI5 eO5 ex5 up5 => ?_)
  refine g_putrF C N dPl_init_49 fl_Pl_31 (wG_p2 88 (by decide +kernel) (by decide +kernel)) ⟨(hC.1 a ha1.1).1, (hC.1 a ha1.1).2.1.trans ha1.2⟩ rfl rfl rfl rfl ?_
  replace hOa : (up2 O5 a 8 (some q5)) a 0 = some q := by rw [up2_ne _ _ (fun z => absurd z.2 (by decide)), eO5]; exact hOa
  replace hC := hC.putO (f := 8) ha1.1 ((hC.1 a ha1.1).2.1.trans ha1.2) rfl hq5
  refine g_aload_n C dPl_init_52 rfl ?_
  refine gc_sub (κ := 0) (Dq := [1, 0]) (ext := fun b I2 O2 => True) C hC ha1.1 dPl_init_53 dPl_init_56 dPl_init_57 (by decide) kl_Pl_9 ki_0 kn_0 mfDr_init miDr_init rfl ln_Pl_30 cov_0 (fun P K I O J b hb hz ho => nDr_init P K I O J b hb hz ho) (Nat.le_of_ble_eq_true rfl) ⟨Nat.le_of_ble_eq_true rfl, Nat.le_of_ble_eq_true rfl⟩ ⟨Nat.le_of_ble_eq_true rfl, Nat.le_of_ble_eq_true rfl⟩ (fun P6 K6 I6 O6 J6 q6 hC hq6 eI6 eO6 ex6 up6 => ?_)
  refine g_putrF C N dPl_init_60 fl_Pl_35 (wG_p2 89 (by decide +kernel) (by decide +kernel)) ⟨(hC.1 a ha1.1).1, (hC.1 a ha1.1).2.1.trans ha1.2⟩ rfl rfl rfl rfl ?_
  replace hOa : (up2 O6 a 9 (some q6)) a 0 = some q := by rw [up2_ne _ _ (fun z => absurd z.2 (by decide)), eO6]; exact hOa
  replace hC := hC.putO (f := 9) ha1.1 ((hC.1 a ha1.1).2.1.trans ha1.2) rfl hq6
  refine g_iconst (v := Int32.ofInt (0)) C dPl_init_63 (by decide) ?_
  refine g_istore_n (i := 1) C dPl_init_64 rfl (by decide) ?_
  have lp : ∀ (n : Nat) (x : Int32) (O1 : Nat → Nat → Option Nat) (P2 : List Nat) (K2 : Nat → Nat) (I2 : Nat → Nat → Int32) (O2 : Nat → Nat → Option Nat) (J2 : Nat → Nat → Int64), Int.toNat (6 - x.toInt) = n → 0 ≤ x.toInt ∧ x.toInt ≤ 6 → CT (P ++ [q]) (lab K q 24) (clr I q 0) O1 (clr J q 0) P2 K2 I2 O2 J2 a [9, 8, 6, 3, 2, 1, 0] → (∀ b, ¬ b = q → O1 b = clr O q none b) → O2 a 0 = some q → (∀ f : Nat, (f : Int) < x.toInt → ∃ d, O2 q f = some d ∧ d ∈ P2 ∧ K2 d = 0) → GG X 2 P2 K2 I2 O2 J2 (17 + 6 * x.toInt.toNat) (104 + 40 * x.toInt.toNat) 65 [(0, .ref a), (1, .int x)] [] := by
    intro n
    induction n using Nat.strongRecOn with
    | ind n ih =>
    intro x O1 P2 K2 I2 O2 J2 hn hx hC hO hOa hd
    have haC : a ∈ P2 ∧ K2 a = 4 := ⟨(hC.1 a ha1.1).1, (hC.1 a ha1.1).2.1.trans ha1.2⟩
    have hqC : q ∈ P2 ∧ K2 q = 24 := ⟨(hC.1 q hqB.1).1, (hC.1 q hqB.1).2.1.trans hqB.2⟩
    refine g_iload_n C dPl_init_65 rfl ?_
    refine g_iconst (v := Int32.ofInt (5)) C dPl_init_66 (by decide) ?_
    refine gt_icmp_gt 89 C dPl_init_67 (by decide) rfl (ofI (by decide)) (fun c => ?_) (fun c => ?_)
    · have hx6 : x.toInt = 6 := by omega
      refine g_vret C E dPl_init_89 (by rw [hx6]; decide) (by rw [hx6]; decide) ⟨rfl, ?_, trivial⟩
      exact CT.done hq ha.1 hC hO (fun f hf => hd f (by omega))
    · refine g_aload_n C dPl_init_70 rfl ?_
      refine gt_getS C dPl_init_71 fl_Pl_11 haC hOa ?_
      refine g_iload_n C dPl_init_74 rfl ?_
      have hCold := hC
      refine gc_sub (κ := 0) (Dq := [1, 0]) (ext := fun b I2 O2 => True) C hC ha1.1 dPl_init_75 dPl_init_78 dPl_init_79 (by decide) kl_Pl_9 ki_0 kn_0 mfDr_init miDr_init rfl ln_Pl_30 cov_0 (fun P K I O J b hb hz ho => nDr_init P K I O J b hb hz ho) (Nat.le_of_ble_eq_true rfl) ⟨Nat.le_of_ble_eq_true rfl, Nat.le_of_ble_eq_true rfl⟩ ⟨by dsimp only; omega, by show 104 + 40 * x.toInt.toNat + 17 + 23 ≤ 344; omega⟩ (fun P3 K3 I3 O3 J3 q3 hC hq3 eI eO ex up => ?_)
      have hPK : ∀ d, d ∈ P2 → K2 d = 0 → d ∈ P3 ∧ K3 d = 0 := fun d h1 h2 => ⟨(up d h1).1, (up d h1).2.trans h2⟩
      have hqC : q ∈ P3 ∧ K3 q = 24 := ⟨(hC.1 q hqB.1).1, (hC.1 q hqB.1).2.1.trans hqB.2⟩
      have hqq : ¬ q = a := fun z => hqa z.symm
      have hOq : O3 q = O2 q := by rw [((hC.1 q hqB.1).2.2 hqq).2.1]; exact ((hCold.1 q hqB.1).2.2 hqq).2.1.symm
      refine g_aast C dPl_init_82 hqC hq3 (vp_in_iff.mpr (by show 0 ≤ x.toInt ∧ x.toInt < (6 : Int); omega)) ?_
      refine n_iinc C dPl_init_83 rfl rfl (by decide) (by decide) (by omega) (fun z ez => ?_)
      refine g_goto 65 C dPl_init_86 (by decide) ?_
      have hxn : x.toNatClampNeg = x.toInt.toNat := rfl
      refine g_widen (nc' := 17 + 6 * z.toInt.toNat) (ns' := 104 + 40 * z.toInt.toNat) (by dsimp only; omega) (by show 104 + 40 * x.toInt.toNat + 17 + 23 ≤ _; omega) ?_
      refine g_sub (ih _ (by omega) z (up2 O1 q x.toNatClampNeg (some q3)) P3 K3 I3 (up2 O3 q x.toNatClampNeg (some q3)) J3 rfl (by omega) (hC.base hqB.1 hqq) (fun b hb => by rw [up2_row _ _ hb]; exact hO b hb) (by rw [up2_row _ _ hqa, eO]; exact hOa) (fun f hf => ?_)) ⟨rfl, rfl, trivial⟩
      by_cases e : f = x.toNatClampNeg
      · subst e; exact ⟨q3, up2_self _ _ _ _, hq3⟩
      · obtain ⟨d, d1, d2, d3⟩ := hd f (by omega)
        exact ⟨d, by rw [up2_ne _ _ (fun w => e w.2), hOq]; exact d1, hPK d d2 d3⟩
  exact g_sub (lp _ (Int32.ofInt (0)) _ _ _ _ _ _ rfl (by rw [ofI (by decide)]; decide) hC (fun b hb => rfl) hOa (fun f hf => by rw [ofI (by decide)] at hf; exact absurd hf (by omega))) ⟨rfl, rfl, trivial⟩
