theorem cnd {c : Bool} {A B : Prop} (a : A) (b : B) : (bif c then A else B) := by cases c <;> assumption
theorem z0I : (0 : Int32).toInt = 0 := rfl
theorem okI_0 (κ k : Nat) : okI κ k 0 := by
  unfold okI B01
  rw [z0I]
  repeat' (first | exact trivial | exact Or.inl rfl | decide | refine cnd ?_ ?_)
def TAf (P : List Nat) (K : Nat → Nat) (O : Nat → Nat → Option Nat) (a f : Nat) : Prop := ∀ κ', sp (K a) f = some κ' → ∃ c, O a f = some c ∧ c ∈ P ∧ K c = κ'
def ini (κ k : Nat) (v : Int32) : Prop := κ = 9 ∨ (k = 2 ∧ (κ = 3 ∨ κ = 10)) ∨ v = 0
def okA (K : Nat → Nat) (I : Nat → Nat → Int32) (a : Nat) : Prop := (∀ k, okI (K a) k (I a k)) ∧ (∀ k, ini (K a) k (I a k))
/-- a world under making: what was there stays but a; what is new is whole; of a the fields D are made -/
def CT (P0 : List Nat) (K0 : Nat → Nat) (I0 : Nat → Nat → Int32) (O0 : Nat → Nat → Option Nat) (J0 : Nat → Nat → Int64) (P : List Nat) (K : Nat → Nat) (I : Nat → Nat → Int32) (O : Nat → Nat → Option Nat) (J : Nat → Nat → Int64) (a : Nat) (D : List Nat) : Prop :=
  (∀ b, b ∈ P0 → b ∈ P ∧ K b = K0 b ∧ (b ≠ a → I b = I0 b ∧ O b = O0 b ∧ J b = J0 b)) ∧ (∀ b, b ∈ P → b ∉ P0 → (∀ f, TAf P K O b f) ∧ okA K I b) ∧ (∀ f, f ∈ D → TAf P K O a f) ∧ okA K I a
section CTS
variable {P0 : List Nat} {K0 : Nat → Nat} {I0 : Nat → Nat → Int32} {O0 : Nat → Nat → Option Nat} {J0 : Nat → Nat → Int64} {P : List Nat} {K : Nat → Nat} {I : Nat → Nat → Int32} {O : Nat → Nat → Option Nat} {J : Nat → Nat → Int64} {a : Nat} {D : List Nat}
theorem CT.start (ha : a ∈ P) (hz : ∀ k, I a k = 0) : CT P K I O J P K I O J a [] :=
  ⟨fun b hb => ⟨hb, rfl, fun _ => ⟨rfl, rfl, rfl⟩⟩, fun b h1 h2 => absurd h1 h2, fun f h => absurd h List.not_mem_nil, ⟨fun k => by rw [hz]; exact okI_0 _ _, fun k => Or.inr (Or.inr (hz k))⟩⟩
theorem TAf.up {P' : List Nat} {K' : Nat → Nat} {O' : Nat → Nat → Option Nat} {b f : Nat} (h : TAf P K O b f) (hb : b ∈ P) (hP : ∀ c, c ∈ P → c ∈ P' ∧ K' c = K c) (hO : O' b = O b) : TAf P' K' O' b f := by
  intro κ' hs
  rw [(hP b hb).2] at hs
  obtain ⟨c, h1, h2, h3⟩ := h κ' hs
  exact ⟨c, by rw [hO]; exact h1, (hP c h2).1, by rw [(hP c h2).2]; exact h3⟩
theorem CT.putO {f q κ κ' : Nat} (h : CT P0 K0 I0 O0 J0 P K I O J a D) (ha : a ∈ P0) (hk : K a = κ) (hs : sp κ f = some κ') (hq : q ∈ P ∧ K q = κ') : CT P0 K0 I0 O0 J0 P K I (up2 O a f (some q)) J a (f :: D) := by
  obtain ⟨h1, h2, h3, h4⟩ := h
  refine ⟨fun b hb => ⟨(h1 b hb).1, (h1 b hb).2.1, fun hne => ?_⟩, fun b hb hn => ⟨fun f' => ?_, (h2 b hb hn).2⟩, fun f' hf => ?_, h4⟩
  · rw [up2_row _ _ hne]; exact (h1 b hb).2.2 hne
  · have hne : ¬ b = a := fun z => hn (z ▸ ha)
    intro κ2 hs2
    obtain ⟨c, e1, e2⟩ := (h2 b hb hn).1 f' κ2 hs2
    exact ⟨c, by rw [up2_row _ _ hne]; exact e1, e2⟩
  · intro κ2 hs2
    by_cases e : f' = f
    · subst e
      rw [hk, hs] at hs2
      cases hs2
      exact ⟨q, up2_self _ _ _ _, hq⟩
    · rcases List.mem_cons.mp hf with z | z
      · exact absurd z e
      · obtain ⟨c, e1, e2⟩ := h3 f' z κ2 hs2
        exact ⟨c, by rw [up2_ne _ _ (fun w => e w.2)]; exact e1, e2⟩
theorem CT.putI {f κ : Nat} {x : Int32} (h : CT P0 K0 I0 O0 J0 P K I O J a D) (ha : a ∈ P0) (hk : K a = κ) (hx : okI κ f x) (h5 : κ = 9 ∨ (f = 2 ∧ (κ = 3 ∨ κ = 10)) ∨ x = 0) : CT P0 K0 I0 O0 J0 P K (up2 I a f x) O J a D := by
  obtain ⟨h1, h2, h3, h4⟩ := h
  refine ⟨fun b hb => ⟨(h1 b hb).1, (h1 b hb).2.1, fun hne => ?_⟩, fun b hb hn => ⟨(h2 b hb hn).1, ?_⟩, h3, ⟨fun k => ?_, fun k => ?_⟩⟩
  · rw [up2_row _ _ hne]; exact (h1 b hb).2.2 hne
  · have hne : ¬ b = a := fun z => hn (z ▸ ha)
    refine ⟨fun k => ?_, fun z => ?_⟩
    · rw [up2_row _ _ hne]; exact (h2 b hb hn).2.1 k
    · rw [up2_row _ _ hne]; exact (h2 b hb hn).2.2 z
  · by_cases e : k = f
    · subst e; rw [up2_self, hk]; exact hx
    · rw [up2_ne _ _ (fun w => e w.2)]; exact h4.1 k
  · by_cases e : k = f
    · subst e; rw [up2_self, hk]; exact h5
    · rw [up2_ne _ _ (fun w => e w.2)]; exact h4.2 k
/-- a cell more, whole as it is made (an array) -/
theorem CT.cell {q κ : Nat} (h : CT P0 K0 I0 O0 J0 P K I O J a D) (ha : a ∈ P0) (hq : q ∉ P) (hs : ∀ f, sp κ f = none) (h5 : κ ≠ 5) : CT P0 K0 I0 O0 J0 (P ++ [q]) (lab K q κ) (clr I q 0) (clr O q none) (clr J q 0) a D := by
  obtain ⟨h1, h2, h3, h4⟩ := h
  have hne : ∀ b, b ∈ P → ¬ b = q := fun b hb z => hq (z ▸ hb)
  have haP : a ∈ P := (h1 a ha).1
  have hup : ∀ c, c ∈ P → c ∈ P ++ [q] ∧ lab K q κ c = K c := fun c hc => ⟨List.mem_append_left _ hc, lab_ne _ (hne c hc)⟩
  refine ⟨fun b hb => ?_, fun b hb hn => ?_, fun f hf => (h3 f hf).up haP hup (clr_ne _ _ (hne a haP)), ?_⟩
  · have hbP := (h1 b hb).1
    refine ⟨List.mem_append_left _ hbP, by rw [lab_ne _ (hne b hbP)]; exact (h1 b hb).2.1, fun z => ?_⟩
    rw [clr_ne _ _ (hne b hbP), clr_ne _ _ (hne b hbP), clr_ne _ _ (hne b hbP)]
    exact (h1 b hb).2.2 z
  · rcases List.mem_append.mp hb with hb | hb
    · obtain ⟨e1, e2, e3⟩ := h2 b hb hn
      refine ⟨fun f => (e1 f).up hb hup (clr_ne _ _ (hne b hb)), fun k => ?_, fun z => ?_⟩
      · rw [lab_ne _ (hne b hb), clr_ne _ _ (hne b hb)]; exact e2 k
      · rw [clr_ne _ _ (hne b hb), lab_ne _ (hne b hb)]; exact e3 z
    · have e : b = q := List.mem_singleton.mp hb
      subst e
      refine ⟨fun f κ' z => ?_, fun k => ?_, fun z => ?_⟩
      · rw [lab_self, hs] at z; cases z
      · rw [clr_self]; exact okI_0 _ _
      · rw [clr_self]; exact Or.inr (Or.inr rfl)
  · refine ⟨fun k => ?_, fun z => ?_⟩
    · rw [lab_ne _ (hne a haP), clr_ne _ _ (hne a haP)]; exact h4.1 k
    · rw [clr_ne _ _ (hne a haP), lab_ne _ (hne a haP)]; exact h4.2 z
/-- an object more, made by its own constructor -/
theorem CT.sub {q κ : Nat} {P2 : List Nat} {K2 : Nat → Nat} {I2 : Nat → Nat → Int32} {O2 : Nat → Nat → Option Nat} {J2 : Nat → Nat → Int64} {Dq : List Nat} (h : CT P0 K0 I0 O0 J0 P K I O J a D) (ha : a ∈ P0) (hq : q ∉ P) (hc : CT (P ++ [q]) (lab K q κ) (clr I q 0) (clr O q none) (clr J q 0) P2 K2 I2 O2 J2 q Dq) (hs : ∀ f κ', sp κ f = some κ' → f ∈ Dq) : CT P0 K0 I0 O0 J0 P2 K2 I2 O2 J2 a D ∧ (q ∈ P2 ∧ K2 q = κ) ∧ I2 a = I a ∧ O2 a = O a ∧ ∀ c, c ∈ P → c ∈ P2 ∧ K2 c = K c := by
  obtain ⟨h1, h2, h3, h4⟩ := h
  obtain ⟨c1, c2, c3, c4⟩ := hc
  have hne : ∀ b, b ∈ P → ¬ b = q := fun b hb z => hq (z ▸ hb)
  have haP : a ∈ P := (h1 a ha).1
  have old : ∀ b, b ∈ P → b ∈ P2 ∧ K2 b = K b ∧ I2 b = I b ∧ O2 b = O b ∧ J2 b = J b := by
    intro b hb
    obtain ⟨e1, e2, e3⟩ := c1 b (List.mem_append_left _ hb)
    obtain ⟨e4, e5, e6⟩ := e3 (hne b hb)
    exact ⟨e1, by rw [e2, lab_ne _ (hne b hb)], by rw [e4, clr_ne _ _ (hne b hb)], by rw [e5, clr_ne _ _ (hne b hb)], by rw [e6, clr_ne _ _ (hne b hb)]⟩
  have hup : ∀ c, c ∈ P → c ∈ P2 ∧ K2 c = K c := fun c hc => ⟨(old c hc).1, (old c hc).2.1⟩
  obtain ⟨q1, q2, -⟩ := c1 q (List.mem_append_right _ (List.mem_singleton.mpr rfl))
  rw [lab_self] at q2
  refine ⟨⟨fun b hb => ?_, fun b hb hn => ?_, fun f hf => (h3 f hf).up haP hup (old a haP).2.2.2.1, ?_⟩, ⟨q1, q2⟩, (old a haP).2.2.1, (old a haP).2.2.2.1, hup⟩
  · obtain ⟨hbP, e2, e3⟩ := h1 b hb
    obtain ⟨f1, f2, f3, f4, f5⟩ := old b hbP
    refine ⟨f1, by rw [f2]; exact e2, fun z => ?_⟩
    rw [f3, f4, f5]; exact e3 z
  · by_cases hbP : b ∈ P
    · obtain ⟨f1, f2, f3, f4, f5⟩ := old b hbP
      obtain ⟨e1, e2, e3⟩ := h2 b hbP hn
      refine ⟨fun f => (e1 f).up hbP hup f4, fun k => ?_, fun z => ?_⟩
      · rw [f2, f3]; exact e2 k
      · rw [f2, f3]; exact e3 z
    · by_cases e : b = q
      · subst e
        refine ⟨fun f κ' z => ?_, c4⟩
        exact c3 f (hs f κ' (by rw [← q2]; exact z)) κ' z
      · exact c2 b hb (fun z => (List.mem_append.mp z).elim hbP (fun z => e (List.mem_singleton.mp z)))
  · obtain ⟨f1, f2, f3, f4, f5⟩ := old a haP
    refine ⟨fun k => ?_, fun z => ?_⟩
    · rw [f2, f3]; exact h4.1 k
    · rw [f2, f3]; exact h4.2 z
end CTS
def CPo (D : List Nat) (ext : (Nat → Nat → Int32) → (Nat → Nat → Option Nat) → Prop) (P : List Nat) (K : Nat → Nat) (I : Nat → Nat → Int32) (O : Nat → Nat → Option Nat) (J : Nat → Nat → Int64) (a : Nat) : PST := fun r P' K' I' O' J' => r = none ∧ CT P K I O J P' K' I' O' J' a D ∧ ext I' O'
section CROWS
variable {X : CTX} {cc : ByteArray} {nL : Nat} {own : String} {rm : Room} {P : List Nat} {K : Nat → Nat} {I : Nat → Nat → Int32} {O : Nat → Nat → Option Nat} {J : Nat → Nat → Int64} {nc ns pc : Nat} {L : List (Nat × Value)} {st : List Value} {P0 : List Nat} {K0 : Nat → Nat} {I0 : Nat → Nat → Int32} {O0 : Nat → Nat → Option Nat} {J0 : Nat → Nat → Int64} {a : Nat} {D : List Nat}
theorem g_putrF {idx κ f q : Nat} (C : Cx X cc nL own rm) (N : NMX X "<init>") (d : decode cc pc = .ok (.putfield idx, 3)) (h : FL own idx κ f 1) (hl0 : Cond.fieldLink own idx (cT κ f).1 (cT κ f).2.1 (cT κ f).2.2.1 ∈ wG) (ha : a ∈ P ∧ K a = κ) (hfin : (cT κ f).2.2.2 = true) (hdc : (cT κ f).1 = own) (hn : narrow (cY κ f) (.ref q) = .ref q) (hfit : fits (cY κ f) (.ref q) = true) (k : GG X nL P K I (up2 O a f (some q)) J nc ns (pc + 3) L st) : GG X nL P K I O J nc ns pc L (.ref q :: .ref a :: st) := by
  obtain ⟨p, l, e, R, s, m, args, below, meth, c, Q, A, D1, cy, ad⟩ := X
  obtain ⟨⟨hx, hb, hml, hown, hts⟩, hK, hA, hlk, hSC, hR⟩ := C
  obtain ⟨hw, hκ, hf, ht⟩ := h
  intro ls H locs hl hP hD hS
  obtain ⟨q0, hq, he⟩ := pw_o (cy := cy) (I := I) (O := O) (J := J) ha hκ
  have hlen : f < ((List.range (nf κ)).map (fvr (I a) (O a) (J a) κ)).length := by rw [List.length_map, List.length_range]; exact hf
  refine va_putF (v := .ref q) hx hb hts (lays_in hκ) (cY κ) (ty_in κ hκ) (nm_in κ hκ) hown hK hP hD hS q0 (hq.trans (congrArg (fun z => some (a, z)) he)) (cl_at κ hκ) f hf (hts _ hl0) (fun _ z => z) hfin N hdc (ty_in κ hκ f hf) hn hfit hlen d (fun H1 locs1 h1 h2 h3 => ?_)
  have e := cE_putO (cy := cy) (I := I) (O := O) (J := J) (k := f) (x := some q) ha.2 hκ ht
  have e' : va_up (cE cy K I O J) a (.inr (κ, ((List.range (nf κ)).map (fvr (I a) (O a) (J a) κ)).set f (.ref q))) = cE cy K I (up2 O a f (some q)) J := e
  rw [pw_set hD ha.1 hq, e'] at h1 h2
  exact k ls H1 locs1 hl h1 h2 h3
theorem g_callI {idx n nL' b : Nat} {y : MethodName} {cc' : ByteArray} {rm' : Room} {post : PST} {av : AD → List Value} {rest : List Value} (C : Cx X cc nL own rm) (d : decode cc pc = .ok (.invokespecial idx, 3)) (hm : MF y cc' nL' none n) (hv : Cond.instanceMethod y ∈ wG) (hyn : y.name = "<init>") (hl0 : LN own idx y) (hc : ConA y cc' nL' none rm' P K I O J (fun ad => .ref b :: av ad) post) (hn : (av (adX X)).length = n) (hst : st = (av (adX X)).reverse ++ .ref b :: rest) (hw : (rest.map fun v => v.category).sum ≤ 8) (hR' : rm'.frames + 1 ≤ rm.frames ∧ 8 + (nL' + 11) + rm'.locals ≤ rm.locals) (hro : nc + rm'.cells ≤ rm.cells ∧ ns + rm'.slots ≤ rm.slots) (k : ∀ (r : Option Value) (P' : List Nat) (K' : Nat → Nat) (I' : Nat → Nat → Int32) (O' : Nat → Nat → Option Nat) (J' : Nat → Nat → Int64), post r P' K' I' O' J' → GG X nL P' K' I' O' J' (nc + rm'.cells) (ns + rm'.slots) (pc + 3) L (r.toList ++ rest)) : GG X nL P K I O J nc ns pc L st := by
  obtain ⟨p, l, e, R, s, m, args, below, meth, c, Q, A, D, cy, ad⟩ := X
  obtain ⟨⟨hx, hb, hml, hown, hts⟩, hK, hA, hlk, hSC, hR⟩ := C
  subst hR
  intro ls H locs hl hP hD hS T hT X0
  have hFr : ∀ q, va_A (pw cy P K I O J) H.size q → A q := by
    rintro q (⟨k1, e1, h1⟩ | h1)
    · exact hD.2 k1 (q, e1) h1
    · exact hA q (Nat.le_trans hS.1 h1)
  have kk : va_Run p l e R s m args below meth c H locs nc ns rm'.cells rm'.slots (F0 m pc ls st) rest (QQ D cy post (va_A (pw cy P K I O J) H.size) (.ref b :: av ad).toArray) (va_A (pw cy P K I O J) H.size) → ∃ t, Steps p.tables e below (T.setTop (F0 m pc ls st)) t ∧ Q t := by
    intro hr
    obtain ⟨v, st₀, t, T', Lc, h0, X', hL, e1, e2, ⟨⟨r, P', K', I', O', J', hv, hp, hP1, hK1, hD1⟩, hz, hk⟩, stp⟩ := hr T hT X0
    cases hv
    rw [h0] at hz hk
    have hw := k v P' K' I' O' J' hp ls T'.heap (locs ++ Lc) hl (by rw [e1]; exact hP1) (hD1.weaken (fun _ q _ h => hFr q.1 h)) ⟨Nat.le_trans hS.1 (by rw [e1]; exact hz), fun q h1 h2 => by rw [e1, hk q (Nat.lt_of_lt_of_le h1 hS.1) (fun z => h2 (hFr q z))]; exact hS.2.1 q h1 h2, fun q hq => by
      rcases List.mem_append.mp hq with h | h
      · exact hS.2.2 q h
      · exact hFr _ (hL q h)⟩
    obtain ⟨t2, a1, b1⟩ := hw T' rfl X'
    exact ⟨t2, stp t2 a1, b1⟩
  have hp : PreS s H (PP D cy ad H.size P K I O J (.ref b :: av ad)) (.ref b :: av ad) := ⟨PP.blind, fun U hU hW => ⟨rfl, by rw [hU], by rw [hU]; exact hP, va_K.moved hW.alike hK, hD.weaken (fun _ _ _ _ => trivial), hSC.call hS hW hU hFr⟩⟩
  have hcb := hm.1
  have hgd := wG_in2 hcb
  have hpm : ∀ sig, parseMethodDescriptor y.desc = some sig → n = sig.parameters.length := fun sig hs => by have := hm.2.2.2.2; rw [hs] at this; exact (Option.some.inj this).symm
  have hws : ∀ w ∈ (Cond.code y cc' nL' none :: wG), ∀ (a' : Array Value) (U : State), s.WarmedH U.vm → w.before a' U = true := pay_in hts hgd
  rcases hl0 with hl0 | ⟨host, hl0⟩
  · exact kk (va_runI (As := av ad) (rest := rest) ⟨hx, hb, hml, hown, hts⟩ (hc l D cy ad H.size) ⟨⟨rfl, rfl, hR'.1, hR'.2, hws, List.mem_cons_self, hts _ hcb, hts _ hm.2.1, hm.2.2.2.1, hpm, hts _ hl0⟩, hyn, hts _ hv⟩ hp rfl hn hl.1 hst (lv_room hw) d hro)
  · exact kk (va_runIN (As := av ad) (rest := rest) ⟨hx, hb, hml, hown, hts⟩ (hc l D cy ad H.size) ⟨⟨⟨rfl, rfl, hR'.1, hR'.2, hws, List.mem_cons_self⟩, hts _ hcb, hts _ hm.2.1, hm.2.2.2.1, hpm, hSC.2.2.1.use hl0⟩, hyn, hts _ hv⟩ hp rfl hn hl.1 hst (lv_room hw) d hro)
/-- an array is made -/
theorem gc_newa {atype : ArrayType} {κ : Nat} {n : Int32} {ty : FieldType} (C : Cx X cc nL own rm) (hC : CT P0 K0 I0 O0 J0 P K I O J a D) (ha : a ∈ P0) (d : decode cc pc = .ok (.newarray atype, 2)) (hκ : ¬ κ < 11) (hs : ∀ f, sp κ f = none) (hw : Cond.arrayClass (newarray.typeOf atype) ∈ wG) (hty : newarray.typeOf atype = ty) (hc : (aty κ = 0 ∧ ty = .byte) ∨ (aty κ = 1 ∧ ty = .int) ∨ (aty κ = 2 ∧ ty = .long) ∨ (aty κ = 3 ∧ ty = .boolean)) (hn : n.toInt = ((alen κ : Nat) : Int)) (hb0 : alen κ < 10000) (hro : nc + 1 ≤ rm.cells ∧ ns + alen κ ≤ rm.slots) (k : ∀ (P' : List Nat) (K' : Nat → Nat) (I' : Nat → Nat → Int32) (O' : Nat → Nat → Option Nat) (J' : Nat → Nat → Int64) (q : Nat), CT P0 K0 I0 O0 J0 P' K' I' O' J' a D → (q ∈ P' ∧ K' q = κ) → I' a = I a → O' a = O a → GG X nL P' K' I' O' J' (nc + 1) (ns + alen κ) (pc + 2) L (.ref q :: st)) : GG X nL P K I O J nc ns pc L (.int n :: st) := by
  have haP := (hC.1 a ha).1
  refine g_newa C d hκ hw hty hc hn hb0 hro (fun q hq => ?_)
  have hne : ¬ a = q := fun z => hq (z ▸ haP)
  exact k _ _ _ _ _ q (hC.cell ha hq hs (by omega)) ⟨List.mem_append_right _ (List.mem_singleton.mpr rfl), lab_self _ _ _⟩ (clr_ne _ _ hne) (clr_ne _ _ hne)
/-- 'new', 'dup', and its constructor -/
theorem gc_sub {idx idx2 κ nL' : Nat} {y : MethodName} {cc' : ByteArray} {rm' : Room} {Dq : List Nat} {ext : Nat → (Nat → Nat → Int32) → (Nat → Nat → Option Nat) → Prop} (C : Cx X cc nL own rm) (hC : CT P0 K0 I0 O0 J0 P K I O J a D) (ha : a ∈ P0) (d : decode cc pc = .ok (.new idx, 3)) (d3 : decode cc (pc + 3) = .ok (.dup, 1)) (d4 : decode cc (pc + 4) = .ok (.invokespecial idx2, 3)) (hκ : κ < 11) (hw : Cond.classLink own idx (cN κ) ∈ wG) (hi : Cond.instantiable (cN κ) (nf κ) ∈ wG) (hn : Cond.initialized (cN κ) ∈ wG) (hm : MF y cc' nL' none 0) (hv : Cond.instanceMethod y ∈ wG) (hyn : y.name = "<init>") (hl0 : LN own idx2 y) (hs : ∀ f κ', sp κ f = some κ' → f ∈ Dq)
    (hc : ∀ (P : List Nat) (K : Nat → Nat) (I : Nat → Nat → Int32) (O : Nat → Nat → Option Nat) (J : Nat → Nat → Int64) (b : Nat), b ∈ P ∧ K b = κ → (∀ k, I b k = 0) → (∀ k, O b k = none) → Con y cc' nL' none rm' P K I O J [.ref b] (CPo Dq (ext b) P K I O J b)) (hst : ((st).map fun v => v.category).sum ≤ 7) (hR' : rm'.frames + 1 ≤ rm.frames ∧ 8 + (nL' + 11) + rm'.locals ≤ rm.locals) (hro : nc + 1 + rm'.cells ≤ rm.cells ∧ ns + nf κ + rm'.slots ≤ rm.slots)
    (k : ∀ (P' : List Nat) (K' : Nat → Nat) (I' : Nat → Nat → Int32) (O' : Nat → Nat → Option Nat) (J' : Nat → Nat → Int64) (q : Nat), CT P0 K0 I0 O0 J0 P' K' I' O' J' a D → (q ∈ P' ∧ K' q = κ) → I' a = I a → O' a = O a → ext q I' O' → (∀ c, c ∈ P → c ∈ P' ∧ K' c = K c) → GG X nL P' K' I' O' J' (nc + 1 + rm'.cells) (ns + nf κ + rm'.slots) (pc + 7) L (.ref q :: st)) : GG X nL P K I O J nc ns pc L st := by
  refine g_new C d hκ hw hi hn ⟨by omega, by omega⟩ (fun q hq => ?_)
  refine g_dup C d3 rfl ?_
  refine g_callI (av := fun _ => []) C d4 hm hv hyn hl0 (hc _ _ _ _ _ q ⟨List.mem_append_right _ (List.mem_singleton.mpr rfl), lab_self _ _ _⟩ (fun k => by rw [clr_self]) (fun k => by rw [clr_self])) rfl rfl (by simp only [List.map_cons, List.sum_cons]; have : (Value.ref q).category = 1 := rfl; omega) hR' hro (fun r P' K' I' O' J' hp => ?_)
  obtain ⟨rfl, h1, h2⟩ := hp
  obtain ⟨e1, e2, e3, e4, e5⟩ := hC.sub ha hq h1 hs
  exact k _ _ _ _ _ q e1 e2 e3 e4 h2 e5
end CROWS
