theorem xk312 : Cond.classLink "RoarMill" 312 xn ∈ wG := wG_of (by decide +kernel) (by decide +kernel)
theorem xini : Cond.initialized xn ∈ wG := wG_of (by decide +kernel) (by decide +kernel)
/-- how led ends by a throw: the world stays -/
def XN (D : va_G) (cy : Nat → ClassId) (w : va_W) (A : Nat → Prop) : String → State → State → Prop := fun E st t => E = xn ∧ va_P D cl w t.heap ∧ va_K D cl (tyl cy) t ∧ va_F A st t
section XR
variable {p : Program} {l : Launch} {e : Env} {R : Room} {s : State} {m : MethodId} {args : Array Value} {below : List Frame} {meth : Method} {c : Code} {H : Heap} {locs : List Loc} {cells slots : Nat} {mc ms : Nat} {free : Addr → Prop} {ls : Array Slot} {rest : List Value} {Qc : Array Value → State → Outcome → State → Prop} {XC : String → State → State → Prop}
theorem xt_row {cc : ByteArray} {pc : Nat} (hexec : p.tables.exec = Jvm.exec) (hb : c.code = cc) (hl : l.stackTraces = false) {text : String} {sa : Nat} {A : Nat → Prop}
    (hown : s.vm.findClass "RoarMill" = some m.cls) (hts : ∀ w ∈ wG, w.before args s = true) (hstr : vk_R "RoarMill" 314 text sa s) (hLT : LT A s s.heap) (hS : va_S A s.heap H locs) (hsize : ls.size = c.maxLocals)
    (d0 : decode cc pc = .ok (.new 312, 3)) (d3 : decode cc (pc + 3) = .ok (.dup, 1)) (d4 : decode cc (pc + 4) = .ok (.ldc_w 314, 3)) (d7 : decode cc (pc + 7) = .ok (.invokespecial 316, 3)) (d10 : decode cc (pc + 10) = .ok (.athrow, 1))
    (hout : ∀ x ∈ c.exceptionTable.toList, covers x (pc + 10) = false)
    (hRframes : 5 < R.frames) (hRlocals : (rest.map fun v => v.category).sum + 82 ≤ R.locals) (hRcells : cells + 1 ≤ R.cells) (hRslots : slots + 6 ≤ R.slots) (hlocks : meth.locks = false)
    (hx : ∀ t : State, s.vm.Alike t.vm → H.size ≤ t.heap.size → (∀ q : Nat, q < H.size → t.heap[q]? = H[q]?) → XC xn s t)
    (hf : ∀ z ∈ locs, free z.base) (hc : cells + 1 ≤ mc) (hs : slots + 6 ≤ ms) :
    W p l e R s m args below meth c H locs cells slots (vx_MQ below Qc XC args s mc ms free) (F0 m pc ls rest) := by
  intro T hT X
  have htr : e.platform.stackTraces = false := (show e.platform.stackTraces = l.stackTraces by rw [X.admits.platform]).trans hl
  have Y := vx_rebase X (R' := { frames := R.frames, locals := R.locals, cells := 1, slots := 6 }) (Nat.le_refl _) (Nat.le_refl _) hRcells hRslots
  obtain ⟨s', hA⟩ : ∃ z, z = (T.setVm s.vm).setFrames (.invoking m args :: below) := ⟨_, rfl⟩
  rw [← hA] at Y
  have hvm : s'.vm = s.vm := by rw [hA]; rfl
  have hhp : s'.heap = H := by rw [hA]; exact hT
  have hW0 : s.WarmedH s'.vm := by rw [hvm]; exact State.WarmedH.refl s
  have hts' : ∀ w ∈ wG, w.before args s' = true := fun w hw => word_at hW0 (good_of_word (List.mem_filter.mp hw).2) (hts w hw)
  have hLT' : LT A s' s'.heap := hLT.call hS hW0 hhp (fun _ z => z)
  have hown' : s'.vm.findClass "RoarMill" = some m.cls := by rw [hvm]; exact hown
  have hall0 := hLT'.words hts'
  have hins : (Cond.instantiable xn 6).before args s' = true := hall0 _ (by simp [xA0, xA1])
  obtain ⟨vm₁, cX, kX, hfX, hkX, -, -, X₁, st1⟩ := Y.newCold hexec (own := "RoarMill") (C := xn) (index := 312) (n := 6) hown' (hts' _ xk312) hins (hts' _ xini)
    (g := F0 m pc ls rest) rfl (by rw [hb]; exact d0) (Nat.le_refl _) (Nat.le_refl _)
  generalize hT1 : (T.setVm vm₁).pushCell { cls := cX, slots := kX.instanceTypes.map defaultValue, vm := .none } = T1 at X₁ st1
  have hcat : (Value.ref T.heap.size).category = 1 := rfl
  have hcellA : T1.heap[T.heap.size]? = some (freshCell cX kX) := by rw [← hT1]; exact State.heap_pushCell_size _ _
  have d3' : decode c.code (pc + 3) = .ok (.dup, 1) := by rw [hb]; exact d3
  have d4' : decode c.code (pc + 4) = .ok (.ldc_w 314, 3) := by rw [hb]; exact d4
  have hstr' : vk_R "RoarMill" 314 text sa s' := vk_R.warm hW0 hstr
  obtain ⟨U, hsteps, hrun, hend, hW, hsame, ce, hce, hcv, hcn⟩ := xt_throw X₁ hexec htr hown' hall0 (vx_isRefq hLT'.1.1) (vx_isRefq hLT'.2.1.1) (fun x hx => nomatch hx) hfX hkX hcellA (by rw [hhp, hT]; exact Nat.le_refl _) (msg := .ref sa) rfl
    (g := { method := m, pc := pc + 7, locals := ls, stack := .ref sa :: .ref T.heap.size :: .ref T.heap.size :: rest, locked := none }) rfl hsize rfl rfl (rest := rest) rfl
    (by rw [hb]; exact d7) (by rw [hb]; exact d10) hout hRframes (by simp only [List.map_cons, List.sum_cons, hcat]; exact (show 2 * 0 + (1 + (rest.map fun v => v.category).sum) + 81 ≤ R.locals by omega)) hlocks
  obtain ⟨f1, f2⟩ := vx_frame hsame
  rw [hhp] at f1 f2
  have hWs : s.WarmedH U.vm := State.WarmedH.trans hW0 hW
  have hcl : s.vm.findClass xn = some ce.cls := by
    rw [hvm] at hcn
    exact hcn
  have hall : s.sameButNew ({ U with vm := s.vm } : State) locs mc ms := by
    subst hA
    obtain ⟨e1, e2⟩ := hsame
    rw [State.setFrames_setFrames] at e1
    have h2 : (T.setVm s.vm).sameButNew ({ U with vm := s.vm } : State) [] (0 + 1) (0 + 6) := ⟨e1, e2⟩
    have h3 := X.same.trans h2
    rw [List.append_nil] at h3
    exact h3.mono hc hs
  refine ⟨U, ?_, .threw T.heap.size, hrun, hend, Or.inr ⟨T.heap.size, rfl, xn, ce, locs, hx U hWs.alike f1 (fun q hq => f2 q hq (fun z hz => nomatch hz)), hce, hcv, hcl, hWs, hall, hf⟩⟩
  refine st1 _ ?_
  show Steps p.tables e below (T1.setTop { method := m, pc := pc + 3, locals := ls, stack := .ref T.heap.size :: rest, locked := none }) _
  jvm_step X₁.here [X₁.here.top, hexec, d3', Value.category]
  exact X₁.ldcStringW hexec (own := "RoarMill") (text := text) (index := 314) (a := sa) hown' hstr'.1 hstr'.2
    (g := { method := m, pc := pc + 4, locals := ls, stack := .ref T.heap.size :: .ref T.heap.size :: rest, locked := none }) rfl d4' _ hsteps
end XR
def PPT (D : va_G) (cy : Nat → ClassId) (ad : (Nat → Nat) × (Nat → Nat)) (sz : Nat) (P : List Nat) (K : Nat → Nat) (I : Nat → Nat → Int32) (O : Nat → Nat → Option Nat) (J : Nat → Nat → Int64) (av : List Value) : Array Value → State → Prop := fun a U => PP D cy ad sz P K I O J av a U ∧ LT (va_A (pw cy P K I O J) sz) U U.heap
theorem PPT.blind {D : va_G} {cy : Nat → ClassId} {ad : (Nat → Nat) × (Nat → Nat)} {sz : Nat} {P : List Nat} {K : Nat → Nat} {I : Nat → Nat → Int32} {O : Nat → Nat → Option Nat} {J : Nat → Nat → Int64} {av : List Value} : FrameBlind (PPT D cy ad sz P K I O J av) := by
  intro a U g mk q
  exact ⟨PP.blind _ _ _ _ q.1, q.2.same rfl⟩
/-- the contract of a method that may end by led's throw -/
def ConT (y : MethodName) (cc : ByteArray) (nL : Nat) (rt : Option FieldType) (rm : Room) (P : List Nat) (K : Nat → Nat) (I : Nat → Nat → Int32) (O : Nat → Nat → Option Nat) (J : Nat → Nat → Int64) (av : List Value) (post : PST) : Prop := ∀ (l : Launch), l.stackTraces = false → ∀ (D : va_G) (cy : Nat → ClassId) (ad : AD) (sz : Nat), vx_Met l y (Cond.code y cc nL rt :: wG) rm (PPT D cy ad sz P K I O J av) (QQ D cy post (va_A (pw cy P K I O J) sz)) (XN D cy (pw cy P K I O J) (va_A (pw cy P K I O J) sz)) rm.cells rm.slots (va_A (pw cy P K I O J) sz)
section LB
variable {X : CTX} {rm : Room} {P : List Nat} {K : Nat → Nat} {I : Nat → Nat → Int32} {O : Nat → Nat → Option Nat} {J : Nat → Nat → Int64}
theorem led_walk (C : Cx X bRM_led 2 "RoarMill" rm) (hV : IV P K I O) {a0 : Nat} (h0 : a0 ∈ P ∧ K a0 = 8) {x1 : Int32} (kt : GG X 2 P K I O J 0 0 21 [(0, .ref a0), (1, .int x1)] []) (kr : ∀ v, GG X 2 P K I O J 0 0 38 [(0, .ref a0), (1, .int x1)] [.int v]) : GG X 2 P K I O J 0 0 0 [(0, .ref a0), (1, .int x1)] [] := by
  refine g_iload_n C dRM_led_0 rfl ?_
  refine gt_if_lt 21 C dRM_led_1 (by decide) rfl (fun c1 => kt) (fun c1 => ?_)
  refine g_iload_n C dRM_led_4 rfl ?_
  refine g_aload_n C dRM_led_5 rfl ?_
  refine g_geti C dRM_led_6 fl_RM_309 h0 ?_
  refine gt_icmp_ge 21 C dRM_led_9 (by decide) rfl rfl (fun c9 => kt) (fun c9 => ?_)
  refine g_iload_n C dRM_led_12 rfl ?_
  refine g_aload_n C dRM_led_13 rfl ?_
  refine gt_getr C dRM_led_14 fl_RM_78 h0 hV.1 rfl (fun b q hb => ?_)
  refine gt_alen C dRM_led_17 hb (by decide) (by decide) (by decide) (n := 240) rfl (fun z e => ?_)
  refine gt_icmp_lt 32 C dRM_led_18 (by decide) rfl e (fun c18 => ?_) (fun c18 => kt)
  refine g_aload_n C dRM_led_32 rfl ?_
  refine gt_getS C dRM_led_33 fl_RM_78 h0 q ?_
  refine g_iload_n C dRM_led_36 rfl ?_
  refine gt_iald C dRM_led_37 hb (by decide) rfl rfl (n := 240) rfl (by omega) ?_
  exact kr _
end LB
theorem cRM_led {P : List Nat} {K : Nat → Nat} {I : Nat → Nat → Int32} {O : Nat → Nat → Option Nat} {J : Nat → Nat → Int64} (hV : IV P K I O) {a0 : Nat} (h0 : a0 ∈ P ∧ K a0 = 8) {x1 : Int32} : ConT yRM_led bRM_led 2 (some .int) ({ frames := 6, cells := 1, slots := 6, locals := 82 } : Room) P K I O J [.ref a0, .int x1] (SPo frP 1 tt P K I O J) := by
  intro l hlt D cy ad sz
  refine vx_ofW (cc := bRM_led) (maxL := 2) (ret := some .int) mfRM_led.2.2.1 rfl ?_
  intro p e s m args below meth c s₁ B hml htb hv
  obtain ⟨⟨rfl, hsz, hP, hK, hD0, hSC⟩, hLT⟩ := hv
  have hts := atoms_spec (ws := Cond.code yRM_led bRM_led 2 (some .int) :: wG) B.pre
  have hown : s.vm.findClass "RoarMill" = some m.cls := findClass_of_methodNamed B.named
  subst hsz
  have hD := hD0.self (sz := s.heap.size)
  have hl := lv_entry [.ref a0, .int x1] (n := 2) (Nat.le_of_ble_eq_true rfl)
  rw [lg_entry_eq]
  have C1 : ∀ Q, Cx (p, l, e, (headSpec (Cond.code yRM_led bRM_led 2 (some .int) :: wG) ({ frames := 6, cells := 1, slots := 6, locals := 82 } : Room)).room, s, m, ([.ref a0, .int x1] : List Value).toArray, below, meth, c, Q, va_A (pw cy P K I O J) s.heap.size, D, cy, ad) bRM_led 2 "RoarMill" ({ frames := 6, cells := 1, slots := 6, locals := 82 } : Room) := fun Q => ⟨⟨B.exec, B.bytes, hml, hown, fun w hw => hts w (List.mem_cons_of_mem _ hw)⟩, hK, fun q h => Or.inr h, B.notSynchronized, hSC, rfl⟩
  refine led_walk (C1 _) hV h0 (x1 := x1) ?_ ?_ _ s.heap [] hl hP hD va_S.rf
  · intro ls H locs hl hP hD hS
    refine xt_row (A := va_A (pw cy P K I O J) s.heap.size) B.exec B.bytes hlt hown (fun w hw => hts w (List.mem_cons_of_mem _ hw)) (hSC.2.1 15 _ rfl) hLT hS (hl.1.trans hml.symm) dRM_led_21 dRM_led_24 dRM_led_25 dRM_led_28 dRM_led_31 (fun x hx => absurd hx (htb x)) (by decide) (by decide) (by decide) (by decide) B.notSynchronized ?_ hS.2.2 (Nat.le_refl _) (Nat.le_refl _)
    intro t hal hz hq
    exact ⟨rfl, hP.kept (fun k q hk => hq q.1 ((hP k q hk).lt)), va_K.moved hal hK, Nat.le_trans hS.1 hz, fun q h1 h2 => by rw [hq q (Nat.lt_of_lt_of_le h1 hS.1)]; exact hS.2.1 q h1 h2⟩
  · intro v ls H locs hl hP hD hS
    exact vx_ret (g_iret (C1 _) ⟨rfl, B.returns⟩ dRM_led_38 (Nat.zero_le _) (Nat.zero_le _) (post := SPo frP 1 tt P K I O J) ⟨rfl, rfl, rfl, hV, FR.rf, v, rfl, trivial⟩ ls H locs hl hP hD hS)
theorem mt_ofWH {l : Launch} {y : MethodName} {ws ws' : List Cond} {rm : Room} {Pc : Array Value → State → Prop} {Qc : Array Value → State → Outcome → State → Prop} {mc ms : Nat} {free : Addr → Prop} {cc : ByteArray} {maxL : Nat} {ret : Option FieldType} {hh : List (Nat × Nat × Nat × Nat)}
    (hy : plainName y.cls = true) (hw : ws = Cond.codeWith y cc maxL ret hh :: ws')
    (body : ∀ p e s m args below meth c s₁, BodyLoose p l y (headSpec ws rm) cc maxL ret e s m args below meth c s₁ → c.maxLocals = maxL → Pc args s →
      W p l e (headSpec ws rm).room s m args below meth c s.heap [] 0 0 (MQ below Qc args s mc ms free) (entryFrame m args maxL)) : Met l y ws rm Pc Qc mc ms free := by
  refine MetFree.of_bodyS (code := cc) (maxLocals := maxL) (ret := ret) hy ?_ ?_
  · intro args s m h hn
    obtain ⟨m9, meth, c, hn9, h1, h2, h3, h4, -, h5, h6, -⟩ := Cond.codeWith_spec (atoms_spec (ws := ws) h _ (by rw [hw]; exact List.mem_cons_self))
    cases hn.symm.trans hn9
    exact ⟨meth, c, h1, h2, h3, h4, h5, h6⟩
  · intro p e s m args below meth c s₁ B hml hP _
    have hh0 : s₁.heap = s.heap := by rw [B.state]; rfl
    obtain ⟨t, a1, o, b1, b2, b3⟩ := body p e s m args below meth c s₁ B hml hP s₁ hh0 (Stand.of_body B)
    exact ⟨t, o, a1, b1, b2, b3⟩
/-- a method's throw arrives in this context at pc -/
def TH (X : CTX) (nL : Nat) (P : List Nat) (K : Nat → Nat) (I : Nat → Nat → Int32) (O : Nat → Nat → Option Nat) (J : Nat → Nat → Int64) (nc ns pc : Nat) (L : List (Nat × Value)) (st : List Value) : Prop := match X with
  | (p, l, e, R, s, m, args, below, meth, c, Q, A, D, cy, _) => ∀ (ls : Array Slot) (H : Heap) (locs : List Loc) (q : Nat) (ce : Cell), lv_has ls nL L → va_P D cl (pw cy P K I O J) H → va_D A (pw cy P K I O J) → va_S A s.heap H locs → H[q]? = some ce → ce.vm = .none → s.vm.findClass xn = some ce.cls → vx_W p l e R s m args below meth c H locs nc ns Q (F0 m pc ls st) q
/-- the launch makes no traces, and what a throw reads lies there -/
def LX (X : CTX) : Prop := match X with
  | (_, l, _, _, s, _, _, _, _, _, _, A, _, _, _) => l.stackTraces = false ∧ LT A s s.heap
section CALLT
variable {X : CTX} {cc : ByteArray} {nL : Nat} {own : String} {rm : Room} {P : List Nat} {K : Nat → Nat} {I : Nat → Nat → Int32} {O : Nat → Nat → Option Nat} {J : Nat → Nat → Int64} {nc ns pc : Nat} {L : List (Nat × Value)} {st : List Value}
theorem g_callT {idx n nL' a κ : Nat} {y : MethodName} {cc' : ByteArray} {rt' : Option FieldType} {rm' : Room} {post : PST} {av : List Value} {rest : List Value} (C : Cx X cc nL own rm) (hLX : LX X) (d : decode cc pc = .ok (.invokevirtual idx, 3)) (hm : MF y cc' nL' rt' n) (hv : MV y) (hl0 : Cond.methodLink own idx y ∈ wG) (ha : a ∈ P ∧ K a = κ) (hκ : κ < 11) (hcn : cN κ = y.cls) (hc : ConT y cc' nL' rt' rm' P K I O J (.ref a :: av) post) (hn : av.length = n) (hst : st = av.reverse ++ .ref a :: rest) (hw : (rest.map fun v => v.category).sum ≤ 8) (hR' : rm'.frames + 1 ≤ rm.frames ∧ 8 + (nL' + 11) + rm'.locals ≤ rm.locals) (hro : nc + rm'.cells ≤ rm.cells ∧ ns + rm'.slots ≤ rm.slots)
    (kx : TH X nL P K I O J (nc + rm'.cells) (ns + rm'.slots) pc L rest)
    (k : ∀ (r : Option Value) (P' : List Nat) (K' : Nat → Nat) (I' : Nat → Nat → Int32) (O' : Nat → Nat → Option Nat) (J' : Nat → Nat → Int64), post r P' K' I' O' J' → GG X nL P' K' I' O' J' (nc + rm'.cells) (ns + rm'.slots) (pc + 3) L (r.toList ++ rest)) : GG X nL P K I O J nc ns pc L st := by
  have hrc := RC.pool (I := I) (O := O) (J := J) C ha hκ hcn
  obtain ⟨p, l, e, R, s, m, args, below, meth, c, Q, A, D, cy, ad⟩ := X
  obtain ⟨⟨hx, hb, hml, hown, hts⟩, hK, hA, hlk, hSC, hR⟩ := C
  obtain ⟨hlt, hLT⟩ := hLX
  subst hR
  intro ls H locs hl hP hD hS T hT X0
  have hFr : ∀ q, va_A (pw cy P K I O J) H.size q → A q := by
    rintro q (⟨k1, e1, h1⟩ | h1)
    · exact hD.2 k1 (q, e1) h1
    · exact hA q (Nat.le_trans hS.1 h1)
  have hp : PreV s H y.cls a (PPT D cy ad H.size P K I O J (.ref a :: av)) av := by
    refine ⟨PPT.blind, ?_, fun U hU hW => ⟨⟨rfl, by rw [hU], by rw [hU]; exact hP, va_K.moved hW.alike hK, hD.weaken (fun _ _ _ _ => trivial), hSC.call hS hW hU hFr⟩, hLT.call hS hW hU hFr⟩⟩
    exact hrc H locs hP hS
  have hcb := hm.1
  have hgd := wG_in2 hcb
  have hpm : ∀ sig, parseMethodDescriptor y.desc = some sig → n = sig.parameters.length := fun sig hs => by have := hm.2.2.2.2; rw [hs] at this; exact (Option.some.inj this).symm
  have hws : ∀ w ∈ (Cond.code y cc' nL' rt' :: wG), ∀ (a' : Array Value) (U : State), s.WarmedH U.vm → w.before a' U = true := pay_in hts hgd
  have hr := vx_runV (locs := locs) (cells := nc) (slots := ns) (e := e) (below := below) (meth := meth) (As := av) (rest := rest) (g := F0 m pc ls st) ⟨hx, hb, hml, hown, hts⟩ (hc l hlt D cy ad H.size) ⟨⟨rfl, rfl, hR'.1, hR'.2, hws, List.mem_cons_self, hts _ hcb, hts _ hm.2.1, hm.2.2.2.1, hpm, hts _ hl0⟩, hts _ hv.1, hts _ hv.2⟩ hp rfl hn hl.1 hst (lv_room hw) d hro
  rcases hr T hT X0 with ⟨v, st₀, t, T', Lc, h0, X', hL, e1, e2, ⟨⟨r, P', K', I', O', J', hv, hp, hP1, hK1, hD1⟩, hz, hk⟩, stp⟩ | ⟨q, st₀, t, T', Lc, E, ce, h0, X', hL, e1, e2, ⟨rfl, hP1, hK1, hz, hk⟩, hce, hcv, hcl, stp⟩
  · cases hv
    rw [h0] at hz hk
    have hw := k v P' K' I' O' J' hp ls T'.heap (locs ++ Lc) hl (by rw [e1]; exact hP1) (hD1.weaken (fun _ q _ h => hFr q.1 h)) ⟨Nat.le_trans hS.1 (by rw [e1]; exact hz), fun q h1 h2 => by rw [e1, hk q (Nat.lt_of_lt_of_le h1 hS.1) (fun z => h2 (hFr q z))]; exact hS.2.1 q h1 h2, fun q hq => by
      rcases List.mem_append.mp hq with h | h
      · exact hS.2.2 q h
      · exact hFr _ (hL q h)⟩
    obtain ⟨t2, a1, b1⟩ := hw T' rfl X'
    exact ⟨t2, stp t2 a1, b1⟩
  · rw [h0] at hz hk
    have hw := kx ls T'.heap (locs ++ Lc) q ce hl (by rw [e1]; exact hP1) hD ⟨Nat.le_trans hS.1 (by rw [e1]; exact hz), fun q h1 h2 => by rw [e1, hk q (Nat.lt_of_lt_of_le h1 hS.1) (fun z => h2 (hFr q z))]; exact hS.2.1 q h1 h2, fun q hq => by
      rcases List.mem_append.mp hq with h | h
      · exact hS.2.2 q h
      · exact hFr _ (hL q h)⟩ (by rw [e1]; exact hce) hcv hcl
    obtain ⟨t2, a1, b1⟩ := hw T' rfl X'
    exact ⟨t2, stp.trans a1, b1⟩
theorem g_catch (x : ExceptionTableEntry) {i : Nat} (C : Cx X cc nL own rm) (hLX : LX X) (ht : (match X with | (_, _, _, _, _, _, _, _, _, c, _, _, _, _, _) => c.exceptionTable.toList = [x])) (hx : covers x pc = true) (hi : x.catchType = i) (h0 : i ≠ 0) (hl0 : Cond.classLink own i xn ∈ wG) (k : ∀ q : Nat, GG X nL P K I O J nc ns x.handlerPc L [.ref q]) : TH X nL P K I O J nc ns pc L st := by
  subst hi
  obtain ⟨p, l, e, R, s, m, args, below, meth, c, Q, A, D, cy, ad⟩ := X
  obtain ⟨⟨hx1, hb, hml, hown, hts⟩, hK, hA, hlk, hSC, hR⟩ := C
  intro ls H locs q ce hl hP hD hS hce hcv hcl
  have hct : (Cond.castable xn xn).before args s = true := va_Nw.use (A := args) rfl (hLX.2.2.2 (.castable xn xn) (by simp [xD]))
  exact ca_catch hown x ht hx h0 (hts _ hl0) hct hce hcv hcl (k q ls H locs hl hP hD hS)
end CALLT
abbrev bLw_led : ByteArray := method_3_code
def yLw_led : MethodName := ⟨"RoarMillLaw", "led", "(LRoarMill;I[J)I"⟩
theorem dLw_led_0 : decode bLw_led 0 = .ok (.aload_n 2, 1) := by decide +kernel
theorem dLw_led_1 : decode bLw_led 1 = .ok (.iconst 0, 1) := by decide +kernel
theorem dLw_led_2 : decode bLw_led 2 = .ok (.aload_n 0, 1) := by decide +kernel
theorem dLw_led_3 : decode bLw_led 3 = .ok (.iload_n 1, 1) := by decide +kernel
theorem dLw_led_4 : decode bLw_led 4 = .ok (.invokevirtual 7, 3) := by decide +kernel
theorem dLw_led_7 : decode bLw_led 7 = .ok (.i2l, 1) := by decide +kernel
theorem dLw_led_8 : decode bLw_led 8 = .ok (.lastore, 1) := by decide +kernel
theorem dLw_led_9 : decode bLw_led 9 = .ok (.goto 6, 3) := by decide +kernel
theorem dLw_led_12 : decode bLw_led 12 = .ok (.astore_n 3, 1) := by decide +kernel
theorem dLw_led_13 : decode bLw_led 13 = .ok (.iconst 1, 1) := by decide +kernel
theorem dLw_led_14 : decode bLw_led 14 = .ok (.ireturn, 1) := by decide +kernel
theorem dLw_led_15 : decode bLw_led 15 = .ok (.iconst 0, 1) := by decide +kernel
theorem dLw_led_16 : decode bLw_led 16 = .ok (.ireturn, 1) := by decide +kernel
abbrev hLw_led : List (Nat × Nat × Nat × Nat) := [(0, 9, 12, 13)]
theorem wLw_code : Cond.codeWith yLw_led bLw_led 4 (some .int) hLw_led ∈ wG := wG_p5 50 rfl (by decide +kernel)
theorem wLw_stat : Cond.static yLw_led ∈ wG := wG_ix 1009 (by decide +kernel) (by decide +kernel)
theorem wLw_link : Cond.methodLink "RoarMillLaw" 132 yLw_led ∈ wG := wG_of (by decide +kernel) (by decide +kernel)
theorem wLw_k13 : Cond.classLink "RoarMillLaw" 13 xn ∈ wG := wG_of (by decide +kernel) (by decide +kernel)
theorem wLw_7 : Cond.methodLink "RoarMillLaw" 7 yRM_led ∈ wG := wG_p5 52 (by decide +kernel) (by decide +kernel)
theorem wLw_ini : Cond.initialized "RoarMillLaw" ∈ wG := wG_of (by decide +kernel) (by decide +kernel)
def ConH (y : MethodName) (cc : ByteArray) (nL : Nat) (rt : Option FieldType) (hh : List (Nat × Nat × Nat × Nat)) (rm : Room) (P : List Nat) (K : Nat → Nat) (I : Nat → Nat → Int32) (O : Nat → Nat → Option Nat) (J : Nat → Nat → Int64) (av : List Value) (post : PST) : Prop := ∀ (l : Launch), l.stackTraces = false → ∀ (D : va_G) (cy : Nat → ClassId) (ad : AD) (sz : Nat), Met l y (Cond.codeWith y cc nL rt hh :: wG) rm (PPT D cy ad sz P K I O J av) (QQ D cy post (va_A (pw cy P K I O J) sz)) rm.cells rm.slots (va_A (pw cy P K I O J) sz)
theorem cLw_led {P : List Nat} {K : Nat → Nat} {I : Nat → Nat → Int32} {O : Nat → Nat → Option Nat} {J : Nat → Nat → Int64} (hV : IV P K I O) {a0 a2 : Nat} (h0 : a0 ∈ P ∧ K a0 = 8) (h2 : a2 ∈ P ∧ K a2 = 48) {x1 : Int32} : ConH yLw_led bLw_led 4 (some .int) hLw_led ({ frames := 7, cells := 1, slots := 6, locals := 103 } : Room) P K I O J [.ref a0, .int x1, .ref a2] (SPo (frL [48]) 1 tt P K I O J) := by
  intro l hlt D cy ad sz
  refine mt_ofWH (cc := bLw_led) (maxL := 4) (ret := some .int) (hh := hLw_led) (by decide +kernel) rfl ?_
  intro p e s m args below meth c s₁ B hml hv
  obtain ⟨⟨rfl, hsz, hP, hK, hD0, hSC⟩, hLT⟩ := hv
  have hts := atoms_spec (ws := Cond.codeWith yLw_led bLw_led 4 (some .int) hLw_led :: wG) B.pre
  have htab : c.exceptionTable.toList = tableOf hLw_led := vx_table (x := yLw_led) B (hts _ List.mem_cons_self)
  have hown : s.vm.findClass "RoarMillLaw" = some m.cls := findClass_of_methodNamed B.named
  subst hsz
  have hD := hD0.self (sz := s.heap.size)
  have hl := lv_entry [.ref a0, .int x1, .ref a2] (n := 4) (Nat.le_of_ble_eq_true rfl)
  rw [lg_entry_eq]
  generalize hX : ((p, l, e, (headSpec (Cond.codeWith yLw_led bLw_led 4 (some .int) hLw_led :: wG) ({ frames := 7, cells := 1, slots := 6, locals := 103 } : Room)).room, s, m, ([.ref a0, .int x1, .ref a2] : List Value).toArray, below, meth, c, MQ below (QQ D cy (SPo (frL [48]) 1 tt P K I O J) (va_A (pw cy P K I O J) s.heap.size)) ([.ref a0, .int x1, .ref a2] : List Value).toArray s 1 6 (va_A (pw cy P K I O J) s.heap.size), va_A (pw cy P K I O J) s.heap.size, D, cy, ad) : CTX) = X
  have C : Cx X bLw_led 4 "RoarMillLaw" ({ frames := 7, cells := 1, slots := 6, locals := 103 } : Room) := by
    subst hX
    exact ⟨⟨B.exec, B.bytes, hml, hown, fun w hw => hts w (List.mem_cons_of_mem _ hw)⟩, hK, fun q h => Or.inr h, B.notSynchronized, hSC, rfl⟩
  have E : Rx X (some .int) (SPo (frL [48]) 1 tt P K I O J) ({ frames := 7, cells := 1, slots := 6, locals := 103 } : Room) := by
    subst hX
    exact ⟨rfl, B.returns⟩
  have hLX : LX X := by
    subst hX
    exact ⟨hlt, hLT⟩
  have hg : GG X 4 P K I O J 0 0 0 [(0, .ref a0), (1, .int x1), (2, .ref a2)] [] := by
    refine g_aload_n C dLw_led_0 rfl ?_
    refine g_iconst (v := 0) C dLw_led_1 (by decide) ?_
    refine g_aload_n C dLw_led_2 rfl ?_
    refine g_iload_n C dLw_led_3 rfl ?_
    refine g_callT (av := [.int x1]) (rest := [.int 0, .ref a2]) C hLX dLw_led_4 mfRM_led mvRM_led wLw_7 h0 (by decide) rfl (cRM_led hV h0) rfl rfl (Nat.le_of_ble_eq_true rfl) ⟨by decide, by decide⟩ ⟨by decide, by decide⟩ ?_ ?_
    · refine g_catch ⟨0, 9, 12, 13⟩ (i := 13) C hLX (by subst hX; exact htab) rfl rfl (by decide) wLw_k13 (fun q => ?_)
      refine g_astore_n (i := 3) C dLw_led_12 rfl (by decide) ?_
      refine g_iconst (v := 1) C dLw_led_13 (by decide) ?_
      exact g_iret C E dLw_led_14 (by decide) (by decide) ⟨rfl, rfl, rfl, hV, FR.rf, _, rfl, trivial⟩
    · rintro r P' K' I' O' J' ⟨rfl, rfl, rfl, hV', hF, z, rfl, -⟩
      obtain ⟨rfl, rfl⟩ := hF.pure
      refine g_i2l C dLw_led_7 ?_
      refine gt_last (n := 1) C dLw_led_8 h2 (by decide) rfl (ii := 0) rfl rfl (by decide) (SV.rf (fr := frL [48]) hV) rfl (fun J1 eJ hV1 => ?_)
      refine g_goto 15 C dLw_led_9 (by decide) ?_
      refine g_iconst (v := 0) C dLw_led_15 (by decide) ?_
      exact g_iret C E dLw_led_16 (by decide) (by decide) ⟨rfl, rfl, rfl, hV1.1, hV1.2, _, rfl, trivial⟩
  subst hX
  exact hg _ s.heap [] hl hP hD va_S.rf
