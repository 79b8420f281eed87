def xn : String := "java/util/NoSuchElementException"
def xr : String := "java/lang/RuntimeException"
def xb : ByteArray := prog_20_method_4_code
theorem xb_0 : decode xb 0 = .ok (.aload_n 0, 1) := by decide +kernel
theorem xb_1 : decode xb 1 = .ok (.aload_n 1, 1) := by decide +kernel
theorem xb_2 : decode xb 2 = .ok (.invokespecial 13, 3) := by decide +kernel
theorem xb_5 : decode xb 5 = .ok (.return_, 1) := by decide +kernel
/-- the words of a throw in led: the constructor of its class calls by its place 13, the others by 7 -/
def xA1 : List Cond := [.methodLink "RoarMill" 316 (Bundle.initS xn), .instantiable xn 6, .castable xn xn, .selects xn Bundle.tFill0 Bundle.tFill0, .selects xn Bundle.tFill Bundle.tFill, .lays xn Bundle.tN "cause" "Ljava/lang/Throwable;", .lays xn Bundle.tN "stackTrace" Bundle.steD, .lays xn Bundle.tN "suppressedExceptions" Bundle.listD, .lays xn Bundle.tN "detailMessage" "Ljava/lang/String;", .fieldLink Bundle.tN 198 Bundle.tN "backtrace" "Ljava/lang/Object;", .lays Bundle.tN Bundle.tN "backtrace" "Ljava/lang/Object;", .lays xn Bundle.tN "backtrace" "Ljava/lang/Object;"]
def xA0 : List Cond := Bundle.passSAtoms xn xr 13 xb ++ (Bundle.chainSAtoms xr ["java/lang/Exception"] ++ (Bundle.throwableAtoms ++ (Bundle.throwableSAtoms ++ xA1)))
section XT
variable {p : Program} {l : Launch} {e : Env} {R : Room} {s : State} {m : MethodId} {args : Array Value} {below : List Frame} {meth : Method} {c : Code} {V : State} {locs : List Loc} {cells slots : Nat}
theorem xt_throw (X : Stand p l e R s m args below meth c V locs cells slots) (hexec : p.tables.exec = Jvm.exec) (htr : e.platform.stackTraces = false) (hown : s.vm.findClass "RoarMill" = some m.cls)
    (h : ∀ w ∈ xA0, w.before args s = true) (hU : (Cond.isRef (.static Bundle.tN "UNASSIGNED_STACK" Bundle.steD)).before args s = true) (hN : (Cond.isRef (.static Bundle.tN "SUPPRESSED_SENTINEL" Bundle.listD)).before args s = true)
    (hlocs : ∀ x ∈ locs, ∀ cell, s.heap[x.base]? = some cell → cell.vm.isStatics = false)
    {a : Addr} {cX : ClassId} {kX : Class} (hfX : s.vm.findClass xn = some cX) (hkX : s.vm.classes[cX]? = some kX) (hcell : V.heap[a]? = some (freshCell cX kX)) (hnew : s.heap.size ≤ a)
    {msg : Value} (hmsg : msg.isRef = true)
    {g : JFrame} (hg : g.method = m) (hsize : g.locals.size = c.maxLocals) (hlocked : g.locked = none) (hentered : g.entered = []) {rest : List Value} (hstack : g.stack = msg :: .ref a :: .ref a :: rest)
    (hd6 : decode c.code g.pc = .ok (.invokespecial 316, 3)) (hd9 : decode c.code (g.pc + 3) = .ok (.athrow, 1)) (hout : ∀ x ∈ c.exceptionTable.toList, covers x (g.pc + 3) = false)
    (hRf : 5 < R.frames) (hRl : 2 * g.monitorRoom + ((Value.ref a :: rest).map fun v => v.category).sum + 81 ≤ R.locals) (hlocks : meth.locks = false) :
    ∃ U : State, Steps p.tables e below (V.setTop g) U ∧ U.status = .running ∧ Ended U below (.threw a) ∧ s.WarmedH U.vm ∧ s.sameButNew ({ U with vm := s.vm } : State) locs cells slots ∧
      ∃ ce, U.heap[a]? = some ce ∧ ce.vm = .none ∧ s.vm.findClass xn = some ce.cls := by
  have howns : e.platform.frameOwnsMonitors = true := by rw [X.admits.platform]
  have hfin : e.platform.finalization = false := by rw [X.admits.platform]
  have hpl : e.platform.magicAccessors = ({} : Platform).magicAccessors := by rw [X.admits.platform]
  have e1 : ∀ w ∈ Bundle.passSAtoms xn xr 13 xb, w.before args s = true := fun w q => h w (List.mem_append_left _ q)
  have e2 : ∀ w ∈ Bundle.chainSAtoms xr ["java/lang/Exception"], w.before args s = true := fun w q => h w (List.mem_append_right _ (List.mem_append_left _ q))
  have e3 : ∀ w ∈ Bundle.throwableAtoms, w.before args s = true := fun w q => h w (List.mem_append_right _ (List.mem_append_right _ (List.mem_append_left _ q)))
  have e4 : ∀ w ∈ Bundle.throwableSAtoms, w.before args s = true := fun w q => h w (List.mem_append_right _ (List.mem_append_right _ (List.mem_append_right _ (List.mem_append_left _ q))))
  have e5 : ∀ w ∈ xA1, w.holds args s none s [] = true := fun w q => h w (List.mem_append_right _ (List.mem_append_right _ (List.mem_append_right _ (List.mem_append_right _ q))))
  obtain ⟨T, Z0, L, -, Y⟩ := ThrowableC.of_atoms (args := args) howns hfin hpl e3
  obtain ⟨Z, M, LZ, LM, hnZ⟩ := Init0T.ofS_atoms (args := args) hpl L Y e4
  obtain ⟨P2, Ps, hlen, L2, hLs, hP2, hlink2, hlinks⟩ := Bundle.chainS (args := args) hpl hnZ ["java/lang/Exception"] xr (by decide +kernel) (by decide +kernel) e2
  obtain ⟨P1, L1, hP1, hsup⟩ := PassC.ofS_atoms (args := args) (s := s) hpl (X := xn) (Y := xr) (by decide +kernel) (by decide +kernel) xb_0 xb_1 xb_2 xb_5 e1
  have hs1 : P1.sup = P2.m := Option.some.inj (hsup.symm.trans hP2)
  have hf1 : s.vm.findClass xn = some P1.m.cls := findClass_of_methodNamed hP1
  cases Option.some.inj (hfX.symm.trans hf1)
  have fill : ∀ (x : MethodName) (k : MethodId), x.cls ≠ "java/lang/invoke/MethodHandle" ∧ x.cls ≠ "java/lang/invoke/VarHandle" → s.methodNamed? x = some k → (Cond.selects xn x x).holds args s none s [] = true → selectMethod e.platform s.vm P1.m.cls k = .method k := by
    intro x k hx hk hq
    obtain ⟨c2, r2, m2, q1, q2, q3, q4, -⟩ := Cond.selects_spec hq
    cases Option.some.inj (q1.symm.trans hf1)
    cases Option.some.inj (q2.symm.trans (State.methodFound?_of_named hk hx))
    cases Option.some.inj (q3.symm.trans hk)
    rw [Launch.admits_selectMethod X.admits]; exact q4
  have hs0 := fill _ _ (by decide) Y.fill0 (e5 (.selects xn Bundle.tFill0 Bundle.tFill0) (by simp [xA1]))
  have hsF := fill _ _ (by decide) Y.fill (e5 (.selects xn Bundle.tFill Bundle.tFill) (by simp [xA1]))
  obtain ⟨c1, kX', hc1, hk, hord, -, -, -⟩ := Cond.instantiable_spec (e5 (.instantiable xn 6) (by simp [xA1]))
  cases Option.some.inj (hc1.symm.trans hf1)
  cases Option.some.inj (hkX.symm.trans hk)
  obtain ⟨cS, hcS, hiss⟩ := Y.statics
  obtain ⟨u0, hu0⟩ := Cond.staticRefV Y.unassigned L.unassignedStatic L.statics hcS hiss hU
  obtain ⟨sen, hsen⟩ := Cond.staticRefV Y.sentinel L.sentinelStatic L.statics hcS hiss hN
  obtain ⟨ciB, iB, fB, hkB, hgB, haB, hsB, -, hnB, htB, hffB⟩ := Cond.ownField (t := .object "java/lang/Object") Y.found L.cls (by decide +kernel) (e5 (.fieldLink Bundle.tN 198 Bundle.tN "backtrace" "Ljava/lang/Object;") (by simp [xA1])) (e5 (.lays Bundle.tN Bundle.tN "backtrace" "Ljava/lang/Object;") (by simp [xA1])) e.platform hpl
  obtain ⟨cellS, hcS', heS, -, hkeep⟩ := X.same.2.2.2.2.2 T.aS cS hcS
  have hcellS : V.heap[T.aS]? = some cellS := hcS'
  have hout' : ∀ i, (⟨T.aS, i⟩ : Loc) ∉ locs := fun i hm => by
    have q := hlocs _ hm cS hcS
    rw [hiss] at q; cases q
  have hkS : cellS.vm ≠ .unknown := by
    rw [heS]; intro hu
    rw [show cS.vm = .unknown from hu] at hiss
    cases hiss
  have hneS : T.aS ≠ a := Nat.ne_of_lt (Nat.lt_of_lt_of_le (Array.getElem?_eq_some_iff.mp hcS).1 hnew)
  obtain ⟨iM, hffM⟩ := Y.msg
  obtain ⟨tyC, dC, hdC, hdnC⟩ := Cond.laysAt hf1 hk Y.cause (e5 (.lays xn Bundle.tN "cause" "Ljava/lang/Throwable;") (by simp [xA1]))
  obtain ⟨tyS, dS, hdS, hdnS⟩ := Cond.laysAt hf1 hk Y.stack (e5 (.lays xn Bundle.tN "stackTrace" Bundle.steD) (by simp [xA1]))
  obtain ⟨tyP, dP, hdP, hdnP⟩ := Cond.laysAt hf1 hk Y.supp (e5 (.lays xn Bundle.tN "suppressedExceptions" Bundle.listD) (by simp [xA1]))
  obtain ⟨tyM, dM, hdM, hdnM⟩ := Cond.laysAt hf1 hk hffM (e5 (.lays xn Bundle.tN "detailMessage" "Ljava/lang/String;") (by simp [xA1]))
  obtain ⟨tyB, dB, hdB, hdnB⟩ := Cond.laysAt hf1 hk hffB (e5 (.lays xn Bundle.tN "backtrace" "Ljava/lang/Object;") (by simp [xA1]))
  have bC := Cond.laysApart hdB hdC hdnB hdnC (by rw [hnB, Y.causeName]; decide)
  have bS := Cond.laysApart hdB hdS hdnB hdnS (by rw [hnB, Y.stackName]; decide)
  have bP := Cond.laysApart hdB hdP hdnB hdnP (by rw [hnB, Y.suppName]; decide)
  have hskip : SkipFacts T e.platform s (fun u => u) u0 ((preparedCellV T.toThrowableT (freshCell P1.m.cls kX) a u0 sen).withEntry V.cur) :=
    ⟨{ ci198 := ciB, i198 := iB, fBack := fB }, ⟨hkB, hgB, haB, hsB⟩, by
      have q := fresh_default (c := P1.m.cls) tyB
      rw [htB] at q
      simpa [preparedCellV, Cell.setSlot, Cell.withEntry, Array.getElem?_setIfInBounds, bC, bS, bP, bC.symm, bS.symm, bP.symm, defaultValue] using q, fun _ _ => rfl⟩
  obtain ⟨tm, methC, cdC, kC, vm₁, hnC, -, -, -, -, -, -, -, hW₁, st1⟩ := Steps.initColdS (tb := p.tables) (e := e) (below := below) (s := s) (U := V) X.here hexec X.warmed hpl hown (t := Bundle.initS xn) rfl rfl (by decide +kernel)
    (e5 (.methodLink "RoarMill" 316 (Bundle.initS xn)) (by simp [xA1])) (e1 (.instanceMethod (Bundle.initS xn)) (by simp [Bundle.passSAtoms])) (bytes := xb) (maxL := 2) (e1 (.code (Bundle.initS xn) xb 2 none) (by simp [Bundle.passSAtoms]))
    (f := g) hg (a := a) (msg := msg) (rest := .ref a :: rest) hstack hd6
  cases Option.some.inj (hnC.symm.trans hP1)
  have X₁ := X.noted hW₁
  obtain ⟨vm₂, X₂, st2⟩ := X₁.ctorMessageOffV hexec (g := { g with stack := .ref a :: rest }) hg hsize T L Z LZ M LM (P1 :: P2 :: Ps)
    (fun P hP => by
      rcases List.mem_cons.mp hP with rfl | hP
      · exact L1
      · rcases List.mem_cons.mp hP with rfl | hP
        · exact L2
        · exact hLs P hP) ⟨hs1, hlink2, hlinks⟩ (u0 := u0) (sen := sen) (self := a) hmsg (cell := freshCell P1.m.cls kX) (cellS := cellS)
    hcell (fun _ => by simp) (by simp) rfl rfl hs0 hsF hcellS hneS hkS (by rw [hkeep _ (hout' _)]; exact hu0) (by rw [hkeep _ (hout' _)]; exact hsen)
    (Takes.of_laid hk hord tyC (by rw [Y.causeType]; rfl)) (Takes.of_laid hk hord tyS (by rw [Y.stackType]; exact fits_refV_array _ u0)) (Takes.of_laid hk hord tyP (by rw [Y.suppType]; exact fits_refV_object _ sen))
    (Takes.of_laid hk hord tyM (by rw [Y.msgType]; exact fits_refV_object _ ⟨msg, hmsg⟩)) Y.objLocals hskip htr [] hd6
    (by simp only [List.length_cons, hlen]; exact hRf) (by simp only [List.length_cons, hlen]; exact hRl)
  obtain ⟨hwalk, hrun, hended, hWU, hsame⟩ := X₂.athrowLeaves hexec (g := { g with stack := .ref a :: rest, pc := g.pc + 3 }) hg hlocked hentered hout (a := a) (rest := rest) rfl hd9
  have hlt : a < ((V.setVm vm₁).setVm vm₂).heap.size := (Array.getElem?_eq_some_iff.mp hcell).1
  refine ⟨_, st1 _ (fun acts => ?_), hrun, hended, hWU, hsame.weaken (fun y hy hlt' => ?_) (Nat.le_refl _) (Nat.le_refl _), _, heapAt_setCell_self (s := (V.setVm vm₁).setVm vm₂) (plainBareV T.toThrowableT (freshCell P1.m.cls kX) a u0 sen msg) hlt, rfl, hf1⟩
  · rw [doInvoke_state]
    exact st2 _ hwalk
  · rcases List.mem_append.mp hy with h1 | h1
    · exact h1
    · exfalso
      have hb : y.base = a := by
        simp only [List.mem_cons, List.not_mem_nil, or_false] at h1
        rcases h1 with rfl | rfl | rfl | rfl | rfl <;> rfl
      rw [hb] at hlt'
      exact Nat.not_lt.mpr hnew hlt'
end XT
def xD : List Cond := [.declares (Bundle.initS xr), .declares (Bundle.initS "java/lang/Exception"), .declares (Bundle.initS Bundle.tN), .castable xn xn]
def xL : List Cond := [.laysStatic Bundle.tN "UNASSIGNED_STACK" Bundle.steD, .laysStatic Bundle.tN "SUPPRESSED_SENTINEL" Bundle.listD]
theorem xA0_in : ∀ w ∈ xA0, (goodWord w = true ∧ w ∈ lw_tbl) ∨ w ∈ xD ∨ w ∈ xL := by decide +kernel
/-- what a throw of led reads beside the tables' good words -/
def LT (A : Nat → Prop) (U : State) (H : Heap) : Prop := vx_Zq Bundle.tN "UNASSIGNED_STACK" Bundle.steD A U H ∧ vx_Zq Bundle.tN "SUPPRESSED_SENTINEL" Bundle.listD A U H ∧ ∀ w ∈ xD, va_Nw w U
theorem xD_warm {s U : State} (hW : s.WarmedH U.vm) (h : ∀ w ∈ xD, va_Nw w s) : ∀ w ∈ xD, va_Nw w U := by
  intro w hw
  have hz := h w hw
  simp only [xD, List.mem_cons, List.not_mem_nil, or_false] at hw
  rcases hw with rfl | rfl | rfl | rfl
  · exact va_Nw.warmD hW hz
  · exact va_Nw.warmD hW hz
  · exact va_Nw.warmD hW hz
  · exact va_Nw.warmC hW hz
theorem LT.call {A B : Nat → Prop} {s U : State} {H : Heap} {locs : List Loc} (h : LT A s s.heap) (hS : va_S A s.heap H locs) (hW : s.WarmedH U.vm) (hU : U.heap = H) (hB : ∀ q, B q → A q) : LT B U U.heap := by
  rw [hU]
  exact ⟨((h.1.kept (fun a h1 h2 => hS.2.1 a h1 h2)).moved hW.alike).narrow hB, ((h.2.1.kept (fun a h1 h2 => hS.2.1 a h1 h2)).moved hW.alike).narrow hB, xD_warm hW h.2.2⟩
theorem LT.same {A : Nat → Prop} {s U : State} {H : Heap} (h : LT A s H) (hv : U.vm = s.vm) : LT A U H :=
  ⟨h.1.moved (by rw [hv]; exact Vm.Alike.refl _), h.2.1.moved (by rw [hv]; exact Vm.Alike.refl _), xD_warm (by rw [hv]; exact State.WarmedH.refl s) h.2.2⟩
theorem LT.words {A : Nat → Prop} {s : State} {args : Array Value} (h : LT A s s.heap) (hts : ∀ w ∈ wG, w.before args s = true) : ∀ w ∈ xA0, w.before args s = true := by
  intro w hw
  rcases xA0_in w hw with ⟨g, hq⟩ | hq | hq
  · exact hts w (wG_of hq g)
  · have hz := h.2.2 w hq
    simp only [xD, List.mem_cons, List.not_mem_nil, or_false] at hq
    rcases hq with rfl | rfl | rfl | rfl <;> exact va_Nw.use (A := args) rfl hz
  · simp only [xL, List.mem_cons, List.not_mem_nil, or_false] at hq
    rcases hq with rfl | rfl
    · exact h.1.2.word
    · exact h.2.1.2.word
