def clr {α : Type} (f : Nat → Nat → α) (q : Nat) (v : α) : Nat → Nat → α := fun b j => if b = q then v else f b j
def lab (K : Nat → Nat) (q κ : Nat) : Nat → Nat := fun b => if b = q then κ else K b
theorem clr_self {α : Type} (f : Nat → Nat → α) (q : Nat) (v : α) : clr f q v q = fun _ => v := by funext j; simp [clr]
theorem clr_ne {α : Type} (f : Nat → Nat → α) {q b : Nat} (v : α) (h : ¬ b = q) : clr f q v b = f b := by funext j; simp [clr, h]
theorem lab_self (K : Nat → Nat) (q κ : Nat) : lab K q κ q = κ := by simp [lab]
theorem lab_ne (K : Nat → Nat) {q κ b : Nat} (h : ¬ b = q) : lab K q κ b = K b := by simp [lab, h]
theorem cE_new {cy : Nat → ClassId} {K : Nat → Nat} {I : Nat → Nat → Int32} {O : Nat → Nat → Option Nat} {J : Nat → Nat → Int64} {q κ : Nat} : va_up (cE cy K I O J) q (cEr cy κ (fun _ => 0) (fun _ => none) (fun _ => 0)) = cE cy (lab K q κ) (clr I q 0) (clr O q none) (clr J q 0) := by
  funext b
  by_cases hb : b = q
  · subst hb
    rw [va_up_self]
    show _ = cEr cy (lab K b κ b) (clr I b 0 b) (clr O b none b) (clr J b 0 b)
    rw [lab_self, clr_self, clr_self, clr_self]
  · rw [va_up_ne _ _ hb]
    show cEr cy (K b) (I b) (O b) (J b) = cEr cy (lab K q κ b) (clr I q 0 b) (clr O q none b) (clr J q 0 b)
    rw [lab_ne _ hb, clr_ne _ _ hb, clr_ne _ _ hb, clr_ne _ _ hb]
theorem pw_fresh {A : Nat → Prop} {cy : Nat → ClassId} {P : List Nat} {K : Nat → Nat} {I : Nat → Nat → Int32} {O : Nat → Nat → Option Nat} {J : Nat → Nat → Int64} {q : Nat} {e : va_E} (hD : va_D A (pw cy P K I O J ++ [(q, e)])) : q ∉ P := by
  intro h
  obtain ⟨k, hk⟩ := va_pl_get (X := []) (f := cE cy K I O J) h
  have hk : (pw cy P K I O J)[k]? = some (q, cE cy K I O J q) := hk
  have hl := (List.getElem?_eq_some_iff.mp hk).1
  have h1 : (pw cy P K I O J ++ [(q, e)])[k]? = some (q, cE cy K I O J q) := by rw [List.getElem?_append_left hl]; exact hk
  have h2 : (pw cy P K I O J ++ [(q, e)])[(pw cy P K I O J).length]? = some (q, e) := by rw [List.getElem?_append_right (Nat.le_refl _), Nat.sub_self]; rfl
  have := hD.1 _ _ _ _ h1 h2 rfl
  omega
theorem pw_push {cy : Nat → ClassId} {P : List Nat} {K : Nat → Nat} {I : Nat → Nat → Int32} {O : Nat → Nat → Option Nat} {J : Nat → Nat → Int64} {q κ : Nat} (h : q ∉ P) : pw cy P K I O J ++ [(q, cEr cy κ (fun _ => 0) (fun _ => none) (fun _ => 0))] = pw cy (P ++ [q]) (lab K q κ) (clr I q 0) (clr O q none) (clr J q 0) := by
  show va_pl P (cE cy K I O J) ++ [(q, _)] = va_pl (P ++ [q]) (cE cy (lab K q κ) (clr I q 0) (clr O q none) (clr J q 0))
  rw [va_pl_push h, cE_new]
theorem new_dflt : ∀ κ, κ < 11 → ∀ j, j < nf κ → defaultValue (cY κ j) = vp_V ((List.range (nf κ)).map (fvr (fun _ => 0) (fun _ => none) (fun _ => 0) κ)) j := by decide +kernel
def NMX (X : CTX) (nm : String) : Prop := match X with
  | (_, _, _, _, _, _, _, _, meth, _, _, _, _, _, _) => meth.name = nm
theorem Con.ofI {y : MethodName} {cc : ByteArray} {nL n : Nat} {rt : Option FieldType} {rm : Room} {P : List Nat} {K : Nat → Nat} {I : Nat → Nat → Int32} {O : Nat → Nat → Option Nat} {J : Nat → Nat → Int64} {av : List Value} {post : PST} (hy : MF y cc nL rt n) (hav : (lg_sl av).length ≤ nL) (body : ∀ X, Cx X cc nL y.cls rm → Rx X rt post rm → NMX X y.name → GG X nL P K I O J 0 0 0 (lv_args 0 av) []) : Con y cc nL rt rm P K I O J av post := by
  intro l D cy ad sz
  refine Met.ofW (cc := cc) (maxL := nL) (ret := rt) hy.2.2.1 rfl ?_
  intro p e s m args below meth c s₁ B hml hv
  obtain ⟨rfl, hsz, hP, hK, hD0, hSC⟩ := hv
  have hts := atoms_spec (ws := Cond.code y cc nL rt :: wG) B.pre
  have hown : s.vm.findClass y.cls = some m.cls := findClass_of_methodNamed B.named
  have hnm : meth.name = y.name := (name_of_methodNamed B.named B.method).1
  subst hsz
  have hD := hD0.self (sz := s.heap.size)
  have hl := lv_entry av (n := nL) hav
  rw [lg_entry_eq]
  exact body (p, l, e, (headSpec (Cond.code y cc nL rt :: wG) rm).room, s, m, av.toArray, below, meth, c, MQ below (QQ D cy post (va_A (pw cy P K I O J) s.heap.size)) av.toArray s rm.cells rm.slots (va_A (pw cy P K I O J) s.heap.size), va_A (pw cy P K I O J) s.heap.size, D, cy, ad) ⟨⟨B.exec, B.bytes, hml, hown, fun w hw => hts w (List.mem_cons_of_mem _ hw)⟩, hK, fun q h => Or.inr h, B.notSynchronized, hSC, rfl⟩ ⟨rfl, B.returns⟩ hnm _ s.heap [] hl hP hD va_S.rf
section AROWS
variable {X : CTX} {cc : ByteArray} {nL : Nat} {own : String} {rm : Room} {P : List Nat} {K : Nat → Nat} {I : Nat → Nat → Int32} {O : Nat → Nat → Option Nat} {J : Nat → Nat → Int64} {nc ns pc : Nat} {L : List (Nat × Value)} {st : List Value}
theorem oi_inst : Cond.instanceMethod Lib.objectInit ∈ wG := wG_p1 27 (by decide +kernel) (by decide +kernel)
theorem oi_code : Cond.code Lib.objectInit ⟨#[0xb1]⟩ 1 none ∈ wG := wG_p1 28 rfl (by decide +kernel)
theorem oi_RM : Cond.methodLink "RoarMill" 3 Lib.objectInit ∈ wG := wG_p1 26 (by decide +kernel) (by decide +kernel)
theorem oi_Rd : Cond.methodLink "RoarMill$Reader" 3 Lib.objectInit ∈ wG := wG_p1 34 (by decide +kernel) (by decide +kernel)
theorem oi_Ml : Cond.methodLink "RoarMill$Mill" 3 Lib.objectInit ∈ wG := wG_p1 76 (by decide +kernel) (by decide +kernel)
theorem oi_Dr : Cond.methodLink "RoarMill$Drum" 3 Lib.objectInit ∈ wG := wG_p1 164 (by decide +kernel) (by decide +kernel)
theorem oi_Ld : Cond.methodLink "RoarMill$Load" 3 Lib.objectInit ∈ wG := wG_p1 170 (by decide +kernel) (by decide +kernel)
theorem oi_Gu : Cond.methodLink "RoarMill$Guesses" 5 Lib.objectInit ∈ wG := wG_p2 24 (by decide +kernel) (by decide +kernel)
theorem oi_Si : Cond.methodLink "RoarMill$Sight" 3 Lib.objectInit ∈ wG := wG_p2 43 (by decide +kernel) (by decide +kernel)
theorem oi_Pl : Cond.methodLink "RoarMill$Planner" 3 Lib.objectInit ∈ wG := wG_p2 76 (by decide +kernel) (by decide +kernel)
theorem oi_Tr : Cond.methodLink "RoarMill$Trial" 1 Lib.objectInit ∈ wG := wG_p2 117 (by decide +kernel) (by decide +kernel)
theorem oi_Mo : Cond.methodLink "RoarMillModel" 1 Lib.objectInit ∈ wG := wG_p5 126 (by decide +kernel) (by decide +kernel)
theorem oi_Mx : Cond.methodLink "RoarMillModel$Mill" 3 Lib.objectInit ∈ wG := wG_p6 16 (by decide +kernel) (by decide +kernel)
theorem ac_byte : Cond.arrayClass .byte ∈ wG := wG_p1 69 (by decide +kernel) (by decide +kernel)
theorem ac_int : Cond.arrayClass .int ∈ wG := wG_p1 158 (by decide +kernel) (by decide +kernel)
theorem ac_long : Cond.arrayClass .long ∈ wG := wG_p1 70 (by decide +kernel) (by decide +kernel)
theorem ac_boolean : Cond.arrayClass .boolean ∈ wG := wG_p2 37 (by decide +kernel) (by decide +kernel)
theorem kl_Lw_8 : Cond.classLink "RoarMillLaw" 8 "RoarMill" ∈ wG := wG_p1 21 (by decide +kernel) (by decide +kernel)
theorem kl_RM_9 : Cond.classLink "RoarMill" 9 "RoarMill$Reader" ∈ wG := wG_p1 29 (by decide +kernel) (by decide +kernel)
theorem kl_RM_16 : Cond.classLink "RoarMill" 16 "RoarMill$Mill" ∈ wG := wG_p1 71 (by decide +kernel) (by decide +kernel)
theorem kl_RM_26 : Cond.classLink "RoarMill" 26 "RoarMill$Drum" ∈ wG := wG_p1 159 (by decide +kernel) (by decide +kernel)
theorem kl_Dr_9 : Cond.classLink "RoarMill$Drum" 9 "RoarMill$Load" ∈ wG := wG_p1 165 (by decide +kernel) (by decide +kernel)
theorem kl_RM_40 : Cond.classLink "RoarMill" 40 "RoarMill$Guesses" ∈ wG := wG_p2 19 (by decide +kernel) (by decide +kernel)
theorem kl_Gu_19 : Cond.classLink "RoarMill$Guesses" 19 "RoarMill$Drum" ∈ wG := wG_p2 25 (by decide +kernel) (by decide +kernel)
theorem kl_RM_47 : Cond.classLink "RoarMill" 47 "RoarMill$Sight" ∈ wG := wG_p2 38 (by decide +kernel) (by decide +kernel)
theorem kl_RM_54 : Cond.classLink "RoarMill" 54 "RoarMill$Planner" ∈ wG := wG_p2 71 (by decide +kernel) (by decide +kernel)
theorem kl_Pl_9 : Cond.classLink "RoarMill$Planner" 9 "RoarMill$Drum" ∈ wG := wG_p2 77 (by decide +kernel) (by decide +kernel)
theorem kl_RM_61 : Cond.classLink "RoarMill" 61 "RoarMill$Trial" ∈ wG := wG_p2 112 (by decide +kernel) (by decide +kernel)
theorem kl_RM_68 : Cond.classLink "RoarMill" 68 "RoarMill$Load" ∈ wG := wG_p2 134 (by decide +kernel) (by decide +kernel)
theorem kl_Lw_16 : Cond.classLink "RoarMillLaw" 16 "RoarMillModel" ∈ wG := wG_p5 121 (by decide +kernel) (by decide +kernel)
theorem kl_Mo_177 : Cond.classLink "RoarMillModel" 177 "RoarMillModel$Mill" ∈ wG := wG_p6 11 (by decide +kernel) (by decide +kernel)
theorem ki_0 : Cond.instantiable "RoarMill$Drum" 17 ∈ wG := wG_p1 160 (by decide +kernel) (by decide +kernel)
theorem kn_0 : Cond.initialized "RoarMill$Drum" ∈ wG := wG_p1 4 (by decide +kernel) (by decide +kernel)
theorem ki_1 : Cond.instantiable "RoarMill$Guesses" 3 ∈ wG := wG_p2 20 (by decide +kernel) (by decide +kernel)
theorem kn_1 : Cond.initialized "RoarMill$Guesses" ∈ wG := wG_p1 6 (by decide +kernel) (by decide +kernel)
theorem ki_2 : Cond.instantiable "RoarMill$Load" 3 ∈ wG := wG_p1 166 (by decide +kernel) (by decide +kernel)
theorem kn_2 : Cond.initialized "RoarMill$Load" ∈ wG := wG_p1 5 (by decide +kernel) (by decide +kernel)
theorem ki_3 : Cond.instantiable "RoarMill$Mill" 15 ∈ wG := wG_p1 72 (by decide +kernel) (by decide +kernel)
theorem kn_3 : Cond.initialized "RoarMill$Mill" ∈ wG := wG_p1 3 (by decide +kernel) (by decide +kernel)
theorem ki_4 : Cond.instantiable "RoarMill$Planner" 10 ∈ wG := wG_p2 72 (by decide +kernel) (by decide +kernel)
theorem kn_4 : Cond.initialized "RoarMill$Planner" ∈ wG := wG_p1 8 (by decide +kernel) (by decide +kernel)
theorem ki_5 : Cond.instantiable "RoarMill$Reader" 10 ∈ wG := wG_p1 30 (by decide +kernel) (by decide +kernel)
theorem kn_5 : Cond.initialized "RoarMill$Reader" ∈ wG := wG_p1 2 (by decide +kernel) (by decide +kernel)
theorem ki_6 : Cond.instantiable "RoarMill$Sight" 8 ∈ wG := wG_p2 39 (by decide +kernel) (by decide +kernel)
theorem kn_6 : Cond.initialized "RoarMill$Sight" ∈ wG := wG_p1 7 (by decide +kernel) (by decide +kernel)
theorem ki_7 : Cond.instantiable "RoarMill$Trial" 5 ∈ wG := wG_p2 113 (by decide +kernel) (by decide +kernel)
theorem kn_7 : Cond.initialized "RoarMill$Trial" ∈ wG := wG_p1 9 (by decide +kernel) (by decide +kernel)
theorem ki_8 : Cond.instantiable "RoarMill" 17 ∈ wG := wG_p1 22 (by decide +kernel) (by decide +kernel)
theorem kn_8 : Cond.initialized "RoarMill" ∈ wG := wG_p1 1 (by decide +kernel) (by decide +kernel)
theorem ki_9 : Cond.instantiable "RoarMillModel$Mill" 18 ∈ wG := wG_p6 12 (by decide +kernel) (by decide +kernel)
theorem kn_9 : Cond.initialized "RoarMillModel$Mill" ∈ wG := wG_p1 15 (by decide +kernel) (by decide +kernel)
theorem ki_10 : Cond.instantiable "RoarMillModel" 37 ∈ wG := wG_p5 122 (by decide +kernel) (by decide +kernel)
theorem kn_10 : Cond.initialized "RoarMillModel" ∈ wG := wG_p1 10 (by decide +kernel) (by decide +kernel)
theorem g_objInit {idx a : Nat} (C : Cx X cc nL own rm) (d : decode cc pc = .ok (.invokespecial idx, 3)) (hl0 : Cond.methodLink own idx Lib.objectInit ∈ wG) (hw : (st.map fun v => v.category).sum ≤ 8) (hf : 1 ≤ rm.frames ∧ 20 ≤ rm.locals) (k : GG X nL P K I O J nc ns (pc + 3) L st) : GG X nL P K I O J nc ns pc L (.ref a :: st) := by
  obtain ⟨p, l, e, R, s, m, args, below, meth, c, Q, A, D, cy, ad⟩ := X
  obtain ⟨⟨hx, hb, hml, hown, hts⟩, hK, hA, hlk, hSC, hR⟩ := C
  subst hR
  intro ls H locs hl hP hD hS
  refine W.objInit hx hb hown (hts _ hl0) (hts _ oi_inst) (hts _ oi_code) rfl (by rw [hml]; exact hl.1) rfl d hf.1 (by have := lv_room (m := m) (pc := pc) (ls := ls) (rest := .ref a :: st) hw; omega) (k ls H locs hl hP hD hS)
theorem g_new {idx κ : Nat} (C : Cx X cc nL own rm) (d : decode cc pc = .ok (.new idx, 3)) (hκ : κ < 11) (hw : Cond.classLink own idx (cN κ) ∈ wG) (hi : Cond.instantiable (cN κ) (nf κ) ∈ wG) (hn : Cond.initialized (cN κ) ∈ wG) (hro : nc + 1 ≤ rm.cells ∧ ns + nf κ ≤ rm.slots) (k : ∀ q, q ∉ P → GG X nL (P ++ [q]) (lab K q κ) (clr I q 0) (clr O q none) (clr J q 0) (nc + 1) (ns + nf κ) (pc + 3) L (.ref q :: st)) : GG X nL P K I O J nc ns pc L st := by
  obtain ⟨p, l, e, R, s, m, args, below, meth, c, Q, A, D, cy, ad⟩ := X
  obtain ⟨⟨hx, hb, hml, hown, hts⟩, hK, hA, hlk, hSC, hR⟩ := C
  subst hR
  intro ls H locs hl hP hD hS
  refine va_new (ci := κ) hx hb hts (lays_in hκ) (cY κ) (ty_in κ hκ) hown (hts _ hw) (hts _ hi) (hts _ hn) hK hP hD hS hA (cl_at κ hκ) (new_dflt κ hκ) hro.1 hro.2 d (fun q H1 h1 h2 h3 => ?_)
  have hq := pw_fresh h2
  have e := pw_push (cy := cy) (K := K) (I := I) (O := O) (J := J) (κ := κ) hq
  rw [cEr_o hκ] at e
  rw [e] at h1 h2
  exact k q hq ls H1 locs hl h1 h2 h3
theorem g_newa {atype : ArrayType} {κ : Nat} {n : Int32} {ty : FieldType} (C : Cx X cc nL own rm) (d : decode cc pc = .ok (.newarray atype, 2)) (hκ : ¬ κ < 11) (hw : Cond.arrayClass (newarray.typeOf atype) ∈ wG) (hty : newarray.typeOf atype = ty) (hc : (aty κ = 0 ∧ ty = .byte) ∨ (aty κ = 1 ∧ ty = .int) ∨ (aty κ = 2 ∧ ty = .long) ∨ (aty κ = 3 ∧ ty = .boolean)) (hn : n.toInt = ((alen κ : Nat) : Int)) (hb0 : alen κ < 10000) (hro : nc + 1 ≤ rm.cells ∧ ns + alen κ ≤ rm.slots) (k : ∀ q, q ∉ P → GG X nL (P ++ [q]) (lab K q κ) (clr I q 0) (clr O q none) (clr J q 0) (nc + 1) (ns + alen κ) (pc + 2) L (.ref q :: st)) : GG X nL P K I O J nc ns pc L (.int n :: st) := by
  obtain ⟨p, l, e, R, s, m, args, below, meth, c, Q, A, D, cy, ad⟩ := X
  obtain ⟨⟨hx, hb, hml, hown, hts⟩, hK, hA, hlk, hSC, hR⟩ := C
  subst hR
  intro ls H locs hl hP hD hS
  have h0 : (0 : Int32).toInt = 0 := rfl
  have hbytes : alen κ * componentBytes ty ≤ 536870912 := by
    rcases hc with ⟨-, rfl⟩ | ⟨-, rfl⟩ | ⟨-, rfl⟩ | ⟨-, rfl⟩ <;> (simp only [componentBytes]; omega)
  refine va_newa (a0 := (alen κ, rwr (aty κ) (fun _ => 0) (fun _ => none) (fun _ => 0))) hx hb (hts _ hw) hty hK hP hD hS hA ?_ (by rw [Int32.lt_iff_toInt_lt]; omega) (by have e : n.toNatClampNeg = n.toInt.toNat := rfl; omega) hbytes hro.1 hro.2 d (fun q cA H1 hK1 h1 h2 h3 => ?_)
  · intro cA
    rcases hc with ⟨e, rfl⟩ | ⟨e, rfl⟩ | ⟨e, rfl⟩ | ⟨e, rfl⟩ <;> (rw [e]; rfl)
  · have hcA : cA = cy (aty κ) := by
      have e1 := (hK1.2 5 (cA, ty) rfl).2
      rcases hc with ⟨e, rfl⟩ | ⟨e, rfl⟩ | ⟨e, rfl⟩ | ⟨e, rfl⟩
      · have e2 := (hK.2 0 (cy 0, .byte) rfl).2
        rw [e]; exact Option.some.inj (e1.symm.trans e2)
      · have e2 := (hK.2 1 (cy 1, .int) rfl).2
        rw [e]; exact Option.some.inj (e1.symm.trans e2)
      · have e2 := (hK.2 2 (cy 2, .long) rfl).2
        rw [e]; exact Option.some.inj (e1.symm.trans e2)
      · have e2 := (hK.2 3 (cy 3, .boolean) rfl).2
        rw [e]; exact Option.some.inj (e1.symm.trans e2)
    subst hcA
    have hq := pw_fresh h2
    have e := pw_push (cy := cy) (K := K) (I := I) (O := O) (J := J) (κ := κ) hq
    rw [cEr_a hκ] at e
    rw [e] at h1 h2
    exact k q hq ls H1 locs hl h1 h2 h3
end AROWS
