/-! the world: what lies at a place of an address (ints, references, longs); the label of an address says what it is -/
def up2 {α : Type} (f : Nat → Nat → α) (a k : Nat) (v : α) : Nat → Nat → α := fun b j => if b = a ∧ j = k then v else f b j
theorem up2_self {α : Type} (f : Nat → Nat → α) (a k : Nat) (v : α) : up2 f a k v a k = v := by simp [up2]
theorem up2_ne {α : Type} (f : Nat → Nat → α) {a k b j : Nat} (v : α) (h : ¬ (b = a ∧ j = k)) : up2 f a k v b j = f b j := by simp [up2, h]
theorem up2_row {α : Type} (f : Nat → Nat → α) {a k b : Nat} (v : α) (h : ¬ b = a) : up2 f a k v b = f b := by funext j; simp [up2, h]
def fvr (i : Nat → Int32) (o : Nat → Option Nat) (j : Nat → Int64) (κ k : Nat) : Value := match fty κ k with
  | 0 => .int (i k)
  | 1 => va_rf (o k)
  | _ => .long (j k)
def rwr (t : Nat) (i : Nat → Int32) (o : Nat → Option Nat) (j : Nat → Int64) : (Nat → Int32) ⊕ (Nat → Int64) ⊕ (Nat → UInt32) ⊕ (Nat → UInt64) ⊕ (Nat → Option Nat) := match t with
  | 2 => .inr (.inl j)
  | 4 => .inr (.inr (.inr (.inr o)))
  | _ => .inl i
def cEr (cy : Nat → ClassId) (κ : Nat) (i : Nat → Int32) (o : Nat → Option Nat) (j : Nat → Int64) : va_E := if κ < 11 then .inr (κ, (List.range (nf κ)).map (fvr i o j κ)) else .inl (cy (aty κ), (alen κ, rwr (aty κ) i o j))
def cE (cy : Nat → ClassId) (K : Nat → Nat) (I : Nat → Nat → Int32) (O : Nat → Nat → Option Nat) (J : Nat → Nat → Int64) (a : Nat) : va_E := cEr cy (K a) (I a) (O a) (J a)
def pw (cy : Nat → ClassId) (P : List Nat) (K : Nat → Nat) (I : Nat → Nat → Int32) (O : Nat → Nat → Option Nat) (J : Nat → Nat → Int64) : va_W := va_pl P (cE cy K I O J)
theorem cEr_o {cy : Nat → ClassId} {κ : Nat} {i : Nat → Int32} {o : Nat → Option Nat} {j : Nat → Int64} (h : κ < 11) : cEr cy κ i o j = .inr (κ, (List.range (nf κ)).map (fvr i o j κ)) := if_pos h
theorem cEr_a {cy : Nat → ClassId} {κ : Nat} {i : Nat → Int32} {o : Nat → Option Nat} {j : Nat → Int64} (h : ¬ κ < 11) : cEr cy κ i o j = .inl (cy (aty κ), (alen κ, rwr (aty κ) i o j)) := if_neg h
theorem lst_set {α : Type} (f g : Nat → α) (n k : Nat) (v : α) (hg : ∀ j, g j = if j = k then v else f j) : ((List.range n).map f).set k v = (List.range n).map g := by
  apply List.ext_getElem
  · simp
  · intro j h1 h2
    simp only [List.getElem_set, List.getElem_map, List.getElem_range, hg]
    by_cases q : k = j
    · subst q; simp
    · rw [if_neg q, if_neg (fun z => q z.symm)]
section CE
variable {cy : Nat → ClassId} {P : List Nat} {K : Nat → Nat} {I : Nat → Nat → Int32} {O : Nat → Nat → Option Nat} {J : Nat → Nat → Int64} {a κ k : Nat}
theorem cE_putI {x : Int32} (h : K a = κ) (hκ : κ < 11) (ht : fty κ k = 0) : va_up (cE cy K I O J) a (.inr (κ, ((List.range (nf κ)).map (fvr (I a) (O a) (J a) κ)).set k (.int x))) = cE cy K (up2 I a k x) O J := by
  funext b
  by_cases hb : b = a
  · subst hb
    rw [va_up_self]
    show _ = cEr cy (K b) (up2 I b k x b) (O b) (J b)
    rw [h, cEr_o hκ]
    refine congrArg (fun l => Sum.inr (κ, l)) (lst_set _ _ _ _ _ fun j => ?_)
    by_cases hj : j = k
    · subst hj; rw [if_pos rfl]; unfold fvr; rw [ht]; simp [up2]
    · rw [if_neg hj]
      have e : up2 I b k x b j = I b j := up2_ne _ _ (fun z => hj z.2)
      unfold fvr; rw [e]
  · rw [va_up_ne _ _ hb]
    show cEr cy (K b) (I b) (O b) (J b) = cEr cy (K b) (up2 I a k x b) (O b) (J b)
    rw [up2_row _ _ hb]
theorem cE_putO {x : Option Nat} (h : K a = κ) (hκ : κ < 11) (ht : fty κ k = 1) : va_up (cE cy K I O J) a (.inr (κ, ((List.range (nf κ)).map (fvr (I a) (O a) (J a) κ)).set k (va_rf x))) = cE cy K I (up2 O a k x) J := by
  funext b
  by_cases hb : b = a
  · subst hb
    rw [va_up_self]
    show _ = cEr cy (K b) (I b) (up2 O b k x b) (J b)
    rw [h, cEr_o hκ]
    refine congrArg (fun l => Sum.inr (κ, l)) (lst_set _ _ _ _ _ fun j => ?_)
    by_cases hj : j = k
    · subst hj; rw [if_pos rfl]; unfold fvr; rw [ht]; simp [up2]
    · rw [if_neg hj]
      have e : up2 O b k x b j = O b j := up2_ne _ _ (fun z => hj z.2)
      unfold fvr; rw [e]
  · rw [va_up_ne _ _ hb]
    show cEr cy (K b) (I b) (O b) (J b) = cEr cy (K b) (I b) (up2 O a k x b) (J b)
    rw [up2_row _ _ hb]
theorem cE_putJ {x : Int64} (h : K a = κ) (hκ : κ < 11) (ht : fty κ k = 2) : va_up (cE cy K I O J) a (.inr (κ, ((List.range (nf κ)).map (fvr (I a) (O a) (J a) κ)).set k (.long x))) = cE cy K I O (up2 J a k x) := by
  funext b
  by_cases hb : b = a
  · subst hb
    rw [va_up_self]
    show _ = cEr cy (K b) (I b) (O b) (up2 J b k x b)
    rw [h, cEr_o hκ]
    refine congrArg (fun l => Sum.inr (κ, l)) (lst_set _ _ _ _ _ fun j => ?_)
    by_cases hj : j = k
    · subst hj; rw [if_pos rfl]; unfold fvr; rw [ht]; simp [up2]
    · rw [if_neg hj]
      have e : up2 J b k x b j = J b j := up2_ne _ _ (fun z => hj z.2)
      unfold fvr; rw [e]
  · rw [va_up_ne _ _ hb]
    show cEr cy (K b) (I b) (O b) (J b) = cEr cy (K b) (I b) (O b) (up2 J a k x b)
    rw [up2_row _ _ hb]
theorem rwr_i {t : Nat} {i : Nat → Int32} {o : Nat → Option Nat} {j : Nat → Int64} (h : t < 2 ∨ t = 3) : rwr t i o j = .inl i := by
  rcases h with h | rfl
  · rcases (show t = 0 ∨ t = 1 by omega) with rfl | rfl <;> rfl
  · rfl
theorem cE_astI {x : Int32} (h : K a = κ) (hκ : ¬ κ < 11) (ht : aty κ < 2 ∨ aty κ = 3) : va_up (cE cy K I O J) a (.inl (cy (aty κ), (alen κ, .inl (upd (I a) k x)))) = cE cy K (up2 I a k x) O J := by
  funext b
  by_cases hb : b = a
  · subst hb
    rw [va_up_self]
    show _ = cEr cy (K b) (up2 I b k x b) (O b) (J b)
    have e : up2 I b k x b = upd (I b) k x := by funext j; simp [up2, upd]
    rw [h, cEr_a hκ, rwr_i ht, e]
  · rw [va_up_ne _ _ hb]
    show cEr cy (K b) (I b) (O b) (J b) = cEr cy (K b) (up2 I a k x b) (O b) (J b)
    rw [up2_row _ _ hb]
theorem cE_astJ {x : Int64} (h : K a = κ) (hκ : ¬ κ < 11) (ht : aty κ = 2) : va_up (cE cy K I O J) a (.inl (cy 2, (alen κ, .inr (.inl (vp_updL (J a) k x))))) = cE cy K I O (up2 J a k x) := by
  funext b
  by_cases hb : b = a
  · subst hb
    rw [va_up_self]
    show _ = cEr cy (K b) (I b) (O b) (up2 J b k x b)
    have e : up2 J b k x b = vp_updL (J b) k x := by funext j; simp [up2, vp_updL]
    rw [h, cEr_a hκ, ht, e]; rfl
  · rw [va_up_ne _ _ hb]
    show cEr cy (K b) (I b) (O b) (J b) = cEr cy (K b) (I b) (O b) (up2 J a k x b)
    rw [up2_row _ _ hb]
theorem cE_astO {x : Option Nat} (h : K a = κ) (hκ : ¬ κ < 11) (ht : aty κ = 4) : va_up (cE cy K I O J) a (.inl (cy 4, (alen κ, .inr (.inr (.inr (.inr (va_up (O a) k x))))))) = cE cy K I (up2 O a k x) J := by
  funext b
  by_cases hb : b = a
  · subst hb
    rw [va_up_self]
    show _ = cEr cy (K b) (I b) (up2 O b k x b) (J b)
    have e : up2 O b k x b = va_up (O b) k x := by funext j; simp [up2, va_up]
    rw [h, cEr_a hκ, ht, e]; rfl
  · rw [va_up_ne _ _ hb]
    show cEr cy (K b) (I b) (O b) (J b) = cEr cy (K b) (I b) (up2 O a k x b) (J b)
    rw [up2_row _ _ hb]
theorem pw_o (h : a ∈ P ∧ K a = κ) (hκ : κ < 11) : ∃ q : Nat, (pw cy P K I O J)[q]? = some (a, cE cy K I O J a) ∧ cE cy K I O J a = .inr (κ, (List.range (nf κ)).map (fvr (I a) (O a) (J a) κ)) := by
  obtain ⟨q, hq⟩ := va_pl_get (X := []) (f := cE cy K I O J) h.1
  refine ⟨q, hq, ?_⟩
  show cEr cy (K a) (I a) (O a) (J a) = _
  rw [h.2, cEr_o hκ]
theorem pw_a (h : a ∈ P ∧ K a = κ) (hκ : ¬ κ < 11) : ∃ q : Nat, (pw cy P K I O J)[q]? = some (a, cE cy K I O J a) ∧ cE cy K I O J a = .inl (cy (aty κ), (alen κ, rwr (aty κ) (I a) (O a) (J a))) := by
  obtain ⟨q, hq⟩ := va_pl_get (X := []) (f := cE cy K I O J) h.1
  refine ⟨q, hq, ?_⟩
  show cEr cy (K a) (I a) (O a) (J a) = _
  rw [h.2, cEr_a hκ]
theorem pw_set {A : Nat → Prop} {q : Nat} {e : va_E} (hD : va_D A (pw cy P K I O J)) (h : a ∈ P) (hq : (pw cy P K I O J)[q]? = some (a, cE cy K I O J a)) : (pw cy P K I O J).set q (a, e) = va_pl P (va_up (cE cy K I O J) a e) := va_pl_set (X := []) hD h hq
theorem pw_mem {q : Nat} : (∃ (k : Nat) (e : va_E), (pw cy P K I O J)[k]? = some (q, e)) ↔ q ∈ P := by
  constructor
  · rintro ⟨k, e, h⟩
    have h1 := List.mem_of_getElem? h
    obtain ⟨b, hb, e1⟩ := List.mem_map.mp h1
    cases e1
    exact hb
  · intro h
    obtain ⟨k, hk⟩ := va_pl_get (X := []) (f := cE cy K I O J) h
    exact ⟨k, _, hk⟩
end CE
theorem fvr_at {i : Nat → Int32} {o : Nat → Option Nat} {j : Nat → Int64} {κ k : Nat} (hk : k < nf κ) : ((List.range (nf κ)).map (fvr i o j κ))[k]? = some (fvr i o j κ k) := by
  rw [List.getElem?_map, List.getElem?_range hk]; rfl
def tyl (cy : Nat → ClassId) : List (ClassId × FieldType) := [(cy 0, .byte), (cy 1, .int), (cy 2, .long), (cy 3, .boolean), (cy 4, .object "RoarMill$Drum")]

/-! the String constants: owner, place in its pool, text -/
def sTab : List (String × Nat × String) := [("RoarMill$Reader", 93, "drum"), ("RoarMill$Reader", 158, "room"), ("RoarMill$Reader", 166, "loud"), ("RoarMill$Reader", 99, "sieve"), ("RoarMill$Reader", 101, "liner"), ("RoarMill$Reader", 103, "bin"), ("RoarMill$Reader", 105, "price"), ("RoarMill$Reader", 107, "size"), ("RoarMill$Reader", 109, "ore"), ("RoarMill$Reader", 181, "slips"), ("RoarMill$Reader", 185, "draws"), ("RoarMill$Reader", 196, "breaks"), ("RoarMill$Reader", 200, "next"), ("RoarMill$Reader", 204, "hard"), ("RoarMill$Reader", 208, "tons"), ("RoarMill", 314, "no such HOUR in which it stood"), ("RoarMillModel", 153, "drum"), ("RoarMillModel", 222, "room"), ("RoarMillModel", 231, "loud"), ("RoarMillModel", 155, "sieve"), ("RoarMillModel", 157, "liner"), ("RoarMillModel", 159, "bin"), ("RoarMillModel", 161, "price"), ("RoarMillModel", 163, "size"), ("RoarMillModel", 164, "ore"), ("RoarMillModel", 246, "slips"), ("RoarMillModel", 250, "draws"), ("RoarMillModel", 265, "breaks"), ("RoarMillModel", 269, "next"), ("RoarMillModel", 272, "hard"), ("RoarMillModel", 274, "tons")]
def sLen : List Nat := [4, 4, 4, 5, 5, 3, 5, 4, 3, 5, 5, 6, 4, 4, 4, 30, 4, 4, 4, 5, 5, 3, 5, 4, 3, 5, 5, 6, 4, 4, 4]
def sByt : List (List Int32) := [[100, 114, 117, 109], [114, 111, 111, 109], [108, 111, 117, 100], [115, 105, 101, 118, 101], [108, 105, 110, 101, 114], [98, 105, 110], [112, 114, 105, 99, 101], [115, 105, 122, 101], [111, 114, 101], [115, 108, 105, 112, 115], [100, 114, 97, 119, 115], [98, 114, 101, 97, 107, 115], [110, 101, 120, 116], [104, 97, 114, 100], [116, 111, 110, 115], [110, 111, 32, 115, 117, 99, 104, 32, 72, 79, 85, 82, 32, 105, 110, 32, 119, 104, 105, 99, 104, 32, 105, 116, 32, 115, 116, 111, 111, 100], [100, 114, 117, 109], [114, 111, 111, 109], [108, 111, 117, 100], [115, 105, 101, 118, 101], [108, 105, 110, 101, 114], [98, 105, 110], [112, 114, 105, 99, 101], [115, 105, 122, 101], [111, 114, 101], [115, 108, 105, 112, 115], [100, 114, 97, 119, 115], [98, 114, 101, 97, 107, 115], [110, 101, 120, 116], [104, 97, 114, 100], [116, 111, 110, 115]]
def SC (ad : (Nat → Nat) × (Nat → Nat)) (A : Nat → Prop) (U : State) (H : Heap) : Prop := (∀ i, i < 31 → vk_S 1 [sLen.getD i 0] [sByt.getD i []] (fun _ => ad.1 i) (fun _ => ad.2 i) A U H) ∧ (∀ (i : Nat) (q : String × Nat × String), sTab[i]? = some q → vk_R q.1 q.2.1 q.2.2 (ad.1 i) U) ∧ NW U ∧ va_Z "java/lang/String" "COMPACT_STRINGS" "Z" (.int 1) A U H ∧ va_Zq "jdk/internal/util/Preconditions" "SIOOBE_FORMATTER" "Ljava/util/function/BiFunction;" A U H ∧ va_Zq "java/lang/Throwable" "UNASSIGNED_STACK" "[Ljava/lang/StackTraceElement;" A U H ∧ va_Zq "java/lang/Throwable" "SUPPRESSED_SENTINEL" "Ljava/util/List;" A U H

theorem SC.call {ad : (Nat → Nat) × (Nat → Nat)} {A B : Nat → Prop} {s U : State} {H : Heap} {locs : List Loc} (h : SC ad A s s.heap) (hS : va_S A s.heap H locs) (hW : s.WarmedH U.vm) (hU : U.heap = H) (hB : ∀ q, B q → A q) : SC ad B U U.heap := by
  rw [hU]
  exact ⟨fun i hi => (((h.1 i hi).kept (fun a h1 h2 => hS.2.1 a h1 h2)).moved hW.alike).narrow hB, fun i q hq => (h.2.1 i q hq).warm hW, h.2.2.1.warm hW, ((h.2.2.2.1.kept (fun a h1 h2 => hS.2.1 a h1 h2)).moved hW.alike).narrow hB, ((h.2.2.2.2.1.kept (fun a h1 h2 => hS.2.1 a h1 h2)).moved hW.alike).narrow hB, ((h.2.2.2.2.2.1.kept (fun a h1 h2 => hS.2.1 a h1 h2)).moved hW.alike).narrow hB, ((h.2.2.2.2.2.2.kept (fun a h1 h2 => hS.2.1 a h1 h2)).moved hW.alike).narrow hB⟩
theorem SC.same {ad : (Nat → Nat) × (Nat → Nat)} {A : Nat → Prop} {s U : State} {H : Heap} (h : SC ad A s H) (hv : U.vm = s.vm) : SC ad A U H :=
  ⟨fun i hi => (h.1 i hi).moved (by rw [hv]; exact Vm.Alike.refl _), fun i q hq => (h.2.1 i q hq).same hv, h.2.2.1.same hv.symm, h.2.2.2.1.moved (by rw [hv]; exact Vm.Alike.refl _), h.2.2.2.2.1.moved (by rw [hv]; exact Vm.Alike.refl _), h.2.2.2.2.2.1.moved (by rw [hv]; exact Vm.Alike.refl _), h.2.2.2.2.2.2.moved (by rw [hv]; exact Vm.Alike.refl _)⟩
theorem SC.narrow {ad : (Nat → Nat) × (Nat → Nat)} {A B : Nat → Prop} {s : State} {H : Heap} (h : SC ad A s H) (hB : ∀ q, B q → A q) : SC ad B s H :=
  ⟨fun i hi => (h.1 i hi).narrow hB, h.2.1, h.2.2.1, h.2.2.2.1.narrow hB, h.2.2.2.2.1.narrow hB, h.2.2.2.2.2.1.narrow hB, h.2.2.2.2.2.2.narrow hB⟩
abbrev CTX : Type := Program × Launch × Env × Room × State × MethodId × Array Value × List Frame × Method × Code × (State → Prop) × (Nat → Prop) × va_G × (Nat → ClassId) × ((Nat → Nat) × (Nat → Nat))
abbrev AD : Type := (Nat → Nat) × (Nat → Nat)
def adX (X : CTX) : AD := X.2.2.2.2.2.2.2.2.2.2.2.2.2.2
abbrev PST : Type := Option Value → List Nat → (Nat → Nat) → (Nat → Nat → Int32) → (Nat → Nat → Option Nat) → (Nat → Nat → Int64) → Prop
def GG (X : CTX) (nL : Nat) (P : List Nat) (K : Nat → Nat) (I : Nat → Nat → Int32) (O : Nat → Nat → Option Nat) (J : Nat → Nat → Int64) (nc ns pc : Nat) (L : List (Nat × Value)) (st : List Value) : Prop := match X with
  | (p, l, e, R, s, m, args, below, meth, c, Q, A, D, cy, _) => ∀ (ls : Array Slot) (H : Heap) (locs : List Loc), lv_has ls nL L → va_P D cl (pw cy P K I O J) H → va_D A (pw cy P K I O J) → va_S A s.heap H locs → W p l e R s m args below meth c H locs nc ns Q (F0 m pc ls st)
def Cx (X : CTX) (cc : ByteArray) (nL : Nat) (own : String) (rm : Room) : Prop := match X with
  | (p, _, _, R, s, m, args, _, meth, c, _, A, D, cy, ad) => CallFix p m c cc nL s args wG own ∧ va_K D cl (tyl cy) s ∧ (∀ q, s.heap.size ≤ q → A q) ∧ meth.locks = false ∧ SC ad A s s.heap ∧ R = rm
def QQ (D : va_G) (cy : Nat → ClassId) (post : PST) (A : Nat → Prop) : Array Value → State → Outcome → State → Prop := fun _ st oc t => (∃ r P K I O J, oc = .returned r ∧ post r P K I O J ∧ va_P D cl (pw cy P K I O J) t.heap ∧ va_K D cl (tyl cy) t ∧ va_D A (pw cy P K I O J)) ∧ va_F A st t
def Rx (X : CTX) (rt : Option FieldType) (post : PST) (rm : Room) : Prop := match X with
  | (_, _, _, _, s, _, args, below, meth, _, Q, A, D, cy, _) => Q = MQ below (QQ D cy post A) args s rm.cells rm.slots A ∧ meth.sig.returnType = rt
def PP (D : va_G) (cy : Nat → ClassId) (ad : (Nat → Nat) × (Nat → Nat)) (sz : Nat) (P : List Nat) (K : Nat → Nat) (I : Nat → Nat → Int32) (O : Nat → Nat → Option Nat) (J : Nat → Nat → Int64) (av : List Value) : Array Value → State → Prop := va_Pc av (fun U => U.heap.size = sz ∧ va_P D cl (pw cy P K I O J) U.heap ∧ va_K D cl (tyl cy) U ∧ va_D (fun _ => True) (pw cy P K I O J) ∧ SC ad (va_A (pw cy P K I O J) sz) U U.heap)
/-- a method's contract at a world and arguments (these may be String constants, by ad) -/
def ConA (y : MethodName) (cc : ByteArray) (nL : Nat) (rt : Option FieldType) (rm : Room) (P : List Nat) (K : Nat → Nat) (I : Nat → Nat → Int32) (O : Nat → Nat → Option Nat) (J : Nat → Nat → Int64) (av : AD → List Value) (post : PST) : Prop := ∀ (l : Launch) (D : va_G) (cy : Nat → ClassId) (ad : AD) (sz : Nat), Met l y (Cond.code y cc nL rt :: wG) rm (PP D cy ad sz P K I O J (av ad)) (QQ D cy post (va_A (pw cy P K I O J) sz)) rm.cells rm.slots (va_A (pw cy P K I O J) sz)
def Con (y : MethodName) (cc : ByteArray) (nL : Nat) (rt : Option FieldType) (rm : Room) (P : List Nat) (K : Nat → Nat) (I : Nat → Nat → Int32) (O : Nat → Nat → Option Nat) (J : Nat → Nat → Int64) (av : List Value) (post : PST) : Prop := ConA y cc nL rt rm P K I O J (fun _ => av) post
theorem ConA.ofG {y : MethodName} {cc : ByteArray} {nL n : Nat} {rt : Option FieldType} {rm : Room} {P : List Nat} {K : Nat → Nat} {I : Nat → Nat → Int32} {O : Nat → Nat → Option Nat} {J : Nat → Nat → Int64} {av : AD → List Value} {post : PST} (hy : MF y cc nL rt n) (hav : ∀ ad, (lg_sl (av ad)).length ≤ nL) (body : ∀ X, Cx X cc nL y.cls rm → Rx X rt post rm → GG X nL P K I O J 0 0 0 (lv_args 0 (av (adX X))) []) : ConA y cc nL rt rm P K I O J av post := by
  intro l D cy ad sz
  refine Met.ofW (cc := cc) (maxL := nL) (ret := rt) hy.2.2.1 rfl ?_
  intro p e s m args below meth c s₁ B hml hv
  obtain ⟨rfl, hsz, hP, hK, hD0, hSC⟩ := hv
  have hts := atoms_spec (ws := Cond.code y cc nL rt :: wG) B.pre
  have hown : s.vm.findClass y.cls = some m.cls := findClass_of_methodNamed B.named
  subst hsz
  have hD := hD0.self (sz := s.heap.size)
  have hl := lv_entry (av ad) (n := nL) (hav ad)
  rw [lg_entry_eq]
  exact body (p, l, e, (headSpec (Cond.code y cc nL rt :: wG) rm).room, s, m, (av ad).toArray, below, meth, c, MQ below (QQ D cy post (va_A (pw cy P K I O J) s.heap.size)) (av ad).toArray s rm.cells rm.slots (va_A (pw cy P K I O J) s.heap.size), va_A (pw cy P K I O J) s.heap.size, D, cy, ad) ⟨⟨B.exec, B.bytes, hml, hown, fun w hw => hts w (List.mem_cons_of_mem _ hw)⟩, hK, fun q h => Or.inr h, B.notSynchronized, hSC, rfl⟩ ⟨rfl, B.returns⟩ _ s.heap [] hl hP hD va_S.rf
theorem Con.ofG {y : MethodName} {cc : ByteArray} {nL n : Nat} {rt : Option FieldType} {rm : Room} {P : List Nat} {K : Nat → Nat} {I : Nat → Nat → Int32} {O : Nat → Nat → Option Nat} {J : Nat → Nat → Int64} {av : List Value} {post : PST} (hy : MF y cc nL rt n) (hav : (lg_sl av).length ≤ nL) (body : ∀ X, Cx X cc nL y.cls rm → Rx X rt post rm → GG X nL P K I O J 0 0 0 (lv_args 0 av) []) : Con y cc nL rt rm P K I O J av post := ConA.ofG hy (fun _ => hav) body
/-- there is an object of this class at b -/
def RC (X : CTX) (P : List Nat) (K : Nat → Nat) (I : Nat → Nat → Int32) (O : Nat → Nat → Option Nat) (J : Nat → Nat → Int64) (b : Nat) (cls : String) : Prop := match X with
  | (_, _, _, _, s, _, _, _, _, _, _, A, D, cy, _) => ∀ (H : Heap) (locs : List Loc), va_P D cl (pw cy P K I O J) H → va_S A s.heap H locs → ∃ cell : Cell, H[b]? = some cell ∧ cell.vm.isStatics = false ∧ s.vm.findClass cls = some cell.cls
/-- a weaker end -/
theorem PP.blind {D : va_G} {cy : Nat → ClassId} {ad : (Nat → Nat) × (Nat → Nat)} {sz : Nat} {P : List Nat} {K : Nat → Nat} {I : Nat → Nat → Int32} {O : Nat → Nat → Option Nat} {J : Nat → Nat → Int64} {av : List Value} : FrameBlind (PP D cy ad sz P K I O J av) := by
  intro a U g mk q
  obtain ⟨q0, q1, qP, qK, qD, qS⟩ := q
  exact ⟨q0, q1, qP, va_K.moved (u := U) (U := U.calling g mk a) (Vm.Alike.refl U.vm) qK, qD, qS.same rfl⟩

/-- fewer locals -/
def lkp : List (Nat × Value) → Nat → Option Value
  | [], _ => none
  | q :: l, i => bif Nat.beq q.1 i then some q.2 else lkp l i
theorem lkp_mem : ∀ {l : List (Nat × Value)} {i : Nat} {v : Value}, lkp l i = some v → (i, v) ∈ l
  | [], i, v, h => by cases h
  | q :: l, i, v, h => by
    unfold lkp at h
    cases hq : Nat.beq q.1 i with
    | true =>
      rw [hq] at h
      have e1 : q.1 = i := Nat.eq_of_beq_eq_true hq
      have e2 : q.2 = v := Option.some.inj h
      rw [← e1, ← e2]
      exact List.mem_cons_self
    | false =>
      rw [hq] at h
      exact List.mem_cons_of_mem _ (lkp_mem h)
def subl : List (Nat × Value) → List (Nat × Value) → Prop
  | [], _ => True
  | q :: l', l => lkp l q.1 = some q.2 ∧ subl l' l
theorem subl_mem : ∀ {l' l : List (Nat × Value)}, subl l' l → ∀ q ∈ l', q ∈ l
  | [], _, _, q, h => by cases h
  | p :: l', l, h, q, hq => by
    rcases List.mem_cons.mp hq with rfl | hq
    · exact lkp_mem h.1
    · exact subl_mem h.2 q hq
def sto (L : List (Nat × Value)) (i : Nat) (v : Value) : List (Nat × Value) := (i, v) :: L.filter (fun q => !(q.1 == i) && !(q.1 + 1 == i && q.2.category == 2))
def stoL (L : List (Nat × Value)) (i : Nat) (v : Value) : List (Nat × Value) := (i, v) :: L.filter (fun q => !(q.1 == i) && (!(q.1 == i + 1) && !(q.1 + 1 == i && q.2.category == 2)))
section ROWS
variable {X : CTX} {cc : ByteArray} {nL : Nat} {own : String} {rm : Room} {P : List Nat} {K : Nat → Nat} {I : Nat → Nat → Int32} {O : Nat → Nat → Option Nat} {J : Nat → Nat → Int64} {nc ns pc : Nat} {L : List (Nat × Value)} {st : List Value}
theorem g_sub {L' : List (Nat × Value)} (k : GG X nL P K I O J nc ns pc L' st) (h : subl L' L) : GG X nL P K I O J nc ns pc L st := by
  obtain ⟨p, l, e, R, s, m, args, below, meth, c, Q, A, D, cy, ad⟩ := X
  exact fun ls H locs hl hP hD hS => k ls H locs ⟨hl.1, hl.2.1, fun q hq => hl.2.2 q (subl_mem h q hq)⟩ hP hD hS
theorem g_widen {nc' ns' : Nat} (h1 : nc ≤ nc') (h2 : ns ≤ ns') (k : GG X nL P K I O J nc' ns' pc L st) : GG X nL P K I O J nc ns pc L st := by
  obtain ⟨p, l, e, R, s, m, args, below, meth, c, Q, A, D, cy, ad⟩ := X
  exact fun ls H locs hl hP hD hS => W.widen h1 h2 (k ls H locs hl hP hD hS)
theorem g_iconst {n : Int} {v : Int32} (C : Cx X cc nL own rm) (d : decode cc pc = .ok (.iconst n, 1)) (hv : Int32.ofInt n = v) (k : GG X nL P K I O J nc ns (pc + 1) L (.int v :: st)) : GG X nL P K I O J nc ns pc L (st) := by
  obtain ⟨p, l, e, R, s, m, args, below, meth, c, Q, A, D, cy, ad⟩ := X
  obtain ⟨⟨hx, hb, hml, hown, hts⟩, hK, hA, hlk, hSC, hR⟩ := C
  exact fun ls H locs hl hP hD hS => lv_iconst hx hb d hv (k ls H locs hl hP hD hS)
theorem g_bipush {n : Int} {v : Int32} (C : Cx X cc nL own rm) (d : decode cc pc = .ok (.bipush n, 2)) (hv : (Int8.ofInt n).toInt32 = v) (k : GG X nL P K I O J nc ns (pc + 2) L (.int v :: st)) : GG X nL P K I O J nc ns pc L (st) := by
  obtain ⟨p, l, e, R, s, m, args, below, meth, c, Q, A, D, cy, ad⟩ := X
  obtain ⟨⟨hx, hb, hml, hown, hts⟩, hK, hA, hlk, hSC, hR⟩ := C
  exact fun ls H locs hl hP hD hS => lv_bipush hx hb d hv (k ls H locs hl hP hD hS)
theorem g_sipush {n : Int} {v : Int32} (C : Cx X cc nL own rm) (d : decode cc pc = .ok (.sipush n, 3)) (hv : (Int16.ofInt n).toInt32 = v) (k : GG X nL P K I O J nc ns (pc + 3) L (.int v :: st)) : GG X nL P K I O J nc ns pc L (st) := by
  obtain ⟨p, l, e, R, s, m, args, below, meth, c, Q, A, D, cy, ad⟩ := X
  obtain ⟨⟨hx, hb, hml, hown, hts⟩, hK, hA, hlk, hSC, hR⟩ := C
  exact fun ls H locs hl hP hD hS => lv_sipush hx hb d hv (k ls H locs hl hP hD hS)
theorem g_lconst {n : Fin 2} {v : Int64} (C : Cx X cc nL own rm) (d : decode cc pc = .ok (.lconst n, 1)) (hv : Int64.ofNat (n : Nat) = v) (k : GG X nL P K I O J nc ns (pc + 1) L (.long v :: st)) : GG X nL P K I O J nc ns pc L (st) := by
  obtain ⟨p, l, e, R, s, m, args, below, meth, c, Q, A, D, cy, ad⟩ := X
  obtain ⟨⟨hx, hb, hml, hown, hts⟩, hK, hA, hlk, hSC, hR⟩ := C
  exact fun ls H locs hl hP hD hS => lv_lconst hx hb d hv (k ls H locs hl hP hD hS)
theorem g_ldc {index : Nat} {v : Int32} (C : Cx X cc nL own rm) (d : decode cc pc = .ok (.ldc index, 2)) (hw : Cond.constant own index v ∈ wG) (k : GG X nL P K I O J nc ns (pc + 2) L (.int v :: st)) : GG X nL P K I O J nc ns pc L (st) := by
  obtain ⟨p, l, e, R, s, m, args, below, meth, c, Q, A, D, cy, ad⟩ := X
  obtain ⟨⟨hx, hb, hml, hown, hts⟩, hK, hA, hlk, hSC, hR⟩ := C
  exact fun ls H locs hl hP hD hS => lv_ldc hx hb hown (hts _ hw) d (k ls H locs hl hP hD hS)
theorem g_ldcw {index : Nat} {v : Int32} (C : Cx X cc nL own rm) (d : decode cc pc = .ok (.ldc_w index, 3)) (hw : Cond.constant own index v ∈ wG) (k : GG X nL P K I O J nc ns (pc + 3) L (.int v :: st)) : GG X nL P K I O J nc ns pc L (st) := by
  obtain ⟨p, l, e, R, s, m, args, below, meth, c, Q, A, D, cy, ad⟩ := X
  obtain ⟨⟨hx, hb, hml, hown, hts⟩, hK, hA, hlk, hSC, hR⟩ := C
  exact fun ls H locs hl hP hD hS => lv_ldcw hx hb hown (hts _ hw) d (k ls H locs hl hP hD hS)
theorem g_ldc2 {index : Nat} {v : Int64} (C : Cx X cc nL own rm) (d : decode cc pc = .ok (.ldc2_w index, 3)) (hw : Cond.constantLong own index v ∈ wG) (k : GG X nL P K I O J nc ns (pc + 3) L (.long v :: st)) : GG X nL P K I O J nc ns pc L (st) := by
  obtain ⟨p, l, e, R, s, m, args, below, meth, c, Q, A, D, cy, ad⟩ := X
  obtain ⟨⟨hx, hb, hml, hown, hts⟩, hK, hA, hlk, hSC, hR⟩ := C
  exact fun ls H locs hl hP hD hS => lv_ldc2 hx hb hown (hts _ hw) d (k ls H locs hl hP hD hS)
theorem g_iload_n {f : Fin 4} {x : Int32} (C : Cx X cc nL own rm) (d : decode cc pc = .ok (.iload_n f, 1)) (h : lkp L f = some (.int x)) (k : GG X nL P K I O J nc ns (pc + 1) L (.int x :: st)) : GG X nL P K I O J nc ns pc L (st) := by
  obtain ⟨p, l, e, R, s, m, args, below, meth, c, Q, A, D, cy, ad⟩ := X
  obtain ⟨⟨hx, hb, hml, hown, hts⟩, hK, hA, hlk, hSC, hR⟩ := C
  exact fun ls H locs hl hP hD hS => lv_iload_n hx hb d rfl (hl.2.2 _ (lkp_mem h)) (k ls H locs hl hP hD hS)
theorem g_iload {i : Nat} {x : Int32} (C : Cx X cc nL own rm) (d : decode cc pc = .ok (.iload i, 2)) (h : lkp L i = some (.int x)) (k : GG X nL P K I O J nc ns (pc + 2) L (.int x :: st)) : GG X nL P K I O J nc ns pc L (st) := by
  obtain ⟨p, l, e, R, s, m, args, below, meth, c, Q, A, D, cy, ad⟩ := X
  obtain ⟨⟨hx, hb, hml, hown, hts⟩, hK, hA, hlk, hSC, hR⟩ := C
  exact fun ls H locs hl hP hD hS => lv_iload hx hb d (hl.2.2 _ (lkp_mem h)) (k ls H locs hl hP hD hS)
theorem g_lload_n {f : Fin 4} {x : Int64} (C : Cx X cc nL own rm) (d : decode cc pc = .ok (.lload_n f, 1)) (h : lkp L f = some (.long x)) (k : GG X nL P K I O J nc ns (pc + 1) L (.long x :: st)) : GG X nL P K I O J nc ns pc L (st) := by
  obtain ⟨p, l, e, R, s, m, args, below, meth, c, Q, A, D, cy, ad⟩ := X
  obtain ⟨⟨hx, hb, hml, hown, hts⟩, hK, hA, hlk, hSC, hR⟩ := C
  exact fun ls H locs hl hP hD hS => lv_lload_n hx hb d rfl (hl.2.2 _ (lkp_mem h)) (k ls H locs hl hP hD hS)
theorem g_lload {i : Nat} {x : Int64} (C : Cx X cc nL own rm) (d : decode cc pc = .ok (.lload i, 2)) (h : lkp L i = some (.long x)) (k : GG X nL P K I O J nc ns (pc + 2) L (.long x :: st)) : GG X nL P K I O J nc ns pc L (st) := by
  obtain ⟨p, l, e, R, s, m, args, below, meth, c, Q, A, D, cy, ad⟩ := X
  obtain ⟨⟨hx, hb, hml, hown, hts⟩, hK, hA, hlk, hSC, hR⟩ := C
  exact fun ls H locs hl hP hD hS => lv_lload hx hb d (hl.2.2 _ (lkp_mem h)) (k ls H locs hl hP hD hS)
theorem g_aload_n {f : Fin 4} {x : Nat} (C : Cx X cc nL own rm) (d : decode cc pc = .ok (.aload_n f, 1)) (h : lkp L f = some (.ref x)) (k : GG X nL P K I O J nc ns (pc + 1) L (.ref x :: st)) : GG X nL P K I O J nc ns pc L (st) := by
  obtain ⟨p, l, e, R, s, m, args, below, meth, c, Q, A, D, cy, ad⟩ := X
  obtain ⟨⟨hx, hb, hml, hown, hts⟩, hK, hA, hlk, hSC, hR⟩ := C
  exact fun ls H locs hl hP hD hS => lv_aload_n hx hb d rfl (hl.2.2 _ (lkp_mem h)) (k ls H locs hl hP hD hS)
theorem g_aload {i : Nat} {x : Nat} (C : Cx X cc nL own rm) (d : decode cc pc = .ok (.aload i, 2)) (h : lkp L i = some (.ref x)) (k : GG X nL P K I O J nc ns (pc + 2) L (.ref x :: st)) : GG X nL P K I O J nc ns pc L (st) := by
  obtain ⟨p, l, e, R, s, m, args, below, meth, c, Q, A, D, cy, ad⟩ := X
  obtain ⟨⟨hx, hb, hml, hown, hts⟩, hK, hA, hlk, hSC, hR⟩ := C
  exact fun ls H locs hl hP hD hS => lv_aload hx hb d (hl.2.2 _ (lkp_mem h)) (k ls H locs hl hP hD hS)
theorem g_istore_n {f : Fin 4} {i : Nat} {x : Int32} (C : Cx X cc nL own rm) (d : decode cc pc = .ok (.istore_n f, 1)) (hi : (f : Nat) = i) (hn : i < nL) (k : GG X nL P K I O J nc ns (pc + 1) (sto L i (.int x)) (st)) : GG X nL P K I O J nc ns pc L (.int x :: st) := by
  obtain ⟨p, l, e, R, s, m, args, below, meth, c, Q, A, D, cy, ad⟩ := X
  obtain ⟨⟨hx, hb, hml, hown, hts⟩, hK, hA, hlk, hSC, hR⟩ := C
  exact fun ls H locs hl hP hD hS => lv_istore_n hx hb d hi hl hn rfl (fun ls hl => k ls H locs hl hP hD hS)
theorem g_istore {i : Nat} {x : Int32} (C : Cx X cc nL own rm) (d : decode cc pc = .ok (.istore i, 2)) (hn : i < nL) (k : GG X nL P K I O J nc ns (pc + 2) (sto L i (.int x)) (st)) : GG X nL P K I O J nc ns pc L (.int x :: st) := by
  obtain ⟨p, l, e, R, s, m, args, below, meth, c, Q, A, D, cy, ad⟩ := X
  obtain ⟨⟨hx, hb, hml, hown, hts⟩, hK, hA, hlk, hSC, hR⟩ := C
  exact fun ls H locs hl hP hD hS => lv_istore hx hb d hl hn rfl (fun ls hl => k ls H locs hl hP hD hS)
theorem g_astore_n {f : Fin 4} {i : Nat} {x : Nat} (C : Cx X cc nL own rm) (d : decode cc pc = .ok (.astore_n f, 1)) (hi : (f : Nat) = i) (hn : i < nL) (k : GG X nL P K I O J nc ns (pc + 1) (sto L i (.ref x)) (st)) : GG X nL P K I O J nc ns pc L (.ref x :: st) := by
  obtain ⟨p, l, e, R, s, m, args, below, meth, c, Q, A, D, cy, ad⟩ := X
  obtain ⟨⟨hx, hb, hml, hown, hts⟩, hK, hA, hlk, hSC, hR⟩ := C
  exact fun ls H locs hl hP hD hS => lv_astore_n hx hb d hi hl hn rfl (fun ls hl => k ls H locs hl hP hD hS)
theorem g_astore {i : Nat} {x : Nat} (C : Cx X cc nL own rm) (d : decode cc pc = .ok (.astore i, 2)) (hn : i < nL) (k : GG X nL P K I O J nc ns (pc + 2) (sto L i (.ref x)) (st)) : GG X nL P K I O J nc ns pc L (.ref x :: st) := by
  obtain ⟨p, l, e, R, s, m, args, below, meth, c, Q, A, D, cy, ad⟩ := X
  obtain ⟨⟨hx, hb, hml, hown, hts⟩, hK, hA, hlk, hSC, hR⟩ := C
  exact fun ls H locs hl hP hD hS => lv_astore hx hb d hl hn rfl (fun ls hl => k ls H locs hl hP hD hS)
theorem g_lstore_n {f : Fin 4} {i : Nat} {x : Int64} (C : Cx X cc nL own rm) (d : decode cc pc = .ok (.lstore_n f, 1)) (hi : (f : Nat) = i) (hn : i + 1 < nL) (k : GG X nL P K I O J nc ns (pc + 1) (stoL L i (.long x)) (st)) : GG X nL P K I O J nc ns pc L (.long x :: st) := by
  obtain ⟨p, l, e, R, s, m, args, below, meth, c, Q, A, D, cy, ad⟩ := X
  obtain ⟨⟨hx, hb, hml, hown, hts⟩, hK, hA, hlk, hSC, hR⟩ := C
  exact fun ls H locs hl hP hD hS => lv_lstore_n hx hb d hi hl hn rfl (fun ls hl => k ls H locs hl hP hD hS)
theorem g_lstore {i : Nat} {x : Int64} (C : Cx X cc nL own rm) (d : decode cc pc = .ok (.lstore i, 2)) (hn : i + 1 < nL) (k : GG X nL P K I O J nc ns (pc + 2) (stoL L i (.long x)) (st)) : GG X nL P K I O J nc ns pc L (.long x :: st) := by
  obtain ⟨p, l, e, R, s, m, args, below, meth, c, Q, A, D, cy, ad⟩ := X
  obtain ⟨⟨hx, hb, hml, hown, hts⟩, hK, hA, hlk, hSC, hR⟩ := C
  exact fun ls H locs hl hP hD hS => lv_lstore hx hb d hl hn rfl (fun ls hl => k ls H locs hl hP hD hS)
theorem g_iinc {i : Nat} {n : Int} {x v : Int32} (C : Cx X cc nL own rm) (d : decode cc pc = .ok (.iinc i n, 3)) (h : lkp L i = some (.int x)) (hv : x + Int32.ofInt n = v) (hn : i < nL) (k : GG X nL P K I O J nc ns (pc + 3) (sto L i (.int v)) st) : GG X nL P K I O J nc ns pc L st := by
  obtain ⟨p, l, e, R, s, m, args, below, meth, c, Q, A, D, cy, ad⟩ := X
  obtain ⟨⟨hx, hb, hml, hown, hts⟩, hK, hA, hlk, hSC, hR⟩ := C
  obtain ⟨q, hq⟩ := List.getElem?_of_mem (lkp_mem h)
  exact fun ls H locs hl hP hD hS => lv_iinc hx hb d hl hq hv hn rfl (fun ls hl => k ls H locs hl hP hD hS)
theorem g_iadd {x y : Int32} (C : Cx X cc nL own rm) (d : decode cc pc = .ok (.iadd, 1)) (k : GG X nL P K I O J nc ns (pc + 1) L (.int (x + y) :: st)) : GG X nL P K I O J nc ns pc L (.int y :: .int x :: st) := by
  obtain ⟨p, l, e, R, s, m, args, below, meth, c, Q, A, D, cy, ad⟩ := X
  obtain ⟨⟨hx, hb, hml, hown, hts⟩, hK, hA, hlk, hSC, hR⟩ := C
  exact fun ls H locs hl hP hD hS => lv_iadd hx hb d (k ls H locs hl hP hD hS)
theorem g_isub {x y : Int32} (C : Cx X cc nL own rm) (d : decode cc pc = .ok (.isub, 1)) (k : GG X nL P K I O J nc ns (pc + 1) L (.int (x - y) :: st)) : GG X nL P K I O J nc ns pc L (.int y :: .int x :: st) := by
  obtain ⟨p, l, e, R, s, m, args, below, meth, c, Q, A, D, cy, ad⟩ := X
  obtain ⟨⟨hx, hb, hml, hown, hts⟩, hK, hA, hlk, hSC, hR⟩ := C
  exact fun ls H locs hl hP hD hS => lv_isub hx hb d (k ls H locs hl hP hD hS)
theorem g_imul {x y : Int32} (C : Cx X cc nL own rm) (d : decode cc pc = .ok (.imul, 1)) (k : GG X nL P K I O J nc ns (pc + 1) L (.int (x * y) :: st)) : GG X nL P K I O J nc ns pc L (.int y :: .int x :: st) := by
  obtain ⟨p, l, e, R, s, m, args, below, meth, c, Q, A, D, cy, ad⟩ := X
  obtain ⟨⟨hx, hb, hml, hown, hts⟩, hK, hA, hlk, hSC, hR⟩ := C
  exact fun ls H locs hl hP hD hS => lv_imul hx hb d (k ls H locs hl hP hD hS)
theorem g_iand {x y : Int32} (C : Cx X cc nL own rm) (d : decode cc pc = .ok (.iand, 1)) (k : GG X nL P K I O J nc ns (pc + 1) L (.int (x &&& y) :: st)) : GG X nL P K I O J nc ns pc L (.int y :: .int x :: st) := by
  obtain ⟨p, l, e, R, s, m, args, below, meth, c, Q, A, D, cy, ad⟩ := X
  obtain ⟨⟨hx, hb, hml, hown, hts⟩, hK, hA, hlk, hSC, hR⟩ := C
  exact fun ls H locs hl hP hD hS => lv_iand hx hb d (k ls H locs hl hP hD hS)
theorem g_ior {x y : Int32} (C : Cx X cc nL own rm) (d : decode cc pc = .ok (.ior, 1)) (k : GG X nL P K I O J nc ns (pc + 1) L (.int (x ||| y) :: st)) : GG X nL P K I O J nc ns pc L (.int y :: .int x :: st) := by
  obtain ⟨p, l, e, R, s, m, args, below, meth, c, Q, A, D, cy, ad⟩ := X
  obtain ⟨⟨hx, hb, hml, hown, hts⟩, hK, hA, hlk, hSC, hR⟩ := C
  exact fun ls H locs hl hP hD hS => lv_ior hx hb d (k ls H locs hl hP hD hS)
theorem g_ixor {x y : Int32} (C : Cx X cc nL own rm) (d : decode cc pc = .ok (.ixor, 1)) (k : GG X nL P K I O J nc ns (pc + 1) L (.int (x ^^^ y) :: st)) : GG X nL P K I O J nc ns pc L (.int y :: .int x :: st) := by
  obtain ⟨p, l, e, R, s, m, args, below, meth, c, Q, A, D, cy, ad⟩ := X
  obtain ⟨⟨hx, hb, hml, hown, hts⟩, hK, hA, hlk, hSC, hR⟩ := C
  exact fun ls H locs hl hP hD hS => lv_ixor hx hb d (k ls H locs hl hP hD hS)
theorem g_idiv {x y : Int32} (C : Cx X cc nL own rm) (d : decode cc pc = .ok (.idiv, 1)) (hne : ¬ y = 0) (k : GG X nL P K I O J nc ns (pc + 1) L (.int (x / y) :: st)) : GG X nL P K I O J nc ns pc L (.int y :: .int x :: st) := by
  obtain ⟨p, l, e, R, s, m, args, below, meth, c, Q, A, D, cy, ad⟩ := X
  obtain ⟨⟨hx, hb, hml, hown, hts⟩, hK, hA, hlk, hSC, hR⟩ := C
  exact fun ls H locs hl hP hD hS => lv_idiv hx hb d hne (k ls H locs hl hP hD hS)
theorem g_ladd {x y : Int64} (C : Cx X cc nL own rm) (d : decode cc pc = .ok (.ladd, 1)) (k : GG X nL P K I O J nc ns (pc + 1) L (.long (x + y) :: st)) : GG X nL P K I O J nc ns pc L (.long y :: .long x :: st) := by
  obtain ⟨p, l, e, R, s, m, args, below, meth, c, Q, A, D, cy, ad⟩ := X
  obtain ⟨⟨hx, hb, hml, hown, hts⟩, hK, hA, hlk, hSC, hR⟩ := C
  exact fun ls H locs hl hP hD hS => lv_ladd hx hb d (k ls H locs hl hP hD hS)
theorem g_lsub {x y : Int64} (C : Cx X cc nL own rm) (d : decode cc pc = .ok (.lsub, 1)) (k : GG X nL P K I O J nc ns (pc + 1) L (.long (x - y) :: st)) : GG X nL P K I O J nc ns pc L (.long y :: .long x :: st) := by
  obtain ⟨p, l, e, R, s, m, args, below, meth, c, Q, A, D, cy, ad⟩ := X
  obtain ⟨⟨hx, hb, hml, hown, hts⟩, hK, hA, hlk, hSC, hR⟩ := C
  exact fun ls H locs hl hP hD hS => lv_lsub hx hb d (k ls H locs hl hP hD hS)
theorem g_lmul {x y : Int64} (C : Cx X cc nL own rm) (d : decode cc pc = .ok (.lmul, 1)) (k : GG X nL P K I O J nc ns (pc + 1) L (.long (x * y) :: st)) : GG X nL P K I O J nc ns pc L (.long y :: .long x :: st) := by
  obtain ⟨p, l, e, R, s, m, args, below, meth, c, Q, A, D, cy, ad⟩ := X
  obtain ⟨⟨hx, hb, hml, hown, hts⟩, hK, hA, hlk, hSC, hR⟩ := C
  exact fun ls H locs hl hP hD hS => lv_lmul hx hb d (k ls H locs hl hP hD hS)
theorem g_land {x y : Int64} (C : Cx X cc nL own rm) (d : decode cc pc = .ok (.land, 1)) (k : GG X nL P K I O J nc ns (pc + 1) L (.long (x &&& y) :: st)) : GG X nL P K I O J nc ns pc L (.long y :: .long x :: st) := by
  obtain ⟨p, l, e, R, s, m, args, below, meth, c, Q, A, D, cy, ad⟩ := X
  obtain ⟨⟨hx, hb, hml, hown, hts⟩, hK, hA, hlk, hSC, hR⟩ := C
  exact fun ls H locs hl hP hD hS => lv_land hx hb d (k ls H locs hl hP hD hS)
theorem g_lor {x y : Int64} (C : Cx X cc nL own rm) (d : decode cc pc = .ok (.lor, 1)) (k : GG X nL P K I O J nc ns (pc + 1) L (.long (x ||| y) :: st)) : GG X nL P K I O J nc ns pc L (.long y :: .long x :: st) := by
  obtain ⟨p, l, e, R, s, m, args, below, meth, c, Q, A, D, cy, ad⟩ := X
  obtain ⟨⟨hx, hb, hml, hown, hts⟩, hK, hA, hlk, hSC, hR⟩ := C
  exact fun ls H locs hl hP hD hS => lv_lor hx hb d (k ls H locs hl hP hD hS)
theorem g_lxor {x y : Int64} (C : Cx X cc nL own rm) (d : decode cc pc = .ok (.lxor, 1)) (k : GG X nL P K I O J nc ns (pc + 1) L (.long (x ^^^ y) :: st)) : GG X nL P K I O J nc ns pc L (.long y :: .long x :: st) := by
  obtain ⟨p, l, e, R, s, m, args, below, meth, c, Q, A, D, cy, ad⟩ := X
  obtain ⟨⟨hx, hb, hml, hown, hts⟩, hK, hA, hlk, hSC, hR⟩ := C
  exact fun ls H locs hl hP hD hS => lv_lxor hx hb d (k ls H locs hl hP hD hS)
theorem g_ldiv {x y : Int64} (C : Cx X cc nL own rm) (d : decode cc pc = .ok (.ldiv, 1)) (hne : ¬ y = 0) (k : GG X nL P K I O J nc ns (pc + 1) L (.long (x / y) :: st)) : GG X nL P K I O J nc ns pc L (.long y :: .long x :: st) := by
  obtain ⟨p, l, e, R, s, m, args, below, meth, c, Q, A, D, cy, ad⟩ := X
  obtain ⟨⟨hx, hb, hml, hown, hts⟩, hK, hA, hlk, hSC, hR⟩ := C
  exact fun ls H locs hl hP hD hS => lv_ldiv hx hb d hne (k ls H locs hl hP hD hS)
theorem g_irem {x y : Int32} (C : Cx X cc nL own rm) (d : decode cc pc = .ok (.irem, 1)) (hne : ¬ y = 0) (k : GG X nL P K I O J nc ns (pc + 1) L (.int (x - x / y * y) :: st)) : GG X nL P K I O J nc ns pc L (.int y :: .int x :: st) := by
  obtain ⟨p, l, e, R, s, m, args, below, meth, c, Q, A, D, cy, ad⟩ := X
  obtain ⟨⟨hx, hb, hml, hown, hts⟩, hK, hA, hlk, hSC, hR⟩ := C
  exact fun ls H locs hl hP hD hS => lv_irem hx hb d hne (k ls H locs hl hP hD hS)
theorem g_ineg {x : Int32} (C : Cx X cc nL own rm) (d : decode cc pc = .ok (.ineg, 1)) (k : GG X nL P K I O J nc ns (pc + 1) L (.int (-x) :: st)) : GG X nL P K I O J nc ns pc L (.int x :: st) := by
  obtain ⟨p, l, e, R, s, m, args, below, meth, c, Q, A, D, cy, ad⟩ := X
  obtain ⟨⟨hx, hb, hml, hown, hts⟩, hK, hA, hlk, hSC, hR⟩ := C
  exact fun ls H locs hl hP hD hS => lv_ineg hx hb d (k ls H locs hl hP hD hS)
theorem g_ishl {x y : Int32} (C : Cx X cc nL own rm) (d : decode cc pc = .ok (.ishl, 1)) (k : GG X nL P K I O J nc ns (pc + 1) L (.int (x <<< (y &&& 31)) :: st)) : GG X nL P K I O J nc ns pc L (.int y :: .int x :: st) := by
  obtain ⟨p, l, e, R, s, m, args, below, meth, c, Q, A, D, cy, ad⟩ := X
  obtain ⟨⟨hx, hb, hml, hown, hts⟩, hK, hA, hlk, hSC, hR⟩ := C
  exact fun ls H locs hl hP hD hS => lv_ishl hx hb d (k ls H locs hl hP hD hS)
theorem g_ishr {x y : Int32} (C : Cx X cc nL own rm) (d : decode cc pc = .ok (.ishr, 1)) (k : GG X nL P K I O J nc ns (pc + 1) L (.int (x >>> (y &&& 31)) :: st)) : GG X nL P K I O J nc ns pc L (.int y :: .int x :: st) := by
  obtain ⟨p, l, e, R, s, m, args, below, meth, c, Q, A, D, cy, ad⟩ := X
  obtain ⟨⟨hx, hb, hml, hown, hts⟩, hK, hA, hlk, hSC, hR⟩ := C
  exact fun ls H locs hl hP hD hS => lv_ishr hx hb d (k ls H locs hl hP hD hS)
theorem g_i2l {x : Int32} (C : Cx X cc nL own rm) (d : decode cc pc = .ok (.i2l, 1)) (k : GG X nL P K I O J nc ns (pc + 1) L (.long x.toInt64 :: st)) : GG X nL P K I O J nc ns pc L (.int x :: st) := by
  obtain ⟨p, l, e, R, s, m, args, below, meth, c, Q, A, D, cy, ad⟩ := X
  obtain ⟨⟨hx, hb, hml, hown, hts⟩, hK, hA, hlk, hSC, hR⟩ := C
  exact fun ls H locs hl hP hD hS => lv_i2l hx hb d rfl (k ls H locs hl hP hD hS)
theorem g_l2i {x : Int64} (C : Cx X cc nL own rm) (d : decode cc pc = .ok (.l2i, 1)) (k : GG X nL P K I O J nc ns (pc + 1) L (.int x.toInt32 :: st)) : GG X nL P K I O J nc ns pc L (.long x :: st) := by
  obtain ⟨p, l, e, R, s, m, args, below, meth, c, Q, A, D, cy, ad⟩ := X
  obtain ⟨⟨hx, hb, hml, hown, hts⟩, hK, hA, hlk, hSC, hR⟩ := C
  exact fun ls H locs hl hP hD hS => lv_l2i hx hb d rfl (k ls H locs hl hP hD hS)
theorem g_i2b {x : Int32} (C : Cx X cc nL own rm) (d : decode cc pc = .ok (.i2b, 1)) (k : GG X nL P K I O J nc ns (pc + 1) L (.int x.toInt8.toInt32 :: st)) : GG X nL P K I O J nc ns pc L (.int x :: st) := by
  obtain ⟨p, l, e, R, s, m, args, below, meth, c, Q, A, D, cy, ad⟩ := X
  obtain ⟨⟨hx, hb, hml, hown, hts⟩, hK, hA, hlk, hSC, hR⟩ := C
  exact fun ls H locs hl hP hD hS => lv_i2b hx hb d rfl (k ls H locs hl hP hD hS)
theorem g_lcmp {x y : Int64} (C : Cx X cc nL own rm) (d : decode cc pc = .ok (.lcmp, 1)) (k : GG X nL P K I O J nc ns (pc + 1) L (.int (lg_cmp x y) :: st)) : GG X nL P K I O J nc ns pc L (.long y :: .long x :: st) := by
  obtain ⟨p, l, e, R, s, m, args, below, meth, c, Q, A, D, cy, ad⟩ := X
  obtain ⟨⟨hx, hb, hml, hown, hts⟩, hK, hA, hlk, hSC, hR⟩ := C
  exact fun ls H locs hl hP hD hS => W.lcmp hx hb d (k ls H locs hl hP hD hS)
theorem g_dup {v : Value} (C : Cx X cc nL own rm) (d : decode cc pc = .ok (.dup, 1)) (hv : v.category = 1) (k : GG X nL P K I O J nc ns (pc + 1) L (v :: v :: st)) : GG X nL P K I O J nc ns pc L (v :: st) := by
  obtain ⟨p, l, e, R, s, m, args, below, meth, c, Q, A, D, cy, ad⟩ := X
  obtain ⟨⟨hx, hb, hml, hown, hts⟩, hK, hA, hlk, hSC, hR⟩ := C
  exact fun ls H locs hl hP hD hS => lv_dup hx hb d hv (k ls H locs hl hP hD hS)
theorem g_pop {v : Value} (C : Cx X cc nL own rm) (d : decode cc pc = .ok (.pop, 1)) (hv : v.category = 1) (k : GG X nL P K I O J nc ns (pc + 1) L (st)) : GG X nL P K I O J nc ns pc L (v :: st) := by
  obtain ⟨p, l, e, R, s, m, args, below, meth, c, Q, A, D, cy, ad⟩ := X
  obtain ⟨⟨hx, hb, hml, hown, hts⟩, hK, hA, hlk, hSC, hR⟩ := C
  exact fun ls H locs hl hP hD hS => lv_pop hx hb d hv (k ls H locs hl hP hD hS)
theorem g_dup2 {v w : Value} (C : Cx X cc nL own rm) (d : decode cc pc = .ok (.dup2, 1)) (hv : v.category = 1) (hw : w.category = 1) (k : GG X nL P K I O J nc ns (pc + 1) L (v :: w :: v :: w :: st)) : GG X nL P K I O J nc ns pc L (v :: w :: st) := by
  obtain ⟨p, l, e, R, s, m, args, below, meth, c, Q, A, D, cy, ad⟩ := X
  obtain ⟨⟨hx, hb, hml, hown, hts⟩, hK, hA, hlk, hSC, hR⟩ := C
  exact fun ls H locs hl hP hD hS => lv_dup2_11 hx hb d hv hw (k ls H locs hl hP hD hS)
theorem g_icmp_eq {x y : Int32} {off : Int} (tgt : Nat) (C : Cx X cc nL own rm) (d : decode cc pc = .ok (.if_icmp .eq off, 3)) (ht : (pc : Int) + off = (tgt : Int)) (kt : x = y → GG X nL P K I O J nc ns tgt L st) (kf : ¬ x = y → GG X nL P K I O J nc ns (pc + 3) L st) : GG X nL P K I O J nc ns pc L (.int y :: .int x :: st) := by
  obtain ⟨p, l, e, R, s, m, args, below, meth, c, Q, A, D, cy, ad⟩ := X
  obtain ⟨⟨hx, hb, hml, hown, hts⟩, hK, hA, hlk, hSC, hR⟩ := C
  exact fun ls H locs hl hP hD hS => lv_icmp_eq hx hb d ht (fun h => kt h ls H locs hl hP hD hS) (fun h => kf h ls H locs hl hP hD hS)
theorem g_if_eq {x : Int32} {off : Int} (tgt : Nat) (C : Cx X cc nL own rm) (d : decode cc pc = .ok (.ifCond .eq off, 3)) (ht : (pc : Int) + off = (tgt : Int)) (kt : x = 0 → GG X nL P K I O J nc ns tgt L st) (kf : ¬ x = 0 → GG X nL P K I O J nc ns (pc + 3) L st) : GG X nL P K I O J nc ns pc L (.int x :: st) := by
  obtain ⟨p, l, e, R, s, m, args, below, meth, c, Q, A, D, cy, ad⟩ := X
  obtain ⟨⟨hx, hb, hml, hown, hts⟩, hK, hA, hlk, hSC, hR⟩ := C
  exact fun ls H locs hl hP hD hS => lv_if_eq hx hb d ht (fun h => kt h ls H locs hl hP hD hS) (fun h => kf h ls H locs hl hP hD hS)
theorem g_icmp_ne {x y : Int32} {off : Int} (tgt : Nat) (C : Cx X cc nL own rm) (d : decode cc pc = .ok (.if_icmp .ne off, 3)) (ht : (pc : Int) + off = (tgt : Int)) (kt : ¬ x = y → GG X nL P K I O J nc ns tgt L st) (kf : x = y → GG X nL P K I O J nc ns (pc + 3) L st) : GG X nL P K I O J nc ns pc L (.int y :: .int x :: st) := by
  obtain ⟨p, l, e, R, s, m, args, below, meth, c, Q, A, D, cy, ad⟩ := X
  obtain ⟨⟨hx, hb, hml, hown, hts⟩, hK, hA, hlk, hSC, hR⟩ := C
  exact fun ls H locs hl hP hD hS => lv_icmp_ne hx hb d ht (fun h => kt h ls H locs hl hP hD hS) (fun h => kf h ls H locs hl hP hD hS)
theorem g_if_ne {x : Int32} {off : Int} (tgt : Nat) (C : Cx X cc nL own rm) (d : decode cc pc = .ok (.ifCond .ne off, 3)) (ht : (pc : Int) + off = (tgt : Int)) (kt : ¬ x = 0 → GG X nL P K I O J nc ns tgt L st) (kf : x = 0 → GG X nL P K I O J nc ns (pc + 3) L st) : GG X nL P K I O J nc ns pc L (.int x :: st) := by
  obtain ⟨p, l, e, R, s, m, args, below, meth, c, Q, A, D, cy, ad⟩ := X
  obtain ⟨⟨hx, hb, hml, hown, hts⟩, hK, hA, hlk, hSC, hR⟩ := C
  exact fun ls H locs hl hP hD hS => lv_if_ne hx hb d ht (fun h => kt h ls H locs hl hP hD hS) (fun h => kf h ls H locs hl hP hD hS)
theorem g_icmp_lt {x y : Int32} {off : Int} (tgt : Nat) (C : Cx X cc nL own rm) (d : decode cc pc = .ok (.if_icmp .lt off, 3)) (ht : (pc : Int) + off = (tgt : Int)) (kt : x < y → GG X nL P K I O J nc ns tgt L st) (kf : ¬ x < y → GG X nL P K I O J nc ns (pc + 3) L st) : GG X nL P K I O J nc ns pc L (.int y :: .int x :: st) := by
  obtain ⟨p, l, e, R, s, m, args, below, meth, c, Q, A, D, cy, ad⟩ := X
  obtain ⟨⟨hx, hb, hml, hown, hts⟩, hK, hA, hlk, hSC, hR⟩ := C
  exact fun ls H locs hl hP hD hS => lv_icmp_lt hx hb d ht (fun h => kt h ls H locs hl hP hD hS) (fun h => kf h ls H locs hl hP hD hS)
theorem g_if_lt {x : Int32} {off : Int} (tgt : Nat) (C : Cx X cc nL own rm) (d : decode cc pc = .ok (.ifCond .lt off, 3)) (ht : (pc : Int) + off = (tgt : Int)) (kt : x < 0 → GG X nL P K I O J nc ns tgt L st) (kf : ¬ x < 0 → GG X nL P K I O J nc ns (pc + 3) L st) : GG X nL P K I O J nc ns pc L (.int x :: st) := by
  obtain ⟨p, l, e, R, s, m, args, below, meth, c, Q, A, D, cy, ad⟩ := X
  obtain ⟨⟨hx, hb, hml, hown, hts⟩, hK, hA, hlk, hSC, hR⟩ := C
  exact fun ls H locs hl hP hD hS => lv_if_lt hx hb d ht (fun h => kt h ls H locs hl hP hD hS) (fun h => kf h ls H locs hl hP hD hS)
theorem g_icmp_ge {x y : Int32} {off : Int} (tgt : Nat) (C : Cx X cc nL own rm) (d : decode cc pc = .ok (.if_icmp .ge off, 3)) (ht : (pc : Int) + off = (tgt : Int)) (kt : y ≤ x → GG X nL P K I O J nc ns tgt L st) (kf : ¬ y ≤ x → GG X nL P K I O J nc ns (pc + 3) L st) : GG X nL P K I O J nc ns pc L (.int y :: .int x :: st) := by
  obtain ⟨p, l, e, R, s, m, args, below, meth, c, Q, A, D, cy, ad⟩ := X
  obtain ⟨⟨hx, hb, hml, hown, hts⟩, hK, hA, hlk, hSC, hR⟩ := C
  exact fun ls H locs hl hP hD hS => lv_icmp_ge hx hb d ht (fun h => kt h ls H locs hl hP hD hS) (fun h => kf h ls H locs hl hP hD hS)
theorem g_if_ge {x : Int32} {off : Int} (tgt : Nat) (C : Cx X cc nL own rm) (d : decode cc pc = .ok (.ifCond .ge off, 3)) (ht : (pc : Int) + off = (tgt : Int)) (kt : 0 ≤ x → GG X nL P K I O J nc ns tgt L st) (kf : ¬ 0 ≤ x → GG X nL P K I O J nc ns (pc + 3) L st) : GG X nL P K I O J nc ns pc L (.int x :: st) := by
  obtain ⟨p, l, e, R, s, m, args, below, meth, c, Q, A, D, cy, ad⟩ := X
  obtain ⟨⟨hx, hb, hml, hown, hts⟩, hK, hA, hlk, hSC, hR⟩ := C
  exact fun ls H locs hl hP hD hS => lv_if_ge hx hb d ht (fun h => kt h ls H locs hl hP hD hS) (fun h => kf h ls H locs hl hP hD hS)
theorem g_icmp_gt {x y : Int32} {off : Int} (tgt : Nat) (C : Cx X cc nL own rm) (d : decode cc pc = .ok (.if_icmp .gt off, 3)) (ht : (pc : Int) + off = (tgt : Int)) (kt : y < x → GG X nL P K I O J nc ns tgt L st) (kf : ¬ y < x → GG X nL P K I O J nc ns (pc + 3) L st) : GG X nL P K I O J nc ns pc L (.int y :: .int x :: st) := by
  obtain ⟨p, l, e, R, s, m, args, below, meth, c, Q, A, D, cy, ad⟩ := X
  obtain ⟨⟨hx, hb, hml, hown, hts⟩, hK, hA, hlk, hSC, hR⟩ := C
  exact fun ls H locs hl hP hD hS => lv_icmp_gt hx hb d ht (fun h => kt h ls H locs hl hP hD hS) (fun h => kf h ls H locs hl hP hD hS)
theorem g_if_gt {x : Int32} {off : Int} (tgt : Nat) (C : Cx X cc nL own rm) (d : decode cc pc = .ok (.ifCond .gt off, 3)) (ht : (pc : Int) + off = (tgt : Int)) (kt : 0 < x → GG X nL P K I O J nc ns tgt L st) (kf : ¬ 0 < x → GG X nL P K I O J nc ns (pc + 3) L st) : GG X nL P K I O J nc ns pc L (.int x :: st) := by
  obtain ⟨p, l, e, R, s, m, args, below, meth, c, Q, A, D, cy, ad⟩ := X
  obtain ⟨⟨hx, hb, hml, hown, hts⟩, hK, hA, hlk, hSC, hR⟩ := C
  exact fun ls H locs hl hP hD hS => lv_if_gt hx hb d ht (fun h => kt h ls H locs hl hP hD hS) (fun h => kf h ls H locs hl hP hD hS)
theorem g_icmp_le {x y : Int32} {off : Int} (tgt : Nat) (C : Cx X cc nL own rm) (d : decode cc pc = .ok (.if_icmp .le off, 3)) (ht : (pc : Int) + off = (tgt : Int)) (kt : x ≤ y → GG X nL P K I O J nc ns tgt L st) (kf : ¬ x ≤ y → GG X nL P K I O J nc ns (pc + 3) L st) : GG X nL P K I O J nc ns pc L (.int y :: .int x :: st) := by
  obtain ⟨p, l, e, R, s, m, args, below, meth, c, Q, A, D, cy, ad⟩ := X
  obtain ⟨⟨hx, hb, hml, hown, hts⟩, hK, hA, hlk, hSC, hR⟩ := C
  exact fun ls H locs hl hP hD hS => lv_icmp_le hx hb d ht (fun h => kt h ls H locs hl hP hD hS) (fun h => kf h ls H locs hl hP hD hS)
theorem g_if_le {x : Int32} {off : Int} (tgt : Nat) (C : Cx X cc nL own rm) (d : decode cc pc = .ok (.ifCond .le off, 3)) (ht : (pc : Int) + off = (tgt : Int)) (kt : x ≤ 0 → GG X nL P K I O J nc ns tgt L st) (kf : ¬ x ≤ 0 → GG X nL P K I O J nc ns (pc + 3) L st) : GG X nL P K I O J nc ns pc L (.int x :: st) := by
  obtain ⟨p, l, e, R, s, m, args, below, meth, c, Q, A, D, cy, ad⟩ := X
  obtain ⟨⟨hx, hb, hml, hown, hts⟩, hK, hA, hlk, hSC, hR⟩ := C
  exact fun ls H locs hl hP hD hS => lv_if_le hx hb d ht (fun h => kt h ls H locs hl hP hD hS) (fun h => kf h ls H locs hl hP hD hS)
theorem g_goto {off : Int} (tgt : Nat) (C : Cx X cc nL own rm) (d : decode cc pc = .ok (.goto off, 3)) (ht : (pc : Int) + off = (tgt : Int)) (k : GG X nL P K I O J nc ns tgt L st) : GG X nL P K I O J nc ns pc L st := by
  obtain ⟨p, l, e, R, s, m, args, below, meth, c, Q, A, D, cy, ad⟩ := X
  obtain ⟨⟨hx, hb, hml, hown, hts⟩, hK, hA, hlk, hSC, hR⟩ := C
  exact fun ls H locs hl hP hD hS => lv_goto hx hb d ht (k ls H locs hl hP hD hS)
theorem g_ifnonnull {x : Nat} {off : Int} (tgt : Nat) (C : Cx X cc nL own rm) (d : decode cc pc = .ok (.ifnonnull off, 3)) (ht : (pc : Int) + off = (tgt : Int)) (k : GG X nL P K I O J nc ns tgt L st) : GG X nL P K I O J nc ns pc L (.ref x :: st) := by
  obtain ⟨p, l, e, R, s, m, args, below, meth, c, Q, A, D, cy, ad⟩ := X
  obtain ⟨⟨hx, hb, hml, hown, hts⟩, hK, hA, hlk, hSC, hR⟩ := C
  exact fun ls H locs hl hP hD hS => lv_ifnonnull hx hb d ht (k ls H locs hl hP hD hS)
theorem g_ifnull {x : Nat} {off : Int} (C : Cx X cc nL own rm) (d : decode cc pc = .ok (.ifnull off, 3)) (k : GG X nL P K I O J nc ns (pc + 3) L st) : GG X nL P K I O J nc ns pc L (.ref x :: st) := by
  obtain ⟨p, l, e, R, s, m, args, below, meth, c, Q, A, D, cy, ad⟩ := X
  obtain ⟨⟨hx, hb, hml, hown, hts⟩, hK, hA, hlk, hSC, hR⟩ := C
  exact fun ls H locs hl hP hD hS => lv_ifnull hx hb d (k ls H locs hl hP hD hS)
theorem g_ifnonnullN {off : Int} (C : Cx X cc nL own rm) (d : decode cc pc = .ok (.ifnonnull off, 3)) (k : GG X nL P K I O J nc ns (pc + 3) L st) : GG X nL P K I O J nc ns pc L (.null :: st) := by
  obtain ⟨p, l, e, R, s, m, args, below, meth, c, Q, A, D, cy, ad⟩ := X
  obtain ⟨⟨hx, hb, hml, hown, hts⟩, hK, hA, hlk, hSC, hR⟩ := C
  exact fun ls H locs hl hP hD hS => lv_ifnonnullN hx hb d (k ls H locs hl hP hD hS)
theorem g_ifnullN {off : Int} (tgt : Nat) (C : Cx X cc nL own rm) (d : decode cc pc = .ok (.ifnull off, 3)) (ht : (pc : Int) + off = (tgt : Int)) (k : GG X nL P K I O J nc ns tgt L st) : GG X nL P K I O J nc ns pc L (.null :: st) := by
  obtain ⟨p, l, e, R, s, m, args, below, meth, c, Q, A, D, cy, ad⟩ := X
  obtain ⟨⟨hx, hb, hml, hown, hts⟩, hK, hA, hlk, hSC, hR⟩ := C
  exact fun ls H locs hl hP hD hS => lv_ifnullN hx hb d ht (k ls H locs hl hP hD hS)
theorem g_tOut {dflt lo hi : Int} {offs : Array Int} {len : Nat} {x : Int32} (tgt : Nat) (C : Cx X cc nL own rm) (d : decode cc pc = .ok (.tableswitch dflt lo hi offs, len)) (h : x.toInt < lo ∨ hi < x.toInt) (ht : (pc : Int) + dflt = (tgt : Int)) (k : GG X nL P K I O J nc ns tgt L st) : GG X nL P K I O J nc ns pc L (.int x :: st) := by
  obtain ⟨p, l, e, R, s, m, args, below, meth, c, Q, A, D, cy, ad⟩ := X
  obtain ⟨⟨hx, hb, hml, hown, hts⟩, hK, hA, hlk, hSC, hR⟩ := C
  exact fun ls H locs hl hP hD hS => lv_tableOut hx hb d h ht (k ls H locs hl hP hD hS)
theorem g_tIn {dflt lo hi : Int} {offs : Array Int} {len : Nat} {x : Int32} {off : Int} (tgt : Nat) (C : Cx X cc nL own rm) (d : decode cc pc = .ok (.tableswitch dflt lo hi offs, len)) (h1 : ¬ x.toInt < lo) (h2 : ¬ hi < x.toInt) (ho : offs[(x.toInt - lo).toNat]? = some off) (ht : (pc : Int) + off = (tgt : Int)) (k : GG X nL P K I O J nc ns tgt L st) : GG X nL P K I O J nc ns pc L (.int x :: st) := by
  obtain ⟨p, l, e, R, s, m, args, below, meth, c, Q, A, D, cy, ad⟩ := X
  obtain ⟨⟨hx, hb, hml, hown, hts⟩, hK, hA, hlk, hSC, hR⟩ := C
  exact fun ls H locs hl hP hD hS => lv_tableIn hx hb d h1 h2 ho ht (k ls H locs hl hP hD hS)
theorem g_geti {idx κ f a : Nat} (C : Cx X cc nL own rm) (d : decode cc pc = .ok (.getfield idx, 3)) (h : FL own idx κ f 0) (ha : a ∈ P ∧ K a = κ) (k : GG X nL P K I O J nc ns (pc + 3) L (.int (I a f) :: st)) : GG X nL P K I O J nc ns pc L (.ref a :: st) := by
  obtain ⟨p, l, e, R, s, m, args, below, meth, c, Q, A, D, cy, ad⟩ := X
  obtain ⟨⟨hx, hb, hml, hown, hts⟩, hK, hA, hlk, hSC, hR⟩ := C
  obtain ⟨hw, hκ, hf, ht⟩ := h
  intro ls H locs hl hP hD hS
  obtain ⟨q, hq, he⟩ := pw_o (cy := cy) (I := I) (O := O) (J := J) ha hκ
  have hv : ((List.range (nf κ)).map (fvr (I a) (O a) (J a) κ))[f]? = some (.int (I a f)) := by rw [fvr_at hf]; unfold fvr; rw [ht] <;> rfl
  rcases hw with hw | ⟨host, hw⟩
  · exact va_get hx hb hts (lays_in hκ) hown hK hP q (hq.trans (congrArg (fun z => some (a, z)) he)) (cl_at κ hκ) f hf (hts _ hw) (fun _ z => z) hv d (k ls H locs hl hP hD hS)
  · exact va_getN hx hb hts (lays_in hκ) hown hK hP q (hq.trans (congrArg (fun z => some (a, z)) he)) (cl_at κ hκ) f hf (hSC.2.2.1.use hw) (fun _ z => z) hv d (k ls H locs hl hP hD hS)
theorem g_getr {idx κ f a : Nat} (C : Cx X cc nL own rm) (d : decode cc pc = .ok (.getfield idx, 3)) (h : FL own idx κ f 1) (ha : a ∈ P ∧ K a = κ) (k : GG X nL P K I O J nc ns (pc + 3) L (va_rf (O a f) :: st)) : GG X nL P K I O J nc ns pc L (.ref a :: st) := by
  obtain ⟨p, l, e, R, s, m, args, below, meth, c, Q, A, D, cy, ad⟩ := X
  obtain ⟨⟨hx, hb, hml, hown, hts⟩, hK, hA, hlk, hSC, hR⟩ := C
  obtain ⟨hw, hκ, hf, ht⟩ := h
  intro ls H locs hl hP hD hS
  obtain ⟨q, hq, he⟩ := pw_o (cy := cy) (I := I) (O := O) (J := J) ha hκ
  have hv : ((List.range (nf κ)).map (fvr (I a) (O a) (J a) κ))[f]? = some (va_rf (O a f)) := by rw [fvr_at hf]; unfold fvr; rw [ht] <;> rfl
  rcases hw with hw | ⟨host, hw⟩
  · exact va_get hx hb hts (lays_in hκ) hown hK hP q (hq.trans (congrArg (fun z => some (a, z)) he)) (cl_at κ hκ) f hf (hts _ hw) (fun _ z => z) hv d (k ls H locs hl hP hD hS)
  · exact va_getN hx hb hts (lays_in hκ) hown hK hP q (hq.trans (congrArg (fun z => some (a, z)) he)) (cl_at κ hκ) f hf (hSC.2.2.1.use hw) (fun _ z => z) hv d (k ls H locs hl hP hD hS)
theorem g_getl {idx κ f a : Nat} (C : Cx X cc nL own rm) (d : decode cc pc = .ok (.getfield idx, 3)) (h : FL own idx κ f 2) (ha : a ∈ P ∧ K a = κ) (k : GG X nL P K I O J nc ns (pc + 3) L (.long (J a f) :: st)) : GG X nL P K I O J nc ns pc L (.ref a :: st) := by
  obtain ⟨p, l, e, R, s, m, args, below, meth, c, Q, A, D, cy, ad⟩ := X
  obtain ⟨⟨hx, hb, hml, hown, hts⟩, hK, hA, hlk, hSC, hR⟩ := C
  obtain ⟨hw, hκ, hf, ht⟩ := h
  intro ls H locs hl hP hD hS
  obtain ⟨q, hq, he⟩ := pw_o (cy := cy) (I := I) (O := O) (J := J) ha hκ
  have hv : ((List.range (nf κ)).map (fvr (I a) (O a) (J a) κ))[f]? = some (.long (J a f)) := by rw [fvr_at hf]; unfold fvr; rw [ht] <;> rfl
  rcases hw with hw | ⟨host, hw⟩
  · exact va_get hx hb hts (lays_in hκ) hown hK hP q (hq.trans (congrArg (fun z => some (a, z)) he)) (cl_at κ hκ) f hf (hts _ hw) (fun _ z => z) hv d (k ls H locs hl hP hD hS)
  · exact va_getN hx hb hts (lays_in hκ) hown hK hP q (hq.trans (congrArg (fun z => some (a, z)) he)) (cl_at κ hκ) f hf (hSC.2.2.1.use hw) (fun _ z => z) hv d (k ls H locs hl hP hD hS)
theorem g_puti {idx κ f a : Nat} {x : Int32} (C : Cx X cc nL own rm) (d : decode cc pc = .ok (.putfield idx, 3)) (h : FL own idx κ f 0) (ha : a ∈ P ∧ K a = κ) (hfin : (cT κ f).2.2.2 = false) (hn : narrow (cY κ f) (.int x) = .int x) (hfit : fits (cY κ f) (.int x) = true) (k : GG X nL P K (up2 I a f x) O J nc ns (pc + 3) L st) : GG X nL P K I O J nc ns pc L (.int x :: .ref a :: st) := by
  obtain ⟨p, l, e, R, s, m, args, below, meth, c, Q, A, D, cy, ad⟩ := X
  obtain ⟨⟨hx, hb, hml, hown, hts⟩, hK, hA, hlk, hSC, hR⟩ := C
  obtain ⟨hw, hκ, hf, ht⟩ := h
  intro ls H locs hl hP hD hS
  obtain ⟨q, hq, he⟩ := pw_o (cy := cy) (I := I) (O := O) (J := J) ha hκ
  have hlen : f < ((List.range (nf κ)).map (fvr (I a) (O a) (J a) κ)).length := by rw [List.length_map, List.length_range]; exact hf
  have kk : ∀ (H1 : Heap) (locs1 : List Loc), va_P D cl ((pw cy P K I O J).set q (a, .inr (κ, ((List.range (nf κ)).map (fvr (I a) (O a) (J a) κ)).set f (.int x)))) H1 → va_D A ((pw cy P K I O J).set q (a, .inr (κ, ((List.range (nf κ)).map (fvr (I a) (O a) (J a) κ)).set f (.int x)))) → va_S A s.heap H1 locs1 → W p l e R s m args below meth c H1 locs1 nc ns Q (F0 m (pc + 3) ls st) := by
    intro H1 locs1 h1 h2 h3
    rw [pw_set hD ha.1 hq, cE_putI ha.2 hκ ht] at h1 h2
    exact k ls H1 locs1 hl h1 h2 h3
  rcases hw with hw | ⟨host, hw⟩
  · exact va_put hx hb hts (lays_in hκ) (cY κ) (ty_in κ hκ) (nm_in κ hκ) hown hK hP hD hS q (hq.trans (congrArg (fun z => some (a, z)) he)) (cl_at κ hκ) f hf (hts _ hw) (fun _ z => z) hfin (ty_in κ hκ f hf) hn hfit hlen d kk
  · exact va_putN hx hb hts (lays_in hκ) (cY κ) (ty_in κ hκ) (nm_in κ hκ) hown hK hP hD hS q (hq.trans (congrArg (fun z => some (a, z)) he)) (cl_at κ hκ) f hf (hSC.2.2.1.use hw) (fun _ z => z) hfin (ty_in κ hκ f hf) hn hfit hlen d kk
theorem g_putr {idx κ f a : Nat} {x : Option Nat} (C : Cx X cc nL own rm) (d : decode cc pc = .ok (.putfield idx, 3)) (h : FL own idx κ f 1) (ha : a ∈ P ∧ K a = κ) (hfin : (cT κ f).2.2.2 = false) (hn : narrow (cY κ f) (va_rf x) = va_rf x) (hfit : fits (cY κ f) (va_rf x) = true) (k : GG X nL P K I (up2 O a f x) J nc ns (pc + 3) L st) : GG X nL P K I O J nc ns pc L (va_rf x :: .ref a :: st) := by
  obtain ⟨p, l, e, R, s, m, args, below, meth, c, Q, A, D, cy, ad⟩ := X
  obtain ⟨⟨hx, hb, hml, hown, hts⟩, hK, hA, hlk, hSC, hR⟩ := C
  obtain ⟨hw, hκ, hf, ht⟩ := h
  intro ls H locs hl hP hD hS
  obtain ⟨q, hq, he⟩ := pw_o (cy := cy) (I := I) (O := O) (J := J) ha hκ
  have hlen : f < ((List.range (nf κ)).map (fvr (I a) (O a) (J a) κ)).length := by rw [List.length_map, List.length_range]; exact hf
  have kk : ∀ (H1 : Heap) (locs1 : List Loc), va_P D cl ((pw cy P K I O J).set q (a, .inr (κ, ((List.range (nf κ)).map (fvr (I a) (O a) (J a) κ)).set f (va_rf x)))) H1 → va_D A ((pw cy P K I O J).set q (a, .inr (κ, ((List.range (nf κ)).map (fvr (I a) (O a) (J a) κ)).set f (va_rf x)))) → va_S A s.heap H1 locs1 → W p l e R s m args below meth c H1 locs1 nc ns Q (F0 m (pc + 3) ls st) := by
    intro H1 locs1 h1 h2 h3
    rw [pw_set hD ha.1 hq, cE_putO ha.2 hκ ht] at h1 h2
    exact k ls H1 locs1 hl h1 h2 h3
  rcases hw with hw | ⟨host, hw⟩
  · exact va_put hx hb hts (lays_in hκ) (cY κ) (ty_in κ hκ) (nm_in κ hκ) hown hK hP hD hS q (hq.trans (congrArg (fun z => some (a, z)) he)) (cl_at κ hκ) f hf (hts _ hw) (fun _ z => z) hfin (ty_in κ hκ f hf) hn hfit hlen d kk
  · exact va_putN hx hb hts (lays_in hκ) (cY κ) (ty_in κ hκ) (nm_in κ hκ) hown hK hP hD hS q (hq.trans (congrArg (fun z => some (a, z)) he)) (cl_at κ hκ) f hf (hSC.2.2.1.use hw) (fun _ z => z) hfin (ty_in κ hκ f hf) hn hfit hlen d kk
theorem g_putl {idx κ f a : Nat} {x : Int64} (C : Cx X cc nL own rm) (d : decode cc pc = .ok (.putfield idx, 3)) (h : FL own idx κ f 2) (ha : a ∈ P ∧ K a = κ) (hfin : (cT κ f).2.2.2 = false) (hn : narrow (cY κ f) (.long x) = .long x) (hfit : fits (cY κ f) (.long x) = true) (k : GG X nL P K I O (up2 J a f x) nc ns (pc + 3) L st) : GG X nL P K I O J nc ns pc L (.long x :: .ref a :: st) := by
  obtain ⟨p, l, e, R, s, m, args, below, meth, c, Q, A, D, cy, ad⟩ := X
  obtain ⟨⟨hx, hb, hml, hown, hts⟩, hK, hA, hlk, hSC, hR⟩ := C
  obtain ⟨hw, hκ, hf, ht⟩ := h
  intro ls H locs hl hP hD hS
  obtain ⟨q, hq, he⟩ := pw_o (cy := cy) (I := I) (O := O) (J := J) ha hκ
  have hlen : f < ((List.range (nf κ)).map (fvr (I a) (O a) (J a) κ)).length := by rw [List.length_map, List.length_range]; exact hf
  have kk : ∀ (H1 : Heap) (locs1 : List Loc), va_P D cl ((pw cy P K I O J).set q (a, .inr (κ, ((List.range (nf κ)).map (fvr (I a) (O a) (J a) κ)).set f (.long x)))) H1 → va_D A ((pw cy P K I O J).set q (a, .inr (κ, ((List.range (nf κ)).map (fvr (I a) (O a) (J a) κ)).set f (.long x)))) → va_S A s.heap H1 locs1 → W p l e R s m args below meth c H1 locs1 nc ns Q (F0 m (pc + 3) ls st) := by
    intro H1 locs1 h1 h2 h3
    rw [pw_set hD ha.1 hq, cE_putJ ha.2 hκ ht] at h1 h2
    exact k ls H1 locs1 hl h1 h2 h3
  rcases hw with hw | ⟨host, hw⟩
  · exact va_put hx hb hts (lays_in hκ) (cY κ) (ty_in κ hκ) (nm_in κ hκ) hown hK hP hD hS q (hq.trans (congrArg (fun z => some (a, z)) he)) (cl_at κ hκ) f hf (hts _ hw) (fun _ z => z) hfin (ty_in κ hκ f hf) hn hfit hlen d kk
  · exact va_putN hx hb hts (lays_in hκ) (cY κ) (ty_in κ hκ) (nm_in κ hκ) hown hK hP hD hS q (hq.trans (congrArg (fun z => some (a, z)) he)) (cl_at κ hκ) f hf (hSC.2.2.1.use hw) (fun _ z => z) hfin (ty_in κ hκ f hf) hn hfit hlen d kk
theorem g_alen {a κ : Nat} (C : Cx X cc nL own rm) (d : decode cc pc = .ok (.arraylength, 1)) (ha : a ∈ P ∧ K a = κ) (hκ : ¬ κ < 11) (ht : aty κ < 5) {v : Int32} (hv : Int32.ofNat (alen κ) = v) (k : GG X nL P K I O J nc ns (pc + 1) L (.int v :: st)) : GG X nL P K I O J nc ns pc L (.ref a :: st) := by
  obtain ⟨p, l, e, R, s, m, args, below, meth, c, Q, A, D, cy, ad⟩ := X
  obtain ⟨⟨hx, hb, hml, hown, hts⟩, hK, hA, hlk, hSC, hR⟩ := C
  intro ls H locs hl hP hD hS
  obtain ⟨q, hq, he⟩ := pw_a (cy := cy) (I := I) (O := O) (J := J) ha hκ
  have hq2 := hq.trans (congrArg (fun z => some (a, z)) he)
  rcases (show aty κ = 0 ∨ aty κ = 1 ∨ aty κ = 2 ∨ aty κ = 3 ∨ aty κ = 4 by omega) with e | e | e | e | e
  · exact va_alen hx hb hK hP q 0 hq2 (by rw [e]; rfl) hv d (k ls H locs hl hP hD hS)
  · exact va_alen hx hb hK hP q 1 hq2 (by rw [e]; rfl) hv d (k ls H locs hl hP hD hS)
  · exact va_alen hx hb hK hP q 2 hq2 (by rw [e]; rfl) hv d (k ls H locs hl hP hD hS)
  · exact va_alen hx hb hK hP q 3 hq2 (by rw [e]; rfl) hv d (k ls H locs hl hP hD hS)
  · exact va_alen hx hb hK hP q 4 hq2 (by rw [e]; rfl) hv d (k ls H locs hl hP hD hS)
theorem g_iald {a κ : Nat} {i : Int32} (C : Cx X cc nL own rm) (d : decode cc pc = .ok (.iaload, 1)) (ha : a ∈ P ∧ K a = κ) (hκ : ¬ κ < 11) (ht : aty κ = 1) (hi : vp_in i (alen κ)) (k : GG X nL P K I O J nc ns (pc + 1) L (.int (I a i.toNatClampNeg) :: st)) : GG X nL P K I O J nc ns pc L (.int i :: .ref a :: st) := by
  obtain ⟨p, l, e, R, s, m, args, below, meth, c, Q, A, D, cy, ad⟩ := X
  obtain ⟨⟨hx, hb, hml, hown, hts⟩, hK, hA, hlk, hSC, hR⟩ := C
  intro ls H locs hl hP hD hS
  obtain ⟨q, hq, he⟩ := pw_a (cy := cy) (I := I) (O := O) (J := J) ha hκ
  rw [ht] at he
  exact va_iald hx hb hK hP q 1 (hq.trans (congrArg (fun z => some (a, z)) he)) rfl hi d (k ls H locs hl hP hD hS)
theorem g_bald {a κ : Nat} {i : Int32} (C : Cx X cc nL own rm) (d : decode cc pc = .ok (.baload, 1)) (ha : a ∈ P ∧ K a = κ) (hκ : ¬ κ < 11) (ht : aty κ = 0) (hi : vp_in i (alen κ)) (k : GG X nL P K I O J nc ns (pc + 1) L (.int (I a i.toNatClampNeg) :: st)) : GG X nL P K I O J nc ns pc L (.int i :: .ref a :: st) := by
  obtain ⟨p, l, e, R, s, m, args, below, meth, c, Q, A, D, cy, ad⟩ := X
  obtain ⟨⟨hx, hb, hml, hown, hts⟩, hK, hA, hlk, hSC, hR⟩ := C
  intro ls H locs hl hP hD hS
  obtain ⟨q, hq, he⟩ := pw_a (cy := cy) (I := I) (O := O) (J := J) ha hκ
  rw [ht] at he
  exact va_bald hx hb hK hP q 0 (hq.trans (congrArg (fun z => some (a, z)) he)) rfl hi d (k ls H locs hl hP hD hS)
theorem g_zald {a κ : Nat} {i : Int32} (C : Cx X cc nL own rm) (d : decode cc pc = .ok (.baload, 1)) (ha : a ∈ P ∧ K a = κ) (hκ : ¬ κ < 11) (ht : aty κ = 3) (hi : vp_in i (alen κ)) (k : GG X nL P K I O J nc ns (pc + 1) L (.int (I a i.toNatClampNeg) :: st)) : GG X nL P K I O J nc ns pc L (.int i :: .ref a :: st) := by
  obtain ⟨p, l, e, R, s, m, args, below, meth, c, Q, A, D, cy, ad⟩ := X
  obtain ⟨⟨hx, hb, hml, hown, hts⟩, hK, hA, hlk, hSC, hR⟩ := C
  intro ls H locs hl hP hD hS
  obtain ⟨q, hq, he⟩ := pw_a (cy := cy) (I := I) (O := O) (J := J) ha hκ
  rw [ht] at he
  exact va_zald hx hb hK hP q 3 (hq.trans (congrArg (fun z => some (a, z)) he)) rfl hi d (k ls H locs hl hP hD hS)
theorem g_lald {a κ : Nat} {i : Int32} (C : Cx X cc nL own rm) (d : decode cc pc = .ok (.laload, 1)) (ha : a ∈ P ∧ K a = κ) (hκ : ¬ κ < 11) (ht : aty κ = 2) (hi : vp_in i (alen κ)) (k : GG X nL P K I O J nc ns (pc + 1) L (.long (J a i.toNatClampNeg) :: st)) : GG X nL P K I O J nc ns pc L (.int i :: .ref a :: st) := by
  obtain ⟨p, l, e, R, s, m, args, below, meth, c, Q, A, D, cy, ad⟩ := X
  obtain ⟨⟨hx, hb, hml, hown, hts⟩, hK, hA, hlk, hSC, hR⟩ := C
  intro ls H locs hl hP hD hS
  obtain ⟨q, hq, he⟩ := pw_a (cy := cy) (I := I) (O := O) (J := J) ha hκ
  rw [ht] at he
  exact va_lald hx hb hK hP q 2 (hq.trans (congrArg (fun z => some (a, z)) he)) rfl hi d (k ls H locs hl hP hD hS)
theorem g_aald {a κ : Nat} {i : Int32} (C : Cx X cc nL own rm) (d : decode cc pc = .ok (.aaload, 1)) (ha : a ∈ P ∧ K a = κ) (hκ : ¬ κ < 11) (ht : aty κ = 4) (hi : vp_in i (alen κ)) (k : GG X nL P K I O J nc ns (pc + 1) L (va_rf (O a i.toNatClampNeg) :: st)) : GG X nL P K I O J nc ns pc L (.int i :: .ref a :: st) := by
  obtain ⟨p, l, e, R, s, m, args, below, meth, c, Q, A, D, cy, ad⟩ := X
  obtain ⟨⟨hx, hb, hml, hown, hts⟩, hK, hA, hlk, hSC, hR⟩ := C
  intro ls H locs hl hP hD hS
  obtain ⟨q, hq, he⟩ := pw_a (cy := cy) (I := I) (O := O) (J := J) ha hκ
  rw [ht] at he
  exact va_aldq hx hb hK hP q 4 (hq.trans (congrArg (fun z => some (a, z)) he)) rfl hi d (k ls H locs hl hP hD hS)
theorem g_iast {a κ : Nat} {i : Int32} {x : Int32} (C : Cx X cc nL own rm) (d : decode cc pc = .ok (.iastore, 1)) (ha : a ∈ P ∧ K a = κ) (hκ : ¬ κ < 11) (ht : aty κ = 1) (hi : vp_in i (alen κ)) (k : GG X nL P K (up2 I a i.toNatClampNeg x) O J nc ns (pc + 1) L st) : GG X nL P K I O J nc ns pc L (.int x :: .int i :: .ref a :: st) := by
  obtain ⟨p, l, e, R, s, m, args, below, meth, c, Q, A, D, cy, ad⟩ := X
  obtain ⟨⟨hx, hb, hml, hown, hts⟩, hK, hA, hlk, hSC, hR⟩ := C
  intro ls H locs hl hP hD hS
  obtain ⟨q, hq, he⟩ := pw_a (cy := cy) (I := I) (O := O) (J := J) ha hκ
  rw [ht] at he
  refine va_iast hx hb hK hP hD hS q 1 (hq.trans (congrArg (fun z => some (a, z)) he)) rfl hi d (fun H1 locs1 h1 h2 h3 => ?_)
  have e := cE_astI (cy := cy) (I := I) (O := O) (J := J) (k := i.toNatClampNeg) (x := x) ha.2 hκ (Or.inl (by omega))
  rw [ht] at e
  rw [pw_set hD ha.1 hq, e] at h1 h2
  exact k ls H1 locs1 hl h1 h2 h3
theorem g_bast {a κ : Nat} {i : Int32} {x : Int32} (C : Cx X cc nL own rm) (d : decode cc pc = .ok (.bastore, 1)) (ha : a ∈ P ∧ K a = κ) (hκ : ¬ κ < 11) (ht : aty κ = 0) (hi : vp_in i (alen κ)) (k : GG X nL P K (up2 I a i.toNatClampNeg (vp_nar .byte x)) O J nc ns (pc + 1) L st) : GG X nL P K I O J nc ns pc L (.int x :: .int i :: .ref a :: st) := by
  obtain ⟨p, l, e, R, s, m, args, below, meth, c, Q, A, D, cy, ad⟩ := X
  obtain ⟨⟨hx, hb, hml, hown, hts⟩, hK, hA, hlk, hSC, hR⟩ := C
  intro ls H locs hl hP hD hS
  obtain ⟨q, hq, he⟩ := pw_a (cy := cy) (I := I) (O := O) (J := J) ha hκ
  rw [ht] at he
  refine va_bast hx hb hK hP hD hS q 0 (hq.trans (congrArg (fun z => some (a, z)) he)) rfl hi d (fun H1 locs1 h1 h2 h3 => ?_)
  have e := cE_astI (cy := cy) (I := I) (O := O) (J := J) (k := i.toNatClampNeg) (x := vp_nar .byte x) ha.2 hκ (Or.inl (by omega))
  rw [ht] at e
  rw [pw_set hD ha.1 hq, e] at h1 h2
  exact k ls H1 locs1 hl h1 h2 h3
theorem g_zast {a κ : Nat} {i : Int32} {x : Int32} (C : Cx X cc nL own rm) (d : decode cc pc = .ok (.bastore, 1)) (ha : a ∈ P ∧ K a = κ) (hκ : ¬ κ < 11) (ht : aty κ = 3) (hi : vp_in i (alen κ)) (k : GG X nL P K (up2 I a i.toNatClampNeg (vp_nar .boolean x)) O J nc ns (pc + 1) L st) : GG X nL P K I O J nc ns pc L (.int x :: .int i :: .ref a :: st) := by
  obtain ⟨p, l, e, R, s, m, args, below, meth, c, Q, A, D, cy, ad⟩ := X
  obtain ⟨⟨hx, hb, hml, hown, hts⟩, hK, hA, hlk, hSC, hR⟩ := C
  intro ls H locs hl hP hD hS
  obtain ⟨q, hq, he⟩ := pw_a (cy := cy) (I := I) (O := O) (J := J) ha hκ
  rw [ht] at he
  refine va_zast hx hb hK hP hD hS q 3 (hq.trans (congrArg (fun z => some (a, z)) he)) rfl hi d (fun H1 locs1 h1 h2 h3 => ?_)
  have e := cE_astI (cy := cy) (I := I) (O := O) (J := J) (k := i.toNatClampNeg) (x := vp_nar .boolean x) ha.2 hκ (Or.inr ht)
  rw [ht] at e
  rw [pw_set hD ha.1 hq, e] at h1 h2
  exact k ls H1 locs1 hl h1 h2 h3
theorem g_last {a κ : Nat} {i : Int32} {x : Int64} (C : Cx X cc nL own rm) (d : decode cc pc = .ok (.lastore, 1)) (ha : a ∈ P ∧ K a = κ) (hκ : ¬ κ < 11) (ht : aty κ = 2) (hi : vp_in i (alen κ)) (k : GG X nL P K I O (up2 J a i.toNatClampNeg x) nc ns (pc + 1) L st) : GG X nL P K I O J nc ns pc L (.long x :: .int i :: .ref a :: st) := by
  obtain ⟨p, l, e, R, s, m, args, below, meth, c, Q, A, D, cy, ad⟩ := X
  obtain ⟨⟨hx, hb, hml, hown, hts⟩, hK, hA, hlk, hSC, hR⟩ := C
  intro ls H locs hl hP hD hS
  obtain ⟨q, hq, he⟩ := pw_a (cy := cy) (I := I) (O := O) (J := J) ha hκ
  rw [ht] at he
  refine va_last hx hb hK hP hD hS q 2 (hq.trans (congrArg (fun z => some (a, z)) he)) rfl hi d (fun H1 locs1 h1 h2 h3 => ?_)
  have e := cE_astJ (cy := cy) (I := I) (O := O) (J := J) (k := i.toNatClampNeg) (x := x) ha.2 hκ (ht)
  rw [pw_set hD ha.1 hq, e] at h1 h2
  exact k ls H1 locs1 hl h1 h2 h3
theorem g_iret {v : Int32} {post : PST} (C : Cx X cc nL own rm) (E : Rx X (some .int) post rm) (d : decode cc pc = .ok (.ireturn, 1)) (h1 : nc ≤ rm.cells) (h2 : ns ≤ rm.slots) (hp : post (some (.int v)) P K I O J) : GG X nL P K I O J nc ns pc L [.int v] := by
  obtain ⟨p, l, e, R, s, m, args, below, meth, c, Q, A, D, cy, ad⟩ := X
  obtain ⟨⟨hx, hb, hml, hown, hts⟩, hK, hA, hlk, hSC, hR⟩ := C
  obtain ⟨hQ, hr⟩ := E
  subst hQ
  intro ls H locs hl hP hD hS
  refine W.widen h1 h2 ?_
  exact W.iret hx hb hr (fun t ht hW => ⟨⟨_, P, K, I, O, J, rfl, hp, by rw [ht]; exact hP, va_K.moved hW.alike hK, hD⟩, hS.F ht⟩) hS.2.2 d hlk
theorem g_lret {v : Int64} {post : PST} (C : Cx X cc nL own rm) (E : Rx X (some .long) post rm) (d : decode cc pc = .ok (.lreturn, 1)) (h1 : nc ≤ rm.cells) (h2 : ns ≤ rm.slots) (hp : post (some (.long v)) P K I O J) : GG X nL P K I O J nc ns pc L [.long v] := by
  obtain ⟨p, l, e, R, s, m, args, below, meth, c, Q, A, D, cy, ad⟩ := X
  obtain ⟨⟨hx, hb, hml, hown, hts⟩, hK, hA, hlk, hSC, hR⟩ := C
  obtain ⟨hQ, hr⟩ := E
  subst hQ
  intro ls H locs hl hP hD hS
  refine W.widen h1 h2 ?_
  exact W.lret hx hb hr (fun t ht hW => ⟨⟨_, P, K, I, O, J, rfl, hp, by rw [ht]; exact hP, va_K.moved hW.alike hK, hD⟩, hS.F ht⟩) hS.2.2 d hlk
theorem g_zret {v : Int32} {post : PST} (C : Cx X cc nL own rm) (E : Rx X (some .boolean) post rm) (d : decode cc pc = .ok (.ireturn, 1)) (hz : v = 0 ∨ v = 1) (h1 : nc ≤ rm.cells) (h2 : ns ≤ rm.slots) (hp : post (some (.int v)) P K I O J) : GG X nL P K I O J nc ns pc L [.int v] := by
  obtain ⟨p, l, e, R, s, m, args, below, meth, c, Q, A, D, cy, ad⟩ := X
  obtain ⟨⟨hx, hb, hml, hown, hts⟩, hK, hA, hlk, hSC, hR⟩ := C
  obtain ⟨hQ, hr⟩ := E
  subst hQ
  intro ls H locs hl hP hD hS
  refine W.widen h1 h2 ?_
  exact W.zret hx hb hr (by rcases hz with rfl | rfl <;> rfl) (fun t ht hW => ⟨⟨_, P, K, I, O, J, rfl, hp, by rw [ht]; exact hP, va_K.moved hW.alike hK, hD⟩, hS.F ht⟩) hS.2.2 d hlk
theorem g_vret {post : PST} (C : Cx X cc nL own rm) (E : Rx X none post rm) (d : decode cc pc = .ok (.return_, 1)) (h1 : nc ≤ rm.cells) (h2 : ns ≤ rm.slots) (hp : post none P K I O J) : GG X nL P K I O J nc ns pc L [] := by
  obtain ⟨p, l, e, R, s, m, args, below, meth, c, Q, A, D, cy, ad⟩ := X
  obtain ⟨⟨hx, hb, hml, hown, hts⟩, hK, hA, hlk, hSC, hR⟩ := C
  obtain ⟨hQ, hr⟩ := E
  subst hQ
  intro ls H locs hl hP hD hS
  refine W.widen h1 h2 ?_
  exact W.vret hx hb hr (fun t ht hW => ⟨⟨_, P, K, I, O, J, rfl, hp, by rw [ht]; exact hP, va_K.moved hW.alike hK, hD⟩, hS.F ht⟩) hS.2.2 d hlk
theorem g_callVR {idx n nL' a : Nat} {y : MethodName} {cc' : ByteArray} {rt' : Option FieldType} {rm' : Room} {post : PST} {av : AD → List Value} {rest : List Value} (C : Cx X cc nL own rm) (d : decode cc pc = .ok (.invokevirtual idx, 3)) (hm : MF y cc' nL' rt' n) (hv : MV y) (hl0 : LN own idx y) (hrc : RC X P K I O J a y.cls) (hc : ConA y cc' nL' rt' rm' P K I O J (fun ad => .ref a :: av ad) post) (hn : (av (adX X)).length = n) (hst : st = (av (adX X)).reverse ++ .ref a :: rest) (hw : (rest.map fun v => v.category).sum ≤ 8) (hR' : rm'.frames + 1 ≤ rm.frames ∧ 8 + (nL' + 11) + rm'.locals ≤ rm.locals) (hro : nc + rm'.cells ≤ rm.cells ∧ ns + rm'.slots ≤ rm.slots) (k : ∀ (r : Option Value) (P' : List Nat) (K' : Nat → Nat) (I' : Nat → Nat → Int32) (O' : Nat → Nat → Option Nat) (J' : Nat → Nat → Int64), post r P' K' I' O' J' → GG X nL P' K' I' O' J' (nc + rm'.cells) (ns + rm'.slots) (pc + 3) L (r.toList ++ rest)) : GG X nL P K I O J nc ns pc L st := by
  obtain ⟨p, l, e, R, s, m, args, below, meth, c, Q, A, D, cy, ad⟩ := X
  obtain ⟨⟨hx, hb, hml, hown, hts⟩, hK, hA, hlk, hSC, hR⟩ := C
  subst hR
  intro ls H locs hl hP hD hS T hT X0
  have hFr : ∀ q, va_A (pw cy P K I O J) H.size q → A q := by
    rintro q (⟨k1, e1, h1⟩ | h1)
    · exact hD.2 k1 (q, e1) h1
    · exact hA q (Nat.le_trans hS.1 h1)
  have kk : va_Run p l e R s m args below meth c H locs nc ns rm'.cells rm'.slots (F0 m pc ls st) rest (QQ D cy post (va_A (pw cy P K I O J) H.size) (.ref a :: av ad).toArray) (va_A (pw cy P K I O J) H.size) → ∃ t, Steps p.tables e below (T.setTop (F0 m pc ls st)) t ∧ Q t := by
    intro hr
    obtain ⟨v, st₀, t, T', Lc, h0, X', hL, e1, e2, ⟨⟨r, P', K', I', O', J', hv, hp, hP1, hK1, hD1⟩, hz, hk⟩, stp⟩ := hr T hT X0
    cases hv
    rw [h0] at hz hk
    have hw := k v P' K' I' O' J' hp ls T'.heap (locs ++ Lc) hl (by rw [e1]; exact hP1) (hD1.weaken (fun _ q _ h => hFr q.1 h)) ⟨Nat.le_trans hS.1 (by rw [e1]; exact hz), fun q h1 h2 => by rw [e1, hk q (Nat.lt_of_lt_of_le h1 hS.1) (fun z => h2 (hFr q z))]; exact hS.2.1 q h1 h2, fun q hq => by
      rcases List.mem_append.mp hq with h | h
      · exact hS.2.2 q h
      · exact hFr _ (hL q h)⟩
    obtain ⟨t2, a1, b1⟩ := hw T' rfl X'
    exact ⟨t2, stp t2 a1, b1⟩
  have hp : PreV s H y.cls a (PP D cy ad H.size P K I O J (.ref a :: av ad)) (av ad) := by
    refine ⟨PP.blind, ?_, fun U hU hW => ⟨rfl, by rw [hU], by rw [hU]; exact hP, va_K.moved hW.alike hK, hD.weaken (fun _ _ _ _ => trivial), hSC.call hS hW hU hFr⟩⟩
    exact hrc H locs hP hS
  have hcb := hm.1
  have hgd := wG_in2 hcb
  have hpm : ∀ sig, parseMethodDescriptor y.desc = some sig → n = sig.parameters.length := fun sig hs => by have := hm.2.2.2.2; rw [hs] at this; exact (Option.some.inj this).symm
  have hws : ∀ w ∈ (Cond.code y cc' nL' rt' :: wG), ∀ (a' : Array Value) (U : State), s.WarmedH U.vm → w.before a' U = true := pay_in hts hgd
  rcases hl0 with hl0 | ⟨host, hl0⟩
  · exact kk (va_runV (As := av ad) (rest := rest) ⟨hx, hb, hml, hown, hts⟩ (hc l D cy ad H.size) ⟨⟨rfl, rfl, hR'.1, hR'.2, hws, List.mem_cons_self, hts _ hcb, hts _ hm.2.1, hm.2.2.2.1, hpm, hts _ hl0⟩, hts _ hv.1, hts _ hv.2⟩ hp rfl hn hl.1 hst (lv_room hw) d hro)
  · exact kk (va_runVN (As := av ad) (rest := rest) ⟨hx, hb, hml, hown, hts⟩ (hc l D cy ad H.size) ⟨⟨⟨rfl, rfl, hR'.1, hR'.2, hws, List.mem_cons_self⟩, hts _ hcb, hts _ hm.2.1, hm.2.2.2.1, hpm, hSC.2.2.1.use hl0⟩, hts _ hv.1, hts _ hv.2⟩ hp rfl hn hl.1 hst (lv_room hw) d hro)
theorem g_callVR2 {idx n nL' : Nat} {y : MethodName} {cc' : ByteArray} {rt' : Option FieldType} {rm' : Room} {post : PST} {av : AD → List Value} {rest : List Value} {ra : AD → Nat} (C : Cx X cc nL own rm) (d : decode cc pc = .ok (.invokevirtual idx, 3)) (hm : MF y cc' nL' rt' n) (hv : MV y) (hl0 : LN own idx y) (hrc : RC X P K I O J (ra (adX X)) y.cls) (hc : ConA y cc' nL' rt' rm' P K I O J (fun ad => .ref (ra ad) :: av ad) post) (hn : (av (adX X)).length = n) (hst : st = (av (adX X)).reverse ++ .ref (ra (adX X)) :: rest) (hw : (rest.map fun v => v.category).sum ≤ 8) (hR' : rm'.frames + 1 ≤ rm.frames ∧ 8 + (nL' + 11) + rm'.locals ≤ rm.locals) (hro : nc + rm'.cells ≤ rm.cells ∧ ns + rm'.slots ≤ rm.slots) (k : ∀ (r : Option Value) (P' : List Nat) (K' : Nat → Nat) (I' : Nat → Nat → Int32) (O' : Nat → Nat → Option Nat) (J' : Nat → Nat → Int64), post r P' K' I' O' J' → GG X nL P' K' I' O' J' (nc + rm'.cells) (ns + rm'.slots) (pc + 3) L (r.toList ++ rest)) : GG X nL P K I O J nc ns pc L st := by
  obtain ⟨p, l, e, R, s, m, args, below, meth, c, Q, A, D, cy, ad⟩ := X
  obtain ⟨⟨hx, hb, hml, hown, hts⟩, hK, hA, hlk, hSC, hR⟩ := C
  subst hR
  intro ls H locs hl hP hD hS T hT X0
  have hFr : ∀ q, va_A (pw cy P K I O J) H.size q → A q := by
    rintro q (⟨k1, e1, h1⟩ | h1)
    · exact hD.2 k1 (q, e1) h1
    · exact hA q (Nat.le_trans hS.1 h1)
  have kk : va_Run p l e R s m args below meth c H locs nc ns rm'.cells rm'.slots (F0 m pc ls st) rest (QQ D cy post (va_A (pw cy P K I O J) H.size) (.ref (ra ad) :: av ad).toArray) (va_A (pw cy P K I O J) H.size) → ∃ t, Steps p.tables e below (T.setTop (F0 m pc ls st)) t ∧ Q t := by
    intro hr
    obtain ⟨v, st₀, t, T', Lc, h0, X', hL, e1, e2, ⟨⟨r, P', K', I', O', J', hv, hp, hP1, hK1, hD1⟩, hz, hk⟩, stp⟩ := hr T hT X0
    cases hv
    rw [h0] at hz hk
    have hw := k v P' K' I' O' J' hp ls T'.heap (locs ++ Lc) hl (by rw [e1]; exact hP1) (hD1.weaken (fun _ q _ h => hFr q.1 h)) ⟨Nat.le_trans hS.1 (by rw [e1]; exact hz), fun q h1 h2 => by rw [e1, hk q (Nat.lt_of_lt_of_le h1 hS.1) (fun z => h2 (hFr q z))]; exact hS.2.1 q h1 h2, fun q hq => by
      rcases List.mem_append.mp hq with h | h
      · exact hS.2.2 q h
      · exact hFr _ (hL q h)⟩
    obtain ⟨t2, a1, b1⟩ := hw T' rfl X'
    exact ⟨t2, stp t2 a1, b1⟩
  have hp : PreV s H y.cls (ra ad) (PP D cy ad H.size P K I O J (.ref (ra ad) :: av ad)) (av ad) := by
    refine ⟨PP.blind, ?_, fun U hU hW => ⟨rfl, by rw [hU], by rw [hU]; exact hP, va_K.moved hW.alike hK, hD.weaken (fun _ _ _ _ => trivial), hSC.call hS hW hU hFr⟩⟩
    exact hrc H locs hP hS
  have hcb := hm.1
  have hgd := wG_in2 hcb
  have hpm : ∀ sig, parseMethodDescriptor y.desc = some sig → n = sig.parameters.length := fun sig hs => by have := hm.2.2.2.2; rw [hs] at this; exact (Option.some.inj this).symm
  have hws : ∀ w ∈ (Cond.code y cc' nL' rt' :: wG), ∀ (a' : Array Value) (U : State), s.WarmedH U.vm → w.before a' U = true := pay_in hts hgd
  rcases hl0 with hl0 | ⟨host, hl0⟩
  · exact kk (va_runV (As := av ad) (rest := rest) ⟨hx, hb, hml, hown, hts⟩ (hc l D cy ad H.size) ⟨⟨rfl, rfl, hR'.1, hR'.2, hws, List.mem_cons_self, hts _ hcb, hts _ hm.2.1, hm.2.2.2.1, hpm, hts _ hl0⟩, hts _ hv.1, hts _ hv.2⟩ hp rfl hn hl.1 hst (lv_room hw) d hro)
  · exact kk (va_runVN (As := av ad) (rest := rest) ⟨hx, hb, hml, hown, hts⟩ (hc l D cy ad H.size) ⟨⟨⟨rfl, rfl, hR'.1, hR'.2, hws, List.mem_cons_self⟩, hts _ hcb, hts _ hm.2.1, hm.2.2.2.1, hpm, hSC.2.2.1.use hl0⟩, hts _ hv.1, hts _ hv.2⟩ hp rfl hn hl.1 hst (lv_room hw) d hro)
theorem g_callS {idx n nL' : Nat} {y : MethodName} {cc' : ByteArray} {rt' : Option FieldType} {rm' : Room} {post : PST} {av : AD → List Value} {rest : List Value} (C : Cx X cc nL own rm) (d : decode cc pc = .ok (.invokestatic idx, 3)) (hm : MF y cc' nL' rt' n) (hv : Cond.static y ∈ wG) (hl0 : LN own idx y) (hc : ConA y cc' nL' rt' rm' P K I O J av post) (hn : (av (adX X)).length = n) (hst : st = (av (adX X)).reverse ++ rest) (hw : (rest.map fun v => v.category).sum ≤ 8) (hR' : rm'.frames + 1 ≤ rm.frames ∧ 8 + (nL' + 11) + rm'.locals ≤ rm.locals) (hro : nc + rm'.cells ≤ rm.cells ∧ ns + rm'.slots ≤ rm.slots) (k : ∀ (r : Option Value) (P' : List Nat) (K' : Nat → Nat) (I' : Nat → Nat → Int32) (O' : Nat → Nat → Option Nat) (J' : Nat → Nat → Int64), post r P' K' I' O' J' → GG X nL P' K' I' O' J' (nc + rm'.cells) (ns + rm'.slots) (pc + 3) L (r.toList ++ rest)) : GG X nL P K I O J nc ns pc L st := by
  obtain ⟨p, l, e, R, s, m, args, below, meth, c, Q, A, D, cy, ad⟩ := X
  obtain ⟨⟨hx, hb, hml, hown, hts⟩, hK, hA, hlk, hSC, hR⟩ := C
  subst hR
  intro ls H locs hl hP hD hS T hT X0
  have hFr : ∀ q, va_A (pw cy P K I O J) H.size q → A q := by
    rintro q (⟨k1, e1, h1⟩ | h1)
    · exact hD.2 k1 (q, e1) h1
    · exact hA q (Nat.le_trans hS.1 h1)
  have kk : va_Run p l e R s m args below meth c H locs nc ns rm'.cells rm'.slots (F0 m pc ls st) rest (QQ D cy post (va_A (pw cy P K I O J) H.size) (av ad).toArray) (va_A (pw cy P K I O J) H.size) → ∃ t, Steps p.tables e below (T.setTop (F0 m pc ls st)) t ∧ Q t := by
    intro hr
    obtain ⟨v, st₀, t, T', Lc, h0, X', hL, e1, e2, ⟨⟨r, P', K', I', O', J', hv, hp, hP1, hK1, hD1⟩, hz, hk⟩, stp⟩ := hr T hT X0
    cases hv
    rw [h0] at hz hk
    have hw := k v P' K' I' O' J' hp ls T'.heap (locs ++ Lc) hl (by rw [e1]; exact hP1) (hD1.weaken (fun _ q _ h => hFr q.1 h)) ⟨Nat.le_trans hS.1 (by rw [e1]; exact hz), fun q h1 h2 => by rw [e1, hk q (Nat.lt_of_lt_of_le h1 hS.1) (fun z => h2 (hFr q z))]; exact hS.2.1 q h1 h2, fun q hq => by
      rcases List.mem_append.mp hq with h | h
      · exact hS.2.2 q h
      · exact hFr _ (hL q h)⟩
    obtain ⟨t2, a1, b1⟩ := hw T' rfl X'
    exact ⟨t2, stp t2 a1, b1⟩
  have hp : PreS s H (PP D cy ad H.size P K I O J (av ad)) (av ad) := ⟨PP.blind, fun U hU hW => ⟨rfl, by rw [hU], by rw [hU]; exact hP, va_K.moved hW.alike hK, hD.weaken (fun _ _ _ _ => trivial), hSC.call hS hW hU hFr⟩⟩
  have hcb := hm.1
  have hgd := wG_in2 hcb
  have hpm : ∀ sig, parseMethodDescriptor y.desc = some sig → n = sig.parameters.length := fun sig hs => by have := hm.2.2.2.2; rw [hs] at this; exact (Option.some.inj this).symm
  have hws : ∀ w ∈ (Cond.code y cc' nL' rt' :: wG), ∀ (a' : Array Value) (U : State), s.WarmedH U.vm → w.before a' U = true := pay_in hts hgd
  rcases hl0 with hl0 | ⟨host, hl0⟩
  · exact kk (va_runS (As := av ad) (rest := rest) ⟨hx, hb, hml, hown, hts⟩ (hc l D cy ad H.size) ⟨⟨rfl, rfl, hR'.1, hR'.2, hws, List.mem_cons_self, hts _ hcb, hts _ hm.2.1, hm.2.2.2.1, hpm, hts _ hl0⟩, hts _ hv⟩ hp rfl hn hl.1 hst (lv_room hw) d hro)
  · exact kk (va_runSN (As := av ad) (rest := rest) ⟨hx, hb, hml, hown, hts⟩ (hc l D cy ad H.size) ⟨⟨⟨rfl, rfl, hR'.1, hR'.2, hws, List.mem_cons_self⟩, hts _ hcb, hts _ hm.2.1, hm.2.2.2.1, hpm, hSC.2.2.1.use hl0⟩, hts _ hv, trivial⟩ hp rfl hn hl.1 hst (lv_room hw) d hro)
theorem RC.pool {a κ : Nat} {cls : String} (C : Cx X cc nL own rm) (ha : a ∈ P ∧ K a = κ) (hκ : κ < 11) (hcn : cN κ = cls) : RC X P K I O J a cls := by
  obtain ⟨p, l, e, R, s, m, args, below, meth, c, Q, A, D, cy, ad⟩ := X
  obtain ⟨⟨hx, hb, hml, hown, hts⟩, hK, hA, hlk, hSC, hR⟩ := C
  intro H locs hP hS
  obtain ⟨q, hq, he⟩ := pw_o (cy := cy) (I := I) (O := O) (J := J) ha hκ
  have := va_recv hK hP (cl_at κ hκ) (hq.trans (congrArg (fun z => some (a, z)) he))
  rw [← hcn]
  exact this
theorem RC.str {i : Nat} (C : Cx X cc nL own rm) (hi : i < 31) : RC X P K I O J ((adX X).1 i) "java/lang/String" := by
  obtain ⟨p, l, e, R, s, m, args, below, meth, c, Q, A, D, cy, ad⟩ := X
  obtain ⟨⟨hx, hb, hml, hown, hts⟩, hK, hA, hlk, hSC, hR⟩ := C
  intro H locs hP hS
  exact vk_recv (adK := fun _ => ad.1 i) (i := 0) (hSC.1 i hi) (by decide) hS
theorem g_callV {idx n nL' κ a : Nat} {y : MethodName} {cc' : ByteArray} {rt' : Option FieldType} {rm' : Room} {post : PST} {av : AD → List Value} {rest : List Value} (C : Cx X cc nL own rm) (d : decode cc pc = .ok (.invokevirtual idx, 3)) (hm : MF y cc' nL' rt' n) (hv : MV y) (hl0 : LN own idx y) (ha : a ∈ P ∧ K a = κ) (hκ : κ < 11) (hcn : cN κ = y.cls) (hc : ConA y cc' nL' rt' rm' P K I O J (fun ad => .ref a :: av ad) post) (hn : (av (adX X)).length = n) (hst : st = (av (adX X)).reverse ++ .ref a :: rest) (hw : (rest.map fun v => v.category).sum ≤ 8) (hR' : rm'.frames + 1 ≤ rm.frames ∧ 8 + (nL' + 11) + rm'.locals ≤ rm.locals) (hro : nc + rm'.cells ≤ rm.cells ∧ ns + rm'.slots ≤ rm.slots) (k : ∀ (r : Option Value) (P' : List Nat) (K' : Nat → Nat) (I' : Nat → Nat → Int32) (O' : Nat → Nat → Option Nat) (J' : Nat → Nat → Int64), post r P' K' I' O' J' → GG X nL P' K' I' O' J' (nc + rm'.cells) (ns + rm'.slots) (pc + 3) L (r.toList ++ rest)) : GG X nL P K I O J nc ns pc L st := g_callVR C d hm hv hl0 (RC.pool C ha hκ hcn) hc hn hst hw hR' hro k
theorem g_ldcS {index : Nat} (i : Nat) {tx : String} (C : Cx X cc nL own rm) (d : decode cc pc = .ok (.ldc index, 2)) (h : sTab[i]? = some (own, index, tx)) (k : GG X nL P K I O J nc ns (pc + 2) L (.ref ((adX X).1 i) :: st)) : GG X nL P K I O J nc ns pc L st := by
  obtain ⟨p, l, e, R, s, m, args, below, meth, c, Q, A, D, cy, ad⟩ := X
  obtain ⟨⟨hx, hb, hml, hown, hts⟩, hK, hA, hlk, hSC, hR⟩ := C
  exact fun ls H locs hl hP hD hS => va_ldcS hx hb hown (hSC.2.1 i _ h) d (k ls H locs hl hP hD hS)
theorem g_strV {index i : Nat} (C : Cx X cc nL own rm) (d : decode cc pc = .ok (.getfield index, 3)) (hi : i < 31) (hw : Cond.fieldLink own index "java/lang/String" "value" "[B" ∈ wG) (k : GG X nL P K I O J nc ns (pc + 3) L (.ref ((adX X).2 i) :: st)) : GG X nL P K I O J nc ns pc L (.ref ((adX X).1 i) :: st) := by
  obtain ⟨p, l, e, R, s, m, args, below, meth, c, Q, A, D, cy, ad⟩ := X
  obtain ⟨⟨hx, hb, hml, hown, hts⟩, hK, hA, hlk, hSC, hR⟩ := C
  exact fun ls H locs hl hP hD hS => vk_getf hx hb ((hSC.1 i hi).1 0 (by decide)).2.2.1 hS hown (hts _ hw) (fun _ z => z) d (k ls H locs hl hP hD hS)
theorem g_strC {index i : Nat} (C : Cx X cc nL own rm) (d : decode cc pc = .ok (.getfield index, 3)) (hi : i < 31) (hw : Cond.fieldLink own index "java/lang/String" "coder" "B" ∈ wG) (k : GG X nL P K I O J nc ns (pc + 3) L (.int 0 :: st)) : GG X nL P K I O J nc ns pc L (.ref ((adX X).1 i) :: st) := by
  obtain ⟨p, l, e, R, s, m, args, below, meth, c, Q, A, D, cy, ad⟩ := X
  obtain ⟨⟨hx, hb, hml, hown, hts⟩, hK, hA, hlk, hSC, hR⟩ := C
  exact fun ls H locs hl hP hD hS => vk_getf hx hb ((hSC.1 i hi).1 0 (by decide)).2.1 hS hown (hts _ hw) (fun _ z => z) d (k ls H locs hl hP hD hS)
theorem g_strZ {index : Nat} (C : Cx X cc nL own rm) (d : decode cc pc = .ok (.getstatic index, 3)) (hw : Cond.fieldLink own index "java/lang/String" "COMPACT_STRINGS" "Z" ∈ wG) (k : GG X nL P K I O J nc ns (pc + 3) L (.int 1 :: st)) : GG X nL P K I O J nc ns pc L st := by
  obtain ⟨p, l, e, R, s, m, args, below, meth, c, Q, A, D, cy, ad⟩ := X
  obtain ⟨⟨hx, hb, hml, hown, hts⟩, hK, hA, hlk, hSC, hR⟩ := C
  exact fun ls H locs hl hP hD hS => va_gets hx hb hSC.2.2.2.1 hS hown (hts _ hw) (fun _ z => z) d (k ls H locs hl hP hD hS)
theorem g_strF {index : Nat} (C : Cx X cc nL own rm) (d : decode cc pc = .ok (.getstatic index, 3)) (hw : Cond.fieldLink own index "jdk/internal/util/Preconditions" "SIOOBE_FORMATTER" "Ljava/util/function/BiFunction;" ∈ wG) (k : ∀ v : Value, (v = .null ∨ ∃ t, v = .ref t) → GG X nL P K I O J nc ns (pc + 3) L (v :: st)) : GG X nL P K I O J nc ns pc L st := by
  obtain ⟨p, l, e, R, s, m, args, below, meth, c, Q, A, D, cy, ad⟩ := X
  obtain ⟨⟨hx, hb, hml, hown, hts⟩, hK, hA, hlk, hSC, hR⟩ := C
  intro ls H locs hl hP hD hS
  rcases hSC.2.2.2.2.1 with hz | ⟨t, hz⟩
  · exact va_gets hx hb hz hS hown (hts _ hw) (fun _ z => z) d (k _ (Or.inl rfl) ls H locs hl hP hD hS)
  · exact va_gets hx hb hz hS hown (hts _ hw) (fun _ z => z) d (k _ (Or.inr ⟨t, rfl⟩) ls H locs hl hP hD hS)
theorem g_strL {i : Nat} (C : Cx X cc nL own rm) (d : decode cc pc = .ok (.arraylength, 1)) (hi : i < 31) (k : GG X nL P K I O J nc ns (pc + 1) L (.int (Int32.ofNat (sLen.getD i 0)) :: st)) : GG X nL P K I O J nc ns pc L (.ref ((adX X).2 i) :: st) := by
  obtain ⟨p, l, e, R, s, m, args, below, meth, c, Q, A, D, cy, ad⟩ := X
  obtain ⟨⟨hx, hb, hml, hown, hts⟩, hK, hA, hlk, hSC, hR⟩ := C
  exact fun ls H locs hl hP hD hS => va_tlen hx hb ((hSC.1 i hi).1 0 (by decide)).2.2.2 hS rfl d (k ls H locs hl hP hD hS)
theorem g_strB {i : Nat} {x : Int32} (C : Cx X cc nL own rm) (d : decode cc pc = .ok (.baload, 1)) (hi : i < 31) (hx0 : vp_in x (sLen.getD i 0)) (k : GG X nL P K I O J nc ns (pc + 1) L (.int ((sByt.getD i []).getD x.toNatClampNeg 0) :: st)) : GG X nL P K I O J nc ns pc L (.int x :: .ref ((adX X).2 i) :: st) := by
  obtain ⟨p, l, e, R, s, m, args, below, meth, c, Q, A, D, cy, ad⟩ := X
  obtain ⟨⟨hx, hb, hml, hown, hts⟩, hK, hA, hlk, hSC, hR⟩ := C
  exact fun ls H locs hl hP hD hS => va_tb hx hb ((hSC.1 i hi).1 0 (by decide)).2.2.2 hS hx0 rfl d (k ls H locs hl hP hD hS)
theorem g_i2c {x : Int32} (C : Cx X cc nL own rm) (d : decode cc pc = .ok (.i2c, 1)) (k : GG X nL P K I O J nc ns (pc + 1) L (.int (x.toUInt32 % 65536).toInt32 :: st)) : GG X nL P K I O J nc ns pc L (.int x :: st) := by
  obtain ⟨p, l, e, R, s, m, args, below, meth, c, Q, A, D, cy, ad⟩ := X
  obtain ⟨⟨hx, hb, hml, hown, hts⟩, hK, hA, hlk, hSC, hR⟩ := C
  exact fun ls H locs hl hP hD hS => lv_i2c hx hb d rfl (k ls H locs hl hP hD hS)
theorem g_nret {v : Int32} {ty : FieldType} {post : PST} (C : Cx X cc nL own rm) (E : Rx X (some ty) post rm) (d : decode cc pc = .ok (.ireturn, 1)) (hz : narrow ty (.int v) = .int v) (h1 : nc ≤ rm.cells) (h2 : ns ≤ rm.slots) (hp : post (some (.int v)) P K I O J) : GG X nL P K I O J nc ns pc L [.int v] := by
  obtain ⟨p, l, e, R, s, m, args, below, meth, c, Q, A, D, cy, ad⟩ := X
  obtain ⟨⟨hx, hb, hml, hown, hts⟩, hK, hA, hlk, hSC, hR⟩ := C
  obtain ⟨hQ, hr⟩ := E
  subst hQ
  intro ls H locs hl hP hD hS
  refine W.widen h1 h2 ?_
  exact W.zret hx hb hr hz (fun t ht hW => ⟨⟨_, P, K, I, O, J, rfl, hp, by rw [ht]; exact hP, va_K.moved hW.alike hK, hD⟩, hS.F ht⟩) hS.2.2 d hlk
end ROWS
