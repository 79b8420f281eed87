/-! methods as pure functions: the world in, the world out; none where the machine would throw or the fuel is spent -/
abbrev WI : Type := Nat → Nat → Int32
abbrev WJ : Type := Nat → Nat → Int64
abbrev WO : Type := Nat → Nat → Option Nat
def lb {α β : Type} (x : α) (f : α → β) : β := f x
def jn {α β : Type} (k : α) (f : α → β) : β := f k
def bd1 {α ρ : Type} (m : Option α) (f : α → Option ρ) : Option ρ := match m with
  | none => none
  | some a => f a
def bd2 {α β ρ : Type} (m : Option (α × β)) (f : α → β → Option ρ) : Option ρ := match m with
  | none => none
  | some q => f q.1 q.2
def bd3 {α β γ ρ : Type} (m : Option (α × β × γ)) (f : α → β → γ → Option ρ) : Option ρ := match m with
  | none => none
  | some q => f q.1 q.2.1 q.2.2
def lp {α : Type} (b : α → α) (z : α) : Nat → α
  | 0 => z
  | n + 1 => b (lp b z n)
def rf (O : WO) (a f : Nat) : Nat := (O a f).getD 0
def sL (i : Nat) : Int32 := Int32.ofInt ((sLen.getD i 0 : Nat) : Int)
def sC (i j : Nat) : Int32 := (sByt.getD i []).getD j 0
def NN (P : List Nat) (K : Nat → Nat) (O : WO) (a f κ : Nat) : Prop := O a f = some (rf O a f) ∧ rf O a f ∈ P ∧ K (rf O a f) = κ
theorem bd1_some {α ρ : Type} {m : Option α} {f : α → Option ρ} {y : ρ} (h : bd1 m f = some y) : ∃ a, m = some a ∧ f a = some y := by
  cases m with
  | none => cases h
  | some a => exact ⟨a, rfl, h⟩
theorem bd2_some {α β ρ : Type} {m : Option (α × β)} {f : α → β → Option ρ} {y : ρ} (h : bd2 m f = some y) : ∃ a b, m = some (a, b) ∧ f a b = some y := by
  cases m with
  | none => cases h
  | some a => exact ⟨a.1, a.2, rfl, h⟩
theorem bd3_some {α β γ ρ : Type} {m : Option (α × β × γ)} {f : α → β → γ → Option ρ} {y : ρ} (h : bd3 m f = some y) : ∃ a b c, m = some (a, b, c) ∧ f a b c = some y := by
  cases m with
  | none => cases h
  | some a => exact ⟨a.1, a.2.1, a.2.2, rfl, h⟩
theorem x_g {c : Prop} {i : Decidable c} {α : Type} {x : Option α} {y : α} (h : (@ite _ c i x none) = some y) : c ∧ x = some y := by
  by_cases q : c
  · rw [if_pos q] at h; exact ⟨q, h⟩
  · rw [if_neg q] at h; cases h
theorem x_pos {c : Prop} {i : Decidable c} {α : Type} {x z y : α} (q : c) (h : (@ite _ c i x z) = y) : x = y := by rw [if_pos q] at h; exact h
theorem x_neg {c : Prop} {i : Decidable c} {α : Type} {x z y : α} (q : ¬ c) (h : (@ite _ c i x z) = y) : z = y := by rw [if_neg q] at h; exact h
theorem x_lp {α : Type} {b : α → α} {z : α} (Pm : α → Prop) (h0 : Pm z) (hs : ∀ r, Pm r → Pm (b r)) : ∀ n, Pm (lp b z n)
  | 0 => h0
  | n + 1 => hs _ (x_lp Pm h0 hs n)
theorem x_jn {α ρ : Type} {k : α} {f : α → Option ρ} {y : ρ} {G : Prop} (h : jn k f = some y) (Pm : α → Prop) (hk : Pm k) (c : ∀ k', Pm k' → f k' = some y → G) : G := c k hk h
theorem rf_ok {P : List Nat} {K : Nat → Nat} {O : WO} {a κ f κ' : Nat} (hT : TR P K O) (ha : a ∈ P ∧ K a = κ) (hs : sp κ f = some κ') : rf O a f ∈ P ∧ K (rf O a f) = κ' := by
  obtain ⟨b, h1, h2⟩ := hT a ha.1 f κ' (by rw [ha.2]; exact hs)
  unfold rf; rw [h1]; exact h2
theorem rf_o {P : List Nat} {K : Nat → Nat} {O : WO} {a κ f κ' : Nat} (hT : TR P K O) (ha : a ∈ P ∧ K a = κ) (hs : sp κ f = some κ') : O a f = some (rf O a f) := by
  obtain ⟨b, h1, h2⟩ := hT a ha.1 f κ' (by rw [ha.2]; exact hs)
  unfold rf; rw [h1]; rfl
def EPo (q : Option Value) (I1 : WI) (J1 : WJ) (P : List Nat) (K : Nat → Nat) (O : WO) : PST := fun r P' K' I' O' J' => P' = P ∧ K' = K ∧ O' = O ∧ r = q ∧ I' = I1 ∧ J' = J1
def ZPo (ρ : Int32 → Prop) (P : List Nat) (K : Nat → Nat) (I : WI) (O : WO) (J : WJ) : PST := fun r P' K' I' O' J' => P' = P ∧ K' = K ∧ O' = O ∧ I' = I ∧ J' = J ∧ ∃ z : Int32, r = some (.int z) ∧ ρ z
def VPo (P : List Nat) (K : Nat → Nat) (I : WI) (O : WO) (J : WJ) : PST := fun r P' K' I' O' J' => P' = P ∧ K' = K ∧ O' = O ∧ I' = I ∧ J' = J ∧ r = none
section XROWS
variable {X : CTX} {cc : ByteArray} {nL : Nat} {own : String} {rm : Room} {P : List Nat} {K : Nat → Nat} {I : WI} {O : WO} {J : WJ} {nc ns pc : Nat} {L : List (Nat × Value)} {st : List Value}
theorem x_getr {idx κ κ' f a : Nat} (C : Cx X cc nL own rm) (d : decode cc pc = .ok (.getfield idx, 3)) (h : FL own idx κ f 1) (ha : a ∈ P ∧ K a = κ) (hT : TR P K O) (hs : sp κ f = some κ') (k : GG X nL P K I O J nc ns (pc + 3) L (.ref (rf O a f) :: st)) : GG X nL P K I O J nc ns pc L (.ref a :: st) := gt_getS C d h ha (rf_o hT ha hs) k
theorem x_null {idx κ f a : Nat} {off : Int} {α : Type} {i : Decidable (O a f = none)} {x z : Option α} {y : α} (tgt : Nat) (C : Cx X cc nL own rm) (d : decode cc pc = .ok (.getfield idx, 3)) (d2 : decode cc (pc + 3) = .ok (.ifnull off, 3)) (ht : ((pc + 3 : Nat) : Int) + off = (tgt : Int)) (h : FL own idx κ f 1) (ha : a ∈ P ∧ K a = κ) (hh : (@ite _ (O a f = none) i x z) = some y) (kt : O a f = none → x = some y → GG X nL P K I O J nc ns tgt L st) (kf : O a f = some (rf O a f) → z = some y → GG X nL P K I O J nc ns (pc + 6) L st) : GG X nL P K I O J nc ns pc L (.ref a :: st) := by
  cases q : O a f with
  | none => exact gt_getN C d h ha q (g_ifnullN tgt C d2 ht (kt q (x_pos q hh)))
  | some b =>
    have e : O a f = some (rf O a f) := by unfold rf; rw [q]; rfl
    exact gt_getS C d h ha e (g_ifnull C d2 (kf e (x_neg (by rw [q]; exact fun w => by cases w) hh)))
theorem x_nonnull {idx κ f a : Nat} {off : Int} {α : Type} {i : Decidable (O a f = none)} {x z : Option α} {y : α} (tgt : Nat) (C : Cx X cc nL own rm) (d : decode cc pc = .ok (.getfield idx, 3)) (d2 : decode cc (pc + 3) = .ok (.ifnonnull off, 3)) (ht : ((pc + 3 : Nat) : Int) + off = (tgt : Int)) (h : FL own idx κ f 1) (ha : a ∈ P ∧ K a = κ) (hh : (@ite _ (O a f = none) i x z) = some y) (kt : O a f = none → x = some y → GG X nL P K I O J nc ns (pc + 6) L st) (kf : O a f = some (rf O a f) → z = some y → GG X nL P K I O J nc ns tgt L st) : GG X nL P K I O J nc ns pc L (.ref a :: st) := by
  cases q : O a f with
  | none => exact gt_getN C d h ha q (g_ifnonnullN C d2 (kt q (x_pos q hh)))
  | some b =>
    have e : O a f = some (rf O a f) := by unfold rf; rw [q]; rfl
    exact gt_getS C d h ha e (g_ifnonnull tgt C d2 ht (kf e (x_neg (by rw [q]; exact fun w => by cases w) hh)))
theorem x_puti {idx κ f a : Nat} {x : Int32} {α : Type} {g : WI → Option α} {y : α} (C : Cx X cc nL own rm) (d : decode cc pc = .ok (.putfield idx, 3)) (h : FL own idx κ f 0) (ha : a ∈ P ∧ K a = κ) (hfin : (cT κ f).2.2.2 = false) (hty : cY κ f = .int ∨ (cY κ f = .boolean ∧ (x = 0 ∨ x = 1))) (hh : lb (up2 I a f x) g = some y) (k : ∀ I', g I' = some y → GG X nL P K I' O J nc ns (pc + 3) L st) : GG X nL P K I O J nc ns pc L (.int x :: .ref a :: st) := by
  rcases hty with e | ⟨e, q⟩
  · exact g_puti C d h ha hfin (by rw [e]; rfl) (by rw [e]; rfl) (k _ hh)
  · rcases q with rfl | rfl
    · exact g_puti C d h ha hfin (by rw [e]; rfl) (by rw [e]; rfl) (k _ hh)
    · exact g_puti C d h ha hfin (by rw [e]; rfl) (by rw [e]; rfl) (k _ hh)
theorem x_putl {idx κ f a : Nat} {x : Int64} {α : Type} {g : WJ → Option α} {y : α} (C : Cx X cc nL own rm) (d : decode cc pc = .ok (.putfield idx, 3)) (h : FL own idx κ f 2) (ha : a ∈ P ∧ K a = κ) (hfin : (cT κ f).2.2.2 = false) (hty : cY κ f = .long) (hh : lb (up2 J a f x) g = some y) (k : ∀ J', g J' = some y → GG X nL P K I O J' nc ns (pc + 3) L st) : GG X nL P K I O J nc ns pc L (.long x :: .ref a :: st) :=
  g_putl C d h ha hfin (by rw [hty]; rfl) (by rw [hty]; rfl) (k _ hh)
theorem x_alen {a κ : Nat} (C : Cx X cc nL own rm) (d : decode cc pc = .ok (.arraylength, 1)) (ha : a ∈ P ∧ K a = κ) (hκ : ¬ κ < 11) (ht : aty κ < 5) (k : GG X nL P K I O J nc ns (pc + 1) L (.int (Int32.ofNat (alen κ)) :: st)) : GG X nL P K I O J nc ns pc L (.ref a :: st) := g_alen C d ha hκ ht rfl k
theorem x_alenc {a κ : Nat} (m : Int) (C : Cx X cc nL own rm) (d : decode cc pc = .ok (.arraylength, 1)) (ha : a ∈ P ∧ K a = κ) (hκ : ¬ κ < 11) (ht : aty κ < 5) (hm : Int32.ofNat (alen κ) = Int32.ofInt m) (k : GG X nL P K I O J nc ns (pc + 1) L (.int (Int32.ofInt m) :: st)) : GG X nL P K I O J nc ns pc L (.ref a :: st) := g_alen C d ha hκ ht hm k

theorem x_iald {a κ m : Nat} {i : Int32} (C : Cx X cc nL own rm) (d : decode cc pc = .ok (.iaload, 1)) (ha : a ∈ P ∧ K a = κ) (hκ : ¬ κ < 11) (ht : aty κ = 1) (hm : alen κ = m) (hi : 0 ≤ i.toInt ∧ i.toInt < (m : Int)) (k : GG X nL P K I O J nc ns (pc + 1) L (.int (I a i.toInt.toNat) :: st)) : GG X nL P K I O J nc ns pc L (.int i :: .ref a :: st) := g_iald C d ha hκ ht (vp_in_iff.mpr (by rw [hm]; exact hi)) k
theorem x_bald {a κ m : Nat} {i : Int32} (C : Cx X cc nL own rm) (d : decode cc pc = .ok (.baload, 1)) (ha : a ∈ P ∧ K a = κ) (hκ : ¬ κ < 11) (ht : aty κ = 0) (hm : alen κ = m) (hi : 0 ≤ i.toInt ∧ i.toInt < (m : Int)) (k : GG X nL P K I O J nc ns (pc + 1) L (.int (I a i.toInt.toNat) :: st)) : GG X nL P K I O J nc ns pc L (.int i :: .ref a :: st) := g_bald C d ha hκ ht (vp_in_iff.mpr (by rw [hm]; exact hi)) k
theorem x_zald {a κ m : Nat} {i : Int32} (C : Cx X cc nL own rm) (d : decode cc pc = .ok (.baload, 1)) (ha : a ∈ P ∧ K a = κ) (hκ : ¬ κ < 11) (ht : aty κ = 3) (hm : alen κ = m) (hi : 0 ≤ i.toInt ∧ i.toInt < (m : Int)) (k : GG X nL P K I O J nc ns (pc + 1) L (.int (I a i.toInt.toNat) :: st)) : GG X nL P K I O J nc ns pc L (.int i :: .ref a :: st) := g_zald C d ha hκ ht (vp_in_iff.mpr (by rw [hm]; exact hi)) k
theorem x_lald {a κ m : Nat} {i : Int32} (C : Cx X cc nL own rm) (d : decode cc pc = .ok (.laload, 1)) (ha : a ∈ P ∧ K a = κ) (hκ : ¬ κ < 11) (ht : aty κ = 2) (hm : alen κ = m) (hi : 0 ≤ i.toInt ∧ i.toInt < (m : Int)) (k : GG X nL P K I O J nc ns (pc + 1) L (.long (J a i.toInt.toNat) :: st)) : GG X nL P K I O J nc ns pc L (.int i :: .ref a :: st) := g_lald C d ha hκ ht (vp_in_iff.mpr (by rw [hm]; exact hi)) k
theorem x_iast {a κ m : Nat} {i : Int32} {x : Int32} {α : Type} {g : WI → Option α} {y : α} (C : Cx X cc nL own rm) (d : decode cc pc = .ok (.iastore, 1)) (ha : a ∈ P ∧ K a = κ) (hκ : ¬ κ < 11) (ht : aty κ = 1) (hm : alen κ = m) (hi : 0 ≤ i.toInt ∧ i.toInt < (m : Int)) (hh : lb (up2 I a i.toInt.toNat x) g = some y) (k : ∀ I', g I' = some y → GG X nL P K I' O J nc ns (pc + 1) L st) : GG X nL P K I O J nc ns pc L (.int x :: .int i :: .ref a :: st) := g_iast C d ha hκ ht (vp_in_iff.mpr (by rw [hm]; exact hi)) (k _ hh)
theorem x_bast {a κ m : Nat} {i : Int32} {x : Int32} {α : Type} {g : WI → Option α} {y : α} (C : Cx X cc nL own rm) (d : decode cc pc = .ok (.bastore, 1)) (ha : a ∈ P ∧ K a = κ) (hκ : ¬ κ < 11) (ht : aty κ = 0) (hm : alen κ = m) (hi : 0 ≤ i.toInt ∧ i.toInt < (m : Int)) (hh : lb (up2 I a i.toInt.toNat (vp_nar .byte x)) g = some y) (k : ∀ I', g I' = some y → GG X nL P K I' O J nc ns (pc + 1) L st) : GG X nL P K I O J nc ns pc L (.int x :: .int i :: .ref a :: st) := g_bast C d ha hκ ht (vp_in_iff.mpr (by rw [hm]; exact hi)) (k _ hh)
theorem x_zast {a κ m : Nat} {i : Int32} {x : Int32} {α : Type} {g : WI → Option α} {y : α} (C : Cx X cc nL own rm) (d : decode cc pc = .ok (.bastore, 1)) (ha : a ∈ P ∧ K a = κ) (hκ : ¬ κ < 11) (ht : aty κ = 3) (hm : alen κ = m) (hi : 0 ≤ i.toInt ∧ i.toInt < (m : Int)) (hh : lb (up2 I a i.toInt.toNat (vp_nar .boolean x)) g = some y) (k : ∀ I', g I' = some y → GG X nL P K I' O J nc ns (pc + 1) L st) : GG X nL P K I O J nc ns pc L (.int x :: .int i :: .ref a :: st) := g_zast C d ha hκ ht (vp_in_iff.mpr (by rw [hm]; exact hi)) (k _ hh)
theorem x_last {a κ m : Nat} {i : Int32} {x : Int64} {α : Type} {g : WJ → Option α} {y : α} (C : Cx X cc nL own rm) (d : decode cc pc = .ok (.lastore, 1)) (ha : a ∈ P ∧ K a = κ) (hκ : ¬ κ < 11) (ht : aty κ = 2) (hm : alen κ = m) (hi : 0 ≤ i.toInt ∧ i.toInt < (m : Int)) (hh : lb (up2 J a i.toInt.toNat x) g = some y) (k : ∀ J', g J' = some y → GG X nL P K I O J' nc ns (pc + 1) L st) : GG X nL P K I O J nc ns pc L (.long x :: .int i :: .ref a :: st) := g_last C d ha hκ ht (vp_in_iff.mpr (by rw [hm]; exact hi)) (k _ hh)
theorem x_ialdc {a κ m c : Nat} {i : Int32} (C : Cx X cc nL own rm) (d : decode cc pc = .ok (.iaload, 1)) (ha : a ∈ P ∧ K a = κ) (hκ : ¬ κ < 11) (ht : aty κ = 1) (hm : alen κ = m) (hc : i = Int32.ofInt (c : Int)) (hl : c < m ∧ m < 10000) (k : GG X nL P K I O J nc ns (pc + 1) L (.int (I a c) :: st)) : GG X nL P K I O J nc ns pc L (.int i :: .ref a :: st) := by
  have e : i.toInt = (c : Int) := by rw [hc]; exact ofI (by omega)
  refine x_iald C d ha hκ ht hm (by rw [e]; omega) ?_
  rw [e]; exact k
theorem x_iastc {a κ m c : Nat} {i x : Int32} {α : Type} {g : WI → Option α} {y : α} (C : Cx X cc nL own rm) (d : decode cc pc = .ok (.iastore, 1)) (ha : a ∈ P ∧ K a = κ) (hκ : ¬ κ < 11) (ht : aty κ = 1) (hm : alen κ = m) (hc : i = Int32.ofInt (c : Int)) (hl : c < m ∧ m < 10000) (hh : lb (up2 I a c x) g = some y) (k : ∀ I', g I' = some y → GG X nL P K I' O J nc ns (pc + 1) L st) : GG X nL P K I O J nc ns pc L (.int x :: .int i :: .ref a :: st) := by
  have e : i.toInt = (c : Int) := by rw [hc]; exact ofI (by omega)
  refine x_iast C d ha hκ ht hm (by rw [e]; omega) (g := g) (y := y) (by rw [e]; exact hh) k
theorem x_aald {a : Nat} {i : Int32} (C : Cx X cc nL own rm) (d : decode cc pc = .ok (.aaload, 1)) (ha : a ∈ P ∧ K a = 24) (hT : TR P K O) (hi : 0 ≤ i.toInt ∧ i.toInt < (6 : Int)) (k : GG X nL P K I O J nc ns (pc + 1) L (.ref (rf O a i.toInt.toNat) :: st)) : GG X nL P K I O J nc ns pc L (.int i :: .ref a :: st) := by
  refine gt_aald C d ha hT rfl hi (fun b q hb => ?_)
  have e : rf O a i.toInt.toNat = b := by
    have q2 : O a i.toInt.toNat = some b := q
    unfold rf; rw [q2]; rfl
  rw [e] at k; exact k

theorem x_istore_n {f : Fin 4} {i : Nat} {v : Int32} {α : Type} {g : Int32 → Option α} {y : α} (C : Cx X cc nL own rm) (d : decode cc pc = .ok (.istore_n f, 1)) (hi : (f : Nat) = i) (hn : i < nL) (hh : lb v g = some y) (k : ∀ z, g z = some y → GG X nL P K I O J nc ns (pc + 1) (sto L i (.int z)) st) : GG X nL P K I O J nc ns pc L (.int v :: st) := g_istore_n C d hi hn (k _ hh)
theorem x_istore {i : Nat} {v : Int32} {α : Type} {g : Int32 → Option α} {y : α} (C : Cx X cc nL own rm) (d : decode cc pc = .ok (.istore i, 2)) (hn : i < nL) (hh : lb v g = some y) (k : ∀ z, g z = some y → GG X nL P K I O J nc ns (pc + 2) (sto L i (.int z)) st) : GG X nL P K I O J nc ns pc L (.int v :: st) := g_istore C d hn (k _ hh)
theorem x_lstore_n {f : Fin 4} {i : Nat} {v : Int64} {α : Type} {g : Int64 → Option α} {y : α} (C : Cx X cc nL own rm) (d : decode cc pc = .ok (.lstore_n f, 1)) (hi : (f : Nat) = i) (hn : i + 1 < nL) (hh : lb v g = some y) (k : ∀ z, g z = some y → GG X nL P K I O J nc ns (pc + 1) (stoL L i (.long z)) st) : GG X nL P K I O J nc ns pc L (.long v :: st) := g_lstore_n C d hi hn (k _ hh)
theorem x_lstore {i : Nat} {v : Int64} {α : Type} {g : Int64 → Option α} {y : α} (C : Cx X cc nL own rm) (d : decode cc pc = .ok (.lstore i, 2)) (hn : i + 1 < nL) (hh : lb v g = some y) (k : ∀ z, g z = some y → GG X nL P K I O J nc ns (pc + 2) (stoL L i (.long z)) st) : GG X nL P K I O J nc ns pc L (.long v :: st) := g_lstore C d hn (k _ hh)
theorem x_iinc {i : Nat} {n : Int} {x : Int32} {α : Type} {g : Int32 → Option α} {y : α} (C : Cx X cc nL own rm) (d : decode cc pc = .ok (.iinc i n, 3)) (h : lkp L i = some (.int x)) (hn : i < nL) (hh : lb (x + Int32.ofInt n) g = some y) (k : ∀ z, g z = some y → GG X nL P K I O J nc ns (pc + 3) (sto L i (.int z)) st) : GG X nL P K I O J nc ns pc L st := g_iinc C d h rfl hn (k _ hh)
theorem x_idiv {x y : Int32} (C : Cx X cc nL own rm) (d : decode cc pc = .ok (.idiv, 1)) (hne : ¬ y.toInt = 0) (k : GG X nL P K I O J nc ns (pc + 1) L (.int (x / y) :: st)) : GG X nL P K I O J nc ns pc L (.int y :: .int x :: st) := g_idiv C d (fun z => hne (by rw [z]; rfl)) k
theorem x_irem {x y : Int32} (C : Cx X cc nL own rm) (d : decode cc pc = .ok (.irem, 1)) (hne : ¬ y.toInt = 0) (k : GG X nL P K I O J nc ns (pc + 1) L (.int (x - x / y * y) :: st)) : GG X nL P K I O J nc ns pc L (.int y :: .int x :: st) := g_irem C d (fun z => hne (by rw [z]; rfl)) k
theorem x_ldiv {x y : Int64} (C : Cx X cc nL own rm) (d : decode cc pc = .ok (.ldiv, 1)) (hne : ¬ y.toInt = 0) (k : GG X nL P K I O J nc ns (pc + 1) L (.long (x / y) :: st)) : GG X nL P K I O J nc ns pc L (.long y :: .long x :: st) := g_ldiv C d (fun z => hne (by rw [z]; rfl)) k
theorem x_01 {x : Int32} (h : x.toInt = 0 ∨ x.toInt = 1) : x = 0 ∨ x = 1 := B01.e h

theorem x_iret0 {v r : Int32} (C : Cx X cc nL own rm) (E : Rx X (some .int) (EPo (some (.int r)) I J P K O) rm) (d : decode cc pc = .ok (.ireturn, 1)) (hro : nc ≤ rm.cells ∧ ns ≤ rm.slots) (h : some v = some r) : GG X nL P K I O J nc ns pc L [.int v] := by
  cases h
  exact g_iret C E d hro.1 hro.2 ⟨rfl, rfl, rfl, rfl, rfl, rfl⟩
theorem x_iret1 {v r : Int32} {I' : WI} (C : Cx X cc nL own rm) (E : Rx X (some .int) (EPo (some (.int r)) I' J P K O) rm) (d : decode cc pc = .ok (.ireturn, 1)) (hro : nc ≤ rm.cells ∧ ns ≤ rm.slots) (h : some (v, I) = some (r, I')) : GG X nL P K I O J nc ns pc L [.int v] := by
  cases h
  exact g_iret C E d hro.1 hro.2 ⟨rfl, rfl, rfl, rfl, rfl, rfl⟩
theorem x_iret2 {v r : Int32} {I' : WI} {J' : WJ} (C : Cx X cc nL own rm) (E : Rx X (some .int) (EPo (some (.int r)) I' J' P K O) rm) (d : decode cc pc = .ok (.ireturn, 1)) (hro : nc ≤ rm.cells ∧ ns ≤ rm.slots) (h : some (v, I, J) = some (r, I', J')) : GG X nL P K I O J nc ns pc L [.int v] := by
  cases h
  exact g_iret C E d hro.1 hro.2 ⟨rfl, rfl, rfl, rfl, rfl, rfl⟩
theorem x_zret0 {v r : Int32} (C : Cx X cc nL own rm) (E : Rx X (some .boolean) (EPo (some (.int r)) I J P K O) rm) (d : decode cc pc = .ok (.ireturn, 1)) (hz : v = 0 ∨ v = 1) (hro : nc ≤ rm.cells ∧ ns ≤ rm.slots) (h : some v = some r) : GG X nL P K I O J nc ns pc L [.int v] := by
  cases h
  exact g_zret C E d hz hro.1 hro.2 ⟨rfl, rfl, rfl, rfl, rfl, rfl⟩
theorem x_zret1 {v r : Int32} {I' : WI} (C : Cx X cc nL own rm) (E : Rx X (some .boolean) (EPo (some (.int r)) I' J P K O) rm) (d : decode cc pc = .ok (.ireturn, 1)) (hz : v = 0 ∨ v = 1) (hro : nc ≤ rm.cells ∧ ns ≤ rm.slots) (h : some (v, I) = some (r, I')) : GG X nL P K I O J nc ns pc L [.int v] := by
  cases h
  exact g_zret C E d hz hro.1 hro.2 ⟨rfl, rfl, rfl, rfl, rfl, rfl⟩
theorem x_zret2 {v r : Int32} {I' : WI} {J' : WJ} (C : Cx X cc nL own rm) (E : Rx X (some .boolean) (EPo (some (.int r)) I' J' P K O) rm) (d : decode cc pc = .ok (.ireturn, 1)) (hz : v = 0 ∨ v = 1) (hro : nc ≤ rm.cells ∧ ns ≤ rm.slots) (h : some (v, I, J) = some (r, I', J')) : GG X nL P K I O J nc ns pc L [.int v] := by
  cases h
  exact g_zret C E d hz hro.1 hro.2 ⟨rfl, rfl, rfl, rfl, rfl, rfl⟩
theorem x_lret0 {v r : Int64} (C : Cx X cc nL own rm) (E : Rx X (some .long) (EPo (some (.long r)) I J P K O) rm) (d : decode cc pc = .ok (.lreturn, 1)) (hro : nc ≤ rm.cells ∧ ns ≤ rm.slots) (h : some v = some r) : GG X nL P K I O J nc ns pc L [.long v] := by
  cases h
  exact g_lret C E d hro.1 hro.2 ⟨rfl, rfl, rfl, rfl, rfl, rfl⟩
theorem x_lret1 {v r : Int64} {I' : WI} (C : Cx X cc nL own rm) (E : Rx X (some .long) (EPo (some (.long r)) I' J P K O) rm) (d : decode cc pc = .ok (.lreturn, 1)) (hro : nc ≤ rm.cells ∧ ns ≤ rm.slots) (h : some (v, I) = some (r, I')) : GG X nL P K I O J nc ns pc L [.long v] := by
  cases h
  exact g_lret C E d hro.1 hro.2 ⟨rfl, rfl, rfl, rfl, rfl, rfl⟩
theorem x_lret2 {v r : Int64} {I' : WI} {J' : WJ} (C : Cx X cc nL own rm) (E : Rx X (some .long) (EPo (some (.long r)) I' J' P K O) rm) (d : decode cc pc = .ok (.lreturn, 1)) (hro : nc ≤ rm.cells ∧ ns ≤ rm.slots) (h : some (v, I, J) = some (r, I', J')) : GG X nL P K I O J nc ns pc L [.long v] := by
  cases h
  exact g_lret C E d hro.1 hro.2 ⟨rfl, rfl, rfl, rfl, rfl, rfl⟩
theorem x_vret0 (C : Cx X cc nL own rm) (E : Rx X none (EPo none I J P K O) rm) (d : decode cc pc = .ok (.return_, 1)) (hro : nc ≤ rm.cells ∧ ns ≤ rm.slots) (h : some () = some ()) : GG X nL P K I O J nc ns pc L [] := by
  cases h
  exact g_vret C E d hro.1 hro.2 ⟨rfl, rfl, rfl, rfl, rfl, rfl⟩
theorem x_vret1 {I' : WI} (C : Cx X cc nL own rm) (E : Rx X none (EPo none I' J P K O) rm) (d : decode cc pc = .ok (.return_, 1)) (hro : nc ≤ rm.cells ∧ ns ≤ rm.slots) (h : some I = some I') : GG X nL P K I O J nc ns pc L [] := by
  cases h
  exact g_vret C E d hro.1 hro.2 ⟨rfl, rfl, rfl, rfl, rfl, rfl⟩
theorem x_vret2 {I' : WI} {J' : WJ} (C : Cx X cc nL own rm) (E : Rx X none (EPo none I' J' P K O) rm) (d : decode cc pc = .ok (.return_, 1)) (hro : nc ≤ rm.cells ∧ ns ≤ rm.slots) (h : some (I, J) = some (I', J')) : GG X nL P K I O J nc ns pc L [] := by
  cases h
  exact g_vret C E d hro.1 hro.2 ⟨rfl, rfl, rfl, rfl, rfl, rfl⟩
theorem x_callVv {idx n nL' κ a : Nat} {y : MethodName} {cc' : ByteArray} {rt' : Option FieldType} {rm' : Room} {av : AD → List Value} {rest : List Value} {I1 : WI} {J1 : WJ} (C : Cx X cc nL own rm) (d : decode cc pc = .ok (.invokevirtual idx, 3)) (hm : MF y cc' nL' rt' n) (hv : MV y) (hl0 : LN own idx y) (ha : a ∈ P ∧ K a = κ) (hκ : κ < 11) (hcn : cN κ = y.cls) (hc : ConA y cc' nL' rt' rm' P K I O J (fun ad => .ref a :: av ad) (EPo none I1 J1 P K O)) (hn : (av (adX X)).length = n) (hst : st = (av (adX X)).reverse ++ .ref a :: rest) (hw : (rest.map fun v => v.category).sum ≤ 8) (hR' : rm'.frames + 1 ≤ rm.frames ∧ 8 + (nL' + 11) + rm'.locals ≤ rm.locals) (hz : rm'.cells = 0 ∧ rm'.slots = 0) (hro : nc ≤ rm.cells ∧ ns ≤ rm.slots) (k : GG X nL P K I1 O J1 nc ns (pc + 3) L rest) : GG X nL P K I O J nc ns pc L st := by
  refine g_callV C d hm hv hl0 ha hκ hcn hc hn hst hw hR' (by rw [hz.1, hz.2]; exact hro) (fun r P' K' I' O' J' hp => ?_)
  obtain ⟨rfl, rfl, rfl, rfl, rfl, rfl⟩ := hp
  rw [hz.1, hz.2]
  exact k
theorem x_callVi {idx n nL' κ a : Nat} {y : MethodName} {cc' : ByteArray} {rt' : Option FieldType} {rm' : Room} {av : AD → List Value} {rest : List Value} {I1 : WI} {J1 : WJ} {z : Int32} (C : Cx X cc nL own rm) (d : decode cc pc = .ok (.invokevirtual idx, 3)) (hm : MF y cc' nL' rt' n) (hv : MV y) (hl0 : LN own idx y) (ha : a ∈ P ∧ K a = κ) (hκ : κ < 11) (hcn : cN κ = y.cls) (hc : ConA y cc' nL' rt' rm' P K I O J (fun ad => .ref a :: av ad) (EPo (some (.int z)) I1 J1 P K O)) (hn : (av (adX X)).length = n) (hst : st = (av (adX X)).reverse ++ .ref a :: rest) (hw : (rest.map fun v => v.category).sum ≤ 8) (hR' : rm'.frames + 1 ≤ rm.frames ∧ 8 + (nL' + 11) + rm'.locals ≤ rm.locals) (hz : rm'.cells = 0 ∧ rm'.slots = 0) (hro : nc ≤ rm.cells ∧ ns ≤ rm.slots) (k : GG X nL P K I1 O J1 nc ns (pc + 3) L (.int z :: rest)) : GG X nL P K I O J nc ns pc L st := by
  refine g_callV C d hm hv hl0 ha hκ hcn hc hn hst hw hR' (by rw [hz.1, hz.2]; exact hro) (fun r P' K' I' O' J' hp => ?_)
  obtain ⟨rfl, rfl, rfl, rfl, rfl, rfl⟩ := hp
  rw [hz.1, hz.2]
  exact k
theorem x_callVl {idx n nL' κ a : Nat} {y : MethodName} {cc' : ByteArray} {rt' : Option FieldType} {rm' : Room} {av : AD → List Value} {rest : List Value} {I1 : WI} {J1 : WJ} {z : Int64} (C : Cx X cc nL own rm) (d : decode cc pc = .ok (.invokevirtual idx, 3)) (hm : MF y cc' nL' rt' n) (hv : MV y) (hl0 : LN own idx y) (ha : a ∈ P ∧ K a = κ) (hκ : κ < 11) (hcn : cN κ = y.cls) (hc : ConA y cc' nL' rt' rm' P K I O J (fun ad => .ref a :: av ad) (EPo (some (.long z)) I1 J1 P K O)) (hn : (av (adX X)).length = n) (hst : st = (av (adX X)).reverse ++ .ref a :: rest) (hw : (rest.map fun v => v.category).sum ≤ 8) (hR' : rm'.frames + 1 ≤ rm.frames ∧ 8 + (nL' + 11) + rm'.locals ≤ rm.locals) (hz : rm'.cells = 0 ∧ rm'.slots = 0) (hro : nc ≤ rm.cells ∧ ns ≤ rm.slots) (k : GG X nL P K I1 O J1 nc ns (pc + 3) L (.long z :: rest)) : GG X nL P K I O J nc ns pc L st := by
  refine g_callV C d hm hv hl0 ha hκ hcn hc hn hst hw hR' (by rw [hz.1, hz.2]; exact hro) (fun r P' K' I' O' J' hp => ?_)
  obtain ⟨rfl, rfl, rfl, rfl, rfl, rfl⟩ := hp
  rw [hz.1, hz.2]
  exact k
theorem x_callSv {idx n nL' : Nat} {y : MethodName} {cc' : ByteArray} {rt' : Option FieldType} {rm' : Room} {av : AD → List Value} {rest : List Value} {I1 : WI} {J1 : WJ} (C : Cx X cc nL own rm) (d : decode cc pc = .ok (.invokestatic idx, 3)) (hm : MF y cc' nL' rt' n) (hv : Cond.static y ∈ wG) (hl0 : LN own idx y) (hc : ConA y cc' nL' rt' rm' P K I O J av (EPo none I1 J1 P K O)) (hn : (av (adX X)).length = n) (hst : st = (av (adX X)).reverse ++ rest) (hw : (rest.map fun v => v.category).sum ≤ 8) (hR' : rm'.frames + 1 ≤ rm.frames ∧ 8 + (nL' + 11) + rm'.locals ≤ rm.locals) (hz : rm'.cells = 0 ∧ rm'.slots = 0) (hro : nc ≤ rm.cells ∧ ns ≤ rm.slots) (k : GG X nL P K I1 O J1 nc ns (pc + 3) L rest) : GG X nL P K I O J nc ns pc L st := by
  refine g_callS C d hm hv hl0 hc hn hst hw hR' (by rw [hz.1, hz.2]; exact hro) (fun r P' K' I' O' J' hp => ?_)
  obtain ⟨rfl, rfl, rfl, rfl, rfl, rfl⟩ := hp
  rw [hz.1, hz.2]
  exact k
theorem x_callSi {idx n nL' : Nat} {y : MethodName} {cc' : ByteArray} {rt' : Option FieldType} {rm' : Room} {av : AD → List Value} {rest : List Value} {I1 : WI} {J1 : WJ} {z : Int32} (C : Cx X cc nL own rm) (d : decode cc pc = .ok (.invokestatic idx, 3)) (hm : MF y cc' nL' rt' n) (hv : Cond.static y ∈ wG) (hl0 : LN own idx y) (hc : ConA y cc' nL' rt' rm' P K I O J av (EPo (some (.int z)) I1 J1 P K O)) (hn : (av (adX X)).length = n) (hst : st = (av (adX X)).reverse ++ rest) (hw : (rest.map fun v => v.category).sum ≤ 8) (hR' : rm'.frames + 1 ≤ rm.frames ∧ 8 + (nL' + 11) + rm'.locals ≤ rm.locals) (hz : rm'.cells = 0 ∧ rm'.slots = 0) (hro : nc ≤ rm.cells ∧ ns ≤ rm.slots) (k : GG X nL P K I1 O J1 nc ns (pc + 3) L (.int z :: rest)) : GG X nL P K I O J nc ns pc L st := by
  refine g_callS C d hm hv hl0 hc hn hst hw hR' (by rw [hz.1, hz.2]; exact hro) (fun r P' K' I' O' J' hp => ?_)
  obtain ⟨rfl, rfl, rfl, rfl, rfl, rfl⟩ := hp
  rw [hz.1, hz.2]
  exact k
theorem x_callSl {idx n nL' : Nat} {y : MethodName} {cc' : ByteArray} {rt' : Option FieldType} {rm' : Room} {av : AD → List Value} {rest : List Value} {I1 : WI} {J1 : WJ} {z : Int64} (C : Cx X cc nL own rm) (d : decode cc pc = .ok (.invokestatic idx, 3)) (hm : MF y cc' nL' rt' n) (hv : Cond.static y ∈ wG) (hl0 : LN own idx y) (hc : ConA y cc' nL' rt' rm' P K I O J av (EPo (some (.long z)) I1 J1 P K O)) (hn : (av (adX X)).length = n) (hst : st = (av (adX X)).reverse ++ rest) (hw : (rest.map fun v => v.category).sum ≤ 8) (hR' : rm'.frames + 1 ≤ rm.frames ∧ 8 + (nL' + 11) + rm'.locals ≤ rm.locals) (hz : rm'.cells = 0 ∧ rm'.slots = 0) (hro : nc ≤ rm.cells ∧ ns ≤ rm.slots) (k : GG X nL P K I1 O J1 nc ns (pc + 3) L (.long z :: rest)) : GG X nL P K I O J nc ns pc L st := by
  refine g_callS C d hm hv hl0 hc hn hst hw hR' (by rw [hz.1, hz.2]; exact hro) (fun r P' K' I' O' J' hp => ?_)
  obtain ⟨rfl, rfl, rfl, rfl, rfl, rfl⟩ := hp
  rw [hz.1, hz.2]
  exact k
theorem z_callW {idx n nL' i : Nat} {y : MethodName} {cc' : ByteArray} {rt' : Option FieldType} {rm' : Room} {ρ : Int32 → Prop} {av : AD → List Value} {rest : List Value} (C : Cx X cc nL own rm) (d : decode cc pc = .ok (.invokevirtual idx, 3)) (hm : MF y cc' nL' rt' n) (hv : MV y) (hl0 : LN own idx y) (hi : i < 31) (hcn : y.cls = "java/lang/String") (hc : ConA y cc' nL' rt' rm' P K I O J (fun ad => .ref (ad.1 i) :: av ad) (ZPo ρ P K I O J)) (hn : (av (adX X)).length = n) (hst : st = (av (adX X)).reverse ++ .ref ((adX X).1 i) :: rest) (hw : (rest.map fun v => v.category).sum ≤ 8) (hR' : rm'.frames + 1 ≤ rm.frames ∧ 8 + (nL' + 11) + rm'.locals ≤ rm.locals) (hz : rm'.cells = 0 ∧ rm'.slots = 0) (hro : nc ≤ rm.cells ∧ ns ≤ rm.slots) (k : (z : Int32) → ρ z → GG X nL P K I O J nc ns (pc + 3) L (.int z :: rest)) : GG X nL P K I O J nc ns pc L st := by
  have hrc : RC X P K I O J ((adX X).1 i) y.cls := by rw [hcn]; exact RC.str C hi
  refine g_callVR2 (ra := fun ad => ad.1 i) C d hm hv hl0 hrc hc hn hst hw hR' (by rw [hz.1, hz.2]; exact hro) (fun r P' K' I' O' J' hp => ?_)
  obtain ⟨rfl, rfl, rfl, rfl, rfl, z, rfl, hz3⟩ := hp
  rw [hz.1, hz.2]
  exact k z hz3
theorem z_callS {idx n nL' : Nat} {y : MethodName} {cc' : ByteArray} {rt' : Option FieldType} {rm' : Room} {ρ : Int32 → Prop} {av : AD → List Value} {rest : List Value} (C : Cx X cc nL own rm) (d : decode cc pc = .ok (.invokestatic idx, 3)) (hm : MF y cc' nL' rt' n) (hv : Cond.static y ∈ wG) (hl0 : LN own idx y) (hc : ConA y cc' nL' rt' rm' P K I O J av (ZPo ρ P K I O J)) (hn : (av (adX X)).length = n) (hst : st = (av (adX X)).reverse ++ rest) (hw : (rest.map fun v => v.category).sum ≤ 8) (hR' : rm'.frames + 1 ≤ rm.frames ∧ 8 + (nL' + 11) + rm'.locals ≤ rm.locals) (hz : rm'.cells = 0 ∧ rm'.slots = 0) (hro : nc ≤ rm.cells ∧ ns ≤ rm.slots) (k : (z : Int32) → ρ z → GG X nL P K I O J nc ns (pc + 3) L (.int z :: rest)) : GG X nL P K I O J nc ns pc L st := by
  refine g_callS C d hm hv hl0 hc hn hst hw hR' (by rw [hz.1, hz.2]; exact hro) (fun r P' K' I' O' J' hp => ?_)
  obtain ⟨rfl, rfl, rfl, rfl, rfl, z, rfl, hz3⟩ := hp
  rw [hz.1, hz.2]
  exact k z hz3
theorem z_callSv {idx n nL' : Nat} {y : MethodName} {cc' : ByteArray} {rt' : Option FieldType} {rm' : Room} {av : AD → List Value} {rest : List Value} (C : Cx X cc nL own rm) (d : decode cc pc = .ok (.invokestatic idx, 3)) (hm : MF y cc' nL' rt' n) (hv : Cond.static y ∈ wG) (hl0 : LN own idx y) (hc : ConA y cc' nL' rt' rm' P K I O J av (VPo P K I O J)) (hn : (av (adX X)).length = n) (hst : st = (av (adX X)).reverse ++ rest) (hw : (rest.map fun v => v.category).sum ≤ 8) (hR' : rm'.frames + 1 ≤ rm.frames ∧ 8 + (nL' + 11) + rm'.locals ≤ rm.locals) (hz : rm'.cells = 0 ∧ rm'.slots = 0) (hro : nc ≤ rm.cells ∧ ns ≤ rm.slots) (k : GG X nL P K I O J nc ns (pc + 3) L rest) : GG X nL P K I O J nc ns pc L st := by
  refine g_callS C d hm hv hl0 hc hn hst hw hR' (by rw [hz.1, hz.2]; exact hro) (fun r P' K' I' O' J' hp => ?_)
  obtain ⟨rfl, rfl, rfl, rfl, rfl, rfl⟩ := hp
  rw [hz.1, hz.2]
  exact k
theorem z_nret {v : Int32} {ty : FieldType} {ρ : Int32 → Prop} (C : Cx X cc nL own rm) (E : Rx X (some ty) (ZPo ρ P K I O J) rm) (d : decode cc pc = .ok (.ireturn, 1)) (hz : narrow ty (.int v) = .int v) (hro : nc ≤ rm.cells ∧ ns ≤ rm.slots) (hρ : ρ v) : GG X nL P K I O J nc ns pc L [.int v] := g_nret C E d hz hro.1 hro.2 ⟨rfl, rfl, rfl, rfl, rfl, v, rfl, hρ⟩
theorem z_vret (C : Cx X cc nL own rm) (E : Rx X none (VPo P K I O J) rm) (d : decode cc pc = .ok (.return_, 1)) (hro : nc ≤ rm.cells ∧ ns ≤ rm.slots) : GG X nL P K I O J nc ns pc L [] := g_vret C E d hro.1 hro.2 ⟨rfl, rfl, rfl, rfl, rfl, rfl⟩
end XROWS
theorem eJS_coder {P : List Nat} {K : Nat → Nat} {I0 : Nat → Nat → Int32} {O : Nat → Nat → Option Nat} {J0 : Nat → Nat → Int64} {i : Nat} (hi : i < 31) : ConA yJS_coder bJS_coder 1 (some .byte) ({ frames := 0, cells := 0, slots := 0, locals := 0 } : Room) P K I0 O J0 (fun ad => [.ref (ad.1 i)]) (ZPo (fun z => z = 0) P K I0 O J0) := by
  refine ConA.ofG mfJS_coder (fun _ => Nat.le_of_ble_eq_true rfl) ?_
  intro X C E
  refine g_strZ C dJS_coder_0 fs_comp ?_
  refine g_if_eq 13 C dJS_coder_3 (by decide) (fun c => absurd c (by decide)) (fun _ => ?_)
  refine g_aload_n C dJS_coder_6 rfl ?_
  refine g_strC C dJS_coder_7 hi fs_coder ?_
  refine g_goto 14 C dJS_coder_10 (by decide) ?_
  exact z_nret C E dJS_coder_14 rfl ⟨Nat.zero_le _, Nat.zero_le _⟩ rfl
theorem eJS_isLatin1 {P : List Nat} {K : Nat → Nat} {I0 : Nat → Nat → Int32} {O : Nat → Nat → Option Nat} {J0 : Nat → Nat → Int64} {i : Nat} (hi : i < 31) : ConA yJS_isLatin1 bJS_isLatin1 1 (some .boolean) ({ frames := 0, cells := 0, slots := 0, locals := 0 } : Room) P K I0 O J0 (fun ad => [.ref (ad.1 i)]) (ZPo (fun z => z = 1) P K I0 O J0) := by
  refine ConA.ofG mfJS_isLatin1 (fun _ => Nat.le_of_ble_eq_true rfl) ?_
  intro X C E
  refine g_strZ C dJS_isLatin1_0 fs_comp ?_
  refine g_if_eq 17 C dJS_isLatin1_3 (by decide) (fun c => absurd c (by decide)) (fun _ => ?_)
  refine g_aload_n C dJS_isLatin1_6 rfl ?_
  refine g_strC C dJS_isLatin1_7 hi fs_coder ?_
  refine g_if_ne 17 C dJS_isLatin1_10 (by decide) (fun c => absurd rfl c) (fun _ => ?_)
  refine g_iconst (v := 1) C dJS_isLatin1_13 (by decide) ?_
  refine g_goto 18 C dJS_isLatin1_14 (by decide) ?_
  exact z_nret C E dJS_isLatin1_18 rfl ⟨Nat.zero_le _, Nat.zero_le _⟩ rfl
theorem eJS_length {P : List Nat} {K : Nat → Nat} {I0 : Nat → Nat → Int32} {O : Nat → Nat → Option Nat} {J0 : Nat → Nat → Int64} {i : Nat} (hi : i < 31) : ConA yJS_length bJS_length 1 (some .int) ({ frames := 1, cells := 0, slots := 0, locals := 20 } : Room) P K I0 O J0 (fun ad => [.ref (ad.1 i)]) (ZPo (fun z => z.toInt = ((sLen.getD i 0 : Nat) : Int)) P K I0 O J0) := by
  refine ConA.ofG mfJS_length (fun _ => Nat.le_of_ble_eq_true rfl) ?_
  intro X C E
  refine g_aload_n C dJS_length_0 rfl ?_
  refine g_strV C dJS_length_1 hi fs_value ?_
  refine g_strL C dJS_length_4 hi ?_
  refine g_aload_n C dJS_length_5 rfl ?_
  refine z_callW (av := fun _ => []) C dJS_length_6 mfJS_coder mvJS_coder ln_JS_335 hi rfl (eJS_coder hi) rfl rfl (Nat.le_of_ble_eq_true rfl) ⟨Nat.le_of_ble_eq_true rfl, Nat.le_of_ble_eq_true rfl⟩ ⟨rfl, rfl⟩ ⟨Nat.zero_le _, Nat.zero_le _⟩ (fun z hz => ?_)
  subst hz
  refine g_ishr C dJS_length_9 ?_
  exact z_nret C E dJS_length_10 rfl ⟨Nat.zero_le _, Nat.zero_le _⟩ (str_len i hi)
theorem eJP_checkIndex {P : List Nat} {K : Nat → Nat} {I0 : Nat → Nat → Int32} {O : Nat → Nat → Option Nat} {J0 : Nat → Nat → Int64} {x y : Int32} {v : Value} (hv : v = .null ∨ ∃ t, v = .ref t) (h0 : 0 ≤ x.toInt ∧ x.toInt < y.toInt) : Con yJP_checkIndex bJP_checkIndex 3 (some .int) ({ frames := 0, cells := 0, slots := 0, locals := 0 } : Room) P K I0 O J0 [.int x, .int y, v] (ZPo (fun _ => True) P K I0 O J0) := by
  refine Con.ofG mfJP_checkIndex (by rcases hv with rfl | ⟨t, rfl⟩ <;> exact Nat.le_of_ble_eq_true rfl) ?_
  intro X C E
  refine g_iload_n C dJP_checkIndex_0 rfl ?_
  refine gt_if_lt 9 C dJP_checkIndex_1 (by decide) rfl (fun c => ?_) (fun c => ?_)
  · exfalso; omega
  refine g_iload_n C dJP_checkIndex_4 rfl ?_
  refine g_iload_n C dJP_checkIndex_5 rfl ?_
  refine gt_icmp_lt 16 C dJP_checkIndex_6 (by decide) rfl rfl (fun c => ?_) (fun c => ?_)
  · refine g_iload_n C dJP_checkIndex_16 rfl ?_
    exact z_nret C E dJP_checkIndex_17 rfl ⟨Nat.zero_le _, Nat.zero_le _⟩ trivial
  · exfalso; omega
theorem eJS_checkIndex {P : List Nat} {K : Nat → Nat} {I0 : Nat → Nat → Int32} {O : Nat → Nat → Option Nat} {J0 : Nat → Nat → Int64} {x y : Int32} (h0 : 0 ≤ x.toInt ∧ x.toInt < y.toInt) : Con yJS_checkIndex bJS_checkIndex 2 none ({ frames := 1, cells := 0, slots := 0, locals := 22 } : Room) P K I0 O J0 [.int x, .int y] (VPo P K I0 O J0) := by
  refine Con.ofG mfJS_checkIndex (Nat.le_of_ble_eq_true rfl) ?_
  intro X C E
  refine g_iload_n C dJS_checkIndex_0 rfl ?_
  refine g_iload_n C dJS_checkIndex_1 rfl ?_
  refine g_strF C dJS_checkIndex_2 fs_form (fun v hv => ?_)
  refine z_callS (av := fun _ => [.int x, .int y, v]) C dJS_checkIndex_5 mfJP_checkIndex msJP_checkIndex ln_JS_1059 (eJP_checkIndex hv h0) rfl rfl (Nat.le_of_ble_eq_true rfl) ⟨Nat.le_of_ble_eq_true rfl, Nat.le_of_ble_eq_true rfl⟩ ⟨rfl, rfl⟩ ⟨Nat.zero_le _, Nat.zero_le _⟩ (fun z hz => ?_)
  refine g_pop C dJS_checkIndex_8 rfl ?_
  exact z_vret C E dJS_checkIndex_9 ⟨Nat.zero_le _, Nat.zero_le _⟩
theorem eJL_charAt {P : List Nat} {K : Nat → Nat} {I0 : Nat → Nat → Int32} {O : Nat → Nat → Option Nat} {J0 : Nat → Nat → Int64} {i : Nat} (hi : i < 31) {x : Int32} (h0 : 0 ≤ x.toInt ∧ x.toInt < ((sLen.getD i 0 : Nat) : Int)) : ConA yJL_charAt bJL_charAt 2 (some .char) ({ frames := 2, cells := 0, slots := 0, locals := 43 } : Room) P K I0 O J0 (fun ad => [.ref (ad.2 i), .int x]) (ZPo (fun z => z = (sByt.getD i []).getD x.toNatClampNeg 0) P K I0 O J0) := by
  refine ConA.ofG mfJL_charAt (fun _ => Nat.le_of_ble_eq_true rfl) ?_
  intro X C E
  have hlt : x.toNatClampNeg < sLen.getD i 0 := by
    have : x.toNatClampNeg = x.toInt.toNat := rfl
    omega
  refine g_iload_n C dJL_charAt_0 rfl ?_
  refine g_aload_n C dJL_charAt_1 rfl ?_
  refine g_strL C dJL_charAt_2 hi ?_
  refine z_callSv (av := fun _ => [.int x, .int (Int32.ofNat (sLen.getD i 0))]) C dJL_charAt_3 mfJS_checkIndex msJS_checkIndex ln_JL_9 (eJS_checkIndex (by rw [str_len0 i hi]; exact h0)) rfl rfl (Nat.le_of_ble_eq_true rfl) ⟨Nat.le_of_ble_eq_true rfl, Nat.le_of_ble_eq_true rfl⟩ ⟨rfl, rfl⟩ ⟨Nat.zero_le _, Nat.zero_le _⟩ ?_
  refine g_aload_n C dJL_charAt_6 rfl ?_
  refine g_iload_n C dJL_charAt_7 rfl ?_
  refine g_strB C dJL_charAt_8 hi (vp_in_iff.mpr h0) ?_
  refine g_sipush (v := Int32.ofInt 255) C dJL_charAt_9 (by decide) ?_
  refine g_iand C dJL_charAt_12 ?_
  refine g_i2c C dJL_charAt_13 ?_
  rw [str_chr i hi _ hlt]
  exact z_nret C E dJL_charAt_14 (str_nar i hi _ hlt) ⟨Nat.zero_le _, Nat.zero_le _⟩ rfl
theorem eJS_charAt {P : List Nat} {K : Nat → Nat} {I0 : Nat → Nat → Int32} {O : Nat → Nat → Option Nat} {J0 : Nat → Nat → Int64} {i : Nat} (hi : i < 31) {x : Int32} (h0 : 0 ≤ x.toInt ∧ x.toInt < ((sLen.getD i 0 : Nat) : Int)) : ConA yJS_charAt bJS_charAt 2 (some .char) ({ frames := 3, cells := 0, slots := 0, locals := 64 } : Room) P K I0 O J0 (fun ad => [.ref (ad.1 i), .int x]) (ZPo (fun z => z = (sByt.getD i []).getD x.toNatClampNeg 0) P K I0 O J0) := by
  refine ConA.ofG mfJS_charAt (fun _ => Nat.le_of_ble_eq_true rfl) ?_
  intro X C E
  have hlt : x.toNatClampNeg < sLen.getD i 0 := by
    have : x.toNatClampNeg = x.toInt.toNat := rfl
    omega
  refine g_aload_n C dJS_charAt_0 rfl ?_
  refine z_callW (av := fun _ => []) C dJS_charAt_1 mfJS_isLatin1 mvJS_isLatin1 ln_JS_492 hi rfl (eJS_isLatin1 hi) rfl rfl (Nat.le_of_ble_eq_true rfl) ⟨Nat.le_of_ble_eq_true rfl, Nat.le_of_ble_eq_true rfl⟩ ⟨rfl, rfl⟩ ⟨Nat.zero_le _, Nat.zero_le _⟩ (fun z hz => ?_)
  subst hz
  refine g_if_eq 16 C dJS_charAt_4 (by decide) (fun c => absurd c (by decide)) (fun _ => ?_)
  refine g_aload_n C dJS_charAt_7 rfl ?_
  refine g_strV C dJS_charAt_8 hi fs_value ?_
  refine g_iload_n C dJS_charAt_11 rfl ?_
  refine z_callS (av := fun ad => [.ref (ad.2 i), .int x]) C dJS_charAt_12 mfJL_charAt msJL_charAt ln_JS_495 (eJL_charAt hi h0) rfl rfl (Nat.le_of_ble_eq_true rfl) ⟨Nat.le_of_ble_eq_true rfl, Nat.le_of_ble_eq_true rfl⟩ ⟨rfl, rfl⟩ ⟨Nat.zero_le _, Nat.zero_le _⟩ (fun z hz => ?_)
  subst hz
  exact z_nret C E dJS_charAt_15 (str_nar i hi _ hlt) ⟨Nat.zero_le _, Nat.zero_le _⟩ rfl


theorem x_sL {i : Nat} (hi : i < 31) {z : Int32} (h : z.toInt = ((sLen.getD i 0 : Nat) : Int)) : z = sL i := by
  have e : ∀ i, i < 31 → (sL i).toInt = ((sLen.getD i 0 : Nat) : Int) := by decide +kernel
  exact Int32.toInt_inj.mp (h.trans (e i hi).symm)
