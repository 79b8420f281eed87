/-! the cells of a class's object by their paths: different paths, different cells -/
def pLb : List Nat → Option Nat
  | [] => some 8
  | f :: l => match pLb l with
    | none => none
    | some κ => match sp κ f with
      | none => none
      | some κ' => if κ' = 8 then none else some κ'
def pAt (O : WO) (x : Nat) : List Nat → Nat
  | [] => x
  | f :: l => rf O (pAt O x l) f
theorem pLb_i {f κ' : Nat} {l : List Nat} (h : pLb (f :: l) = some κ') : ∃ κ, pLb l = some κ ∧ sp κ f = some κ' ∧ κ' ≠ 8 := by
  unfold pLb at h
  cases e : pLb l with
  | none => rw [e] at h; cases h
  | some κ =>
    rw [e] at h
    dsimp only at h
    cases e2 : sp κ f with
    | none => rw [e2] at h; cases h
    | some κ2 =>
      rw [e2] at h
      dsimp only at h
      by_cases c : κ2 = 8
      · rw [if_pos c] at h; cases h
      · rw [if_neg c] at h; cases h; exact ⟨κ, rfl, e2, c⟩
theorem pLb_c {f κ κ' : Nat} {l : List Nat} (h : pLb l = some κ) (hs : sp κ f = some κ') (h8 : κ' ≠ 8) : pLb (f :: l) = some κ' := by
  unfold pLb; rw [h]; dsimp only; rw [hs]; dsimp only; exact if_neg h8
/-- two drums that lie apart -/
def SD (O : WO) (d e : Nat) : Prop := ∀ b, WD O d b → ¬ WD O e b
section PATH
variable {P : List Nat} {K : Nat → Nat} {O : WO} {x mo : Nat} {Q : List Nat}
theorem pAt_ok (hT : TR P K O) (hx : x ∈ P ∧ K x = 8) : ∀ (l : List Nat) (κ : Nat), pLb l = some κ → pAt O x l ∈ P ∧ K (pAt O x l) = κ := by
  intro l
  induction l with
  | nil => intro κ h; cases h; exact hx
  | cons f l ih =>
    intro κ h
    obtain ⟨κ0, h1, h2, h3⟩ := pLb_i h
    exact rf_ok hT (ih κ0 h1) h2
theorem pAt_q (hT : TR P K O) (hx : x ∈ P ∧ K x = 8) (hQ : OW Q P O x mo) : ∀ (l : List Nat) (κ : Nat), pLb l = some κ → pAt O x l ∈ Q := by
  intro l
  induction l with
  | nil => intro κ h; exact hQ.1
  | cons f l ih =>
    intro κ h
    obtain ⟨κ0, h1, h2, h3⟩ := pLb_i h
    exact hQ.2.2.2.1 _ f _ (ih κ0 h1) (rf_o hT (pAt_ok hT hx l κ0 h1) h2)
theorem pAt_inj (hT : TR P K O) (hx : x ∈ P ∧ K x = 8) (hQ : OW Q P O x mo) : ∀ (l l' : List Nat) (κ κ' : Nat), pLb l = some κ → pLb l' = some κ' → pAt O x l = pAt O x l' → l = l' := by
  have n8 : ∀ f l κ, pLb (f :: l) = some κ → ¬ pAt O x (f :: l) = x := fun f l κ h z => by
    obtain ⟨κ0, h1, h2, h3⟩ := pLb_i h
    have q := (pAt_ok hT hx _ _ h).2
    rw [z, hx.2] at q; exact h3 q.symm
  intro l
  induction l with
  | nil =>
    intro l' κ κ' h h' e
    cases l' with
    | nil => rfl
    | cons f l' => exact absurd e.symm (n8 f l' κ' h')
  | cons f l ih =>
    intro l' κ κ' h h' e
    cases l' with
    | nil => exact absurd e (n8 f l κ h)
    | cons g l' =>
      obtain ⟨κ0, h1, h2, h3⟩ := pLb_i h
      obtain ⟨κ1, g1, g2, g3⟩ := pLb_i h'
      have o1 := rf_o hT (pAt_ok hT hx l κ0 h1) h2
      have o2 := rf_o hT (pAt_ok hT hx l' κ1 g1) g2
      have e2 : rf O (pAt O x l) f = rf O (pAt O x l') g := e
      rw [e2] at o1
      obtain ⟨w1, w2⟩ := hQ.2.2.2.2 _ _ _ _ _ (pAt_q hT hx hQ l κ0 h1) (pAt_q hT hx hQ l' κ1 g1) o1 o2
      rw [ih l' κ0 κ1 h1 g1 w1, w2]
theorem pNe (hT : TR P K O) (hx : x ∈ P ∧ K x = 8) (hQ : OW Q P O x mo) {l l' : List Nat} {κ κ' : Nat} (h : pLb l = some κ) (h' : pLb l' = some κ') (hn : l ≠ l') : ¬ pAt O x l = pAt O x l' := fun e => hn (pAt_inj hT hx hQ l l' κ κ' h h' e)
/-- the paths of a drum's cells -/
def pWD (l : List Nat) : List (List Nat) := [l, 0 :: 0 :: l, 1 :: 0 :: l, 2 :: 0 :: l, 1 :: l]
theorem pWD_o {l : List Nat} {b : Nat} (h : WD O (pAt O x l) b) : ∃ p, p ∈ pWD l ∧ b = pAt O x p := by
  rcases h with h | h | h | h | h
  · exact ⟨l, by simp [pWD], h⟩
  · exact ⟨0 :: 0 :: l, by simp [pWD], h⟩
  · exact ⟨1 :: 0 :: l, by simp [pWD], h⟩
  · exact ⟨2 :: 0 :: l, by simp [pWD], h⟩
  · exact ⟨1 :: l, by simp [pWD], h⟩
theorem pWD_l {l p : List Nat} (hl : pLb l = some 0) (h : p ∈ pWD l) : ∃ κ, pLb p = some κ := by
  have h0 := pLb_c (f := 0) hl (show sp 0 0 = some 2 from rfl) (by decide)
  simp only [pWD, List.mem_cons, List.not_mem_nil, or_false] at h
  rcases h with h | h | h | h | h
  · exact ⟨0, by rw [h]; exact hl⟩
  · exact ⟨11, by rw [h]; exact pLb_c h0 rfl (by decide)⟩
  · exact ⟨11, by rw [h]; exact pLb_c h0 rfl (by decide)⟩
  · exact ⟨11, by rw [h]; exact pLb_c h0 rfl (by decide)⟩
  · exact ⟨11, by rw [h]; exact pLb_c hl rfl (by decide)⟩
theorem pND (hT : TR P K O) (hx : x ∈ P ∧ K x = 8) (hQ : OW Q P O x mo) {l p : List Nat} {κ : Nat} (h : pLb l = some 0) (hp : pLb p = some κ) (hd : ((pWD l).all fun a => decide (a ≠ p)) = true) : ¬ WD O (pAt O x l) (pAt O x p) := fun z => by
  obtain ⟨a, a1, a2⟩ := pWD_o z
  obtain ⟨κ', a3⟩ := pWD_l h a1
  exact pNe hT hx hQ a3 hp (of_decide_eq_true (List.all_eq_true.mp hd a a1)) a2.symm
theorem pSD (hT : TR P K O) (hx : x ∈ P ∧ K x = 8) (hQ : OW Q P O x mo) {l l' : List Nat} (h : pLb l = some 0) (h' : pLb l' = some 0) (hd : ((pWD l).all fun a => (pWD l').all fun b => decide (a ≠ b)) = true) : SD O (pAt O x l) (pAt O x l') := fun b z z' => by
  obtain ⟨a, a1, a2⟩ := pWD_o z
  obtain ⟨κ, a3⟩ := pWD_l h a1
  obtain ⟨c, c1, c2⟩ := pWD_o z'
  obtain ⟨κ', c3⟩ := pWD_l h' c1
  exact pNe hT hx hQ a3 c3 (of_decide_eq_true (List.all_eq_true.mp (List.all_eq_true.mp hd a a1) c c1)) (a2.symm.trans c2)
def pML (m : List Nat) : List (List Nat) := [m, 10 :: m, 11 :: m, 12 :: m, 13 :: m, 14 :: m]
theorem pML_l {m p : List Nat} (hm : pLb m = some 3) (h : p ∈ pML m) : ∃ κ, pLb p = some κ := by
  simp only [pML, List.mem_cons, List.not_mem_nil, or_false] at h
  rcases h with h | h | h | h | h | h
  · exact ⟨3, by rw [h]; exact hm⟩
  · exact ⟨13, by rw [h]; exact pLb_c hm rfl (by decide)⟩
  · exact ⟨11, by rw [h]; exact pLb_c hm rfl (by decide)⟩
  · exact ⟨11, by rw [h]; exact pLb_c hm rfl (by decide)⟩
  · exact ⟨12, by rw [h]; exact pLb_c hm rfl (by decide)⟩
  · exact ⟨14, by rw [h]; exact pLb_c hm rfl (by decide)⟩
theorem pML_j {m : List Nat} {j : Nat} (hj : j < 5) : (10 + j) :: m ∈ pML m := by
  have : j = 0 ∨ j = 1 ∨ j = 2 ∨ j = 3 ∨ j = 4 := by omega
  rcases this with rfl | rfl | rfl | rfl | rfl <;> simp [pML]
/-- a path that lies apart from a mill and its rows -/
theorem pNM (hT : TR P K O) (hx : x ∈ P ∧ K x = 8) (hQ : OW Q P O x mo) {m p : List Nat} {κ : Nat} (h : pLb m = some 3) (hp : pLb p = some κ) (hd : ((pML m).all fun a => decide (a ≠ p)) = true) : ¬ pAt O x m = pAt O x p ∧ ∀ j, j < 5 → ¬ rf O (pAt O x m) (10 + j) = pAt O x p := by
  have k : ∀ a, a ∈ pML m → ¬ pAt O x a = pAt O x p := fun a a1 => by
    obtain ⟨κ', a3⟩ := pML_l h a1
    exact pNe hT hx hQ a3 hp (of_decide_eq_true (List.all_eq_true.mp hd a a1))
  exact ⟨k m (by simp [pML]), fun j hj => k _ (pML_j hj)⟩
def pSPb (l m : List Nat) : Bool := ((pWD l).all fun b => (pML m).all fun a => decide (a ≠ b)) && ((0 :: 0 :: l : List Nat) != 1 :: l) && ((1 :: 0 :: l : List Nat) != 1 :: l)
theorem pSP (hT : TR P K O) (hx : x ∈ P ∧ K x = 8) (hQ : OW Q P O x mo) {l m : List Nat} (h : pLb l = some 0) (hm : pLb m = some 3) (hd : ((pWD l).all fun b => (pML m).all fun a => decide (a ≠ b)) = true) : SPd O (pAt O x l) (pAt O x m) := by
  have h0 := pLb_c (f := 0) h (show sp 0 0 = some 2 from rfl) (by decide)
  have hA : pLb (1 :: l) = some 11 := pLb_c h rfl (by decide)
  have hr : ∀ j, j < 3 → pLb (j :: 0 :: l) = some 11 := fun j hj => by
    have : j = 0 ∨ j = 1 ∨ j = 2 := by omega
    rcases this with rfl | rfl | rfl <;> exact pLb_c h0 rfl (by decide)
  have nl : ∀ l : List Nat, (0 :: l : List Nat) ≠ l := fun l z => by have := congrArg List.length z; simp at this
  have nl2 : ∀ (a b : Nat) (l : List Nat), (a :: b :: l : List Nat) ≠ l := fun a b l z => by have := congrArg List.length z; simp at this; omega
  have nl1 : ∀ (a : Nat) (l : List Nat), (a :: l : List Nat) ≠ l := fun a l z => by have := congrArg List.length z; simp at this
  have n := fun {p q : List Nat} {κ κ' : Nat} (a : pLb p = some κ) (b : pLb q = some κ') (c : p ≠ q) => pNe hT hx hQ a b c
  refine ⟨⟨n (hr 0 (by decide)) (hr 1 (by decide)) (by simp), n (hr 0 (by decide)) (hr 2 (by decide)) (by simp), n (hr 0 (by decide)) hA (by simp), n (hr 1 (by decide)) (hr 2 (by decide)) (by simp), n (hr 1 (by decide)) hA (fun z => by injection z with _ z2; exact nl l z2), n (hr 2 (by decide)) hA (by simp)⟩, ⟨n (hr 0 (by decide)) h (nl2 _ _ _), n (hr 1 (by decide)) h (nl2 _ _ _), n (hr 2 (by decide)) h (nl2 _ _ _), n hA h (nl1 _ _)⟩, fun w hw => ?_⟩
  obtain ⟨a, a1, a2⟩ := pWD_o hw
  obtain ⟨κ, a3⟩ := pWD_l h a1
  rw [a2]
  exact pNM hT hx hQ hm a3 (List.all_eq_true.mp hd a a1)
end PATH
