/-! a method of the class leaves the cells of the trees that it doesn't write -/
def rt : List Nat → Nat
  | [] => 0
  | [f] => f
  | _ :: g :: l => rt (g :: l)
/-- outside the trees of these fields -/
def OT (O : WO) (x : Nat) (fs : List Nat) (b : Nat) : Prop := ∃ p κ, pLb p = some κ ∧ p ≠ [] ∧ rt p ∉ fs ∧ b = pAt O x p
def WT (Q : List Nat) (O : WO) (x : Nat) (fs : List Nat) (b : Nat) : Prop := b ∈ Q ∧ ¬ OT O x fs b
section TREE
variable {P : List Nat} {K : Nat → Nat} {O : WO} {x mo : Nat} {Q : List Nat} {fs : List Nat}
theorem WT.cl (hT : TR P K O) (hx : x ∈ P ∧ K x = 8) (hQ : OW Q P O x mo) : ∀ b f c, WT Q O x fs b → ¬ K b = 8 → O b f = some c → WT Q O x fs c := by
  intro b f c h h8 hc
  refine ⟨hQ.2.2.2.1 b f c h.1 hc, fun ⟨p, κ, p1, p2, p3, p4⟩ => ?_⟩
  cases p with
  | nil => exact p2 rfl
  | cons g l =>
    obtain ⟨κ0, q1, q2, q3⟩ := pLb_i p1
    have o := rf_o hT (pAt_ok hT hx l κ0 q1) q2
    have e : c = rf O (pAt O x l) g := p4
    rw [← e] at o
    have u := hQ.2.2.2.2 b f (pAt O x l) g c h.1 (pAt_q hT hx hQ l κ0 q1) hc o
    cases l with
    | nil => exact h8 (by rw [u.1]; exact hx.2)
    | cons g' l' => exact h.2 ⟨g' :: l', κ0, q1, fun z => (by cases z), p3, u.1⟩
theorem WT.slf (hT : TR P K O) (hx : x ∈ P ∧ K x = 8) (hQ : OW Q P O x mo) : WT Q O x fs x := by
  refine ⟨hQ.1, fun ⟨p, κ, p1, p2, p3, p4⟩ => ?_⟩
  cases p with
  | nil => exact p2 rfl
  | cons g l =>
    obtain ⟨κ0, q1, q2, q3⟩ := pLb_i p1
    have k := (pAt_ok hT hx _ _ p1).2
    rw [← p4, hx.2] at k
    exact q3 k.symm
theorem WT.fld {f κ : Nat} (hT : TR P K O) (hx : x ∈ P ∧ K x = 8) (hQ : OW Q P O x mo) (hs : sp 8 f = some κ) (h8 : κ ≠ 8) (hf : f ∈ fs) : WT Q O x fs (rf O x f) := by
  have l1 : pLb [f] = some κ := pLb_c (l := []) rfl hs h8
  refine ⟨pAt_q hT hx hQ [f] κ l1, fun ⟨p, κ', p1, p2, p3, p4⟩ => ?_⟩
  have e := pAt_inj hT hx hQ [f] p κ κ' l1 p1 p4
  rw [← e] at p3
  exact p3 hf
theorem tr_keep {I I1 : WI} (h : ∀ b, ¬ WT Q O x fs b → I1 b = I b) {p : List Nat} {κ : Nat} (hp : pLb p = some κ) (hn : p ≠ []) (hr : rt p ∉ fs) : I1 (pAt O x p) = I (pAt O x p) := h _ (fun z => z.2 ⟨p, κ, hp, hn, hr, rfl⟩)
end TREE
