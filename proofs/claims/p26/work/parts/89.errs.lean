/-! a text's fault has a number from 1 on; a sound text's mill lacks nothing -/
def EG {α : Type} (e : Except (Int × Nat) α) : Prop := ∀ w, e = .error w → 1 ≤ w.1
theorem EG.ok {α : Type} {x : α} : EG (.ok x) := fun w h => by cases h
theorem EG.er {α : Type} {k : Int} {f : Nat} (h : 1 ≤ k) : EG (.error (k, f) : Except (Int × Nat) α) := fun w e => by cases e; exact h
theorem EG.bind {α β : Type} {e : Except (Int × Nat) α} {g : α → Except (Int × Nat) β} (h : EG e) (k : ∀ x, EG (g x)) : EG (e.bind g) := by
  intro w hw
  cases e with
  | ok x => exact k x w hw
  | error v =>
    have e1 : (Except.error v : Except (Int × Nat) β) = .error w := hw
    cases e1
    exact h _ rfl
theorem EG.ite {α : Type} {c : Prop} {i : Decidable c} {e f : Except (Int × Nat) α} (h : EG e) (k : EG f) : EG (@ite _ c i e f) := by
  by_cases q : c
  · rw [if_pos q]; exact h
  · rw [if_neg q]; exact k
section ERRS
variable {t : Nat → Int} {n : Nat}
theorem EG_ww {i f : Nat} : EG (ww t n i f) := EG.ite EG.ok (EG.er (by decide))
theorem EG_wl {lo hi : Int} {f : Nat} : EG (wl t n lo hi f) := EG.ite (EG.ite EG.ok (EG.er (by decide))) (EG.er (by decide))
theorem EG_prl : ∀ (k i f : Nat) (M : MM), EG (prl t n k i f M)
  | 0, _, _, _ => EG.er (by decide)
  | k + 1, i, f, M => EG.bind EG_wl (fun v => EG.ite (EG.er (by decide)) (EG.ite (EG_prl k _ _ _) EG.ok))
theorem EG_tnl : ∀ (k i f : Nat) (M : MM), EG (tnl t n k i f M)
  | 0, _, _, _ => EG.er (by decide)
  | k + 1, i, f, M => EG.bind EG_wl (fun v => EG.ite (EG.er (by decide)) (EG.ite (EG_tnl k _ _ _) EG.ok))
theorem EG_line {f : Nat} {M : MM} : EG (spLine t n f M) := by
  unfold spLine
  refine EG.ite ?_ (EG.ite ?_ (EG.ite ?_ (EG.ite ?_ (EG.ite ?_ (EG.ite ?_ (EG.ite ?_ (EG.er (by decide))))))))
  · exact EG.ite (EG.er (by decide)) (EG.bind EG_ww fun _ => EG.bind EG_wl fun _ => EG.bind EG_ww fun _ => EG.bind EG_wl fun _ => EG.ok)
  · exact EG.ite (EG.er (by decide)) (EG.ite (EG.ite (EG.er (by decide)) (EG.bind EG_ww fun _ => EG.bind EG_wl fun _ => EG.ok)) (EG.er (by decide)))
  · exact EG.ite (EG.er (by decide)) (EG.bind EG_wl fun _ => EG.ok)
  · exact EG.ite (EG.er (by decide)) (EG.bind EG_wl fun _ => EG.bind EG_ww fun _ => EG.bind EG_wl fun _ => EG.ok)
  · exact EG.ite (EG.er (by decide)) (EG_prl _ _ _ _)
  · exact EG.ite (EG.er (by decide)) (EG.ite (EG.ite (EG.ite (EG.bind EG_wl fun _ => EG.bind EG_ww fun _ => EG.bind EG_wl fun _ => EG.ok) EG.ok) (EG.er (by decide))) (EG.er (by decide)))
  · exact EG.bind (EG.ite (EG.er (by decide)) (EG.ite (EG.ite (EG.bind EG_ww fun _ => EG.bind EG_wl fun _ => EG.ite EG.ok (EG.er (by decide))) (EG.er (by decide))) (EG.er (by decide)))) (fun _ => EG_tnl _ _ _ _)
theorem EG_ls : ∀ (k f : Nat) (M : MM), EG (spLs t n k f M)
  | 0, _, _ => EG.er (by decide)
  | k + 1, f, M => EG.bind EG_line (fun q => EG.ite (EG.ite (EG.er (by decide)) EG.ok) (EG.ite (EG_ls k _ _) (EG.er (by decide))))
theorem ls_ok : ∀ (k f : Nat) (M : MM) (q : Nat × MM), spLs t n k f M = .ok q → lks q.2 = false
  | 0, _, _, q, h => by cases h
  | k + 1, f, M, q, h => by
    unfold spLs at h
    cases e : spLine t n f M with
    | error w => rw [e] at h; cases h
    | ok v =>
      rw [e, Ex_ok] at h
      by_cases c1 : kd t n v.1 = 0
      · rw [if_pos c1] at h
        by_cases c2 : lks v.2 = true
        · rw [if_pos c2] at h; cases h
        · rw [if_neg c2] at h
          cases h
          exact Bool.eq_false_iff.mpr c2
      · rw [if_neg c1] at h
        by_cases c2 : sc t n v.1 = true
        · rw [if_pos c2] at h; exact ls_ok k _ _ q h
        · rw [if_neg c2] at h; cases h
end ERRS
theorem mill_er {t : Nat → Int} {n : Nat} {w : Int × Nat} (h : spMill t n = .error w) : 1 ≤ w.1 := EG_ls _ _ _ w h
theorem mill_ok {t : Nat → Int} {n : Nat} {q : Nat × MM} (h : spMill t n = .ok q) : ¬ q.2.1 0 = 0 ∧ ¬ q.2.1 4 = 0 ∧ ¬ q.2.1 9 = 0 ∧ ¬ q.2.1 7 < 2 ∧ ¬ q.2.1 8 = 0 := by
  have e := ls_ok _ _ _ q h
  unfold lks at e
  have e2 := of_decide_eq_false e
  omega
/-- the making of a new mill, exactly -/
theorem x_millA {X : CTX} {P : List Nat} {K : Nat → Nat} {I : WI} {O : WO} {J : WJ} (C : Cx X bMo_mill 3 "RoarMillModel" ({ frames := 11, cells := 8, slots := 76, locals := 237 } : Room)) (hV : IV P K I O) {a : Nat} {x : Int32} (h0 : a ∈ P ∧ K a = 10)
    (hT : ∀ (P' : List Nat) (K' : Nat → Nat) (I' : WI) (O' : WO) (J' : WJ) (F : Nat), F ∉ P → (∀ b, b ∈ P → b ∈ P' ∧ K' b = K b ∧ I' b = I b ∧ J' b = J b ∧ (b ≠ a → O' b = O b)) → (∀ f, f ≠ 4 → O' a f = O a f) → O' a 4 = some F → (F ∈ P' ∧ K' F = 9) → IV P' K' I' O' → (∀ k, I' F k = if k = 0 ∨ k = 2 ∨ k = 4 ∨ k = 5 then Int32.ofInt (-1) else 0) →
      (∀ j, j < 7 → rf O' F (11 + j) ∉ P ∧ rf O' F (11 + j) ≠ F ∧ rf O' F (11 + j) ∈ P' ∧ K' (rf O' F (11 + j)) = mlab j ∧ ∀ k, I' (rf O' F (11 + j)) k = 0) → (∀ i j, i < 7 → j < 7 → rf O' F (11 + i) = rf O' F (11 + j) → i = j) → (∀ b, b ∈ P' → b ∈ P ∨ b = F ∨ ∃ j, j < 7 ∧ b = rf O' F (11 + j)) →
      GG X 3 P' K' I' O' J' 8 76 54 [(0, .ref a), (1, .int x)] []) : GG X 3 P K I O J 0 0 43 [(0, .ref a), (1, .int x)] [] := by
  refine g_aload_n C dMo_mill_43 rfl ?_
  refine g_new (κ := 9) C dMo_mill_44 (by decide) kl_Mo_177 ki_9 kn_9 ⟨Nat.le_of_ble_eq_true rfl, Nat.le_of_ble_eq_true rfl⟩ (fun q hq => ?_)
  refine g_dup C dMo_mill_47 rfl ?_
  have hqP : q ∈ P ++ [q] := List.mem_append_right _ (List.mem_singleton.mpr rfl)
  refine g_callI (av := fun _ => []) C dMo_mill_48 mfMx_init miMx_init rfl ln_Mo_286 (xMx_init _ _ _ _ _ q ⟨hqP, lab_self _ _ _⟩ (fun k => by rw [clr_self])) rfl rfl (Nat.le_of_ble_eq_true rfl) ⟨Nat.le_of_ble_eq_true rfl, Nat.le_of_ble_eq_true rfl⟩ ⟨Nat.le_of_ble_eq_true rfl, Nat.le_of_ble_eq_true rfl⟩ (fun r P' K' I' O' J' hp => ?_)
  obtain ⟨rfl, hA, hx⟩ := hp
  have hne : ∀ b, b ∈ P → ¬ b = q := fun b hb z => hq (z ▸ hb)
  have old : ∀ b, b ∈ P → b ∈ P' ∧ K' b = K b ∧ I' b = I b ∧ O' b = O b ∧ J' b = J b := by
    intro b hb
    obtain ⟨e1, e2, e3⟩ := hA.old b (List.mem_append_left _ hb)
    obtain ⟨e4, e5, e6⟩ := e3 (hne b hb)
    exact ⟨e1, by rw [e2, lab_ne _ (hne b hb)], by rw [e4, clr_ne _ _ (hne b hb)], by rw [e5, clr_ne _ _ (hne b hb)], by rw [e6, clr_ne _ _ (hne b hb)]⟩
  have hqk : q ∈ P' ∧ K' q = 9 := by
    obtain ⟨e1, e2, -⟩ := hA.old q hqP
    exact ⟨e1, by rw [e2, lab_self]⟩
  have h0' : a ∈ P' ∧ K' a = 10 := ⟨(old a h0.1).1, (old a h0.1).2.1.trans h0.2⟩
  have naq : ¬ a = q := hne a h0.1
  refine g_putr (x := some q) C dMo_mill_51 fl_Mo_172 h0' rfl rfl rfl ?_
  have hrq : ∀ f, rf (up2 O' a 4 (some q)) q f = rf O' q f := fun f => by unfold rf; rw [up2_row _ _ (fun z => naq z.symm)]
  have hnew : ∀ b, b ∈ P' → b ∈ P ∨ b = q ∨ ∃ j, j < 7 ∧ b = rf O' q (11 + j) := by
    intro b hb
    rcases hA.new b hb with z | z
    · rcases List.mem_append.mp z with y | y
      · exact Or.inl y
      · exact Or.inr (Or.inl (List.mem_singleton.mp y))
    · exact Or.inr (Or.inr z)
  refine hT P' K' I' (up2 O' a 4 (some q)) J' q hq (fun b hb => ?_) (fun f hf => ?_) (up2_self _ _ _ _) hqk ⟨?_, ?_⟩ hx (fun j hj => ?_) (fun i j hi hj e => ?_) (fun b hb => ?_)
  · obtain ⟨f1, f2, f3, f4, f5⟩ := old b hb
    exact ⟨f1, f2, f3, f5, fun z => by rw [up2_row _ _ z]; exact f4⟩
  · rw [up2_ne _ _ (fun z => hf z.2), (old a h0.1).2.2.2.1]
  · intro b hb k κ' hs
    by_cases e : b = a ∧ k = 4
    · exfalso
      rw [e.1, e.2, h0'.2] at hs
      have hs3 : (none : Option Nat) = some κ' := hs
      cases hs3
    · rw [up2_ne _ _ e]
      rcases hnew b hb with y | y | ⟨j, hj, y⟩
      · obtain ⟨f1, f2, f3, f4, f5⟩ := old b y
        rw [f2] at hs
        obtain ⟨c, c1, c2, c3⟩ := hV.1 b y k κ' hs
        exact ⟨c, by rw [f4]; exact c1, (old c c2).1, (old c c2).2.1.trans c3⟩
      · rw [y, hqk.2] at hs
        have hf := cov_9 k κ' hs
        have hk : ∃ j, j < 7 ∧ k = 11 + j := by
          have : k = 17 ∨ k = 16 ∨ k = 15 ∨ k = 14 ∨ k = 13 ∨ k = 12 ∨ k = 11 := by simpa using hf
          exact ⟨k - 11, by omega, by omega⟩
        obtain ⟨j, hj, rfl⟩ := hk
        obtain ⟨g1, g2, g3, g4, g5⟩ := hA.arr j hj
        refine ⟨rf O' q (11 + j), by rw [y]; exact g1, g3, ?_⟩
        rw [g4]
        have hsp : ∀ j, j < 7 → sp 9 (11 + j) = some (mlab j) := by decide
        rw [hsp j hj] at hs
        exact Option.some.inj hs
      · exfalso
        obtain ⟨g1, g2, g3, g4, g5⟩ := hA.arr j hj
        rw [y, g4] at hs
        have : j = 0 ∨ j = 1 ∨ j = 2 ∨ j = 3 ∨ j = 4 ∨ j = 5 ∨ j = 6 := by omega
        rcases this with rfl | rfl | rfl | rfl | rfl | rfl | rfl <;> (have hs3 : (none : Option Nat) = some κ' := hs; cases hs3)
  · intro b hb k
    rcases hnew b hb with y | y | ⟨j, hj, y⟩
    · obtain ⟨f1, f2, f3, f4, f5⟩ := old b y
      rw [f2, f3]; exact hV.2 b y k
    · rw [y, hqk.2, hx k]
      by_cases c : k = 0 ∨ k = 2 ∨ k = 4 ∨ k = 5
      · rw [if_pos c]
        rcases c with rfl | rfl | rfl | rfl <;> trivial
      · rw [if_neg c]; exact okI_0 _ _
    · rw [y, (hA.arr j hj).2.2.2.2 k]; exact okI_0 _ _
  · obtain ⟨g1, g2, g3, g4, g5⟩ := hA.arr j hj
    rw [hrq]
    exact ⟨fun z => g2 (List.mem_append_left _ z), fun z => g2 (by rw [z]; exact hqP), g3, g4, g5⟩
  · rw [hrq, hrq] at e; exact hA.inj i j hi hj e
  · rcases hnew b hb with y | y | ⟨j, hj, y⟩
    · exact Or.inl y
    · exact Or.inr (Or.inl y)
    · exact Or.inr (Or.inr ⟨j, hj, by rw [hrq]; exact y⟩)
