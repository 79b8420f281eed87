/-! the bounds of what a sound text tells -/
def OG {α : Type} (e : Except (Int × Nat) α) (R : α → Prop) : Prop := ∀ x, e = .ok x → R x
theorem OG.ok {α : Type} {x : α} {R : α → Prop} (h : R x) : OG (.ok x) R := fun y e => by cases e; exact h
theorem OG.er {α : Type} {w : Int × Nat} {R : α → Prop} : OG (.error w : Except (Int × Nat) α) R := fun y e => nomatch e
theorem OG.bnd {α β : Type} {e : Except (Int × Nat) α} {g : α → Except (Int × Nat) β} {R : α → Prop} {S : β → Prop} (h : OG e R) (k : ∀ x, R x → OG (g x) S) : OG (e.bind g) S := by
  intro y hy
  cases e with
  | ok x => exact k x (h x rfl) y hy
  | error v => exact nomatch hy
theorem OG.iff {α : Type} {c : Prop} {i : Decidable c} {e f : Except (Int × Nat) α} {R : α → Prop} (h : c → OG e R) (k : ¬ c → OG f R) : OG (@ite _ c i e f) R := by
  by_cases q : c
  · rw [if_pos q]; exact h q
  · rw [if_neg q]; exact k q
theorem OG.any {α : Type} {e : Except (Int × Nat) α} : OG e (fun _ => True) := fun _ _ => trivial
def MI (M : MM) : Prop := (M.1 0 = 0 ∨ (20 ≤ M.1 0 ∧ M.1 0 ≤ 999)) ∧ (0 ≤ M.1 1 ∧ M.1 1 ≤ 200) ∧ (-1 ≤ M.1 2 ∧ M.1 2 ≤ 4) ∧ (0 ≤ M.1 3 ∧ M.1 3 ≤ 50) ∧ (0 ≤ M.1 4 ∧ M.1 4 ≤ 200) ∧ (0 ≤ M.1 5 ∧ M.1 5 ≤ 999) ∧ (0 ≤ M.1 6 ∧ M.1 6 ≤ 200) ∧ (0 ≤ M.1 7 ∧ M.1 7 ≤ 5) ∧ (0 ≤ M.1 8 ∧ M.1 8 ≤ 4) ∧ (0 ≤ M.1 9 ∧ M.1 9 ≤ 6) ∧
  (∀ i, 0 ≤ M.2.1 0 i ∧ M.2.1 0 i ≤ 99) ∧ (∀ i, 0 ≤ M.2.1 1 i ∧ M.2.1 1 i ≤ 100) ∧ (∀ i, 0 ≤ M.2.1 2 i ∧ M.2.1 2 i ≤ 100) ∧ (∀ i : Nat, 0 ≤ M.2.1 3 i ∧ M.2.1 3 i ≤ 9 ∧ ((i : Int) < M.1 8 → 1 ≤ M.2.1 3 i)) ∧ (∀ i, 0 ≤ M.2.1 4 i ∧ M.2.1 4 i ≤ 50) ∧ (∀ o i : Nat, i < 5 → M.1 7 ≤ (i : Int) → M.2.1 4 (5 * o + i) = 0) ∧ (∀ q ∈ M.2.2, -1 ≤ q.2 ∧ q.2 < M.1 7)
theorem up2_j {f : Nat → Nat → Int} {j i a k : Nat} {v : Int} (h : ¬ a = j) : up2 f j i v a k = f a k := up2_ne _ _ (fun z => h z.1)
theorem up2_v {f : Nat → Nat → Int} {j i k : Nat} {v : Int} : up2 f j i v j k = if k = i then v else f j k := by
  by_cases e : k = i
  · subst e; rw [up2_self, if_pos rfl]
  · rw [up2_ne _ _ (fun z => e z.2), if_neg e]
section MBD
variable {t : Nat → Int} {n : Nat} {M : MM}
theorem OG_wl {lo hi : Int} {f : Nat} : OG (wl t n lo hi f) (fun v => lo ≤ v ∧ v ≤ hi) := OG.iff (fun _ => OG.iff (fun h => OG.ok h) (fun _ => OG.er)) (fun _ => OG.er)
theorem MI.p0 {i : Nat} {v : Int} (h : MI M) (hv : 0 ≤ v ∧ v ≤ 99) : MI (sa M 0 i v) := by
  obtain ⟨h0, h1, h2, h3, h4, h5, h6, h7, h8, h9, ha, hb, hc, hd, he, hf, hg⟩ := h
  refine ⟨h0, h1, h2, h3, h4, h5, h6, h7, h8, h9, fun k => ?_, fun k => ?_, fun k => ?_, fun k => ?_, fun k => ?_, fun p k hk hz => ?_, hg⟩
  · show 0 ≤ up2 M.2.1 0 i v 0 k ∧ up2 M.2.1 0 i v 0 k ≤ 99
    rw [up2_v]; split
    · exact hv
    · exact ha k
  · show 0 ≤ up2 M.2.1 0 i v 1 k ∧ up2 M.2.1 0 i v 1 k ≤ 100
    rw [up2_j (by decide)]; exact hb k
  · show 0 ≤ up2 M.2.1 0 i v 2 k ∧ up2 M.2.1 0 i v 2 k ≤ 100
    rw [up2_j (by decide)]; exact hc k
  · show 0 ≤ up2 M.2.1 0 i v 3 k ∧ up2 M.2.1 0 i v 3 k ≤ 9 ∧ ((k : Int) < M.1 8 → 1 ≤ up2 M.2.1 0 i v 3 k)
    rw [up2_j (by decide)]; exact hd k
  · show 0 ≤ up2 M.2.1 0 i v 4 k ∧ up2 M.2.1 0 i v 4 k ≤ 50
    rw [up2_j (by decide)]; exact he k
  · show up2 M.2.1 0 i v 4 (5 * p + k) = 0
    rw [up2_j (by decide)]; exact hf p k hk hz
theorem MI.p12 {i j : Nat} {v : Int} (h : MI M) (hj : j = 1 ∨ j = 2) (hv : 0 ≤ v ∧ v ≤ 100) : MI (sa M j i v) := by
  obtain ⟨h0, h1, h2, h3, h4, h5, h6, h7, h8, h9, ha, hb, hc, hd, he, hf, hg⟩ := h
  refine ⟨h0, h1, h2, h3, h4, h5, h6, h7, h8, h9, fun k => ?_, fun k => ?_, fun k => ?_, fun k => ?_, fun k => ?_, fun p k hk hz => ?_, hg⟩
  · show 0 ≤ up2 M.2.1 j i v 0 k ∧ up2 M.2.1 j i v 0 k ≤ 99
    rw [up2_j (by omega)]; exact ha k
  · show 0 ≤ up2 M.2.1 j i v 1 k ∧ up2 M.2.1 j i v 1 k ≤ 100
    rcases hj with rfl | rfl
    · rw [up2_v]; split
      · exact hv
      · exact hb k
    · rw [up2_j (by decide)]; exact hb k
  · show 0 ≤ up2 M.2.1 j i v 2 k ∧ up2 M.2.1 j i v 2 k ≤ 100
    rcases hj with rfl | rfl
    · rw [up2_j (by decide)]; exact hc k
    · rw [up2_v]; split
      · exact hv
      · exact hc k
  · show 0 ≤ up2 M.2.1 j i v 3 k ∧ up2 M.2.1 j i v 3 k ≤ 9 ∧ ((k : Int) < M.1 8 → 1 ≤ up2 M.2.1 j i v 3 k)
    rw [up2_j (by omega)]; exact hd k
  · show 0 ≤ up2 M.2.1 j i v 4 k ∧ up2 M.2.1 j i v 4 k ≤ 50
    rw [up2_j (by omega)]; exact he k
  · show up2 M.2.1 j i v 4 (5 * p + k) = 0
    rw [up2_j (by omega)]; exact hf p k hk hz
theorem MI.p4 {o i : Nat} {v : Int} (h : MI M) (hi : i < 5) (hz : (i : Int) < M.1 7) (hv : 0 ≤ v ∧ v ≤ 50) : MI (sa M 4 (5 * o + i) v) := by
  obtain ⟨h0, h1, h2, h3, h4, h5, h6, h7, h8, h9, ha, hb, hc, hd, he, hf, hg⟩ := h
  refine ⟨h0, h1, h2, h3, h4, h5, h6, h7, h8, h9, fun k => ?_, fun k => ?_, fun k => ?_, fun k => ?_, fun k => ?_, fun p k hk hz2 => ?_, hg⟩
  · show 0 ≤ up2 M.2.1 4 (5 * o + i) v 0 k ∧ up2 M.2.1 4 (5 * o + i) v 0 k ≤ 99
    rw [up2_j (by decide)]; exact ha k
  · show 0 ≤ up2 M.2.1 4 (5 * o + i) v 1 k ∧ up2 M.2.1 4 (5 * o + i) v 1 k ≤ 100
    rw [up2_j (by decide)]; exact hb k
  · show 0 ≤ up2 M.2.1 4 (5 * o + i) v 2 k ∧ up2 M.2.1 4 (5 * o + i) v 2 k ≤ 100
    rw [up2_j (by decide)]; exact hc k
  · show 0 ≤ up2 M.2.1 4 (5 * o + i) v 3 k ∧ up2 M.2.1 4 (5 * o + i) v 3 k ≤ 9 ∧ ((k : Int) < M.1 8 → 1 ≤ up2 M.2.1 4 (5 * o + i) v 3 k)
    rw [up2_j (by decide)]; exact hd k
  · show 0 ≤ up2 M.2.1 4 (5 * o + i) v 4 k ∧ up2 M.2.1 4 (5 * o + i) v 4 k ≤ 50
    rw [up2_v]; split
    · exact hv
    · exact he k
  · show up2 M.2.1 4 (5 * o + i) v 4 (5 * p + k) = 0
    have hz3 : M.1 7 ≤ (k : Int) := hz2
    rw [up2_v, if_neg (by omega)]; exact hf p k hk hz2
theorem MI_prl : ∀ (k i f : Nat) (M : MM), MI M → OG (prl t n k i f M) (fun q => MI q.2)
  | 0, _, _, _, _ => OG.er
  | k + 1, i, f, M, h => OG.bnd OG_wl (fun v hv => OG.iff (fun _ => OG.er) (fun hi => by
      have h2 : MI (sg (sa M 0 i v) 9 ((i : Int) + 1)) := by
        obtain ⟨h0, h1, h2, h3, h4, h5, h6, h7, h8, h9, hr⟩ := MI.p0 (i := i) h hv
        exact ⟨h0, h1, h2, h3, h4, h5, h6, h7, h8, (show 0 ≤ (i : Int) + 1 ∧ (i : Int) + 1 ≤ 6 by omega), hr⟩
      exact OG.iff (fun _ => MI_prl k _ _ _ h2) (fun _ => OG.ok h2)))
theorem MI_tnl : ∀ (k i f : Nat) (M : MM), MI M → OG (tnl t n k i f M) (fun q => MI q.2)
  | 0, _, _, _, _ => OG.er
  | k + 1, i, f, M, h => OG.bnd OG_wl (fun v hv => OG.iff (fun _ => OG.er) (fun hi => by
      have h7 := h.2.2.2.2.2.2.2.1
      have h2 : MI (sa M 4 (5 * (M.1 8 - 1).toNat + i) v) := MI.p4 h (by omega) (by omega) hv
      exact OG.iff (fun _ => MI_tnl k _ _ _ h2) (fun _ => OG.ok h2)))
theorem szAt_b {c : Int} (h : MI M) : -1 ≤ szAt M.2.2 c ∧ szAt M.2.2 c ≤ 4 := by
  unfold szAt
  have h7 := h.2.2.2.2.2.2.2.1
  cases q : fndN M.2.2 c with
  | none => exact ⟨by decide, by decide⟩
  | some w =>
    have := h.2.2.2.2.2.2.2.2.2.2.2.2.2.2.2.2 w (fnd_some q).1
    show -1 ≤ w.2 ∧ w.2 ≤ 4
    omega
theorem MI_line {f : Nat} (h : MI M) : OG (spLine t n f M) (fun q => MI q.2) := by
  obtain ⟨h0, h1, h2, h3, h4, h5, h6, h7, h8, h9, ha, hb, hc, hd, he, hf, hg⟩ := id h
  unfold spLine
  refine OG.iff (fun _ => ?_) (fun _ => OG.iff (fun _ => ?_) (fun _ => OG.iff (fun _ => ?_) (fun _ => OG.iff (fun _ => ?_) (fun _ => OG.iff (fun _ => ?_) (fun _ => OG.iff (fun _ => ?_) (fun _ => OG.iff (fun _ => ?_) (fun _ => OG.er)))))))
  · exact OG.iff (fun _ => OG.er) (fun _ => OG.bnd OG.any fun _ _ => OG.bnd OG_wl fun v hv => OG.bnd OG.any fun _ _ => OG.bnd OG_wl fun v2 hv2 => OG.ok ⟨Or.inr hv, (show 0 ≤ v2 ∧ v2 ≤ 200 by omega), h2, h3, h4, h5, h6, h7, h8, h9, ha, hb, hc, hd, he, hf, hg⟩)
  · refine OG.iff (fun _ => OG.er) (fun _ => OG.iff (fun _ => OG.iff (fun _ => OG.er) (fun _ => OG.bnd OG.any fun _ _ => OG.bnd OG_wl fun v hv => OG.ok ⟨h0, h1, ?_, hv, h4, h5, h6, h7, h8, h9, ha, hb, hc, hd, he, hf, hg⟩)) (fun _ => OG.er))
    exact szAt_b h
  · exact OG.iff (fun _ => OG.er) (fun _ => OG.bnd OG_wl fun v hv => OG.ok ⟨h0, h1, h2, h3, (show 0 ≤ v ∧ v ≤ 200 by omega), h5, h6, h7, h8, h9, ha, hb, hc, hd, he, hf, hg⟩)
  · exact OG.iff (fun _ => OG.er) (fun _ => OG.bnd OG_wl fun v hv => OG.bnd OG.any fun _ _ => OG.bnd OG_wl fun v2 hv2 => OG.ok ⟨h0, h1, h2, h3, h4, (show 0 ≤ v ∧ v ≤ 999 by omega), hv2, h7, h8, h9, ha, hb, hc, hd, he, hf, hg⟩)
  · exact OG.iff (fun _ => OG.er) (fun _ => MI_prl _ _ _ _ h)
  · refine OG.iff (fun _ => OG.er) (fun c5 => OG.iff (fun _ => OG.iff (fun _ => ?_) (fun _ => OG.er)) (fun _ => OG.er))
    have hn : MI (sg (sn M (cd t n (nx t n f)) (M.1 7)) 7 (M.1 7 + 1)) := by
      refine ⟨h0, h1, h2, h3, h4, h5, h6, (show 0 ≤ M.1 7 + 1 ∧ M.1 7 + 1 ≤ 5 by omega), h8, h9, ha, hb, hc, hd, he, fun p k hk hz => hf p k hk ?_, fun q hq => ?_⟩
      · have hz2 : M.1 7 + 1 ≤ (k : Int) := hz
        omega
      · have hq2 : q ∈ M.2.2 ++ [(cd t n (nx t n f), M.1 7)] := hq
        show -1 ≤ q.2 ∧ q.2 < M.1 7 + 1
        rcases List.mem_append.mp hq2 with z | z
        · have := hg q z; omega
        · have := List.mem_singleton.mp z; subst this
          show -1 ≤ M.1 7 ∧ M.1 7 < M.1 7 + 1; omega
    exact OG.iff (fun _ => OG.bnd OG_wl fun v hv => OG.bnd OG.any fun _ _ => OG.bnd OG_wl fun v2 hv2 => OG.ok (MI.p12 (MI.p12 hn (Or.inl rfl) hv) (Or.inr rfl) hv2)) (fun _ => OG.ok hn)
  · refine OG.bnd (R := fun q => MI q.2) (OG.iff (fun _ => OG.er) (fun c4 => OG.iff (fun _ => OG.iff (fun _ => OG.bnd OG.any fun _ _ => OG.bnd OG_wl fun v hv => OG.iff (fun _ => OG.ok ?_) (fun _ => OG.er)) (fun _ => OG.er)) (fun _ => OG.er))) (fun q hq => MI_tnl _ _ _ _ hq)
    refine ⟨h0, h1, h2, h3, h4, h5, h6, h7, (show 0 ≤ M.1 8 + 1 ∧ M.1 8 + 1 ≤ 4 by omega), h9, fun k => ?_, fun k => ?_, fun k => ?_, fun k => ?_, fun k => ?_, fun p k hk hz => ?_, fun q hq => ?_⟩
    · show 0 ≤ up2 M.2.1 3 (M.1 8).toNat v 0 k ∧ up2 M.2.1 3 (M.1 8).toNat v 0 k ≤ 99
      rw [up2_j (by decide)]; exact ha k
    · show 0 ≤ up2 M.2.1 3 (M.1 8).toNat v 1 k ∧ up2 M.2.1 3 (M.1 8).toNat v 1 k ≤ 100
      rw [up2_j (by decide)]; exact hb k
    · show 0 ≤ up2 M.2.1 3 (M.1 8).toNat v 2 k ∧ up2 M.2.1 3 (M.1 8).toNat v 2 k ≤ 100
      rw [up2_j (by decide)]; exact hc k
    · show 0 ≤ up2 M.2.1 3 (M.1 8).toNat v 3 k ∧ up2 M.2.1 3 (M.1 8).toNat v 3 k ≤ 9 ∧ ((k : Int) < M.1 8 + 1 → 1 ≤ up2 M.2.1 3 (M.1 8).toNat v 3 k)
      rw [up2_v]
      have := hd k
      split
      · exact ⟨by omega, hv.2, fun _ => hv.1⟩
      · exact ⟨this.1, this.2.1, fun z => this.2.2 (by omega)⟩
    · show 0 ≤ up2 M.2.1 3 (M.1 8).toNat v 4 k ∧ up2 M.2.1 3 (M.1 8).toNat v 4 k ≤ 50
      rw [up2_j (by decide)]; exact he k
    · show up2 M.2.1 3 (M.1 8).toNat v 4 (5 * p + k) = 0
      rw [up2_j (by decide)]; exact hf p k hk hz
    · have hq2 : q ∈ M.2.2 ++ [(cd t n (nx t n f), -1)] := hq
      show -1 ≤ q.2 ∧ q.2 < M.1 7
      rcases List.mem_append.mp hq2 with z | z
      · exact hg q z
      · have := List.mem_singleton.mp z; subst this
        show -1 ≤ (-1 : Int) ∧ (-1 : Int) < M.1 7; omega
theorem MI_ls : ∀ (k f : Nat) (M : MM), MI M → OG (spLs t n k f M) (fun q => MI q.2)
  | 0, _, _, _ => OG.er
  | k + 1, f, M, h => OG.bnd (MI_line h) (fun q hq => OG.iff (fun _ => OG.iff (fun _ => OG.er) (fun _ => OG.ok hq)) (fun _ => OG.iff (fun _ => MI_ls k _ _ hq) (fun _ => OG.er)))
end MBD
theorem mill_bd {t : Nat → Int} {n : Nat} {q : Nat × MM} (h : spMill t n = .ok q) : MB q.2 := by
  have h0 : MI M0 := by
    refine ⟨Or.inl rfl, by decide, by decide, by decide, by decide, by decide, by decide, by decide, by decide, by decide, fun _ => ⟨Int.le_refl _, (show (0 : Int) ≤ 99 from by decide)⟩, fun _ => ⟨Int.le_refl _, (show (0 : Int) ≤ 100 from by decide)⟩, fun _ => ⟨Int.le_refl _, (show (0 : Int) ≤ 100 from by decide)⟩, fun i => ⟨Int.le_refl _, (show (0 : Int) ≤ 9 from by decide), fun z => ?_⟩, fun _ => ⟨Int.le_refl _, (show (0 : Int) ≤ 50 from by decide)⟩, fun _ _ _ _ => rfl, fun q hq => nomatch hq⟩
    have : (i : Int) < 0 := z
    omega
  have hM := MI_ls (t := t) (n := n) _ _ _ h0 q h
  have e := ls_ok _ _ _ q h
  unfold lks at e
  have e2 := of_decide_eq_false e
  obtain ⟨h0, h1, h2, h3, h4, h5, h6, h7, h8, h9, ha, hb, hc, hd, he, hf, hg⟩ := hM
  exact ⟨by omega, h1, h3, by omega, by omega, h6, by omega, by omega, by omega, fun i _ => ha i, fun i _ => hb i, fun i _ => hc i, fun i _ => hd i, fun i _ => he i, fun p i _ hi hz => hf p i hi hz, by omega⟩
