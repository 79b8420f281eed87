/-! what the lines of a text tell: a fault (its number, its place), or the mill and where the text goes on -/
abbrev MM : Type := (Nat → Int) × (Nat → Nat → Int) × List (Int × Int)
abbrev ER : Type := Except (Int × Nat) (Nat × MM)
def u1 (g : Nat → Int) (k : Nat) (v : Int) : Nat → Int := fun j => if j = k then v else g j
def sg (M : MM) (k : Nat) (v : Int) : MM := (u1 M.1 k v, M.2.1, M.2.2)
def sa (M : MM) (j i : Nat) (v : Int) : MM := (M.1, up2 M.2.1 j i v, M.2.2)
def sn (M : MM) (c s : Int) : MM := (M.1, M.2.1, M.2.2 ++ [(c, s)])
def M0 : MM := (fun k => if k = 2 then -1 else 0, fun _ _ => 0, [])
def fndN (nl : List (Int × Int)) (c : Int) : Option (Int × Int) := nl.find? (fun q => decide (q.1 = c))
def szAt (nl : List (Int × Int)) (c : Int) : Int := match fndN nl c with
  | some q => q.2
  | none => -1
def ww (t : Nat → Int) (n i f : Nat) : Except (Int × Nat) Nat := if isw t n i f = true then .ok (nx t n f) else .error (1, f)
def wl (t : Nat → Int) (n : Nat) (lo hi : Int) (f : Nat) : Except (Int × Nat) Int := if kd t n f = 3 then (if lo ≤ vl t n f ∧ vl t n f ≤ hi then .ok (vl t n f) else .error (4, f)) else .error (1, f)
def cm (t : Nat → Int) (n f : Nat) : Bool := decide (kd t n f = 4 ∧ t f = 44)
def sc (t : Nat → Int) (n f : Nat) : Bool := decide (kd t n f = 4 ∧ t f = 59)
def spDrum (t : Nat → Int) (n f : Nat) (M : MM) : ER := if 0 < M.1 0 then .error (3, f) else
  (ww t n 1 (nx t n f)).bind fun f2 => (wl t n 20 999 f2).bind fun v => (ww t n 2 (nx t n f2)).bind fun f4 => (wl t n 10 200 f4).bind fun v2 => .ok (nx t n f4, sg (sg M 0 v) 1 v2)
def spSieve (t : Nat → Int) (n f : Nat) (M : MM) : ER := if ¬ M.1 2 = -1 then .error (3, f) else
  if isnm t n (nx t n f) = true then (if szAt M.2.2 (cd t n (nx t n f)) = -1 then .error (2, nx t n f) else
    (ww t n 9 (nx t n (nx t n f))).bind fun f2 => (wl t n 0 50 f2).bind fun v => .ok (nx t n f2, sg (sg M 2 (szAt M.2.2 (cd t n (nx t n f)))) 3 v)) else .error (1, nx t n f)
def spLiner (t : Nat → Int) (n f : Nat) (M : MM) : ER := if 0 < M.1 4 then .error (3, f) else
  (wl t n 1 200 (nx t n f)).bind fun v => .ok (nx t n (nx t n f), sg M 4 v)
def spBin (t : Nat → Int) (n f : Nat) (M : MM) : ER := if 0 < M.1 5 then .error (3, f) else
  (wl t n 1 999 (nx t n f)).bind fun v => (ww t n 10 (nx t n (nx t n f))).bind fun f3 => (wl t n 0 200 f3).bind fun v2 => .ok (nx t n f3, sg (sg M 5 v) 6 v2)
def prl (t : Nat → Int) (n : Nat) : Nat → Nat → Nat → MM → ER
  | 0, _, f, _ => .error (5, f)
  | k + 1, i, f, M => (wl t n 0 99 f).bind fun v => if 6 ≤ i then .error (5, f) else if cm t n (nx t n f) = true then prl t n k (i + 1) (nx t n (nx t n f)) (sg (sa M 0 i v) 9 ((i : Int) + 1)) else .ok (nx t n f, sg (sa M 0 i v) 9 ((i : Int) + 1))
def spPrices (t : Nat → Int) (n f : Nat) (M : MM) : ER := if 0 < M.1 9 then .error (3, f) else prl t n 7 0 (nx t n f) M
def spSize (t : Nat → Int) (n f : Nat) (M : MM) : ER := if 5 ≤ M.1 7 then .error (5, f) else
  if isnm t n (nx t n f) = true then (if fndN M.2.2 (cd t n (nx t n f)) = none then
    (if isw t n 11 (nx t n (nx t n f)) = true then
      (wl t n 0 100 (nx t n (nx t n (nx t n f)))).bind fun v => (ww t n 12 (nx t n (nx t n (nx t n (nx t n f))))).bind fun f4 => (wl t n 0 100 f4).bind fun v2 => .ok (nx t n f4, sa (sa (sg (sn M (cd t n (nx t n f)) (M.1 7)) 7 (M.1 7 + 1)) 1 (M.1 7).toNat v) 2 (M.1 7).toNat v2)
     else .ok (nx t n (nx t n f), sg (sn M (cd t n (nx t n f)) (M.1 7)) 7 (M.1 7 + 1)))
    else .error (3, nx t n f)) else .error (1, nx t n f)
def tnl (t : Nat → Int) (n : Nat) : Nat → Nat → Nat → MM → ER
  | 0, _, f, _ => .error (5, f)
  | k + 1, i, f, M => (wl t n 0 50 f).bind fun v => if M.1 7 ≤ (i : Int) then .error (5, f) else if cm t n (nx t n f) = true then tnl t n k (i + 1) (nx t n (nx t n f)) (sa M 4 (5 * (M.1 8 - 1).toNat + i) v) else .ok (nx t n f, sa M 4 (5 * (M.1 8 - 1).toNat + i) v)
def spOreA (t : Nat → Int) (n f : Nat) (M : MM) : ER := if 4 ≤ M.1 8 then .error (5, f) else
  if isnm t n (nx t n f) = true then (if fndN M.2.2 (cd t n (nx t n f)) = none then
    (ww t n 13 (nx t n (nx t n f))).bind fun f3 => (wl t n 1 9 f3).bind fun v => (if isw t n 14 (nx t n f3) = true then
      .ok (nx t n f3, sa (sg (sn M (cd t n (nx t n f)) (-1)) 8 (M.1 8 + 1)) 3 (M.1 8).toNat v) else .error (1, nx t n f3))
    else .error (3, nx t n f)) else .error (1, nx t n f)
def spOre (t : Nat → Int) (n f : Nat) (M : MM) : ER := (spOreA t n f M).bind fun q => tnl t n 6 0 (nx t n q.1) q.2
def spLine (t : Nat → Int) (n f : Nat) (M : MM) : ER :=
  if isw t n 0 f = true then spDrum t n f M else if isw t n 3 f = true then spSieve t n f M else if isw t n 4 f = true then spLiner t n f M else if isw t n 5 f = true then spBin t n f M else if isw t n 6 f = true then spPrices t n f M else if isw t n 7 f = true then spSize t n f M else if isw t n 8 f = true then spOre t n f M else .error (1, f)
def lks (M : MM) : Bool := decide (M.1 0 = 0 ∨ M.1 2 = -1 ∨ M.1 4 = 0 ∨ M.1 5 = 0 ∨ M.1 9 = 0 ∨ M.1 7 < 2 ∨ M.1 8 = 0)
def spLs (t : Nat → Int) (n : Nat) : Nat → Nat → MM → ER
  | 0, f, _ => .error (1, f)
  | k + 1, f, M => (spLine t n f M).bind fun q => if kd t n q.1 = 0 then (if lks q.2 = true then .error (6, q.1) else .ok q) else if sc t n q.1 = true then spLs t n k (nx t n q.1) q.2 else .error (1, q.1)
def spMill (t : Nat → Int) (n : Nat) : ER := spLs t n 701 (rB t n 0) M0
theorem ww_t {t : Nat → Int} {n i f : Nat} (h : isw t n i f = true) : ww t n i f = .ok (nx t n f) := by unfold ww; rw [if_pos h]
theorem ww_f {t : Nat → Int} {n i f : Nat} (h : isw t n i f = false) : ww t n i f = .error (1, f) := by unfold ww; rw [if_neg (by rw [h]; decide)]
theorem wl_t {t : Nat → Int} {n f : Nat} {lo hi : Int} (h : kd t n f = 3) (h2 : lo ≤ vl t n f ∧ vl t n f ≤ hi) : wl t n lo hi f = .ok (vl t n f) := by unfold wl; rw [if_pos h, if_pos h2]
theorem wl_4 {t : Nat → Int} {n f : Nat} {lo hi : Int} (h : kd t n f = 3) (h2 : ¬ (lo ≤ vl t n f ∧ vl t n f ≤ hi)) : wl t n lo hi f = .error (4, f) := by unfold wl; rw [if_pos h, if_neg h2]
theorem wl_1 {t : Nat → Int} {n f : Nat} {lo hi : Int} (h : ¬ kd t n f = 3) : wl t n lo hi f = .error (1, f) := by unfold wl; rw [if_neg h]
theorem u1_s {g : Nat → Int} {k : Nat} {v : Int} : u1 g k v k = v := by simp [u1]
theorem u1_n {g : Nat → Int} {k j : Nat} {v : Int} (h : j ≠ k) : u1 g k v j = g j := by simp [u1, h]
theorem Ex_ok {α β ε : Type} {a : α} {f : α → Except ε β} : (Except.ok a : Except ε α).bind f = f a := rfl
theorem Ex_er {α β ε : Type} {e : ε} {f : α → Except ε β} : (Except.error e : Except ε α).bind f = .error e := rfl
/-- the class's names -/
def NMc (g7 g8 : Int) (nl : List (Int × Int)) (u v : Nat → Int) : Prop :=
  (∀ i : Nat, (i : Int) < g7 → (u i, (i : Int)) ∈ nl) ∧ (∀ j : Nat, (j : Int) < g8 → (v j, -1) ∈ nl) ∧ (∀ q ∈ nl, (q.2 = -1 ∧ ∃ j : Nat, (j : Int) < g8 ∧ v j = q.1) ∨ ∃ i : Nat, q.2 = (i : Int) ∧ (i : Int) < g7 ∧ u i = q.1) ∧ (nl.map Prod.fst).Nodup
theorem fnd_in {nl : List (Int × Int)} {c s : Int} (h : (c, s) ∈ nl) (hn : (nl.map Prod.fst).Nodup) : fndN nl c = some (c, s) := by
  unfold fndN
  induction nl with
  | nil => cases h
  | cons q l ih =>
    rw [List.map_cons, List.nodup_cons] at hn
    rcases List.mem_cons.mp h with e | e
    · subst e; rw [List.find?_cons_of_pos (by simp)]
    · have hne : ¬ q.1 = c := fun z => hn.1 (by rw [z]; exact List.mem_map.mpr ⟨_, e, rfl⟩)
      rw [List.find?_cons_of_neg (by simp [hne])]
      exact ih e hn.2
theorem fnd_some {nl : List (Int × Int)} {c : Int} {q : Int × Int} (h : fndN nl c = some q) : q ∈ nl ∧ q.1 = c := by
  unfold fndN at h
  have h1 := List.mem_of_find?_eq_some h
  have h2 := List.find?_some h
  exact ⟨h1, by simpa using h2⟩
theorem fnd_none {nl : List (Int × Int)} {c : Int} (h : fndN nl c = none) : ∀ q ∈ nl, ¬ q.1 = c := by
  intro q hq z
  unfold fndN at h
  have := List.find?_eq_none.mp h q hq
  simp [z] at this
theorem NMc.sz {g7 g8 : Int} {nl : List (Int × Int)} {u v : Nat → Int} (h : NMc g7 g8 nl u v) {c : Int} {r : Int} (hr : (r = -1 ∧ ∀ i : Nat, (i : Int) < g7 → ¬ u i = c) ∨ ∃ i : Nat, (i : Int) < g7 ∧ r = (i : Int) ∧ u i = c) : r = szAt nl c := by
  obtain ⟨h1, h2, h3, h4⟩ := h
  rcases hr with ⟨rfl, hr⟩ | ⟨i, hi, rfl, hu⟩
  · unfold szAt
    cases q : fndN nl c with
    | none => rfl
    | some w =>
      have hw := fnd_some q
      rcases h3 w hw.1 with ⟨e, _⟩ | ⟨i, e1, e2, e3⟩
      · exact e.symm
      · exact absurd (e3.trans hw.2) (hr i e2)
  · have := h1 i hi
    rw [hu] at this
    unfold szAt; rw [fnd_in this h4]
theorem NMc.tell {g7 g8 : Int} {nl : List (Int × Int)} {u v : Nat → Int} (h : NMc g7 g8 nl u v) {c : Int} : fndN nl c = none ↔ (∀ i : Nat, (i : Int) < g7 → ¬ u i = c) ∧ ∀ j : Nat, (j : Int) < g8 → ¬ v j = c := by
  obtain ⟨h1, h2, h3, h4⟩ := h
  constructor
  · intro q
    exact ⟨fun i hi z => fnd_none q _ (h1 i hi) z, fun j hj z => fnd_none q _ (h2 j hj) z⟩
  · intro q
    cases w : fndN nl c with
    | none => rfl
    | some x =>
      exfalso
      have hw := fnd_some w
      rcases h3 x hw.1 with ⟨_, j, e1, e2⟩ | ⟨i, e1, e2, e3⟩
      · exact q.2 j e1 (e2.trans hw.2)
      · exact q.1 i e2 (e3.trans hw.2)
theorem nd_app {nl : List (Int × Int)} {c s : Int} (h : (nl.map Prod.fst).Nodup) (hc : fndN nl c = none) : ((nl ++ [(c, s)]).map Prod.fst).Nodup := by
  rw [List.map_append, List.nodup_append]
  refine ⟨h, by simp, ?_⟩
  intro x hx y hy
  obtain ⟨q, hq, rfl⟩ := List.mem_map.mp hx
  have : y = c := by simpa using hy
  subst this
  exact fnd_none hc q hq
theorem NMc.size {g7 g8 : Int} {nl : List (Int × Int)} {u v u' : Nat → Int} {i : Nat} {c : Int} (h : NMc g7 g8 nl u v) (hi : g7 = (i : Int)) (hc : fndN nl c = none) (hu : ∀ j, j < i → u' j = u j) (hu2 : u' i = c) : NMc (g7 + 1) g8 (nl ++ [(c, g7)]) u' v := by
  obtain ⟨h1, h2, h3, h4⟩ := h
  refine ⟨fun j hj => ?_, fun j hj => List.mem_append_left _ (h2 j hj), fun q hq => ?_, nd_app h4 hc⟩
  · rcases (show j < i ∨ j = i by omega) with w | w
    · rw [hu j w]; exact List.mem_append_left _ (h1 j (by omega))
    · subst w; rw [hu2, hi]; exact List.mem_append_right _ (List.mem_singleton.mpr rfl)
  · rcases List.mem_append.mp hq with w | w
    · rcases h3 q w with e | ⟨j, e1, e2, e3⟩
      · exact Or.inl e
      · exact Or.inr ⟨j, e1, by omega, by rw [hu j (by omega)]; exact e3⟩
    · have := List.mem_singleton.mp w
      subst this
      exact Or.inr ⟨i, hi, by omega, hu2⟩
theorem NMc.ore {g7 g8 : Int} {nl : List (Int × Int)} {u v v' : Nat → Int} {i : Nat} {c : Int} (h : NMc g7 g8 nl u v) (hi : g8 = (i : Int)) (hc : fndN nl c = none) (hu : ∀ j, j < i → v' j = v j) (hu2 : v' i = c) : NMc g7 (g8 + 1) (nl ++ [(c, -1)]) u v' := by
  obtain ⟨h1, h2, h3, h4⟩ := h
  refine ⟨fun j hj => List.mem_append_left _ (h1 j hj), fun j hj => ?_, fun q hq => ?_, nd_app h4 hc⟩
  · rcases (show j < i ∨ j = i by omega) with w | w
    · rw [hu j w]; exact List.mem_append_left _ (h2 j (by omega))
    · subst w; rw [hu2]; exact List.mem_append_right _ (List.mem_singleton.mpr rfl)
  · rcases List.mem_append.mp hq with w | w
    · rcases h3 q w with ⟨e, j, e1, e2⟩ | e
      · exact Or.inl ⟨e, j, by omega, by rw [hu j (by omega)]; exact e2⟩
      · exact Or.inr e
    · have := List.mem_singleton.mp w
      subst this
      exact Or.inl ⟨rfl, i, by omega, hu2⟩
