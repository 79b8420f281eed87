/-! an hour, in whole numbers -/
def s5 (f : Nat → Int) : Int := f 0 + f 1 + f 2 + f 3 + f 4
def zN (M : MM) : Nat := (M.1 7).toNat
def qT (M : MM) (r o : Int) (σ : Nat → Int) (k : Nat) : Int := if σ 26 = 1 then 0 else r * M.2.1 4 (5 * o.toNat + k)
def hT (M : MM) (r o : Int) (σ : Nat → Int) (k : Nat) : Int := σ k + qT M r o σ k + σ (5 + k)
def fullT (M : MM) (r o : Int) (σ : Nat → Int) : Int := s5 (hT M r o σ)
def effT (M : MM) (o full liner : Int) : Int := 10 * ((100 - (if 100 * full / M.1 0 - 50 < 0 then -(100 * full / M.1 0 - 50) else 100 * full / M.1 0 - 50)) * max (M.1 4 - liner) (M.1 4 / 2) / M.1 4) / (9 + M.2.1 3 o.toNat)
def bkn (M : MM) (e : Int) (k : Nat) (h : Nat → Int) : Int := h k * (M.2.1 1 k * e) / 10000
def brk1 (M : MM) (e : Int) (k : Nat) (h : Nat → Int) : Nat → Int :=
  if k + 2 < zN M then u1 (u1 (u1 h k (h k - bkn M e k h)) (k + 1) (h (k + 1) + bkn M e k h * M.2.1 2 k / 100)) (k + 2) (h (k + 2) + (bkn M e k h - bkn M e k h * M.2.1 2 k / 100)) else u1 (u1 h k (h k - bkn M e k h)) (k + 1) (h (k + 1) + bkn M e k h)
def brk (M : MM) (e : Int) : Nat → (Nat → Int) → Nat → Int
  | 0, h => h
  | n + 1, h => brk M e n (brk1 M e n h)
def outT (w x : Int) : Int := x * (20 + 10 * w) / 100
def psT (M : MM) (tears : Int) (k : Nat) (out : Int) : Int := if (k : Int) < M.1 2 then out * min (tears * M.1 3) 100 / 100 else out
def dgT (x : Int) : Int := min x (x / 10 + 1)
def hB (M : MM) (r o : Int) (σ : Nat → Int) : Nat → Int := brk M (effT M o (fullT M r o σ) (σ 24)) (zN M - 1) (hT M r o σ)
def hdT (M : MM) (r w o : Int) (σ : Nat → Int) (k : Nat) : Int := if fullT M r o σ ≤ M.1 0 then hB M r o σ k - outT w (hB M r o σ k) else hT M r o σ k - dgT (hT M r o σ k)
def paT (M : MM) (r w o : Int) (σ : Nat → Int) (k : Nat) : Int := if fullT M r o σ ≤ M.1 0 then psT M (σ 25) k (outT w (hB M r o σ k)) else 0
def bcT (M : MM) (r w o : Int) (σ : Nat → Int) (k : Nat) : Int := if fullT M r o σ ≤ M.1 0 then outT w (hB M r o σ k) - psT M (σ 25) k (outT w (hB M r o σ k)) else 0
def efT (M : MM) (r o : Int) (σ : Nat → Int) : Int := if fullT M r o σ ≤ M.1 0 then effT M o (fullT M r o σ) (σ 24) else 0
def pwT (M : MM) (r o : Int) (σ : Nat → Int) : Int := if fullT M r o σ ≤ M.1 0 then fullT M r o σ * effT M o (fullT M r o σ) (σ 24) / 100 else 0
def spT (M : MM) (r o : Int) (σ : Nat → Int) : Int := if fullT M r o σ ≤ M.1 0 then σ 21 else σ 21 + s5 (fun k => dgT (hT M r o σ k))
def bn1 (M : MM) (r w o : Int) (σ : Nat → Int) : Int := σ 20 + s5 (paT M r w o σ)
def bn2 (M : MM) (r w o : Int) (σ : Nat → Int) : Int := min (bn1 M r w o σ) (M.1 5)
def drT (M : MM) (r w o : Int) (σ : Nat → Int) : Int := min (bn2 M r w o σ) (M.1 6)
def prT (M : MM) (now : Int) : Int := M.2.1 0 (now % M.1 9).toNat
def HH (M : MM) (r w o : Int) (σ : Nat → Int) (k : Nat) : Int :=
  if k < 5 then hdT M r w o σ k else if k < 10 then bcT M r w o σ (k - 5) else if k < 15 then paT M r w o σ (k - 10) else if k < 20 then σ k + paT M r w o σ (k - 15)
  else if k = 20 then bn2 M r w o σ - drT M r w o σ else if k = 21 then spT M r o σ + (bn1 M r w o σ - bn2 M r w o σ) else if k = 22 then σ 22 + drT M r w o σ else if k = 23 then σ 23 + (M.1 6 - drT M r w o σ)
  else if k = 24 then σ 24 + 1 else if k = 26 then (if fullT M r o σ ≤ M.1 0 then 0 else 1) else if k = 27 then σ 27 + 1 else if k = 28 then fullT M r o σ else if k = 29 then efT M r o σ else if k = 30 then pwT M r o σ
  else if k = 31 then max (M.1 1 - M.1 1 * fullT M r o σ / M.1 0) 0 else if k = 32 then σ 32 + pwT M r o σ * prT M (σ 27) else if k = 33 then σ 33 + s5 (qT M r o σ) else σ k
/-- the bounds of a mill that a text told -/
def MB (M : MM) : Prop := (20 ≤ M.1 0 ∧ M.1 0 ≤ 999) ∧ (0 ≤ M.1 1 ∧ M.1 1 ≤ 200) ∧ (0 ≤ M.1 3 ∧ M.1 3 ≤ 50) ∧ (1 ≤ M.1 4 ∧ M.1 4 ≤ 200) ∧ (1 ≤ M.1 5 ∧ M.1 5 ≤ 999) ∧ (0 ≤ M.1 6 ∧ M.1 6 ≤ 200) ∧ (2 ≤ M.1 7 ∧ M.1 7 ≤ 5) ∧ (1 ≤ M.1 8 ∧ M.1 8 ≤ 4) ∧ (1 ≤ M.1 9 ∧ M.1 9 ≤ 6) ∧ (∀ i, i < 6 → 0 ≤ M.2.1 0 i ∧ M.2.1 0 i ≤ 99) ∧ (∀ i, i < 5 → 0 ≤ M.2.1 1 i ∧ M.2.1 1 i ≤ 100) ∧ (∀ i, i < 5 → 0 ≤ M.2.1 2 i ∧ M.2.1 2 i ≤ 100) ∧ (∀ i : Nat, i < 4 → 0 ≤ M.2.1 3 i ∧ M.2.1 3 i ≤ 9 ∧ ((i : Int) < M.1 8 → 1 ≤ M.2.1 3 i)) ∧ (∀ i, i < 20 → 0 ≤ M.2.1 4 i ∧ M.2.1 4 i ≤ 50) ∧ (∀ o i : Nat, o < 4 → i < 5 → M.1 7 ≤ (i : Int) → M.2.1 4 (5 * o + i) = 0) ∧ (0 ≤ M.1 2 ∧ M.1 2 ≤ 4)
/-- what holds of every state of the drum -/
def SI (M : MM) (σ : Nat → Int) : Prop := (∀ k, k < 5 → 0 ≤ σ k ∧ 0 ≤ σ (5 + k)) ∧ (s5 σ + s5 (fun k => σ (5 + k)) ≤ 1750) ∧ (σ 26 = 0 → s5 σ + s5 (fun k => σ (5 + k)) ≤ 1000) ∧ (σ 26 = 0 ∨ σ 26 = 1) ∧ (0 ≤ σ 27 ∧ σ 27 ≤ 252) ∧ (0 ≤ σ 24 ∧ σ 24 ≤ 200 + σ 27) ∧ (0 ≤ σ 25 ∧ σ 25 ≤ 3) ∧ (0 ≤ σ 20 ∧ σ 20 ≤ 999) ∧ (∀ k, (15 ≤ k ∧ k < 20) ∨ k = 21 ∨ k = 22 ∨ k = 23 ∨ k = 32 ∨ k = 33 → 0 ≤ σ k ∧ σ k ≤ 200000 * σ 27) ∧ (∀ k : Nat, k < 5 → M.1 7 ≤ (k : Int) → σ k = 0 ∧ σ (5 + k) = 0 ∧ σ (10 + k) = 0 ∧ σ (15 + k) = 0)
def ST3 (M : MM) (r w o : Int) : Prop := (0 ≤ r ∧ r ≤ 3) ∧ (0 ≤ w ∧ w ≤ 3) ∧ (0 ≤ o ∧ o < M.1 8)
theorem mulb {a b A B : Int} (h1 : 0 ≤ a) (h2 : a ≤ A) (h3 : 0 ≤ b) (h4 : b ≤ B) : 0 ≤ a * b ∧ a * b ≤ A * B := ⟨Int.mul_nonneg h1 h3, Int.mul_le_mul h2 h4 h3 (by omega)⟩
theorem divb {a b A : Int} (h1 : 0 ≤ a) (h2 : a ≤ A) (h3 : 0 < b) : 0 ≤ a / b ∧ a / b ≤ A := ⟨Int.ediv_nonneg h1 (by omega), Int.le_trans (Int.ediv_le_self _ h1) h2⟩
section HSPEC
variable {M : MM} {r w o : Int} {σ : Nat → Int}
theorem qT_b (hM : MB M) (h : ST3 M r w o) {k : Nat} (hk : k < 5) : 0 ≤ qT M r o σ k ∧ qT M r o σ k ≤ 150 := by
  unfold qT
  split
  · decide
  · have ho := h.2.2
    have h8 := hM.2.2.2.2.2.2.2.1
    have t := hM.2.2.2.2.2.2.2.2.2.2.2.2.2.1 (5 * o.toNat + k) (by omega)
    have := mulb h.1.1 h.1.2 t.1 t.2
    omega
theorem qT_z (hM : MB M) (h : ST3 M r w o) {k : Nat} (hk : k < 5) (hz : M.1 7 ≤ (k : Int)) : qT M r o σ k = 0 := by
  unfold qT
  split
  · rfl
  · have ho := h.2.2
    have h8 := hM.2.2.2.2.2.2.2.1
    rw [hM.2.2.2.2.2.2.2.2.2.2.2.2.2.2.1 o.toNat k (by omega) hk hz, Int.mul_zero]
theorem hT_b (hM : MB M) (hσ : SI M σ) (h : ST3 M r w o) : (∀ k, k < 5 → 0 ≤ hT M r o σ k) ∧ 0 ≤ fullT M r o σ ∧ fullT M r o σ ≤ 1750 := by
  have q := fun k hk => qT_b (σ := σ) hM h (k := k) hk
  have q0 := q 0 (by decide); have q1 := q 1 (by decide); have q2 := q 2 (by decide); have q3 := q 3 (by decide); have q4 := q 4 (by decide)
  have p0 := hσ.1 0 (by decide); have p1 := hσ.1 1 (by decide); have p2 := hσ.1 2 (by decide); have p3 := hσ.1 3 (by decide); have p4 := hσ.1 4 (by decide)
  have b1 := hσ.2.1; have b2 := hσ.2.2.1
  refine ⟨fun k hk => ?_, ?_⟩
  · have := q k hk; have := hσ.1 k hk; unfold hT; omega
  · unfold fullT s5 hT
    unfold s5 at b1 b2
    dsimp only at b1 b2
    by_cases e : σ 26 = 1
    · have z : ∀ k, qT M r o σ k = 0 := fun k => by unfold qT; rw [if_pos e]
      rw [z, z, z, z, z]; omega
    · have e0 : σ 26 = 0 := by have := hσ.2.2.2.1; omega
      have := b2 e0
      omega
theorem hT_z (hM : MB M) (hσ : SI M σ) (h : ST3 M r w o) {k : Nat} (hk : k < 5) (hz : M.1 7 ≤ (k : Int)) : hT M r o σ k = 0 := by
  have q := hσ.2.2.2.2.2.2.2.2.2 k hk hz
  unfold hT; rw [qT_z hM h hk hz, q.1, q.2.1]; rfl
theorem effT_b {full liner : Int} (hM : MB M) (h : ST3 M r w o) (hf : 0 ≤ full ∧ full ≤ M.1 0) (hl : 0 ≤ liner) : (0 ≤ 100 * full / M.1 0 ∧ 100 * full / M.1 0 ≤ 100) ∧ (0 ≤ max (M.1 4 - liner) (M.1 4 / 2) ∧ max (M.1 4 - liner) (M.1 4 / 2) ≤ M.1 4) ∧ (0 ≤ (100 - (if 100 * full / M.1 0 - 50 < 0 then -(100 * full / M.1 0 - 50) else 100 * full / M.1 0 - 50)) * max (M.1 4 - liner) (M.1 4 / 2) ∧ (100 - (if 100 * full / M.1 0 - 50 < 0 then -(100 * full / M.1 0 - 50) else 100 * full / M.1 0 - 50)) * max (M.1 4 - liner) (M.1 4 / 2) ≤ 20000) ∧ (0 ≤ (100 - (if 100 * full / M.1 0 - 50 < 0 then -(100 * full / M.1 0 - 50) else 100 * full / M.1 0 - 50)) * max (M.1 4 - liner) (M.1 4 / 2) / M.1 4 ∧ (100 - (if 100 * full / M.1 0 - 50 < 0 then -(100 * full / M.1 0 - 50) else 100 * full / M.1 0 - 50)) * max (M.1 4 - liner) (M.1 4 / 2) / M.1 4 ≤ 100) ∧ 0 ≤ effT M o full liner ∧ effT M o full liner ≤ 100 := by
  obtain ⟨m0, m1, m3, m4, m5, m6, m7, m8, m9, ma, mb, mc, md, me, mf, mg⟩ := hM
  have a1 : 0 ≤ 100 * full / M.1 0 ∧ 100 * full / M.1 0 ≤ 100 := ⟨Int.ediv_nonneg (by omega) (by omega), Int.ediv_le_of_le_mul (by omega) (by omega)⟩
  have a2 : 0 ≤ max (M.1 4 - liner) (M.1 4 / 2) ∧ max (M.1 4 - liner) (M.1 4 / 2) ≤ M.1 4 := by omega
  have a3 : 0 ≤ (100 - (if 100 * full / M.1 0 - 50 < 0 then -(100 * full / M.1 0 - 50) else 100 * full / M.1 0 - 50)) ∧ (100 - (if 100 * full / M.1 0 - 50 < 0 then -(100 * full / M.1 0 - 50) else 100 * full / M.1 0 - 50)) ≤ 100 := by split <;> omega
  unfold effT
  generalize (100 - (if 100 * full / M.1 0 - 50 < 0 then -(100 * full / M.1 0 - 50) else 100 * full / M.1 0 - 50)) = u at a3 ⊢
  generalize max (M.1 4 - liner) (M.1 4 / 2) = v at a2 ⊢
  have a4 := mulb a3.1 a3.2 a2.1 a2.2
  have a5 : 0 ≤ u * v / M.1 4 ∧ u * v / M.1 4 ≤ 100 := ⟨Int.ediv_nonneg a4.1 (by omega), Int.ediv_le_of_le_mul (by omega) a4.2⟩
  have ho := h.2.2
  have hd := md o.toNat (by omega)
  have hd1 := hd.2.2 (by omega)
  refine ⟨a1, a2, ⟨a4.1, by omega⟩, a5, Int.ediv_nonneg (by omega) (by omega), Int.ediv_le_of_le_mul (by omega) ?_⟩
  omega
theorem bkn_b {e : Int} {k : Nat} {h : Nat → Int} (hM : MB M) (he : 0 ≤ e ∧ e ≤ 100) (hk : k < 5) (hh : 0 ≤ h k) : (0 ≤ M.2.1 1 k * e ∧ M.2.1 1 k * e ≤ 10000) ∧ 0 ≤ bkn M e k h ∧ bkn M e k h ≤ h k := by
  have b := hM.2.2.2.2.2.2.2.2.2.2.1 k hk
  have m := mulb b.1 b.2 he.1 he.2
  unfold bkn
  generalize M.2.1 1 k * e = u at m ⊢
  have m2 := mulb hh (Int.le_refl _) m.1 (show u ≤ 10000 by omega)
  exact ⟨⟨m.1, by omega⟩, Int.ediv_nonneg m2.1 (by decide), Int.ediv_le_of_le_mul (by decide) m2.2⟩
theorem frs_b {k : Nat} {b : Int} (hM : MB M) (hk : k < 5) (hb : 0 ≤ b) : 0 ≤ b * M.2.1 2 k / 100 ∧ b * M.2.1 2 k / 100 ≤ b := by
  have c := hM.2.2.2.2.2.2.2.2.2.2.2.1 k hk
  have m2 := mulb hb (Int.le_refl _) c.1 c.2
  exact ⟨Int.ediv_nonneg m2.1 (by decide), Int.ediv_le_of_le_mul (by decide) m2.2⟩
theorem brk1_b {e : Int} {k : Nat} {h : Nat → Int} (hM : MB M) (he : 0 ≤ e ∧ e ≤ 100) (hk : k + 1 < 5) (hh : ∀ j, j < 5 → 0 ≤ h j) : (∀ j, j < 5 → 0 ≤ brk1 M e k h j) ∧ s5 (brk1 M e k h) = s5 h := by
  have b := (bkn_b (h := h) hM he (show k < 5 by omega) (hh k (by omega))).2
  have f := frs_b (k := k) hM (by omega) b.1
  have m7 := hM.2.2.2.2.2.2.1
  have zb : zN M ≤ 5 := by unfold zN; omega
  unfold brk1
  generalize bkn M e k h = x at b f ⊢
  generalize x * M.2.1 2 k / 100 = y at f ⊢
  split
  · refine ⟨fun j hj => ?_, ?_⟩
    · have := hh j hj; have := hh (k + 1) hk; have := hh (k + 2) (by omega)
      unfold u1
      split
      · omega
      · split
        · omega
        · split <;> omega
    · have : k = 0 ∨ k = 1 ∨ k = 2 := by omega
      rcases this with rfl | rfl | rfl <;> simp [s5, u1] <;> omega
  · refine ⟨fun j hj => ?_, ?_⟩
    · have := hh j hj; have := hh (k + 1) hk
      unfold u1
      split
      · omega
      · split <;> omega
    · have : k = 0 ∨ k = 1 ∨ k = 2 ∨ k = 3 := by omega
      rcases this with rfl | rfl | rfl | rfl <;> simp [s5, u1] <;> omega
theorem brk1_z {e : Int} {k : Nat} {h : Nat → Int} (hk : k + 1 < zN M) (hz : ∀ j, j < 5 → zN M ≤ j → h j = 0) : ∀ j, j < 5 → zN M ≤ j → brk1 M e k h j = 0 := by
  intro j hj hzj
  unfold brk1
  split
  · rw [u1, if_neg (by omega), u1, if_neg (by omega), u1, if_neg (by omega)]; exact hz j hj hzj
  · rw [u1, if_neg (by omega), u1, if_neg (by omega)]; exact hz j hj hzj
theorem brk_b {e : Int} (hM : MB M) (he : 0 ≤ e ∧ e ≤ 100) : ∀ (n : Nat) (h : Nat → Int), n < zN M → (∀ j, j < 5 → 0 ≤ h j) → (∀ j, j < 5 → zN M ≤ j → h j = 0) → (∀ j, j < 5 → 0 ≤ brk M e n h j) ∧ s5 (brk M e n h) = s5 h ∧ (∀ j, j < 5 → zN M ≤ j → brk M e n h j = 0) := by
  intro n
  have m7 := hM.2.2.2.2.2.2.1
  have zb : zN M ≤ 5 := by unfold zN; omega
  induction n with
  | zero => intro h _ h1 h2; exact ⟨h1, rfl, h2⟩
  | succ n ih =>
    intro h hn h1 h2
    have b := brk1_b (k := n) hM he (by omega) h1
    have z := brk1_z (e := e) (k := n) hn h2
    obtain ⟨c1, c2, c3⟩ := ih (brk1 M e n h) (by omega) b.1 z
    exact ⟨c1, c2.trans b.2, c3⟩
theorem s5_le {f : Nat → Int} (h : ∀ j, j < 5 → 0 ≤ f j) {k : Nat} (hk : k < 5) : f k ≤ s5 f := by
  have := h 0 (by decide); have := h 1 (by decide); have := h 2 (by decide); have := h 3 (by decide); have := h 4 (by decide)
  unfold s5
  have : k = 0 ∨ k = 1 ∨ k = 2 ∨ k = 3 ∨ k = 4 := by omega
  rcases this with rfl | rfl | rfl | rfl | rfl <;> omega
theorem outT_b {x : Int} (h : ST3 M r w o) (hx : 0 ≤ x) : (0 ≤ x * (20 + 10 * w) ∧ x * (20 + 10 * w) ≤ x * 50) ∧ 0 ≤ outT w x ∧ outT w x ≤ x := by
  have m := mulb hx (Int.le_refl _) (show 0 ≤ 20 + 10 * w by have := h.2.1; omega) (show 20 + 10 * w ≤ 50 by have := h.2.1; omega)
  unfold outT
  exact ⟨m, Int.ediv_nonneg m.1 (by decide), Int.ediv_le_of_le_mul (by decide) (by omega)⟩
theorem psT_b {x tears : Int} {k : Nat} (hM : MB M) (ht : 0 ≤ tears ∧ tears ≤ 3) (hx : 0 ≤ x) : (0 ≤ tears * M.1 3 ∧ tears * M.1 3 ≤ 150) ∧ 0 ≤ psT M tears k x ∧ psT M tears k x ≤ x := by
  have m3 := hM.2.2.1
  have t := mulb ht.1 ht.2 m3.1 m3.2
  have mn : 0 ≤ min (tears * M.1 3) 100 ∧ min (tears * M.1 3) 100 ≤ 100 := by omega
  have m := mulb hx (Int.le_refl _) mn.1 mn.2
  refine ⟨⟨t.1, by omega⟩, ?_⟩
  unfold psT
  split
  · exact ⟨Int.ediv_nonneg m.1 (by decide), Int.ediv_le_of_le_mul (by decide) m.2⟩
  · exact ⟨hx, Int.le_refl _⟩
end HSPEC
