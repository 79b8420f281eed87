/-! plans, in whole numbers -/
def wel (M : MM) (w o : Int) (σ : Nat → Int) (d : Nat) : Bool := decide (HH M (d : Int) w o σ 26 = 0) && decide (HH M (d : Int) w o σ 23 = σ 23)
def pth (M : MM) (w o : Int) : Nat → Nat → (Nat → Int) → Option (Nat → Int)
  | 0, _, σ => some σ
  | r + 1, s, σ => if wel M w o σ (s / 4 ^ r) = true then pth M w o r (s % 4 ^ r) (HH M ((s / 4 ^ r : Nat) : Int) w o σ) else none
abbrev BBt : Type := Option (Int × Nat)
def ltB (v : Int) : BBt → Bool
  | none => true
  | some (c, _) => decide (v < c)
def updB (b : BBt) (i : Nat) : Option (Nat → Int) → BBt
  | none => b
  | some τ => if ltB (τ 32) b = true then some (τ 32, i) else b
def fol (M : MM) (w o : Int) (r : Nat) (σ : Nat → Int) (B : Nat) : Nat → BBt → BBt
  | 0, b => b
  | m + 1, b => updB (fol M w o r σ B m b) (B + m) (pth M w o r m σ)
def srs (M : MM) (w o : Int) (f : (Nat → Int) → Nat → BBt → BBt) (σ : Nat → Int) (pre : Nat) : Nat → BBt → BBt
  | 0, b => b
  | d + 1, b => if wel M w o σ d = true ∧ ltB (HH M (d : Int) w o σ 32) (srs M w o f σ pre d b) = true then f (HH M (d : Int) w o σ) (4 * pre + d) (srs M w o f σ pre d b) else srs M w o f σ pre d b
def src (M : MM) (w o : Int) : Nat → (Nat → Int) → Nat → BBt → BBt
  | 0, σ, pre, _ => some (σ 32, pre)
  | r + 1, σ, pre, b => srs M w o (src M w o r) σ pre 4 b
section PLANP
variable {M : MM} {w o : Int} {σ : Nat → Int}
theorem HH_32 (hM : MB M) (hσ : SI M σ) (hw : 0 ≤ w ∧ w ≤ 3) (ho : 0 ≤ o ∧ o < M.1 8) {d : Nat} (hd : d ≤ 3) : σ 32 ≤ HH M (d : Int) w o σ 32 := by
  show σ 32 ≤ σ 32 + pwT M (d : Int) o σ * prT M (σ 27)
  have hb := (HH_b hM hσ (r := (d : Int)) (w := w) (o := o) ⟨by omega, hw, ho⟩).2.2.2.1
  have h9 := hM.2.2.2.2.2.2.2.2.1
  have h27 := hσ.2.2.2.2.1
  have m1 : 0 ≤ σ 27 % M.1 9 := Int.emod_nonneg _ (by omega)
  have m2 : σ 27 % M.1 9 < M.1 9 := Int.emod_lt_of_pos _ (by omega)
  have hp := hM.2.2.2.2.2.2.2.2.2.1 (σ 27 % M.1 9).toNat (by omega)
  have : 0 ≤ pwT M (d : Int) o σ * prT M (σ 27) := Int.mul_nonneg hb.1 hp.1
  omega
theorem HH_SId (hM : MB M) (hσ : SI M σ) (hw : 0 ≤ w ∧ w ≤ 3) (ho : 0 ≤ o ∧ o < M.1 8) {d : Nat} (hd : d ≤ 3) (h27 : σ 27 < 252) : SI M (HH M (d : Int) w o σ) ∧ HH M (d : Int) w o σ 27 = σ 27 + 1 := ⟨HH_SI hM hσ ⟨by omega, hw, ho⟩ h27, rfl⟩
theorem p4 (r : Nat) : 0 < 4 ^ r := Nat.pow_pos (by decide)
theorem pth_32 (hM : MB M) (hw : 0 ≤ w ∧ w ≤ 3) (ho : 0 ≤ o ∧ o < M.1 8) : ∀ (r s : Nat) (σ τ : Nat → Int), SI M σ → σ 27 + r ≤ 252 → s < 4 ^ r → pth M w o r s σ = some τ → σ 32 ≤ τ 32
  | 0, s, σ, τ, _, _, _, h => by cases h; exact Int.le_refl _
  | r + 1, s, σ, τ, hσ, h27, hs, h => by
    unfold pth at h
    have p := p4 r
    rw [Nat.pow_succ] at hs
    have hd : s / 4 ^ r ≤ 3 := by
      have : s / 4 ^ r < 4 := Nat.div_lt_of_lt_mul (by omega)
      omega
    by_cases e : wel M w o σ (s / 4 ^ r) = true
    · rw [if_pos e] at h
      have q := HH_SId hM hσ hw ho hd (by omega)
      have ih := pth_32 hM hw ho r (s % 4 ^ r) _ τ q.1 (by rw [q.2]; omega) (Nat.mod_lt _ p) h
      exact Int.le_trans (HH_32 hM hσ hw ho hd) ih
    · rw [if_neg e] at h; cases h
theorem fol_no (hM : MB M) (hw : 0 ≤ w ∧ w ≤ 3) (ho : 0 ≤ o ∧ o < M.1 8) {r B : Nat} {b : BBt} (hσ : SI M σ) (h27 : σ 27 + r ≤ 252) (hb : ¬ ltB (σ 32) b = true) : ∀ m, m ≤ 4 ^ r → fol M w o r σ B m b = b
  | 0, _ => rfl
  | m + 1, hm => by
    show updB (fol M w o r σ B m b) (B + m) (pth M w o r m σ) = b
    rw [fol_no hM hw ho hσ h27 hb m (by omega)]
    cases e : pth M w o r m σ with
    | none => rfl
    | some τ =>
      have l := pth_32 hM hw ho r m σ τ hσ h27 (by omega) e
      show (if ltB (τ 32) b = true then some (τ 32, B + m) else b) = b
      rw [if_neg (fun z => hb ?_)]
      cases b with
      | none => rfl
      | some q =>
        have z' : decide (τ 32 < q.1) = true := z
        show decide (σ 32 < q.1) = true
        have := of_decide_eq_true z'
        exact decide_eq_true (by omega)
theorem fol_blk {r B d : Nat} {b : BBt} (hd : d < 4) : ∀ m, m ≤ 4 ^ r → fol M w o (r + 1) σ B (d * 4 ^ r + m) b = if wel M w o σ d = true then fol M w o r (HH M (d : Int) w o σ) (B + d * 4 ^ r) m (fol M w o (r + 1) σ B (d * 4 ^ r) b) else fol M w o (r + 1) σ B (d * 4 ^ r) b
  | 0, _ => by
    rw [Nat.add_zero]
    split
    · rfl
    · rfl
  | m + 1, hm => by
    show updB (fol M w o (r + 1) σ B (d * 4 ^ r + m) b) (B + (d * 4 ^ r + m)) (pth M w o (r + 1) (d * 4 ^ r + m) σ) = _
    rw [fol_blk hd m (by omega)]
    have p := p4 r
    have e1 : (d * 4 ^ r + m) / 4 ^ r = d := by
      rw [Nat.mul_comm, Nat.mul_add_div p, Nat.div_eq_of_lt (by omega)]; rfl
    have e2 : (d * 4 ^ r + m) % 4 ^ r = m := by
      rw [Nat.mul_comm, Nat.mul_add_mod, Nat.mod_eq_of_lt (by omega)]
    have e3 : pth M w o (r + 1) (d * 4 ^ r + m) σ = if wel M w o σ d = true then pth M w o r m (HH M (d : Int) w o σ) else none := by
      show (if wel M w o σ ((d * 4 ^ r + m) / 4 ^ r) = true then pth M w o r ((d * 4 ^ r + m) % 4 ^ r) (HH M (((d * 4 ^ r + m) / 4 ^ r : Nat) : Int) w o σ) else none) = _
      rw [e1, e2]
    rw [e3]
    by_cases e : wel M w o σ d = true
    · rw [if_pos e, if_pos e, if_pos e]
      show _ = updB (fol M w o r (HH M (d : Int) w o σ) (B + d * 4 ^ r) m _) (B + d * 4 ^ r + m) _
      rw [Nat.add_assoc]
    · rw [if_neg e, if_neg e, if_neg e]; rfl
theorem src_fol (hM : MB M) (hw : 0 ≤ w ∧ w ≤ 3) (ho : 0 ≤ o ∧ o < M.1 8) : ∀ (r : Nat) (σ : Nat → Int) (pre : Nat) (b : BBt), SI M σ → σ 27 + r ≤ 252 → (r = 0 → ltB (σ 32) b = true) → src M w o r σ pre b = fol M w o r σ (pre * 4 ^ r) (4 ^ r) b
  | 0, σ, pre, b, _, _, hl => by
    show some (σ 32, pre) = updB b (pre * 1 + 0) (some σ)
    show _ = if ltB (σ 32) b = true then some (σ 32, pre * 1 + 0) else b
    rw [if_pos (hl rfl), Nat.mul_one, Nat.add_zero]
  | r + 1, σ, pre, b, hσ, h27, _ => by
    have blk : ∀ d, d ≤ 4 → srs M w o (src M w o r) σ pre d b = fol M w o (r + 1) σ (pre * 4 ^ (r + 1)) (d * 4 ^ r) b := by
      intro d
      induction d with
      | zero => intro _; rw [Nat.zero_mul]; rfl
      | succ d ih =>
        intro hd
        have q := HH_SId (d := d) hM hσ hw ho (by omega) (by omega)
        have fb := fol_blk (M := M) (w := w) (o := o) (σ := σ) (r := r) (B := pre * 4 ^ (r + 1)) (d := d) (b := b) (by omega) (4 ^ r) (Nat.le_refl _)
        rw [show (d + 1) * 4 ^ r = d * 4 ^ r + 4 ^ r by rw [Nat.add_mul, Nat.one_mul], fb]
        show (if wel M w o σ d = true ∧ ltB (HH M (d : Int) w o σ 32) (srs M w o (src M w o r) σ pre d b) = true then src M w o r (HH M (d : Int) w o σ) (4 * pre + d) (srs M w o (src M w o r) σ pre d b) else srs M w o (src M w o r) σ pre d b) = _
        rw [ih (by omega)]
        by_cases e : wel M w o σ d = true
        · rw [if_pos e]
          by_cases e2 : ltB (HH M (d : Int) w o σ 32) (fol M w o (r + 1) σ (pre * 4 ^ (r + 1)) (d * 4 ^ r) b) = true
          · rw [if_pos ⟨e, e2⟩, src_fol hM hw ho r _ (4 * pre + d) _ q.1 (by rw [q.2]; omega) (fun _ => e2)]
            rw [show (4 * pre + d) * 4 ^ r = pre * 4 ^ (r + 1) + d * 4 ^ r by rw [Nat.add_mul, Nat.pow_succ, Nat.mul_comm 4 pre, Nat.mul_assoc, Nat.mul_comm 4 (4 ^ r)]]
          · rw [if_neg (fun z => e2 z.2), fol_no hM hw ho q.1 (by rw [q.2]; omega) e2 (4 ^ r) (Nat.le_refl _)]
        · rw [if_neg (fun z => e z.1), if_neg e]
    show srs M w o (src M w o r) σ pre 4 b = _
    rw [blk 4 (Nat.le_refl _), show 4 * 4 ^ r = 4 ^ (r + 1) by rw [Nat.pow_succ, Nat.mul_comm]]
/-- what all the tries of so many hours come to -/
def plB (M : MM) (w o : Int) (σ : Nat → Int) (n : Nat) : BBt := fol M w o n σ 0 (4 ^ n) none
theorem plB_s (hM : MB M) (hw : 0 ≤ w ∧ w ≤ 3) (ho : 0 ≤ o ∧ o < M.1 8) (hσ : SI M σ) {n : Nat} (h27 : σ 27 + n ≤ 252) (hn : 1 ≤ n) : src M w o n σ 0 none = plB M w o σ n := by
  rw [src_fol hM hw ho n σ 0 none hσ h27 (fun z => by omega), Nat.zero_mul]; rfl
/-- a digit of a plan -/
def dig (n j k : Nat) : Nat := j / 4 ^ (n - 1 - k) % 4
end PLANP
