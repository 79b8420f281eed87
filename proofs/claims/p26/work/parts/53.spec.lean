/-! what a text says: tokens, words, wholes; and how a function's answer is reasoned about (Wp) -/
def Wp {α : Type} (o : Option α) (Q : α → Prop) : Prop := ∃ a, o = some a ∧ Q a
theorem Wp.ret {α : Type} {a : α} {Q : α → Prop} (h : Q a) : Wp (some a) Q := ⟨a, rfl, h⟩
theorem Wp.bd1 {α ρ : Type} {m : Option α} {f : α → Option ρ} {Q : ρ → Prop} (h : Wp m (fun a => Wp (f a) Q)) : Wp (bd1 m f) Q := by
  obtain ⟨a, rfl, h⟩ := h; exact h
theorem Wp.bd2 {α β ρ : Type} {m : Option (α × β)} {f : α → β → Option ρ} {Q : ρ → Prop} (h : Wp m (fun a => Wp (f a.1 a.2) Q)) : Wp (bd2 m f) Q := by
  obtain ⟨a, rfl, h⟩ := h; exact h
theorem Wp.bd3 {α β γ ρ : Type} {m : Option (α × β × γ)} {f : α → β → γ → Option ρ} {Q : ρ → Prop} (h : Wp m (fun a => Wp (f a.1 a.2.1 a.2.2) Q)) : Wp (bd3 m f) Q := by
  obtain ⟨a, rfl, h⟩ := h; exact h
theorem Wp.lb {α ρ : Type} {x : α} {f : α → Option ρ} {Q : ρ → Prop} (h : Wp (f x) Q) : Wp (lb x f) Q := h
theorem Wp.jn {α ρ : Type} {x : α} {f : α → Option ρ} {Q : ρ → Prop} (h : Wp (f x) Q) : Wp (jn x f) Q := h
theorem Wp.mono {α : Type} {o : Option α} {Q R : α → Prop} (h : Wp o Q) (k : ∀ a, Q a → R a) : Wp o R := by
  obtain ⟨a, e, q⟩ := h; exact ⟨a, e, k a q⟩
theorem Wp.pos {c : Prop} {i : Decidable c} {α : Type} {x y : Option α} {Q : α → Prop} (h : c) (k : Wp x Q) : Wp (@ite _ c i x y) Q := by rw [if_pos h]; exact k
theorem Wp.neg {c : Prop} {i : Decidable c} {α : Type} {x y : Option α} {Q : α → Prop} (h : ¬ c) (k : Wp y Q) : Wp (@ite _ c i x y) Q := by rw [if_neg h]; exact k
theorem Wp.ite {c : Prop} {i : Decidable c} {α : Type} {x y : Option α} {Q : α → Prop} (h : c → Wp x Q) (k : ¬ c → Wp y Q) : Wp (@ite _ c i x y) Q := by
  by_cases q : c
  · exact Wp.pos q (h q)
  · exact Wp.neg q (k q)
theorem Wp.eq {α : Type} {o o' : Option α} {Q : α → Prop} (e : o = o') (k : Wp o' Q) : Wp o Q := by rw [e]; exact k
def bI (b : Bool) : Int32 := if b = true then Int32.ofInt 1 else Int32.ofInt 0
theorem bI_t : (bI true).toInt = 1 := rfl
theorem bI_f : (bI false).toInt = 0 := rfl
theorem bI_i {b : Bool} : (bI b).toInt = if b = true then 1 else 0 := by cases b <;> rfl
theorem bI_01 {b : Bool} : (bI b).toInt = 0 ∨ (bI b).toInt = 1 := by cases b <;> decide
theorem t_add {x y : Int32} {a b : Int} (hx : x.toInt = a) (hy : y.toInt = b) (h : -2147483648 ≤ a + b ∧ a + b < 2147483648) : (x + y).toInt = a + b := by
  rw [Int32.toInt_add, wr32, hx, hy]; omega
theorem t_sub {x y : Int32} {a b : Int} (hx : x.toInt = a) (hy : y.toInt = b) (h : -2147483648 ≤ a - b ∧ a - b < 2147483648) : (x - y).toInt = a - b := by
  rw [Int32.toInt_sub, wr32, hx, hy]; omega
theorem t_mul {x y : Int32} {a b : Int} (hx : x.toInt = a) (hy : y.toInt = b) (h : -2147483648 ≤ a * b ∧ a * b < 2147483648) : (x * y).toInt = a * b := by
  rw [Int32.toInt_mul, wr32, hx, hy]; omega
def rn (q : Nat → Bool) : Nat → Nat → Nat
  | 0, p => p
  | k + 1, p => if q p = true then rn q k (p + 1) else p
theorem rn_ge {q : Nat → Bool} : ∀ k p, p ≤ rn q k p
  | 0, p => Nat.le_refl p
  | k + 1, p => by
    unfold rn; split
    · have := rn_ge (q := q) k (p + 1); omega
    · exact Nat.le_refl p
theorem rn_le {q : Nat → Bool} : ∀ k p, rn q k p ≤ p + k
  | 0, p => Nat.le_refl p
  | k + 1, p => by
    unfold rn; split
    · have := rn_le (q := q) k (p + 1); omega
    · omega
theorem rn_eq {q : Nat → Bool} {n : Nat} (hq : ∀ p, n ≤ p → q p = false) (p : Nat) : rn q (n - p) p = if q p = true then rn q (n - (p + 1)) (p + 1) else p := by
  by_cases h : p < n
  · have e : n - p = (n - (p + 1)) + 1 := by omega
    rw [e]; rfl
  · have e : n - p = 0 := by omega
    rw [e, hq p (by omega)]; rfl
theorem rn_in {q : Nat → Bool} : ∀ k p j, p ≤ j → j < rn q k p → q j = true
  | 0, p, j, h1, h2 => by unfold rn at h2; omega
  | k + 1, p, j, h1, h2 => by
    unfold rn at h2
    split at h2
    · rename_i h
      rcases Nat.eq_or_lt_of_le h1 with e | e
      · rw [← e]; exact h
      · exact rn_in k (p + 1) j e h2
    · omega
def isB (t : Nat → Int) (n p : Nat) : Bool := decide (p < n) && decide (t p = 32)
def isL (t : Nat → Int) (n p : Nat) : Bool := decide (p < n) && (decide (97 ≤ t p) && decide (t p ≤ 122))
def isD (t : Nat → Int) (n p : Nat) : Bool := decide (p < n) && (decide (48 ≤ t p) && decide (t p ≤ 57))
theorem isB_iff {t : Nat → Int} {n p : Nat} : isB t n p = true ↔ p < n ∧ t p = 32 := by simp [isB]
theorem isL_iff {t : Nat → Int} {n p : Nat} : isL t n p = true ↔ p < n ∧ 97 ≤ t p ∧ t p ≤ 122 := by simp [isL]
theorem isD_iff {t : Nat → Int} {n p : Nat} : isD t n p = true ↔ p < n ∧ 48 ≤ t p ∧ t p ≤ 57 := by simp [isD]
theorem isB_o {t : Nat → Int} {n : Nat} : ∀ p, n ≤ p → isB t n p = false := fun p h => by
  cases q : isB t n p with
  | false => rfl
  | true => have := isB_iff.mp q; omega
theorem isL_o {t : Nat → Int} {n : Nat} : ∀ p, n ≤ p → isL t n p = false := fun p h => by
  cases q : isL t n p with
  | false => rfl
  | true => have := isL_iff.mp q; omega
theorem isD_o {t : Nat → Int} {n : Nat} : ∀ p, n ≤ p → isD t n p = false := fun p h => by
  cases q : isD t n p with
  | false => rfl
  | true => have := isD_iff.mp q; omega
def rB (t : Nat → Int) (n p : Nat) : Nat := rn (isB t n) (n - p) p
def rL (t : Nat → Int) (n p : Nat) : Nat := rn (isL t n) (n - p) p
def rD (t : Nat → Int) (n p : Nat) : Nat := rn (isD t n) (n - p) p
theorem rB_y {t : Nat → Int} {n p : Nat} (h : p < n ∧ t p = 32) : rB t n p = rB t n (p + 1) := by
  unfold rB; rw [rn_eq isB_o, if_pos (isB_iff.mpr h)]
theorem rB_n {t : Nat → Int} {n p : Nat} (h : ¬ (p < n ∧ t p = 32)) : rB t n p = p := by
  unfold rB; rw [rn_eq isB_o, if_neg (fun z => h (isB_iff.mp z))]
theorem rL_y {t : Nat → Int} {n p : Nat} (h : p < n ∧ 97 ≤ t p ∧ t p ≤ 122) : rL t n p = rL t n (p + 1) := by
  unfold rL; rw [rn_eq isL_o, if_pos (isL_iff.mpr h)]
theorem rL_n {t : Nat → Int} {n p : Nat} (h : ¬ (p < n ∧ 97 ≤ t p ∧ t p ≤ 122)) : rL t n p = p := by
  unfold rL; rw [rn_eq isL_o, if_neg (fun z => h (isL_iff.mp z))]
theorem rD_y {t : Nat → Int} {n p : Nat} (h : p < n ∧ 48 ≤ t p ∧ t p ≤ 57) : rD t n p = rD t n (p + 1) := by
  unfold rD; rw [rn_eq isD_o, if_pos (isD_iff.mpr h)]
theorem rD_n {t : Nat → Int} {n p : Nat} (h : ¬ (p < n ∧ 48 ≤ t p ∧ t p ≤ 57)) : rD t n p = p := by
  unfold rD; rw [rn_eq isD_o, if_neg (fun z => h (isD_iff.mp z))]
theorem rB_b {t : Nat → Int} {n p : Nat} (h : p ≤ n) : p ≤ rB t n p ∧ rB t n p ≤ n := ⟨rn_ge _ _, by have := rn_le (q := isB t n) (n - p) p; unfold rB; omega⟩
theorem rL_b {t : Nat → Int} {n p : Nat} (h : p ≤ n) : p ≤ rL t n p ∧ rL t n p ≤ n := ⟨rn_ge _ _, by have := rn_le (q := isL t n) (n - p) p; unfold rL; omega⟩
theorem rD_b {t : Nat → Int} {n p : Nat} (h : p ≤ n) : p ≤ rD t n p ∧ rD t n p ≤ n := ⟨rn_ge _ _, by have := rn_le (q := isD t n) (n - p) p; unfold rD; omega⟩
theorem rL_in {t : Nat → Int} {n p j : Nat} (h1 : p ≤ j) (h2 : j < rL t n p) : j < n ∧ 97 ≤ t j ∧ t j ≤ 122 := isL_iff.mp (rn_in _ _ _ h1 h2)
theorem rD_in {t : Nat → Int} {n p j : Nat} (h1 : p ≤ j) (h2 : j < rD t n p) : j < n ∧ 48 ≤ t j ∧ t j ≤ 57 := isD_iff.mp (rn_in _ _ _ h1 h2)
/-- the kind of the token that begins at f (0 the end, 1 none, 2 a word, 3 a whole, 4 a sign), and where it ends -/
def kd (t : Nat → Int) (n f : Nat) : Int := if f < n then (if 97 ≤ t f ∧ t f ≤ 122 then (if rL t n f ≤ f + 8 then 2 else 1) else if 48 ≤ t f ∧ t f ≤ 57 then (if rD t n f ≤ f + 3 then 3 else 1) else if t f = 59 ∨ t f = 44 then 4 else 1) else 0
def bh (t : Nat → Int) (n f : Nat) : Nat := if f < n then (if 97 ≤ t f ∧ t f ≤ 122 then rL t n f else if 48 ≤ t f ∧ t f ≤ 57 then rD t n f else f + 1) else f
def nx (t : Nat → Int) (n f : Nat) : Nat := rB t n (bh t n f)
def dg (b m : Int) (d : Nat → Int) : Nat → Int
  | 0 => 0
  | k + 1 => dg b m d k * b + (d k - m)
def vl (t : Nat → Int) (n f : Nat) : Int := dg 10 48 (fun j => t (f + j)) (rD t n f - f)
def cd (t : Nat → Int) (n f : Nat) : Int := dg 32 96 (fun j => t (f + j)) (rL t n f - f)
def wc (i : Nat) : Int := dg 32 96 (fun j => (sC i j).toInt) (sLen.getD i 0)
def isw (t : Nat → Int) (n i f : Nat) : Bool := decide (kd t n f = 2) && decide (cd t n f = wc i)
def isnm (t : Nat → Int) (n f : Nat) : Bool := decide (kd t n f = 2) && !(isw t n 0 f) && !(isw t n 3 f) && !(isw t n 4 f) && !(isw t n 5 f) && !(isw t n 6 f) && !(isw t n 7 f) && !(isw t n 8 f)
theorem bh_b {t : Nat → Int} {n f : Nat} (h : f ≤ n) : f ≤ bh t n f ∧ bh t n f ≤ n := by
  unfold bh
  have h1 := rL_b (t := t) h
  have h2 := rD_b (t := t) h
  split
  · split
    · exact h1
    · split
      · exact h2
      · omega
  · omega
theorem nx_b {t : Nat → Int} {n f : Nat} (h : f ≤ n) : f ≤ nx t n f ∧ nx t n f ≤ n := by
  have h1 := bh_b (t := t) h
  have h2 := rB_b (t := t) h1.2
  unfold nx; omega
theorem dg_inj {d e : Nat → Int} : ∀ (k l : Nat), (∀ j, j < k → 97 ≤ d j ∧ d j ≤ 122) → (∀ j, j < l → 97 ≤ e j ∧ e j ≤ 122) → dg 32 96 d k = dg 32 96 e l → k = l ∧ ∀ j, j < k → d j = e j
  | 0, 0, _, _, _ => ⟨rfl, fun j h => absurd h (Nat.not_lt_zero j)⟩
  | 0, l + 1, _, he, h => by
    have h1 := he l (by omega)
    have h2 : 0 ≤ dg 32 96 e l := dg_nn l (fun j hj => he j (by omega))
    unfold dg at h; omega
  | k + 1, 0, hd, _, h => by
    have h1 := hd k (by omega)
    have h2 : 0 ≤ dg 32 96 d k := dg_nn k (fun j hj => hd j (by omega))
    unfold dg at h; omega
  | k + 1, l + 1, hd, he, h => by
    have h1 := hd k (by omega)
    have h2 := he l (by omega)
    unfold dg at h
    have ih := dg_inj k l (fun j hj => hd j (by omega)) (fun j hj => he j (by omega)) (by omega)
    refine ⟨by omega, fun j hj => ?_⟩
    rcases Nat.lt_or_ge j k with q | q
    · exact ih.2 j q
    · have e1 : j = k := by omega
      subst e1
      have e2 : j = l := ih.1
      subst e2; omega
where dg_nn {e : Nat → Int} : ∀ l, (∀ j, j < l → 97 ≤ e j ∧ e j ≤ 122) → 0 ≤ dg 32 96 e l
  | 0, _ => Int.le_refl 0
  | l + 1, he => by
    have h1 := he l (by omega)
    have h2 := dg_nn l (fun j hj => he j (by omega))
    unfold dg; omega
theorem wc_let : ∀ i, i < 31 → i ≠ 15 → ∀ j, j < sLen.getD i 0 → 97 ≤ (sC i j).toInt ∧ (sC i j).toInt ≤ 122 := by decide +kernel
theorem wc_len : ∀ i, i < 31 → i ≠ 15 → 1 ≤ sLen.getD i 0 ∧ sLen.getD i 0 ≤ 8 := by decide +kernel
theorem wc_16 : ∀ i, i < 15 → wc (i + 16) = wc i := by decide +kernel
theorem sL_i : ∀ i, i < 31 → (sL i).toInt = ((sLen.getD i 0 : Nat) : Int) := by decide +kernel
/-- a world is as another but at some places of a cell -/
def EX (a : Nat) (ks : List Nat) (I I' : WI) : Prop := ∀ b k, ¬ (b = a ∧ k ∈ ks) → I' b k = I b k
theorem EX.rf {a : Nat} {ks : List Nat} {I : WI} : EX a ks I I := fun _ _ _ => rfl
theorem EX.up {a k : Nat} {v : Int32} {I : WI} : EX a [k] I (up2 I a k v) := fun b j h => up2_ne _ _ (fun z => h ⟨z.1, by rw [z.2]; exact List.mem_singleton.mpr rfl⟩)
theorem EX.trans {a : Nat} {ks : List Nat} {I I1 I2 : WI} (h1 : EX a ks I I1) (h2 : EX a ks I1 I2) : EX a ks I I2 := fun b k h => (h2 b k h).trans (h1 b k h)
theorem EX.w {a : Nat} {ks ls : List Nat} {I I' : WI} (h : EX a ks I I') (hk : ∀ k ∈ ks, k ∈ ls) : EX a ls I I' := fun b k q => h b k (fun z => q ⟨z.1, hk k z.2⟩)
theorem EX.ne {a b : Nat} {ks : List Nat} {I I' : WI} (h : EX a ks I I') (hb : b ≠ a) : I' b = I b := by funext k; exact h b k (fun z => hb z.1)
theorem EX.at {a k : Nat} {ks : List Nat} {I I' : WI} (h : EX a ks I I') (hk : k ∉ ks) : I' a k = I a k := h a k (fun z => hk z.2)
