/-! splits of a row of numbers, counted -/
def sct : List Int → Nat → Int → Nat
  | [], k, s => if k = 0 ∧ s ≤ 0 then 1 else 0
  | _ :: t, 0, s => sct t 0 s
  | h :: t, k + 1, s => sct t k (s - h) + sct t (k + 1) s
theorem sct_0 : ∀ (l : List Int) (s : Int), sct l 0 s = if s ≤ 0 then 1 else 0
  | [], s => by
    show (if 0 = 0 ∧ s ≤ 0 then 1 else 0) = _
    by_cases h : s ≤ 0
    · rw [if_pos ⟨rfl, h⟩, if_pos h]
    · rw [if_neg (fun z => h z.2), if_neg h]
  | _ :: t, s => by show sct t 0 s = _; exact sct_0 t s
theorem sct_gt : ∀ (l : List Int) (k : Nat) (s : Int), l.length < k → sct l k s = 0
  | [], k, s, h => by
    show (if k = 0 ∧ s ≤ 0 then 1 else 0) = 0
    have h' : 0 < k := h
    rw [if_neg (fun z => by omega)]
  | a :: t, 0, s, h => absurd h (Nat.not_lt_zero _)
  | a :: t, k + 1, s, h => by
    have h' : t.length < k := Nat.lt_of_succ_lt_succ h
    show sct t k (s - a) + sct t (k + 1) s = 0
    rw [sct_gt t k _ h', sct_gt t (k + 1) s (Nat.lt_succ_of_lt h')]
theorem sct_sw (a b : Int) (t : List Int) : ∀ (k : Nat) (s : Int), sct (a :: b :: t) k s = sct (b :: a :: t) k s
  | 0, s => rfl
  | 1, s => by
    show sct t 0 (s - a) + (sct t 0 (s - b) + sct t 1 s) = sct t 0 (s - b) + (sct t 0 (s - a) + sct t 1 s)
    omega
  | k + 2, s => by
    show (sct t k (s - a - b) + sct t (k + 1) (s - a)) + (sct t (k + 1) (s - b) + sct t (k + 2) s) = (sct t k (s - b - a) + sct t (k + 1) (s - b)) + (sct t (k + 1) (s - a) + sct t (k + 2) s)
    rw [show s - b - a = s - a - b by omega]; omega
theorem sct_perm {l l' : List Int} (h : List.Perm l l') : ∀ (k : Nat) (s : Int), sct l k s = sct l' k s := by
  induction h with
  | nil => intro k s; rfl
  | cons x _ ih =>
    intro k s
    cases k with
    | zero => exact ih 0 s
    | succ k => show sct _ k (s - x) + sct _ (k + 1) s = sct _ k (s - x) + sct _ (k + 1) s; rw [ih, ih]
  | swap x y l => intro k s; exact sct_sw y x l k s
  | trans _ _ i1 i2 => intro k s; rw [i1, i2]
def sch : Nat → Nat → Nat
  | 0, k => if k = 0 then 1 else 0
  | n + 1, 0 => sch n 0
  | n + 1, k + 1 => sch n k + sch n (k + 1)
theorem sct_ch : ∀ (l : List Int) (k : Nat) (s : Int), s ≤ 0 → (∀ a, a ∈ l → 0 ≤ a) → sct l k s = sch l.length k
  | [], k, s, h, _ => by
    show (if k = 0 ∧ s ≤ 0 then 1 else 0) = if k = 0 then 1 else 0
    by_cases e : k = 0
    · rw [if_pos ⟨e, h⟩, if_pos e]
    · rw [if_neg (fun z => e z.1), if_neg e]
  | a :: t, 0, s, h, hp => by
    show sct t 0 s = sch t.length 0
    exact sct_ch t 0 s h (fun b hb => hp b (List.mem_cons_of_mem _ hb))
  | a :: t, k + 1, s, h, hp => by
    have ha := hp a List.mem_cons_self
    have ht : ∀ b, b ∈ t → 0 ≤ b := fun b hb => hp b (List.mem_cons_of_mem _ hb)
    show sct t k (s - a) + sct t (k + 1) s = sch t.length k + sch t.length (k + 1)
    rw [sct_ch t k (s - a) (by omega) ht, sct_ch t (k + 1) s h ht]
theorem sct_le : ∀ (l : List Int) (k : Nat) (s : Int), sct l k s ≤ 2 ^ l.length
  | [], k, s => by show (if k = 0 ∧ s ≤ 0 then 1 else 0) ≤ 1; split <;> omega
  | a :: t, 0, s => by
    have := sct_le t 0 s
    show sct t 0 s ≤ 2 ^ (t.length + 1); rw [Nat.pow_succ]; omega
  | a :: t, k + 1, s => by
    have h1 := sct_le t k (s - a)
    have h2 := sct_le t (k + 1) s
    show sct t k (s - a) + sct t (k + 1) s ≤ 2 ^ (t.length + 1); rw [Nat.pow_succ]; omega
def ssg (f : Nat → Int) : Nat → Nat → List Int
  | _, 0 => []
  | i, c + 1 => f i :: ssg f (i + 1) c
theorem ssg_len (f : Nat → Int) : ∀ c i : Nat, (ssg f i c).length = c
  | 0, _ => rfl
  | c + 1, i => by show (ssg f (i + 1) c).length + 1 = c + 1; rw [ssg_len f c (i + 1)]
theorem ssg_app (f : Nat → Int) : ∀ c i d : Nat, ssg f i (c + d) = ssg f i c ++ ssg f (i + c) d
  | 0, i, d => by rw [Nat.zero_add]; rfl
  | c + 1, i, d => by
    rw [show c + 1 + d = (c + d) + 1 by omega]
    show f i :: ssg f (i + 1) (c + d) = f i :: (ssg f (i + 1) c ++ ssg f (i + (c + 1)) d)
    rw [ssg_app f c (i + 1) d, show i + 1 + c = i + (c + 1) by omega]
theorem ssg_cg {f g : Nat → Int} : ∀ c i j : Nat, (∀ k, k < c → f (i + k) = g (j + k)) → ssg f i c = ssg g j c
  | 0, _, _, _ => rfl
  | c + 1, i, j, h => by
    show f i :: ssg f (i + 1) c = g j :: ssg g (j + 1) c
    rw [show f i = g j from h 0 (by omega), ssg_cg c (i + 1) (j + 1) (fun k hk => by
      have := h (k + 1) (by omega)
      rw [show i + 1 + k = i + (k + 1) by omega, show j + 1 + k = j + (k + 1) by omega]; exact this)]
theorem ssg_mem {f : Nat → Int} {a : Int} : ∀ c i : Nat, a ∈ ssg f i c → ∃ k, k < c ∧ a = f (i + k)
  | 0, i, h => absurd h (by show ¬ a ∈ ([] : List Int); exact List.not_mem_nil)
  | c + 1, i, h => by
    have h' : a ∈ f i :: ssg f (i + 1) c := h
    rcases List.mem_cons.mp h' with e | e
    · exact ⟨0, by omega, e⟩
    · obtain ⟨k, k1, k2⟩ := ssg_mem c (i + 1) e
      exact ⟨k + 1, by omega, by rw [k2, show i + 1 + k = i + (k + 1) by omega]⟩
def sbt : Nat → Nat → Nat
  | 0, _ => 0
  | n + 1, s => s % 2 + sbt n (s / 2)
theorem sbt_z : ∀ n, sbt n 0 = 0
  | 0 => rfl
  | n + 1 => by show 0 % 2 + sbt n (0 / 2) = 0; rw [show 0 / 2 = 0 from rfl, sbt_z n]
theorem sbt_le : ∀ n s, sbt n s ≤ n
  | 0, _ => Nat.le_refl _
  | n + 1, s => by have := sbt_le n (s / 2); show s % 2 + sbt n (s / 2) ≤ n + 1; omega
theorem sbt_a : ∀ (n s : Nat), 0 < s → s < 2 ^ n → sbt n (s &&& (s - 1)) + 1 = sbt n s
  | 0, s, h0, h1 => by
    have h2 : s < 1 := h1
    omega
  | n + 1, s, h0, h1 => by
    have hd : (s &&& (s - 1)) / 2 = s / 2 &&& (s - 1) / 2 := Nat.and_div_two
    have hm : (s &&& (s - 1)) % 2 = 0 := by
      rcases Nat.mod_two_eq_zero_or_one (s &&& (s - 1)) with h2 | h2
      · exact h2
      · have h3 := Nat.and_mod_two_eq_one.mp h2
        omega
    show (s &&& (s - 1)) % 2 + sbt n ((s &&& (s - 1)) / 2) + 1 = s % 2 + sbt n (s / 2)
    rw [hd, hm]
    rw [Nat.pow_succ] at h1
    rcases Nat.mod_two_eq_zero_or_one s with e | e
    · have e1 : (s - 1) / 2 = s / 2 - 1 := by omega
      have ih := sbt_a n (s / 2) (by omega) (by omega)
      rw [e1]; omega
    · have e1 : (s - 1) / 2 = s / 2 := by omega
      rw [e1, Nat.and_self]; omega
def ssa (f : Nat → Int) (s : Nat) : Nat → Int
  | 0 => 0
  | i + 1 => ssa f s i + (if s / 2 ^ i % 2 = 1 then f i else 0)
def ssl : List Int → Nat → Int
  | [], _ => 0
  | h :: t, s => (if s % 2 = 1 then h else 0) + ssl t (s / 2)
theorem ssl_a (f : Nat → Int) (s : Nat) : ∀ c i : Nat, ssl (ssg f i c) (s / 2 ^ i) + ssa f s i = ssa f s (i + c)
  | 0, i => by show 0 + ssa f s i = ssa f s i; rw [Int.zero_add]
  | c + 1, i => by
    have ih := ssl_a f s c (i + 1)
    show (if s / 2 ^ i % 2 = 1 then f i else 0) + ssl (ssg f (i + 1) c) (s / 2 ^ i / 2) + ssa f s i = ssa f s (i + (c + 1))
    rw [show s / 2 ^ i / 2 = s / 2 ^ (i + 1) by rw [Nat.div_div_eq_div_mul, Nat.pow_succ], show i + (c + 1) = i + 1 + c by omega, ← ih]
    show _ = ssl _ _ + (ssa f s i + (if s / 2 ^ i % 2 = 1 then f i else 0))
    omega
theorem ssl_n (f : Nat → Int) (s c : Nat) : ssl (ssg f 0 c) s = ssa f s c := by
  have h := ssl_a f s c 0
  rw [Nat.pow_zero, Nat.div_one, Nat.zero_add] at h
  have h0 : ssa f s 0 = 0 := rfl
  omega
def scn (g : Nat → Bool) : Nat → Nat
  | 0 => 0
  | m + 1 => scn g m + (if g m = true then 1 else 0)
theorem scn_le (g : Nat → Bool) : ∀ m, scn g m ≤ m
  | 0 => Nat.le_refl _
  | m + 1 => by have := scn_le g m; show scn g m + (if g m = true then 1 else 0) ≤ m + 1; split <;> omega
theorem scn_f : ∀ m, scn (fun _ => false) m = 0
  | 0 => rfl
  | m + 1 => by show scn _ m + 0 = 0; rw [scn_f m]
theorem scn_2 (g : Nat → Bool) : ∀ m, scn g (2 * m) = scn (fun s => g (2 * s)) m + scn (fun s => g (2 * s + 1)) m
  | 0 => rfl
  | m + 1 => by
    show scn g (2 * m) + (if g (2 * m) = true then 1 else 0) + (if g (2 * m + 1) = true then 1 else 0) = (scn (fun s => g (2 * s)) m + (if g (2 * m) = true then 1 else 0)) + (scn (fun s => g (2 * s + 1)) m + (if g (2 * m + 1) = true then 1 else 0))
    rw [scn_2 g m]; omega
def sgl (l : List Int) (k : Nat) (s0 : Int) (s : Nat) : Bool := decide (sbt l.length s = k ∧ s0 ≤ ssl l s)
theorem scn_l : ∀ (l : List Int) (k : Nat) (s0 : Int), scn (sgl l k s0) (2 ^ l.length) = sct l k s0
  | [], k, s0 => by
    show 0 + (if sgl [] k s0 0 = true then 1 else 0) = if k = 0 ∧ s0 ≤ 0 then 1 else 0
    by_cases e : k = 0 ∧ s0 ≤ 0
    · have q : sgl [] k s0 0 = true := decide_eq_true (show (0 : Nat) = k ∧ s0 ≤ (0 : Int) from ⟨e.1.symm, e.2⟩)
      rw [if_pos e, if_pos q]
    · have q : ¬ sgl [] k s0 0 = true := fun z => e (by have y : (0 : Nat) = k ∧ s0 ≤ (0 : Int) := of_decide_eq_true z; exact ⟨y.1.symm, y.2⟩)
      rw [if_neg e, if_neg q]
  | h :: t, k, s0 => by
    have e0 : (fun s => sgl (h :: t) k s0 (2 * s)) = sgl t k s0 := by
      funext s
      refine decide_eq_decide.mpr ?_
      show ((2 * s) % 2 + sbt t.length (2 * s / 2) = k ∧ s0 ≤ (if (2 * s) % 2 = 1 then h else 0) + ssl t (2 * s / 2)) ↔ _
      rw [show 2 * s / 2 = s by omega, show (2 * s) % 2 = 0 by omega, if_neg (by decide)]
      constructor <;> rintro ⟨z1, z2⟩ <;> exact ⟨by omega, by omega⟩
    show scn (sgl (h :: t) k s0) (2 ^ (t.length + 1)) = _
    rw [show 2 ^ (t.length + 1) = 2 * 2 ^ t.length by rw [Nat.pow_succ]; omega, scn_2, e0]
    cases k with
    | zero =>
      have e1 : (fun s => sgl (h :: t) 0 s0 (2 * s + 1)) = fun _ => false := by
        funext s
        refine decide_eq_false ?_
        show ¬ ((2 * s + 1) % 2 + sbt t.length ((2 * s + 1) / 2) = 0 ∧ _)
        rintro ⟨z1, _⟩; omega
      rw [e1, scn_f, scn_l t 0 s0]; rfl
    | succ k =>
      have e1 : (fun s => sgl (h :: t) (k + 1) s0 (2 * s + 1)) = sgl t k (s0 - h) := by
        funext s
        refine decide_eq_decide.mpr ?_
        show ((2 * s + 1) % 2 + sbt t.length ((2 * s + 1) / 2) = k + 1 ∧ s0 ≤ (if (2 * s + 1) % 2 = 1 then h else 0) + ssl t ((2 * s + 1) / 2)) ↔ _
        rw [show (2 * s + 1) / 2 = s by omega, show (2 * s + 1) % 2 = 1 by omega, if_pos rfl]
        constructor <;> rintro ⟨z1, z2⟩ <;> exact ⟨by omega, by omega⟩
      rw [e1, scn_l t, scn_l t]
      show _ = sct t k (s0 - h) + sct t (k + 1) s0
      omega
/-! bits of an int -/
theorem and_tI {x y : Int32} {a b : Nat} (hx : x.toInt = (a : Int)) (hy : y.toInt = (b : Int)) : (x &&& y).toInt = ((a &&& b : Nat) : Int) := by
  have h0 : (0 : Int32).toInt = 0 := rfl
  obtain ⟨a', ha, rfl⟩ := nI_of (x := x) (by rw [Int32.lt_iff_toInt_lt]; omega)
  obtain ⟨b', hb, rfl⟩ := nI_of (x := y) (by rw [Int32.lt_iff_toInt_lt]; omega)
  rw [nI_toInt ha] at hx
  rw [nI_toInt hb] at hy
  have e1 : a' = a := by omega
  have e2 : b' = b := by omega
  subst e1 e2
  have h1 : a' &&& b' ≤ a' := Nat.and_le_left
  rw [and_nI, nI_toInt (by omega)]
theorem sh_l : ∀ n, n < 32 → ((nI n &&& 31).toBitVec.smod 32).toNat = n := by decide +kernel
theorem sh_p : ∀ n, n < 17 → ((Int32.ofInt 1) <<< (nI n &&& 31)).toInt = ((2 ^ n : Nat) : Int) := by decide +kernel
theorem shr_tI {x y : Int32} {s k : Nat} (hx : x.toInt = (s : Int)) (hy : y.toInt = (k : Int)) (hk : k < 32) : (x >>> (y &&& 31)).toInt = ((s / 2 ^ k : Nat) : Int) := by
  have h0 : (0 : Int32).toInt = 0 := rfl
  obtain ⟨a', ha, rfl⟩ := nI_of (x := x) (by rw [Int32.lt_iff_toInt_lt]; omega)
  obtain ⟨b', hb, rfl⟩ := nI_of (x := y) (by rw [Int32.lt_iff_toInt_lt]; omega)
  rw [nI_toInt ha] at hx
  rw [nI_toInt hb] at hy
  have e1 : a' = s := by omega
  have e2 : b' = k := by omega
  subst e1 e2
  have hd : a' / 2 ^ b' ≤ a' := Nat.div_le_self _ _
  rw [pk_shrN ha _ b' (sh_l b' hk), nI_toInt (by omega)]
theorem shp_tI {y : Int32} {n : Nat} (hy : y.toInt = (n : Int)) (hn : n < 17) : ((Int32.ofInt 1) <<< (y &&& 31)).toInt = ((2 ^ n : Nat) : Int) := by
  have h0 : (0 : Int32).toInt = 0 := rfl
  obtain ⟨b', hb, rfl⟩ := nI_of (x := y) (by rw [Int32.lt_iff_toInt_lt]; omega)
  rw [nI_toInt hb] at hy
  have e2 : b' = n := by omega
  subst e2
  exact sh_p b' hn
theorem incB {x : Int32} {i : Nat} (hx : x.toInt = (i : Int)) (hi : i < 1000000) : (x + Int32.ofInt 1).toInt = ((i + 1 : Nat) : Int) := by rw [t_add hx k_1 (by omega)]; omega
theorem p16 {n : Nat} (h : n ≤ 16) : 2 ^ n ≤ 65536 := Nat.le_trans (Nat.pow_le_pow_right (by decide) h) (by decide)
/-! the reference -/
section RSPL
variable {N : Nat} {O : WO} {I : WI} {J : WJ} {a : Nat}
theorem r_bits {x0 : Int32} {n s : Nat} (hN : 20 ≤ N) (hx : x0.toInt = (s : Int)) (hs : s < 2 ^ n) (hn : n ≤ 16) {Q : Int32 → Prop} (hQ : ∀ z : Int32, z.toInt = (sbt n s : Int) → Q z) : Wp (F_Mo_bits N O I J x0) Q := by
  unfold F_Mo_bits
  have h16 := p16 hn
  have main : ∀ (m : Nat) (v1 v2 : Int32) (c s' : Nat), v1.toInt = (c : Int) → v2.toInt = (s' : Int) → s' < 2 ^ n → c + sbt n s' = sbt n s → sbt n s' < m → Wp (lp (B_Mo_bits_4 N O) (fun _ _ => none) m v1 v2) Q := by
    intro m
    induction m with
    | zero => intro v1 v2 c s' _ _ _ _ h; omega
    | succ m ih =>
      intro v1 v2 c s' h1 h2 h3 h4 h5
      show Wp (B_Mo_bits_4 N O (lp (B_Mo_bits_4 N O) (fun _ _ => none) m) v1 v2) Q
      unfold B_Mo_bits_4
      have hb := sbt_le n s
      by_cases e : s' = 0
      · refine Wp.pos (by omega) (Wp.ret (hQ _ ?_))
        rw [e, sbt_z] at h4
        rw [h1]; omega
      · have q := sbt_a n s' (by omega) h3
        have hl : s' &&& (s' - 1) ≤ s' := Nat.and_le_left
        refine Wp.neg (by omega) (Wp.lb (Wp.lb (ih _ _ (c + 1) (s' &&& (s' - 1)) (incB h1 (by omega)) (and_tI h2 ?_) (by omega) (by omega) (by omega))))
        rw [t_sub h2 k_1 (by omega)]; omega
  exact main N _ x0 0 s k_0 hx hs (by omega) (by have := sbt_le n s; omega)
theorem ssa_b {f : Nat → Int} {s n : Nat} (hf : ∀ k, k < n → 0 ≤ f k ∧ f k ≤ 999) : ∀ i, i ≤ n → 0 ≤ ssa f s i ∧ ssa f s i ≤ 999 * (i : Int)
  | 0, _ => ⟨Int.le_refl _, Int.le_refl _⟩
  | i + 1, h => by
    have ih := ssa_b (s := s) hf i (by omega)
    have := hf i (by omega)
    show 0 ≤ ssa f s i + (if s / 2 ^ i % 2 = 1 then f i else 0) ∧ ssa f s i + (if s / 2 ^ i % 2 = 1 then f i else 0) ≤ 999 * ((i + 1 : Nat) : Int)
    split <;> omega
/-- the numbers of a try in the reference's order -/
def tol (I : WI) (O : WO) (a r0 : Nat) (k : Nat) : Int := (I (rf O a 34) (if k < r0 then k else 8 + k - r0)).toInt
theorem r_sumSet {x1 v2 x3 x4 : Int32} {r0 n s : Nat} {k125 : Int32 → Option Int32} {Q : Int32 → Prop} (hN : 20 ≤ N) (h0 : (I (rf O a 33) 0).toInt = (r0 : Int)) (hr : r0 ≤ 8) (hr0 : r0 ≤ n) (hn : n ≤ r0 + 8) (hv : v2.toInt = (n : Int)) (hx4 : x4.toInt = (s : Int)) (hf : ∀ k, k < n → 0 ≤ tol I O a r0 k ∧ tol I O a r0 k ≤ 999)
    (hk : ∀ y : Int32, y.toInt = ssa (tol I O a r0) s n → Wp (jn (fun (s0 : Int32) => lb (x3 + s0) fun v3 => k125 v3) fun k => if y.toInt < x1.toInt then k (Int32.ofInt 0) else k (Int32.ofInt 1)) Q) : Wp (lp (B_Mo_splitsFrom_50 N O a x1 I v2 x3 x4 k125) (fun _ _ => none) N (Int32.ofInt 0) (Int32.ofInt 0)) Q := by
  refine forS (n := n) (fun i y => y.toInt = ssa (tol I O a r0) s i) (by omega) k_0 ?_ ?_
  · intro rec y x i hx hi hy kk
    unfold B_Mo_splitsFrom_50
    refine Wp.neg (by omega) ?_
    have bA := ssa_b (s := s) hf i (by omega)
    have bi := hf i hi
    have eb : ((x4 >>> (x &&& 31)) &&& Int32.ofInt 1).toInt = ((s / 2 ^ i % 2 : Nat) : Int) := by
      rw [and_tI (b := 1) (shr_tI hx4 hx (by omega)) k_1, Nat.and_one_is_mod]
    have go : ∀ y' : Int32, y'.toInt = ssa (tol I O a r0) s (i + 1) → Wp (lb (x + Int32.ofInt 1) fun v6 => rec y' v6) Q := fun y' hy' => Wp.lb (kk y' _ (incB hx (by omega)) hy')
    refine Wp_jq (fun k => ∀ y' : Int32, y'.toInt = ssa (tol I O a r0) s (i + 1) → Wp (k y') Q) go (fun k105 hk105 => ?_)
    have eS : ssa (tol I O a r0) s (i + 1) = ssa (tol I O a r0) s i + (if s / 2 ^ i % 2 = 1 then tol I O a r0 i else 0) := rfl
    by_cases c : s / 2 ^ i % 2 = 1
    · rw [if_pos c] at eS
      refine Wp.pos (by rw [eb, c]; rfl) ?_
      have pl : ∀ s0 : Int32, s0.toInt = ((if i < r0 then i else 8 + i - r0 : Nat) : Int) → Wp (if 0 ≤ s0.toInt ∧ s0.toInt < 16 then (lb (y + I (rf O a 34) s0.toInt.toNat) fun v5 => k105 v5) else none) Q := fun s0 hs0 => by
        have e0 : s0.toInt.toNat = (if i < r0 then i else 8 + i - r0) := by rw [hs0]; rfl
        refine Wp.pos (by rw [hs0]; split <;> omega) (Wp.lb (hk105 _ ?_))
        rw [eS, e0]
        exact t_add hy rfl (by show _ ≤ _ + tol I O a r0 i ∧ _ + tol I O a r0 i < _; omega)
      refine Wp.jn ?_
      by_cases c2 : i < r0
      · refine Wp.neg (by omega) (pl _ ?_)
        rw [if_pos c2]; exact hx
      · refine Wp.pos (by omega) (pl _ ?_)
        rw [if_neg c2, t_sub (t_add (ofI (by decide)) hx (by omega)) h0 (by omega)]
        omega
    · rw [if_neg c, Int.add_zero] at eS
      exact Wp.neg (by rw [eb]; omega) (hk105 _ (by rw [eS]; exact hy))
  · intro rec y x hx hy
    unfold B_Mo_splitsFrom_50
    exact Wp.pos (by omega) (hk y hy)
theorem r_splitsFrom {x1 : Int32} {r0 r1 : Nat} {s0 : Int} {Q : Int32 → Prop} (hN : 100000 ≤ N) (h0 : (I (rf O a 33) 0).toInt = (r0 : Int)) (h1 : (I (rf O a 33) 1).toInt = (r1 : Int)) (hr0 : r0 ≤ 8) (hr1 : r1 ≤ 8) (hx1 : x1.toInt = s0) (hb : ∀ k, k < r0 + r1 → 0 ≤ tol I O a r0 k ∧ tol I O a r0 k ≤ 999)
    (hQ : ∀ z : Int32, z.toInt = (sct (ssg (tol I O a r0) 0 (r0 + r1)) r1 s0 : Int) → Q z) : Wp (F_Mo_splitsFrom N O I J a x1) Q := by
  unfold F_Mo_splitsFrom
  have hv : (I (rf O a 33) 0 + I (rf O a 33) 1).toInt = ((r0 + r1 : Nat) : Int) := by rw [t_add h0 h1 (by omega)]; omega
  refine Wp.lb ?_
  generalize hv2 : I (rf O a 33) 0 + I (rf O a 33) 1 = v2 at hv
  have h16 : 2 ^ (r0 + r1) ≤ 65536 := p16 (by omega)
  have hl : (ssg (tol I O a r0) 0 (r0 + r1)).length = r0 + r1 := ssg_len _ _ _
  have e2 := shp_tI hv (by omega)
  refine forS (n := 2 ^ (r0 + r1)) (fun i y => y.toInt = (scn (sgl (ssg (tol I O a r0) 0 (r0 + r1)) r1 s0) i : Int)) (by omega) k_0 ?_ ?_
  · intro rec y x i hx hi hy kk
    unfold B_Mo_splitsFrom_19
    refine Wp.neg (by rw [e2]; omega) (Wp.bd1 (r_bits (n := r0 + r1) (s := i) (by omega) hx hi (by omega) (fun z hz => ?_)))
    have bs := scn_le (sgl (ssg (tol I O a r0) 0 (r0 + r1)) r1 s0) i
    have eG : scn (sgl (ssg (tol I O a r0) 0 (r0 + r1)) r1 s0) (i + 1) = scn (sgl (ssg (tol I O a r0) 0 (r0 + r1)) r1 s0) i + (if sgl (ssg (tol I O a r0) 0 (r0 + r1)) r1 s0 i = true then 1 else 0) := rfl
    have eT : sgl (ssg (tol I O a r0) 0 (r0 + r1)) r1 s0 i = decide (sbt (r0 + r1) i = r1 ∧ s0 ≤ ssa (tol I O a r0) i (r0 + r1)) := by
      unfold sgl; rw [hl, ssl_n]
    generalize scn (sgl (ssg (tol I O a r0) 0 (r0 + r1)) r1 s0) i = c at hy bs eG
    have go : ∀ y' : Int32, y'.toInt = (scn (sgl (ssg (tol I O a r0) 0 (r0 + r1)) r1 s0) (i + 1) : Int) → Wp (lb (x + Int32.ofInt 1) fun v4 => rec y' v4) Q := fun y' hy' => Wp.lb (kk y' _ (incB hx (by omega)) hy')
    refine Wp_jq (fun k => ∀ y' : Int32, y'.toInt = (scn (sgl (ssg (tol I O a r0) 0 (r0 + r1)) r1 s0) (i + 1) : Int) → Wp (k y') Q) go (fun k125 hk => ?_)
    by_cases cb : sbt (r0 + r1) i = r1
    · refine Wp.pos (by rw [hz, h1, cb]) (r_sumSet (n := r0 + r1) (s := i) (by omega) h0 hr0 (by omega) (by omega) hv hx hb (fun y' hy' => ?_))
      refine Wp.jn ?_
      by_cases c2 : s0 ≤ ssa (tol I O a r0) i (r0 + r1)
      · refine Wp.neg (by omega) (Wp.lb (hk _ ?_))
        rw [eG, eT, if_pos (decide_eq_true ⟨cb, c2⟩), t_add hy k_1 (by omega)]; omega
      · refine Wp.pos (by omega) (Wp.lb (hk _ ?_))
        rw [eG, eT, if_neg (fun z => c2 (of_decide_eq_true z).2), t_add hy k_0 (by omega)]; omega
    · refine Wp.neg (by rw [hz, h1]; omega) (hk _ ?_)
      rw [eG, eT, if_neg (fun z => cb (of_decide_eq_true z).1), hy]; omega
  · intro rec y x hx hy
    unfold B_Mo_splitsFrom_19
    refine Wp.pos (by rw [e2]; omega) (Wp.ret (hQ y ?_))
    have q := scn_l (ssg (tol I O a r0) 0 (r0 + r1)) r1 s0
    rw [hl] at q
    rw [hy, q]
end RSPL
