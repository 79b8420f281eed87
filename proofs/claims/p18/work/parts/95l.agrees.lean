/-! what was seen, and the starts that agree with it -/
abbrev SQs : Type := (Nat → Int) × (Nat → Int) × (Nat → Int) × (Nat → Int)
def exT (h l o : Int) : Int := if h = l then o else if h = o then l else h
def hrT (s : SQs) (l o : Int) (k : Nat) : Int := if s.2.1 k < 2 then s.1 k else exT (s.1 k) l o
def okT (M : MM) (c : CO) (s : SQs) (l o : Int) (st k : Nat) : Prop := -(s.2.2.2 k) ≤ TT M c st (hrT s l o k).toNat (s.2.1 k).toNat - s.2.2.1 k ∧ TT M c st (hrT s l o k).toNat (s.2.1 k).toNat - s.2.2.1 k ≤ s.2.2.2 k
def okB (M : MM) (c : CO) (s : SQs) (l o : Int) (st k : Nat) : Bool := decide (-(s.2.2.2 k) ≤ TT M c st (hrT s l o k).toNat (s.2.1 k).toNat - s.2.2.1 k) && decide (TT M c st (hrT s l o k).toNat (s.2.1 k).toNat - s.2.2.1 k ≤ s.2.2.2 k)
theorem okB_t {M : MM} {c : CO} {s : SQs} {l o : Int} {st k : Nat} : okB M c s l o st k = true ↔ okT M c s l o st k := by
  unfold okB okT; simp
def agB (M : MM) (c : CO) (s : SQs) (l o : Int) (st : Nat) : Nat → Bool
  | 0 => true
  | k + 1 => agB M c s l o st k && okB M c s l o st k
theorem agB_t {M : MM} {c : CO} {s : SQs} {l o : Int} {st : Nat} : ∀ n, agB M c s l o st n = true ↔ ∀ k, k < n → okT M c s l o st k
  | 0 => ⟨fun _ k hk => absurd hk (Nat.not_lt_zero _), fun _ => rfl⟩
  | n + 1 => by
    show (agB M c s l o st n && okB M c s l o st n) = true ↔ _
    rw [Bool.and_eq_true, agB_t n, okB_t]
    refine ⟨fun h k hk => ?_, fun h => ⟨fun k hk => h k (by omega), h n (by omega)⟩⟩
    by_cases e : k = n
    · rw [e]; exact h.2
    · exact h.1 k (by omega)
/-- bounds of what was seen -/
def SNb (s : SQs) (n : Nat) (z : Int) : Prop := n ≤ 24 ∧ ∀ k, k < n → (0 ≤ s.1 k ∧ s.1 k ≤ 11) ∧ (0 ≤ s.2.1 k ∧ s.2.1 k ≤ 1 + z) ∧ (0 ≤ s.2.2.1 k ∧ s.2.2.1 k ≤ 999999) ∧ 0 ≤ s.2.2.2 k ∧ s.2.2.2 k ≤ 999
theorem hrT_id {s : SQs} {k : Nat} (h : 0 ≤ s.1 k) {l : Int} (hl : l = 0 ∨ l = -1) : hrT s l l k = s.1 k := by
  unfold hrT exT
  split
  · rfl
  · split
    · omega
    · rfl
theorem agB_id {M : MM} {c : CO} {s : SQs} {st n : Nat} {z : Int} (hs : SNb s n z) : agB M c s 0 0 st n = agB M c s (-1) (-1) st n := by
  have e : ∀ j, j ≤ n → agB M c s 0 0 st j = agB M c s (-1) (-1) st j := by
    intro j
    induction j with
    | zero => intro _; rfl
    | succ j ih =>
      intro hj
      show (agB M c s 0 0 st j && okB M c s 0 0 st j) = (agB M c s (-1) (-1) st j && okB M c s (-1) (-1) st j)
      rw [ih (by omega)]
      unfold okB
      have h := (hs.2 j (by omega)).1.1
      rw [hrT_id h (Or.inl rfl), hrT_id h (Or.inr rfl)]
  exact e n (Nat.le_refl _)
theorem hrT_b {s : SQs} {n k : Nat} {z l o : Int} (hs : SNb s n z) (hk : k < n) (hl : (-1 ≤ l ∧ l ≤ 11) ∧ -1 ≤ o ∧ o ≤ 11) (hlo : (0 ≤ l ∧ 0 ≤ o) ∨ (l = -1 ∧ o = -1)) : 0 ≤ hrT s l o k ∧ hrT s l o k ≤ 11 := by
  have h := (hs.2 k hk).1
  unfold hrT exT
  split
  · exact h
  · split
    · omega
    · split <;> omega
theorem TT_b {M : MM} {c : CO} {st h w : Nat} (hM : MB M) (hc : CV M c) (hst : st < 100) (hh : h < 12) (hw : w < 7) : 0 ≤ TT M c st h w ∧ TT M c st h w ≤ 10000 := by
  have hS := bsT_SI hM hst
  have i0 := tj_I hM hc hS.1 hS.2 h (by omega)
  obtain ⟨b1, b2, b3, b4, b5, b6⟩ := HH_b hM i0.1 (hc h hh)
  have fb := hT_b hM i0.1 (hc h hh)
  unfold TT vT
  split
  · show 0 ≤ max (M.1 1 - M.1 1 * fullT M (c h).1 (c h).2.2 (tj M c (bsT M st) h) / M.1 0) 0 ∧ max (M.1 1 - M.1 1 * fullT M (c h).1 (c h).2.2 (tj M c (bsT M st) h) / M.1 0) 0 ≤ 10000
    have m1 := hM.2.1
    have p := mulb m1.1 m1.2 fb.2.1 fb.2.2
    have q : 0 ≤ M.1 1 * fullT M (c h).1 (c h).2.2 (tj M c (bsT M st) h) / M.1 0 := Int.ediv_nonneg p.1 (by have := hM.1; omega)
    omega
  · split
    · show 0 ≤ pwT M (c h).1 (c h).2.2 (tj M c (bsT M st) h) ∧ pwT M (c h).1 (c h).2.2 (tj M c (bsT M st) h) ≤ 10000
      omega
    · have k5 : w - 2 < 5 := by omega
      have e : tj M c (bsT M st) (h + 1) (8 + w) = paT M (c h).1 (c h).2.1 (c h).2.2 (tj M c (bsT M st) h) (w - 2) := by
        show HH M (c h).1 (c h).2.1 (c h).2.2 (tj M c (bsT M st) h) (8 + w) = _
        unfold HH
        rw [if_neg (by omega), if_neg (by omega), if_pos (by omega), show 8 + w - 10 = w - 2 by omega]
      rw [e]
      have q := fun j hj => (b1 j hj).2.2
      have q1 := fun j hj => (b1 j hj).1
      have q2 := fun j hj => (b1 j hj).2.1
      have l1 := s5_le q k5
      have l2 := Int.le_trans (q1 0 (by decide)) (s5_le q1 (show 0 < 5 by decide))
      have l3 := Int.le_trans (q2 0 (by decide)) (s5_le q2 (show 0 < 5 by decide))
      have l4 := q _ k5
      have l5 := fb.2.2
      omega
theorem forI {ρ : Type} {N n : Nat} {B : (Int32 → Option ρ) → Int32 → Option ρ} {z : Int32 → Option ρ} {Q : ρ → Prop} (Inv : Nat → Prop) (hn : n < N) (h0 : Inv 0)
    (step : ∀ (rec : Int32 → Option ρ) (x : Int32) (i : Nat), x.toInt = (i : Int) → i < n → Inv i → (∀ (v : Int32), v.toInt = ((i + 1 : Nat) : Int) → Inv (i + 1) → Wp (rec v) Q) → Wp (B rec x) Q)
    (fin : ∀ (rec : Int32 → Option ρ) (x : Int32), x.toInt = (n : Int) → Inv n → Wp (B rec x) Q) : Wp (lp B z N (Int32.ofInt 0)) Q := by
  have main : ∀ (m i : Nat) (x : Int32), x.toInt = (i : Int) → i ≤ n → n - i < m → Inv i → Wp (lp B z m x) Q := by
    intro m
    induction m with
    | zero => intro i x _ _ h; omega
    | succ m ih =>
      intro i x hx hi hm hI
      show Wp (B (lp B z m) x) Q
      by_cases e : i = n
      · subst e; exact fin _ x hx hI
      · exact step _ x i hx (by omega) hI (fun v hv h2 => ih (i + 1) v hv (by omega) (by omega) h2)
  exact main N 0 _ (ofI (by decide)) (by omega) (by omega) h0
theorem scn_ex {p : Nat → Bool} : ∀ n i : Nat, i < scn p n → ∃ st, st < n ∧ p st = true ∧ scn p st = i
  | 0, i, h => absurd h (Nat.not_lt_zero _)
  | n + 1, i, h => by
    have h' : i < scn p n + (if p n = true then 1 else 0) := h
    by_cases e : i < scn p n
    · obtain ⟨st, a, b, c⟩ := scn_ex n i e
      exact ⟨st, by omega, b, c⟩
    · by_cases q : p n = true
      · rw [if_pos q] at h'; exact ⟨n, by omega, q, by omega⟩
      · rw [if_neg q] at h'; omega
theorem scn_0 {p : Nat → Bool} : ∀ n : Nat, scn p n = 0 ↔ ∀ st, st < n → p st = false
  | 0 => ⟨fun _ st h => absurd h (Nat.not_lt_zero _), fun _ => rfl⟩
  | n + 1 => by
    show scn p n + (if p n = true then 1 else 0) = 0 ↔ _
    refine ⟨fun h st hst => ?_, fun h => ?_⟩
    · by_cases e : st = n
      · subst e
        cases hp : p st with
        | true => rw [hp, if_pos rfl] at h; omega
        | false => rfl
      · exact (scn_0 n).mp (by omega) st (by omega)
    · rw [(scn_0 n).mpr (fun st hst => h st (by omega)), h n (by omega)]; rfl
/-- what a class's sight holds of what was seen -/
def CSn (I : WI) (O : WO) (s : Nat) (q : SQs) (n : Nat) : Prop := (I s 4).toInt = (n : Int) ∧ ∀ k, k < n → (I (rf O s 0) k).toInt = q.1 k ∧ (I (rf O s 1) k).toInt = q.2.1 k ∧ (I (rf O s 2) k).toInt = q.2.2.1 k ∧ (I (rf O s 3) k).toInt = q.2.2.2 k
def RSn (I : WI) (O : WO) (a : Nat) (q : SQs) (n : Nat) : Prop := (I a 23).toInt = (n : Int) ∧ ∀ k, k < n → (I (rf O a 24) k).toInt = q.1 k ∧ (I (rf O a 25) k).toInt = q.2.1 k ∧ (I (rf O a 26) k).toInt = q.2.2.1 k ∧ (I (rf O a 27) k).toInt = q.2.2.2 k
section AGREES
variable {N : Nat} {O : WO} {I : WI} {J : WJ} {M : MM} {c : CO} {q : SQs} {n : Nat} {s g a : Nat} {l o : Int}
theorem c_agrees {x2 x3 x4 : Int32} {st : Nat} {Q : Int32 → Prop} (hN : 30 ≤ N) (hM : MB M) (hc : CV M c) (hs : CSn I O s q n) (hb : SNb q n (M.1 7)) (ht : ∀ h, h < 12 → ∀ w, w < 7 → (I (rf O g 0) (84 * st + 7 * h + w)).toInt = TT M c st h w) (h2 : x2.toInt = (st : Int)) (hst : st < 100) (h3 : x3.toInt = l) (h4 : x4.toInt = o) (hl : (0 ≤ l ∧ l ≤ 11) ∧ 0 ≤ o ∧ o ≤ 11)
    (hQ : ∀ z : Int32, z.toInt = (if agB M c q l o st n = true then 1 else 0) → Q z) : Wp (F_Si_agrees N O I J s g x2 x3 x4) Q := by
  have m7 := hM.2.2.2.2.2.2.1
  have n24 := hb.1
  unfold F_Si_agrees
  refine forI (n := n) (fun i => ∀ k, k < i → okT M c q l o st k) (by omega) (fun k hk => absurd hk (Nat.not_lt_zero _)) ?_ ?_
  · intro rec x i hx hi hv kk
    have ex : x.toInt.toNat = i := tn_i hx
    have G : 0 ≤ x.toInt ∧ x.toInt < 24 := by omega
    obtain ⟨s0, s1, s2, s3⟩ := hs.2 i hi
    obtain ⟨b0, b1, b2, b3⟩ := hb.2 i hi
    have hb' := hrT_b hb hi ⟨⟨by omega, hl.1.2⟩, by omega, hl.2.2⟩ (Or.inl ⟨hl.1.1, hl.2.1⟩)
    have hs0 := hs.1
    unfold B_Si_agrees_3
    rw [ex]
    refine Wp.neg (by omega) (Wp.neg (by omega) (Wp.pos G ?_))
    have go : ∀ y : Int32, y.toInt = hrT q l o i → Wp (if 0 ≤ x.toInt ∧ x.toInt < 24 then (bd1 (F_Gu_toldOf N O I J g x2 y (I (rf O s 1) i)) fun z_78 => if 0 ≤ x.toInt ∧ x.toInt < 24 then (if 0 ≤ x.toInt ∧ x.toInt < 24 then (if (abI (z_78 - I (rf O s 2) i)).toInt ≤ (I (rf O s 3) i).toInt then (lb (x + Int32.ofInt 1) fun v5_104 => rec v5_104) else (some (Int32.ofInt 0))) else none) else none) else none) Q := fun y hy => by
      have tb := TT_b hM hc hst (show (hrT q l o i).toNat < 12 by omega) (show (q.2.1 i).toNat < 7 by omega)
      rw [c_toldOf (st := st) (h := (hrT q l o i).toNat) (w := (q.2.1 i).toNat) h2 (by omega) (by omega) hst (by omega) (by omega)]
      have tv := ht (hrT q l o i).toNat (by omega) (q.2.1 i).toNat (by omega)
      refine Wp.pos G (Wp.bd1 (Wp.ret (Wp.pos G (Wp.pos G ?_))))
      have ab := ab_f (t_sub tv s2 (by omega)) (by omega)
      by_cases e : okT M c q l o st i
      · have e' := e
        unfold okT at e'
        refine Wp.pos (by rw [ab, s3]; split <;> omega) (Wp.lb (kk _ (inc1 hx (by omega)) (fun k hk => ?_)))
        by_cases ek : k = i
        · rw [ek]; exact e
        · exact hv k (by omega)
      · have e' := e
        unfold okT at e'
        refine Wp.neg (by rw [ab, s3]; split <;> omega) (Wp.ret (hQ _ ?_))
        rw [if_neg (fun z => e ((agB_t n).mp z i hi))]; exact k_0
    refine Wp_jq (fun k35 => ∀ y : Int32, ((q.2.1 i < 2 ∧ y.toInt = 0) ∨ (¬ q.2.1 i < 2 ∧ y.toInt = 1)) → Wp (k35 y) Q) (fun y hy => ?_) (fun k35 hk => ?_)
    · refine Wp_jq (fun k65 => ∀ y : Int32, y.toInt = hrT q l o i → Wp (k65 y) Q) go (fun k65 hk => ?_)
      by_cases e : q.2.1 i < 2
      · refine Wp.pos (by omega) (Wp.pos G (hk _ ?_))
        unfold hrT; rw [if_pos e]; exact s0
      · refine Wp.neg (by omega) (Wp.pos G (Wp.bd1 ?_))
        unfold F_Si_exchanged
        have eh : hrT q l o i = exT (q.1 i) l o := by unfold hrT; rw [if_neg e]
        unfold exT at eh
        by_cases e1 : q.1 i = l
        · rw [if_pos e1] at eh
          exact Wp.pos (by omega) (Wp.ret (hk _ (by rw [eh]; exact h4)))
        · rw [if_neg e1] at eh
          refine Wp.neg (by omega) ?_
          by_cases e2 : q.1 i = o
          · rw [if_pos e2] at eh
            exact Wp.pos (by omega) (Wp.ret (hk _ (by rw [eh]; exact h3)))
          · rw [if_neg e2] at eh
            exact Wp.neg (by omega) (Wp.ret (hk _ (by rw [eh]; exact s0)))
    · by_cases e : q.2.1 i < 2
      · exact Wp.pos (by omega) (hk _ (Or.inl ⟨e, k_0⟩))
      · exact Wp.neg (by omega) (hk _ (Or.inr ⟨e, k_1⟩))
  · intro rec x hx hv
    have hs0 := hs.1
    unfold B_Si_agrees_3
    refine Wp.pos (by omega) (Wp.ret (hQ _ ?_))
    rw [if_pos ((agB_t n).mpr hv)]; exact k_1
theorem c_anyAgrees {x2 x3 : Int32} {Q : Int32 → Prop} (hN : 200 ≤ N) (hM : MB M) (hc : CV M c) (hs : CSn I O s q n) (hb : SNb q n (M.1 7)) (ht : ∀ st, st < 100 → ∀ h, h < 12 → ∀ w, w < 7 → (I (rf O g 0) (84 * st + 7 * h + w)).toInt = TT M c st h w) (h3 : x2.toInt = l) (h4 : x3.toInt = o) (hl : (0 ≤ l ∧ l ≤ 11) ∧ 0 ≤ o ∧ o ≤ 11)
    (hQ : ∀ z : Int32, (z.toInt = 0 ↔ scn (fun st => agB M c q l o st n) 100 = 0) → Q z) : Wp (F_Si_anyAgrees N O I J s g x2 x3) Q := by
  unfold F_Si_anyAgrees
  refine forI (n := 100) (fun i => ∀ st, st < i → agB M c q l o st n = false) (by omega) (fun k hk => absurd hk (Nat.not_lt_zero _)) ?_ ?_
  · intro rec x i hx hi hv kk
    unfold B_Si_anyAgrees_3
    refine Wp.neg (by omega) (Wp.bd1 (c_agrees (st := i) (l := l) (o := o) (by omega) hM hc hs hb (ht i hi) hx hi h3 h4 hl (fun z hz => ?_)))
    cases e : agB M c q l o i n with
    | true =>
      rw [e, if_pos rfl] at hz
      refine Wp.neg (by omega) (Wp.ret (hQ _ ⟨fun h => absurd h (by rw [k_1]; decide), fun h => ?_⟩))
      have := (scn_0 100).mp h i hi
      (try dsimp only at this)
      rw [e] at this; cases this
    | false =>
      rw [e, if_neg (by decide)] at hz
      refine Wp.pos hz (Wp.lb (kk _ (inc1 hx (by omega)) (fun st hst => ?_)))
      by_cases e2 : st = i
      · rw [e2]; exact e
      · exact hv st (by omega)
  · intro rec x hx hv
    unfold B_Si_anyAgrees_3
    exact Wp.pos (by omega) (Wp.ret (hQ _ ⟨fun _ => (scn_0 100).mpr hv, fun _ => k_0⟩))
/-- a row of fits -/
def FTs (I : WI) (b : Nat) (p : Nat → Bool) (m : Nat) : Prop := ∀ st, st < m → p st = true → (I b (scn p st)).toInt = (st : Int)
/-- what a class's sight holds of the fits -/
def FTc (I : WI) (O : WO) (s : Nat) (M : MM) (c : CO) (q : SQs) (n : Nat) : Prop := ¬ (I s 7).toInt = 0 → (I s 6).toInt = (scn (fun st => agB M c q 0 0 st n) 100 : Int) ∧ FTs I (rf O s 5) (fun st => agB M c q 0 0 st n) 100
theorem c_siFits {Q : Int32 × WI → Prop} (hN : 200 ≤ N) (hM : MB M) (hc : CV M c) (hs : CSn I O s q n) (hb : SNb q n (M.1 7)) (ht : ∀ st, st < 100 → ∀ h, h < 12 → ∀ w, w < 7 → (I (rf O g 0) (84 * st + 7 * h + w)).toInt = TT M c st h w) (hf : FTc I O s M c q n) (n5 : ¬ rf O s 5 = s) (ng : ¬ rf O g 0 = s ∧ ¬ rf O g 0 = rf O s 5) (na : ∀ j, j < 4 → ¬ rf O s j = s ∧ ¬ rf O s j = rf O s 5)
    (hQ : ∀ (z : Int32) I', z.toInt = (scn (fun st => agB M c q 0 0 st n) 100 : Int) → ¬ (I' s 7).toInt = 0 → (I' s 6).toInt = (scn (fun st => agB M c q 0 0 st n) 100 : Int) → FTs I' (rf O s 5) (fun st => agB M c q 0 0 st n) 100 → I' s 4 = I s 4 → (∀ b, ¬ b = s → ¬ b = rf O s 5 → I' b = I b) → Q (z, I')) : Wp (F_Si_findFits N O I J s g) Q := by
  unfold F_Si_findFits
  by_cases fr : (I s 7).toInt = 0
  · refine Wp.pos fr (Wp_lb (fun I1 e1 => ?_))
    refine forU (n := 100) (fun i I2 => (I2 s 6).toInt = (scn (fun st => agB M c q 0 0 st n) i : Int) ∧ FTs I2 (rf O s 5) (fun st => agB M c q 0 0 st n) i ∧ I2 s 4 = I s 4 ∧ (∀ b, ¬ b = s → ¬ b = rf O s 5 → I2 b = I b)) (by omega) ⟨by rw [e1, up2_self]; exact k_0, fun st hst => absurd hst (Nat.not_lt_zero _), by rw [e1, up2_ne _ _ (fun z => absurd z.2 (by decide))], fun b b1 _ => by rw [e1, up2_row _ _ b1]⟩ ?_ ?_
    · intro rec x i I2 hx hi ⟨v1, v2, v3, v4⟩ kk
      have bl := scn_le (fun st => agB M c q 0 0 st n) i
      have eS : scn (fun st => agB M c q 0 0 st n) (i + 1) = scn (fun st => agB M c q 0 0 st n) i + (if agB M c q 0 0 i n = true then 1 else 0) := rfl
      have hs2 : CSn I2 O s q n := ⟨by rw [v3]; exact hs.1, fun k hk => by
        rw [v4 _ (na 0 (by decide)).1 (na 0 (by decide)).2, v4 _ (na 1 (by decide)).1 (na 1 (by decide)).2, v4 _ (na 2 (by decide)).1 (na 2 (by decide)).2, v4 _ (na 3 (by decide)).1 (na 3 (by decide)).2]; exact hs.2 k hk⟩
      unfold B_Si_findFits_14
      refine Wp.jn (Wp.neg (by omega) (Wp.neg (by omega) (Wp.bd1 (c_agrees (st := i) (l := 0) (o := 0) (by omega) hM hc hs2 hb (fun h hh w hw => by rw [v4 _ ng.1 ng.2]; exact ht i hi h hh w hw) hx hi k_0 k_0 (by decide) (fun z hz => ?_)))))
      refine Wp.jn ?_
      cases e : agB M c q 0 0 i n with
      | true =>
        rw [e, if_pos rfl] at hz
        rw [e, if_pos rfl] at eS
        refine Wp.neg (by omega) (Wp.pos (by omega) (Wp_lb (fun I4 x4 => Wp_lb (fun I5 x5 => Wp_lb (fun v ev => ?_)))))
        rw [tn_i v1] at x4
        have w6 : (I5 s 6).toInt = (scn (fun st => agB M c q 0 0 st n) (i + 1) : Int) := by
          rw [x5, up2_self, x4, up2_row _ _ (fun z => n5 z.symm), t_add v1 k_1 (by omega), eS]; omega
        refine kk v I5 (by rw [ev]; exact inc1 hx (by omega)) ⟨w6, fun st hst hp => ?_, by rw [x5, up2_ne _ _ (fun z => absurd z.2 (by decide)), x4, up2_row _ _ (fun z => n5 z.symm)]; exact v3, fun b b1 b2 => by rw [x5, up2_row _ _ b1, x4, up2_row _ _ b2]; exact v4 b b1 b2⟩
        rw [x5, up2_row _ _ n5, x4]
        by_cases e2 : st = i
        · subst e2; rw [up2_self]; exact hx
        · have lt : scn (fun st => agB M c q 0 0 st n) st < scn (fun st => agB M c q 0 0 st n) i := by
            have mono : ∀ m, st + 1 ≤ m → scn (fun st => agB M c q 0 0 st n) (st + 1) ≤ scn (fun st => agB M c q 0 0 st n) m := by
              intro m
              induction m with
              | zero => intro h; omega
              | succ m ih =>
                intro h
                by_cases e3 : st + 1 = m + 1
                · rw [e3]; exact Nat.le_refl _
                · have := ih (by omega)
                  show _ ≤ scn _ m + _
                  omega
            have q1 := mono i (by omega)
            have q2 : scn (fun st => agB M c q 0 0 st n) (st + 1) = scn (fun st => agB M c q 0 0 st n) st + (if agB M c q 0 0 st n = true then 1 else 0) := rfl
            rw [if_pos hp] at q2
            omega
          rw [up2_ne _ _ (fun z => by have := z.2; omega)]; exact v2 st (by omega) hp
      | false =>
        rw [e, if_neg (by decide)] at hz
        rw [e, if_neg (by decide)] at eS
        refine Wp.pos hz (Wp_lb (fun v ev => kk v I2 (by rw [ev]; exact inc1 hx (by omega)) ⟨by rw [v1, eS]; omega, fun st hst hp => ?_, v3, v4⟩))
        by_cases e2 : st = i
        · subst e2
          (try dsimp only at hp)
          rw [e] at hp; cases hp
        · exact v2 st (by omega) hp
    · intro rec x I2 hx ⟨v1, v2, v3, v4⟩
      unfold B_Si_findFits_14
      refine Wp.jn (Wp.pos (by omega) (Wp_lb (fun I3 x3 => Wp.ret ?_)))
      have f6 : I3 s 6 = I2 s 6 := by rw [x3, up2_ne _ _ (fun z => absurd z.2 (by decide))]
      refine hQ _ I3 (by rw [f6]; exact v1) (by rw [x3, up2_self, k_1]; decide) (by rw [f6]; exact v1) (fun st hst hp => by rw [x3, up2_row _ _ n5]; exact v2 st hst hp) (by rw [x3, up2_ne _ _ (fun z => absurd z.2 (by decide))]; exact v3) (fun b b1 b2 => by rw [x3, up2_row _ _ b1]; exact v4 b b1 b2)
  · obtain ⟨f1, f2⟩ := hf fr
    exact Wp.neg fr (Wp.ret (hQ _ I f1 fr f1 f2 rfl (fun _ _ _ => rfl)))
set_option maxHeartbeats 4000000 in
theorem r_agrees {x1 x2 x3 : Int32} {st : Nat} {Q : Int32 × WI → Prop} (hN : 40 ≤ N) (hM : MB M) (hc : CV M c) (hm : RMl I O (rf O a 3) M) (sr : SR O (rf O a 3) (rf O a 17)) (n20 : ¬ rf O a 20 = rf O a 17) (n21 : ¬ rf O a 21 = rf O a 17) (n22 : ¬ rf O a 22 = rf O a 17) (hp : PCr I O a c) (hs : RSn I O a q n) (hb : SNb q n (M.1 7)) (na : ¬ a = rf O a 17) (n2 : ∀ f, f = 24 ∨ f = 25 ∨ f = 26 ∨ f = 27 → ¬ rf O a f = rf O a 17) (h1 : x1.toInt = (st : Int)) (hst : st < 100) (h2 : x2.toInt = l) (h3 : x3.toInt = o) (hl : (-1 ≤ l ∧ l ≤ 11) ∧ -1 ≤ o ∧ o ≤ 11) (hlo : (0 ≤ l ∧ 0 ≤ o) ∨ (l = -1 ∧ o = -1))
    (hQ : ∀ (z : Int32) I', z.toInt = (if agB M c q l o st n = true then 1 else 0) → (∀ b, ¬ b = rf O a 17 → I' b = I b) → Q (z, I')) : Wp (F_Mo_agrees N O I J a x1 x2 x3) Q := by
  have m7 := hM.2.2.2.2.2.2.1
  have n24 := hb.1
  have d25 := (tdivF h1 (ofI (n := 25) (by decide)) (by decide)).1 (by omega)
  have d5 := (tdivF h1 (ofI (n := 5) (by decide)) (by decide)).1 (by omega)
  have d55 := (tdivF d5 (ofI (n := 5) (by decide)) (by decide)).1 (by omega)
  unfold F_Mo_agrees
  refine Wp.bd1 (r_begins (t := st / 25) (l := st / 5 % 5) (f := st % 5) (by omega) hM hm sr (by rw [d25]; omega) (by rw [t_sub d5 (t_mul d55 (ofI (n := 5) (by decide)) (by omega)) (by omega)]; omega) (by rw [t_sub h1 (t_mul d5 (ofI (n := 5) (by decide)) (by omega)) (by omega)]; omega) (by omega) (by omega) (by omega) (fun I1 a1 a2 => ?_))
  have hS := bsT_SI hM hst
  have a1' : ∀ k, k < 34 → (I1 (rf O a 17) k).toInt = tj M c (bsT M st) 0 k := fun k hk => a1 k (by omega)
  refine forU (n := 12) (fun i I2 => (∀ k, k < 34 → (I2 (rf O a 17) k).toInt = tj M c (bsT M st) i k) ∧ (∀ b, ¬ b = rf O a 17 → I2 b = I b) ∧ (∀ k, k < n → hrT q l o k < (i : Int) → okT M c q l o st k)) (by omega) ⟨a1', a2, fun k hk hh => by have := hrT_b hb hk hl hlo; omega⟩ ?_ ?_
  · intro rec x i I2 hx hi ⟨v1, v2, v3⟩ kk
    have tI := tj_I hM hc hS.1 hS.2 i (by omega)
    unfold B_Mo_agrees_23
    refine Wp.neg (by omega) (Wp.bd1 (r_byProgram (i := i) (by omega) hM hc tI.1 (hm.fr sr v2) sr n20 n21 n22 (fun h hh => by rw [v2 _ n20, v2 _ n21, v2 _ n22]; exact hp h hh) v1 hx hi (fun I3 g1 _ g2 => ?_)))
    have g1' : ∀ k, k < 34 → (I3 (rf O a 17) k).toInt = tj M c (bsT M st) (i + 1) k := g1
    have F3 : ∀ b, ¬ b = rf O a 17 → I3 b = I b := fun b hb2 => by rw [g2 b hb2]; exact v2 b hb2
    refine forI (n := n) (fun j => ∀ k, k < j → hrT q l o k = (i : Int) → okT M c q l o st k) (by omega) (fun k hk => absurd hk (Nat.not_lt_zero _)) ?_ ?_
    · intro rec2 y j hy hj w kk2
      have ey : y.toInt.toNat = j := tn_i hy
      have G : 0 ≤ y.toInt ∧ y.toInt < 24 := by omega
      obtain ⟨s0, s1, s2, s3⟩ := hs.2 j hj
      obtain ⟨b0, b1, b2, b3⟩ := hb.2 j hj
      have hbj := hrT_b hb hj hl hlo
      have q23 : (I3 a 23).toInt = (n : Int) := by rw [F3 a na]; exact hs.1
      unfold B_Mo_agrees_43
      refine Wp.neg (by omega) ?_
      have hh : ∃ z, F_Mo_hourOf N O I3 J a y x2 x3 = some z ∧ z.toInt = hrT q l o j := by
        unfold F_Mo_hourOf
        rw [if_pos G, ey]
        show ∃ z, (if 0 ≤ y.toInt ∧ y.toInt < 24 then (if 2 ≤ (I3 (rf O a 25) j).toInt then (if (I3 (rf O a 24) j).toInt = x2.toInt then some x3 else (if (I3 (rf O a 24) j).toInt = x3.toInt then some x2 else some (I3 (rf O a 24) j))) else some (I3 (rf O a 24) j)) else none) = some z ∧ _
        rw [if_pos G, F3 _ (n2 25 (by omega)), F3 _ (n2 24 (by omega))]
        unfold hrT exT
        by_cases e : q.2.1 j < 2
        · rw [if_neg (by omega), if_pos e]; exact ⟨_, rfl, s0⟩
        · rw [if_pos (by omega), if_neg e]
          by_cases e1 : q.1 j = l
          · rw [if_pos (by omega), if_pos e1]; exact ⟨_, rfl, h3⟩
          · rw [if_neg (by omega), if_neg e1]
            by_cases e2 : q.1 j = o
            · rw [if_pos (by omega), if_pos e2]; exact ⟨_, rfl, h2⟩
            · rw [if_neg (by omega), if_neg e2]; exact ⟨_, rfl, s0⟩
      obtain ⟨z57, w57, h57⟩ := hh
      rw [w57, ey]
      refine Wp.bd1 (Wp.ret ?_)
      refine Wp_jq (fun k => (hrT q l o j = (i : Int) → okT M c q l o st j) → Wp k Q) (fun hok => Wp.lb (kk2 _ (inc1 hy (by omega)) (fun k hk hk2 => ?_))) (fun k119 hk119 => ?_)
      · by_cases e : k = j
        · rw [e] at hk2 ⊢; exact hok hk2
        · exact w k (by omega) hk2
      · by_cases e : hrT q l o j = (i : Int)
        · refine Wp.pos (by omega) (Wp.pos G ?_)
          obtain ⟨zv, wv, hv⟩ := r_valueOf (N := N) (O := O) (I := I3) (J := J) (x1 := I3 (rf O a 25) j) (S := rf O a 17) (w := (q.2.1 j).toNat) (σ := tj M c (bsT M st) (i + 1)) (by rw [F3 _ (n2 25 (by omega)), s1]; omega) (by omega) g1'
          rw [wv]
          have tb := TT_b hM hc hst hi (show (q.2.1 j).toNat < 7 by omega)
          have hv' : zv.toInt = TT M c st i (q.2.1 j).toNat := hv
          have ok : okT M c q l o st j ↔ (-(q.2.2.2 j) ≤ TT M c st i (q.2.1 j).toNat - q.2.2.1 j ∧ TT M c st i (q.2.1 j).toNat - q.2.2.1 j ≤ q.2.2.2 j) := by
            unfold okT; rw [e, show ((i : Int)).toNat = i from rfl]
          refine Wp.bd1 (Wp.ret (Wp.pos G (Wp_lb (fun v6 e6 => Wp.pos G ?_))))
          have h6 : v6.toInt = TT M c st i (q.2.1 j).toNat - q.2.2.1 j := by rw [e6]; exact t_sub hv' (by rw [F3 _ (n2 26 (by omega))]; exact s2) (by omega)
          have h6n : (-v6).toInt = -(TT M c st i (q.2.1 j).toNat - q.2.2.1 j) := by rw [Int32.toInt_neg, h6, wr32]; omega
          have h27 : (I3 (rf O a 27) j).toInt = q.2.2.2 j := by rw [F3 _ (n2 27 (by omega))]; exact s3
          have bad : ¬ okT M c q l o st j → Wp (some (Int32.ofInt 0, I3)) Q := fun hn => Wp.ret (hQ _ I3 (by rw [if_neg (fun z => hn ((agB_t n).mp z j hj))]; exact k_0) F3)
          by_cases c1 : q.2.2.2 j < TT M c st i (q.2.1 j).toNat - q.2.2.1 j
          · exact Wp.pos (by omega) (bad (fun z => by have := ok.mp z; omega))
          · refine Wp.neg (by omega) (Wp.pos G ?_)
            by_cases c2 : -(TT M c st i (q.2.1 j).toNat - q.2.2.1 j) ≤ q.2.2.2 j
            · exact Wp.pos (by omega) (hk119 (fun _ => ok.mpr ⟨by omega, by omega⟩))
            · exact Wp.neg (by omega) (bad (fun z => by have := ok.mp z; omega))
        · exact Wp.neg (by omega) (hk119 (fun z => absurd z e))
    · intro rec2 y hy w
      have q23 : (I3 a 23).toInt = (n : Int) := by rw [F3 a na]; exact hs.1
      unfold B_Mo_agrees_43
      refine Wp.pos (by omega) (Wp.lb (kk _ I3 (inc1 hx (by omega)) ⟨g1', F3, fun k hk hh => ?_⟩))
      by_cases e : hrT q l o k = (i : Int)
      · exact w k hk e
      · exact v3 k hk (by omega)
  · intro rec x I2 hx ⟨v1, v2, v3⟩
    unfold B_Mo_agrees_23
    refine Wp.pos (by omega) (Wp.ret (hQ _ I2 ?_ v2))
    rw [if_pos ((agB_t n).mpr (fun k hk => v3 k hk (by have := hrT_b hb hk hl hlo; omega)))]; exact k_1
theorem r_allFits {x1 x2 : Int32} {Q : Int32 × WI → Prop} (hN : 200 ≤ N) (hM : MB M) (hc : CV M c) (hm : RMl I O (rf O a 3) M) (sr : SR O (rf O a 3) (rf O a 17)) (sr2 : SR O (rf O a 3) (rf O a 28)) (n20 : ¬ rf O a 20 = rf O a 17) (n21 : ¬ rf O a 21 = rf O a 17) (n22 : ¬ rf O a 22 = rf O a 17) (m2 : ∀ f, f = 20 ∨ f = 21 ∨ f = 22 ∨ f = 24 ∨ f = 25 ∨ f = 26 ∨ f = 27 → ¬ rf O a f = rf O a 28) (n28 : ¬ rf O a 28 = rf O a 17) (hp : PCr I O a c) (hs : RSn I O a q n) (hb : SNb q n (M.1 7)) (na : ¬ a = rf O a 17) (na2 : ¬ a = rf O a 28) (n2 : ∀ f, f = 24 ∨ f = 25 ∨ f = 26 ∨ f = 27 → ¬ rf O a f = rf O a 17) (h2 : x1.toInt = l) (h3 : x2.toInt = o) (hl : (-1 ≤ l ∧ l ≤ 11) ∧ -1 ≤ o ∧ o ≤ 11) (hlo : (0 ≤ l ∧ 0 ≤ o) ∨ (l = -1 ∧ o = -1))
    (hQ : ∀ (z : Int32) I', z.toInt = (scn (fun st => agB M c q l o st n) 100 : Int) → FTs I' (rf O a 28) (fun st => agB M c q l o st n) 100 → (∀ b, ¬ b = rf O a 17 → ¬ b = rf O a 28 → I' b = I b) → Q (z, I')) : Wp (F_Mo_allFits N O I J a x1 x2) Q := by
  unfold F_Mo_allFits
  refine forD (n := 100) (fun i y I1 => y.toInt = (scn (fun st => agB M c q l o st n) i : Int) ∧ FTs I1 (rf O a 28) (fun st => agB M c q l o st n) i ∧ (∀ b, ¬ b = rf O a 17 → ¬ b = rf O a 28 → I1 b = I b)) (by omega) ⟨k_0, fun st hst => absurd hst (Nat.not_lt_zero _), fun _ _ _ => rfl⟩ ?_ ?_
  · intro rec y x i I1 hx hi ⟨v1, v2, v3⟩ kk
    have bl := scn_le (fun st => agB M c q l o st n) i
    have eS : scn (fun st => agB M c q l o st n) (i + 1) = scn (fun st => agB M c q l o st n) i + (if agB M c q l o i n = true then 1 else 0) := rfl
    have hm1 : RMl I1 O (rf O a 3) M := hm.fr2 (v3 _ sr.1 sr2.1) (fun j hj => v3 _ (sr.2 j hj) (sr2.2 j hj))
    have hp1 : PCr I1 O a c := fun h hh => by rw [v3 _ n20 (m2 20 (by omega)), v3 _ n21 (m2 21 (by omega)), v3 _ n22 (m2 22 (by omega))]; exact hp h hh
    have hs1 : RSn I1 O a q n := ⟨by rw [v3 a na na2]; exact hs.1, fun k hk => by rw [v3 _ (n2 24 (by omega)) (m2 24 (by omega)), v3 _ (n2 25 (by omega)) (m2 25 (by omega)), v3 _ (n2 26 (by omega)) (m2 26 (by omega)), v3 _ (n2 27 (by omega)) (m2 27 (by omega))]; exact hs.2 k hk⟩
    unfold B_Mo_allFits_5
    refine Wp.neg (by omega) (Wp.bd2 (r_agrees (st := i) (l := l) (o := o) (by omega) hM hc hm1 sr n20 n21 n22 hp1 hs1 hb na n2 hx hi h2 h3 hl hlo (fun z I2 hz hf => ?_)))
    refine Wp.jn ?_
    cases e : agB M c q l o i n with
    | true =>
      rw [e, if_pos rfl] at hz
      rw [e, if_pos rfl] at eS
      refine Wp.neg (by show ¬ z.toInt = 0; omega) (Wp.pos (by omega) (Wp_lb (fun I3 x3 => Wp_lb (fun u eu => Wp_lb (fun v ev => ?_)))))
      rw [tn_i v1] at x3
      refine kk u v I3 (by rw [ev]; exact inc1 hx (by omega)) ⟨by rw [eu, t_add v1 k_1 (by omega), eS]; omega, fun st hst hps => ?_, fun b b1 b2 => by rw [x3, up2_row _ _ b2]; exact (hf b b1).trans (v3 b b1 b2)⟩
      rw [x3]
      by_cases e2 : st = i
      · subst e2; rw [up2_self]; exact hx
      · have lt : scn (fun st => agB M c q l o st n) st < scn (fun st => agB M c q l o st n) i := by
          have mono : ∀ m, st + 1 ≤ m → scn (fun st => agB M c q l o st n) (st + 1) ≤ scn (fun st => agB M c q l o st n) m := by
            intro m
            induction m with
            | zero => intro h; omega
            | succ m ih =>
              intro h
              by_cases e3 : st + 1 = m + 1
              · rw [e3]; exact Nat.le_refl _
              · have := ih (by omega)
                show _ ≤ scn _ m + _
                omega
          have q1 := mono i (by omega)
          have q2 : scn (fun st => agB M c q l o st n) (st + 1) = scn (fun st => agB M c q l o st n) st + (if agB M c q l o st n = true then 1 else 0) := rfl
          rw [if_pos hps] at q2
          omega
        rw [up2_ne _ _ (fun z => by have := z.2; omega)]
        show (I2 (rf O a 28) _).toInt = _
        rw [hf _ n28]; exact v2 st (by omega) hps
    | false =>
      rw [e, if_neg (by decide)] at hz
      rw [e, if_neg (by decide)] at eS
      refine Wp.pos hz (Wp_lb (fun v ev => kk y v I2 (by rw [ev]; exact inc1 hx (by omega)) ⟨by rw [v1, eS]; omega, fun st hst hps => ?_, fun b b1 b2 => (hf b b1).trans (v3 b b1 b2)⟩))
      by_cases e2 : st = i
      · subst e2
        (try dsimp only at hps)
        rw [e] at hps; cases hps
      · rw [hf _ n28]; exact v2 st (by omega) hps
  · intro rec y x I1 hx ⟨v1, v2, v3⟩
    unfold B_Mo_allFits_5
    exact Wp.pos (by omega) (Wp.ret (hQ y I1 v1 v2 v3))
end AGREES
