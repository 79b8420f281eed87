/-! the class's drum, exactly -/
def WD (O : WO) (d b : Nat) : Prop := b = d ∨ b = rf O (rf O d 0) 0 ∨ b = rf O (rf O d 0) 1 ∨ b = rf O (rf O d 0) 2 ∨ b = rf O d 1
def SPd (O : WO) (d m : Nat) : Prop := (¬ rf O (rf O d 0) 0 = rf O (rf O d 0) 1 ∧ ¬ rf O (rf O d 0) 0 = rf O (rf O d 0) 2 ∧ ¬ rf O (rf O d 0) 0 = rf O d 1 ∧ ¬ rf O (rf O d 0) 1 = rf O (rf O d 0) 2 ∧ ¬ rf O (rf O d 0) 1 = rf O d 1 ∧ ¬ rf O (rf O d 0) 2 = rf O d 1) ∧ (¬ rf O (rf O d 0) 0 = d ∧ ¬ rf O (rf O d 0) 1 = d ∧ ¬ rf O (rf O d 0) 2 = d ∧ ¬ rf O d 1 = d) ∧ (∀ w, WD O d w → ¬ m = w ∧ ∀ j, j < 5 → ¬ rf O m (10 + j) = w)
/-- the drum holds a state -/
def DRs (I : WI) (O : WO) (d : Nat) (σ : Nat → Int) : Prop := (∀ k, k < 5 → (I (rf O (rf O d 0) 0) k).toInt = σ k ∧ (I (rf O (rf O d 0) 1) k).toInt = σ (5 + k) ∧ (I (rf O (rf O d 0) 2) k).toInt = σ (10 + k) ∧ (I (rf O d 1) k).toInt = σ (15 + k)) ∧ (I d 2).toInt = σ 20 ∧ (I d 13).toInt = σ 21 ∧ (I d 14).toInt = σ 22 ∧ (I d 12).toInt = σ 23 ∧ (I d 3).toInt = σ 24 ∧ (I d 4).toInt = σ 25 ∧ (I d 5).toInt = σ 26 ∧ (I d 6).toInt = σ 27 ∧ (I d 7).toInt = σ 28 ∧ (I d 8).toInt = σ 29 ∧ (I d 9).toInt = σ 30 ∧ (I d 10).toInt = σ 31 ∧ (I d 15).toInt = σ 32 ∧ (I d 16).toInt = σ 33
theorem ab_f {x : Int32} {a : Int} (hx : x.toInt = a) (h : -2147483648 < a) : (abI x).toInt = if a < 0 then -a else a := by
  unfold abI
  by_cases q : (0 : Int32) ≤ x
  · rw [if_pos q]; rw [Int32.le_iff_toInt_le] at q; rw [if_neg (by have : (0 : Int32).toInt = 0 := rfl; omega)]; exact hx
  · rw [if_neg q]; rw [Int32.le_iff_toInt_le] at q
    have z0 : (0 : Int32).toInt = 0 := rfl
    have r := rg x
    rw [if_pos (by omega), t_sub z0 hx (by omega)]; omega
theorem mx_e {x y : Int32} {a b : Int} (hx : x.toInt = a) (hy : y.toInt = b) : (mxI x y).toInt = max a b := by
  have q := mx_f (x := x) (y := y); omega
theorem mn_e {x y : Int32} {a b : Int} (hx : x.toInt = a) (hy : y.toInt = b) : (mnI x y).toInt = min a b := by
  have q := mn_f (x := x) (y := y); omega
section CDRUM
variable {N : Nat} {O : WO} {I : WI} {J : WJ} {m d : Nat} {M : MM} {r w o : Int} {σ : Nat → Int}
theorem c_tonsOf {x1 x2 : Int32} {i : Nat} (h1 : x1.toInt = o) (ob : 0 ≤ o ∧ o < 4) (h2 : x2.toInt = (i : Int)) (hi : i < 5) : F_Ml_tonsOf N O I J m x1 x2 = some (I (rf O m 14) (5 * o.toNat + i)) := by
  have e := t_add (t_mul h1 (ofI (n := 5) (by decide)) (by omega)) h2 (by omega)
  unfold F_Ml_tonsOf
  rw [if_neg (by omega), if_neg (by omega), if_neg (by omega), if_pos (by omega), if_pos (by omega), e, show (o * 5 + (i : Int)).toNat = 5 * o.toNat + i by omega]
theorem c_takeOre {x2 x3 : Int32} {h : Nat → Int} {c : Int} {Q : WI → Prop} (hN : 8 ≤ N) (hM : MB M) (hs : ST3 M r w o) (hm : CMl I O m M) (s1 : ¬ rf O m 14 = rf O (rf O d 0) 0) (s2 : ¬ rf O m 14 = d) (s3 : ¬ rf O (rf O d 0) 0 = d) (hr : x2.toInt = r) (ho : x3.toInt = o) (hh : ∀ k, k < 5 → (I (rf O (rf O d 0) 0) k).toInt = h k) (bd : ∀ k, k < 5 → 0 ≤ h k ∧ h k ≤ 10000000) (hc : (I d 16).toInt = c) (cb : 0 ≤ c ∧ c ≤ 1000000000)
    (hQ : ∀ I', (∀ k, k < 5 → (I' (rf O (rf O d 0) 0) k).toInt = h k + r * M.2.1 4 (5 * o.toNat + k)) → (I' d 16).toInt = c + s5 (fun k => r * M.2.1 4 (5 * o.toNat + k)) → (∀ k, ¬ k = 16 → I' d k = I d k) → (∀ b, ¬ b = d → ¬ b = rf O (rf O d 0) 0 → I' b = I b) → Q I') : Wp (F_Dr_takeOre N O I J d m x2 x3) Q := by
  have ob := hs.2.2
  have m8 := hM.2.2.2.2.2.2.2.1
  have tb : ∀ k, k < 5 → 0 ≤ r * M.2.1 4 (5 * o.toNat + k) ∧ r * M.2.1 4 (5 * o.toNat + k) ≤ 150 := fun k hk => by
    have t := hM.2.2.2.2.2.2.2.2.2.2.2.2.2.1 (5 * o.toNat + k) (by omega)
    have := mulb hs.1.1 hs.1.2 t.1 t.2
    omega
  unfold F_Dr_takeOre
  refine forU (n := 5) (fun i I1 => (∀ k, k < 5 → (I1 (rf O (rf O d 0) 0) k).toInt = if k < i then h k + r * M.2.1 4 (5 * o.toNat + k) else h k) ∧ (I1 d 16).toInt = c + psum (fun k => r * M.2.1 4 (5 * o.toNat + k)) i ∧ (∀ k, ¬ k = 16 → I1 d k = I d k) ∧ (∀ b, ¬ b = d → ¬ b = rf O (rf O d 0) 0 → I1 b = I b)) (by omega) ⟨fun k hk => by rw [stz]; exact hh k hk, by show _ = c + 0; omega, fun _ _ => rfl, fun _ _ _ => rfl⟩ ?_ ?_
  · intro rec x i I1 hx hi ⟨v0, v1, v2, v3⟩ kk
    have ex : x.toInt.toNat = i := tn_i hx
    have a0 := v0 i hi
    rw [st0] at a0
    have tv : (I1 (rf O m 14) (5 * o.toNat + i)).toInt = M.2.1 4 (5 * o.toNat + i) := by rw [v3 _ s2 s1]; exact hm.2 4 _ (by decide) (by show 5 * o.toNat + i < 20; omega)
    have b1 := tb i hi
    have b2 := bd i hi
    unfold B_Dr_takeOre_3
    refine Wp.neg (by omega) (Wp.bd1 ?_)
    rw [c_tonsOf ho (by omega) hx hi]
    refine Wp.ret (Wp_lb (fun v5 e5 => ?_))
    have h5 : v5.toInt = r * M.2.1 4 (5 * o.toNat + i) := by rw [e5]; exact t_mul hr tv (by omega)
    refine Wp.pos (by omega) (Wp.pos (by omega) (Wp_lb (fun I2 e2 => Wp_lb (fun I3 e3 => Wp_lb (fun v ev => ?_)))))
    rw [ex] at e2
    have c16 : (I2 d 16).toInt = c + psum (fun k => r * M.2.1 4 (5 * o.toNat + k)) i := by rw [e2, up2_row _ _ (fun z => s3 z.symm)]; exact v1
    have pb := psum_b (f := fun k => r * M.2.1 4 (5 * o.toNat + k)) (C := 150) i (fun k hk => tb k (by omega))
    refine kk v I3 (by rw [ev]; exact inc1 hx (by omega)) ⟨fun k hk => ?_, ?_, fun k hk => ?_, fun b b1 b2 => ?_⟩
    · rw [e3, up2_row _ _ s3, e2]
      by_cases e : k = i
      · subst e; rw [up2_self, stS]; exact t_add a0 h5 (by omega)
      · rw [up2_ne _ _ (fun z => e z.2), v0 k hk]; exact stp e
    · rw [e3, up2_self, t_add c16 h5 (by omega)]
      show _ = c + (psum (fun k => r * M.2.1 4 (5 * o.toNat + k)) i + r * M.2.1 4 (5 * o.toNat + i)); omega
    · rw [e3, up2_ne _ _ (fun z => hk z.2), e2, up2_row _ _ (fun z => s3 z.symm)]; exact v2 k hk
    · rw [e3, up2_row _ _ b1, e2, up2_row _ _ b2]; exact v3 b b1 b2
  · intro rec x I1 hx ⟨v0, v1, v2, v3⟩
    unfold B_Dr_takeOre_3
    exact Wp.pos (by omega) (Wp.ret (hQ I1 (fun k hk => by rw [v0 k hk, if_pos hk]) (by rw [v1, psum5]) v2 v3))
theorem c_effectOf {x2 : Int32} {full liner : Int} {Q : Int32 → Prop} (hM : MB M) (hs : ST3 M r w o) (hm : CMl I O m M) (hf : (I d 7).toInt = full) (fb : 0 ≤ full ∧ full ≤ M.1 0) (hl : (I d 3).toInt = liner) (lbd : 0 ≤ liner ∧ liner ≤ 100000) (ho : x2.toInt = o) (hQ : ∀ z : Int32, z.toInt = effT M o full liner → Q z) : Wp (F_Dr_effectOf N O I J d m x2) Q := by
  obtain ⟨e1, e2, e3, e4, e5⟩ := effT_b hM hs fb lbd.1
  have m0 := hM.1
  have m4 := hM.2.2.2.1
  have m8 := hM.2.2.2.2.2.2.2.1
  have ob := hs.2.2
  have hd := hM.2.2.2.2.2.2.2.2.2.2.2.2.1 o.toNat (by omega)
  have q4 := hm.1 4 (by decide)
  unfold F_Dr_effectOf
  refine Wp.bd1 (c_share (ofI (n := 100) (by decide)) hf (hm.1 0 (by decide)) (by omega) (by omega) (by omega) (fun z1 h1 => ?_))
  refine Wp_lb (fun v3 ev3 => Wp_lb (fun v4 ev4 => Wp_lb (fun v5 ev5 => ?_)))
  have h3 : v3.toInt = 100 * full / M.1 0 - 50 := by rw [ev3]; exact t_sub h1 (ofI (by decide)) (by omega)
  have h4 : v4.toInt = 100 - (if 100 * full / M.1 0 - 50 < 0 then -(100 * full / M.1 0 - 50) else 100 * full / M.1 0 - 50) := by
    rw [ev4]; exact t_sub (ofI (by decide)) (ab_f h3 (by omega)) (by split <;> omega)
  have q2 := (tdivF q4 (ofI (n := 2) (by decide)) (by decide)).1 (by omega)
  have h5 : v5.toInt = max (M.1 4 - liner) (M.1 4 / 2) := by rw [ev5]; exact mx_e (t_sub q4 hl (by omega)) q2
  refine Wp.bd1 (c_share h4 h5 q4 (by omega) ⟨e3.1, by omega⟩ (by omega) (fun z2 h6 => ?_))
  have eh : F_Ml_hardOf N O I J m x2 = some (I (rf O m 13) o.toNat) := by
    unfold F_Ml_hardOf
    rw [if_neg (by omega), if_neg (by omega), if_pos (by omega), ho]
  refine Wp.bd1 ?_
  rw [eh]
  refine Wp.ret ?_
  have h7 : (I (rf O m 13) o.toNat).toInt = M.2.1 3 o.toNat := hm.2 3 _ (by decide) (by show o.toNat < 4; omega)
  have h8 := t_add (ofI (n := 9) (by decide)) h7 (by omega)
  have dl := Int.ediv_le_self (9 + M.2.1 3 o.toNat) (show 0 ≤ (100 - (if 100 * full / M.1 0 - 50 < 0 then -(100 * full / M.1 0 - 50) else 100 * full / M.1 0 - 50)) * max (M.1 4 - liner) (M.1 4 / 2) / M.1 4 * 10 by omega)
  refine Wp.bd1 (c_share h6 (ofI (n := 10) (by decide)) h8 (by omega) (by omega) (by omega) (fun z3 h9 => Wp.ret (hQ z3 ?_)))
  rw [h9]; unfold effT; rw [Int.mul_comm]
theorem c_fillBin {p al : Nat → Int} {bin sp : Int} {Q : WI → Prop} (hN : 8 ≤ N) (s1 : ¬ rf O (rf O d 0) 2 = rf O d 1) (s2 : ¬ rf O (rf O d 0) 2 = d) (s3 : ¬ rf O d 1 = d) (s4 : ¬ m = d) (s5' : ¬ m = rf O d 1) {R : Int} (h5 : (I m 5).toInt = R) (hp : ∀ k, k < 5 → (I (rf O (rf O d 0) 2) k).toInt = p k) (pb : ∀ k, k < 5 → 0 ≤ p k ∧ p k ≤ 1000000) (ha : ∀ k, k < 5 → (I (rf O d 1) k).toInt = al k) (ab : ∀ k, k < 5 → 0 ≤ al k ∧ al k ≤ 1000000000) (hb : (I d 2).toInt = bin) (bb : 0 ≤ bin ∧ bin ≤ 1000000) (hsp : (I d 13).toInt = sp) (sb : 0 ≤ sp ∧ sp ≤ 1000000000) (Rb : 0 ≤ R ∧ R ≤ 1000000)
    (hQ : ∀ I', (∀ k, k < 5 → (I' (rf O d 1) k).toInt = al k + p k) → (I' d 2).toInt = min (bin + s5 p) R → (I' d 13).toInt = sp + (bin + s5 p - min (bin + s5 p) R) → (∀ k, ¬ k = 2 → ¬ k = 13 → I' d k = I d k) → (∀ b, ¬ b = d → ¬ b = rf O d 1 → I' b = I b) → Q I') : Wp (F_Dr_fillBin N O I J d m) Q := by
  unfold F_Dr_fillBin
  refine forU (n := 5) (fun i I1 => (∀ k, k < 5 → (I1 (rf O d 1) k).toInt = if k < i then al k + p k else al k) ∧ (I1 d 2).toInt = bin + psum p i ∧ (∀ k, ¬ k = 2 → I1 d k = I d k) ∧ (∀ b, ¬ b = d → ¬ b = rf O d 1 → I1 b = I b)) (by omega) ⟨fun k hk => by rw [stz]; exact ha k hk, by show _ = bin + 0; omega, fun _ _ => rfl, fun _ _ _ => rfl⟩ ?_ ?_
  · intro rec x i I1 hx hi ⟨v0, v1, v2, v3⟩ kk
    have ex : x.toInt.toNat = i := tn_i hx
    have a0 := v0 i hi
    rw [st0] at a0
    have p0 : (I1 (rf O (rf O d 0) 2) i).toInt = p i := by rw [v3 _ s2 s1]; exact hp i hi
    have ps := psum_b (f := p) (C := 1000000) i (fun k hk => pb k (by omega))
    have b1 := pb i hi
    have b2 := ab i hi
    unfold B_Dr_fillBin_2
    refine Wp.neg (by omega) (Wp.pos (by omega) (Wp_lb (fun I2 e2 => Wp.pos (by omega) (Wp.pos (by omega) (Wp.pos (by omega) (Wp_lb (fun I3 e3 => Wp_lb (fun v ev => ?_))))))))
    rw [ex] at e2 e3
    have p2 : (I2 (rf O (rf O d 0) 2) i).toInt = p i := by rw [e2, up2_row _ _ s2]; exact p0
    have a2 : (I2 (rf O d 1) i).toInt = al i := by rw [e2, up2_row _ _ s3]; exact a0
    refine kk v I3 (by rw [ev]; exact inc1 hx (by omega)) ⟨fun k hk => ?_, ?_, fun k hk => ?_, fun b b1 b2 => ?_⟩
    · rw [e3]
      by_cases e : k = i
      · subst e; rw [up2_self, stS]; exact t_add a2 p2 (by omega)
      · rw [up2_ne _ _ (fun z => e z.2), e2, up2_row _ _ s3, v0 k hk]; exact stp e
    · rw [e3, up2_row _ _ (fun z => s3 z.symm), e2, up2_self, t_add v1 p0 (by omega)]
      show _ = bin + (psum p i + p i); omega
    · rw [e3, up2_row _ _ (fun z => s3 z.symm), e2, up2_ne _ _ (fun z => hk z.2)]; exact v2 k hk
    · rw [e3, up2_row _ _ b2, e2, up2_row _ _ b1]; exact v3 b b1 b2
  · intro rec x I1 hx ⟨v0, v1, v2, v3⟩
    rw [psum5] at v1
    have pp := psum_b (f := p) (C := 1000000) 5 pb
    rw [psum5] at pp
    have m5 : (I1 m 5).toInt = R := by rw [v3 m s4 s5']; exact h5
    have v13 : (I1 d 13).toInt = sp := by rw [v2 13 (by decide)]; exact hsp
    unfold B_Dr_fillBin_2
    refine Wp.pos (by omega) ?_
    by_cases c : bin + s5 p ≤ R
    · refine Wp.pos (by omega) (Wp.ret (hQ I1 (fun k hk => by rw [v0 k hk, if_pos hk]) (by omega) (by omega) (fun k k2 _ => v2 k k2) v3))
    · refine Wp.neg (by omega) (Wp_lb (fun I2 e2 => Wp_lb (fun I3 e3 => Wp.ret (hQ I3 (fun k hk => ?_) ?_ ?_ (fun k k2 k13 => ?_) (fun b b1 b2 => ?_)))))
      · rw [e3, up2_row _ _ s3, e2, up2_row _ _ s3, v0 k hk, if_pos hk]
      · rw [e3, up2_self, e2, up2_row _ _ s4, m5]; omega
      · rw [e3, up2_ne _ _ (fun z => absurd z.2 (by decide)), e2, up2_self, t_add v13 (t_sub v1 m5 (by omega)) (by omega)]; omega
      · rw [e3, up2_ne _ _ (fun z => k2 z.2), e2, up2_ne _ _ (fun z => k13 z.2)]; exact v2 k k2
      · rw [e3, up2_row _ _ b1, e2, up2_row _ _ b1]; exact v3 b b1 b2
theorem c_draw {bin dr sh R : Int} {Q : WI → Prop} (s4 : ¬ m = d) (h6 : (I m 6).toInt = R) (Rb : 0 ≤ R ∧ R ≤ 1000000) (hb : (I d 2).toInt = bin) (bb : 0 ≤ bin ∧ bin ≤ 1000000) (h14 : (I d 14).toInt = dr) (db : 0 ≤ dr ∧ dr ≤ 1000000000) (h12 : (I d 12).toInt = sh) (shb : 0 ≤ sh ∧ sh ≤ 1000000000)
    (hQ : ∀ I', (I' d 2).toInt = bin - min bin R → (I' d 14).toInt = dr + min bin R → (I' d 12).toInt = sh + (R - min bin R) → (I' d 11).toInt = R - min bin R → (∀ k, ¬ k = 2 → ¬ k = 11 → ¬ k = 12 → ¬ k = 14 → I' d k = I d k) → (∀ b, ¬ b = d → I' b = I b) → Q I') : Wp (F_Dr_drawFromBin N O I J d m) Q := by
  unfold F_Dr_drawFromBin
  refine Wp_lb (fun v2 ev => Wp_lb (fun I1 e1 => Wp_lb (fun I2 e2 => Wp_lb (fun I3 e3 => Wp_lb (fun I4 e4 => Wp.ret ?_)))))
  have hv : v2.toInt = min bin R := by rw [ev]; exact mn_e hb h6
  have q14 : (I1 d 14).toInt = dr := by rw [e1, up2_ne _ _ (fun z => absurd z.2 (by decide))]; exact h14
  have q6 : (I2 m 6).toInt = R := by rw [e2, up2_row _ _ s4, e1, up2_row _ _ s4]; exact h6
  have q11 : (I3 d 11).toInt = R - min bin R := by rw [e3, up2_self]; exact t_sub q6 hv (by omega)
  have q12 : (I3 d 12).toInt = sh := by rw [e3, up2_ne _ _ (fun z => absurd z.2 (by decide)), e2, up2_ne _ _ (fun z => absurd z.2 (by decide)), e1, up2_ne _ _ (fun z => absurd z.2 (by decide))]; exact h12
  refine hQ I4 ?_ ?_ ?_ ?_ (fun k k2 k11 k12 k14 => ?_) (fun b hb2 => ?_)
  · rw [e4, up2_ne _ _ (fun z => absurd z.2 (by decide)), e3, up2_ne _ _ (fun z => absurd z.2 (by decide)), e2, up2_ne _ _ (fun z => absurd z.2 (by decide)), e1, up2_self]; exact t_sub hb hv (by omega)
  · rw [e4, up2_ne _ _ (fun z => absurd z.2 (by decide)), e3, up2_ne _ _ (fun z => absurd z.2 (by decide)), e2, up2_self]; exact t_add q14 hv (by omega)
  · rw [e4, up2_self]; exact t_add q12 q11 (by omega)
  · rw [e4, up2_ne _ _ (fun z => absurd z.2 (by decide))]; exact q11
  · rw [e4, up2_ne _ _ (fun z => k12 z.2), e3, up2_ne _ _ (fun z => k11 z.2), e2, up2_ne _ _ (fun z => k14 z.2), e1, up2_ne _ _ (fun z => k2 z.2)]
  · rw [e4, up2_row _ _ hb2, e3, up2_row _ _ hb2, e2, up2_row _ _ hb2, e1, up2_row _ _ hb2]
theorem c_stand {h : Nat → Int} {sp : Int} {Q : WI → Prop} (hN : 8 ≤ N) (n1 : ¬ rf O (rf O d 0) 0 = rf O (rf O d 0) 2) (n2 : ¬ rf O (rf O d 0) 0 = d) (n3 : ¬ rf O (rf O d 0) 2 = d) (hh : ∀ k, k < 5 → (I (rf O (rf O d 0) 0) k).toInt = h k) (bd : ∀ k, k < 5 → 0 ≤ h k ∧ h k ≤ 10000000) (hsp : (I d 13).toInt = sp) (sb : 0 ≤ sp ∧ sp ≤ 1000000000)
    (hQ : ∀ I', (∀ k, k < 5 → (I' (rf O (rf O d 0) 0) k).toInt = h k - dgT (h k)) → (∀ k, k < 5 → (I' (rf O (rf O d 0) 2) k).toInt = 0) → (I' d 13).toInt = sp + s5 (fun k => dgT (h k)) → (I' d 8).toInt = 0 → (I' d 9).toInt = 0 → (∀ k, ¬ k = 8 → ¬ k = 9 → ¬ k = 13 → I' d k = I d k) → (∀ b, ¬ b = d → ¬ b = rf O (rf O d 0) 0 → ¬ b = rf O (rf O d 0) 2 → I' b = I b) → Q I') : Wp (F_Dr_standStill N O I J d) Q := by
  have db : ∀ k, k < 5 → 0 ≤ dgT (h k) ∧ dgT (h k) ≤ 10000000 := fun k hk => by have := bd k hk; unfold dgT; omega
  have pp := psum_b (f := fun k => dgT (h k)) (C := 10000000) 5 db
  rw [psum5] at pp
  unfold F_Dr_standStill
  refine Wp.bd2 (c_digOut hN hh bd (fun z I1 hz g1 g2 => ?_))
  refine Wp_lb (fun I2 e2 => Wp.bd1 (c_wipe5 hN (fun I3 w1 w2 => Wp_lb (fun I4 e4 => Wp_lb (fun I5 e5 => Wp.ret ?_)))))
  have e2' : I2 = up2 I1 d 13 (I d 13 + z) := e2
  have fd : ∀ k, ¬ k = 8 → ¬ k = 9 → I5 d k = I2 d k := fun k k8 k9 => by rw [e5, up2_ne _ _ (fun z => k9 z.2), e4, up2_ne _ _ (fun z => k8 z.2), w2 d (fun z => n3 z.symm)]
  have fb : ∀ b, ¬ b = d → I5 b = I3 b := fun b hb => by rw [e5, up2_row _ _ hb, e4, up2_row _ _ hb]
  refine hQ I5 (fun k hk => ?_) (fun k hk => ?_) ?_ ?_ ?_ (fun k k8 k9 k13 => ?_) (fun b b1 b2 b3 => ?_)
  · rw [fb _ n2, w2 _ n1, e2', up2_row _ _ n2]; exact g1 k hk
  · rw [fb _ n3]; exact w1 k hk
  · rw [fd 13 (by decide) (by decide), e2', up2_self]; exact t_add hsp hz (by omega)
  · rw [e5, up2_ne _ _ (fun z => absurd z.2 (by decide)), e4, up2_self]; exact k_0
  · rw [e5, up2_self]; exact k_0
  · rw [fd k k8 k9, e2', up2_ne _ _ (fun z => k13 z.2), g2 d (fun z => n2 z.symm)]
  · rw [fb b b1, w2 b b3, e2', up2_row _ _ b1]; exact g2 b b2
end CDRUM
