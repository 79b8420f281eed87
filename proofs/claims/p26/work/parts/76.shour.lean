/-- what the methods of the class leave as it is: the reader and what is read, the mills but for their tables of kind 11, all that is the reference's -/
def frK (κ : Nat) : Bool := frN κ || Nat.beq κ 3 || Nat.beq κ 12 || Nat.beq κ 13 || Nat.beq κ 14
def kP (_ _ : Nat) : Bool := true
def kpL (fr : Nat → Bool) (ex : List (Nat × Nat)) (κ k : Nat) : Bool := fr κ || ex.any (fun p => Nat.beq p.1 κ && Nat.beq p.2 k)
def FQ (kp : Nat → Nat → Bool) (K : Nat → Nat) (I0 : WI) (J0 : WJ) (I : WI) (J : WJ) : Prop := ∀ a k, kp (K a) k = true → I a k = I0 a k ∧ J a k = J0 a k
def SQ (kp : Nat → Nat → Bool) (P : List Nat) (K : Nat → Nat) (O : WO) (I0 : WI) (J0 : WJ) (I : WI) (J : WJ) : Prop := IV P K I O ∧ FQ kp K I0 J0 I J
def PQ (kp : Nat → Nat → Bool) (κ : Nat) : Prop := ¬ κ < 11 ∧ aty κ = 1 ∧ (∀ k, kp κ k = false) ∧ (∀ k x, okI κ k x) ∧ alen κ < 10000
theorem FQ.rf {kp : Nat → Nat → Bool} {K : Nat → Nat} {I : WI} {J : WJ} : FQ kp K I J I J := fun _ _ _ => ⟨rfl, rfl⟩
theorem FQ.fr {fr : Nat → Bool} {ex : List (Nat × Nat)} {K : Nat → Nat} {I0 I : WI} {J0 J : WJ} (h : FQ (kpL fr ex) K I0 J0 I J) : FR fr K I0 J0 I J := fun a e => ⟨fun k => (h a k (by unfold kpL; rw [e]; rfl)).1, fun k => (h a k (by unfold kpL; rw [e]; rfl)).2⟩
theorem FQ.le {kp kp2 : Nat → Nat → Bool} {K : Nat → Nat} {I0 I : WI} {J0 J : WJ} (h : FQ kp K I0 J0 I J) (hf : ∀ κ k, kp2 κ k = true → kp κ k = true) : FQ kp2 K I0 J0 I J := fun a k e => h a k (hf _ _ e)
theorem FQ.trans {kp : Nat → Nat → Bool} {K : Nat → Nat} {I0 I1 I : WI} {J0 J1 J : WJ} (h : FQ kp K I0 J0 I1 J1) (h2 : FQ kp K I1 J1 I J) : FQ kp K I0 J0 I J := fun a k e => ⟨(h2 a k e).1.trans (h a k e).1, (h2 a k e).2.trans (h a k e).2⟩
theorem SQ.rf {kp : Nat → Nat → Bool} {P : List Nat} {K : Nat → Nat} {O : WO} {I : WI} {J : WJ} (h : IV P K I O) : SQ kp P K O I J I J := ⟨h, FQ.rf⟩
theorem SQ.putI {kp : Nat → Nat → Bool} {P : List Nat} {K : Nat → Nat} {O : WO} {I0 I : WI} {J0 J : WJ} {a κ k : Nat} {x : Int32} (h : SQ kp P K O I0 J0 I J) (ha : K a = κ) (hf : kp κ k = false) (hx : okI κ k x) : SQ kp P K O I0 J0 (up2 I a k x) J := by
  refine ⟨((SV.rf (fr := fun _ => false) (J := J) h.1).putI ha rfl hx).1, fun b j e => ?_⟩
  rw [up2_ne _ _ (fun z => by rw [z.1, z.2, ha, hf] at e; cases e)]; exact h.2 b j e
theorem SQ.putJ {kp : Nat → Nat → Bool} {P : List Nat} {K : Nat → Nat} {O : WO} {I0 I : WI} {J0 J : WJ} {a κ k : Nat} {x : Int64} (h : SQ kp P K O I0 J0 I J) (ha : K a = κ) (hf : kp κ k = false) : SQ kp P K O I0 J0 I (up2 J a k x) := by
  refine ⟨h.1, fun b j e => ?_⟩
  rw [up2_ne _ _ (fun z => by rw [z.1, z.2, ha, hf] at e; cases e)]; exact h.2 b j e
theorem SQ.call {kp kp2 : Nat → Nat → Bool} {P : List Nat} {K : Nat → Nat} {O : WO} {I0 I I2 : WI} {J0 J J2 : WJ} (h : SQ kp P K O I0 J0 I J) (hf : ∀ κ k, kp κ k = true → kp2 κ k = true) (h1 : IV P K I2 O) (h2 : FQ kp2 K I J I2 J2) : SQ kp P K O I0 J0 I2 J2 := ⟨h1, h.2.trans (h2.le hf)⟩
theorem SQ.sv {fr : Nat → Bool} {ex : List (Nat × Nat)} {P : List Nat} {K : Nat → Nat} {O : WO} {I0 I : WI} {J0 J : WJ} (h : SQ (kpL fr ex) P K O I0 J0 I J) : SV fr P K O I0 J0 I J := ⟨h.1, h.2.fr⟩
theorem kpL_le {fr fr2 : Nat → Bool} {ex ex2 : List (Nat × Nat)} (hf : ∀ κ, fr κ = true → fr2 κ = true) (he : ex.all (fun p => kpL fr2 ex2 p.1 p.2) = true) : ∀ κ k, kpL fr ex κ k = true → kpL fr2 ex2 κ k = true := by
  intro κ k h
  unfold kpL at h
  rcases Bool.or_eq_true_iff.mp h with z | z
  · unfold kpL; rw [hf κ z]; rfl
  · obtain ⟨p, hp, e⟩ := List.any_eq_true.mp z
    have e2 := Bool.and_eq_true_iff.mp e
    rw [← Nat.eq_of_beq_eq_true e2.1, ← Nat.eq_of_beq_eq_true e2.2]
    exact List.all_eq_true.mp he p hp
def kD : Nat → Nat → Bool := kpL frK [(8, 14), (8, 15), (8, 16), (7, 3), (7, 4)]
def kC : Nat → Nat → Bool := kpL frK [(8, 15), (8, 16), (7, 3), (7, 4)]
def kT : Nat → Nat → Bool := kpL frK [(8, 14), (8, 15), (8, 16)]
def kN : Nat → Nat → Bool := kpL frK [(8, 15), (8, 16)]
theorem Wp_lb {α ρ : Type} {x : α} {f : α → Option ρ} {Q : ρ → Prop} (h : ∀ v, v = x → Wp (f v) Q) : Wp (lb x f) Q := h x rfl
theorem Wpc1 {α ρ : Type} {m : Option α} {f : α → Option ρ} {Q : ρ → Prop} (h : Wp m (fun x => Wp (f x) Q)) : Wp (bd1 m f) Q := Wp.bd1 h
theorem Wpc2 {α β ρ : Type} {m : Option (α × β)} {f : α → β → Option ρ} {Q : ρ → Prop} (h : Wp m (fun q => match q with | (x, y) => Wp (f x y) Q)) : Wp (bd2 m f) Q := by
  obtain ⟨⟨x, y⟩, rfl, h⟩ := h; exact h
theorem Wpc3 {α β γ ρ : Type} {m : Option (α × β × γ)} {f : α → β → γ → Option ρ} {Q : ρ → Prop} (h : Wp m (fun q => match q with | (x, y, z) => Wp (f x y z) Q)) : Wp (bd3 m f) Q := by
  obtain ⟨⟨x, y, z⟩, rfl, h⟩ := h; exact h
theorem mx_f {x y : Int32} : x.toInt ≤ (mxI x y).toInt ∧ y.toInt ≤ (mxI x y).toInt ∧ ((mxI x y).toInt = x.toInt ∨ (mxI x y).toInt = y.toInt) := by
  unfold mxI
  by_cases q : x < y
  · rw [if_pos q]; rw [Int32.lt_iff_toInt_lt] at q; exact ⟨by omega, by omega, Or.inr rfl⟩
  · rw [if_neg q]; rw [Int32.lt_iff_toInt_lt] at q; exact ⟨by omega, by omega, Or.inl rfl⟩
theorem mn_f {x y : Int32} : (mnI x y).toInt ≤ x.toInt ∧ (mnI x y).toInt ≤ y.toInt ∧ ((mnI x y).toInt = x.toInt ∨ (mnI x y).toInt = y.toInt) := by
  unfold mnI
  by_cases q : y < x
  · rw [if_pos q]; rw [Int32.lt_iff_toInt_lt] at q; exact ⟨by omega, by omega, Or.inr rfl⟩
  · rw [if_neg q]; rw [Int32.lt_iff_toInt_lt] at q; exact ⟨by omega, by omega, Or.inl rfl⟩
theorem ofNl {n : Nat} (h : n < 10000) : (Int32.ofNat n).toInt = (n : Int) := by
  rw [show Int32.ofNat n = Int32.ofInt (n : Int) from rfl]; exact ofI (by omega)
theorem tremV {x y : Int32} {xi dv : Int} (hx : x.toInt = xi) (hy : y.toInt = dv) (hd : 0 < dv) (h0 : 0 ≤ xi) : (x - x / y * y).toInt = xi % dv := by
  have h1 := (tdivF hx hy hd).1 h0
  have hr := rg x
  have e0 := Int.emod_add_mul_ediv xi dv
  have e1 := Int.emod_nonneg xi (show dv ≠ 0 by omega)
  have e2 : xi / dv * dv = dv * (xi / dv) := Int.mul_comm _ _
  have h4 := Int.ediv_nonneg h0 (show (0 : Int) ≤ dv by omega)
  have h5 : 0 ≤ dv * (xi / dv) := Int.mul_nonneg (by omega) h4
  have e3 := t_mul h1 hy (by rw [e2]; omega)
  have e4 := t_sub hx e3 (by rw [e2]; omega)
  rw [e4, e2]; omega
theorem tremF {x y : Int32} {xi dv : Int} (hx : x.toInt = xi) (hy : y.toInt = dv) (hd : 0 < dv) : 0 ≤ xi → 0 ≤ (x - x / y * y).toInt ∧ (x - x / y * y).toInt < dv := fun h0 => by
  rw [tremV hx hy hd h0]; exact ⟨Int.emod_nonneg _ (by omega), Int.emod_lt_of_pos _ hd⟩
set_option maxHeartbeats 4000000 in
set_option maxRecDepth 100000 in
theorem s_RM_share {P : List Nat} {K : Nat → Nat} {N : Nat} {O : WO} {I0 : WI} {J0 : WJ} (hN : 2147483648 ≤ N) (hV : IV P K I0 O) {x0 : Int32} {x1 : Int32} {x2 : Int32} {Q : Int32 → Prop} (hQ : ∀ (z : Int32), True → Q z) : Wp (F_RM_share N O I0 J0 x0 x1 x2) Q := by
  unfold F_RM_share
  have r0 := rg x0
  have r1 := rg x1
  have r2 := rg x2
  have hV0 : SQ kP P K O I0 J0 I0 J0 := SQ.rf hV
  refine Wp.ite (fun c_1 => ?_) (fun c_1 => ?_)
  · skip
    exact Wp.ret (hQ (Int32.ofInt (0)) trivial)
  · skip
    have e_5 : ((x0).toInt64).toInt = (x0).toInt := by rw [Int32.toInt_toInt64]
    have e_7 : ((x1).toInt64).toInt = (x1).toInt := by rw [Int32.toInt_toInt64]
    have e_10 : ((x2).toInt64).toInt = (x2).toInt := by rw [Int32.toInt_toInt64]
    refine Wp.pos (by omega) ?_
    exact Wp.ret (hQ ((((x0).toInt64 * (x1).toInt64) / (x2).toInt64)).toInt32 trivial)
set_option maxHeartbeats 4000000 in
set_option maxRecDepth 100000 in
theorem s_RM_partOfStart {P : List Nat} {K : Nat → Nat} {N : Nat} {O : WO} {I0 : WI} {J0 : WJ} (hN : 2147483648 ≤ N) (hV : IV P K I0 O) {x0 : Int32} {x1 : Int32} {Q : Int32 → Prop} (hQ : ∀ (z : Int32), True → Q z) : Wp (F_RM_partOfStart N O I0 J0 x0 x1) Q := by
  unfold F_RM_partOfStart
  have r0 := rg x0
  have r1 := rg x1
  have hV0 : SQ kP P K O I0 J0 I0 J0 := SQ.rf hV
  refine Wp.ite (fun c_1 => ?_) (fun c_1 => ?_)
  · skip
    first | (have e_7 := tdivF (x := x0) (y := (Int32.ofInt (25))) rfl (ofI (by decide)) (by decide)) | skip
    exact Wp.ret (hQ (x0 / (Int32.ofInt (25))) trivial)
  · skip
    refine Wp.ite (fun c_11 => ?_) (fun c_11 => ?_)
    · skip
      first | (have e_16 := tdivF (x := x0) (y := (Int32.ofInt (5))) rfl (ofI (by decide)) (by decide)) | skip
      first | (have e_18 := tremF (x := (x0 / (Int32.ofInt (5)))) (y := (Int32.ofInt (5))) rfl (ofI (by decide)) (by decide)) | skip
      exact Wp.ret (hQ ((x0 / (Int32.ofInt (5))) - (x0 / (Int32.ofInt (5))) / (Int32.ofInt (5)) * (Int32.ofInt (5))) trivial)
    · skip
      first | (have e_24 := tremF (x := x0) (y := (Int32.ofInt (5))) rfl (ofI (by decide)) (by decide)) | skip
      exact Wp.ret (hQ (x0 - x0 / (Int32.ofInt (5)) * (Int32.ofInt (5))) trivial)
set_option maxHeartbeats 4000000 in
set_option maxRecDepth 100000 in
theorem s_RM_startOf {P : List Nat} {K : Nat → Nat} {N : Nat} {O : WO} {I0 : WI} {J0 : WJ} (hN : 2147483648 ≤ N) (hV : IV P K I0 O) {x0 : Int32} {x1 : Int32} {x2 : Int32} {Q : Int32 → Prop} (hQ : ∀ (z : Int32), True → Q z) : Wp (F_RM_startOf N O I0 J0 x0 x1 x2) Q := by
  unfold F_RM_startOf
  have r0 := rg x0
  have r1 := rg x1
  have r2 := rg x2
  have hV0 : SQ kP P K O I0 J0 I0 J0 := SQ.rf hV
  first | (have e_2 := t_mul (x := x0) (y := (Int32.ofInt (5))) rfl (ofI (by decide)) (by omega)) | skip
  first | (have e_4 := t_add (x := (x0 * (Int32.ofInt (5)))) (y := x1) rfl rfl (by omega)) | skip
  first | (have e_6 := t_mul (x := ((x0 * (Int32.ofInt (5))) + x1)) (y := (Int32.ofInt (5))) rfl (ofI (by decide)) (by omega)) | skip
  first | (have e_8 := t_add (x := (((x0 * (Int32.ofInt (5))) + x1) * (Int32.ofInt (5)))) (y := x2) rfl rfl (by omega)) | skip
  exact Wp.ret (hQ ((((x0 * (Int32.ofInt (5))) + x1) * (Int32.ofInt (5))) + x2) trivial)
set_option maxHeartbeats 4000000 in
set_option maxRecDepth 100000 in
theorem s_RM_isHour {P : List Nat} {K : Nat → Nat} {N : Nat} {O : WO} {I0 : WI} {J0 : WJ} (hN : 2147483648 ≤ N) (hV : IV P K I0 O) {x0 : Int32} {Q : Int32 → Prop} (hQ : ∀ (z : Int32), (z.toInt = 0 ∨ z.toInt = 1) → ((Int32.toInt z = 1 ∧ 0 ≤ Int32.toInt x0 ∧ Int32.toInt x0 ≤ 11) ∨ (Int32.toInt z = 0 ∧ (Int32.toInt x0 < 0 ∨ 11 < Int32.toInt x0))) → Q z) : Wp (F_RM_isHour N O I0 J0 x0) Q := by
  unfold F_RM_isHour
  have r0 := rg x0
  have hV0 : SQ kP P K O I0 J0 I0 J0 := SQ.rf hV
  refine Wp.ite (fun c_1 => ?_) (fun c_1 => ?_)
  · skip
    exact Wp.ret (hQ (Int32.ofInt (0)) (by have hci : Int32.toInt (Int32.ofInt (0)) = 0 := ofI (by decide); omega) (by have hci : Int32.toInt (Int32.ofInt (0)) = 0 := ofI (by decide); first | omega | (dsimp only; omega)))
  · skip
    refine Wp.ite (fun c_7 => ?_) (fun c_7 => ?_)
    · skip
      exact Wp.ret (hQ (Int32.ofInt (0)) (by have hci : Int32.toInt (Int32.ofInt (0)) = 0 := ofI (by decide); omega) (by have hci : Int32.toInt (Int32.ofInt (0)) = 0 := ofI (by decide); first | omega | (dsimp only; omega)))
    · skip
      exact Wp.ret (hQ (Int32.ofInt (1)) (by have hci : Int32.toInt (Int32.ofInt (1)) = 1 := ofI (by decide); omega) (by have hci : Int32.toInt (Int32.ofInt (1)) = 1 := ofI (by decide); first | omega | (dsimp only; omega)))
set_option maxHeartbeats 4000000 in
set_option maxRecDepth 100000 in
theorem s_RM_isRate {P : List Nat} {K : Nat → Nat} {N : Nat} {O : WO} {I0 : WI} {J0 : WJ} (hN : 2147483648 ≤ N) (hV : IV P K I0 O) {x0 : Int32} {Q : Int32 → Prop} (hQ : ∀ (z : Int32), (z.toInt = 0 ∨ z.toInt = 1) → ((Int32.toInt z = 1 ∧ 0 ≤ Int32.toInt x0 ∧ Int32.toInt x0 ≤ 3) ∨ (Int32.toInt z = 0 ∧ (Int32.toInt x0 < 0 ∨ 3 < Int32.toInt x0))) → Q z) : Wp (F_RM_isRate N O I0 J0 x0) Q := by
  unfold F_RM_isRate
  have r0 := rg x0
  have hV0 : SQ kP P K O I0 J0 I0 J0 := SQ.rf hV
  refine Wp.ite (fun c_1 => ?_) (fun c_1 => ?_)
  · skip
    exact Wp.ret (hQ (Int32.ofInt (0)) (by have hci : Int32.toInt (Int32.ofInt (0)) = 0 := ofI (by decide); omega) (by have hci : Int32.toInt (Int32.ofInt (0)) = 0 := ofI (by decide); first | omega | (dsimp only; omega)))
  · skip
    refine Wp.ite (fun c_6 => ?_) (fun c_6 => ?_)
    · skip
      exact Wp.ret (hQ (Int32.ofInt (0)) (by have hci : Int32.toInt (Int32.ofInt (0)) = 0 := ofI (by decide); omega) (by have hci : Int32.toInt (Int32.ofInt (0)) = 0 := ofI (by decide); first | omega | (dsimp only; omega)))
    · skip
      exact Wp.ret (hQ (Int32.ofInt (1)) (by have hci : Int32.toInt (Int32.ofInt (1)) = 1 := ofI (by decide); omega) (by have hci : Int32.toInt (Int32.ofInt (1)) = 1 := ofI (by decide); first | omega | (dsimp only; omega)))
set_option maxHeartbeats 4000000 in
set_option maxRecDepth 100000 in
theorem s_RM_isWater {P : List Nat} {K : Nat → Nat} {N : Nat} {O : WO} {I0 : WI} {J0 : WJ} (hN : 2147483648 ≤ N) (hV : IV P K I0 O) {x0 : Int32} {Q : Int32 → Prop} (hQ : ∀ (z : Int32), (z.toInt = 0 ∨ z.toInt = 1) → ((Int32.toInt z = 1 ∧ 0 ≤ Int32.toInt x0 ∧ Int32.toInt x0 ≤ 3) ∨ (Int32.toInt z = 0 ∧ (Int32.toInt x0 < 0 ∨ 3 < Int32.toInt x0))) → Q z) : Wp (F_RM_isWater N O I0 J0 x0) Q := by
  unfold F_RM_isWater
  have r0 := rg x0
  have hV0 : SQ kP P K O I0 J0 I0 J0 := SQ.rf hV
  refine Wp.ite (fun c_1 => ?_) (fun c_1 => ?_)
  · skip
    exact Wp.ret (hQ (Int32.ofInt (0)) (by have hci : Int32.toInt (Int32.ofInt (0)) = 0 := ofI (by decide); omega) (by have hci : Int32.toInt (Int32.ofInt (0)) = 0 := ofI (by decide); first | omega | (dsimp only; omega)))
  · skip
    refine Wp.ite (fun c_6 => ?_) (fun c_6 => ?_)
    · skip
      exact Wp.ret (hQ (Int32.ofInt (0)) (by have hci : Int32.toInt (Int32.ofInt (0)) = 0 := ofI (by decide); omega) (by have hci : Int32.toInt (Int32.ofInt (0)) = 0 := ofI (by decide); first | omega | (dsimp only; omega)))
    · skip
      exact Wp.ret (hQ (Int32.ofInt (1)) (by have hci : Int32.toInt (Int32.ofInt (1)) = 1 := ofI (by decide); omega) (by have hci : Int32.toInt (Int32.ofInt (1)) = 1 := ofI (by decide); first | omega | (dsimp only; omega)))
set_option maxHeartbeats 4000000 in
set_option maxRecDepth 100000 in
theorem s_RM_isPlanLength {P : List Nat} {K : Nat → Nat} {N : Nat} {O : WO} {I0 : WI} {J0 : WJ} (hN : 2147483648 ≤ N) (hV : IV P K I0 O) {x0 : Int32} {Q : Int32 → Prop} (hQ : ∀ (z : Int32), (z.toInt = 0 ∨ z.toInt = 1) → (Int32.toInt z = 0 ∨ (1 ≤ Int32.toInt x0 ∧ Int32.toInt x0 ≤ 5)) → Q z) : Wp (F_RM_isPlanLength N O I0 J0 x0) Q := by
  unfold F_RM_isPlanLength
  have r0 := rg x0
  have hV0 : SQ kP P K O I0 J0 I0 J0 := SQ.rf hV
  refine Wp.ite (fun c_2 => ?_) (fun c_2 => ?_)
  · skip
    exact Wp.ret (hQ (Int32.ofInt (0)) (by have hci : Int32.toInt (Int32.ofInt (0)) = 0 := ofI (by decide); omega) (by have hci : Int32.toInt (Int32.ofInt (0)) = 0 := ofI (by decide); first | omega | (dsimp only; omega)))
  · skip
    refine Wp.ite (fun c_7 => ?_) (fun c_7 => ?_)
    · skip
      exact Wp.ret (hQ (Int32.ofInt (0)) (by have hci : Int32.toInt (Int32.ofInt (0)) = 0 := ofI (by decide); omega) (by have hci : Int32.toInt (Int32.ofInt (0)) = 0 := ofI (by decide); first | omega | (dsimp only; omega)))
    · skip
      exact Wp.ret (hQ (Int32.ofInt (1)) (by have hci : Int32.toInt (Int32.ofInt (1)) = 1 := ofI (by decide); omega) (by have hci : Int32.toInt (Int32.ofInt (1)) = 1 := ofI (by decide); first | omega | (dsimp only; omega)))
set_option maxHeartbeats 4000000 in
set_option maxRecDepth 100000 in
theorem s_RM_isStart {P : List Nat} {K : Nat → Nat} {N : Nat} {O : WO} {I0 : WI} {J0 : WJ} (hN : 2147483648 ≤ N) (hV : IV P K I0 O) {x0 : Int32} {x1 : Int32} {x2 : Int32} {Q : Int32 → Prop} (hQ : ∀ (z : Int32), (z.toInt = 0 ∨ z.toInt = 1) → (Int32.toInt z = 0 ∨ (0 ≤ Int32.toInt x0 ∧ Int32.toInt x0 ≤ 3 ∧ 0 ≤ Int32.toInt x1 ∧ Int32.toInt x1 ≤ 4 ∧ 0 ≤ Int32.toInt x2 ∧ Int32.toInt x2 ≤ 4)) → Q z) : Wp (F_RM_isStart N O I0 J0 x0 x1 x2) Q := by
  unfold F_RM_isStart
  have r0 := rg x0
  have r1 := rg x1
  have r2 := rg x2
  have hV0 : SQ kP P K O I0 J0 I0 J0 := SQ.rf hV
  refine Wp.ite (fun c_1 => ?_) (fun c_1 => ?_)
  · skip
    exact Wp.ret (hQ (Int32.ofInt (0)) (by have hci : Int32.toInt (Int32.ofInt (0)) = 0 := ofI (by decide); omega) (by have hci : Int32.toInt (Int32.ofInt (0)) = 0 := ofI (by decide); first | omega | (dsimp only; omega)))
  · skip
    refine Wp.ite (fun c_6 => ?_) (fun c_6 => ?_)
    · skip
      exact Wp.ret (hQ (Int32.ofInt (0)) (by have hci : Int32.toInt (Int32.ofInt (0)) = 0 := ofI (by decide); omega) (by have hci : Int32.toInt (Int32.ofInt (0)) = 0 := ofI (by decide); first | omega | (dsimp only; omega)))
    · skip
      refine Wp.ite (fun c_10 => ?_) (fun c_10 => ?_)
      · skip
        exact Wp.ret (hQ (Int32.ofInt (0)) (by have hci : Int32.toInt (Int32.ofInt (0)) = 0 := ofI (by decide); omega) (by have hci : Int32.toInt (Int32.ofInt (0)) = 0 := ofI (by decide); first | omega | (dsimp only; omega)))
      · skip
        refine Wp.ite (fun c_15 => ?_) (fun c_15 => ?_)
        · skip
          exact Wp.ret (hQ (Int32.ofInt (0)) (by have hci : Int32.toInt (Int32.ofInt (0)) = 0 := ofI (by decide); omega) (by have hci : Int32.toInt (Int32.ofInt (0)) = 0 := ofI (by decide); first | omega | (dsimp only; omega)))
        · skip
          refine Wp.ite (fun c_19 => ?_) (fun c_19 => ?_)
          · skip
            exact Wp.ret (hQ (Int32.ofInt (0)) (by have hci : Int32.toInt (Int32.ofInt (0)) = 0 := ofI (by decide); omega) (by have hci : Int32.toInt (Int32.ofInt (0)) = 0 := ofI (by decide); first | omega | (dsimp only; omega)))
          · skip
            refine Wp.ite (fun c_24 => ?_) (fun c_24 => ?_)
            · skip
              exact Wp.ret (hQ (Int32.ofInt (0)) (by have hci : Int32.toInt (Int32.ofInt (0)) = 0 := ofI (by decide); omega) (by have hci : Int32.toInt (Int32.ofInt (0)) = 0 := ofI (by decide); first | omega | (dsimp only; omega)))
            · skip
              exact Wp.ret (hQ (Int32.ofInt (1)) (by have hci : Int32.toInt (Int32.ofInt (1)) = 1 := ofI (by decide); omega) (by have hci : Int32.toInt (Int32.ofInt (1)) = 1 := ofI (by decide); first | omega | (dsimp only; omega)))
set_option maxHeartbeats 4000000 in
set_option maxRecDepth 100000 in
theorem s_RM_wipe {P : List Nat} {K : Nat → Nat} {N : Nat} {O : WO} {I0 : WI} {J0 : WJ} (hN : 2147483648 ≤ N) (hV : IV P K I0 O) {a0 κ0 : Nat} (h0 : a0 ∈ P ∧ K a0 = κ0) (p0 : PQ kD κ0) {Q : WI → Prop} (hQ : ∀ (I_ : WI), IV P K I_ O → FQ kD K I0 J0 I_ J0 → True → Q I_) : Wp (F_RM_wipe N O I0 J0 a0 κ0) Q := by
  unfold F_RM_wipe
  have pb0 := p0.2.2.2.2
  have hV0 : SQ kD P K O I0 J0 I0 J0 := SQ.rf hV
  have lp_2 : ∀ (m_2 : Nat) (x1_2 : Int32) (I_2 : WI), Int.toNat (((alen κ0 : Nat) : Int) - (x1_2).toInt) < m_2 → (0 ≤ Int32.toInt x1_2 ∧ Int32.toInt x1_2 ≤ ((alen κ0 : Nat) : Int)) → SQ kD P K O I0 J0 I_2 J0 → Wp (lp (B_RM_wipe_2 N O (a0) (κ0)) (fun _ _ => none) m_2 x1_2 I_2) Q := by
    intro m_2
    induction m_2 with
    | zero => intro x1_2 I_2 hm; exact absurd hm (Nat.not_lt_zero _)
    | succ m_2 ih_2 =>
    intro x1_2 I_2 hm_2 iv0_2 hV_2
    have rg1_2 := rg x1_2
    show Wp (B_RM_wipe_2 N O (a0) (κ0) (lp (B_RM_wipe_2 N O (a0) (κ0)) (fun _ _ => none) m_2) x1_2 I_2) Q
    unfold B_RM_wipe_2
    have e_4 : (Int32.ofNat (alen κ0)).toInt = ((alen κ0 : Nat) : Int) := ofNl (by omega)
    refine Wp.ite (fun c_5 => ?_) (fun c_5 => ?_)
    · skip
      exact Wp.ret (hQ I_2 hV_2.1 hV_2.2 trivial)
    · skip
      refine Wp.pos (by omega) ?_
      refine Wp_lb (fun I1 eI1 => ?_)
      have hV1 : SQ kD P K O I0 J0 I1 J0 := by rw [eI1]; exact hV_2.putI h0.2 (p0.2.2.1 _) (p0.2.2.2.1 _ _)
      refine Wp_lb (fun v1_12 ev_12 => ?_)
      have rv_12 := rg v1_12
      first | (have e_12 : v1_12.toInt = (x1_2).toInt + 1 := by rw [ev_12]; exact t_add rfl (ofI (by decide)) (by omega)) | skip
      clear ev_12
      exact ih_2 (v1_12) I1 (by omega) (by omega) hV1
  exact lp_2 N ((Int32.ofInt (0))) I0 (by have hci0 : Int32.toInt (Int32.ofInt (0)) = 0 := ofI (by decide); omega) (by have hci0 : Int32.toInt (Int32.ofInt (0)) = 0 := ofI (by decide); omega) hV0
set_option maxHeartbeats 4000000 in
set_option maxRecDepth 100000 in
theorem s_RM_copyRow {P : List Nat} {K : Nat → Nat} {N : Nat} {O : WO} {I0 : WI} {J0 : WJ} (hN : 2147483648 ≤ N) (hV : IV P K I0 O) {a0 κ0 : Nat} (h0 : a0 ∈ P ∧ K a0 = κ0) (p0 : PQ kD κ0) {a1 κ1 : Nat} (h1 : a1 ∈ P ∧ K a1 = κ1) (p1 : PQ kD κ1) {Q : WI → Prop} (hQ : ∀ (I_ : WI), IV P K I_ O → FQ kD K I0 J0 I_ J0 → True → Q I_) : Wp (F_RM_copyRow N O I0 J0 a0 κ0 a1 κ1) Q := by
  unfold F_RM_copyRow
  have pb0 := p0.2.2.2.2
  have pb1 := p1.2.2.2.2
  have hV0 : SQ kD P K O I0 J0 I0 J0 := SQ.rf hV
  have lp_2 : ∀ (m_2 : Nat) (x2_2 : Int32) (I_2 : WI), Int.toNat (((alen κ0 : Nat) : Int) - (x2_2).toInt) < m_2 → (0 ≤ Int32.toInt x2_2 ∧ Int32.toInt x2_2 ≤ ((alen κ0 : Nat) : Int)) → SQ kD P K O I0 J0 I_2 J0 → Wp (lp (B_RM_copyRow_2 N O (a0) (κ0) (a1) (κ1)) (fun _ _ => none) m_2 x2_2 I_2) Q := by
    intro m_2
    induction m_2 with
    | zero => intro x2_2 I_2 hm; exact absurd hm (Nat.not_lt_zero _)
    | succ m_2 ih_2 =>
    intro x2_2 I_2 hm_2 iv0_2 hV_2
    have rg2_2 := rg x2_2
    show Wp (B_RM_copyRow_2 N O (a0) (κ0) (a1) (κ1) (lp (B_RM_copyRow_2 N O (a0) (κ0) (a1) (κ1)) (fun _ _ => none) m_2) x2_2 I_2) Q
    unfold B_RM_copyRow_2
    have e_4 : (Int32.ofNat (alen κ0)).toInt = ((alen κ0 : Nat) : Int) := ofNl (by omega)
    refine Wp.ite (fun c_5 => ?_) (fun c_5 => ?_)
    · skip
      exact Wp.ret (hQ I_2 hV_2.1 hV_2.2 trivial)
    · skip
      have e_10 : (Int32.ofNat (alen κ1)).toInt = ((alen κ1 : Nat) : Int) := ofNl (by omega)
      refine Wp.ite (fun c_11 => ?_) (fun c_11 => ?_)
      · skip
        exact Wp.ret (hQ I_2 hV_2.1 hV_2.2 trivial)
      · skip
        refine Wp.pos (by omega) ?_
        refine Wp.pos (by omega) ?_
        refine Wp_lb (fun I1 eI1 => ?_)
        have hV1 : SQ kD P K O I0 J0 I1 J0 := by rw [eI1]; exact hV_2.putI h1.2 (p1.2.2.1 _) (p1.2.2.2.1 _ _)
        refine Wp_lb (fun v2_20 ev_20 => ?_)
        have rv_20 := rg v2_20
        first | (have e_20 : v2_20.toInt = (x2_2).toInt + 1 := by rw [ev_20]; exact t_add rfl (ofI (by decide)) (by omega)) | skip
        clear ev_20
        exact ih_2 (v2_20) I1 (by omega) (by omega) hV1
  exact lp_2 N ((Int32.ofInt (0))) I0 (by have hci0 : Int32.toInt (Int32.ofInt (0)) = 0 := ofI (by decide); omega) (by have hci0 : Int32.toInt (Int32.ofInt (0)) = 0 := ofI (by decide); omega) hV0
set_option maxHeartbeats 4000000 in
set_option maxRecDepth 100000 in
theorem s_RM_sumOf {P : List Nat} {K : Nat → Nat} {N : Nat} {O : WO} {I0 : WI} {J0 : WJ} (hN : 2147483648 ≤ N) (hV : IV P K I0 O) {a0 : Nat} (h0 : a0 ∈ P ∧ K a0 = 11) {Q : Int32 → Prop} (hQ : ∀ (z : Int32), True → Q z) : Wp (F_RM_sumOf N O I0 J0 a0) Q := by
  unfold F_RM_sumOf
  have hV0 : SQ kP P K O I0 J0 I0 J0 := SQ.rf hV
  have lp_4 : ∀ (m_4 : Nat) (x1_4 : Int32) (x2_4 : Int32), Int.toNat (5 - (x2_4).toInt) < m_4 → (0 ≤ Int32.toInt x2_4 ∧ Int32.toInt x2_4 ≤ 5) → Wp (lp (B_RM_sumOf_4 N O (a0) (I0)) (fun _ _ => none) m_4 x1_4 x2_4) Q := by
    intro m_4
    induction m_4 with
    | zero => intro x1_4 x2_4 hm; exact absurd hm (Nat.not_lt_zero _)
    | succ m_4 ih_4 =>
    intro x1_4 x2_4 hm_4 iv0_4 
    have rg1_4 := rg x1_4
    have rg2_4 := rg x2_4
    show Wp (B_RM_sumOf_4 N O (a0) (I0) (lp (B_RM_sumOf_4 N O (a0) (I0)) (fun _ _ => none) m_4) x1_4 x2_4) Q
    unfold B_RM_sumOf_4
    refine Wp.ite (fun c_7 => ?_) (fun c_7 => ?_)
    · skip
      exact Wp.ret (hQ x1_4 trivial)
    · skip
      refine Wp.pos (by omega) ?_
      first | (have e_14 := t_add (x := x1_4) (y := (I0 a0 (x2_4).toInt.toNat)) rfl rfl (by omega)) | skip
      refine Wp_lb (fun v1_15 ev_15 => ?_)
      have ei_15 := congrArg Int32.toInt ev_15
      have rv_15 := rg v1_15
      refine Wp_lb (fun v2_16 ev_16 => ?_)
      have rv_16 := rg v2_16
      first | (have e_16 : v2_16.toInt = (x2_4).toInt + 1 := by rw [ev_16]; exact t_add rfl (ofI (by decide)) (by omega)) | skip
      clear ev_16
      exact ih_4 (v1_15) (v2_16) (by omega) (by omega) 
  exact lp_4 N ((Int32.ofInt (0))) ((Int32.ofInt (0))) (by have hci0 : Int32.toInt (Int32.ofInt (0)) = 0 := ofI (by decide); omega) (by have hci0 : Int32.toInt (Int32.ofInt (0)) = 0 := ofI (by decide); omega) 
set_option maxHeartbeats 4000000 in
set_option maxRecDepth 100000 in
theorem s_Si_exchanged {P : List Nat} {K : Nat → Nat} {N : Nat} {O : WO} {I0 : WI} {J0 : WJ} (hN : 2147483648 ≤ N) (hV : IV P K I0 O) {x0 : Int32} {x1 : Int32} {x2 : Int32} {Q : Int32 → Prop} (hQ : ∀ (z : Int32), True → Q z) : Wp (F_Si_exchanged N O I0 J0 x0 x1 x2) Q := by
  unfold F_Si_exchanged
  have r0 := rg x0
  have r1 := rg x1
  have r2 := rg x2
  have hV0 : SQ kP P K O I0 J0 I0 J0 := SQ.rf hV
  refine Wp.ite (fun c_2 => ?_) (fun c_2 => ?_)
  · skip
    exact Wp.ret (hQ x2 trivial)
  · skip
    refine Wp.ite (fun c_9 => ?_) (fun c_9 => ?_)
    · skip
      exact Wp.ret (hQ x1 trivial)
    · skip
      exact Wp.ret (hQ x0 trivial)
set_option maxHeartbeats 4000000 in
set_option maxRecDepth 100000 in
theorem s_Ml_priceAt {P : List Nat} {K : Nat → Nat} {N : Nat} {O : WO} {I0 : WI} {J0 : WJ} (hN : 2147483648 ≤ N) (hV : IV P K I0 O) {a0 : Nat} (h0 : a0 ∈ P ∧ K a0 = 3) {x1 : Int32} {Q : Int32 → Prop} (hQ : ∀ (z : Int32), True → Q z) : Wp (F_Ml_priceAt N O I0 J0 a0 x1) Q := by
  unfold F_Ml_priceAt
  have r1 := rg x1
  have hV0 : SQ kP P K O I0 J0 I0 J0 := SQ.rf hV
  refine Wp.ite (fun c_1 => ?_) (fun c_1 => ?_)
  · skip
    exact Wp.ret (hQ (Int32.ofInt (0)) trivial)
  · skip
    refine Wp.ite (fun c_9 => ?_) (fun c_9 => ?_)
    · skip
      exact Wp.ret (hQ (Int32.ofInt (0)) trivial)
    · skip
      refine Wp.ite (fun c_18 => ?_) (fun c_18 => ?_)
      · skip
        have t_24 := rf_ok hV.1 h0 (show sp 3 10 = some 13 from rfl)
        refine Wp.pos (by omega) ?_
        first | (have e_32 := tremF (x := x1) (y := (I0 a0 9)) rfl rfl (by omega)) | skip
        refine Wp.pos (by omega) ?_
        exact Wp.ret (hQ (I0 (rf O a0 10) ((x1 - x1 / (I0 a0 9) * (I0 a0 9))).toInt.toNat) trivial)
      · skip
        exact Wp.ret (hQ (Int32.ofInt (0)) trivial)
set_option maxHeartbeats 4000000 in
set_option maxRecDepth 100000 in
theorem s_Ml_hardOf {P : List Nat} {K : Nat → Nat} {N : Nat} {O : WO} {I0 : WI} {J0 : WJ} (hN : 2147483648 ≤ N) (hV : IV P K I0 O) {a0 : Nat} (h0 : a0 ∈ P ∧ K a0 = 3) {x1 : Int32} {Q : Int32 → Prop} (hQ : ∀ (z : Int32), True → Q z) : Wp (F_Ml_hardOf N O I0 J0 a0 x1) Q := by
  unfold F_Ml_hardOf
  have r1 := rg x1
  have hV0 : SQ kP P K O I0 J0 I0 J0 := SQ.rf hV
  refine Wp.ite (fun c_1 => ?_) (fun c_1 => ?_)
  · skip
    exact Wp.ret (hQ (Int32.ofInt (0)) trivial)
  · skip
    refine Wp.ite (fun c_6 => ?_) (fun c_6 => ?_)
    · skip
      exact Wp.ret (hQ (Int32.ofInt (0)) trivial)
    · skip
      have t_10 := rf_ok hV.1 h0 (show sp 3 13 = some 12 from rfl)
      refine Wp.pos (by omega) ?_
      exact Wp.ret (hQ (I0 (rf O a0 13) (x1).toInt.toNat) trivial)
set_option maxHeartbeats 4000000 in
set_option maxRecDepth 100000 in
theorem s_Ml_tonsOf {P : List Nat} {K : Nat → Nat} {N : Nat} {O : WO} {I0 : WI} {J0 : WJ} (hN : 2147483648 ≤ N) (hV : IV P K I0 O) {a0 : Nat} (h0 : a0 ∈ P ∧ K a0 = 3) {x1 : Int32} {x2 : Int32} {Q : Int32 → Prop} (hQ : ∀ (z : Int32), True → Q z) : Wp (F_Ml_tonsOf N O I0 J0 a0 x1 x2) Q := by
  unfold F_Ml_tonsOf
  have r1 := rg x1
  have r2 := rg x2
  have hV0 : SQ kP P K O I0 J0 I0 J0 := SQ.rf hV
  refine Wp.ite (fun c_1 => ?_) (fun c_1 => ?_)
  · skip
    exact Wp.ret (hQ (Int32.ofInt (0)) trivial)
  · skip
    refine Wp.ite (fun c_6 => ?_) (fun c_6 => ?_)
    · skip
      exact Wp.ret (hQ (Int32.ofInt (0)) trivial)
    · skip
      refine Wp.ite (fun c_10 => ?_) (fun c_10 => ?_)
      · skip
        exact Wp.ret (hQ (Int32.ofInt (0)) trivial)
      · skip
        refine Wp.ite (fun c_15 => ?_) (fun c_15 => ?_)
        · skip
          have t_21 := rf_ok hV.1 h0 (show sp 3 14 = some 14 from rfl)
          first | (have e_26 := t_mul (x := x1) (y := (Int32.ofInt (5))) rfl (ofI (by decide)) (by omega)) | skip
          first | (have e_28 := t_add (x := (x1 * (Int32.ofInt (5)))) (y := x2) rfl rfl (by omega)) | skip
          refine Wp.pos (by omega) ?_
          exact Wp.ret (hQ (I0 (rf O a0 14) (((x1 * (Int32.ofInt (5))) + x2)).toInt.toNat) trivial)
        · skip
          exact Wp.ret (hQ (Int32.ofInt (0)) trivial)
set_option maxHeartbeats 4000000 in
set_option maxRecDepth 100000 in
theorem s_Ld_makeEmpty {P : List Nat} {K : Nat → Nat} {N : Nat} {O : WO} {I0 : WI} {J0 : WJ} (hN : 2147483648 ≤ N) (hV : IV P K I0 O) {a0 : Nat} (h0 : a0 ∈ P ∧ K a0 = 2) {Q : WI → Prop} (hQ : ∀ (I_ : WI), IV P K I_ O → FQ kD K I0 J0 I_ J0 → True → Q I_) : Wp (F_Ld_makeEmpty N O I0 J0 a0) Q := by
  unfold F_Ld_makeEmpty
  have hV0 : SQ kD P K O I0 J0 I0 J0 := SQ.rf hV
  have t_1 := rf_ok hV.1 h0 (show sp 2 0 = some 11 from rfl)
  refine Wpc1 (s_RM_wipe hN hV0.1 t_1 ⟨by decide, rfl, fun _ => rfl, fun _ _ => trivial, by decide⟩ (fun I1 hI1 hF1 p_4 => ?_))
  have hV1 : SQ kD P K O I0 J0 I1 J0 := hV0.call (fun _ _ h => h) hI1 hF1
  have t_8 := rf_ok hV.1 h0 (show sp 2 1 = some 11 from rfl)
  refine Wpc1 (s_RM_wipe hN hV1.1 t_8 ⟨by decide, rfl, fun _ => rfl, fun _ _ => trivial, by decide⟩ (fun I2 hI2 hF2 p_11 => ?_))
  have hV2 : SQ kD P K O I0 J0 I2 J0 := hV1.call (fun _ _ h => h) hI2 hF2
  have t_15 := rf_ok hV.1 h0 (show sp 2 2 = some 11 from rfl)
  refine Wpc1 (s_RM_wipe hN hV2.1 t_15 ⟨by decide, rfl, fun _ => rfl, fun _ _ => trivial, by decide⟩ (fun I3 hI3 hF3 p_18 => ?_))
  have hV3 : SQ kD P K O I0 J0 I3 J0 := hV2.call (fun _ _ h => h) hI3 hF3
  exact Wp.ret (hQ I3 hV3.1 hV3.2 trivial)
set_option maxHeartbeats 4000000 in
set_option maxRecDepth 100000 in
theorem s_Ld_copyFrom {P : List Nat} {K : Nat → Nat} {N : Nat} {O : WO} {I0 : WI} {J0 : WJ} (hN : 2147483648 ≤ N) (hV : IV P K I0 O) {a0 : Nat} (h0 : a0 ∈ P ∧ K a0 = 2) {a1 : Nat} (h1 : a1 ∈ P ∧ K a1 = 2) {Q : WI → Prop} (hQ : ∀ (I_ : WI), IV P K I_ O → FQ kD K I0 J0 I_ J0 → True → Q I_) : Wp (F_Ld_copyFrom N O I0 J0 a0 a1) Q := by
  unfold F_Ld_copyFrom
  have hV0 : SQ kD P K O I0 J0 I0 J0 := SQ.rf hV
  have t_1 := rf_ok hV.1 h1 (show sp 2 0 = some 11 from rfl)
  have t_5 := rf_ok hV.1 h0 (show sp 2 0 = some 11 from rfl)
  refine Wpc1 (s_RM_copyRow hN hV0.1 t_1 ⟨by decide, rfl, fun _ => rfl, fun _ _ => trivial, by decide⟩ t_5 ⟨by decide, rfl, fun _ => rfl, fun _ _ => trivial, by decide⟩ (fun I1 hI1 hF1 p_8 => ?_))
  have hV1 : SQ kD P K O I0 J0 I1 J0 := hV0.call (fun _ _ h => h) hI1 hF1
  have t_12 := rf_ok hV.1 h1 (show sp 2 1 = some 11 from rfl)
  have t_16 := rf_ok hV.1 h0 (show sp 2 1 = some 11 from rfl)
  refine Wpc1 (s_RM_copyRow hN hV1.1 t_12 ⟨by decide, rfl, fun _ => rfl, fun _ _ => trivial, by decide⟩ t_16 ⟨by decide, rfl, fun _ => rfl, fun _ _ => trivial, by decide⟩ (fun I2 hI2 hF2 p_19 => ?_))
  have hV2 : SQ kD P K O I0 J0 I2 J0 := hV1.call (fun _ _ h => h) hI2 hF2
  have t_23 := rf_ok hV.1 h1 (show sp 2 2 = some 11 from rfl)
  have t_27 := rf_ok hV.1 h0 (show sp 2 2 = some 11 from rfl)
  refine Wpc1 (s_RM_copyRow hN hV2.1 t_23 ⟨by decide, rfl, fun _ => rfl, fun _ _ => trivial, by decide⟩ t_27 ⟨by decide, rfl, fun _ => rfl, fun _ _ => trivial, by decide⟩ (fun I3 hI3 hF3 p_30 => ?_))
  have hV3 : SQ kD P K O I0 J0 I3 J0 := hV2.call (fun _ _ h => h) hI3 hF3
  exact Wp.ret (hQ I3 hV3.1 hV3.2 trivial)
set_option maxHeartbeats 4000000 in
set_option maxRecDepth 100000 in
theorem s_Ld_takeBack {P : List Nat} {K : Nat → Nat} {N : Nat} {O : WO} {I0 : WI} {J0 : WJ} (hN : 2147483648 ≤ N) (hV : IV P K I0 O) {a0 : Nat} (h0 : a0 ∈ P ∧ K a0 = 2) {Q : WI → Prop} (hQ : ∀ (I_ : WI), IV P K I_ O → FQ kD K I0 J0 I_ J0 → True → Q I_) : Wp (F_Ld_takeBack N O I0 J0 a0) Q := by
  unfold F_Ld_takeBack
  have hV0 : SQ kD P K O I0 J0 I0 J0 := SQ.rf hV
  have lp_2 : ∀ (m_2 : Nat) (x1_2 : Int32) (I_2 : WI), Int.toNat (5 - (x1_2).toInt) < m_2 → (0 ≤ Int32.toInt x1_2 ∧ Int32.toInt x1_2 ≤ 5) → SQ kD P K O I0 J0 I_2 J0 → Wp (lp (B_Ld_takeBack_2 N O (a0)) (fun _ _ => none) m_2 x1_2 I_2) Q := by
    intro m_2
    induction m_2 with
    | zero => intro x1_2 I_2 hm; exact absurd hm (Nat.not_lt_zero _)
    | succ m_2 ih_2 =>
    intro x1_2 I_2 hm_2 iv0_2 hV_2
    have rg1_2 := rg x1_2
    show Wp (B_Ld_takeBack_2 N O (a0) (lp (B_Ld_takeBack_2 N O (a0)) (fun _ _ => none) m_2) x1_2 I_2) Q
    unfold B_Ld_takeBack_2
    refine Wp.ite (fun c_4 => ?_) (fun c_4 => ?_)
    · skip
      exact Wp.ret (hQ I_2 hV_2.1 hV_2.2 trivial)
    · skip
      have t_8 := rf_ok hV.1 h0 (show sp 2 0 = some 11 from rfl)
      refine Wp.pos (by omega) ?_
      have t_15 := rf_ok hV.1 h0 (show sp 2 1 = some 11 from rfl)
      refine Wp.pos (by omega) ?_
      first | (have e_20 := t_add (x := (I_2 (rf O a0 0) (x1_2).toInt.toNat)) (y := (I_2 (rf O a0 1) (x1_2).toInt.toNat)) rfl rfl (by omega)) | skip
      refine Wp.pos (by omega) ?_
      refine Wp_lb (fun I1 eI1 => ?_)
      have hV1 : SQ kD P K O I0 J0 I1 J0 := by rw [eI1]; exact hV_2.putI t_8.2 rfl trivial
      have t_23 := rf_ok hV.1 h0 (show sp 2 1 = some 11 from rfl)
      refine Wp.pos (by omega) ?_
      refine Wp_lb (fun I2 eI2 => ?_)
      have hV2 : SQ kD P K O I0 J0 I2 J0 := by rw [eI2]; exact hV1.putI t_23.2 rfl trivial
      refine Wp_lb (fun v1_29 ev_29 => ?_)
      have rv_29 := rg v1_29
      first | (have e_29 : v1_29.toInt = (x1_2).toInt + 1 := by rw [ev_29]; exact t_add rfl (ofI (by decide)) (by omega)) | skip
      clear ev_29
      exact ih_2 (v1_29) I2 (by omega) (by omega) hV2
  exact lp_2 N ((Int32.ofInt (0))) I0 (by have hci0 : Int32.toInt (Int32.ofInt (0)) = 0 := ofI (by decide); omega) (by have hci0 : Int32.toInt (Int32.ofInt (0)) = 0 := ofI (by decide); omega) hV0
set_option maxHeartbeats 4000000 in
set_option maxRecDepth 100000 in
theorem s_Ld_breakUp {P : List Nat} {K : Nat → Nat} {N : Nat} {O : WO} {I0 : WI} {J0 : WJ} (hN : 2147483648 ≤ N) (hV : IV P K I0 O) {a0 : Nat} (h0 : a0 ∈ P ∧ K a0 = 2) {a1 : Nat} (h1 : a1 ∈ P ∧ K a1 = 3) {x2 : Int32} {Q : WI → Prop} (hQ : ∀ (I_ : WI), IV P K I_ O → FQ kD K I0 J0 I_ J0 → True → Q I_) : Wp (F_Ld_breakUp N O I0 J0 a0 a1 x2) Q := by
  unfold F_Ld_breakUp
  have r2 := rg x2
  have hV0 : SQ kD P K O I0 J0 I0 J0 := SQ.rf hV
  have o_1 := hV0.1.2 a1 h1.1 7
  rw [h1.2] at o_1
  replace o_1 : 0 ≤ (I0 a1 7).toInt ∧ (I0 a1 7).toInt ≤ 5 := o_1
  have e_5 := mn_f (x := (I0 a1 7)) (y := (Int32.ofInt (5)))
  have k1_5 : Int32.toInt (Int32.ofInt (5)) = 5 := ofI (by decide)
  first | (have e_9 := t_sub (x := (mnI (I0 a1 7) (Int32.ofInt (5)))) (y := (Int32.ofInt (1))) rfl (ofI (by decide)) (by omega)) | skip
  refine Wp_lb (fun v3_10 ev_10 => ?_)
  have ei_10 := congrArg Int32.toInt ev_10
  have rv_10 := rg v3_10
  first | (have e_13 := t_sub (x := v3_10) (y := (Int32.ofInt (1))) rfl (ofI (by decide)) (by omega)) | skip
  refine Wp_lb (fun v4_14 ev_14 => ?_)
  have ei_14 := congrArg Int32.toInt ev_14
  have rv_14 := rg v4_14
  have lp_16 : ∀ (m_16 : Nat) (x4_16 : Int32) (I_16 : WI), Int.toNat ((x4_16).toInt + 3) < m_16 → (-2 ≤ Int32.toInt x4_16 ∧ Int32.toInt x4_16 ≤ 3) → SQ kD P K O I0 J0 I_16 J0 → Wp (lp (B_Ld_breakUp_16 N O (a0) (a1) (x2) (J0) (v3_10)) (fun _ _ => none) m_16 x4_16 I_16) Q := by
    intro m_16
    induction m_16 with
    | zero => intro x4_16 I_16 hm; exact absurd hm (Nat.not_lt_zero _)
    | succ m_16 ih_16 =>
    intro x4_16 I_16 hm_16 iv0_16 hV_16
    have rg4_16 := rg x4_16
    show Wp (B_Ld_breakUp_16 N O (a0) (a1) (x2) (J0) (v3_10) (lp (B_Ld_breakUp_16 N O (a0) (a1) (x2) (J0) (v3_10)) (fun _ _ => none) m_16) x4_16 I_16) Q
    unfold B_Ld_breakUp_16
    refine Wp.ite (fun c_18 => ?_) (fun c_18 => ?_)
    · skip
      exact Wp.ret (hQ I_16 hV_16.1 hV_16.2 trivial)
    · skip
      have t_22 := rf_ok hV.1 h0 (show sp 2 0 = some 11 from rfl)
      refine Wp.pos (by omega) ?_
      have t_29 := rf_ok hV.1 h1 (show sp 3 11 = some 11 from rfl)
      refine Wp.pos (by omega) ?_
      refine Wpc1 (s_RM_share hN hV_16.1  (fun z_40 p_40 => ?_))
      have rz_40 := rg z_40
      first | (have e_48 := t_add (x := x4_16) (y := (Int32.ofInt (2))) rfl (ofI (by decide)) (by omega)) | skip
      refine Wp_jq (fun k_72 => ∀ (s0_72 : Int32), Wp (k_72 s0_72) Q) (fun s0_72   => ?_) (fun k_72 hk_72 => ?_)
      · skip
        have rgs_s0_72 := rg s0_72
        have t_75 := rf_ok hV.1 h0 (show sp 2 0 = some 11 from rfl)
        refine Wp.pos (by omega) ?_
        first | (have e_84 := t_sub (x := (I_16 (rf O a0 0) (x4_16).toInt.toNat)) (y := z_40) rfl rfl (by omega)) | skip
        refine Wp.pos (by omega) ?_
        refine Wp_lb (fun I2 eI2 => ?_)
        have hV2 : SQ kD P K O I0 J0 I2 J0 := by rw [eI2]; exact hV_16.putI t_75.2 rfl trivial
        have t_87 := rf_ok hV.1 h0 (show sp 2 0 = some 11 from rfl)
        first | (have e_93 := t_add (x := x4_16) (y := (Int32.ofInt (1))) rfl (ofI (by decide)) (by omega)) | skip
        refine Wp.pos (by omega) ?_
        first | (have e_98 := t_add (x := (I2 (rf O a0 0) ((x4_16 + (Int32.ofInt (1)))).toInt.toNat)) (y := s0_72) rfl rfl (by omega)) | skip
        refine Wp.pos (by omega) ?_
        refine Wp_lb (fun I3 eI3 => ?_)
        have hV3 : SQ kD P K O I0 J0 I3 J0 := by rw [eI3]; exact hV2.putI t_87.2 rfl trivial
        first | (have e_103 := t_add (x := x4_16) (y := (Int32.ofInt (2))) rfl (ofI (by decide)) (by omega)) | skip
        refine Wp_jq (fun k_125 => ∀ (IJ_125 : WI), SQ kD P K O I0 J0 IJ_125 J0 → Wp (k_125 IJ_125) Q) (fun IJ_125  hVJ_125 => ?_) (fun k_125 hk_125 => ?_)
        · skip
          refine Wp_lb (fun v4_125 ev_125 => ?_)
          have rv_125 := rg v4_125
          first | (have e_125 : v4_125.toInt = (x4_16).toInt + (-1) := by rw [ev_125]; exact t_add rfl (ofI (by decide)) (by omega)) | skip
          clear ev_125
          exact ih_16 (v4_125) IJ_125 (by omega) (by omega) hVJ_125
        refine Wp.ite (fun c_105 => ?_) (fun c_105 => ?_)
        · skip
          exact hk_125  I3  hV3
        · skip
          have t_109 := rf_ok hV.1 h0 (show sp 2 0 = some 11 from rfl)
          first | (have e_115 := t_add (x := x4_16) (y := (Int32.ofInt (2))) rfl (ofI (by decide)) (by omega)) | skip
          refine Wp.pos (by omega) ?_
          first | (have e_122 := t_sub (x := z_40) (y := s0_72) rfl rfl (by omega)) | skip
          first | (have e_123 := t_add (x := (I3 (rf O a0 0) ((x4_16 + (Int32.ofInt (2)))).toInt.toNat)) (y := (z_40 - s0_72)) rfl rfl (by omega)) | skip
          refine Wp.pos (by omega) ?_
          refine Wp_lb (fun I4 eI4 => ?_)
          have hV4 : SQ kD P K O I0 J0 I4 J0 := by rw [eI4]; exact hV3.putI t_109.2 rfl trivial
          exact hk_125  I4  hV4
      refine Wp.ite (fun c_50 => ?_) (fun c_50 => ?_)
      · skip
        have t_61 := rf_ok hV.1 h1 (show sp 3 12 = some 11 from rfl)
        refine Wp.pos (by omega) ?_
        refine Wpc1 (s_RM_share hN hV_16.1  (fun z_69 p_69 => ?_))
        have rz_69 := rg z_69
        exact hk_72 (z_69)  
      · skip
        exact hk_72 (z_40)  
  exact lp_16 N (v4_14) I0 (by omega) (by omega) hV0
set_option maxHeartbeats 4000000 in
set_option maxRecDepth 100000 in
theorem s_Ld_sift {P : List Nat} {K : Nat → Nat} {N : Nat} {O : WO} {I0 : WI} {J0 : WJ} (hN : 2147483648 ≤ N) (hV : IV P K I0 O) {a0 : Nat} (h0 : a0 ∈ P ∧ K a0 = 2) {a1 : Nat} (h1 : a1 ∈ P ∧ K a1 = 3) {x2 : Int32} {x3 : Int32} {Q : WI → Prop} (hQ : ∀ (I_ : WI), IV P K I_ O → FQ kD K I0 J0 I_ J0 → True → Q I_) : Wp (F_Ld_sift N O I0 J0 a0 a1 x2 x3) Q := by
  unfold F_Ld_sift
  have r2 := rg x2
  have r3 := rg x3
  have hV0 : SQ kD P K O I0 J0 I0 J0 := SQ.rf hV
  have e_8 := mn_f (x := (x3 * (I0 a1 3))) (y := (Int32.ofInt (100)))
  have k1_8 : Int32.toInt (Int32.ofInt (100)) = 100 := ofI (by decide)
  refine Wp_lb (fun v4_11 ev_11 => ?_)
  have ei_11 := congrArg Int32.toInt ev_11
  have rv_11 := rg v4_11
  have lp_16 : ∀ (m_16 : Nat) (x5_16 : Int32) (I_16 : WI), Int.toNat (5 - (x5_16).toInt) < m_16 → (0 ≤ Int32.toInt x5_16 ∧ Int32.toInt x5_16 ≤ 5) → SQ kD P K O I0 J0 I_16 J0 → Wp (lp (B_Ld_sift_16 N O (a0) (a1) (x2) (J0) (v4_11)) (fun _ _ => none) m_16 x5_16 I_16) Q := by
    intro m_16
    induction m_16 with
    | zero => intro x5_16 I_16 hm; exact absurd hm (Nat.not_lt_zero _)
    | succ m_16 ih_16 =>
    intro x5_16 I_16 hm_16 iv0_16 hV_16
    have rg5_16 := rg x5_16
    show Wp (B_Ld_sift_16 N O (a0) (a1) (x2) (J0) (v4_11) (lp (B_Ld_sift_16 N O (a0) (a1) (x2) (J0) (v4_11)) (fun _ _ => none) m_16) x5_16 I_16) Q
    unfold B_Ld_sift_16
    refine Wp.ite (fun c_19 => ?_) (fun c_19 => ?_)
    · skip
      exact Wp.ret (hQ I_16 hV_16.1 hV_16.2 trivial)
    · skip
      have t_23 := rf_ok hV.1 h0 (show sp 2 0 = some 11 from rfl)
      refine Wp.pos (by omega) ?_
      first | (have e_34 := t_mul (x := (Int32.ofInt (10))) (y := x2) (ofI (by decide)) rfl (by omega)) | skip
      first | (have e_35 := t_add (x := (Int32.ofInt (20))) (y := ((Int32.ofInt (10)) * x2)) (ofI (by decide)) rfl (by omega)) | skip
      refine Wpc1 (s_RM_share hN hV_16.1  (fun z_38 p_38 => ?_))
      have rz_38 := rg z_38
      have t_44 := rf_ok hV.1 h0 (show sp 2 0 = some 11 from rfl)
      refine Wp.pos (by omega) ?_
      first | (have e_53 := t_sub (x := (I_16 (rf O a0 0) (x5_16).toInt.toNat)) (y := z_38) rfl rfl (by omega)) | skip
      refine Wp.pos (by omega) ?_
      refine Wp_lb (fun I2 eI2 => ?_)
      have hV2 : SQ kD P K O I0 J0 I2 J0 := by rw [eI2]; exact hV_16.putI t_44.2 rfl trivial
      have t_56 := rf_ok hV.1 h0 (show sp 2 2 = some 11 from rfl)
      refine Wp_jq (fun k_84 => ∀ (s0_84 : Int32), Wp (k_84 s0_84) Q) (fun s0_84   => ?_) (fun k_84 hk_84 => ?_)
      · skip
        have rgs_s0_84 := rg s0_84
        refine Wp.pos (by omega) ?_
        refine Wp_lb (fun I3 eI3 => ?_)
        have hV3 : SQ kD P K O I0 J0 I3 J0 := by rw [eI3]; exact hV2.putI t_56.2 rfl trivial
        have t_86 := rf_ok hV.1 h0 (show sp 2 1 = some 11 from rfl)
        have t_94 := rf_ok hV.1 h0 (show sp 2 2 = some 11 from rfl)
        refine Wp.pos (by omega) ?_
        first | (have e_100 := t_sub (x := z_38) (y := (I3 (rf O a0 2) (x5_16).toInt.toNat)) rfl rfl (by omega)) | skip
        refine Wp.pos (by omega) ?_
        refine Wp_lb (fun I4 eI4 => ?_)
        have hV4 : SQ kD P K O I0 J0 I4 J0 := by rw [eI4]; exact hV3.putI t_86.2 rfl trivial
        refine Wp_lb (fun v5_102 ev_102 => ?_)
        have rv_102 := rg v5_102
        first | (have e_102 : v5_102.toInt = (x5_16).toInt + 1 := by rw [ev_102]; exact t_add rfl (ofI (by decide)) (by omega)) | skip
        clear ev_102
        exact ih_16 (v5_102) I4 (by omega) (by omega) hV4
      refine Wp.ite (fun c_67 => ?_) (fun c_67 => ?_)
      · skip
        exact hk_84 (z_38)  
      · skip
        refine Wpc1 (s_RM_share hN hV2.1  (fun z_76 p_76 => ?_))
        have rz_76 := rg z_76
        exact hk_84 (z_76)  
  exact lp_16 N ((Int32.ofInt (0))) I0 (by have hci0 : Int32.toInt (Int32.ofInt (0)) = 0 := ofI (by decide); omega) (by have hci0 : Int32.toInt (Int32.ofInt (0)) = 0 := ofI (by decide); omega) hV0
set_option maxHeartbeats 4000000 in
set_option maxRecDepth 100000 in
theorem s_Ld_digOut {P : List Nat} {K : Nat → Nat} {N : Nat} {O : WO} {I0 : WI} {J0 : WJ} (hN : 2147483648 ≤ N) (hV : IV P K I0 O) {a0 : Nat} (h0 : a0 ∈ P ∧ K a0 = 2) {Q : (Int32 × WI) → Prop} (hQ : ∀ (z : Int32) (I_ : WI), IV P K I_ O → FQ kD K I0 J0 I_ J0 → True → Q (z, I_)) : Wp (F_Ld_digOut N O I0 J0 a0) Q := by
  unfold F_Ld_digOut
  have hV0 : SQ kD P K O I0 J0 I0 J0 := SQ.rf hV
  have lp_4 : ∀ (m_4 : Nat) (x1_4 : Int32) (x2_4 : Int32) (I_4 : WI), Int.toNat (5 - (x2_4).toInt) < m_4 → (0 ≤ Int32.toInt x2_4 ∧ Int32.toInt x2_4 ≤ 5) → SQ kD P K O I0 J0 I_4 J0 → Wp (lp (B_Ld_digOut_4 N O (a0)) (fun _ _ _ => none) m_4 x1_4 x2_4 I_4) Q := by
    intro m_4
    induction m_4 with
    | zero => intro x1_4 x2_4 I_4 hm; exact absurd hm (Nat.not_lt_zero _)
    | succ m_4 ih_4 =>
    intro x1_4 x2_4 I_4 hm_4 iv0_4 hV_4
    have rg1_4 := rg x1_4
    have rg2_4 := rg x2_4
    show Wp (B_Ld_digOut_4 N O (a0) (lp (B_Ld_digOut_4 N O (a0)) (fun _ _ _ => none) m_4) x1_4 x2_4 I_4) Q
    unfold B_Ld_digOut_4
    refine Wp.ite (fun c_6 => ?_) (fun c_6 => ?_)
    · skip
      exact Wp.ret (hQ x1_4 I_4 hV_4.1 hV_4.2 trivial)
    · skip
      have t_10 := rf_ok hV.1 h0 (show sp 2 0 = some 11 from rfl)
      refine Wp.pos (by omega) ?_
      have t_16 := rf_ok hV.1 h0 (show sp 2 0 = some 11 from rfl)
      refine Wp.pos (by omega) ?_
      first | (have e_23 := tdivF (x := (I_4 (rf O a0 0) (x2_4).toInt.toNat)) (y := (Int32.ofInt (10))) rfl (ofI (by decide)) (by decide)) | skip
      first | (have e_25 := t_add (x := ((I_4 (rf O a0 0) (x2_4).toInt.toNat) / (Int32.ofInt (10)))) (y := (Int32.ofInt (1))) rfl (ofI (by decide)) (by omega)) | skip
      have e_26 := mn_f (x := (I_4 (rf O a0 0) (x2_4).toInt.toNat)) (y := (((I_4 (rf O a0 0) (x2_4).toInt.toNat) / (Int32.ofInt (10))) + (Int32.ofInt (1))))
      refine Wp_lb (fun v3_29 ev_29 => ?_)
      have ei_29 := congrArg Int32.toInt ev_29
      have rv_29 := rg v3_29
      have t_31 := rf_ok hV.1 h0 (show sp 2 0 = some 11 from rfl)
      refine Wp.pos (by omega) ?_
      first | (have e_38 := t_sub (x := (I_4 (rf O a0 0) (x2_4).toInt.toNat)) (y := v3_29) rfl rfl (by omega)) | skip
      refine Wp.pos (by omega) ?_
      refine Wp_lb (fun I1 eI1 => ?_)
      have hV1 : SQ kD P K O I0 J0 I1 J0 := by rw [eI1]; exact hV_4.putI t_31.2 rfl trivial
      first | (have e_42 := t_add (x := x1_4) (y := v3_29) rfl rfl (by omega)) | skip
      refine Wp_lb (fun v1_43 ev_43 => ?_)
      have ei_43 := congrArg Int32.toInt ev_43
      have rv_43 := rg v1_43
      refine Wp_lb (fun v2_44 ev_44 => ?_)
      have rv_44 := rg v2_44
      first | (have e_44 : v2_44.toInt = (x2_4).toInt + 1 := by rw [ev_44]; exact t_add rfl (ofI (by decide)) (by omega)) | skip
      clear ev_44
      exact ih_4 (v1_43) (v2_44) I1 (by omega) (by omega) hV1
  exact lp_4 N ((Int32.ofInt (0))) ((Int32.ofInt (0))) I0 (by have hci0 : Int32.toInt (Int32.ofInt (0)) = 0 := ofI (by decide); omega) (by have hci0 : Int32.toInt (Int32.ofInt (0)) = 0 := ofI (by decide); omega) hV0
set_option maxHeartbeats 4000000 in
set_option maxRecDepth 100000 in
theorem s_Dr_beginEmpty {P : List Nat} {K : Nat → Nat} {N : Nat} {O : WO} {I0 : WI} {J0 : WJ} (hN : 2147483648 ≤ N) (hV : IV P K I0 O) {a0 : Nat} (h0 : a0 ∈ P ∧ K a0 = 0) {Q : WI → Prop} (hQ : ∀ (I_ : WI), IV P K I_ O → FQ kD K I0 J0 I_ J0 → True → Q I_) : Wp (F_Dr_beginEmpty N O I0 J0 a0) Q := by
  unfold F_Dr_beginEmpty
  have hV0 : SQ kD P K O I0 J0 I0 J0 := SQ.rf hV
  have t_1 := rf_ok hV.1 h0 (show sp 0 0 = some 2 from rfl)
  refine Wpc1 (s_Ld_makeEmpty hN hV0.1 t_1 (fun I1 hI1 hF1 p_4 => ?_))
  have hV1 : SQ kD P K O I0 J0 I1 J0 := hV0.call (fun _ _ h => h) hI1 hF1
  have t_8 := rf_ok hV.1 h0 (show sp 0 1 = some 11 from rfl)
  refine Wpc1 (s_RM_wipe hN hV1.1 t_8 ⟨by decide, rfl, fun _ => rfl, fun _ _ => trivial, by decide⟩ (fun I2 hI2 hF2 p_11 => ?_))
  have hV2 : SQ kD P K O I0 J0 I2 J0 := hV1.call (fun _ _ h => h) hI2 hF2
  refine Wp_lb (fun I3 eI3 => ?_)
  have hV3 : SQ kD P K O I0 J0 I3 J0 := by rw [eI3]; exact hV2.putI h0.2 rfl trivial
  refine Wp_lb (fun I4 eI4 => ?_)
  have hV4 : SQ kD P K O I0 J0 I4 J0 := by rw [eI4]; exact hV3.putI h0.2 rfl trivial
  refine Wp_lb (fun I5 eI5 => ?_)
  have hV5 : SQ kD P K O I0 J0 I5 J0 := by rw [eI5]; exact hV4.putI h0.2 rfl trivial
  refine Wp_lb (fun I6 eI6 => ?_)
  have hV6 : SQ kD P K O I0 J0 I6 J0 := by rw [eI6]; exact hV5.putI h0.2 rfl (show B01 _ from by unfold B01; have hci : Int32.toInt (Int32.ofInt (0)) = 0 := ofI (by decide); omega)
  refine Wp_lb (fun I7 eI7 => ?_)
  have hV7 : SQ kD P K O I0 J0 I7 J0 := by rw [eI7]; exact hV6.putI h0.2 rfl trivial
  refine Wp_lb (fun I8 eI8 => ?_)
  have hV8 : SQ kD P K O I0 J0 I8 J0 := by rw [eI8]; exact hV7.putI h0.2 rfl trivial
  refine Wp_lb (fun I9 eI9 => ?_)
  have hV9 : SQ kD P K O I0 J0 I9 J0 := by rw [eI9]; exact hV8.putI h0.2 rfl trivial
  refine Wp_lb (fun I10 eI10 => ?_)
  have hV10 : SQ kD P K O I0 J0 I10 J0 := by rw [eI10]; exact hV9.putI h0.2 rfl trivial
  refine Wp_lb (fun I11 eI11 => ?_)
  have hV11 : SQ kD P K O I0 J0 I11 J0 := by rw [eI11]; exact hV10.putI h0.2 rfl trivial
  refine Wp_lb (fun I12 eI12 => ?_)
  have hV12 : SQ kD P K O I0 J0 I12 J0 := by rw [eI12]; exact hV11.putI h0.2 rfl trivial
  refine Wp_lb (fun I13 eI13 => ?_)
  have hV13 : SQ kD P K O I0 J0 I13 J0 := by rw [eI13]; exact hV12.putI h0.2 rfl trivial
  refine Wp_lb (fun I14 eI14 => ?_)
  have hV14 : SQ kD P K O I0 J0 I14 J0 := by rw [eI14]; exact hV13.putI h0.2 rfl trivial
  refine Wp_lb (fun I15 eI15 => ?_)
  have hV15 : SQ kD P K O I0 J0 I15 J0 := by rw [eI15]; exact hV14.putI h0.2 rfl trivial
  refine Wp_lb (fun I16 eI16 => ?_)
  have hV16 : SQ kD P K O I0 J0 I16 J0 := by rw [eI16]; exact hV15.putI h0.2 rfl trivial
  refine Wp_lb (fun I17 eI17 => ?_)
  have hV17 : SQ kD P K O I0 J0 I17 J0 := by rw [eI17]; exact hV16.putI h0.2 rfl trivial
  exact Wp.ret (hQ I17 hV17.1 hV17.2 trivial)
set_option maxHeartbeats 4000000 in
set_option maxRecDepth 100000 in
theorem s_Dr_beginStart {P : List Nat} {K : Nat → Nat} {N : Nat} {O : WO} {I0 : WI} {J0 : WJ} (hN : 2147483648 ≤ N) (hV : IV P K I0 O) {a0 : Nat} (h0 : a0 ∈ P ∧ K a0 = 0) {a1 : Nat} (h1 : a1 ∈ P ∧ K a1 = 3) {x2 : Int32} {Q : WI → Prop} (hQ : ∀ (I_ : WI), IV P K I_ O → FQ kD K I0 J0 I_ J0 → True → Q I_) : Wp (F_Dr_beginStart N O I0 J0 a0 a1 x2) Q := by
  unfold F_Dr_beginStart
  have r2 := rg x2
  have hV0 : SQ kD P K O I0 J0 I0 J0 := SQ.rf hV
  refine Wpc1 (s_Dr_beginEmpty hN hV0.1 h0 (fun I1 hI1 hF1 p_1 => ?_))
  have hV1 : SQ kD P K O I0 J0 I1 J0 := hV0.call (fun _ _ h => h) hI1 hF1
  refine Wpc1 (s_RM_partOfStart hN hV1.1  (fun z_7 p_7 => ?_))
  have rz_7 := rg z_7
  refine Wp_lb (fun I3 eI3 => ?_)
  have hV3 : SQ kD P K O I0 J0 I3 J0 := by rw [eI3]; exact hV1.putI h0.2 rfl trivial
  refine Wpc1 (s_RM_partOfStart hN hV3.1  (fun z_20 p_20 => ?_))
  have rz_20 := rg z_20
  refine Wpc1 (s_RM_share hN hV3.1  (fun z_24 p_24 => ?_))
  have rz_24 := rg z_24
  refine Wp_lb (fun I6 eI6 => ?_)
  have hV6 : SQ kD P K O I0 J0 I6 J0 := by rw [eI6]; exact hV3.putI h0.2 rfl trivial
  first | (have e_36 := tdivF (x := (I6 a1 5)) (y := (Int32.ofInt (2))) rfl (ofI (by decide)) (by decide)) | skip
  refine Wp_lb (fun I7 eI7 => ?_)
  have hV7 : SQ kD P K O I0 J0 I7 J0 := by rw [eI7]; exact hV6.putI h0.2 rfl trivial
  refine Wpc1 (s_RM_partOfStart hN hV7.1  (fun z_42 p_42 => ?_))
  have rz_42 := rg z_42
  have lp_49 : ∀ (m_49 : Nat) (x4_49 : Int32) (I_49 : WI), Int.toNat (5 - (x4_49).toInt) < m_49 → (0 ≤ Int32.toInt x4_49 ∧ Int32.toInt x4_49 ≤ 5) → SQ kD P K O I0 J0 I_49 J0 → Wp (lp (B_Dr_beginStart_49 N O (a0) (a1) (J0) (z_42)) (fun _ _ => none) m_49 x4_49 I_49) Q := by
    intro m_49
    induction m_49 with
    | zero => intro x4_49 I_49 hm; exact absurd hm (Nat.not_lt_zero _)
    | succ m_49 ih_49 =>
    intro x4_49 I_49 hm_49 iv0_49 hV_49
    have rg4_49 := rg x4_49
    show Wp (B_Dr_beginStart_49 N O (a0) (a1) (J0) (z_42) (lp (B_Dr_beginStart_49 N O (a0) (a1) (J0) (z_42)) (fun _ _ => none) m_49) x4_49 I_49) Q
    unfold B_Dr_beginStart_49
    refine Wp.ite (fun c_52 => ?_) (fun c_52 => ?_)
    · skip
      exact Wp.ret (hQ I_49 hV_49.1 hV_49.2 trivial)
    · skip
      have t_56 := rf_ok hV.1 h0 (show sp 0 0 = some 2 from rfl)
      have t_59 := rf_ok hV.1 t_56 (show sp 2 0 = some 11 from rfl)
      refine Wpc1 (s_Ml_tonsOf hN hV_49.1 h1 (fun z_69 p_69 => ?_))
      have rz_69 := rg z_69
      refine Wp.pos (by omega) ?_
      refine Wp_lb (fun I10 eI10 => ?_)
      have hV10 : SQ kD P K O I0 J0 I10 J0 := by rw [eI10]; exact hV_49.putI t_59.2 rfl trivial
      refine Wp_lb (fun v4_74 ev_74 => ?_)
      have rv_74 := rg v4_74
      first | (have e_74 : v4_74.toInt = (x4_49).toInt + 1 := by rw [ev_74]; exact t_add rfl (ofI (by decide)) (by omega)) | skip
      clear ev_74
      exact ih_49 (v4_74) I10 (by omega) (by omega) hV10
  exact lp_49 N ((Int32.ofInt (0))) I7 (by have hci0 : Int32.toInt (Int32.ofInt (0)) = 0 := ofI (by decide); omega) (by have hci0 : Int32.toInt (Int32.ofInt (0)) = 0 := ofI (by decide); omega) hV7
set_option maxHeartbeats 4000000 in
set_option maxRecDepth 100000 in
theorem s_Dr_copyFrom {P : List Nat} {K : Nat → Nat} {N : Nat} {O : WO} {I0 : WI} {J0 : WJ} (hN : 2147483648 ≤ N) (hV : IV P K I0 O) {a0 : Nat} (h0 : a0 ∈ P ∧ K a0 = 0) {a1 : Nat} (h1 : a1 ∈ P ∧ K a1 = 0) {Q : WI → Prop} (hQ : ∀ (I_ : WI), IV P K I_ O → FQ kD K I0 J0 I_ J0 → True → Q I_) : Wp (F_Dr_copyFrom N O I0 J0 a0 a1) Q := by
  unfold F_Dr_copyFrom
  have hV0 : SQ kD P K O I0 J0 I0 J0 := SQ.rf hV
  have t_1 := rf_ok hV.1 h0 (show sp 0 0 = some 2 from rfl)
  have t_5 := rf_ok hV.1 h1 (show sp 0 0 = some 2 from rfl)
  refine Wpc1 (s_Ld_copyFrom hN hV0.1 t_1 t_5 (fun I1 hI1 hF1 p_8 => ?_))
  have hV1 : SQ kD P K O I0 J0 I1 J0 := hV0.call (fun _ _ h => h) hI1 hF1
  have t_12 := rf_ok hV.1 h1 (show sp 0 1 = some 11 from rfl)
  have t_16 := rf_ok hV.1 h0 (show sp 0 1 = some 11 from rfl)
  refine Wpc1 (s_RM_copyRow hN hV1.1 t_12 ⟨by decide, rfl, fun _ => rfl, fun _ _ => trivial, by decide⟩ t_16 ⟨by decide, rfl, fun _ => rfl, fun _ _ => trivial, by decide⟩ (fun I2 hI2 hF2 p_19 => ?_))
  have hV2 : SQ kD P K O I0 J0 I2 J0 := hV1.call (fun _ _ h => h) hI2 hF2
  refine Wp_lb (fun I3 eI3 => ?_)
  have hV3 : SQ kD P K O I0 J0 I3 J0 := by rw [eI3]; exact hV2.putI h0.2 rfl trivial
  refine Wp_lb (fun I4 eI4 => ?_)
  have hV4 : SQ kD P K O I0 J0 I4 J0 := by rw [eI4]; exact hV3.putI h0.2 rfl trivial
  refine Wp_lb (fun I5 eI5 => ?_)
  have hV5 : SQ kD P K O I0 J0 I5 J0 := by rw [eI5]; exact hV4.putI h0.2 rfl trivial
  have o_48 := hV5.1.2 a1 h1.1 5
  rw [h1.2] at o_48
  replace o_48 : (I5 a1 5).toInt = 0 ∨ (I5 a1 5).toInt = 1 := o_48
  refine Wp.pos (by omega) ?_
  refine Wp_lb (fun I6 eI6 => ?_)
  have hV6 : SQ kD P K O I0 J0 I6 J0 := by rw [eI6]; exact hV5.putI h0.2 rfl (show B01 _ from by unfold B01; omega)
  refine Wp_lb (fun I7 eI7 => ?_)
  have hV7 : SQ kD P K O I0 J0 I7 J0 := by rw [eI7]; exact hV6.putI h0.2 rfl trivial
  refine Wp_lb (fun I8 eI8 => ?_)
  have hV8 : SQ kD P K O I0 J0 I8 J0 := by rw [eI8]; exact hV7.putI h0.2 rfl trivial
  refine Wp_lb (fun I9 eI9 => ?_)
  have hV9 : SQ kD P K O I0 J0 I9 J0 := by rw [eI9]; exact hV8.putI h0.2 rfl trivial
  refine Wp_lb (fun I10 eI10 => ?_)
  have hV10 : SQ kD P K O I0 J0 I10 J0 := by rw [eI10]; exact hV9.putI h0.2 rfl trivial
  refine Wp_lb (fun I11 eI11 => ?_)
  have hV11 : SQ kD P K O I0 J0 I11 J0 := by rw [eI11]; exact hV10.putI h0.2 rfl trivial
  refine Wp_lb (fun I12 eI12 => ?_)
  have hV12 : SQ kD P K O I0 J0 I12 J0 := by rw [eI12]; exact hV11.putI h0.2 rfl trivial
  refine Wp_lb (fun I13 eI13 => ?_)
  have hV13 : SQ kD P K O I0 J0 I13 J0 := by rw [eI13]; exact hV12.putI h0.2 rfl trivial
  refine Wp_lb (fun I14 eI14 => ?_)
  have hV14 : SQ kD P K O I0 J0 I14 J0 := by rw [eI14]; exact hV13.putI h0.2 rfl trivial
  refine Wp_lb (fun I15 eI15 => ?_)
  have hV15 : SQ kD P K O I0 J0 I15 J0 := by rw [eI15]; exact hV14.putI h0.2 rfl trivial
  refine Wp_lb (fun I16 eI16 => ?_)
  have hV16 : SQ kD P K O I0 J0 I16 J0 := by rw [eI16]; exact hV15.putI h0.2 rfl trivial
  refine Wp_lb (fun I17 eI17 => ?_)
  have hV17 : SQ kD P K O I0 J0 I17 J0 := by rw [eI17]; exact hV16.putI h0.2 rfl trivial
  exact Wp.ret (hQ I17 hV17.1 hV17.2 trivial)
set_option maxHeartbeats 4000000 in
set_option maxRecDepth 100000 in
theorem s_Dr_wentWell {P : List Nat} {K : Nat → Nat} {N : Nat} {O : WO} {I0 : WI} {J0 : WJ} (hN : 2147483648 ≤ N) (hV : IV P K I0 O) {a0 : Nat} (h0 : a0 ∈ P ∧ K a0 = 0) {Q : Int32 → Prop} (hQ : ∀ (z : Int32), (z.toInt = 0 ∨ z.toInt = 1) → True → Q z) : Wp (F_Dr_wentWell N O I0 J0 a0) Q := by
  unfold F_Dr_wentWell
  have hV0 : SQ kP P K O I0 J0 I0 J0 := SQ.rf hV
  refine Wp.ite (fun c_4 => ?_) (fun c_4 => ?_)
  · skip
    refine Wp.ite (fun c_11 => ?_) (fun c_11 => ?_)
    · skip
      exact Wp.ret (hQ (Int32.ofInt (1)) (by have hci : Int32.toInt (Int32.ofInt (1)) = 1 := ofI (by decide); omega) trivial)
    · skip
      exact Wp.ret (hQ (Int32.ofInt (0)) (by have hci : Int32.toInt (Int32.ofInt (0)) = 0 := ofI (by decide); omega) trivial)
  · skip
    exact Wp.ret (hQ (Int32.ofInt (0)) (by have hci : Int32.toInt (Int32.ofInt (0)) = 0 := ofI (by decide); omega) trivial)
set_option maxHeartbeats 4000000 in
set_option maxRecDepth 100000 in
theorem s_Dr_takeOre {P : List Nat} {K : Nat → Nat} {N : Nat} {O : WO} {I0 : WI} {J0 : WJ} (hN : 2147483648 ≤ N) (hV : IV P K I0 O) {a0 : Nat} (h0 : a0 ∈ P ∧ K a0 = 0) {a1 : Nat} (h1 : a1 ∈ P ∧ K a1 = 3) {x2 : Int32} {x3 : Int32} {Q : WI → Prop} (hQ : ∀ (I_ : WI), IV P K I_ O → FQ kD K I0 J0 I_ J0 → True → Q I_) : Wp (F_Dr_takeOre N O I0 J0 a0 a1 x2 x3) Q := by
  unfold F_Dr_takeOre
  have r2 := rg x2
  have r3 := rg x3
  have hV0 : SQ kD P K O I0 J0 I0 J0 := SQ.rf hV
  have lp_3 : ∀ (m_3 : Nat) (x4_3 : Int32) (I_3 : WI), Int.toNat (5 - (x4_3).toInt) < m_3 → (0 ≤ Int32.toInt x4_3 ∧ Int32.toInt x4_3 ≤ 5) → SQ kD P K O I0 J0 I_3 J0 → Wp (lp (B_Dr_takeOre_3 N O (a0) (a1) (x2) (x3) (J0)) (fun _ _ => none) m_3 x4_3 I_3) Q := by
    intro m_3
    induction m_3 with
    | zero => intro x4_3 I_3 hm; exact absurd hm (Nat.not_lt_zero _)
    | succ m_3 ih_3 =>
    intro x4_3 I_3 hm_3 iv0_3 hV_3
    have rg4_3 := rg x4_3
    show Wp (B_Dr_takeOre_3 N O (a0) (a1) (x2) (x3) (J0) (lp (B_Dr_takeOre_3 N O (a0) (a1) (x2) (x3) (J0)) (fun _ _ => none) m_3) x4_3 I_3) Q
    unfold B_Dr_takeOre_3
    refine Wp.ite (fun c_6 => ?_) (fun c_6 => ?_)
    · skip
      exact Wp.ret (hQ I_3 hV_3.1 hV_3.2 trivial)
    · skip
      refine Wpc1 (s_Ml_tonsOf hN hV_3.1 h1 (fun z_14 p_14 => ?_))
      have rz_14 := rg z_14
      refine Wp_lb (fun v5_18 ev_18 => ?_)
      have ei_18 := congrArg Int32.toInt ev_18
      have rv_18 := rg v5_18
      have t_21 := rf_ok hV.1 h0 (show sp 0 0 = some 2 from rfl)
      have t_24 := rf_ok hV.1 t_21 (show sp 2 0 = some 11 from rfl)
      refine Wp.pos (by omega) ?_
      first | (have e_33 := t_add (x := (I_3 (rf O (rf O a0 0) 0) (x4_3).toInt.toNat)) (y := v5_18) rfl rfl (by omega)) | skip
      refine Wp.pos (by omega) ?_
      refine Wp_lb (fun I2 eI2 => ?_)
      have hV2 : SQ kD P K O I0 J0 I2 J0 := by rw [eI2]; exact hV_3.putI t_24.2 rfl trivial
      first | (have e_42 := t_add (x := (I2 a0 16)) (y := v5_18) rfl rfl (by omega)) | skip
      refine Wp_lb (fun I3 eI3 => ?_)
      have hV3 : SQ kD P K O I0 J0 I3 J0 := by rw [eI3]; exact hV2.putI h0.2 rfl trivial
      refine Wp_lb (fun v4_46 ev_46 => ?_)
      have rv_46 := rg v4_46
      first | (have e_46 : v4_46.toInt = (x4_3).toInt + 1 := by rw [ev_46]; exact t_add rfl (ofI (by decide)) (by omega)) | skip
      clear ev_46
      exact ih_3 (v4_46) I3 (by omega) (by omega) hV3
  exact lp_3 N ((Int32.ofInt (0))) I0 (by have hci0 : Int32.toInt (Int32.ofInt (0)) = 0 := ofI (by decide); omega) (by have hci0 : Int32.toInt (Int32.ofInt (0)) = 0 := ofI (by decide); omega) hV0
set_option maxHeartbeats 4000000 in
set_option maxRecDepth 100000 in
theorem s_Dr_standStill {P : List Nat} {K : Nat → Nat} {N : Nat} {O : WO} {I0 : WI} {J0 : WJ} (hN : 2147483648 ≤ N) (hV : IV P K I0 O) {a0 : Nat} (h0 : a0 ∈ P ∧ K a0 = 0) {Q : WI → Prop} (hQ : ∀ (I_ : WI), IV P K I_ O → FQ kD K I0 J0 I_ J0 → True → Q I_) : Wp (F_Dr_standStill N O I0 J0 a0) Q := by
  unfold F_Dr_standStill
  have hV0 : SQ kD P K O I0 J0 I0 J0 := SQ.rf hV
  have t_6 := rf_ok hV.1 h0 (show sp 0 0 = some 2 from rfl)
  refine Wpc2 (s_Ld_digOut hN hV0.1 t_6 (fun z_9 I1 hI1 hF1 p_9 => ?_))
  have hV1 : SQ kD P K O I0 J0 I1 J0 := hV0.call (fun _ _ h => h) hI1 hF1
  have rz_9 := rg z_9
  first | (have e_12 := t_add (x := (I0 a0 13)) (y := z_9) rfl rfl (by omega)) | skip
  refine Wp_lb (fun I2 eI2 => ?_)
  have hV2 : SQ kD P K O I0 J0 I2 J0 := by rw [eI2]; exact hV1.putI h0.2 rfl trivial
  have t_17 := rf_ok hV.1 h0 (show sp 0 0 = some 2 from rfl)
  have t_20 := rf_ok hV.1 t_17 (show sp 2 2 = some 11 from rfl)
  refine Wpc1 (s_RM_wipe hN hV2.1 t_20 ⟨by decide, rfl, fun _ => rfl, fun _ _ => trivial, by decide⟩ (fun I3 hI3 hF3 p_23 => ?_))
  have hV3 : SQ kD P K O I0 J0 I3 J0 := hV2.call (fun _ _ h => h) hI3 hF3
  refine Wp_lb (fun I4 eI4 => ?_)
  have hV4 : SQ kD P K O I0 J0 I4 J0 := by rw [eI4]; exact hV3.putI h0.2 rfl trivial
  refine Wp_lb (fun I5 eI5 => ?_)
  have hV5 : SQ kD P K O I0 J0 I5 J0 := by rw [eI5]; exact hV4.putI h0.2 rfl trivial
  exact Wp.ret (hQ I5 hV5.1 hV5.2 trivial)
set_option maxHeartbeats 4000000 in
set_option maxRecDepth 100000 in
theorem s_Dr_effectOf {P : List Nat} {K : Nat → Nat} {N : Nat} {O : WO} {I0 : WI} {J0 : WJ} (hN : 2147483648 ≤ N) (hV : IV P K I0 O) {a0 : Nat} (h0 : a0 ∈ P ∧ K a0 = 0) {a1 : Nat} (h1 : a1 ∈ P ∧ K a1 = 3) {x2 : Int32} {Q : Int32 → Prop} (hQ : ∀ (z : Int32), True → Q z) : Wp (F_Dr_effectOf N O I0 J0 a0 a1 x2) Q := by
  unfold F_Dr_effectOf
  have r2 := rg x2
  have hV0 : SQ kP P K O I0 J0 I0 J0 := SQ.rf hV
  refine Wpc1 (s_RM_share hN hV0.1  (fun z_10 p_10 => ?_))
  have rz_10 := rg z_10
  first | (have e_15 := t_sub (x := z_10) (y := (Int32.ofInt (50))) rfl (ofI (by decide)) (by omega)) | skip
  refine Wp_lb (fun v3_16 ev_16 => ?_)
  have ei_16 := congrArg Int32.toInt ev_16
  have rv_16 := rg v3_16
  first | (have e_23 := t_sub (x := (Int32.ofInt (100))) (y := (abI v3_16)) (ofI (by decide)) rfl (by omega)) | skip
  refine Wp_lb (fun v4_24 ev_24 => ?_)
  have ei_24 := congrArg Int32.toInt ev_24
  have rv_24 := rg v4_24
  first | (have e_34 := t_sub (x := (I0 a1 4)) (y := (I0 a0 3)) rfl rfl (by omega)) | skip
  first | (have e_40 := tdivF (x := (I0 a1 4)) (y := (Int32.ofInt (2))) rfl (ofI (by decide)) (by decide)) | skip
  have e_41 := mx_f (x := ((I0 a1 4) - (I0 a0 3))) (y := ((I0 a1 4) / (Int32.ofInt (2))))
  refine Wp_lb (fun v5_44 ev_44 => ?_)
  have ei_44 := congrArg Int32.toInt ev_44
  have rv_44 := rg v5_44
  refine Wpc1 (s_RM_share hN hV0.1  (fun z_54 p_54 => ?_))
  have rz_54 := rg z_54
  refine Wpc1 (s_Ml_hardOf hN hV0.1 h1 (fun z_67 p_67 => ?_))
  have rz_67 := rg z_67
  first | (have e_70 := t_add (x := (Int32.ofInt (9))) (y := z_67) (ofI (by decide)) rfl (by omega)) | skip
  refine Wpc1 (s_RM_share hN hV0.1  (fun z_71 p_71 => ?_))
  have rz_71 := rg z_71
  exact Wp.ret (hQ z_71 trivial)
set_option maxHeartbeats 4000000 in
set_option maxRecDepth 100000 in
theorem s_Dr_fillBin {P : List Nat} {K : Nat → Nat} {N : Nat} {O : WO} {I0 : WI} {J0 : WJ} (hN : 2147483648 ≤ N) (hV : IV P K I0 O) {a0 : Nat} (h0 : a0 ∈ P ∧ K a0 = 0) {a1 : Nat} (h1 : a1 ∈ P ∧ K a1 = 3) {Q : WI → Prop} (hQ : ∀ (I_ : WI), IV P K I_ O → FQ kD K I0 J0 I_ J0 → True → Q I_) : Wp (F_Dr_fillBin N O I0 J0 a0 a1) Q := by
  unfold F_Dr_fillBin
  have hV0 : SQ kD P K O I0 J0 I0 J0 := SQ.rf hV
  have lp_2 : ∀ (m_2 : Nat) (x2_2 : Int32) (I_2 : WI), Int.toNat (5 - (x2_2).toInt) < m_2 → (0 ≤ Int32.toInt x2_2 ∧ Int32.toInt x2_2 ≤ 5) → SQ kD P K O I0 J0 I_2 J0 → Wp (lp (B_Dr_fillBin_2 N O (a0) (a1)) (fun _ _ => none) m_2 x2_2 I_2) Q := by
    intro m_2
    induction m_2 with
    | zero => intro x2_2 I_2 hm; exact absurd hm (Nat.not_lt_zero _)
    | succ m_2 ih_2 =>
    intro x2_2 I_2 hm_2 iv0_2 hV_2
    have rg2_2 := rg x2_2
    show Wp (B_Dr_fillBin_2 N O (a0) (a1) (lp (B_Dr_fillBin_2 N O (a0) (a1)) (fun _ _ => none) m_2) x2_2 I_2) Q
    unfold B_Dr_fillBin_2
    refine Wp.ite (fun c_4 => ?_) (fun c_4 => ?_)
    · skip
      refine Wp.ite (fun c_57 => ?_) (fun c_57 => ?_)
      · skip
        exact Wp.ret (hQ I_2 hV_2.1 hV_2.2 trivial)
      · skip
        first | (have e_73 := t_sub (x := (I_2 a0 2)) (y := (I_2 a1 5)) rfl rfl (by omega)) | skip
        first | (have e_74 := t_add (x := (I_2 a0 13)) (y := ((I_2 a0 2) - (I_2 a1 5))) rfl rfl (by omega)) | skip
        refine Wp_lb (fun I1 eI1 => ?_)
        have hV1 : SQ kD P K O I0 J0 I1 J0 := by rw [eI1]; exact hV_2.putI h0.2 rfl trivial
        refine Wp_lb (fun I2 eI2 => ?_)
        have hV2 : SQ kD P K O I0 J0 I2 J0 := by rw [eI2]; exact hV1.putI h0.2 rfl trivial
        exact Wp.ret (hQ I2 hV2.1 hV2.2 trivial)
    · skip
      have t_13 := rf_ok hV.1 h0 (show sp 0 0 = some 2 from rfl)
      have t_16 := rf_ok hV.1 t_13 (show sp 2 2 = some 11 from rfl)
      refine Wp.pos (by omega) ?_
      first | (have e_21 := t_add (x := (I_2 a0 2)) (y := (I_2 (rf O (rf O a0 0) 2) (x2_2).toInt.toNat)) rfl rfl (by omega)) | skip
      refine Wp_lb (fun I3 eI3 => ?_)
      have hV3 : SQ kD P K O I0 J0 I3 J0 := by rw [eI3]; exact hV_2.putI h0.2 rfl trivial
      have t_26 := rf_ok hV.1 h0 (show sp 0 1 = some 11 from rfl)
      refine Wp.pos (by omega) ?_
      have t_33 := rf_ok hV.1 h0 (show sp 0 0 = some 2 from rfl)
      have t_36 := rf_ok hV.1 t_33 (show sp 2 2 = some 11 from rfl)
      refine Wp.pos (by omega) ?_
      first | (have e_41 := t_add (x := (I3 (rf O a0 1) (x2_2).toInt.toNat)) (y := (I3 (rf O (rf O a0 0) 2) (x2_2).toInt.toNat)) rfl rfl (by omega)) | skip
      refine Wp.pos (by omega) ?_
      refine Wp_lb (fun I4 eI4 => ?_)
      have hV4 : SQ kD P K O I0 J0 I4 J0 := by rw [eI4]; exact hV3.putI t_26.2 rfl trivial
      refine Wp_lb (fun v2_43 ev_43 => ?_)
      have rv_43 := rg v2_43
      first | (have e_43 : v2_43.toInt = (x2_2).toInt + 1 := by rw [ev_43]; exact t_add rfl (ofI (by decide)) (by omega)) | skip
      clear ev_43
      exact ih_2 (v2_43) I4 (by omega) (by omega) hV4
  exact lp_2 N ((Int32.ofInt (0))) I0 (by have hci0 : Int32.toInt (Int32.ofInt (0)) = 0 := ofI (by decide); omega) (by have hci0 : Int32.toInt (Int32.ofInt (0)) = 0 := ofI (by decide); omega) hV0
set_option maxHeartbeats 4000000 in
set_option maxRecDepth 100000 in
theorem s_Dr_drawFromBin {P : List Nat} {K : Nat → Nat} {N : Nat} {O : WO} {I0 : WI} {J0 : WJ} (hN : 2147483648 ≤ N) (hV : IV P K I0 O) {a0 : Nat} (h0 : a0 ∈ P ∧ K a0 = 0) {a1 : Nat} (h1 : a1 ∈ P ∧ K a1 = 3) {Q : WI → Prop} (hQ : ∀ (I_ : WI), IV P K I_ O → FQ kD K I0 J0 I_ J0 → True → Q I_) : Wp (F_Dr_drawFromBin N O I0 J0 a0 a1) Q := by
  unfold F_Dr_drawFromBin
  have hV0 : SQ kD P K O I0 J0 I0 J0 := SQ.rf hV
  have e_8 := mn_f (x := (I0 a0 2)) (y := (I0 a1 6))
  refine Wp_lb (fun v2_11 ev_11 => ?_)
  have ei_11 := congrArg Int32.toInt ev_11
  have rv_11 := rg v2_11
  first | (have e_18 := t_sub (x := (I0 a0 2)) (y := v2_11) rfl rfl (by omega)) | skip
  refine Wp_lb (fun I1 eI1 => ?_)
  have hV1 : SQ kD P K O I0 J0 I1 J0 := by rw [eI1]; exact hV0.putI h0.2 rfl trivial
  first | (have e_28 := t_add (x := (I1 a0 14)) (y := v2_11) rfl rfl (by omega)) | skip
  refine Wp_lb (fun I2 eI2 => ?_)
  have hV2 : SQ kD P K O I0 J0 I2 J0 := by rw [eI2]; exact hV1.putI h0.2 rfl trivial
  first | (have e_38 := t_sub (x := (I2 a1 6)) (y := v2_11) rfl rfl (by omega)) | skip
  refine Wp_lb (fun I3 eI3 => ?_)
  have hV3 : SQ kD P K O I0 J0 I3 J0 := by rw [eI3]; exact hV2.putI h0.2 rfl trivial
  first | (have e_51 := t_add (x := (I3 a0 12)) (y := (I3 a0 11)) rfl rfl (by omega)) | skip
  refine Wp_lb (fun I4 eI4 => ?_)
  have hV4 : SQ kD P K O I0 J0 I4 J0 := by rw [eI4]; exact hV3.putI h0.2 rfl trivial
  exact Wp.ret (hQ I4 hV4.1 hV4.2 trivial)
set_option maxHeartbeats 4000000 in
set_option maxRecDepth 100000 in
theorem s_Dr_runHour {P : List Nat} {K : Nat → Nat} {N : Nat} {O : WO} {I0 : WI} {J0 : WJ} (hN : 2147483648 ≤ N) (hV : IV P K I0 O) {a0 : Nat} (h0 : a0 ∈ P ∧ K a0 = 0) {a1 : Nat} (h1 : a1 ∈ P ∧ K a1 = 3) {a2 κ2 : Nat} (h2 : a2 ∈ P ∧ K a2 = κ2) (p2 : PQ kD κ2) {x3 : Int32} (pr0 : Int32.toInt x3 ≤ 1000) {Q : WI → Prop} (hQ : ∀ (I_ : WI), IV P K I_ O → FQ kD K I0 J0 I_ J0 → True → Q I_) : Wp (F_Dr_runHour N O I0 J0 a0 a1 a2 κ2 x3) Q := by
  unfold F_Dr_runHour
  have pb2 := p2.2.2.2.2
  have r3 := rg x3
  have hV0 : SQ kD P K O I0 J0 I0 J0 := SQ.rf hV
  refine Wp.ite (fun c_1 => ?_) (fun c_1 => ?_)
  · skip
    exact Wp.ret (hQ I0 hV0.1 hV0.2 trivial)
  · skip
    first | (have e_6 := t_add (x := x3) (y := (Int32.ofInt (3))) rfl (ofI (by decide)) (by omega)) | skip
    have e_8 : (Int32.ofNat (alen κ2)).toInt = ((alen κ2 : Nat) : Int) := ofNl (by omega)
    refine Wp.ite (fun c_9 => ?_) (fun c_9 => ?_)
    · skip
      refine Wp_jq (fun k_35 => ∀ (IJ_35 : WI), SQ kD P K O I0 J0 IJ_35 J0 → Wp (k_35 IJ_35) Q) (fun IJ_35  hVJ_35 => ?_) (fun k_35 hk_35 => ?_)
      · skip
        have t_36 := rf_ok hV.1 h0 (show sp 0 0 = some 2 from rfl)
        refine Wpc1 (s_Ld_takeBack hN hVJ_35.1 t_36 (fun I1 hI1 hF1 p_39 => ?_))
        have hV1 : SQ kD P K O I0 J0 I1 J0 := hVJ_35.call (fun _ _ h => h) hI1 hF1
        have t_44 := rf_ok hV.1 h0 (show sp 0 0 = some 2 from rfl)
        have t_47 := rf_ok hV.1 t_44 (show sp 2 0 = some 11 from rfl)
        refine Wpc1 (s_RM_sumOf hN hV1.1 t_47 (fun z_50 p_50 => ?_))
        have rz_50 := rg z_50
        refine Wp_lb (fun I3 eI3 => ?_)
        have hV3 : SQ kD P K O I0 J0 I3 J0 := by rw [eI3]; exact hV1.putI h0.2 rfl trivial
        refine Wp_jq (fun k_73 => ∀ (s0_73 : Int32), (Int32.toInt s0_73 = 0 ∨ Int32.toInt s0_73 = 1) → Wp (k_73 s0_73) Q) (fun s0_73 jv0_73  => ?_) (fun k_73 hk_73 => ?_)
        · skip
          have rgs_s0_73 := rg s0_73
          refine Wp.pos (by omega) ?_
          refine Wp_lb (fun I4 eI4 => ?_)
          have hV4 : SQ kD P K O I0 J0 I4 J0 := by rw [eI4]; exact hV3.putI h0.2 rfl (show B01 _ from by unfold B01; omega)
          refine Wp_jq (fun k_150 => ∀ (IJ_150 : WI), SQ kD P K O I0 J0 IJ_150 J0 → Wp (k_150 IJ_150) Q) (fun IJ_150  hVJ_150 => ?_) (fun k_150 hk_150 => ?_)
          · skip
            refine Wpc1 (s_Dr_fillBin hN hVJ_150.1 h0 h1 (fun I5 hI5 hF5 p_152 => ?_))
            have hV5 : SQ kD P K O I0 J0 I5 J0 := hVJ_150.call (fun _ _ h => h) hI5 hF5
            refine Wpc1 (s_Dr_drawFromBin hN hV5.1 h0 h1 (fun I6 hI6 hF6 p_157 => ?_))
            have hV6 : SQ kD P K O I0 J0 I6 J0 := hV5.call (fun _ _ h => h) hI6 hF6
            refine Wpc1 (s_RM_share hN hV6.1  (fun z_177 p_177 => ?_))
            have rz_177 := rg z_177
            first | (have e_180 := t_sub (x := (I6 a1 1)) (y := z_177) rfl rfl (by omega)) | skip
            have e_182 := mx_f (x := ((I6 a1 1) - z_177)) (y := (Int32.ofInt (0)))
            have k1_182 : Int32.toInt (Int32.ofInt (0)) = 0 := ofI (by decide)
            refine Wp_lb (fun I8 eI8 => ?_)
            have hV8 : SQ kD P K O I0 J0 I8 J0 := by rw [eI8]; exact hV6.putI h0.2 rfl trivial
            refine Wpc1 (s_Ml_priceAt hN hV8.1 h1 (fun z_202 p_202 => ?_))
            have rz_202 := rg z_202
            first | (have e_206 := t_add (x := (I8 a0 15)) (y := ((I8 a0 9) * z_202)) rfl rfl (by omega)) | skip
            refine Wp_lb (fun I10 eI10 => ?_)
            have hV10 : SQ kD P K O I0 J0 I10 J0 := by rw [eI10]; exact hV8.putI h0.2 rfl trivial
            first | (have e_216 := t_add (x := (I10 a0 3)) (y := (Int32.ofInt (1))) rfl (ofI (by decide)) (by omega)) | skip
            refine Wp_lb (fun I11 eI11 => ?_)
            have hV11 : SQ kD P K O I0 J0 I11 J0 := by rw [eI11]; exact hV10.putI h0.2 rfl trivial
            first | (have e_226 := t_add (x := (I11 a0 6)) (y := (Int32.ofInt (1))) rfl (ofI (by decide)) (by omega)) | skip
            refine Wp_lb (fun I12 eI12 => ?_)
            have hV12 : SQ kD P K O I0 J0 I12 J0 := by rw [eI12]; exact hV11.putI h0.2 rfl trivial
            exact Wp.ret (hQ I12 hV12.1 hV12.2 trivial)
          refine Wp.ite (fun c_80 => ?_) (fun c_80 => ?_)
          · skip
            first | (have e_96 := t_add (x := x3) (y := (Int32.ofInt (2))) rfl (ofI (by decide)) (by omega)) | skip
            refine Wp.pos (by omega) ?_
            refine Wpc1 (s_Dr_effectOf hN hV4.1 h0 h1 (fun z_98 p_98 => ?_))
            have rz_98 := rg z_98
            refine Wp_lb (fun I14 eI14 => ?_)
            have hV14 : SQ kD P K O I0 J0 I14 J0 := by rw [eI14]; exact hV4.putI h0.2 rfl trivial
            refine Wpc1 (s_RM_share hN hV14.1  (fun z_115 p_115 => ?_))
            have rz_115 := rg z_115
            refine Wp_lb (fun I16 eI16 => ?_)
            have hV16 : SQ kD P K O I0 J0 I16 J0 := by rw [eI16]; exact hV14.putI h0.2 rfl trivial
            have t_122 := rf_ok hV.1 h0 (show sp 0 0 = some 2 from rfl)
            refine Wpc1 (s_Ld_breakUp hN hV16.1 t_122 h1 (fun I17 hI17 hF17 p_130 => ?_))
            have hV17 : SQ kD P K O I0 J0 I17 J0 := hV16.call (fun _ _ h => h) hI17 hF17
            have t_134 := rf_ok hV.1 h0 (show sp 0 0 = some 2 from rfl)
            first | (have e_141 := t_add (x := x3) (y := (Int32.ofInt (1))) rfl (ofI (by decide)) (by omega)) | skip
            refine Wp.pos (by omega) ?_
            refine Wpc1 (s_Ld_sift hN hV17.1 t_134 h1 (fun I18 hI18 hF18 p_147 => ?_))
            have hV18 : SQ kD P K O I0 J0 I18 J0 := hV17.call (fun _ _ h => h) hI18 hF18
            exact hk_150  I18  hV18
          · skip
            refine Wpc1 (s_Dr_standStill hN hV4.1 h0 (fun I19 hI19 hF19 p_84 => ?_))
            have hV19 : SQ kD P K O I0 J0 I19 J0 := hV4.call (fun _ _ h => h) hI19 hF19
            exact hk_150  I19  hV19
        refine Wp.ite (fun c_65 => ?_) (fun c_65 => ?_)
        · skip
          exact hk_73 ((Int32.ofInt (0))) (by have hci0 : Int32.toInt (Int32.ofInt (0)) = 0 := ofI (by decide); omega) 
        · skip
          exact hk_73 ((Int32.ofInt (1))) (by have hci0 : Int32.toInt (Int32.ofInt (1)) = 1 := ofI (by decide); omega) 
      refine Wp.ite (fun c_17 => ?_) (fun c_17 => ?_)
      · skip
        first | (have e_25 := t_add (x := x3) (y := (Int32.ofInt (0))) rfl (ofI (by decide)) (by omega)) | skip
        refine Wp.pos (by omega) ?_
        first | (have e_30 := t_add (x := x3) (y := (Int32.ofInt (2))) rfl (ofI (by decide)) (by omega)) | skip
        refine Wp.pos (by omega) ?_
        refine Wpc1 (s_Dr_takeOre hN hV0.1 h0 h1 (fun I20 hI20 hF20 p_32 => ?_))
        have hV20 : SQ kD P K O I0 J0 I20 J0 := hV0.call (fun _ _ h => h) hI20 hF20
        exact hk_35  I20  hV20
      · skip
        exact hk_35  I0  hV0
    · skip
      exact Wp.ret (hQ I0 hV0.1 hV0.2 trivial)
