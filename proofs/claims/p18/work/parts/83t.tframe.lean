/-! frames by address, of what the functions answer -/
def Pp {α : Type} (o : Option α) (Q : α → Prop) : Prop := ∀ a, o = some a → Q a
theorem Pp.no {α : Type} {Q : α → Prop} : Pp (none : Option α) Q := fun _ h => nomatch h
theorem Pp.ret {α : Type} {a : α} {Q : α → Prop} (h : Q a) : Pp (some a) Q := fun b e => by cases e; exact h
theorem Pp.g {c : Prop} {i : Decidable c} {α : Type} {x : Option α} {Q : α → Prop} (h : c → Pp x Q) : Pp (@ite _ c i x none) Q := by
  by_cases e : c
  · rw [if_pos e]; exact h e
  · rw [if_neg e]; exact Pp.no
theorem Pp.ite {c : Prop} {i : Decidable c} {α : Type} {x y : Option α} {Q : α → Prop} (h : c → Pp x Q) (k : ¬ c → Pp y Q) : Pp (@ite _ c i x y) Q := by
  by_cases e : c
  · rw [if_pos e]; exact h e
  · rw [if_neg e]; exact k e
theorem Pp_lb {α ρ : Type} {x : α} {f : α → Option ρ} {Q : ρ → Prop} (h : ∀ v, v = x → Pp (f v) Q) : Pp (lb x f) Q := h x rfl
theorem Pp_jq {α ρ : Type} {x : α} {f : α → Option ρ} {Q : ρ → Prop} (Pm : α → Prop) (hk : Pm x) (c : ∀ k, Pm k → Pp (f k) Q) : Pp (jn x f) Q := c x hk
theorem Ppa1 {α ρ : Type} {m : Option α} {f : α → Option ρ} {Q : ρ → Prop} (h : ∀ x, Pp (f x) Q) : Pp (bd1 m f) Q := by
  cases m with
  | none => exact Pp.no
  | some x => exact h x
theorem Ppc1 {α ρ : Type} {m : Option α} {f : α → Option ρ} {Q : ρ → Prop} (h : Pp m (fun x => Pp (f x) Q)) : Pp (bd1 m f) Q := by
  cases m with
  | none => exact Pp.no
  | some x => exact h x rfl
theorem Ppc2 {α β ρ : Type} {m : Option (α × β)} {f : α → β → Option ρ} {Q : ρ → Prop} (h : Pp m (fun q => match q with | (x, y) => Pp (f x y) Q)) : Pp (bd2 m f) Q := by
  cases m with
  | none => exact Pp.no
  | some x => exact h x rfl
theorem fp_put {W : Nat → Prop} {I0 I I' : WI} {a k : Nat} {x : Int32} (h : ∀ b, ¬ W b → I b = I0 b) (ha : W a) (e : I' = up2 I a k x) : ∀ b, ¬ W b → I' b = I0 b := fun b hb => by
  rw [e, up2_row _ _ (fun z => hb (by rw [z]; exact ha))]; exact h b hb
theorem sp24 {f : Nat} (h : f < 6) : sp 24 f = some 0 := by
  have : f = 0 ∨ f = 1 ∨ f = 2 ∨ f = 3 ∨ f = 4 ∨ f = 5 := by omega
  rcases this with rfl | rfl | rfl | rfl | rfl | rfl <;> rfl
theorem rfA_o {P : List Nat} {K : Nat → Nat} {O : WO} {a : Nat} {i : Int32} (hT : TR P K O) (ha : a ∈ P ∧ K a = 24) (hi : 0 ≤ i.toInt ∧ i.toInt < (6 : Int)) : O a i.toInt.toNat = some (rf O a i.toInt.toNat) := rf_o hT ha (sp24 (by omega))
set_option maxHeartbeats 4000000 in
set_option maxRecDepth 100000 in
theorem w_RM_wipe {W : Nat → Prop} {P : List Nat} {K : Nat → Nat} {N : Nat} {O : WO} {I0 : WI} {J0 : WJ} (hT : TR P K O) (hW : ∀ b f c, W b → ¬ K b = 8 → O b f = some c → W c) {a0 κ0 : Nat} (w0 : W a0) {Q : WI → Prop} (hQ : ∀ (I_ : WI), (∀ b, ¬ W b → I_ b = I0 b) → Q I_) : Pp (F_RM_wipe N O I0 J0 a0 κ0) Q := by
  unfold F_RM_wipe
  have hV0 : (∀ b, ¬ W b → I0 b = I0 b) := fun _ _ => rfl
  have lp_2 : ∀ (m_2 : Nat) (x1_2 : Int32) (I_2 : WI), (∀ b, ¬ W b → I_2 b = I0 b) → Pp (lp (B_RM_wipe_2 N O (a0) (κ0)) (fun _ _ => none) m_2 x1_2 I_2) Q := by
    intro m_2
    induction m_2 with
    | zero => intro x1_2 I_2 _; exact Pp.no
    | succ m_2 ih_2 =>
    intro x1_2 I_2 hV_2
    show Pp (B_RM_wipe_2 N O (a0) (κ0) (lp (B_RM_wipe_2 N O (a0) (κ0)) (fun _ _ => none) m_2) x1_2 I_2) Q
    unfold B_RM_wipe_2
    refine Pp.ite (fun _ => ?_) (fun _ => ?_)
    · skip
      exact Pp.ret (hQ I_2 hV_2)
    · skip
      refine Pp.g (fun _ => ?_)
      refine Pp_lb (fun I1 eI1 => ?_)
      have hV1 : (∀ b, ¬ W b → I1 b = I0 b) := fp_put hV_2 w0 eI1
      refine Pp_lb (fun v1_12 _ => ?_)
      exact ih_2 (v1_12) I1 hV1
  exact lp_2 N ((Int32.ofInt (0))) I0 hV0
set_option maxHeartbeats 4000000 in
set_option maxRecDepth 100000 in
theorem w_RM_copyRow {W : Nat → Prop} {P : List Nat} {K : Nat → Nat} {N : Nat} {O : WO} {I0 : WI} {J0 : WJ} (hT : TR P K O) (hW : ∀ b f c, W b → ¬ K b = 8 → O b f = some c → W c) {a0 κ0 : Nat} {a1 κ1 : Nat} (w1 : W a1) {Q : WI → Prop} (hQ : ∀ (I_ : WI), (∀ b, ¬ W b → I_ b = I0 b) → Q I_) : Pp (F_RM_copyRow N O I0 J0 a0 κ0 a1 κ1) Q := by
  unfold F_RM_copyRow
  have hV0 : (∀ b, ¬ W b → I0 b = I0 b) := fun _ _ => rfl
  have lp_2 : ∀ (m_2 : Nat) (x2_2 : Int32) (I_2 : WI), (∀ b, ¬ W b → I_2 b = I0 b) → Pp (lp (B_RM_copyRow_2 N O (a0) (κ0) (a1) (κ1)) (fun _ _ => none) m_2 x2_2 I_2) Q := by
    intro m_2
    induction m_2 with
    | zero => intro x2_2 I_2 _; exact Pp.no
    | succ m_2 ih_2 =>
    intro x2_2 I_2 hV_2
    show Pp (B_RM_copyRow_2 N O (a0) (κ0) (a1) (κ1) (lp (B_RM_copyRow_2 N O (a0) (κ0) (a1) (κ1)) (fun _ _ => none) m_2) x2_2 I_2) Q
    unfold B_RM_copyRow_2
    refine Pp.ite (fun _ => ?_) (fun _ => ?_)
    · skip
      exact Pp.ret (hQ I_2 hV_2)
    · skip
      refine Pp.ite (fun _ => ?_) (fun _ => ?_)
      · skip
        exact Pp.ret (hQ I_2 hV_2)
      · skip
        refine Pp.g (fun _ => ?_)
        refine Pp.g (fun _ => ?_)
        refine Pp_lb (fun I1 eI1 => ?_)
        have hV1 : (∀ b, ¬ W b → I1 b = I0 b) := fp_put hV_2 w1 eI1
        refine Pp_lb (fun v2_20 _ => ?_)
        exact ih_2 (v2_20) I1 hV1
  exact lp_2 N ((Int32.ofInt (0))) I0 hV0
set_option maxHeartbeats 4000000 in
set_option maxRecDepth 100000 in
theorem w_Ld_makeEmpty {W : Nat → Prop} {P : List Nat} {K : Nat → Nat} {N : Nat} {O : WO} {I0 : WI} {J0 : WJ} (hT : TR P K O) (hW : ∀ b f c, W b → ¬ K b = 8 → O b f = some c → W c) {a0 : Nat} (h0 : a0 ∈ P ∧ K a0 = 2) (w0 : W a0) {Q : WI → Prop} (hQ : ∀ (I_ : WI), (∀ b, ¬ W b → I_ b = I0 b) → Q I_) : Pp (F_Ld_makeEmpty N O I0 J0 a0) Q := by
  unfold F_Ld_makeEmpty
  have hV0 : (∀ b, ¬ W b → I0 b = I0 b) := fun _ _ => rfl
  have t_1 := rf_ok hT h0 (show sp 2 0 = some 11 from rfl)
  refine Ppc1 (w_RM_wipe hT hW (hW a0 0 _ w0 (by rw [h0.2]; decide) (rf_o hT h0 (show sp 2 0 = some 11 from rfl))) (fun I1 hF1 => ?_))
  have hV1 : (∀ b, ¬ W b → I1 b = I0 b) := fun b hb => (hF1 b hb).trans (hV0 b hb)
  have t_8 := rf_ok hT h0 (show sp 2 1 = some 11 from rfl)
  refine Ppc1 (w_RM_wipe hT hW (hW a0 1 _ w0 (by rw [h0.2]; decide) (rf_o hT h0 (show sp 2 1 = some 11 from rfl))) (fun I2 hF2 => ?_))
  have hV2 : (∀ b, ¬ W b → I2 b = I0 b) := fun b hb => (hF2 b hb).trans (hV1 b hb)
  have t_15 := rf_ok hT h0 (show sp 2 2 = some 11 from rfl)
  refine Ppc1 (w_RM_wipe hT hW (hW a0 2 _ w0 (by rw [h0.2]; decide) (rf_o hT h0 (show sp 2 2 = some 11 from rfl))) (fun I3 hF3 => ?_))
  have hV3 : (∀ b, ¬ W b → I3 b = I0 b) := fun b hb => (hF3 b hb).trans (hV2 b hb)
  exact Pp.ret (hQ I3 hV3)
set_option maxHeartbeats 4000000 in
set_option maxRecDepth 100000 in
theorem w_Ld_copyFrom {W : Nat → Prop} {P : List Nat} {K : Nat → Nat} {N : Nat} {O : WO} {I0 : WI} {J0 : WJ} (hT : TR P K O) (hW : ∀ b f c, W b → ¬ K b = 8 → O b f = some c → W c) {a0 : Nat} (h0 : a0 ∈ P ∧ K a0 = 2) (w0 : W a0) {a1 : Nat} (h1 : a1 ∈ P ∧ K a1 = 2) {Q : WI → Prop} (hQ : ∀ (I_ : WI), (∀ b, ¬ W b → I_ b = I0 b) → Q I_) : Pp (F_Ld_copyFrom N O I0 J0 a0 a1) Q := by
  unfold F_Ld_copyFrom
  have hV0 : (∀ b, ¬ W b → I0 b = I0 b) := fun _ _ => rfl
  have t_1 := rf_ok hT h1 (show sp 2 0 = some 11 from rfl)
  have t_5 := rf_ok hT h0 (show sp 2 0 = some 11 from rfl)
  refine Ppc1 (w_RM_copyRow hT hW (hW a0 0 _ w0 (by rw [h0.2]; decide) (rf_o hT h0 (show sp 2 0 = some 11 from rfl))) (fun I1 hF1 => ?_))
  have hV1 : (∀ b, ¬ W b → I1 b = I0 b) := fun b hb => (hF1 b hb).trans (hV0 b hb)
  have t_12 := rf_ok hT h1 (show sp 2 1 = some 11 from rfl)
  have t_16 := rf_ok hT h0 (show sp 2 1 = some 11 from rfl)
  refine Ppc1 (w_RM_copyRow hT hW (hW a0 1 _ w0 (by rw [h0.2]; decide) (rf_o hT h0 (show sp 2 1 = some 11 from rfl))) (fun I2 hF2 => ?_))
  have hV2 : (∀ b, ¬ W b → I2 b = I0 b) := fun b hb => (hF2 b hb).trans (hV1 b hb)
  have t_23 := rf_ok hT h1 (show sp 2 2 = some 11 from rfl)
  have t_27 := rf_ok hT h0 (show sp 2 2 = some 11 from rfl)
  refine Ppc1 (w_RM_copyRow hT hW (hW a0 2 _ w0 (by rw [h0.2]; decide) (rf_o hT h0 (show sp 2 2 = some 11 from rfl))) (fun I3 hF3 => ?_))
  have hV3 : (∀ b, ¬ W b → I3 b = I0 b) := fun b hb => (hF3 b hb).trans (hV2 b hb)
  exact Pp.ret (hQ I3 hV3)
set_option maxHeartbeats 4000000 in
set_option maxRecDepth 100000 in
theorem w_Ld_takeBack {W : Nat → Prop} {P : List Nat} {K : Nat → Nat} {N : Nat} {O : WO} {I0 : WI} {J0 : WJ} (hT : TR P K O) (hW : ∀ b f c, W b → ¬ K b = 8 → O b f = some c → W c) {a0 : Nat} (h0 : a0 ∈ P ∧ K a0 = 2) (w0 : W a0) {Q : WI → Prop} (hQ : ∀ (I_ : WI), (∀ b, ¬ W b → I_ b = I0 b) → Q I_) : Pp (F_Ld_takeBack N O I0 J0 a0) Q := by
  unfold F_Ld_takeBack
  have hV0 : (∀ b, ¬ W b → I0 b = I0 b) := fun _ _ => rfl
  have lp_2 : ∀ (m_2 : Nat) (x1_2 : Int32) (I_2 : WI), (∀ b, ¬ W b → I_2 b = I0 b) → Pp (lp (B_Ld_takeBack_2 N O (a0)) (fun _ _ => none) m_2 x1_2 I_2) Q := by
    intro m_2
    induction m_2 with
    | zero => intro x1_2 I_2 _; exact Pp.no
    | succ m_2 ih_2 =>
    intro x1_2 I_2 hV_2
    show Pp (B_Ld_takeBack_2 N O (a0) (lp (B_Ld_takeBack_2 N O (a0)) (fun _ _ => none) m_2) x1_2 I_2) Q
    unfold B_Ld_takeBack_2
    refine Pp.ite (fun _ => ?_) (fun _ => ?_)
    · skip
      exact Pp.ret (hQ I_2 hV_2)
    · skip
      have t_8 := rf_ok hT h0 (show sp 2 0 = some 11 from rfl)
      refine Pp.g (fun _ => ?_)
      have t_15 := rf_ok hT h0 (show sp 2 1 = some 11 from rfl)
      refine Pp.g (fun _ => ?_)
      refine Pp.g (fun _ => ?_)
      refine Pp_lb (fun I1 eI1 => ?_)
      have hV1 : (∀ b, ¬ W b → I1 b = I0 b) := fp_put hV_2 (hW a0 0 _ w0 (by rw [h0.2]; decide) (rf_o hT h0 (show sp 2 0 = some 11 from rfl))) eI1
      have t_23 := rf_ok hT h0 (show sp 2 1 = some 11 from rfl)
      refine Pp.g (fun _ => ?_)
      refine Pp_lb (fun I2 eI2 => ?_)
      have hV2 : (∀ b, ¬ W b → I2 b = I0 b) := fp_put hV1 (hW a0 1 _ w0 (by rw [h0.2]; decide) (rf_o hT h0 (show sp 2 1 = some 11 from rfl))) eI2
      refine Pp_lb (fun v1_29 _ => ?_)
      exact ih_2 (v1_29) I2 hV2
  exact lp_2 N ((Int32.ofInt (0))) I0 hV0
set_option maxHeartbeats 4000000 in
set_option maxRecDepth 100000 in
theorem w_Ld_breakUp {W : Nat → Prop} {P : List Nat} {K : Nat → Nat} {N : Nat} {O : WO} {I0 : WI} {J0 : WJ} (hT : TR P K O) (hW : ∀ b f c, W b → ¬ K b = 8 → O b f = some c → W c) {a0 : Nat} (h0 : a0 ∈ P ∧ K a0 = 2) (w0 : W a0) {a1 : Nat} (h1 : a1 ∈ P ∧ K a1 = 3) {x2 : Int32} {Q : WI → Prop} (hQ : ∀ (I_ : WI), (∀ b, ¬ W b → I_ b = I0 b) → Q I_) : Pp (F_Ld_breakUp N O I0 J0 a0 a1 x2) Q := by
  unfold F_Ld_breakUp
  have hV0 : (∀ b, ¬ W b → I0 b = I0 b) := fun _ _ => rfl
  refine Pp_lb (fun v3_10 _ => ?_)
  refine Pp_lb (fun v4_14 _ => ?_)
  have lp_16 : ∀ (m_16 : Nat) (x4_16 : Int32) (I_16 : WI), (∀ b, ¬ W b → I_16 b = I0 b) → Pp (lp (B_Ld_breakUp_16 N O (a0) (a1) (x2) (J0) (v3_10)) (fun _ _ => none) m_16 x4_16 I_16) Q := by
    intro m_16
    induction m_16 with
    | zero => intro x4_16 I_16 _; exact Pp.no
    | succ m_16 ih_16 =>
    intro x4_16 I_16 hV_16
    show Pp (B_Ld_breakUp_16 N O (a0) (a1) (x2) (J0) (v3_10) (lp (B_Ld_breakUp_16 N O (a0) (a1) (x2) (J0) (v3_10)) (fun _ _ => none) m_16) x4_16 I_16) Q
    unfold B_Ld_breakUp_16
    refine Pp.ite (fun _ => ?_) (fun _ => ?_)
    · skip
      exact Pp.ret (hQ I_16 hV_16)
    · skip
      have t_22 := rf_ok hT h0 (show sp 2 0 = some 11 from rfl)
      refine Pp.g (fun _ => ?_)
      have t_29 := rf_ok hT h1 (show sp 3 11 = some 11 from rfl)
      refine Pp.g (fun _ => ?_)
      refine Ppa1 (fun z_40 => ?_)
      refine Pp_jq (fun k_72 => ∀ (s0_72 : Int32), Pp (k_72 s0_72) Q) (fun s0_72  => ?_) (fun k_72 hk_72 => ?_)
      · skip
        have t_75 := rf_ok hT h0 (show sp 2 0 = some 11 from rfl)
        refine Pp.g (fun _ => ?_)
        refine Pp.g (fun _ => ?_)
        refine Pp_lb (fun I2 eI2 => ?_)
        have hV2 : (∀ b, ¬ W b → I2 b = I0 b) := fp_put hV_16 (hW a0 0 _ w0 (by rw [h0.2]; decide) (rf_o hT h0 (show sp 2 0 = some 11 from rfl))) eI2
        have t_87 := rf_ok hT h0 (show sp 2 0 = some 11 from rfl)
        refine Pp.g (fun _ => ?_)
        refine Pp.g (fun _ => ?_)
        refine Pp_lb (fun I3 eI3 => ?_)
        have hV3 : (∀ b, ¬ W b → I3 b = I0 b) := fp_put hV2 (hW a0 0 _ w0 (by rw [h0.2]; decide) (rf_o hT h0 (show sp 2 0 = some 11 from rfl))) eI3
        refine Pp_jq (fun k_125 => ∀ (IJ_125 : WI), (∀ b, ¬ W b → IJ_125 b = I0 b) → Pp (k_125 IJ_125) Q) (fun IJ_125 hVJ_125 => ?_) (fun k_125 hk_125 => ?_)
        · skip
          refine Pp_lb (fun v4_125 _ => ?_)
          exact ih_16 (v4_125) IJ_125 hVJ_125
        refine Pp.ite (fun _ => ?_) (fun _ => ?_)
        · skip
          exact hk_125  I3 hV3
        · skip
          have t_109 := rf_ok hT h0 (show sp 2 0 = some 11 from rfl)
          refine Pp.g (fun _ => ?_)
          refine Pp.g (fun _ => ?_)
          refine Pp_lb (fun I4 eI4 => ?_)
          have hV4 : (∀ b, ¬ W b → I4 b = I0 b) := fp_put hV3 (hW a0 0 _ w0 (by rw [h0.2]; decide) (rf_o hT h0 (show sp 2 0 = some 11 from rfl))) eI4
          exact hk_125  I4 hV4
      refine Pp.ite (fun _ => ?_) (fun _ => ?_)
      · skip
        have t_61 := rf_ok hT h1 (show sp 3 12 = some 11 from rfl)
        refine Pp.g (fun _ => ?_)
        refine Ppa1 (fun z_69 => ?_)
        exact hk_72 (z_69) 
      · skip
        exact hk_72 (z_40) 
  exact lp_16 N (v4_14) I0 hV0
set_option maxHeartbeats 4000000 in
set_option maxRecDepth 100000 in
theorem w_Ld_sift {W : Nat → Prop} {P : List Nat} {K : Nat → Nat} {N : Nat} {O : WO} {I0 : WI} {J0 : WJ} (hT : TR P K O) (hW : ∀ b f c, W b → ¬ K b = 8 → O b f = some c → W c) {a0 : Nat} (h0 : a0 ∈ P ∧ K a0 = 2) (w0 : W a0) {a1 : Nat} (h1 : a1 ∈ P ∧ K a1 = 3) {x2 : Int32} {x3 : Int32} {Q : WI → Prop} (hQ : ∀ (I_ : WI), (∀ b, ¬ W b → I_ b = I0 b) → Q I_) : Pp (F_Ld_sift N O I0 J0 a0 a1 x2 x3) Q := by
  unfold F_Ld_sift
  have hV0 : (∀ b, ¬ W b → I0 b = I0 b) := fun _ _ => rfl
  refine Pp_lb (fun v4_11 _ => ?_)
  have lp_16 : ∀ (m_16 : Nat) (x5_16 : Int32) (I_16 : WI), (∀ b, ¬ W b → I_16 b = I0 b) → Pp (lp (B_Ld_sift_16 N O (a0) (a1) (x2) (J0) (v4_11)) (fun _ _ => none) m_16 x5_16 I_16) Q := by
    intro m_16
    induction m_16 with
    | zero => intro x5_16 I_16 _; exact Pp.no
    | succ m_16 ih_16 =>
    intro x5_16 I_16 hV_16
    show Pp (B_Ld_sift_16 N O (a0) (a1) (x2) (J0) (v4_11) (lp (B_Ld_sift_16 N O (a0) (a1) (x2) (J0) (v4_11)) (fun _ _ => none) m_16) x5_16 I_16) Q
    unfold B_Ld_sift_16
    refine Pp.ite (fun _ => ?_) (fun _ => ?_)
    · skip
      exact Pp.ret (hQ I_16 hV_16)
    · skip
      have t_23 := rf_ok hT h0 (show sp 2 0 = some 11 from rfl)
      refine Pp.g (fun _ => ?_)
      refine Ppa1 (fun z_38 => ?_)
      have t_44 := rf_ok hT h0 (show sp 2 0 = some 11 from rfl)
      refine Pp.g (fun _ => ?_)
      refine Pp.g (fun _ => ?_)
      refine Pp_lb (fun I2 eI2 => ?_)
      have hV2 : (∀ b, ¬ W b → I2 b = I0 b) := fp_put hV_16 (hW a0 0 _ w0 (by rw [h0.2]; decide) (rf_o hT h0 (show sp 2 0 = some 11 from rfl))) eI2
      have t_56 := rf_ok hT h0 (show sp 2 2 = some 11 from rfl)
      refine Pp_jq (fun k_84 => ∀ (s0_84 : Int32), Pp (k_84 s0_84) Q) (fun s0_84  => ?_) (fun k_84 hk_84 => ?_)
      · skip
        refine Pp.g (fun _ => ?_)
        refine Pp_lb (fun I3 eI3 => ?_)
        have hV3 : (∀ b, ¬ W b → I3 b = I0 b) := fp_put hV2 (hW a0 2 _ w0 (by rw [h0.2]; decide) (rf_o hT h0 (show sp 2 2 = some 11 from rfl))) eI3
        have t_86 := rf_ok hT h0 (show sp 2 1 = some 11 from rfl)
        have t_94 := rf_ok hT h0 (show sp 2 2 = some 11 from rfl)
        refine Pp.g (fun _ => ?_)
        refine Pp.g (fun _ => ?_)
        refine Pp_lb (fun I4 eI4 => ?_)
        have hV4 : (∀ b, ¬ W b → I4 b = I0 b) := fp_put hV3 (hW a0 1 _ w0 (by rw [h0.2]; decide) (rf_o hT h0 (show sp 2 1 = some 11 from rfl))) eI4
        refine Pp_lb (fun v5_102 _ => ?_)
        exact ih_16 (v5_102) I4 hV4
      refine Pp.ite (fun _ => ?_) (fun _ => ?_)
      · skip
        exact hk_84 (z_38) 
      · skip
        refine Ppa1 (fun z_76 => ?_)
        exact hk_84 (z_76) 
  exact lp_16 N ((Int32.ofInt (0))) I0 hV0
set_option maxHeartbeats 4000000 in
set_option maxRecDepth 100000 in
theorem w_Ld_digOut {W : Nat → Prop} {P : List Nat} {K : Nat → Nat} {N : Nat} {O : WO} {I0 : WI} {J0 : WJ} (hT : TR P K O) (hW : ∀ b f c, W b → ¬ K b = 8 → O b f = some c → W c) {a0 : Nat} (h0 : a0 ∈ P ∧ K a0 = 2) (w0 : W a0) {Q : (Int32 × WI) → Prop} (hQ : ∀ (z : Int32) (I_ : WI), (∀ b, ¬ W b → I_ b = I0 b) → Q (z, I_)) : Pp (F_Ld_digOut N O I0 J0 a0) Q := by
  unfold F_Ld_digOut
  have hV0 : (∀ b, ¬ W b → I0 b = I0 b) := fun _ _ => rfl
  have lp_4 : ∀ (m_4 : Nat) (x1_4 : Int32) (x2_4 : Int32) (I_4 : WI), (∀ b, ¬ W b → I_4 b = I0 b) → Pp (lp (B_Ld_digOut_4 N O (a0)) (fun _ _ _ => none) m_4 x1_4 x2_4 I_4) Q := by
    intro m_4
    induction m_4 with
    | zero => intro x1_4 x2_4 I_4 _; exact Pp.no
    | succ m_4 ih_4 =>
    intro x1_4 x2_4 I_4 hV_4
    show Pp (B_Ld_digOut_4 N O (a0) (lp (B_Ld_digOut_4 N O (a0)) (fun _ _ _ => none) m_4) x1_4 x2_4 I_4) Q
    unfold B_Ld_digOut_4
    refine Pp.ite (fun _ => ?_) (fun _ => ?_)
    · skip
      exact Pp.ret (hQ x1_4 I_4 hV_4)
    · skip
      have t_10 := rf_ok hT h0 (show sp 2 0 = some 11 from rfl)
      refine Pp.g (fun _ => ?_)
      have t_16 := rf_ok hT h0 (show sp 2 0 = some 11 from rfl)
      refine Pp.g (fun _ => ?_)
      refine Pp_lb (fun v3_29 _ => ?_)
      have t_31 := rf_ok hT h0 (show sp 2 0 = some 11 from rfl)
      refine Pp.g (fun _ => ?_)
      refine Pp.g (fun _ => ?_)
      refine Pp_lb (fun I1 eI1 => ?_)
      have hV1 : (∀ b, ¬ W b → I1 b = I0 b) := fp_put hV_4 (hW a0 0 _ w0 (by rw [h0.2]; decide) (rf_o hT h0 (show sp 2 0 = some 11 from rfl))) eI1
      refine Pp_lb (fun v1_43 _ => ?_)
      refine Pp_lb (fun v2_44 _ => ?_)
      exact ih_4 (v1_43) (v2_44) I1 hV1
  exact lp_4 N ((Int32.ofInt (0))) ((Int32.ofInt (0))) I0 hV0
set_option maxHeartbeats 4000000 in
set_option maxRecDepth 100000 in
theorem w_Dr_beginEmpty {W : Nat → Prop} {P : List Nat} {K : Nat → Nat} {N : Nat} {O : WO} {I0 : WI} {J0 : WJ} (hT : TR P K O) (hW : ∀ b f c, W b → ¬ K b = 8 → O b f = some c → W c) {a0 : Nat} (h0 : a0 ∈ P ∧ K a0 = 0) (w0 : W a0) {Q : WI → Prop} (hQ : ∀ (I_ : WI), (∀ b, ¬ W b → I_ b = I0 b) → Q I_) : Pp (F_Dr_beginEmpty N O I0 J0 a0) Q := by
  unfold F_Dr_beginEmpty
  have hV0 : (∀ b, ¬ W b → I0 b = I0 b) := fun _ _ => rfl
  have t_1 := rf_ok hT h0 (show sp 0 0 = some 2 from rfl)
  refine Ppc1 (w_Ld_makeEmpty hT hW t_1 (hW a0 0 _ w0 (by rw [h0.2]; decide) (rf_o hT h0 (show sp 0 0 = some 2 from rfl))) (fun I1 hF1 => ?_))
  have hV1 : (∀ b, ¬ W b → I1 b = I0 b) := fun b hb => (hF1 b hb).trans (hV0 b hb)
  have t_8 := rf_ok hT h0 (show sp 0 1 = some 11 from rfl)
  refine Ppc1 (w_RM_wipe hT hW (hW a0 1 _ w0 (by rw [h0.2]; decide) (rf_o hT h0 (show sp 0 1 = some 11 from rfl))) (fun I2 hF2 => ?_))
  have hV2 : (∀ b, ¬ W b → I2 b = I0 b) := fun b hb => (hF2 b hb).trans (hV1 b hb)
  refine Pp_lb (fun I3 eI3 => ?_)
  have hV3 : (∀ b, ¬ W b → I3 b = I0 b) := fp_put hV2 w0 eI3
  refine Pp_lb (fun I4 eI4 => ?_)
  have hV4 : (∀ b, ¬ W b → I4 b = I0 b) := fp_put hV3 w0 eI4
  refine Pp_lb (fun I5 eI5 => ?_)
  have hV5 : (∀ b, ¬ W b → I5 b = I0 b) := fp_put hV4 w0 eI5
  refine Pp_lb (fun I6 eI6 => ?_)
  have hV6 : (∀ b, ¬ W b → I6 b = I0 b) := fp_put hV5 w0 eI6
  refine Pp_lb (fun I7 eI7 => ?_)
  have hV7 : (∀ b, ¬ W b → I7 b = I0 b) := fp_put hV6 w0 eI7
  refine Pp_lb (fun I8 eI8 => ?_)
  have hV8 : (∀ b, ¬ W b → I8 b = I0 b) := fp_put hV7 w0 eI8
  refine Pp_lb (fun I9 eI9 => ?_)
  have hV9 : (∀ b, ¬ W b → I9 b = I0 b) := fp_put hV8 w0 eI9
  refine Pp_lb (fun I10 eI10 => ?_)
  have hV10 : (∀ b, ¬ W b → I10 b = I0 b) := fp_put hV9 w0 eI10
  refine Pp_lb (fun I11 eI11 => ?_)
  have hV11 : (∀ b, ¬ W b → I11 b = I0 b) := fp_put hV10 w0 eI11
  refine Pp_lb (fun I12 eI12 => ?_)
  have hV12 : (∀ b, ¬ W b → I12 b = I0 b) := fp_put hV11 w0 eI12
  refine Pp_lb (fun I13 eI13 => ?_)
  have hV13 : (∀ b, ¬ W b → I13 b = I0 b) := fp_put hV12 w0 eI13
  refine Pp_lb (fun I14 eI14 => ?_)
  have hV14 : (∀ b, ¬ W b → I14 b = I0 b) := fp_put hV13 w0 eI14
  refine Pp_lb (fun I15 eI15 => ?_)
  have hV15 : (∀ b, ¬ W b → I15 b = I0 b) := fp_put hV14 w0 eI15
  refine Pp_lb (fun I16 eI16 => ?_)
  have hV16 : (∀ b, ¬ W b → I16 b = I0 b) := fp_put hV15 w0 eI16
  refine Pp_lb (fun I17 eI17 => ?_)
  have hV17 : (∀ b, ¬ W b → I17 b = I0 b) := fp_put hV16 w0 eI17
  exact Pp.ret (hQ I17 hV17)
set_option maxHeartbeats 4000000 in
set_option maxRecDepth 100000 in
theorem w_Dr_beginStart {W : Nat → Prop} {P : List Nat} {K : Nat → Nat} {N : Nat} {O : WO} {I0 : WI} {J0 : WJ} (hT : TR P K O) (hW : ∀ b f c, W b → ¬ K b = 8 → O b f = some c → W c) {a0 : Nat} (h0 : a0 ∈ P ∧ K a0 = 0) (w0 : W a0) {a1 : Nat} (h1 : a1 ∈ P ∧ K a1 = 3) {x2 : Int32} {Q : WI → Prop} (hQ : ∀ (I_ : WI), (∀ b, ¬ W b → I_ b = I0 b) → Q I_) : Pp (F_Dr_beginStart N O I0 J0 a0 a1 x2) Q := by
  unfold F_Dr_beginStart
  have hV0 : (∀ b, ¬ W b → I0 b = I0 b) := fun _ _ => rfl
  refine Ppc1 (w_Dr_beginEmpty hT hW h0 w0 (fun I1 hF1 => ?_))
  have hV1 : (∀ b, ¬ W b → I1 b = I0 b) := fun b hb => (hF1 b hb).trans (hV0 b hb)
  refine Ppa1 (fun z_7 => ?_)
  refine Pp_lb (fun I3 eI3 => ?_)
  have hV3 : (∀ b, ¬ W b → I3 b = I0 b) := fp_put hV1 w0 eI3
  refine Ppa1 (fun z_20 => ?_)
  refine Ppa1 (fun z_24 => ?_)
  refine Pp_lb (fun I6 eI6 => ?_)
  have hV6 : (∀ b, ¬ W b → I6 b = I0 b) := fp_put hV3 w0 eI6
  refine Pp_lb (fun I7 eI7 => ?_)
  have hV7 : (∀ b, ¬ W b → I7 b = I0 b) := fp_put hV6 w0 eI7
  refine Ppa1 (fun z_42 => ?_)
  have lp_49 : ∀ (m_49 : Nat) (x4_49 : Int32) (I_49 : WI), (∀ b, ¬ W b → I_49 b = I0 b) → Pp (lp (B_Dr_beginStart_49 N O (a0) (a1) (J0) (z_42)) (fun _ _ => none) m_49 x4_49 I_49) Q := by
    intro m_49
    induction m_49 with
    | zero => intro x4_49 I_49 _; exact Pp.no
    | succ m_49 ih_49 =>
    intro x4_49 I_49 hV_49
    show Pp (B_Dr_beginStart_49 N O (a0) (a1) (J0) (z_42) (lp (B_Dr_beginStart_49 N O (a0) (a1) (J0) (z_42)) (fun _ _ => none) m_49) x4_49 I_49) Q
    unfold B_Dr_beginStart_49
    refine Pp.ite (fun _ => ?_) (fun _ => ?_)
    · skip
      exact Pp.ret (hQ I_49 hV_49)
    · skip
      have t_56 := rf_ok hT h0 (show sp 0 0 = some 2 from rfl)
      have t_59 := rf_ok hT t_56 (show sp 2 0 = some 11 from rfl)
      refine Ppa1 (fun z_69 => ?_)
      refine Pp.g (fun _ => ?_)
      refine Pp_lb (fun I10 eI10 => ?_)
      have hV10 : (∀ b, ¬ W b → I10 b = I0 b) := fp_put hV_49 (hW (rf O a0 0) 0 _ (hW a0 0 _ w0 (by rw [h0.2]; decide) (rf_o hT h0 (show sp 0 0 = some 2 from rfl))) (by rw [t_56.2]; decide) (rf_o hT t_56 (show sp 2 0 = some 11 from rfl))) eI10
      refine Pp_lb (fun v4_74 _ => ?_)
      exact ih_49 (v4_74) I10 hV10
  exact lp_49 N ((Int32.ofInt (0))) I7 hV7
set_option maxHeartbeats 4000000 in
set_option maxRecDepth 100000 in
theorem w_Dr_copyFrom {W : Nat → Prop} {P : List Nat} {K : Nat → Nat} {N : Nat} {O : WO} {I0 : WI} {J0 : WJ} (hT : TR P K O) (hW : ∀ b f c, W b → ¬ K b = 8 → O b f = some c → W c) {a0 : Nat} (h0 : a0 ∈ P ∧ K a0 = 0) (w0 : W a0) {a1 : Nat} (h1 : a1 ∈ P ∧ K a1 = 0) {Q : WI → Prop} (hQ : ∀ (I_ : WI), (∀ b, ¬ W b → I_ b = I0 b) → Q I_) : Pp (F_Dr_copyFrom N O I0 J0 a0 a1) Q := by
  unfold F_Dr_copyFrom
  have hV0 : (∀ b, ¬ W b → I0 b = I0 b) := fun _ _ => rfl
  have t_1 := rf_ok hT h0 (show sp 0 0 = some 2 from rfl)
  have t_5 := rf_ok hT h1 (show sp 0 0 = some 2 from rfl)
  refine Ppc1 (w_Ld_copyFrom hT hW t_1 (hW a0 0 _ w0 (by rw [h0.2]; decide) (rf_o hT h0 (show sp 0 0 = some 2 from rfl))) t_5 (fun I1 hF1 => ?_))
  have hV1 : (∀ b, ¬ W b → I1 b = I0 b) := fun b hb => (hF1 b hb).trans (hV0 b hb)
  have t_12 := rf_ok hT h1 (show sp 0 1 = some 11 from rfl)
  have t_16 := rf_ok hT h0 (show sp 0 1 = some 11 from rfl)
  refine Ppc1 (w_RM_copyRow hT hW (hW a0 1 _ w0 (by rw [h0.2]; decide) (rf_o hT h0 (show sp 0 1 = some 11 from rfl))) (fun I2 hF2 => ?_))
  have hV2 : (∀ b, ¬ W b → I2 b = I0 b) := fun b hb => (hF2 b hb).trans (hV1 b hb)
  refine Pp_lb (fun I3 eI3 => ?_)
  have hV3 : (∀ b, ¬ W b → I3 b = I0 b) := fp_put hV2 w0 eI3
  refine Pp_lb (fun I4 eI4 => ?_)
  have hV4 : (∀ b, ¬ W b → I4 b = I0 b) := fp_put hV3 w0 eI4
  refine Pp_lb (fun I5 eI5 => ?_)
  have hV5 : (∀ b, ¬ W b → I5 b = I0 b) := fp_put hV4 w0 eI5
  refine Pp.g (fun _ => ?_)
  refine Pp_lb (fun I6 eI6 => ?_)
  have hV6 : (∀ b, ¬ W b → I6 b = I0 b) := fp_put hV5 w0 eI6
  refine Pp_lb (fun I7 eI7 => ?_)
  have hV7 : (∀ b, ¬ W b → I7 b = I0 b) := fp_put hV6 w0 eI7
  refine Pp_lb (fun I8 eI8 => ?_)
  have hV8 : (∀ b, ¬ W b → I8 b = I0 b) := fp_put hV7 w0 eI8
  refine Pp_lb (fun I9 eI9 => ?_)
  have hV9 : (∀ b, ¬ W b → I9 b = I0 b) := fp_put hV8 w0 eI9
  refine Pp_lb (fun I10 eI10 => ?_)
  have hV10 : (∀ b, ¬ W b → I10 b = I0 b) := fp_put hV9 w0 eI10
  refine Pp_lb (fun I11 eI11 => ?_)
  have hV11 : (∀ b, ¬ W b → I11 b = I0 b) := fp_put hV10 w0 eI11
  refine Pp_lb (fun I12 eI12 => ?_)
  have hV12 : (∀ b, ¬ W b → I12 b = I0 b) := fp_put hV11 w0 eI12
  refine Pp_lb (fun I13 eI13 => ?_)
  have hV13 : (∀ b, ¬ W b → I13 b = I0 b) := fp_put hV12 w0 eI13
  refine Pp_lb (fun I14 eI14 => ?_)
  have hV14 : (∀ b, ¬ W b → I14 b = I0 b) := fp_put hV13 w0 eI14
  refine Pp_lb (fun I15 eI15 => ?_)
  have hV15 : (∀ b, ¬ W b → I15 b = I0 b) := fp_put hV14 w0 eI15
  refine Pp_lb (fun I16 eI16 => ?_)
  have hV16 : (∀ b, ¬ W b → I16 b = I0 b) := fp_put hV15 w0 eI16
  refine Pp_lb (fun I17 eI17 => ?_)
  have hV17 : (∀ b, ¬ W b → I17 b = I0 b) := fp_put hV16 w0 eI17
  exact Pp.ret (hQ I17 hV17)
set_option maxHeartbeats 4000000 in
set_option maxRecDepth 100000 in
theorem w_Dr_takeOre {W : Nat → Prop} {P : List Nat} {K : Nat → Nat} {N : Nat} {O : WO} {I0 : WI} {J0 : WJ} (hT : TR P K O) (hW : ∀ b f c, W b → ¬ K b = 8 → O b f = some c → W c) {a0 : Nat} (h0 : a0 ∈ P ∧ K a0 = 0) (w0 : W a0) {a1 : Nat} (h1 : a1 ∈ P ∧ K a1 = 3) {x2 : Int32} {x3 : Int32} {Q : WI → Prop} (hQ : ∀ (I_ : WI), (∀ b, ¬ W b → I_ b = I0 b) → Q I_) : Pp (F_Dr_takeOre N O I0 J0 a0 a1 x2 x3) Q := by
  unfold F_Dr_takeOre
  have hV0 : (∀ b, ¬ W b → I0 b = I0 b) := fun _ _ => rfl
  have lp_3 : ∀ (m_3 : Nat) (x4_3 : Int32) (I_3 : WI), (∀ b, ¬ W b → I_3 b = I0 b) → Pp (lp (B_Dr_takeOre_3 N O (a0) (a1) (x2) (x3) (J0)) (fun _ _ => none) m_3 x4_3 I_3) Q := by
    intro m_3
    induction m_3 with
    | zero => intro x4_3 I_3 _; exact Pp.no
    | succ m_3 ih_3 =>
    intro x4_3 I_3 hV_3
    show Pp (B_Dr_takeOre_3 N O (a0) (a1) (x2) (x3) (J0) (lp (B_Dr_takeOre_3 N O (a0) (a1) (x2) (x3) (J0)) (fun _ _ => none) m_3) x4_3 I_3) Q
    unfold B_Dr_takeOre_3
    refine Pp.ite (fun _ => ?_) (fun _ => ?_)
    · skip
      exact Pp.ret (hQ I_3 hV_3)
    · skip
      refine Ppa1 (fun z_14 => ?_)
      refine Pp_lb (fun v5_18 _ => ?_)
      have t_21 := rf_ok hT h0 (show sp 0 0 = some 2 from rfl)
      have t_24 := rf_ok hT t_21 (show sp 2 0 = some 11 from rfl)
      refine Pp.g (fun _ => ?_)
      refine Pp.g (fun _ => ?_)
      refine Pp_lb (fun I2 eI2 => ?_)
      have hV2 : (∀ b, ¬ W b → I2 b = I0 b) := fp_put hV_3 (hW (rf O a0 0) 0 _ (hW a0 0 _ w0 (by rw [h0.2]; decide) (rf_o hT h0 (show sp 0 0 = some 2 from rfl))) (by rw [t_21.2]; decide) (rf_o hT t_21 (show sp 2 0 = some 11 from rfl))) eI2
      refine Pp_lb (fun I3 eI3 => ?_)
      have hV3 : (∀ b, ¬ W b → I3 b = I0 b) := fp_put hV2 w0 eI3
      refine Pp_lb (fun v4_46 _ => ?_)
      exact ih_3 (v4_46) I3 hV3
  exact lp_3 N ((Int32.ofInt (0))) I0 hV0
set_option maxHeartbeats 4000000 in
set_option maxRecDepth 100000 in
theorem w_Dr_standStill {W : Nat → Prop} {P : List Nat} {K : Nat → Nat} {N : Nat} {O : WO} {I0 : WI} {J0 : WJ} (hT : TR P K O) (hW : ∀ b f c, W b → ¬ K b = 8 → O b f = some c → W c) {a0 : Nat} (h0 : a0 ∈ P ∧ K a0 = 0) (w0 : W a0) {Q : WI → Prop} (hQ : ∀ (I_ : WI), (∀ b, ¬ W b → I_ b = I0 b) → Q I_) : Pp (F_Dr_standStill N O I0 J0 a0) Q := by
  unfold F_Dr_standStill
  have hV0 : (∀ b, ¬ W b → I0 b = I0 b) := fun _ _ => rfl
  have t_6 := rf_ok hT h0 (show sp 0 0 = some 2 from rfl)
  refine Ppc2 (w_Ld_digOut hT hW t_6 (hW a0 0 _ w0 (by rw [h0.2]; decide) (rf_o hT h0 (show sp 0 0 = some 2 from rfl))) (fun z_9 I1 hF1 => ?_))
  have hV1 : (∀ b, ¬ W b → I1 b = I0 b) := fun b hb => (hF1 b hb).trans (hV0 b hb)
  refine Pp_lb (fun I2 eI2 => ?_)
  have hV2 : (∀ b, ¬ W b → I2 b = I0 b) := fp_put hV1 w0 eI2
  have t_17 := rf_ok hT h0 (show sp 0 0 = some 2 from rfl)
  have t_20 := rf_ok hT t_17 (show sp 2 2 = some 11 from rfl)
  refine Ppc1 (w_RM_wipe hT hW (hW (rf O a0 0) 2 _ (hW a0 0 _ w0 (by rw [h0.2]; decide) (rf_o hT h0 (show sp 0 0 = some 2 from rfl))) (by rw [t_17.2]; decide) (rf_o hT t_17 (show sp 2 2 = some 11 from rfl))) (fun I3 hF3 => ?_))
  have hV3 : (∀ b, ¬ W b → I3 b = I0 b) := fun b hb => (hF3 b hb).trans (hV2 b hb)
  refine Pp_lb (fun I4 eI4 => ?_)
  have hV4 : (∀ b, ¬ W b → I4 b = I0 b) := fp_put hV3 w0 eI4
  refine Pp_lb (fun I5 eI5 => ?_)
  have hV5 : (∀ b, ¬ W b → I5 b = I0 b) := fp_put hV4 w0 eI5
  exact Pp.ret (hQ I5 hV5)
set_option maxHeartbeats 4000000 in
set_option maxRecDepth 100000 in
theorem w_Dr_fillBin {W : Nat → Prop} {P : List Nat} {K : Nat → Nat} {N : Nat} {O : WO} {I0 : WI} {J0 : WJ} (hT : TR P K O) (hW : ∀ b f c, W b → ¬ K b = 8 → O b f = some c → W c) {a0 : Nat} (h0 : a0 ∈ P ∧ K a0 = 0) (w0 : W a0) {a1 : Nat} (h1 : a1 ∈ P ∧ K a1 = 3) {Q : WI → Prop} (hQ : ∀ (I_ : WI), (∀ b, ¬ W b → I_ b = I0 b) → Q I_) : Pp (F_Dr_fillBin N O I0 J0 a0 a1) Q := by
  unfold F_Dr_fillBin
  have hV0 : (∀ b, ¬ W b → I0 b = I0 b) := fun _ _ => rfl
  have lp_2 : ∀ (m_2 : Nat) (x2_2 : Int32) (I_2 : WI), (∀ b, ¬ W b → I_2 b = I0 b) → Pp (lp (B_Dr_fillBin_2 N O (a0) (a1)) (fun _ _ => none) m_2 x2_2 I_2) Q := by
    intro m_2
    induction m_2 with
    | zero => intro x2_2 I_2 _; exact Pp.no
    | succ m_2 ih_2 =>
    intro x2_2 I_2 hV_2
    show Pp (B_Dr_fillBin_2 N O (a0) (a1) (lp (B_Dr_fillBin_2 N O (a0) (a1)) (fun _ _ => none) m_2) x2_2 I_2) Q
    unfold B_Dr_fillBin_2
    refine Pp.ite (fun _ => ?_) (fun _ => ?_)
    · skip
      refine Pp.ite (fun _ => ?_) (fun _ => ?_)
      · skip
        exact Pp.ret (hQ I_2 hV_2)
      · skip
        refine Pp_lb (fun I1 eI1 => ?_)
        have hV1 : (∀ b, ¬ W b → I1 b = I0 b) := fp_put hV_2 w0 eI1
        refine Pp_lb (fun I2 eI2 => ?_)
        have hV2 : (∀ b, ¬ W b → I2 b = I0 b) := fp_put hV1 w0 eI2
        exact Pp.ret (hQ I2 hV2)
    · skip
      have t_13 := rf_ok hT h0 (show sp 0 0 = some 2 from rfl)
      have t_16 := rf_ok hT t_13 (show sp 2 2 = some 11 from rfl)
      refine Pp.g (fun _ => ?_)
      refine Pp_lb (fun I3 eI3 => ?_)
      have hV3 : (∀ b, ¬ W b → I3 b = I0 b) := fp_put hV_2 w0 eI3
      have t_26 := rf_ok hT h0 (show sp 0 1 = some 11 from rfl)
      refine Pp.g (fun _ => ?_)
      have t_33 := rf_ok hT h0 (show sp 0 0 = some 2 from rfl)
      have t_36 := rf_ok hT t_33 (show sp 2 2 = some 11 from rfl)
      refine Pp.g (fun _ => ?_)
      refine Pp.g (fun _ => ?_)
      refine Pp_lb (fun I4 eI4 => ?_)
      have hV4 : (∀ b, ¬ W b → I4 b = I0 b) := fp_put hV3 (hW a0 1 _ w0 (by rw [h0.2]; decide) (rf_o hT h0 (show sp 0 1 = some 11 from rfl))) eI4
      refine Pp_lb (fun v2_43 _ => ?_)
      exact ih_2 (v2_43) I4 hV4
  exact lp_2 N ((Int32.ofInt (0))) I0 hV0
set_option maxHeartbeats 4000000 in
set_option maxRecDepth 100000 in
theorem w_Dr_drawFromBin {W : Nat → Prop} {P : List Nat} {K : Nat → Nat} {N : Nat} {O : WO} {I0 : WI} {J0 : WJ} (hT : TR P K O) (hW : ∀ b f c, W b → ¬ K b = 8 → O b f = some c → W c) {a0 : Nat} (h0 : a0 ∈ P ∧ K a0 = 0) (w0 : W a0) {a1 : Nat} (h1 : a1 ∈ P ∧ K a1 = 3) {Q : WI → Prop} (hQ : ∀ (I_ : WI), (∀ b, ¬ W b → I_ b = I0 b) → Q I_) : Pp (F_Dr_drawFromBin N O I0 J0 a0 a1) Q := by
  unfold F_Dr_drawFromBin
  have hV0 : (∀ b, ¬ W b → I0 b = I0 b) := fun _ _ => rfl
  refine Pp_lb (fun v2_11 _ => ?_)
  refine Pp_lb (fun I1 eI1 => ?_)
  have hV1 : (∀ b, ¬ W b → I1 b = I0 b) := fp_put hV0 w0 eI1
  refine Pp_lb (fun I2 eI2 => ?_)
  have hV2 : (∀ b, ¬ W b → I2 b = I0 b) := fp_put hV1 w0 eI2
  refine Pp_lb (fun I3 eI3 => ?_)
  have hV3 : (∀ b, ¬ W b → I3 b = I0 b) := fp_put hV2 w0 eI3
  refine Pp_lb (fun I4 eI4 => ?_)
  have hV4 : (∀ b, ¬ W b → I4 b = I0 b) := fp_put hV3 w0 eI4
  exact Pp.ret (hQ I4 hV4)
set_option maxHeartbeats 4000000 in
set_option maxRecDepth 100000 in
theorem w_Dr_runHour {W : Nat → Prop} {P : List Nat} {K : Nat → Nat} {N : Nat} {O : WO} {I0 : WI} {J0 : WJ} (hT : TR P K O) (hW : ∀ b f c, W b → ¬ K b = 8 → O b f = some c → W c) {a0 : Nat} (h0 : a0 ∈ P ∧ K a0 = 0) (w0 : W a0) {a1 : Nat} (h1 : a1 ∈ P ∧ K a1 = 3) {a2 κ2 : Nat} {x3 : Int32} {Q : WI → Prop} (hQ : ∀ (I_ : WI), (∀ b, ¬ W b → I_ b = I0 b) → Q I_) : Pp (F_Dr_runHour N O I0 J0 a0 a1 a2 κ2 x3) Q := by
  unfold F_Dr_runHour
  have hV0 : (∀ b, ¬ W b → I0 b = I0 b) := fun _ _ => rfl
  refine Pp.ite (fun _ => ?_) (fun _ => ?_)
  · skip
    exact Pp.ret (hQ I0 hV0)
  · skip
    refine Pp.ite (fun _ => ?_) (fun _ => ?_)
    · skip
      refine Pp_jq (fun k_35 => ∀ (IJ_35 : WI), (∀ b, ¬ W b → IJ_35 b = I0 b) → Pp (k_35 IJ_35) Q) (fun IJ_35 hVJ_35 => ?_) (fun k_35 hk_35 => ?_)
      · skip
        have t_36 := rf_ok hT h0 (show sp 0 0 = some 2 from rfl)
        refine Ppc1 (w_Ld_takeBack hT hW t_36 (hW a0 0 _ w0 (by rw [h0.2]; decide) (rf_o hT h0 (show sp 0 0 = some 2 from rfl))) (fun I1 hF1 => ?_))
        have hV1 : (∀ b, ¬ W b → I1 b = I0 b) := fun b hb => (hF1 b hb).trans (hVJ_35 b hb)
        have t_44 := rf_ok hT h0 (show sp 0 0 = some 2 from rfl)
        have t_47 := rf_ok hT t_44 (show sp 2 0 = some 11 from rfl)
        refine Ppa1 (fun z_50 => ?_)
        refine Pp_lb (fun I3 eI3 => ?_)
        have hV3 : (∀ b, ¬ W b → I3 b = I0 b) := fp_put hV1 w0 eI3
        refine Pp_jq (fun k_73 => ∀ (s0_73 : Int32), Pp (k_73 s0_73) Q) (fun s0_73  => ?_) (fun k_73 hk_73 => ?_)
        · skip
          refine Pp.g (fun _ => ?_)
          refine Pp_lb (fun I4 eI4 => ?_)
          have hV4 : (∀ b, ¬ W b → I4 b = I0 b) := fp_put hV3 w0 eI4
          refine Pp_jq (fun k_150 => ∀ (IJ_150 : WI), (∀ b, ¬ W b → IJ_150 b = I0 b) → Pp (k_150 IJ_150) Q) (fun IJ_150 hVJ_150 => ?_) (fun k_150 hk_150 => ?_)
          · skip
            refine Ppc1 (w_Dr_fillBin hT hW h0 w0 h1 (fun I5 hF5 => ?_))
            have hV5 : (∀ b, ¬ W b → I5 b = I0 b) := fun b hb => (hF5 b hb).trans (hVJ_150 b hb)
            refine Ppc1 (w_Dr_drawFromBin hT hW h0 w0 h1 (fun I6 hF6 => ?_))
            have hV6 : (∀ b, ¬ W b → I6 b = I0 b) := fun b hb => (hF6 b hb).trans (hV5 b hb)
            refine Ppa1 (fun z_177 => ?_)
            refine Pp_lb (fun I8 eI8 => ?_)
            have hV8 : (∀ b, ¬ W b → I8 b = I0 b) := fp_put hV6 w0 eI8
            refine Ppa1 (fun z_202 => ?_)
            refine Pp_lb (fun I10 eI10 => ?_)
            have hV10 : (∀ b, ¬ W b → I10 b = I0 b) := fp_put hV8 w0 eI10
            refine Pp_lb (fun I11 eI11 => ?_)
            have hV11 : (∀ b, ¬ W b → I11 b = I0 b) := fp_put hV10 w0 eI11
            refine Pp_lb (fun I12 eI12 => ?_)
            have hV12 : (∀ b, ¬ W b → I12 b = I0 b) := fp_put hV11 w0 eI12
            exact Pp.ret (hQ I12 hV12)
          refine Pp.ite (fun _ => ?_) (fun _ => ?_)
          · skip
            refine Pp.g (fun _ => ?_)
            refine Ppa1 (fun z_98 => ?_)
            refine Pp_lb (fun I14 eI14 => ?_)
            have hV14 : (∀ b, ¬ W b → I14 b = I0 b) := fp_put hV4 w0 eI14
            refine Ppa1 (fun z_115 => ?_)
            refine Pp_lb (fun I16 eI16 => ?_)
            have hV16 : (∀ b, ¬ W b → I16 b = I0 b) := fp_put hV14 w0 eI16
            have t_122 := rf_ok hT h0 (show sp 0 0 = some 2 from rfl)
            refine Ppc1 (w_Ld_breakUp hT hW t_122 (hW a0 0 _ w0 (by rw [h0.2]; decide) (rf_o hT h0 (show sp 0 0 = some 2 from rfl))) h1 (fun I17 hF17 => ?_))
            have hV17 : (∀ b, ¬ W b → I17 b = I0 b) := fun b hb => (hF17 b hb).trans (hV16 b hb)
            have t_134 := rf_ok hT h0 (show sp 0 0 = some 2 from rfl)
            refine Pp.g (fun _ => ?_)
            refine Ppc1 (w_Ld_sift hT hW t_134 (hW a0 0 _ w0 (by rw [h0.2]; decide) (rf_o hT h0 (show sp 0 0 = some 2 from rfl))) h1 (fun I18 hF18 => ?_))
            have hV18 : (∀ b, ¬ W b → I18 b = I0 b) := fun b hb => (hF18 b hb).trans (hV17 b hb)
            exact hk_150  I18 hV18
          · skip
            refine Ppc1 (w_Dr_standStill hT hW h0 w0 (fun I19 hF19 => ?_))
            have hV19 : (∀ b, ¬ W b → I19 b = I0 b) := fun b hb => (hF19 b hb).trans (hV4 b hb)
            exact hk_150  I19 hV19
        refine Pp.ite (fun _ => ?_) (fun _ => ?_)
        · skip
          exact hk_73 ((Int32.ofInt (0))) 
        · skip
          exact hk_73 ((Int32.ofInt (1))) 
      refine Pp.ite (fun _ => ?_) (fun _ => ?_)
      · skip
        refine Pp.g (fun _ => ?_)
        refine Pp.g (fun _ => ?_)
        refine Ppc1 (w_Dr_takeOre hT hW h0 w0 h1 (fun I20 hF20 => ?_))
        have hV20 : (∀ b, ¬ W b → I20 b = I0 b) := fun b hb => (hF20 b hb).trans (hV0 b hb)
        exact hk_35  I20 hV20
      · skip
        exact hk_35  I0 hV0
    · skip
      exact Pp.ret (hQ I0 hV0)
set_option maxHeartbeats 4000000 in
set_option maxRecDepth 100000 in
theorem w_Gu_makeStale {W : Nat → Prop} {P : List Nat} {K : Nat → Nat} {N : Nat} {O : WO} {I0 : WI} {J0 : WJ} (hT : TR P K O) (hW : ∀ b f c, W b → ¬ K b = 8 → O b f = some c → W c) {a0 : Nat} (h0 : a0 ∈ P ∧ K a0 = 1) (w0 : W a0) {Q : WI → Prop} (hQ : ∀ (I_ : WI), (∀ b, ¬ W b → I_ b = I0 b) → Q I_) : Pp (F_Gu_makeStale N O I0 J0 a0) Q := by
  unfold F_Gu_makeStale
  have hV0 : (∀ b, ¬ W b → I0 b = I0 b) := fun _ _ => rfl
  have lp_2 : ∀ (m_2 : Nat) (x1_2 : Int32) (I_2 : WI), (∀ b, ¬ W b → I_2 b = I0 b) → Pp (lp (B_Gu_makeStale_2 N O (a0)) (fun _ _ => none) m_2 x1_2 I_2) Q := by
    intro m_2
    induction m_2 with
    | zero => intro x1_2 I_2 _; exact Pp.no
    | succ m_2 ih_2 =>
    intro x1_2 I_2 hV_2
    show Pp (B_Gu_makeStale_2 N O (a0) (lp (B_Gu_makeStale_2 N O (a0)) (fun _ _ => none) m_2) x1_2 I_2) Q
    unfold B_Gu_makeStale_2
    refine Pp.ite (fun _ => ?_) (fun _ => ?_)
    · skip
      exact Pp.ret (hQ I_2 hV_2)
    · skip
      have t_9 := rf_ok hT h0 (show sp 1 1 = some 21 from rfl)
      refine Pp.g (fun _ => ?_)
      refine Pp_lb (fun I1 eI1 => ?_)
      have hV1 : (∀ b, ¬ W b → I1 b = I0 b) := fp_put hV_2 (hW a0 1 _ w0 (by rw [h0.2]; decide) (rf_o hT h0 (show sp 1 1 = some 21 from rfl))) eI1
      refine Pp_lb (fun v1_15 _ => ?_)
      exact ih_2 (v1_15) I1 hV1
  exact lp_2 N ((Int32.ofInt (0))) I0 hV0
set_option maxHeartbeats 4000000 in
set_option maxRecDepth 100000 in
theorem w_Gu_tellOne {W : Nat → Prop} {P : List Nat} {K : Nat → Nat} {N : Nat} {O : WO} {I0 : WI} {J0 : WJ} (hT : TR P K O) (hW : ∀ b f c, W b → ¬ K b = 8 → O b f = some c → W c) {a0 : Nat} (h0 : a0 ∈ P ∧ K a0 = 1) (w0 : W a0) {a1 : Nat} (h1 : a1 ∈ P ∧ K a1 = 3) {a2 : Nat} (h2 : a2 ∈ P ∧ K a2 = 19) {x3 : Int32} {Q : WI → Prop} (hQ : ∀ (I_ : WI), (∀ b, ¬ W b → I_ b = I0 b) → Q I_) : Pp (F_Gu_tellOne N O I0 J0 a0 a1 a2 x3) Q := by
  unfold F_Gu_tellOne
  have hV0 : (∀ b, ¬ W b → I0 b = I0 b) := fun _ _ => rfl
  refine Pp.ite (fun _ => ?_) (fun _ => ?_)
  · skip
    exact Pp.ret (hQ I0 hV0)
  · skip
    refine Pp.ite (fun _ => ?_) (fun _ => ?_)
    · skip
      exact Pp.ret (hQ I0 hV0)
    · skip
      have t_11 := rf_ok hT h0 (show sp 1 1 = some 21 from rfl)
      refine Pp.g (fun _ => ?_)
      refine Pp.ite (fun _ => ?_) (fun _ => ?_)
      · skip
        have t_21 := rf_ok hT h0 (show sp 1 2 = some 0 from rfl)
        refine Ppc1 (w_Dr_beginStart hT hW t_21 (hW a0 2 _ w0 (by rw [h0.2]; decide) (rf_o hT h0 (show sp 1 2 = some 0 from rfl))) h1 (fun I1 hF1 => ?_))
        have hV1 : (∀ b, ¬ W b → I1 b = I0 b) := fun b hb => (hF1 b hb).trans (hV0 b hb)
        have lp_32 : ∀ (m_32 : Nat) (x4_32 : Int32) (I_32 : WI), (∀ b, ¬ W b → I_32 b = I0 b) → Pp (lp (B_Gu_tellOne_32 N O (a0) (a1) (a2) (x3) (J0)) (fun _ _ => none) m_32 x4_32 I_32) Q := by
          intro m_32
          induction m_32 with
          | zero => intro x4_32 I_32 _; exact Pp.no
          | succ m_32 ih_32 =>
          intro x4_32 I_32 hV_32
          show Pp (B_Gu_tellOne_32 N O (a0) (a1) (a2) (x3) (J0) (lp (B_Gu_tellOne_32 N O (a0) (a1) (a2) (x3) (J0)) (fun _ _ => none) m_32) x4_32 I_32) Q
          unfold B_Gu_tellOne_32
          refine Pp.ite (fun _ => ?_) (fun _ => ?_)
          · skip
            have t_141 := rf_ok hT h0 (show sp 1 1 = some 21 from rfl)
            refine Pp.g (fun _ => ?_)
            refine Pp_lb (fun I2 eI2 => ?_)
            have hV2 : (∀ b, ¬ W b → I2 b = I0 b) := fp_put hV_32 (hW a0 1 _ w0 (by rw [h0.2]; decide) (rf_o hT h0 (show sp 1 1 = some 21 from rfl))) eI2
            exact Pp.ret (hQ I2 hV2)
          · skip
            have t_40 := rf_ok hT h0 (show sp 1 2 = some 0 from rfl)
            refine Ppc1 (w_Dr_runHour hT hW t_40 (hW a0 2 _ w0 (by rw [h0.2]; decide) (rf_o hT h0 (show sp 1 2 = some 0 from rfl))) h1 (fun I3 hF3 => ?_))
            have hV3 : (∀ b, ¬ W b → I3 b = I0 b) := fun b hb => (hF3 b hb).trans (hV_32 b hb)
            refine Pp_lb (fun v5_62 _ => ?_)
            have t_65 := rf_ok hT h0 (show sp 1 0 = some 20 from rfl)
            have t_71 := rf_ok hT h0 (show sp 1 2 = some 0 from rfl)
            refine Pp.g (fun _ => ?_)
            refine Pp_lb (fun I4 eI4 => ?_)
            have hV4 : (∀ b, ¬ W b → I4 b = I0 b) := fp_put hV3 (hW a0 0 _ w0 (by rw [h0.2]; decide) (rf_o hT h0 (show sp 1 0 = some 20 from rfl))) eI4
            have t_79 := rf_ok hT h0 (show sp 1 0 = some 20 from rfl)
            have t_87 := rf_ok hT h0 (show sp 1 2 = some 0 from rfl)
            refine Pp.g (fun _ => ?_)
            refine Pp_lb (fun I5 eI5 => ?_)
            have hV5 : (∀ b, ¬ W b → I5 b = I0 b) := fp_put hV4 (hW a0 0 _ w0 (by rw [h0.2]; decide) (rf_o hT h0 (show sp 1 0 = some 20 from rfl))) eI5
            have lp_97 : ∀ (m_97 : Nat) (x6_97 : Int32) (I_97 : WI), (∀ b, ¬ W b → I_97 b = I0 b) → Pp (lp (B_Gu_tellOne_97 N O (a0) (x4_32) ((lp (B_Gu_tellOne_32 N O (a0) (a1) (a2) (x3) (J0)) (fun _ _ => none) m_32)) (v5_62)) (fun _ _ => none) m_97 x6_97 I_97) Q := by
              intro m_97
              induction m_97 with
              | zero => intro x6_97 I_97 _; exact Pp.no
              | succ m_97 ih_97 =>
              intro x6_97 I_97 hV_97
              show Pp (B_Gu_tellOne_97 N O (a0) (x4_32) ((lp (B_Gu_tellOne_32 N O (a0) (a1) (a2) (x3) (J0)) (fun _ _ => none) m_32)) (v5_62) (lp (B_Gu_tellOne_97 N O (a0) (x4_32) ((lp (B_Gu_tellOne_32 N O (a0) (a1) (a2) (x3) (J0)) (fun _ _ => none) m_32)) (v5_62)) (fun _ _ => none) m_97) x6_97 I_97) Q
              unfold B_Gu_tellOne_97
              refine Pp.ite (fun _ => ?_) (fun _ => ?_)
              · skip
                refine Pp_lb (fun v4_134 _ => ?_)
                exact ih_32 (v4_134) I_97 hV_97
              · skip
                have t_104 := rf_ok hT h0 (show sp 1 0 = some 20 from rfl)
                have t_115 := rf_ok hT h0 (show sp 1 2 = some 0 from rfl)
                have t_118 := rf_ok hT t_115 (show sp 0 0 = some 2 from rfl)
                have t_121 := rf_ok hT t_118 (show sp 2 2 = some 11 from rfl)
                refine Pp.g (fun _ => ?_)
                refine Pp.g (fun _ => ?_)
                refine Pp_lb (fun I6 eI6 => ?_)
                have hV6 : (∀ b, ¬ W b → I6 b = I0 b) := fp_put hV_97 (hW a0 0 _ w0 (by rw [h0.2]; decide) (rf_o hT h0 (show sp 1 0 = some 20 from rfl))) eI6
                refine Pp_lb (fun v6_128 _ => ?_)
                exact ih_97 (v6_128) I6 hV6
            exact lp_97 N ((Int32.ofInt (0))) I5 hV5
        exact lp_32 N ((Int32.ofInt (0))) I1 hV1
      · skip
        exact Pp.ret (hQ I0 hV0)
set_option maxHeartbeats 4000000 in
set_option maxRecDepth 100000 in
theorem w_Gu_tellAll {W : Nat → Prop} {P : List Nat} {K : Nat → Nat} {N : Nat} {O : WO} {I0 : WI} {J0 : WJ} (hT : TR P K O) (hW : ∀ b f c, W b → ¬ K b = 8 → O b f = some c → W c) {a0 : Nat} (h0 : a0 ∈ P ∧ K a0 = 1) (w0 : W a0) {a1 : Nat} (h1 : a1 ∈ P ∧ K a1 = 3) {a2 : Nat} (h2 : a2 ∈ P ∧ K a2 = 19) {Q : WI → Prop} (hQ : ∀ (I_ : WI), (∀ b, ¬ W b → I_ b = I0 b) → Q I_) : Pp (F_Gu_tellAll N O I0 J0 a0 a1 a2) Q := by
  unfold F_Gu_tellAll
  have hV0 : (∀ b, ¬ W b → I0 b = I0 b) := fun _ _ => rfl
  have lp_2 : ∀ (m_2 : Nat) (x3_2 : Int32) (I_2 : WI), (∀ b, ¬ W b → I_2 b = I0 b) → Pp (lp (B_Gu_tellAll_2 N O (a0) (a1) (a2) (J0)) (fun _ _ => none) m_2 x3_2 I_2) Q := by
    intro m_2
    induction m_2 with
    | zero => intro x3_2 I_2 _; exact Pp.no
    | succ m_2 ih_2 =>
    intro x3_2 I_2 hV_2
    show Pp (B_Gu_tellAll_2 N O (a0) (a1) (a2) (J0) (lp (B_Gu_tellAll_2 N O (a0) (a1) (a2) (J0)) (fun _ _ => none) m_2) x3_2 I_2) Q
    unfold B_Gu_tellAll_2
    refine Pp.ite (fun _ => ?_) (fun _ => ?_)
    · skip
      exact Pp.ret (hQ I_2 hV_2)
    · skip
      refine Ppc1 (w_Gu_tellOne hT hW h0 w0 h1 h2 (fun I1 hF1 => ?_))
      have hV1 : (∀ b, ¬ W b → I1 b = I0 b) := fun b hb => (hF1 b hb).trans (hV_2 b hb)
      refine Pp_lb (fun v3_15 _ => ?_)
      exact ih_2 (v3_15) I1 hV1
  exact lp_2 N ((Int32.ofInt (0))) I0 hV0
set_option maxHeartbeats 4000000 in
set_option maxRecDepth 100000 in
theorem w_Si_note {W : Nat → Prop} {P : List Nat} {K : Nat → Nat} {N : Nat} {O : WO} {I0 : WI} {J0 : WJ} (hT : TR P K O) (hW : ∀ b f c, W b → ¬ K b = 8 → O b f = some c → W c) {a0 : Nat} (h0 : a0 ∈ P ∧ K a0 = 6) (w0 : W a0) {x1 : Int32} {x2 : Int32} {x3 : Int32} {x4 : Int32} {Q : (Int32 × WI) → Prop} (hQ : ∀ (z : Int32) (I_ : WI), (∀ b, ¬ W b → I_ b = I0 b) → Q (z, I_)) : Pp (F_Si_note N O I0 J0 a0 x1 x2 x3 x4) Q := by
  unfold F_Si_note
  have hV0 : (∀ b, ¬ W b → I0 b = I0 b) := fun _ _ => rfl
  refine Pp.ite (fun _ => ?_) (fun _ => ?_)
  · skip
    exact Pp.ret (hQ (I0 a0 4) I0 hV0)
  · skip
    refine Pp.ite (fun _ => ?_) (fun _ => ?_)
    · skip
      exact Pp.ret (hQ (I0 a0 4) I0 hV0)
    · skip
      have t_17 := rf_ok hT h0 (show sp 6 0 = some 22 from rfl)
      refine Pp.g (fun _ => ?_)
      refine Pp_lb (fun I1 eI1 => ?_)
      have hV1 : (∀ b, ¬ W b → I1 b = I0 b) := fp_put hV0 (hW a0 0 _ w0 (by rw [h0.2]; decide) (rf_o hT h0 (show sp 6 0 = some 22 from rfl))) eI1
      have t_27 := rf_ok hT h0 (show sp 6 1 = some 22 from rfl)
      refine Pp.g (fun _ => ?_)
      refine Pp_lb (fun I2 eI2 => ?_)
      have hV2 : (∀ b, ¬ W b → I2 b = I0 b) := fp_put hV1 (hW a0 1 _ w0 (by rw [h0.2]; decide) (rf_o hT h0 (show sp 6 1 = some 22 from rfl))) eI2
      have t_37 := rf_ok hT h0 (show sp 6 2 = some 22 from rfl)
      refine Pp.g (fun _ => ?_)
      refine Pp_lb (fun I3 eI3 => ?_)
      have hV3 : (∀ b, ¬ W b → I3 b = I0 b) := fp_put hV2 (hW a0 2 _ w0 (by rw [h0.2]; decide) (rf_o hT h0 (show sp 6 2 = some 22 from rfl))) eI3
      have t_47 := rf_ok hT h0 (show sp 6 3 = some 22 from rfl)
      refine Pp.g (fun _ => ?_)
      refine Pp_lb (fun I4 eI4 => ?_)
      have hV4 : (∀ b, ¬ W b → I4 b = I0 b) := fp_put hV3 (hW a0 3 _ w0 (by rw [h0.2]; decide) (rf_o hT h0 (show sp 6 3 = some 22 from rfl))) eI4
      refine Pp_lb (fun I5 eI5 => ?_)
      have hV5 : (∀ b, ¬ W b → I5 b = I0 b) := fp_put hV4 w0 eI5
      refine Pp_lb (fun I6 eI6 => ?_)
      have hV6 : (∀ b, ¬ W b → I6 b = I0 b) := fp_put hV5 w0 eI6
      exact Pp.ret (hQ (I6 a0 4) I6 hV6)
set_option maxHeartbeats 4000000 in
set_option maxRecDepth 100000 in
theorem w_Si_drop {W : Nat → Prop} {P : List Nat} {K : Nat → Nat} {N : Nat} {O : WO} {I0 : WI} {J0 : WJ} (hT : TR P K O) (hW : ∀ b f c, W b → ¬ K b = 8 → O b f = some c → W c) {a0 : Nat} (h0 : a0 ∈ P ∧ K a0 = 6) (w0 : W a0) {Q : (Int32 × WI) → Prop} (hQ : ∀ (z : Int32) (I_ : WI), (∀ b, ¬ W b → I_ b = I0 b) → Q (z, I_)) : Pp (F_Si_drop N O I0 J0 a0) Q := by
  unfold F_Si_drop
  have hV0 : (∀ b, ¬ W b → I0 b = I0 b) := fun _ _ => rfl
  refine Pp_lb (fun v1_4 _ => ?_)
  refine Pp_lb (fun I1 eI1 => ?_)
  have hV1 : (∀ b, ¬ W b → I1 b = I0 b) := fp_put hV0 w0 eI1
  refine Pp_lb (fun I2 eI2 => ?_)
  have hV2 : (∀ b, ¬ W b → I2 b = I0 b) := fp_put hV1 w0 eI2
  exact Pp.ret (hQ v1_4 I2 hV2)
set_option maxHeartbeats 4000000 in
set_option maxRecDepth 100000 in
theorem w_Si_findFits {W : Nat → Prop} {P : List Nat} {K : Nat → Nat} {N : Nat} {O : WO} {I0 : WI} {J0 : WJ} (hT : TR P K O) (hW : ∀ b f c, W b → ¬ K b = 8 → O b f = some c → W c) {a0 : Nat} (h0 : a0 ∈ P ∧ K a0 = 6) (w0 : W a0) {a1 : Nat} (h1 : a1 ∈ P ∧ K a1 = 1) {Q : (Int32 × WI) → Prop} (hQ : ∀ (z : Int32) (I_ : WI), (∀ b, ¬ W b → I_ b = I0 b) → Q (z, I_)) : Pp (F_Si_findFits N O I0 J0 a0 a1) Q := by
  unfold F_Si_findFits
  have hV0 : (∀ b, ¬ W b → I0 b = I0 b) := fun _ _ => rfl
  refine Pp.ite (fun _ => ?_) (fun _ => ?_)
  · skip
    refine Pp_lb (fun I1 eI1 => ?_)
    have hV1 : (∀ b, ¬ W b → I1 b = I0 b) := fp_put hV0 w0 eI1
    have lp_14 : ∀ (m_14 : Nat) (x2_14 : Int32) (I_14 : WI), (∀ b, ¬ W b → I_14 b = I0 b) → Pp (lp (B_Si_findFits_14 N O (a0) (a1) (J0)) (fun _ _ => none) m_14 x2_14 I_14) Q := by
      intro m_14
      induction m_14 with
      | zero => intro x2_14 I_14 _; exact Pp.no
      | succ m_14 ih_14 =>
      intro x2_14 I_14 hV_14
      show Pp (B_Si_findFits_14 N O (a0) (a1) (J0) (lp (B_Si_findFits_14 N O (a0) (a1) (J0)) (fun _ _ => none) m_14) x2_14 I_14) Q
      unfold B_Si_findFits_14
      refine Pp_jq (fun k_66 => ∀ (y2_66 : Int32) (IJ_66 : WI), (∀ b, ¬ W b → IJ_66 b = I0 b) → Pp (k_66 y2_66 IJ_66) Q) (fun y2_66 IJ_66 hVJ_66 => ?_) (fun k_66 hk_66 => ?_)
      · skip
        refine Pp_lb (fun I2 eI2 => ?_)
        have hV2 : (∀ b, ¬ W b → I2 b = I0 b) := fp_put hVJ_66 w0 eI2
        exact Pp.ret (hQ (I2 a0 6) I2 hV2)
      refine Pp.ite (fun _ => ?_) (fun _ => ?_)
      · skip
        exact hk_66 (x2_14) I_14 hV_14
      · skip
        refine Pp.ite (fun _ => ?_) (fun _ => ?_)
        · skip
          exact hk_66 (x2_14) I_14 hV_14
        · skip
          refine Ppa1 (fun z_34 => ?_)
          refine Pp_jq (fun k_60 => ∀ (IJ_60 : WI), (∀ b, ¬ W b → IJ_60 b = I0 b) → Pp (k_60 IJ_60) Q) (fun IJ_60 hVJ_60 => ?_) (fun k_60 hk_60 => ?_)
          · skip
            refine Pp_lb (fun v2_60 _ => ?_)
            exact ih_14 (v2_60) IJ_60 hVJ_60
          refine Pp.ite (fun _ => ?_) (fun _ => ?_)
          · skip
            exact hk_60  I_14 hV_14
          · skip
            have t_41 := rf_ok hT h0 (show sp 6 5 = some 23 from rfl)
            refine Pp.g (fun _ => ?_)
            refine Pp_lb (fun I4 eI4 => ?_)
            have hV4 : (∀ b, ¬ W b → I4 b = I0 b) := fp_put hV_14 (hW a0 5 _ w0 (by rw [h0.2]; decide) (rf_o hT h0 (show sp 6 5 = some 23 from rfl))) eI4
            refine Pp_lb (fun I5 eI5 => ?_)
            have hV5 : (∀ b, ¬ W b → I5 b = I0 b) := fp_put hV4 w0 eI5
            exact hk_60  I5 hV5
    exact lp_14 N ((Int32.ofInt (0))) I1 hV1
  · skip
    exact Pp.ret (hQ (I0 a0 6) I0 hV0)
set_option maxHeartbeats 4000000 in
set_option maxRecDepth 100000 in
theorem w_Tr_add {W : Nat → Prop} {P : List Nat} {K : Nat → Nat} {N : Nat} {O : WO} {I0 : WI} {J0 : WJ} (hT : TR P K O) (hW : ∀ b f c, W b → ¬ K b = 8 → O b f = some c → W c) {a0 : Nat} (h0 : a0 ∈ P ∧ K a0 = 7) (w0 : W a0) {x1 : Int32} {x2 : Int32} {Q : (Int32 × WI) → Prop} (hQ : ∀ (z : Int32) (I_ : WI), (∀ b, ¬ W b → I_ b = I0 b) → Q (z, I_)) : Pp (F_Tr_add N O I0 J0 a0 x1 x2) Q := by
  unfold F_Tr_add
  have hV0 : (∀ b, ¬ W b → I0 b = I0 b) := fun _ _ => rfl
  refine Ppa1 (fun z_2 => ?_)
  refine Pp.ite (fun _ => ?_) (fun _ => ?_)
  · skip
    refine Pp.ite (fun _ => ?_) (fun _ => ?_)
    · skip
      have t_41 := rf_ok hT h0 (show sp 7 0 = some 26 from rfl)
      refine Pp.g (fun _ => ?_)
      refine Pp_lb (fun I2 eI2 => ?_)
      have hV2 : (∀ b, ¬ W b → I2 b = I0 b) := fp_put hV0 (hW a0 0 _ w0 (by rw [h0.2]; decide) (rf_o hT h0 (show sp 7 0 = some 26 from rfl))) eI2
      refine Pp_lb (fun I3 eI3 => ?_)
      have hV3 : (∀ b, ¬ W b → I3 b = I0 b) := fp_put hV2 w0 eI3
      exact Pp.ret (hQ (I3 a0 3) I3 hV3)
    · skip
      have t_16 := rf_ok hT h0 (show sp 7 1 = some 26 from rfl)
      refine Pp.g (fun _ => ?_)
      refine Pp_lb (fun I4 eI4 => ?_)
      have hV4 : (∀ b, ¬ W b → I4 b = I0 b) := fp_put hV0 (hW a0 1 _ w0 (by rw [h0.2]; decide) (rf_o hT h0 (show sp 7 1 = some 26 from rfl))) eI4
      refine Pp_lb (fun I5 eI5 => ?_)
      have hV5 : (∀ b, ¬ W b → I5 b = I0 b) := fp_put hV4 w0 eI5
      exact Pp.ret (hQ (I5 a0 4) I5 hV5)
  · skip
    exact Pp.ret (hQ (Int32.ofInt (8)) I0 hV0)
set_option maxHeartbeats 4000000 in
set_option maxRecDepth 100000 in
theorem w_Tr_drop {W : Nat → Prop} {P : List Nat} {K : Nat → Nat} {N : Nat} {O : WO} {I0 : WI} {J0 : WJ} (hT : TR P K O) (hW : ∀ b f c, W b → ¬ K b = 8 → O b f = some c → W c) {a0 : Nat} (h0 : a0 ∈ P ∧ K a0 = 7) (w0 : W a0) {Q : (Int32 × WI) → Prop} (hQ : ∀ (z : Int32) (I_ : WI), (∀ b, ¬ W b → I_ b = I0 b) → Q (z, I_)) : Pp (F_Tr_drop N O I0 J0 a0) Q := by
  unfold F_Tr_drop
  have hV0 : (∀ b, ¬ W b → I0 b = I0 b) := fun _ _ => rfl
  refine Pp_lb (fun v1_9 _ => ?_)
  refine Pp_lb (fun I1 eI1 => ?_)
  have hV1 : (∀ b, ¬ W b → I1 b = I0 b) := fp_put hV0 w0 eI1
  refine Pp_lb (fun I2 eI2 => ?_)
  have hV2 : (∀ b, ¬ W b → I2 b = I0 b) := fp_put hV1 w0 eI2
  exact Pp.ret (hQ v1_9 I2 hV2)
set_option maxHeartbeats 4000000 in
set_option maxRecDepth 100000 in
theorem w_Tr_countNoLess {W : Nat → Prop} {P : List Nat} {K : Nat → Nat} {N : Nat} {O : WO} {I0 : WI} {J0 : WJ} (hT : TR P K O) (hW : ∀ b f c, W b → ¬ K b = 8 → O b f = some c → W c) {a0 : Nat} (h0 : a0 ∈ P ∧ K a0 = 7) (w0 : W a0) {Q : (Int32 × WI) → Prop} (hQ : ∀ (z : Int32) (I_ : WI), (∀ b, ¬ W b → I_ b = I0 b) → Q (z, I_)) : Pp (F_Tr_countNoLess N O I0 J0 a0) Q := by
  unfold F_Tr_countNoLess
  have hV0 : (∀ b, ¬ W b → I0 b = I0 b) := fun _ _ => rfl
  have lp_4 : ∀ (m_4 : Nat) (x1_4 : Int32) (x2_4 : Int32) (I_4 : WI), (∀ b, ¬ W b → I_4 b = I0 b) → Pp (lp (B_Tr_countNoLess_4 N O (a0) (J0)) (fun _ _ _ => none) m_4 x1_4 x2_4 I_4) Q := by
    intro m_4
    induction m_4 with
    | zero => intro x1_4 x2_4 I_4 _; exact Pp.no
    | succ m_4 ih_4 =>
    intro x1_4 x2_4 I_4 hV_4
    show Pp (B_Tr_countNoLess_4 N O (a0) (J0) (lp (B_Tr_countNoLess_4 N O (a0) (J0)) (fun _ _ _ => none) m_4) x1_4 x2_4 I_4) Q
    unfold B_Tr_countNoLess_4
    refine Pp_jq (fun k_45 => ∀ (y1_45 : Int32) (y2_45 : Int32) (IJ_45 : WI), (∀ b, ¬ W b → IJ_45 b = I0 b) → Pp (k_45 y1_45 y2_45 IJ_45) Q) (fun y1_45 y2_45 IJ_45 hVJ_45 => ?_) (fun k_45 hk_45 => ?_)
    · skip
      have lp_47 : ∀ (m_47 : Nat) (x2_47 : Int32) (I_47 : WI), (∀ b, ¬ W b → I_47 b = I0 b) → Pp (lp (B_Tr_countNoLess_47 N O (a0) (J0) (y1_45)) (fun _ _ => none) m_47 x2_47 I_47) Q := by
        intro m_47
        induction m_47 with
        | zero => intro x2_47 I_47 _; exact Pp.no
        | succ m_47 ih_47 =>
        intro x2_47 I_47 hV_47
        show Pp (B_Tr_countNoLess_47 N O (a0) (J0) (y1_45) (lp (B_Tr_countNoLess_47 N O (a0) (J0) (y1_45)) (fun _ _ => none) m_47) x2_47 I_47) Q
        unfold B_Tr_countNoLess_47
        refine Pp_jq (fun k_98 => ∀ (y2_98 : Int32) (IJ_98 : WI), (∀ b, ¬ W b → IJ_98 b = I0 b) → Pp (k_98 y2_98 IJ_98) Q) (fun y2_98 IJ_98 hVJ_98 => ?_) (fun k_98 hk_98 => ?_)
        · skip
          have t_99 := rf_ok hT h0 (show sp 7 2 = some 27 from rfl)
          refine Ppa1 (fun z_117 => ?_)
          exact Pp.ret (hQ z_117 IJ_98 hVJ_98)
        refine Pp.ite (fun _ => ?_) (fun _ => ?_)
        · skip
          exact hk_98 (x2_47) I_47 hV_47
        · skip
          refine Pp.ite (fun _ => ?_) (fun _ => ?_)
          · skip
            exact hk_98 (x2_47) I_47 hV_47
          · skip
            have t_68 := rf_ok hT h0 (show sp 7 2 = some 27 from rfl)
            refine Pp.ite (fun _ => ?_) (fun _ => ?_)
            · skip
              exact hk_98 (x2_47) I_47 hV_47
            · skip
              have t_76 := rf_ok hT h0 (show sp 7 2 = some 27 from rfl)
              have t_86 := rf_ok hT h0 (show sp 7 0 = some 26 from rfl)
              refine Pp.g (fun _ => ?_)
              refine Pp.g (fun _ => ?_)
              refine Pp_lb (fun I2 eI2 => ?_)
              have hV2 : (∀ b, ¬ W b → I2 b = I0 b) := fp_put hV_47 (hW a0 2 _ w0 (by rw [h0.2]; decide) (rf_o hT h0 (show sp 7 2 = some 27 from rfl))) eI2
              refine Pp_lb (fun v2_92 _ => ?_)
              exact ih_47 (v2_92) I2 hV2
      exact lp_47 N ((Int32.ofInt (0))) IJ_45 hVJ_45
    refine Pp.ite (fun _ => ?_) (fun _ => ?_)
    · skip
      exact hk_45 (x1_4) (x2_4) I_4 hV_4
    · skip
      refine Pp.ite (fun _ => ?_) (fun _ => ?_)
      · skip
        exact hk_45 (x1_4) (x2_4) I_4 hV_4
      · skip
        have t_19 := rf_ok hT h0 (show sp 7 2 = some 27 from rfl)
        have t_24 := rf_ok hT h0 (show sp 7 1 = some 26 from rfl)
        refine Pp.g (fun _ => ?_)
        refine Pp.g (fun _ => ?_)
        refine Pp_lb (fun I3 eI3 => ?_)
        have hV3 : (∀ b, ¬ W b → I3 b = I0 b) := fp_put hV_4 (hW a0 2 _ w0 (by rw [h0.2]; decide) (rf_o hT h0 (show sp 7 2 = some 27 from rfl))) eI3
        have t_32 := rf_ok hT h0 (show sp 7 1 = some 26 from rfl)
        refine Pp.g (fun _ => ?_)
        refine Pp_lb (fun v1_38 _ => ?_)
        refine Pp_lb (fun v2_39 _ => ?_)
        exact ih_4 (v1_38) (v2_39) I3 hV3
  exact lp_4 N ((Int32.ofInt (0))) ((Int32.ofInt (0))) I0 hV0
set_option maxHeartbeats 4000000 in
set_option maxRecDepth 100000 in
theorem w_Pl_drop {W : Nat → Prop} {P : List Nat} {K : Nat → Nat} {N : Nat} {O : WO} {I0 : WI} {J0 : WJ} (hT : TR P K O) (hW : ∀ b f c, W b → ¬ K b = 8 → O b f = some c → W c) {a0 : Nat} (h0 : a0 ∈ P ∧ K a0 = 4) (w0 : W a0) {Q : WI → Prop} (hQ : ∀ (I_ : WI), (∀ b, ¬ W b → I_ b = I0 b) → Q I_) : Pp (F_Pl_drop N O I0 J0 a0) Q := by
  unfold F_Pl_drop
  have hV0 : (∀ b, ¬ W b → I0 b = I0 b) := fun _ _ => rfl
  refine Pp_lb (fun I1 eI1 => ?_)
  have hV1 : (∀ b, ¬ W b → I1 b = I0 b) := fp_put hV0 w0 eI1
  exact Pp.ret (hQ I1 hV1)
set_option maxHeartbeats 4000000 in
set_option maxRecDepth 100000 in
theorem w_Pl_keepBest {W : Nat → Prop} {P : List Nat} {K : Nat → Nat} {N : Nat} {O : WO} {I0 : WI} {J0 : WJ} (hT : TR P K O) (hW : ∀ b f c, W b → ¬ K b = 8 → O b f = some c → W c) {a0 : Nat} (h0 : a0 ∈ P ∧ K a0 = 4) (w0 : W a0) {x1 : Int32} {Q : WI → Prop} (hQ : ∀ (I_ : WI), (∀ b, ¬ W b → I_ b = I0 b) → Q I_) : Pp (F_Pl_keepBest N O I0 J0 a0 x1) Q := by
  unfold F_Pl_keepBest
  have hV0 : (∀ b, ¬ W b → I0 b = I0 b) := fun _ _ => rfl
  have t_1 := rf_ok hT h0 (show sp 4 2 = some 11 from rfl)
  have t_5 := rf_ok hT h0 (show sp 4 3 = some 11 from rfl)
  refine Ppc1 (w_RM_copyRow hT hW (hW a0 3 _ w0 (by rw [h0.2]; decide) (rf_o hT h0 (show sp 4 3 = some 11 from rfl))) (fun I1 hF1 => ?_))
  have hV1 : (∀ b, ¬ W b → I1 b = I0 b) := fun b hb => (hF1 b hb).trans (hV0 b hb)
  refine Pp_lb (fun I2 eI2 => ?_)
  have hV2 : (∀ b, ¬ W b → I2 b = I0 b) := fp_put hV1 w0 eI2
  refine Pp_lb (fun I3 eI3 => ?_)
  have hV3 : (∀ b, ¬ W b → I3 b = I0 b) := fp_put hV2 w0 eI3
  exact Pp.ret (hQ I3 hV3)
theorem wr_Pl_search {W : Nat → Prop} {P : List Nat} {K : Nat → Nat} {N : Nat} {O : WO} {J0 : WJ} (hT : TR P K O) (hW : ∀ b f c, W b → ¬ K b = 8 → O b f = some c → W c) (m : Nat) : ∀ {I0 : WI} {a0 a1 : Nat} {x2 x3 : Int32}, (a0 ∈ P ∧ K a0 = 4) → W a0 → (a1 ∈ P ∧ K a1 = 3) → Pp (lp (B_Pl_search_self N O J0) (fun _ _ _ _ _ => none) m a0 a1 x2 x3 I0) (fun I' => ∀ b, ¬ W b → I' b = I0 b) := by
  induction m with
  | zero => intro I0 a0 a1 x2 x3 _ _ _; exact Pp.no
  | succ m ih =>
    intro I0 a0 a1 x2 x3 h0 w0 h1
    show Pp (B_Pl_search_self N O J0 (lp (B_Pl_search_self N O J0) (fun _ _ _ _ _ => none) m) a0 a1 x2 x3 I0) _
    unfold B_Pl_search_self
    have tD := rf_ok hT h0 (show sp 4 0 = some 24 from rfl)
    have tR := rf_ok hT h0 (show sp 4 1 = some 18 from rfl)
    have wD := hW a0 0 _ w0 (by rw [h0.2]; decide) (rf_o hT h0 (show sp 4 0 = some 24 from rfl))
    have wR := hW a0 1 _ w0 (by rw [h0.2]; decide) (rf_o hT h0 (show sp 4 1 = some 18 from rfl))
    have wA := hW a0 2 _ w0 (by rw [h0.2]; decide) (rf_o hT h0 (show sp 4 2 = some 11 from rfl))
    refine Pp.ite (fun _ => Pp.ret (fun _ _ => rfl)) (fun _ => Pp.ite (fun _ => Pp.g (fun g1 => ?_)) (fun _ => Pp.ret (fun _ _ => rfl)))
    have tH := rfA_ok (i := x2) hT tD g1
    refine Pp_jq (fun kk => Pp kk (fun I' => ∀ b, ¬ W b → I' b = I0 b)) (Ppc1 (w_Pl_keepBest hT hW h0 w0 (fun I1 hF => Pp.ret hF))) (fun kk hk => ?_)
    refine Pp.ite (fun _ => hk) (fun _ => Pp.ite (fun _ => Pp.g (fun g2 => ?_)) (fun _ => hk))
    have tN := rfA_ok (i := x2 + Int32.ofInt 1) hT tD g2
    have wN := hW _ _ _ wD (by rw [tD.2]; decide) (rfA_o (i := x2 + Int32.ofInt 1) hT tD g2)
    have main : ∀ (mf : Nat) (x : Int32) (I : WI), (∀ b, ¬ W b → I b = I0 b) → Pp (lp (B_Pl_search_57 N O a0 a1 x2 x3 J0 (lp (B_Pl_search_self N O J0) (fun _ _ _ _ _ => none) m)) (fun _ _ => none) mf x I) (fun I' => ∀ b, ¬ W b → I' b = I0 b) := by
      intro mf
      induction mf with
      | zero => intro x I _; exact Pp.no
      | succ mf ihf =>
        intro x I hS
        show Pp (B_Pl_search_57 N O a0 a1 x2 x3 J0 (lp (B_Pl_search_self N O J0) (fun _ _ _ _ _ => none) m) (lp (B_Pl_search_57 N O a0 a1 x2 x3 J0 (lp (B_Pl_search_self N O J0) (fun _ _ _ _ _ => none) m)) (fun _ _ => none) mf) x I) _
        unfold B_Pl_search_57
        refine Pp.ite (fun _ => Pp.ret hS) (fun _ => Pp_lb (fun I2 e2 => ?_))
        have hS2 := fp_put hS wR e2
        refine Ppc1 (w_Dr_copyFrom hT hW tN wN tH (fun I3 hF3 => ?_))
        have hS3 : ∀ b, ¬ W b → I3 b = I0 b := fun b hb => (hF3 b hb).trans (hS2 b hb)
        refine Ppc1 (w_Dr_runHour hT hW tN wN h1 (fun I4 hF4 => ?_))
        have hS4 : ∀ b, ¬ W b → I4 b = I0 b := fun b hb => (hF4 b hb).trans (hS3 b hb)
        refine Ppa1 (fun z => ?_)
        refine Pp_jq (fun kk => ∀ I5, (∀ b, ¬ W b → I5 b = I0 b) → Pp (kk I5) (fun I' => ∀ b, ¬ W b → I' b = I0 b)) (fun I5 h5 => Pp_lb (fun v _ => ihf v I5 h5)) (fun kk hk4 => ?_)
        refine Pp.ite (fun _ => hk4 _ hS4) (fun _ => ?_)
        refine Pp_jq (fun kk => Pp kk (fun I' => ∀ b, ¬ W b → I' b = I0 b)) (Pp.g (fun _ => Pp_lb (fun I6 e6 => ?_))) (fun k121 hk121 => Pp.ite (fun _ => hk121) (fun _ => Pp.ite (fun _ => hk4 _ hS4) (fun _ => hk121)))
        have hS6 := fp_put hS4 wA e6
        exact Ppc1 (fun I7 e7 => hk4 I7 (fun b hb => (ih h0 w0 h1 I7 e7 b hb).trans (hS6 b hb)))
    exact main N _ I0 (fun _ _ => rfl)
theorem w_Pl_search {W : Nat → Prop} {P : List Nat} {K : Nat → Nat} {N : Nat} {O : WO} {I0 : WI} {J0 : WJ} (hT : TR P K O) (hW : ∀ b f c, W b → ¬ K b = 8 → O b f = some c → W c) {a0 : Nat} (h0 : a0 ∈ P ∧ K a0 = 4) (w0 : W a0) {a1 : Nat} (h1 : a1 ∈ P ∧ K a1 = 3) {x2 x3 : Int32} {Q : WI → Prop} (hQ : ∀ (I_ : WI), (∀ b, ¬ W b → I_ b = I0 b) → Q I_) : Pp (F_Pl_search N O I0 J0 a0 a1 x2 x3) Q := by
  unfold F_Pl_search
  exact fun I1 e => hQ I1 (wr_Pl_search hT hW 7 h0 w0 h1 I1 e)
set_option maxHeartbeats 4000000 in
set_option maxRecDepth 100000 in
theorem w_Pl_findCheapest {W : Nat → Prop} {P : List Nat} {K : Nat → Nat} {N : Nat} {O : WO} {I0 : WI} {J0 : WJ} (hT : TR P K O) (hW : ∀ b f c, W b → ¬ K b = 8 → O b f = some c → W c) {a0 : Nat} (h0 : a0 ∈ P ∧ K a0 = 4) (w0 : W a0) {a1 : Nat} (h1 : a1 ∈ P ∧ K a1 = 3) {a2 : Nat} (h2 : a2 ∈ P ∧ K a2 = 0) {a3 : Nat} (h3 : a3 ∈ P ∧ K a3 = 18) {x4 : Int32} {Q : (Int32 × WI) → Prop} (hQ : ∀ (z : Int32) (I_ : WI), (∀ b, ¬ W b → I_ b = I0 b) → Q (z, I_)) : Pp (F_Pl_findCheapest N O I0 J0 a0 a1 a2 a3 x4) Q := by
  unfold F_Pl_findCheapest
  have hV0 : (∀ b, ¬ W b → I0 b = I0 b) := fun _ _ => rfl
  have t_1 := rf_ok hT h0 (show sp 4 0 = some 24 from rfl)
  have t_5 := rfA_ok (i := (Int32.ofInt (0))) hT t_1 (by rw [ofI (by decide)]; decide)
  refine Ppc1 (w_Dr_copyFrom hT hW t_5 (hW (rf O a0 0) _ _ (hW a0 0 _ w0 (by rw [h0.2]; decide) (rf_o hT h0 (show sp 4 0 = some 24 from rfl))) (by rw [t_1.2]; decide) (rfA_o (i := (Int32.ofInt (0))) hT t_1 (by rw [ofI (by decide)]; decide))) h2 (fun I1 hF1 => ?_))
  have hV1 : (∀ b, ¬ W b → I1 b = I0 b) := fun b hb => (hF1 b hb).trans (hV0 b hb)
  have t_23 := rf_ok hT h0 (show sp 4 1 = some 18 from rfl)
  refine Ppc1 (w_RM_copyRow hT hW (hW a0 1 _ w0 (by rw [h0.2]; decide) (rf_o hT h0 (show sp 4 1 = some 18 from rfl))) (fun I2 hF2 => ?_))
  have hV2 : (∀ b, ¬ W b → I2 b = I0 b) := fun b hb => (hF2 b hb).trans (hV1 b hb)
  refine Pp_lb (fun I3 eI3 => ?_)
  have hV3 : (∀ b, ¬ W b → I3 b = I0 b) := fp_put hV2 w0 eI3
  refine Ppc1 (w_Pl_search hT hW h0 w0 h1 (fun I4 hF4 => ?_))
  have hV4 : (∀ b, ¬ W b → I4 b = I0 b) := fun b hb => (hF4 b hb).trans (hV3 b hb)
  refine Pp.ite (fun _ => ?_) (fun _ => ?_)
  · skip
    exact Pp.ret (hQ (Int32.ofInt (-1)) I4 hV4)
  · skip
    have t_52 := rf_ok hT h0 (show sp 4 3 = some 11 from rfl)
    have t_56 := rf_ok hT h0 (show sp 4 6 = some 11 from rfl)
    refine Ppc1 (w_RM_copyRow hT hW (hW a0 6 _ w0 (by rw [h0.2]; decide) (rf_o hT h0 (show sp 4 6 = some 11 from rfl))) (fun I5 hF5 => ?_))
    have hV5 : (∀ b, ¬ W b → I5 b = I0 b) := fun b hb => (hF5 b hb).trans (hV4 b hb)
    refine Pp_lb (fun I6 eI6 => ?_)
    have hV6 : (∀ b, ¬ W b → I6 b = I0 b) := fp_put hV5 w0 eI6
    exact Pp.ret (hQ ((I6 a0 4) - (I6 a2 15)) I6 hV6)
set_option maxHeartbeats 4000000 in
set_option maxRecDepth 100000 in
theorem w_Pl_leastRate {W : Nat → Prop} {P : List Nat} {K : Nat → Nat} {N : Nat} {O : WO} {I0 : WI} {J0 : WJ} (hT : TR P K O) (hW : ∀ b f c, W b → ¬ K b = 8 → O b f = some c → W c) {a0 : Nat} (h0 : a0 ∈ P ∧ K a0 = 4) (w0 : W a0) {a1 : Nat} (h1 : a1 ∈ P ∧ K a1 = 3) {Q : (Int32 × WI) → Prop} (hQ : ∀ (z : Int32) (I_ : WI), (∀ b, ¬ W b → I_ b = I0 b) → Q (z, I_)) : Pp (F_Pl_leastRate N O I0 J0 a0 a1) Q := by
  unfold F_Pl_leastRate
  have hV0 : (∀ b, ¬ W b → I0 b = I0 b) := fun _ _ => rfl
  have lp_2 : ∀ (m_2 : Nat) (x2_2 : Int32) (I_2 : WI), (∀ b, ¬ W b → I_2 b = I0 b) → Pp (lp (B_Pl_leastRate_2 N O (a0) (a1) (J0)) (fun _ _ => none) m_2 x2_2 I_2) Q := by
    intro m_2
    induction m_2 with
    | zero => intro x2_2 I_2 _; exact Pp.no
    | succ m_2 ih_2 =>
    intro x2_2 I_2 hV_2
    show Pp (B_Pl_leastRate_2 N O (a0) (a1) (J0) (lp (B_Pl_leastRate_2 N O (a0) (a1) (J0)) (fun _ _ => none) m_2) x2_2 I_2) Q
    unfold B_Pl_leastRate_2
    refine Pp.ite (fun _ => ?_) (fun _ => ?_)
    · skip
      exact Pp.ret (hQ (Int32.ofInt (0)) I_2 hV_2)
    · skip
      have t_8 := rf_ok hT h0 (show sp 4 1 = some 18 from rfl)
      refine Pp_lb (fun I1 eI1 => ?_)
      have hV1 : (∀ b, ¬ W b → I1 b = I0 b) := fp_put hV_2 (hW a0 1 _ w0 (by rw [h0.2]; decide) (rf_o hT h0 (show sp 4 1 = some 18 from rfl))) eI1
      have t_15 := rf_ok hT h0 (show sp 4 8 = some 0 from rfl)
      have t_19 := rf_ok hT h0 (show sp 4 9 = some 0 from rfl)
      refine Ppc1 (w_Dr_copyFrom hT hW t_15 (hW a0 8 _ w0 (by rw [h0.2]; decide) (rf_o hT h0 (show sp 4 8 = some 0 from rfl))) t_19 (fun I2 hF2 => ?_))
      have hV2 : (∀ b, ¬ W b → I2 b = I0 b) := fun b hb => (hF2 b hb).trans (hV1 b hb)
      have t_26 := rf_ok hT h0 (show sp 4 8 = some 0 from rfl)
      have t_31 := rf_ok hT h0 (show sp 4 1 = some 18 from rfl)
      refine Ppc1 (w_Dr_runHour hT hW t_26 (hW a0 8 _ w0 (by rw [h0.2]; decide) (rf_o hT h0 (show sp 4 8 = some 0 from rfl))) h1 (fun I3 hF3 => ?_))
      have hV3 : (∀ b, ¬ W b → I3 b = I0 b) := fun b hb => (hF3 b hb).trans (hV2 b hb)
      have t_39 := rf_ok hT h0 (show sp 4 8 = some 0 from rfl)
      refine Ppa1 (fun z_42 => ?_)
      refine Pp.ite (fun _ => ?_) (fun _ => ?_)
      · skip
        refine Pp_lb (fun v2_50 _ => ?_)
        exact ih_2 (v2_50) I3 hV3
      · skip
        exact Pp.ret (hQ x2_2 I3 hV3)
  exact lp_2 N ((Int32.ofInt (0))) I0 hV0
set_option maxHeartbeats 4000000 in
set_option maxRecDepth 100000 in
theorem w_Pl_keepRule {W : Nat → Prop} {P : List Nat} {K : Nat → Nat} {N : Nat} {O : WO} {I0 : WI} {J0 : WJ} (hT : TR P K O) (hW : ∀ b f c, W b → ¬ K b = 8 → O b f = some c → W c) {a0 : Nat} (h0 : a0 ∈ P ∧ K a0 = 4) (w0 : W a0) {a1 : Nat} (h1 : a1 ∈ P ∧ K a1 = 3) {a2 : Nat} (h2 : a2 ∈ P ∧ K a2 = 0) {a3 : Nat} (h3 : a3 ∈ P ∧ K a3 = 18) {x4 : Int32} {Q : WI → Prop} (hQ : ∀ (I_ : WI), (∀ b, ¬ W b → I_ b = I0 b) → Q I_) : Pp (F_Pl_keepRule N O I0 J0 a0 a1 a2 a3 x4) Q := by
  unfold F_Pl_keepRule
  have hV0 : (∀ b, ¬ W b → I0 b = I0 b) := fun _ _ => rfl
  have t_1 := rf_ok hT h0 (show sp 4 9 = some 0 from rfl)
  refine Ppc1 (w_Dr_copyFrom hT hW t_1 (hW a0 9 _ w0 (by rw [h0.2]; decide) (rf_o hT h0 (show sp 4 9 = some 0 from rfl))) h2 (fun I1 hF1 => ?_))
  have hV1 : (∀ b, ¬ W b → I1 b = I0 b) := fun b hb => (hF1 b hb).trans (hV0 b hb)
  have t_10 := rf_ok hT h0 (show sp 4 1 = some 18 from rfl)
  refine Ppc1 (w_RM_copyRow hT hW (hW a0 1 _ w0 (by rw [h0.2]; decide) (rf_o hT h0 (show sp 4 1 = some 18 from rfl))) (fun I2 hF2 => ?_))
  have hV2 : (∀ b, ¬ W b → I2 b = I0 b) := fun b hb => (hF2 b hb).trans (hV1 b hb)
  have lp_19 : ∀ (m_19 : Nat) (x5_19 : Int32) (I_19 : WI), (∀ b, ¬ W b → I_19 b = I0 b) → Pp (lp (B_Pl_keepRule_19 N O (a0) (a1) (x4) (J0)) (fun _ _ => none) m_19 x5_19 I_19) Q := by
    intro m_19
    induction m_19 with
    | zero => intro x5_19 I_19 _; exact Pp.no
    | succ m_19 ih_19 =>
    intro x5_19 I_19 hV_19
    show Pp (B_Pl_keepRule_19 N O (a0) (a1) (x4) (J0) (lp (B_Pl_keepRule_19 N O (a0) (a1) (x4) (J0)) (fun _ _ => none) m_19) x5_19 I_19) Q
    unfold B_Pl_keepRule_19
    refine Pp.ite (fun _ => ?_) (fun _ => ?_)
    · skip
      exact Pp.ret (hQ I_19 hV_19)
    · skip
      refine Pp.ite (fun _ => ?_) (fun _ => ?_)
      · skip
        exact Pp.ret (hQ I_19 hV_19)
      · skip
        have t_33 := rf_ok hT h0 (show sp 4 1 = some 18 from rfl)
        refine Ppc2 (w_Pl_leastRate hT hW h0 w0 h1 (fun z_39 I3 hF3 => ?_))
        have hV3 : (∀ b, ¬ W b → I3 b = I0 b) := fun b hb => (hF3 b hb).trans (hV_19 b hb)
        refine Pp_lb (fun I4 eI4 => ?_)
        have hV4 : (∀ b, ¬ W b → I4 b = I0 b) := fp_put hV3 (hW a0 1 _ w0 (by rw [h0.2]; decide) (rf_o hT h0 (show sp 4 1 = some 18 from rfl))) eI4
        have t_44 := rf_ok hT h0 (show sp 4 9 = some 0 from rfl)
        have t_49 := rf_ok hT h0 (show sp 4 1 = some 18 from rfl)
        refine Ppc1 (w_Dr_runHour hT hW t_44 (hW a0 9 _ w0 (by rw [h0.2]; decide) (rf_o hT h0 (show sp 4 9 = some 0 from rfl))) h1 (fun I5 hF5 => ?_))
        have hV5 : (∀ b, ¬ W b → I5 b = I0 b) := fun b hb => (hF5 b hb).trans (hV4 b hb)
        refine Pp_lb (fun v5_56 _ => ?_)
        exact ih_19 (v5_56) I5 hV5
  exact lp_19 N ((Int32.ofInt (0))) I2 hV2
set_option maxHeartbeats 4000000 in
set_option maxRecDepth 100000 in
theorem w_RM_refuse {W : Nat → Prop} {P : List Nat} {K : Nat → Nat} {N : Nat} {O : WO} {I0 : WI} {J0 : WJ} (hT : TR P K O) (hW : ∀ b f c, W b → ¬ K b = 8 → O b f = some c → W c) {a0 : Nat} (h0 : a0 ∈ P ∧ K a0 = 8) (w0 : W a0) {x1 : Int32} {Q : (Int32 × WI) → Prop} (hQ : ∀ (z : Int32) (I_ : WI), (∀ b, ¬ W b → I_ b = I0 b) → Q (z, I_)) : Pp (F_RM_refuse N O I0 J0 a0 x1) Q := by
  unfold F_RM_refuse
  have hV0 : (∀ b, ¬ W b → I0 b = I0 b) := fun _ _ => rfl
  refine Pp_lb (fun I1 eI1 => ?_)
  have hV1 : (∀ b, ¬ W b → I1 b = I0 b) := fp_put hV0 w0 eI1
  exact Pp.ret (hQ (Int32.ofInt (-1)) I1 hV1)
set_option maxHeartbeats 4000000 in
set_option maxRecDepth 100000 in
theorem w_RM_accept {W : Nat → Prop} {P : List Nat} {K : Nat → Nat} {N : Nat} {O : WO} {I0 : WI} {J0 : WJ} (hT : TR P K O) (hW : ∀ b f c, W b → ¬ K b = 8 → O b f = some c → W c) {a0 : Nat} (h0 : a0 ∈ P ∧ K a0 = 8) (w0 : W a0) {x1 : Int32} {Q : (Int32 × WI) → Prop} (hQ : ∀ (z : Int32) (I_ : WI), (∀ b, ¬ W b → I_ b = I0 b) → Q (z, I_)) : Pp (F_RM_accept N O I0 J0 a0 x1) Q := by
  unfold F_RM_accept
  have hV0 : (∀ b, ¬ W b → I0 b = I0 b) := fun _ _ => rfl
  refine Pp_lb (fun I1 eI1 => ?_)
  have hV1 : (∀ b, ¬ W b → I1 b = I0 b) := fp_put hV0 w0 eI1
  exact Pp.ret (hQ x1 I1 hV1)
set_option maxHeartbeats 4000000 in
set_option maxRecDepth 100000 in
theorem w_RM_deny {W : Nat → Prop} {P : List Nat} {K : Nat → Nat} {N : Nat} {O : WO} {I0 : WI} {J0 : WJ} (hT : TR P K O) (hW : ∀ b f c, W b → ¬ K b = 8 → O b f = some c → W c) {a0 : Nat} (h0 : a0 ∈ P ∧ K a0 = 8) (w0 : W a0) {x1 : Int32} {Q : (Int32 × WI) → Prop} (hQ : ∀ (z : Int32) (I_ : WI), (∀ b, ¬ W b → I_ b = I0 b) → Q (z, I_)) : Pp (F_RM_deny N O I0 J0 a0 x1) Q := by
  unfold F_RM_deny
  have hV0 : (∀ b, ¬ W b → I0 b = I0 b) := fun _ _ => rfl
  refine Pp_lb (fun I1 eI1 => ?_)
  have hV1 : (∀ b, ¬ W b → I1 b = I0 b) := fp_put hV0 w0 eI1
  exact Pp.ret (hQ (Int32.ofInt (0)) I1 hV1)
set_option maxHeartbeats 4000000 in
set_option maxRecDepth 100000 in
theorem w_RM_allow {W : Nat → Prop} {P : List Nat} {K : Nat → Nat} {N : Nat} {O : WO} {I0 : WI} {J0 : WJ} (hT : TR P K O) (hW : ∀ b f c, W b → ¬ K b = 8 → O b f = some c → W c) {a0 : Nat} (h0 : a0 ∈ P ∧ K a0 = 8) (w0 : W a0) {Q : (Int32 × WI) → Prop} (hQ : ∀ (z : Int32) (I_ : WI), (∀ b, ¬ W b → I_ b = I0 b) → Q (z, I_)) : Pp (F_RM_allow N O I0 J0 a0) Q := by
  unfold F_RM_allow
  have hV0 : (∀ b, ¬ W b → I0 b = I0 b) := fun _ _ => rfl
  refine Pp_lb (fun I1 eI1 => ?_)
  have hV1 : (∀ b, ¬ W b → I1 b = I0 b) := fp_put hV0 w0 eI1
  exact Pp.ret (hQ (Int32.ofInt (1)) I1 hV1)
set_option maxHeartbeats 4000000 in
set_option maxRecDepth 100000 in
theorem w_RM_noteStood {W : Nat → Prop} {P : List Nat} {K : Nat → Nat} {N : Nat} {O : WO} {I0 : WI} {J0 : WJ} (hT : TR P K O) (hW : ∀ b f c, W b → ¬ K b = 8 → O b f = some c → W c) {a0 : Nat} (h0 : a0 ∈ P ∧ K a0 = 8) (w0 : W a0) {x1 : Int32} (hx12 : W (rf O a0 12)) {Q : WI → Prop} (hQ : ∀ (I_ : WI), (∀ b, ¬ W b → I_ b = I0 b) → Q I_) : Pp (F_RM_noteStood N O I0 J0 a0 x1) Q := by
  unfold F_RM_noteStood
  have hV0 : (∀ b, ¬ W b → I0 b = I0 b) := fun _ _ => rfl
  have t_5 := rf_ok hT h0 (show sp 8 12 = some 28 from rfl)
  refine Pp.ite (fun _ => ?_) (fun _ => ?_)
  · skip
    exact Pp.ret (hQ I0 hV0)
  · skip
    have t_13 := rf_ok hT h0 (show sp 8 12 = some 28 from rfl)
    refine Pp.g (fun _ => ?_)
    refine Pp_lb (fun I1 eI1 => ?_)
    have hV1 : (∀ b, ¬ W b → I1 b = I0 b) := fp_put hV0 hx12 eI1
    refine Pp_lb (fun I2 eI2 => ?_)
    have hV2 : (∀ b, ¬ W b → I2 b = I0 b) := fp_put hV1 w0 eI2
    exact Pp.ret (hQ I2 hV2)
set_option maxHeartbeats 4000000 in
set_option maxRecDepth 100000 in
theorem w_RM_findFits {W : Nat → Prop} {P : List Nat} {K : Nat → Nat} {N : Nat} {O : WO} {I0 : WI} {J0 : WJ} (hT : TR P K O) (hW : ∀ b f c, W b → ¬ K b = 8 → O b f = some c → W c) {a0 : Nat} (h0 : a0 ∈ P ∧ K a0 = 8) (hx6 : W (rf O a0 6)) (hx7 : W (rf O a0 7)) {Q : (Int32 × WI) → Prop} (hQ : ∀ (z : Int32) (I_ : WI), (∀ b, ¬ W b → I_ b = I0 b) → Q (z, I_)) : Pp (F_RM_findFits N O I0 J0 a0) Q := by
  unfold F_RM_findFits
  have hV0 : (∀ b, ¬ W b → I0 b = I0 b) := fun _ _ => rfl
  have t_1 := rf_ok hT h0 (show sp 8 6 = some 1 from rfl)
  have t_5 := rf_ok hT h0 (show sp 8 1 = some 3 from rfl)
  have t_9 := rf_ok hT h0 (show sp 8 5 = some 19 from rfl)
  refine Ppc1 (w_Gu_tellAll hT hW t_1 hx6 t_5 t_9 (fun I1 hF1 => ?_))
  have hV1 : (∀ b, ¬ W b → I1 b = I0 b) := fun b hb => (hF1 b hb).trans (hV0 b hb)
  have t_16 := rf_ok hT h0 (show sp 8 7 = some 6 from rfl)
  have t_20 := rf_ok hT h0 (show sp 8 6 = some 1 from rfl)
  refine Ppc2 (w_Si_findFits hT hW t_16 hx7 t_20 (fun z_23 I2 hF2 => ?_))
  have hV2 : (∀ b, ¬ W b → I2 b = I0 b) := fun b hb => (hF2 b hb).trans (hV1 b hb)
  exact Pp.ret (hQ z_23 I2 hV2)
set_option maxHeartbeats 4000000 in
set_option maxRecDepth 100000 in
theorem w_RM_leadMarks {W : Nat → Prop} {P : List Nat} {K : Nat → Nat} {N : Nat} {O : WO} {I0 : WI} {J0 : WJ} (hT : TR P K O) (hW : ∀ b f c, W b → ¬ K b = 8 → O b f = some c → W c) {a0 : Nat} (h0 : a0 ∈ P ∧ K a0 = 8) {x1 : Int32} (hx10 : W (rf O a0 10)) {Q : (Int32 × WI) → Prop} (hQ : ∀ (z : Int32) (I_ : WI), (∀ b, ¬ W b → I_ b = I0 b) → Q (z, I_)) : Pp (F_RM_leadMarks N O I0 J0 a0 x1) Q := by
  unfold F_RM_leadMarks
  have hV0 : (∀ b, ¬ W b → I0 b = I0 b) := fun _ _ => rfl
  have t_1 := rf_ok hT h0 (show sp 8 10 = some 2 from rfl)
  refine Ppc1 (w_Ld_takeBack hT hW t_1 hx10 (fun I1 hF1 => ?_))
  have hV1 : (∀ b, ¬ W b → I1 b = I0 b) := fun b hb => (hF1 b hb).trans (hV0 b hb)
  have t_8 := rf_ok hT h0 (show sp 8 11 = some 0 from rfl)
  refine Pp.ite (fun _ => ?_) (fun _ => ?_)
  · skip
    have t_20 := rf_ok hT h0 (show sp 8 10 = some 2 from rfl)
    have t_24 := rf_ok hT h0 (show sp 8 1 = some 3 from rfl)
    have t_28 := rf_ok hT h0 (show sp 8 11 = some 0 from rfl)
    refine Ppc1 (w_Ld_breakUp hT hW t_20 hx10 t_24 (fun I2 hF2 => ?_))
    have hV2 : (∀ b, ¬ W b → I2 b = I0 b) := fun b hb => (hF2 b hb).trans (hV1 b hb)
    have t_38 := rf_ok hT h0 (show sp 8 10 = some 2 from rfl)
    have t_42 := rf_ok hT h0 (show sp 8 1 = some 3 from rfl)
    have t_47 := rf_ok hT h0 (show sp 8 11 = some 0 from rfl)
    refine Ppc1 (w_Ld_sift hT hW t_38 hx10 t_42 (fun I3 hF3 => ?_))
    have hV3 : (∀ b, ¬ W b → I3 b = I0 b) := fun b hb => (hF3 b hb).trans (hV2 b hb)
    have t_57 := rf_ok hT h0 (show sp 8 10 = some 2 from rfl)
    have t_60 := rf_ok hT t_57 (show sp 2 2 = some 11 from rfl)
    refine Ppa1 (fun z_63 => ?_)
    exact Pp.ret (hQ z_63 I3 hV3)
  · skip
    exact Pp.ret (hQ (Int32.ofInt (0)) I1 hV1)
set_option maxHeartbeats 4000000 in
set_option maxRecDepth 100000 in
theorem w_RM_beginAnew {W : Nat → Prop} {P : List Nat} {K : Nat → Nat} {N : Nat} {O : WO} {I0 : WI} {J0 : WJ} (hT : TR P K O) (hW : ∀ b f c, W b → ¬ K b = 8 → O b f = some c → W c) {a0 : Nat} (h0 : a0 ∈ P ∧ K a0 = 8) (w0 : W a0) (hx3 : W (rf O a0 3)) (hx4 : W (rf O a0 4)) (hx5 : W (rf O a0 5)) (hx6 : W (rf O a0 6)) (hx7 : W (rf O a0 7)) (hx8 : W (rf O a0 8)) (hx9 : W (rf O a0 9)) {Q : WI → Prop} (hQ : ∀ (I_ : WI), (∀ b, ¬ W b → I_ b = I0 b) → Q I_) : Pp (F_RM_beginAnew N O I0 J0 a0) Q := by
  unfold F_RM_beginAnew
  have hV0 : (∀ b, ¬ W b → I0 b = I0 b) := fun _ _ => rfl
  have t_1 := rf_ok hT h0 (show sp 8 3 = some 0 from rfl)
  refine Ppc1 (w_Dr_beginEmpty hT hW t_1 hx3 (fun I1 hF1 => ?_))
  have hV1 : (∀ b, ¬ W b → I1 b = I0 b) := fun b hb => (hF1 b hb).trans (hV0 b hb)
  have t_8 := rf_ok hT h0 (show sp 8 4 = some 18 from rfl)
  refine Pp_lb (fun I2 eI2 => ?_)
  have hV2 : (∀ b, ¬ W b → I2 b = I0 b) := fp_put hV1 hx4 eI2
  have t_15 := rf_ok hT h0 (show sp 8 4 = some 18 from rfl)
  refine Pp_lb (fun I3 eI3 => ?_)
  have hV3 : (∀ b, ¬ W b → I3 b = I0 b) := fp_put hV2 hx4 eI3
  have t_22 := rf_ok hT h0 (show sp 8 4 = some 18 from rfl)
  refine Pp_lb (fun I4 eI4 => ?_)
  have hV4 : (∀ b, ¬ W b → I4 b = I0 b) := fp_put hV3 hx4 eI4
  have lp_30 : ∀ (m_30 : Nat) (x1_30 : Int32) (I_30 : WI), (∀ b, ¬ W b → I_30 b = I0 b) → Pp (lp (B_RM_beginAnew_30 N O (a0) (J0)) (fun _ _ => none) m_30 x1_30 I_30) Q := by
    intro m_30
    induction m_30 with
    | zero => intro x1_30 I_30 _; exact Pp.no
    | succ m_30 ih_30 =>
    intro x1_30 I_30 hV_30
    show Pp (B_RM_beginAnew_30 N O (a0) (J0) (lp (B_RM_beginAnew_30 N O (a0) (J0)) (fun _ _ => none) m_30) x1_30 I_30) Q
    unfold B_RM_beginAnew_30
    refine Pp.ite (fun _ => ?_) (fun _ => ?_)
    · skip
      have t_76 := rf_ok hT h0 (show sp 8 6 = some 1 from rfl)
      refine Ppc1 (w_Gu_makeStale hT hW t_76 hx6 (fun I5 hF5 => ?_))
      have hV5 : (∀ b, ¬ W b → I5 b = I0 b) := fun b hb => (hF5 b hb).trans (hV_30 b hb)
      have t_83 := rf_ok hT h0 (show sp 8 7 = some 6 from rfl)
      refine Ppc2 (w_Si_drop hT hW t_83 hx7 (fun z_86 I6 hF6 => ?_))
      have hV6 : (∀ b, ¬ W b → I6 b = I0 b) := fun b hb => (hF6 b hb).trans (hV5 b hb)
      have t_91 := rf_ok hT h0 (show sp 8 9 = some 7 from rfl)
      refine Ppc2 (w_Tr_drop hT hW t_91 hx9 (fun z_94 I7 hF7 => ?_))
      have hV7 : (∀ b, ¬ W b → I7 b = I0 b) := fun b hb => (hF7 b hb).trans (hV6 b hb)
      have t_99 := rf_ok hT h0 (show sp 8 8 = some 4 from rfl)
      refine Ppc1 (w_Pl_drop hT hW t_99 hx8 (fun I8 hF8 => ?_))
      have hV8 : (∀ b, ¬ W b → I8 b = I0 b) := fun b hb => (hF8 b hb).trans (hV7 b hb)
      refine Pp_lb (fun I9 eI9 => ?_)
      have hV9 : (∀ b, ¬ W b → I9 b = I0 b) := fp_put hV8 w0 eI9
      exact Pp.ret (hQ I9 hV9)
    · skip
      have t_37 := rf_ok hT h0 (show sp 8 5 = some 19 from rfl)
      refine Pp.g (fun _ => ?_)
      refine Pp_lb (fun I10 eI10 => ?_)
      have hV10 : (∀ b, ¬ W b → I10 b = I0 b) := fp_put hV_30 hx5 eI10
      have t_48 := rf_ok hT h0 (show sp 8 5 = some 19 from rfl)
      refine Pp.g (fun _ => ?_)
      refine Pp_lb (fun I11 eI11 => ?_)
      have hV11 : (∀ b, ¬ W b → I11 b = I0 b) := fp_put hV10 hx5 eI11
      have t_59 := rf_ok hT h0 (show sp 8 5 = some 19 from rfl)
      refine Pp.g (fun _ => ?_)
      refine Pp_lb (fun I12 eI12 => ?_)
      have hV12 : (∀ b, ¬ W b → I12 b = I0 b) := fp_put hV11 hx5 eI12
      refine Pp_lb (fun v1_69 _ => ?_)
      exact ih_30 (v1_69) I12 hV12
  exact lp_30 N ((Int32.ofInt (0))) I4 hV4
set_option maxHeartbeats 4000000 in
set_option maxRecDepth 100000 in
theorem w_RM_set {W : Nat → Prop} {P : List Nat} {K : Nat → Nat} {N : Nat} {O : WO} {I0 : WI} {J0 : WJ} (hT : TR P K O) (hW : ∀ b f c, W b → ¬ K b = 8 → O b f = some c → W c) {a0 : Nat} (h0 : a0 ∈ P ∧ K a0 = 8) (w0 : W a0) {x1 : Int32} {x2 : Int32} {x3 : Int32} (hx4 : W (rf O a0 4)) {Q : (Int32 × WI) → Prop} (hQ : ∀ (z : Int32) (I_ : WI), (∀ b, ¬ W b → I_ b = I0 b) → Q (z, I_)) : Pp (F_RM_set N O I0 J0 a0 x1 x2 x3) Q := by
  unfold F_RM_set
  have hV0 : (∀ b, ¬ W b → I0 b = I0 b) := fun _ _ => rfl
  refine Ppa1 (fun z_2 => ?_)
  refine Pp.ite (fun _ => ?_) (fun _ => ?_)
  · skip
    refine Ppc2 (w_RM_deny hT hW h0 w0 (fun z_10 I2 hF2 => ?_))
    have hV2 : (∀ b, ¬ W b → I2 b = I0 b) := fun b hb => (hF2 b hb).trans (hV0 b hb)
    refine Pp.g (fun _ => ?_)
    exact Pp.ret (hQ z_10 I2 hV2)
  · skip
    refine Ppa1 (fun z_15 => ?_)
    refine Pp_jq (fun k_28 => Pp (k_28 ) Q) (?_) (fun k_28 hk_28 => ?_)
    · skip
      refine Ppc2 (w_RM_deny hT hW h0 w0 (fun z_30 I4 hF4 => ?_))
      have hV4 : (∀ b, ¬ W b → I4 b = I0 b) := fun b hb => (hF4 b hb).trans (hV0 b hb)
      refine Pp.g (fun _ => ?_)
      exact Pp.ret (hQ z_30 I4 hV4)
    refine Pp.ite (fun _ => ?_) (fun _ => ?_)
    · skip
      exact hk_28  
    · skip
      refine Ppa1 (fun z_22 => ?_)
      refine Pp.ite (fun _ => ?_) (fun _ => ?_)
      · skip
        exact hk_28  
      · skip
        have t_35 := rf_ok hT h0 (show sp 8 4 = some 18 from rfl)
        refine Pp_lb (fun I6 eI6 => ?_)
        have hV6 : (∀ b, ¬ W b → I6 b = I0 b) := fp_put hV0 hx4 eI6
        have t_42 := rf_ok hT h0 (show sp 8 4 = some 18 from rfl)
        refine Pp_lb (fun I7 eI7 => ?_)
        have hV7 : (∀ b, ¬ W b → I7 b = I0 b) := fp_put hV6 hx4 eI7
        have t_49 := rf_ok hT h0 (show sp 8 4 = some 18 from rfl)
        refine Pp_lb (fun I8 eI8 => ?_)
        have hV8 : (∀ b, ¬ W b → I8 b = I0 b) := fp_put hV7 hx4 eI8
        refine Ppc2 (w_RM_allow hT hW h0 w0 (fun z_56 I9 hF9 => ?_))
        have hV9 : (∀ b, ¬ W b → I9 b = I0 b) := fun b hb => (hF9 b hb).trans (hV8 b hb)
        refine Pp.g (fun _ => ?_)
        exact Pp.ret (hQ z_56 I9 hV9)
set_option maxHeartbeats 4000000 in
set_option maxRecDepth 100000 in
theorem w_RM_mend {W : Nat → Prop} {P : List Nat} {K : Nat → Nat} {N : Nat} {O : WO} {I0 : WI} {J0 : WJ} (hT : TR P K O) (hW : ∀ b f c, W b → ¬ K b = 8 → O b f = some c → W c) {a0 : Nat} (h0 : a0 ∈ P ∧ K a0 = 8) (w0 : W a0) {x1 : Int32} {x2 : Int32} (hx3 : W (rf O a0 3)) {Q : (Int32 × WI) → Prop} (hQ : ∀ (z : Int32) (I_ : WI), (∀ b, ¬ W b → I_ b = I0 b) → Q (z, I_)) : Pp (F_RM_mend N O I0 J0 a0 x1 x2) Q := by
  unfold F_RM_mend
  have hV0 : (∀ b, ¬ W b → I0 b = I0 b) := fun _ _ => rfl
  refine Ppa1 (fun z_1 => ?_)
  refine Pp.ite (fun _ => ?_) (fun _ => ?_)
  · skip
    refine Pp_jq (fun k_22 => Pp (k_22 ) Q) (?_) (fun k_22 hk_22 => ?_)
    · skip
      refine Ppc2 (w_RM_deny hT hW h0 w0 (fun z_24 I2 hF2 => ?_))
      have hV2 : (∀ b, ¬ W b → I2 b = I0 b) := fun b hb => (hF2 b hb).trans (hV0 b hb)
      refine Pp.g (fun _ => ?_)
      exact Pp.ret (hQ z_24 I2 hV2)
    refine Pp.ite (fun _ => ?_) (fun _ => ?_)
    · skip
      exact hk_22  
    · skip
      refine Pp.ite (fun _ => ?_) (fun _ => ?_)
      · skip
        have t_29 := rf_ok hT h0 (show sp 8 3 = some 0 from rfl)
        refine Pp_lb (fun I3 eI3 => ?_)
        have hV3 : (∀ b, ¬ W b → I3 b = I0 b) := fp_put hV0 hx3 eI3
        refine Pp_jq (fun k_48 => ∀ (IJ_48 : WI), (∀ b, ¬ W b → IJ_48 b = I0 b) → Pp (k_48 IJ_48) Q) (fun IJ_48 hVJ_48 => ?_) (fun k_48 hk_48 => ?_)
        · skip
          refine Ppc2 (w_RM_allow hT hW h0 w0 (fun z_49 I4 hF4 => ?_))
          have hV4 : (∀ b, ¬ W b → I4 b = I0 b) := fun b hb => (hF4 b hb).trans (hVJ_48 b hb)
          refine Pp.g (fun _ => ?_)
          exact Pp.ret (hQ z_49 I4 hV4)
        refine Pp.ite (fun _ => ?_) (fun _ => ?_)
        · skip
          exact hk_48  I3 hV3
        · skip
          have t_41 := rf_ok hT h0 (show sp 8 3 = some 0 from rfl)
          refine Pp_lb (fun I5 eI5 => ?_)
          have hV5 : (∀ b, ¬ W b → I5 b = I0 b) := fp_put hV3 hx3 eI5
          exact hk_48  I5 hV5
      · skip
        exact hk_22  
  · skip
    refine Ppc2 (w_RM_deny hT hW h0 w0 (fun z_9 I6 hF6 => ?_))
    have hV6 : (∀ b, ¬ W b → I6 b = I0 b) := fun b hb => (hF6 b hb).trans (hV0 b hb)
    refine Pp.g (fun _ => ?_)
    exact Pp.ret (hQ z_9 I6 hV6)
set_option maxHeartbeats 4000000 in
set_option maxRecDepth 100000 in
theorem w_RM_go {W : Nat → Prop} {P : List Nat} {K : Nat → Nat} {N : Nat} {O : WO} {I0 : WI} {J0 : WJ} (hT : TR P K O) (hW : ∀ b f c, W b → ¬ K b = 8 → O b f = some c → W c) {a0 : Nat} (h0 : a0 ∈ P ∧ K a0 = 8) (w0 : W a0) {x1 : Int32} (hx3 : W (rf O a0 3)) (hx12 : W (rf O a0 12)) {Q : (Int32 × WI) → Prop} (hQ : ∀ (z : Int32) (I_ : WI), (∀ b, ¬ W b → I_ b = I0 b) → Q (z, I_)) : Pp (F_RM_go N O I0 J0 a0 x1) Q := by
  unfold F_RM_go
  have hV0 : (∀ b, ¬ W b → I0 b = I0 b) := fun _ _ => rfl
  refine Ppa1 (fun z_1 => ?_)
  refine Pp.ite (fun _ => ?_) (fun _ => ?_)
  · skip
    refine Pp_jq (fun k_24 => Pp (k_24 ) Q) (?_) (fun k_24 hk_24 => ?_)
    · skip
      refine Ppc2 (w_RM_refuse hT hW h0 w0 (fun z_26 I2 hF2 => ?_))
      have hV2 : (∀ b, ¬ W b → I2 b = I0 b) := fun b hb => (hF2 b hb).trans (hV0 b hb)
      exact Pp.ret (hQ z_26 I2 hV2)
    refine Pp.ite (fun _ => ?_) (fun _ => ?_)
    · skip
      exact hk_24  
    · skip
      refine Pp.ite (fun _ => ?_) (fun _ => ?_)
      · skip
        have t_31 := rf_ok hT h0 (show sp 8 3 = some 0 from rfl)
        refine Pp.ite (fun _ => ?_) (fun _ => ?_)
        · skip
          have lp_55 : ∀ (m_55 : Nat) (x2_55 : Int32) (x3_55 : Int32) (I_55 : WI), (∀ b, ¬ W b → I_55 b = I0 b) → Pp (lp (B_RM_go_55 N O (a0) (x1) (J0)) (fun _ _ _ => none) m_55 x2_55 x3_55 I_55) Q := by
            intro m_55
            induction m_55 with
            | zero => intro x2_55 x3_55 I_55 _; exact Pp.no
            | succ m_55 ih_55 =>
            intro x2_55 x3_55 I_55 hV_55
            show Pp (B_RM_go_55 N O (a0) (x1) (J0) (lp (B_RM_go_55 N O (a0) (x1) (J0)) (fun _ _ _ => none) m_55) x2_55 x3_55 I_55) Q
            unfold B_RM_go_55
            refine Pp.ite (fun _ => ?_) (fun _ => ?_)
            · skip
              refine Ppc2 (w_RM_accept hT hW h0 w0 (fun z_115 I3 hF3 => ?_))
              have hV3 : (∀ b, ¬ W b → I3 b = I0 b) := fun b hb => (hF3 b hb).trans (hV_55 b hb)
              exact Pp.ret (hQ z_115 I3 hV3)
            · skip
              have t_61 := rf_ok hT h0 (show sp 8 3 = some 0 from rfl)
              refine Pp_lb (fun v4_67 _ => ?_)
              have t_70 := rf_ok hT h0 (show sp 8 3 = some 0 from rfl)
              have t_74 := rf_ok hT h0 (show sp 8 1 = some 3 from rfl)
              have t_78 := rf_ok hT h0 (show sp 8 4 = some 18 from rfl)
              refine Ppc1 (w_Dr_runHour hT hW t_70 hx3 t_74 (fun I4 hF4 => ?_))
              have hV4 : (∀ b, ¬ W b → I4 b = I0 b) := fun b hb => (hF4 b hb).trans (hV_55 b hb)
              have t_86 := rf_ok hT h0 (show sp 8 3 = some 0 from rfl)
              refine Pp_jq (fun k_107 => ∀ (y2_107 : Int32) (IJ_107 : WI), (∀ b, ¬ W b → IJ_107 b = I0 b) → Pp (k_107 y2_107 IJ_107) Q) (fun y2_107 IJ_107 hVJ_107 => ?_) (fun k_107 hk_107 => ?_)
              · skip
                refine Pp_lb (fun v3_107 _ => ?_)
                exact ih_55 (y2_107) (v3_107) IJ_107 hVJ_107
              refine Pp.ite (fun _ => ?_) (fun _ => ?_)
              · skip
                refine Pp_lb (fun v2_104 _ => ?_)
                exact hk_107 (v2_104) I4 hV4
              · skip
                refine Ppc1 (w_RM_noteStood hT hW h0 w0 hx12 (fun I5 hF5 => ?_))
                have hV5 : (∀ b, ¬ W b → I5 b = I0 b) := fun b hb => (hF5 b hb).trans (hV4 b hb)
                exact hk_107 (x2_55) I5 hV5
          exact lp_55 N ((Int32.ofInt (0))) ((Int32.ofInt (0))) I0 hV0
        · skip
          refine Ppc2 (w_RM_refuse hT hW h0 w0 (fun z_47 I6 hF6 => ?_))
          have hV6 : (∀ b, ¬ W b → I6 b = I0 b) := fun b hb => (hF6 b hb).trans (hV0 b hb)
          exact Pp.ret (hQ z_47 I6 hV6)
      · skip
        exact hk_24  
  · skip
    refine Ppc2 (w_RM_refuse hT hW h0 w0 (fun z_9 I7 hF7 => ?_))
    have hV7 : (∀ b, ¬ W b → I7 b = I0 b) := fun b hb => (hF7 b hb).trans (hV0 b hb)
    exact Pp.ret (hQ z_9 I7 hV7)
set_option maxHeartbeats 4000000 in
set_option maxRecDepth 100000 in
theorem w_RM_program {W : Nat → Prop} {P : List Nat} {K : Nat → Nat} {N : Nat} {O : WO} {I0 : WI} {J0 : WJ} (hT : TR P K O) (hW : ∀ b f c, W b → ¬ K b = 8 → O b f = some c → W c) {a0 : Nat} (h0 : a0 ∈ P ∧ K a0 = 8) (w0 : W a0) {x1 : Int32} {x2 : Int32} {x3 : Int32} {x4 : Int32} (hx5 : W (rf O a0 5)) (hx6 : W (rf O a0 6)) (hx7 : W (rf O a0 7)) {Q : (Int32 × WI) → Prop} (hQ : ∀ (z : Int32) (I_ : WI), (∀ b, ¬ W b → I_ b = I0 b) → Q (z, I_)) : Pp (F_RM_program N O I0 J0 a0 x1 x2 x3 x4) Q := by
  unfold F_RM_program
  have hV0 : (∀ b, ¬ W b → I0 b = I0 b) := fun _ _ => rfl
  refine Ppa1 (fun z_1 => ?_)
  refine Pp_jq (fun k_16 => Pp (k_16 ) Q) (?_) (fun k_16 hk_16 => ?_)
  · skip
    refine Ppc2 (w_RM_deny hT hW h0 w0 (fun z_18 I2 hF2 => ?_))
    have hV2 : (∀ b, ¬ W b → I2 b = I0 b) := fun b hb => (hF2 b hb).trans (hV0 b hb)
    refine Pp.g (fun _ => ?_)
    exact Pp.ret (hQ z_18 I2 hV2)
  refine Pp.ite (fun _ => ?_) (fun _ => ?_)
  · skip
    exact hk_16  
  · skip
    refine Ppa1 (fun z_10 => ?_)
    refine Pp.ite (fun _ => ?_) (fun _ => ?_)
    · skip
      exact hk_16  
    · skip
      refine Ppa1 (fun z_23 => ?_)
      refine Pp_jq (fun k_36 => Pp (k_36 ) Q) (?_) (fun k_36 hk_36 => ?_)
      · skip
        refine Ppc2 (w_RM_deny hT hW h0 w0 (fun z_38 I5 hF5 => ?_))
        have hV5 : (∀ b, ¬ W b → I5 b = I0 b) := fun b hb => (hF5 b hb).trans (hV0 b hb)
        refine Pp.g (fun _ => ?_)
        exact Pp.ret (hQ z_38 I5 hV5)
      refine Pp.ite (fun _ => ?_) (fun _ => ?_)
      · skip
        exact hk_36  
      · skip
        refine Ppa1 (fun z_30 => ?_)
        refine Pp.ite (fun _ => ?_) (fun _ => ?_)
        · skip
          exact hk_36  
        · skip
          have t_43 := rf_ok hT h0 (show sp 8 5 = some 19 from rfl)
          refine Pp.g (fun _ => ?_)
          refine Pp_lb (fun I7 eI7 => ?_)
          have hV7 : (∀ b, ¬ W b → I7 b = I0 b) := fp_put hV0 hx5 eI7
          have t_54 := rf_ok hT h0 (show sp 8 5 = some 19 from rfl)
          refine Pp.g (fun _ => ?_)
          refine Pp_lb (fun I8 eI8 => ?_)
          have hV8 : (∀ b, ¬ W b → I8 b = I0 b) := fp_put hV7 hx5 eI8
          have t_65 := rf_ok hT h0 (show sp 8 5 = some 19 from rfl)
          refine Pp.g (fun _ => ?_)
          refine Pp_lb (fun I9 eI9 => ?_)
          have hV9 : (∀ b, ¬ W b → I9 b = I0 b) := fp_put hV8 hx5 eI9
          have t_77 := rf_ok hT h0 (show sp 8 6 = some 1 from rfl)
          refine Ppc1 (w_Gu_makeStale hT hW t_77 hx6 (fun I10 hF10 => ?_))
          have hV10 : (∀ b, ¬ W b → I10 b = I0 b) := fun b hb => (hF10 b hb).trans (hV9 b hb)
          have t_84 := rf_ok hT h0 (show sp 8 7 = some 6 from rfl)
          refine Pp_lb (fun I11 eI11 => ?_)
          have hV11 : (∀ b, ¬ W b → I11 b = I0 b) := fp_put hV10 hx7 eI11
          refine Ppc2 (w_RM_allow hT hW h0 w0 (fun z_92 I12 hF12 => ?_))
          have hV12 : (∀ b, ¬ W b → I12 b = I0 b) := fun b hb => (hF12 b hb).trans (hV11 b hb)
          refine Pp.g (fun _ => ?_)
          exact Pp.ret (hQ z_92 I12 hV12)
set_option maxHeartbeats 4000000 in
set_option maxRecDepth 100000 in
theorem w_RM_seen {W : Nat → Prop} {P : List Nat} {K : Nat → Nat} {N : Nat} {O : WO} {I0 : WI} {J0 : WJ} (hT : TR P K O) (hW : ∀ b f c, W b → ¬ K b = 8 → O b f = some c → W c) {a0 : Nat} (h0 : a0 ∈ P ∧ K a0 = 8) (w0 : W a0) {x1 : Int32} {x2 : Int32} {x3 : Int32} {x4 : Int32} (hx7 : W (rf O a0 7)) {Q : (Int32 × WI) → Prop} (hQ : ∀ (z : Int32) (I_ : WI), (∀ b, ¬ W b → I_ b = I0 b) → Q (z, I_)) : Pp (F_RM_seen N O I0 J0 a0 x1 x2 x3 x4) Q := by
  unfold F_RM_seen
  have hV0 : (∀ b, ¬ W b → I0 b = I0 b) := fun _ _ => rfl
  refine Ppa1 (fun z_1 => ?_)
  refine Pp_jq (fun k_15 => Pp (k_15 ) Q) (?_) (fun k_15 hk_15 => ?_)
  · skip
    refine Ppc2 (w_RM_refuse hT hW h0 w0 (fun z_17 I2 hF2 => ?_))
    have hV2 : (∀ b, ¬ W b → I2 b = I0 b) := fun b hb => (hF2 b hb).trans (hV0 b hb)
    exact Pp.ret (hQ z_17 I2 hV2)
  refine Pp.ite (fun _ => ?_) (fun _ => ?_)
  · skip
    exact hk_15  
  · skip
    refine Ppa1 (fun z_9 => ?_)
    refine Pp.ite (fun _ => ?_) (fun _ => ?_)
    · skip
      exact hk_15  
    · skip
      refine Pp_jq (fun k_44 => Pp (k_44 ) Q) (?_) (fun k_44 hk_44 => ?_)
      · skip
        refine Ppc2 (w_RM_refuse hT hW h0 w0 (fun z_46 I4 hF4 => ?_))
        have hV4 : (∀ b, ¬ W b → I4 b = I0 b) := fun b hb => (hF4 b hb).trans (hV0 b hb)
        exact Pp.ret (hQ z_46 I4 hV4)
      refine Pp.ite (fun _ => ?_) (fun _ => ?_)
      · skip
        exact hk_44  
      · skip
        refine Pp.ite (fun _ => ?_) (fun _ => ?_)
        · skip
          exact hk_44  
        · skip
          refine Pp.ite (fun _ => ?_) (fun _ => ?_)
          · skip
            exact hk_44  
          · skip
            refine Pp.ite (fun _ => ?_) (fun _ => ?_)
            · skip
              have t_51 := rf_ok hT h0 (show sp 8 7 = some 6 from rfl)
              refine Ppa1 (fun z_54 => ?_)
              refine Pp.ite (fun _ => ?_) (fun _ => ?_)
              · skip
                have t_68 := rf_ok hT h0 (show sp 8 7 = some 6 from rfl)
                refine Ppc2 (w_Si_note hT hW t_68 hx7 (fun z_76 I6 hF6 => ?_))
                have hV6 : (∀ b, ¬ W b → I6 b = I0 b) := fun b hb => (hF6 b hb).trans (hV0 b hb)
                refine Ppc2 (w_RM_accept hT hW h0 w0 (fun z_79 I7 hF7 => ?_))
                have hV7 : (∀ b, ¬ W b → I7 b = I0 b) := fun b hb => (hF7 b hb).trans (hV6 b hb)
                exact Pp.ret (hQ z_79 I7 hV7)
              · skip
                refine Ppc2 (w_RM_refuse hT hW h0 w0 (fun z_62 I8 hF8 => ?_))
                have hV8 : (∀ b, ¬ W b → I8 b = I0 b) := fun b hb => (hF8 b hb).trans (hV0 b hb)
                exact Pp.ret (hQ z_62 I8 hV8)
            · skip
              exact hk_44  
set_option maxHeartbeats 4000000 in
set_option maxRecDepth 100000 in
theorem w_RM_forget {W : Nat → Prop} {P : List Nat} {K : Nat → Nat} {N : Nat} {O : WO} {I0 : WI} {J0 : WJ} (hT : TR P K O) (hW : ∀ b f c, W b → ¬ K b = 8 → O b f = some c → W c) {a0 : Nat} (h0 : a0 ∈ P ∧ K a0 = 8) (hx7 : W (rf O a0 7)) {Q : (Int32 × WI) → Prop} (hQ : ∀ (z : Int32) (I_ : WI), (∀ b, ¬ W b → I_ b = I0 b) → Q (z, I_)) : Pp (F_RM_forget N O I0 J0 a0) Q := by
  unfold F_RM_forget
  have hV0 : (∀ b, ¬ W b → I0 b = I0 b) := fun _ _ => rfl
  have t_1 := rf_ok hT h0 (show sp 8 7 = some 6 from rfl)
  refine Ppc2 (w_Si_drop hT hW t_1 hx7 (fun z_4 I1 hF1 => ?_))
  have hV1 : (∀ b, ¬ W b → I1 b = I0 b) := fun b hb => (hF1 b hb).trans (hV0 b hb)
  exact Pp.ret (hQ z_4 I1 hV1)
set_option maxHeartbeats 4000000 in
set_option maxRecDepth 100000 in
theorem w_RM_fits {W : Nat → Prop} {P : List Nat} {K : Nat → Nat} {N : Nat} {O : WO} {I0 : WI} {J0 : WJ} (hT : TR P K O) (hW : ∀ b f c, W b → ¬ K b = 8 → O b f = some c → W c) {a0 : Nat} (h0 : a0 ∈ P ∧ K a0 = 8) (w0 : W a0) (hx6 : W (rf O a0 6)) (hx7 : W (rf O a0 7)) {Q : (Int32 × WI) → Prop} (hQ : ∀ (z : Int32) (I_ : WI), (∀ b, ¬ W b → I_ b = I0 b) → Q (z, I_)) : Pp (F_RM_fits N O I0 J0 a0) Q := by
  unfold F_RM_fits
  have hV0 : (∀ b, ¬ W b → I0 b = I0 b) := fun _ _ => rfl
  refine Ppa1 (fun z_1 => ?_)
  refine Pp.ite (fun _ => ?_) (fun _ => ?_)
  · skip
    refine Ppc2 (w_RM_findFits hT hW h0 hx6 hx7 (fun z_15 I2 hF2 => ?_))
    have hV2 : (∀ b, ¬ W b → I2 b = I0 b) := fun b hb => (hF2 b hb).trans (hV0 b hb)
    refine Ppc2 (w_RM_accept hT hW h0 w0 (fun z_18 I3 hF3 => ?_))
    have hV3 : (∀ b, ¬ W b → I3 b = I0 b) := fun b hb => (hF3 b hb).trans (hV2 b hb)
    exact Pp.ret (hQ z_18 I3 hV3)
  · skip
    refine Ppc2 (w_RM_refuse hT hW h0 w0 (fun z_9 I4 hF4 => ?_))
    have hV4 : (∀ b, ¬ W b → I4 b = I0 b) := fun b hb => (hF4 b hb).trans (hV0 b hb)
    exact Pp.ret (hQ z_9 I4 hV4)
set_option maxHeartbeats 4000000 in
set_option maxRecDepth 100000 in
theorem w_RM_fitAt {W : Nat → Prop} {P : List Nat} {K : Nat → Nat} {N : Nat} {O : WO} {I0 : WI} {J0 : WJ} (hT : TR P K O) (hW : ∀ b f c, W b → ¬ K b = 8 → O b f = some c → W c) {a0 : Nat} (h0 : a0 ∈ P ∧ K a0 = 8) (w0 : W a0) {x1 : Int32} {x2 : Int32} (hx6 : W (rf O a0 6)) (hx7 : W (rf O a0 7)) {Q : (Int32 × WI) → Prop} (hQ : ∀ (z : Int32) (I_ : WI), (∀ b, ¬ W b → I_ b = I0 b) → Q (z, I_)) : Pp (F_RM_fitAt N O I0 J0 a0 x1 x2) Q := by
  unfold F_RM_fitAt
  have hV0 : (∀ b, ¬ W b → I0 b = I0 b) := fun _ _ => rfl
  refine Ppa1 (fun z_1 => ?_)
  refine Pp_jq (fun k_28 => ∀ (IJ_28 : WI), (∀ b, ¬ W b → IJ_28 b = I0 b) → Pp (k_28 IJ_28) Q) (fun IJ_28 hVJ_28 => ?_) (fun k_28 hk_28 => ?_)
  · skip
    refine Ppc2 (w_RM_refuse hT hW h0 w0 (fun z_30 I2 hF2 => ?_))
    have hV2 : (∀ b, ¬ W b → I2 b = I0 b) := fun b hb => (hF2 b hb).trans (hVJ_28 b hb)
    exact Pp.ret (hQ z_30 I2 hV2)
  refine Pp.ite (fun _ => ?_) (fun _ => ?_)
  · skip
    refine Pp.ite (fun _ => ?_) (fun _ => ?_)
    · skip
      exact hk_28  I0 hV0
    · skip
      refine Pp.ite (fun _ => ?_) (fun _ => ?_)
      · skip
        exact hk_28  I0 hV0
      · skip
        refine Pp.ite (fun _ => ?_) (fun _ => ?_)
        · skip
          exact hk_28  I0 hV0
        · skip
          refine Ppc2 (w_RM_findFits hT hW h0 hx6 hx7 (fun z_22 I3 hF3 => ?_))
          have hV3 : (∀ b, ¬ W b → I3 b = I0 b) := fun b hb => (hF3 b hb).trans (hV0 b hb)
          refine Pp.ite (fun _ => ?_) (fun _ => ?_)
          · skip
            have t_36 := rf_ok hT h0 (show sp 8 7 = some 6 from rfl)
            refine Ppa1 (fun z_40 => ?_)
            refine Ppa1 (fun z_44 => ?_)
            refine Ppc2 (w_RM_accept hT hW h0 w0 (fun z_47 I6 hF6 => ?_))
            have hV6 : (∀ b, ¬ W b → I6 b = I0 b) := fun b hb => (hF6 b hb).trans (hV3 b hb)
            exact Pp.ret (hQ z_47 I6 hV6)
          · skip
            exact hk_28  I3 hV3
  · skip
    exact hk_28  I0 hV0
set_option maxHeartbeats 4000000 in
set_option maxRecDepth 100000 in
theorem w_RM_certain {W : Nat → Prop} {P : List Nat} {K : Nat → Nat} {N : Nat} {O : WO} {I0 : WI} {J0 : WJ} (hT : TR P K O) (hW : ∀ b f c, W b → ¬ K b = 8 → O b f = some c → W c) {a0 : Nat} (h0 : a0 ∈ P ∧ K a0 = 8) (w0 : W a0) {x1 : Int32} (hx6 : W (rf O a0 6)) (hx7 : W (rf O a0 7)) {Q : (Int32 × WI) → Prop} (hQ : ∀ (z : Int32) (I_ : WI), (∀ b, ¬ W b → I_ b = I0 b) → Q (z, I_)) : Pp (F_RM_certain N O I0 J0 a0 x1) Q := by
  unfold F_RM_certain
  have hV0 : (∀ b, ¬ W b → I0 b = I0 b) := fun _ _ => rfl
  refine Ppa1 (fun z_1 => ?_)
  refine Pp_jq (fun k_16 => Pp (k_16 ) Q) (?_) (fun k_16 hk_16 => ?_)
  · skip
    refine Ppc2 (w_RM_refuse hT hW h0 w0 (fun z_18 I2 hF2 => ?_))
    have hV2 : (∀ b, ¬ W b → I2 b = I0 b) := fun b hb => (hF2 b hb).trans (hV0 b hb)
    exact Pp.ret (hQ z_18 I2 hV2)
  refine Pp.ite (fun _ => ?_) (fun _ => ?_)
  · skip
    refine Pp.ite (fun _ => ?_) (fun _ => ?_)
    · skip
      exact hk_16  
    · skip
      refine Pp.ite (fun _ => ?_) (fun _ => ?_)
      · skip
        refine Ppc2 (w_RM_findFits hT hW h0 hx6 hx7 (fun z_23 I3 hF3 => ?_))
        have hV3 : (∀ b, ¬ W b → I3 b = I0 b) := fun b hb => (hF3 b hb).trans (hV0 b hb)
        refine Pp.ite (fun _ => ?_) (fun _ => ?_)
        · skip
          refine Ppc2 (w_RM_refuse hT hW h0 w0 (fun z_34 I4 hF4 => ?_))
          have hV4 : (∀ b, ¬ W b → I4 b = I0 b) := fun b hb => (hF4 b hb).trans (hV3 b hb)
          exact Pp.ret (hQ z_34 I4 hV4)
        · skip
          have t_39 := rf_ok hT h0 (show sp 8 7 = some 6 from rfl)
          refine Ppa1 (fun z_43 => ?_)
          refine Ppa1 (fun z_47 => ?_)
          have lp_54 : ∀ (m_54 : Nat) (x4_54 : Int32) (I_54 : WI), (∀ b, ¬ W b → I_54 b = I0 b) → Pp (lp (B_RM_certain_54 N O (a0) (x1) (J0) (z_23) (z_47)) (fun _ _ => none) m_54 x4_54 I_54) Q := by
            intro m_54
            induction m_54 with
            | zero => intro x4_54 I_54 _; exact Pp.no
            | succ m_54 ih_54 =>
            intro x4_54 I_54 hV_54
            show Pp (B_RM_certain_54 N O (a0) (x1) (J0) (z_23) (z_47) (lp (B_RM_certain_54 N O (a0) (x1) (J0) (z_23) (z_47)) (fun _ _ => none) m_54) x4_54 I_54) Q
            unfold B_RM_certain_54
            refine Pp.ite (fun _ => ?_) (fun _ => ?_)
            · skip
              refine Ppc2 (w_RM_accept hT hW h0 w0 (fun z_92 I7 hF7 => ?_))
              have hV7 : (∀ b, ¬ W b → I7 b = I0 b) := fun b hb => (hF7 b hb).trans (hV_54 b hb)
              exact Pp.ret (hQ z_92 I7 hV7)
            · skip
              have t_61 := rf_ok hT h0 (show sp 8 7 = some 6 from rfl)
              refine Ppa1 (fun z_66 => ?_)
              refine Ppa1 (fun z_70 => ?_)
              refine Pp.ite (fun _ => ?_) (fun _ => ?_)
              · skip
                refine Pp_lb (fun v4_84 _ => ?_)
                exact ih_54 (v4_84) I_54 hV_54
              · skip
                refine Ppc2 (w_RM_accept hT hW h0 w0 (fun z_80 I10 hF10 => ?_))
                have hV10 : (∀ b, ¬ W b → I10 b = I0 b) := fun b hb => (hF10 b hb).trans (hV_54 b hb)
                exact Pp.ret (hQ z_80 I10 hV10)
          exact lp_54 N ((Int32.ofInt (1))) I3 hV3
      · skip
        exact hk_16  
  · skip
    exact hk_16  
set_option maxHeartbeats 4000000 in
set_option maxRecDepth 100000 in
theorem w_RM_guess {W : Nat → Prop} {P : List Nat} {K : Nat → Nat} {N : Nat} {O : WO} {I0 : WI} {J0 : WJ} (hT : TR P K O) (hW : ∀ b f c, W b → ¬ K b = 8 → O b f = some c → W c) {a0 : Nat} (h0 : a0 ∈ P ∧ K a0 = 8) (w0 : W a0) {x1 : Int32} {x2 : Int32} {x3 : Int32} {x4 : Int32} {x5 : Int32} (hx6 : W (rf O a0 6)) {Q : (Int32 × WI) → Prop} (hQ : ∀ (z : Int32) (I_ : WI), (∀ b, ¬ W b → I_ b = I0 b) → Q (z, I_)) : Pp (F_RM_guess N O I0 J0 a0 x1 x2 x3 x4 x5) Q := by
  unfold F_RM_guess
  have hV0 : (∀ b, ¬ W b → I0 b = I0 b) := fun _ _ => rfl
  refine Ppa1 (fun z_1 => ?_)
  refine Pp_jq (fun k_24 => Pp (k_24 ) Q) (?_) (fun k_24 hk_24 => ?_)
  · skip
    refine Ppc2 (w_RM_refuse hT hW h0 w0 (fun z_26 I2 hF2 => ?_))
    have hV2 : (∀ b, ¬ W b → I2 b = I0 b) := fun b hb => (hF2 b hb).trans (hV0 b hb)
    exact Pp.ret (hQ z_26 I2 hV2)
  refine Pp.ite (fun _ => ?_) (fun _ => ?_)
  · skip
    refine Ppa1 (fun z_9 => ?_)
    refine Pp.ite (fun _ => ?_) (fun _ => ?_)
    · skip
      exact hk_24  
    · skip
      refine Ppa1 (fun z_18 => ?_)
      refine Pp.ite (fun _ => ?_) (fun _ => ?_)
      · skip
        exact hk_24  
      · skip
        refine Ppa1 (fun z_33 => ?_)
        refine Pp.ite (fun _ => ?_) (fun _ => ?_)
        · skip
          refine Ppc2 (w_RM_refuse hT hW h0 w0 (fun z_41 I6 hF6 => ?_))
          have hV6 : (∀ b, ¬ W b → I6 b = I0 b) := fun b hb => (hF6 b hb).trans (hV0 b hb)
          exact Pp.ret (hQ z_41 I6 hV6)
        · skip
          refine Ppa1 (fun z_48 => ?_)
          have t_54 := rf_ok hT h0 (show sp 8 6 = some 1 from rfl)
          have t_58 := rf_ok hT h0 (show sp 8 1 = some 3 from rfl)
          have t_62 := rf_ok hT h0 (show sp 8 5 = some 19 from rfl)
          refine Ppc1 (w_Gu_tellOne hT hW t_54 hx6 t_58 t_62 (fun I8 hF8 => ?_))
          have hV8 : (∀ b, ¬ W b → I8 b = I0 b) := fun b hb => (hF8 b hb).trans (hV0 b hb)
          have t_72 := rf_ok hT h0 (show sp 8 6 = some 1 from rfl)
          refine Ppa1 (fun z_81 => ?_)
          refine Ppc2 (w_RM_accept hT hW h0 w0 (fun z_84 I10 hF10 => ?_))
          have hV10 : (∀ b, ¬ W b → I10 b = I0 b) := fun b hb => (hF10 b hb).trans (hV8 b hb)
          exact Pp.ret (hQ z_84 I10 hV10)
  · skip
    exact hk_24  
set_option maxHeartbeats 4000000 in
set_option maxRecDepth 100000 in
theorem w_RM_swapped {W : Nat → Prop} {P : List Nat} {K : Nat → Nat} {N : Nat} {O : WO} {I0 : WI} {J0 : WJ} (hT : TR P K O) (hW : ∀ b f c, W b → ¬ K b = 8 → O b f = some c → W c) {a0 : Nat} (h0 : a0 ∈ P ∧ K a0 = 8) (w0 : W a0) (hx6 : W (rf O a0 6)) (hx7 : W (rf O a0 7)) {Q : (Int32 × WI) → Prop} (hQ : ∀ (z : Int32) (I_ : WI), (∀ b, ¬ W b → I_ b = I0 b) → Q (z, I_)) : Pp (F_RM_swapped N O I0 J0 a0) Q := by
  unfold F_RM_swapped
  have hV0 : (∀ b, ¬ W b → I0 b = I0 b) := fun _ _ => rfl
  refine Ppa1 (fun z_1 => ?_)
  refine Pp.ite (fun _ => ?_) (fun _ => ?_)
  · skip
    refine Ppc2 (w_RM_findFits hT hW h0 hx6 hx7 (fun z_14 I2 hF2 => ?_))
    have hV2 : (∀ b, ¬ W b → I2 b = I0 b) := fun b hb => (hF2 b hb).trans (hV0 b hb)
    refine Pp.ite (fun _ => ?_) (fun _ => ?_)
    · skip
      have lp_28 : ∀ (m_28 : Nat) (x1_28 : Int32) (I_28 : WI), (∀ b, ¬ W b → I_28 b = I0 b) → Pp (lp (B_RM_swapped_28 N O (a0) (J0)) (fun _ _ => none) m_28 x1_28 I_28) Q := by
        intro m_28
        induction m_28 with
        | zero => intro x1_28 I_28 _; exact Pp.no
        | succ m_28 ih_28 =>
        intro x1_28 I_28 hV_28
        show Pp (B_RM_swapped_28 N O (a0) (J0) (lp (B_RM_swapped_28 N O (a0) (J0)) (fun _ _ => none) m_28) x1_28 I_28) Q
        unfold B_RM_swapped_28
        refine Pp.ite (fun _ => ?_) (fun _ => ?_)
        · skip
          refine Ppc2 (w_RM_accept hT hW h0 w0 (fun z_86 I3 hF3 => ?_))
          have hV3 : (∀ b, ¬ W b → I3 b = I0 b) := fun b hb => (hF3 b hb).trans (hV_28 b hb)
          exact Pp.ret (hQ z_86 I3 hV3)
        · skip
          refine Pp_lb (fun v2_37 _ => ?_)
          have lp_38 : ∀ (m_38 : Nat) (x2_38 : Int32) (I_38 : WI), (∀ b, ¬ W b → I_38 b = I0 b) → Pp (lp (B_RM_swapped_38 N O (a0) (J0) (x1_28) ((lp (B_RM_swapped_28 N O (a0) (J0)) (fun _ _ => none) m_28))) (fun _ _ => none) m_38 x2_38 I_38) Q := by
            intro m_38
            induction m_38 with
            | zero => intro x2_38 I_38 _; exact Pp.no
            | succ m_38 ih_38 =>
            intro x2_38 I_38 hV_38
            show Pp (B_RM_swapped_38 N O (a0) (J0) (x1_28) ((lp (B_RM_swapped_28 N O (a0) (J0)) (fun _ _ => none) m_28)) (lp (B_RM_swapped_38 N O (a0) (J0) (x1_28) ((lp (B_RM_swapped_28 N O (a0) (J0)) (fun _ _ => none) m_28))) (fun _ _ => none) m_38) x2_38 I_38) Q
            unfold B_RM_swapped_38
            refine Pp.ite (fun _ => ?_) (fun _ => ?_)
            · skip
              refine Pp_lb (fun v1_77 _ => ?_)
              exact ih_28 (v1_77) I_38 hV_38
            · skip
              have t_45 := rf_ok hT h0 (show sp 8 7 = some 6 from rfl)
              have t_49 := rf_ok hT h0 (show sp 8 6 = some 1 from rfl)
              refine Ppa1 (fun z_54 => ?_)
              refine Pp.ite (fun _ => ?_) (fun _ => ?_)
              · skip
                refine Pp_lb (fun v2_71 _ => ?_)
                exact ih_38 (v2_71) I_38 hV_38
              · skip
                refine Ppc2 (w_RM_accept hT hW h0 w0 (fun z_67 I5 hF5 => ?_))
                have hV5 : (∀ b, ¬ W b → I5 b = I0 b) := fun b hb => (hF5 b hb).trans (hV_38 b hb)
                exact Pp.ret (hQ z_67 I5 hV5)
          exact lp_38 N (v2_37) I_28 hV_28
      exact lp_28 N ((Int32.ofInt (0))) I2 hV2
    · skip
      refine Ppc2 (w_RM_refuse hT hW h0 w0 (fun z_22 I6 hF6 => ?_))
      have hV6 : (∀ b, ¬ W b → I6 b = I0 b) := fun b hb => (hF6 b hb).trans (hV2 b hb)
      exact Pp.ret (hQ z_22 I6 hV6)
  · skip
    refine Ppc2 (w_RM_refuse hT hW h0 w0 (fun z_9 I7 hF7 => ?_))
    have hV7 : (∀ b, ¬ W b → I7 b = I0 b) := fun b hb => (hF7 b hb).trans (hV0 b hb)
    exact Pp.ret (hQ z_9 I7 hV7)
set_option maxHeartbeats 4000000 in
set_option maxRecDepth 100000 in
theorem w_RM_plan {W : Nat → Prop} {P : List Nat} {K : Nat → Nat} {N : Nat} {O : WO} {I0 : WI} {J0 : WJ} (hT : TR P K O) (hW : ∀ b f c, W b → ¬ K b = 8 → O b f = some c → W c) {a0 : Nat} (h0 : a0 ∈ P ∧ K a0 = 8) (w0 : W a0) {x1 : Int32} (hx8 : W (rf O a0 8)) {Q : (Int32 × WI) → Prop} (hQ : ∀ (z : Int32) (I_ : WI), (∀ b, ¬ W b → I_ b = I0 b) → Q (z, I_)) : Pp (F_RM_plan N O I0 J0 a0 x1) Q := by
  unfold F_RM_plan
  have hV0 : (∀ b, ¬ W b → I0 b = I0 b) := fun _ _ => rfl
  refine Ppa1 (fun z_1 => ?_)
  refine Pp.ite (fun _ => ?_) (fun _ => ?_)
  · skip
    refine Ppa1 (fun z_14 => ?_)
    refine Pp.ite (fun _ => ?_) (fun _ => ?_)
    · skip
      refine Ppc2 (w_RM_refuse hT hW h0 w0 (fun z_22 I3 hF3 => ?_))
      have hV3 : (∀ b, ¬ W b → I3 b = I0 b) := fun b hb => (hF3 b hb).trans (hV0 b hb)
      exact Pp.ret (hQ z_22 I3 hV3)
    · skip
      have t_27 := rf_ok hT h0 (show sp 8 8 = some 4 from rfl)
      have t_31 := rf_ok hT h0 (show sp 8 1 = some 3 from rfl)
      have t_35 := rf_ok hT h0 (show sp 8 3 = some 0 from rfl)
      have t_39 := rf_ok hT h0 (show sp 8 4 = some 18 from rfl)
      refine Ppc2 (w_Pl_findCheapest hT hW t_27 hx8 t_31 t_35 t_39 (fun z_43 I4 hF4 => ?_))
      have hV4 : (∀ b, ¬ W b → I4 b = I0 b) := fun b hb => (hF4 b hb).trans (hV0 b hb)
      refine Pp.ite (fun _ => ?_) (fun _ => ?_)
      · skip
        refine Ppc2 (w_RM_refuse hT hW h0 w0 (fun z_55 I5 hF5 => ?_))
        have hV5 : (∀ b, ¬ W b → I5 b = I0 b) := fun b hb => (hF5 b hb).trans (hV4 b hb)
        exact Pp.ret (hQ z_55 I5 hV5)
      · skip
        refine Ppc2 (w_RM_accept hT hW h0 w0 (fun z_63 I6 hF6 => ?_))
        have hV6 : (∀ b, ¬ W b → I6 b = I0 b) := fun b hb => (hF6 b hb).trans (hV4 b hb)
        exact Pp.ret (hQ z_63 I6 hV6)
  · skip
    refine Ppc2 (w_RM_refuse hT hW h0 w0 (fun z_9 I7 hF7 => ?_))
    have hV7 : (∀ b, ¬ W b → I7 b = I0 b) := fun b hb => (hF7 b hb).trans (hV0 b hb)
    exact Pp.ret (hQ z_9 I7 hV7)
set_option maxHeartbeats 4000000 in
set_option maxRecDepth 100000 in
theorem w_RM_rule {W : Nat → Prop} {P : List Nat} {K : Nat → Nat} {N : Nat} {O : WO} {I0 : WI} {J0 : WJ} (hT : TR P K O) (hW : ∀ b f c, W b → ¬ K b = 8 → O b f = some c → W c) {a0 : Nat} (h0 : a0 ∈ P ∧ K a0 = 8) (w0 : W a0) {x1 : Int32} (hx8 : W (rf O a0 8)) {Q : (Int32 × WI) → Prop} (hQ : ∀ (z : Int32) (I_ : WI), (∀ b, ¬ W b → I_ b = I0 b) → Q (z, I_)) : Pp (F_RM_rule N O I0 J0 a0 x1) Q := by
  unfold F_RM_rule
  have hV0 : (∀ b, ¬ W b → I0 b = I0 b) := fun _ _ => rfl
  refine Ppa1 (fun z_1 => ?_)
  refine Pp.ite (fun _ => ?_) (fun _ => ?_)
  · skip
    refine Ppa1 (fun z_14 => ?_)
    refine Pp.ite (fun _ => ?_) (fun _ => ?_)
    · skip
      refine Ppc2 (w_RM_refuse hT hW h0 w0 (fun z_22 I3 hF3 => ?_))
      have hV3 : (∀ b, ¬ W b → I3 b = I0 b) := fun b hb => (hF3 b hb).trans (hV0 b hb)
      exact Pp.ret (hQ z_22 I3 hV3)
    · skip
      have t_27 := rf_ok hT h0 (show sp 8 8 = some 4 from rfl)
      have t_31 := rf_ok hT h0 (show sp 8 1 = some 3 from rfl)
      have t_35 := rf_ok hT h0 (show sp 8 3 = some 0 from rfl)
      have t_39 := rf_ok hT h0 (show sp 8 4 = some 18 from rfl)
      refine Ppc1 (w_Pl_keepRule hT hW t_27 hx8 t_31 t_35 t_39 (fun I4 hF4 => ?_))
      have hV4 : (∀ b, ¬ W b → I4 b = I0 b) := fun b hb => (hF4 b hb).trans (hV0 b hb)
      have t_48 := rf_ok hT h0 (show sp 8 8 = some 4 from rfl)
      have t_51 := rf_ok hT t_48 (show sp 4 9 = some 0 from rfl)
      have t_58 := rf_ok hT h0 (show sp 8 3 = some 0 from rfl)
      refine Ppc2 (w_RM_accept hT hW h0 w0 (fun z_65 I5 hF5 => ?_))
      have hV5 : (∀ b, ¬ W b → I5 b = I0 b) := fun b hb => (hF5 b hb).trans (hV4 b hb)
      exact Pp.ret (hQ z_65 I5 hV5)
  · skip
    refine Ppc2 (w_RM_refuse hT hW h0 w0 (fun z_9 I6 hF6 => ?_))
    have hV6 : (∀ b, ¬ W b → I6 b = I0 b) := fun b hb => (hF6 b hb).trans (hV0 b hb)
    exact Pp.ret (hQ z_9 I6 hV6)
set_option maxHeartbeats 4000000 in
set_option maxRecDepth 100000 in
theorem w_RM_lacks {W : Nat → Prop} {P : List Nat} {K : Nat → Nat} {N : Nat} {O : WO} {I0 : WI} {J0 : WJ} (hT : TR P K O) (hW : ∀ b f c, W b → ¬ K b = 8 → O b f = some c → W c) {a0 : Nat} (h0 : a0 ∈ P ∧ K a0 = 8) (w0 : W a0) {x1 : Int32} (hx8 : W (rf O a0 8)) {Q : (Int32 × WI) → Prop} (hQ : ∀ (z : Int32) (I_ : WI), (∀ b, ¬ W b → I_ b = I0 b) → Q (z, I_)) : Pp (F_RM_lacks N O I0 J0 a0 x1) Q := by
  unfold F_RM_lacks
  have hV0 : (∀ b, ¬ W b → I0 b = I0 b) := fun _ _ => rfl
  refine Ppa1 (fun z_1 => ?_)
  refine Pp.ite (fun _ => ?_) (fun _ => ?_)
  · skip
    refine Ppa1 (fun z_14 => ?_)
    refine Pp.ite (fun _ => ?_) (fun _ => ?_)
    · skip
      refine Ppc2 (w_RM_refuse hT hW h0 w0 (fun z_22 I3 hF3 => ?_))
      have hV3 : (∀ b, ¬ W b → I3 b = I0 b) := fun b hb => (hF3 b hb).trans (hV0 b hb)
      exact Pp.ret (hQ z_22 I3 hV3)
    · skip
      have t_27 := rf_ok hT h0 (show sp 8 8 = some 4 from rfl)
      have t_31 := rf_ok hT h0 (show sp 8 1 = some 3 from rfl)
      have t_35 := rf_ok hT h0 (show sp 8 3 = some 0 from rfl)
      have t_39 := rf_ok hT h0 (show sp 8 4 = some 18 from rfl)
      refine Ppc1 (w_Pl_keepRule hT hW t_27 hx8 t_31 t_35 t_39 (fun I4 hF4 => ?_))
      have hV4 : (∀ b, ¬ W b → I4 b = I0 b) := fun b hb => (hF4 b hb).trans (hV0 b hb)
      have t_48 := rf_ok hT h0 (show sp 8 8 = some 4 from rfl)
      have t_51 := rf_ok hT t_48 (show sp 4 9 = some 0 from rfl)
      have t_58 := rf_ok hT h0 (show sp 8 3 = some 0 from rfl)
      refine Ppc2 (w_RM_accept hT hW h0 w0 (fun z_65 I5 hF5 => ?_))
      have hV5 : (∀ b, ¬ W b → I5 b = I0 b) := fun b hb => (hF5 b hb).trans (hV4 b hb)
      exact Pp.ret (hQ z_65 I5 hV5)
  · skip
    refine Ppc2 (w_RM_refuse hT hW h0 w0 (fun z_9 I6 hF6 => ?_))
    have hV6 : (∀ b, ¬ W b → I6 b = I0 b) := fun b hb => (hF6 b hb).trans (hV0 b hb)
    exact Pp.ret (hQ z_9 I6 hV6)
set_option maxHeartbeats 4000000 in
set_option maxRecDepth 100000 in
theorem w_RM_number {W : Nat → Prop} {P : List Nat} {K : Nat → Nat} {N : Nat} {O : WO} {I0 : WI} {J0 : WJ} (hT : TR P K O) (hW : ∀ b f c, W b → ¬ K b = 8 → O b f = some c → W c) {a0 : Nat} (h0 : a0 ∈ P ∧ K a0 = 8) (w0 : W a0) {x1 : Int32} {x2 : Int32} (hx9 : W (rf O a0 9)) {Q : (Int32 × WI) → Prop} (hQ : ∀ (z : Int32) (I_ : WI), (∀ b, ¬ W b → I_ b = I0 b) → Q (z, I_)) : Pp (F_RM_number N O I0 J0 a0 x1 x2) Q := by
  unfold F_RM_number
  have hV0 : (∀ b, ¬ W b → I0 b = I0 b) := fun _ _ => rfl
  refine Ppa1 (fun z_1 => ?_)
  refine Pp.ite (fun _ => ?_) (fun _ => ?_)
  · skip
    refine Pp_jq (fun k_24 => Pp (k_24 ) Q) (?_) (fun k_24 hk_24 => ?_)
    · skip
      refine Ppc2 (w_RM_refuse hT hW h0 w0 (fun z_26 I2 hF2 => ?_))
      have hV2 : (∀ b, ¬ W b → I2 b = I0 b) := fun b hb => (hF2 b hb).trans (hV0 b hb)
      exact Pp.ret (hQ z_26 I2 hV2)
    refine Pp.ite (fun _ => ?_) (fun _ => ?_)
    · skip
      exact hk_24  
    · skip
      refine Pp.ite (fun _ => ?_) (fun _ => ?_)
      · skip
        have t_31 := rf_ok hT h0 (show sp 8 9 = some 7 from rfl)
        refine Ppa1 (fun z_35 => ?_)
        refine Pp.ite (fun _ => ?_) (fun _ => ?_)
        · skip
          have t_49 := rf_ok hT h0 (show sp 8 9 = some 7 from rfl)
          refine Ppc2 (w_Tr_add hT hW t_49 hx9 (fun z_54 I4 hF4 => ?_))
          have hV4 : (∀ b, ¬ W b → I4 b = I0 b) := fun b hb => (hF4 b hb).trans (hV0 b hb)
          refine Ppc2 (w_RM_accept hT hW h0 w0 (fun z_57 I5 hF5 => ?_))
          have hV5 : (∀ b, ¬ W b → I5 b = I0 b) := fun b hb => (hF5 b hb).trans (hV4 b hb)
          exact Pp.ret (hQ z_57 I5 hV5)
        · skip
          refine Ppc2 (w_RM_refuse hT hW h0 w0 (fun z_43 I6 hF6 => ?_))
          have hV6 : (∀ b, ¬ W b → I6 b = I0 b) := fun b hb => (hF6 b hb).trans (hV0 b hb)
          exact Pp.ret (hQ z_43 I6 hV6)
      · skip
        exact hk_24  
  · skip
    refine Ppc2 (w_RM_refuse hT hW h0 w0 (fun z_9 I7 hF7 => ?_))
    have hV7 : (∀ b, ¬ W b → I7 b = I0 b) := fun b hb => (hF7 b hb).trans (hV0 b hb)
    exact Pp.ret (hQ z_9 I7 hV7)
set_option maxHeartbeats 4000000 in
set_option maxRecDepth 100000 in
theorem w_RM_chance {W : Nat → Prop} {P : List Nat} {K : Nat → Nat} {N : Nat} {O : WO} {I0 : WI} {J0 : WJ} (hT : TR P K O) (hW : ∀ b f c, W b → ¬ K b = 8 → O b f = some c → W c) {a0 : Nat} (h0 : a0 ∈ P ∧ K a0 = 8) (w0 : W a0) (hx9 : W (rf O a0 9)) {Q : (Int32 × WI) → Prop} (hQ : ∀ (z : Int32) (I_ : WI), (∀ b, ¬ W b → I_ b = I0 b) → Q (z, I_)) : Pp (F_RM_chance N O I0 J0 a0) Q := by
  unfold F_RM_chance
  have hV0 : (∀ b, ¬ W b → I0 b = I0 b) := fun _ _ => rfl
  have t_1 := rf_ok hT h0 (show sp 8 9 = some 7 from rfl)
  refine Ppa1 (fun z_4 => ?_)
  refine Pp.ite (fun _ => ?_) (fun _ => ?_)
  · skip
    have t_20 := rf_ok hT h0 (show sp 8 9 = some 7 from rfl)
    refine Ppc2 (w_Tr_countNoLess hT hW t_20 hx9 (fun z_23 I2 hF2 => ?_))
    have hV2 : (∀ b, ¬ W b → I2 b = I0 b) := fun b hb => (hF2 b hb).trans (hV0 b hb)
    refine Ppc2 (w_RM_accept hT hW h0 w0 (fun z_26 I3 hF3 => ?_))
    have hV3 : (∀ b, ¬ W b → I3 b = I0 b) := fun b hb => (hF3 b hb).trans (hV2 b hb)
    exact Pp.ret (hQ z_26 I3 hV3)
  · skip
    refine Ppc2 (w_RM_refuse hT hW h0 w0 (fun z_12 I4 hF4 => ?_))
    have hV4 : (∀ b, ¬ W b → I4 b = I0 b) := fun b hb => (hF4 b hb).trans (hV0 b hb)
    exact Pp.ret (hQ z_12 I4 hV4)
set_option maxHeartbeats 4000000 in
set_option maxRecDepth 100000 in
theorem w_RM_splits {W : Nat → Prop} {P : List Nat} {K : Nat → Nat} {N : Nat} {O : WO} {I0 : WI} {J0 : WJ} (hT : TR P K O) (hW : ∀ b f c, W b → ¬ K b = 8 → O b f = some c → W c) {a0 : Nat} (h0 : a0 ∈ P ∧ K a0 = 8) (w0 : W a0) {Q : (Int32 × WI) → Prop} (hQ : ∀ (z : Int32) (I_ : WI), (∀ b, ¬ W b → I_ b = I0 b) → Q (z, I_)) : Pp (F_RM_splits N O I0 J0 a0) Q := by
  unfold F_RM_splits
  have hV0 : (∀ b, ¬ W b → I0 b = I0 b) := fun _ _ => rfl
  have t_1 := rf_ok hT h0 (show sp 8 9 = some 7 from rfl)
  refine Ppa1 (fun z_4 => ?_)
  refine Pp.ite (fun _ => ?_) (fun _ => ?_)
  · skip
    have t_20 := rf_ok hT h0 (show sp 8 9 = some 7 from rfl)
    refine Ppa1 (fun z_23 => ?_)
    refine Ppc2 (w_RM_accept hT hW h0 w0 (fun z_26 I3 hF3 => ?_))
    have hV3 : (∀ b, ¬ W b → I3 b = I0 b) := fun b hb => (hF3 b hb).trans (hV0 b hb)
    exact Pp.ret (hQ z_26 I3 hV3)
  · skip
    refine Ppc2 (w_RM_refuse hT hW h0 w0 (fun z_12 I4 hF4 => ?_))
    have hV4 : (∀ b, ¬ W b → I4 b = I0 b) := fun b hb => (hF4 b hb).trans (hV0 b hb)
    exact Pp.ret (hQ z_12 I4 hV4)
set_option maxHeartbeats 4000000 in
set_option maxRecDepth 100000 in
theorem w_RM_clear {W : Nat → Prop} {P : List Nat} {K : Nat → Nat} {N : Nat} {O : WO} {I0 : WI} {J0 : WJ} (hT : TR P K O) (hW : ∀ b f c, W b → ¬ K b = 8 → O b f = some c → W c) {a0 : Nat} (h0 : a0 ∈ P ∧ K a0 = 8) (hx9 : W (rf O a0 9)) {Q : (Int32 × WI) → Prop} (hQ : ∀ (z : Int32) (I_ : WI), (∀ b, ¬ W b → I_ b = I0 b) → Q (z, I_)) : Pp (F_RM_clear N O I0 J0 a0) Q := by
  unfold F_RM_clear
  have hV0 : (∀ b, ¬ W b → I0 b = I0 b) := fun _ _ => rfl
  have t_1 := rf_ok hT h0 (show sp 8 9 = some 7 from rfl)
  refine Ppc2 (w_Tr_drop hT hW t_1 hx9 (fun z_4 I1 hF1 => ?_))
  have hV1 : (∀ b, ¬ W b → I1 b = I0 b) := fun b hb => (hF1 b hb).trans (hV0 b hb)
  exact Pp.ret (hQ z_4 I1 hV1)
set_option maxHeartbeats 4000000 in
set_option maxRecDepth 100000 in
theorem w_RM_marks {W : Nat → Prop} {P : List Nat} {K : Nat → Nat} {N : Nat} {O : WO} {I0 : WI} {J0 : WJ} (hT : TR P K O) (hW : ∀ b f c, W b → ¬ K b = 8 → O b f = some c → W c) {a0 : Nat} (h0 : a0 ∈ P ∧ K a0 = 8) (w0 : W a0) {x1 : Int32} {x2 : Int32} {x3 : Int32} {x4 : Int32} {x5 : Int32} {x6 : Int32} (hx10 : W (rf O a0 10)) (hx11 : W (rf O a0 11)) {Q : (Int32 × WI) → Prop} (hQ : ∀ (z : Int32) (I_ : WI), (∀ b, ¬ W b → I_ b = I0 b) → Q (z, I_)) : Pp (F_RM_marks N O I0 J0 a0 x1 x2 x3 x4 x5 x6) Q := by
  unfold F_RM_marks
  have hV0 : (∀ b, ¬ W b → I0 b = I0 b) := fun _ _ => rfl
  refine Ppa1 (fun z_3 => ?_)
  refine Pp_jq (fun k_25 => Pp (k_25 ) Q) (?_) (fun k_25 hk_25 => ?_)
  · skip
    refine Ppc2 (w_RM_refuse hT hW h0 w0 (fun z_27 I2 hF2 => ?_))
    have hV2 : (∀ b, ¬ W b → I2 b = I0 b) := fun b hb => (hF2 b hb).trans (hV0 b hb)
    exact Pp.ret (hQ z_27 I2 hV2)
  refine Pp.ite (fun _ => ?_) (fun _ => ?_)
  · skip
    exact hk_25  
  · skip
    refine Ppa1 (fun z_11 => ?_)
    refine Pp.ite (fun _ => ?_) (fun _ => ?_)
    · skip
      exact hk_25  
    · skip
      refine Ppa1 (fun z_19 => ?_)
      refine Pp.ite (fun _ => ?_) (fun _ => ?_)
      · skip
        exact hk_25  
      · skip
        refine Ppa1 (fun z_34 => ?_)
        refine Pp_jq (fun k_47 => Pp (k_47 ) Q) (?_) (fun k_47 hk_47 => ?_)
        · skip
          refine Ppc2 (w_RM_refuse hT hW h0 w0 (fun z_49 I6 hF6 => ?_))
          have hV6 : (∀ b, ¬ W b → I6 b = I0 b) := fun b hb => (hF6 b hb).trans (hV0 b hb)
          exact Pp.ret (hQ z_49 I6 hV6)
        refine Pp.ite (fun _ => ?_) (fun _ => ?_)
        · skip
          exact hk_47  
        · skip
          refine Pp.ite (fun _ => ?_) (fun _ => ?_)
          · skip
            have t_54 := rf_ok hT h0 (show sp 8 11 = some 0 from rfl)
            have t_58 := rf_ok hT h0 (show sp 8 1 = some 3 from rfl)
            refine Ppa1 (fun z_64 => ?_)
            refine Ppc1 (w_Dr_beginStart hT hW t_54 hx11 t_58 (fun I8 hF8 => ?_))
            have hV8 : (∀ b, ¬ W b → I8 b = I0 b) := fun b hb => (hF8 b hb).trans (hV0 b hb)
            have t_71 := rf_ok hT h0 (show sp 8 10 = some 2 from rfl)
            refine Ppc1 (w_Ld_makeEmpty hT hW t_71 hx10 (fun I9 hF9 => ?_))
            have hV9 : (∀ b, ¬ W b → I9 b = I0 b) := fun b hb => (hF9 b hb).trans (hV8 b hb)
            have lp_83 : ∀ (m_83 : Nat) (x7_83 : Int32) (x8_83 : Int32) (I_83 : WI), (∀ b, ¬ W b → I_83 b = I0 b) → Pp (lp (B_RM_marks_83 N O (a0) (x4) (x5) (x6) (J0)) (fun _ _ _ => none) m_83 x7_83 x8_83 I_83) Q := by
              intro m_83
              induction m_83 with
              | zero => intro x7_83 x8_83 I_83 _; exact Pp.no
              | succ m_83 ih_83 =>
              intro x7_83 x8_83 I_83 hV_83
              show Pp (B_RM_marks_83 N O (a0) (x4) (x5) (x6) (J0) (lp (B_RM_marks_83 N O (a0) (x4) (x5) (x6) (J0)) (fun _ _ _ => none) m_83) x7_83 x8_83 I_83) Q
              unfold B_RM_marks_83
              refine Pp.ite (fun _ => ?_) (fun _ => ?_)
              · skip
                refine Ppc2 (w_RM_accept hT hW h0 w0 (fun z_158 I10 hF10 => ?_))
                have hV10 : (∀ b, ¬ W b → I10 b = I0 b) := fun b hb => (hF10 b hb).trans (hV_83 b hb)
                exact Pp.ret (hQ z_158 I10 hV10)
              · skip
                refine Pp_jq (fun k_110 => ∀ (IJ_110 : WI), (∀ b, ¬ W b → IJ_110 b = I0 b) → Pp (k_110 IJ_110) Q) (fun IJ_110 hVJ_110 => ?_) (fun k_110 hk_110 => ?_)
                · skip
                  have t_111 := rf_ok hT h0 (show sp 8 11 = some 0 from rfl)
                  have t_115 := rf_ok hT h0 (show sp 8 1 = some 3 from rfl)
                  have t_119 := rf_ok hT h0 (show sp 8 5 = some 19 from rfl)
                  refine Ppc1 (w_Dr_runHour hT hW t_111 hx11 t_115 (fun I11 hF11 => ?_))
                  have hV11 : (∀ b, ¬ W b → I11 b = I0 b) := fun b hb => (hF11 b hb).trans (hVJ_110 b hb)
                  have t_133 := rf_ok hT h0 (show sp 8 5 = some 19 from rfl)
                  refine Pp.g (fun _ => ?_)
                  refine Ppc2 (w_RM_leadMarks hT hW h0 hx10 (fun z_143 I12 hF12 => ?_))
                  have hV12 : (∀ b, ¬ W b → I12 b = I0 b) := fun b hb => (hF12 b hb).trans (hV11 b hb)
                  refine Pp_lb (fun v7_147 _ => ?_)
                  refine Pp_lb (fun v8_149 _ => ?_)
                  exact ih_83 (v7_147) (v8_149) I12 hV12
                refine Pp.ite (fun _ => ?_) (fun _ => ?_)
                · skip
                  have t_98 := rf_ok hT h0 (show sp 8 10 = some 2 from rfl)
                  have t_101 := rf_ok hT t_98 (show sp 2 0 = some 11 from rfl)
                  refine Pp.g (fun _ => ?_)
                  refine Pp_lb (fun I13 eI13 => ?_)
                  have hV13 : (∀ b, ¬ W b → I13 b = I0 b) := fp_put hV_83 (hW (rf O a0 10) 0 _ hx10 (by rw [t_98.2]; decide) (rf_o hT t_98 (show sp 2 0 = some 11 from rfl))) eI13
                  exact hk_110  I13 hV13
                · skip
                  exact hk_110  I_83 hV_83
            exact lp_83 N ((Int32.ofInt (0))) ((Int32.ofInt (0))) I9 hV9
          · skip
            exact hk_47  
