/-- a whole world -/
def WH (P : List Nat) (K : Nat → Nat) (I : Nat → Nat → Int32) (O : Nat → Nat → Option Nat) : Prop := ∀ b, b ∈ P → (∀ f, TAf P K O b f) ∧ okA K I b
theorem WH.iv {P : List Nat} {K : Nat → Nat} {I : Nat → Nat → Int32} {O : Nat → Nat → Option Nat} (h : WH P K I O) : IV P K I O := ⟨fun a ha k κ' hs => (h a ha).1 k κ' hs, fun a ha k => (h a ha).2.1 k⟩
theorem WH.grow {P P' : List Nat} {K K' : Nat → Nat} {I I' : Nat → Nat → Int32} {O O' : Nat → Nat → Option Nat} {J J' : Nat → Nat → Int64} {q κ : Nat} {D : List Nat} (h : WH P K I O) (hq : q ∉ P) (hc : CT (P ++ [q]) (lab K q κ) (clr I q 0) (clr O q none) (clr J q 0) P' K' I' O' J' q D) (hs : ∀ f κ', sp κ f = some κ' → f ∈ D) : WH P' K' I' O' ∧ (q ∈ P' ∧ K' q = κ) ∧ ∀ b, b ∈ P → b ∈ P' ∧ K' b = K b ∧ I' b = I b ∧ O' b = O b := by
  have hk : ∀ b, b ∈ P → b ∈ P' ∧ K' b = K b ∧ I' b = I b ∧ O' b = O b := by
    intro b hb
    have hne : ¬ b = q := fun z => hq (z ▸ hb)
    obtain ⟨e1, e2, e3⟩ := hc.1 b (List.mem_append_left _ hb)
    obtain ⟨e4, e5, -⟩ := e3 hne
    exact ⟨e1, by rw [e2, lab_ne _ hne], by rw [e4, clr_ne _ _ hne], by rw [e5, clr_ne _ _ hne]⟩
  have hqq : q ∈ P' ∧ K' q = κ := by
    obtain ⟨e1, e2, -⟩ := hc.1 q (List.mem_append_right _ (List.mem_singleton.mpr rfl))
    exact ⟨e1, by rw [e2, lab_self]⟩
  refine ⟨fun b hb => ?_, hqq, hk⟩
  by_cases h1 : b ∈ P
  · obtain ⟨e1, e2, e3, e4⟩ := hk b h1
    refine ⟨fun f => ((h b h1).1 f).up h1 (fun c hc' => ⟨(hk c hc').1, (hk c hc').2.1⟩) e4, ?_⟩
    have h9 := (h b h1).2
    unfold okA at h9 ⊢
    rw [e2, e3]; exact h9
  · by_cases h2 : b = q
    · subst h2
      refine ⟨fun f κ' hf => ?_, hc.2.2.2⟩
      exact hc.2.2.1 f (hs f κ' (by rw [hqq.2] at hf; exact hf)) κ' hf
    · exact hc.2.1 b hb (fun z => by
        rcases List.mem_append.mp z with z | z
        · exact h1 z
        · exact h2 (List.mem_singleton.mp z))
theorem WH.cell {P : List Nat} {K : Nat → Nat} {I : Nat → Nat → Int32} {O : Nat → Nat → Option Nat} {q κ : Nat} (h : WH P K I O) (hq : q ∉ P) (hs : ∀ f, sp κ f = none) (h5 : κ ≠ 5) : WH (P ++ [q]) (lab K q κ) (clr I q 0) (clr O q none) := by
  intro b hb
  by_cases h2 : b = q
  · subst h2
    refine ⟨fun f κ' hf => ?_, ⟨fun k => ?_, fun z => ?_⟩⟩
    · rw [lab_self, hs] at hf; cases hf
    · rw [clr_self]; exact okI_0 _ _
    · rw [clr_self]; exact Or.inr (Or.inr rfl)
  · have h1 : b ∈ P := by
      rcases List.mem_append.mp hb with z | z
      · exact z
      · exact absurd (List.mem_singleton.mp z) h2
    refine ⟨fun f => ((h b h1).1 f).up h1 (fun c hc => ⟨List.mem_append_left _ hc, lab_ne _ (fun z => hq (z ▸ hc))⟩) (clr_ne _ _ h2), ?_⟩
    have h9 := (h b h1).2
    unfold okA at h9 ⊢
    rw [lab_ne _ h2, clr_ne _ _ h2]; exact h9
theorem ivRM_init : Cond.instanceMethod yRM_init ∈ wG := wG_of (by decide +kernel) (by decide +kernel)
theorem ivMo_init : Cond.instanceMethod yMo_init ∈ wG := wG_of (by decide +kernel) (by decide +kernel)
theorem lw_begin {X : CTX} {K : Nat → Nat} {I : Nat → Nat → Int32} {O : Nat → Nat → Option Nat} {J : Nat → Nat → Int64} {b Ln : Nat} {xs : Nat → Int32} (C : Cx X bLw 7 "RoarMillLaw" room_1) (hLX : LX X) (hAO : AOX X) (hs : SCR X b Ln xs) (hL : Ln ≤ 3584) (kend : ∀ (P : List Nat) (K : Nat → Nat) (I : Nat → Nat → Int32) (O : Nat → Nat → Option Nat) (J : Nat → Nat → Int64) (L : List (Nat × Value)), GG X 7 P K I O J 601024 7293034 1132 L []) : GG X 7 [] K I O J 0 0 0 [(0, .ref b)] [] := by
  have w0 : WH [] K I O := fun b hb => nomatch hb
  refine g_new (κ := 8) C dLw_0 (by decide) kl_Lw_8 ki_8 kn_8 ⟨Nat.le_of_ble_eq_true rfl, Nat.le_of_ble_eq_true rfl⟩ (fun x hx => ?_)
  refine g_dup C dLw_3 rfl ?_
  refine g_callB (n := 0) (rest := [.ref x]) C hAO dLw_4 mfRM_init ivRM_init rfl ln_Lw_15 (mRM_init _ _ _ _ _ x ⟨List.mem_append_right _ (List.mem_singleton.mpr rfl), lab_self _ _ _⟩ (fun k => by rw [clr_self]) (fun k => by rw [clr_self])) rfl rfl (Nat.le_of_ble_eq_true rfl) ⟨Nat.le_of_ble_eq_true rfl, Nat.le_of_ble_eq_true rfl⟩ ⟨Nat.le_of_ble_eq_true rfl, Nat.le_of_ble_eq_true rfl⟩ ?_
  rintro r P1 K1 I1 O1 J1 ⟨⟨rfl, h1, -⟩, ci1⟩
  obtain ⟨w1, hx1, -⟩ := w0.grow hx h1 cov_8
  refine g_astore_n (i := 1) C dLw_7 rfl (by decide) ?_
  refine g_new (κ := 10) C dLw_8 (by decide) kl_Lw_16 ki_10 kn_10 ⟨Nat.le_of_ble_eq_true rfl, Nat.le_of_ble_eq_true rfl⟩ (fun mo hm => ?_)
  refine g_dup C dLw_11 rfl ?_
  refine g_callI (n := 0) (av := fun _ => []) (rest := [.ref mo]) C dLw_12 mfMo_init ivMo_init rfl ln_Lw_18 (mMo_init _ _ _ _ _ mo ⟨List.mem_append_right _ (List.mem_singleton.mpr rfl), lab_self _ _ _⟩ (fun k => by rw [clr_self]) (fun k => by rw [clr_self])) rfl rfl (Nat.le_of_ble_eq_true rfl) ⟨Nat.le_of_ble_eq_true rfl, Nat.le_of_ble_eq_true rfl⟩ ⟨Nat.le_of_ble_eq_true rfl, Nat.le_of_ble_eq_true rfl⟩ ?_
  rintro r P2 K2 I2 O2 J2 ⟨⟨rfl, h2, hz, hz2, hO3, -⟩, ci2⟩
  obtain ⟨w2, hm2, up2⟩ := w1.grow hm h2 cov_10
  have hx2 : x ∈ P2 ∧ K2 x = 8 := ⟨(up2 x hx1.1).1, (up2 x hx1.1).2.1.trans hx1.2⟩
  refine g_astore_n (i := 2) C dLw_15 rfl (by decide) ?_
  refine g_iconst (v := 1) C dLw_16 (by decide) ?_
  refine g_newa (κ := 48) (ty := .long) C dLw_17 (by decide) ac_long rfl (Or.inr (Or.inr (Or.inl ⟨rfl, rfl⟩))) rfl (by decide) ⟨Nat.le_of_ble_eq_true rfl, Nat.le_of_ble_eq_true rfl⟩ (fun out ho => ?_)
  have w3 := w2.cell (κ := 48) ho (fun _ => rfl) (by decide)
  have ne : ∀ {c : Nat}, c ∈ P2 → ¬ c = out := fun hc z => ho (z ▸ hc)
  have up : ∀ {c κ : Nat}, c ∈ P2 ∧ K2 c = κ → c ∈ P2 ++ [out] ∧ lab K2 out 48 c = κ := fun h => ⟨List.mem_append_left _ h.1, by rw [lab_ne _ (ne h.1)]; exact h.2⟩
  refine g_astore_n (i := 3) C dLw_19 rfl (by decide) ?_
  refine g_iconst (v := 0) C dLw_20 (by decide) ?_
  refine g_istore C dLw_21 (by decide) ?_
  have gt : ∀ {a k κ κ' : Nat}, a ∈ P2 → K2 a = κ → sp κ k = some κ' → ∃ c, clr O2 out none a k = some c ∧ c ∈ P2 ++ [out] ∧ lab K2 out 48 c = κ' := fun {a k κ κ'} ha hk hs => by
    obtain ⟨c, e1, e2⟩ := (w2 a ha).1 k κ' (by rw [hk]; exact hs)
    exact ⟨c, by rw [clr_ne _ _ (ne ha)]; exact e1, up e2⟩
  have hV3 := w3.iv
  have hx3 := up hx2
  have hm3 := up hm2
  have t0 := rf_ok hV3.1 hx3 (show sp 8 0 = some 5 from rfl)
  have t16 := rf_ok hV3.1 hm3 (show sp 10 16 = some 31 from rfl)
  have im : clr I2 out 0 mo = I2 mo := clr_ne _ _ (ne hm2.1)
  have e18 : (clr I2 out 0 mo 18).toInt = 0 := by rw [im, hz 18 (by decide)]; rfl
  have e6 : (clr I2 out 0 mo 6).toInt = 0 := by rw [im, hz 6 (by decide)]; rfl
  have z0 : ∀ c k κ, c ∈ P2 ++ [out] ∧ lab K2 out 48 c = κ → κ ≠ 9 → ¬ (k = 2 ∧ (κ = 3 ∨ κ = 10)) → (clr I2 out 0 c k).toInt = 0 := fun c k κ hc h9 h3 => by
    have q := (w3 c hc.1).2.2 k
    rw [hc.2] at q
    rcases q with q | q | q
    · exact absurd q h9
    · exact absurd q h3
    · rw [q]; rfl
  have eR : (clr I2 out 0 (rf (clr O2 out none) x 0) 1).toInt = 0 := z0 _ 1 5 t0 (by decide) (by decide)
  have g27 := (w3 _ t16.1).2.1 27
  rw [t16.2] at g27
  have g27 : 0 ≤ (clr I2 out 0 (rf (clr O2 out none) mo 16) 27).toInt ∧ (clr I2 out 0 (rf (clr O2 out none) mo 16) 27).toInt ≤ 240 := g27
  have o3 : ∀ c, c ∈ P1 → clr O2 out none c = O1 c := fun c hc => by rw [clr_ne _ _ (ne (up2 c hc).1)]; exact (up2 c hc).2.2.2
  have w1T := w1.iv
  have al : ∀ c, c ∈ P1 → c ∉ ([] ++ [x]) ∨ c = x := fun c _ => by
    by_cases z : c = x
    · exact Or.inr z
    · exact Or.inl (fun v => z (by simpa using v))
  have how : OW P1 (P2 ++ [out]) (clr O2 out none) x mo := ⟨hx1.1, hm, fun b hb => List.mem_append_left _ (up2 b hb).1, fun b f c hb hc => (ci1.1 b f c hb (al b hb) (by rw [← o3 b hb]; exact hc)).1, fun b f b' f' c hb hb' hc hc' => ci1.2 b f b' f' c hb (al b hb) hb' (al b' hb') (by rw [← o3 b hb]; exact hc) (by rw [← o3 b' hb']; exact hc')⟩
  have hal : AL (clr I2 out 0) (clr O2 out none) x mo := by
    have y1 := rf_ok hV3.1 hx3 (show sp 8 1 = some 3 from rfl)
    have y9 := rf_ok hV3.1 hx3 (show sp 8 9 = some 7 from rfl)
    have y33 := rf_ok hV3.1 hm3 (show sp 10 33 = some 39 from rfl)
    refine ⟨by rw [z0 x 15 8 hx3 (by decide) (by decide), z0 mo 13 10 hm3 (by decide) (by decide)], Or.inr ⟨by rw [z0 x 14 8 hx3 (by decide) (by decide)]; decide, by rw [im, hz2]; exact ofI (by decide)⟩, Or.inl ⟨by rw [clr_ne _ _ (ne hm2.1)]; exact hO3, z0 _ 7 3 y1 (by decide) (by decide), z0 _ 8 3 y1 (by decide) (by decide)⟩, by rw [z0 _ 3 7 y9 (by decide) (by decide), z0 _ 0 39 y33 (by decide) (by decide)], by rw [z0 _ 4 7 y9 (by decide) (by decide), z0 _ 1 39 y33 (by decide) (by decide)]⟩
  have sp3 : ∀ f, f = 1 ∨ f = 2 → rf (clr O2 out none) (rf (clr O2 out none) x f) 11 ≠ rf (clr O2 out none) (rf (clr O2 out none) x f) 12 := fun f hf e => by
    have hsf : sp 8 f = some 3 := by rcases hf with rfl | rfl <;> rfl
    have m1 := rf_ok w1T.1 hx1 hsf
    have ex : rf (clr O2 out none) x f = rf O1 x f := rf_row (o3 x hx1.1) f
    rw [ex, rf_row (o3 _ m1.1) 11, rf_row (o3 _ m1.1) 12] at e
    have a1 := rf_o w1T.1 m1 (show sp 3 11 = some 11 from rfl)
    have a2 := rf_o w1T.1 m1 (show sp 3 12 = some 11 from rfl)
    rw [← e] at a2
    have := (ci1.2 _ 11 _ 12 _ m1.1 (al _ m1.1) m1.1 (al _ m1.1) a1 a2).2
    exact absurd this (by decide)
  have hj : L4 (P2 ++ [out]) (lab K2 out 48) (clr I2 out 0) (clr O2 out none) x mo out := ⟨⟨hV3, hx3, hm3, ⟨List.mem_append_right _ (List.mem_singleton.mpr rfl), lab_self _ _ _⟩, ⟨Or.inl (by rw [clr_ne _ _ (ne hm2.1)]; exact hO3), by omega⟩, ⟨sp3 1 (Or.inl rfl), sp3 2 (Or.inr rfl)⟩, ⟨by omega, by omega, fun j hj2 => by omega⟩⟩, ⟨P1, how⟩, hal⟩
  exact g_sub (lw_loop C hLX hs hL kend Ln _ _ _ _ _ _ _ 0 (by decide) (by show (0 : Int) ≤ _; omega) (by show Int.toNat ((Ln : Int) - 0) = Ln; omega) (show 0 + 1 + 108 + 1 + 19 + 1 + 2 * Ln + 8 ≤ 601024 by omega) (show 0 + 17 + 10344 + 37 + 1321 + 1 + 11 * Ln + 76 ≤ 7293034 by omega) hj) ⟨rfl, rfl, rfl, rfl, rfl, trivial⟩
