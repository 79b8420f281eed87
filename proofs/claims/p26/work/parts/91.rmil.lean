/-! the reference's mill, exactly -/
def MMx (a S : Nat) (x : Int32) (t : Nat → Int) (P : List Nat) (K : Nat → Nat) (I : WI) (O : WO) (J : WJ) : PST := fun r P' K' I' O' J' => MMo a S x P K I O J r P' K' I' O' J' ∧ ∃ z : Int32, r = some (.int z) ∧ ((x.toInt < 0 ∨ (I a 6).toInt < x.toInt) → z.toInt = -1 ∧ (∀ b, b ∈ P → b ≠ a → I' b = I b) ∧ I' a 13 = I a 13 ∧ (I' a 2).toInt = -1 ∧ O' a 3 = O a 3) ∧ (0 ≤ x.toInt → x.toInt ≤ (I a 6).toInt → z.toInt = mres (spMill t x.toInt.toNat) ∧ (∀ w, spMill t x.toInt.toNat = .error w → (I' a 13).toInt = w.1 ∧ (I' a 2).toInt = (w.2 : Int) ∧ O' a 3 = O a 3 ∧ ∀ b, b ∈ P → b ≠ a → I' b = I b) ∧ (∀ q, spMill t x.toInt.toNat = .ok q → (I' a 13).toInt = 0 ∧ (I' a 2).toInt = -1 ∧ (I' (rf O a 33) 0).toInt = 0 ∧ (I' (rf O a 33) 1).toInt = 0 ∧ ∃ F, O' a 3 = some F ∧ (F ∈ P' ∧ K' F = 9) ∧ F ∉ P ∧ XR O' F I' J' q.2))
set_option maxHeartbeats 4000000 in
theorem xMo_mill {P : List Nat} {K : Nat → Nat} {I : WI} {O : WO} {J : WJ} (hV : IV P K I O) {a S n : Nat} (h0 : a ∈ P ∧ K a = 10) (hSo : O a 16 = some S) (hSk : S ∈ P ∧ K S = 31) (hM : O a 3 = none ∨ ∃ M, O a 3 = some M ∧ (M ∈ P ∧ K M = 9) ∧ GM I M) {x : Int32} {t : Nat → Int} (hl : (I a 6).toInt = (n : Int)) (hn : n ≤ 700) (ht : ∀ i, i < n → (I (rf O a 5) i).toInt = t i ∧ -128 ≤ t i ∧ t i ≤ 127) : Con yMo_mill bMo_mill 3 (some .int) ({ frames := 11, cells := 8, slots := 76, locals := 237 } : Room) P K I O J [.ref a, .int x] (MMx a S x t P K I O J) := by
  refine Con.ofG mfMo_mill (Nat.le_of_ble_eq_true rfl) ?_
  intro X C E
  have nSa : S ≠ a := fun z => by have q := hSk.2; rw [z, h0.2] at q; cases q
  have t5 := rf_ok hV.1 h0 (show sp 10 5 = some 30 from rfl)
  have n5a : rf O a 5 ≠ a := fun z => by have q := t5.2; rw [z, h0.2] at q; cases q
  refine g_aload_n C dMo_mill_0 rfl ?_
  refine g_iconst (v := Int32.ofInt (0)) C dMo_mill_1 (by decide) ?_
  refine g_puti (x := Int32.ofInt 0) C dMo_mill_2 fl_Mo_73 h0 rfl rfl rfl ?_
  generalize e1 : up2 I a 0 (Int32.ofInt 0) = I1
  have E1 : EX a [0] I I1 := by rw [← e1]; exact EX.up
  have s1 : SV frM2 P K O I J I1 J := by rw [← e1]; exact (SV.rf hV).putI h0.2 rfl trivial
  have bad : (x.toInt < 0 ∨ (I a 6).toInt < x.toInt) → GG X 3 P K I1 O J 0 0 17 [(0, .ref a), (1, .int x)] [] := by
    intro hx
    refine g_aload_n C dMo_mill_17 rfl ?_
    refine g_iconst (v := Int32.ofInt (2)) C dMo_mill_18 (by decide) ?_
    refine x_callVi (av := fun ad => [.int (Int32.ofInt (2))]) C dMo_mill_19 mfMo_refused mvMo_refused ln_Mo_283 h0 (by decide) rfl (f_Mo_refused (N := 0) (r := Int32.ofInt (-1)) (I' := up2 (up2 I1 a 1 (Int32.ofInt 2)) a 2 (Int32.ofInt (-1))) hV.1 h0 rfl) rfl rfl (Nat.le_of_ble_eq_true rfl) ⟨Nat.le_of_ble_eq_true rfl, Nat.le_of_ble_eq_true rfl⟩ ⟨rfl, rfl⟩ ⟨Nat.zero_le _, Nat.zero_le _⟩ ?_
    have s2 : SV frM2 P K O I J (up2 (up2 I1 a 1 (Int32.ofInt 2)) a 2 (Int32.ofInt (-1))) J := (s1.putI (k := 1) (x := Int32.ofInt 2) h0.2 rfl trivial).putI (k := 2) (x := Int32.ofInt (-1)) h0.2 rfl trivial
    generalize e3 : up2 (up2 I1 a 1 (Int32.ofInt 2)) a 2 (Int32.ofInt (-1)) = I3 at s2 ⊢
    have E3 : EX a [0, 1, 2] I I3 := fun b k h => by
      have h1 : ¬ (b = a ∧ k = 1) := fun z => h ⟨z.1, by rw [z.2]; decide⟩
      have h2 : ¬ (b = a ∧ k = 2) := fun z => h ⟨z.1, by rw [z.2]; decide⟩
      have h3 : ¬ (b = a ∧ k ∈ [0]) := fun z => h ⟨z.1, by have := List.mem_singleton.mp z.2; rw [this]; decide⟩
      rw [← e3, up2_ne _ _ h2, up2_ne _ _ h1]; exact E1 b k h3
    refine g_iret C E dMo_mill_22 (Nat.zero_le _) (Nat.zero_le _) ⟨⟨⟨_, rfl⟩, fun b hb => ⟨hb, rfl, fun q k => ?_, fun _ => rfl⟩, s2.1, fun _ _ _ => rfl, ?_, Or.inl ⟨?_, ?_⟩, Or.inl ⟨hx, ?_⟩⟩, _, rfl, fun _ => ⟨ofI (by decide), fun b _ hb => E3.ne hb, E3.at (by decide), by rw [← e3, up2_self]; exact ofI (by decide), rfl⟩, fun q1 q2 => by omega⟩
    · rw [E3.ne (fun z => by rw [z, h0.2] at q; cases q)]
    · rcases hM with hM | ⟨M, q1, q2, q3⟩
      · exact Or.inl hM
      · exact Or.inr ⟨M, q1, q2, q3.keep (fun k => by rw [E3.ne (fun z => by have q := q2.2; rw [z, h0.2] at q; cases q)])⟩
    · rw [E3.at (by decide)]
    · rw [E3.ne nSa]
    · rw [E3.at (by decide)]
  refine g_iload_n C dMo_mill_5 rfl ?_
  refine gt_if_lt 17 C dMo_mill_6 (by decide) rfl (fun c => bad (Or.inl c)) (fun c => ?_)
  refine g_iload_n C dMo_mill_9 rfl ?_
  refine g_aload_n C dMo_mill_10 rfl ?_
  refine g_geti C dMo_mill_11 fl_Mo_280 h0 ?_
  have e16 : I1 a 6 = I a 6 := E1.at (by decide)
  rw [e16]
  refine gt_icmp_le 23 C dMo_mill_14 (by decide) rfl rfl (fun c2 => ?_) (fun c2 => bad (Or.inr c2))
  refine g_aload_n C dMo_mill_23 rfl ?_
  refine g_iload_n C dMo_mill_24 rfl ?_
  refine g_puti (x := x) C dMo_mill_25 fl_Mo_79 h0 rfl rfl rfl ?_
  refine g_aload_n C dMo_mill_28 rfl ?_
  refine g_iconst (v := Int32.ofInt (0)) C dMo_mill_29 (by decide) ?_
  refine g_puti (x := Int32.ofInt 0) C dMo_mill_30 fl_Mo_280 h0 rfl rfl rfl ?_
  refine g_aload_n C dMo_mill_33 rfl ?_
  refine g_iconst (v := Int32.ofInt (0)) C dMo_mill_34 (by decide) ?_
  refine g_puti (x := Int32.ofInt 0) C dMo_mill_35 fl_Mo_97 h0 rfl rfl rfl ?_
  refine g_aload_n C dMo_mill_38 rfl ?_
  refine g_iconst (v := Int32.ofInt (0)) C dMo_mill_39 (by decide) ?_
  refine g_puti (x := Int32.ofInt 0) C dMo_mill_40 fl_Mo_128 h0 rfl rfl rfl ?_
  have z0 : (Int32.ofInt 0).toInt = 0 := ofI (by decide)
  have s6 : SV frM2 P K O I J (up2 (up2 (up2 (up2 I1 a 7 x) a 6 (Int32.ofInt 0)) a 8 (Int32.ofInt 0)) a 13 (Int32.ofInt 0)) J :=
    (((s1.putI (k := 7) h0.2 rfl (by show 0 ≤ x.toInt ∧ x.toInt ≤ 700; omega)).putI (k := 6) h0.2 rfl (by show 0 ≤ (Int32.ofInt 0).toInt ∧ (Int32.ofInt 0).toInt ≤ 700; omega)).putI (k := 8) h0.2 rfl (by show 0 ≤ (Int32.ofInt 0).toInt ∧ (Int32.ofInt 0).toInt ≤ 700; omega)).putI (k := 13) h0.2 rfl trivial
  have v7 : (up2 (up2 (up2 (up2 I1 a 7 x) a 6 (Int32.ofInt 0)) a 8 (Int32.ofInt 0)) a 13 (Int32.ofInt 0)) a 7 = x := by rw [up2_ne _ _ (fun z => absurd z.2 (by decide)), up2_ne _ _ (fun z => absurd z.2 (by decide)), up2_ne _ _ (fun z => absurd z.2 (by decide)), up2_self]
  have v6 : (up2 (up2 (up2 (up2 I1 a 7 x) a 6 (Int32.ofInt 0)) a 8 (Int32.ofInt 0)) a 13 (Int32.ofInt 0)) a 6 = Int32.ofInt 0 := by rw [up2_ne _ _ (fun z => absurd z.2 (by decide)), up2_ne _ _ (fun z => absurd z.2 (by decide)), up2_self]
  have v8 : (up2 (up2 (up2 (up2 I1 a 7 x) a 6 (Int32.ofInt 0)) a 8 (Int32.ofInt 0)) a 13 (Int32.ofInt 0)) a 8 = Int32.ofInt 0 := by rw [up2_ne _ _ (fun z => absurd z.2 (by decide)), up2_self]
  have v13 : (up2 (up2 (up2 (up2 I1 a 7 x) a 6 (Int32.ofInt 0)) a 8 (Int32.ofInt 0)) a 13 (Int32.ofInt 0)) a 13 = Int32.ofInt 0 := up2_self _ _ _ _
  have E6 : EX a [0, 7, 6, 8, 13] I (up2 (up2 (up2 (up2 I1 a 7 x) a 6 (Int32.ofInt 0)) a 8 (Int32.ofInt 0)) a 13 (Int32.ofInt 0)) := fun b k h => by
    rw [up2_ne _ _ (fun z => h ⟨z.1, by rw [z.2]; decide⟩), up2_ne _ _ (fun z => h ⟨z.1, by rw [z.2]; decide⟩), up2_ne _ _ (fun z => h ⟨z.1, by rw [z.2]; decide⟩), up2_ne _ _ (fun z => h ⟨z.1, by rw [z.2]; decide⟩)]
    exact E1 b k (fun z => h ⟨z.1, by rw [List.mem_singleton.mp z.2]; decide⟩)
  generalize up2 (up2 (up2 (up2 I1 a 7 x) a 6 (Int32.ofInt 0)) a 8 (Int32.ofInt 0)) a 13 (Int32.ofInt 0) = I6 at s6 v7 v6 v8 v13 E6 ⊢
  refine x_millA C s6.1 h0 (fun P2 K2 I2 O2 J2 F hFP old hOf hF4 hFk hV2 hF0 hArr hInj hNew => ?_)
  have rf4 : rf O2 a 4 = F := by unfold rf; rw [hF4]; rfl
  have rf5 : rf O2 a 5 = rf O a 5 := by unfold rf; rw [hOf 5 (by decide)]
  have nFa : F ≠ a := fun z => hFP (by rw [z]; exact h0.1)
  have h02 : a ∈ P2 ∧ K2 a = 10 := ⟨(old a h0.1).1, (old a h0.1).2.1.trans h0.2⟩
  have ea : I2 a = I6 a := (old a h0.1).2.2.1
  have S0 : SX0 O2 a := by
    refine ⟨by rw [rf4]; exact nFa, by rw [rf5]; exact n5a, by rw [rf4, rf5]; exact fun z => hFP (by rw [← z]; exact t5.1), fun j hj => ?_, by rw [rf4]; exact hInj⟩
    rw [rf4, rf5]
    obtain ⟨g1, g2, -⟩ := hArr j hj
    exact ⟨fun z => g1 (by rw [z]; exact h0.1), g2, fun z => g1 (by rw [z]; exact t5.1)⟩
  have hne : ∀ b, b ∈ P → b ≠ F ∧ ∀ j, j < 7 → b ≠ rf O2 F (11 + j) := fun b hb => ⟨fun z => hFP (by rw [← z]; exact hb), fun j hj z => (hArr j hj).1 (by rw [← z]; exact hb)⟩
  have hR : ∀ b, frR (K b) = true → b ≠ a := fun b q z => by rw [z, h0.2] at q; cases q
  refine x_millB (n := x.toInt.toNat) (t := t) C E hV2 h02 hF4 hFk S0 (by rw [ea, v7]; omega) (by omega) (by rw [ea, v8]; exact z0) (by rw [ea, v13]; exact z0) hF0 (fun j hj => (hArr j hj).2.2.2.2) (fun i hi => ?_) (fun w I' J' hm hV' hA hB w13 w2 _ => ?_) (fun q I' J' I'' hm hV' hA hB k13 xr gm sv k18 k6 k8 k2 kr0 kr1 => ?_)
  · rw [rf5, (old _ t5.1).2.2.1, E6.ne n5a]; exact ht i (by omega)
  · have keep : ∀ b, b ∈ P → b ≠ a → I' b = I b := fun b hb hba => by rw [hB b hba (hne b hb).1 (hne b hb).2, (old b hb).2.2.1, E6.ne hba]
    have ka : ∀ k, k ∉ [1, 2, 8, 9, 10, 11, 12, 13, 14] → k ∉ [0, 7, 6, 8, 13] → I' a k = I a k := fun k q1 q2 => by rw [hA k q1, ea, E6.at q2]
    refine ⟨⟨⟨_, rfl⟩, fun b hb => ⟨(old b hb).1, (old b hb).2.1, fun q k => by rw [keep b hb (hR b q)], fun z => (old b hb).2.2.2.2 z⟩, hV', fun f _ n4 => hOf f n4, ?_, Or.inl ⟨by rw [ka 18 (by decide) (by decide)], by rw [keep S hSk.1 nSa]⟩, Or.inr ⟨by omega, c2, by rw [hA 6 (by decide), ea, v6]; exact z0⟩⟩, _, rfl, fun q => by omega, fun _ _ => ⟨by rw [hm]; exact ofI (by decide), fun w' hw' => by rw [hm] at hw'; cases hw'; exact ⟨w13, w2, hOf 3 (by decide), keep⟩, fun q hq => by rw [hm] at hq; cases hq⟩⟩
    rw [hOf 3 (by decide)]
    rcases hM with hM | ⟨M, q1, q2, q3⟩
    · exact Or.inl hM
    · exact Or.inr ⟨M, q1, ⟨(old M q2.1).1, (old M q2.1).2.1.trans q2.2⟩, q3.keep (fun k => by rw [keep M q2.1 (fun z => by have q := q2.2; rw [z, h0.2] at q; cases q)])⟩
  · have keep : ∀ b, b ∈ P → b ≠ a → I' b = I b := fun b hb hba => by rw [hB b hba (hne b hb).1 (hne b hb).2, (old b hb).2.2.1, E6.ne hba]
    refine ⟨⟨⟨_, rfl⟩, fun b hb => ⟨(old b hb).1, (old b hb).2.1, fun q k => ?_, fun z => ?_⟩, sv.1, fun f n3 n4 => ?_, Or.inr ⟨F, up2_self _ _ _ _, hFk, gm.keep (fun k => (sv.2 F (by rw [hFk.2]; rfl)).1 k)⟩, Or.inr k18, Or.inr ⟨by omega, c2, by rw [k6 6 (Or.inl rfl), hA 6 (by decide), ea, v6]; exact z0⟩⟩, _, rfl, fun q => by omega, fun _ _ => ⟨by rw [hm]; exact k8, fun w' hw' => (by rw [hm] at hw'; cases hw'), fun q' hq' => ?_⟩⟩
    · rw [(sv.2 b (by rw [(old b hb).2.1]; exact frL_le (by decide) _ q)).1 k, keep b hb (hR b q)]
    · rw [up2_row _ _ z]; exact (old b hb).2.2.2.2 z
    · rw [up2_ne _ _ (fun w => n3 w.2)]; exact hOf f n4
    · rw [hm] at hq'; cases hq'
      have r33 : rf O2 a 33 = rf O a 33 := by unfold rf; rw [hOf 33 (by decide)]
      rw [r33] at kr0 kr1
      refine ⟨by rw [k6 13 (Or.inr rfl)]; exact k13, k2, kr0, kr1, F, up2_self _ _ _ _, hFk, hFP, ?_⟩
      have rO : ∀ f, rf (up2 O2 a 3 (some F)) F f = rf O2 F f := fun f => by unfold rf; rw [up2_row _ _ nFa]
      have kk : ∀ f κ', sp 9 f = some κ' → frM2 κ' = true → I'' (rf O2 F f) = I' (rf O2 F f) := fun f κ' h1 h2 => by
        funext k; exact (sv.2 _ (by rw [(rf_ok hV2.1 hFk h1).2]; exact h2)).1 k
      have kF : I'' F = I' F := by funext k; exact (sv.2 F (by rw [hFk.2]; rfl)).1 k
      obtain ⟨x1, x2, x3⟩ := xr
      refine ⟨by rw [kF]; exact x1, fun j i hj hi => ?_, fun k q0 h => ?_⟩
      · rw [rO]
        have : j = 0 ∨ j = 1 ∨ j = 2 ∨ j = 3 ∨ j = 4 := by omega
        rcases this with rfl | rfl | rfl | rfl | rfl
        · rw [kk (11 + 0) 42 rfl rfl]; exact x2 _ _ hj hi
        · rw [kk (11 + 1) 43 rfl rfl]; exact x2 _ _ hj hi
        · rw [kk (11 + 2) 43 rfl rfl]; exact x2 _ _ hj hi
        · rw [kk (11 + 3) 44 rfl rfl]; exact x2 _ _ hj hi
        · rw [kk (11 + 4) 45 rfl rfl]; exact x2 _ _ hj hi
      · rw [rO, rO, kk 17 47 rfl rfl]; exact x3 k q0 h
