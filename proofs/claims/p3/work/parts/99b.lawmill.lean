theorem rf_row {O O' : WO} {c : Nat} (h : O' c = O c) (f : Nat) : rf O' c f = rf O c f := by unfold rf; rw [h]
theorem sep_of {P : List Nat} {K : Nat → Nat} {O : WO} (hT : TR P K O) {r m : Nat} (hr : r ∈ P ∧ K r = 5) (hm : m ∈ P ∧ K m = 3) (hd : rf O m 11 ≠ rf O m 12) : Sep O r m := by
  have nlb : ∀ {c d κ κ' : Nat}, K c = κ → K d = κ' → κ ≠ κ' → c ≠ d := fun h1 h2 h3 z => h3 (by rw [← h1, ← h2, z])
  have tt := rf_ok hT hr (show sp 5 0 = some 15 from rfl)
  have u8 := rf_ok hT hr (show sp 5 8 = some 16 from rfl)
  have u9 := rf_ok hT hr (show sp 5 9 = some 17 from rfl)
  have q0 := (rf_ok hT hm (show sp 3 10 = some 13 from rfl)).2
  have q1 := (rf_ok hT hm (show sp 3 11 = some 11 from rfl)).2
  have q2 := (rf_ok hT hm (show sp 3 12 = some 11 from rfl)).2
  have q3 := (rf_ok hT hm (show sp 3 13 = some 12 from rfl)).2
  have q4 := (rf_ok hT hm (show sp 3 14 = some 14 from rfl)).2
  refine ⟨nlb hm.2 hr.2 (by decide), nlb tt.2 hr.2 (by decide), nlb tt.2 hm.2 (by decide), nlb u8.2 u9.2 (by decide), fun j hj => ?_, fun i j hi hj e => ?_⟩
  · have : j = 0 ∨ j = 1 ∨ j = 2 ∨ j = 3 ∨ j = 4 := by omega
    rcases this with rfl | rfl | rfl | rfl | rfl
    · exact ⟨nlb q0 hr.2 (by decide), nlb q0 hm.2 (by decide), nlb q0 tt.2 (by decide)⟩
    · exact ⟨nlb q1 hr.2 (by decide), nlb q1 hm.2 (by decide), nlb q1 tt.2 (by decide)⟩
    · exact ⟨nlb q2 hr.2 (by decide), nlb q2 hm.2 (by decide), nlb q2 tt.2 (by decide)⟩
    · exact ⟨nlb q3 hr.2 (by decide), nlb q3 hm.2 (by decide), nlb q3 tt.2 (by decide)⟩
    · exact ⟨nlb q4 hr.2 (by decide), nlb q4 hm.2 (by decide), nlb q4 tt.2 (by decide)⟩
  · have hi5 : i = 0 ∨ i = 1 ∨ i = 2 ∨ i = 3 ∨ i = 4 := by omega
    have hj5 : j = 0 ∨ j = 1 ∨ j = 2 ∨ j = 3 ∨ j = 4 := by omega
    rcases hi5 with rfl | rfl | rfl | rfl | rfl <;> rcases hj5 with rfl | rfl | rfl | rfl | rfl <;> first | rfl | exact absurd e hd | exact absurd e.symm hd | exact absurd e (nlb q0 q1 (by decide)) | exact absurd e (nlb q0 q2 (by decide)) | exact absurd e (nlb q0 q3 (by decide)) | exact absurd e (nlb q0 q4 (by decide)) | exact absurd e (nlb q1 q0 (by decide)) | exact absurd e (nlb q1 q3 (by decide)) | exact absurd e (nlb q1 q4 (by decide)) | exact absurd e (nlb q2 q0 (by decide)) | exact absurd e (nlb q2 q3 (by decide)) | exact absurd e (nlb q2 q4 (by decide)) | exact absurd e (nlb q3 q0 (by decide)) | exact absurd e (nlb q3 q1 (by decide)) | exact absurd e (nlb q3 q2 (by decide)) | exact absurd e (nlb q3 q4 (by decide)) | exact absurd e (nlb q4 q0 (by decide)) | exact absurd e (nlb q4 q1 (by decide)) | exact absurd e (nlb q4 q2 (by decide)) | exact absurd e (nlb q4 q3 (by decide))
set_option maxHeartbeats 4000000 in
theorem lwc_1 {X : CTX} {P : List Nat} {K : Nat → Nat} {I : WI} {O : WO} {J : WJ} {nc ns b x mo out Ln : Nat} {i : Int32} {xs : Nat → Int32} (C : Cx X bLw 7 "RoarMillLaw" room_1) (hLX : LX X) (hs : SCR X b Ln xs) (hL : Ln ≤ 3584) (hi : 0 ≤ i.toInt ∧ i.toInt + 7 ≤ (Ln : Int)) (hj : L3 P K I O x mo out) (hn : nc + 8 ≤ 601024 ∧ ns + 76 ≤ 7293034) (kk : KK X b x mo out i (nc + 8) (ns + 76)) : GG X 7 P K I O J nc ns 245 (LL b x mo out i) [] := by
  obtain ⟨hV, hx, hm, ho, hR, hS, hH⟩ := id hj
  have hne : mo ≠ x := fun q => by have := hm.2; rw [q, hx.2] at this; exact absurd this (by decide)
  have t0 := rf_ok hV.1 hx (show sp 8 0 = some 5 from rfl)
  have t1 := rf_ok hV.1 hx (show sp 8 1 = some 3 from rfl)
  have t2 := rf_ok hV.1 hx (show sp 8 2 = some 3 from rfl)
  have tt := rf_ok hV.1 t0 (show sp 5 0 = some 15 from rfl)
  have t5 := rf_ok hV.1 hm (show sp 10 5 = some 30 from rfl)
  have t16 := rf_ok hV.1 hm (show sp 10 16 = some 31 from rfl)
  have nlx : ∀ {c κ : Nat}, K c = κ → κ ≠ 8 → ¬ c = x := fun h1 h2 z => h2 (by rw [← h1, z]; exact hx.2)
  obtain ⟨n, hnn⟩ : ∃ n : Nat, (I mo 6).toInt = (n : Int) := ⟨(I mo 6).toInt.toNat, by have := hH.2.1; omega⟩
  have h700 : n ≤ 700 := by have := hH.2.1; omega
  have hl : (I (rf O x 0) 1).toInt = (n : Int) := by rw [hH.1, hnn]
  obtain ⟨⟨z1, I1, J1, O1⟩, e1, V0, F0, hO0, q0⟩ := c_mill (N := 2147483648) (J := J) (x := sv xs i 1) (t := fun j => (I (rf O mo 5) j).toInt) (Q := fun w => IV P K w.2.1 w.2.2.2 ∧ FR frC K I J w.2.1 w.2.2.1 ∧ (w.2.2.2 = O ∨ w.2.2.2 = sw12 O x) ∧ ((((sv xs i 1).toInt < 0 ∨ (n : Int) < (sv xs i 1).toInt) ∧ w.1.toInt = -1 ∧ ∀ b, b ≠ x → w.2.1 b = I b) ∨ (0 ≤ (sv xs i 1).toInt ∧ (sv xs i 1).toInt ≤ (n : Int) ∧ (w.2.1 (rf O x 0) 1).toInt = 0 ∧ w.1.toInt = mres (spMill (fun j => (I (rf O mo 5) j).toInt) (sv xs i 1).toInt.toNat)))) (by decide) hV hx (sep_of hV.1 t0 t2 hS.2) hl h700 (fun j hj2 => by rw [(hH.2.2 j (by omega)).1]) (fun r I' J' O' a1 a2 a3 a4 => ⟨a1, a2, a3, a4⟩)
  have V1 : IV P K I1 O1 := V0
  have F1 : FR frC K I J I1 J1 := F0
  have hO1 : O1 = O ∨ O1 = sw12 O x := hO0
  have q1 : (((sv xs i 1).toInt < 0 ∨ (n : Int) < (sv xs i 1).toInt) ∧ z1.toInt = -1 ∧ ∀ b, b ≠ x → I1 b = I b) ∨ (0 ≤ (sv xs i 1).toInt ∧ (sv xs i 1).toInt ≤ (n : Int) ∧ (I1 (rf O x 0) 1).toInt = 0 ∧ z1.toInt = mres (spMill (fun j => (I (rf O mo 5) j).toInt) (sv xs i 1).toInt.toNat)) := q0
  clear V0 F0 hO0 q0
  have oB : ∀ c, ¬ c = x → O1 c = O c := fun c hc => by
    rcases hO1 with rfl | rfl
    · rfl
    · exact sw12_r hc
  have o0 : O1 x 0 = O x 0 := by
    rcases hO1 with rfl | rfl
    · rfl
    · exact sw12_o (by decide) (by decide)
  have r0 : rf O1 x 0 = rf O x 0 := by unfold rf; rw [o0]
  have r00 : rf O1 (rf O x 0) 0 = rf O (rf O x 0) 0 := rf_row (oB _ (nlx t0.2 (by decide))) 0
  have rm : ∀ f, rf O1 mo f = rf O mo f := fun f => rf_row (oB mo hne) f
  have km : I1 mo = I mo := by funext k; exact (F1 mo (by rw [hm.2]; rfl)).1 k
  have k5 : I1 (rf O mo 5) = I (rf O mo 5) := by funext k; exact (F1 _ (by rw [t5.2]; rfl)).1 k
  have k16 : I1 (rf O mo 16) = I (rf O mo 16) := by funext k; exact (F1 _ (by rw [t16.2]; rfl)).1 k
  have hS1 : SPc O1 x := by
    rcases hO1 with rfl | rfl
    · exact hS
    · unfold SPc
      rw [sw12_1, sw12_2]
      have a1 : ∀ f, rf (sw12 O x) (rf O x 1) f = rf O (rf O x 1) f := fun f => rf_row (sw12_r (nlx t1.2 (by decide))) f
      have a2 : ∀ f, rf (sw12 O x) (rf O x 2) f = rf O (rf O x 2) f := fun f => rf_row (sw12_r (nlx t2.2 (by decide))) f
      rw [a1, a1, a2, a2]; exact ⟨hS.2, hS.1⟩
  refine g_aload_n C dLw_245 rfl ?_
  refine g_sarg (k := 1) C hs hL hi (by decide) rfl rfl dLw_246 dLw_247 dLw_249 dLw_250 dLw_251 ?_
  refine g_callV (av := fun _ => [.int (sv xs i 1)]) (rest := []) C dLw_252 mfRM_mill mvRM_mill ln_Lw_24 hx (by decide) rfl (f_RM_mill hV.1 hx e1) rfl rfl (Nat.le_of_ble_eq_true rfl) ⟨Nat.le_of_ble_eq_true rfl, Nat.le_of_ble_eq_true rfl⟩ (show nc + 0 ≤ 601024 ∧ ns + 0 ≤ 7293034 by omega) ?_
  rintro r P' K' I1' O1' J1' ⟨rfl, rfl, rfl, rfl, rfl, rfl⟩
  refine g_aload_n C dLw_255 rfl ?_
  refine g_sarg (k := 1) C hs hL hi (by decide) rfl rfl dLw_256 dLw_257 dLw_259 dLw_260 dLw_261 ?_
  have hM1 : O1' mo 3 = none ∨ ∃ M, O1' mo 3 = some M ∧ (M ∈ P' ∧ K' M = 9) ∧ GM I1' M := by
    rw [oB mo hne]
    rcases hR.1 with z | ⟨w1, w2⟩
    · exact Or.inl z
    · exact Or.inr ⟨rf O mo 3, w1.1, w1.2, w2.keep (F1 _ (by rw [w1.2.2]; rfl)).1⟩
  have hSo : O1' mo 16 = some (rf O mo 16) := by rw [oB mo hne]; exact rf_o hV.1 hm (show sp 10 16 = some 31 from rfl)
  refine g_callV (av := fun _ => [.int (sv xs i 1)]) (rest := [.int z1]) C dLw_262 mfMo_mill mvMo_mill ln_Lw_27 hm (by decide) rfl (xMo_mill (n := n) (t := fun j => (I (rf O mo 5) j).toInt) V1 hm hSo t16 hM1 (by rw [km]; exact hnn) h700 (fun j hj2 => by rw [rm, k5]; exact ⟨rfl, (hH.2.2 j (by omega)).2⟩)) rfl rfl (Nat.le_of_ble_eq_true rfl) ⟨Nat.le_of_ble_eq_true rfl, Nat.le_of_ble_eq_true rfl⟩ (show nc + 0 + 8 ≤ 601024 ∧ ns + 0 + 76 ≤ 7293034 by omega) ?_
  rintro r P2 K2 I2 O2 J2 ⟨⟨-, hP, hV2, hO3, hM2, hs2, hq2⟩, z2, rfl, hb2, hg2⟩
  rw [km] at hb2 hg2 hq2
  have hz : z1.toInt = z2.toInt := by
    rcases q1 with ⟨c1, c2, _⟩ | ⟨c1, c2, _, c4⟩
    · rw [c2, (hb2 (by omega)).1]
    · rw [c4, hg2 c1 (by omega)]
  refine gt_icmp_eq 1126 C dLw_265 (by decide) rfl rfl (fun c => ?_) (fun c => absurd hz c)
  have up : ∀ {q κ : Nat}, q ∈ P' ∧ K' q = κ → q ∈ P2 ∧ K2 q = κ := fun h => ⟨(hP _ h.1).1, (hP _ h.1).2.1.trans h.2⟩
  have ox : ∀ c, c ∈ P' → c ≠ mo → O2 c = O1' c := fun c h1 h2 => (hP c h1).2.2.2 h2
  have nm : ∀ {c κ : Nat}, K' c = κ → κ ≠ 10 → c ≠ mo := fun h1 h2 z => h2 (by rw [← h1, z]; exact hm.2)
  have kc : ∀ c, c ∈ P' → frR (K' c) = true → I2 c = I1' c := fun c h1 h2 => by funext k; exact (hP c h1).2.2.1 h2 k
  have g0 : rf O2 x 0 = rf O x 0 := (rf_row (ox x hx.1 (fun z => hne z.symm)) 0).trans r0
  have g00 : rf O2 (rf O x 0) 0 = rf O (rf O x 0) 0 := (rf_row (ox _ t0.1 (nm t0.2 (by decide))) 0).trans r00
  have g5 : rf O2 mo 5 = rf O mo 5 := by unfold rf; rw [hO3 5 (by decide) (by decide)]; exact rm 5
  have g16 : rf O2 mo 16 = rf O mo 16 := by unfold rf; rw [hO3 16 (by decide) (by decide)]; exact rm 16
  have hS2 : SPc O2 x := by
    have u1 := rf_ok V1.1 hx (show sp 8 1 = some 3 from rfl)
    have u2 := rf_ok V1.1 hx (show sp 8 2 = some 3 from rfl)
    have e1 : ∀ f, rf O2 x f = rf O1' x f := fun f => rf_row (ox x hx.1 (fun z => hne z.symm)) f
    have e2 : ∀ f, rf O2 (rf O1' x 1) f = rf O1' (rf O1' x 1) f := fun f => rf_row (ox _ u1.1 (nm u1.2 (by decide))) f
    have e3 : ∀ f, rf O2 (rf O1' x 2) f = rf O1' (rf O1' x 2) f := fun f => rf_row (ox _ u2.1 (nm u2.2 (by decide))) f
    unfold SPc
    rw [e1, e1, e2, e2, e3, e3]; exact hS1
  have g27 := hV2.2 _ (up t16).1 27
  rw [(up t16).2] at g27
  have g27 : 0 ≤ (I2 (rf O mo 16) 27).toInt ∧ (I2 (rf O mo 16) 27).toInt ≤ 240 := g27
  have hR2 : RS P2 K2 I2 O2 mo := by
    refine ⟨?_, ?_⟩
    · rcases hM2 with z | ⟨M, w1, w2, w3⟩
      · exact Or.inl z
      · have e : rf O2 mo 3 = M := by unfold rf; rw [w1]; rfl
        exact Or.inr ⟨⟨by rw [e]; exact w1, by rw [e]; exact w2⟩, by rw [e]; exact w3⟩
    · rw [g16]
      rw [km, k16] at hs2
      have := hR.2
      omega
  have hh : HT3 I2 O2 x mo := by
    unfold HT3
    rw [g0, g00, g5, kc _ t0.1 (by rw [t0.2]; rfl), kc _ tt.1 (by rw [tt.2]; rfl)]
    rcases hq2 with ⟨c1, c2⟩ | ⟨c1, c2, c3⟩
    · rcases q1 with ⟨d1, d2, d3⟩ | ⟨d1, d2, _⟩
      · have w5 : I2 (rf O mo 5) = I (rf O mo 5) := by rw [(hb2 c1).2 _ t5.1 (nm t5.2 (by decide)), k5]
        rw [c2, d3 _ (nlx t0.2 (by decide)), d3 _ (nlx tt.2 (by decide)), w5]
        exact hH
      · omega
    · rcases q1 with ⟨d1, d2, d3⟩ | ⟨d1, d2, d3, _⟩
      · omega
      · rw [c3, d3]
        exact ⟨rfl, by decide, fun j hj2 => by omega⟩
  exact g_widen (nc' := nc + 8) (ns' := ns + 76) (show nc + 0 + 8 ≤ nc + 8 by omega) (show ns + 0 + 76 ≤ ns + 76 by omega) (kk _ _ _ _ _ ⟨hV2, up hx, up hm, up ho, hR2, hS2, hh⟩)
