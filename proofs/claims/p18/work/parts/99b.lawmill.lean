theorem rf_row {O O' : WO} {c : Nat} (h : O' c = O c) (f : Nat) : rf O' c f = rf O c f := by unfold rf; rw [h]
theorem sep_of {P : List Nat} {K : Nat → Nat} {O : WO} (hT : TR P K O) {r m : Nat} (hr : r ∈ P ∧ K r = 5) (hm : m ∈ P ∧ K m = 3) (hd : rf O m 11 ≠ rf O m 12) : Sep O r m := by
  have nlb : ∀ {c d κ κ' : Nat}, K c = κ → K d = κ' → κ ≠ κ' → c ≠ d := fun h1 h2 h3 z => h3 (by rw [← h1, ← h2, z])
  have tt := rf_ok hT hr (show sp 5 0 = some 15 from rfl)
  have u8 := rf_ok hT hr (show sp 5 8 = some 16 from rfl)
  have u9 := rf_ok hT hr (show sp 5 9 = some 17 from rfl)
  have q0 := (rf_ok hT hm (show sp 3 10 = some 13 from rfl)).2
  have q1 := (rf_ok hT hm (show sp 3 11 = some 11 from rfl)).2
  have q2 := (rf_ok hT hm (show sp 3 12 = some 11 from rfl)).2
  have q3 := (rf_ok hT hm (show sp 3 13 = some 12 from rfl)).2
  have q4 := (rf_ok hT hm (show sp 3 14 = some 14 from rfl)).2
  refine ⟨nlb hm.2 hr.2 (by decide), nlb tt.2 hr.2 (by decide), nlb tt.2 hm.2 (by decide), nlb u8.2 u9.2 (by decide), fun j hj => ?_, fun i j hi hj e => ?_⟩
  · have : j = 0 ∨ j = 1 ∨ j = 2 ∨ j = 3 ∨ j = 4 := by omega
    rcases this with rfl | rfl | rfl | rfl | rfl
    · exact ⟨nlb q0 hr.2 (by decide), nlb q0 hm.2 (by decide), nlb q0 tt.2 (by decide)⟩
    · exact ⟨nlb q1 hr.2 (by decide), nlb q1 hm.2 (by decide), nlb q1 tt.2 (by decide)⟩
    · exact ⟨nlb q2 hr.2 (by decide), nlb q2 hm.2 (by decide), nlb q2 tt.2 (by decide)⟩
    · exact ⟨nlb q3 hr.2 (by decide), nlb q3 hm.2 (by decide), nlb q3 tt.2 (by decide)⟩
    · exact ⟨nlb q4 hr.2 (by decide), nlb q4 hm.2 (by decide), nlb q4 tt.2 (by decide)⟩
  · have hi5 : i = 0 ∨ i = 1 ∨ i = 2 ∨ i = 3 ∨ i = 4 := by omega
    have hj5 : j = 0 ∨ j = 1 ∨ j = 2 ∨ j = 3 ∨ j = 4 := by omega
    rcases hi5 with rfl | rfl | rfl | rfl | rfl <;> rcases hj5 with rfl | rfl | rfl | rfl | rfl <;> first | rfl | exact absurd e hd | exact absurd e.symm hd | exact absurd e (nlb q0 q1 (by decide)) | exact absurd e (nlb q0 q2 (by decide)) | exact absurd e (nlb q0 q3 (by decide)) | exact absurd e (nlb q0 q4 (by decide)) | exact absurd e (nlb q1 q0 (by decide)) | exact absurd e (nlb q1 q3 (by decide)) | exact absurd e (nlb q1 q4 (by decide)) | exact absurd e (nlb q2 q0 (by decide)) | exact absurd e (nlb q2 q3 (by decide)) | exact absurd e (nlb q2 q4 (by decide)) | exact absurd e (nlb q3 q0 (by decide)) | exact absurd e (nlb q3 q1 (by decide)) | exact absurd e (nlb q3 q2 (by decide)) | exact absurd e (nlb q3 q4 (by decide)) | exact absurd e (nlb q4 q0 (by decide)) | exact absurd e (nlb q4 q1 (by decide)) | exact absurd e (nlb q4 q2 (by decide)) | exact absurd e (nlb q4 q3 (by decide))
set_option maxHeartbeats 4000000 in
theorem lwc_1 {X : CTX} {P : List Nat} {K : Nat → Nat} {I : WI} {O : WO} {J : WJ} {nc ns b x mo out Ln : Nat} {i : Int32} {xs : Nat → Int32} (C : Cx X bLw 7 "RoarMillLaw" room_1) (hLX : LX X) (hs : SCR X b Ln xs) (hL : Ln ≤ 3584) (hi : 0 ≤ i.toInt ∧ i.toInt + 7 ≤ (Ln : Int)) (hj : L6 P K I O x mo out) (hn : nc + 8 ≤ 601024 ∧ ns + 76 ≤ 7293034) (kk : KK X b x mo out i (nc + 8) (ns + 76)) : GG X 7 P K I O J nc ns 245 (LL b x mo out i) [] := by
  obtain ⟨hV, hx, hm, ho, hR, hS, hH⟩ := hj.1.1.1
  obtain ⟨Qo, hQo⟩ := hj.1.1.2.1
  obtain ⟨a1, a2, a3, a4, a5⟩ := hj.1.1.2.2
  have hne : mo ≠ x := fun q => by have := hm.2; rw [q, hx.2] at this; exact absurd this (by decide)
  have t0 := rf_ok hV.1 hx (show sp 8 0 = some 5 from rfl)
  have t1 := rf_ok hV.1 hx (show sp 8 1 = some 3 from rfl)
  have t2 := rf_ok hV.1 hx (show sp 8 2 = some 3 from rfl)
  have tt := rf_ok hV.1 t0 (show sp 5 0 = some 15 from rfl)
  have t5 := rf_ok hV.1 hm (show sp 10 5 = some 30 from rfl)
  have t16 := rf_ok hV.1 hm (show sp 10 16 = some 31 from rfl)
  have nlx : ∀ {c κ : Nat}, K c = κ → κ ≠ 8 → ¬ c = x := fun h1 h2 z => h2 (by rw [← h1, z]; exact hx.2)
  obtain ⟨n, hnn⟩ : ∃ n : Nat, (I mo 6).toInt = (n : Int) := ⟨(I mo 6).toInt.toNat, by have := hH.2.1; omega⟩
  have h700 : n ≤ 700 := by have := hH.2.1; omega
  have hl : (I (rf O x 0) 1).toInt = (n : Int) := by rw [hH.1, hnn]
  obtain ⟨⟨z1, I1, J1, O1⟩, e1, V0, F0, hO0, q0⟩ := c_mill (N := 2147483648) (J := J) (x := sv xs i 1) (t := fun j => (I (rf O mo 5) j).toInt) (Q := fun w => IV P K w.2.1 w.2.2.2 ∧ FR frC K I J w.2.1 w.2.2.1 ∧ (w.2.2.2 = O ∨ w.2.2.2 = sw12 O x) ∧ ((((sv xs i 1).toInt < 0 ∨ (n : Int) < (sv xs i 1).toInt) ∧ w.1.toInt = -1 ∧ (∀ b, b ≠ x → w.2.1 b = I b) ∧ w.2.2.2 = O ∧ (w.2.1 x 14).toInt = 2 ∧ w.2.1 x 15 = I x 15 ∧ w.2.1 x 13 = I x 13) ∨ (0 ≤ (sv xs i 1).toInt ∧ (sv xs i 1).toInt ≤ (n : Int) ∧ (w.2.1 (rf O x 0) 1).toInt = 0 ∧ w.1.toInt = mres (spMill (fun j => (I (rf O mo 5) j).toInt) (sv xs i 1).toInt.toNat) ∧ MC O x I (fun j => (I (rf O mo 5) j).toInt) (sv xs i 1).toInt.toNat w.2.1 w.2.2.2))) (by decide) hV hx hQo (sep_of hV.1 t0 t2 hS.2) hl h700 (fun j hj2 => by rw [(hH.2.2 j (by omega)).1]) (fun r I' J' O' a1 a2 a3 a4 => ⟨a1, a2, a3, a4⟩)
  have V1 : IV P K I1 O1 := V0
  have F1 : FR frC K I J I1 J1 := F0
  have hO1 : O1 = O ∨ O1 = sw12 O x := hO0
  have q1 : (((sv xs i 1).toInt < 0 ∨ (n : Int) < (sv xs i 1).toInt) ∧ z1.toInt = -1 ∧ (∀ b, b ≠ x → I1 b = I b) ∧ O1 = O ∧ (I1 x 14).toInt = 2 ∧ I1 x 15 = I x 15 ∧ I1 x 13 = I x 13) ∨ (0 ≤ (sv xs i 1).toInt ∧ (sv xs i 1).toInt ≤ (n : Int) ∧ (I1 (rf O x 0) 1).toInt = 0 ∧ z1.toInt = mres (spMill (fun j => (I (rf O mo 5) j).toInt) (sv xs i 1).toInt.toNat) ∧ MC O x I (fun j => (I (rf O mo 5) j).toInt) (sv xs i 1).toInt.toNat I1 O1) := q0
  clear V0 F0 hO0 q0
  have oB : ∀ c, ¬ c = x → O1 c = O c := fun c hc => by
    rcases hO1 with rfl | rfl
    · rfl
    · exact sw12_r hc
  have o0 : O1 x 0 = O x 0 := by
    rcases hO1 with rfl | rfl
    · rfl
    · exact sw12_o (by decide) (by decide)
  have r0 : rf O1 x 0 = rf O x 0 := by unfold rf; rw [o0]
  have r00 : rf O1 (rf O x 0) 0 = rf O (rf O x 0) 0 := rf_row (oB _ (nlx t0.2 (by decide))) 0
  have rm : ∀ f, rf O1 mo f = rf O mo f := fun f => rf_row (oB mo hne) f
  have km : I1 mo = I mo := by funext k; exact (F1 mo (by rw [hm.2]; rfl)).1 k
  have k5 : I1 (rf O mo 5) = I (rf O mo 5) := by funext k; exact (F1 _ (by rw [t5.2]; rfl)).1 k
  have k16 : I1 (rf O mo 16) = I (rf O mo 16) := by funext k; exact (F1 _ (by rw [t16.2]; rfl)).1 k
  have hS1 : SPc O1 x := by
    rcases hO1 with rfl | rfl
    · exact hS
    · unfold SPc
      rw [sw12_1, sw12_2]
      have a1 : ∀ f, rf (sw12 O x) (rf O x 1) f = rf O (rf O x 1) f := fun f => rf_row (sw12_r (nlx t1.2 (by decide))) f
      have a2 : ∀ f, rf (sw12 O x) (rf O x 2) f = rf O (rf O x 2) f := fun f => rf_row (sw12_r (nlx t2.2 (by decide))) f
      rw [a1, a1, a2, a2]; exact ⟨hS.2, hS.1⟩
  refine g_aload_n C dLw_245 rfl ?_
  refine g_sarg (k := 1) C hs hL hi (by decide) rfl rfl dLw_246 dLw_247 dLw_249 dLw_250 dLw_251 ?_
  refine g_callV (av := fun _ => [.int (sv xs i 1)]) (rest := []) C dLw_252 mfRM_mill mvRM_mill ln_Lw_24 hx (by decide) rfl (f_RM_mill hV.1 hx e1) rfl rfl (Nat.le_of_ble_eq_true rfl) ⟨Nat.le_of_ble_eq_true rfl, Nat.le_of_ble_eq_true rfl⟩ (show nc + 0 ≤ 601024 ∧ ns + 0 ≤ 7293034 by omega) ?_
  rintro r P' K' I1' O1' J1' ⟨rfl, rfl, rfl, rfl, rfl, rfl⟩
  refine g_pop C dLw_255 rfl ?_
  refine g_aload_n C dLw_256 rfl ?_
  refine g_sarg (k := 1) C hs hL hi (by decide) rfl rfl dLw_257 dLw_258 dLw_260 dLw_261 dLw_262 ?_
  have hM1 : O1' mo 3 = none ∨ ∃ M, O1' mo 3 = some M ∧ (M ∈ P' ∧ K' M = 9) ∧ GM I1' M := by
    rw [oB mo hne]
    rcases hR.1 with z | ⟨w1, w2⟩
    · exact Or.inl z
    · exact Or.inr ⟨rf O mo 3, w1.1, w1.2, w2.keep (F1 _ (by rw [w1.2.2]; rfl)).1⟩
  have hSo : O1' mo 16 = some (rf O mo 16) := by rw [oB mo hne]; exact rf_o hV.1 hm (show sp 10 16 = some 31 from rfl)
  refine g_callV (av := fun _ => [.int (sv xs i 1)]) (rest := []) C dLw_263 mfMo_mill mvMo_mill ln_Lw_27 hm (by decide) rfl (xMo_mill (n := n) (t := fun j => (I (rf O mo 5) j).toInt) V1 hm hSo t16 (by rw [rm, rm]; exact hj.2.1.1) hM1 (by rw [km]; exact hnn) h700 (fun j hj2 => by rw [rm, k5]; exact ⟨rfl, (hH.2.2 j (by omega)).2⟩)) rfl rfl (Nat.le_of_ble_eq_true rfl) ⟨Nat.le_of_ble_eq_true rfl, Nat.le_of_ble_eq_true rfl⟩ (show nc + 0 + 8 ≤ 601024 ∧ ns + 0 + 76 ≤ 7293034 by omega) ?_
  rintro r P2 K2 I2 O2 J2 ⟨⟨-, hP, hV2, hO3, hM2, hs2, hq2⟩, z2, rfl, hb2, hg2⟩
  rw [km] at hb2 hg2 hq2
  refine g_pop C dLw_266 rfl ?_
  refine g_goto 1126 C dLw_267 (by decide) ?_
  have up : ∀ {q κ : Nat}, q ∈ P' ∧ K' q = κ → q ∈ P2 ∧ K2 q = κ := fun h => ⟨(hP _ h.1).1, (hP _ h.1).2.1.trans h.2⟩
  have ox : ∀ c, c ∈ P' → c ≠ mo → O2 c = O1' c := fun c h1 h2 => (hP c h1).2.2.2 h2
  have nm : ∀ {c κ : Nat}, K' c = κ → κ ≠ 10 → c ≠ mo := fun h1 h2 z => h2 (by rw [← h1, z]; exact hm.2)
  have kc : ∀ c, c ∈ P' → frR (K' c) = true → I2 c = I1' c := fun c h1 h2 => by funext k; exact (hP c h1).2.2.1 h2 k
  have g0 : rf O2 x 0 = rf O x 0 := (rf_row (ox x hx.1 (fun z => hne z.symm)) 0).trans r0
  have g00 : rf O2 (rf O x 0) 0 = rf O (rf O x 0) 0 := (rf_row (ox _ t0.1 (nm t0.2 (by decide))) 0).trans r00
  have g5 : rf O2 mo 5 = rf O mo 5 := by unfold rf; rw [hO3 5 (by decide) (by decide)]; exact rm 5
  have g16 : rf O2 mo 16 = rf O mo 16 := by unfold rf; rw [hO3 16 (by decide) (by decide)]; exact rm 16
  have hS2 : SPc O2 x := by
    have u1 := rf_ok V1.1 hx (show sp 8 1 = some 3 from rfl)
    have u2 := rf_ok V1.1 hx (show sp 8 2 = some 3 from rfl)
    have e1 : ∀ f, rf O2 x f = rf O1' x f := fun f => rf_row (ox x hx.1 (fun z => hne z.symm)) f
    have e2 : ∀ f, rf O2 (rf O1' x 1) f = rf O1' (rf O1' x 1) f := fun f => rf_row (ox _ u1.1 (nm u1.2 (by decide))) f
    have e3 : ∀ f, rf O2 (rf O1' x 2) f = rf O1' (rf O1' x 2) f := fun f => rf_row (ox _ u2.1 (nm u2.2 (by decide))) f
    unfold SPc
    rw [e1, e1, e2, e2, e3, e3]; exact hS1
  have g27 := hV2.2 _ (up t16).1 27
  rw [(up t16).2] at g27
  have g27 : 0 ≤ (I2 (rf O mo 16) 27).toInt ∧ (I2 (rf O mo 16) 27).toInt ≤ 240 := g27
  have hR2 : RS P2 K2 I2 O2 mo := by
    refine ⟨?_, ?_⟩
    · rcases hM2 with z | ⟨M, w1, w2, w3⟩
      · exact Or.inl z
      · have e : rf O2 mo 3 = M := by unfold rf; rw [w1]; rfl
        exact Or.inr ⟨⟨by rw [e]; exact w1, by rw [e]; exact w2⟩, by rw [e]; exact w3⟩
    · rw [g16]
      rw [km, k16] at hs2
      have := hR.2
      omega
  have hh : HT3 I2 O2 x mo := by
    unfold HT3
    rw [g0, g00, g5, kc _ t0.1 (by rw [t0.2]; rfl), kc _ tt.1 (by rw [tt.2]; rfl)]
    rcases hq2 with ⟨c1, c2⟩ | ⟨c1, c2, c3⟩
    · rcases q1 with ⟨d1, d2, d3, _⟩ | ⟨d1, d2, _⟩
      · have w5 : I2 (rf O mo 5) = I (rf O mo 5) := by rw [(hb2 c1).2.1 _ t5.1 (nm t5.2 (by decide)), k5]
        rw [c2, d3 _ (nlx t0.2 (by decide)), d3 _ (nlx tt.2 (by decide)), w5]
        exact hH
      · omega
    · rcases q1 with ⟨d1, d2, d3, _⟩ | ⟨d1, d2, d3, _⟩
      · omega
      · rw [c3, d3]
        exact ⟨rfl, by decide, fun j hj2 => by omega⟩
  have t9 := rf_ok hV.1 hx (show sp 8 9 = some 7 from rfl)
  have t33 := rf_ok hV.1 hm (show sp 10 33 = some 39 from rfl)
  have o1 := rf_o hV.1 hx (show sp 8 1 = some 3 from rfl)
  have o2 := rf_o hV.1 hx (show sp 8 2 = some 3 from rfl)
  have hQ1 : OW Qo P' O1' x mo := by
    rcases hO1 with rfl | rfl
    · exact hQo
    · exact hQo.sw o1 o2
  have hQ2 : OW Qo P2 O2 x mo := hQ1.up (fun c hc => (hP c hc).1) (fun c hc => ox c (hQ1.2.2.1 c hc) (fun z => hQo.2.1 (by rw [← z]; exact hc)))
  have n12 : rf O x 1 ≠ rf O x 2 := fun z => by
    rw [z] at o1
    exact absurd (hQo.2.2.2.2 x 1 x 2 _ hQo.1 hQo.1 o1 o2).2 (by decide)
  have r9 : rf O1' x 9 = rf O x 9 := by
    rcases hO1 with rfl | rfl
    · rfl
    · unfold rf; rw [sw12_o (by decide) (by decide)]
  have g9 : rf O2 x 9 = rf O x 9 := (rf_row (ox x hx.1 (fun z => hne z.symm)) 9).trans r9
  have g33 : rf O2 mo 33 = rf O mo 33 := by unfold rf; rw [hO3 33 (by decide) (by decide)]; exact rm 33
  have g1 : rf O2 x 1 = rf O1' x 1 := rf_row (ox x hx.1 (fun z => hne z.symm)) 1
  have u1 := rf_ok V1.1 hx (show sp 8 1 = some 3 from rfl)
  have kx : I2 x = I1' x := kc x hx.1 (by rw [hx.2]; rfl)
  have kt : I2 (rf O x 9) = I1' (rf O x 9) := kc _ t9.1 (by rw [t9.2]; rfl)
  have ku : I2 (rf O1' x 1) = I1' (rf O1' x 1) := kc _ u1.1 (by rw [u1.2]; rfl)
  have oM : O1' mo 3 = O mo 3 := by rw [oB mo hne]
  have mold : ¬ O mo 3 = none → rf O mo 3 ∈ P' ∧ rf O mo 3 ≠ mo ∧ ¬ rf O mo 3 = x ∧ I1' (rf O mo 3) = I (rf O mo 3) := fun q => by
    rcases hR.1 with w | ⟨w, _⟩
    · exact absurd w q
    · exact ⟨w.2.1, nm w.2.2 (by decide), nlx w.2.2 (by decide), by funext k; exact (F1 _ (by rw [w.2.2]; rfl)).1 k⟩
  have krw : I1' (rf O mo 33) = I (rf O mo 33) := by funext k; exact (F1 _ (by rw [t33.2]; rfl)).1 k
  have hAl : AL I2 O2 x mo := by
    unfold AL
    rw [g9, g33, g1, kx, kt, ku]
    rcases q1 with ⟨c1, c2, c3, c4, c5, c6, c7⟩ | ⟨c1, c2, c3, c4, c5⟩
    · obtain ⟨b1, b2, b3, b4, b5, b6⟩ := hb2 (by omega)
      have m3 : O2 mo 3 = O mo 3 := b5.trans oM
      have r3 : rf O2 mo 3 = rf O mo 3 := by unfold rf; rw [m3]
      rw [m3, r3, c4, c6, b3, c3 _ (nlx t1.2 (by decide)), c3 _ (nlx t9.2 (by decide)), b2 _ t33.1 (nm t33.2 (by decide)), krw]
      refine ⟨a1, Or.inr ⟨by rw [c5]; decide, b4⟩, ?_, a4, a5⟩
      rcases a3 with w | ⟨w1, w2⟩
      · exact Or.inl w
      · obtain ⟨e1, e2, e3, e4⟩ := mold w1
        exact Or.inr ⟨w1, by rw [b2 _ e1 e2, e4]; exact w2⟩
    · obtain ⟨g1', gE, gK⟩ := hg2 c1 (by omega)
      cases hsp : spMill (fun j => (I (rf O mo 5) j).toInt) (sv xs i 1).toInt.toNat with
      | error w =>
        obtain ⟨d1, d2, d3, d4, d13, d5⟩ := c5.1 w hsp
        obtain ⟨e1, e2, e3, e18, e4⟩ := gE w hsp
        have m3 : O2 mo 3 = O mo 3 := e3.trans oM
        have r3 : rf O2 mo 3 = rf O mo 3 := by unfold rf; rw [m3]
        have la : ∀ j, j < 5 → 11 ≤ K' (rf O (rf O x 2) (10 + j)) := fun j hj2 => by
          have : j = 0 ∨ j = 1 ∨ j = 2 ∨ j = 3 ∨ j = 4 := by omega
          rcases this with rfl | rfl | rfl | rfl | rfl
          · rw [(rf_ok hV.1 t2 (show sp 3 (10 + 0) = some 13 from rfl)).2]; decide
          · rw [(rf_ok hV.1 t2 (show sp 3 (10 + 1) = some 11 from rfl)).2]; decide
          · rw [(rf_ok hV.1 t2 (show sp 3 (10 + 2) = some 11 from rfl)).2]; decide
          · rw [(rf_ok hV.1 t2 (show sp 3 (10 + 3) = some 12 from rfl)).2]; decide
          · rw [(rf_ok hV.1 t2 (show sp 3 (10 + 4) = some 14 from rfl)).2]; decide
        have lb2 : ∀ {c d κ κ' : Nat}, K' c = κ → K' d = κ' → κ ≠ κ' → c ≠ d := fun h1 h2 h3 z => h3 (by rw [← h1, ← h2, z])
        have kcur : I1' (rf O x 1) = I (rf O x 1) := d5 _ (nlx t1.2 (by decide)) (lb2 t1.2 t0.2 (by decide)) n12 (fun j hj2 z => by have := la j hj2; rw [← z, t1.2] at this; omega)
        have ktr : I1' (rf O x 9) = I (rf O x 9) := d5 _ (nlx t9.2 (by decide)) (lb2 t9.2 t0.2 (by decide)) (lb2 t9.2 t2.2 (by decide)) (fun j hj2 z => by have := la j hj2; rw [← z, t9.2] at this; omega)
        rw [m3, r3, d1, kcur, ktr, e4 _ t33.1 (nm t33.2 (by decide)), krw]
        refine ⟨d3.trans e1.symm, Or.inl ⟨d2, d4.trans e2.symm⟩, ?_, a4, a5⟩
        rcases a3 with w' | ⟨w1, w2⟩
        · exact Or.inl w'
        · obtain ⟨f1, f2, f3, f4⟩ := mold w1
          exact Or.inr ⟨w1, by rw [e4 _ f1 f2, f4]; exact w2⟩
      | ok q =>
        obtain ⟨d1, d2, d3, d4, d5, d6, d7, d8, d9, d10, dN⟩ := c5.2 q hsp
        obtain ⟨e1, e2, e3, e4, F, e5, e6, e7, e8, e18, ez⟩ := gK q hsp
        rw [rm] at e3 e4
        have r3 : rf O2 mo 3 = F := by unfold rf; rw [e5]; rfl
        have ok2 := (mill_ok hsp).2.2.2.1
        have x8 := e8.1.2.2.2.2.2.2.2.2.1
        have x9 := e8.1.2.2.2.2.2.2.2.2.2.1
        rw [r3, d1, sw12_1]
        refine ⟨d3.trans e1.symm, Or.inr ⟨by rw [d2]; decide, e2⟩, Or.inr ⟨(by rw [e5]; exact fun z => (by cases z)), by rw [d4 7 (by decide), x8], by rw [d4 8 (by decide), x9], by rw [x8]; omega⟩, by rw [d5, e3], by rw [d6, e4]⟩
  have wsp := WQ.fld hV.1 hx hQo (show sp 8 2 = some 3 from rfl) (by decide)
  have tbx : ∀ b, TB O x b → ¬ b = x := fun b hb z => (hb.own2 hV.1 hx).1 (by rw [z]; exact hx.2)
  have tbP : ∀ b, TB O x b → b ∈ P' ∧ b ≠ mo := fun b hb => ⟨(hb.own2 hV.1 hx).2.1, fun z => by have l := hb.cls hV.1 hx; rw [z, hm.2] at l; omega⟩
  have kTB : ∀ b, TB O x b → I2 b = I1' b := fun b hb => kc b (tbP b hb).1 ((by decide : ∀ κ, κ < 29 → κ ≠ 9 → κ ≠ 10 → frR κ = true) _ (by have l := hb.cls hV.1 hx; omega) (by have l := hb.cls hV.1 hx; omega) (by have l := hb.cls hV.1 hx; omega))
  have k13 : I2 x 13 = I1' x 13 := by rw [kx]
  have t19 := rf_ok hV.1 hm (show sp 10 19 = some 32 from rfl)
  have k16' : I1' (rf O mo 16) = I (rf O mo 16) := k16
  have k19 : I1' (rf O mo 19) = I (rf O mo 19) := by funext k; exact (F1 _ (by rw [t19.2]; rfl)).1 k
  have g19 : rf O2 mo 19 = rf O mo 19 := by unfold rf; rw [hO3 19 (by decide) (by decide)]; exact rm 19
  have mcells : ¬ O mo 3 = none → (rf O mo 3 ∈ P' ∧ rf O mo 3 ≠ mo ∧ I1' (rf O mo 3) = I (rf O mo 3)) ∧ ∀ j, j < 5 → rf O (rf O mo 3) (11 + j) ∈ P' ∧ rf O (rf O mo 3) (11 + j) ≠ mo ∧ I1' (rf O (rf O mo 3) (11 + j)) = I (rf O (rf O mo 3) (11 + j)) := fun q => by
    obtain ⟨w1, w2, w3, w4⟩ := mold q
    refine ⟨⟨w1, w2, w4⟩, fun j hj2 => ?_⟩
    rcases hR.1 with w | ⟨w, _⟩
    · exact absurd w q
    · have tk : ∃ κ, sp 9 (11 + j) = some κ ∧ 42 ≤ κ ∧ κ ≤ 45 := by
        have : j = 0 ∨ j = 1 ∨ j = 2 ∨ j = 3 ∨ j = 4 := by omega
        rcases this with rfl | rfl | rfl | rfl | rfl
        · exact ⟨42, rfl, by decide, by decide⟩
        · exact ⟨43, rfl, by decide, by decide⟩
        · exact ⟨43, rfl, by decide, by decide⟩
        · exact ⟨44, rfl, by decide, by decide⟩
        · exact ⟨45, rfl, by decide, by decide⟩
      obtain ⟨κ, s1, s2, s3⟩ := tk
      have u := rf_ok hV.1 w.2 s1
      refine ⟨u.1, nm u.2 (by omega), ?_⟩
      have fc : frC κ = true := by
        have : κ = 42 ∨ κ = 43 ∨ κ = 44 ∨ κ = 45 := by omega
        rcases this with rfl | rfl | rfl | rfl <;> rfl
      funext k; exact (F1 _ (by rw [u.2]; exact fc)).1 k
  have old : (O1' = O) → (O2 mo 3 = O mo 3) → (∀ b, TB O x b → I1' b = I b) → I1' x 13 = I x 13 → I2 mo 18 = I mo 18 → (∀ b, b ∈ P' → b ≠ mo → I2 b = I1' b) → BR I2 O2 x mo := fun eO e3 eT e13 e18 eR => by
    have b1 : BR I2 O x mo := hj.1.2.keep (fun b hb => by rw [kTB b hb, eT b hb]) (by rw [k13, e13]) (by rw [eR _ t16.1 (nm t16.2 (by decide)), k16']) (by rw [eR _ t19.1 (nm t19.2 (by decide)), k19]) e18 (fun q => by
      obtain ⟨w1, w2⟩ := mcells q
      exact ⟨by rw [eR _ w1.1 w1.2.1, w1.2.2], fun j hj2 => by rw [eR _ (w2 j hj2).1 (w2 j hj2).2.1, (w2 j hj2).2.2]⟩)
    refine b1.o (fun f _ => ?_) (fun b hb => ?_) (fun f hf => ?_) (fun q => ?_)
    · rw [ox x hx.1 (fun z => hne z.symm), eO]
    · rw [ox b (tbP b hb).1 (tbP b hb).2, eO]
    · by_cases f3 : f = 3
      · rw [f3]; exact e3
      · rw [hO3 f f3 hf, eO]
    · obtain ⟨w1, w2⟩ := mcells q
      rw [ox _ w1.1 w1.2.1, eO]
  have hBR : BR I2 O2 x mo := by
    rcases q1 with ⟨c1, c2, c3, c4, c5, c6, c7⟩ | ⟨c1, c2, c3, c4, c5⟩
    · obtain ⟨b1, b2, b3, b4, b5, b6⟩ := hb2 (by omega)
      exact old c4 (b5.trans oM) (fun b hb => c3 b (tbx b hb)) c7 (b6 18 (Or.inl rfl)) b2
    · obtain ⟨g1', gE, gK⟩ := hg2 c1 (by omega)
      cases hsp : spMill (fun j => (I (rf O mo 5) j).toInt) (sv xs i 1).toInt.toNat with
      | error w =>
        obtain ⟨d1, d2, d3, d4, d13, d5⟩ := c5.1 w hsp
        obtain ⟨e1, e2, e3, e18, e4⟩ := gE w hsp
        refine old d1 (e3.trans oM) (fun b hb => ?_) d13 (e18 18 (Or.inl rfl)) e4
        have l := hb.cls hV.1 hx
        refine d5 b (tbx b hb) (fun z => by rw [z, t0.2] at l; omega) (fun z => wsp.2 (by rw [← z]; exact hb)) (fun j hj2 z => ?_)
        have : j = 0 ∨ j = 1 ∨ j = 2 ∨ j = 3 ∨ j = 4 := by omega
        have cl := WQ.cl hV.1 hx hQo
        have n8 : ¬ K' (rf O x 2) = 8 := by rw [t2.2]; decide
        rcases this with rfl | rfl | rfl | rfl | rfl
        · exact (cl _ _ _ wsp n8 (rf_o hV.1 t2 (show sp 3 (10 + 0) = some 13 from rfl))).2 (by rw [← z]; exact hb)
        · exact (cl _ _ _ wsp n8 (rf_o hV.1 t2 (show sp 3 (10 + 1) = some 11 from rfl))).2 (by rw [← z]; exact hb)
        · exact (cl _ _ _ wsp n8 (rf_o hV.1 t2 (show sp 3 (10 + 2) = some 11 from rfl))).2 (by rw [← z]; exact hb)
        · exact (cl _ _ _ wsp n8 (rf_o hV.1 t2 (show sp 3 (10 + 3) = some 12 from rfl))).2 (by rw [← z]; exact hb)
        · exact (cl _ _ _ wsp n8 (rf_o hV.1 t2 (show sp 3 (10 + 4) = some 14 from rfl))).2 (by rw [← z]; exact hb)
      | ok q =>
        obtain ⟨d1, d2, d3, d4, d5, d6, d7, d8, d9, d10, dN⟩ := c5.2 q hsp
        obtain ⟨e1, e2, e3, e4, F, e5, e6, e7, e8, e18, ez⟩ := gK q hsp
        (try rw [rm] at ez)
        have mbd := mill_bd hsp
        have ok2 := mill_ok hsp
        subst d1
        have hO2' : OW Qo P' (sw12 O x) x mo := hQ1
        have hT2 := V1.1
        have tb2 : ∀ b, TB (sw12 O x) x b → I2 b = I1' b ∧ O2 b = sw12 O x b := fun b hb => by
          have l := hb.cls hT2 hx
          have p := (hb.own2 hT2 hx).2.1
          have n : b ≠ mo := fun z => by rw [z, hm.2] at l; omega
          exact ⟨kc b p ((by decide : ∀ κ, κ < 29 → κ ≠ 9 → κ ≠ 10 → frR κ = true) _ (by omega) (by omega) (by omega)), ox b p n⟩
        have r3 : rf (sw12 O x) x 3 = rf O x 3 := by unfold rf; rw [sw12_o (by decide) (by decide)]
        have r4 : rf (sw12 O x) x 4 = rf O x 4 := by unfold rf; rw [sw12_o (by decide) (by decide)]
        have r12' : rf (sw12 O x) x 12 = rf O x 12 := by unfold rf; rw [sw12_o (by decide) (by decide)]
        have xO : O2 x = sw12 O x x := ox x hx.1 (fun z => hne z.symm)
        have q3 : rf O2 x 3 = rf O x 3 := (rf_row xO 3).trans r3
        have q4 : rf O2 x 4 = rf O x 4 := (rf_row xO 4).trans r4
        have q1' : rf O2 x 1 = rf O x 2 := (rf_row xO 1).trans sw12_1
        have td : TB (sw12 O x) x (rf O x 3) := Or.inr (Or.inr (Or.inl r3.symm))
        have tl : TB (sw12 O x) x (rf (sw12 O x) (rf O x 3) 0) := Or.inr (Or.inr (Or.inr (Or.inl (by rw [r3]))))
        have t4'' : TB (sw12 O x) x (rf O x 4) := Or.inr (Or.inr (Or.inr (Or.inr (Or.inr (Or.inr (Or.inl r4.symm))))))
        have tm : TB (sw12 O x) x (rf O x 2) := Or.inl sw12_1.symm
        have od : ∀ f, rf O2 (rf O x 3) f = rf (sw12 O x) (rf O x 3) f := fun f => rf_row (tb2 _ td).2 f
        have ol : ∀ f, rf O2 (rf (sw12 O x) (rf O x 3) 0) f = rf (sw12 O x) (rf (sw12 O x) (rf O x 3) 0) f := fun f => rf_row (tb2 _ tl).2 f
        have om : ∀ f, rf O2 (rf O x 2) f = rf (sw12 O x) (rf O x 2) f := fun f => rf_row (tb2 _ tm).2 f
        have fr3 : rf O2 mo 3 = F := by unfold rf; rw [e5]; rfl
        refine ⟨q.2, (fun k => if k = 34 ∨ k = 35 then 1 else 0, fun _ => 0, 0, 0), ⟨?_, by rw [k13]; exact d9, fun j hj2 => absurd hj2 (Nat.not_lt_zero _)⟩, ⟨fun k hk => by rw [g16]; rw [← rm 16]; exact ez.1 k hk, e18, fun j hj2 => absurd hj2 (Nat.not_lt_zero _)⟩, ?_, Or.inl rfl, fun _ => ⟨mbd, ⟨fun k hk => by rw [q1', (tb2 _ tm).1]; exact d4 k hk, fun j i2 hj2 hi2 => ?_⟩, ?_, ⟨?_, Int.le_refl _, Int.le_refl _, (show (0 : Int) ≤ 1000 from by decide)⟩, ?_, rfl, (show (0 : Int) ≤ 240 from by decide)⟩⟩
        · have w : DRs I2 (sw12 O x) (rf O x 3) (fun _ => 0) := d7.fr (fun b hb => (tb2 b (by have h3 := TB.wd (O := sw12 O x) (x := x) (b := b) (by rw [r3]; exact hb); exact h3)).1)
          have w2 : DRs I2 O2 (rf O2 x 3) (fun _ => 0) := by unfold DRs; rw [q3, od, od, ol, ol, ol]; exact w
          exact w2.cg (fun k hk => if_neg (by omega))
        · rw [q4, (tb2 _ t4'').1]; exact d8
        · rw [q1', om, (tb2 _ (Or.inr (Or.inl ⟨j, hj2, by rw [sw12_1]⟩))).1]; exact d10.2 j i2 hj2 hi2
        · rw [fr3]
          obtain ⟨⟨x0, x1, x2, x3, x4, x5, x6, x7, x8, x9, _⟩, xa, _⟩ := e8
          have nzp : ∀ v : Int, 1 ≤ v → nz v = v := fun v hv => by unfold nz; rw [if_neg (by omega)]
          refine ⟨⟨by rw [x0, nzp _ (by have := mbd.1; omega)], x1, x2, x3, by rw [x4, nzp _ (by have := mbd.2.2.2.1; omega)], by rw [x5, nzp _ (by have := mbd.2.2.2.2.1; omega)], x6, x7, x8, x9⟩, xa⟩
        · exact SI0
        · exact ⟨⟨by decide, by decide⟩, ⟨by decide, by decide⟩, (show (0 : Int) ≤ 0 ∧ 0 < q.2.1 8 from ⟨Int.le_refl _, by have := mbd.2.2.2.2.2.2.2.1; omega⟩)⟩
  have oldC : ∀ (p : List Nat) (κ : Nat), pLb p = some κ → p ≠ [] → rt p ≠ 0 → rt p ≠ 2 → (∀ b, b ∈ P' → b ≠ mo → I2 b = I1' b) → (∀ b, ¬ b = x → ¬ b = rf O x 0 → ¬ b = rf O x 2 → (∀ j, j < 5 → ¬ b = rf O (rf O x 2) (10 + j)) → I1' b = I b) → I2 (pAt O x p) = I (pAt O x p) := fun p κ h1 h2 h3 h4 eR eC => by
    have ok := pAt_ok hV.1 hx p κ h1
    have n8 : ¬ pAt O x p = x := fun z => h2 (pAt_inj hV.1 hx hQo p [] κ 8 h1 rfl z)
    have nm2 : ¬ pAt O x p = mo := fun z => hQo.2.1 (by rw [← z]; exact pAt_q hV.1 hx hQo p κ h1)
    rw [eR _ ok.1 nm2]
    refine eC _ n8 (fun z => h3 ?_) (fun z => h4 ?_) (fun j hj2 z => h4 ?_)
    · rw [pAt_inj hV.1 hx hQo p [0] κ 5 h1 rfl z]; rfl
    · rw [pAt_inj hV.1 hx hQo p [2] κ 3 h1 rfl z]; rfl
    · have : j = 0 ∨ j = 1 ∨ j = 2 ∨ j = 3 ∨ j = 4 := by omega
      rcases this with rfl | rfl | rfl | rfl | rfl
      · rw [pAt_inj hV.1 hx hQo p [10, 2] κ 13 h1 rfl z]; rfl
      · rw [pAt_inj hV.1 hx hQo p [11, 2] κ 11 h1 rfl z]; rfl
      · rw [pAt_inj hV.1 hx hQo p [12, 2] κ 11 h1 rfl z]; rfl
      · rw [pAt_inj hV.1 hx hQo p [13, 2] κ 12 h1 rfl z]; rfl
      · rw [pAt_inj hV.1 hx hQo p [14, 2] κ 14 h1 rfl z]; rfl
  have oldM : ∀ f κ, sp 10 f = some κ → frC κ = true → κ ≠ 10 → (∀ b, b ∈ P' → b ≠ mo → I2 b = I1' b) → I2 (rf O mo f) = I (rf O mo f) := fun f κ h1 h2 h3 eR => by
    have u := rf_ok hV.1 hm h1
    rw [eR _ u.1 (nm u.2 h3)]
    funext k; exact (F1 _ (by rw [u.2]; exact h2)).1 k
  have oP : O1' = O → ∀ (p : List Nat) (κ : Nat), pLb p = some κ → pAt O2 x p = pAt O x p := fun eO => by
    intro p
    induction p with
    | nil => intro κ _; rfl
    | cons f l ih =>
      intro κ h
      obtain ⟨κ0, h1, h2, h3⟩ := pLb_i h
      have ok := pAt_ok hV.1 hx l κ0 h1
      have e := ih κ0 h1
      show rf O2 (pAt O2 x l) f = rf O (pAt O x l) f
      rw [e]
      exact rf_row ((ox _ ok.1 (fun z => hQo.2.1 (by rw [← z]; exact pAt_q hV.1 hx hQo l κ0 h1))).trans (by rw [eO])) f
  have oM2 : O1' = O → ∀ f, f ≠ 3 → f ≠ 4 → rf O2 mo f = rf O mo f := fun eO f h3 h4 => by
    unfold rf; rw [hO3 f h3 h4, eO]
  have oldX0 : O1' = O → O2 mo 3 = O mo 3 → (∀ b, b ∈ P' → b ≠ mo → I2 b = I1' b) → (∀ b, ¬ b = x → ¬ b = rf O x 0 → ¬ b = rf O x 2 → (∀ j, j < 5 → ¬ b = rf O (rf O x 2) (10 + j)) → I1' b = I b) → I2 mo 23 = I mo 23 → CRS I2 O2 x mo := fun eO e3 eR eC e23 => by
    have h1 : CRS I2 O x mo := hj.2.keep (SE.mk' (oldC [5] 19 rfl (by decide) (by decide) (by decide) eR eC) (oldC [1] 3 rfl (by decide) (by decide) (by decide) eR eC) (oldC [10, 1] 13 rfl (by decide) (by decide) (by decide) eR eC) (oldC [11, 1] 11 rfl (by decide) (by decide) (by decide) eR eC) (oldC [12, 1] 11 rfl (by decide) (by decide) (by decide) eR eC) (oldC [13, 1] 12 rfl (by decide) (by decide) (by decide) eR eC) (oldC [14, 1] 14 rfl (by decide) (by decide) (by decide) eR eC) (oldC [0, 6] 20 rfl (by decide) (by decide) (by decide) eR eC) (oldC [1, 6] 21 rfl (by decide) (by decide) (by decide) eR eC) (oldC [7] 6 rfl (by decide) (by decide) (by decide) eR eC) (oldC [0, 7] 22 rfl (by decide) (by decide) (by decide) eR eC) (oldC [1, 7] 22 rfl (by decide) (by decide) (by decide) eR eC) (oldC [2, 7] 22 rfl (by decide) (by decide) (by decide) eR eC) (oldC [3, 7] 22 rfl (by decide) (by decide) (by decide) eR eC) (oldC [5, 7] 23 rfl (by decide) (by decide) (by decide) eR eC)) ⟨(oldM 20 33 rfl rfl (by decide) eR), (oldM 21 33 rfl rfl (by decide) eR), (oldM 22 34 rfl rfl (by decide) eR), (oldM 24 35 rfl rfl (by decide) eR), (oldM 25 36 rfl rfl (by decide) eR), (oldM 26 35 rfl rfl (by decide) eR), (oldM 27 35 rfl rfl (by decide) eR), e23⟩
    exact h1.o (fun l hl => by obtain ⟨κ, hκ⟩ := sLab l hl; exact oP eO l κ hκ) (oM2 eO) e3
  have hCm0 : CRS I2 O2 x mo := by
    rcases q1 with ⟨c1, c2, c3, c4, c5⟩ | ⟨c1, c2, c3, c4, c5⟩
    · obtain ⟨b1, b2, b3, b4, b5, b6⟩ := hb2 (by omega)
      exact oldX0 c4 (b5.trans oM) b2 (fun b hb _ _ _ => c3 b hb) (b6 23 (Or.inr (Or.inl rfl)))
    · obtain ⟨g1', gE, gK⟩ := hg2 c1 (by omega)
      cases hsp : spMill (fun j => (I (rf O mo 5) j).toInt) (sv xs i 1).toInt.toNat with
      | error w =>
        obtain ⟨d1, d2, d3, d4, d13, d5⟩ := c5.1 w hsp
        obtain ⟨e1, e2, e3, e18, e4⟩ := gE w hsp
        exact oldX0 d1 (e3.trans oM) e4 d5 (e18 23 (Or.inr (Or.inl rfl)))
      | ok q =>
        obtain ⟨d1, d2, d3, d4, d5, d6, d7, d8, d9, d10, dN⟩ := c5.2 q hsp
        obtain ⟨e1, e2, e3, e4, F, e5, e6, e7, e8, e18, ez⟩ := gK q hsp
        have mbd := mill_bd hsp
        have rmo : ∀ f, f ≠ 3 → f ≠ 4 → rf O2 mo f = rf O mo f := fun f h3 h4 => by unfold rf; rw [hO3 f h3 h4]; exact rm f
        have ri2 : RI O2 mo := hj.2.1.o rmo
        have rx : ∀ f, f ≠ 1 → f ≠ 2 → rf O2 x f = rf O x f := fun f h1 h2 => (rf_row (ox x hx.1 (fun z => hne z.symm)) f).trans (by rw [d1]; unfold rf; rw [sw12_o h1 h2])
        have rxx : ∀ b κ, b ∈ P' → K' b = κ → κ ≠ 8 → κ ≠ 10 → ∀ f, rf O2 b f = rf O b f := fun b κ h1 h2 h8 h10 f => (rf_row (ox b h1 (nm h2 h10)) f).trans (by rw [d1]; show (sw12 O x b f).getD 0 = (O b f).getD 0; rw [sw12_r (nlx h2 h8)])
        have kcl : ∀ b κ, b ∈ P' → K' b = κ → frR κ = true → I2 b = I1' b := fun b κ h1 h2 h3 => kc b h1 (by rw [h2]; exact h3)
        have u5 := rf_ok hV.1 hx (show sp 8 5 = some 19 from rfl)
        have u6 := rf_ok hV.1 hx (show sp 8 6 = some 1 from rfl)
        have u61 := rf_ok hV.1 u6 (show sp 1 1 = some 21 from rfl)
        have u7 := rf_ok hV.1 hx (show sp 8 7 = some 6 from rfl)
        have cc2 : ∀ h, h < 12 → (I2 (rf O2 x 5) (3 * h)).toInt = 1 ∧ (I2 (rf O2 x 5) (3 * h + 1)).toInt = 1 ∧ (I2 (rf O2 x 5) (3 * h + 2)).toInt = 0 := by
          rw [rx 5 (by decide) (by decide), kcl _ 19 u5.1 u5.2 rfl]; exact dN.1
        have pp2 : ∀ h, h < 12 → (I2 (rf O2 mo 20) h).toInt = 1 ∧ (I2 (rf O2 mo 21) h).toInt = 1 ∧ (I2 (rf O2 mo 22) h).toInt = 0 := by
          rw [rmo 20 (by decide) (by decide), rmo 21 (by decide) (by decide), rmo 22 (by decide) (by decide), ← rm 20, ← rm 21, ← rm 22]; exact ez.2.2.2
        have oo2 : 0 < (I2 (rf O2 x 1) 8).toInt := by
          have r1 : rf O1' x 1 = rf O x 2 := by rw [d1]; exact sw12_1
          have q8 := mbd.2.2.2.2.2.2.2.1
          rw [g1, ku, r1, d4 8 (by decide)]; omega
        have kn2 : ∀ st, st < 100 → (I2 (rf O2 (rf O2 x 6) 1) st).toInt = 0 := by
          rw [rx 6 (by decide) (by decide), rxx _ 1 u6.1 u6.2 (by decide) (by decide), kcl _ 21 u61.1 u61.2 rfl]; exact dN.2.1
        exact CRS.anew ri2 cc2 pp2 oo2 kn2 (by rw [rx 7 (by decide) (by decide), kcl _ 6 u7.1 u7.2 rfl]; exact dN.2.2.1) (by rw [rx 7 (by decide) (by decide), kcl _ 6 u7.1 u7.2 rfl]; exact dN.2.2.2.1) ez.2.1
  exact g_widen (nc' := nc + 8) (ns' := ns + 76) (show nc + 0 + 8 ≤ nc + 8 by omega) (show ns + 0 + 76 ≤ ns + 76 by omega) (kk _ _ _ _ _ ⟨⟨⟨⟨hV2, up hx, up hm, up ho, hR2, hS2, hh⟩, ⟨Qo, hQ2⟩, hAl⟩, hBR⟩, hCm0⟩)
