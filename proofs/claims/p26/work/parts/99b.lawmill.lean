theorem rf_row {O O' : WO} {c : Nat} (h : O' c = O c) (f : Nat) : rf O' c f = rf O c f := by unfold rf; rw [h]
theorem sep_of {P : List Nat} {K : Nat → Nat} {O : WO} (hT : TR P K O) {r m : Nat} (hr : r ∈ P ∧ K r = 5) (hm : m ∈ P ∧ K m = 3) (hd : rf O m 11 ≠ rf O m 12) : Sep O r m := by
  have nlb : ∀ {c d κ κ' : Nat}, K c = κ → K d = κ' → κ ≠ κ' → c ≠ d := fun h1 h2 h3 z => h3 (by rw [← h1, ← h2, z])
  have tt := rf_ok hT hr (show sp 5 0 = some 15 from rfl)
  have u8 := rf_ok hT hr (show sp 5 8 = some 16 from rfl)
  have u9 := rf_ok hT hr (show sp 5 9 = some 17 from rfl)
  have q0 := (rf_ok hT hm (show sp 3 10 = some 13 from rfl)).2
  have q1 := (rf_ok hT hm (show sp 3 11 = some 11 from rfl)).2
  have q2 := (rf_ok hT hm (show sp 3 12 = some 11 from rfl)).2
  have q3 := (rf_ok hT hm (show sp 3 13 = some 12 from rfl)).2
  have q4 := (rf_ok hT hm (show sp 3 14 = some 14 from rfl)).2
  refine ⟨nlb hm.2 hr.2 (by decide), nlb tt.2 hr.2 (by decide), nlb tt.2 hm.2 (by decide), nlb u8.2 u9.2 (by decide), fun j hj => ?_, fun i j hi hj e => ?_⟩
  · have : j = 0 ∨ j = 1 ∨ j = 2 ∨ j = 3 ∨ j = 4 := by omega
    rcases this with rfl | rfl | rfl | rfl | rfl
    · exact ⟨nlb q0 hr.2 (by decide), nlb q0 hm.2 (by decide), nlb q0 tt.2 (by decide)⟩
    · exact ⟨nlb q1 hr.2 (by decide), nlb q1 hm.2 (by decide), nlb q1 tt.2 (by decide)⟩
    · exact ⟨nlb q2 hr.2 (by decide), nlb q2 hm.2 (by decide), nlb q2 tt.2 (by decide)⟩
    · exact ⟨nlb q3 hr.2 (by decide), nlb q3 hm.2 (by decide), nlb q3 tt.2 (by decide)⟩
    · exact ⟨nlb q4 hr.2 (by decide), nlb q4 hm.2 (by decide), nlb q4 tt.2 (by decide)⟩
  · have hi5 : i = 0 ∨ i = 1 ∨ i = 2 ∨ i = 3 ∨ i = 4 := by omega
    have hj5 : j = 0 ∨ j = 1 ∨ j = 2 ∨ j = 3 ∨ j = 4 := by omega
    rcases hi5 with rfl | rfl | rfl | rfl | rfl <;> rcases hj5 with rfl | rfl | rfl | rfl | rfl <;> first | rfl | exact absurd e hd | exact absurd e.symm hd | exact absurd e (nlb q0 q1 (by decide)) | exact absurd e (nlb q0 q2 (by decide)) | exact absurd e (nlb q0 q3 (by decide)) | exact absurd e (nlb q0 q4 (by decide)) | exact absurd e (nlb q1 q0 (by decide)) | exact absurd e (nlb q1 q3 (by decide)) | exact absurd e (nlb q1 q4 (by decide)) | exact absurd e (nlb q2 q0 (by decide)) | exact absurd e (nlb q2 q3 (by decide)) | exact absurd e (nlb q2 q4 (by decide)) | exact absurd e (nlb q3 q0 (by decide)) | exact absurd e (nlb q3 q1 (by decide)) | exact absurd e (nlb q3 q2 (by decide)) | exact absurd e (nlb q3 q4 (by decide)) | exact absurd e (nlb q4 q0 (by decide)) | exact absurd e (nlb q4 q1 (by decide)) | exact absurd e (nlb q4 q2 (by decide)) | exact absurd e (nlb q4 q3 (by decide))
set_option maxHeartbeats 4000000 in
theorem lwc_1 {X : CTX} {P : List Nat} {K : Nat → Nat} {I : WI} {O : WO} {J : WJ} {nc ns b x mo out Ln : Nat} {i : Int32} {xs : Nat → Int32} (C : Cx X bLw 7 "RoarMillLaw" room_1) (hLX : LX X) (hs : SCR X b Ln xs) (hL : Ln ≤ 3584) (hi : 0 ≤ i.toInt ∧ i.toInt + 7 ≤ (Ln : Int)) (hj : L4 P K I O x mo out) (hn : nc + 8 ≤ 601024 ∧ ns + 76 ≤ 7293034) (kk : KK X b x mo out i (nc + 8) (ns + 76)) : GG X 7 P K I O J nc ns 245 (LL b x mo out i) [] := by
  obtain ⟨hV, hx, hm, ho, hR, hS, hH⟩ := hj.1
  obtain ⟨Qo, hQo⟩ := hj.2.1
  obtain ⟨a1, a2, a3, a4, a5⟩ := hj.2.2
  have hne : mo ≠ x := fun q => by have := hm.2; rw [q, hx.2] at this; exact absurd this (by decide)
  have t0 := rf_ok hV.1 hx (show sp 8 0 = some 5 from rfl)
  have t1 := rf_ok hV.1 hx (show sp 8 1 = some 3 from rfl)
  have t2 := rf_ok hV.1 hx (show sp 8 2 = some 3 from rfl)
  have tt := rf_ok hV.1 t0 (show sp 5 0 = some 15 from rfl)
  have t5 := rf_ok hV.1 hm (show sp 10 5 = some 30 from rfl)
  have t16 := rf_ok hV.1 hm (show sp 10 16 = some 31 from rfl)
  have nlx : ∀ {c κ : Nat}, K c = κ → κ ≠ 8 → ¬ c = x := fun h1 h2 z => h2 (by rw [← h1, z]; exact hx.2)
  obtain ⟨n, hnn⟩ : ∃ n : Nat, (I mo 6).toInt = (n : Int) := ⟨(I mo 6).toInt.toNat, by have := hH.2.1; omega⟩
  have h700 : n ≤ 700 := by have := hH.2.1; omega
  have hl : (I (rf O x 0) 1).toInt = (n : Int) := by rw [hH.1, hnn]
  obtain ⟨⟨z1, I1, J1, O1⟩, e1, V0, F0, hO0, q0⟩ := c_mill (N := 2147483648) (J := J) (x := sv xs i 1) (t := fun j => (I (rf O mo 5) j).toInt) (Q := fun w => IV P K w.2.1 w.2.2.2 ∧ FR frC K I J w.2.1 w.2.2.1 ∧ (w.2.2.2 = O ∨ w.2.2.2 = sw12 O x) ∧ ((((sv xs i 1).toInt < 0 ∨ (n : Int) < (sv xs i 1).toInt) ∧ w.1.toInt = -1 ∧ (∀ b, b ≠ x → w.2.1 b = I b) ∧ w.2.2.2 = O ∧ (w.2.1 x 14).toInt = 2 ∧ w.2.1 x 15 = I x 15) ∨ (0 ≤ (sv xs i 1).toInt ∧ (sv xs i 1).toInt ≤ (n : Int) ∧ (w.2.1 (rf O x 0) 1).toInt = 0 ∧ w.1.toInt = mres (spMill (fun j => (I (rf O mo 5) j).toInt) (sv xs i 1).toInt.toNat) ∧ MC O x I (fun j => (I (rf O mo 5) j).toInt) (sv xs i 1).toInt.toNat w.2.1 w.2.2.2))) (by decide) hV hx (sep_of hV.1 t0 t2 hS.2) hl h700 (fun j hj2 => by rw [(hH.2.2 j (by omega)).1]) (fun r I' J' O' a1 a2 a3 a4 => ⟨a1, a2, a3, a4⟩)
  have V1 : IV P K I1 O1 := V0
  have F1 : FR frC K I J I1 J1 := F0
  have hO1 : O1 = O ∨ O1 = sw12 O x := hO0
  have q1 : (((sv xs i 1).toInt < 0 ∨ (n : Int) < (sv xs i 1).toInt) ∧ z1.toInt = -1 ∧ (∀ b, b ≠ x → I1 b = I b) ∧ O1 = O ∧ (I1 x 14).toInt = 2 ∧ I1 x 15 = I x 15) ∨ (0 ≤ (sv xs i 1).toInt ∧ (sv xs i 1).toInt ≤ (n : Int) ∧ (I1 (rf O x 0) 1).toInt = 0 ∧ z1.toInt = mres (spMill (fun j => (I (rf O mo 5) j).toInt) (sv xs i 1).toInt.toNat) ∧ MC O x I (fun j => (I (rf O mo 5) j).toInt) (sv xs i 1).toInt.toNat I1 O1) := q0
  clear V0 F0 hO0 q0
  have oB : ∀ c, ¬ c = x → O1 c = O c := fun c hc => by
    rcases hO1 with rfl | rfl
    · rfl
    · exact sw12_r hc
  have o0 : O1 x 0 = O x 0 := by
    rcases hO1 with rfl | rfl
    · rfl
    · exact sw12_o (by decide) (by decide)
  have r0 : rf O1 x 0 = rf O x 0 := by unfold rf; rw [o0]
  have r00 : rf O1 (rf O x 0) 0 = rf O (rf O x 0) 0 := rf_row (oB _ (nlx t0.2 (by decide))) 0
  have rm : ∀ f, rf O1 mo f = rf O mo f := fun f => rf_row (oB mo hne) f
  have km : I1 mo = I mo := by funext k; exact (F1 mo (by rw [hm.2]; rfl)).1 k
  have k5 : I1 (rf O mo 5) = I (rf O mo 5) := by funext k; exact (F1 _ (by rw [t5.2]; rfl)).1 k
  have k16 : I1 (rf O mo 16) = I (rf O mo 16) := by funext k; exact (F1 _ (by rw [t16.2]; rfl)).1 k
  have hS1 : SPc O1 x := by
    rcases hO1 with rfl | rfl
    · exact hS
    · unfold SPc
      rw [sw12_1, sw12_2]
      have a1 : ∀ f, rf (sw12 O x) (rf O x 1) f = rf O (rf O x 1) f := fun f => rf_row (sw12_r (nlx t1.2 (by decide))) f
      have a2 : ∀ f, rf (sw12 O x) (rf O x 2) f = rf O (rf O x 2) f := fun f => rf_row (sw12_r (nlx t2.2 (by decide))) f
      rw [a1, a1, a2, a2]; exact ⟨hS.2, hS.1⟩
  refine g_aload_n C dLw_245 rfl ?_
  refine g_sarg (k := 1) C hs hL hi (by decide) rfl rfl dLw_246 dLw_247 dLw_249 dLw_250 dLw_251 ?_
  refine g_callV (av := fun _ => [.int (sv xs i 1)]) (rest := []) C dLw_252 mfRM_mill mvRM_mill ln_Lw_24 hx (by decide) rfl (f_RM_mill hV.1 hx e1) rfl rfl (Nat.le_of_ble_eq_true rfl) ⟨Nat.le_of_ble_eq_true rfl, Nat.le_of_ble_eq_true rfl⟩ (show nc + 0 ≤ 601024 ∧ ns + 0 ≤ 7293034 by omega) ?_
  rintro r P' K' I1' O1' J1' ⟨rfl, rfl, rfl, rfl, rfl, rfl⟩
  refine g_pop C dLw_255 rfl ?_
  refine g_aload_n C dLw_256 rfl ?_
  refine g_sarg (k := 1) C hs hL hi (by decide) rfl rfl dLw_257 dLw_258 dLw_260 dLw_261 dLw_262 ?_
  have hM1 : O1' mo 3 = none ∨ ∃ M, O1' mo 3 = some M ∧ (M ∈ P' ∧ K' M = 9) ∧ GM I1' M := by
    rw [oB mo hne]
    rcases hR.1 with z | ⟨w1, w2⟩
    · exact Or.inl z
    · exact Or.inr ⟨rf O mo 3, w1.1, w1.2, w2.keep (F1 _ (by rw [w1.2.2]; rfl)).1⟩
  have hSo : O1' mo 16 = some (rf O mo 16) := by rw [oB mo hne]; exact rf_o hV.1 hm (show sp 10 16 = some 31 from rfl)
  refine g_callV (av := fun _ => [.int (sv xs i 1)]) (rest := []) C dLw_263 mfMo_mill mvMo_mill ln_Lw_27 hm (by decide) rfl (xMo_mill (n := n) (t := fun j => (I (rf O mo 5) j).toInt) V1 hm hSo t16 hM1 (by rw [km]; exact hnn) h700 (fun j hj2 => by rw [rm, k5]; exact ⟨rfl, (hH.2.2 j (by omega)).2⟩)) rfl rfl (Nat.le_of_ble_eq_true rfl) ⟨Nat.le_of_ble_eq_true rfl, Nat.le_of_ble_eq_true rfl⟩ (show nc + 0 + 8 ≤ 601024 ∧ ns + 0 + 76 ≤ 7293034 by omega) ?_
  rintro r P2 K2 I2 O2 J2 ⟨⟨-, hP, hV2, hO3, hM2, hs2, hq2⟩, z2, rfl, hb2, hg2⟩
  rw [km] at hb2 hg2 hq2
  refine g_pop C dLw_266 rfl ?_
  refine g_goto 1126 C dLw_267 (by decide) ?_
  have up : ∀ {q κ : Nat}, q ∈ P' ∧ K' q = κ → q ∈ P2 ∧ K2 q = κ := fun h => ⟨(hP _ h.1).1, (hP _ h.1).2.1.trans h.2⟩
  have ox : ∀ c, c ∈ P' → c ≠ mo → O2 c = O1' c := fun c h1 h2 => (hP c h1).2.2.2 h2
  have nm : ∀ {c κ : Nat}, K' c = κ → κ ≠ 10 → c ≠ mo := fun h1 h2 z => h2 (by rw [← h1, z]; exact hm.2)
  have kc : ∀ c, c ∈ P' → frR (K' c) = true → I2 c = I1' c := fun c h1 h2 => by funext k; exact (hP c h1).2.2.1 h2 k
  have g0 : rf O2 x 0 = rf O x 0 := (rf_row (ox x hx.1 (fun z => hne z.symm)) 0).trans r0
  have g00 : rf O2 (rf O x 0) 0 = rf O (rf O x 0) 0 := (rf_row (ox _ t0.1 (nm t0.2 (by decide))) 0).trans r00
  have g5 : rf O2 mo 5 = rf O mo 5 := by unfold rf; rw [hO3 5 (by decide) (by decide)]; exact rm 5
  have g16 : rf O2 mo 16 = rf O mo 16 := by unfold rf; rw [hO3 16 (by decide) (by decide)]; exact rm 16
  have hS2 : SPc O2 x := by
    have u1 := rf_ok V1.1 hx (show sp 8 1 = some 3 from rfl)
    have u2 := rf_ok V1.1 hx (show sp 8 2 = some 3 from rfl)
    have e1 : ∀ f, rf O2 x f = rf O1' x f := fun f => rf_row (ox x hx.1 (fun z => hne z.symm)) f
    have e2 : ∀ f, rf O2 (rf O1' x 1) f = rf O1' (rf O1' x 1) f := fun f => rf_row (ox _ u1.1 (nm u1.2 (by decide))) f
    have e3 : ∀ f, rf O2 (rf O1' x 2) f = rf O1' (rf O1' x 2) f := fun f => rf_row (ox _ u2.1 (nm u2.2 (by decide))) f
    unfold SPc
    rw [e1, e1, e2, e2, e3, e3]; exact hS1
  have g27 := hV2.2 _ (up t16).1 27
  rw [(up t16).2] at g27
  have g27 : 0 ≤ (I2 (rf O mo 16) 27).toInt ∧ (I2 (rf O mo 16) 27).toInt ≤ 240 := g27
  have hR2 : RS P2 K2 I2 O2 mo := by
    refine ⟨?_, ?_⟩
    · rcases hM2 with z | ⟨M, w1, w2, w3⟩
      · exact Or.inl z
      · have e : rf O2 mo 3 = M := by unfold rf; rw [w1]; rfl
        exact Or.inr ⟨⟨by rw [e]; exact w1, by rw [e]; exact w2⟩, by rw [e]; exact w3⟩
    · rw [g16]
      rw [km, k16] at hs2
      have := hR.2
      omega
  have hh : HT3 I2 O2 x mo := by
    unfold HT3
    rw [g0, g00, g5, kc _ t0.1 (by rw [t0.2]; rfl), kc _ tt.1 (by rw [tt.2]; rfl)]
    rcases hq2 with ⟨c1, c2⟩ | ⟨c1, c2, c3⟩
    · rcases q1 with ⟨d1, d2, d3, _⟩ | ⟨d1, d2, _⟩
      · have w5 : I2 (rf O mo 5) = I (rf O mo 5) := by rw [(hb2 c1).2.1 _ t5.1 (nm t5.2 (by decide)), k5]
        rw [c2, d3 _ (nlx t0.2 (by decide)), d3 _ (nlx tt.2 (by decide)), w5]
        exact hH
      · omega
    · rcases q1 with ⟨d1, d2, d3, _⟩ | ⟨d1, d2, d3, _⟩
      · omega
      · rw [c3, d3]
        exact ⟨rfl, by decide, fun j hj2 => by omega⟩
  have t9 := rf_ok hV.1 hx (show sp 8 9 = some 7 from rfl)
  have t33 := rf_ok hV.1 hm (show sp 10 33 = some 39 from rfl)
  have o1 := rf_o hV.1 hx (show sp 8 1 = some 3 from rfl)
  have o2 := rf_o hV.1 hx (show sp 8 2 = some 3 from rfl)
  have hQ1 : OW Qo P' O1' x mo := by
    rcases hO1 with rfl | rfl
    · exact hQo
    · exact hQo.sw o1 o2
  have hQ2 : OW Qo P2 O2 x mo := hQ1.up (fun c hc => (hP c hc).1) (fun c hc => ox c (hQ1.2.2.1 c hc) (fun z => hQo.2.1 (by rw [← z]; exact hc)))
  have n12 : rf O x 1 ≠ rf O x 2 := fun z => by
    rw [z] at o1
    exact absurd (hQo.2.2.2.2 x 1 x 2 _ hQo.1 hQo.1 o1 o2).2 (by decide)
  have r9 : rf O1' x 9 = rf O x 9 := by
    rcases hO1 with rfl | rfl
    · rfl
    · unfold rf; rw [sw12_o (by decide) (by decide)]
  have g9 : rf O2 x 9 = rf O x 9 := (rf_row (ox x hx.1 (fun z => hne z.symm)) 9).trans r9
  have g33 : rf O2 mo 33 = rf O mo 33 := by unfold rf; rw [hO3 33 (by decide) (by decide)]; exact rm 33
  have g1 : rf O2 x 1 = rf O1' x 1 := rf_row (ox x hx.1 (fun z => hne z.symm)) 1
  have u1 := rf_ok V1.1 hx (show sp 8 1 = some 3 from rfl)
  have kx : I2 x = I1' x := kc x hx.1 (by rw [hx.2]; rfl)
  have kt : I2 (rf O x 9) = I1' (rf O x 9) := kc _ t9.1 (by rw [t9.2]; rfl)
  have ku : I2 (rf O1' x 1) = I1' (rf O1' x 1) := kc _ u1.1 (by rw [u1.2]; rfl)
  have oM : O1' mo 3 = O mo 3 := by rw [oB mo hne]
  have mold : ¬ O mo 3 = none → rf O mo 3 ∈ P' ∧ rf O mo 3 ≠ mo ∧ ¬ rf O mo 3 = x ∧ I1' (rf O mo 3) = I (rf O mo 3) := fun q => by
    rcases hR.1 with w | ⟨w, _⟩
    · exact absurd w q
    · exact ⟨w.2.1, nm w.2.2 (by decide), nlx w.2.2 (by decide), by funext k; exact (F1 _ (by rw [w.2.2]; rfl)).1 k⟩
  have krw : I1' (rf O mo 33) = I (rf O mo 33) := by funext k; exact (F1 _ (by rw [t33.2]; rfl)).1 k
  have hAl : AL I2 O2 x mo := by
    unfold AL
    rw [g9, g33, g1, kx, kt, ku]
    rcases q1 with ⟨c1, c2, c3, c4, c5, c6⟩ | ⟨c1, c2, c3, c4, c5⟩
    · obtain ⟨b1, b2, b3, b4, b5⟩ := hb2 (by omega)
      have m3 : O2 mo 3 = O mo 3 := b5.trans oM
      have r3 : rf O2 mo 3 = rf O mo 3 := by unfold rf; rw [m3]
      rw [m3, r3, c4, c6, b3, c3 _ (nlx t1.2 (by decide)), c3 _ (nlx t9.2 (by decide)), b2 _ t33.1 (nm t33.2 (by decide)), krw]
      refine ⟨a1, Or.inr ⟨by rw [c5]; decide, b4⟩, ?_, a4, a5⟩
      rcases a3 with w | ⟨w1, w2⟩
      · exact Or.inl w
      · obtain ⟨e1, e2, e3, e4⟩ := mold w1
        exact Or.inr ⟨w1, by rw [b2 _ e1 e2, e4]; exact w2⟩
    · obtain ⟨g1', gE, gK⟩ := hg2 c1 (by omega)
      cases hsp : spMill (fun j => (I (rf O mo 5) j).toInt) (sv xs i 1).toInt.toNat with
      | error w =>
        obtain ⟨d1, d2, d3, d4, d5⟩ := c5.1 w hsp
        obtain ⟨e1, e2, e3, e4⟩ := gE w hsp
        have m3 : O2 mo 3 = O mo 3 := e3.trans oM
        have r3 : rf O2 mo 3 = rf O mo 3 := by unfold rf; rw [m3]
        have la : ∀ j, j < 5 → 11 ≤ K' (rf O (rf O x 2) (10 + j)) := fun j hj2 => by
          have : j = 0 ∨ j = 1 ∨ j = 2 ∨ j = 3 ∨ j = 4 := by omega
          rcases this with rfl | rfl | rfl | rfl | rfl
          · rw [(rf_ok hV.1 t2 (show sp 3 (10 + 0) = some 13 from rfl)).2]; decide
          · rw [(rf_ok hV.1 t2 (show sp 3 (10 + 1) = some 11 from rfl)).2]; decide
          · rw [(rf_ok hV.1 t2 (show sp 3 (10 + 2) = some 11 from rfl)).2]; decide
          · rw [(rf_ok hV.1 t2 (show sp 3 (10 + 3) = some 12 from rfl)).2]; decide
          · rw [(rf_ok hV.1 t2 (show sp 3 (10 + 4) = some 14 from rfl)).2]; decide
        have lb2 : ∀ {c d κ κ' : Nat}, K' c = κ → K' d = κ' → κ ≠ κ' → c ≠ d := fun h1 h2 h3 z => h3 (by rw [← h1, ← h2, z])
        have kcur : I1' (rf O x 1) = I (rf O x 1) := d5 _ (nlx t1.2 (by decide)) (lb2 t1.2 t0.2 (by decide)) n12 (fun j hj2 z => by have := la j hj2; rw [← z, t1.2] at this; omega)
        have ktr : I1' (rf O x 9) = I (rf O x 9) := d5 _ (nlx t9.2 (by decide)) (lb2 t9.2 t0.2 (by decide)) (lb2 t9.2 t2.2 (by decide)) (fun j hj2 z => by have := la j hj2; rw [← z, t9.2] at this; omega)
        rw [m3, r3, d1, kcur, ktr, e4 _ t33.1 (nm t33.2 (by decide)), krw]
        refine ⟨d3.trans e1.symm, Or.inl ⟨d2, d4.trans e2.symm⟩, ?_, a4, a5⟩
        rcases a3 with w' | ⟨w1, w2⟩
        · exact Or.inl w'
        · obtain ⟨f1, f2, f3, f4⟩ := mold w1
          exact Or.inr ⟨w1, by rw [e4 _ f1 f2, f4]; exact w2⟩
      | ok q =>
        obtain ⟨d1, d2, d3, d4, d5, d6⟩ := c5.2 q hsp
        obtain ⟨e1, e2, e3, e4, F, e5, e6, e7, e8⟩ := gK q hsp
        rw [rm] at e3 e4
        have r3 : rf O2 mo 3 = F := by unfold rf; rw [e5]; rfl
        have ok2 := (mill_ok hsp).2.2.2.1
        have x8 := e8.1.2.2.2.2.2.2.2.2.1
        have x9 := e8.1.2.2.2.2.2.2.2.2.2.1
        rw [r3, d1, sw12_1]
        refine ⟨d3.trans e1.symm, Or.inr ⟨by rw [d2]; decide, e2⟩, Or.inr ⟨(by rw [e5]; exact fun z => (by cases z)), by rw [d4 7 (by decide), x8], by rw [d4 8 (by decide), x9], by rw [x8]; omega⟩, by rw [d5, e3], by rw [d6, e4]⟩
  exact g_widen (nc' := nc + 8) (ns' := ns + 76) (show nc + 0 + 8 ≤ nc + 8 by omega) (show ns + 0 + 76 ≤ ns + 76 by omega) (kk _ _ _ _ _ ⟨⟨hV2, up hx, up hm, up ho, hR2, hS2, hh⟩, ⟨Qo, hQ2⟩, hAl⟩)
