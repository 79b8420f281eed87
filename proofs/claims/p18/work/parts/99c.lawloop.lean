theorem lwc_26 {X : CTX} {P : List Nat} {K : Nat → Nat} {I : Nat → Nat → Int32} {O : Nat → Nat → Option Nat} {J : Nat → Nat → Int64} {nc ns b x mo out Ln : Nat} {i : Int32} {xs : Nat → Int32} (C : Cx X bLw 7 "RoarMillLaw" room_1) (hLX : LX X) (hs : SCR X b Ln xs) (hL : Ln ≤ 3584) (hi : 0 ≤ i.toInt ∧ i.toInt + 7 ≤ (Ln : Int)) (hj : L6 P K I O x mo out) (hn : nc + 8 ≤ 601024 ∧ ns + 76 ≤ 7293034) (kk : KK X b x mo out i (nc + 8) (ns + 76)) : GG X 7 P K I O J nc ns 1060 (LL b x mo out i) [] := by
  have h5 := hj.1
  have h4 := h5.1
  have hx := h4.1.2.1
  have hm := h4.1.2.2.1
  have ho := h4.1.2.2.2.1
  refine g_aload_n C dLw_1060 rfl ?_
  refine g_sarg (k := 1) C hs hL hi (by decide) rfl rfl dLw_1061 dLw_1062 dLw_1064 dLw_1065 dLw_1066 ?_
  refine g_aload_n C dLw_1067 rfl ?_
  refine g_callS2 (n := 3) (av := [.ref x, .int (sv xs i 1), .ref out]) (rest := []) C hLX dLw_1068 wLw_code wLw_ini (by decide) (by decide +kernel) wLw_stat wLw_link (cLw_led h4.1.1 hx ho) rfl rfl (Nat.le_of_ble_eq_true rfl) ⟨Nat.le_of_ble_eq_true rfl, Nat.le_of_ble_eq_true rfl⟩ (show nc + 1 ≤ 601024 ∧ ns + 6 ≤ 7293034 by omega) ?_
  rintro r P1 K1 I1 O1 J1 ⟨rfl, rfl, rfl, hV1, hF1, z1, rfl, -⟩
  have hj1 := h4.1.cls hV1 hF1 rfl rfl rfl rfl rfl rfl
  refine g_istore C dLw_1071 (by decide) ?_
  refine g_aload_n C dLw_1073 rfl ?_
  refine g_sarg (k := 1) C hs hL hi (by decide) rfl rfl dLw_1074 dLw_1075 dLw_1077 dLw_1078 dLw_1079 ?_
  refine lx_callM (nc := nc + 1) (ns := ns + 6) (av := [.int (sv xs i 1)]) (rest := []) C dLw_1080 mfMo_led mvMo_led ln_Lw_137 hm (by decide) rfl (d_Mo_led hV1 hm hj1.2.2.2.2.1) rfl rfl (Nat.le_of_ble_eq_true rfl) ⟨rfl, rfl⟩ ⟨rfl, rfl⟩ (by omega) (fun z2 I2 J2 hV2 hF2 hR2 h62 p2 => ?_)
  refine g_istore C dLw_1083 (by decide) ?_
  have kk2 : ∀ b κ, K1 b = κ → frL [48] κ = true → I1 b = I b := fun b κ h1 h2 => by funext k; exact (hF1 b (by rw [h1]; exact h2)).1 k
  have hTB : ∀ b, TB O1 x b → I1 b = I b := fun b hb => by
    have l := hb.cls h4.1.1.1 hx
    exact kk2 b _ rfl ((by decide : ∀ κ, κ < 48 → frL [48] κ = true) _ (by omega))
  have hB1 : BR I1 O1 x mo := h5.2.keep hTB (by rw [kk2 x 8 hx.2 rfl]) (kk2 _ 31 (rf_ok h4.1.1.1 hm (show sp 10 16 = some 31 from rfl)).2 rfl) (kk2 _ 32 (rf_ok h4.1.1.1 hm (show sp 10 19 = some 32 from rfl)).2 rfl) (by rw [kk2 mo 10 hm.2 rfl]) (fun q => by
    rcases h4.1.2.2.2.2.1.1 with w | ⟨w, _⟩
    · exact absurd w q
    · refine ⟨kk2 _ 9 w.2.2 rfl, fun j hj2 => ?_⟩
      obtain ⟨κ, k1, k2, k3⟩ := RS.cells h4.1.1.1 w.2 j hj2
      exact kk2 _ κ k1 ((by decide : ∀ κ, κ < 48 → frL [48] κ = true) _ (by omega)))
  have hB : BR I2 O1 x mo := L5.keep (J := J1) (J1 := J1) (out := out) (P := P1) (K := K1) ⟨⟨hj1, h4.2.1, h4.led hF1⟩, hB1⟩ (fun b _ => ⟨fun _ => rfl, fun _ => rfl⟩) (fun _ _ => rfl) rfl (FQ.le (kp2 := mB) hF2 (kpL_le (frL_le (by decide)) rfl))
  have hCl0 : CRS I2 O1 x mo := hj.2.keep (SE.mk' (by funext k; rw [(hF2 (rf O1 x 5) k (kpK (show K1 (rf O1 x 5) = 19 from (pAt_ok h4.1.1.1 hx [5] 19 rfl).2) rfl)).1]; exact congrFun (kk2 (rf O1 x 5) 19 (pAt_ok h4.1.1.1 hx [5] 19 rfl).2 rfl) k) (by funext k; rw [(hF2 (rf O1 x 1) k (kpK (show K1 (rf O1 x 1) = 3 from (pAt_ok h4.1.1.1 hx [1] 3 rfl).2) rfl)).1]; exact congrFun (kk2 (rf O1 x 1) 3 (pAt_ok h4.1.1.1 hx [1] 3 rfl).2 rfl) k) (by funext k; rw [(hF2 (rf O1 (rf O1 x 1) 10) k (kpK (show K1 (rf O1 (rf O1 x 1) 10) = 13 from (pAt_ok h4.1.1.1 hx [10, 1] 13 rfl).2) rfl)).1]; exact congrFun (kk2 (rf O1 (rf O1 x 1) 10) 13 (pAt_ok h4.1.1.1 hx [10, 1] 13 rfl).2 rfl) k) (by funext k; rw [(hF2 (rf O1 (rf O1 x 1) 11) k (kpK (show K1 (rf O1 (rf O1 x 1) 11) = 11 from (pAt_ok h4.1.1.1 hx [11, 1] 11 rfl).2) rfl)).1]; exact congrFun (kk2 (rf O1 (rf O1 x 1) 11) 11 (pAt_ok h4.1.1.1 hx [11, 1] 11 rfl).2 rfl) k) (by funext k; rw [(hF2 (rf O1 (rf O1 x 1) 12) k (kpK (show K1 (rf O1 (rf O1 x 1) 12) = 11 from (pAt_ok h4.1.1.1 hx [12, 1] 11 rfl).2) rfl)).1]; exact congrFun (kk2 (rf O1 (rf O1 x 1) 12) 11 (pAt_ok h4.1.1.1 hx [12, 1] 11 rfl).2 rfl) k) (by funext k; rw [(hF2 (rf O1 (rf O1 x 1) 13) k (kpK (show K1 (rf O1 (rf O1 x 1) 13) = 12 from (pAt_ok h4.1.1.1 hx [13, 1] 12 rfl).2) rfl)).1]; exact congrFun (kk2 (rf O1 (rf O1 x 1) 13) 12 (pAt_ok h4.1.1.1 hx [13, 1] 12 rfl).2 rfl) k) (by funext k; rw [(hF2 (rf O1 (rf O1 x 1) 14) k (kpK (show K1 (rf O1 (rf O1 x 1) 14) = 14 from (pAt_ok h4.1.1.1 hx [14, 1] 14 rfl).2) rfl)).1]; exact congrFun (kk2 (rf O1 (rf O1 x 1) 14) 14 (pAt_ok h4.1.1.1 hx [14, 1] 14 rfl).2 rfl) k) (by funext k; rw [(hF2 (rf O1 (rf O1 x 6) 0) k (kpK (show K1 (rf O1 (rf O1 x 6) 0) = 20 from (pAt_ok h4.1.1.1 hx [0, 6] 20 rfl).2) rfl)).1]; exact congrFun (kk2 (rf O1 (rf O1 x 6) 0) 20 (pAt_ok h4.1.1.1 hx [0, 6] 20 rfl).2 rfl) k) (by funext k; rw [(hF2 (rf O1 (rf O1 x 6) 1) k (kpK (show K1 (rf O1 (rf O1 x 6) 1) = 21 from (pAt_ok h4.1.1.1 hx [1, 6] 21 rfl).2) rfl)).1]; exact congrFun (kk2 (rf O1 (rf O1 x 6) 1) 21 (pAt_ok h4.1.1.1 hx [1, 6] 21 rfl).2 rfl) k) (by funext k; rw [(hF2 (rf O1 x 7) k (kpK (show K1 (rf O1 x 7) = 6 from (pAt_ok h4.1.1.1 hx [7] 6 rfl).2) rfl)).1]; exact congrFun (kk2 (rf O1 x 7) 6 (pAt_ok h4.1.1.1 hx [7] 6 rfl).2 rfl) k) (by funext k; rw [(hF2 (rf O1 (rf O1 x 7) 0) k (kpK (show K1 (rf O1 (rf O1 x 7) 0) = 22 from (pAt_ok h4.1.1.1 hx [0, 7] 22 rfl).2) rfl)).1]; exact congrFun (kk2 (rf O1 (rf O1 x 7) 0) 22 (pAt_ok h4.1.1.1 hx [0, 7] 22 rfl).2 rfl) k) (by funext k; rw [(hF2 (rf O1 (rf O1 x 7) 1) k (kpK (show K1 (rf O1 (rf O1 x 7) 1) = 22 from (pAt_ok h4.1.1.1 hx [1, 7] 22 rfl).2) rfl)).1]; exact congrFun (kk2 (rf O1 (rf O1 x 7) 1) 22 (pAt_ok h4.1.1.1 hx [1, 7] 22 rfl).2 rfl) k) (by funext k; rw [(hF2 (rf O1 (rf O1 x 7) 2) k (kpK (show K1 (rf O1 (rf O1 x 7) 2) = 22 from (pAt_ok h4.1.1.1 hx [2, 7] 22 rfl).2) rfl)).1]; exact congrFun (kk2 (rf O1 (rf O1 x 7) 2) 22 (pAt_ok h4.1.1.1 hx [2, 7] 22 rfl).2 rfl) k) (by funext k; rw [(hF2 (rf O1 (rf O1 x 7) 3) k (kpK (show K1 (rf O1 (rf O1 x 7) 3) = 22 from (pAt_ok h4.1.1.1 hx [3, 7] 22 rfl).2) rfl)).1]; exact congrFun (kk2 (rf O1 (rf O1 x 7) 3) 22 (pAt_ok h4.1.1.1 hx [3, 7] 22 rfl).2 rfl) k) (by funext k; rw [(hF2 (rf O1 (rf O1 x 7) 5) k (kpK (show K1 (rf O1 (rf O1 x 7) 5) = 23 from (pAt_ok h4.1.1.1 hx [5, 7] 23 rfl).2) rfl)).1]; exact congrFun (kk2 (rf O1 (rf O1 x 7) 5) 23 (pAt_ok h4.1.1.1 hx [5, 7] 23 rfl).2 rfl) k)) ⟨(by funext k; rw [(hF2 _ k (by rw [(rf_ok h4.1.1.1 hm (show sp 10 20 = some 33 from rfl)).2]; rfl)).1, kk2 _ 33 (rf_ok h4.1.1.1 hm (show sp 10 20 = some 33 from rfl)).2 rfl]), (by funext k; rw [(hF2 _ k (by rw [(rf_ok h4.1.1.1 hm (show sp 10 21 = some 33 from rfl)).2]; rfl)).1, kk2 _ 33 (rf_ok h4.1.1.1 hm (show sp 10 21 = some 33 from rfl)).2 rfl]), (by funext k; rw [(hF2 _ k (by rw [(rf_ok h4.1.1.1 hm (show sp 10 22 = some 34 from rfl)).2]; rfl)).1, kk2 _ 34 (rf_ok h4.1.1.1 hm (show sp 10 22 = some 34 from rfl)).2 rfl]), (by funext k; rw [(hF2 _ k (by rw [(rf_ok h4.1.1.1 hm (show sp 10 24 = some 35 from rfl)).2]; rfl)).1, kk2 _ 35 (rf_ok h4.1.1.1 hm (show sp 10 24 = some 35 from rfl)).2 rfl]), (by funext k; rw [(hF2 _ k (by rw [(rf_ok h4.1.1.1 hm (show sp 10 25 = some 36 from rfl)).2]; rfl)).1, kk2 _ 36 (rf_ok h4.1.1.1 hm (show sp 10 25 = some 36 from rfl)).2 rfl]), (by funext k; rw [(hF2 _ k (by rw [(rf_ok h4.1.1.1 hm (show sp 10 26 = some 35 from rfl)).2]; rfl)).1, kk2 _ 35 (rf_ok h4.1.1.1 hm (show sp 10 26 = some 35 from rfl)).2 rfl]), (by funext k; rw [(hF2 _ k (by rw [(rf_ok h4.1.1.1 hm (show sp 10 27 = some 35 from rfl)).2]; rfl)).1, kk2 _ 35 (rf_ok h4.1.1.1 hm (show sp 10 27 = some 35 from rfl)).2 rfl]), (by rw [(hF2 mo 23 (by rw [hm.2]; rfl)).1, kk2 mo 10 hm.2 rfl])⟩
  refine g_goto 1126 C dLw_1085 (by decide) ?_
  exact g_sub (g_widen (by omega) (by omega) (kk _ _ _ _ _ ⟨⟨⟨hj1.ref hV2 (FQ.mL_2 (FQ.le (kp2 := mL) hF2 (kpL_le (frL_le (by decide)) rfl))) hR2 h62, h4.2.1, L4.leave (J := J1) ⟨hj1, h4.2.1, h4.led hF1⟩ hV1 hV2 FQ.rf (FQ.le (kp2 := mL) hF2 (kpL_le (frL_le (by decide)) rfl))⟩, hB⟩, hCl0⟩)) ⟨rfl, rfl, rfl, rfl, rfl, trivial⟩
theorem lw_loop {X : CTX} {b x mo out Ln : Nat} {xs : Nat → Int32} (C : Cx X bLw 7 "RoarMillLaw" room_1) (hLX : LX X) (hs : SCR X b Ln xs) (hL : Ln ≤ 3584) (kend : ∀ (P : List Nat) (K : Nat → Nat) (I : Nat → Nat → Int32) (O : Nat → Nat → Option Nat) (J : Nat → Nat → Int64) (L : List (Nat × Value)), GG X 7 P K I O J 601024 7293034 1132 L []) : ∀ (n : Nat) (P : List Nat) (K : Nat → Nat) (I : Nat → Nat → Int32) (O : Nat → Nat → Option Nat) (J : Nat → Nat → Int64) (nc ns : Nat) (i : Int32), 0 ≤ i.toInt → i.toInt ≤ (Ln : Int) → Int.toNat ((Ln : Int) - i.toInt) = n → nc + 2 * n + 8 ≤ 601024 → ns + 11 * n + 76 ≤ 7293034 → L6 P K I O x mo out → GG X 7 P K I O J nc ns 23 (LL b x mo out i) [] := by
  intro n
  induction n using Nat.strongRecOn with
  | ind n ih =>
  intro P K I O J nc ns i h0 h1 hn hnc hns hj
  have eL : (Int32.ofNat Ln).toInt = (Ln : Int) := by
    rw [show Int32.ofNat Ln = Int32.ofInt (Ln : Int) from Int32.ofInt_eq_ofNat.symm]; exact ofI (by omega)
  refine g_iload C dLw_23 rfl ?_
  refine g_aload_n C dLw_25 rfl ?_
  refine g_slen C hs dLw_26 ?_
  refine g_bipush (v := Int32.ofInt 7) C dLw_27 (by decide) ?_
  refine n_isub C dLw_29 eL (ofI (by decide)) (by omega) (fun z e => ?_)
  refine gt_icmp_gt 1132 C dLw_30 (by decide) rfl e (fun c => ?_) (fun c => ?_)
  · exact g_widen (by omega) (by omega) (kend _ _ _ _ _ _)
  have hi : 0 ≤ i.toInt ∧ i.toInt + 7 ≤ (Ln : Int) := by omega
  have hkk : KK X b x mo out i (nc + 8) (ns + 76) := by
    intro P' K' I' O' J' hj'
    refine g_iinc C dLw_1126 rfl rfl (by decide) ?_
    refine g_goto 23 C dLw_1129 (by decide) ?_
    have e7 : (i + Int32.ofInt 7).toInt = i.toInt + 7 := by rw [Int32.toInt_add, wr32, ofI (by decide)]; omega
    exact g_sub (ih (n - 7) (by omega) P' K' I' O' J' (nc + 8) (ns + 76) (i + Int32.ofInt 7) (by omega) (by omega) (by omega) (by omega) (by omega) hj') ⟨rfl, rfl, rfl, rfl, rfl, trivial⟩
  have hro : nc + 8 ≤ 601024 ∧ ns + 76 ≤ 7293034 := by omega
  refine g_aload_n C dLw_33 rfl ?_
  refine g_iload C dLw_34 rfl ?_
  refine g_sld C hs (vp_in_iff.mpr (by omega)) dLw_36 ?_
  refine g_bipush (v := Int32.ofInt 31) C dLw_37 (by decide) ?_
  refine a_iand C dLw_39 (fun w => ?_)
  by_cases q : w.toInt < 0 ∨ 28 < w.toInt
  · exact g_tOut 1126 C dLw_40 q (by decide) (g_widen (by omega) (by omega) (hkk _ _ _ _ _ hj))
  rcases (show w.toInt = 0 ∨ w.toInt = 1 ∨ w.toInt = 2 ∨ w.toInt = 3 ∨ w.toInt = 4 ∨ w.toInt = 5 ∨ w.toInt = 6 ∨ w.toInt = 7 ∨ w.toInt = 8 ∨ w.toInt = 9 ∨ w.toInt = 10 ∨ w.toInt = 11 ∨ w.toInt = 12 ∨ w.toInt = 13 ∨ w.toInt = 14 ∨ w.toInt = 15 ∨ w.toInt = 16 ∨ w.toInt = 17 ∨ w.toInt = 18 ∨ w.toInt = 19 ∨ w.toInt = 20 ∨ w.toInt = 21 ∨ w.toInt = 22 ∨ w.toInt = 23 ∨ w.toInt = 24 ∨ w.toInt = 25 ∨ w.toInt = 26 ∨ w.toInt = 27 ∨ w.toInt = 28 by omega) with q | q | q | q | q | q | q | q | q | q | q | q | q | q | q | q | q | q | q | q | q | q | q | q | q | q | q | q | q
  · exact g_tIn 172 C dLw_40 (by omega) (by omega) (by rw [q]; rfl) (by decide) (lwc_0 C hLX hs hL hi hj hro hkk)
  · exact g_tIn 245 C dLw_40 (by omega) (by omega) (by rw [q]; rfl) (by decide) (lwc_1 C hLX hs hL hi hj hro hkk)
  · exact g_tIn 270 C dLw_40 (by omega) (by omega) (by rw [q]; rfl) (by decide) (lwc_2 C hLX hs hL hi hj hro hkk)
  · exact g_tIn 283 C dLw_40 (by omega) (by omega) (by rw [q]; rfl) (by decide) (lwc_3 C hLX hs hL hi hj hro hkk)
  · exact g_tIn 296 C dLw_40 (by omega) (by omega) (by rw [q]; rfl) (by decide) (lwc_4 C hLX hs hL hi hj hro hkk)
  · exact g_tIn 345 C dLw_40 (by omega) (by omega) (by rw [q]; rfl) (by decide) (lwc_5 C hLX hs hL hi hj hro hkk)
  · exact g_tIn 398 C dLw_40 (by omega) (by omega) (by rw [q]; rfl) (by decide) (lwc_6 C hLX hs hL hi hj hro hkk)
  · exact g_tIn 423 C dLw_40 (by omega) (by omega) (by rw [q]; rfl) (by decide) (lwc_7 C hLX hs hL hi hj hro hkk)
  · exact g_tIn 460 C dLw_40 (by omega) (by omega) (by rw [q]; rfl) (by decide) (lwc_8 C hLX hs hL hi hj hro hkk)
  · exact g_tIn 485 C dLw_40 (by omega) (by omega) (by rw [q]; rfl) (by decide) (lwc_9 C hLX hs hL hi hj hro hkk)
  · exact g_tIn 546 C dLw_40 (by omega) (by omega) (by rw [q]; rfl) (by decide) (lwc_10 C hLX hs hL hi hj hro hkk)
  · exact g_tIn 607 C dLw_40 (by omega) (by omega) (by rw [q]; rfl) (by decide) (lwc_11 C hLX hs hL hi hj hro hkk)
  · exact g_tIn 620 C dLw_40 (by omega) (by omega) (by rw [q]; rfl) (by decide) (lwc_12 C hLX hs hL hi hj hro hkk)
  · exact g_tIn 633 C dLw_40 (by omega) (by omega) (by rw [q]; rfl) (by decide) (lwc_13 C hLX hs hL hi hj hro hkk)
  · exact g_tIn 670 C dLw_40 (by omega) (by omega) (by rw [q]; rfl) (by decide) (lwc_14 C hLX hs hL hi hj hro hkk)
  · exact g_tIn 695 C dLw_40 (by omega) (by omega) (by rw [q]; rfl) (by decide) (lwc_15 C hLX hs hL hi hj hro hkk)
  · exact g_tIn 768 C dLw_40 (by omega) (by omega) (by rw [q]; rfl) (by decide) (lwc_16 C hLX hs hL hi hj hro hkk)
  · exact g_tIn 781 C dLw_40 (by omega) (by omega) (by rw [q]; rfl) (by decide) (lwc_17 C hLX hs hL hi hj hro hkk)
  · exact g_tIn 806 C dLw_40 (by omega) (by omega) (by rw [q]; rfl) (by decide) (lwc_18 C hLX hs hL hi hj hro hkk)
  · exact g_tIn 831 C dLw_40 (by omega) (by omega) (by rw [q]; rfl) (by decide) (lwc_19 C hLX hs hL hi hj hro hkk)
  · exact g_tIn 856 C dLw_40 (by omega) (by omega) (by rw [q]; rfl) (by decide) (lwc_20 C hLX hs hL hi hj hro hkk)
  · exact g_tIn 881 C dLw_40 (by omega) (by omega) (by rw [q]; rfl) (by decide) (lwc_21 C hLX hs hL hi hj hro hkk)
  · exact g_tIn 934 C dLw_40 (by omega) (by omega) (by rw [q]; rfl) (by decide) (lwc_22 C hLX hs hL hi hj hro hkk)
  · exact g_tIn 947 C dLw_40 (by omega) (by omega) (by rw [q]; rfl) (by decide) (lwc_23 C hLX hs hL hi hj hro hkk)
  · exact g_tIn 960 C dLw_40 (by omega) (by omega) (by rw [q]; rfl) (by decide) (lwc_24 C hLX hs hL hi hj hro hkk)
  · exact g_tIn 973 C dLw_40 (by omega) (by omega) (by rw [q]; rfl) (by decide) (lwc_25 C hLX hs hL hi hj hro hkk)
  · exact g_tIn 1060 C dLw_40 (by omega) (by omega) (by rw [q]; rfl) (by decide) (lwc_26 C hLX hs hL hi hj hro hkk)
  · exact g_tIn 1088 C dLw_40 (by omega) (by omega) (by rw [q]; rfl) (by decide) (lwc_27 C hLX hs hL hi hj hro hkk)
  · exact g_tIn 1113 C dLw_40 (by omega) (by omega) (by rw [q]; rfl) (by decide) (lwc_28 C hLX hs hL hi hj hro hkk)
