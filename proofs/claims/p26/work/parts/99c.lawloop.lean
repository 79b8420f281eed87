theorem lwc_26 {X : CTX} {P : List Nat} {K : Nat → Nat} {I : Nat → Nat → Int32} {O : Nat → Nat → Option Nat} {J : Nat → Nat → Int64} {nc ns b x mo out Ln : Nat} {i : Int32} {xs : Nat → Int32} (C : Cx X bLw 7 "RoarMillLaw" room_1) (hLX : LX X) (hs : SCR X b Ln xs) (hL : Ln ≤ 3584) (hi : 0 ≤ i.toInt ∧ i.toInt + 7 ≤ (Ln : Int)) (hj : L4 P K I O x mo out) (hn : nc + 8 ≤ 601024 ∧ ns + 76 ≤ 7293034) (kk : KK X b x mo out i (nc + 8) (ns + 76)) : GG X 7 P K I O J nc ns 1060 (LL b x mo out i) [] := by
  have hx := hj.1.2.1
  have hm := hj.1.2.2.1
  have ho := hj.1.2.2.2.1
  refine g_aload_n C dLw_1060 rfl ?_
  refine g_sarg (k := 1) C hs hL hi (by decide) rfl rfl dLw_1061 dLw_1062 dLw_1064 dLw_1065 dLw_1066 ?_
  refine g_aload_n C dLw_1067 rfl ?_
  refine g_callS2 (n := 3) (av := [.ref x, .int (sv xs i 1), .ref out]) (rest := []) C hLX dLw_1068 wLw_code wLw_ini (by decide) (by decide +kernel) wLw_stat wLw_link (cLw_led hj.1.1 hx ho) rfl rfl (Nat.le_of_ble_eq_true rfl) ⟨Nat.le_of_ble_eq_true rfl, Nat.le_of_ble_eq_true rfl⟩ (show nc + 1 ≤ 601024 ∧ ns + 6 ≤ 7293034 by omega) ?_
  rintro r P1 K1 I1 O1 J1 ⟨rfl, rfl, rfl, hV1, hF1, z1, rfl, -⟩
  have hj1 := hj.1.cls hV1 hF1 rfl rfl rfl rfl rfl rfl
  refine g_istore C dLw_1071 (by decide) ?_
  refine g_aload_n C dLw_1073 rfl ?_
  refine g_sarg (k := 1) C hs hL hi (by decide) rfl rfl dLw_1074 dLw_1075 dLw_1077 dLw_1078 dLw_1079 ?_
  refine lx_callM (nc := nc + 1) (ns := ns + 6) (av := [.int (sv xs i 1)]) (rest := []) C dLw_1080 mfMo_led mvMo_led ln_Lw_137 hm (by decide) rfl (d_Mo_led hV1 hm hj1.2.2.2.2.1) rfl rfl (Nat.le_of_ble_eq_true rfl) ⟨rfl, rfl⟩ ⟨rfl, rfl⟩ (by omega) (fun z2 I2 J2 hV2 hF2 hR2 h62 p2 => ?_)
  refine g_istore C dLw_1083 (by decide) ?_
  refine g_goto 1126 C dLw_1085 (by decide) ?_
  exact g_sub (g_widen (by omega) (by omega) (kk _ _ _ _ _ ⟨hj1.ref hV2 (FQ.mL_2 hF2) hR2 h62, hj.2.1, L4.leave (J := J1) ⟨hj1, hj.2.1, hj.led hF1⟩ hV1 hV2 FQ.rf hF2⟩)) ⟨rfl, rfl, rfl, rfl, rfl, trivial⟩
theorem lw_loop {X : CTX} {b x mo out Ln : Nat} {xs : Nat → Int32} (C : Cx X bLw 7 "RoarMillLaw" room_1) (hLX : LX X) (hs : SCR X b Ln xs) (hL : Ln ≤ 3584) (kend : ∀ (P : List Nat) (K : Nat → Nat) (I : Nat → Nat → Int32) (O : Nat → Nat → Option Nat) (J : Nat → Nat → Int64) (L : List (Nat × Value)), GG X 7 P K I O J 601024 7293034 1132 L []) : ∀ (n : Nat) (P : List Nat) (K : Nat → Nat) (I : Nat → Nat → Int32) (O : Nat → Nat → Option Nat) (J : Nat → Nat → Int64) (nc ns : Nat) (i : Int32), 0 ≤ i.toInt → i.toInt ≤ (Ln : Int) → Int.toNat ((Ln : Int) - i.toInt) = n → nc + 2 * n + 8 ≤ 601024 → ns + 11 * n + 76 ≤ 7293034 → L4 P K I O x mo out → GG X 7 P K I O J nc ns 23 (LL b x mo out i) [] := by
  intro n
  induction n using Nat.strongRecOn with
  | ind n ih =>
  intro P K I O J nc ns i h0 h1 hn hnc hns hj
  have eL : (Int32.ofNat Ln).toInt = (Ln : Int) := by
    rw [show Int32.ofNat Ln = Int32.ofInt (Ln : Int) from Int32.ofInt_eq_ofNat.symm]; exact ofI (by omega)
  refine g_iload C dLw_23 rfl ?_
  refine g_aload_n C dLw_25 rfl ?_
  refine g_slen C hs dLw_26 ?_
  refine g_bipush (v := Int32.ofInt 7) C dLw_27 (by decide) ?_
  refine n_isub C dLw_29 eL (ofI (by decide)) (by omega) (fun z e => ?_)
  refine gt_icmp_gt 1132 C dLw_30 (by decide) rfl e (fun c => ?_) (fun c => ?_)
  · exact g_widen (by omega) (by omega) (kend _ _ _ _ _ _)
  have hi : 0 ≤ i.toInt ∧ i.toInt + 7 ≤ (Ln : Int) := by omega
  have hkk : KK X b x mo out i (nc + 8) (ns + 76) := by
    intro P' K' I' O' J' hj'
    refine g_iinc C dLw_1126 rfl rfl (by decide) ?_
    refine g_goto 23 C dLw_1129 (by decide) ?_
    have e7 : (i + Int32.ofInt 7).toInt = i.toInt + 7 := by rw [Int32.toInt_add, wr32, ofI (by decide)]; omega
    exact g_sub (ih (n - 7) (by omega) P' K' I' O' J' (nc + 8) (ns + 76) (i + Int32.ofInt 7) (by omega) (by omega) (by omega) (by omega) (by omega) hj') ⟨rfl, rfl, rfl, rfl, rfl, trivial⟩
  have hro : nc + 8 ≤ 601024 ∧ ns + 76 ≤ 7293034 := by omega
  refine g_aload_n C dLw_33 rfl ?_
  refine g_iload C dLw_34 rfl ?_
  refine g_sld C hs (vp_in_iff.mpr (by omega)) dLw_36 ?_
  refine g_bipush (v := Int32.ofInt 31) C dLw_37 (by decide) ?_
  refine a_iand C dLw_39 (fun w => ?_)
  by_cases q : w.toInt < 0 ∨ 28 < w.toInt
  · exact g_tOut 1126 C dLw_40 q (by decide) (g_widen (by omega) (by omega) (hkk _ _ _ _ _ hj))
  rcases (show w.toInt = 0 ∨ w.toInt = 1 ∨ w.toInt = 2 ∨ w.toInt = 3 ∨ w.toInt = 4 ∨ w.toInt = 5 ∨ w.toInt = 6 ∨ w.toInt = 7 ∨ w.toInt = 8 ∨ w.toInt = 9 ∨ w.toInt = 10 ∨ w.toInt = 11 ∨ w.toInt = 12 ∨ w.toInt = 13 ∨ w.toInt = 14 ∨ w.toInt = 15 ∨ w.toInt = 16 ∨ w.toInt = 17 ∨ w.toInt = 18 ∨ w.toInt = 19 ∨ w.toInt = 20 ∨ w.toInt = 21 ∨ w.toInt = 22 ∨ w.toInt = 23 ∨ w.toInt = 24 ∨ w.toInt = 25 ∨ w.toInt = 26 ∨ w.toInt = 27 ∨ w.toInt = 28 by omega) with q | q | q | q | q | q | q | q | q | q | q | q | q | q | q | q | q | q | q | q | q | q | q | q | q | q | q | q | q
  · exact g_tIn 172 C dLw_40 (by omega) (by omega) (by rw [q]; rfl) (by decide) (lwc_0 C hLX hs hL hi hj hro hkk)
  · exact g_tIn 245 C dLw_40 (by omega) (by omega) (by rw [q]; rfl) (by decide) (lwc_1 C hLX hs hL hi hj hro hkk)
  · exact g_tIn 270 C dLw_40 (by omega) (by omega) (by rw [q]; rfl) (by decide) (lwc_2 C hLX hs hL hi hj hro hkk)
  · exact g_tIn 283 C dLw_40 (by omega) (by omega) (by rw [q]; rfl) (by decide) (lwc_3 C hLX hs hL hi hj hro hkk)
  · exact g_tIn 296 C dLw_40 (by omega) (by omega) (by rw [q]; rfl) (by decide) (lwc_4 C hLX hs hL hi hj hro hkk)
  · exact g_tIn 345 C dLw_40 (by omega) (by omega) (by rw [q]; rfl) (by decide) (lwc_5 C hLX hs hL hi hj hro hkk)
  · exact g_tIn 398 C dLw_40 (by omega) (by omega) (by rw [q]; rfl) (by decide) (lwc_6 C hLX hs hL hi hj hro hkk)
  · exact g_tIn 423 C dLw_40 (by omega) (by omega) (by rw [q]; rfl) (by decide) (lwc_7 C hLX hs hL hi hj hro hkk)
  · exact g_tIn 460 C dLw_40 (by omega) (by omega) (by rw [q]; rfl) (by decide) (lwc_8 C hLX hs hL hi hj hro hkk)
  · exact g_tIn 485 C dLw_40 (by omega) (by omega) (by rw [q]; rfl) (by decide) (lwc_9 C hLX hs hL hi hj hro hkk)
  · exact g_tIn 546 C dLw_40 (by omega) (by omega) (by rw [q]; rfl) (by decide) (lwc_10 C hLX hs hL hi hj hro hkk)
  · exact g_tIn 607 C dLw_40 (by omega) (by omega) (by rw [q]; rfl) (by decide) (lwc_11 C hLX hs hL hi hj hro hkk)
  · exact g_tIn 620 C dLw_40 (by omega) (by omega) (by rw [q]; rfl) (by decide) (lwc_12 C hLX hs hL hi hj hro hkk)
  · exact g_tIn 633 C dLw_40 (by omega) (by omega) (by rw [q]; rfl) (by decide) (lwc_13 C hLX hs hL hi hj hro hkk)
  · exact g_tIn 670 C dLw_40 (by omega) (by omega) (by rw [q]; rfl) (by decide) (lwc_14 C hLX hs hL hi hj hro hkk)
  · exact g_tIn 695 C dLw_40 (by omega) (by omega) (by rw [q]; rfl) (by decide) (lwc_15 C hLX hs hL hi hj hro hkk)
  · exact g_tIn 768 C dLw_40 (by omega) (by omega) (by rw [q]; rfl) (by decide) (lwc_16 C hLX hs hL hi hj hro hkk)
  · exact g_tIn 781 C dLw_40 (by omega) (by omega) (by rw [q]; rfl) (by decide) (lwc_17 C hLX hs hL hi hj hro hkk)
  · exact g_tIn 806 C dLw_40 (by omega) (by omega) (by rw [q]; rfl) (by decide) (lwc_18 C hLX hs hL hi hj hro hkk)
  · exact g_tIn 831 C dLw_40 (by omega) (by omega) (by rw [q]; rfl) (by decide) (lwc_19 C hLX hs hL hi hj hro hkk)
  · exact g_tIn 856 C dLw_40 (by omega) (by omega) (by rw [q]; rfl) (by decide) (lwc_20 C hLX hs hL hi hj hro hkk)
  · exact g_tIn 881 C dLw_40 (by omega) (by omega) (by rw [q]; rfl) (by decide) (lwc_21 C hLX hs hL hi hj hro hkk)
  · exact g_tIn 934 C dLw_40 (by omega) (by omega) (by rw [q]; rfl) (by decide) (lwc_22 C hLX hs hL hi hj hro hkk)
  · exact g_tIn 947 C dLw_40 (by omega) (by omega) (by rw [q]; rfl) (by decide) (lwc_23 C hLX hs hL hi hj hro hkk)
  · exact g_tIn 960 C dLw_40 (by omega) (by omega) (by rw [q]; rfl) (by decide) (lwc_24 C hLX hs hL hi hj hro hkk)
  · exact g_tIn 973 C dLw_40 (by omega) (by omega) (by rw [q]; rfl) (by decide) (lwc_25 C hLX hs hL hi hj hro hkk)
  · exact g_tIn 1060 C dLw_40 (by omega) (by omega) (by rw [q]; rfl) (by decide) (lwc_26 C hLX hs hL hi hj hro hkk)
  · exact g_tIn 1088 C dLw_40 (by omega) (by omega) (by rw [q]; rfl) (by decide) (lwc_27 C hLX hs hL hi hj hro hkk)
  · exact g_tIn 1113 C dLw_40 (by omega) (by omega) (by rw [q]; rfl) (by decide) (lwc_28 C hLX hs hL hi hj hro hkk)
