theorem lwc_0 {X : CTX} {P : List Nat} {K : Nat → Nat} {I : Nat → Nat → Int32} {O : Nat → Nat → Option Nat} {J : Nat → Nat → Int64} {nc ns b x mo out RDR S TW TL RW Ln : Nat} {i : Int32} {xs : Nat → Int32} (C : Cx X bLw 7 "RoarMillLaw" room_1) (hLX : LX X) (hs : SX X b Ln xs) (hL : Ln ≤ 3584) (hi : 0 ≤ i.toInt ∧ i.toInt + 7 ≤ (Ln : Int)) (hj : LJ P K I O x mo out RDR S TW TL RW) (ht : HT I RDR mo) (hn : nc + 8 ≤ 601024 ∧ ns + 76 ≤ 7293034) (kk : KK X b x mo out i RDR S TW TL RW (nc + 8) (ns + 76)) : GG X 7 P K I O J nc ns 172 (LL b x mo out i) [] := by
  obtain ⟨-, hx, hm, ho, hR, hS, hTW, hTL, hRW, hM, hst⟩ := id hj
  have hro : nc ≤ 601024 ∧ ns ≤ 7293034 := by omega
  refine g_aload_n C dLw_172 rfl ?_
  refine g_sarg (k := 1) C hs hL hi (by decide) rfl rfl dLw_173 dLw_174 dLw_176 dLw_177 dLw_178 ?_
  refine g_sarg (k := 2) C hs hL hi (by decide) rfl rfl dLw_179 dLw_180 dLw_182 dLw_183 dLw_184 ?_
  refine g_sarg (k := 3) C hs hL hi (by decide) rfl rfl dLw_185 dLw_186 dLw_188 dLw_189 dLw_190 ?_
  refine g_sarg (k := 4) C hs hL hi (by decide) rfl rfl dLw_191 dLw_192 dLw_194 dLw_195 dLw_196 ?_
  refine g_sarg (k := 5) C hs hL hi (by decide) rfl rfl dLw_197 dLw_198 dLw_200 dLw_201 dLw_202 ?_
  refine lx_call (av := [.int (sv xs i 1), .int (sv xs i 2), .int (sv xs i 3), .int (sv xs i 4), .int (sv xs i 5)]) (rest := []) C dLw_203 mfRM_feed mvRM_feed ln_Lw_19 hx (by decide) rfl (cRM_feed hj.1 hx hR.1 hR.2 (by unfold HT at ht; omega)) (Or.inl rfl) rfl rfl (Nat.le_of_ble_eq_true rfl) ⟨rfl, rfl⟩ ⟨rfl, rfl⟩ hro (fun z1 I1 J1 hV1 hF1 hq1 => ?_)
  have hj1 := hj.keep hV1 hF1 rfl rfl rfl
  have e1 : (I1 mo 6).toInt = (I mo 6).toInt := by rw [(hF1 mo (by rw [hm.2]; rfl)).1]
  refine g_aload_n C dLw_206 rfl ?_
  refine g_sarg (k := 1) C hs hL hi (by decide) rfl rfl dLw_207 dLw_208 dLw_210 dLw_211 dLw_212 ?_
  refine g_sarg (k := 2) C hs hL hi (by decide) rfl rfl dLw_213 dLw_214 dLw_216 dLw_217 dLw_218 ?_
  refine g_sarg (k := 3) C hs hL hi (by decide) rfl rfl dLw_219 dLw_220 dLw_222 dLw_223 dLw_224 ?_
  refine g_sarg (k := 4) C hs hL hi (by decide) rfl rfl dLw_225 dLw_226 dLw_228 dLw_229 dLw_230 ?_
  refine g_sarg (k := 5) C hs hL hi (by decide) rfl rfl dLw_231 dLw_232 dLw_234 dLw_235 dLw_236 ?_
  refine lx_call (av := [.int (sv xs i 1), .int (sv xs i 2), .int (sv xs i 3), .int (sv xs i 4), .int (sv xs i 5)]) (rest := [.int z1]) C dLw_237 mfMo_feed mvMo_feed ln_Lw_23 hm (by decide) rfl (cMo_feed hV1 hm hS.1 hS.2) (Or.inl rfl) rfl rfl (Nat.le_of_ble_eq_true rfl) ⟨rfl, rfl⟩ ⟨rfl, rfl⟩ hro (fun z2 I2 J2 hV2 hF2 hq2 => ?_)
  have e2 : (I2 RDR 1).toInt = (I1 RDR 1).toInt := by rw [(hF2 RDR (by rw [hR.2.2]; rfl)).1]
  have hst1 := hj1.2.2.2.2.2.2.2.2.2.2
  unfold HT at ht
  refine gt_icmp_eq 1126 C dLw_240 (by decide) rfl rfl (fun c => ?_) (fun c => ?_)
  · exact g_widen (by omega) (by omega) (kk _ _ _ _ _ (hj1.ref hV2 hF2 (by omega)) (by unfold HT; omega))
  · exfalso; omega
theorem lwc_1 {X : CTX} {P : List Nat} {K : Nat → Nat} {I : Nat → Nat → Int32} {O : Nat → Nat → Option Nat} {J : Nat → Nat → Int64} {nc ns b x mo out RDR S TW TL RW Ln : Nat} {i : Int32} {xs : Nat → Int32} (C : Cx X bLw 7 "RoarMillLaw" room_1) (hLX : LX X) (hs : SX X b Ln xs) (hL : Ln ≤ 3584) (hi : 0 ≤ i.toInt ∧ i.toInt + 7 ≤ (Ln : Int)) (hj : LJ P K I O x mo out RDR S TW TL RW) (ht : HT I RDR mo) (hn : nc + 8 ≤ 601024 ∧ ns + 76 ≤ 7293034) (kk : KK X b x mo out i RDR S TW TL RW (nc + 8) (ns + 76)) : GG X 7 P K I O J nc ns 245 (LL b x mo out i) [] := by
  obtain ⟨-, hx, hm, ho, hR, hS, hTW, hTL, hRW, hM, hst⟩ := id hj
  have hne : mo ≠ x := fun q => by have := hm.2; rw [q, hx.2] at this; exact absurd this (by decide)
  refine g_aload_n C dLw_245 rfl ?_
  refine g_sarg (k := 1) C hs hL hi (by decide) rfl rfl dLw_246 dLw_247 dLw_249 dLw_250 dLw_251 ?_
  refine g_callV (av := fun _ => [.int (sv xs i 1)]) (rest := []) C dLw_252 mfRM_mill mvRM_mill ln_Lw_24 hx (by decide) rfl (cRM_mill hj.1 hx hR.1 hR.2) rfl rfl (Nat.le_of_ble_eq_true rfl) ⟨Nat.le_of_ble_eq_true rfl, Nat.le_of_ble_eq_true rfl⟩ (show nc + 0 ≤ 601024 ∧ ns + 0 ≤ 7293034 by omega) ?_
  rintro r P1 K1 I1 O1 J1 ⟨rfl, rfl, hV1, hF1, hO1, hO2, z1, rfl, hq1⟩
  refine g_pop C dLw_255 rfl ?_
  refine g_aload_n C dLw_256 rfl ?_
  refine g_sarg (k := 1) C hs hL hi (by decide) rfl rfl dLw_257 dLw_258 dLw_260 dLw_261 dLw_262 ?_
  have em := hO2 mo hne
  have hM1 : O1 mo 3 = none ∨ ∃ M, O1 mo 3 = some M ∧ (M ∈ P1 ∧ K1 M = 9) ∧ GM I1 M := by
    rw [em]
    rcases hM with hM | ⟨M, e1, e2, e3⟩
    · exact Or.inl hM
    · exact Or.inr ⟨M, e1, e2, e3.keep (hF1 M (by rw [e2.2]; rfl)).1⟩
  have k18 : (I1 mo 18).toInt = (I mo 18).toInt := by rw [(hF1 mo (by rw [hm.2]; rfl)).1]
  have k6 : (I1 mo 6).toInt = (I mo 6).toInt := by rw [(hF1 mo (by rw [hm.2]; rfl)).1]
  have k27 : (I1 S 27).toInt = (I S 27).toInt := by rw [(hF1 S (by rw [hS.2.2]; rfl)).1]
  refine g_callV (av := fun _ => [.int (sv xs i 1)]) (rest := []) C dLw_263 mfMo_mill mvMo_mill ln_Lw_27 hm (by decide) rfl (cMo_mill hV1 hm (by rw [em]; exact hS.1) hS.2 hM1) rfl rfl (Nat.le_of_ble_eq_true rfl) ⟨Nat.le_of_ble_eq_true rfl, Nat.le_of_ble_eq_true rfl⟩ (show nc + 0 + 8 ≤ 601024 ∧ ns + 0 + 76 ≤ 7293034 by omega) ?_
  rintro r P2 K2 I2 O2 J2 ⟨⟨z2, rfl⟩, hP, hV2, hO3, hM2, hs2, hq2⟩
  refine g_pop C dLw_266 rfl ?_
  refine g_goto 1126 C dLw_267 (by decide) ?_
  have up : ∀ {q κ : Nat}, q ∈ P1 ∧ K1 q = κ → q ∈ P2 ∧ K2 q = κ := fun h => ⟨(hP _ h.1).1, (hP _ h.1).2.1.trans h.2⟩
  have ex : O2 x = O1 x := (hP x hx.1).2.2.2 (fun q => hne q.symm)
  have kR : (I2 RDR 1).toInt = (I1 RDR 1).toInt := by rw [(hP RDR hR.2.1).2.2.1 (by rw [hR.2.2]; rfl)]
  have g27 := hV2.2 S (up hS.2).1 27
  rw [(up hS.2).2] at g27
  have g27 : 0 ≤ (I2 S 27).toInt ∧ (I2 S 27).toInt ≤ 240 := g27
  unfold HT at ht
  refine g_widen (nc' := nc + 8) (ns' := ns + 76) (show nc + 0 + 8 ≤ nc + 8 by omega) (show ns + 0 + 76 ≤ ns + 76 by omega) (kk _ _ _ _ _ ⟨hV2, up hx, up hm, up ho, ⟨by rw [ex, hO1 0 (by decide) (by decide)]; exact hR.1, up hR.2⟩, ⟨by rw [hO3 16 (by decide) (by decide), em]; exact hS.1, up hS.2⟩, ⟨by rw [hO3 17 (by decide) (by decide), em]; exact hTW.1, up hTW.2⟩, ⟨by rw [hO3 32 (by decide) (by decide), em]; exact hTL.1, up hTL.2⟩, ⟨by rw [hO3 33 (by decide) (by decide), em]; exact hRW.1, up hRW.2⟩, hM2, by omega⟩ (by unfold HT; omega))
theorem lwc_26 {X : CTX} {P : List Nat} {K : Nat → Nat} {I : Nat → Nat → Int32} {O : Nat → Nat → Option Nat} {J : Nat → Nat → Int64} {nc ns b x mo out RDR S TW TL RW Ln : Nat} {i : Int32} {xs : Nat → Int32} (C : Cx X bLw 7 "RoarMillLaw" room_1) (hLX : LX X) (hs : SX X b Ln xs) (hL : Ln ≤ 3584) (hi : 0 ≤ i.toInt ∧ i.toInt + 7 ≤ (Ln : Int)) (hj : LJ P K I O x mo out RDR S TW TL RW) (ht : HT I RDR mo) (hn : nc + 8 ≤ 601024 ∧ ns + 76 ≤ 7293034) (kk : KK X b x mo out i RDR S TW TL RW (nc + 8) (ns + 76)) : GG X 7 P K I O J nc ns 1060 (LL b x mo out i) [] := by
  obtain ⟨-, hx, hm, ho, hR, hS, hTW, hTL, hRW, hM, hst⟩ := id hj
  refine g_aload_n C dLw_1060 rfl ?_
  refine g_sarg (k := 1) C hs hL hi (by decide) rfl rfl dLw_1061 dLw_1062 dLw_1064 dLw_1065 dLw_1066 ?_
  refine g_aload_n C dLw_1067 rfl ?_
  refine g_callS2 (n := 3) (av := [.ref x, .int (sv xs i 1), .ref out]) (rest := []) C hLX dLw_1068 wLw_code wLw_ini (by decide) (by decide +kernel) wLw_stat wLw_link (cLw_led hj.1 hx ho) rfl rfl (Nat.le_of_ble_eq_true rfl) ⟨Nat.le_of_ble_eq_true rfl, Nat.le_of_ble_eq_true rfl⟩ (show nc + 1 ≤ 601024 ∧ ns + 6 ≤ 7293034 by omega) ?_
  rintro r P1 K1 I1 O1 J1 ⟨rfl, rfl, rfl, hV1, hF1, z1, rfl, -⟩
  have hj1 := hj.keep hV1 hF1 rfl rfl rfl
  have ht1 := ht.keep hj hF1 rfl rfl
  refine g_istore C dLw_1071 (by decide) ?_
  refine g_aload_n C dLw_1073 rfl ?_
  refine g_sarg (k := 1) C hs hL hi (by decide) rfl rfl dLw_1074 dLw_1075 dLw_1077 dLw_1078 dLw_1079 ?_
  refine lx_call (nc := nc + 1) (ns := ns + 6) (av := [.int (sv xs i 1)]) (rest := []) C dLw_1080 mfMo_led mvMo_led ln_Lw_137 hm (by decide) rfl (cMo_led hV1 hm hS.1 hS.2) (Or.inl rfl) rfl rfl (Nat.le_of_ble_eq_true rfl) ⟨rfl, rfl⟩ ⟨rfl, rfl⟩ (by omega) (fun z2 I2 J2 hV2 hF2 hq2 => ?_)
  refine g_istore C dLw_1083 (by decide) ?_
  refine g_goto 1126 C dLw_1085 (by decide) ?_
  exact g_sub (g_widen (by omega) (by omega) (kk _ _ _ _ _ (hj1.refs hV2 hF2 hq2) (ht1.ref hj1 hF2 hq2.1))) ⟨rfl, rfl, rfl, rfl, rfl, trivial⟩
