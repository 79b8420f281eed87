theorem AP.sv {P : List Nat} {K : Nat → Nat} {O : WO} {I I' : WI} {J : WJ} {T a f n m κ κ' : Nat} {g : Nat → Int32} {fr : Nat → Bool} (h : AP I I' T a f n m g) (hV : IV P K I O) (ha : K a = κ) (hT : K T = κ') (okT : ∀ k v, okI κ' k v) (oka : okI κ f (I' a f)) (hfa : fr κ = false) (hfT : fr κ' = false) : SV fr P K O I J I' J := by
  refine ⟨⟨hV.1, fun b hb k => ?_⟩, fun b hb => ⟨fun k => ?_, fun _ => rfl⟩⟩
  · by_cases c1 : b = T ∧ n ≤ k ∧ k < n + m
    · rw [c1.1, hT]; exact okT _ _
    by_cases c2 : b = a ∧ k = f
    · rw [c2.1, c2.2, ha]; exact oka
    rw [h.2.2 b k c1 c2]; exact hV.2 b hb k
  · have n1 : b ≠ T := fun z => by rw [z, hT, hfT] at hb; cases hb
    have n2 : b ≠ a := fun z => by rw [z, ha, hfa] at hb; cases hb
    exact h.2.2 b k (fun z => n1 z.1) (fun z => n2 z.1)
set_option maxHeartbeats 4000000 in
theorem lwc_0 {X : CTX} {P : List Nat} {K : Nat → Nat} {I : WI} {O : WO} {J : WJ} {nc ns b x mo out Ln : Nat} {i : Int32} {xs : Nat → Int32} (C : Cx X bLw 7 "RoarMillLaw" room_1) (hLX : LX X) (hs : SCR X b Ln xs) (hL : Ln ≤ 3584) (hi : 0 ≤ i.toInt ∧ i.toInt + 7 ≤ (Ln : Int)) (hj : L4 P K I O x mo out) (hn : nc + 8 ≤ 601024 ∧ ns + 76 ≤ 7293034) (kk : KK X b x mo out i (nc + 8) (ns + 76)) : GG X 7 P K I O J nc ns 172 (LL b x mo out i) [] := by
  obtain ⟨hV, hx, hm, ho, hR, hS, hH⟩ := hj.1
  have hro : nc ≤ 601024 ∧ ns ≤ 7293034 := by omega
  have t0 := rf_ok hV.1 hx (show sp 8 0 = some 5 from rfl)
  have tt := rf_ok hV.1 t0 (show sp 5 0 = some 15 from rfl)
  have t5 := rf_ok hV.1 hm (show sp 10 5 = some 30 from rfl)
  have t16 := rf_ok hV.1 hm (show sp 10 16 = some 31 from rfl)
  have nlb : ∀ {c d κ κ' : Nat}, K c = κ → K d = κ' → κ ≠ κ' → c ≠ d := fun h1 h2 h3 z => h3 (by rw [← h1, ← h2, z])
  obtain ⟨n, hnn⟩ : ∃ n : Nat, (I mo 6).toInt = (n : Int) := ⟨(I mo 6).toInt.toNat, by have := hH.2.1; omega⟩
  have h700 : n ≤ 700 := by have := hH.2.1; omega
  have hl : (I (rf O x 0) 1).toInt = (n : Int) := by rw [hH.1, hnn]
  have nTR : rf O (rf O x 0) 0 ≠ rf O x 0 := nlb tt.2 t0.2 (by decide)
  have n5m : rf O mo 5 ≠ mo := nlb t5.2 hm.2 (by decide)
  obtain ⟨⟨z1, I1⟩, e1, q1⟩ := c_feed (N := 2147483648) (J := J) (x1 := sv xs i 1) (x2 := sv xs i 2) (x3 := sv xs i 3) (x4 := sv xs i 4) (x5 := sv xs i 5) (Q := fun w => (n ≤ 680 ∧ AP I w.2 (rf O (rf O x 0) 0) (rf O x 0) 1 n 20 (fb5 (sv xs i 1) (sv xs i 2) (sv xs i 3) (sv xs i 4) (sv xs i 5))) ∨ (680 < n ∧ w.2 = I)) (by decide) hl h700 nTR (fun h I' hA => Or.inl ⟨h, hA⟩) (fun h => Or.inr ⟨h, rfl⟩)
  have q1 : (n ≤ 680 ∧ AP I I1 (rf O (rf O x 0) 0) (rf O x 0) 1 n 20 (fb5 (sv xs i 1) (sv xs i 2) (sv xs i 3) (sv xs i 4) (sv xs i 5))) ∨ (680 < n ∧ I1 = I) := q1
  have s1 : SV (frL [5, 15]) P K O I J I1 J := by
    rcases q1 with ⟨_, hA⟩ | ⟨_, rfl⟩
    · exact hA.sv hV t0.2 tt.2 (fun _ _ => trivial) trivial rfl rfl
    · exact SV.rf hV
  have k6 : I1 mo = I mo := by funext k; exact (s1.2 mo (by rw [hm.2]; rfl)).1 k
  have k5 : I1 (rf O mo 5) = I (rf O mo 5) := by funext k; exact (s1.2 _ (by rw [t5.2]; rfl)).1 k
  have hl2 : (I1 mo 6).toInt = (n : Int) := by rw [k6]; exact hnn
  obtain ⟨⟨z2, I2⟩, e2, q2⟩ := r_feed (N := 2147483648) (J := J) (x1 := sv xs i 1) (x2 := sv xs i 2) (x3 := sv xs i 3) (x4 := sv xs i 4) (x5 := sv xs i 5) (Q := fun w => (n ≤ 680 ∧ AP (up2 I1 mo 0 (Int32.ofInt 0)) w.2 (rf O mo 5) mo 6 n 20 (fb5 (sv xs i 1) (sv xs i 2) (sv xs i 3) (sv xs i 4) (sv xs i 5))) ∨ (680 < n ∧ w.2 = up2 I1 mo 0 (Int32.ofInt 0))) (by decide) hl2 h700 n5m (fun h I' hA => Or.inl ⟨h, hA⟩) (fun h => Or.inr ⟨h, rfl⟩)
  have q2 : (n ≤ 680 ∧ AP (up2 I1 mo 0 (Int32.ofInt 0)) I2 (rf O mo 5) mo 6 n 20 (fb5 (sv xs i 1) (sv xs i 2) (sv xs i 3) (sv xs i 4) (sv xs i 5))) ∨ (680 < n ∧ I2 = up2 I1 mo 0 (Int32.ofInt 0)) := q2
  have s0 : SV (frL [10, 30]) P K O I1 J (up2 I1 mo 0 (Int32.ofInt 0)) J := (SV.rf s1.1).putI (k := 0) (x := Int32.ofInt 0) hm.2 rfl trivial
  have s2 : SV (frL [10, 30]) P K O I1 J I2 J := by
    rcases q2 with ⟨h6, hA⟩ | ⟨_, rfl⟩
    · have s3 : SV (frL [10, 30]) P K O (up2 I1 mo 0 (Int32.ofInt 0)) J I2 J := hA.sv s0.1 hm.2 t5.2 (fun _ _ => trivial) (by show 0 ≤ Int32.toInt _ ∧ Int32.toInt _ ≤ 700; rw [hA.1]; omega) rfl rfl
      exact s0.call (fun _ h => h) s3.1 s3.2
    · exact s0
  have m18 : I2 mo 18 = I mo 18 := by
    rcases q2 with ⟨_, hA⟩ | ⟨_, rfl⟩
    · rw [hA.2.2 mo 18 (fun z => n5m z.1.symm) (fun z => absurd z.2 (by decide)), up2_ne _ _ (fun z => absurd z.2 (by decide)), k6]
    · rw [up2_ne _ _ (fun z => absurd z.2 (by decide)), k6]
  have mk : ∀ k, k ≠ 0 → k ≠ 6 → I2 mo k = I mo k := fun k k0 k6' => by
    rcases q2 with ⟨_, hA⟩ | ⟨_, rfl⟩
    · rw [hA.2.2 mo k (fun z => n5m z.1.symm) (fun z => k6' z.2), up2_ne _ _ (fun z => k0 z.2), k6]
    · rw [up2_ne _ _ (fun z => k0 z.2), k6]
  have m27 : I2 (rf O mo 16) 27 = I (rf O mo 16) 27 := by rw [(s2.2 _ (by rw [t16.2]; rfl)).1 27, (s1.2 _ (by rw [t16.2]; rfl)).1 27]
  have s12 : SV (frL [5, 10, 15, 30]) P K O I J I2 J := SV.call (⟨s1.1, fun c hc => s1.2 c (frL_le (fr := frL [5, 10, 15, 30]) (by decide) _ hc)⟩ : SV (frL [5, 10, 15, 30]) P K O I J I1 J) (fun κ h => frL_le (fr := frL [5, 10, 15, 30]) (by decide) κ h) s2.1 s2.2
  have kx : I2 x = I x := by funext k; exact (s12.2 x (by rw [hx.2]; rfl)).1 k
  have kl : ∀ f κ', sp 8 f = some κ' → frL [5, 10, 15, 30] κ' = true → I2 (rf O x f) = I (rf O x f) := fun f κ' h1 h2 => by funext k; exact (s12.2 _ (by rw [(rf_ok hV.1 hx h1).2]; exact h2)).1 k
  have km : ∀ f κ', sp 10 f = some κ' → frL [5, 10, 15, 30] κ' = true → I2 (rf O mo f) = I (rf O mo f) := fun f κ' h1 h2 => by funext k; exact (s12.2 _ (by rw [(rf_ok hV.1 hm h1).2]; exact h2)).1 k
  have R2 : I2 (rf O x 0) = I1 (rf O x 0) := by funext k; exact (s2.2 _ (by rw [t0.2]; rfl)).1 k
  have T2 : I2 (rf O (rf O x 0) 0) = I1 (rf O (rf O x 0) 0) := by funext k; exact (s2.2 _ (by rw [tt.2]; rfl)).1 k
  have hh : HT3 I2 O x mo := by
    unfold HT3
    rw [R2, T2]
    rcases q1 with ⟨c1, hA⟩ | ⟨c1, e3⟩
    · rcases q2 with ⟨c2, hB⟩ | ⟨c2, _⟩
      · refine ⟨by rw [hA.1, hB.1], by rw [hB.1]; omega, fun j hj2 => ?_⟩
        rw [hB.1] at hj2
        by_cases c3 : j < n
        · rw [hA.2.2 _ j (fun z => by omega) (fun z => nTR z.1), hB.2.2 _ j (fun z => by omega) (fun z => n5m z.1), up2_row _ _ n5m, k5]
          exact hH.2.2 j (by omega)
        · obtain ⟨d, rfl⟩ : ∃ d, j = n + d := ⟨j - n, by omega⟩
          rw [hA.2.1 d (by omega), hB.2.1 d (by omega)]
          exact ⟨rfl, nb8_b _ _⟩
      · omega
    · rcases q2 with ⟨c2, _⟩ | ⟨c2, e4⟩
      · omega
      · rw [e3, e4, up2_ne _ _ (fun z => absurd z.2 (by decide)), up2_row _ _ n5m, k6, k5]
        exact hH
  refine g_aload_n C dLw_172 rfl ?_
  refine g_sarg (k := 1) C hs hL hi (by decide) rfl rfl dLw_173 dLw_174 dLw_176 dLw_177 dLw_178 ?_
  refine g_sarg (k := 2) C hs hL hi (by decide) rfl rfl dLw_179 dLw_180 dLw_182 dLw_183 dLw_184 ?_
  refine g_sarg (k := 3) C hs hL hi (by decide) rfl rfl dLw_185 dLw_186 dLw_188 dLw_189 dLw_190 ?_
  refine g_sarg (k := 4) C hs hL hi (by decide) rfl rfl dLw_191 dLw_192 dLw_194 dLw_195 dLw_196 ?_
  refine g_sarg (k := 5) C hs hL hi (by decide) rfl rfl dLw_197 dLw_198 dLw_200 dLw_201 dLw_202 ?_
  refine x_callVi (av := fun _ => [.int (sv xs i 1), .int (sv xs i 2), .int (sv xs i 3), .int (sv xs i 4), .int (sv xs i 5)]) (rest := []) C dLw_203 mfRM_feed mvRM_feed ln_Lw_19 hx (by decide) rfl (f_RM_feed hV.1 hx e1) rfl rfl (Nat.le_of_ble_eq_true rfl) ⟨Nat.le_of_ble_eq_true rfl, Nat.le_of_ble_eq_true rfl⟩ ⟨rfl, rfl⟩ hro ?_
  refine g_pop C dLw_206 rfl ?_
  refine g_aload_n C dLw_207 rfl ?_
  refine g_sarg (k := 1) C hs hL hi (by decide) rfl rfl dLw_208 dLw_209 dLw_211 dLw_212 dLw_213 ?_
  refine g_sarg (k := 2) C hs hL hi (by decide) rfl rfl dLw_214 dLw_215 dLw_217 dLw_218 dLw_219 ?_
  refine g_sarg (k := 3) C hs hL hi (by decide) rfl rfl dLw_220 dLw_221 dLw_223 dLw_224 dLw_225 ?_
  refine g_sarg (k := 4) C hs hL hi (by decide) rfl rfl dLw_226 dLw_227 dLw_229 dLw_230 dLw_231 ?_
  refine g_sarg (k := 5) C hs hL hi (by decide) rfl rfl dLw_232 dLw_233 dLw_235 dLw_236 dLw_237 ?_
  refine x_callVi (av := fun _ => [.int (sv xs i 1), .int (sv xs i 2), .int (sv xs i 3), .int (sv xs i 4), .int (sv xs i 5)]) (rest := []) C dLw_238 mfMo_feed mvMo_feed ln_Lw_23 hm (by decide) rfl (f_Mo_feed hV.1 hm e2) rfl rfl (Nat.le_of_ble_eq_true rfl) ⟨Nat.le_of_ble_eq_true rfl, Nat.le_of_ble_eq_true rfl⟩ ⟨rfl, rfl⟩ hro ?_
  refine g_pop C dLw_241 rfl ?_
  refine g_goto 1126 C dLw_242 (by decide) ?_
  refine g_widen (by omega) (by omega) (kk _ _ _ _ _ ⟨⟨s12.1, hx, hm, ho, hR.keep1 s12.2 rfl (by rw [m18, m27]; exact hR.2), hS, hh⟩, hj.2.1, hj.2.2.same (by rw [kx]) (by rw [kx]) (by rw [kx]) (mk 13 (by decide) (by decide)) (mk 2 (by decide) (by decide)) (kl 1 3 rfl rfl) (fun hq => ?_) (kl 9 7 rfl rfl) (km 33 39 rfl rfl)⟩)
  rcases hR.1 with w | ⟨w, _⟩
  · exact absurd w hq
  · funext k; exact (s12.2 _ (by rw [w.2.2]; rfl)).1 k
