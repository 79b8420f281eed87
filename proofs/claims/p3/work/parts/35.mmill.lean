section HROWS
variable {X : CTX} {cc : ByteArray} {nL : Nat} {own : String} {rm : Room} {P : List Nat} {K : Nat → Nat} {I I0 : Nat → Nat → Int32} {O : Nat → Nat → Option Nat} {J J0 : Nat → Nat → Int64} {nc ns pc : Nat} {L : List (Nat × Value)} {st : List Value}
theorem h_iret {fr : Nat → Bool} {post : PST} {v : Int32} {ρ : Int32 → (Nat → Nat → Int32) → Prop} (C : Cx X cc nL own rm) (E : Rx X (some .int) post rm) (hpost : ∀ z I_ J_, SV fr P K O I0 J0 I_ J_ → ρ z I_ → post (some (.int z)) P K I_ O J_) (d : decode cc pc = .ok (.ireturn, 1)) (hro : nc ≤ rm.cells ∧ ns ≤ rm.slots) (hV : SV fr P K O I0 J0 I J) (hρ : ρ v I) : GG X nL P K I O J nc ns pc L [.int v] := g_iret C E d hro.1 hro.2 (hpost v I J hV hρ)
theorem pw_relab {cy : Nat → ClassId} {K' : Nat → Nat} (h : ∀ b, b ∈ P → K' b = K b) : pw cy P K' I O J = pw cy P K I O J := by
  unfold pw va_pl
  refine List.map_congr_left (fun b hb => ?_)
  show (b, cEr cy (K' b) (I b) (O b) (J b)) = (b, cEr cy (K b) (I b) (O b) (J b))
  rw [h b hb]
theorem g_relab {K' : Nat → Nat} (h : ∀ b, b ∈ P → K' b = K b) (k : GG X nL P K' I O J nc ns pc L st) : GG X nL P K I O J nc ns pc L st := by
  obtain ⟨p, l, e, R, s, m, args, below, meth, c, Q, A, D, cy, ad⟩ := X
  intro ls H locs hl hP hD hS
  have e1 := pw_relab (cy := cy) (I := I) (O := O) (J := J) h
  exact k ls H locs hl (by rw [e1]; exact hP) (by rw [e1]; exact hD) hS
theorem fresh_out (P : List Nat) : ∃ B, B ∉ P := by
  have h : ∀ (P : List Nat), ∃ n, ∀ b, b ∈ P → b < n := by
    intro P
    induction P with
    | nil => exact ⟨0, fun b hb => absurd hb List.not_mem_nil⟩
    | cons c t ih =>
      obtain ⟨n, hn⟩ := ih
      refine ⟨n + c + 1, fun b hb => ?_⟩
      rcases List.mem_cons.mp hb with e | e
      · omega
      · have := hn b e; omega
  obtain ⟨n, hn⟩ := h P
  exact ⟨n, fun z => Nat.lt_irrefl _ (hn n z)⟩
theorem GM.mk {M : Nat} (h1 : 1 ≤ (I M 0).toInt) (h2 : 1 ≤ (I M 4).toInt) (h3 : 1 ≤ (I M 7).toInt) : GM I M := by unfold GM; exact ⟨h1, h2, h3⟩
end HROWS
set_option maxHeartbeats 4000000 in
set_option maxRecDepth 100000 in
theorem millD {X : CTX} {P : List Nat} {K : Nat → Nat} {I0 : Nat → Nat → Int32} {O : Nat → Nat → Option Nat} {J0 : Nat → Nat → Int64} {post : PST} (C : Cx X bMo_mill 3 "RoarMillModel" ({ frames := 11, cells := 8, slots := 76, locals := 237 } : Room)) (E : Rx X (some .int) post ({ frames := 11, cells := 8, slots := 76, locals := 237 } : Room)) (hV : IV P K I0 O) {a0 : Nat} (h0 : a0 ∈ P ∧ K a0 = 10) {S : Nat} (hSo : O a0 16 = some S) (hSk : S ∈ P ∧ K S = 31) {x1 : Int32} {M : Nat} (hMo : O a0 3 = some M) (hMk : M ∈ P ∧ K M = 9) (hGM : GM I0 M) (hpost : ∀ z I_ J_, SV frM P K O I0 J0 I_ J_ → (fun _ I_ => (Int32.toInt (I_ a0 18) = 0) ∧ (I_ a0 6).toInt = (I0 a0 6).toInt) z I_ → post (some (.int z)) P K I_ O J_) : GG X 3 P K I0 O J0 8 76 97 [(0, .ref a0), (1, .int x1)] [] := by
  have r1 := rg x1
  have oS := hV.2 S hSk.1 27
  rw [hSk.2] at oS
  have oS : 0 ≤ (I0 S 27).toInt ∧ (I0 S 27).toInt ≤ 240 := oS
  have hV0 : SV frM P K O I0 J0 I0 J0 := SV.rf hV
  refine g_iconst (v := Int32.ofInt (0)) C dMo_mill_97 (by decide) ?_
  refine g_istore_n (i := 2) C dMo_mill_98 rfl (by decide) ?_
  have lp_99 : ∀ (nn_99 : Nat) (x2_99 : Int32) (Iw1 : Nat → Nat → Int32) (Jw1 : Nat → Nat → Int64), Int.toNat (37 - x2_99.toInt) = nn_99 → (0 ≤ Int32.toInt x2_99 ∧ Int32.toInt x2_99 ≤ 37) → (Int32.toInt (Iw1 a0 6) = Int32.toInt (I0 a0 6)) → SV frM P K O I0 J0 Iw1 Jw1 → GG X 3 P K Iw1 O Jw1 8 76 99 [(0, .ref a0), (1, .int x1), (2, .int x2_99)] [] := by
    intro nn_99
    induction nn_99 using Nat.strongRecOn with
    | ind nn_99 ih_99 =>
    intro x2_99 Iw1 Jw1 hn_99 iv0_99 iv1_99 hVw1
    have rg2_99 := rg x2_99
    refine g_iload_n C dMo_mill_99 rfl ?_
    refine g_bipush (v := Int32.ofInt (37)) C dMo_mill_100 (by decide) ?_
    refine gt_icmp_ge 118 C dMo_mill_102 (by decide) rfl (ofI (by decide)) (fun c_102 => ?_) (fun c_102 => ?_)
    · skip
      refine g_aload_n C dMo_mill_118 rfl ?_
      refine gt_getS C dMo_mill_119 fl_Mo_17 h0 hSo ?_
      refine g_bipush (v := Int32.ofInt (34)) C dMo_mill_122 (by decide) ?_
      refine g_iconst (v := Int32.ofInt (1)) C dMo_mill_124 (by decide) ?_
      refine gt_iastc (c := 34) C dMo_mill_125 hSk (by decide) rfl (ofI (by decide)) (n := 37) rfl (by decide) (by decide) hVw1 rfl trivial (fun Iw2 eIw2 hVw2 => ?_)
      have tkw2_a0_18 : (Iw2 a0 18).toInt = (Iw1 a0 18).toInt := by rw [eIw2, up2_ne _ _ (fun z => by have q := h0.2; rw [z.1, hSk.2] at q; exact absurd q (by decide))]
      have tkw2_a0_6 : (Iw2 a0 6).toInt = (Iw1 a0 6).toInt := by rw [eIw2, up2_ne _ _ (fun z => by have q := h0.2; rw [z.1, hSk.2] at q; exact absurd q (by decide))]
      refine g_aload_n C dMo_mill_126 rfl ?_
      refine gt_getS C dMo_mill_127 fl_Mo_17 h0 hSo ?_
      refine g_bipush (v := Int32.ofInt (35)) C dMo_mill_130 (by decide) ?_
      refine g_iconst (v := Int32.ofInt (1)) C dMo_mill_132 (by decide) ?_
      refine gt_iastc (c := 35) C dMo_mill_133 hSk (by decide) rfl (ofI (by decide)) (n := 37) rfl (by decide) (by decide) hVw2 rfl trivial (fun Iw3 eIw3 hVw3 => ?_)
      have tkw3_a0_18 : (Iw3 a0 18).toInt = (Iw2 a0 18).toInt := by rw [eIw3, up2_ne _ _ (fun z => by have q := h0.2; rw [z.1, hSk.2] at q; exact absurd q (by decide))]
      have tkw3_a0_6 : (Iw3 a0 6).toInt = (Iw2 a0 6).toInt := by rw [eIw3, up2_ne _ _ (fun z => by have q := h0.2; rw [z.1, hSk.2] at q; exact absurd q (by decide))]
      refine g_iconst (v := Int32.ofInt (0)) C dMo_mill_134 (by decide) ?_
      refine g_istore_n (i := 2) C dMo_mill_135 rfl (by decide) ?_
      have lp_136 : ∀ (nn_136 : Nat) (x2_136 : Int32) (Iw4 : Nat → Nat → Int32) (Jw4 : Nat → Nat → Int64), Int.toNat (12 - x2_136.toInt) = nn_136 → (0 ≤ Int32.toInt x2_136 ∧ Int32.toInt x2_136 ≤ 12) → (Int32.toInt (Iw4 a0 6) = Int32.toInt (I0 a0 6)) → SV frM P K O I0 J0 Iw4 Jw4 → GG X 3 P K Iw4 O Jw4 8 76 136 [(0, .ref a0), (1, .int x1), (2, .int x2_136)] [] := by
        intro nn_136
        induction nn_136 using Nat.strongRecOn with
        | ind nn_136 ih_136 =>
        intro x2_136 Iw4 Jw4 hn_136 iv0_136 iv1_136 hVw4
        have rg2_136 := rg x2_136
        refine g_iload_n C dMo_mill_136 rfl ?_
        refine g_bipush (v := Int32.ofInt (12)) C dMo_mill_137 (by decide) ?_
        refine gt_icmp_ge 169 C dMo_mill_139 (by decide) rfl (ofI (by decide)) (fun c_139 => ?_) (fun c_139 => ?_)
        · skip
          refine g_aload_n C dMo_mill_169 rfl ?_
          refine g_iconst (v := Int32.ofInt (0)) C dMo_mill_170 (by decide) ?_
          refine gt_puti C dMo_mill_171 fl_Mo_293 h0 hVw4 rfl (by show 0 ≤ Int32.toInt _ ∧ Int32.toInt _ ≤ 24; rw [ofI (by decide)]; omega) rfl (Or.inl rfl) (fun Iw5 eIw5 hVw5 => ?_)
          have tkw5_a0_18 : (Iw5 a0 18).toInt = (Iw4 a0 18).toInt := by rw [eIw5, up2_ne _ _ (fun z => absurd z.2 (by decide))]
          have tkw5_a0_6 : (Iw5 a0 6).toInt = (Iw4 a0 6).toInt := by rw [eIw5, up2_ne _ _ (fun z => absurd z.2 (by decide))]
          refine g_aload_n C dMo_mill_174 rfl ?_
          refine gt_getr C dMo_mill_175 fl_Mo_60 h0 hVw5.1.1 rfl (fun b_175 q_175 hb_175 => ?_)
          refine g_iconst (v := Int32.ofInt (0)) C dMo_mill_178 (by decide) ?_
          refine g_iconst (v := Int32.ofInt (0)) C dMo_mill_179 (by decide) ?_
          refine gt_iastc (c := 0) C dMo_mill_180 hb_175 (by decide) rfl (ofI (by decide)) (n := 2) rfl (by decide) (by decide) hVw5 rfl (by show 0 ≤ Int32.toInt _ ∧ Int32.toInt _ ≤ 8; rw [ofI (by decide)]; omega) (fun Iw6 eIw6 hVw6 => ?_)
          have tkw6_a0_18 : (Iw6 a0 18).toInt = (Iw5 a0 18).toInt := by rw [eIw6, up2_ne _ _ (fun z => by have q := h0.2; rw [z.1, hb_175.2] at q; exact absurd q (by decide))]
          have tkw6_a0_6 : (Iw6 a0 6).toInt = (Iw5 a0 6).toInt := by rw [eIw6, up2_ne _ _ (fun z => by have q := h0.2; rw [z.1, hb_175.2] at q; exact absurd q (by decide))]
          refine g_aload_n C dMo_mill_181 rfl ?_
          refine gt_getS C dMo_mill_182 fl_Mo_60 h0 q_175 ?_
          refine g_iconst (v := Int32.ofInt (1)) C dMo_mill_185 (by decide) ?_
          refine g_iconst (v := Int32.ofInt (0)) C dMo_mill_186 (by decide) ?_
          refine gt_iastc (c := 1) C dMo_mill_187 hb_175 (by decide) rfl (ofI (by decide)) (n := 2) rfl (by decide) (by decide) hVw6 rfl (by show 0 ≤ Int32.toInt _ ∧ Int32.toInt _ ≤ 8; rw [ofI (by decide)]; omega) (fun Iw7 eIw7 hVw7 => ?_)
          have tkw7_a0_18 : (Iw7 a0 18).toInt = (Iw6 a0 18).toInt := by rw [eIw7, up2_ne _ _ (fun z => by have q := h0.2; rw [z.1, hb_175.2] at q; exact absurd q (by decide))]
          have tkw7_a0_6 : (Iw7 a0 6).toInt = (Iw6 a0 6).toInt := by rw [eIw7, up2_ne _ _ (fun z => by have q := h0.2; rw [z.1, hb_175.2] at q; exact absurd q (by decide))]
          refine g_aload_n C dMo_mill_188 rfl ?_
          refine g_iconst (v := Int32.ofInt (0)) C dMo_mill_189 (by decide) ?_
          refine gt_puti C dMo_mill_190 fl_Mo_296 h0 hVw7 rfl (by show 0 ≤ Int32.toInt _ ∧ Int32.toInt _ ≤ 5; rw [ofI (by decide)]; omega) rfl (Or.inl rfl) (fun Iw8 eIw8 hVw8 => ?_)
          have tkw8_a0_18 : (Iw8 a0 18).toInt = (Iw7 a0 18).toInt := by rw [eIw8, up2_ne _ _ (fun z => absurd z.2 (by decide))]
          have tkw8_a0_6 : (Iw8 a0 6).toInt = (Iw7 a0 6).toInt := by rw [eIw8, up2_ne _ _ (fun z => absurd z.2 (by decide))]
          refine g_aload_n C dMo_mill_193 rfl ?_
          refine g_iconst (v := Int32.ofInt (0)) C dMo_mill_194 (by decide) ?_
          refine gt_puti C dMo_mill_195 fl_Mo_299 h0 hVw8 rfl (by show 0 ≤ Int32.toInt _ ∧ Int32.toInt _ ≤ 240; rw [ofI (by decide)]; omega) rfl (Or.inl rfl) (fun Iw9 eIw9 hVw9 => ?_)
          have tkw9_a0_18 : (Iw9 a0 18).toInt = 0 := by rw [eIw9, up2_self]; exact ofI (by decide)
          have tkw9_a0_6 : (Iw9 a0 6).toInt = (Iw8 a0 6).toInt := by rw [eIw9, up2_ne _ _ (fun z => absurd z.2 (by decide))]
          refine g_aload_n C dMo_mill_198 rfl ?_
          refine g_aload_n C dMo_mill_199 rfl ?_
          refine gt_getS C dMo_mill_200 fl_Mo_290 h0 hMo ?_
          refine g_geti C dMo_mill_203 fl_Mo_191 hMk ?_
          refine s_callV_i (av := fun ad => [.int (Iw9 M 8)]) C dMo_mill_206 mfMo_done mvMo_done ln_Mo_302 h0 (by decide) rfl hVw9 (frL_le (by decide)) (cMo_done hVw9.1 h0) rfl rfl (Nat.le_of_ble_eq_true rfl) ⟨Nat.le_of_ble_eq_true rfl, Nat.le_of_ble_eq_true rfl⟩ ⟨rfl, rfl⟩ ⟨Nat.le_of_ble_eq_true rfl, Nat.le_of_ble_eq_true rfl⟩ (fun Iw10 Jw10 hVw10 hFw10 z_206 p_206 => ?_)
          have rz_206 := rg z_206
          try dsimp only at p_206
          exact h_iret C E hpost dMo_mill_209 ⟨Nat.le_of_ble_eq_true rfl, Nat.le_of_ble_eq_true rfl⟩ hVw10 (by (try dsimp only); omega)
        · skip
          refine g_aload_n C dMo_mill_142 rfl ?_
          refine gt_getr C dMo_mill_143 fl_Mo_27 h0 hVw4.1.1 rfl (fun b_143 q_143 hb_143 => ?_)
          refine g_iload_n C dMo_mill_146 rfl ?_
          refine g_iconst (v := Int32.ofInt (1)) C dMo_mill_147 (by decide) ?_
          refine gt_iast C dMo_mill_148 hb_143 (by decide) rfl rfl (n := 12) rfl (by omega) hVw4 rfl trivial (fun Iw11 eIw11 hVw11 => ?_)
          have tkw11_a0_18 : (Iw11 a0 18).toInt = (Iw4 a0 18).toInt := by rw [eIw11, up2_ne _ _ (fun z => by have q := h0.2; rw [z.1, hb_143.2] at q; exact absurd q (by decide))]
          have tkw11_a0_6 : (Iw11 a0 6).toInt = (Iw4 a0 6).toInt := by rw [eIw11, up2_ne _ _ (fun z => by have q := h0.2; rw [z.1, hb_143.2] at q; exact absurd q (by decide))]
          refine g_aload_n C dMo_mill_149 rfl ?_
          refine gt_getr C dMo_mill_150 fl_Mo_30 h0 hVw11.1.1 rfl (fun b_150 q_150 hb_150 => ?_)
          refine g_iload_n C dMo_mill_153 rfl ?_
          refine g_iconst (v := Int32.ofInt (1)) C dMo_mill_154 (by decide) ?_
          refine gt_iast C dMo_mill_155 hb_150 (by decide) rfl rfl (n := 12) rfl (by omega) hVw11 rfl trivial (fun Iw12 eIw12 hVw12 => ?_)
          have tkw12_a0_18 : (Iw12 a0 18).toInt = (Iw11 a0 18).toInt := by rw [eIw12, up2_ne _ _ (fun z => by have q := h0.2; rw [z.1, hb_150.2] at q; exact absurd q (by decide))]
          have tkw12_a0_6 : (Iw12 a0 6).toInt = (Iw11 a0 6).toInt := by rw [eIw12, up2_ne _ _ (fun z => by have q := h0.2; rw [z.1, hb_150.2] at q; exact absurd q (by decide))]
          refine g_aload_n C dMo_mill_156 rfl ?_
          refine gt_getr C dMo_mill_157 fl_Mo_33 h0 hVw12.1.1 rfl (fun b_157 q_157 hb_157 => ?_)
          refine g_iload_n C dMo_mill_160 rfl ?_
          refine g_iconst (v := Int32.ofInt (0)) C dMo_mill_161 (by decide) ?_
          refine gt_iast C dMo_mill_162 hb_157 (by decide) rfl rfl (n := 12) rfl (by omega) hVw12 rfl (by show 0 ≤ Int32.toInt _ ∧ Int32.toInt _ ≤ 3; rw [ofI (by decide)]; omega) (fun Iw13 eIw13 hVw13 => ?_)
          have tkw13_a0_18 : (Iw13 a0 18).toInt = (Iw12 a0 18).toInt := by rw [eIw13, up2_ne _ _ (fun z => by have q := h0.2; rw [z.1, hb_157.2] at q; exact absurd q (by decide))]
          have tkw13_a0_6 : (Iw13 a0 6).toInt = (Iw12 a0 6).toInt := by rw [eIw13, up2_ne _ _ (fun z => by have q := h0.2; rw [z.1, hb_157.2] at q; exact absurd q (by decide))]
          first | refine n_iinc C dMo_mill_163 rfl rfl (by decide) (by decide) (by omega) (fun z_163 e_163 => ?_) | refine a_iinc C dMo_mill_163 rfl (by decide) (fun z_163 => ?_)
          refine g_goto 136 C dMo_mill_166 (by decide) ?_
          exact g_sub (ih_136 _ (by omega) z_163 Iw13 Jw4 rfl (by omega) (by omega) hVw13) ⟨rfl, rfl, rfl, trivial⟩
      exact g_sub (lp_136 _ (Int32.ofInt (0)) Iw3 Jw1 rfl (by have hci : Int32.toInt (Int32.ofInt (0)) = 0 := ofI (by decide); omega) (by omega) hVw3) ⟨rfl, rfl, rfl, trivial⟩
    · skip
      refine g_aload_n C dMo_mill_105 rfl ?_
      refine gt_getS C dMo_mill_106 fl_Mo_17 h0 hSo ?_
      refine g_iload_n C dMo_mill_109 rfl ?_
      refine g_iconst (v := Int32.ofInt (0)) C dMo_mill_110 (by decide) ?_
      refine gt_iast C dMo_mill_111 hSk (by decide) rfl rfl (n := 37) rfl (by omega) hVw1 rfl (okS_0 (by decide)) (fun Iw14 eIw14 hVw14 => ?_)
      have tkw14_a0_18 : (Iw14 a0 18).toInt = (Iw1 a0 18).toInt := by rw [eIw14, up2_ne _ _ (fun z => by have q := h0.2; rw [z.1, hSk.2] at q; exact absurd q (by decide))]
      have tkw14_a0_6 : (Iw14 a0 6).toInt = (Iw1 a0 6).toInt := by rw [eIw14, up2_ne _ _ (fun z => by have q := h0.2; rw [z.1, hSk.2] at q; exact absurd q (by decide))]
      first | refine n_iinc C dMo_mill_112 rfl rfl (by decide) (by decide) (by omega) (fun z_112 e_112 => ?_) | refine a_iinc C dMo_mill_112 rfl (by decide) (fun z_112 => ?_)
      refine g_goto 99 C dMo_mill_115 (by decide) ?_
      exact g_sub (ih_99 _ (by omega) z_112 Iw14 Jw1 rfl (by omega) (by omega) hVw14) ⟨rfl, rfl, rfl, trivial⟩
  exact g_sub (lp_99 _ (Int32.ofInt (0)) I0 J0 rfl (by have hci : Int32.toInt (Int32.ofInt (0)) = 0 := ofI (by decide); omega) (by omega) hV0) ⟨rfl, rfl, rfl, trivial⟩
set_option maxHeartbeats 4000000 in
set_option maxRecDepth 100000 in
theorem millB {X : CTX} {P : List Nat} {K : Nat → Nat} {I0 : Nat → Nat → Int32} {O : Nat → Nat → Option Nat} {J0 : Nat → Nat → Int64} {post : PST} (C : Cx X bMo_mill 3 "RoarMillModel" ({ frames := 11, cells := 8, slots := 76, locals := 237 } : Room)) (E : Rx X (some .int) post ({ frames := 11, cells := 8, slots := 76, locals := 237 } : Room)) (hV : IV P K I0 O) {a0 : Nat} (h0 : a0 ∈ P ∧ K a0 = 10) {S : Nat} (hSo : O a0 16 = some S) (hSk : S ∈ P ∧ K S = 31) {x1 : Int32} {F B : Nat} (hFo : O a0 4 = some F) (hFk : F ∈ P ∧ K F = 9) (hBk : True ∧ K B = 9) (hBF : B ≠ F) (hat : Int32.toInt (I0 a0 8) = 0) (hfa : Int32.toInt (I0 a0 13) = 0) (hF0 : Int32.toInt (I0 F 0) = -1 ∧ Int32.toInt (I0 F 4) = -1 ∧ Int32.toInt (I0 F 7) = 0 ∧ Int32.toInt (I0 F 8) = 0 ∧ Int32.toInt (I0 F 9) = 0 ∧ Int32.toInt (I0 F 10) = 0) (hT : ∀ I_ J_, SV frR P K O I0 J0 I_ J_ → (Int32.toInt (I_ a0 6) = Int32.toInt (I0 a0 6) ∧ 1 ≤ Int32.toInt (I_ F 0) ∧ 1 ≤ Int32.toInt (I_ F 4) ∧ 1 ≤ Int32.toInt (I_ F 7)) → GG X 3 P K I_ O J_ 8 76 89 [(0, .ref a0), (1, .int x1)] []) (hpost : ∀ z I_ J_, SV frR P K O I0 J0 I_ J_ → (fun _ I_ => (I_ a0 6).toInt = (I0 a0 6).toInt ∧ (I_ a0 18).toInt = (I0 a0 18).toInt ∧ (I_ S 27).toInt = (I0 S 27).toInt ∧ (I_ B 0).toInt = (I0 B 0).toInt ∧ (I_ B 4).toInt = (I0 B 4).toInt ∧ (I_ B 7).toInt = (I0 B 7).toInt) z I_ → post (some (.int z)) P K I_ O J_) : GG X 3 P K I0 O J0 8 76 54 [(0, .ref a0), (1, .int x1)] [] := by
  have r1 := rg x1
  have oS := hV.2 S hSk.1 27
  rw [hSk.2] at oS
  have oS : 0 ≤ (I0 S 27).toInt ∧ (I0 S 27).toInt ≤ 240 := oS
  have ok_a0_7 := hV.2 a0 h0.1 7
  rw [h0.2] at ok_a0_7
  have ok_a0_7 : 0 ≤ (I0 a0 7).toInt ∧ (I0 a0 7).toInt ≤ 700 := ok_a0_7
  have ok_a0_8 := hV.2 a0 h0.1 8
  rw [h0.2] at ok_a0_8
  have ok_a0_8 : 0 ≤ (I0 a0 8).toInt ∧ (I0 a0 8).toInt ≤ 700 := ok_a0_8
  have hV0 : SV frR P K O I0 J0 I0 J0 := SV.rf hV
  refine g_aload_n C dMo_mill_54 rfl ?_
  refine g_iconst (v := Int32.ofInt (0)) C dMo_mill_55 (by decide) ?_
  refine gt_puti C dMo_mill_56 fl_Mo_94 h0 hV0 rfl trivial rfl (Or.inl rfl) (fun Iw1 eIw1 hVw1 => ?_)
  have tkw1_a0_8 : (Iw1 a0 8).toInt = (I0 a0 8).toInt := by rw [eIw1, up2_ne _ _ (fun z => absurd z.2 (by decide))]
  have tkw1_a0_9 : (Iw1 a0 9).toInt = 0 := by rw [eIw1, up2_self]; exact ofI (by decide)
  have tkw1_a0_13 : (Iw1 a0 13).toInt = (I0 a0 13).toInt := by rw [eIw1, up2_ne _ _ (fun z => absurd z.2 (by decide))]
  have tkw1_F_0 : (Iw1 F 0).toInt = (I0 F 0).toInt := by rw [eIw1, up2_ne _ _ (fun z => by have q := hFk.2; rw [z.1, h0.2] at q; exact absurd q (by decide))]
  have tkw1_F_4 : (Iw1 F 4).toInt = (I0 F 4).toInt := by rw [eIw1, up2_ne _ _ (fun z => by have q := hFk.2; rw [z.1, h0.2] at q; exact absurd q (by decide))]
  have tkw1_F_7 : (Iw1 F 7).toInt = (I0 F 7).toInt := by rw [eIw1, up2_ne _ _ (fun z => by have q := hFk.2; rw [z.1, h0.2] at q; exact absurd q (by decide))]
  have tkw1_F_8 : (Iw1 F 8).toInt = (I0 F 8).toInt := by rw [eIw1, up2_ne _ _ (fun z => by have q := hFk.2; rw [z.1, h0.2] at q; exact absurd q (by decide))]
  have tkw1_F_9 : (Iw1 F 9).toInt = (I0 F 9).toInt := by rw [eIw1, up2_ne _ _ (fun z => by have q := hFk.2; rw [z.1, h0.2] at q; exact absurd q (by decide))]
  have tkw1_F_10 : (Iw1 F 10).toInt = (I0 F 10).toInt := by rw [eIw1, up2_ne _ _ (fun z => by have q := hFk.2; rw [z.1, h0.2] at q; exact absurd q (by decide))]
  have tkw1_a0_6 : (Iw1 a0 6).toInt = (I0 a0 6).toInt := by rw [eIw1, up2_ne _ _ (fun z => absurd z.2 (by decide))]
  have tkw1_a0_18 : (Iw1 a0 18).toInt = (I0 a0 18).toInt := by rw [eIw1, up2_ne _ _ (fun z => absurd z.2 (by decide))]
  have tkw1_S_27 : (Iw1 S 27).toInt = (I0 S 27).toInt := by rw [eIw1, up2_ne _ _ (fun z => by have q := hSk.2; rw [z.1, h0.2] at q; exact absurd q (by decide))]
  have tkw1_B_0 : (Iw1 B 0).toInt = (I0 B 0).toInt := by rw [eIw1, up2_ne _ _ (fun z => by have q := hBk.2; rw [z.1, h0.2] at q; exact absurd q (by decide))]
  have tkw1_B_4 : (Iw1 B 4).toInt = (I0 B 4).toInt := by rw [eIw1, up2_ne _ _ (fun z => by have q := hBk.2; rw [z.1, h0.2] at q; exact absurd q (by decide))]
  have tkw1_B_7 : (Iw1 B 7).toInt = (I0 B 7).toInt := by rw [eIw1, up2_ne _ _ (fun z => by have q := hBk.2; rw [z.1, h0.2] at q; exact absurd q (by decide))]
  refine g_aload_n C dMo_mill_59 rfl ?_
  refine s_callV_v (av := fun ad => []) C dMo_mill_60 mfMo_next mvMo_next ln_Mo_146 h0 (by decide) rfl hVw1 (frL_le (by decide)) (cMo_next_N hVw1.1 h0 (by omega)) rfl rfl (Nat.le_of_ble_eq_true rfl) ⟨Nat.le_of_ble_eq_true rfl, Nat.le_of_ble_eq_true rfl⟩ ⟨rfl, rfl⟩ ⟨Nat.le_of_ble_eq_true rfl, Nat.le_of_ble_eq_true rfl⟩ (fun Iw2 Jw2 hVw2 hFw2 p_60 => ?_)
  have tkw2_F_0 : (Iw2 F 0).toInt = (Iw1 F 0).toInt := by rw [(hFw2 F (by rw [hFk.2]; rfl)).1 0]
  have tkw2_F_4 : (Iw2 F 4).toInt = (Iw1 F 4).toInt := by rw [(hFw2 F (by rw [hFk.2]; rfl)).1 4]
  have tkw2_F_7 : (Iw2 F 7).toInt = (Iw1 F 7).toInt := by rw [(hFw2 F (by rw [hFk.2]; rfl)).1 7]
  have tkw2_F_8 : (Iw2 F 8).toInt = (Iw1 F 8).toInt := by rw [(hFw2 F (by rw [hFk.2]; rfl)).1 8]
  have tkw2_F_9 : (Iw2 F 9).toInt = (Iw1 F 9).toInt := by rw [(hFw2 F (by rw [hFk.2]; rfl)).1 9]
  have tkw2_F_10 : (Iw2 F 10).toInt = (Iw1 F 10).toInt := by rw [(hFw2 F (by rw [hFk.2]; rfl)).1 10]
  have tkw2_S_27 : (Iw2 S 27).toInt = (Iw1 S 27).toInt := by rw [(hFw2 S (by rw [hSk.2]; rfl)).1 27]
  have tkw2_B_0 : (Iw2 B 0).toInt = (Iw1 B 0).toInt := by rw [(hFw2 B (by rw [hBk.2]; rfl)).1 0]
  have tkw2_B_4 : (Iw2 B 4).toInt = (Iw1 B 4).toInt := by rw [(hFw2 B (by rw [hBk.2]; rfl)).1 4]
  have tkw2_B_7 : (Iw2 B 7).toInt = (Iw1 B 7).toInt := by rw [(hFw2 B (by rw [hBk.2]; rfl)).1 7]
  try dsimp only at p_60
  refine g_aload_n C dMo_mill_63 rfl ?_
  refine s_callV_v (av := fun ad => []) C dMo_mill_64 mfMo_readMill mvMo_readMill ln_Mo_287 h0 (by decide) rfl hVw2 (frL_le (by decide)) (cMo_readMill_N_F hVw2.1 h0 hFo hFk hBk hBF (by omega)) rfl rfl (Nat.le_of_ble_eq_true rfl) ⟨Nat.le_of_ble_eq_true rfl, Nat.le_of_ble_eq_true rfl⟩ ⟨rfl, rfl⟩ ⟨Nat.le_of_ble_eq_true rfl, Nat.le_of_ble_eq_true rfl⟩ (fun Iw3 Jw3 hVw3 hFw3 p_64 => ?_)
  have tkw3_S_27 : (Iw3 S 27).toInt = (Iw2 S 27).toInt := by rw [(hFw3 S (by rw [hSk.2]; rfl)).1 27]
  try dsimp only at p_64
  rcases p_64 with ⟨p_64 | p_64, pk_64⟩
  · skip
    refine g_aload_n C dMo_mill_67 rfl ?_
    refine g_geti C dMo_mill_68 fl_Mo_128 h0 ?_
    refine gt_if_le 89 C dMo_mill_71 (by decide) rfl (fun c_71 => ?_) (fun c_71 => ?_)
    · skip
      exfalso; omega
    · skip
      refine g_aload_n C dMo_mill_74 rfl ?_
      refine g_iconst (v := Int32.ofInt (4)) C dMo_mill_75 (by decide) ?_
      refine gt_puti C dMo_mill_76 fl_Mo_76 h0 hVw3 rfl trivial rfl (Or.inl rfl) (fun Iw4 eIw4 hVw4 => ?_)
      have tkw4_a0_8 : (Iw4 a0 8).toInt = (Iw3 a0 8).toInt := by rw [eIw4, up2_ne _ _ (fun z => absurd z.2 (by decide))]
      have tkw4_a0_9 : (Iw4 a0 9).toInt = (Iw3 a0 9).toInt := by rw [eIw4, up2_ne _ _ (fun z => absurd z.2 (by decide))]
      have tkw4_a0_13 : (Iw4 a0 13).toInt = (Iw3 a0 13).toInt := by rw [eIw4, up2_ne _ _ (fun z => absurd z.2 (by decide))]
      have tkw4_F_0 : (Iw4 F 0).toInt = (Iw3 F 0).toInt := by rw [eIw4, up2_ne _ _ (fun z => by have q := hFk.2; rw [z.1, h0.2] at q; exact absurd q (by decide))]
      have tkw4_F_4 : (Iw4 F 4).toInt = (Iw3 F 4).toInt := by rw [eIw4, up2_ne _ _ (fun z => by have q := hFk.2; rw [z.1, h0.2] at q; exact absurd q (by decide))]
      have tkw4_F_7 : (Iw4 F 7).toInt = (Iw3 F 7).toInt := by rw [eIw4, up2_ne _ _ (fun z => by have q := hFk.2; rw [z.1, h0.2] at q; exact absurd q (by decide))]
      have tkw4_F_8 : (Iw4 F 8).toInt = (Iw3 F 8).toInt := by rw [eIw4, up2_ne _ _ (fun z => by have q := hFk.2; rw [z.1, h0.2] at q; exact absurd q (by decide))]
      have tkw4_F_9 : (Iw4 F 9).toInt = (Iw3 F 9).toInt := by rw [eIw4, up2_ne _ _ (fun z => by have q := hFk.2; rw [z.1, h0.2] at q; exact absurd q (by decide))]
      have tkw4_F_10 : (Iw4 F 10).toInt = (Iw3 F 10).toInt := by rw [eIw4, up2_ne _ _ (fun z => by have q := hFk.2; rw [z.1, h0.2] at q; exact absurd q (by decide))]
      have tkw4_a0_6 : (Iw4 a0 6).toInt = (Iw3 a0 6).toInt := by rw [eIw4, up2_ne _ _ (fun z => absurd z.2 (by decide))]
      have tkw4_a0_18 : (Iw4 a0 18).toInt = (Iw3 a0 18).toInt := by rw [eIw4, up2_ne _ _ (fun z => absurd z.2 (by decide))]
      have tkw4_S_27 : (Iw4 S 27).toInt = (Iw3 S 27).toInt := by rw [eIw4, up2_ne _ _ (fun z => by have q := hSk.2; rw [z.1, h0.2] at q; exact absurd q (by decide))]
      have tkw4_B_0 : (Iw4 B 0).toInt = (Iw3 B 0).toInt := by rw [eIw4, up2_ne _ _ (fun z => by have q := hBk.2; rw [z.1, h0.2] at q; exact absurd q (by decide))]
      have tkw4_B_4 : (Iw4 B 4).toInt = (Iw3 B 4).toInt := by rw [eIw4, up2_ne _ _ (fun z => by have q := hBk.2; rw [z.1, h0.2] at q; exact absurd q (by decide))]
      have tkw4_B_7 : (Iw4 B 7).toInt = (Iw3 B 7).toInt := by rw [eIw4, up2_ne _ _ (fun z => by have q := hBk.2; rw [z.1, h0.2] at q; exact absurd q (by decide))]
      refine g_aload_n C dMo_mill_79 rfl ?_
      refine g_aload_n C dMo_mill_80 rfl ?_
      refine g_geti C dMo_mill_81 fl_Mo_131 h0 ?_
      refine gt_puti C dMo_mill_84 fl_Mo_9 h0 hVw4 rfl trivial rfl (Or.inl rfl) (fun Iw5 eIw5 hVw5 => ?_)
      have tkw5_a0_8 : (Iw5 a0 8).toInt = (Iw4 a0 8).toInt := by rw [eIw5, up2_ne _ _ (fun z => absurd z.2 (by decide))]
      have tkw5_a0_9 : (Iw5 a0 9).toInt = (Iw4 a0 9).toInt := by rw [eIw5, up2_ne _ _ (fun z => absurd z.2 (by decide))]
      have tkw5_a0_13 : (Iw5 a0 13).toInt = (Iw4 a0 13).toInt := by rw [eIw5, up2_ne _ _ (fun z => absurd z.2 (by decide))]
      have tkw5_F_0 : (Iw5 F 0).toInt = (Iw4 F 0).toInt := by rw [eIw5, up2_ne _ _ (fun z => by have q := hFk.2; rw [z.1, h0.2] at q; exact absurd q (by decide))]
      have tkw5_F_4 : (Iw5 F 4).toInt = (Iw4 F 4).toInt := by rw [eIw5, up2_ne _ _ (fun z => by have q := hFk.2; rw [z.1, h0.2] at q; exact absurd q (by decide))]
      have tkw5_F_7 : (Iw5 F 7).toInt = (Iw4 F 7).toInt := by rw [eIw5, up2_ne _ _ (fun z => by have q := hFk.2; rw [z.1, h0.2] at q; exact absurd q (by decide))]
      have tkw5_F_8 : (Iw5 F 8).toInt = (Iw4 F 8).toInt := by rw [eIw5, up2_ne _ _ (fun z => by have q := hFk.2; rw [z.1, h0.2] at q; exact absurd q (by decide))]
      have tkw5_F_9 : (Iw5 F 9).toInt = (Iw4 F 9).toInt := by rw [eIw5, up2_ne _ _ (fun z => by have q := hFk.2; rw [z.1, h0.2] at q; exact absurd q (by decide))]
      have tkw5_F_10 : (Iw5 F 10).toInt = (Iw4 F 10).toInt := by rw [eIw5, up2_ne _ _ (fun z => by have q := hFk.2; rw [z.1, h0.2] at q; exact absurd q (by decide))]
      have tkw5_a0_6 : (Iw5 a0 6).toInt = (Iw4 a0 6).toInt := by rw [eIw5, up2_ne _ _ (fun z => absurd z.2 (by decide))]
      have tkw5_a0_18 : (Iw5 a0 18).toInt = (Iw4 a0 18).toInt := by rw [eIw5, up2_ne _ _ (fun z => absurd z.2 (by decide))]
      have tkw5_S_27 : (Iw5 S 27).toInt = (Iw4 S 27).toInt := by rw [eIw5, up2_ne _ _ (fun z => by have q := hSk.2; rw [z.1, h0.2] at q; exact absurd q (by decide))]
      have tkw5_B_0 : (Iw5 B 0).toInt = (Iw4 B 0).toInt := by rw [eIw5, up2_ne _ _ (fun z => by have q := hBk.2; rw [z.1, h0.2] at q; exact absurd q (by decide))]
      have tkw5_B_4 : (Iw5 B 4).toInt = (Iw4 B 4).toInt := by rw [eIw5, up2_ne _ _ (fun z => by have q := hBk.2; rw [z.1, h0.2] at q; exact absurd q (by decide))]
      have tkw5_B_7 : (Iw5 B 7).toInt = (Iw4 B 7).toInt := by rw [eIw5, up2_ne _ _ (fun z => by have q := hBk.2; rw [z.1, h0.2] at q; exact absurd q (by decide))]
      refine g_iconst (v := Int32.ofInt (-1)) C dMo_mill_87 (by decide) ?_
      exact h_iret C E hpost dMo_mill_88 ⟨Nat.le_of_ble_eq_true rfl, Nat.le_of_ble_eq_true rfl⟩ hVw5 (by have hci : Int32.toInt (Int32.ofInt (-1)) = -1 := ofI (by decide); (try dsimp only); omega)
  · skip
    refine g_aload_n C dMo_mill_67 rfl ?_
    refine g_geti C dMo_mill_68 fl_Mo_128 h0 ?_
    refine gt_if_le 89 C dMo_mill_71 (by decide) rfl (fun c_71 => ?_) (fun c_71 => ?_)
    · skip
      exact hT _ _ hVw3 (by omega)
    · skip
      exfalso; omega
set_option maxHeartbeats 4000000 in
set_option maxRecDepth 100000 in
theorem millS {X : CTX} {P : List Nat} {K : Nat → Nat} {I0 : Nat → Nat → Int32} {O : Nat → Nat → Option Nat} {J0 : Nat → Nat → Int64} {post : PST} (C : Cx X bMo_mill 3 "RoarMillModel" ({ frames := 11, cells := 8, slots := 76, locals := 237 } : Room)) (E : Rx X (some .int) post ({ frames := 11, cells := 8, slots := 76, locals := 237 } : Room)) (hV : IV P K I0 O) {a0 : Nat} (h0 : a0 ∈ P ∧ K a0 = 10) {S : Nat} (hSo : O a0 16 = some S) (hSk : S ∈ P ∧ K S = 31) {x1 : Int32} (hT : ∀ I_ J_, SV frX10 P K O I0 J0 I_ J_ → (Int32.toInt (I_ a0 6) = 0 ∧ Int32.toInt (I_ a0 8) = 0 ∧ Int32.toInt (I_ a0 13) = 0 ∧ Int32.toInt (I_ a0 18) = Int32.toInt (I0 a0 18) ∧ Int32.toInt (I_ S 27) = Int32.toInt (I0 S 27) ∧ 0 ≤ Int32.toInt x1 ∧ Int32.toInt x1 ≤ Int32.toInt (I0 a0 6)) → GG X 3 P K I_ O J_ 0 0 43 [(0, .ref a0), (1, .int x1)] []) (hpost : ∀ z I_ J_, SV frX10 P K O I0 J0 I_ J_ → (fun _ I_ => (Int32.toInt x1 < 0 ∨ Int32.toInt (I0 a0 6) < Int32.toInt x1) ∧ (I_ a0 6).toInt = (I0 a0 6).toInt ∧ (I_ a0 18).toInt = (I0 a0 18).toInt ∧ (I_ S 27).toInt = (I0 S 27).toInt) z I_ → post (some (.int z)) P K I_ O J_) : GG X 3 P K I0 O J0 0 0 0 [(0, .ref a0), (1, .int x1)] [] := by
  have r1 := rg x1
  have oS := hV.2 S hSk.1 27
  rw [hSk.2] at oS
  have oS : 0 ≤ (I0 S 27).toInt ∧ (I0 S 27).toInt ≤ 240 := oS
  have ok_a0_6 := hV.2 a0 h0.1 6
  rw [h0.2] at ok_a0_6
  have ok_a0_6 : 0 ≤ (I0 a0 6).toInt ∧ (I0 a0 6).toInt ≤ 700 := ok_a0_6
  have hV0 : SV frX10 P K O I0 J0 I0 J0 := SV.rf hV
  refine g_aload_n C dMo_mill_0 rfl ?_
  refine g_iconst (v := Int32.ofInt (0)) C dMo_mill_1 (by decide) ?_
  refine gt_puti C dMo_mill_2 fl_Mo_73 h0 hV0 rfl trivial rfl (Or.inl rfl) (fun Iw1 eIw1 hVw1 => ?_)
  have tkw1_a0_8 : (Iw1 a0 8).toInt = (I0 a0 8).toInt := by rw [eIw1, up2_ne _ _ (fun z => absurd z.2 (by decide))]
  have tkw1_a0_13 : (Iw1 a0 13).toInt = (I0 a0 13).toInt := by rw [eIw1, up2_ne _ _ (fun z => absurd z.2 (by decide))]
  have tkw1_a0_6 : (Iw1 a0 6).toInt = (I0 a0 6).toInt := by rw [eIw1, up2_ne _ _ (fun z => absurd z.2 (by decide))]
  have tkw1_a0_18 : (Iw1 a0 18).toInt = (I0 a0 18).toInt := by rw [eIw1, up2_ne _ _ (fun z => absurd z.2 (by decide))]
  have tkw1_S_27 : (Iw1 S 27).toInt = (I0 S 27).toInt := by rw [eIw1, up2_ne _ _ (fun z => by have q := hSk.2; rw [z.1, h0.2] at q; exact absurd q (by decide))]
  refine g_iload_n C dMo_mill_5 rfl ?_
  refine gt_if_lt 17 C dMo_mill_6 (by decide) rfl (fun c_6 => ?_) (fun c_6 => ?_)
  · skip
    refine g_aload_n C dMo_mill_17 rfl ?_
    refine g_iconst (v := Int32.ofInt (2)) C dMo_mill_18 (by decide) ?_
    refine s_callV_i (av := fun ad => [.int (Int32.ofInt (2))]) C dMo_mill_19 mfMo_refused mvMo_refused ln_Mo_283 h0 (by decide) rfl hVw1 (frL_le (by decide)) (cMo_refused hVw1.1 h0) rfl rfl (Nat.le_of_ble_eq_true rfl) ⟨Nat.le_of_ble_eq_true rfl, Nat.le_of_ble_eq_true rfl⟩ ⟨rfl, rfl⟩ ⟨Nat.le_of_ble_eq_true rfl, Nat.le_of_ble_eq_true rfl⟩ (fun Iw2 Jw2 hVw2 hFw2 z_19 p_19 => ?_)
    have tkw2_S_27 : (Iw2 S 27).toInt = (Iw1 S 27).toInt := by rw [(hFw2 S (by rw [hSk.2]; rfl)).1 27]
    have rz_19 := rg z_19
    try dsimp only at p_19
    have hk1_19 : Int32.toInt (Int32.ofInt (2)) = 2 := ofI (by decide)
    exact h_iret C E hpost dMo_mill_22 ⟨Nat.le_of_ble_eq_true rfl, Nat.le_of_ble_eq_true rfl⟩ hVw2 (by (try dsimp only); omega)
  · skip
    refine g_iload_n C dMo_mill_9 rfl ?_
    refine g_aload_n C dMo_mill_10 rfl ?_
    refine g_geti C dMo_mill_11 fl_Mo_280 h0 ?_
    refine gt_icmp_le 23 C dMo_mill_14 (by decide) rfl rfl (fun c_14 => ?_) (fun c_14 => ?_)
    · skip
      refine g_aload_n C dMo_mill_23 rfl ?_
      refine g_iload_n C dMo_mill_24 rfl ?_
      refine gt_puti C dMo_mill_25 fl_Mo_79 h0 hVw1 rfl (by show 0 ≤ Int32.toInt _ ∧ Int32.toInt _ ≤ 700; omega) rfl (Or.inl rfl) (fun Iw3 eIw3 hVw3 => ?_)
      have tkw3_a0_8 : (Iw3 a0 8).toInt = (Iw1 a0 8).toInt := by rw [eIw3, up2_ne _ _ (fun z => absurd z.2 (by decide))]
      have tkw3_a0_13 : (Iw3 a0 13).toInt = (Iw1 a0 13).toInt := by rw [eIw3, up2_ne _ _ (fun z => absurd z.2 (by decide))]
      have tkw3_a0_6 : (Iw3 a0 6).toInt = (Iw1 a0 6).toInt := by rw [eIw3, up2_ne _ _ (fun z => absurd z.2 (by decide))]
      have tkw3_a0_18 : (Iw3 a0 18).toInt = (Iw1 a0 18).toInt := by rw [eIw3, up2_ne _ _ (fun z => absurd z.2 (by decide))]
      have tkw3_S_27 : (Iw3 S 27).toInt = (Iw1 S 27).toInt := by rw [eIw3, up2_ne _ _ (fun z => by have q := hSk.2; rw [z.1, h0.2] at q; exact absurd q (by decide))]
      refine g_aload_n C dMo_mill_28 rfl ?_
      refine g_iconst (v := Int32.ofInt (0)) C dMo_mill_29 (by decide) ?_
      refine gt_puti C dMo_mill_30 fl_Mo_280 h0 hVw3 rfl (by show 0 ≤ Int32.toInt _ ∧ Int32.toInt _ ≤ 700; rw [ofI (by decide)]; omega) rfl (Or.inl rfl) (fun Iw4 eIw4 hVw4 => ?_)
      have tkw4_a0_8 : (Iw4 a0 8).toInt = (Iw3 a0 8).toInt := by rw [eIw4, up2_ne _ _ (fun z => absurd z.2 (by decide))]
      have tkw4_a0_13 : (Iw4 a0 13).toInt = (Iw3 a0 13).toInt := by rw [eIw4, up2_ne _ _ (fun z => absurd z.2 (by decide))]
      have tkw4_a0_6 : (Iw4 a0 6).toInt = 0 := by rw [eIw4, up2_self]; exact ofI (by decide)
      have tkw4_a0_18 : (Iw4 a0 18).toInt = (Iw3 a0 18).toInt := by rw [eIw4, up2_ne _ _ (fun z => absurd z.2 (by decide))]
      have tkw4_S_27 : (Iw4 S 27).toInt = (Iw3 S 27).toInt := by rw [eIw4, up2_ne _ _ (fun z => by have q := hSk.2; rw [z.1, h0.2] at q; exact absurd q (by decide))]
      refine g_aload_n C dMo_mill_33 rfl ?_
      refine g_iconst (v := Int32.ofInt (0)) C dMo_mill_34 (by decide) ?_
      refine gt_puti C dMo_mill_35 fl_Mo_97 h0 hVw4 rfl (by show 0 ≤ Int32.toInt _ ∧ Int32.toInt _ ≤ 700; rw [ofI (by decide)]; omega) rfl (Or.inl rfl) (fun Iw5 eIw5 hVw5 => ?_)
      have tkw5_a0_8 : (Iw5 a0 8).toInt = 0 := by rw [eIw5, up2_self]; exact ofI (by decide)
      have tkw5_a0_13 : (Iw5 a0 13).toInt = (Iw4 a0 13).toInt := by rw [eIw5, up2_ne _ _ (fun z => absurd z.2 (by decide))]
      have tkw5_a0_6 : (Iw5 a0 6).toInt = (Iw4 a0 6).toInt := by rw [eIw5, up2_ne _ _ (fun z => absurd z.2 (by decide))]
      have tkw5_a0_18 : (Iw5 a0 18).toInt = (Iw4 a0 18).toInt := by rw [eIw5, up2_ne _ _ (fun z => absurd z.2 (by decide))]
      have tkw5_S_27 : (Iw5 S 27).toInt = (Iw4 S 27).toInt := by rw [eIw5, up2_ne _ _ (fun z => by have q := hSk.2; rw [z.1, h0.2] at q; exact absurd q (by decide))]
      refine g_aload_n C dMo_mill_38 rfl ?_
      refine g_iconst (v := Int32.ofInt (0)) C dMo_mill_39 (by decide) ?_
      refine gt_puti C dMo_mill_40 fl_Mo_128 h0 hVw5 rfl trivial rfl (Or.inl rfl) (fun Iw6 eIw6 hVw6 => ?_)
      have tkw6_a0_8 : (Iw6 a0 8).toInt = (Iw5 a0 8).toInt := by rw [eIw6, up2_ne _ _ (fun z => absurd z.2 (by decide))]
      have tkw6_a0_13 : (Iw6 a0 13).toInt = 0 := by rw [eIw6, up2_self]; exact ofI (by decide)
      have tkw6_a0_6 : (Iw6 a0 6).toInt = (Iw5 a0 6).toInt := by rw [eIw6, up2_ne _ _ (fun z => absurd z.2 (by decide))]
      have tkw6_a0_18 : (Iw6 a0 18).toInt = (Iw5 a0 18).toInt := by rw [eIw6, up2_ne _ _ (fun z => absurd z.2 (by decide))]
      have tkw6_S_27 : (Iw6 S 27).toInt = (Iw5 S 27).toInt := by rw [eIw6, up2_ne _ _ (fun z => by have q := hSk.2; rw [z.1, h0.2] at q; exact absurd q (by decide))]
      exact hT _ _ hVw6 (by omega)
    · skip
      refine g_aload_n C dMo_mill_17 rfl ?_
      refine g_iconst (v := Int32.ofInt (2)) C dMo_mill_18 (by decide) ?_
      refine s_callV_i (av := fun ad => [.int (Int32.ofInt (2))]) C dMo_mill_19 mfMo_refused mvMo_refused ln_Mo_283 h0 (by decide) rfl hVw1 (frL_le (by decide)) (cMo_refused hVw1.1 h0) rfl rfl (Nat.le_of_ble_eq_true rfl) ⟨Nat.le_of_ble_eq_true rfl, Nat.le_of_ble_eq_true rfl⟩ ⟨rfl, rfl⟩ ⟨Nat.le_of_ble_eq_true rfl, Nat.le_of_ble_eq_true rfl⟩ (fun Iw7 Jw7 hVw7 hFw7 z_19 p_19 => ?_)
      have tkw7_S_27 : (Iw7 S 27).toInt = (Iw1 S 27).toInt := by rw [(hFw7 S (by rw [hSk.2]; rfl)).1 27]
      have rz_19 := rg z_19
      try dsimp only at p_19
      have hk1_19 : Int32.toInt (Int32.ofInt (2)) = 2 := ofI (by decide)
      exact h_iret C E hpost dMo_mill_22 ⟨Nat.le_of_ble_eq_true rfl, Nat.le_of_ble_eq_true rfl⟩ hVw7 (by (try dsimp only); omega)
/-- the taking of the new MILL -/
theorem millC {X : CTX} {P : List Nat} {K : Nat → Nat} {I : Nat → Nat → Int32} {O : Nat → Nat → Option Nat} {J : Nat → Nat → Int64} {post : PST} (C : Cx X bMo_mill 3 "RoarMillModel" ({ frames := 11, cells := 8, slots := 76, locals := 237 } : Room)) (E : Rx X (some .int) post ({ frames := 11, cells := 8, slots := 76, locals := 237 } : Room)) (hV : IV P K I O) {a0 S F : Nat} {x1 : Int32} (h0 : a0 ∈ P ∧ K a0 = 10) (hSo : O a0 16 = some S) (hSk : S ∈ P ∧ K S = 31) (hFo : O a0 4 = some F) (hFk : F ∈ P ∧ K F = 9) (hGM : GM I F) (hpost : ∀ z I_ J_, SV frM P K (up2 O a0 3 (some F)) I J I_ J_ → Int32.toInt (I_ a0 18) = 0 → (I_ a0 6).toInt = (I a0 6).toInt → post (some (.int z)) P K I_ (up2 O a0 3 (some F)) J_) : GG X 3 P K I O J 8 76 89 [(0, .ref a0), (1, .int x1)] [] := by
  refine g_aload_n C dMo_mill_89 rfl ?_
  refine g_aload_n C dMo_mill_90 rfl ?_
  refine gt_getS C dMo_mill_91 fl_Mo_172 h0 hFo ?_
  refine g_putr (x := some F) C dMo_mill_94 fl_Mo_290 h0 rfl rfl rfl ?_
  have hT2 : TR P K (up2 O a0 3 (some F)) := by
    intro b hb k κ' hs2
    by_cases e : b = a0 ∧ k = 3
    · exfalso
      rw [e.1, e.2, h0.2] at hs2
      have hs3 : (none : Option Nat) = some κ' := hs2
      cases hs3
    · rw [up2_ne _ _ e]; exact hV.1 b hb k κ' hs2
  exact millD C E ⟨hT2, hV.2⟩ h0 (by rw [up2_ne _ _ (fun z => absurd z.2 (by decide))]; exact hSo) hSk (up2_self _ _ _ _) hFk hGM (fun z I_ J_ h1 h2 => hpost z I_ J_ h1 h2.1 h2.2)
/-- the making of a new MILL -/
theorem millA {X : CTX} {P : List Nat} {K : Nat → Nat} {I : Nat → Nat → Int32} {O : Nat → Nat → Option Nat} {J : Nat → Nat → Int64} (C : Cx X bMo_mill 3 "RoarMillModel" ({ frames := 11, cells := 8, slots := 76, locals := 237 } : Room)) (hV : IV P K I O) {a0 : Nat} {x1 : Int32} (h0 : a0 ∈ P ∧ K a0 = 10) (hT : ∀ P' K' I' O' J' F, (∀ b, b ∈ P → b ∈ P' ∧ K' b = K b ∧ I' b = I b ∧ J' b = J b ∧ (b ≠ a0 → O' b = O b)) → (∀ f, f ≠ 4 → O' a0 f = O a0 f) → O' a0 4 = some F → (F ∈ P' ∧ K' F = 9) → F ∉ P → IV P' K' I' O' → (Int32.toInt (I' F 0) = -1 ∧ Int32.toInt (I' F 4) = -1 ∧ Int32.toInt (I' F 7) = 0 ∧ Int32.toInt (I' F 8) = 0 ∧ Int32.toInt (I' F 9) = 0 ∧ Int32.toInt (I' F 10) = 0) → GG X 3 P' K' I' O' J' 8 76 54 [(0, .ref a0), (1, .int x1)] []) : GG X 3 P K I O J 0 0 43 [(0, .ref a0), (1, .int x1)] [] := by
  refine g_aload_n C dMo_mill_43 rfl ?_
  refine g_new (κ := 9) C dMo_mill_44 (by decide) kl_Mo_177 ki_9 kn_9 ⟨Nat.le_of_ble_eq_true rfl, Nat.le_of_ble_eq_true rfl⟩ (fun q hq => ?_)
  refine g_dup C dMo_mill_47 rfl ?_
  refine g_callI (av := fun _ => []) C dMo_mill_48 mfMx_init miMx_init rfl ln_Mo_286 (nMx_init _ _ _ _ _ q ⟨List.mem_append_right _ (List.mem_singleton.mpr rfl), lab_self _ _ _⟩ (fun k => by rw [clr_self]) (fun k => by rw [clr_self])) rfl rfl (Nat.le_of_ble_eq_true rfl) ⟨Nat.le_of_ble_eq_true rfl, Nat.le_of_ble_eq_true rfl⟩ ⟨Nat.le_of_ble_eq_true rfl, Nat.le_of_ble_eq_true rfl⟩ (fun r P' K' I' O' J' hp => ?_)
  obtain ⟨rfl, hc, hx⟩ := hp
  obtain ⟨c1, c2, c3, c4⟩ := hc
  have hne : ∀ b, b ∈ P → ¬ b = q := fun b hb z => hq (z ▸ hb)
  have old : ∀ b, b ∈ P → b ∈ P' ∧ K' b = K b ∧ I' b = I b ∧ O' b = O b ∧ J' b = J b := by
    intro b hb
    obtain ⟨e1, e2, e3⟩ := c1 b (List.mem_append_left _ hb)
    obtain ⟨e4, e5, e6⟩ := e3 (hne b hb)
    exact ⟨e1, by rw [e2, lab_ne _ (hne b hb)], by rw [e4, clr_ne _ _ (hne b hb)], by rw [e5, clr_ne _ _ (hne b hb)], by rw [e6, clr_ne _ _ (hne b hb)]⟩
  have hup : ∀ c, c ∈ P → c ∈ P' ∧ K' c = K c := fun c hc => ⟨(old c hc).1, (old c hc).2.1⟩
  obtain ⟨q1, q2, -⟩ := c1 q (List.mem_append_right _ (List.mem_singleton.mpr rfl))
  rw [lab_self] at q2
  have hTR : TR P' K' O' := by
    intro b hb k κ' hs
    by_cases hbP : b ∈ P
    · have h1 : TAf P K O b k := fun κ2 h2 => hV.1 b hbP k κ2 h2
      exact (h1.up hbP hup (old b hbP).2.2.2.1) κ' hs
    · by_cases e : b = q
      · subst e
        exact c3 k (cov_9 k κ' (by rw [← q2]; exact hs)) κ' hs
      · exact (c2 b hb (fun z => (List.mem_append.mp z).elim hbP (fun z => e (List.mem_singleton.mp z)))).1 k κ' hs
  have hOK : ∀ b, b ∈ P' → ∀ k, okI (K' b) k (I' b k) := by
    intro b hb k
    by_cases hbP : b ∈ P
    · obtain ⟨f1, f2, f3, f4, f5⟩ := old b hbP
      rw [f2, f3]; exact hV.2 b hbP k
    · by_cases e : b = q
      · subst e; exact c4.1 k
      · exact (c2 b hb (fun z => (List.mem_append.mp z).elim hbP (fun z => e (List.mem_singleton.mp z)))).2.1 k
  have h0' : a0 ∈ P' ∧ K' a0 = 10 := ⟨(old a0 h0.1).1, (old a0 h0.1).2.1.trans h0.2⟩
  refine g_putr (x := some q) C dMo_mill_51 fl_Mo_172 h0' rfl rfl rfl ?_
  refine hT P' K' I' (up2 O' a0 4 (some q)) J' q (fun b hb => ?_) (fun f hf => ?_) (up2_self _ _ _ _) ⟨q1, q2⟩ hq ⟨?_, hOK⟩ ?_
  · obtain ⟨f1, f2, f3, f4, f5⟩ := old b hb
    exact ⟨f1, f2, f3, f5, fun z => by rw [up2_row _ _ z]; exact f4⟩
  · rw [up2_ne _ _ (fun z => hf z.2), (old a0 h0.1).2.2.2.1]
  · intro b hb k κ' hs2
    by_cases e : b = a0 ∧ k = 4
    · exfalso
      rw [e.1, e.2, h0'.2] at hs2
      have hs3 : (none : Option Nat) = some κ' := hs2
      cases hs3
    · rw [up2_ne _ _ e]; exact hTR b hb k κ' hs2
  · obtain ⟨x0, x4, x7, x8, x9, x10⟩ := hx
    rw [x0, x4, x7, x8, x9, x10]
    exact ⟨ofI (by decide), ofI (by decide), rfl, rfl, rfl, rfl⟩
/-- the end of the reference's mill: cells may have come, the MILL may be another -/
def MMo (a S : Nat) (x : Int32) (P : List Nat) (K : Nat → Nat) (I : Nat → Nat → Int32) (O : Nat → Nat → Option Nat) (J : Nat → Nat → Int64) : PST := fun r P' K' I' O' _ => (∃ z, r = some (.int z)) ∧ (∀ b, b ∈ P → b ∈ P' ∧ K' b = K b ∧ (frR (K b) = true → ∀ k, I' b k = I b k) ∧ (b ≠ a → O' b = O b)) ∧ IV P' K' I' O' ∧ (∀ f, f ≠ 3 → f ≠ 4 → O' a f = O a f) ∧ (O' a 3 = none ∨ ∃ M, O' a 3 = some M ∧ (M ∈ P' ∧ K' M = 9) ∧ GM I' M) ∧ (((I' a 18).toInt = (I a 18).toInt ∧ (I' S 27).toInt = (I S 27).toInt) ∨ (I' a 18).toInt = 0) ∧ (((Int32.toInt x < 0 ∨ (I a 6).toInt < Int32.toInt x) ∧ (I' a 6).toInt = (I a 6).toInt) ∨ (0 ≤ Int32.toInt x ∧ Int32.toInt x ≤ (I a 6).toInt ∧ (I' a 6).toInt = 0))
theorem cMo_mill {P : List Nat} {K : Nat → Nat} {I0 : Nat → Nat → Int32} {O : Nat → Nat → Option Nat} {J0 : Nat → Nat → Int64} (hV : IV P K I0 O) {a0 S : Nat} (h0 : a0 ∈ P ∧ K a0 = 10) (hSo : O a0 16 = some S) (hSk : S ∈ P ∧ K S = 31) (hM : O a0 3 = none ∨ ∃ M, O a0 3 = some M ∧ (M ∈ P ∧ K M = 9) ∧ GM I0 M) {x1 : Int32} : Con yMo_mill bMo_mill 3 (some .int) ({ frames := 11, cells := 8, slots := 76, locals := 237 } : Room) P K I0 O J0 [.ref a0, .int x1] (MMo a0 S x1 P K I0 O J0) := by
  refine Con.ofG mfMo_mill (Nat.le_of_ble_eq_true rfl) ?_
  intro X C E
  refine millS C E hV h0 hSo hSk (x1 := x1) (fun I1 J1 hV1 f1 => ?_) (fun z I_ J_ h1 h2 => ?_)
  · refine millA C hV1.1 h0 (fun P2 K2 I2 O2 J2 F old hOf hF4 hFk hFP hV2 fF => ?_)
    have h02 : a0 ∈ P2 ∧ K2 a0 = 10 := ⟨(old a0 h0.1).1, (old a0 h0.1).2.1.trans h0.2⟩
    have hS2 : S ∈ P2 ∧ K2 S = 31 := ⟨(old S hSk.1).1, (old S hSk.1).2.1.trans hSk.2⟩
    have hSo2 : O2 a0 16 = some S := (hOf 16 (by decide)).trans hSo
    have ea := (old a0 h0.1).2.2.1
    have eS := (old S hSk.1).2.2.1
    -- the other MILL, or an address that bears none
    have hB : ∃ (B : Nat) (K3 : Nat → Nat), (∀ b, b ∈ P2 → K3 b = K2 b) ∧ K3 B = 9 ∧ B ≠ F ∧ (O a0 3 = none ∨ (O a0 3 = some B ∧ (B ∈ P ∧ K B = 9) ∧ GM I1 B)) := by
      rcases hM with hM | ⟨M, q1, q2, q3⟩
      · obtain ⟨B, hB⟩ := fresh_out P2
        exact ⟨B, lab K2 B 9, fun b hb => lab_ne _ (fun z => hB (z ▸ hb)), lab_self _ _ _, fun z => hB (z ▸ hFk.1), Or.inl hM⟩
      · exact ⟨M, K2, fun b _ => rfl, (old M q2.1).2.1.trans q2.2, fun z => hFP (z ▸ q2.1), Or.inr ⟨q1, q2, (q3.keep (hV1.2 M (by rw [q2.2]; rfl)).1)⟩⟩
    obtain ⟨B, K3, hK3, hBk, hBF, hBM⟩ := hB
    refine g_relab hK3 ?_
    have hV3 : IV P2 K3 I2 O2 := by
      refine ⟨fun b hb k κ' hs => ?_, fun b hb k => by rw [hK3 b hb]; exact hV2.2 b hb k⟩
      rw [hK3 b hb] at hs
      obtain ⟨c, e1, e2, e3⟩ := hV2.1 b hb k κ' hs
      exact ⟨c, e1, e2, by rw [hK3 c e2]; exact e3⟩
    have h03 : a0 ∈ P2 ∧ K3 a0 = 10 := ⟨h02.1, (hK3 _ h02.1).trans h02.2⟩
    have hS3 : S ∈ P2 ∧ K3 S = 31 := ⟨hS2.1, (hK3 _ hS2.1).trans hS2.2⟩
    have hF3 : F ∈ P2 ∧ K3 F = 9 := ⟨hFk.1, (hK3 _ hFk.1).trans hFk.2⟩
    have hne : ∀ b, b ∈ P → frR (K b) = true → ∀ k, I2 b k = I0 b k := fun b hb q k => by rw [(old b hb).2.2.1]; exact (hV1.2 b (frL_le (by decide) _ q)).1 k
    have hKb : ∀ b, b ∈ P → b ∈ P2 ∧ K3 b = K b := fun b hb => ⟨(old b hb).1, (hK3 b (old b hb).1).trans (old b hb).2.1⟩
    refine millB C E hV3 h03 hSo2 hS3 hF4 hF3 ⟨trivial, hBk⟩ hBF (by rw [ea]; exact f1.2.1) (by rw [ea]; exact f1.2.2.1) fF (fun I3 J3 hV4 f3 => ?_) (fun z I_ J_ h1 h2 => ?_)
    · refine millC C E hV4.1 h03 hSo2 hS3 hF4 hF3 (GM.mk f3.2.1 f3.2.2.1 f3.2.2.2) (fun z I_ J_ h1 h2 h3 => ?_)
      refine ⟨⟨z, rfl⟩, fun b hb => ⟨(hKb b hb).1, (hKb b hb).2, fun q k => ?_, fun hbne => ?_⟩, h1.1, fun f n3 n4 => ?_, Or.inr ⟨F, up2_self _ _ _ _, hF3, ?_⟩, Or.inr h2, Or.inr ⟨f1.2.2.2.2.2.1, f1.2.2.2.2.2.2, ?_⟩⟩
      · rw [(h1.2 b (by rw [(hKb b hb).2]; exact frL_le (by decide) _ q)).1 k, (hV4.2 b (by rw [(hKb b hb).2]; exact q)).1 k]; exact hne b hb q k
      · rw [up2_row _ _ hbne]; exact (old b hb).2.2.2.2 hbne
      · rw [up2_ne _ _ (fun w => n3 w.2)]; exact hOf f n4
      · exact (GM.mk f3.2.1 f3.2.2.1 f3.2.2.2).keep (h1.2 F (by rw [hF3.2]; rfl)).1
      · rw [h3, f3.1, ea]; exact f1.1
    · refine ⟨⟨z, rfl⟩, fun b hb => ⟨(hKb b hb).1, (hKb b hb).2, fun q k => ?_, fun hbne => (old b hb).2.2.2.2 hbne⟩, h1.1, fun f n3 n4 => hOf f n4, ?_, Or.inl ⟨?_, ?_⟩, Or.inr ⟨f1.2.2.2.2.2.1, f1.2.2.2.2.2.2, ?_⟩⟩
      · rw [(h1.2 b (by rw [(hKb b hb).2]; exact q)).1 k]; exact hne b hb q k
      · rw [hOf 3 (by decide)]
        rcases hBM with hBM | ⟨q1, q2, q3⟩
        · exact Or.inl hBM
        · refine Or.inr ⟨B, q1, ⟨(hKb B q2.1).1, hBk⟩, GM.mk ?_ ?_ ?_⟩
          · rw [h2.2.2.2.1, (old B q2.1).2.2.1]; exact q3.1
          · rw [h2.2.2.2.2.1, (old B q2.1).2.2.1]; exact q3.2.1
          · rw [h2.2.2.2.2.2, (old B q2.1).2.2.1]; exact q3.2.2
      · rw [h2.2.1, ea]; exact f1.2.2.2.1
      · rw [h2.2.2.1, eS]; exact f1.2.2.2.2.1
      · rw [h2.1, ea]; exact f1.1
  · refine ⟨⟨z, rfl⟩, fun b hb => ⟨hb, rfl, fun q => (h1.2 b (frL_le (by decide) _ q)).1, fun _ => rfl⟩, h1.1, fun f _ _ => rfl, ?_, Or.inl ⟨h2.2.2.1, h2.2.2.2⟩, Or.inl ⟨h2.1, h2.2.1⟩⟩
    rcases hM with hM | ⟨M, q1, q2, q3⟩
    · exact Or.inl hM
    · exact Or.inr ⟨M, q1, q2, (q3.keep (h1.2 M (by rw [q2.2]; rfl)).1)⟩
