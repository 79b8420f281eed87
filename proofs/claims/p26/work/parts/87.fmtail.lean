theorem x_iretp {X : CTX} {cc : ByteArray} {nL : Nat} {own : String} {rm : Room} {P : List Nat} {K : Nat → Nat} {I I' : WI} {O : WO} {J : WJ} {nc ns pc : Nat} {L : List (Nat × Value)} {post : PST} {v r : Int32} (C : Cx X cc nL own rm) (E : Rx X (some .int) post rm) (hp : post (some (.int r)) P K I' O J) (d : decode cc pc = .ok (.ireturn, 1)) (hro : nc ≤ rm.cells ∧ ns ≤ rm.slots) (h : some (v, I) = some (r, I')) : GG X nL P K I O J nc ns pc L [.int v] := by
  cases h; exact g_iret C E d hro.1 hro.2 hp
def B_Mo_mill_136 (N : Nat) (O : WO) (a0 : Nat) (J0 : WJ) (rec_136 : Int32 → WI → Option (Int32 × WI)) (x2_136 : Int32) (I_136 : WI) : Option (Int32 × WI) := if 12 ≤ (x2_136).toInt then (lb (up2 I_136 a0 23 (Int32.ofInt (0))) fun I3 => lb (up2 I3 (rf O a0 33) 0 (Int32.ofInt (0))) fun I4 => lb (up2 I4 (rf O a0 33) 1 (Int32.ofInt (0))) fun I5 => lb (up2 I5 a0 29 (Int32.ofInt (0))) fun I6 => lb (up2 I6 a0 18 (Int32.ofInt (0))) fun I7 => bd2 (F_Mo_done N O I7 J0 a0 (I7 (rf O a0 3) 8)) fun z_206 I8 => some (z_206, I8)) else (if 0 ≤ (x2_136).toInt ∧ (x2_136).toInt < 12 then (lb (up2 I_136 (rf O a0 20) (x2_136).toInt.toNat (Int32.ofInt (1))) fun I9 => if 0 ≤ (x2_136).toInt ∧ (x2_136).toInt < 12 then (lb (up2 I9 (rf O a0 21) (x2_136).toInt.toNat (Int32.ofInt (1))) fun I10 => if 0 ≤ (x2_136).toInt ∧ (x2_136).toInt < 12 then (lb (up2 I10 (rf O a0 22) (x2_136).toInt.toNat (Int32.ofInt (0))) fun I11 => lb (x2_136 + Int32.ofInt (1)) fun v2_163 => rec_136 (v2_163) I11) else none) else none) else none)
def B_Mo_mill_99 (N : Nat) (O : WO) (a0 : Nat) (J0 : WJ) (rec_99 : Int32 → WI → Option (Int32 × WI)) (x2_99 : Int32) (I_99 : WI) : Option (Int32 × WI) := if 37 ≤ (x2_99).toInt then (lb (up2 I_99 (rf O a0 16) 34 (Int32.ofInt (1))) fun I1 => lb (up2 I1 (rf O a0 16) 35 (Int32.ofInt (1))) fun I2 => lp (B_Mo_mill_136 N O a0 J0) (fun _ _ => none) N ((Int32.ofInt (0))) I2) else (if 0 ≤ (x2_99).toInt ∧ (x2_99).toInt < 37 then (lb (up2 I_99 (rf O a0 16) (x2_99).toInt.toNat (Int32.ofInt (0))) fun I12 => lb (x2_99 + Int32.ofInt (1)) fun v2_112 => rec_99 (v2_112) I12) else none)
def F_Mo_millD (N : Nat) (O : WO) (I0 : WI) (J0 : WJ) (a0 : Nat) (x1 : Int32) : Option (Int32 × WI) := lp (B_Mo_mill_99 N O a0 J0) (fun _ _ => none) N ((Int32.ofInt (0))) I0
set_option maxHeartbeats 4000000 in
set_option maxRecDepth 100000 in
theorem g_Mo_millD {X : CTX} {P : List Nat} {K : Nat → Nat} {N : Nat} {O : WO} {I0 : WI} {J0 : WJ} {r : Int32} {I' : WI} (C : Cx X bMo_mill 3 "RoarMillModel" ({ frames := 11, cells := 8, slots := 76, locals := 237 } : Room)) {post : PST} (E : Rx X (some .int) post ({ frames := 11, cells := 8, slots := 76, locals := 237 } : Room)) (hp : post (some (.int r)) P K I' O J0) (hT : TR P K O) {a0 : Nat} (h0 : a0 ∈ P ∧ K a0 = 10) {x1 : Int32} (hN3 : NN P K O a0 3 9) (h : F_Mo_millD N O I0 J0 a0 x1 = some (r, I')) : GG X 3 P K I0 O J0 8 76 97 [(0, .ref a0), (1, .int x1)] [] := by
  unfold F_Mo_millD at h
  refine g_iconst (v := Int32.ofInt (0)) C dMo_mill_97 (by decide) ?_
  refine g_istore_n (i := 2) C dMo_mill_98 rfl (by decide) ?_
  have lp_99 : ∀ (x2_99 : Int32) (I_99 : WI), lp (B_Mo_mill_99 N O a0 J0) (fun _ _ => none) N x2_99 I_99 = some (r, I') → GG X 3 P K I_99 O J0 8 76 99 [(0, .ref a0), (1, .int x1), (2, .int x2_99)] [] := by
    refine x_lp (fun (rec_99 : Int32 → WI → Option (Int32 × WI)) => ∀ (x2_99 : Int32) (I_99 : WI), rec_99 x2_99 I_99 = some (r, I') → GG X 3 P K I_99 O J0 8 76 99 [(0, .ref a0), (1, .int x1), (2, .int x2_99)] []) (fun _ _ h => by cases h) (fun rec_99 hr_99 x2_99 I_99 h => ?_) N
    unfold B_Mo_mill_99 at h
    refine g_iload_n C dMo_mill_99 rfl ?_
    refine g_bipush (v := Int32.ofInt (37)) C dMo_mill_100 (by decide) ?_
    refine gt_icmp_ge 118 C dMo_mill_102 (by decide) rfl (ofI (by decide)) (fun c_102 => ?_) (fun c_102 => ?_)
    · have h := x_pos c_102 h
      refine g_aload_n C dMo_mill_118 rfl ?_
      have t_119 := rf_ok hT h0 (show sp 10 16 = some 31 from rfl)
      refine x_getr C dMo_mill_119 fl_Mo_17 h0 hT (show sp 10 16 = some 31 from rfl) ?_
      refine g_bipush (v := Int32.ofInt (34)) C dMo_mill_122 (by decide) ?_
      refine g_iconst (v := Int32.ofInt (1)) C dMo_mill_124 (by decide) ?_
      refine x_iastc (m := 37) (c := 34) C dMo_mill_125 t_119 (by decide) rfl rfl rfl (by decide) h (fun I1 h => ?_)
      refine g_aload_n C dMo_mill_126 rfl ?_
      have t_127 := rf_ok hT h0 (show sp 10 16 = some 31 from rfl)
      refine x_getr C dMo_mill_127 fl_Mo_17 h0 hT (show sp 10 16 = some 31 from rfl) ?_
      refine g_bipush (v := Int32.ofInt (35)) C dMo_mill_130 (by decide) ?_
      refine g_iconst (v := Int32.ofInt (1)) C dMo_mill_132 (by decide) ?_
      refine x_iastc (m := 37) (c := 35) C dMo_mill_133 t_127 (by decide) rfl rfl rfl (by decide) h (fun I2 h => ?_)
      refine g_iconst (v := Int32.ofInt (0)) C dMo_mill_134 (by decide) ?_
      refine g_istore_n (i := 2) C dMo_mill_135 rfl (by decide) ?_
      have lp_136 : ∀ (x2_136 : Int32) (I_136 : WI), lp (B_Mo_mill_136 N O a0 J0) (fun _ _ => none) N x2_136 I_136 = some (r, I') → GG X 3 P K I_136 O J0 8 76 136 [(0, .ref a0), (1, .int x1), (2, .int x2_136)] [] := by
        refine x_lp (fun (rec_136 : Int32 → WI → Option (Int32 × WI)) => ∀ (x2_136 : Int32) (I_136 : WI), rec_136 x2_136 I_136 = some (r, I') → GG X 3 P K I_136 O J0 8 76 136 [(0, .ref a0), (1, .int x1), (2, .int x2_136)] []) (fun _ _ h => by cases h) (fun rec_136 hr_136 x2_136 I_136 h => ?_) N
        unfold B_Mo_mill_136 at h
        refine g_iload_n C dMo_mill_136 rfl ?_
        refine g_bipush (v := Int32.ofInt (12)) C dMo_mill_137 (by decide) ?_
        refine gt_icmp_ge 169 C dMo_mill_139 (by decide) rfl (ofI (by decide)) (fun c_139 => ?_) (fun c_139 => ?_)
        · have h := x_pos c_139 h
          refine g_aload_n C dMo_mill_169 rfl ?_
          refine g_iconst (v := Int32.ofInt (0)) C dMo_mill_170 (by decide) ?_
          refine x_puti C dMo_mill_171 fl_Mo_293 h0 rfl (Or.inl rfl) h (fun I3 h => ?_)
          refine g_aload_n C dMo_mill_174 rfl ?_
          have t_175 := rf_ok hT h0 (show sp 10 33 = some 39 from rfl)
          refine x_getr C dMo_mill_175 fl_Mo_60 h0 hT (show sp 10 33 = some 39 from rfl) ?_
          refine g_iconst (v := Int32.ofInt (0)) C dMo_mill_178 (by decide) ?_
          refine g_iconst (v := Int32.ofInt (0)) C dMo_mill_179 (by decide) ?_
          refine x_iastc (m := 2) (c := 0) C dMo_mill_180 t_175 (by decide) rfl rfl rfl (by decide) h (fun I4 h => ?_)
          refine g_aload_n C dMo_mill_181 rfl ?_
          have t_182 := rf_ok hT h0 (show sp 10 33 = some 39 from rfl)
          refine x_getr C dMo_mill_182 fl_Mo_60 h0 hT (show sp 10 33 = some 39 from rfl) ?_
          refine g_iconst (v := Int32.ofInt (1)) C dMo_mill_185 (by decide) ?_
          refine g_iconst (v := Int32.ofInt (0)) C dMo_mill_186 (by decide) ?_
          refine x_iastc (m := 2) (c := 1) C dMo_mill_187 t_182 (by decide) rfl rfl rfl (by decide) h (fun I5 h => ?_)
          refine g_aload_n C dMo_mill_188 rfl ?_
          refine g_iconst (v := Int32.ofInt (0)) C dMo_mill_189 (by decide) ?_
          refine x_puti C dMo_mill_190 fl_Mo_296 h0 rfl (Or.inl rfl) h (fun I6 h => ?_)
          refine g_aload_n C dMo_mill_193 rfl ?_
          refine g_iconst (v := Int32.ofInt (0)) C dMo_mill_194 (by decide) ?_
          refine x_puti C dMo_mill_195 fl_Mo_299 h0 rfl (Or.inl rfl) h (fun I7 h => ?_)
          refine g_aload_n C dMo_mill_198 rfl ?_
          refine g_aload_n C dMo_mill_199 rfl ?_
          refine gt_getS C dMo_mill_200 fl_Mo_290 h0 hN3.1 ?_
          refine g_geti C dMo_mill_203 fl_Mo_191 hN3.2 ?_
          obtain ⟨z_206, I8, e_206, h⟩ := bd2_some h
          refine x_callVi (av := fun ad => [.int (I7 (rf O a0 3) 8)]) C dMo_mill_206 mfMo_done mvMo_done ln_Mo_302 h0 (by decide) rfl (f_Mo_done hT h0 e_206) rfl rfl (Nat.le_of_ble_eq_true rfl) ⟨Nat.le_of_ble_eq_true rfl, Nat.le_of_ble_eq_true rfl⟩ ⟨rfl, rfl⟩ ⟨Nat.le_of_ble_eq_true rfl, Nat.le_of_ble_eq_true rfl⟩ ?_
          exact x_iretp C E hp dMo_mill_209 ⟨Nat.le_of_ble_eq_true rfl, Nat.le_of_ble_eq_true rfl⟩ h
        · have h := x_neg (Int.not_le.mpr c_139) h
          refine g_aload_n C dMo_mill_142 rfl ?_
          have t_143 := rf_ok hT h0 (show sp 10 20 = some 33 from rfl)
          refine x_getr C dMo_mill_143 fl_Mo_27 h0 hT (show sp 10 20 = some 33 from rfl) ?_
          refine g_iload_n C dMo_mill_146 rfl ?_
          refine g_iconst (v := Int32.ofInt (1)) C dMo_mill_147 (by decide) ?_
          obtain ⟨g_148, h⟩ := x_g h
          refine x_iast (m := 12) C dMo_mill_148 t_143 (by decide) rfl rfl g_148 h (fun I9 h => ?_)
          refine g_aload_n C dMo_mill_149 rfl ?_
          have t_150 := rf_ok hT h0 (show sp 10 21 = some 33 from rfl)
          refine x_getr C dMo_mill_150 fl_Mo_30 h0 hT (show sp 10 21 = some 33 from rfl) ?_
          refine g_iload_n C dMo_mill_153 rfl ?_
          refine g_iconst (v := Int32.ofInt (1)) C dMo_mill_154 (by decide) ?_
          obtain ⟨g_155, h⟩ := x_g h
          refine x_iast (m := 12) C dMo_mill_155 t_150 (by decide) rfl rfl g_155 h (fun I10 h => ?_)
          refine g_aload_n C dMo_mill_156 rfl ?_
          have t_157 := rf_ok hT h0 (show sp 10 22 = some 34 from rfl)
          refine x_getr C dMo_mill_157 fl_Mo_33 h0 hT (show sp 10 22 = some 34 from rfl) ?_
          refine g_iload_n C dMo_mill_160 rfl ?_
          refine g_iconst (v := Int32.ofInt (0)) C dMo_mill_161 (by decide) ?_
          obtain ⟨g_162, h⟩ := x_g h
          refine x_iast (m := 12) C dMo_mill_162 t_157 (by decide) rfl rfl g_162 h (fun I11 h => ?_)
          refine x_iinc C dMo_mill_163 rfl (by decide) h (fun v2_163 h => ?_)
          refine g_goto 136 C dMo_mill_166 (by decide) ?_
          exact g_sub (hr_136 (v2_163) I11 h) ⟨rfl, rfl, rfl, trivial⟩
      exact g_sub (lp_136 ((Int32.ofInt (0))) I2 h) ⟨rfl, rfl, rfl, trivial⟩
    · have h := x_neg (Int.not_le.mpr c_102) h
      refine g_aload_n C dMo_mill_105 rfl ?_
      have t_106 := rf_ok hT h0 (show sp 10 16 = some 31 from rfl)
      refine x_getr C dMo_mill_106 fl_Mo_17 h0 hT (show sp 10 16 = some 31 from rfl) ?_
      refine g_iload_n C dMo_mill_109 rfl ?_
      refine g_iconst (v := Int32.ofInt (0)) C dMo_mill_110 (by decide) ?_
      obtain ⟨g_111, h⟩ := x_g h
      refine x_iast (m := 37) C dMo_mill_111 t_106 (by decide) rfl rfl g_111 h (fun I12 h => ?_)
      refine x_iinc C dMo_mill_112 rfl (by decide) h (fun v2_112 h => ?_)
      refine g_goto 99 C dMo_mill_115 (by decide) ?_
      exact g_sub (hr_99 (v2_112) I12 h) ⟨rfl, rfl, rfl, trivial⟩
  exact g_sub (lp_99 ((Int32.ofInt (0))) I0 h) ⟨rfl, rfl, rfl, trivial⟩
