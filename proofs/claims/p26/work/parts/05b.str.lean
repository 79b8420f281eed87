theorem fs_value : Cond.fieldLink "java/lang/String" 9 "java/lang/String" "value" "[B" ∈ wG := wG_p7 185 (by decide +kernel) (by decide +kernel)
theorem fs_coder : Cond.fieldLink "java/lang/String" 15 "java/lang/String" "coder" "B" ∈ wG := wG_p7 186 (by decide +kernel) (by decide +kernel)
theorem fs_comp : Cond.fieldLink "java/lang/String" 38 "java/lang/String" "COMPACT_STRINGS" "Z" ∈ wG := wG_p3 18 (by decide +kernel) (by decide +kernel)
theorem fs_form : Cond.fieldLink "java/lang/String" 1053 "jdk/internal/util/Preconditions" "SIOOBE_FORMATTER" "Ljava/util/function/BiFunction;" ∈ wG := wG_p3 34 (by decide +kernel) (by decide +kernel)
theorem s_nret {X : CTX} {cc : ByteArray} {nL : Nat} {own : String} {rm : Room} {P : List Nat} {K : Nat → Nat} {I I0 : Nat → Nat → Int32} {O : Nat → Nat → Option Nat} {J J0 : Nat → Nat → Int64} {nc ns pc : Nat} {L : List (Nat × Value)} {fr : Nat → Bool} {v : Int32} {ty : FieldType} {ρ : Int32 → (Nat → Nat → Int32) → Prop} (C : Cx X cc nL own rm) (E : Rx X (some ty) (SPo fr 1 ρ P K I0 O J0) rm) (d : decode cc pc = .ok (.ireturn, 1)) (hz : narrow ty (.int v) = .int v) (hro : nc ≤ rm.cells ∧ ns ≤ rm.slots) (hV : SV fr P K O I0 J0 I J) (hρ : ρ v I) : GG X nL P K I O J nc ns pc L [.int v] := g_nret C E d hz hro.1 hro.2 ⟨rfl, rfl, rfl, hV.1, hV.2, v, rfl, hρ⟩
theorem str_len : ∀ i, i < 31 → (Int32.ofNat (sLen.getD i 0) >>> ((0 : Int32) &&& 31)).toInt = ((sLen.getD i 0 : Nat) : Int) := by decide +kernel
theorem str_len0 : ∀ i, i < 31 → (Int32.ofNat (sLen.getD i 0)).toInt = ((sLen.getD i 0 : Nat) : Int) := by decide +kernel
theorem str_chr : ∀ i, i < 31 → ∀ j, j < sLen.getD i 0 → ((((sByt.getD i []).getD j 0) &&& (Int32.ofInt 255)).toUInt32 % 65536).toInt32 = (sByt.getD i []).getD j 0 := by decide +kernel
theorem str_nar : ∀ i, i < 31 → ∀ j, j < sLen.getD i 0 → narrow .char (.int ((sByt.getD i []).getD j 0)) = .int ((sByt.getD i []).getD j 0) := by decide +kernel
theorem cJS_coder {P : List Nat} {K : Nat → Nat} {I0 : Nat → Nat → Int32} {O : Nat → Nat → Option Nat} {J0 : Nat → Nat → Int64} (hV : IV P K I0 O) {i : Nat} (hi : i < 31) : ConA yJS_coder bJS_coder 1 (some .byte) ({ frames := 0, cells := 0, slots := 0, locals := 0 } : Room) P K I0 O J0 (fun ad => [.ref (ad.1 i)]) (SPo frP 1 (fun z _ => z = 0) P K I0 O J0) := by
  refine ConA.ofG mfJS_coder (fun _ => Nat.le_of_ble_eq_true rfl) ?_
  intro X C E
  have hV0 : SV frP P K O I0 J0 I0 J0 := SV.rf hV
  refine g_strZ C dJS_coder_0 fs_comp ?_
  refine g_if_eq 13 C dJS_coder_3 (by decide) (fun c => absurd c (by decide)) (fun _ => ?_)
  refine g_aload_n C dJS_coder_6 rfl ?_
  refine g_strC C dJS_coder_7 hi fs_coder ?_
  refine g_goto 14 C dJS_coder_10 (by decide) ?_
  exact s_nret C E dJS_coder_14 rfl ⟨Nat.zero_le _, Nat.zero_le _⟩ hV0 rfl
theorem cJS_isLatin1 {P : List Nat} {K : Nat → Nat} {I0 : Nat → Nat → Int32} {O : Nat → Nat → Option Nat} {J0 : Nat → Nat → Int64} (hV : IV P K I0 O) {i : Nat} (hi : i < 31) : ConA yJS_isLatin1 bJS_isLatin1 1 (some .boolean) ({ frames := 0, cells := 0, slots := 0, locals := 0 } : Room) P K I0 O J0 (fun ad => [.ref (ad.1 i)]) (SPo frP 1 (fun z _ => z = 1) P K I0 O J0) := by
  refine ConA.ofG mfJS_isLatin1 (fun _ => Nat.le_of_ble_eq_true rfl) ?_
  intro X C E
  have hV0 : SV frP P K O I0 J0 I0 J0 := SV.rf hV
  refine g_strZ C dJS_isLatin1_0 fs_comp ?_
  refine g_if_eq 17 C dJS_isLatin1_3 (by decide) (fun c => absurd c (by decide)) (fun _ => ?_)
  refine g_aload_n C dJS_isLatin1_6 rfl ?_
  refine g_strC C dJS_isLatin1_7 hi fs_coder ?_
  refine g_if_ne 17 C dJS_isLatin1_10 (by decide) (fun c => absurd rfl c) (fun _ => ?_)
  refine g_iconst (v := 1) C dJS_isLatin1_13 (by decide) ?_
  refine g_goto 18 C dJS_isLatin1_14 (by decide) ?_
  exact s_nret C E dJS_isLatin1_18 rfl ⟨Nat.zero_le _, Nat.zero_le _⟩ hV0 rfl
theorem cJS_length {P : List Nat} {K : Nat → Nat} {I0 : Nat → Nat → Int32} {O : Nat → Nat → Option Nat} {J0 : Nat → Nat → Int64} (hV : IV P K I0 O) {i : Nat} (hi : i < 31) : ConA yJS_length bJS_length 1 (some .int) ({ frames := 1, cells := 0, slots := 0, locals := 20 } : Room) P K I0 O J0 (fun ad => [.ref (ad.1 i)]) (SPo frP 1 (fun z _ => z.toInt = ((sLen.getD i 0 : Nat) : Int)) P K I0 O J0) := by
  refine ConA.ofG mfJS_length (fun _ => Nat.le_of_ble_eq_true rfl) ?_
  intro X C E
  have hV0 : SV frP P K O I0 J0 I0 J0 := SV.rf hV
  refine g_aload_n C dJS_length_0 rfl ?_
  refine g_strV C dJS_length_1 hi fs_value ?_
  refine g_strL C dJS_length_4 hi ?_
  refine g_aload_n C dJS_length_5 rfl ?_
  refine s_callW_ip (av := fun _ => []) C dJS_length_6 mfJS_coder mvJS_coder ln_JS_335 hi rfl (cJS_coder hV hi) rfl rfl (Nat.le_of_ble_eq_true rfl) ⟨Nat.le_of_ble_eq_true rfl, Nat.le_of_ble_eq_true rfl⟩ ⟨rfl, rfl⟩ ⟨Nat.zero_le _, Nat.zero_le _⟩ (fun z hz => ?_)
  subst hz
  refine g_ishr C dJS_length_9 ?_
  exact s_iret C E dJS_length_10 ⟨Nat.zero_le _, Nat.zero_le _⟩ hV0 (str_len i hi)
theorem cJP_checkIndex {P : List Nat} {K : Nat → Nat} {I0 : Nat → Nat → Int32} {O : Nat → Nat → Option Nat} {J0 : Nat → Nat → Int64} (hV : IV P K I0 O) {x y : Int32} {v : Value} (hv : v = .null ∨ ∃ t, v = .ref t) (h0 : 0 ≤ x.toInt ∧ x.toInt < y.toInt) : Con yJP_checkIndex bJP_checkIndex 3 (some .int) ({ frames := 0, cells := 0, slots := 0, locals := 0 } : Room) P K I0 O J0 [.int x, .int y, v] (SPo frP 1 tt P K I0 O J0) := by
  refine Con.ofG mfJP_checkIndex (by rcases hv with rfl | ⟨t, rfl⟩ <;> exact Nat.le_of_ble_eq_true rfl) ?_
  intro X C E
  have hV0 : SV frP P K O I0 J0 I0 J0 := SV.rf hV
  refine g_iload_n C dJP_checkIndex_0 rfl ?_
  refine gt_if_lt 9 C dJP_checkIndex_1 (by decide) rfl (fun c => ?_) (fun c => ?_)
  · exfalso; omega
  refine g_iload_n C dJP_checkIndex_4 rfl ?_
  refine g_iload_n C dJP_checkIndex_5 rfl ?_
  refine gt_icmp_lt 16 C dJP_checkIndex_6 (by decide) rfl rfl (fun c => ?_) (fun c => ?_)
  · refine g_iload_n C dJP_checkIndex_16 rfl ?_
    exact s_iret C E dJP_checkIndex_17 ⟨Nat.zero_le _, Nat.zero_le _⟩ hV0 trivial
  · exfalso; omega
theorem cJS_checkIndex {P : List Nat} {K : Nat → Nat} {I0 : Nat → Nat → Int32} {O : Nat → Nat → Option Nat} {J0 : Nat → Nat → Int64} (hV : IV P K I0 O) {x y : Int32} (h0 : 0 ≤ x.toInt ∧ x.toInt < y.toInt) : Con yJS_checkIndex bJS_checkIndex 2 none ({ frames := 1, cells := 0, slots := 0, locals := 22 } : Room) P K I0 O J0 [.int x, .int y] (SPo frP 0 tt P K I0 O J0) := by
  refine Con.ofG mfJS_checkIndex (Nat.le_of_ble_eq_true rfl) ?_
  intro X C E
  have hV0 : SV frP P K O I0 J0 I0 J0 := SV.rf hV
  refine g_iload_n C dJS_checkIndex_0 rfl ?_
  refine g_iload_n C dJS_checkIndex_1 rfl ?_
  refine g_strF C dJS_checkIndex_2 fs_form (fun v hv => ?_)
  refine s_callS_ip (av := fun _ => [.int x, .int y, v]) C dJS_checkIndex_5 mfJP_checkIndex msJP_checkIndex ln_JS_1059 (cJP_checkIndex hV hv h0) rfl rfl (Nat.le_of_ble_eq_true rfl) ⟨Nat.le_of_ble_eq_true rfl, Nat.le_of_ble_eq_true rfl⟩ ⟨rfl, rfl⟩ ⟨Nat.zero_le _, Nat.zero_le _⟩ (fun z hz => ?_)
  refine g_pop C dJS_checkIndex_8 rfl ?_
  exact s_vret C E dJS_checkIndex_9 ⟨Nat.zero_le _, Nat.zero_le _⟩ hV0 trivial
theorem cJL_charAt {P : List Nat} {K : Nat → Nat} {I0 : Nat → Nat → Int32} {O : Nat → Nat → Option Nat} {J0 : Nat → Nat → Int64} (hV : IV P K I0 O) {i : Nat} (hi : i < 31) {x : Int32} (h0 : 0 ≤ x.toInt ∧ x.toInt < ((sLen.getD i 0 : Nat) : Int)) : ConA yJL_charAt bJL_charAt 2 (some .char) ({ frames := 2, cells := 0, slots := 0, locals := 43 } : Room) P K I0 O J0 (fun ad => [.ref (ad.2 i), .int x]) (SPo frP 1 (fun z _ => z = (sByt.getD i []).getD x.toNatClampNeg 0) P K I0 O J0) := by
  refine ConA.ofG mfJL_charAt (fun _ => Nat.le_of_ble_eq_true rfl) ?_
  intro X C E
  have hV0 : SV frP P K O I0 J0 I0 J0 := SV.rf hV
  have hlt : x.toNatClampNeg < sLen.getD i 0 := by
    have : x.toNatClampNeg = x.toInt.toNat := rfl
    omega
  refine g_iload_n C dJL_charAt_0 rfl ?_
  refine g_aload_n C dJL_charAt_1 rfl ?_
  refine g_strL C dJL_charAt_2 hi ?_
  refine s_callS_vp (av := fun _ => [.int x, .int (Int32.ofNat (sLen.getD i 0))]) C dJL_charAt_3 mfJS_checkIndex msJS_checkIndex ln_JL_9 (cJS_checkIndex hV (by rw [str_len0 i hi]; exact h0)) rfl rfl (Nat.le_of_ble_eq_true rfl) ⟨Nat.le_of_ble_eq_true rfl, Nat.le_of_ble_eq_true rfl⟩ ⟨rfl, rfl⟩ ⟨Nat.zero_le _, Nat.zero_le _⟩ (fun _ => ?_)
  refine g_aload_n C dJL_charAt_6 rfl ?_
  refine g_iload_n C dJL_charAt_7 rfl ?_
  refine g_strB C dJL_charAt_8 hi (vp_in_iff.mpr h0) ?_
  refine g_sipush (v := Int32.ofInt 255) C dJL_charAt_9 (by decide) ?_
  refine g_iand C dJL_charAt_12 ?_
  refine g_i2c C dJL_charAt_13 ?_
  rw [str_chr i hi _ hlt]
  exact s_nret C E dJL_charAt_14 (str_nar i hi _ hlt) ⟨Nat.zero_le _, Nat.zero_le _⟩ hV0 rfl
theorem cJS_charAt {P : List Nat} {K : Nat → Nat} {I0 : Nat → Nat → Int32} {O : Nat → Nat → Option Nat} {J0 : Nat → Nat → Int64} (hV : IV P K I0 O) {i : Nat} (hi : i < 31) {x : Int32} (h0 : 0 ≤ x.toInt ∧ x.toInt < ((sLen.getD i 0 : Nat) : Int)) : ConA yJS_charAt bJS_charAt 2 (some .char) ({ frames := 3, cells := 0, slots := 0, locals := 64 } : Room) P K I0 O J0 (fun ad => [.ref (ad.1 i), .int x]) (SPo frP 1 (fun z _ => z = (sByt.getD i []).getD x.toNatClampNeg 0) P K I0 O J0) := by
  refine ConA.ofG mfJS_charAt (fun _ => Nat.le_of_ble_eq_true rfl) ?_
  intro X C E
  have hV0 : SV frP P K O I0 J0 I0 J0 := SV.rf hV
  have hlt : x.toNatClampNeg < sLen.getD i 0 := by
    have : x.toNatClampNeg = x.toInt.toNat := rfl
    omega
  refine g_aload_n C dJS_charAt_0 rfl ?_
  refine s_callW_ip (av := fun _ => []) C dJS_charAt_1 mfJS_isLatin1 mvJS_isLatin1 ln_JS_492 hi rfl (cJS_isLatin1 hV hi) rfl rfl (Nat.le_of_ble_eq_true rfl) ⟨Nat.le_of_ble_eq_true rfl, Nat.le_of_ble_eq_true rfl⟩ ⟨rfl, rfl⟩ ⟨Nat.zero_le _, Nat.zero_le _⟩ (fun z hz => ?_)
  subst hz
  refine g_if_eq 16 C dJS_charAt_4 (by decide) (fun c => absurd c (by decide)) (fun _ => ?_)
  refine g_aload_n C dJS_charAt_7 rfl ?_
  refine g_strV C dJS_charAt_8 hi fs_value ?_
  refine g_iload_n C dJS_charAt_11 rfl ?_
  refine s_callS_ip (av := fun ad => [.ref (ad.2 i), .int x]) C dJS_charAt_12 mfJL_charAt msJL_charAt ln_JS_495 (cJL_charAt hV hi h0) rfl rfl (Nat.le_of_ble_eq_true rfl) ⟨Nat.le_of_ble_eq_true rfl, Nat.le_of_ble_eq_true rfl⟩ ⟨rfl, rfl⟩ ⟨Nat.zero_le _, Nat.zero_le _⟩ (fun z hz => ?_)
  subst hz
  exact s_nret C E dJS_charAt_15 (str_nar i hi _ hlt) ⟨Nat.zero_le _, Nat.zero_le _⟩ hV0 rfl

