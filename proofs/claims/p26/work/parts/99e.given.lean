section GIVEN
variable {s : State} {args : Array Value}
theorem st_lay {i N : Nat} (h : ∀ k, k < N → u_lay (cN i) (cT i) k ∈ wG) : ∀ w ∈ u_ws (cN i) (cT i) N, w ∈ wG := by
  intro w hw
  obtain ⟨k, hk, rfl⟩ := List.mem_map.mp hw
  exact h k (List.mem_range.mp hk)
theorem st_D (hts : ∀ w ∈ wG, w.before args s = true) : ∃ D : va_G, ∀ (k : Nat) (q : vw_C), cl[k]? = some q → u_Kn s q.1 q.2.1 q.2.2 (D.1 k) (D.2 k) := by
  have one : ∀ (i N : Nat), (∀ k, k < N → u_lay (cN i) (cT i) k ∈ wG) → Cond.instantiable (cN i) N ∈ wG → ∃ r : ClassId × (Nat → Nat), u_Kn s (cN i) (cT i) N r.1 r.2 := by
    intro i N h1 h2
    obtain ⟨c, iS, h⟩ := u_known (C := cN i) (T := cT i) (N := N) (n := N) hts (st_lay h1) (hts _ h2)
    exact ⟨(c, iS), h⟩
  have all : ∀ k : Nat, ∃ r : ClassId × (Nat → Nat), ∀ q : vw_C, cl[k]? = some q → u_Kn s q.1 q.2.1 q.2.2 r.1 r.2 := by
    intro k
    match k with
    | 0 => obtain ⟨r, h⟩ := one 0 17 lay_0 ki_0; exact ⟨r, fun q hq => by cases hq; exact h⟩
    | 1 => obtain ⟨r, h⟩ := one 1 3 lay_1 ki_1; exact ⟨r, fun q hq => by cases hq; exact h⟩
    | 2 => obtain ⟨r, h⟩ := one 2 3 lay_2 ki_2; exact ⟨r, fun q hq => by cases hq; exact h⟩
    | 3 => obtain ⟨r, h⟩ := one 3 15 lay_3 ki_3; exact ⟨r, fun q hq => by cases hq; exact h⟩
    | 4 => obtain ⟨r, h⟩ := one 4 10 lay_4 ki_4; exact ⟨r, fun q hq => by cases hq; exact h⟩
    | 5 => obtain ⟨r, h⟩ := one 5 10 lay_5 ki_5; exact ⟨r, fun q hq => by cases hq; exact h⟩
    | 6 => obtain ⟨r, h⟩ := one 6 8 lay_6 ki_6; exact ⟨r, fun q hq => by cases hq; exact h⟩
    | 7 => obtain ⟨r, h⟩ := one 7 5 lay_7 ki_7; exact ⟨r, fun q hq => by cases hq; exact h⟩
    | 8 => obtain ⟨r, h⟩ := one 8 17 lay_8 ki_8; exact ⟨r, fun q hq => by cases hq; exact h⟩
    | 9 => obtain ⟨r, h⟩ := one 9 18 lay_9 ki_9; exact ⟨r, fun q hq => by cases hq; exact h⟩
    | 10 => obtain ⟨r, h⟩ := one 10 37 lay_10 ki_10; exact ⟨r, fun q hq => by cases hq; exact h⟩
    | k + 11 => exact ⟨(0, fun _ => 0), fun q hq => by simp [cl] at hq⟩
  obtain ⟨f, hf⟩ := Classical.axiomOfChoice all
  exact ⟨(fun k => (f k).1, fun k => (f k).2), fun k q hq => hf k q hq⟩
theorem st_arr {ty : FieldType} (h : (Cond.arrayClass ty).before args s = true) : ∃ c : ClassId, ArrOfT s c ty ∧ s.vm.findClass ("[" ++ ty.toString) = some c := by
  obtain ⟨c, k, comp, h1, h2, h3⟩ := Cond.arrayClass_spec h
  exact ⟨c, fun n z => ⟨fun k h => (by cases h), k, h2, comp, h3⟩, h1⟩
theorem st_cy (hts : ∀ w ∈ wG, w.before args s = true) (hAO : va_AO "RoarMill$Drum" s) : ∃ cy : Nat → ClassId, ∀ (k : Nat) (q : ClassId × FieldType), (tyl cy)[k]? = some q → ArrOfT s q.1 q.2 ∧ va_RA s q.1 q.2 := by
  obtain ⟨c0, a0, b0⟩ := st_arr (hts _ ac_byte)
  obtain ⟨c1, a1, b1⟩ := st_arr (hts _ ac_int)
  obtain ⟨c2, a2, b2⟩ := st_arr (hts _ ac_long)
  obtain ⟨c3, a3, b3⟩ := st_arr (hts _ ac_boolean)
  obtain ⟨comp, c4, k4, h1, h2, h3, h4, h5⟩ := Cond.arrayOver_spec hAO
  refine ⟨fun k => match k with | 0 => c0 | 1 => c1 | 2 => c2 | 3 => c3 | _ => c4, fun k q hq => ?_⟩
  match k, hq with
  | 0, hq => cases hq; exact ⟨a0, b0⟩
  | 1, hq => cases hq; exact ⟨a1, b1⟩
  | 2, hq => cases hq; exact ⟨a2, b2⟩
  | 3, hq => cases hq; exact ⟨a3, b3⟩
  | 4, hq => cases hq; exact ⟨fun n z => ⟨fun k h => (by cases h), k4, h3, comp, h4⟩, k4, comp, h3, h4, h1, h5⟩
  | k + 5, hq => simp [tyl] at hq
/-- what the Statement gives of a String constant -/
def stT (q : String × Nat × String) : Term := .string q.1 q.2.1
def stW (q : String × Nat × String) (n : Nat) (bs : List Int32) : List Cond := [.exactly (stT q) "java/lang/String", .eq (.field (stT q) "java/lang/String" "coder" "B") (.int 0), .arrayOf (.field (stT q) "java/lang/String" "value" "[B") .byte, .eq (.length (.field (stT q) "java/lang/String" "value" "[B")) (.int (Int32.ofNat n))] ++ (List.range n).map (fun j => .eq (.elem (.field (stT q) "java/lang/String" "value" "[B") (.int (Int32.ofNat j))) (.int (bs.getD j 0)))
def stQ (i : Nat) : String × Nat × String := sTab.getD i ("", 0, "")
end GIVEN
theorem st_sl {o n : Nat} {L : List Cond} (h : ((flatC (Jvm.Cond.and given_1 narrow_1)).drop o).take n = L) : ∀ w ∈ L, w ∈ flatC (Jvm.Cond.and given_1 narrow_1) := fun w hw => List.mem_of_mem_drop (List.mem_of_mem_take (by rw [h]; exact hw))
def stI (i : Nat) : Prop := (∀ w ∈ stW (stQ i) (sLen.getD i 0) (sByt.getD i []), w ∈ flatC (Jvm.Cond.and given_1 narrow_1)) ∧ Cond.stringRef (stQ i).1 (stQ i).2.1 (stQ i).2.2 ∈ tables_1
theorem st_0 : stI 0 := ⟨st_sl (o := 22) (n := 8) (by decide +kernel), List.mem_append_right _ (List.mem_append_right _ (List.mem_append_left _ (List.mem_of_getElem? (i := 5) (by decide +kernel))))⟩
theorem st_1 : stI 1 := ⟨st_sl (o := 30) (n := 8) (by decide +kernel), List.mem_append_right _ (List.mem_append_right _ (List.mem_append_left _ (List.mem_of_getElem? (i := 66) (by decide +kernel))))⟩
theorem st_2 : stI 2 := ⟨st_sl (o := 38) (n := 8) (by decide +kernel), List.mem_append_right _ (List.mem_append_right _ (List.mem_append_left _ (List.mem_of_getElem? (i := 75) (by decide +kernel))))⟩
theorem st_3 : stI 3 := ⟨st_sl (o := 46) (n := 9) (by decide +kernel), List.mem_append_right _ (List.mem_append_right _ (List.mem_append_left _ (List.mem_of_getElem? (i := 76) (by decide +kernel))))⟩
theorem st_4 : stI 4 := ⟨st_sl (o := 55) (n := 9) (by decide +kernel), List.mem_append_right _ (List.mem_append_right _ (List.mem_append_left _ (List.mem_of_getElem? (i := 85) (by decide +kernel))))⟩
theorem st_5 : stI 5 := ⟨st_sl (o := 64) (n := 7) (by decide +kernel), List.mem_append_right _ (List.mem_append_right _ (List.mem_append_left _ (List.mem_of_getElem? (i := 86) (by decide +kernel))))⟩
theorem st_6 : stI 6 := ⟨st_sl (o := 71) (n := 9) (by decide +kernel), List.mem_append_right _ (List.mem_append_right _ (List.mem_append_left _ (List.mem_of_getElem? (i := 87) (by decide +kernel))))⟩
theorem st_7 : stI 7 := ⟨st_sl (o := 80) (n := 8) (by decide +kernel), List.mem_append_right _ (List.mem_append_right _ (List.mem_append_left _ (List.mem_of_getElem? (i := 88) (by decide +kernel))))⟩
theorem st_8 : stI 8 := ⟨st_sl (o := 88) (n := 7) (by decide +kernel), List.mem_append_right _ (List.mem_append_right _ (List.mem_append_left _ (List.mem_of_getElem? (i := 89) (by decide +kernel))))⟩
theorem st_9 : stI 9 := ⟨st_sl (o := 95) (n := 9) (by decide +kernel), List.mem_append_right _ (List.mem_append_right _ (List.mem_append_left _ (List.mem_of_getElem? (i := 98) (by decide +kernel))))⟩
theorem st_10 : stI 10 := ⟨st_sl (o := 104) (n := 9) (by decide +kernel), List.mem_append_right _ (List.mem_append_right _ (List.mem_append_left _ (List.mem_of_getElem? (i := 107) (by decide +kernel))))⟩
theorem st_11 : stI 11 := ⟨st_sl (o := 113) (n := 10) (by decide +kernel), List.mem_append_right _ (List.mem_append_right _ (List.mem_append_left _ (List.mem_of_getElem? (i := 124) (by decide +kernel))))⟩
theorem st_12 : stI 12 := ⟨st_sl (o := 123) (n := 8) (by decide +kernel), List.mem_append_right _ (List.mem_append_right _ (List.mem_append_left _ (List.mem_of_getElem? (i := 125) (by decide +kernel))))⟩
theorem st_13 : stI 13 := ⟨st_sl (o := 131) (n := 8) (by decide +kernel), List.mem_append_right _ (List.mem_append_right _ (List.mem_append_left _ (List.mem_of_getElem? (i := 130) (by decide +kernel))))⟩
theorem st_14 : stI 14 := ⟨st_sl (o := 139) (n := 8) (by decide +kernel), List.mem_append_right _ (List.mem_append_right _ (List.mem_append_left _ (List.mem_of_getElem? (i := 131) (by decide +kernel))))⟩
theorem st_15 : stI 15 := ⟨st_sl (o := 147) (n := 34) (by decide +kernel), List.mem_append_right _ (List.mem_append_right _ (List.mem_append_right _ (List.mem_append_right _ (List.mem_append_left _ (List.mem_of_getElem? (i := 95) (by decide +kernel))))))⟩
theorem st_16 : stI 16 := ⟨st_sl (o := 181) (n := 8) (by decide +kernel), List.mem_append_right _ (List.mem_append_right _ (List.mem_append_right _ (List.mem_append_right _ (List.mem_append_right _ (List.mem_append_left _ (List.mem_of_getElem? (i := 107) (by decide +kernel)))))))⟩
theorem st_17 : stI 17 := ⟨st_sl (o := 190) (n := 8) (by decide +kernel), List.mem_append_right _ (List.mem_append_right _ (List.mem_append_right _ (List.mem_append_right _ (List.mem_append_right _ (List.mem_append_left _ (List.mem_of_getElem? (i := 133) (by decide +kernel)))))))⟩
theorem st_18 : stI 18 := ⟨st_sl (o := 199) (n := 8) (by decide +kernel), List.mem_append_right _ (List.mem_append_right _ (List.mem_append_right _ (List.mem_append_right _ (List.mem_append_right _ (List.mem_append_left _ (List.mem_of_getElem? (i := 145) (by decide +kernel)))))))⟩
theorem st_19 : stI 19 := ⟨st_sl (o := 208) (n := 9) (by decide +kernel), List.mem_append_right _ (List.mem_append_right _ (List.mem_append_right _ (List.mem_append_right _ (List.mem_append_right _ (List.mem_append_left _ (List.mem_of_getElem? (i := 146) (by decide +kernel)))))))⟩
theorem st_20 : stI 20 := ⟨st_sl (o := 218) (n := 9) (by decide +kernel), List.mem_append_right _ (List.mem_append_right _ (List.mem_append_right _ (List.mem_append_right _ (List.mem_append_right _ (List.mem_append_left _ (List.mem_of_getElem? (i := 155) (by decide +kernel)))))))⟩
theorem st_21 : stI 21 := ⟨st_sl (o := 228) (n := 7) (by decide +kernel), List.mem_append_right _ (List.mem_append_right _ (List.mem_append_right _ (List.mem_append_right _ (List.mem_append_right _ (List.mem_append_left _ (List.mem_of_getElem? (i := 156) (by decide +kernel)))))))⟩
theorem st_22 : stI 22 := ⟨st_sl (o := 236) (n := 9) (by decide +kernel), List.mem_append_right _ (List.mem_append_right _ (List.mem_append_right _ (List.mem_append_right _ (List.mem_append_right _ (List.mem_append_left _ (List.mem_of_getElem? (i := 157) (by decide +kernel)))))))⟩
theorem st_23 : stI 23 := ⟨st_sl (o := 246) (n := 8) (by decide +kernel), List.mem_append_right _ (List.mem_append_right _ (List.mem_append_right _ (List.mem_append_right _ (List.mem_append_right _ (List.mem_append_left _ (List.mem_of_getElem? (i := 158) (by decide +kernel)))))))⟩
theorem st_24 : stI 24 := ⟨st_sl (o := 255) (n := 7) (by decide +kernel), List.mem_append_right _ (List.mem_append_right _ (List.mem_append_right _ (List.mem_append_right _ (List.mem_append_right _ (List.mem_append_left _ (List.mem_of_getElem? (i := 159) (by decide +kernel)))))))⟩
theorem st_25 : stI 25 := ⟨st_sl (o := 263) (n := 9) (by decide +kernel), List.mem_append_right _ (List.mem_append_right _ (List.mem_append_right _ (List.mem_append_right _ (List.mem_append_right _ (List.mem_append_left _ (List.mem_of_getElem? (i := 164) (by decide +kernel)))))))⟩
theorem st_26 : stI 26 := ⟨st_sl (o := 273) (n := 9) (by decide +kernel), List.mem_append_right _ (List.mem_append_right _ (List.mem_append_right _ (List.mem_append_right _ (List.mem_append_right _ (List.mem_append_left _ (List.mem_of_getElem? (i := 173) (by decide +kernel)))))))⟩
theorem st_27 : stI 27 := ⟨st_sl (o := 283) (n := 10) (by decide +kernel), List.mem_append_right _ (List.mem_append_right _ (List.mem_append_right _ (List.mem_append_right _ (List.mem_append_right _ (List.mem_append_left _ (List.mem_of_getElem? (i := 190) (by decide +kernel)))))))⟩
theorem st_28 : stI 28 := ⟨st_sl (o := 294) (n := 8) (by decide +kernel), List.mem_append_right _ (List.mem_append_right _ (List.mem_append_right _ (List.mem_append_right _ (List.mem_append_right _ (List.mem_append_left _ (List.mem_of_getElem? (i := 191) (by decide +kernel)))))))⟩
theorem st_29 : stI 29 := ⟨st_sl (o := 303) (n := 8) (by decide +kernel), List.mem_append_right _ (List.mem_append_right _ (List.mem_append_right _ (List.mem_append_right _ (List.mem_append_right _ (List.mem_append_left _ (List.mem_of_getElem? (i := 196) (by decide +kernel)))))))⟩
theorem st_30 : stI 30 := ⟨st_sl (o := 312) (n := 8) (by decide +kernel), List.mem_append_right _ (List.mem_append_right _ (List.mem_append_right _ (List.mem_append_right _ (List.mem_append_right _ (List.mem_append_left _ (List.mem_of_getElem? (i := 197) (by decide +kernel)))))))⟩
theorem st_all : ∀ i, i < 31 → stI i := fun i hi => match i, hi with
  | 0, _ => st_0
  | 1, _ => st_1
  | 2, _ => st_2
  | 3, _ => st_3
  | 4, _ => st_4
  | 5, _ => st_5
  | 6, _ => st_6
  | 7, _ => st_7
  | 8, _ => st_8
  | 9, _ => st_9
  | 10, _ => st_10
  | 11, _ => st_11
  | 12, _ => st_12
  | 13, _ => st_13
  | 14, _ => st_14
  | 15, _ => st_15
  | 16, _ => st_16
  | 17, _ => st_17
  | 18, _ => st_18
  | 19, _ => st_19
  | 20, _ => st_20
  | 21, _ => st_21
  | 22, _ => st_22
  | 23, _ => st_23
  | 24, _ => st_24
  | 25, _ => st_25
  | 26, _ => st_26
  | 27, _ => st_27
  | 28, _ => st_28
  | 29, _ => st_29
  | 30, _ => st_30
  | n + 31, h => absurd h (by omega)
section GIVEN2
variable {s : State} {args : Array Value} {A : Nat → Prop}
theorem st_str (hgv : ∀ w ∈ flatC (Jvm.Cond.and given_1 narrow_1), w.before args s = true) (htb : ∀ w ∈ tables_1, w.before args s = true) (hA : ∀ a : Nat, a < s.heap.size → ¬ A a) : ∃ ad : AD, (∀ i, i < 31 → vk_S 1 [sLen.getD i 0] [sByt.getD i []] (fun _ => ad.1 i) (fun _ => ad.2 i) A s s.heap) ∧ (∀ i, i < 31 → vk_R (stQ i).1 (stQ i).2.1 (stQ i).2.2 (ad.1 i) s) := by
  have one : ∀ i : Nat, ∃ q : Nat × Nat, i < 31 → vk_S 1 [sLen.getD i 0] [sByt.getD i []] (fun _ => q.1) (fun _ => q.2) A s s.heap ∧ vk_R (stQ i).1 (stQ i).2.1 (stQ i).2.2 q.1 s := by
    intro i
    by_cases hi : i < 31
    · obtain ⟨hw, href⟩ := st_all i hi
      have hw' : ∀ w ∈ stW (stQ i) (sLen.getD i 0) (sByt.getD i []), w.before args s = true := fun w h => hgv w (hw w h)
      have hlen : ∀ i, i < 31 → sLen.getD i 0 < 2 ^ 31 := by decide
      obtain ⟨adK, adV, h1, h2⟩ := vk_Sof (args := args) (s := s) (N := 1) (tm := fun _ => stT (stQ i)) (len := [sLen.getD i 0]) (byt := [sByt.getD i []]) (A := A)
        (fun k hk => by rcases (show k = 0 by omega) with rfl; exact hlen i hi)
        (fun k _ => hw' _ (by simp [stW])) (fun k _ => hw' _ (by simp [stW])) (fun k _ => hw' _ (by simp [stW]))
        (fun k hk => by rcases (show k = 0 by omega) with rfl; exact hw' _ (by simp [stW]))
        (fun k hk j hj => by
          rcases (show k = 0 by omega) with rfl
          exact hw' _ (List.mem_append_right _ (List.mem_map.mpr ⟨j, List.mem_range.mpr hj, rfl⟩)))
        (fun k j hk hj hne => absurd (show k = j by omega) hne) hA
      refine ⟨(adK 0, adV 0), fun _ => ⟨⟨fun k hk => ?_, fun k j hk hj _ => by omega⟩, vk_R.of (A := args) (htb _ href) (h2 0 (by decide))⟩⟩
      rcases (show k = 0 by omega) with rfl
      exact h1.1 0 (by decide)
    · exact ⟨(0, 0), fun h => absurd h hi⟩
  obtain ⟨f, hf⟩ := Classical.axiomOfChoice one
  exact ⟨(fun i => (f i).1, fun i => (f i).2), fun i hi => (hf i hi).1, fun i hi => (hf i hi).2⟩
theorem st_q {i : Nat} {q : String × Nat × String} (h : sTab[i]? = some q) : i < 31 ∧ stQ i = q := by
  have h1 : i < sTab.length := (List.getElem?_eq_some_iff.mp h).1
  refine ⟨h1, ?_⟩
  unfold stQ
  rw [List.getD_eq_getElem?_getD, h]; rfl
theorem st_lays1 : Cond.laysStatic "java/lang/String" "COMPACT_STRINGS" "Z" ∈ tables_1 := by decide +kernel
theorem st_lays2 : Cond.laysStatic "jdk/internal/util/Preconditions" "SIOOBE_FORMATTER" "Ljava/util/function/BiFunction;" ∈ tables_1 := by decide +kernel
theorem st_lays3 : Cond.laysStatic Bundle.tN "UNASSIGNED_STACK" Bundle.steD ∈ tables_1 := by decide +kernel
theorem st_lays4 : Cond.laysStatic Bundle.tN "SUPPRESSED_SENTINEL" Bundle.listD ∈ tables_1 := by decide +kernel
theorem st_ini1 : Cond.initialized "java/lang/String" ∈ tables_1 := by decide +kernel
theorem st_ini2 : Cond.initialized "jdk/internal/util/Preconditions" ∈ tables_1 := by decide +kernel
theorem st_ini3 : Cond.initialized Bundle.tN ∈ tables_1 := by decide +kernel
theorem st_g1 : Cond.eq (.static "java/lang/String" "COMPACT_STRINGS" "Z") (.int 1) ∈ flatC (Jvm.Cond.and given_1 narrow_1) := by decide +kernel
theorem st_g2 : Cond.isRef (.static "jdk/internal/util/Preconditions" "SIOOBE_FORMATTER" "Ljava/util/function/BiFunction;") ∈ flatC (Jvm.Cond.and given_1 narrow_1) := by decide +kernel
theorem st_g3 : Cond.isRef (.static Bundle.tN "UNASSIGNED_STACK" Bundle.steD) ∈ flatC (Jvm.Cond.and given_1 narrow_1) := by decide +kernel
theorem st_g4 : Cond.isRef (.static Bundle.tN "SUPPRESSED_SENTINEL" Bundle.listD) ∈ flatC (Jvm.Cond.and given_1 narrow_1) := by decide +kernel
theorem st_ao : Cond.arrayOver (.object "RoarMill$Drum") ∈ tables_1 := by decide +kernel
theorem st_xd : ∀ w ∈ xD, w ∈ tables_1 := by decide +kernel
theorem st_SC (hgv : ∀ w ∈ flatC (Jvm.Cond.and given_1 narrow_1), w.before args s = true) (htb : ∀ w ∈ tables_1, w.before args s = true) (hA : ∀ a : Nat, a < s.heap.size → ¬ A a) : ∃ ad : AD, SC ad A s s.heap := by
  obtain ⟨ad, h1, h2⟩ := st_str hgv htb hA
  refine ⟨ad, h1, fun i q hq => ?_, NW.of htb, va_Zof (htb _ st_lays1) (htb _ st_ini1) (va_eqt (hgv _ st_g1)) hA, va_Zqof (htb _ st_lays2) (htb _ st_ini2) (hgv _ st_g2) hA, va_Zqof (htb _ st_lays3) (htb _ st_ini3) (hgv _ st_g3) hA, va_Zqof (htb _ st_lays4) (htb _ st_ini3) (hgv _ st_g4) hA⟩
  obtain ⟨hi, rfl⟩ := st_q hq
  exact h2 i hi
theorem st_LT (hgv : ∀ w ∈ flatC (Jvm.Cond.and given_1 narrow_1), w.before args s = true) (htb : ∀ w ∈ tables_1, w.before args s = true) (hA : ∀ a : Nat, a < s.heap.size → ¬ A a) : LT A s s.heap := by
  refine ⟨vx_Zqof (htb _ st_lays3) (htb _ st_ini3) (hgv _ st_g3) hA, vx_Zqof (htb _ st_lays4) (htb _ st_ini3) (hgv _ st_g4) hA, fun w hw => ?_⟩
  have hz := htb w (st_xd w hw)
  simp only [xD, List.mem_cons, List.not_mem_nil, or_false] at hw
  rcases hw with rfl | rfl | rfl | rfl <;> exact va_Nw.of (A := args) rfl hz
end GIVEN2
