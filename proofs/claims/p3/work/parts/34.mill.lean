/-- the end of mill: the two mills may have changed places -/
def MPo (a : Nat) (ρ : Int32 → (Nat → Nat → Int32) → Prop) (P : List Nat) (K : Nat → Nat) (I : Nat → Nat → Int32) (O : Nat → Nat → Option Nat) (J : Nat → Nat → Int64) : PST := fun r P' K' I' O' J' => P' = P ∧ K' = K ∧ IV P K I' O' ∧ FR frC K I J I' J' ∧ (∀ f, f ≠ 1 → f ≠ 2 → O' a f = O a f) ∧ (∀ b, ¬ b = a → O' b = O b) ∧ ∃ z, r = some (.int z) ∧ ρ z I'
section MROWS
variable {X : CTX} {cc : ByteArray} {nL : Nat} {own : String} {rm : Room} {P : List Nat} {K : Nat → Nat} {I I0 : Nat → Nat → Int32} {O : Nat → Nat → Option Nat} {J J0 : Nat → Nat → Int64} {nc ns pc : Nat} {L : List (Nat × Value)} {st : List Value} {a : Nat} {ρ : Int32 → (Nat → Nat → Int32) → Prop}
theorem m_iret {v : Int32} (C : Cx X cc nL own rm) (E : Rx X (some .int) (MPo a ρ P K I0 O J0) rm) (d : decode cc pc = .ok (.ireturn, 1)) (hro : nc ≤ rm.cells ∧ ns ≤ rm.slots) (hV : SV frC P K O I0 J0 I J) (hρ : ρ v I) : GG X nL P K I O J nc ns pc L [.int v] := g_iret C E d hro.1 hro.2 ⟨rfl, rfl, hV.1, hV.2, fun _ _ _ => rfl, fun _ _ => rfl, v, rfl, hρ⟩
theorem mill_tail {RDR : Nat} (C : Cx X bRM_mill 4 "RoarMill" rm) (E : Rx X (some .int) (MPo a ρ P K I0 O J0) rm) (h0 : a ∈ P ∧ K a = 8) (hRo : O a 0 = some RDR) (hRk : RDR ∈ P ∧ K RDR = 5) (hV : SV frC P K O I0 J0 I J) (hlen : (I RDR 1).toInt = 0) (hρ : ∀ z I_, (I_ RDR 1).toInt = 0 → ρ z I_) (hb1 : ({ frames := 3, cells := 0, slots := 0, locals := 61 } : Room).frames + 1 ≤ rm.frames ∧ 8 + (2 + 11) + ({ frames := 3, cells := 0, slots := 0, locals := 61 } : Room).locals ≤ rm.locals) (hb2 : ({ frames := 0, cells := 0, slots := 0, locals := 0 } : Room).frames + 1 ≤ rm.frames ∧ 8 + (2 + 11) + ({ frames := 0, cells := 0, slots := 0, locals := 0 } : Room).locals ≤ rm.locals) (hL : lkp L 0 = some (.ref a)) : GG X 4 P K I O J 0 0 74 L [] := by
  have hz : 0 ≤ rm.cells ∧ 0 ≤ rm.slots := ⟨Nat.zero_le _, Nat.zero_le _⟩
  refine g_sub (L' := [(0, .ref a)]) ?_ ⟨hL, trivial⟩
  refine g_aload_n C dRM_mill_74 rfl ?_
  refine gt_getr C dRM_mill_75 fl_RM_19 h0 hV.1.1 rfl (fun c qc hc => ?_)
  refine g_astore_n (i := 3) C dRM_mill_78 rfl (by decide) ?_
  refine g_aload_n C dRM_mill_79 rfl ?_
  refine g_aload_n C dRM_mill_80 rfl ?_
  refine gt_getr C dRM_mill_81 fl_RM_23 h0 hV.1.1 rfl (fun s qs hs => ?_)
  refine g_putr (x := some s) C dRM_mill_84 fl_RM_19 h0 rfl rfl rfl ?_
  refine g_aload_n C dRM_mill_87 rfl ?_
  refine g_aload_n C dRM_mill_88 rfl ?_
  refine g_putr (x := some c) C dRM_mill_89 fl_RM_23 h0 rfl rfl rfl ?_
  have f1 : ∀ f, f ≠ 1 → f ≠ 2 → (up2 (up2 O a 1 (some s)) a 2 (some c)) a f = O a f := fun f h1 h2 => by rw [up2_ne _ _ (fun z => h2 z.2), up2_ne _ _ (fun z => h1 z.2)]
  have f2 : ∀ b, ¬ b = a → (up2 (up2 O a 1 (some s)) a 2 (some c)) b = O b := fun b h => by rw [up2_row _ _ h, up2_row _ _ h]
  have f3 : (up2 (up2 O a 1 (some s)) a 2 (some c)) a 1 = some s := by rw [up2_ne _ _ (fun z => absurd z.2 (by decide)), up2_self]
  have f4 : (up2 (up2 O a 1 (some s)) a 2 (some c)) a 2 = some c := up2_self _ _ _ _
  generalize up2 (up2 O a 1 (some s)) a 2 (some c) = O2 at f1 f2 f3 f4 ⊢
  have hT2 : TR P K O2 := by
    intro b hb k κ' hs2
    by_cases e : b = a
    · subst e
      by_cases e1 : k = 1
      · subst e1; rw [h0.2] at hs2; cases hs2; exact ⟨s, f3, hs⟩
      · by_cases e2 : k = 2
        · subst e2; rw [h0.2] at hs2; cases hs2; exact ⟨c, f4, hc⟩
        · rw [f1 k e1 e2]; exact hV.1.1 b hb k κ' hs2
    · rw [f2 b e]; exact hV.1.1 b hb k κ' hs2
  have hV2 : SV frC P K O2 I J I J := SV.rf ⟨hT2, hV.1.2⟩
  refine g_aload_n C dRM_mill_92 rfl ?_
  refine s_callV_v (av := fun ad => []) C dRM_mill_93 mfRM_beginAnew mvRM_beginAnew ln_RM_116 h0 (by decide) rfl hV2 fr_CN (cRM_beginAnew hV2.1 h0) rfl rfl (Nat.le_of_ble_eq_true rfl) hb1 ⟨rfl, rfl⟩ hz (fun I3 J3 hV3 hF3 p3 => ?_)
  refine g_aload_n C dRM_mill_96 rfl ?_
  refine g_aload_n C dRM_mill_97 rfl ?_
  refine gt_getr C dRM_mill_98 fl_RM_19 h0 hV3.1.1 rfl (fun c2 qc2 hc2 => ?_)
  refine g_geti C dRM_mill_101 fl_RM_119 hc2 ?_
  refine s_callV_i (av := fun ad => [.int (I3 c2 7)]) C dRM_mill_104 mfRM_accept mvRM_accept ln_RM_122 h0 (by decide) rfl hV3 fr_CN (cRM_accept hV3.1 h0) rfl rfl (Nat.le_of_ble_eq_true rfl) hb2 ⟨rfl, rfl⟩ hz (fun I4 J4 hV4 hF4 z p4 => ?_)
  refine g_iret C E dRM_mill_107 hz.1 hz.2 ⟨rfl, rfl, hV4.1, fun b hb => ?_, f1, f2, z, rfl, hρ _ _ ?_⟩
  · obtain ⟨e1, e2⟩ := hV.2 b hb
    obtain ⟨e3, e4⟩ := hV4.2 b hb
    exact ⟨fun k => (e3 k).trans (e1 k), fun k => (e4 k).trans (e2 k)⟩
  · rw [(hF4 RDR (by rw [hRk.2]; rfl)).1 1, (hF3 RDR (by rw [hRk.2]; rfl)).1 1]; exact hlen
end MROWS
set_option maxHeartbeats 4000000 in
set_option maxRecDepth 100000 in
theorem cRM_mill {P : List Nat} {K : Nat → Nat} {I0 : Nat → Nat → Int32} {O : Nat → Nat → Option Nat} {J0 : Nat → Nat → Int64} (hV : IV P K I0 O) {a0 : Nat} (h0 : a0 ∈ P ∧ K a0 = 8) {x1 : Int32} {RDR : Nat} (hRDRo : O a0 0 = some RDR) (hRDRk : RDR ∈ P ∧ K RDR = 5) : Con yRM_mill bRM_mill 4 (some .int) ({ frames := 9, cells := 0, slots := 0, locals := 194 } : Room) P K I0 O J0 [.ref a0, .int x1] (MPo a0 (fun _ I_ => ((Int32.toInt x1 < 0 ∨ Int32.toInt (I0 RDR 1) < Int32.toInt x1) ∧ Int32.toInt (I_ RDR 1) = Int32.toInt (I0 RDR 1)) ∨ (0 ≤ Int32.toInt x1 ∧ Int32.toInt x1 ≤ Int32.toInt (I0 RDR 1) ∧ Int32.toInt (I_ RDR 1) = 0)) P K I0 O J0) := by
  refine Con.ofG mfRM_mill (Nat.le_of_ble_eq_true rfl) ?_
  intro X C E
  have r1 := rg x1
  have hV0 : SV frC P K O I0 J0 I0 J0 := SV.rf hV
  refine g_iload_n C dRM_mill_0 rfl ?_
  refine gt_if_lt 15 C dRM_mill_1 (by decide) rfl (fun c_1 => ?_) (fun c_1 => ?_)
  · skip
    refine g_aload_n C dRM_mill_15 rfl ?_
    refine g_iconst (v := Int32.ofInt (2)) C dRM_mill_16 (by decide) ?_
    refine s_callV_i (av := fun ad => [.int (Int32.ofInt (2))]) C dRM_mill_17 mfRM_refuse mvRM_refuse ln_RM_96 h0 (by decide) rfl hV0 fr_CN (cRM_refuse hV0.1 h0) rfl rfl (Nat.le_of_ble_eq_true rfl) ⟨Nat.le_of_ble_eq_true rfl, Nat.le_of_ble_eq_true rfl⟩ ⟨rfl, rfl⟩ ⟨Nat.zero_le _, Nat.zero_le _⟩ (fun Iw1 Jw1 hVw1 hFw1 z_17 p_17 => ?_)
    have tkw1_RDR_1 : (Iw1 RDR 1).toInt = (I0 RDR 1).toInt := by rw [(hFw1 RDR (by rw [hRDRk.2]; rfl)).1 1]
    have rz_17 := rg z_17
    exact m_iret C E dRM_mill_20 ⟨Nat.zero_le _, Nat.zero_le _⟩ hVw1 (by (try dsimp only); omega)
  · skip
    refine g_iload_n C dRM_mill_4 rfl ?_
    refine g_aload_n C dRM_mill_5 rfl ?_
    refine gt_getS C dRM_mill_6 fl_RM_12 h0 hRDRo ?_
    refine g_geti C dRM_mill_9 fl_RM_93 hRDRk ?_
    refine gt_icmp_le 21 C dRM_mill_12 (by decide) rfl rfl (fun c_12 => ?_) (fun c_12 => ?_)
    · skip
      refine g_aload_n C dRM_mill_21 rfl ?_
      refine gt_getS C dRM_mill_22 fl_RM_12 h0 hRDRo ?_
      refine g_iload_n C dRM_mill_25 rfl ?_
      refine g_aload_n C dRM_mill_26 rfl ?_
      refine gt_getr C dRM_mill_27 fl_RM_23 h0 hV0.1.1 rfl (fun b_27 q_27 hb_27 => ?_)
      refine s_callV_z (av := fun ad => [.int x1, .ref b_27]) C dRM_mill_30 mfRd_read mvRd_read ln_RM_100 hRDRk (by decide) rfl hV0 fr_CC (cRd_read hV0.1 hRDRk hb_27) rfl rfl (Nat.le_of_ble_eq_true rfl) ⟨Nat.le_of_ble_eq_true rfl, Nat.le_of_ble_eq_true rfl⟩ ⟨rfl, rfl⟩ ⟨Nat.zero_le _, Nat.zero_le _⟩ (fun Iw2 Jw2 hVw2 hFw2 z_30 b_30 p_30 => ?_)
      have rz_30 := rg z_30
      have u_30 := b_30
      unfold B01 at u_30
      refine g_istore_n (i := 2) C dRM_mill_33 rfl (by decide) ?_
      refine g_aload_n C dRM_mill_34 rfl ?_
      refine gt_getS C dRM_mill_35 fl_RM_12 h0 hRDRo ?_
      refine g_iconst (v := Int32.ofInt (0)) C dRM_mill_38 (by decide) ?_
      refine gt_puti C dRM_mill_39 fl_RM_93 hRDRk hVw2 rfl trivial rfl (Or.inl rfl) (fun Iw3 eIw3 hVw3 => ?_)
      have tkw3_RDR_1 : (Iw3 RDR 1).toInt = 0 := by rw [eIw3, up2_self]; exact ofI (by decide)
      refine g_aload_n C dRM_mill_42 rfl ?_
      refine g_aload_n C dRM_mill_43 rfl ?_
      refine gt_getS C dRM_mill_44 fl_RM_12 h0 hRDRo ?_
      refine g_geti C dRM_mill_47 fl_RM_104 hRDRk ?_
      refine gt_puti C dRM_mill_50 fl_RM_107 h0 hVw3 rfl trivial rfl (Or.inl rfl) (fun Iw4 eIw4 hVw4 => ?_)
      have tkw4_RDR_1 : (Iw4 RDR 1).toInt = (Iw3 RDR 1).toInt := by rw [eIw4, up2_ne _ _ (fun z => by have q := hRDRk.2; rw [z.1, h0.2] at q; exact absurd q (by decide))]
      refine g_aload_n C dRM_mill_53 rfl ?_
      refine g_aload_n C dRM_mill_54 rfl ?_
      refine gt_getS C dRM_mill_55 fl_RM_12 h0 hRDRo ?_
      refine g_geti C dRM_mill_58 fl_RM_110 hRDRk ?_
      refine gt_puti C dRM_mill_61 fl_RM_113 h0 hVw4 rfl trivial rfl (Or.inl rfl) (fun Iw5 eIw5 hVw5 => ?_)
      have tkw5_RDR_1 : (Iw5 RDR 1).toInt = (Iw4 RDR 1).toInt := by rw [eIw5, up2_ne _ _ (fun z => by have q := hRDRk.2; rw [z.1, h0.2] at q; exact absurd q (by decide))]
      refine g_iload_n C dRM_mill_64 rfl ?_
      refine gt_if_ne 74 C dRM_mill_65 (by decide) rfl (fun c_65 => ?_) (fun c_65 => ?_)
      · skip
        exact mill_tail C E h0 hRDRo hRDRk hVw5 (by omega) (fun z I_ h => by (try dsimp only); omega) ⟨Nat.le_of_ble_eq_true rfl, Nat.le_of_ble_eq_true rfl⟩ ⟨Nat.le_of_ble_eq_true rfl, Nat.le_of_ble_eq_true rfl⟩ rfl
      · skip
        refine g_aload_n C dRM_mill_68 rfl ?_
        refine g_iconst (v := Int32.ofInt (4)) C dRM_mill_69 (by decide) ?_
        refine s_callV_i (av := fun ad => [.int (Int32.ofInt (4))]) C dRM_mill_70 mfRM_refuse mvRM_refuse ln_RM_96 h0 (by decide) rfl hVw5 fr_CN (cRM_refuse hVw5.1 h0) rfl rfl (Nat.le_of_ble_eq_true rfl) ⟨Nat.le_of_ble_eq_true rfl, Nat.le_of_ble_eq_true rfl⟩ ⟨rfl, rfl⟩ ⟨Nat.zero_le _, Nat.zero_le _⟩ (fun Iw6 Jw6 hVw6 hFw6 z_70 p_70 => ?_)
        have tkw6_RDR_1 : (Iw6 RDR 1).toInt = (Iw5 RDR 1).toInt := by rw [(hFw6 RDR (by rw [hRDRk.2]; rfl)).1 1]
        have rz_70 := rg z_70
        exact m_iret C E dRM_mill_73 ⟨Nat.zero_le _, Nat.zero_le _⟩ hVw6 (by (try dsimp only); omega)
    · skip
      refine g_aload_n C dRM_mill_15 rfl ?_
      refine g_iconst (v := Int32.ofInt (2)) C dRM_mill_16 (by decide) ?_
      refine s_callV_i (av := fun ad => [.int (Int32.ofInt (2))]) C dRM_mill_17 mfRM_refuse mvRM_refuse ln_RM_96 h0 (by decide) rfl hV0 fr_CN (cRM_refuse hV0.1 h0) rfl rfl (Nat.le_of_ble_eq_true rfl) ⟨Nat.le_of_ble_eq_true rfl, Nat.le_of_ble_eq_true rfl⟩ ⟨rfl, rfl⟩ ⟨Nat.zero_le _, Nat.zero_le _⟩ (fun Iw7 Jw7 hVw7 hFw7 z_17 p_17 => ?_)
      have tkw7_RDR_1 : (Iw7 RDR 1).toInt = (I0 RDR 1).toInt := by rw [(hFw7 RDR (by rw [hRDRk.2]; rfl)).1 1]
      have rz_17 := rg z_17
      exact m_iret C E dRM_mill_20 ⟨Nat.zero_le _, Nat.zero_le _⟩ hVw7 (by (try dsimp only); omega)
