/-! the reference's reader: its lines (2) -/
theorem szAt_n {nl : List (Int × Int)} {c : Int} (h : fndN nl c = none) : szAt nl c = -1 := by unfold szAt; rw [h]
theorem szAt_s {nl : List (Int × Int)} {c : Int} {q : Int × Int} (h : fndN nl c = some q) : szAt nl c = q.2 := by unfold szAt; rw [h]
section RSIEVE
variable {N : Nat} {O : WO} {I I0 : WI} {J J0 : WJ} {a : Nat} {t : Nat → Int} {n f : Nat} {M : MM} {e : ER}
theorem SO.okx (h : SO O a t n I0 J0 e I J) : OKX O a I := by
  cases e with
  | ok w => exact h.2.2.2.1
  | error w => exact h.2.2.2.1
/-- find on the word just read -/
theorem SO.find (hN : 800 ≤ N) (h : SO O a t n I0 J0 e I J) : ∃ z : Int32, F_Mx_find N O I J (rf O a 4) (J a 15) = some z ∧ (z.toInt = -1 ∨ (0 ≤ z.toInt ∧ z.toInt < 9)) ∧ ∀ w, e = .ok w → kd t n w.1 = 2 → (z.toInt = -1 ∧ fndN w.2.2.2 (cd t n w.1) = none) ∨ ∃ q, 0 ≤ z.toInt ∧ fndN w.2.2.2 (cd t n w.1) = some q ∧ (I (rf O (rf O a 4) 17) z.toInt.toNat).toInt = q.2 := by
  have ok := h.okx.2.2.2.2.1
  obtain ⟨z, hz, pz⟩ := r_find (N := N) (O := O) (I := I) (J := J) hN (F := rf O a 4) (c := J a 15) (cnt := (I (rf O a 4) 10).toInt.toNat) (by omega) (by omega)
  refine ⟨z, hz, ?_, fun w hw h2 => ?_⟩
  · rcases pz with ⟨p1, _⟩ | ⟨i, i1, i2, _⟩
    · exact Or.inl p1
    · exact Or.inr (by omega)
  · subst hw
    have hcd := h.1.2.2.2.2.2.2.2.2 h2
    have hX := h.2.2.1
    have hl : (I (rf O a 4) 10).toInt.toNat = w.2.2.2.length := by rw [hX.1.2.2.2.2.2.2.2.2.2.2.1]; omega
    rw [hcd, hl] at pz
    rcases hX.fnd pz with ⟨e1, e2⟩ | ⟨i, q, i1, i2, i3, i4⟩
    · exact Or.inl ⟨e1, e2⟩
    · refine Or.inr ⟨q, by omega, i3, ?_⟩
      rw [show z.toInt.toNat = i by omega]; exact i4
theorem r_sieve (S : SX0 O a) (hN : 800 ≤ N) {Q : WI × WJ → Prop} (h : SX O a t n I0 J0 I J f M) (hk : kd t n f ≠ 1) (k : ∀ I' J', SO O a t n I0 J0 (spSieve t n f M) I' J' → Q (I', J')) : Wp (F_Mo_readSieve N O I J a) Q := by
  unfold F_Mo_readSieve
  have x := h.F.1
  refine Wp_jq (fun kk => Wp (kk (bI (decide (¬ M.1 2 = -1)))) Q) ?_ (fun kk hk => ?_)
  · refine Wp.bd2 (SO.once S hN h hk (fun I1 J1 h1 => ?_))
    generalize he : (if decide (¬ M.1 2 = -1) = true then Except.error (3, f) else Except.ok (nx t n f, M) : ER) = e1 at h1
    refine Wp.eq (by rw [h1.isName hN]) (Wp.bd1 (Wp.ret ?_))
    refine Wp_jq (fun kk => ∀ I2 e2, SO O a t n I0 J0 e2 I2 J1 → (∀ w, e2 = .ok w → isnm t n w.1 = true) → (e2 = e1.bind fun w => if isnm t n w.1 = true then .ok w else .error (1, w.1)) → Wp (kk I2) Q) (fun I2 e2 h2 hn he2 => ?_) (fun kk hk => ?_)
    · obtain ⟨z, hz, zb, zv0⟩ := h2.find hN
      have zv := fun w hw => zv0 w hw (isnm_2 (hn w hw))
      refine Wp.eq (by rw [hz]) (Wp.bd1 (Wp.ret ?_))
      refine Wp_jq (fun kk => ∀ I3 e3, SO O a t n I0 J0 e3 I3 J1 → (∀ w, e3 = .ok w → e2 = .ok w ∧ I3 = I2 ∧ ¬ szAt w.2.2.2 (cd t n w.1) = -1) → (e3 = e2.bind fun w => if szAt w.2.2.2 (cd t n w.1) = -1 then .error (2, w.1) else .ok w) → Wp (kk I3) Q) (fun I3 e3 h3 hs he3 => ?_) (fun kk67 hk67 => ?_)
      · refine Wp_jq (fun kk => ∀ s e4, SO O a t n I0 J0 e4 (up2 I3 (rf O a 4) 2 s) J1 → (∀ w, e4 = .ok w → kd t n w.1 ≠ 1) → (e4 = e3.bind fun w => .ok (w.1, sg w.2 2 (szAt w.2.2.2 (cd t n w.1)))) → Wp (kk s) Q) (fun s e4 h4 hk4 he4 => ?_) (fun kk89 hk89 => ?_)
        · refine Wp.lb (Wp.bd2 (h4.next S hN hk4 (fun I5 J5 _ h5 => Wp.bd2 (h5.need S hN (i := 9) (by decide) (fun I6 J6 _ h6 => Wp.bd3 (h6.whole S hN (ofI (by decide)) (ofI (by decide)) (fun v I7 J7 _ h7 => Wp.lb (Wp.ret (k _ _ ?_)))))))))
          have h8 := h7.put (k := 3) S (by decide) (fun w hw q => by omega)
          refine Eq.subst (motive := fun z => SO O a t n I0 J0 z _ _) ?_ h8
          rw [he4, he3, he2, ← he]
          unfold spSieve eP eV eW eN
          by_cases q : M.1 2 = -1
          · rw [if_neg (by simp [q]), if_neg (fun z => z q)]
            simp only [Ex_ok]
            by_cases q2 : isnm t n (nx t n f) = true
            · rw [if_pos q2, if_pos q2]
              simp only [Ex_ok]
              by_cases q3 : szAt M.2.2 (cd t n (nx t n f)) = -1
              · rw [if_pos q3, if_pos q3]; rfl
              · rw [if_neg q3, if_neg q3]
                simp only [Ex_ok]
                cases ww t n 9 (nx t n (nx t n f)) with
                | error w => rfl
                | ok f2 =>
                  simp only [Ex_ok]
                  cases wl t n 0 50 f2 with
                  | error w => rfl
                  | ok v => rfl
            · rw [if_neg q2, if_neg q2]; rfl
          · rw [if_pos (by simp [q]), if_pos q]; rfl
        · cases e3 with
          | error w =>
            have ho : ∀ s, SO O a t n I0 J0 (.error w) (up2 I3 (rf O a 4) 2 s) J1 := fun s => OX.put S h3 (by decide)
            exact Wp.ite (fun q => hk89 _ _ (ho _) (fun w hw => by cases hw) rfl) (fun q => Wp.pos (by omega) (hk89 _ _ (ho _) (fun w hw => by cases hw) rfl))
          | ok w =>
            obtain ⟨w1, w2, w3⟩ := hs w rfl
            rcases zv w w1 with ⟨_, v2⟩ | ⟨q, v1, v2, v3⟩
            · exact absurd (szAt_n v2) w3
            · refine Wp.neg (by omega) (Wp.pos (by omega) (hk89 _ (.ok (w.1, sg w.2 2 (szAt w.2.2.2 (cd t n w.1)))) ?_ (fun w' hw => ?_) rfl))
              · exact SX.put S h3 (by decide) (by rw [w2, v3, szAt_s v2]) (fun q => by omega)
              · cases hw; have := isnm_2 (hn w w1); show kd t n w.1 ≠ 1; omega
      · refine Wp_jq (fun kk => (∀ w, e2 = .ok w → szAt w.2.2.2 (cd t n w.1) = -1) → Wp kk Q) (fun hsz => ?_) (fun kk62 hk62 => ?_)
        · refine Wp.bd1 (h2.wrong S (w := 2) (ofI (by decide)) (fun I3 _ h3 => hk67 I3 (eE 2 e2) h3 (fun w hw => by cases e2 <;> cases hw) ?_))
          cases e2 with
          | error w => rfl
          | ok w => show _ = (if szAt w.2.2.2 (cd t n w.1) = -1 then _ else _); rw [if_pos (hsz w rfl)]; rfl
        · refine Wp.ite (fun q => hk62 (fun w hw => ?_)) (fun q => Wp.pos (by omega) (Wp.ite (fun q2 => hk62 (fun w hw => ?_)) (fun q2 => hk67 I2 e2 h2 (fun w hw => ⟨hw, rfl, ?_⟩) ?_)))
          · rcases zv w hw with ⟨_, v2⟩ | ⟨q', v1, v2, v3⟩
            · exact szAt_n v2
            · omega
          · rcases zv w hw with ⟨_, v2⟩ | ⟨q', v1, v2, v3⟩
            · exact szAt_n v2
            · rw [szAt_s v2, ← v3]; exact q2
          · rcases zv w hw with ⟨_, v2⟩ | ⟨q', v1, v2, v3⟩
            · omega
            · rw [szAt_s v2, ← v3]; exact q2
          · cases e2 with
            | error w => rfl
            | ok w =>
              show _ = (if szAt w.2.2.2 (cd t n w.1) = -1 then _ else _)
              rw [if_neg]
              rcases zv w rfl with ⟨_, v2⟩ | ⟨q', v1, v2, v3⟩
              · omega
              · rw [szAt_s v2, ← v3]; exact q2
    · cases e1 with
      | error w => exact Wp.pos bI_f (Wp.bd1 (SO.wrong (e := .error w) S h1 k_1 (fun I2 _ h2 => hk I2 (.error w) h2 (fun w hw => by cases hw) rfl)))
      | ok w =>
        show Wp (if (bI (isnm t n w.1)).toInt = 0 then _ else _) Q
        cases q : isnm t n w.1 with
        | false =>
          refine Wp.pos bI_f (Wp.bd1 (SO.wrong (e := .ok w) (w := 1) S h1 k_1 (fun I2 _ h2 => hk I2 (.error (1, w.1)) h2 (fun w hw => by cases hw) ?_)))
          simp only [Ex_ok]; rw [if_neg (by rw [q]; decide)]
        | true =>
          refine Wp.neg (by rw [bI_t]; decide) (hk I1 (.ok w) h1 (fun w' hw => by cases hw; exact q) ?_)
          simp only [Ex_ok]; rw [if_pos q]
  · rw [x.2.2.1]
    refine Wp.ite (fun q => ?_) (fun q => ?_)
    · rw [decide_eq_false (fun z => z q)] at hk; exact hk
    · rw [decide_eq_true q] at hk; exact hk
end RSIEVE
