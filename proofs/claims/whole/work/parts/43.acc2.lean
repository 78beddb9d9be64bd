theorem pred_lt {x y : Int32} (h : ¬ x < 1) : (x - 1 < y) ↔ x ≤ y := by
  have h0 : ¬ x < 0 := fun z => h (Int32.lt_of_lt_of_le z (by decide))
  obtain ⟨k, hk, rfl⟩ := nI_of h0
  have hk0 : k ≠ 0 := fun z => h (by subst z; decide)
  obtain ⟨m, rfl⟩ : ∃ m, k = m + 1 := ⟨k - 1, by omega⟩
  rw [nI_pred, Int32.lt_iff_toInt_lt, Int32.le_iff_toInt_le, nI_toInt (by omega), nI_toInt hk]
  omega
theorem sim_policy {S : oSt} {cn : Nat → Nat} {t nA nT nS nR : Nat} (I : Inv4 S cn t nA nT nS nR) (ht : t + 1 ≤ 600) (a w g d : Int32) {K : oSt → Prop} (hK : ∀ T, Inv4 T cn (t + 1) nA nT nS nR → K T) : wp_X_policy S a w g d (fun r S1 => wp_M_policy S1 a w g d (fun r' S2 => fin K r r' S2)) := by
  have I0 := I
  obtain ⟨⟨b1, b2, b3⟩, hcn, hRf, hSc, hA, hZ, hT, hSt, hRt⟩ := I
  have hf := hRf.1
  have hKS := hK S (I0.up ht)
  unfold wp_X_policy wp_M_policy
  rcases ix_cases a (n := nA) (by omega) with hb | ⟨j, hj, rfl⟩
  · exact an_bad hSc.1.1 hb ⟨fun _ => ia_bad hSc.1.2 hb ⟨fun _ => fin.ok hKS, fun q => absurd rfl q⟩, nofun⟩
  · have h := hA j hj
    have hv : vp_in (nI j) 8 := vp_in_nI (by omega) (by decide)
    have hmin : S.1 48 j 1 = S.1 6 0 j := h.2.1.1
    refine an_ok hSc.1.1 hRf.2.1 b1 hj h.1.1 ⟨nofun, fun j' e => ?_⟩
    cases e
    by_cases h1 : w < 1
    · exact pw_out (Or.inl h1) ⟨fun _ => ia_ok hSc.1.2 b1 hj ⟨fun q => absurd q (by decide), fun _ => ⟨fun _ => fin.ok hKS, fun q => absurd h1 q⟩⟩, fun q => absurd rfl q⟩
    · by_cases h2 : (1000000000 : Int32) < w
      · exact pw_out (Or.inr h2) ⟨fun _ => ia_ok hSc.1.2 b1 hj ⟨fun q => absurd q (by decide), fun _ => ⟨fun q => absurd q h1, fun _ => ⟨fun _ => fin.ok hKS, fun q => absurd h2 q⟩⟩⟩, fun q => absurd rfl q⟩
      · refine pw_in h1 h2 ⟨fun q => absurd q (by decide), fun _ => ?_⟩
        rw [hmin]
        by_cases h3 : g < S.1 6 0 j
        · refine pw_out (Or.inl h3) ⟨fun _ => ia_ok hSc.1.2 b1 hj ⟨fun q => absurd q (by decide), fun _ => ⟨fun q => absurd q h1, fun _ => ⟨fun q => absurd q h2, fun _ => ⟨0, hf 6 (by decide) (by decide) (by decide) (by decide) (by decide), hv, ?_⟩⟩⟩⟩, fun q => absurd rfl q⟩
          rw [cl8 (by omega)]
          exact ⟨fun _ => fin.ok hKS, fun q => absurd h3 q⟩
        · by_cases h4 : w - 1 < g
          · refine pw_out (Or.inr h4) ⟨fun _ => ia_ok hSc.1.2 b1 hj ⟨fun q => absurd q (by decide), fun _ => ⟨fun q => absurd q h1, fun _ => ⟨fun q => absurd q h2, fun _ => ⟨0, hf 6 (by decide) (by decide) (by decide) (by decide) (by decide), hv, ?_⟩⟩⟩⟩, fun q => absurd rfl q⟩
            rw [cl8 (by omega)]
            exact ⟨fun q => absurd q h3, fun _ => ⟨fun _ => fin.ok hKS, fun q => absurd ((pred_lt h1).mp h4) q⟩⟩
          · have h4' : ¬ w ≤ g := fun q => h4 ((pred_lt h1).mpr q)
            refine pw_in h3 h4 ⟨fun q => absurd q (by decide), fun _ => ?_⟩
            by_cases h5 : d < 0
            · refine pw_out (Or.inl h5) ⟨fun q => absurd rfl q, fun _ => ia_ok hSc.1.2 b1 hj ⟨fun q => absurd q (by decide), fun _ => ⟨fun q => absurd q h1, fun _ => ⟨fun q => absurd q h2, fun _ => ⟨0, hf 6 (by decide) (by decide) (by decide) (by decide) (by decide), hv, ?_⟩⟩⟩⟩⟩
              rw [cl8 (by omega)]
              exact ⟨fun q => absurd q h3, fun _ => ⟨fun q => absurd q h4', fun _ => ⟨fun _ => fin.ok hKS, fun q => absurd h5 q⟩⟩⟩
            · by_cases h6 : (4 : Int32) - 1 < d
              · refine pw_out (Or.inr h6) ⟨fun q => absurd rfl q, fun _ => ia_ok hSc.1.2 b1 hj ⟨fun q => absurd q (by decide), fun _ => ⟨fun q => absurd q h1, fun _ => ⟨fun q => absurd q h2, fun _ => ⟨0, hf 6 (by decide) (by decide) (by decide) (by decide) (by decide), hv, ?_⟩⟩⟩⟩⟩
                rw [cl8 (by omega)]
                exact ⟨fun q => absurd q h3, fun _ => ⟨fun q => absurd q h4', fun _ => ⟨fun q => absurd q h5, fun _ => ⟨fun q => absurd h6 (Int32.not_lt.mpr q), fun _ => fin.ok hKS⟩⟩⟩⟩
              · obtain ⟨k, hk, rfl⟩ := nI_of2 (M := 3) (n := 3) rfl h5 (Int32.not_lt.mp h6)
                refine pw_in h5 h6 ⟨fun _ => ?_, fun q => absurd q (by decide)⟩
                rintro S10 rfl S11 rfl
                refine ⟨vp_in_nI (by omega) (by decide), ?_⟩
                rintro S12 rfl
                refine ia_ok (nA := nA) hSc.1.2 b1 hj ⟨fun q => absurd q (by decide), fun _ => ⟨fun q => absurd q h1, fun _ => ⟨fun q => absurd q h2, fun _ => ⟨0, hf 6 (by decide) (by decide) (by decide) (by decide) (by decide), hv, ?_⟩⟩⟩⟩
                rw [cl8 (by omega), cl8 (by omega)]
                refine ⟨fun q => absurd q h3, fun _ => ⟨fun q => absurd q h4', fun _ => ⟨fun q => absurd q h5, fun _ => ⟨fun _ => ⟨0, hf 9 (by decide) (by decide) (by decide) (by decide) (by decide), hv, ?_⟩, fun q => absurd (Int32.not_lt.mp h6) q⟩⟩⟩⟩
                rintro S5 rfl
                refine ⟨0, hf 10 (by decide) (by decide) (by decide) (by decide) (by decide), hv, ?_⟩
                rintro S7 rfl
                refine ⟨0, hf 11 (by decide) (by decide) (by decide) (by decide) (by decide), hv, ?_⟩
                rintro S9 rfl
                refine fin.ok (hK _ (I0.accs ht ?_ ?_ ?_))
                · exact eqK.I (by decide) (eqK.I (by decide) (eqK.I (by decide) (eqK.I (by decide) (eqK.I (by decide) (eqK.I (by decide) eqK.rf)))))
                · intro a ha
                  have g := (hA a ha).up (t' := t + 1) (by omega)
                  unfold iA at g ⊢
                  by_cases e : a = j
                  · subst e
                    obtain ⟨g1, g2, g3, g4, g5, g6, g7, g8, g9⟩ := g
                    refine ⟨by simpa [gI1, gI2, gI3] using g1, by simpa [gI1, gI2, gI3] using g2, by simpa [gI1, gI2, gI3] using g3, by simp [gI1], by simp [gI1], ⟨k, by omega, by simp [gI1], by simp [gI1]⟩, by simpa [gI1, gI2, gI3] using g7, by simpa [gI1, gI2, gI3] using g8, by simpa [gI1, gI2, gI3] using g9⟩
                  · simpa [gI1, gI2, gI3, e] using g
                · intro a h1 h2
                  have e : a ≠ j := by omega
                  have g := hZ a h1 h2
                  unfold iZ at g ⊢
                  simpa [gI1, gI2, gI3, e] using g
theorem sim_bucket {S : oSt} {cn : Nat → Nat} {t nA nT nS nR : Nat} (I : Inv4 S cn t nA nT nS nR) (ht : t + 1 ≤ 600) (a c f : Int32) {K : oSt → Prop} (hK : ∀ T, Inv4 T cn (t + 1) nA nT nS nR → K T) : wp_X_bucket S a c f (fun r S1 => wp_M_bucket S1 a c f (fun r' S2 => fin K r r' S2)) := by
  have I0 := I
  obtain ⟨⟨b1, b2, b3⟩, hcn, hRf, hSc, hA, hZ, hT, hSt, hRt⟩ := I
  have hf := hRf.1
  have hKS := hK S (I0.up ht)
  unfold wp_X_bucket wp_M_bucket
  rcases ix_cases a (n := nA) (by omega) with hb | ⟨j, hj, rfl⟩
  · exact an_bad hSc.1.1 hb ⟨fun _ => ia_bad hSc.1.2 hb ⟨fun _ => fin.ok hKS, fun q => absurd rfl q⟩, nofun⟩
  · have h := hA j hj
    have hv : vp_in (nI j) 8 := vp_in_nI (by omega) (by decide)
    refine an_ok hSc.1.1 hRf.2.1 b1 hj h.1.1 ⟨nofun, fun j' e => ?_⟩
    cases e
    by_cases h1 : c < 1
    · exact pw_out (Or.inl h1) ⟨fun _ => ia_ok hSc.1.2 b1 hj ⟨fun q => absurd q (by decide), fun _ => ⟨fun _ => fin.ok hKS, fun q => absurd h1 q⟩⟩, fun q => absurd rfl q⟩
    · by_cases h2 : (1000 : Int32) < c
      · exact pw_out (Or.inr h2) ⟨fun _ => ia_ok hSc.1.2 b1 hj ⟨fun q => absurd q (by decide), fun _ => ⟨fun q => absurd q h1, fun _ => ⟨fun _ => fin.ok hKS, fun q => absurd h2 q⟩⟩⟩, fun q => absurd rfl q⟩
      · refine pw_in h1 h2 ⟨fun q => absurd q (by decide), fun _ => ?_⟩
        by_cases h3 : f < 0
        · exact pw_out (Or.inl h3) ⟨fun q => absurd rfl q, fun _ => ia_ok hSc.1.2 b1 hj ⟨fun q => absurd q (by decide), fun _ => ⟨fun q => absurd q h1, fun _ => ⟨fun q => absurd q h2, fun _ => ⟨fun _ => fin.ok hKS, fun q => absurd h3 q⟩⟩⟩⟩⟩
        · by_cases h4 : (1000 : Int32) < f
          · exact pw_out (Or.inr h4) ⟨fun q => absurd rfl q, fun _ => ia_ok hSc.1.2 b1 hj ⟨fun q => absurd q (by decide), fun _ => ⟨fun q => absurd q h1, fun _ => ⟨fun q => absurd q h2, fun _ => ⟨fun q => absurd q h3, fun _ => ⟨fun q => absurd h4 (Int32.not_lt.mpr q), fun _ => fin.ok hKS⟩⟩⟩⟩⟩⟩
          · refine pw_in h3 h4 ⟨fun _ => ⟨j, h.1.2.1, ?_⟩, fun q => absurd q (by decide)⟩
            unfold wp_B_renew
            rintro S1 rfl S2 rfl S3 rfl
            refine ia_ok (nA := nA) hSc.1.2 b1 hj ⟨fun q => absurd q (by decide), fun _ => ⟨fun q => absurd q h1, fun _ => ⟨fun q => absurd q h2, fun _ => ⟨fun q => absurd q h3, fun _ => ⟨fun _ => ⟨0, hf 13 (by decide) (by decide) (by decide) (by decide) (by decide), hv, ?_⟩, fun q => absurd (Int32.not_lt.mp h4) q⟩⟩⟩⟩⟩
            rw [cl8 (by omega)]
            rintro S4 rfl
            refine ⟨0, hf 14 (by decide) (by decide) (by decide) (by decide) (by decide), hv, ?_⟩
            rintro S6 rfl
            refine ⟨0, hf 15 (by decide) (by decide) (by decide) (by decide) (by decide), hv, ?_⟩
            rintro S8 rfl
            refine fin.ok (hK _ (I0.accs ht ?_ ?_ ?_))
            · exact eqK.I (by decide) (eqK.I (by decide) (eqK.I (by decide) (eqK.I (by decide) (eqK.I (by decide) (eqK.I (by decide) eqK.rf)))))
            · intro a ha
              have g := (hA a ha).up (t' := t + 1) (by omega)
              unfold iA at g ⊢
              by_cases e : a = j
              · subst e
                obtain ⟨g1, g2, g3, g4, g5, g6, g7, g8, g9⟩ := g
                refine ⟨by simpa [gI1, gI2, gI3] using g1, by simpa [gI1, gI2, gI3] using g2, by simpa [gI1, gI2, gI3] using g3, by simpa [gI1, gI2, gI3] using g4, by simpa [gI1, gI2, gI3] using g5, by simpa [gI1, gI2, gI3] using g6, by simpa [gI1, gI2, gI3] using g7, ?_, by simpa [gI1, gI2, gI3] using g9⟩
                simp [gI1, Int32.mul_comm]
              · simpa [gI1, gI2, gI3, e] using g
            · exact fun a h1 h2 => (hZ a h1 h2).fr (eqK.I (by decide) (eqK.I (by decide) (eqK.I (by decide) (eqK.I (by decide) (eqK.I (by decide) (eqK.I (by decide) eqK.rf))))))
theorem sim_spread {S : oSt} {cn : Nat → Nat} {t nA nT nS nR : Nat} (I : Inv4 S cn t nA nT nS nR) (ht : t + 1 ≤ 600) (a : Int32) {K : oSt → Prop} (hK : ∀ T, Inv4 T cn (t + 1) nA nT nS nR → K T) : wp_X_spread S a (fun r S1 => wp_M_spread S1 a (fun r' S2 => fin K r r' S2)) := by
  have I0 := I
  have hKS := hK S (I0.up ht)
  obtain ⟨⟨b1, b2, b3⟩, hcn, hRf, hSc, hA, hZ, hT, hSt, hRt⟩ := I
  unfold wp_X_spread wp_M_spread
  by_cases h1 : a < 0
  · exact pw_out (Or.inl h1) ⟨fun q => absurd rfl q, fun _ => ⟨fun _ => fin.ok hKS, fun q => absurd h1 q⟩⟩
  · by_cases h2 : (999 : Int32) < a
    · exact pw_out (Or.inr h2) ⟨fun q => absurd rfl q, fun _ => ⟨fun q => absurd q h1, fun _ => ⟨fun q => absurd h2 (Int32.not_lt.mpr q), fun _ => fin.ok hKS⟩⟩⟩
    · refine pw_in h1 h2 ⟨fun _ => ?_, fun q => absurd q (by decide)⟩
      rintro S3 rfl
      refine ⟨fun q => absurd q h1, fun _ => ⟨fun _ => ?_, fun q => absurd (Int32.not_lt.mp h2) q⟩⟩
      rintro S1 rfl
      refine fin.ok (hK _ ⟨⟨b1, b2, ht⟩, hcn, hRf, ?_, fun a ha => ((hA a ha).up (by omega)).fr (eqK.I (by decide) (eqK.I (by decide) eqK.rf)), fun a h1 h2 => (hZ a h1 h2).fr (eqK.I (by decide) (eqK.I (by decide) eqK.rf)), fun j hj => (hT j hj).fr (eqK.I (by decide) (eqK.I (by decide) eqK.rf)), ?_, ?_⟩)
      · have g := hSc.up (t' := t + 1) (by omega)
        unfold iSc at g ⊢
        obtain ⟨g1, g2, g3, g4, g5, g6⟩ := g
        exact ⟨by simpa [gI1] using g1, by simpa [gI1] using g2, by simpa [gI1] using g3, by simpa [gI1] using g4, by simp [gI1], by simpa [gI1, gI2] using g6⟩
      · exact hSt.fr2 (eqK.I (by decide) (eqK.I (by decide) eqK.rf)) (by simp [gI1]) (by simp [gI1])
      · exact hRt.fr2 (eqK.I (by decide) (eqK.I (by decide) eqK.rf)) (by simp [gI1]) (by simp [gI1])
