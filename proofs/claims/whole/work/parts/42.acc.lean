/-- behind a call that has changed accounts alone -/
theorem Inv4.accs {S T : oSt} {cn : Nat → Nat} {t nA nT nS nR : Nat} (I : Inv4 S cn t nA nT nS nR) (ht : t + 1 ≤ 600) (e1 : eqK (kRf ++ kT ++ kSt ++ kRt) S T) (hA : ∀ a, a < nA → iA T (t + 1) a) (hZ : ∀ a, nA ≤ a → a < 8 → iZ T a) : Inv4 T cn (t + 1) nA nT nS nR := by
  obtain ⟨⟨b1, b2, b3⟩, hcn, hRf, hSc, hA0, hZ0, hT, hSt, hRt⟩ := I
  exact ⟨⟨b1, b2, ht⟩, hcn, hRf.fr (e1.sub (by decide)), (hSc.fr (e1.sub (by decide))).up (by omega), hA, hZ, fun j hj => (hT j hj).fr (e1.sub (by decide)), hSt.fr (e1.sub (by decide)), hRt.fr (e1.sub (by decide))⟩
theorem sim_worth {S : oSt} {cn : Nat → Nat} {t nA nT nS nR : Nat} (I : Inv4 S cn t nA nT nS nR) (ht : t + 1 ≤ 600) (a w : Int32) {K : oSt → Prop} (hK : ∀ T, Inv4 T cn (t + 1) nA nT nS nR → K T) : wp_X_worth S a w (fun r S1 => wp_M_worth S1 a w (fun r' S2 => fin K r r' S2)) := by
  have I0 := I
  obtain ⟨⟨b1, b2, b3⟩, hcn, hRf, hSc, hA, hZ, hT, hSt, hRt⟩ := I
  have hf := hRf.1
  unfold wp_X_worth wp_M_worth
  rcases ix_cases a (n := nA) (by omega) with hb | ⟨j, hj, rfl⟩
  · exact an_bad hSc.1.1 hb ⟨fun _ => ia_bad hSc.1.2 hb ⟨fun _ => fin.ok (hK S (I0.up ht)), fun q => absurd rfl q⟩, nofun⟩
  · have h := hA j hj
    refine an_ok hSc.1.1 hRf.2.1 b1 hj h.1.1 ⟨nofun, fun j' e => ?_⟩
    cases e
    by_cases h1 : w < 1
    · exact pw_out (Or.inl h1) ⟨fun q => absurd rfl q, fun _ => ia_ok hSc.1.2 b1 hj ⟨fun q => absurd q (by decide), fun _ => ⟨fun _ => fin.ok (hK S (I0.up ht)), fun q => absurd h1 q⟩⟩⟩
    · by_cases h2 : (10000 : Int32) < w
      · exact pw_out (Or.inr h2) ⟨fun q => absurd rfl q, fun _ => ia_ok hSc.1.2 b1 hj ⟨fun q => absurd q (by decide), fun _ => ⟨fun q => absurd q h1, fun _ => ⟨fun q => absurd h2 (Int32.not_lt.mpr q), fun _ => fin.ok (hK S (I0.up ht))⟩⟩⟩⟩
      · refine pw_in h1 h2 ⟨fun _ => ?_, fun q => absurd q (by decide)⟩
        rintro S6 rfl
        refine ia_ok (nA := nA) hSc.1.2 b1 hj ⟨fun q => absurd q (by decide), fun _ => ⟨fun q => absurd q h1, fun _ => ⟨fun _ => ⟨0, hf 8 (by decide) (by decide) (by decide) (by decide) (by decide), vp_in_nI (by omega) (by decide), ?_⟩, fun q => absurd (Int32.not_lt.mp h2) q⟩⟩⟩
        rintro S4 rfl
        rw [cl8 (by omega)]
        refine fin.ok (hK _ (I0.accs ht ?_ ?_ ?_))
        · exact eqK.I (by decide) (eqK.I (by decide) eqK.rf)
        · intro a ha
          have g := (hA a ha).up (t' := t + 1) (by omega)
          unfold iA at g ⊢
          by_cases e : a = j
          · subst e
            simp_all [gI1, gI2, gI3]
          · simp_all [gI1, gI2, gI3]
        · exact fun a h1 h2 => (hZ a h1 h2).fr (eqK.I (by decide) (eqK.I (by decide) eqK.rf))
