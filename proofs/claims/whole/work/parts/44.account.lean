abbrev kM : List Nat := [0, 5, 6, 7, 8, 9, 10, 11, 12, 13, 14, 15, 16, 17, 19, 20, 21, 23, 24, 25, 26, 27, 28, 29, 30, 32]
/-- what the class's account has made -/
def accX (S T : oSt) (n : Nat) (a b c : Int32) : Prop := eqK (kM ++ [42, 43, 44, 45, 46, 47, 52]) S T ∧ (∀ f, T.1 40 0 f = if f = 6 then nI (n + 1) else S.1 40 0 f) ∧ T.2.1 40 = S.2.1 40 ∧ T.2.2 40 = S.2.2 40 ∧ (∀ q, T.2.2 41 0 q = if q = n then some n else S.2.2 41 0 q) ∧
  (∀ q, q ≠ n → T.1 48 q = S.1 48 q ∧ T.2.1 48 q = S.2.1 48 q ∧ T.2.2 48 q = S.2.2 48 q ∧ T.1 49 q = S.1 49 q ∧ T.1 50 q = S.1 50 q ∧ T.2.2 50 q = S.2.2 50 q ∧ T.1 51 q = S.1 51 q) ∧
  (T.1 48 n 0 = nI n ∧ T.1 48 n 1 = a ∧ T.1 48 n 2 = b ∧ T.1 48 n 5 = c ∧ T.1 48 n 7 = 0 ∧ T.1 48 n 8 = 0 ∧ T.1 48 n 9 = 1 ∧ T.2.1 48 n 6 = 0 ∧ T.2.1 48 n 10 = 0 ∧ T.2.2 48 n 3 = some n ∧ T.2.2 48 n 4 = some n) ∧
  (T.1 49 n 0 = 100000 ∧ T.1 49 n 1 = 100 ∧ T.1 49 n 2 = 100000 ∧ T.2.2 50 n 0 = some n ∧ T.1 50 n 1 = 0 ∧ T.1 50 n 2 = 0)
set_option maxHeartbeats 4000000 in
set_option maxRecDepth 100000 in
theorem X_account_ok {S : oSt} {cn : Nat → Nat} {t nA nT nS nR : Nat} (I : Inv4 S cn t nA nT nS nR) (h8 : nA < 8) {a b c : Int32} (h1 : ¬ a < -1000000000) (h2 : ¬ 0 < a) (h3 : ¬ b < 1) (h4 : ¬ 1000000000 < b) (h5 : ¬ c < 1) (h6 : ¬ 10000 < c) {post : Int32 → (Nat → Nat) → oSt → Prop} (h : ∀ cn1 T, iCn cn1 (nA + 1) nT → accX S T nA a b c → post (nI nA) cn1 T) : wp_X_account cn S a b c post := by
  obtain ⟨⟨b1, b2, b3⟩, ⟨n1, n2, n3, n4, n5⟩, hRf, hSc, hA, hZ, hT, hSt, hRt⟩ := I
  unfold wp_X_account
  rw [hSc.1.1]
  have hge : ¬ (8 : Int32) ≤ nI nA := nI_ge (b := 8) h8 (by decide)
  refine ⟨fun q => absurd q hge, fun _ => pw_in h1 h2 ⟨fun q => absurd q (by decide), fun _ => pw_in h3 h4 ⟨fun q => absurd q (by decide), fun _ => pw_in h5 h6 ⟨fun _ => ⟨0, hRf.2.1, ?_⟩, fun q => absurd q (by decide)⟩⟩⟩⟩
  rintro i8 cn10 S11 rfl rfl rfl
  unfold wp_A_init wp_B_init wp_B_renew wp_K_init
  rintro i1 cn3 S4 rfl rfl rfl S1 rfl S2 rfl S3 rfl S8 rfl i9 cn11 S12 rfl rfl rfl i1 cn3' S4' rfl rfl rfl S6 rfl S7 rfl S8' rfl S19 rfl S20 rfl S21 rfl S22 rfl S23 rfl S24 rfl S25 rfl S26 rfl S27 rfl S28 rfl
  have m1 : oup cn 48 49 = nA := by simp [oup, n2]
  have m2 : oup (oup cn 48) 49 50 = nA := by simp [oup, n3]
  have m3 : oup (oup (oup cn 48) 49) 50 51 = nA := by simp [oup, n4]
  rw [hSc.1.1, n1, m1, m2, m3]
  refine ⟨vp_in_nI h8 (by decide), ?_⟩
  rw [cl8 (by omega)]
  rintro S18 rfl S19' rfl
  refine h _ _ ⟨by simp [oup, n1], by simp [oup, n2], by simp [oup, n3], by simp [oup, n4], by simp [oup, n5]⟩ ⟨?_, ?_, ?_, ?_, ?_, ?_, ?_, ?_⟩
  · exact eqK.I (by decide) (eqK.R (by decide) (eqK.I (by decide) (eqK.I (by decide) (eqK.I (by decide) (eqK.I (by decide) (eqK.L (by decide) (eqK.I (by decide) (eqK.I (by decide) (eqK.I (by decide) (eqK.L (by decide) (eqK.R (by decide) (eqK.I (by decide) (eqK.I (by decide) (eqK.R (by decide) (eqK.N (by decide) (eqK.N (by decide) (eqK.R (by decide) (eqK.I (by decide) (eqK.I (by decide) (eqK.I (by decide) (eqK.N (by decide) (eqK.N (by decide) eqK.rf))))))))))))))))))))))
  · intro f
    simp only [gI1, gL1, gR1, gN1]
    by_cases e : f = 6
    · subst e; simp [hSc.1.1, nI_1]
    · simp [e]
  · funext b d; simp [gI2, gL2, gR2, gN2]
  · funext b d; simp [gI3, gL3, gR3, gN3]
  · intro q; simp [gI3, gL3, gR3, gN3]
  · intro q hq
    refine ⟨?_, ?_, ?_, ?_, ?_, ?_, ?_⟩ <;> funext d <;> simp [gI1, gI2, gI3, gL1, gL2, gL3, gR1, gR2, gR3, gN1, gN2, gN3, hq]
  · simp [gI1, gI2, gI3, gL1, gL2, gL3, gR1, gR2, gR3, gN1, gN2, gN3]
  · simp [gI1, gI2, gI3, gL1, gL2, gL3, gR1, gR2, gR3, gN1, gN2, gN3]
set_option maxHeartbeats 4000000 in
set_option maxRecDepth 100000 in
theorem sim_account {S : oSt} {cn : Nat → Nat} {t nA nT nS nR : Nat} (I : Inv4 S cn t nA nT nS nR) (ht : t + 1 ≤ 600) (a b c : Int32) {K : (Nat → Nat) → oSt → Prop} (hK : ∀ cn' T nA', Inv4 T cn' (t + 1) nA' nT nS nR → K cn' T) : wp_X_account cn S a b c (fun r cn1 S1 => wp_M_account S1 a b c (fun r' S2 => fin (K cn1) r r' S2)) := by
  have I0 := I
  have hKS := hK cn S nA (I0.up ht)
  obtain ⟨⟨b1, b2, b3⟩, hcn, hRf, hSc, hA, hZ, hT, hSt, hRt⟩ := I
  by_cases h8 : nA = 8
  · subst h8
    unfold wp_X_account wp_M_account
    rw [hSc.1.1]
    refine ⟨fun _ => ?_, fun q => absurd (by decide) q⟩
    exact ⟨fun _ => fin.ok hKS, fun q => absurd hSc.1.2 q⟩
  · have h8' : nA < 8 := by omega
    have hge : ¬ (8 : Int32) ≤ nI nA := nI_ge (b := 8) h8' (by decide)
    have hne : ¬ nI nA = 8 := fun q => hge (by rw [q]; decide)
    have hM : ∀ (r : Int32), (∀ S1 : oSt, S1 = S → (a < -1000000000 ∨ 0 < a ∨ b < 1 ∨ 1000000000 < b ∨ c < 1 ∨ 10000 < c) → r = -1 → wp_M_account S1 a b c (fun r' S2 => fin (K cn) r r' S2)) := by
      rintro r S1 rfl hbad rfl
      unfold wp_M_account
      rw [hSc.1.2]
      have hk := fin.ok (r := (-1 : Int32)) hKS
      refine ⟨fun _ => hk, fun _ => ⟨fun _ => hk, fun q1 => ⟨fun _ => hk, fun q2 => ⟨fun _ => hk, fun q3 => ⟨fun _ => hk, fun q4 => ⟨fun _ => hk, fun q5 => ⟨fun q6 => ?_, fun _ => hk⟩⟩⟩⟩⟩⟩⟩
      rcases hbad with z | z | z | z | z | z
      · exact absurd z q1
      · exact absurd z q2
      · exact absurd z q3
      · exact absurd z q4
      · exact absurd z q5
      · exact absurd z (Int32.not_lt.mpr q6)
    have hbadX : (a < -1000000000 ∨ 0 < a ∨ b < 1 ∨ 1000000000 < b ∨ c < 1 ∨ 10000 < c) → wp_X_account cn S a b c (fun r cn1 S1 => wp_M_account S1 a b c (fun r' S2 => fin (K cn1) r r' S2)) := by
      intro hbad
      have hm := hM (-1) S rfl hbad rfl
      unfold wp_X_account
      refine ⟨fun _ => hm, fun _ => ?_⟩
      by_cases h1 : a < -1000000000 ∨ 0 < a
      · exact pw_out h1 ⟨fun _ => hm, fun q => absurd rfl q⟩
      · refine pw_in (fun z => h1 (Or.inl z)) (fun z => h1 (Or.inr z)) ⟨fun q => absurd q (by decide), fun _ => ?_⟩
        by_cases h2 : b < 1 ∨ 1000000000 < b
        · exact pw_out h2 ⟨fun _ => hm, fun q => absurd rfl q⟩
        · refine pw_in (fun z => h2 (Or.inl z)) (fun z => h2 (Or.inr z)) ⟨fun q => absurd q (by decide), fun _ => ?_⟩
          by_cases h3 : c < 1 ∨ 10000 < c
          · exact pw_out h3 ⟨fun q => absurd rfl q, fun _ => hm⟩
          · exfalso
            rcases hbad with z | z | z | z | z | z
            · exact h1 (Or.inl z)
            · exact h1 (Or.inr z)
            · exact h2 (Or.inl z)
            · exact h2 (Or.inr z)
            · exact h3 (Or.inl z)
            · exact h3 (Or.inr z)
    by_cases hbad : a < -1000000000 ∨ 0 < a ∨ b < 1 ∨ 1000000000 < b ∨ c < 1 ∨ 10000 < c
    · exact hbadX hbad
    · have h1 : ¬ a < -1000000000 := fun z => hbad (Or.inl z)
      have h2 : ¬ 0 < a := fun z => hbad (Or.inr (Or.inl z))
      have h3 : ¬ b < 1 := fun z => hbad (Or.inr (Or.inr (Or.inl z)))
      have h4 : ¬ 1000000000 < b := fun z => hbad (Or.inr (Or.inr (Or.inr (Or.inl z))))
      have h5 : ¬ c < 1 := fun z => hbad (Or.inr (Or.inr (Or.inr (Or.inr (Or.inl z)))))
      have h6 : ¬ 10000 < c := fun z => hbad (Or.inr (Or.inr (Or.inr (Or.inr (Or.inr z)))))
      refine X_account_ok I0 h8' h1 h2 h3 h4 h5 h6 ?_
      intro cn1 T hcn1 hX
      obtain ⟨eM, x40, l40, r40, r41, xo, xn, yn⟩ := hX
      have e0 := eM 0 (by decide)
      have t4 : T.1 0 0 4 = nI nA := by rw [e0.1]; exact hSc.1.2
      have hf : ∀ f, 5 ≤ f → f ≤ 32 → f ≠ 18 → f ≠ 22 → f ≠ 31 → T.2.2 0 0 f = some 0 := by rw [e0.2.2]; exact hRf.1
      have hv : vp_in (nI nA) 8 := vp_in_nI h8' (by decide)
      unfold wp_M_account
      rw [t4]
      refine ⟨fun q => absurd q hne, fun _ => ⟨fun q => absurd q h1, fun _ => ⟨fun q => absurd q h2, fun _ => ⟨fun q => absurd q h3, fun _ => ⟨fun q => absurd q h4, fun _ => ⟨fun q => absurd q h5, fun _ => ⟨fun _ => ⟨0, hf 6 (by decide) (by decide) (by decide) (by decide) (by decide), hv, ?_⟩, fun q => absurd (Int32.not_lt.mp h6) q⟩⟩⟩⟩⟩⟩⟩
      rw [cl8 (by omega)]
      rintro S2 rfl
      refine ⟨0, hf 7 (by decide) (by decide) (by decide) (by decide) (by decide), by simpa [gI1, t4] using hv, ?_⟩
      simp only [gI1, Nat.reduceEqDiff, false_and, if_false, t4]
      rw [cl8 (by omega)]
      rintro S4 rfl
      refine ⟨0, hf 8 (by decide) (by decide) (by decide) (by decide) (by decide), by simpa [gI1, t4] using hv, ?_⟩
      simp only [gI1, Nat.reduceEqDiff, false_and, if_false, t4]
      rw [cl8 (by omega)]
      rintro S6 rfl
      refine ⟨0, hf 9 (by decide) (by decide) (by decide) (by decide) (by decide), by simpa [gI1, t4] using hv, ?_⟩
      simp only [gI1, Nat.reduceEqDiff, false_and, if_false, t4]
      rw [cl8 (by omega)]
      rintro S8 rfl
      refine ⟨0, hf 13 (by decide) (by decide) (by decide) (by decide) (by decide), by simpa [gI1, t4] using hv, ?_⟩
      simp only [gI1, Nat.reduceEqDiff, false_and, if_false, t4]
      rw [cl8 (by omega)]
      rintro S10 rfl
      refine ⟨0, hf 14 (by decide) (by decide) (by decide) (by decide) (by decide), by simpa [gI1, t4] using hv, ?_⟩
      simp only [gI1, Nat.reduceEqDiff, false_and, if_false, t4]
      rw [cl8 (by omega)]
      rintro S12 rfl
      refine ⟨0, hf 15 (by decide) (by decide) (by decide) (by decide) (by decide), by simpa [gI1, t4] using hv, ?_⟩
      simp only [gI1, Nat.reduceEqDiff, false_and, if_false, t4]
      rw [cl8 (by omega)]
      rintro S14 rfl S15 rfl
      have hk : ∀ U, U = sI (sI (sI (sI (sI (sI (sI (sI T 6 0 nA a) 7 0 nA b) 8 0 nA c) 9 0 nA 0) 13 0 nA 1000) 14 0 nA 100) 15 0 nA 100000) 0 0 4 (nI nA + 1) → K cn1 U := by
        rintro U rfl
        refine hK cn1 _ (nA + 1) ⟨⟨by omega, b2, ht⟩, hcn1, ?_, ?_, ?_, ?_, ?_, ?_, ?_⟩
        · unfold iRf
          simp only [gI3]
          rw [e0.2.2, r40, (eM 42 (by decide)).2.2]
          exact hRf
        · have g := hSc.up (t' := t + 1) (by omega)
          obtain ⟨g1, g2, g3, g4, g5, g6⟩ := g
          unfold iSc
          simp only [gI1, gI2, x40, l40, e0.1, (eM 0 (by decide)).1]
          refine ⟨by simp [nI_1], by simpa using g2, by simpa using g3, by simpa using g4, by simpa using g5, by simpa using g6⟩
        · intro q hq
          by_cases e : q = nA
          · subst e
            have z := hZ q (by omega) (by omega)
            unfold iZ at z
            obtain ⟨y1, y2, y3, y4, y5, y6⟩ := yn
            obtain ⟨v1, v2, v3, v4, v5, v6, v7, v8, v9, v10, v11⟩ := xn
            have k5 := (eM 5 (by decide)).2.1
            have k10 := (eM 10 (by decide)).1
            have k11 := (eM 11 (by decide)).1
            have k12 := (eM 12 (by decide)).2.1
            have k17 := (eM 17 (by decide)).1
            refine ⟨⟨by simp [gI3, r41], by simp [gI3, v10], by simp [gI3, v11], by simp [gI3, y4], by simp [gI1, v1]⟩, ⟨by simp [gI1, v2], by simp [gI1, v3], by simp [gI1, v4], by simpa [gI1] using Int32.not_lt.mp h5, by simpa [gI1] using Int32.not_lt.mp h6⟩, by simp [gI2, v8, k5, z], by simp [gI1, v5], by simp [gI1, v6, k10, z], ⟨0, by omega, by simp [gI1, k11, z, nI_0], by simp [gI1, v7, opw]⟩, by simp [gI2, v9, k12, z], ⟨by simp [gI1, y1], by simp [gI1, y2], by simp [gI1, y3]⟩, 0, by omega, by simp [gI1, k17, z, nI_0], by simp [gI1, y5, nI_0], by simp [gI1, y6, nI_0], by intro i hi; simp at hi⟩
          · have g := (hA q (by omega)).up (t' := t + 1) (by omega)
            obtain ⟨w1, w2, w3, w4, w5, w6, w7⟩ := xo q e
            unfold iA at g ⊢
            simp only [gI1, gI2, gI3, w1, w2, w3, w4, w5, w6, w7, r41, (eM 5 (by decide)).2.1, (eM 6 (by decide)).1, (eM 7 (by decide)).1, (eM 8 (by decide)).1, (eM 9 (by decide)).1, (eM 10 (by decide)).1, (eM 11 (by decide)).1, (eM 12 (by decide)).2.1, (eM 13 (by decide)).1, (eM 14 (by decide)).1, (eM 15 (by decide)).1, (eM 16 (by decide)).1, (eM 17 (by decide)).1]
            simpa [e] using g
        · intro q h1 h2
          have g := hZ q (by omega) h2
          refine iZ.fr (g.fr (eM.sub (by decide))) (eqK.I (by decide) (eqK.I (by decide) (eqK.I (by decide) (eqK.I (by decide) (eqK.I (by decide) (eqK.I (by decide) (eqK.I (by decide) (eqK.I (by decide) eqK.rf))))))))
        · intro j hj
          refine iT.fr (((hT j hj).nA (nB := nA + 1) (by omega)).fr (eM.sub (by decide))) (eqK.I (by decide) (eqK.I (by decide) (eqK.I (by decide) (eqK.I (by decide) (eqK.I (by decide) (eqK.I (by decide) (eqK.I (by decide) (eqK.I (by decide) eqK.rf))))))))
        · refine (hSt.fr2 (eM.sub (by decide)) (by simp [x40]) (by rw [e0.1])).fr2 (eqK.I (by decide) (eqK.I (by decide) (eqK.I (by decide) (eqK.I (by decide) (eqK.I (by decide) (eqK.I (by decide) (eqK.I (by decide) (eqK.I (by decide) eqK.rf)))))))) (by simp [gI1]) (by simp [gI1])
        · refine ((hRt.nA (nB := nA + 1) (by omega)).fr2 (eM.sub (by decide)) (by rw [(eM 42 (by decide)).1]) (by rw [e0.1])).fr2 (eqK.I (by decide) (eqK.I (by decide) (eqK.I (by decide) (eqK.I (by decide) (eqK.I (by decide) (eqK.I (by decide) (eqK.I (by decide) (eqK.I (by decide) eqK.rf)))))))) (by simp [gI1]) (by simp [gI1])
      have ek := hk _ rfl
      simp only [gI1, Nat.reduceEqDiff, false_and, if_false, t4, and_self, if_true]
      refine fin.eq ?_ ek
      rw [nI_1, nI_pred]
