/-! credit: the keys that are remembered -/
def hasK (k : Nat → Int32) (x : Int32) (n : Nat) : Prop := ∃ i, i < n ∧ k i = x
theorem X_holds_L {S : oSt} {a c : Nat} {x : Int32} {post : Int32 → oSt → Prop} (hc8 : c ≤ 8) (hc : S.1 50 a 1 = nI c) (hr : S.2.2 50 a 0 = some a) (h1 : hasK (S.1 51 a) x c → post 1 S) (h0 : ¬ hasK (S.1 51 a) x c → post 0 S) : ∀ m i, i + m = c → (∀ q, q < i → S.1 51 a q ≠ x) → wp_K_holds_L2 post (m + 1) a x (nI i) S := by
  intro m
  induction m with
  | zero =>
    intro i hi hn
    have e : i = c := by omega
    subst e
    unfold wp_K_holds_L2
    rw [hc]
    exact ⟨fun _ => h0 (fun ⟨q, hq, e⟩ => hn q hq e), fun q => absurd (nI_le (Nat.le_refl _) (by omega)) q⟩
  | succ m ih =>
    intro i hi hn
    unfold wp_K_holds_L2
    rw [hc]
    refine ⟨fun q => absurd q (nI_ge (by omega) (by omega)), fun _ => ⟨a, hr, vp_in_nI (by omega) (by decide), ?_⟩⟩
    rw [cl8 (by omega)]
    refine ⟨fun q => ?_, fun q => h1 ⟨i, by omega, q⟩⟩
    rw [nI_1]
    refine ih (i + 1) (by omega) (fun r hr => ?_)
    by_cases e : r = i
    · subst e; exact q
    · exact hn r (by omega)
theorem M_cred_L {S : oSt} {a c K : Nat} {x u : Int32} {post : Int32 → oSt → Prop} (ha : a < 8) (hcK : c = min K 8) (hK31 : K < 2 ^ 30) (hk : S.1 17 0 a = nI K) (hr : S.2.2 0 0 17 = some 0) (hr2 : S.2.2 0 0 16 = some 0) (h1 : hasK (fun i => S.1 16 0 (8 * a + i)) x c → post 1 S) (h0 : ¬ hasK (fun i => S.1 16 0 (8 * a + i)) x c → wp_M_credit_J65 post (nI a) x u S) : ∀ m i, i + m = c → (∀ q, q < i → S.1 16 0 (8 * a + q) ≠ x) → wp_M_credit_L23 post (m + 1) (nI a) x u (nI i) S := by
  have hv : vp_in (nI a) 8 := vp_in_nI ha (by decide)
  have e8 : (8 : Int32) = nI 8 := rfl
  intro m
  induction m with
  | zero =>
    intro i hi hn
    have e : i = c := by omega
    subst e
    have hj : wp_M_credit_J65 post (nI a) x u S := h0 (fun ⟨q, hq, e⟩ => hn q hq e)
    unfold wp_M_credit_L23
    refine ⟨fun _ => hj, fun q => ⟨0, hr, hv, ?_⟩⟩
    rw [cl8 (by omega), hk]
    refine ⟨fun _ => hj, fun q2 => ?_⟩
    exfalso
    rw [e8, nI_leI (by decide) (by omega)] at q
    rw [nI_leI (by omega) (by omega)] at q2
    omega
  | succ m ih =>
    intro i hi hn
    unfold wp_M_credit_L23
    refine ⟨fun q => ?_, fun _ => ⟨0, hr, hv, ?_⟩⟩
    · exfalso
      rw [e8, nI_leI (by decide) (by omega)] at q
      omega
    · rw [cl8 (by omega), hk]
      refine ⟨fun q => ?_, fun _ => ⟨0, hr2, ?_⟩⟩
      · exfalso
        rw [nI_leI (by omega) (by omega)] at q
        omega
      · rw [e8, pk_mul, nI_add, cl8 (by omega)]
        refine ⟨vp_in_nI (by omega) (by decide), ⟨fun q => ?_, fun q => h1 ⟨i, by omega, q⟩⟩⟩
        rw [nI_1]
        refine ih (i + 1) (by omega) (fun r hr => ?_)
        by_cases e : r = i
        · subst e; exact q
        · exact hn r (by omega)
theorem M_power {S : oSt} {d : Nat} (hd : d < 4) {post : Int32 → oSt → Prop} (h : post (opw d) S) : wp_M_power S (nI d) post := by
  unfold wp_M_power
  have h9 : d = 0 ∨ d = 1 ∨ d = 2 ∨ d = 3 := by omega
  rcases h9 with rfl | rfl | rfl | rfl
  · exact ⟨fun q => absurd rfl q, fun _ => h⟩
  · exact ⟨fun _ => ⟨fun q => absurd rfl q, fun _ => h⟩, fun q => absurd q (by decide)⟩
  · exact ⟨fun _ => ⟨fun _ => ⟨fun q => absurd rfl q, fun _ => h⟩, fun q => absurd q (by decide)⟩, fun q => absurd q (by decide)⟩
  · exact ⟨fun _ => ⟨fun _ => ⟨fun _ => h, fun q => absurd q (by decide)⟩, fun q => absurd q (by decide)⟩, fun q => absurd q (by decide)⟩
theorem opw_ne {d : Nat} : ¬ (opw d).toInt64 = 0 := by
  unfold opw
  split
  · decide
  · split
    · decide
    · split <;> decide
set_option maxHeartbeats 4000000 in
theorem sim_credit {S : oSt} {cn : Nat → Nat} {t nA nT nS nR : Nat} (I : Inv4 S cn t nA nT nS nR) (ht : t + 1 ≤ 600) (a x u : Int32) {K : oSt → Prop} (hK : ∀ T, Inv4 T cn (t + 1) nA nT nS nR → K T) : wp_X_credit S a x u (fun r S1 => wp_M_credit S1 a x u (fun r' S2 => fin K r r' S2)) := by
  have I0 := I
  have hKS := hK S (I0.up ht)
  obtain ⟨⟨b1, b2, b3⟩, hcn, hRf, hSc, hA, hZ, hT, hSt, hRt⟩ := I
  have hf := hRf.1
  unfold wp_X_credit wp_M_credit
  rcases ix_cases a (n := nA) (by omega) with hb | ⟨j, hj, rfl⟩
  · exact an_bad hSc.1.1 hb ⟨fun _ => ia_bad hSc.1.2 hb ⟨fun _ => fin.ok hKS, fun q => absurd rfl q⟩, nofun⟩
  · have h := hA j hj
    have hv : vp_in (nI j) 8 := vp_in_nI (by omega) (by decide)
    refine an_ok hSc.1.1 hRf.2.1 b1 hj h.1.1 ⟨nofun, fun j' e => ?_⟩
    cases e
    by_cases h1 : u < 0
    · exact pw_out (Or.inl h1) ⟨fun q => absurd rfl q, fun _ => ia_ok hSc.1.2 b1 hj ⟨fun q => absurd q (by decide), fun _ => ⟨fun _ => fin.ok hKS, fun q => absurd h1 q⟩⟩⟩
    · by_cases h2 : (1000000 : Int32) < u
      · exact pw_out (Or.inr h2) ⟨fun q => absurd rfl q, fun _ => ia_ok hSc.1.2 b1 hj ⟨fun q => absurd q (by decide), fun _ => ⟨fun q => absurd q h1, fun _ => ⟨fun q => absurd h2 (Int32.not_lt.mpr q), fun _ => fin.ok hKS⟩⟩⟩⟩
      · obtain ⟨⟨a1, a2, a3, a4, a5⟩, a6, a7, a8, a9, ⟨d, hd, hd1, hd2⟩, a11, a12, Kc, hKc, c1, c2, c3, c4⟩ := h
        have hsame : hasK (S.1 51 j) x (min Kc 8) ↔ hasK (fun i => S.1 16 0 (8 * j + i)) x (min Kc 8) := by
          constructor
          · rintro ⟨i, hi, e⟩; exact ⟨i, hi, (c4 i hi).symm.trans e⟩
          · rintro ⟨i, hi, e⟩; exact ⟨i, hi, (c4 i hi).trans e⟩
        refine pw_in h1 h2 ⟨fun _ => ⟨j, a3, ?_⟩, fun q => absurd q (by decide)⟩
        unfold wp_K_holds
        refine ⟨min Kc 8 + 1, X_holds_L (c := min Kc 8) (Nat.min_le_right _ _) c2 a4 (fun hk => ?_) (fun hk => ?_) (min Kc 8) 0 (by omega) (fun q hq => absurd hq (Nat.not_lt_zero q))⟩
        · -- the key is there
          refine ⟨fun q => absurd q (by decide), fun _ => ?_⟩
          refine ia_ok hSc.1.2 b1 hj ⟨fun q => absurd q (by decide), fun _ => ⟨fun q => absurd q h1, fun _ => ⟨fun _ => ⟨min Kc 8 + 1, ?_⟩, fun q => absurd (Int32.not_lt.mp h2) q⟩⟩⟩
          exact M_cred_L (c := min Kc 8) (K := Kc) (by omega) rfl (by omega) c1 (hf 17 (by decide) (by decide) (by decide) (by decide) (by decide)) (hf 16 (by decide) (by decide) (by decide) (by decide) (by decide)) (fun _ => fin.ok hKS) (fun q => absurd (hsame.mp hk) q) (min Kc 8) 0 (by omega) (fun q hq => absurd hq (Nat.not_lt_zero q))
        · -- it's new
          refine ⟨fun _ => ⟨j, a3, ?_⟩, fun q => absurd rfl q⟩
          have hfin : ∀ T : oSt, eqK (kM ++ [40, 41, 42, 43, 44, 45, 46, 47, 52]) S T → (∀ q, q ≠ j → T.1 50 q = S.1 50 q ∧ T.1 51 q = S.1 51 q ∧ T.2.1 48 q = S.2.1 48 q) → T.1 48 = S.1 48 → T.2.2 48 = S.2.2 48 → T.1 49 = S.1 49 → T.2.2 50 = S.2.2 50 → T.2.1 48 j 10 = S.2.1 48 j 10 → T.2.1 48 j 6 = S.2.1 48 j 6 + (u.toInt64 * (opw d).toInt64) → T.1 50 j 1 = nI (min (Kc + 1) 8) → T.1 50 j 2 = nI (if Kc + 1 < 8 then 0 else (Kc + 1) % 8) → (∀ i, T.1 51 j i = if i = Kc % 8 then x else S.1 51 j i) → wp_M_isAccount T (nI j) (fun r1 S2 => ((r1 = 0) → fin K (0 : Int32) (-1) S2) ∧ ((¬ r1 = 0) → ((u < 0) → fin K (0 : Int32) (-1) S2) ∧ ((¬ u < 0) → ((u ≤ (1000000 : Int32)) → ∃ n : Nat, wp_M_credit_L23 (fun r' S2 => fin K (0 : Int32) r' S2) n (nI j) x u ((0 : Int32)) S2) ∧ ((¬ u ≤ (1000000 : Int32)) → fin K (0 : Int32) (-1) S2)))) := by
            intro T eM o1 o2 o3 o4 o5 o6 o7 o8 o9 o10
            have e0 := eM 0 (by decide)
            have tf : ∀ f, 5 ≤ f → f ≤ 32 → f ≠ 18 → f ≠ 22 → f ≠ 31 → T.2.2 0 0 f = some 0 := by rw [e0.2.2]; exact hf
            have k17 := (eM 17 (by decide)).1
            have k16 := (eM 16 (by decide)).1
            refine ia_ok (nA := nA) (by rw [e0.1]; exact hSc.1.2) b1 hj ⟨fun q => absurd q (by decide), fun _ => ⟨fun q => absurd q h1, fun _ => ⟨fun _ => ⟨min Kc 8 + 1, ?_⟩, fun q => absurd (Int32.not_lt.mp h2) q⟩⟩⟩
            refine M_cred_L (c := min Kc 8) (K := Kc) (by omega) rfl (by omega) (by rw [k17]; exact c1) (tf 17 (by decide) (by decide) (by decide) (by decide) (by decide)) (tf 16 (by decide) (by decide) (by decide) (by decide) (by decide)) (fun q => ?_) (fun _ => ?_) (min Kc 8) 0 (by omega) (fun q hq => absurd hq (Nat.not_lt_zero q))
            · rw [k16] at q; exact absurd (hsame.mpr q) hk
            · unfold wp_M_credit_J65
              have er : nI Kc - nI Kc / 8 * 8 = nI (Kc % 8) := pk_rem (d := 8) (by omega) (by decide) (by decide)
              have e8 : (8 : Int32) * nI j = nI (8 * j) := pk_mul 8 j
              refine ⟨0, tf 16 (by decide) (by decide) (by decide) (by decide) (by decide), 0, tf 17 (by decide) (by decide) (by decide) (by decide) (by decide), hv, by decide, ?_⟩
              have hm8 : Kc % 8 < 8 := Nat.mod_lt _ (by decide)
              rw [cl8 (by omega), k17, c1, er, e8, nI_add, cl8 (by omega)]
              refine ⟨vp_in_nI (by omega) (by decide), ?_⟩
              rintro S5 rfl
              refine ⟨0, tf 17 (by decide) (by decide) (by decide) (by decide) (by decide), hv, hv, ?_⟩
              rintro S7 rfl
              refine ⟨0, tf 5 (by decide) (by decide) (by decide) (by decide) (by decide), hv, 0, tf 11 (by decide) (by decide) (by decide) (by decide) (by decide), hv, ?_⟩
              simp only [gI1, Nat.reduceEqDiff, false_and, if_false, k17, c1, (eM 11 (by decide)).1, hd1]
              refine M_power hd ⟨hv, ?_⟩
              rintro S12 rfl
              refine fin.ok (hK _ (I0.accs ht ?_ ?_ ?_))
              · exact eqK.L (by decide) (eqK.I (by decide) (eqK.I (by decide) (eM.sub (by decide))))
              · intro q hq
                have g := (hA q hq).up (t' := t + 1) (by omega)
                unfold iA at g ⊢
                simp only [gI1, gI2, gI3, gL1, gL2, gL3, o2, o3, o4, o5, (eM 41 (by decide)).2.2, (eM 5 (by decide)).2.1, (eM 6 (by decide)).1, (eM 7 (by decide)).1, (eM 8 (by decide)).1, (eM 9 (by decide)).1, (eM 10 (by decide)).1, (eM 11 (by decide)).1, (eM 12 (by decide)).2.1, (eM 13 (by decide)).1, (eM 14 (by decide)).1, (eM 15 (by decide)).1, k16, k17]
                by_cases e : q = j
                · subst e
                  obtain ⟨g1, g2, g3, g4, g5, g6, g7, g8, g9⟩ := g
                  refine ⟨by simpa using g1, by simpa using g2, ?_, by simpa using g4, by simpa using g5, by simpa using g6, by simpa [o6] using g7, by simpa using g8, Kc + 1, by omega, ?_, by simp [o8], by simp [o9], ?_⟩
                  · simp [o7, g3]
                  · simp [nI_1]
                  · intro i hi
                    rw [o10 i]
                    simp only [Nat.add_left_cancel_iff, true_and]
                    by_cases ei : i = Kc % 8
                    · simp [ei]
                    · simp [ei]
                      apply c4 i
                      by_cases hK8 : Kc < 8
                      · have : Kc % 8 = Kc := Nat.mod_eq_of_lt hK8
                        omega
                      · omega
                · obtain ⟨w1, w2, w3⟩ := o1 q e
                  simp only [w1, w2, w3]
                  have hne : ∀ i, i < 8 → ¬ 8 * q + i = 8 * j + Kc % 8 := by intro i hi; omega
                  obtain ⟨g1, g2, g3, g4, g5, g6, g7, g8, K2, hK2, g9, g10, g11, g12⟩ := g
                  refine ⟨by simpa using g1, by simpa using g2, by simpa [e] using g3, by simpa using g4, by simpa using g5, by simpa using g6, by simpa using g7, by simpa using g8, K2, hK2, by simpa [e] using g9, g10, g11, ?_⟩
                  intro i hi
                  have hi8 : i < 8 := by omega
                  simp [hne i hi8, g12 i hi]
              · intro q h1 h2
                have g := hZ q h1 h2
                have e : q ≠ j := by omega
                unfold iZ at g ⊢
                simp only [gI1, gI2, gI3, gL1, gL2, gL3, (eM 5 (by decide)).2.1, (eM 10 (by decide)).1, (eM 11 (by decide)).1, (eM 12 (by decide)).2.1, k17]
                simpa [e] using g
          unfold wp_K_remember
          refine ⟨j, a4, ⟨fun q => ?_, fun q => ?_⟩⟩
          · -- full: the oldest goes
            rw [c2] at q
            have hK8 : ¬ Kc < 8 := by
              intro z
              rw [show (8 : Int32) = nI 8 from rfl, nI_leI (by decide) (by omega)] at q
              omega
            rw [if_neg hK8] at c3
            have hm8 : Kc % 8 < 8 := Nat.mod_lt _ (by decide)
            refine ⟨j, a4, ?_⟩
            rw [c3]
            refine ⟨vp_in_nI hm8 (by decide), ?_⟩
            rw [cl8 (by omega)]
            rintro S3 rfl
            refine ⟨j, a4, ?_⟩
            have e3 : (sI S 51 j (Kc % 8) x).1 50 j 2 + 1 = nI (Kc % 8 + 1) := by simp [gI1, c3, nI_1]
            rw [e3]
            refine ⟨fun q2 => ?_, fun q2 => ?_⟩
            · rw [show (8 : Int32) = nI 8 from rfl, nI_leI (by decide) (by omega)] at q2
              rintro S5 rfl S12 rfl
              have hK7 : Kc % 8 = 7 := by omega
              refine hfin _ (eqK.L (by decide) (eqK.I (by decide) (eqK.I (by decide) eqK.rf))) (fun q hq => ⟨?_, ?_, ?_⟩) ?_ rfl ?_ rfl ?_ ?_ ?_ ?_ ?_
              · funext d; simp [gI1, gL1, hq]
              · funext d; simp [gI1, gL1, hq]
              · funext d; simp [gI2, gL2, hq]
              · funext b d; simp [gI1, gL1]
              · funext b d; simp [gI1, gL1]
              · simp [gI2, gL2]
              · simp [gI1, gI2, gL2, hd2]
              · have : min (Kc + 1) 8 = min Kc 8 := by omega
                rw [this]; simp [gI1, gL1, c2]
              · have h8 : ¬ Kc + 1 < 8 := by omega
                have : (Kc + 1) % 8 = 0 := by omega
                simp [gI1, gL1, h8, this, nI_0]
              · intro i; simp [gI1, gL1]
            · rw [show (8 : Int32) = nI 8 from rfl, nI_leI (by decide) (by omega)] at q2
              rintro S6 rfl S12 rfl
              refine hfin _ (eqK.L (by decide) (eqK.I (by decide) (eqK.I (by decide) eqK.rf))) (fun q hq => ⟨?_, ?_, ?_⟩) ?_ rfl ?_ rfl ?_ ?_ ?_ ?_ ?_
              · funext d; simp [gI1, gL1, hq]
              · funext d; simp [gI1, gL1, hq]
              · funext d; simp [gI2, gL2, hq]
              · funext b d; simp [gI1, gL1]
              · funext b d; simp [gI1, gL1]
              · simp [gI2, gL2]
              · simp [gI1, gI2, gL2, hd2]
              · have : min (Kc + 1) 8 = min Kc 8 := by omega
                rw [this]; simp [gI1, gL1, c2]
              · have h8 : ¬ Kc + 1 < 8 := by omega
                have : (Kc + 1) % 8 = Kc % 8 + 1 := by omega
                simp [gI1, gL1, h8, this]
              · intro i; simp [gI1, gL1]
          · rw [c2] at q
            have hK8 : Kc < 8 := by
              refine Nat.not_le.mp (fun z => q ?_)
              rw [show (8 : Int32) = nI 8 from rfl, nI_leI (by decide) (by omega)]
              omega
            have hmin : min Kc 8 = Kc := by omega
            rw [hmin] at c2
            have hmod : Kc % 8 = Kc := Nat.mod_eq_of_lt hK8
            rw [if_pos hK8] at c3
            refine ⟨j, a4, ?_⟩
            rw [c2]
            refine ⟨vp_in_nI hK8 (by decide), ?_⟩
            rw [cl8 (by omega)]
            rintro S8 rfl S9 rfl S12 rfl
            refine hfin _ (eqK.L (by decide) (eqK.I (by decide) (eqK.I (by decide) eqK.rf))) (fun q hq => ⟨?_, ?_, ?_⟩) ?_ rfl ?_ rfl ?_ ?_ ?_ ?_ ?_
            · funext d; simp [gI1, gL1, hq]
            · funext d; simp [gI1, gL1, hq]
            · funext d; simp [gI2, gL2, hq]
            · funext b d; simp [gI1, gL1]
            · funext b d; simp [gI1, gL1]
            · simp [gI2, gL2]
            · simp [gI1, gI2, gL2, hd2]
            · have : min (Kc + 1) 8 = Kc + 1 := by omega
              rw [this]; simp [gI1, gL1, c2, nI_1]
            · have : (if Kc + 1 < 8 then 0 else (Kc + 1) % 8) = 0 := by split <;> omega
              rw [this]; simp [gI1, gL1, c3]
            · intro i; simp [gI1, gL1, hmod]
