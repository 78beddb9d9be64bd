/-- behind a fulfilment: what both sides hold -/
def fuX (S : oSt) (j q : Nat) (k b r : Int64) : oSt := aX (sL (sL (sI S 52 j 6 1) 52 j 7 k) 48 q 6 (S.2.1 48 q 6 + S.2.1 52 j 3)) q b r
def fuM (S : oSt) (j q : Nat) (k b r : Int64) : oSt := aM (sL (sL (sI S 29 0 j 1) 30 0 j k) 5 0 q (S.2.1 5 0 q + S.2.1 26 0 j)) q b r
set_option maxHeartbeats 4000000 in
theorem Inv4.ful {S T : oSt} {cn : Nat → Nat} {t nA nT nS nR n' j q : Nat} {k b r : Int64} (I : Inv4 S cn t nA nT nS nR) (ht : t + 1 ≤ 600) (hj : j < nT) (h0 : S.1 29 0 j = 0) (hq : q < nA)
    (e1 : eqK [41, 49, 50, 51, 6, 7, 8, 9, 10, 11, 13, 14, 15, 16, 17, 43, 23, 24, 25, 26, 27, 28, 42, 45, 46, 47, 19, 20, 21] S T)
    (x0 : ∀ f, f ≠ 31 → T.1 0 0 f = S.1 0 0 f) (x40 : ∀ f, f ≠ 8 → T.1 40 0 f = S.1 40 0 f) (l40 : T.2.1 40 = S.2.1 40) (hr : T.2.2 = S.2.2)
    (i48 : T.1 48 = S.1 48) (l48 : ∀ a f, T.2.1 48 a f = if a = q ∧ f = 10 then r else if a = q ∧ f = 6 then b else S.2.1 48 a f) (l5 : ∀ a, T.2.1 5 0 a = if a = q then b else S.2.1 5 0 a) (l12 : ∀ a, T.2.1 12 0 a = if a = q then r else S.2.1 12 0 a)
    (i52 : ∀ a f, T.1 52 a f = if a = j ∧ f = 6 then 1 else S.1 52 a f) (l52 : ∀ a f, T.2.1 52 a f = if a = j ∧ f = 7 then k else S.2.1 52 a f) (i29 : T.1 29 0 = upd (S.1 29 0) j 1) (l30 : ∀ a, T.2.1 30 0 a = if a = j then k else S.2.1 30 0 a)
    (hS' : T.1 40 0 8 = nI n' ∧ T.1 0 0 31 = nI n' ∧ n' ≤ nS + 1 ∧ ∀ i, i < n' → T.2.1 44 0 i = T.2.1 32 0 i) : Inv4 T cn (t + 1) nA nT n' nR := by
  obtain ⟨⟨b1, b2, b3⟩, hcn, hRf, hSc, hA, hZ, hT, hSt, hRt⟩ := I
  refine ⟨⟨b1, b2, ht⟩, hcn, ?_, ?_, ?_, ?_, ?_, ?_, ?_⟩
  · unfold iRf; rw [hr]; exact hRf
  · have g := hSc.up (t' := t + 1) (by omega)
    unfold iSc at g ⊢
    rw [x40 6 (by decide), x0 4 (by decide), x40 7 (by decide), x0 22 (by decide), x40 0 (by decide), x0 0 (by decide), x40 1 (by decide), x0 1 (by decide), x40 9 (by decide), x0 3 (by decide), x0 2 (by decide), l40]
    exact g
  · intro a ha
    have g := (hA a ha).up (t' := t + 1) (by omega)
    unfold iA at g ⊢
    rw [hr, i48, (e1 6 (by decide)).1, (e1 7 (by decide)).1, (e1 8 (by decide)).1, (e1 9 (by decide)).1, (e1 10 (by decide)).1, (e1 11 (by decide)).1, (e1 13 (by decide)).1, (e1 14 (by decide)).1, (e1 15 (by decide)).1, (e1 16 (by decide)).1, (e1 17 (by decide)).1, (e1 49 (by decide)).1, (e1 50 (by decide)).1, (e1 51 (by decide)).1, l48, l48, l5, l12]
    by_cases e : a = q
    · subst e
      obtain ⟨g1, g2, g3, g4, g5, g6, g7, g8⟩ := g
      exact ⟨g1, g2, by simp, g4, g5, g6, by simp, g8⟩
    · simpa [e] using g
  · intro a g1 g2
    have g := hZ a g1 g2
    have e : a ≠ q := by omega
    unfold iZ at g ⊢
    rw [l5, l12, (e1 10 (by decide)).1, (e1 11 (by decide)).1, (e1 17 (by decide)).1]
    simpa [e] using g
  · intro i hi
    have g := hT i hi
    unfold iT at g ⊢
    rw [hr, (e1 23 (by decide)).1, (e1 24 (by decide)).1, (e1 25 (by decide)).1, (e1 26 (by decide)).2.1, (e1 27 (by decide)).1, (e1 28 (by decide)).2.1, i52, i52, l52, l52, l52, l52, i29, l30]
    by_cases e : i = j
    · subst e
      obtain ⟨g1, g2, g3, g4, g5, g6, g7, g8, g9⟩ := g
      exact ⟨g1, g2, g3, by simpa using g4, by simpa using g5, by simpa using g6, by simpa using g7, by simp [pk_us], by simp [pk_us]⟩
    · rw [pk_un e]
      simpa [e] using g
  · obtain ⟨g1, g2, g3, g4⟩ := hS'
    refine ⟨g1, g2, ?_, g4⟩
    rw [i29, cF_up (by rw [h0]; decide) nT hj]
    have := hSt.2.2.1
    omega
  · exact hRt.fr2 (e1.sub (by decide)) (by rw [(e1 42 (by decide)).1]) (x0 18 (by decide))
set_option maxHeartbeats 8000000 in
theorem sim_fulfil {S : oSt} {cn : Nat → Nat} {t nA nT nS nR : Nat} (I : Inv4 S cn t nA nT nS nR) (ht : t + 1 ≤ 600) (a : Int32) (key : Int64) {K : oSt → Prop} (hK : ∀ T nS', Inv4 T cn (t + 1) nA nT nS' nR → K T) : wp_X_fulfil S a key (fun r S1 => wp_M_fulfil S1 a key (fun r' S2 => fin K r r' S2)) := by
  have I0 := I
  have hKS := hK S nS (I0.up ht)
  obtain ⟨⟨b1, b2, b3⟩, hcn, hRf, hSc, hA, hZ, hT, hSt, hRt⟩ := I
  have hf := hRf.1
  rcases ix_cases a (n := nT) (by omega) with hb | ⟨j, hj, rfl⟩
  · unfold wp_X_fulfil wp_M_fulfil
    exact tn_bad hSc.2.1.1 hb ⟨fun _ => it_bad hSc.2.1.2 hb ⟨fun q => absurd rfl q, fun _ => fin.ok hKS⟩, nofun⟩
  have h := hT j hj
  have hv : vp_in (nI j) 120 := vp_in_nI (by omega) (by decide)
  obtain ⟨g1, g2, ⟨q, hq, p1, p2⟩, g4, g5, g6, g7, g8, g9⟩ := h
  have hv8 : vp_in (nI q) 8 := vp_in_nI (by omega) (by decide)
  -- the reference, where it answers -2 or -3
  by_cases h0 : S.1 29 0 j = 0
  · by_cases hl : lg_cmp (((key * key) + (41 : Int64)) ^^^ (oush ((key * key) + (41 : Int64)) (7 : Int32))) (S.2.1 28 0 j) = 0
    · -- it opens
      have hg := hA q hq
      obtain ⟨a1, a2, a3, a4, a5, ⟨d, hd4, hd1, hd2⟩, a7, a8, a9⟩ := hg
      have hnS : nS < 120 := by
        have e1 := cF_up (s := S.1 29 0) (j := j) (by rw [h0]; decide) nT hj
        have e2 := cF_le (s := upd (S.1 29 0) j 1) nT
        have e3 := hSt.2.2.1
        omega
      generalize hst : stl (S.2.1 5 0 q + S.2.1 26 0 j) (S.2.1 12 0 q) (S.1 9 0 q) (S.1 10 0 q) (opw d) = w
      obtain ⟨b, r, u⟩ := w
      -- the reference's walk from any state that holds its columns
      have hM : ∀ T : oSt, eqK [0, 5, 9, 10, 11, 12, 24, 26, 28, 29, 30, 32] S T → (¬ 0 < u → K (fuM T j q key b r)) → (0 < u → K (sI (sL (fuM T j q key b r) 32 0 nS (u * 8 + (nI q).toInt64)) 0 0 31 (nI (nS + 1)))) → wp_M_fulfil T (nI j) key (fun r' S2 => fin K (0 : Int32) r' S2) := by
        intro T eT k0 k1
        have e0 := eT 0 (by decide)
        have tf : ∀ f, 5 ≤ f → f ≤ 32 → f ≠ 18 → f ≠ 22 → f ≠ 31 → T.2.2 0 0 f = some 0 := by rw [e0.2.2]; exact hf
        have t29 : T.1 29 0 j = 0 := by rw [(eT 29 (by decide)).1]; exact h0
        have t28 : T.2.1 28 0 j = S.2.1 28 0 j := by rw [(eT 28 (by decide)).2.1]
        have t24 : T.1 24 0 j = nI q := by rw [(eT 24 (by decide)).1]; exact p2
        unfold wp_M_fulfil
        refine it_ok (nT := nT) (by rw [e0.1]; exact hSc.2.1.2) b2 hj ⟨fun _ => ⟨0, tf 29 (by decide) (by decide) (by decide) (by decide) (by decide), hv, ?_⟩, fun q => absurd q (by decide)⟩
        rw [cl8 (by omega), t29]
        refine ⟨fun _ => ?_, fun q => absurd rfl q⟩
        unfold wp_M_lock
        refine ⟨0, tf 28 (by decide) (by decide) (by decide) (by decide) (by decide), hv, ?_⟩
        rw [t28]
        refine ⟨fun _ => ⟨0, tf 29 (by decide) (by decide) (by decide) (by decide) (by decide), hv, ?_⟩, fun q => absurd hl q⟩
        rintro S8 rfl
        refine ⟨0, tf 30 (by decide) (by decide) (by decide) (by decide) (by decide), hv, ?_⟩
        rintro S10 rfl
        have q24 : (sL (sI T 29 0 j 1) 30 0 j key).1 24 0 j = nI q := by simp [gL1, gI1, t24]
        refine ⟨0, tf 5 (by decide) (by decide) (by decide) (by decide) (by decide), 0, tf 24 (by decide) (by decide) (by decide) (by decide) (by decide), hv, ?_⟩
        rw [q24]
        refine ⟨hv8, 0, tf 26 (by decide) (by decide) (by decide) (by decide) (by decide), hv, hv8, ?_⟩
        rw [cl8 (by omega)]
        rintro S14 rfl
        refine ⟨0, tf 24 (by decide) (by decide) (by decide) (by decide) (by decide), hv, ?_⟩
        have e26 : (sL (sI T 29 0 j 1) 30 0 j key).2.1 5 0 q + (sL (sI T 29 0 j 1) 30 0 j key).2.1 26 0 j = T.2.1 5 0 q + T.2.1 26 0 j := by simp [gL2, gI2]
        rw [e26]
        have q24' : (sL (sL (sI T 29 0 j 1) 30 0 j key) 5 0 q (T.2.1 5 0 q + T.2.1 26 0 j)).1 24 0 j = nI q := q24
        rw [q24']
        have hq8 : q < 8 := by omega
        refine M_settle (d := d) (n := nS) (b := b) (r := r) (u := u) hq8 hnS ?_ tf hd4 ?_ ?_ (fun z => fin.ok (k0 z)) (fun z => fin.ok (k1 z))
        · simp only [gL1, gI1]; rw [e0.1]; simpa using hSt.2.1
        · simp only [gL1, gI1]; rw [(eT 11 (by decide)).1]; simpa using hd1
        · simp only [gL1, gL2, gI1, gI2]
          rw [(eT 5 (by decide)).2.1, (eT 26 (by decide)).2.1, (eT 12 (by decide)).2.1, (eT 9 (by decide)).1, (eT 10 (by decide)).1]
          simpa using hst
      unfold wp_X_fulfil
      refine tn_ok hSc.2.1.1 hRf.2.2.2.1 b2 hj g1 ⟨nofun, fun j' e => ?_⟩
      cases e
      refine ⟨fun _ => ?_, fun z => absurd (g8.trans h0) z⟩
      unfold wp_X_lockOf
      have hl' : lg_cmp (((key * key) + (41 : Int64)) ^^^ (oush ((key * key) + (41 : Int64)) (7 : Int32))) (S.2.1 52 j 5) = 0 := by rw [g7]; exact hl
      refine ⟨fun _ => ?_, fun z => absurd hl' z⟩
      unfold wp_T_payOut
      rintro S1 rfl S2 rfl
      refine ⟨q, p1, ?_⟩
      rintro S4 rfl
      refine ⟨q, p1, ?_⟩
      have e26 : (sL (sI S 52 j 6 1) 52 j 7 key).2.1 48 q 6 + (sL (sI S 52 j 6 1) 52 j 7 key).2.1 52 j 3 = S.2.1 48 q 6 + S.2.1 52 j 3 := by simp [gL2, gI2]
      rw [e26]
      have hn0 : (sL (sL (sI S 52 j 6 1) 52 j 7 key) 48 q 6 (S.2.1 48 q 6 + S.2.1 52 j 3)).1 48 q 0 = nI q := by simpa [gL1, gI1] using a1.2.2.2.2
      refine X_settle (d := d) (n := nS) (b := b) (r := r) (u := u) hnS (by simpa [gL1, gI1] using hSt.1) hRf.2.2.2.2.1 (by simpa [gL1, gI1] using hd2) ?_ (fun z => ?_) (fun z => ?_)
      · have e : (sL (sL (sI S 52 j 6 1) 52 j 7 key) 48 q 6 (S.2.1 48 q 6 + S.2.1 52 j 3)).2.1 48 q 6 = S.2.1 5 0 q + S.2.1 26 0 j := by simp [gL2, a3, g5]
        have e' : (sL (sL (sI S 52 j 6 1) 52 j 7 key) 48 q 6 (S.2.1 48 q 6 + S.2.1 52 j 3)).2.1 48 q 10 = S.2.1 12 0 q := by simp [gL2, gI2, a7]
        have e'' : (sL (sL (sI S 52 j 6 1) 52 j 7 key) 48 q 6 (S.2.1 48 q 6 + S.2.1 52 j 3)).1 48 q 7 = S.1 9 0 q := by simp [gL1, gI1, a4]
        have e3 : (sL (sL (sI S 52 j 6 1) 52 j 7 key) 48 q 6 (S.2.1 48 q 6 + S.2.1 52 j 3)).1 48 q 8 = S.1 10 0 q := by simp [gL1, gI1, a5]
        rw [e, e', e'', e3]; exact hst
      · -- nothing to settle
        refine hM _ ?_ (fun _ => hK _ nS ?_) (fun y => absurd y z)
        · unfold aX
          exact eqK.L (by decide) (eqK.L (by decide) (eqK.L (by decide) (eqK.L (by decide) (eqK.I (by decide) eqK.rf))))
        · refine I0.ful (j := j) (q := q) (k := key) (b := b) (r := r) ht hj h0 hq ?_ ?_ ?_ ?_ rfl ?_ ?_ ?_ ?_ ?_ ?_ ?_ ?_ ?_
          · unfold fuM aM aX
            exact eqK.L (by decide) (eqK.L (by decide) (eqK.L (by decide) (eqK.L (by decide) (eqK.I (by decide) (eqK.L (by decide) (eqK.L (by decide) (eqK.L (by decide) (eqK.L (by decide) (eqK.I (by decide) eqK.rf)))))))))
          · intro f _; simp [fuM, aM, aX, gL1, gI1]
          · intro f _; simp [fuM, aM, aX, gL1, gI1]
          · funext i f; simp [fuM, aM, aX, gL2, gI2]
          · funext i f; simp [fuM, aM, aX, gL1, gI1]
          · intro i f; simp only [fuM, aM, aX, gL2, gI2]; by_cases y1 : i = q <;> by_cases y2 : f = 10 <;> by_cases y3 : f = 6 <;> simp_all
          · intro i; simp only [fuM, aM, aX, gL2, gI2]; by_cases y1 : i = q <;> simp_all
          · intro i; simp only [fuM, aM, aX, gL2, gI2]; by_cases y1 : i = q <;> simp_all
          · intro i f; simp only [fuM, aM, aX, gL1, gI1]; by_cases y1 : i = j <;> by_cases y2 : f = 6 <;> simp_all
          · intro i f; simp only [fuM, aM, aX, gL2, gI2]; by_cases y1 : i = j <;> by_cases y2 : f = 7 <;> simp_all
          · funext i; simp only [fuM, aM, aX, gL1, gI1, upd]; by_cases y1 : i = j <;> simp_all
          · intro i; simp only [fuM, aM, aX, gL2, gI2]; by_cases y1 : i = j <;> simp_all
          · refine ⟨by simpa [fuM, aM, aX, gL1, gI1] using hSt.1, by simpa [fuM, aM, aX, gL1, gI1] using hSt.2.1, by omega, fun i hi => ?_⟩
            have := hSt.2.2.2 i hi
            simpa [fuM, aM, aX, gL2, gI2] using this
      · rw [hn0]
        refine hM _ ?_ (fun y => absurd z y) (fun _ => hK _ (nS + 1) ?_)
        · unfold aX
          exact eqK.I (by decide) (eqK.L (by decide) (eqK.L (by decide) (eqK.L (by decide) (eqK.L (by decide) (eqK.L (by decide) (eqK.I (by decide) eqK.rf))))))
        · refine I0.ful (j := j) (q := q) (k := key) (b := b) (r := r) ht hj h0 hq ?_ ?_ ?_ ?_ rfl ?_ ?_ ?_ ?_ ?_ ?_ ?_ ?_ ?_
          · unfold fuM aM aX
            exact eqK.I (by decide) (eqK.L (by decide) (eqK.L (by decide) (eqK.L (by decide) (eqK.L (by decide) (eqK.L (by decide) (eqK.I (by decide) (eqK.I (by decide) (eqK.L (by decide) (eqK.L (by decide) (eqK.L (by decide) (eqK.L (by decide) (eqK.L (by decide) (eqK.I (by decide) eqK.rf)))))))))))))
          · intro f hf'; simp [fuM, aM, aX, gL1, gI1, hf']
          · intro f hf'; simp [fuM, aM, aX, gL1, gI1, hf']
          · funext i f; simp [fuM, aM, aX, gL2, gI2]
          · funext i f; simp [fuM, aM, aX, gL1, gI1]
          · intro i f; simp only [fuM, aM, aX, gL2, gI2]; by_cases y1 : i = q <;> by_cases y2 : f = 10 <;> by_cases y3 : f = 6 <;> simp_all
          · intro i; simp only [fuM, aM, aX, gL2, gI2]; by_cases y1 : i = q <;> simp_all
          · intro i; simp only [fuM, aM, aX, gL2, gI2]; by_cases y1 : i = q <;> simp_all
          · intro i f; simp only [fuM, aM, aX, gL1, gI1]; by_cases y1 : i = j <;> by_cases y2 : f = 6 <;> simp_all
          · intro i f; simp only [fuM, aM, aX, gL2, gI2]; by_cases y1 : i = j <;> by_cases y2 : f = 7 <;> simp_all
          · funext i; simp only [fuM, aM, aX, gL1, gI1, upd]; by_cases y1 : i = j <;> simp_all
          · intro i; simp only [fuM, aM, aX, gL2, gI2]; by_cases y1 : i = j <;> simp_all
          · refine ⟨by simp [fuM, aM, aX, gL1, gI1], by simp [fuM, aM, aX, gL1, gI1], by omega, fun i hi => ?_⟩
            simp only [fuM, aM, aX, gL2, gI2]
            by_cases e : i = nS
            · subst e; simp
            · have := hSt.2.2.2 i (by omega)
              simp [e, this]
    · -- the key doesn't open it
      unfold wp_X_fulfil
      refine tn_ok hSc.2.1.1 hRf.2.2.2.1 b2 hj g1 ⟨nofun, fun j' e => ?_⟩
      cases e
      refine ⟨fun _ => ?_, fun z => absurd (g8.trans h0) z⟩
      unfold wp_X_lockOf
      have hl' : ¬ lg_cmp (((key * key) + (41 : Int64)) ^^^ (oush ((key * key) + (41 : Int64)) (7 : Int32))) (S.2.1 52 j 5) = 0 := by rw [g7]; exact hl
      refine ⟨fun z => absurd z hl', fun _ => ?_⟩
      unfold wp_M_fulfil
      refine it_ok hSc.2.1.2 b2 hj ⟨fun _ => ⟨0, hf 29 (by decide) (by decide) (by decide) (by decide) (by decide), hv, ?_⟩, fun q => absurd q (by decide)⟩
      rw [cl8 (by omega)]
      refine ⟨fun _ => ?_, fun z => absurd h0 z⟩
      unfold wp_M_lock
      exact ⟨0, hf 28 (by decide) (by decide) (by decide) (by decide) (by decide), hv, fun z => absurd z hl, fun _ => fin.ok hKS⟩
  · unfold wp_X_fulfil wp_M_fulfil
    refine tn_ok hSc.2.1.1 hRf.2.2.2.1 b2 hj g1 ⟨nofun, fun j' e => ?_⟩
    cases e
    refine ⟨fun z => absurd (g8.symm.trans z) h0, fun _ => it_ok hSc.2.1.2 b2 hj ⟨fun _ => ⟨0, hf 29 (by decide) (by decide) (by decide) (by decide) (by decide), hv, ?_⟩, fun q => absurd q (by decide)⟩⟩
    rw [cl8 (by omega)]
    exact ⟨fun z => absurd z h0, fun _ => fin.ok hKS⟩
