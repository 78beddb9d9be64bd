set_option maxHeartbeats 16000000 in
theorem Inv4.keptT {S : oSt} {cn : Nat → Nat} {t nA nT nS nR j o : Nat} {v out : Int32} {lk : Int64} (I : Inv4 S cn t nA nT nS nR) (ht : t + 1 ≤ 600) (hj : j < nA) (ho : o < nA) (hT' : nT < 120) : Inv4 (mkM S (mkX S j o nT v out lk) j o nT v out lk) (oup cn 52) (t + 1) nA (nT + 1) nS nR := by
  obtain ⟨⟨b1, b2, b3⟩, hcn, hRf, hSc, hA, hZ, hT, hSt, hRt⟩ := I
  generalize hU : mkM S (mkX S j o nT v out lk) j o nT v out lk = U
  have eU : eqK [41, 50, 51, 6, 7, 8, 9, 10, 11, 12, 13, 14, 16, 17, 44, 32, 42, 45, 46, 47, 19, 20, 21] S U := by
    subst hU
    unfold mkM mkX
    exact eqK.I (by decide) (eqK.I (by decide) (eqK.L (by decide) (eqK.I (by decide) (eqK.L (by decide) (eqK.I (by decide) (eqK.I (by decide) (eqK.I (by decide) (eqK.L (by decide) (eqK.I (by decide) (eqK.I (by decide) (eqK.R (by decide) (eqK.L (by decide) (eqK.L (by decide) (eqK.L (by decide) (eqK.I (by decide) (eqK.R (by decide) (eqK.R (by decide) (eqK.L (by decide) (eqK.I (by decide) (eqK.N (by decide) (eqK.L (by decide) (eqK.I (by decide) eqK.rf))))))))))))))))))))))
  have x0 : ∀ f, U.1 0 0 f = if f = 22 then nI (nT + 1) else S.1 0 0 f := by intro f; subst hU; simp [mkM, mkX, gI1, gL1, gR1, gN1]
  have x40 : ∀ f, U.1 40 0 f = if f = 7 then nI (nT + 1) else S.1 40 0 f := by intro f; subst hU; simp [mkM, mkX, gI1, gL1, gR1, gN1]
  have l40 : U.2.1 40 = S.2.1 40 := by funext a b; subst hU; simp [mkM, mkX, gI2, gL2, gR2, gN2]
  have r0 : U.2.2 0 = S.2.2 0 := by funext a b; subst hU; simp [mkM, mkX, gI3, gL3, gR3, gN3]
  have r40 : U.2.2 40 = S.2.2 40 := by funext a b; subst hU; simp [mkM, mkX, gI3, gL3, gR3, gN3]
  have i48 : U.1 48 = S.1 48 := by funext a b; subst hU; simp [mkM, mkX, gI1, gL1, gR1, gN1]
  have r48 : U.2.2 48 = S.2.2 48 := by funext a b; subst hU; simp [mkM, mkX, gI3, gL3, gR3, gN3]
  have l48 : ∀ a f, U.2.1 48 a f = if a = j ∧ f = 6 then S.2.1 5 0 j - v.toInt64 else S.2.1 48 a f := by intro a f; subst hU; simp [mkM, mkX, gI2, gL2, gR2, gN2]
  have l5 : ∀ a, U.2.1 5 0 a = if a = j then S.2.1 5 0 j - v.toInt64 else S.2.1 5 0 a := by intro a; subst hU; simp [mkM, mkX, gI2, gL2, gR2, gN2]
  have i49 : ∀ a f, U.1 49 a f = if a = j ∧ f = 2 then S.1 15 0 j - 100 else S.1 49 a f := by intro a f; subst hU; simp [mkM, mkX, gI1, gL1, gR1, gN1]
  have i15 : ∀ a, U.1 15 0 a = if a = j then S.1 15 0 j - 100 else S.1 15 0 a := by intro a; subst hU; simp [mkM, mkX, gI1, gL1, gR1, gN1]
  have r43 : ∀ a, U.2.2 43 0 a = if a = nT then some nT else S.2.2 43 0 a := by intro a; subst hU; simp [mkM, mkX, gI3, gL3, gR3, gN3]
  have i23 : ∀ a, U.1 23 0 a = if a = nT then nI j else S.1 23 0 a := by intro a; subst hU; simp [mkM, mkX, gI1, gL1, gR1, gN1]
  have i24 : ∀ a, U.1 24 0 a = if a = nT then nI o else S.1 24 0 a := by intro a; subst hU; simp [mkM, mkX, gI1, gL1, gR1, gN1]
  have i25 : ∀ a, U.1 25 0 a = if a = nT then v else S.1 25 0 a := by intro a; subst hU; simp [mkM, mkX, gI1, gL1, gR1, gN1]
  have l26 : ∀ a, U.2.1 26 0 a = if a = nT then cvt S j o v else S.2.1 26 0 a := by intro a; subst hU; simp [mkM, mkX, gI2, gL2, gR2, gN2]
  have i27 : ∀ a, U.1 27 0 a = if a = nT then out else S.1 27 0 a := by intro a; subst hU; simp [mkM, mkX, gI1, gL1, gR1, gN1]
  have l28 : ∀ a, U.2.1 28 0 a = if a = nT then lk else S.2.1 28 0 a := by intro a; subst hU; simp [mkM, mkX, gI2, gL2, gR2, gN2]
  have i29 : ∀ a, U.1 29 0 a = if a = nT then 0 else S.1 29 0 a := by intro a; subst hU; simp [mkM, mkX, gI1, gL1, gR1, gN1]
  have l30 : U.2.1 30 0 = S.2.1 30 0 := by funext a; subst hU; simp [mkM, mkX, gI2, gL2, gR2, gN2]
  have o52 : ∀ a, a ≠ nT → U.1 52 a = S.1 52 a ∧ U.2.1 52 a = S.2.1 52 a ∧ U.2.2 52 a = S.2.2 52 a := by
    intro a ha
    refine ⟨?_, ?_, ?_⟩ <;> funext f <;> subst hU <;> simp [mkM, mkX, gI1, gL1, gR1, gN1, gI2, gL2, gR2, gN2, gI3, gL3, gR3, gN3, ha]
  have n52 : U.1 52 nT 2 = v ∧ U.1 52 nT 6 = 0 ∧ U.2.1 52 nT 3 = cvt S j o v ∧ U.2.1 52 nT 4 = out.toInt64 ∧ U.2.1 52 nT 5 = lk ∧ U.2.1 52 nT 7 = 0 ∧ U.2.2 52 nT 0 = some j ∧ U.2.2 52 nT 1 = some o := by
    subst hU; simp [mkM, mkX, gI1, gL1, gR1, gN1, gI2, gL2, gR2, gN2, gI3, gL3, gR3, gN3]
  refine ⟨⟨b1, by omega, ht⟩, ?_, ?_, ?_, ?_, ?_, ?_, ?_, ?_⟩
  · obtain ⟨c1, c2, c3, c4, c5⟩ := hcn
    exact ⟨by simpa [oup] using c1, by simpa [oup] using c2, by simpa [oup] using c3, by simpa [oup] using c4, by simp [oup, c5]⟩
  · unfold iRf; rw [r0, r40, (eU 42 (by decide)).2.2]; exact hRf
  · have q := hSc.up (t' := t + 1) (by omega)
    obtain ⟨q1, q2, q3, q4, q5, q6⟩ := q
    refine ⟨by simpa [x0, x40] using q1, by simp [x0, x40], by simpa [x0, x40] using q3, by simpa [x0, x40] using q4, by simpa [x0, x40] using q5, by simpa [x0, l40] using q6⟩
  · intro a ha
    have q := (hA a ha).up (t' := t + 1) (by omega)
    unfold iA at q ⊢
    rw [(eU 41 (by decide)).2.2, r48, (eU 50 (by decide)).2.2, i48, (eU 6 (by decide)).1, (eU 7 (by decide)).1, (eU 8 (by decide)).1, l48, l5, (eU 9 (by decide)).1, (eU 10 (by decide)).1, (eU 11 (by decide)).1, l48, (eU 12 (by decide)).2.1, i49, i49, i49, (eU 13 (by decide)).1, (eU 14 (by decide)).1, i15, (eU 17 (by decide)).1, (eU 50 (by decide)).1, (eU 51 (by decide)).1, (eU 16 (by decide)).1]
    by_cases e : a = j
    · subst e
      obtain ⟨g1, g2, g3, g4, g5, g6, g7, g8, g9⟩ := q
      exact ⟨g1, g2, by simp, g4, g5, g6, by simpa using g7, ⟨by simpa using g8.1, by simpa using g8.2.1, by simp⟩, g9⟩
    · simpa [e] using q
  · intro a h1 h2
    have q := hZ a h1 h2
    have e : a ≠ j := by omega
    unfold iZ at q ⊢
    rw [l5, (eU 10 (by decide)).1, (eU 11 (by decide)).1, (eU 12 (by decide)).2.1, (eU 17 (by decide)).1]
    simpa [e] using q
  · intro i hi
    unfold iT
    rw [r43, i23, i24, i25, l26, i27, l28, i29, l30]
    by_cases e : i = nT
    · subst e
      obtain ⟨m1, m2, m3, m4, m5, m6, m7, m8⟩ := n52
      simp only [if_true]
      exact ⟨trivial, ⟨j, hj, m7, rfl⟩, ⟨o, ho, m8, rfl⟩, m1, m3, m4, m5, m2, by rw [m6]; rfl⟩
    · have q := hT i (by omega)
      obtain ⟨p1, p2, p3⟩ := o52 i e
      rw [p1, p2, p3]
      simp only [if_neg e]
      exact q
  · obtain ⟨g1, g2, g3, g4⟩ := hSt
    refine ⟨by simpa [x40] using g1, by simpa [x0] using g2, ?_, fun i hi => by rw [(eU 44 (by decide)).2.1, (eU 32 (by decide)).2.1]; exact g4 i hi⟩
    have e1 : cF (U.1 29 0) (nT + 1) = cF (S.1 29 0) nT := by
      have e2 : cF (U.1 29 0) nT = cF (S.1 29 0) nT := cF_eq (fun i hi => by rw [i29, if_neg (by omega)])
      show cF (U.1 29 0) nT + (if U.1 29 0 nT = 1 then 1 else 0) = _
      rw [e2, i29, if_pos rfl, if_neg (by decide)]
      rfl
    rw [e1]; exact g3
  · exact hRt.fr2 (eU.sub (by decide)) (by rw [(eU 42 (by decide)).1]) (by simp [x0])
set_option maxHeartbeats 8000000 in
theorem sim_prepare {S : oSt} {cn : Nat → Nat} {t nA nT nS nR : Nat} (I : Inv4 S cn t nA nT nS nR) (ht : t + 1 ≤ 600) (a : Int32) (x : Int64) (v u : Int32) (lk : Int64) {K : (Nat → Nat) → oSt → Prop} (hK : ∀ cn' T nT', Inv4 T cn' (t + 1) nA nT' nS nR → K cn' T) : wp_X_prepare cn S a x v u lk (fun r cn1 S1 => wp_M_prepare S1 a x v u lk (fun r' S2 => fin (K cn1) r r' S2)) := by
  have I0 := I
  have hKS := hK cn S nT (I0.up ht)
  obtain ⟨⟨b1, b2, b3⟩, hcn, hRf, hSc, hA, hZ, hT, hSt, hRt⟩ := I
  rcases ix_cases a (n := nA) (by omega) with hb | ⟨j, hj, rfl⟩
  · unfold wp_X_prepare wp_M_prepare
    exact an_bad hSc.1.1 hb ⟨fun _ => ia_bad hSc.1.2 hb ⟨fun q => absurd rfl q, fun _ => fin.ok hKS⟩, nofun⟩
  obtain ⟨r, hr⟩ := way_ex hRt x
  obtain ⟨s1, s2, ⟨g, g1, g2, g3, g4⟩, ⟨hd, h1, h2, h3, h4⟩, s5, w, hw, w1, w2⟩ := hSc
  have hw8 : w ≤ 100000000 := by omega
  have hdr : ∀ T, T = sI (sI S 49 j 2 (S.1 15 0 j - 100)) 15 0 j (S.1 15 0 j - 100) → K cn T := by
    rintro T rfl
    refine hK cn _ nT (I0.accs ht (eqK.I (by decide) (eqK.I (by decide) eqK.rf)) ?_ (fun a h1 h2 => (hZ a h1 h2).fr (eqK.I (by decide) (eqK.I (by decide) eqK.rf))))
    intro a ha
    have q := (hA a ha).up (t' := t + 1) (by omega)
    unfold iA at q ⊢
    by_cases e : a = j
    · subst e
      obtain ⟨g1, g2, g3, g4, g5, g6, g7, g8, g9⟩ := q
      exact ⟨by simpa [gI1, gI3] using g1, by simpa [gI1] using g2, by simpa [gI2] using g3, by simpa [gI1] using g4, by simpa [gI1] using g5, by simpa [gI1] using g6, by simpa [gI2] using g7, ⟨by simpa [gI1] using g8.1, by simpa [gI1] using g8.2.1, by simp [gI1]⟩, by simpa [gI1] using g9⟩
    · simpa [gI1, gI2, gI3, e] using q
  refine X_prep (w := w) (g := g) (hd := hd) (r := r) I0 hj hw8 g2 h2 w2 g3 h3 hr (fun c hc hcs => ?_) (fun c hc hcs => ?_) (fun o hc ho hro hoj hT' => ?_)
  · refine M_prep (w := w) (g := g) (hd := hd) (r := r) I0 eqK.rf hj w1 g4 h4 hr (fun c' hc' _ => fin.eq (hc.symm.trans hc') hKS) (fun c' hc' hcs' => ?_) (fun o hc' _ _ _ => ?_)
    · exfalso
      have e := hc.symm.trans hc'
      subst e
      rcases hcs with rfl | rfl | rfl | rfl | rfl <;> revert hcs' <;> decide
    · exfalso
      have e := hc.symm.trans hc'
      subst e
      revert hcs; decide
  · refine M_prep (w := w) (g := g) (hd := hd) (r := r) I0 (eqK.I (by decide) eqK.rf) hj w1 g4 h4 hr (fun c' hc' hcs' => ?_) (fun c' hc' _ => fin.eq (hc.symm.trans hc') (hdr _ rfl)) (fun o hc' _ _ _ => ?_)
    · exfalso
      have e := hc.symm.trans hc'
      subst e
      rcases hcs with rfl | rfl | rfl | rfl <;> revert hcs' <;> decide
    · exfalso
      have e := hc.symm.trans hc'
      subst e
      revert hcs; decide
  · have eX : eqK kM S (mkX S j o nT v (outM w g hd u) lk) := by
      unfold mkX
      exact eqK.I (by decide) (eqK.R (by decide) (eqK.L (by decide) (eqK.L (by decide) (eqK.L (by decide) (eqK.I (by decide) (eqK.R (by decide) (eqK.R (by decide) (eqK.L (by decide) (eqK.I (by decide) (eqK.N (by decide) (eqK.L (by decide) (eqK.I (by decide) eqK.rf))))))))))))
    refine M_prep (w := w) (g := g) (hd := hd) (r := r) I0 eX hj w1 g4 h4 hr (fun c' hc' hcs' => ?_) (fun c' hc' hcs' => ?_) (fun o' hc' ho' hro' hoj' => ?_)
    · exfalso
      have e := hc.symm.trans hc'
      subst e
      revert hcs'; decide
    · exfalso
      have e := hc.symm.trans hc'
      subst e
      revert hcs'; decide
    · have e : o' = o := (nI_eq (by omega) (by omega)).mp (hro'.symm.trans hro)
      subst e
      exact fin.ok (hK _ _ _ (I0.keptT ht hj ho hT'))
