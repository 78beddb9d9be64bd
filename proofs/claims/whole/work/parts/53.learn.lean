abbrev kNR : List Nat := [40, 41, 48, 49, 50, 51, 5, 6, 7, 8, 9, 10, 11, 12, 13, 14, 15, 16, 17, 43, 52, 23, 24, 25, 26, 27, 28, 29, 30, 44, 32]
/-- behind a call that has changed routes alone -/
theorem Inv4.rts {S T : oSt} {cn : Nat → Nat} {t nA nT nS nR nR' : Nat} (I : Inv4 S cn t nA nT nS nR) (ht : t + 1 ≤ 600) (e : eqK kNR S T) (x0 : ∀ f, f ≠ 18 → T.1 0 0 f = S.1 0 0 f) (hr : T.2.2 = S.2.2) (hR : iRt T nA nR') : Inv4 T cn (t + 1) nA nT nS nR' := by
  obtain ⟨⟨b1, b2, b3⟩, hcn, hRf, hSc, hA, hZ, hT, hSt, hRt⟩ := I
  refine ⟨⟨b1, b2, ht⟩, hcn, ?_, ?_, fun a ha => ((hA a ha).up (by omega)).fr (e.sub (by decide)), fun a h1 h2 => (hZ a h1 h2).fr (e.sub (by decide)), fun j hj => (hT j hj).fr (e.sub (by decide)), ?_, hR⟩
  · unfold iRf; rw [hr]; exact hRf
  · have g := hSc.up (t' := t + 1) (by omega)
    unfold iSc at g ⊢
    rw [(e 40 (by decide)).1, (e 40 (by decide)).2.1, x0 4 (by decide), x0 22 (by decide), x0 0 (by decide), x0 1 (by decide), x0 3 (by decide), x0 2 (by decide)]
    exact g
  · exact hSt.fr2 (e.sub (by decide)) (by rw [(e 40 (by decide)).1]) (x0 31 (by decide))
theorem X_enter {S : oSt} {n : Nat} {a h : Int32} {x : Int64} {post : Int32 → oSt → Prop} (hn : n ≤ 40) (hc : S.1 42 0 3 = nI n) (r0 : S.2.2 42 0 0 = some 0) (r1 : S.2.2 42 0 1 = some 0) (r2 : S.2.2 42 0 2 = some 0) (h1 : ∀ i, i < n → hit (S.1 45 0) (S.2.1 46 0) a x i → post 1 (sI S 47 0 i h)) (h2 : (∀ i, i < n → ¬ hit (S.1 45 0) (S.2.1 46 0) a x i) → n < 40 → post 1 (sI (sI (sL (sI S 45 0 n a) 46 0 n x) 47 0 n h) 42 0 3 (nI (n + 1)))) (h3 : (∀ i, i < n → ¬ hit (S.1 45 0) (S.2.1 46 0) a x i) → n = 40 → post 0 S) : wp_R_enter S a x h post := by
  have hm1 : ∀ i, i < 40 → ¬ nI i = (-1 : Int32) := fun i hi z => nI_pos (n := i) (by omega) (by rw [z]; decide)
  unfold wp_R_enter
  refine X_placeOf hn hc r0 r1 (fun i hi hh => ⟨fun z => absurd z (hm1 i (by omega)), fun _ => ⟨0, r2, vp_in_nI (by omega) (by decide), ?_⟩⟩) (fun hh => ⟨fun _ => ?_, fun z => absurd rfl z⟩)
  · rw [cl8 (by omega)]
    rintro S11 rfl
    exact h1 i hi hh
  · rw [hc]
    refine ⟨fun z => ⟨0, r0, ?_⟩, fun z => ?_⟩
    · rw [show (40 : Int32) = nI 40 from rfl, nI_ltI (by omega) (by decide)] at z
      have hv : vp_in (nI n) 40 := vp_in_nI z (by decide)
      refine ⟨hv, ?_⟩
      rw [cl8 (by omega)]
      rintro S4 rfl
      refine ⟨0, r1, ?_⟩
      have e1 : (sI S 45 0 n a).1 42 0 3 = nI n := by simpa [gI1] using hc
      rw [e1]
      refine ⟨hv, ?_⟩
      rw [cl8 (by omega)]
      rintro S6 rfl
      refine ⟨0, r2, ?_⟩
      have e2 : (sL (sI S 45 0 n a) 46 0 n x).1 42 0 3 = nI n := e1
      rw [e2]
      refine ⟨hv, ?_⟩
      rw [cl8 (by omega)]
      rintro S8 rfl S9 rfl
      have e3 : (sI (sL (sI S 45 0 n a) 46 0 n x) 47 0 n h).1 42 0 3 + 1 = nI (n + 1) := by
        have : (sI (sL (sI S 45 0 n a) 46 0 n x) 47 0 n h).1 42 0 3 = nI n := by simpa [gI1, gL1] using hc
        rw [this, nI_1]
      rw [e3]
      exact h2 hh z
    · rw [show (40 : Int32) = nI 40 from rfl, nI_ltI (by omega) (by decide)] at z
      exact h3 hh (by omega)
theorem M_learn_J {T : oSt} {n : Nat} {a h : Int32} {x : Int64} {post : Int32 → oSt → Prop} (hn : n ≤ 40) (hc : T.1 0 0 18 = nI n) (hf : ∀ f, 5 ≤ f → f ≤ 32 → f ≠ 18 → f ≠ 22 → f ≠ 31 → T.2.2 0 0 f = some 0) : (∀ i, i < 40 → post 1 (sI (sL (sI T 19 0 i a) 20 0 i x) 21 0 i h) → wp_M_learn_J54 post a x h (nI i) T) ∧ (n < 40 → post 1 (sI (sL (sI (sI T 0 0 18 (nI (n + 1))) 19 0 n a) 20 0 n x) 21 0 n h) → wp_M_learn_J54 post a x h (-1) T) := by
  refine ⟨fun i hi hp => ?_, fun hlt hp => ?_⟩
  · have hv : vp_in (nI i) 40 := vp_in_nI hi (by decide)
    unfold wp_M_learn_J54
    refine ⟨fun _ => ⟨0, hf 19 (by decide) (by decide) (by decide) (by decide) (by decide), hv, ?_⟩, fun z => absurd (nI_pos' (by omega)) z⟩
    rw [cl8 (by omega)]
    rintro S8 rfl
    refine ⟨0, hf 20 (by decide) (by decide) (by decide) (by decide) (by decide), hv, ?_⟩
    rintro S10 rfl
    refine ⟨0, hf 21 (by decide) (by decide) (by decide) (by decide) (by decide), hv, ?_⟩
    rintro S12 rfl
    exact hp
  · have hv : vp_in (nI n) 40 := vp_in_nI hlt (by decide)
    unfold wp_M_learn_J54
    rw [hc, nI_1]
    refine ⟨fun z => absurd z (by decide), fun _ => ?_⟩
    rintro S13 rfl
    refine ⟨0, hf 19 (by decide) (by decide) (by decide) (by decide) (by decide), hv, ?_⟩
    rw [cl8 (by omega)]
    rintro S15 rfl
    refine ⟨0, hf 20 (by decide) (by decide) (by decide) (by decide) (by decide), hv, ?_⟩
    rintro S17 rfl
    refine ⟨0, hf 21 (by decide) (by decide) (by decide) (by decide) (by decide), hv, ?_⟩
    rintro S19 rfl
    exact hp
theorem sIs {S : oSt} {k i : Nat} {f : Nat} {v : Int32} : (sI S k i f v).1 k i = upd (S.1 k i) f v := sI_self
theorem sLs {S : oSt} {k i : Nat} {f : Nat} {v : Int64} : (sL S k i f v).2.1 k i = vp_updL (S.2.1 k i) f v := sL_self
set_option maxHeartbeats 4000000 in
theorem sim_learn {S : oSt} {cn : Nat → Nat} {t nA nT nS nR : Nat} (I : Inv4 S cn t nA nT nS nR) (ht : t + 1 ≤ 600) (a : Int32) (x : Int64) (h : Int32) {K : oSt → Prop} (hK : ∀ T nR', Inv4 T cn (t + 1) nA nT nS nR' → K T) : wp_X_learn S a x h (fun r S1 => wp_M_learn S1 a x h (fun r' S2 => fin K r r' S2)) := by
  have I0 := I
  have hKS := hK S nR (I0.up ht)
  obtain ⟨⟨b1, b2, b3⟩, hcn, hRf, hSc, hA, hZ, hT, hSt, hRt⟩ := I
  have hf := hRf.1
  unfold wp_X_learn wp_M_learn
  rcases ix_cases a (n := nA) (by omega) with hb | ⟨j, hj, rfl⟩
  · exact an_bad hSc.1.1 hb ⟨fun _ => ia_bad hSc.1.2 hb ⟨fun _ => fin.ok hKS, fun q => absurd rfl q⟩, nofun⟩
  refine an_ok hSc.1.1 hRf.2.1 b1 hj (hA j hj).1.1 ⟨nofun, fun j' e => ?_⟩
  cases e
  have hvl := vlen_le (x := x)
  have hm1 : ∀ i, i < 1000 → ¬ nI i = (-1 : Int32) := fun i hi z => nI_pos (n := i) (by omega) (by rw [z]; decide)
  refine X_letterCount (fun hp => ⟨fun z => absurd z (hm1 _ (by omega)), fun _ => ?_⟩) (fun hp => ⟨fun _ => ?_, fun z => absurd rfl z⟩)
  rotate_left
  · exact ia_ok hSc.1.2 b1 hj ⟨fun q => absurd q (by decide), fun _ => M_lengthOf (fun z => absurd z hp) (fun _ => ⟨fun _ => fin.ok hKS, fun z => absurd (by decide) z⟩)⟩
  by_cases h1 : h < 1
  · exact pw_out (Or.inl h1) ⟨fun q => absurd rfl q, fun _ => ia_ok hSc.1.2 b1 hj ⟨fun q => absurd q (by decide), fun _ => M_lengthOf (fun _ => ⟨fun _ => fin.ok hKS, fun _ => ⟨fun _ => fin.ok hKS, fun q => absurd h1 q⟩⟩) (fun z => absurd hp z)⟩⟩
  by_cases h2 : (15 : Int32) < h
  · exact pw_out (Or.inr h2) ⟨fun q => absurd rfl q, fun _ => ia_ok hSc.1.2 b1 hj ⟨fun q => absurd q (by decide), fun _ => M_lengthOf (fun _ => ⟨fun _ => fin.ok hKS, fun _ => ⟨fun q => absurd q h1, fun _ => ⟨fun q => absurd h2 (Int32.not_lt.mpr q), fun _ => fin.ok hKS⟩⟩⟩) (fun z => absurd hp z)⟩⟩
  obtain ⟨d1, d2, d3, d4, d5, d6, d7⟩ := hRt
  refine pw_in h1 h2 ⟨fun _ => ⟨0, hRf.2.2.1, rfl, ?_⟩, fun q => absurd q (by decide)⟩
  have hHit := hit_iff d6 (nI j) x
  -- the reference, from any state that holds its own columns
  have hM : ∀ (r : Int32) (T : oSt), eqK [0, 19, 20, 21] S T → (∀ i, i < nR → hit (S.1 19 0) (S.2.1 20 0) (nI j) x i → r = 1 ∧ K (sI (sL (sI T 19 0 i (nI j)) 20 0 i x) 21 0 i h)) → ((∀ i, i < nR → ¬ hit (S.1 19 0) (S.2.1 20 0) (nI j) x i) → (nR < 40 → r = 1 ∧ K (sI (sL (sI (sI T 0 0 18 (nI (nR + 1))) 19 0 nR (nI j)) 20 0 nR x) 21 0 nR h)) ∧ (nR = 40 → r = 0 ∧ K T)) → wp_M_isAccount T (nI j) (fun r1 S2 => ((r1 = 0) → fin K r (0 : Int32) S2) ∧ ((¬ r1 = 0) → wp_M_lengthOf S2 (x) (fun r3 S4 => ((r3 < 0) → fin K r (0 : Int32) S4) ∧ ((¬ r3 < 0) → ((h < (1 : Int32)) → fin K r (0 : Int32) S4) ∧ ((¬ h < (1 : Int32)) → ((h ≤ (15 : Int32)) → wp_M_find S4 (nI j) (x) (fun r5 S6 => ((0 ≤ r5) → wp_M_learn_J54 (fun r' S2 => fin K r r' S2) (nI j) (x) (h) (r5) S6) ∧ ((¬ 0 ≤ r5) → ((¬ (S6.1 0 0 18) = (40 : Int32)) → wp_M_learn_J54 (fun r' S2 => fin K r r' S2) (nI j) (x) (h) (r5) S6) ∧ (((S6.1 0 0 18) = (40 : Int32)) → fin K r (0 : Int32) S6)))) ∧ ((¬ h ≤ (15 : Int32)) → fin K r (0 : Int32) S4)))))) := by
    intro r T eT k1 k2
    have e0 := eT 0 (by decide)
    have e19 := (eT 19 (by decide)).1
    have e20 := (eT 20 (by decide)).2.1
    have tf : ∀ f, 5 ≤ f → f ≤ 32 → f ≠ 18 → f ≠ 22 → f ≠ 31 → T.2.2 0 0 f = some 0 := by rw [e0.2.2]; exact hf
    have t18 : T.1 0 0 18 = nI nR := by rw [e0.1]; exact d3
    refine ia_ok (nA := nA) (by rw [e0.1]; exact hSc.1.2) b1 hj ⟨fun q => absurd q (by decide), fun _ => M_lengthOf (fun _ => ⟨fun z => absurd z (nI_pos (by omega)), fun _ => ⟨fun q => absurd q h1, fun _ => ⟨fun _ => ?_, fun q => absurd (Int32.not_lt.mp h2) q⟩⟩⟩) (fun z => absurd hp z)⟩
    refine M_find d1 t18 tf (fun i hi hh => ?_) (fun hh => ?_)
    · rw [e19, e20] at hh
      obtain ⟨rfl, hk⟩ := k1 i hi hh
      refine ⟨fun _ => (M_learn_J d1 t18 tf).1 i (by omega) (fin.ok hk), fun z => absurd (nI_pos' (by omega)) z⟩
    · rw [e19, e20] at hh
      obtain ⟨q1, q2⟩ := k2 hh
      rw [t18]
      refine ⟨fun z => absurd z (by decide), fun _ => ⟨fun z => ?_, fun z => ?_⟩⟩
      · have hlt : nR < 40 := by
          refine Nat.lt_of_le_of_ne d1 (fun y => z (by rw [y]; rfl))
        obtain ⟨rfl, hk⟩ := q1 hlt
        exact (M_learn_J d1 t18 tf).2 hlt (fin.ok hk)
      · have e40 : nR = 40 := (nI_eq (by omega) (by decide)).mp (show nI nR = nI 40 from z)
        obtain ⟨rfl, hk⟩ := q2 e40
        exact fin.ok hk
  have hnar : narrow .boolean (.int 1) = .int 1 := by decide
  have hnar0 : narrow .boolean (.int 0) = .int 0 := by decide
  refine X_enter d1 d2 hRf.2.2.2.2.2.1 hRf.2.2.2.2.2.2.1 hRf.2.2.2.2.2.2.2 (fun i hi hh => ⟨hnar, ?_⟩) (fun hh hlt => ⟨hnar, ?_⟩) (fun hh e40 => ⟨hnar0, ?_⟩)
  · -- the route is known: its hops change
    refine hM 1 _ (eqK.I (by decide) eqK.rf) (fun i' hi' hh' => ⟨rfl, hK _ nR (I0.rts ht ?_ ?_ rfl ?_)⟩) (fun z => absurd (hHit.mp ⟨i, hi, hh⟩) (fun ⟨q, hq, hq2⟩ => z q hq hq2))
    · exact eqK.I (by decide) (eqK.L (by decide) (eqK.I (by decide) (eqK.I (by decide) eqK.rf)))
    · intro f _; simp [gI1, gL1]
    · have o19 : upd (S.1 19 0) i' (nI j) = S.1 19 0 := by
        funext q
        by_cases e : q = i'
        · subst e; rw [pk_us]; exact hh'.1.symm
        · rw [pk_un e]
      have o20 : vp_updL (S.2.1 20 0) i' x = S.2.1 20 0 := by
        funext q
        by_cases e : q = i'
        · subst e; rw [pk_uLs]; exact hh'.2.symm
        · rw [pk_uLn e]
      generalize hU : sI (sL (sI (sI S 47 0 i h) 19 0 i' (nI j)) 20 0 i' x) 21 0 i' h = U
      have u42 : U.1 42 0 3 = nI nR := by subst hU; simpa [gI1, gL1] using d2
      have u18 : U.1 0 0 18 = nI nR := by subst hU; simpa [gI1, gL1] using d3
      have u45 : U.1 45 0 = S.1 45 0 := by subst hU; funext d; simp [gI1, gL1]
      have u46 : U.2.1 46 0 = S.2.1 46 0 := by subst hU; funext d; simp [gI2, gL2]
      have u47 : U.1 47 0 = upd (S.1 47 0) i h := by subst hU; funext d; simp [gI1, gL1, upd]
      have u19 : U.1 19 0 = S.1 19 0 := by
        rw [← o19]; subst hU; funext d; simp [gI1, gL1, upd]
      have u20 : U.2.1 20 0 = S.2.1 20 0 := by
        rw [← o20]; subst hU; funext d; simp [gI2, gL2, vp_updL]
      have u21 : U.1 21 0 = upd (S.1 21 0) i' h := by subst hU; funext d; simp [gI1, gL1, upd]
      refine ⟨d1, u42, u18, by rw [u45, u46]; exact d4, by rw [u19, u20]; exact d5, fun y => ?_, fun q hq => by rw [u19, u20]; exact d7 q hq⟩
      rw [u45, u46, u47, u19, u20, u21, rT_set d4 hi, rT_set d5 hi', d6, hh.1, hh.2, hh'.1, hh'.2]
  · -- a new route
    refine hM 1 _ (eqK.I (by decide) (eqK.I (by decide) (eqK.L (by decide) (eqK.I (by decide) eqK.rf)))) (fun i' hi' hh' => absurd (hHit.mpr ⟨i', hi', hh'⟩) (fun ⟨q, hq, hq2⟩ => hh q hq hq2)) (fun hh' => ⟨fun _ => ⟨rfl, hK _ (nR + 1) (I0.rts ht ?_ ?_ rfl ?_)⟩, fun z => absurd z (by omega)⟩)
    · exact eqK.I (by decide) (eqK.L (by decide) (eqK.I (by decide) (eqK.I (by decide) (eqK.I (by decide) (eqK.I (by decide) (eqK.L (by decide) (eqK.I (by decide) eqK.rf)))))))
    · intro f hf'; simp [gI1, gL1, hf']
    · generalize hU : sI (sL (sI (sI (sI (sI (sL (sI S 45 0 nR (nI j)) 46 0 nR x) 47 0 nR h) 42 0 3 (nI (nR + 1))) 0 0 18 (nI (nR + 1))) 19 0 nR (nI j)) 20 0 nR x) 21 0 nR h = U
      have u42 : U.1 42 0 3 = nI (nR + 1) := by subst hU; simp [gI1, gL1]
      have u18 : U.1 0 0 18 = nI (nR + 1) := by subst hU; simp [gI1, gL1]
      have u45 : U.1 45 0 = upd (S.1 45 0) nR (nI j) := by subst hU; funext d; simp [gI1, gL1, upd]
      have u46 : U.2.1 46 0 = vp_updL (S.2.1 46 0) nR x := by subst hU; funext d; simp [gI2, gL2, vp_updL]
      have u47 : U.1 47 0 = upd (S.1 47 0) nR h := by subst hU; funext d; simp [gI1, gL1, upd]
      have u19 : U.1 19 0 = upd (S.1 19 0) nR (nI j) := by subst hU; funext d; simp [gI1, gL1, upd]
      have u20 : U.2.1 20 0 = vp_updL (S.2.1 20 0) nR x := by subst hU; funext d; simp [gI2, gL2, vp_updL]
      have u21 : U.1 21 0 = upd (S.1 21 0) nR h := by subst hU; funext d; simp [gI1, gL1, upd]
      refine ⟨by omega, u42, u18, by rw [u45, u46]; exact rU_app d4 hh, by rw [u19, u20]; exact rU_app d5 hh', fun y => ?_, fun q hq => ?_⟩
      · rw [u45, u46, u47, u19, u20, u21, rT_app, rT_app, d6]
      · rw [u19, u20]
        by_cases e : q = nR
        · subst e; rw [pk_us, pk_uLs]; exact ⟨hp, j, hj, rfl⟩
        · rw [pk_un e, pk_uLn e]; exact d7 q (by omega)
  · -- no room
    exact hM 0 S eqK.rf (fun i' hi' hh' => absurd (hHit.mpr ⟨i', hi', hh'⟩) (fun ⟨q, hq, hq2⟩ => hh q hq hq2)) (fun hh' => ⟨fun z => absurd z (by omega), fun _ => ⟨rfl, hKS⟩⟩)
