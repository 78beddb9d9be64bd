/-- the rows from i on, up to k, have moved down by one -/
def shf {α : Type} (f : Nat → α) (i k : Nat) : Nat → α := fun q => if i ≤ q ∧ q < k then f (q + 1) else f q
def shS (S : oSt) (i k : Nat) : oSt := cIa (cLa (cIa S 19 (shf (S.1 19 0) i k)) 20 (shf (S.2.1 20 0) i k)) 21 (shf (S.1 21 0) i k)
theorem shS0 {S : oSt} {i : Nat} : shS S i i = S := by
  have e : ∀ {α : Type} (f : Nat → α), shf f i i = f := by
    intro α f; funext q; unfold shf; rw [if_neg (by omega)]
  unfold shS
  rw [e, e, e]
  refine Prod.ext ?_ (Prod.ext ?_ rfl)
  · funext a b d
    simp only [cIa1, cLa1]
    split
    · next h => obtain ⟨rfl, rfl⟩ := h; rfl
    · split
      · next h => obtain ⟨rfl, rfl⟩ := h; rfl
      · rfl
  · funext a b d
    simp only [cIa2, cLa2]
    split
    · next h => obtain ⟨rfl, rfl⟩ := h; rfl
    · rfl
theorem shS_step {S : oSt} {i k : Nat} (hik : i ≤ k) : sI (sL (sI (shS S i k) 19 0 k (S.1 19 0 (k + 1))) 20 0 k (S.2.1 20 0 (k + 1))) 21 0 k (S.1 21 0 (k + 1)) = shS S i (k + 1) := by
  have e : ∀ {α : Type} (f : Nat → α) (d : Nat), (if d = k then f (k + 1) else shf f i k d) = shf f i (k + 1) d := by
    intro α f d
    unfold shf
    by_cases h : d = k
    · subst h; rw [if_pos rfl, if_pos ⟨hik, by omega⟩]
    · rw [if_neg h]
      by_cases h2 : i ≤ d ∧ d < k
      · rw [if_pos h2, if_pos ⟨h2.1, by omega⟩]
      · rw [if_neg h2, if_neg (fun z => h2 ⟨z.1, by omega⟩)]
  unfold shS
  refine Prod.ext ?_ (Prod.ext ?_ rfl)
  · funext a b d
    simp only [gI1, gL1, cIa1, cLa1, ← e]
    by_cases h1 : a = 19 <;> by_cases h2 : a = 21 <;> by_cases h3 : b = 0 <;> by_cases h4 : d = k <;> simp_all
  · funext a b d
    simp only [gI2, gL2, cIa2, cLa2, ← e]
    by_cases h1 : a = 20 <;> by_cases h3 : b = 0 <;> by_cases h4 : d = k <;> simp_all
theorem M_forget_L {S : oSt} {n i : Nat} {post : Int32 → oSt → Prop} (hn : n + 1 ≤ 40) (hc : S.1 0 0 18 = nI (n + 1)) (hf : ∀ f, 5 ≤ f → f ≤ 32 → f ≠ 18 → f ≠ 22 → f ≠ 31 → S.2.2 0 0 f = some 0) (h : post 1 (sI (shS S i n) 0 0 18 (nI n))) : ∀ m k, k + m = n → i ≤ k → wp_M_forget_L19 post (m + 1) (nI k) (shS S i k) := by
  intro m
  induction m with
  | zero =>
    intro k hk hik
    have e : k = n := by omega
    subst e
    unfold wp_M_forget_L19
    have hc' : (shS S i k).1 0 0 18 = nI (k + 1) := by simpa [shS, cIa1, cLa1] using hc
    rw [hc', nI_1]
    refine ⟨fun _ => ?_, fun q => absurd (nI_le (Nat.le_refl _) (by omega)) q⟩
    rintro S3 rfl
    rw [nI_pred]
    exact h
  | succ m ih =>
    intro k hk hik
    have ih' := ih (k + 1) (by omega) (by omega)
    unfold wp_M_forget_L19
    have hc' : (shS S i k).1 0 0 18 = nI (n + 1) := by simpa [shS, cIa1, cLa1] using hc
    have hv : vp_in (nI k) 40 := vp_in_nI (by omega) (by decide)
    have hv1 : vp_in (nI (k + 1)) 40 := vp_in_nI (by omega) (by decide)
    have r19 : (shS S i k).1 19 0 (k + 1) = S.1 19 0 (k + 1) := by
      have : shf (S.1 19 0) i k (k + 1) = S.1 19 0 (k + 1) := by unfold shf; rw [if_neg (by omega)]
      simpa [shS, cIa1, cLa1] using this
    have r20 : (sI (shS S i k) 19 0 k (S.1 19 0 (k + 1))).2.1 20 0 (k + 1) = S.2.1 20 0 (k + 1) := by
      have : shf (S.2.1 20 0) i k (k + 1) = S.2.1 20 0 (k + 1) := by unfold shf; rw [if_neg (by omega)]
      simpa [gI2, shS, cIa2, cLa2] using this
    have r21 : (sL (sI (shS S i k) 19 0 k (S.1 19 0 (k + 1))) 20 0 k (S.2.1 20 0 (k + 1))).1 21 0 (k + 1) = S.1 21 0 (k + 1) := by
      have : shf (S.1 21 0) i k (k + 1) = S.1 21 0 (k + 1) := by unfold shf; rw [if_neg (by omega)]
      simpa [gI1, gL1, shS, cIa1, cLa1] using this
    rw [hc', nI_1]
    refine ⟨fun q => absurd q (nI_ge (by omega) (by omega)), fun _ => ⟨0, hf 19 (by decide) (by decide) (by decide) (by decide) (by decide), 0, hf 19 (by decide) (by decide) (by decide) (by decide) (by decide), hv1, hv, ?_⟩⟩
    rw [cl8 (by omega), cl8 (by omega), r19]
    rintro S6 rfl
    refine ⟨0, hf 20 (by decide) (by decide) (by decide) (by decide) (by decide), 0, hf 20 (by decide) (by decide) (by decide) (by decide) (by decide), hv1, hv, ?_⟩
    rw [r20]
    rintro S9 rfl
    refine ⟨0, hf 21 (by decide) (by decide) (by decide) (by decide) (by decide), 0, hf 21 (by decide) (by decide) (by decide) (by decide) (by decide), hv1, hv, ?_⟩
    rw [r21]
    rintro S12 rfl
    rw [shS_step hik]
    exact ih'
theorem X_strike {S : oSt} {n : Nat} {a : Int32} {x : Int64} {post : Int32 → oSt → Prop} (hn : n ≤ 40) (hc : S.1 42 0 3 = nI n) (r0 : S.2.2 42 0 0 = some 0) (r1 : S.2.2 42 0 1 = some 0) (r2 : S.2.2 42 0 2 = some 0) (h1 : ∀ i m, n = m + 1 → i < n → hit (S.1 45 0) (S.2.1 46 0) a x i → post 1 (sI (sL (sI (sI S 42 0 3 (nI m)) 45 0 i (S.1 45 0 m)) 46 0 i (S.2.1 46 0 m)) 47 0 i (S.1 47 0 m))) (h0 : (∀ i, i < n → ¬ hit (S.1 45 0) (S.2.1 46 0) a x i) → post 0 S) : wp_R_strike S a x post := by
  have hm1 : ∀ i, i < 40 → ¬ nI i = (-1 : Int32) := fun i hi z => nI_pos (n := i) (by omega) (by rw [z]; decide)
  unfold wp_R_strike
  refine X_placeOf hn hc r0 r1 (fun i hi hh => ⟨fun _ => ?_, fun z => absurd z (hm1 i (by omega))⟩) (fun hh => ⟨fun z => absurd rfl z, fun _ => h0 hh⟩)
  obtain ⟨m, rfl⟩ : ∃ m, n = m + 1 := ⟨n - 1, by omega⟩
  have h := h1 i m rfl hi hh
  have hv : vp_in (nI i) 40 := vp_in_nI (by omega) (by decide)
  have hvm : vp_in (nI m) 40 := vp_in_nI (by omega) (by decide)
  rw [hc, nI_pred]
  rintro S3 rfl
  have e3 : (sI S 42 0 3 (nI m)).1 42 0 3 = nI m := by simp [gI1]
  refine ⟨0, r0, 0, r0, ?_⟩
  rw [e3]
  refine ⟨hvm, hv, ?_⟩
  rw [cl8 (by omega), cl8 (by omega)]
  have e45 : (sI S 42 0 3 (nI m)).1 45 0 m = S.1 45 0 m := by simp [gI1]
  rw [e45]
  rintro S6 rfl
  refine ⟨0, r1, 0, r1, ?_⟩
  have e6 : (sI (sI S 42 0 3 (nI m)) 45 0 i (S.1 45 0 m)).1 42 0 3 = nI m := by simp [gI1]
  rw [e6]
  refine ⟨hvm, hv, ?_⟩
  rw [cl8 (by omega)]
  rintro S9 rfl
  refine ⟨0, r2, 0, r2, ?_⟩
  have e9 : (sL (sI (sI S 42 0 3 (nI m)) 45 0 i (S.1 45 0 m)) 46 0 i ((sI (sI S 42 0 3 (nI m)) 45 0 i (S.1 45 0 m)).2.1 46 0 m)).1 42 0 3 = nI m := by simp [gI1, gL1]
  rw [e9]
  refine ⟨hvm, hv, ?_⟩
  rw [cl8 (by omega)]
  rintro S12 rfl
  have e47 : (sL (sI (sI S 42 0 3 (nI m)) 45 0 i (S.1 45 0 m)) 46 0 i ((sI (sI S 42 0 3 (nI m)) 45 0 i (S.1 45 0 m)).2.1 46 0 m)).1 47 0 m = S.1 47 0 m := by simp [gI1, gL1]
  rw [e47]
  exact h
set_option maxHeartbeats 4000000 in
theorem sim_forget {S : oSt} {cn : Nat → Nat} {t nA nT nS nR : Nat} (I : Inv4 S cn t nA nT nS nR) (ht : t + 1 ≤ 600) (a : Int32) (x : Int64) {K : oSt → Prop} (hK : ∀ T nR', Inv4 T cn (t + 1) nA nT nS nR' → K T) : wp_X_forget S a x (fun r S1 => wp_M_forget S1 a x (fun r' S2 => fin K r r' S2)) := by
  have I0 := I
  have hKS := hK S nR (I0.up ht)
  obtain ⟨⟨b1, b2, b3⟩, hcn, hRf, hSc, hA, hZ, hT, hSt, hRt⟩ := I
  have hf := hRf.1
  obtain ⟨d1, d2, d3, d4, d5, d6, d7⟩ := hRt
  have hHit := hit_iff d6 a x
  have hnar : narrow .boolean (.int 1) = .int 1 := by decide
  have hnar0 : narrow .boolean (.int 0) = .int 0 := by decide
  unfold wp_X_forget
  refine ⟨0, hRf.2.2.1, rfl, X_strike d1 d2 hRf.2.2.2.2.2.1 hRf.2.2.2.2.2.2.1 hRf.2.2.2.2.2.2.2 (fun i m hm hi hh => ⟨hnar, ?_⟩) (fun hh => ⟨hnar0, ?_⟩)⟩
  · subst hm
    generalize hT1 : sI (sL (sI (sI S 42 0 3 (nI m)) 45 0 i (S.1 45 0 m)) 46 0 i (S.2.1 46 0 m)) 47 0 i (S.1 47 0 m) = T1
    have eT : eqK [0, 19, 20, 21] S T1 := by
      subst hT1; exact eqK.I (by decide) (eqK.L (by decide) (eqK.I (by decide) (eqK.I (by decide) eqK.rf)))
    have e0 := eT 0 (by decide)
    have e19 := (eT 19 (by decide)).1
    have e20 := (eT 20 (by decide)).2.1
    have e21 := (eT 21 (by decide)).1
    have tf : ∀ f, 5 ≤ f → f ≤ 32 → f ≠ 18 → f ≠ 22 → f ≠ 31 → T1.2.2 0 0 f = some 0 := by rw [e0.2.2]; exact hf
    have t18 : T1.1 0 0 18 = nI (m + 1) := by rw [e0.1]; exact d3
    unfold wp_M_forget
    refine M_find d1 t18 tf (fun i' hi' hh' => ⟨fun _ => ⟨(m - i') + 1, ?_⟩, fun z => absurd (nI_pos' (by omega)) z⟩) (fun hh' => ?_)
    · rw [e19, e20] at hh'
      have hL := M_forget_L (S := T1) (n := m) (i := i') (post := fun r' S2 => fin K (1 : Int32) r' S2) d1 t18 tf ?_ (m - i') i' (by omega) (Nat.le_refl _)
      · rw [shS0] at hL; exact hL
      · refine fin.ok (hK _ m (I0.rts ht ?_ ?_ ?_ ?_))
        · subst hT1
          unfold shS
          exact eqK.I (by decide) (eqK.cIa (by decide) (eqK.cLa (by decide) (eqK.cIa (by decide) (eqK.I (by decide) (eqK.L (by decide) (eqK.I (by decide) (eqK.I (by decide) eqK.rf)))))))
        · intro f hf'
          have : T1.1 0 0 f = S.1 0 0 f := by rw [e0.1]
          simp [gI1, hf', shS, cIa1, cLa1, this]
        · subst hT1; rfl
        · generalize hU : sI (shS T1 i' m) 0 0 18 (nI m) = U
          have u42 : U.1 42 0 3 = nI m := by subst hU; subst hT1; simp [gI1, gL1, shS, cIa1, cLa1]
          have u18 : U.1 0 0 18 = nI m := by subst hU; simp [gI1]
          have u45 : ∀ q, U.1 45 0 q = if q = i then S.1 45 0 m else S.1 45 0 q := by intro q; subst hU; subst hT1; simp [gI1, gL1, shS, cIa1, cLa1]
          have u46 : ∀ q, U.2.1 46 0 q = if q = i then S.2.1 46 0 m else S.2.1 46 0 q := by intro q; subst hU; subst hT1; simp [gI2, gL2, shS, cIa2, cLa2]
          have u47 : ∀ q, U.1 47 0 q = if q = i then S.1 47 0 m else S.1 47 0 q := by intro q; subst hU; subst hT1; simp [gI1, gL1, shS, cIa1, cLa1]
          have u19 : ∀ q, U.1 19 0 q = shf (S.1 19 0) i' m q := by intro q; rw [← e19]; subst hU; simp [gI1, shS, cIa1, cLa1]
          have u20 : ∀ q, U.2.1 20 0 q = shf (S.2.1 20 0) i' m q := by intro q; rw [← e20]; subst hU; simp [gI2, shS, cIa2, cLa2]
          have u21 : ∀ q, U.1 21 0 q = shf (S.1 21 0) i' m q := by intro q; rw [← e21]; subst hU; simp [gI1, shS, cIa1]
          have fX : ∀ j, j < m → (if j = i then m else j) < m + 1 ∧ (if j = i then m else j) ≠ i ∧ U.1 45 0 j = S.1 45 0 (if j = i then m else j) ∧ U.2.1 46 0 j = S.2.1 46 0 (if j = i then m else j) ∧ U.1 47 0 j = S.1 47 0 (if j = i then m else j) := by
            intro j hj
            rw [u45, u46, u47]
            by_cases e : j = i
            · simp only [if_pos e]; exact ⟨by omega, by omega, trivial, trivial, trivial⟩
            · simp only [if_neg e]; exact ⟨by omega, e, trivial, trivial, trivial⟩
          have fM : ∀ j, j < m → (if i' ≤ j then j + 1 else j) < m + 1 ∧ (if i' ≤ j then j + 1 else j) ≠ i' ∧ U.1 19 0 j = S.1 19 0 (if i' ≤ j then j + 1 else j) ∧ U.2.1 20 0 j = S.2.1 20 0 (if i' ≤ j then j + 1 else j) ∧ U.1 21 0 j = S.1 21 0 (if i' ≤ j then j + 1 else j) := by
            intro j hj
            rw [u19, u20, u21]
            unfold shf
            by_cases e : i' ≤ j
            · simp only [if_pos e, if_pos (And.intro e hj)]; exact ⟨by omega, by omega, trivial, trivial, trivial⟩
            · simp only [if_neg e, if_neg (fun z : i' ≤ j ∧ j < m => e z.1)]; exact ⟨by omega, by omega, trivial, trivial, trivial⟩
          refine ⟨by omega, u42, u18, rU_del (fun j => if j = i then m else j) d4 (fun j hj => ⟨(fX j hj).1, (fX j hj).2.2.1, (fX j hj).2.2.2.1⟩) ?_, rU_del (fun j => if i' ≤ j then j + 1 else j) d5 (fun j hj => ⟨(fM j hj).1, (fM j hj).2.2.1, (fM j hj).2.2.2.1⟩) ?_, fun y => ?_, fun q hq => ?_⟩
          · intro j k hj hk e
            by_cases e1 : j = i <;> by_cases e2 : k = i <;> simp only [e1, e2, if_true, if_false] at e ⊢ <;> omega
          · intro j k hj hk e
            by_cases e1 : i' ≤ j <;> by_cases e2 : i' ≤ k <;> simp only [e1, e2, if_true, if_false] at e <;> omega
          · have sX : ∀ j, j < m + 1 → j ≠ i → ∃ k, k < m ∧ (fun j => if j = i then m else j) k = j := by
              intro j hj hji
              by_cases e : j = m
              · exact ⟨i, by omega, by show (if i = i then m else i) = j; rw [if_pos rfl]; exact e.symm⟩
              · exact ⟨j, by omega, by show (if j = i then m else j) = j; rw [if_neg hji]⟩
            have sM : ∀ j, j < m + 1 → j ≠ i' → ∃ k, k < m ∧ (fun j => if i' ≤ j then j + 1 else j) k = j := by
              intro j hj hji
              by_cases e : i' ≤ j
              · exact ⟨j - 1, by omega, by show (if i' ≤ j - 1 then j - 1 + 1 else j - 1) = j; rw [if_pos (show i' ≤ j - 1 by omega)]; omega⟩
              · exact ⟨j, by omega, by show (if i' ≤ j then j + 1 else j) = j; rw [if_neg e]⟩
            rw [rT_del (fun j => if j = i then m else j) d4 hi fX sX y, rT_del (fun j => if i' ≤ j then j + 1 else j) d5 hi' fM sM y, d6, hh.1, hh.2, hh'.1, hh'.2]
          · obtain ⟨f1, f2, f3, f4, f5⟩ := fM q hq
            rw [f3, f4]; exact d7 _ f1
    · rw [e19, e20] at hh'
      exact absurd (hHit.mp ⟨i, hi, hh⟩) (fun ⟨q, hq, hq2⟩ => hh' q hq hq2)
  · unfold wp_M_forget
    refine M_find d1 d3 hf (fun i' hi' hh' => absurd (hHit.mpr ⟨i', hi', hh'⟩) (fun ⟨q, hq, hq2⟩ => hh q hq hq2)) (fun hh' => ⟨fun z => absurd z (by decide), fun _ => fin.ok hKS⟩)
