/-! a whole column is written -/
def cI (S : oSt) (k f : Nat) (g : Nat → Int32) : oSt := (fun a i d => if a = k ∧ d = f then g i else S.1 a i d, S.2.1, S.2.2)
def cL (S : oSt) (k f : Nat) (g : Nat → Int64) : oSt := (S.1, fun a i d => if a = k ∧ d = f then g i else S.2.1 a i d, S.2.2)
def cIa (S : oSt) (k : Nat) (g : Nat → Int32) : oSt := (fun a i d => if a = k ∧ i = 0 then g d else S.1 a i d, S.2.1, S.2.2)
def cLa (S : oSt) (k : Nat) (g : Nat → Int64) : oSt := (S.1, fun a i d => if a = k ∧ i = 0 then g d else S.2.1 a i d, S.2.2)
theorem cI1 {S : oSt} {k f a i d : Nat} {g : Nat → Int32} : (cI S k f g).1 a i d = if a = k ∧ d = f then g i else S.1 a i d := rfl
theorem cI2 {S : oSt} {k f : Nat} {g : Nat → Int32} : (cI S k f g).2.1 = S.2.1 := rfl
theorem cI3 {S : oSt} {k f : Nat} {g : Nat → Int32} : (cI S k f g).2.2 = S.2.2 := rfl
theorem cL1 {S : oSt} {k f : Nat} {g : Nat → Int64} : (cL S k f g).1 = S.1 := rfl
theorem cL2 {S : oSt} {k f a i d : Nat} {g : Nat → Int64} : (cL S k f g).2.1 a i d = if a = k ∧ d = f then g i else S.2.1 a i d := rfl
theorem cL3 {S : oSt} {k f : Nat} {g : Nat → Int64} : (cL S k f g).2.2 = S.2.2 := rfl
theorem cIa1 {S : oSt} {k a i d : Nat} {g : Nat → Int32} : (cIa S k g).1 a i d = if a = k ∧ i = 0 then g d else S.1 a i d := rfl
theorem cIa2 {S : oSt} {k : Nat} {g : Nat → Int32} : (cIa S k g).2.1 = S.2.1 := rfl
theorem cIa3 {S : oSt} {k : Nat} {g : Nat → Int32} : (cIa S k g).2.2 = S.2.2 := rfl
theorem cLa1 {S : oSt} {k : Nat} {g : Nat → Int64} : (cLa S k g).1 = S.1 := rfl
theorem cLa2 {S : oSt} {k a i d : Nat} {g : Nat → Int64} : (cLa S k g).2.1 a i d = if a = k ∧ i = 0 then g d else S.2.1 a i d := rfl
theorem cLa3 {S : oSt} {k : Nat} {g : Nat → Int64} : (cLa S k g).2.2 = S.2.2 := rfl
theorem eqK.cI {ks : List Nat} {S T : oSt} {k f : Nat} {g : Nat → Int32} (h : k ∉ ks) (e : eqK ks S T) : eqK ks S (cI T k f g) := by
  intro a ha
  obtain ⟨e1, e2, e3⟩ := e a ha
  refine ⟨?_, e2, e3⟩
  have hak : ¬ a = k := fun z => h (z ▸ ha)
  rw [← e1]; funext i d; simp [cI1, cIa1, hak]
theorem eqK.cL {ks : List Nat} {S T : oSt} {k f : Nat} {g : Nat → Int64} (h : k ∉ ks) (e : eqK ks S T) : eqK ks S (cL T k f g) := by
  intro a ha
  obtain ⟨e1, e2, e3⟩ := e a ha
  refine ⟨e1, ?_, e3⟩
  have hak : ¬ a = k := fun z => h (z ▸ ha)
  rw [← e2]; funext i d; simp [cL2, cLa2, hak]
theorem eqK.cIa {ks : List Nat} {S T : oSt} {k : Nat} {g : Nat → Int32} (h : k ∉ ks) (e : eqK ks S T) : eqK ks S (cIa T k g) := by
  intro a ha
  obtain ⟨e1, e2, e3⟩ := e a ha
  refine ⟨?_, e2, e3⟩
  have hak : ¬ a = k := fun z => h (z ▸ ha)
  rw [← e1]; funext i d; simp [cI1, cIa1, hak]
theorem eqK.cLa {ks : List Nat} {S T : oSt} {k : Nat} {g : Nat → Int64} (h : k ∉ ks) (e : eqK ks S T) : eqK ks S (cLa T k g) := by
  intro a ha
  obtain ⟨e1, e2, e3⟩ := e a ha
  refine ⟨e1, ?_, e3⟩
  have hak : ¬ a = k := fun z => h (z ▸ ha)
  rw [← e2]; funext i d; simp [cL2, cLa2, hak]
theorem cF_eq {s s' : Nat → Int32} {n : Nat} (h : ∀ j, j < n → (s j = 1 ↔ s' j = 1)) : cF s n = cF s' n := by
  induction n with
  | zero => rfl
  | succ n ih =>
    unfold cF
    rw [ih (fun j hj => h j (by omega))]
    by_cases e : s n = 1
    · rw [if_pos e, if_pos ((h n (by omega)).mp e)]
    · rw [if_neg e, if_neg (fun z => e ((h n (by omega)).mpr z))]
/-- states of transfers and balances have changed on both sides, alike; none has been fulfilled -/
theorem Inv4.give {S : oSt} {cn : Nat → Nat} {t nA nT nS nR : Nat} (I : Inv4 S cn t nA nT nS nR) {sx sm : Nat → Int32} {bx bm : Nat → Int64} (h1 : ∀ j, j < nT → sx j = sm j) (h2 : ∀ a, a < nA → bx a = bm a) (h3 : ∀ j, j < nT → (sm j = 1 ↔ S.1 29 0 j = 1)) (h4 : ∀ a, nA ≤ a → bm a = S.2.1 5 0 a) : Inv4 (cLa (cIa (cL (cI S 52 6 sx) 48 6 bx) 29 sm) 5 bm) cn t nA nT nS nR := by
  obtain ⟨b, hcn, hRf, hSc, hA, hZ, hT, hSt, hRt⟩ := I
  refine ⟨b, hcn, hRf, hSc.fr (eqK.cLa (by decide) (eqK.cIa (by decide) (eqK.cL (by decide) (eqK.cI (by decide) eqK.rf)))), fun a ha => ?_, fun a g1 g2 => ?_, fun j hj => ?_, ?_, hRt.fr (eqK.cLa (by decide) (eqK.cIa (by decide) (eqK.cL (by decide) (eqK.cI (by decide) eqK.rf))))⟩
  · have g := hA a ha
    have e := h2 a ha
    unfold iA at g ⊢
    obtain ⟨g1, g2, g3, g4⟩ := g
    refine ⟨g1, ?_, by simp [cLa2, cIa2, cL2, e], ?_⟩
    · simpa [cLa1, cIa1, cL1, cI1] using g2
    · simpa [cLa1, cIa1, cL1, cI1, cLa2, cIa2, cL2, cI2] using g4
  · have g := hZ a g1 g2
    unfold iZ at g ⊢
    simpa [cLa1, cIa1, cL1, cI1, cLa2, cIa2, cL2, cI2, h4 a g1] using g
  · have g := hT j hj
    unfold iT at g ⊢
    obtain ⟨g1, g2, g3, g4, g5, g6, g7, g8, g9⟩ := g
    refine ⟨g1, by simpa [cLa1, cIa1, cL1, cI1, cLa3, cIa3, cL3, cI3] using g2, by simpa [cLa1, cIa1, cL1, cI1, cLa3, cIa3, cL3, cI3] using g3, by simpa [cLa1, cIa1, cL1, cI1] using g4, by simpa [cLa2, cIa2, cL2, cI2] using g5, by simpa [cLa1, cIa1, cL1, cI1, cLa2, cIa2, cL2, cI2] using g6, by simpa [cLa2, cIa2, cL2, cI2] using g7, by simp [cLa1, cIa1, cL1, cI1, h1 j hj], ?_⟩
    simp only [cLa1, cIa1, cLa2, cIa2, cL2, cI2]
    by_cases e : S.1 29 0 j = 1
    · rw [if_pos e] at g9
      have e2 := (h3 j hj).mpr e
      simp [e2, g9]
    · rw [if_neg e] at g9
      have e2 : ¬ sm j = 1 := fun z => e ((h3 j hj).mp z)
      simp [e2, g9]
  · obtain ⟨g1, g2, g3, g4⟩ := hSt
    refine ⟨by simpa [cLa1, cIa1, cL1, cI1] using g1, by simpa [cLa1, cIa1, cL1, cI1] using g2, ?_, by simpa [cLa2, cIa2, cL2, cI2] using g4⟩
    have e : cF ((cLa (cIa (cL (cI S 52 6 sx) 48 6 bx) 29 sm) 5 bm).1 29 0) nT = cF (S.1 29 0) nT := cF_eq (fun j hj => by
      have : (cLa (cIa (cL (cI S 52 6 sx) 48 6 bx) 29 sm) 5 bm).1 29 0 j = sm j := by simp [cLa1, cIa1]
      rw [this]; exact h3 j hj)
    rw [e]; exact g3
theorem X_payBack {S : oSt} {j p : Nat} {e : Int32} {sx : Nat → Int32} {bx : Nat → Int64} {post : Unit → oSt → Prop} (hp : S.2.2 52 j 0 = some p) (h : post () (cL (cI S 52 6 (upd sx j e)) 48 6 (vp_updL bx p (bx p + (S.1 52 j 2).toInt64)))) : wp_T_payBack (cL (cI S 52 6 sx) 48 6 bx) j e post := by
  unfold wp_T_payBack
  rintro S1 rfl
  refine ⟨p, hp, ?_⟩
  rintro S3 rfl
  have e1 : sL (sI (cL (cI S 52 6 sx) 48 6 bx) 52 j 6 e) 48 p 6 ((sI (cL (cI S 52 6 sx) 48 6 bx) 52 j 6 e).2.1 48 p 6 + ((sI (cL (cI S 52 6 sx) 48 6 bx) 52 j 6 e).1 52 j 2).toInt64) = cL (cI S 52 6 (upd sx j e)) 48 6 (vp_updL bx p (bx p + (S.1 52 j 2).toInt64)) := by
    refine Prod.ext ?_ (Prod.ext ?_ rfl)
    · funext a i d
      simp only [gL1, gI1, cL1, cI1, upd]
      by_cases h1 : a = 52 <;> by_cases h2 : i = j <;> by_cases h3 : d = 6 <;> simp [h1, h2, h3]
    · funext a i d
      simp only [gL2, gI1, gI2, cL1, cL2, cI1, cI2, vp_updL]
      by_cases h1 : a = 48 <;> by_cases h2 : i = p <;> by_cases h3 : d = 6 <;> simp [h1, h2, h3]
  rw [e1]; exact h
theorem M_giveBack {S : oSt} {j p : Nat} {e : Int32} {sm : Nat → Int32} {bm : Nat → Int64} {post : Unit → oSt → Prop} (hj : j < 120) (hf : ∀ f, 5 ≤ f → f ≤ 32 → f ≠ 18 → f ≠ 22 → f ≠ 31 → S.2.2 0 0 f = some 0) (hp8 : p < 8) (hp : S.1 23 0 j = nI p) (h : post () (cLa (cIa S 29 (upd sm j e)) 5 (vp_updL bm p (bm p + (S.1 25 0 j).toInt64)))) : wp_M_giveBack (cLa (cIa S 29 sm) 5 bm) (nI j) e post := by
  have hv : vp_in (nI j) 120 := vp_in_nI hj (by decide)
  have hv8 : vp_in (nI p) 8 := vp_in_nI hp8 (by decide)
  unfold wp_M_giveBack
  refine ⟨0, hf 29 (by decide) (by decide) (by decide) (by decide) (by decide), hv, ?_⟩
  rw [cl8 (by omega)]
  rintro S2 rfl
  have q23 : (sI (cLa (cIa S 29 sm) 5 bm) 29 0 j e).1 23 0 j = nI p := by simp [gI1, cLa1, cIa1, hp]
  refine ⟨0, hf 5 (by decide) (by decide) (by decide) (by decide) (by decide), 0, hf 23 (by decide) (by decide) (by decide) (by decide) (by decide), hv, ?_⟩
  rw [q23]
  refine ⟨hv8, 0, hf 25 (by decide) (by decide) (by decide) (by decide) (by decide), hv, hv8, ?_⟩
  rw [cl8 (by omega)]
  rintro S6 rfl
  have e1 : sL (sI (cLa (cIa S 29 sm) 5 bm) 29 0 j e) 5 0 p ((sI (cLa (cIa S 29 sm) 5 bm) 29 0 j e).2.1 5 0 p + ((sI (cLa (cIa S 29 sm) 5 bm) 29 0 j e).1 25 0 j).toInt64) = cLa (cIa S 29 (upd sm j e)) 5 (vp_updL bm p (bm p + (S.1 25 0 j).toInt64)) := by
    refine Prod.ext ?_ (Prod.ext ?_ rfl)
    · funext a i d
      simp only [gL1, gI1, cLa1, cIa1, upd]
      by_cases h1 : a = 29 <;> by_cases h2 : i = 0 <;> by_cases h3 : d = j <;> simp [h1, h2, h3]
    · funext a i d
      simp only [gL2, gI1, gI2, cLa1, cLa2, cIa1, cIa2, vp_updL]
      by_cases h1 : a = 5 <;> by_cases h2 : i = 0 <;> by_cases h3 : d = p <;> simp [h1, h2, h3]
  rw [e1]; exact h
theorem cX0 {S : oSt} : cL (cI S 52 6 (fun j => S.1 52 j 6)) 48 6 (fun a => S.2.1 48 a 6) = S := by
  refine Prod.ext ?_ (Prod.ext ?_ rfl)
  · funext a i d
    simp only [cL1, cI1]
    split
    · next h => obtain ⟨rfl, rfl⟩ := h; rfl
    · rfl
  · funext a i d
    simp only [cL2, cI2]
    split
    · next h => obtain ⟨rfl, rfl⟩ := h; rfl
    · rfl
theorem cM0 {S : oSt} : cLa (cIa S 29 (S.1 29 0)) 5 (S.2.1 5 0) = S := by
  refine Prod.ext ?_ (Prod.ext ?_ rfl)
  · funext a i d
    simp only [cLa1, cIa1]
    split
    · next h => obtain ⟨rfl, rfl⟩ := h; rfl
    · rfl
  · funext a i d
    simp only [cLa2, cIa2]
    split
    · next h => obtain ⟨rfl, rfl⟩ := h; rfl
    · rfl
theorem sim_reject {S : oSt} {cn : Nat → Nat} {t nA nT nS nR : Nat} (I : Inv4 S cn t nA nT nS nR) (ht : t + 1 ≤ 600) (a : Int32) {K : oSt → Prop} (hK : ∀ T, Inv4 T cn (t + 1) nA nT nS nR → K T) : wp_X_reject S a (fun r S1 => wp_M_reject S1 a (fun r' S2 => fin K r r' S2)) := by
  have I0 := I
  have hKS := hK S (I0.up ht)
  obtain ⟨⟨b1, b2, b3⟩, hcn, hRf, hSc, hA, hZ, hT, hSt, hRt⟩ := I
  have hf := hRf.1
  unfold wp_X_reject wp_M_reject
  rcases ix_cases a (n := nT) (by omega) with hb | ⟨j, hj, rfl⟩
  · exact tn_bad hSc.2.1.1 hb ⟨fun _ => it_bad hSc.2.1.2 hb ⟨fun q => absurd rfl q, fun _ => fin.ok hKS⟩, nofun⟩
  · have h := hT j hj
    have hv : vp_in (nI j) 120 := vp_in_nI (by omega) (by decide)
    obtain ⟨g1, ⟨p, hp, p1, p2⟩, g3, g4, g5, g6, g7, g8, g9⟩ := h
    refine tn_ok hSc.2.1.1 hRf.2.2.2.1 b2 hj g1 ⟨nofun, fun j' e => ?_⟩
    cases e
    by_cases h0 : S.1 29 0 j = 0
    · refine ⟨fun _ => ?_, fun q => absurd (g8.trans h0) q⟩
      have hx := X_payBack (S := S) (sx := fun j => S.1 52 j 6) (bx := fun a => S.2.1 48 a 6) (j := j) (p := p) (e := 2) (post := fun _ S5 => (fun r S1 => wp_M_isTransfer S1 (nI j) (fun r1 S2 => ((¬ r1 = 0) → ∃ j3 : Nat, S2.2.2 0 0 29 = some j3 ∧ ((vp_in (nI j) 120) ∧ ((((S2.1 29 j3 (Int32.toNatClampNeg (nI j))) = 0) → wp_M_giveBack S2 (nI j) ((2 : Int32)) (fun r4 S5 => fin K r (0 : Int32) S5)) ∧ ((¬ (S2.1 29 j3 (Int32.toNatClampNeg (nI j))) = 0) → fin K r (-2 : Int32) S2)))) ∧ ((r1 = 0) → fin K r (-1 : Int32) S2))) (0 : Int32) S5) p1 ?_
      · rw [cX0] at hx; exact hx
      · generalize hT1 : cL (cI S 52 6 (upd (fun j => S.1 52 j 6) j 2)) 48 6 (vp_updL (fun a => S.2.1 48 a 6) p (S.2.1 48 p 6 + (S.1 52 j 2).toInt64)) = T1
        have t29 : T1.1 29 0 = S.1 29 0 := by subst hT1; funext d; simp [cL1, cI1]
        have t5 : T1.2.1 5 0 = S.2.1 5 0 := by subst hT1; funext d; simp [cL2, cI2]
        have t23 : T1.1 23 0 j = nI p := by subst hT1; simpa [cL1, cI1] using p2
        have t25 : T1.1 25 0 j = S.1 25 0 j := by subst hT1; simp [cL1, cI1]
        have t22 : T1.1 0 0 22 = nI nT := by subst hT1; simpa [cL1, cI1] using hSc.2.1.2
        have tf : ∀ f, 5 ≤ f → f ≤ 32 → f ≠ 18 → f ≠ 22 → f ≠ 31 → T1.2.2 0 0 f = some 0 := by subst hT1; exact hf
        refine it_ok t22 b2 hj ⟨fun _ => ⟨0, tf 29 (by decide) (by decide) (by decide) (by decide) (by decide), hv, ?_⟩, fun q => absurd q (by decide)⟩
        rw [cl8 (by omega), t29]
        refine ⟨fun _ => ?_, fun q => absurd h0 q⟩
        have hm := M_giveBack (S := T1) (sm := T1.1 29 0) (bm := T1.2.1 5 0) (j := j) (p := p) (e := 2) (post := fun _ S5 => fin K (0 : Int32) (0 : Int32) S5) (by omega) tf (by omega) t23 ?_
        · rw [cM0] at hm; exact hm
        · rw [t29, t5, t25]
          subst hT1
          refine fin.ok (hK _ ((I0.up ht).give ?_ ?_ ?_ ?_))
          · intro i hi
            by_cases e : i = j
            · subst e; rw [pk_us, pk_us]
            · rw [pk_un e, pk_un e]; exact (hT i hi).2.2.2.2.2.2.2.1
          · intro i hi
            by_cases e : i = p
            · subst e; rw [pk_uLs, pk_uLs, (hA i hi).2.2.1, g4]
            · rw [pk_uLn e, pk_uLn e]; exact (hA i hi).2.2.1
          · intro i hi
            by_cases e : i = j
            · subst e; rw [pk_us, h0]; decide
            · rw [pk_un e]
          · intro i hi
            rw [pk_uLn (by omega)]
    · refine ⟨fun q => absurd (g8.symm.trans q) h0, fun _ => it_ok hSc.2.1.2 b2 hj ⟨fun _ => ⟨0, hf 29 (by decide) (by decide) (by decide) (by decide) (by decide), hv, ?_⟩, fun q => absurd q (by decide)⟩⟩
      rw [cl8 (by omega)]
      exact ⟨fun q => absurd q h0, fun _ => fin.ok hKS⟩
