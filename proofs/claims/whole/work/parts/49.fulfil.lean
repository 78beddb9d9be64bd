/-! fulfil -/
theorem cF_le {s : Nat → Int32} : ∀ n, cF s n ≤ n := by
  intro n
  induction n with
  | zero => exact Nat.le_refl _
  | succ n ih => unfold cF; split <;> omega
theorem cF_up {s : Nat → Int32} {j : Nat} (h : s j ≠ 1) : ∀ n, j < n → cF (upd s j 1) n = cF s n + 1 := by
  intro n
  induction n with
  | zero => intro hj; omega
  | succ n ih =>
    intro hj
    unfold cF
    by_cases e : j = n
    · subst e
      have e1 : cF (upd s j 1) j = cF s j := by
        have : ∀ m, m ≤ j → cF (upd s j 1) m = cF s m := by
          intro m
          induction m with
          | zero => intro _; rfl
          | succ m ih2 =>
            intro hm
            unfold cF
            rw [ih2 (by omega), pk_un (show m ≠ j by omega)]
        exact this j (Nat.le_refl _)
      rw [e1, pk_us, if_pos rfl, if_neg h]
    · rw [ih (by omega), pk_un (Ne.symm e)]
      omega
/-- what a settlement makes of balance and rest, and its whole units -/
def stl (b r : Int64) (th tg un : Int32) : Int64 × Int64 × Int64 := if th = 0 ∨ b < th.toInt64 then (b, r, 0) else (tg.toInt64, (r + (b - tg.toInt64)) - (r + (b - tg.toInt64)) / un.toInt64 * un.toInt64, (r + (b - tg.toInt64)) / un.toInt64)
def aX (S : oSt) (q : Nat) (b r : Int64) : oSt := sL (sL S 48 q 6 b) 48 q 10 r
def aM (S : oSt) (q : Nat) (b r : Int64) : oSt := sL (sL S 5 0 q b) 12 0 q r
theorem aX0 {S : oSt} {q : Nat} : aX S q (S.2.1 48 q 6) (S.2.1 48 q 10) = S := by
  unfold aX
  refine Prod.ext rfl (Prod.ext ?_ rfl)
  funext a i d
  simp only [gL2]
  by_cases h1 : a = 48 <;> by_cases h2 : i = q <;> by_cases h3 : d = 10 <;> by_cases h4 : d = 6 <;> simp_all
theorem aM0 {S : oSt} {q : Nat} : aM S q (S.2.1 5 0 q) (S.2.1 12 0 q) = S := by
  unfold aM
  refine Prod.ext rfl (Prod.ext ?_ rfl)
  funext a i d
  simp only [gL2]
  by_cases h1 : a = 5 <;> by_cases h2 : a = 12 <;> by_cases h3 : d = q <;> by_cases h4 : i = 0 <;> simp_all
theorem X_settle {S : oSt} {q n d : Nat} {post : Unit → oSt → Prop} (hn : n < 120) (hc : S.1 40 0 8 = nI n) (hr : S.2.2 40 0 5 = some 0) (hu : S.1 48 q 9 = opw d) {b r u : Int64} (hs : stl (S.2.1 48 q 6) (S.2.1 48 q 10) (S.1 48 q 7) (S.1 48 q 8) (opw d) = (b, r, u)) (h0 : ¬ 0 < u → post () (aX S q b r)) (h1 : 0 < u → post () (sI (sL (aX S q b r) 44 0 n (u * 8 + (S.1 48 q 0).toInt64)) 40 0 8 (nI (n + 1)))) : wp_X_settle S q post := by
  have hfin : ∀ T, T = aX S q b r → (((lg_cmp u (0 : Int64)) ≤ 0) → post () T) ∧ ((¬ (lg_cmp u (0 : Int64)) ≤ 0) → ∃ j3 : Nat, T.2.2 40 0 5 = some j3 ∧ ((((120 : Int32) ≤ (T.1 40 0 8)) → post () T) ∧ ((¬ (120 : Int32) ≤ (T.1 40 0 8)) → ∃ j4 : Nat, T.2.2 40 0 5 = some j4 ∧ ((vp_in (T.1 40 0 8) 120) ∧ (∀ S5 : oSt, S5 = sL T 44 j4 (Int32.toNatClampNeg (T.1 40 0 8)) (((u * (8 : Int64)) + (Int32.toInt64 (T.1 48 q 0)))) → (∀ S6 : oSt, S6 = sI S5 40 0 8 (((S5.1 40 0 8) + (1 : Int32))) → (post () S6))))))) := by
    rintro T rfl
    refine ⟨fun z => h0 (Int64.not_lt.mpr ((lg_cmp_le u 0).mp z)), fun z => ⟨0, hr, ?_⟩⟩
    have hu0 : 0 < u := Int64.not_le.mp (fun y => z ((lg_cmp_le u 0).mpr y))
    have ec : (aX S q b r).1 40 0 8 = nI n := hc
    rw [ec]
    refine ⟨fun y => absurd y (nI_ge (b := 120) hn (by decide)), fun _ => ⟨0, hr, vp_in_nI hn (by decide), ?_⟩⟩
    rw [cl8 (by omega)]
    rintro S5 rfl S6 rfl
    have e6 : (sL (aX S q b r) 44 0 n (u * 8 + ((aX S q b r).1 48 q 0).toInt64)).1 40 0 8 + 1 = nI (n + 1) := by
      have : (sL (aX S q b r) 44 0 n (u * 8 + ((aX S q b r).1 48 q 0).toInt64)).1 40 0 8 = nI n := hc
      rw [this, nI_1]
    rw [e6]
    exact h1 hu0
  unfold wp_X_settle wp_A_takeSettled
  unfold stl at hs
  refine ⟨fun z => ?_, fun z => ⟨fun y => ?_, fun y => ?_⟩⟩
  · rw [if_pos (Or.inl z)] at hs
    cases hs
    exact hfin S aX0.symm
  · have hge : (S.1 48 q 7).toInt64 ≤ S.2.1 48 q 6 := (lg_cmp_ge _ _).mp y
    rw [if_neg (fun x => by rcases x with x | x; exact z x; exact Int64.not_le.mpr x hge)] at hs
    rintro S1 rfl S2 rfl
    have e9 : (sL (sL S 48 q 10 (S.2.1 48 q 10 + (S.2.1 48 q 6 - (S.1 48 q 8).toInt64))) 48 q 6 ((sL S 48 q 10 (S.2.1 48 q 10 + (S.2.1 48 q 6 - (S.1 48 q 8).toInt64))).1 48 q 8).toInt64).1 48 q 9 = opw d := hu
    have e10 : (sL (sL S 48 q 10 (S.2.1 48 q 10 + (S.2.1 48 q 6 - (S.1 48 q 8).toInt64))) 48 q 6 ((sL S 48 q 10 (S.2.1 48 q 10 + (S.2.1 48 q 6 - (S.1 48 q 8).toInt64))).1 48 q 8).toInt64).2.1 48 q 10 = S.2.1 48 q 10 + (S.2.1 48 q 6 - (S.1 48 q 8).toInt64) := by simp [gL2]
    rw [e9, e10]
    refine ⟨opw_ne, opw_ne, ?_⟩
    rintro S3 rfl
    cases hs
    refine hfin _ ?_
    unfold aX
    refine Prod.ext rfl (Prod.ext ?_ rfl)
    funext a i dd
    simp only [gL1, gL2]
    by_cases y1 : a = 48 <;> by_cases y2 : i = q <;> by_cases y3 : dd = 10 <;> by_cases y4 : dd = 6 <;> simp_all
  · have hlt : S.2.1 48 q 6 < (S.1 48 q 7).toInt64 := Int64.not_le.mp (fun x => y ((lg_cmp_ge _ _).mpr x))
    rw [if_pos (Or.inr hlt)] at hs
    cases hs
    exact hfin S aX0.symm
theorem M_settle {S : oSt} {q n d : Nat} {post : Unit → oSt → Prop} (hq : q < 8) (hn : n < 120) (hc : S.1 0 0 31 = nI n) (hf : ∀ f, 5 ≤ f → f ≤ 32 → f ≠ 18 → f ≠ 22 → f ≠ 31 → S.2.2 0 0 f = some 0) (hd4 : d < 4) (hu : S.1 11 0 q = nI d) {b r u : Int64} (hs : stl (S.2.1 5 0 q) (S.2.1 12 0 q) (S.1 9 0 q) (S.1 10 0 q) (opw d) = (b, r, u)) (h0 : ¬ 0 < u → post () (aM S q b r)) (h1 : 0 < u → post () (sI (sL (aM S q b r) 32 0 n (u * 8 + (nI q).toInt64)) 0 0 31 (nI (n + 1)))) : wp_M_settle S (nI q) post := by
  have hv : vp_in (nI q) 8 := vp_in_nI hq (by decide)
  have m := fun f h1 h2 h3 h4 h5 => hf f h1 h2 h3 h4 h5
  unfold wp_M_settle
  unfold stl at hs
  refine ⟨0, hf 9 (by decide) (by decide) (by decide) (by decide) (by decide), hv, ?_⟩
  rw [cl8 (by omega)]
  refine ⟨fun z => ?_, fun z => ⟨0, hf 5 (by decide) (by decide) (by decide) (by decide) (by decide), hv, 0, hf 9 (by decide) (by decide) (by decide) (by decide) (by decide), hv, ?_⟩⟩
  · rw [if_pos (Or.inl z)] at hs
    cases hs
    have h := h0 (by decide)
    rw [aM0] at h; exact h
  · refine ⟨fun y => ⟨0, hf 12 (by decide) (by decide) (by decide) (by decide) (by decide), hv, 0, hf 5 (by decide) (by decide) (by decide) (by decide) (by decide), hv, 0, hf 10 (by decide) (by decide) (by decide) (by decide) (by decide), hv, hv, ?_⟩, fun y => ?_⟩
    · have hge : (S.1 9 0 q).toInt64 ≤ S.2.1 5 0 q := (lg_cmp_ge _ _).mp y
      rw [if_neg (fun x => by rcases x with x | x; exact z x; exact Int64.not_le.mpr x hge)] at hs
      rintro S7 rfl
      refine ⟨0, hf 5 (by decide) (by decide) (by decide) (by decide) (by decide), 0, hf 10 (by decide) (by decide) (by decide) (by decide) (by decide), hv, hv, ?_⟩
      rintro S10 rfl
      refine ⟨0, hf 12 (by decide) (by decide) (by decide) (by decide) (by decide), hv, 0, hf 11 (by decide) (by decide) (by decide) (by decide) (by decide), hv, ?_⟩
      simp only [gL1, hu]
      refine M_power hd4 ⟨opw_ne, 0, hf 12 (by decide) (by decide) (by decide) (by decide) (by decide), 0, hf 12 (by decide) (by decide) (by decide) (by decide) (by decide), hv, 0, hf 11 (by decide) (by decide) (by decide) (by decide) (by decide), hv, ?_⟩
      simp only [gL1, hu]
      refine M_power hd4 ⟨opw_ne, hv, ?_⟩
      have e12 : (sL (sL S 12 0 q (S.2.1 12 0 q + (S.2.1 5 0 q - (S.1 10 0 q).toInt64))) 5 0 q (S.1 10 0 q).toInt64).2.1 12 0 q = S.2.1 12 0 q + (S.2.1 5 0 q - (S.1 10 0 q).toInt64) := by simp [gL2]
      rw [e12]
      rintro S20 rfl
      cases hs
      have eS : sL (sL (sL S 12 0 q (S.2.1 12 0 q + (S.2.1 5 0 q - (S.1 10 0 q).toInt64))) 5 0 q (S.1 10 0 q).toInt64) 12 0 q ((S.2.1 12 0 q + (S.2.1 5 0 q - (S.1 10 0 q).toInt64)) - (S.2.1 12 0 q + (S.2.1 5 0 q - (S.1 10 0 q).toInt64)) / (opw d).toInt64 * (opw d).toInt64) = aM S q (S.1 10 0 q).toInt64 ((S.2.1 12 0 q + (S.2.1 5 0 q - (S.1 10 0 q).toInt64)) - (S.2.1 12 0 q + (S.2.1 5 0 q - (S.1 10 0 q).toInt64)) / (opw d).toInt64 * (opw d).toInt64) := by
        unfold aM
        refine Prod.ext rfl (Prod.ext ?_ rfl)
        funext a i dd
        simp only [gL2]
        by_cases y1 : a = 5 <;> by_cases y2 : a = 12 <;> by_cases y3 : dd = q <;> by_cases y4 : i = 0 <;> simp_all
      rw [eS]
      refine ⟨fun x => h0 (Int64.not_lt.mpr ((lg_cmp_le _ 0).mp x)), fun x => ⟨0, hf 32 (by decide) (by decide) (by decide) (by decide) (by decide), ?_⟩⟩
      have hu0 := Int64.not_le.mp (fun y => x ((lg_cmp_le _ 0).mpr y))
      have h := h1 hu0
      generalize hT : aM S q (S.1 10 0 q).toInt64 ((S.2.1 12 0 q + (S.2.1 5 0 q - (S.1 10 0 q).toInt64)) - (S.2.1 12 0 q + (S.2.1 5 0 q - (S.1 10 0 q).toInt64)) / (opw d).toInt64 * (opw d).toInt64) = T at *
      have ec : T.1 0 0 31 = nI n := by subst hT; exact hc
      rw [ec]
      refine ⟨vp_in_nI hn (by decide), ?_⟩
      rw [cl8 (by omega)]
      rintro S22 rfl S23 rfl
      simp only [gL1, ec, nI_1]
      exact h
    · have hlt : S.2.1 5 0 q < (S.1 9 0 q).toInt64 := Int64.not_le.mp (fun x => y ((lg_cmp_ge _ _).mpr x))
      rw [if_pos (Or.inr hlt)] at hs
      cases hs
      have h := h0 (by decide)
      rw [aM0] at h; exact h
