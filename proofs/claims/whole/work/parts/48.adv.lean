/-! advance -/
theorem X_refill {S : oSt} {g : Nat → Int32} {i : Nat} {n : Int32} {post : Unit → oSt → Prop} (h : post () (cI S 49 2 (upd g i (if g i + S.1 49 i 1 * n < S.1 49 i 0 then g i + S.1 49 i 1 * n else S.1 49 i 0)))) : wp_B_refill (cI S 49 2 g) i n post := by
  unfold wp_B_refill
  rintro S1 rfl
  have e1 : sI (cI S 49 2 g) 49 i 2 (if (cI S 49 2 g).1 49 i 2 + (cI S 49 2 g).1 49 i 1 * n < (cI S 49 2 g).1 49 i 0 then (cI S 49 2 g).1 49 i 2 + (cI S 49 2 g).1 49 i 1 * n else (cI S 49 2 g).1 49 i 0) = cI S 49 2 (upd g i (if g i + S.1 49 i 1 * n < S.1 49 i 0 then g i + S.1 49 i 1 * n else S.1 49 i 0)) := by
    refine Prod.ext ?_ rfl
    funext a b d
    simp only [gI1, cI1, upd]
    by_cases h1 : a = 49 <;> by_cases h2 : b = i <;> by_cases h3 : d = 2 <;> simp [h1, h2, h3]
  rw [e1]; exact h
/-- the drops of the first k accounts behind n ticks -/
def rfX (S : oSt) (n : Int32) : Nat → Nat → Int32
  | 0 => fun a => S.1 49 a 2
  | k + 1 => upd (rfX S n k) k (if rfX S n k k + S.1 49 k 1 * n < S.1 49 k 0 then rfX S n k k + S.1 49 k 1 * n else S.1 49 k 0)
def rfM (S : oSt) (n : Int32) : Nat → Nat → Int32
  | 0 => S.1 15 0
  | k + 1 => upd (rfM S n k) k (if 100 * S.1 13 0 k ≤ rfM S n k k + n * S.1 14 0 k then 100 * S.1 13 0 k else rfM S n k k + n * S.1 14 0 k)
theorem X_adv_L {S : oSt} {nA : Nat} {n : Int32} {post : Int32 → oSt → Prop} (h8 : nA ≤ 8) (hc : S.1 40 0 6 = nI nA) (hr : S.2.2 40 0 2 = some 0) (hA : ∀ a, a < nA → S.2.2 41 0 a = some a ∧ S.2.2 48 a 3 = some a) (h : wp_X_lapseDue (cI S 49 2 (rfX S n nA)) (fun r4 S5 => post r4 S5)) : ∀ m i, i + m = nA → wp_X_advance_L25 post (m + 1) n (nI i) (cI S 49 2 (rfX S n i)) := by
  intro m
  induction m with
  | zero =>
    intro i hi
    have e : i = nA := by omega
    subst e
    unfold wp_X_advance_L25
    have hc' : (cI S 49 2 (rfX S n i)).1 40 0 6 = nI i := by simpa [cI1] using hc
    rw [hc']
    exact ⟨fun _ => h, fun q => absurd (nI_le (Nat.le_refl _) (by omega)) q⟩
  | succ m ih =>
    intro i hi
    unfold wp_X_advance_L25
    have hc' : (cI S 49 2 (rfX S n i)).1 40 0 6 = nI nA := by simpa [cI1] using hc
    rw [hc']
    obtain ⟨k1, k2⟩ := hA i (by omega)
    refine ⟨fun q => absurd q (nI_ge (by omega) (by omega)), fun _ => ⟨0, hr, vp_in_nI (by omega) (by decide), ?_⟩⟩
    rw [cl8 (by omega)]
    rintro o rfl
    refine ⟨i, k1, i, k2, X_refill ?_⟩
    rw [nI_1]
    exact ih (i + 1) (by omega)
theorem M_adv_L {S : oSt} {nA : Nat} {n : Int32} {post : Int32 → oSt → Prop} (h8 : nA ≤ 8) (hc : S.1 0 0 4 = nI nA) (hf : ∀ f, 5 ≤ f → f ≤ 32 → f ≠ 18 → f ≠ 22 → f ≠ 31 → S.2.2 0 0 f = some 0) (h : ∃ q, wp_M_advance_L90 post q 0 0 (cIa S 15 (rfM S n nA))) : ∀ m i, i + m = nA → wp_M_advance_L24 post (m + 1) n (nI i) (cIa S 15 (rfM S n i)) := by
  intro m
  induction m with
  | zero =>
    intro i hi
    have e : i = nA := by omega
    subst e
    unfold wp_M_advance_L24
    have hc' : (cIa S 15 (rfM S n i)).1 0 0 4 = nI i := by simpa [cIa1] using hc
    rw [hc']
    exact ⟨fun _ => h, fun q => absurd (nI_le (Nat.le_refl _) (by omega)) q⟩
  | succ m ih =>
    intro i hi
    unfold wp_M_advance_L24
    have hc' : (cIa S 15 (rfM S n i)).1 0 0 4 = nI nA := by simpa [cIa1] using hc
    have hv : vp_in (nI i) 8 := vp_in_nI (by omega) (by decide)
    rw [hc']
    have step : ∀ v, v = (if 100 * S.1 13 0 i ≤ rfM S n i i + n * S.1 14 0 i then 100 * S.1 13 0 i else rfM S n i i + n * S.1 14 0 i) → wp_M_advance_L24 post (m + 1) n (nI i + 1) (sI (cIa S 15 (rfM S n i)) 15 0 i v) := by
      rintro v rfl
      have e1 : sI (cIa S 15 (rfM S n i)) 15 0 i (if 100 * S.1 13 0 i ≤ rfM S n i i + n * S.1 14 0 i then 100 * S.1 13 0 i else rfM S n i i + n * S.1 14 0 i) = cIa S 15 (rfM S n (i + 1)) := by
        refine Prod.ext ?_ rfl
        funext a b d
        simp only [gI1, cIa1, rfM, upd]
        by_cases h1 : a = 15 <;> by_cases h2 : b = 0 <;> by_cases h3 : d = i <;> simp [h1, h2, h3]
      rw [e1, nI_1]
      exact ih (i + 1) (by omega)
    refine ⟨fun q => absurd q (nI_ge (by omega) (by omega)), fun _ => ⟨0, hf 15 (by decide) (by decide) (by decide) (by decide) (by decide), hv, 0, hf 14 (by decide) (by decide) (by decide) (by decide) (by decide), hv, 0, hf 15 (by decide) (by decide) (by decide) (by decide) (by decide), 0, hf 13 (by decide) (by decide) (by decide) (by decide) (by decide), hv, ?_⟩⟩
    rw [cl8 (by omega)]
    have v13 : (cIa S 15 (rfM S n i)).1 13 0 i = S.1 13 0 i := by simp [cIa1]
    have v14 : (cIa S 15 (rfM S n i)).1 14 0 i = S.1 14 0 i := by simp [cIa1]
    have v15 : (cIa S 15 (rfM S n i)).1 15 0 i = rfM S n i i := by simp [cIa1]
    rw [v13, v14, v15]
    refine ⟨fun q => ⟨0, hf 13 (by decide) (by decide) (by decide) (by decide) (by decide), hv, hv, ?_⟩, fun q => ⟨hv, ?_⟩⟩
    · rintro S11 rfl
      rw [v13]
      exact step _ (by rw [if_pos q])
    · rintro S12 rfl
      exact step _ (by rw [if_neg q])
theorem rf_eq {S : oSt} {n : Int32} {nA : Nat} (h : ∀ a, a < nA → S.1 49 a 0 = 100 * S.1 13 0 a ∧ S.1 49 a 1 = S.1 14 0 a ∧ S.1 49 a 2 = S.1 15 0 a) : ∀ k, k ≤ nA → ∀ a, a < nA → rfX S n k a = rfM S n k a := by
  intro k
  induction k with
  | zero => intro _ a ha; exact (h a ha).2.2
  | succ k ih =>
    intro hk a ha
    have ih' := ih (by omega)
    unfold rfX rfM
    by_cases e : a = k
    · subst e
      rw [pk_us, pk_us, ih' a ha, (h a ha).1, (h a ha).2.1, Int32.mul_comm (S.1 14 0 a) n]
      by_cases q : rfM S n a a + n * S.1 14 0 a < 100 * S.1 13 0 a
      · rw [if_pos q, if_neg (Int32.not_le.mpr q)]
      · rw [if_neg q, if_pos (Int32.not_lt.mp q)]
    · rw [pk_un e, pk_un e]; exact ih' a ha
/-! the transfers that lapse -/
def lpC (now : Int) (fr : Nat → Nat) (am ex : Nat → Int32) (s0 : Nat → Int32) (b0 : Nat → Int64) : Nat → (Nat → Int32) × (Nat → Int64) × Nat
  | 0 => (s0, b0, 0)
  | k + 1 => if (lpC now fr am ex s0 b0 k).1 k = 0 ∧ (ex k).toInt ≤ now then (upd (lpC now fr am ex s0 b0 k).1 k 3, vp_updL (lpC now fr am ex s0 b0 k).2.1 (fr k) ((lpC now fr am ex s0 b0 k).2.1 (fr k) + (am k).toInt64), (lpC now fr am ex s0 b0 k).2.2 + 1) else lpC now fr am ex s0 b0 k
theorem lpC_c {now : Int} {fr : Nat → Nat} {am ex s0 : Nat → Int32} {b0 : Nat → Int64} : ∀ k, (lpC now fr am ex s0 b0 k).2.2 ≤ k := by
  intro k
  induction k with
  | zero => exact Nat.le_refl _
  | succ k ih =>
    unfold lpC
    split
    · exact Nat.succ_le_succ ih
    · exact Nat.le_succ_of_le ih
theorem lpC_1 {now : Int} {fr : Nat → Nat} {am ex s0 : Nat → Int32} {b0 : Nat → Int64} : ∀ k j, ((lpC now fr am ex s0 b0 k).1 j = 1 ↔ s0 j = 1) ∧ (k ≤ j → (lpC now fr am ex s0 b0 k).1 j = s0 j) := by
  intro k
  induction k with
  | zero => intro j; exact ⟨Iff.rfl, fun _ => rfl⟩
  | succ k ih =>
    intro j
    unfold lpC
    split
    · next h =>
      refine ⟨?_, fun hk => ?_⟩
      · by_cases e : j = k
        · subst e
          simp only [pk_us]
          have h0 := h.1
          rw [(ih j).2 (Nat.le_refl _)] at h0
          rw [h0]; decide
        · simp only [pk_un e]; exact (ih j).1
      · simp only [pk_un (show j ≠ k by omega)]; exact (ih j).2 (by omega)
    · exact ⟨(ih j).1, fun hk => (ih j).2 (by omega)⟩
theorem lpC_eq {now : Int} {nA nT : Nat} {fr : Nat → Nat} {am ex am' ex' s0 s0' : Nat → Int32} {b0 b0' : Nat → Int64} (hfr : ∀ j, j < nT → fr j < nA) (ham : ∀ j, j < nT → am j = am' j) (hex : ∀ j, j < nT → ex j = ex' j) (hs : ∀ j, j < nT → s0 j = s0' j) (hb : ∀ a, a < nA → b0 a = b0' a) : ∀ k, k ≤ nT → (∀ j, j < nT → (lpC now fr am ex s0 b0 k).1 j = (lpC now fr am' ex' s0' b0' k).1 j) ∧ (∀ a, a < nA → (lpC now fr am ex s0 b0 k).2.1 a = (lpC now fr am' ex' s0' b0' k).2.1 a) ∧ (lpC now fr am ex s0 b0 k).2.2 = (lpC now fr am' ex' s0' b0' k).2.2 := by
  intro k
  induction k with
  | zero => intro _; exact ⟨hs, hb, rfl⟩
  | succ k ih =>
    intro hk
    obtain ⟨i1, i2, i3⟩ := ih (by omega)
    have e1 := i1 k (by omega)
    have e2 := hex k (by omega)
    have e3 := i2 (fr k) (hfr k (by omega))
    have e4 := ham k (by omega)
    unfold lpC
    rw [e1, e2]
    split
    · refine ⟨fun j hj => ?_, fun a ha => ?_, by simp only []; omega⟩
      · by_cases e : j = k
        · subst e; simp only [pk_us]
        · simp only [pk_un e]; exact i1 j hj
      · by_cases e : a = fr k
        · subst e; simp only [pk_uLs, e3, e4]
        · simp only [pk_uLn e]; exact i2 a ha
    · exact ⟨i1, i2, i3⟩
theorem lpC_out {now : Int} {nA nT : Nat} {fr : Nat → Nat} {am ex s0 : Nat → Int32} {b0 : Nat → Int64} (hfr : ∀ j, j < nT → fr j < nA) : ∀ k, k ≤ nT → ∀ a, nA ≤ a → (lpC now fr am ex s0 b0 k).2.1 a = b0 a := by
  intro k
  induction k with
  | zero => intro _ a _; rfl
  | succ k ih =>
    intro hk a ha
    unfold lpC
    split
    · have hne : a ≠ fr k := by have := hfr k (by omega); omega
      simp only [pk_uLn hne]; exact ih (by omega) a ha
    · exact ih (by omega) a ha
theorem X_lapse_L {S : oSt} {nT w : Nat} {fr : Nat → Nat} {ex : Nat → Int32} {sx : Nat → Int32} {bx : Nat → Int64} {post : Int32 → oSt → Prop} (h8 : nT ≤ 120) (hw : w < 2 ^ 31) (hc : S.1 40 0 7 = nI nT) (hr : S.2.2 40 0 4 = some 0) (hn : S.2.1 40 0 10 = lN w) (hT : ∀ j, j < nT → S.2.2 43 0 j = some j ∧ S.2.2 52 j 0 = some (fr j) ∧ S.2.1 52 j 4 = (ex j).toInt64) (h : post (nI (lpC w fr (fun j => S.1 52 j 2) ex sx bx nT).2.2) (cL (cI S 52 6 (lpC w fr (fun j => S.1 52 j 2) ex sx bx nT).1) 48 6 (lpC w fr (fun j => S.1 52 j 2) ex sx bx nT).2.1)) : ∀ m i, i + m = nT → wp_X_lapseDue_L4 post (m + 1) (nI (lpC w fr (fun j => S.1 52 j 2) ex sx bx i).2.2) (nI i) (cL (cI S 52 6 (lpC w fr (fun j => S.1 52 j 2) ex sx bx i).1) 48 6 (lpC w fr (fun j => S.1 52 j 2) ex sx bx i).2.1) := by
  intro m
  induction m with
  | zero =>
    intro i hi
    have e : i = nT := by omega
    subst e
    unfold wp_X_lapseDue_L4
    have hc' : (cL (cI S 52 6 (lpC w fr (fun j => S.1 52 j 2) ex sx bx i).1) 48 6 (lpC w fr (fun j => S.1 52 j 2) ex sx bx i).2.1).1 40 0 7 = nI i := by simpa [cL1, cI1] using hc
    rw [hc']
    exact ⟨fun _ => h, fun q => absurd (nI_le (Nat.le_refl _) (by omega)) q⟩
  | succ m ih =>
    intro i hi
    have ih' := ih (i + 1) (by omega)
    obtain ⟨k1, k2, k3⟩ := hT i (by omega)
    unfold wp_X_lapseDue_L4
    generalize hL : lpC w fr (fun j => S.1 52 j 2) ex sx bx i = P at *
    have hc' : (cL (cI S 52 6 P.1) 48 6 P.2.1).1 40 0 7 = nI nT := by simpa [cL1, cI1] using hc
    have hs : (cL (cI S 52 6 P.1) 48 6 P.2.1).1 52 i 6 = P.1 i := by simp [cL1, cI1]
    have hx : (cL (cI S 52 6 P.1) 48 6 P.2.1).2.1 52 i 4 = (ex i).toInt64 := by simpa [cL2, cI2] using k3
    have hn' : (cL (cI S 52 6 P.1) 48 6 P.2.1).2.1 40 0 10 = lN w := by simpa [cL2, cI2] using hn
    rw [hc']
    refine ⟨fun q => absurd q (nI_ge (by omega) (by omega)), fun _ => ⟨0, hr, vp_in_nI (by omega) (by decide), ?_⟩⟩
    rw [cl8 (by omega)]
    rintro o rfl
    refine ⟨i, k1, ?_⟩
    rw [hs, hx, hn']
    have hcmp : (0 < lg_cmp (ex i).toInt64 (lN w)) ↔ ¬ (ex i).toInt ≤ (w : Int) := by
      rw [lg_cmp_gt, Int64.lt_iff_toInt_lt, lN_toInt hw, Int32.toInt_toInt64]
      omega
    refine ⟨fun q => ?_, fun q => ⟨fun q2 => ?_, fun q2 => ?_⟩⟩
    · have e : lpC w fr (fun j => S.1 52 j 2) ex sx bx (i + 1) = P := by
        unfold lpC; rw [hL, if_neg (fun z => q z.1)]
      rw [e] at ih'; rw [nI_1]; exact ih'
    · have e : lpC w fr (fun j => S.1 52 j 2) ex sx bx (i + 1) = P := by
        unfold lpC; rw [hL, if_neg (fun z => hcmp.mp q2 z.2)]
      rw [e] at ih'; rw [nI_1]; exact ih'
    · have e : lpC w fr (fun j => S.1 52 j 2) ex sx bx (i + 1) = (upd P.1 i 3, vp_updL P.2.1 (fr i) (P.2.1 (fr i) + (S.1 52 i 2).toInt64), P.2.2 + 1) := by
        have hle : (ex i).toInt ≤ (w : Int) := Classical.byContradiction fun z => q2 (hcmp.mpr z)
        unfold lpC; rw [hL, if_pos ⟨q, hle⟩]
      refine X_payBack k2 ?_
      rw [e] at ih'; rw [nI_1, nI_1]; exact ih'
theorem M_lapse_L {S : oSt} {nT w : Nat} {fr : Nat → Nat} {sm : Nat → Int32} {bm : Nat → Int64} {post : Int32 → oSt → Prop} (h8 : nT ≤ 120) (hw : w < 2 ^ 31) (hc : S.1 0 0 22 = nI nT) (hn : S.1 0 0 2 = nI w) (hf : ∀ f, 5 ≤ f → f ≤ 32 → f ≠ 18 → f ≠ 22 → f ≠ 31 → S.2.2 0 0 f = some 0) (hT : ∀ j, j < nT → fr j < 8 ∧ S.1 23 0 j = nI (fr j)) (h : post (nI (lpC w fr (S.1 25 0) (S.1 27 0) sm bm nT).2.2) (cLa (cIa S 29 (lpC w fr (S.1 25 0) (S.1 27 0) sm bm nT).1) 5 (lpC w fr (S.1 25 0) (S.1 27 0) sm bm nT).2.1)) : ∀ m i, i + m = nT → wp_M_advance_L90 post (m + 1) (nI (lpC w fr (S.1 25 0) (S.1 27 0) sm bm i).2.2) (nI i) (cLa (cIa S 29 (lpC w fr (S.1 25 0) (S.1 27 0) sm bm i).1) 5 (lpC w fr (S.1 25 0) (S.1 27 0) sm bm i).2.1) := by
  intro m
  induction m with
  | zero =>
    intro i hi
    have e : i = nT := by omega
    subst e
    unfold wp_M_advance_L90
    have hc' : (cLa (cIa S 29 (lpC w fr (S.1 25 0) (S.1 27 0) sm bm i).1) 5 (lpC w fr (S.1 25 0) (S.1 27 0) sm bm i).2.1).1 0 0 22 = nI i := by simpa [cLa1, cIa1] using hc
    rw [hc']
    exact ⟨fun _ => h, fun q => absurd (nI_le (Nat.le_refl _) (by omega)) q⟩
  | succ m ih =>
    intro i hi
    have ih' := ih (i + 1) (by omega)
    obtain ⟨k1, k2⟩ := hT i (by omega)
    have hv : vp_in (nI i) 120 := vp_in_nI (by omega) (by decide)
    unfold wp_M_advance_L90
    generalize hL : lpC w fr (S.1 25 0) (S.1 27 0) sm bm i = P at *
    have hc' : (cLa (cIa S 29 P.1) 5 P.2.1).1 0 0 22 = nI nT := by simpa [cLa1, cIa1] using hc
    have hs : (cLa (cIa S 29 P.1) 5 P.2.1).1 29 0 i = P.1 i := by simp [cLa1, cIa1]
    have hx : (cLa (cIa S 29 P.1) 5 P.2.1).1 27 0 i = S.1 27 0 i := by simp [cLa1, cIa1]
    have hn' : (cLa (cIa S 29 P.1) 5 P.2.1).1 0 0 2 = nI w := by simpa [cLa1, cIa1] using hn
    rw [hc']
    refine ⟨fun q => absurd q (nI_ge (by omega) (by omega)), fun _ => ⟨0, hf 29 (by decide) (by decide) (by decide) (by decide) (by decide), hv, ?_⟩⟩
    rw [cl8 (by omega), hs]
    have hcmp : (nI w < S.1 27 0 i) ↔ ¬ (S.1 27 0 i).toInt ≤ (w : Int) := by
      rw [Int32.lt_iff_toInt_lt, nI_toInt hw]
      omega
    refine ⟨fun q => ?_, fun q => ⟨0, hf 27 (by decide) (by decide) (by decide) (by decide) (by decide), hv, ?_⟩⟩
    · have e : lpC w fr (S.1 25 0) (S.1 27 0) sm bm (i + 1) = P := by
        unfold lpC; rw [hL, if_neg (fun z => q z.1)]
      rw [e] at ih'; rw [nI_1]; exact ih'
    · rw [hx, hn']
      refine ⟨fun q2 => ?_, fun q2 => ?_⟩
      · have e : lpC w fr (S.1 25 0) (S.1 27 0) sm bm (i + 1) = P := by
          unfold lpC; rw [hL, if_neg (fun z => hcmp.mp q2 z.2)]
        rw [e] at ih'; rw [nI_1]; exact ih'
      · have e : lpC w fr (S.1 25 0) (S.1 27 0) sm bm (i + 1) = (upd P.1 i 3, vp_updL P.2.1 (fr i) (P.2.1 (fr i) + (S.1 25 0 i).toInt64), P.2.2 + 1) := by
          have hle : (S.1 27 0 i).toInt ≤ (w : Int) := Classical.byContradiction fun z => q2 (hcmp.mpr z)
          unfold lpC; rw [hL, if_pos ⟨q, hle⟩]
        refine M_giveBack (by omega) hf k1 k2 ?_
        rw [e] at ih'; rw [nI_1, nI_1]; exact ih'

theorem ge_nI {n : Int32} (h0 : ¬ n < 0) (h1 : ¬ 100000 < n) : ∃ k, k ≤ 100000 ∧ n = nI k := nI_of2 (M := 100000) (n := 100000) rfl h0 (Int32.not_lt.mp h1)
set_option maxHeartbeats 4000000 in
theorem sim_advance {S : oSt} {cn : Nat → Nat} {t nA nT nS nR : Nat} (I : Inv4 S cn t nA nT nS nR) (ht : t + 1 ≤ 600) (n : Int32) {K : oSt → Prop} (hK : ∀ T, Inv4 T cn (t + 1) nA nT nS nR → K T) : wp_X_advance S n (fun r S1 => wp_M_advance S1 n (fun r' S2 => fin K r r' S2)) := by
  have I0 := I
  have hKS := hK S (I0.up ht)
  obtain ⟨⟨b1, b2, b3⟩, hcn, hRf, hSc, hA, hZ, hT, hSt, hRt⟩ := I
  have hf := hRf.1
  unfold wp_X_advance wp_M_advance
  by_cases h1 : n < 0
  · exact pw_out (Or.inl h1) ⟨fun q => absurd rfl q, fun _ => ⟨fun _ => fin.ok hKS, fun q => absurd h1 q⟩⟩
  by_cases h2 : (100000 : Int32) < n
  · exact pw_out (Or.inr h2) ⟨fun q => absurd rfl q, fun _ => ⟨fun q => absurd q h1, fun _ => ⟨fun q => absurd h2 (Int32.not_lt.mpr q), fun _ => fin.ok hKS⟩⟩⟩
  obtain ⟨k, hk, hnk⟩ := ge_nI h1 h2
  obtain ⟨s1, s2, s3, s4, s5, w, hw, w1, w2⟩ := hSc
  have hw' : w + k ≤ 100000 * (t + 1) := by omega
  have hw31 : w + k < 2 ^ 31 := by omega
  refine pw_in h1 h2 ⟨fun _ => ?_, fun q => absurd q (by decide)⟩
  have eX : S.2.1 40 0 10 + n.toInt64 = lN (w + k) := by rw [w2, hnk, nI_l (by omega), lN_add]
  rw [eX]
  rintro S3 rfl
  -- the class's side
  have e0 : cI (sL S 40 0 10 (lN (w + k))) 49 2 (rfX (sL S 40 0 10 (lN (w + k))) n 0) = sL S 40 0 10 (lN (w + k)) := by
    refine Prod.ext ?_ rfl
    funext a i d
    simp only [cI1, rfX]
    split
    · next h => obtain ⟨rfl, rfl⟩ := h; rfl
    · rfl
  generalize hS1 : sL S 40 0 10 (lN (w + k)) = S1 at *
  have q1 : S1.1 = S.1 := by subst hS1; rfl
  have q2 : S1.2.2 = S.2.2 := by subst hS1; rfl
  have q3 : ∀ a, a ≠ 40 → S1.2.1 a = S.2.1 a := by intro a ha; subst hS1; exact gLk ha
  have q4 : S1.2.1 40 0 10 = lN (w + k) := by subst hS1; simp [gL2]
  have hfr : ∀ j, ∃ p, j < nT → (p < nA ∧ S.2.2 52 j 0 = some p ∧ S.1 23 0 j = nI p) := by
    intro j
    by_cases hj : j < nT
    · obtain ⟨p, hp⟩ := (hT j hj).2.1; exact ⟨p, fun _ => hp⟩
    · exact ⟨0, fun h => absurd h hj⟩
  have hfr' : ∃ fr : Nat → Nat, ∀ j, j < nT → (fr j < nA ∧ S.2.2 52 j 0 = some (fr j) ∧ S.1 23 0 j = nI (fr j)) := ⟨fun j => Classical.choose (hfr j), fun j hj => Classical.choose_spec (hfr j) hj⟩
  obtain ⟨fr, hfr⟩ := hfr'
  refine ⟨nA + 1, ?_⟩
  rw [← e0]
  refine X_adv_L b1 (by rw [q1]; exact s1.1) (by rw [q2]; exact hRf.2.1) (fun a ha => by rw [q2]; exact ⟨(hA a ha).1.1, (hA a ha).1.2.1⟩) ?_ nA 0 (by omega)
  generalize hdx : rfX S1 n nA = dx
  generalize hS2 : cI S1 49 2 dx = S2
  have r1 : ∀ a, a ≠ 49 → S2.1 a = S.1 a := by intro a ha; subst hS2; funext i d; simp [cI1, ha, q1]
  have r2 : S2.2 = S1.2 := by subst hS2; rfl
  unfold wp_X_lapseDue
  refine ⟨nT + 1, ?_⟩
  have hxl := X_lapse_L (S := S2) (nT := nT) (w := w + k) (fr := fr) (ex := S.1 27 0) (sx := fun j => S2.1 52 j 6) (bx := fun a => S2.2.1 48 a 6) (post := fun r4 S5 => (fun r S1 => ((n < 0) → fin K r (-1 : Int32) S1) ∧ ((¬ n < 0) → ((n ≤ (100000 : Int32)) → ∀ S1_1 : oSt, S1_1 = sI S1 0 0 2 (((S1.1 0 0 2) + n)) → (∃ n_1 : Nat, wp_M_advance_L24 (fun r' S2 => fin K r r' S2) n_1 (n) ((0 : Int32)) S1_1)) ∧ ((¬ n ≤ (100000 : Int32)) → fin K r (-1 : Int32) S1))) r4 S5) b2 hw31 (by rw [r1 40 (by decide)]; exact s2.1) (by rw [r2, q2]; exact hRf.2.2.2.1) (by rw [r2]; exact q4) (fun j hj => ⟨by rw [r2, q2]; exact (hT j hj).1, by rw [r2, q2]; exact (hfr j hj).2.1, by rw [r2, q3 52 (by decide)]; exact (hT j hj).2.2.2.2.2.1⟩) ?_ nT 0 (by omega)
  · rw [show (lpC (↑(w + k)) fr (fun j => S2.1 52 j 2) (S.1 27 0) (fun j => S2.1 52 j 6) (fun a => S2.2.1 48 a 6) 0) = ((fun j => S2.1 52 j 6), (fun a => S2.2.1 48 a 6), 0) from rfl, cX0] at hxl
    exact hxl
  -- the reference's side
  generalize hPX : lpC (↑(w + k)) fr (fun j => S2.1 52 j 2) (S.1 27 0) (fun j => S2.1 52 j 6) (fun a => S2.2.1 48 a 6) nT = PX
  generalize hS3 : cL (cI S2 52 6 PX.1) 48 6 PX.2.1 = S3
  have u1 : ∀ a, a ≠ 49 → a ≠ 52 → S3.1 a = S.1 a := by
    intro a ha hb; subst hS3; funext i d; simp [cL1, cI1, hb, r1 a ha]
  have u2 : ∀ a, a ≠ 40 → a ≠ 48 → S3.2.1 a = S.2.1 a := by
    intro a ha hb; subst hS3; funext i d; simp [cL2, cI2, hb, r2, q3 a ha]
  have u3 : S3.2.2 = S.2.2 := by subst hS3; simp only [cL3, cI3, r2, q2]
  refine ⟨fun q => absurd q h1, fun _ => ⟨fun _ => ?_, fun q => absurd (Int32.not_lt.mp h2) q⟩⟩
  have eM : S3.1 0 0 2 + n = nI (w + k) := by rw [u1 0 (by decide) (by decide), w1, hnk, nI_add]
  rw [eM]
  rintro S4 rfl
  generalize hS4 : sI S3 0 0 2 (nI (w + k)) = S4
  have v1 : ∀ a, a ≠ 0 → S4.1 a = S3.1 a := by intro a ha; subst hS4; exact gIk ha
  have v2 : S4.2 = S3.2 := by subst hS4; rfl
  have v0 : ∀ f, f ≠ 2 → S4.1 0 0 f = S.1 0 0 f := by intro f hf'; subst hS4; simp [gI1, hf', u1 0 (by decide) (by decide)]
  have vf : ∀ f, 5 ≤ f → f ≤ 32 → f ≠ 18 → f ≠ 22 → f ≠ 31 → S4.2.2 0 0 f = some 0 := by rw [v2, u3]; exact hf
  refine ⟨nA + 1, ?_⟩
  have e5 : cIa S4 15 (rfM S4 n 0) = S4 := by
    refine Prod.ext ?_ rfl
    funext a i d
    simp only [cIa1, rfM]
    split
    · next h => obtain ⟨rfl, rfl⟩ := h; rfl
    · rfl
  rw [← e5]
  refine M_adv_L b1 (by rw [v0 4 (by decide)]; exact s1.2) vf ⟨nT + 1, ?_⟩ nA 0 (by omega)
  generalize hdm : rfM S4 n nA = dm
  generalize hS5 : cIa S4 15 dm = S5
  have x1 : ∀ a, a ≠ 15 → S5.1 a = S4.1 a := by intro a ha; subst hS5; funext i d; simp [cIa1, ha]
  have x2 : S5.2 = S4.2 := by subst hS5; rfl
  have x0 : ∀ f, f ≠ 2 → S5.1 0 0 f = S.1 0 0 f := by intro f hf'; rw [x1 0 (by decide)]; exact v0 f hf'
  have x02 : S5.1 0 0 2 = nI (w + k) := by rw [x1 0 (by decide)]; subst hS4; simp [gI1]
  have xk : ∀ a, a ≠ 0 → a ≠ 15 → a ≠ 49 → a ≠ 52 → S5.1 a = S.1 a := by
    intro a h1 h2 h3 h4; rw [x1 a h2, v1 a h1, u1 a h3 h4]
  have hml := M_lapse_L (S := S5) (nT := nT) (w := w + k) (fr := fr) (sm := S5.1 29 0) (bm := S5.2.1 5 0) (post := fun r' S2 => fin K (nI PX.2.2) r' S2) b2 hw31 (by rw [x0 22 (by decide)]; exact s2.2) x02 (by rw [x2]; exact vf) (fun j hj => ⟨by have := (hfr j hj).1; omega, by rw [xk 23 (by decide) (by decide) (by decide) (by decide)]; exact (hfr j hj).2.2⟩) ?_ nT 0 (by omega)
  · rw [show (lpC (↑(w + k)) fr (S5.1 25 0) (S5.1 27 0) (S5.1 29 0) (S5.2.1 5 0) 0) = (S5.1 29 0, S5.2.1 5 0, 0) from rfl, cM0] at hml
    exact hml
  rw [xk 25 (by decide) (by decide) (by decide) (by decide), xk 27 (by decide) (by decide) (by decide) (by decide), xk 29 (by decide) (by decide) (by decide) (by decide), x2, v2, u2 5 (by decide) (by decide)]
  have hPE := lpC_eq (now := ((w + k : Nat) : Int)) (nA := nA) (nT := nT) (fr := fr) (am := fun j => S2.1 52 j 2) (ex := S.1 27 0) (am' := S.1 25 0) (ex' := S.1 27 0) (s0 := fun j => S2.1 52 j 6) (s0' := S.1 29 0) (b0 := fun a => S2.2.1 48 a 6) (b0' := S.2.1 5 0) (fun j hj => (hfr j hj).1) (fun j hj => by rw [r1 52 (by decide)]; exact (hT j hj).2.2.2.1) (fun _ _ => rfl) (fun j hj => by rw [r1 52 (by decide)]; exact (hT j hj).2.2.2.2.2.2.2.1) (fun a ha => by rw [r2, q3 48 (by decide)]; exact (hA a ha).2.2.1) nT (Nat.le_refl _)
  rw [hPX] at hPE
  have hP1 := lpC_1 (now := ((w + k : Nat) : Int)) (fr := fr) (am := S.1 25 0) (ex := S.1 27 0) (s0 := S.1 29 0) (b0 := S.2.1 5 0) nT
  have hPO := lpC_out (now := ((w + k : Nat) : Int)) (nA := nA) (nT := nT) (fr := fr) (am := S.1 25 0) (ex := S.1 27 0) (s0 := S.1 29 0) (b0 := S.2.1 5 0) (fun j hj => (hfr j hj).1) nT (Nat.le_refl _)
  generalize hPM : lpC (↑(w + k)) fr (S.1 25 0) (S.1 27 0) (S.1 29 0) (S.2.1 5 0) nT = PM at *
  refine fin.eq (by rw [hPE.2.2]) ?_
  -- what stands now is U with states and balances changed
  have hdE : ∀ a, a < nA → dx a = dm a := by
    intro a ha
    have hE := rf_eq (S := S) (n := n) (nA := nA) (fun a ha => (hA a ha).2.2.2.2.2.2.2.1) nA (Nat.le_refl _) a ha
    have f1 : ∀ k, rfX S1 n k = rfX S n k := by
      intro k
      induction k with
      | zero => unfold rfX; rw [q1]
      | succ k ih => unfold rfX; rw [ih, q1]
    have f2 : ∀ k, rfM S4 n k = rfM S n k := by
      intro k
      induction k with
      | zero => unfold rfM; rw [v1 15 (by decide), u1 15 (by decide) (by decide)]
      | succ k ih => unfold rfM; rw [ih, v1 13 (by decide), u1 13 (by decide) (by decide), v1 14 (by decide), u1 14 (by decide) (by decide)]
    rw [← hdx, ← hdm, f1, f2]; exact hE
  have hU : cLa (cIa S5 29 PM.1) 5 PM.2.1 = cLa (cIa (cL (cI (cIa (sI (cI (sL S 40 0 10 (lN (w + k))) 49 2 dx) 0 0 2 (nI (w + k))) 15 dm) 52 6 PX.1) 48 6 PX.2.1) 29 PM.1) 5 PM.2.1 := by
    rw [← hS5, ← hS4, ← hS3, ← hS2, ← hS1]
    refine Prod.ext ?_ (Prod.ext ?_ rfl)
    · funext a i d
      simp only [cLa1, cIa1, cL1, cI1, gI1, gL1]
      by_cases y1 : a = 29 <;> by_cases y2 : a = 15 <;> by_cases y3 : a = 0 <;> by_cases y4 : a = 52 <;> simp_all
    · funext a i d
      simp only [cLa2, cIa2, cL2, cI2, gI2, gL2]
  rw [hU]
  refine hK _ (Inv4.give ?_ hPE.1 hPE.2.1 ?_ ?_)
  · -- now and the drops
    have eA : eqK [41, 48, 50, 51, 5, 6, 7, 8, 9, 10, 11, 12, 13, 14, 16, 17, 43, 52, 23, 24, 25, 26, 27, 28, 29, 30, 44, 32, 42, 45, 46, 47, 19, 20, 21] S (cIa (sI (cI (sL S 40 0 10 (lN (w + k))) 49 2 dx) 0 0 2 (nI (w + k))) 15 dm) := eqK.cIa (by decide) (eqK.I (by decide) (eqK.cI (by decide) (eqK.L (by decide) eqK.rf)))
    refine ⟨⟨b1, b2, ht⟩, hcn, hRf, ?_, ?_, fun a g1 g2 => (hZ a g1 g2).fr (eA.sub (by decide)), fun j hj => (hT j hj).fr (eA.sub (by decide)), hSt.fr2 (eA.sub (by decide)) (by simp [cIa1, gI1, cI1, gL1]) (by simp [cIa1, gI1, cI1, gL1]), hRt.fr2 (eA.sub (by decide)) (by simp [cIa1, gI1, cI1, gL1]) (by simp [cIa1, gI1, cI1, gL1])⟩
    · refine ⟨by simpa [cIa1, gI1, cI1, gL1] using s1, by simpa [cIa1, gI1, cI1, gL1] using s2, by simpa [cIa1, gI1, cI1, gL1] using s3, by simpa [cIa1, gI1, cI1, gL1] using s4, by simpa [cIa1, gI1, cI1, gL1] using s5, w + k, hw', by simp [cIa1, gI1], by simp [cIa2, gI2, cI2, gL2]⟩
    · intro a ha
      have g := (hA a ha).up (t' := t + 1) (by omega)
      obtain ⟨g1, g2, g3, g4, g5, g6, g7, g8, g9⟩ := g
      refine ⟨by simpa [cIa1, gI1, cI1, gL1, cIa3, gI3, cI3, gL3] using g1, by simpa [cIa1, gI1, cI1, gL1] using g2, by simpa [cIa2, gI2, cI2, gL2] using g3, by simpa [cIa1, gI1, cI1, gL1] using g4, by simpa [cIa1, gI1, cI1, gL1] using g5, by simpa [cIa1, gI1, cI1, gL1] using g6, by simpa [cIa2, gI2, cI2, gL2] using g7, ?_, by simpa [cIa1, gI1, cI1, gL1] using g9⟩
      obtain ⟨y1, y2, y3⟩ := g8
      exact ⟨by simpa [cIa1, gI1, cI1, gL1] using y1, by simpa [cIa1, gI1, cI1, gL1] using y2, by simpa [cIa1, gI1, cI1, gL1] using hdE a ha⟩
  · intro j hj
    rw [(hP1 j).1]
    simp [cIa1, gI1, cI1, gL1]
  · intro a ha
    rw [hPO a ha]
    simp [cIa2, gI2, cI2, gL2]
