/-! position: the same sum on both sides -/
def pSum (b : Nat → Int64) (w : Nat → Int32) : Nat → Int64
  | 0 => 0
  | n + 1 => pSum b w n + b n * (w n).toInt64
theorem X_pos_L {S : oSt} {nA : Nat} {post : Int64 → oSt → Prop} (h8 : nA ≤ 8) (hc : S.1 40 0 6 = nI nA) (hr : S.2.2 40 0 2 = some 0) (hA : ∀ a, a < nA → S.2.2 41 0 a = some a) (h : post (pSum (fun a => S.2.1 48 a 6) (fun a => S.1 48 a 5) nA) S) : ∀ m i, i + m = nA → wp_X_position_L4 post (m + 1) (pSum (fun a => S.2.1 48 a 6) (fun a => S.1 48 a 5) i) (nI i) S := by
  intro m
  induction m with
  | zero =>
    intro i hi
    have e : i = nA := by omega
    subst e
    unfold wp_X_position_L4
    rw [hc]
    exact ⟨fun _ => h, fun q => absurd (nI_le (Nat.le_refl _) (by omega)) q⟩
  | succ m ih =>
    intro i hi
    unfold wp_X_position_L4
    rw [hc]
    have hv : vp_in (nI i) 8 := vp_in_nI (by omega) (by decide)
    refine ⟨fun q => absurd q (nI_ge (by omega) (by omega)), fun _ => ⟨0, hr, hv, ?_⟩⟩
    rw [cl8 (by omega), hA i (by omega)]
    rintro o rfl
    refine ⟨i, rfl, 0, hr, hv, ?_⟩
    rintro o rfl
    refine ⟨i, hA i (by omega), ?_⟩
    rw [nI_1]
    exact ih (i + 1) (by omega)
theorem M_pos_L {S : oSt} {nA : Nat} {post : Int64 → oSt → Prop} (h8 : nA ≤ 8) (hc : S.1 0 0 4 = nI nA) (hr : S.2.2 0 0 5 = some 0) (hr2 : S.2.2 0 0 8 = some 0) (h : post (pSum (S.2.1 5 0) (S.1 8 0) nA) S) : ∀ m i, i + m = nA → wp_M_position_L4 post (m + 1) (pSum (S.2.1 5 0) (S.1 8 0) i) (nI i) S := by
  intro m
  induction m with
  | zero =>
    intro i hi
    have e : i = nA := by omega
    subst e
    unfold wp_M_position_L4
    rw [hc]
    exact ⟨fun _ => h, fun q => absurd (nI_le (Nat.le_refl _) (by omega)) q⟩
  | succ m ih =>
    intro i hi
    unfold wp_M_position_L4
    rw [hc]
    have hv : vp_in (nI i) 8 := vp_in_nI (by omega) (by decide)
    refine ⟨fun q => absurd q (nI_ge (by omega) (by omega)), fun _ => ⟨0, hr, hv, 0, hr2, hv, ?_⟩⟩
    rw [cl8 (by omega), nI_1]
    exact ih (i + 1) (by omega)
theorem pSum_eq {b b' : Nat → Int64} {w w' : Nat → Int32} {n : Nat} (h : ∀ a, a < n → b a = b' a ∧ w a = w' a) : pSum b w n = pSum b' w' n := by
  induction n with
  | zero => rfl
  | succ n ih =>
    unfold pSum
    rw [ih (fun a ha => h a (by omega)), (h n (by omega)).1, (h n (by omega)).2]
theorem sim_position {S : oSt} {cn : Nat → Nat} {t nA nT nS nR : Nat} (I : Inv4 S cn t nA nT nS nR) {K : oSt → Prop} (hK : K S) : wp_X_position S (fun r S1 => wp_M_position S1 (fun r' S2 => fin K r r' S2)) := by
  obtain ⟨⟨b1, b2, b3⟩, hcn, hRf, hSc, hA, hZ, hT, hSt, hRt⟩ := I
  unfold wp_X_position wp_M_position
  refine ⟨nA + 1, X_pos_L b1 hSc.1.1 hRf.2.1 (fun a ha => (hA a ha).1.1) ?_ nA 0 (by omega)⟩
  refine ⟨nA + 1, M_pos_L b1 hSc.1.2 (hRf.1 5 (by decide) (by decide) (by decide) (by decide) (by decide)) (hRf.1 8 (by decide) (by decide) (by decide) (by decide) (by decide)) ?_ nA 0 (by omega)⟩
  exact fin.eq (pSum_eq (fun a ha => ⟨(hA a ha).2.2.1, (hA a ha).2.1.2.2.1⟩)) hK
