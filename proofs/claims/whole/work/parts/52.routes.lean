/-! routes: finding a row by owner and prefix -/
def hit (o : Nat → Int32) (p : Nat → Int64) (a : Int32) (x : Int64) (i : Nat) : Prop := o i = a ∧ p i = x
theorem X_place_L {S : oSt} {n : Nat} {a : Int32} {x : Int64} {post : Int32 → oSt → Prop} (hn : n ≤ 40) (hc : S.1 42 0 3 = nI n) (r0 : S.2.2 42 0 0 = some 0) (r1 : S.2.2 42 0 1 = some 0) (h1 : ∀ i, i < n → hit (S.1 45 0) (S.2.1 46 0) a x i → post (nI i) S) (h0 : (∀ i, i < n → ¬ hit (S.1 45 0) (S.2.1 46 0) a x i) → post (-1) S) : ∀ m i, i + m = n → (∀ q, q < i → ¬ hit (S.1 45 0) (S.2.1 46 0) a x q) → wp_R_placeOf_L3 post (m + 1) a x (nI i) S := by
  intro m
  induction m with
  | zero =>
    intro i hi hz
    have e : i = n := by omega
    subst e
    unfold wp_R_placeOf_L3
    rw [hc]
    exact ⟨fun _ => h0 hz, fun q => absurd (nI_le (Nat.le_refl _) (by omega)) q⟩
  | succ m ih =>
    intro i hi hz
    have hv : vp_in (nI i) 40 := vp_in_nI (by omega) (by decide)
    have hnext : ¬ hit (S.1 45 0) (S.2.1 46 0) a x i → wp_R_placeOf_L3 post (m + 1) a x (nI i + 1) S := by
      intro z
      rw [nI_1]
      refine ih (i + 1) (by omega) (fun q hq => ?_)
      by_cases e : q = i
      · subst e; exact z
      · exact hz q (by omega)
    unfold wp_R_placeOf_L3
    rw [hc]
    refine ⟨fun q => absurd q (nI_ge (by omega) (by omega)), fun _ => ⟨0, r0, hv, ?_⟩⟩
    rw [cl8 (by omega)]
    refine ⟨fun q => hnext (fun z => q z.1), fun q => ⟨0, r1, hv, fun q2 => hnext (fun z => q2 ((lg_cmp_eq _ _).mpr z.2)), fun q2 => h1 i (by omega) ⟨q, (lg_cmp_eq _ _).mp q2⟩⟩⟩
theorem X_placeOf {S : oSt} {n : Nat} {a : Int32} {x : Int64} {post : Int32 → oSt → Prop} (hn : n ≤ 40) (hc : S.1 42 0 3 = nI n) (r0 : S.2.2 42 0 0 = some 0) (r1 : S.2.2 42 0 1 = some 0) (h1 : ∀ i, i < n → hit (S.1 45 0) (S.2.1 46 0) a x i → post (nI i) S) (h0 : (∀ i, i < n → ¬ hit (S.1 45 0) (S.2.1 46 0) a x i) → post (-1) S) : wp_R_placeOf S a x post := ⟨n + 1, X_place_L hn hc r0 r1 h1 h0 n 0 (by omega) (fun q hq => absurd hq (Nat.not_lt_zero q))⟩
theorem M_find_L {S : oSt} {n : Nat} {a : Int32} {x : Int64} {post : Int32 → oSt → Prop} (hn : n ≤ 40) (hc : S.1 0 0 18 = nI n) (hf : ∀ f, 5 ≤ f → f ≤ 32 → f ≠ 18 → f ≠ 22 → f ≠ 31 → S.2.2 0 0 f = some 0) (h1 : ∀ i, i < n → hit (S.1 19 0) (S.2.1 20 0) a x i → post (nI i) S) (h0 : (∀ i, i < n → ¬ hit (S.1 19 0) (S.2.1 20 0) a x i) → post (-1) S) : ∀ m i (at_ : Int32), i + m = n → ((at_ = -1 ∧ ∀ q, q < i → ¬ hit (S.1 19 0) (S.2.1 20 0) a x q) ∨ ∃ q, q < n ∧ hit (S.1 19 0) (S.2.1 20 0) a x q ∧ at_ = nI q) → wp_M_find_L6 post (m + 1) a x at_ (nI i) S := by
  intro m
  induction m with
  | zero =>
    intro i at_ hi hz
    have e : i = n := by omega
    subst e
    unfold wp_M_find_L6
    rw [hc]
    refine ⟨fun _ => ?_, fun q => absurd (nI_le (Nat.le_refl _) (by omega)) q⟩
    rcases hz with ⟨rfl, hz⟩ | ⟨q, hq, hh, rfl⟩
    · exact h0 hz
    · exact h1 q hq hh
  | succ m ih =>
    intro i at_ hi hz
    have hv : vp_in (nI i) 40 := vp_in_nI (by omega) (by decide)
    have hnext : ¬ hit (S.1 19 0) (S.2.1 20 0) a x i → wp_M_find_L6 post (m + 1) a x at_ (nI i + 1) S := by
      intro z
      rw [nI_1]
      refine ih (i + 1) at_ (by omega) ?_
      rcases hz with ⟨e, hz⟩ | hz
      · refine Or.inl ⟨e, fun q hq => ?_⟩
        by_cases e : q = i
        · subst e; exact z
        · exact hz q (by omega)
      · exact Or.inr hz
    unfold wp_M_find_L6
    rw [hc]
    refine ⟨fun q => absurd q (nI_ge (by omega) (by omega)), fun _ => ⟨0, hf 19 (by decide) (by decide) (by decide) (by decide) (by decide), hv, ?_⟩⟩
    rw [cl8 (by omega)]
    refine ⟨fun q => hnext (fun z => q z.1), fun q => ⟨0, hf 20 (by decide) (by decide) (by decide) (by decide) (by decide), hv, fun q2 => hnext (fun z => q2 ((lg_cmp_eq _ _).mpr z.2)), fun q2 => ?_⟩⟩
    rw [nI_1]
    exact ih (i + 1) (nI i) (by omega) (Or.inr ⟨i, by omega, ⟨q, (lg_cmp_eq _ _).mp q2⟩, rfl⟩)
theorem M_find {S : oSt} {n : Nat} {a : Int32} {x : Int64} {post : Int32 → oSt → Prop} (hn : n ≤ 40) (hc : S.1 0 0 18 = nI n) (hf : ∀ f, 5 ≤ f → f ≤ 32 → f ≠ 18 → f ≠ 22 → f ≠ 31 → S.2.2 0 0 f = some 0) (h1 : ∀ i, i < n → hit (S.1 19 0) (S.2.1 20 0) a x i → post (nI i) S) (h0 : (∀ i, i < n → ¬ hit (S.1 19 0) (S.2.1 20 0) a x i) → post (-1) S) : wp_M_find S a x post := ⟨n + 1, M_find_L hn hc hf h1 h0 n 0 (-1) (by omega) (Or.inl ⟨rfl, fun q hq => absurd hq (Nat.not_lt_zero q)⟩)⟩
/-! tables as sets -/
theorem rT_set {o : Nat → Int32} {p : Nat → Int64} {h : Nat → Int32} {n i : Nat} {v : Int32} (hu : rU o p n) (hi : i < n) (x : Int32 × Int64 × Int32) : rT o p (upd h i v) n x ↔ (rT o p h n x ∧ ¬ (x.1 = o i ∧ x.2.1 = p i)) ∨ x = (o i, p i, v) := by
  constructor
  · rintro ⟨j, hj, e1, e2, e3⟩
    by_cases e : j = i
    · subst e
      rw [pk_us] at e3
      exact Or.inr (by rw [e1, e2, e3])
    · rw [pk_un e] at e3
      refine Or.inl ⟨⟨j, hj, e1, e2, e3⟩, fun z => e (hu j i hj hi (e1.trans z.1) (e2.trans z.2))⟩
  · rintro (⟨⟨j, hj, e1, e2, e3⟩, hne⟩ | rfl)
    · have e : j ≠ i := by rintro rfl; exact hne ⟨e1.symm, e2.symm⟩
      exact ⟨j, hj, e1, e2, by rw [pk_un e]; exact e3⟩
    · exact ⟨i, hi, rfl, rfl, by rw [pk_us]⟩
theorem rT_app {o : Nat → Int32} {p : Nat → Int64} {h : Nat → Int32} {n : Nat} {a v : Int32} {q : Int64} (x : Int32 × Int64 × Int32) : rT (upd o n a) (vp_updL p n q) (upd h n v) (n + 1) x ↔ rT o p h n x ∨ x = (a, q, v) := by
  constructor
  · rintro ⟨j, hj, e1, e2, e3⟩
    by_cases e : j = n
    · subst e
      rw [pk_us] at e1 e3
      rw [pk_uLs] at e2
      exact Or.inr (by rw [e1, e2, e3])
    · rw [pk_un e] at e1 e3
      rw [pk_uLn e] at e2
      exact Or.inl ⟨j, by omega, e1, e2, e3⟩
  · rintro (⟨j, hj, e1, e2, e3⟩ | rfl)
    · have e : j ≠ n := by omega
      exact ⟨j, by omega, by rw [pk_un e]; exact e1, by rw [pk_uLn e]; exact e2, by rw [pk_un e]; exact e3⟩
    · exact ⟨n, by omega, by rw [pk_us], by rw [pk_uLs], by rw [pk_us]⟩
theorem rU_app {o : Nat → Int32} {p : Nat → Int64} {n : Nat} {a : Int32} {q : Int64} (hu : rU o p n) (hn : ∀ i, i < n → ¬ hit o p a q i) : rU (upd o n a) (vp_updL p n q) (n + 1) := by
  intro i j hi hj e1 e2
  by_cases ei : i = n <;> by_cases ej : j = n
  · omega
  · subst ei
    rw [pk_us, pk_un ej] at e1
    rw [pk_uLs, pk_uLn ej] at e2
    exact absurd ⟨e1.symm, e2.symm⟩ (hn j (by omega))
  · subst ej
    rw [pk_us, pk_un ei] at e1
    rw [pk_uLs, pk_uLn ei] at e2
    exact absurd ⟨e1, e2⟩ (hn i (by omega))
  · rw [pk_un ei, pk_un ej] at e1
    rw [pk_uLn ei, pk_uLn ej] at e2
    exact hu i j (by omega) (by omega) e1 e2
/-- a row goes: by a map of the places that are left into the old ones -/
theorem rT_del {o o' : Nat → Int32} {p p' : Nat → Int64} {h h' : Nat → Int32} {n i : Nat} (f : Nat → Nat) (hu : rU o p (n + 1)) (hi : i < n + 1) (hf : ∀ j, j < n → f j < n + 1 ∧ f j ≠ i ∧ o' j = o (f j) ∧ p' j = p (f j) ∧ h' j = h (f j)) (hs : ∀ j, j < n + 1 → j ≠ i → ∃ k, k < n ∧ f k = j) (x : Int32 × Int64 × Int32) : rT o' p' h' n x ↔ rT o p h (n + 1) x ∧ ¬ (x.1 = o i ∧ x.2.1 = p i) := by
  constructor
  · rintro ⟨j, hj, e1, e2, e3⟩
    obtain ⟨f1, f2, f3, f4, f5⟩ := hf j hj
    refine ⟨⟨f j, f1, f3.symm.trans e1, f4.symm.trans e2, f5.symm.trans e3⟩, fun z => f2 (hu (f j) i f1 hi ?_ ?_)⟩
    · rw [← f3, e1]; exact z.1
    · rw [← f4, e2]; exact z.2
  · rintro ⟨⟨j, hj, e1, e2, e3⟩, hne⟩
    have e : j ≠ i := by rintro rfl; exact hne ⟨e1.symm, e2.symm⟩
    obtain ⟨k, hk, rfl⟩ := hs j hj e
    obtain ⟨f1, f2, f3, f4, f5⟩ := hf k hk
    exact ⟨k, hk, f3.trans e1, f4.trans e2, f5.trans e3⟩
theorem rU_del {o o' : Nat → Int32} {p p' : Nat → Int64} {n : Nat} (f : Nat → Nat) (hu : rU o p (n + 1)) (hf : ∀ j, j < n → f j < n + 1 ∧ o' j = o (f j) ∧ p' j = p (f j)) (hinj : ∀ j k, j < n → k < n → f j = f k → j = k) : rU o' p' n := by
  intro j k hj hk e1 e2
  obtain ⟨f1, f2, f3⟩ := hf j hj
  obtain ⟨g1, g2, g3⟩ := hf k hk
  exact hinj j k hj hk (hu _ _ f1 g1 (by rw [← f2, ← g2]; exact e1) (by rw [← f3, ← g3]; exact e2))
/-- both sides know a row, or neither -/
theorem hit_iff {o o' : Nat → Int32} {p p' : Nat → Int64} {h h' : Nat → Int32} {n : Nat} (e : ∀ x, rT o p h n x ↔ rT o' p' h' n x) (a : Int32) (q : Int64) : (∃ i, i < n ∧ hit o p a q i) ↔ ∃ i, i < n ∧ hit o' p' a q i := by
  constructor
  · rintro ⟨i, hi, e1, e2⟩
    obtain ⟨j, hj, f1, f2, -⟩ := (e (a, q, h i)).mp ⟨i, hi, e1, e2, rfl⟩
    exact ⟨j, hj, f1, f2⟩
  · rintro ⟨i, hi, e1, e2⟩
    obtain ⟨j, hj, f1, f2, -⟩ := (e (a, q, h' i)).mpr ⟨i, hi, e1, e2, rfl⟩
    exact ⟨j, hj, f1, f2⟩
