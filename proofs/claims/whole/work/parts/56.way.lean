/-! the reference's search -/
theorem M_beg_L {S : oSt} {x p : Int64} {v : Nat} (hv : v ≤ 6) {post : Int32 → oSt → Prop} (h1 : (∀ i, i < v → byt x i = byt p i) → post 1 S) (h0 : ¬ (∀ i, i < v → byt x i = byt p i) → post 0 S) : ∀ m k, k + m = v → (((∀ i, i < k → byt x i = byt p i) → wp_M_begins_L12 post (m + 1) x p 1 (nI v) (nI k) S) ∧ (¬ (∀ i, i < k → byt x i = byt p i) → wp_M_begins_L12 post (m + 1) x p 0 (nI v) (nI k) S)) := by
  intro m
  induction m with
  | zero =>
    intro k hk
    have e : k = v := by omega
    subst e
    have hle : nI k ≤ nI k := nI_le (Nat.le_refl _) (by omega)
    unfold wp_M_begins_L12
    exact ⟨fun h => ⟨fun _ => ⟨by decide, h1 h⟩, fun z => absurd hle z⟩, fun h => ⟨fun _ => ⟨by decide, h0 h⟩, fun z => absurd hle z⟩⟩
  | succ m ih =>
    intro k hk
    obtain ⟨i1, i0⟩ := ih (k + 1) (by omega)
    have hnle : ¬ nI v ≤ nI k := nI_ge (by omega) (by omega)
    have hbx := byt_le (x := x) (k := k)
    have hbp := byt_le (x := p) (k := k)
    unfold wp_M_begins_L12
    refine ⟨fun h => ⟨fun z => absurd z hnle, fun _ => ⟨fun z => absurd z (by decide), fun _ => M_letterAt (by omega) (M_letterAt (by omega) ⟨fun z => ?_, fun z => ?_⟩)⟩⟩, fun h => ⟨fun z => absurd z hnle, fun _ => ⟨fun _ => ?_, fun z => absurd rfl z⟩⟩⟩
    · rw [nI_1]
      exact i0 (fun y => z (by rw [y k (by omega)]))
    · rw [nI_1]
      refine i1 (fun i hi => ?_)
      by_cases e : i = k
      · subst e; exact (nI_eq (by omega) (by omega)).mp z
      · exact h i (by omega)
    · rw [nI_1]
      exact i0 (fun y => h (fun i hi => y i (by omega)))
theorem M_begins {S : oSt} {x p : Int64} (hp : vpre p) {post : Int32 → oSt → Prop} (h1 : Mt p x → post 1 S) (h0 : ¬ Mt p x → post 0 S) : wp_M_begins S x p post := by
  unfold wp_M_begins
  refine M_lengthOf (fun _ => ⟨vlen p + 1, ?_⟩) (fun z => absurd hp z)
  exact (M_beg_L vlen_le (fun h => h1 ((Mt_iff hp).mpr h)) (fun h => h0 (fun z => h ((Mt_iff hp).mp z))) (vlen p) 0 (by omega)).1 (fun i hi => absurd hi (Nat.not_lt_zero i))
def btr (o : Nat → Int32) (p : Nat → Int64) (h : Nat → Int32) (r s : Nat) : Prop := vlen (p s) < vlen (p r) ∨ (vlen (p r) = vlen (p s) ∧ (h r < h s ∨ (h r = h s ∧ o r < o s)))
theorem M_better {S : oSt} {r s : Nat} (hr : r < 40) (hs : s < 40) (hf : ∀ f, 5 ≤ f → f ≤ 32 → f ≠ 18 → f ≠ 22 → f ≠ 31 → S.2.2 0 0 f = some 0) (hpr : vpre (S.2.1 20 0 r)) (hps : vpre (S.2.1 20 0 s)) {post : Int32 → oSt → Prop} (h1 : btr (S.1 19 0) (S.2.1 20 0) (S.1 21 0) r s → post 1 S) (h0 : ¬ btr (S.1 19 0) (S.2.1 20 0) (S.1 21 0) r s → post 0 S) : wp_M_better S (nI r) (nI s) post := by
  have hvr : vp_in (nI r) 40 := vp_in_nI hr (by decide)
  have hvs : vp_in (nI s) 40 := vp_in_nI hs (by decide)
  have l1 := vlen_le (x := S.2.1 20 0 r)
  have l2 := vlen_le (x := S.2.1 20 0 s)
  have f19 := hf 19 (by decide) (by decide) (by decide) (by decide) (by decide)
  have f20 := hf 20 (by decide) (by decide) (by decide) (by decide) (by decide)
  have f21 := hf 21 (by decide) (by decide) (by decide) (by decide) (by decide)
  unfold wp_M_better
  refine ⟨0, f20, hvr, ?_⟩
  rw [cl8 (by omega)]
  refine M_lengthOf (fun _ => ⟨0, f20, hvs, ?_⟩) (fun z => absurd hpr z)
  rw [cl8 (by omega)]
  refine M_lengthOf (fun _ => ?_) (fun z => absurd hps z)
  rw [nI_eq (by omega) (by omega), nI_leI (by omega) (by omega)]
  refine ⟨fun e => ⟨0, f21, hvr, 0, f21, hvs, fun q => h1 (Or.inr ⟨e, Or.inl q⟩), fun q => ⟨0, f21, hvr, 0, f21, hvs, fun q2 => h0 ?_, fun q2 => ⟨0, f19, hvr, 0, f19, hvs, fun q3 => h0 ?_, fun q3 => h1 (Or.inr ⟨e, Or.inr ⟨q2, Int32.not_le.mp q3⟩⟩)⟩⟩⟩, fun e => ⟨fun q => h0 ?_, fun q => h1 (Or.inl (by omega))⟩⟩
  · rintro (z | ⟨_, z | ⟨z, _⟩⟩)
    · omega
    · exact q z
    · exact q2 z
  · rintro (z | ⟨_, z | ⟨_, z⟩⟩)
    · omega
    · exact q z
    · exact absurd z (Int32.not_lt.mpr q3)
  · rintro (z | ⟨z, _⟩)
    · omega
    · exact e z
/-- the best of the first k rows that begin x, or none -/
def bsk (o : Nat → Int32) (p : Nat → Int64) (h : Nat → Int32) (x : Int64) (k : Nat) (b : Int32) : Prop := (b = -1 ∧ ∀ i, i < k → ¬ Mt (p i) x) ∨ ∃ i, i < k ∧ Mt (p i) x ∧ b = nI i ∧ ∀ j, j < k → Mt (p j) x → vlen (p j) < vlen (p i) ∨ (vlen (p j) = vlen (p i) ∧ (h i < h j ∨ (h i = h j ∧ o i ≤ o j)))
theorem M_way_L {S : oSt} {n : Nat} {x : Int64} {post : Int32 → oSt → Prop} (hn : n ≤ 40) (hc : S.1 0 0 18 = nI n) (hf : ∀ f, 5 ≤ f → f ≤ 32 → f ≠ 18 → f ≠ 22 → f ≠ 31 → S.2.2 0 0 f = some 0) (hv : ∀ i, i < n → vpre (S.2.1 20 0 i)) (h1 : ∀ y, Bst (rT (S.1 19 0) (S.2.1 20 0) (S.1 21 0) n) x y → post y.1 S) (h0 : (∀ i, i < n → ¬ Mt (S.2.1 20 0 i) x) → post (-1) S) : ∀ m k b, k + m = n → bsk (S.1 19 0) (S.2.1 20 0) (S.1 21 0) x k b → wp_M_way_L15 post (m + 1) x b (nI k) S := by
  have f19 := hf 19 (by decide) (by decide) (by decide) (by decide) (by decide)
  have f20 := hf 20 (by decide) (by decide) (by decide) (by decide) (by decide)
  intro m
  induction m with
  | zero =>
    intro k b hk hb
    have e : k = n := by omega
    subst e
    unfold wp_M_way_L15
    rw [hc]
    refine ⟨fun _ => ?_, fun z => absurd (nI_le (Nat.le_refl _) (by omega)) z⟩
    rcases hb with ⟨rfl, hb⟩ | ⟨i, hi, e1, rfl, e3⟩
    · exact ⟨fun z => absurd z (by decide), fun _ => h0 hb⟩
    · refine ⟨fun _ => ⟨0, f19, vp_in_nI (by omega) (by decide), ?_⟩, fun z => absurd (nI_pos' (by omega)) z⟩
      rw [cl8 (by omega)]
      refine h1 (S.1 19 0 i, S.2.1 20 0 i, S.1 21 0 i) ⟨⟨i, hi, rfl, rfl, rfl⟩, e1, ?_⟩
      rintro ⟨zo, zp, zh⟩ ⟨j, hj, f1, f2, f3⟩ hm
      simp only at f1 f2 f3 hm ⊢
      subst f1; subst f2; subst f3
      exact e3 j hj hm
  | succ m ih =>
    intro k b hk hb
    have hvk : vp_in (nI k) 40 := vp_in_nI (by omega) (by decide)
    unfold wp_M_way_L15
    rw [hc, nI_1]
    refine ⟨fun z => absurd z (nI_ge (by omega) (by omega)), fun _ => ⟨0, f20, hvk, ?_⟩⟩
    rw [cl8 (by omega)]
    refine M_begins (hv k (by omega)) (fun hm => ⟨fun z => absurd z (by decide), fun _ => ?_⟩) (fun hm => ⟨fun _ => ih (k + 1) b (by omega) ?_, fun z => absurd rfl z⟩)
    · rcases hb with ⟨rfl, hb⟩ | ⟨i, hi, e1, rfl, e3⟩
      · refine ⟨fun _ => ih (k + 1) (nI k) (by omega) (Or.inr ⟨k, by omega, hm, rfl, fun j hj hj2 => ?_⟩), fun z => absurd (by decide) z⟩
        by_cases ej : j = k
        · subst ej; exact Or.inr ⟨rfl, Or.inr ⟨rfl, Int32.le_refl _⟩⟩
        · exact absurd hj2 (hb j (by omega))
      · refine ⟨fun z => absurd z (nI_pos (by omega)), fun _ => M_better (by omega) (by omega) hf (hv k (by omega)) (hv i (by omega)) (fun hr => ⟨fun z => absurd z (by decide), fun _ => ih (k + 1) (nI k) (by omega) (Or.inr ⟨k, by omega, hm, rfl, fun j hj hj2 => ?_⟩)⟩) (fun hr => ⟨fun _ => ih (k + 1) (nI i) (by omega) (Or.inr ⟨i, by omega, e1, rfl, fun j hj hj2 => ?_⟩), fun z => absurd rfl z⟩)⟩
        · by_cases ej : j = k
          · subst ej; exact Or.inr ⟨rfl, Or.inr ⟨rfl, Int32.le_refl _⟩⟩
          · rcases e3 j (by omega) hj2 with c | ⟨c, c2⟩ <;> rcases hr with d | ⟨d, d2⟩
            · exact Or.inl (by omega)
            · exact Or.inl (by omega)
            · exact Or.inl (by omega)
            · refine Or.inr ⟨by omega, ?_⟩
              rcases c2 with c2 | ⟨c2, c3⟩ <;> rcases d2 with d2 | ⟨d2, d3⟩
              · exact Or.inl (Int32.lt_trans d2 c2)
              · exact Or.inl (by rw [d2]; exact c2)
              · exact Or.inl (by rw [← c2]; exact d2)
              · exact Or.inr ⟨d2.trans c2, Int32.le_of_lt (Int32.lt_of_lt_of_le d3 c3)⟩
        · by_cases ej : j = k
          · subst ej
            have n1 : ¬ vlen (S.2.1 20 0 i) < vlen (S.2.1 20 0 j) := fun z => hr (Or.inl z)
            by_cases el : vlen (S.2.1 20 0 j) = vlen (S.2.1 20 0 i)
            · refine Or.inr ⟨el, ?_⟩
              have n2 : ¬ S.1 21 0 j < S.1 21 0 i := fun z => hr (Or.inr ⟨el, Or.inl z⟩)
              rcases Int32.lt_or_eq_of_le (Int32.not_lt.mp n2) with c | c
              · exact Or.inl c
              · exact Or.inr ⟨c, Int32.not_lt.mp (fun z => hr (Or.inr ⟨el, Or.inr ⟨c.symm, z⟩⟩))⟩
            · exact Or.inl (by omega)
          · exact e3 j (by omega) hj2
    · rcases hb with ⟨e, hb⟩ | ⟨i, hi, e1, e2, e3⟩
      · refine Or.inl ⟨e, fun i hi => ?_⟩
        by_cases ei : i = k
        · subst ei; exact hm
        · exact hb i (by omega)
      · refine Or.inr ⟨i, by omega, e1, e2, fun j hj hj2 => ?_⟩
        by_cases ej : j = k
        · subst ej; exact absurd hj2 hm
        · exact e3 j (by omega) hj2
/-- the way: one account for both sides, or none -/
theorem way_cases {S : oSt} {nA nR : Nat} (h : iRt S nA nR) (x : Int64) : (∃ o y, o < nA ∧ Bst (rT (S.1 19 0) (S.2.1 20 0) (S.1 21 0) nR) x y ∧ y.1 = nI o) ∨ (∀ i, i < nR → ¬ Mt (S.2.1 20 0 i) x) := by
  obtain ⟨d1, d2, d3, d4, d5, d6, d7⟩ := h
  have key : ∀ k, k ≤ nR → ∃ b, bsk (S.1 19 0) (S.2.1 20 0) (S.1 21 0) x k b := by
    intro k
    induction k with
    | zero => intro _; exact ⟨-1, Or.inl ⟨rfl, fun i hi => absurd hi (Nat.not_lt_zero i)⟩⟩
    | succ k ih =>
      intro hk
      obtain ⟨b, hb⟩ := ih (by omega)
      by_cases hm : Mt (S.2.1 20 0 k) x
      · rcases hb with ⟨e, hb⟩ | ⟨i, hi, e1, e2, e3⟩
        · refine ⟨nI k, Or.inr ⟨k, by omega, hm, rfl, fun j hj hj2 => ?_⟩⟩
          by_cases ej : j = k
          · subst ej; exact Or.inr ⟨rfl, Or.inr ⟨rfl, Int32.le_refl _⟩⟩
          · exact absurd hj2 (hb j (by omega))
        · by_cases hr : btr (S.1 19 0) (S.2.1 20 0) (S.1 21 0) k i
          · refine ⟨nI k, Or.inr ⟨k, by omega, hm, rfl, fun j hj hj2 => ?_⟩⟩
            by_cases ej : j = k
            · subst ej; exact Or.inr ⟨rfl, Or.inr ⟨rfl, Int32.le_refl _⟩⟩
            · rcases e3 j (by omega) hj2 with c | ⟨c, c2⟩ <;> rcases hr with d | ⟨d, d2⟩
              · exact Or.inl (by omega)
              · exact Or.inl (by omega)
              · exact Or.inl (by omega)
              · refine Or.inr ⟨by omega, ?_⟩
                rcases c2 with c2 | ⟨c2, c3⟩ <;> rcases d2 with d2 | ⟨d2, d3⟩
                · exact Or.inl (Int32.lt_trans d2 c2)
                · exact Or.inl (by rw [d2]; exact c2)
                · exact Or.inl (by rw [← c2]; exact d2)
                · exact Or.inr ⟨d2.trans c2, Int32.le_of_lt (Int32.lt_of_lt_of_le d3 c3)⟩
          · refine ⟨nI i, Or.inr ⟨i, by omega, e1, rfl, fun j hj hj2 => ?_⟩⟩
            by_cases ej : j = k
            · subst ej
              have n1 : ¬ vlen (S.2.1 20 0 i) < vlen (S.2.1 20 0 j) := fun z => hr (Or.inl z)
              by_cases el : vlen (S.2.1 20 0 j) = vlen (S.2.1 20 0 i)
              · refine Or.inr ⟨el, ?_⟩
                have n2 : ¬ S.1 21 0 j < S.1 21 0 i := fun z => hr (Or.inr ⟨el, Or.inl z⟩)
                rcases Int32.lt_or_eq_of_le (Int32.not_lt.mp n2) with c | c
                · exact Or.inl c
                · exact Or.inr ⟨c, Int32.not_lt.mp (fun z => hr (Or.inr ⟨el, Or.inr ⟨c.symm, z⟩⟩))⟩
              · exact Or.inl (by omega)
            · exact e3 j (by omega) hj2
      · refine ⟨b, ?_⟩
        rcases hb with ⟨e, hb⟩ | ⟨i, hi, e1, e2, e3⟩
        · refine Or.inl ⟨e, fun i hi => ?_⟩
          by_cases ei : i = k
          · subst ei; exact hm
          · exact hb i (by omega)
        · refine Or.inr ⟨i, by omega, e1, e2, fun j hj hj2 => ?_⟩
          by_cases ej : j = k
          · subst ej; exact absurd hj2 hm
          · exact e3 j (by omega) hj2
  obtain ⟨b, hb⟩ := key nR (Nat.le_refl _)
  rcases hb with ⟨_, hb⟩ | ⟨i, hi, e1, e2, e3⟩
  · exact Or.inr hb
  · obtain ⟨o, ho, eo⟩ := (d7 i hi).2
    refine Or.inl ⟨o, (S.1 19 0 i, S.2.1 20 0 i, S.1 21 0 i), ho, ⟨⟨i, hi, rfl, rfl, rfl⟩, e1, ?_⟩, eo⟩
    rintro ⟨zo, zp, zh⟩ ⟨j, hj, f1, f2, f3⟩ hm
    simp only at f1 f2 f3 hm ⊢
    subst f1; subst f2; subst f3
    exact e3 j hj hm
/-- r is what both sides answer to the question for the way -/
def wayR (S : oSt) (nA nR : Nat) (x : Int64) (r : Int32) : Prop := ((∃ o, o < nA ∧ r = nI o) ∨ r = -1) ∧ ((∀ y, Bst (rT (S.1 19 0) (S.2.1 20 0) (S.1 21 0) nR) x y → y.1 = r) ∧ ((∀ i, i < nR → ¬ Mt (S.2.1 20 0 i) x) → r = -1))
theorem way_ex {S : oSt} {nA nR : Nat} (h : iRt S nA nR) (x : Int64) : ∃ r, wayR S nA nR x r := by
  rcases way_cases h x with ⟨o, y, ho, hy, e⟩ | hn
  · refine ⟨nI o, Or.inl ⟨o, ho, rfl⟩, fun z hz => (Bst_eq hz hy).trans e, fun hn => ?_⟩
    obtain ⟨⟨i, hi, -, f2, -⟩, hm, -⟩ := hy
    exact absurd (by rw [f2]; exact hm) (hn i hi)
  · refine ⟨-1, Or.inr rfl, fun y hy => ?_, fun _ => rfl⟩
    obtain ⟨⟨i, hi, -, f2, -⟩, hm, -⟩ := hy
    exact absurd (by rw [f2]; exact hm) (hn i hi)
theorem X_way_r {S : oSt} {nA nR : Nat} {x : Int64} {r : Int32} {post : Int32 → oSt → Prop} (hx : vpre x) (h : iRt S nA nR) (hRf : iRf S) (hr : wayR S nA nR x r) (hp : post r S) : wp_R_accountFor S x post := by
  obtain ⟨d1, d2, d3, d4, d5, d6, d7⟩ := h
  have hrow : ∀ i, i < nR → ∃ j, j < nR ∧ S.2.1 20 0 j = S.2.1 46 0 i := by
    intro i hi
    obtain ⟨j, hj, -, f2, -⟩ := (d6 (S.1 45 0 i, S.2.1 46 0 i, S.1 47 0 i)).mp ⟨i, hi, rfl, rfl, rfl⟩
    exact ⟨j, hj, f2⟩
  have hrow' : ∀ i, i < nR → ∃ j, j < nR ∧ S.2.1 46 0 j = S.2.1 20 0 i := by
    intro i hi
    obtain ⟨j, hj, -, f2, -⟩ := (d6 (S.1 19 0 i, S.2.1 20 0 i, S.1 21 0 i)).mpr ⟨i, hi, rfl, rfl, rfl⟩
    exact ⟨j, hj, f2⟩
  refine X_accountFor hx d1 d2 hRf.2.2.2.2.2.1 hRf.2.2.2.2.2.2.1 hRf.2.2.2.2.2.2.2 (fun i hi => ?_) (fun y hy => ?_) (fun hn => ?_)
  · obtain ⟨j, hj, e⟩ := hrow i hi
    rw [← e]; exact (d7 j hj).1
  · rw [hr.2.1 y (Bst_congr d6 hy)]; exact hp
  · rw [← hr.2.2 (fun i hi hm => ?_)]; exact hp
    obtain ⟨j, hj, e⟩ := hrow' i hi
    exact hn j hj (by rw [e]; exact hm)
theorem M_way_r {S T : oSt} {nA nR : Nat} {x : Int64} {r : Int32} {post : Int32 → oSt → Prop} (hx : vpre x) (h1 : 1 ≤ vlen x) (h : iRt S nA nR) (e : eqK [0, 19, 20, 21] S T) (hRf : iRf S) (hr : wayR S nA nR x r) (hp : post r T) : wp_M_way T x post := by
  obtain ⟨d1, d2, d3, d4, d5, d6, d7⟩ := h
  have hl := vlen_le (x := x)
  have e0 := e 0 (by decide)
  have e19 := (e 19 (by decide)).1
  have e20 := (e 20 (by decide)).2.1
  have e21 := (e 21 (by decide)).1
  have tf : ∀ f, 5 ≤ f → f ≤ 32 → f ≠ 18 → f ≠ 22 → f ≠ 31 → T.2.2 0 0 f = some 0 := by rw [e0.2.2]; exact hRf.1
  unfold wp_M_way
  refine M_lengthOf (fun _ => ⟨fun _ => ⟨nR + 1, ?_⟩, fun z => absurd (show (1 : Int32) ≤ nI (vlen x) from nI_le (a := 1) h1 (by omega)) z⟩) (fun z => absurd hx z)
  refine M_way_L d1 (by rw [e0.1]; exact d3) tf (fun i hi => by rw [e20]; exact (d7 i hi).1) (fun y hy => ?_) (fun hn => ?_) nR 0 (-1) (by omega) (Or.inl ⟨rfl, fun i hi => absurd hi (Nat.not_lt_zero i)⟩)
  · rw [e19, e20, e21] at hy
    rw [hr.2.1 y hy]; exact hp
  · rw [e20] at hn
    rw [← hr.2.2 hn]; exact hp
theorem sim_way {S : oSt} {cn : Nat → Nat} {t nA nT nS nR : Nat} (I : Inv4 S cn t nA nT nS nR) (x : Int64) {K : oSt → Prop} (hK : K S) : wp_X_way S x (fun r S1 => wp_M_way S1 x (fun r' S2 => fin K r r' S2)) := by
  obtain ⟨⟨b1, b2, b3⟩, hcn, hRf, hSc, hA, hZ, hT, hSt, hRt⟩ := I
  have hl := vlen_le (x := x)
  have hbad : ¬ (vpre x ∧ 1 ≤ vlen x) → wp_M_way S x (fun r' S2 => fin K (-1 : Int32) r' S2) := by
    intro z
    unfold wp_M_way
    refine M_lengthOf (fun hp => ⟨fun y => ?_, fun _ => fin.ok hK⟩) (fun _ => ⟨fun y => absurd y (by decide), fun _ => fin.ok hK⟩)
    exfalso
    rw [show (1 : Int32) = nI 1 from rfl, nI_leI (by decide) (by omega)] at y
    exact z ⟨hp, y⟩
  unfold wp_X_way wp_X_isAddress
  refine X_letterCount (fun hp => ⟨fun y => ?_, fun y => ?_⟩) (fun hp => ⟨fun _ => ⟨fun _ => hbad (fun z => hp z.1), fun z => absurd rfl z⟩, fun y => absurd (by decide) y⟩)
  · rw [show (1 : Int32) = nI 1 from rfl, nI_ltI (by omega) (by decide)] at y
    exact ⟨fun _ => hbad (fun z => by omega), fun z => absurd rfl z⟩
  · rw [show (1 : Int32) = nI 1 from rfl, nI_ltI (by omega) (by decide)] at y
    refine ⟨fun z => absurd z (by decide), fun _ => ⟨0, hRf.2.2.1, rfl, ?_⟩⟩
    obtain ⟨r, hr⟩ := way_ex hRt x
    exact X_way_r hp hRt hRf hr (M_way_r hp (by omega) hRt eqK.rf hRf hr (fin.ok hK))
