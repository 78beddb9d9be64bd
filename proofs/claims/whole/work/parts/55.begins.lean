/-! prefixes of addresses -/
theorem nlet_ge {x : Int64} : ∀ m k j, j ≤ nlet x k m ↔ (j ≤ m ∧ ∀ i, i < j → lett (byt x (k + i)) = true) := by
  intro m
  induction m with
  | zero =>
    intro k j
    unfold nlet
    constructor
    · intro h; exact ⟨h, fun i hi => by omega⟩
    · intro h; exact h.1
  | succ m ih =>
    intro k j
    unfold nlet
    by_cases hl : lett (byt x k) = true
    · rw [if_pos hl]
      cases j with
      | zero => exact ⟨fun _ => ⟨by omega, fun i hi => by omega⟩, fun _ => by omega⟩
      | succ j =>
        rw [Nat.succ_le_succ_iff, ih (k + 1) j]
        constructor
        · rintro ⟨h1, h2⟩
          refine ⟨by omega, fun i hi => ?_⟩
          cases i with
          | zero => exact hl
          | succ i => have := h2 i (by omega); rw [show k + (i + 1) = k + 1 + i by omega]; exact this
        · rintro ⟨h1, h2⟩
          refine ⟨by omega, fun i hi => ?_⟩
          have := h2 (i + 1) (by omega); rw [show k + 1 + i = k + (i + 1) by omega]; exact this
    · rw [if_neg hl]
      constructor
      · intro h; exact ⟨by omega, fun i hi => by omega⟩
      · rintro ⟨h1, h2⟩
        cases j with
        | zero => omega
        | succ j => exact absurd (h2 0 (by omega)) hl
theorem vlen_ge {x : Int64} {j : Nat} : j ≤ vlen x ↔ (j ≤ 6 ∧ ∀ i, i < j → lett (byt x i) = true) := by
  have := nlet_ge (x := x) 6 0 j
  unfold vlen
  simpa using this
theorem mod_bytes {a b : Nat} : ∀ v, a % 256 ^ v = b % 256 ^ v ↔ ∀ i, i < v → a / 256 ^ i % 256 = b / 256 ^ i % 256 := by
  intro v
  induction v with
  | zero => simp [Nat.mod_one]
  | succ v ih =>
    rw [Nat.pow_succ, Nat.mod_mul, Nat.mod_mul]
    have hp : 0 < 256 ^ v := Nat.pow_pos (by decide)
    have ha := Nat.mod_lt a hp
    have hb := Nat.mod_lt b hp
    constructor
    · intro h
      have h1 : a % 256 ^ v = b % 256 ^ v := by
        have := congrArg (· % 256 ^ v) h
        simpa [Nat.add_mul_mod_self_left, Nat.mod_mod] using this
      rw [h1] at h
      have h2 := Nat.add_left_cancel h
      have h3 := Nat.eq_of_mul_eq_mul_left hp h2
      intro i hi
      by_cases e : i = v
      · subst e; exact h3
      · exact (ih.mp h1) i (by omega)
    · intro h
      rw [ih.mpr (fun i hi => h i (by omega)), h v (by omega)]
/-- p begins x -/
def Mt (p x : Int64) : Prop := uN p = uN x % 256 ^ vlen p
theorem Mt_iff {p x : Int64} (hp : vpre p) : Mt p x ↔ ∀ i, i < vlen p → byt x i = byt p i := by
  unfold Mt byt
  have e : uN p = uN p % 256 ^ vlen p := (Nat.mod_eq_of_lt hp).symm
  constructor
  · intro h i hi
    have h2 : uN x % 256 ^ vlen p = uN p % 256 ^ vlen p := by rw [← h]; exact e
    exact (mod_bytes _).mp h2 i hi
  · intro h
    rw [e]
    exact ((mod_bytes _).mpr h).symm
theorem Mt_len {p x : Int64} (hp : vpre p) (h : Mt p x) : vlen p ≤ vlen x := by
  rw [vlen_ge]
  have h6 := vlen_le (x := p)
  refine ⟨h6, fun i hi => ?_⟩
  rw [(Mt_iff hp).mp h i hi]
  exact (vlen_ge.mp (Nat.le_refl (vlen p))).2 i hi
/-- the first k letters -/
def fl (x : Int64) (k : Nat) : Int64 := lN (uN x % 256 ^ k)
theorem uN_fl {x : Int64} {k : Nat} : uN (fl x k) = uN x % 256 ^ k := wb_uN (Nat.lt_of_le_of_lt (Nat.mod_le _ _) (uN_lt x))
theorem fl_iff {p x : Int64} {k : Nat} (hx : k ≤ vlen x) : p = fl x k ↔ (Mt p x ∧ vlen p = k) := by
  have h6 := vlen_le (x := x)
  constructor
  · rintro rfl
    have hv : vlen (fl x k) = k := by
      have hb : ∀ i, i < k → byt (fl x k) i = byt x i := by
        intro i hi
        have := (mod_bytes (a := uN (fl x k)) (b := uN x) k).mp (by rw [uN_fl, Nat.mod_mod]) i hi
        exact this
      have h1 : k ≤ vlen (fl x k) := by
        rw [vlen_ge]
        refine ⟨by omega, fun i hi => ?_⟩
        rw [hb i hi]
        exact (vlen_ge.mp hx).2 i hi
      have h2 : ¬ k + 1 ≤ vlen (fl x k) := by
        rw [vlen_ge]
        rintro ⟨_, z⟩
        have hz := z k (by omega)
        have h0 : byt (fl x k) k = 0 := by
          unfold byt
          rw [uN_fl, Nat.div_eq_of_lt (Nat.mod_lt _ (Nat.pow_pos (by decide)))]
        rw [h0] at hz
        exact absurd hz (by decide)
      omega
    refine ⟨?_, hv⟩
    unfold Mt
    rw [hv, uN_fl]
  · rintro ⟨h, rfl⟩
    apply uN_inj
    rw [uN_fl]
    exact h
theorem X_firstLetters {S : oSt} {x : Int64} {k : Nat} (hk : k ≤ 6) {post : Int64 → oSt → Prop} (h : post (fl x k) S) : wp_R_firstLetters S x (nI k) post := by
  unfold wp_R_firstLetters
  have e8 : (8 : Int32) * nI k = nI (8 * k) := pk_mul 8 k
  have e1 : (1 : Int64) = lN 1 := rfl
  have hp : 0 < 2 ^ (8 * k) := Nat.pow_pos (by decide)
  rw [e8, e1, wb_shl 1 (show 8 * k < 64 by omega), Nat.one_mul, lN_sub hp]
  have := wb_mask (n := uN x) (k := 8 * k) (uN_lt x) (by omega)
  rw [uN_lN] at this
  rw [this, pw8]
  exact h
/-! the best way -/
def Bst (T : Int32 × Int64 × Int32 → Prop) (x : Int64) (y : Int32 × Int64 × Int32) : Prop := T y ∧ Mt y.2.1 x ∧ ∀ z, T z → Mt z.2.1 x → vlen z.2.1 < vlen y.2.1 ∨ (vlen z.2.1 = vlen y.2.1 ∧ (y.2.2 < z.2.2 ∨ (y.2.2 = z.2.2 ∧ y.1 ≤ z.1)))
theorem Bst_eq {T : Int32 × Int64 × Int32 → Prop} {x : Int64} {y z : Int32 × Int64 × Int32} (hy : Bst T x y) (hz : Bst T x z) : y.1 = z.1 := by
  rcases hy.2.2 z hz.1 hz.2.1 with a | ⟨a, a2⟩ <;> rcases hz.2.2 y hy.1 hy.2.1 with b | ⟨b, b2⟩
  · omega
  · omega
  · omega
  · rcases a2 with c | ⟨c, c2⟩ <;> rcases b2 with d | ⟨d, d2⟩
    · exact absurd c (Int32.not_lt.mpr (Int32.le_of_lt d))
    · rw [d] at c; exact absurd c (Int32.lt_irrefl)
    · rw [c] at d; exact absurd d (Int32.lt_irrefl)
    · exact Int32.le_antisymm c2 d2
theorem Bst_congr {T T' : Int32 × Int64 × Int32 → Prop} (h : ∀ x, T x ↔ T' x) {x : Int64} {y : Int32 × Int64 × Int32} (hy : Bst T x y) : Bst T' x y := ⟨(h y).mp hy.1, hy.2.1, fun z hz => hy.2.2 z ((h z).mpr hz)⟩
/-! the class's search -/
def nrr (h o : Nat → Int32) (i j : Nat) : Prop := h i < h j ∨ (h i = h j ∧ o i < o j)
theorem X_isNearer {S : oSt} {i j : Nat} (hi : i < 40) (hj : j < 40) (r0 : S.2.2 42 0 0 = some 0) (r2 : S.2.2 42 0 2 = some 0) {post : Int32 → oSt → Prop} (h1 : nrr (S.1 47 0) (S.1 45 0) i j → post 1 S) (h0 : ¬ nrr (S.1 47 0) (S.1 45 0) i j → post 0 S) : wp_R_isNearer S (nI i) (nI j) post := by
  have hvi : vp_in (nI i) 40 := vp_in_nI hi (by decide)
  have hvj : vp_in (nI j) 40 := vp_in_nI hj (by decide)
  unfold wp_R_isNearer
  refine ⟨0, r2, hvi, 0, r2, hvj, ?_⟩
  rw [cl8 (by omega), cl8 (by omega)]
  refine ⟨fun e => ⟨0, r0, hvi, 0, r0, hvj, fun q => h0 ?_, fun q => h1 (Or.inr ⟨e, Int32.not_le.mp q⟩)⟩, fun e => ⟨0, r2, hvi, 0, r2, hvj, fun q => h0 ?_, fun q => h1 (Or.inl (Int32.not_le.mp q))⟩⟩
  · rintro (z | ⟨_, z⟩)
    · rw [e] at z; exact Int32.lt_irrefl z
    · exact absurd z (Int32.not_lt.mpr q)
  · rintro (z | ⟨z, _⟩)
    · exact absurd z (Int32.not_lt.mpr q)
    · exact e z
/-- the nearest of the first k rows of prefix q, or none -/
def nst (o : Nat → Int32) (p : Nat → Int64) (h : Nat → Int32) (q : Int64) (k : Nat) (b : Int32) : Prop := (b = -1 ∧ ∀ i, i < k → p i ≠ q) ∨ ∃ i, i < k ∧ p i = q ∧ b = nI i ∧ ∀ j, j < k → p j = q → h i < h j ∨ (h i = h j ∧ o i ≤ o j)
theorem X_near_L {S : oSt} {n : Nat} {q : Int64} {post : Int32 → oSt → Prop} (hn : n ≤ 40) (hc : S.1 42 0 3 = nI n) (r0 : S.2.2 42 0 0 = some 0) (r1 : S.2.2 42 0 1 = some 0) (r2 : S.2.2 42 0 2 = some 0) (h : ∀ b, nst (S.1 45 0) (S.2.1 46 0) (S.1 47 0) q n b → post b S) : ∀ m k b, k + m = n → nst (S.1 45 0) (S.2.1 46 0) (S.1 47 0) q k b → wp_R_nearest_L5 post (m + 1) q b (nI k) S := by
  intro m
  induction m with
  | zero =>
    intro k b hk hb
    have e : k = n := by omega
    subst e
    unfold wp_R_nearest_L5
    rw [hc]
    exact ⟨fun _ => h b hb, fun z => absurd (nI_le (Nat.le_refl _) (by omega)) z⟩
  | succ m ih =>
    intro k b hk hb
    have hv : vp_in (nI k) 40 := vp_in_nI (by omega) (by decide)
    unfold wp_R_nearest_L5
    rw [hc, nI_1]
    refine ⟨fun z => absurd z (nI_ge (by omega) (by omega)), fun _ => ⟨0, r1, hv, ?_⟩⟩
    rw [cl8 (by omega)]
    refine ⟨fun z => ih (k + 1) b (by omega) ?_, fun z => ?_⟩
    · have hne : S.2.1 46 0 k ≠ q := fun y => z ((lg_cmp_eq _ _).mpr y)
      rcases hb with ⟨e, hb⟩ | ⟨i, hi, e1, e2, e3⟩
      · refine Or.inl ⟨e, fun i hi => ?_⟩
        by_cases ei : i = k
        · subst ei; exact hne
        · exact hb i (by omega)
      · refine Or.inr ⟨i, by omega, e1, e2, fun j hj hq => ?_⟩
        by_cases ej : j = k
        · subst ej; exact absurd hq hne
        · exact e3 j (by omega) hq
    · have heq : S.2.1 46 0 k = q := (lg_cmp_eq _ _).mp z
      rcases hb with ⟨e, hb⟩ | ⟨i, hi, e1, e2, e3⟩
      · subst e
        refine ⟨fun _ => ih (k + 1) (nI k) (by omega) (Or.inr ⟨k, by omega, heq, rfl, fun j hj hq => ?_⟩), fun y => absurd rfl y⟩
        by_cases ej : j = k
        · subst ej; exact Or.inr ⟨rfl, Int32.le_refl _⟩
        · exact absurd hq (hb j (by omega))
      · subst e2
        refine ⟨fun y => absurd y (fun w => nI_pos (n := i) (by omega) (by rw [w]; decide)), fun _ => X_isNearer (by omega) (by omega) r0 r2 (fun hr => ⟨fun y => absurd y (by decide), fun _ => ?_⟩) (fun hr => ⟨fun _ => ?_, fun y => absurd rfl y⟩)⟩
        · refine ih (k + 1) (nI k) (by omega) (Or.inr ⟨k, by omega, heq, rfl, fun j hj hq => ?_⟩)
          by_cases ej : j = k
          · subst ej; exact Or.inr ⟨rfl, Int32.le_refl _⟩
          · rcases e3 j (by omega) hq with c | ⟨c, c2⟩ <;> rcases hr with d | ⟨d, d2⟩
            · exact Or.inl (Int32.lt_trans d c)
            · exact Or.inl (by rw [d]; exact c)
            · exact Or.inl (by rw [← c]; exact d)
            · exact Or.inr ⟨d.trans c, Int32.le_of_lt (Int32.lt_of_lt_of_le d2 c2)⟩
        · refine ih (k + 1) (nI i) (by omega) (Or.inr ⟨i, by omega, e1, rfl, fun j hj hq => ?_⟩)
          by_cases ej : j = k
          · subst ej
            have n1 : ¬ S.1 47 0 j < S.1 47 0 i := fun y => hr (Or.inl y)
            rcases Int32.lt_or_eq_of_le (Int32.not_lt.mp n1) with c | c
            · exact Or.inl c
            · exact Or.inr ⟨c, Int32.not_lt.mp (fun y => hr (Or.inr ⟨c.symm, y⟩))⟩
          · exact e3 j (by omega) hq
theorem X_nearest {S : oSt} {n : Nat} {q : Int64} {post : Int32 → oSt → Prop} (hn : n ≤ 40) (hc : S.1 42 0 3 = nI n) (r0 : S.2.2 42 0 0 = some 0) (r1 : S.2.2 42 0 1 = some 0) (r2 : S.2.2 42 0 2 = some 0) (h : ∀ b, nst (S.1 45 0) (S.2.1 46 0) (S.1 47 0) q n b → post b S) : wp_R_nearest S q post := ⟨n + 1, X_near_L hn hc r0 r1 r2 h n 0 (-1) (by omega) (Or.inl ⟨rfl, fun i hi => absurd hi (Nat.not_lt_zero i)⟩)⟩
theorem X_acc_L {S : oSt} {n : Nat} {x : Int64} {post : Int32 → oSt → Prop} (hn : n ≤ 40) (hc : S.1 42 0 3 = nI n) (r0 : S.2.2 42 0 0 = some 0) (r1 : S.2.2 42 0 1 = some 0) (r2 : S.2.2 42 0 2 = some 0) (h1 : ∀ y, Bst (rT (S.1 45 0) (S.2.1 46 0) (S.1 47 0) n) x y → post y.1 S) (h0 : (∀ i, i < n → ¬ Mt (S.2.1 46 0 i) x) → post (-1) S) : ∀ k, k ≤ vlen x + 1 → (∀ i, i < n → Mt (S.2.1 46 0 i) x → vlen (S.2.1 46 0 i) < k) → wp_R_accountFor_L5 post (k + 1) x (nI k - 1) S := by
  have h6 := vlen_le (x := x)
  intro k
  induction k with
  | zero =>
    intro _ hz
    unfold wp_R_accountFor_L5
    exact ⟨fun _ => h0 (fun i hi z => absurd (hz i hi z) (Nat.not_lt_zero _)), fun z => absurd (by decide) z⟩
  | succ k ih =>
    intro hk hz
    rw [nI_pred]
    unfold wp_R_accountFor_L5
    refine ⟨fun z => absurd z (nI_pos (by omega)), fun _ => X_firstLetters (by omega) (X_nearest hn hc r0 r1 r2 (fun b hb => ?_))⟩
    rcases hb with ⟨rfl, hb⟩ | ⟨i, hi, e1, rfl, e3⟩
    · refine ⟨fun _ => ?_, fun z => absurd rfl z⟩
      have e : nI k + -1 = nI k - 1 := by
        cases k with
        | zero => decide
        | succ k => rw [pk_m1, nI_pred]
      rw [e]
      refine ih (by omega) (fun i hi hm => ?_)
      have := hz i hi hm
      have hne : vlen (S.2.1 46 0 i) ≠ k := fun y => hb i hi ((fl_iff (by omega)).mpr ⟨hm, y⟩)
      omega
    · refine ⟨fun z => absurd z (fun w => nI_pos (n := i) (by omega) (by rw [w]; decide)), fun _ => ⟨0, r0, vp_in_nI (by omega) (by decide), ?_⟩⟩
      rw [cl8 (by omega)]
      obtain ⟨m1, m2⟩ := (fl_iff (show k ≤ vlen x by omega)).mp e1
      refine h1 (S.1 45 0 i, S.2.1 46 0 i, S.1 47 0 i) ⟨⟨i, hi, rfl, rfl, rfl⟩, m1, ?_⟩
      rintro ⟨zo, zp, zh⟩ ⟨j, hj, f1, f2, f3⟩ hm
      simp only at f1 f2 f3 hm ⊢
      subst f1; subst f2; subst f3
      have hl := hz j hj hm
      rw [m2]
      by_cases e : vlen (S.2.1 46 0 j) = k
      · refine Or.inr ⟨e, e3 j hj ((fl_iff (by omega)).mpr ⟨hm, e⟩)⟩
      · exact Or.inl (by omega)
theorem X_accountFor {S : oSt} {n : Nat} {x : Int64} {post : Int32 → oSt → Prop} (hx : vpre x) (hn : n ≤ 40) (hc : S.1 42 0 3 = nI n) (r0 : S.2.2 42 0 0 = some 0) (r1 : S.2.2 42 0 1 = some 0) (r2 : S.2.2 42 0 2 = some 0) (hv : ∀ i, i < n → vpre (S.2.1 46 0 i)) (h1 : ∀ y, Bst (rT (S.1 45 0) (S.2.1 46 0) (S.1 47 0) n) x y → post y.1 S) (h0 : (∀ i, i < n → ¬ Mt (S.2.1 46 0 i) x) → post (-1) S) : wp_R_accountFor S x post := by
  unfold wp_R_accountFor
  refine X_letterCount (fun _ => ⟨vlen x + 1 + 1, ?_⟩) (fun z => absurd hx z)
  have := X_acc_L hn hc r0 r1 r2 h1 h0 (vlen x + 1) (Nat.le_refl _) (fun i hi hm => Nat.lt_succ_of_le (Mt_len (hv i hi) hm))
  rw [nI_pred] at this
  exact this
