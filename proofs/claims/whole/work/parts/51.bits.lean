/-! bits of longs (pasted from the kit's laws/BITS, the family wb_) -/
theorem wb_tb (n : Nat) : (lN n).toBitVec = BitVec.ofNat 64 n := rfl
theorem wb_inj {a b : Int64} (h : a.toBitVec = b.toBitVec) : a = b := Int64.toBitVec_inj.mp h
theorem wb_tn {n : Nat} (h : n < 2 ^ 64) : (lN n).toBitVec.toNat = n := by rw [wb_tb, BitVec.toNat_ofNat, Nat.mod_eq_of_lt h]
theorem wb_of (x : Int64) : ∃ n, n < 2 ^ 64 ∧ x = lN n := ⟨x.toBitVec.toNat, x.toBitVec.isLt, wb_inj (by rw [wb_tb]; simp)⟩
theorem wb_of32 (x : Int32) : ∃ n, n < 2 ^ 32 ∧ x = nI n := ⟨x.toBitVec.toNat, x.toBitVec.isLt, Int32.toBitVec_inj.mp (by show _ = BitVec.ofNat 32 _; simp)⟩
theorem wb_c : ∀ k, k < 64 → ((nI k).toInt64 &&& 63) = lN k := by decide +kernel
theorem wb_cu : ∀ k, k < 64 → ((nI k).toInt64.toUInt64 &&& Int64.toUInt64 63) = UInt64.ofNat k := by decide +kernel
theorem wb_sm : ∀ k, k < 64 → (BitVec.ofNat 64 k).smod 64 = BitVec.ofNat 64 k := by decide +kernel
theorem wb_pw {a b : Nat} (h : a ≤ b) : 2 ^ b = 2 ^ a * 2 ^ (b - a) := by rw [← Nat.pow_add]; congr 1; omega
theorem wb_lt2 {a b : Nat} (h : a < b) : 2 ^ a < 2 ^ b := Nat.pow_lt_pow_right (by decide) h
theorem wb_mod (n : Nat) : lN n = lN (n % 2 ^ 64) := wb_inj (by rw [wb_tb, wb_tb]; apply BitVec.eq_of_toNat_eq; rw [BitVec.toNat_ofNat, BitVec.toNat_ofNat, Nat.mod_mod])
theorem wb_shr {n k : Nat} (hn : n < 2 ^ 64) (hk : k < 64) : ((lN n).toUInt64 >>> ((nI k).toInt64.toUInt64 &&& Int64.toUInt64 63)).toInt64 = lN (n / 2 ^ k) := by
  rw [wb_cu k hk]
  apply wb_inj
  apply BitVec.eq_of_toNat_eq
  show ((lN n).toUInt64 >>> UInt64.ofNat k).toNat = (BitVec.ofNat 64 _).toNat
  have h1 : (UInt64.ofNat k).toNat = k := by
    show (BitVec.ofNat 64 k).toNat = k
    rw [BitVec.toNat_ofNat, Nat.mod_eq_of_lt (by omega)]
  have h2 : (lN n).toUInt64.toNat = n := wb_tn hn
  rw [UInt64.toNat_shiftRight, h1, h2, Nat.mod_eq_of_lt hk, Nat.shiftRight_eq_div_pow, BitVec.toNat_ofNat, Nat.mod_eq_of_lt (Nat.lt_of_le_of_lt (Nat.div_le_self _ _) hn)]
theorem wb_shl (n : Nat) {k : Nat} (hk : k < 64) : lN n <<< ((nI k).toInt64 &&& 63) = lN (n * 2 ^ k) := by
  rw [wb_c k hk]
  apply wb_inj
  rw [Int64.toBitVec_shiftLeft, wb_tb, wb_tb, wb_tb, wb_sm k hk]
  apply BitVec.eq_of_toNat_eq
  rw [BitVec.shiftLeft_eq', BitVec.toNat_shiftLeft, BitVec.toNat_ofNat, BitVec.toNat_ofNat, BitVec.toNat_ofNat, Nat.mod_eq_of_lt (show k < 2 ^ 64 by omega), Nat.shiftLeft_eq, Nat.mul_mod, Nat.mod_mod, ← Nat.mul_mod]
theorem wb_and {a b : Nat} (ha : a < 2 ^ 64) (hb : b < 2 ^ 64) : lN a &&& lN b = lN (a &&& b) := by
  apply wb_inj
  rw [Int64.toBitVec_and, wb_tb, wb_tb, wb_tb]
  apply BitVec.eq_of_toNat_eq
  rw [BitVec.toNat_and, BitVec.toNat_ofNat, BitVec.toNat_ofNat, BitVec.toNat_ofNat, Nat.mod_eq_of_lt ha, Nat.mod_eq_of_lt hb, Nat.mod_eq_of_lt (Nat.and_lt_two_pow _ hb)]
theorem wb_or {a b : Nat} (ha : a < 2 ^ 64) (hb : b < 2 ^ 64) : lN a ||| lN b = lN (a ||| b) := by
  apply wb_inj
  rw [Int64.toBitVec_or, wb_tb, wb_tb, wb_tb]
  apply BitVec.eq_of_toNat_eq
  rw [BitVec.toNat_or, BitVec.toNat_ofNat, BitVec.toNat_ofNat, BitVec.toNat_ofNat, Nat.mod_eq_of_lt ha, Nat.mod_eq_of_lt hb, Nat.mod_eq_of_lt (Nat.or_lt_two_pow ha hb)]
theorem wb_mask {n k : Nat} (hn : n < 2 ^ 64) (hk : k < 64) : lN n &&& lN (2 ^ k - 1) = lN (n % 2 ^ k) := by
  rw [wb_and hn (by have := wb_lt2 hk; omega), Nat.and_two_pow_sub_one_eq_mod]
theorem wb_uN {n : Nat} (h : n < 2 ^ 64) : uN (lN n) = n := wb_tn h
theorem uN_lt (x : Int64) : uN x < 2 ^ 64 := x.toBitVec.isLt
theorem uN_lN (x : Int64) : lN (uN x) = x := by
  obtain ⟨n, hn, rfl⟩ := wb_of x
  rw [wb_uN hn]
theorem uN_inj {x y : Int64} (h : uN x = uN y) : x = y := by rw [← uN_lN x, ← uN_lN y, h]
theorem wb_sar {n k : Nat} (hn : n < 2 ^ 64) (hk : k ≤ 56) : (lN n >>> ((nI k).toInt64 &&& 63)) &&& 255 = lN (n / 2 ^ k % 256) := by
  rw [wb_c k (by omega)]
  apply wb_inj
  have e255 : (255 : Int64).toBitVec = BitVec.ofNat 64 255 := rfl
  rw [Int64.toBitVec_and, Int64.toBitVec_shiftRight, wb_tb, wb_tb, wb_tb, wb_sm k (by omega), e255]
  apply BitVec.eq_of_getLsbD_eq
  intro i hi
  have e1 : (255 : Nat) = 2 ^ 8 - 1 := by decide
  have e2 : (256 : Nat) = 2 ^ 8 := by decide
  have ek : (BitVec.ofNat 64 k).toNat = k := by rw [BitVec.toNat_ofNat, Nat.mod_eq_of_lt (by omega)]
  rw [BitVec.getLsbD_and, BitVec.getLsbD_ofNat, BitVec.getLsbD_ofNat, e1, Nat.testBit_two_pow_sub_one, e2, Nat.testBit_mod_two_pow, Nat.testBit_div_two_pow]
  by_cases h8 : i < 8
  · have e3 : ((BitVec.ofNat 64 n).sshiftRight' (BitVec.ofNat 64 k)).getLsbD i = n.testBit (i + k) := by
      rw [BitVec.sshiftRight_eq', ek, BitVec.getLsbD_sshiftRight, if_pos (by omega), BitVec.getLsbD_ofNat]
      have : k + i < 64 := by omega
      simp [hi, this, Nat.add_comm]
    rw [e3]
    simp [hi, h8]
  · simp [h8]
theorem byt_le {x : Int64} {k : Nat} : byt x k < 256 := Nat.mod_lt _ (by decide)
theorem pw8 (k : Nat) : 2 ^ (8 * k) = 256 ^ k := by rw [Nat.pow_mul]
/-! the reference's letters -/
theorem M_letterAt {S : oSt} {x : Int64} {k : Nat} (hk : k ≤ 7) {post : Int32 → oSt → Prop} (h : post (nI (byt x k)) S) : wp_M_letterAt S x (nI k) post := by
  unfold wp_M_letterAt
  have e8 : (8 : Int32) * nI k = nI (8 * k) := pk_mul 8 k
  rw [e8, ← uN_lN x, wb_sar (uN_lt x) (by omega), lN_i, pw8]
  exact h
theorem lett_iff {b : Nat} : lett b = true ↔ 97 ≤ b ∧ b ≤ 122 := by simp [lett]
theorem nlet_le {x : Int64} : ∀ m k, nlet x k m ≤ m := by
  intro m
  induction m with
  | zero => intro k; exact Nat.le_refl _
  | succ m ih =>
    intro k
    unfold nlet
    split
    · have := ih (k + 1); omega
    · omega
theorem vlen_le {x : Int64} : vlen x ≤ 6 := nlet_le 6 0
theorem vpre_iff {x : Int64} {v : Nat} (hv : v ≤ 8) : uN x < 256 ^ v ↔ ∀ i, v ≤ i → i < 8 → byt x i = 0 := by
  constructor
  · intro h i h1 _
    unfold byt
    have : uN x < 256 ^ i := Nat.lt_of_lt_of_le h (Nat.pow_le_pow_right (by decide) h1)
    rw [Nat.div_eq_of_lt this]
  · intro h
    have key : ∀ m, v + m ≤ 8 → uN x < 256 ^ (8 - m) → m ≤ 8 - v → uN x < 256 ^ (8 - m) := fun m _ h _ => h
    have step : ∀ m, m ≤ 8 - v → uN x < 256 ^ (8 - m) := by
      intro m
      induction m with
      | zero => intro _; have := uN_lt x; have e : (256 : Nat) ^ 8 = 2 ^ 64 := by decide
                rw [Nat.sub_zero, e]; exact this
      | succ m ih =>
        intro hm
        have ih' := ih (by omega)
        have hz := h (8 - (m + 1)) (by omega) (by omega)
        unfold byt at hz
        have e : 8 - m = (8 - (m + 1)) + 1 := by omega
        rw [e, Nat.pow_succ] at ih'
        have hlt : uN x / 256 ^ (8 - (m + 1)) < 256 := Nat.div_lt_of_lt_mul ih'
        rw [Nat.mod_eq_of_lt hlt] at hz
        have hp : 0 < 256 ^ (8 - (m + 1)) := Nat.pow_pos (by decide)
        exact (Nat.div_eq_zero_iff_lt hp).mp hz
    have := step (8 - v) (Nat.le_refl _)
    have e : 8 - (8 - v) = v := by omega
    rw [e] at this; exact this
theorem M_len_L36 {S : oSt} {x : Int64} {v : Nat} (hv : v ≤ 6) {post : Int32 → oSt → Prop} (h1 : uN x < 256 ^ v → post (nI v) S) (h0 : ¬ uN x < 256 ^ v → post (-1) S) : ∀ m i, i + m = 8 → v ≤ i → (∀ q, v ≤ q → q < i → byt x q = 0) → wp_M_lengthOf_L36 post (m + 1) x (nI v) (nI i) S := by
  have e8 : (8 : Int32) = nI 8 := rfl
  intro m
  induction m with
  | zero =>
    intro i hi hvi hz
    have e : i = 8 := by omega
    subst e
    unfold wp_M_lengthOf_L36
    exact ⟨fun _ => h1 ((vpre_iff (by omega)).mpr (fun q a b => hz q a b)), fun q => absurd (by decide) q⟩
  | succ m ih =>
    intro i hi hvi hz
    unfold wp_M_lengthOf_L36
    refine ⟨fun q => ?_, fun _ => M_letterAt (by omega) ⟨fun q => ?_, fun q => ?_⟩⟩
    · exfalso
      rw [e8, nI_leI (by decide) (by omega)] at q
      omega
    · rw [nI_1]
      refine ih (i + 1) (by omega) (by omega) (fun r h1 h2 => ?_)
      by_cases e : r = i
      · subst e
        have hb := byt_le (x := x) (k := r)
        have : nI (byt x r) = nI 0 := q
        exact (nI_eq (by omega) (by decide)).mp this
      · exact hz r h1 (by omega)
    · refine h0 (fun z => q ?_)
      have := (vpre_iff (by omega)).mp z i hvi (by omega)
      rw [this]; rfl
theorem M_len_L2 {S : oSt} {x : Int64} {post : Int32 → oSt → Prop} (h1 : vpre x → post (nI (vlen x)) S) (h0 : ¬ vpre x → post (-1) S) : ∀ m k, k + m = 6 → vlen x = k + nlet x k m → wp_M_lengthOf_L2 post (m + 1) x (nI k) S := by
  have e6 : (6 : Int32) = nI 6 := rfl
  have hend : ∀ k, vlen x = k → ∃ n, wp_M_lengthOf_L36 post n x (nI k) (nI k) S := by
    rintro k rfl
    have hv := vlen_le (x := x)
    exact ⟨(8 - vlen x) + 1, M_len_L36 hv h1 h0 (8 - vlen x) (vlen x) (by omega) (Nat.le_refl _) (fun q a b => by omega)⟩
  intro m
  induction m with
  | zero =>
    intro k hk hl
    have e : k = 6 := by omega
    subst e
    unfold wp_M_lengthOf_L2
    exact ⟨fun _ => hend 6 (by rw [hl]; rfl), fun q => absurd (by decide) q⟩
  | succ m ih =>
    intro k hk hl
    unfold wp_M_lengthOf_L2
    have hb := byt_le (x := x) (k := k)
    refine ⟨fun q => ?_, fun _ => M_letterAt (by omega) ⟨fun q => ?_, fun q => M_letterAt (by omega) ⟨fun q2 => ?_, fun q2 => ?_⟩⟩⟩
    · exfalso
      rw [e6, nI_leI (by decide) (by omega)] at q
      omega
    · rw [show (97 : Int32) = nI 97 from rfl, nI_ltI (by omega) (by decide)] at q
      refine hend k ?_
      rw [hl]; unfold nlet
      rw [if_neg (by rw [lett_iff]; omega)]
      rfl
    · rw [show (122 : Int32) = nI 122 from rfl, nI_ltI (by decide) (by omega)] at q2
      refine hend k ?_
      rw [hl]; unfold nlet
      rw [if_neg (by rw [lett_iff]; omega)]
      rfl
    · rw [show (97 : Int32) = nI 97 from rfl, nI_ltI (by omega) (by decide)] at q
      rw [show (122 : Int32) = nI 122 from rfl, nI_ltI (by decide) (by omega)] at q2
      rw [nI_1]
      refine ih (k + 1) (by omega) ?_
      rw [hl]
      conv => lhs; unfold nlet
      rw [if_pos (by rw [lett_iff]; omega)]
      omega
theorem M_lengthOf {S : oSt} {x : Int64} {post : Int32 → oSt → Prop} (h1 : vpre x → post (nI (vlen x)) S) (h0 : ¬ vpre x → post (-1) S) : wp_M_lengthOf S x post := ⟨7, M_len_L2 h1 h0 6 0 rfl (by rw [Nat.zero_add]; rfl)⟩
/-! the class's letters -/
theorem X_count_L {S : oSt} {x : Int64} {post : Int32 → oSt → Prop} (h1 : vpre x → post (nI (vlen x)) S) (h0 : ¬ vpre x → post (-1) S) : ∀ m k, k + m = 6 → vlen x = k + nlet x k m → wp_X_letterCount_L4 post (m + 1) (nI k) (lN (uN x / 256 ^ k)) S := by
  have e6 : (6 : Int32) = nI 6 := rfl
  have hlt : ∀ k, uN x / 256 ^ k < 2 ^ 64 := fun k => Nat.lt_of_le_of_lt (Nat.div_le_self _ _) (uN_lt x)
  have hend : ∀ k, vlen x = k → ((¬ (lg_cmp (lN (uN x / 256 ^ k)) (0 : Int64)) = 0) → post (-1 : Int32) S) ∧ (((lg_cmp (lN (uN x / 256 ^ k)) (0 : Int64)) = 0) → post (nI k) S) := by
    rintro k rfl
    have hp : 0 < 256 ^ vlen x := Nat.pow_pos (by decide)
    have hz : lg_cmp (lN (uN x / 256 ^ vlen x)) 0 = 0 ↔ vpre x := by
      rw [lg_cmp_eq]
      constructor
      · intro z
        have : uN (lN (uN x / 256 ^ vlen x)) = uN 0 := by rw [z]
        rw [wb_uN (hlt _)] at this
        exact (Nat.div_eq_zero_iff_lt hp).mp this
      · intro z
        rw [Nat.div_eq_of_lt z]; rfl
    exact ⟨fun q => h0 (fun z => q (hz.mpr z)), fun q => h1 (hz.mp q)⟩
  intro m
  induction m with
  | zero =>
    intro k hk hl
    have e : k = 6 := by omega
    subst e
    unfold wp_X_letterCount_L4
    exact ⟨fun _ => hend 6 (by rw [hl]; rfl), fun q => absurd (by decide) q⟩
  | succ m ih =>
    intro k hk hl
    unfold wp_X_letterCount_L4
    have hb := byt_le (x := x) (k := k)
    have eb : lN (uN x / 256 ^ k) &&& 255 = lN (byt x k) := by
      have := wb_mask (n := uN x / 256 ^ k) (k := 8) (hlt k) (by decide)
      exact this
    have c97 : lg_cmp (lN (byt x k)) 97 < 0 ↔ byt x k < 97 := by
      rw [lg_cmp_lt]; exact lN_lt (by omega) (by decide)
    have c122 : 0 < lg_cmp (lN (byt x k)) 122 ↔ 122 < byt x k := by
      rw [lg_cmp_gt]; exact lN_lt (by decide) (by omega)
    refine ⟨fun q => ?_, fun _ => ?_⟩
    · exfalso
      rw [e6, nI_leI (by decide) (by omega)] at q
      omega
    · rw [eb]
      unfold wp_X_isLetter
      have hn : ¬ (97 ≤ byt x k ∧ byt x k ≤ 122) → vlen x = k := by
        intro z
        rw [hl]; unfold nlet
        rw [if_neg (by rw [lett_iff]; exact z)]
        rfl
      refine ⟨fun q => ⟨fun _ => hend k (hn (by have := c97.mp q; omega)), fun q => absurd rfl q⟩, fun q => ⟨fun q2 => ⟨fun _ => hend k (hn (by have := c122.mp q2; omega)), fun q => absurd rfl q⟩, fun q2 => ⟨fun z => absurd z (by decide), fun _ => ?_⟩⟩⟩
      have y1 : 97 ≤ byt x k := Nat.not_lt.mp (fun z => q (c97.mpr z))
      have y2 : byt x k ≤ 122 := Nat.not_lt.mp (fun z => q2 (c122.mpr z))
      have es : oush (lN (uN x / 256 ^ k)) 8 = lN (uN x / 256 ^ (k + 1)) := by
        have := wb_shr (n := uN x / 256 ^ k) (k := 8) (hlt k) (by decide)
        have e : uN x / 256 ^ k / 2 ^ 8 = uN x / 256 ^ (k + 1) := by rw [Nat.div_div_eq_div_mul, show (2 : Nat) ^ 8 = 256 from rfl, ← Nat.pow_succ]
        rw [e] at this
        exact this
      rw [es, nI_1]
      refine ih (k + 1) (by omega) ?_
      rw [hl]
      conv => lhs; unfold nlet
      rw [if_pos (by rw [lett_iff]; exact ⟨y1, y2⟩)]
      omega
theorem X_letterCount {S : oSt} {x : Int64} {post : Int32 → oSt → Prop} (h1 : vpre x → post (nI (vlen x)) S) (h0 : ¬ vpre x → post (-1) S) : wp_X_letterCount S x post := by
  refine ⟨7, ?_⟩
  have h := X_count_L h1 h0 6 0 rfl (by rw [Nat.zero_add]; rfl)
  rw [Nat.pow_zero, Nat.div_one, uN_lN] at h
  exact h
