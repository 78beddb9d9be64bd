/-! the law -/
theorem lgz (a b : Int64) : (lg_cmp a b = 0) = (a = b) := propext (lg_cmp_eq a b)
theorem law_loop {L : Nat} {xs : Nat → Int32} (hL : L ≤ 4098) : ∀ (n t i : Nat) (cn : Nat → Nat) (S : oSt) (nA nT nS nR : Nat), Inv4 S cn t nA nT nS nR → i = 2 + 8 * t → t + n = 513 → t ≤ 512 → wp_law_L L xs n (nI i) cn S := by
  intro n
  induction n with
  | zero => intro t i cn S nA nT nS nR I hi hn h5; omega
  | succ n ih =>
    intro t i cn S nA nT nS nR I hi hn h5
    unfold wp_law_L
    have hc : ((Int32.ofNat L - 8) < nI i) ↔ L < i + 8 := by
      rw [Int32.lt_iff_toInt_lt, show (Int32.ofNat L - 8 : Int32) = nI L - nI 8 from rfl, pk_sub_toInt (by omega) (by decide), nI_toInt (by omega)]
      omega
    rw [hc]
    refine ⟨fun _ => trivial, fun hlt => ?_⟩
    have ht : t + 1 ≤ 600 := by omega
    have e8 : nI i + 8 = nI (i + 8) := nI_add i 8
    have hv0 : vp_in (nI i) L := vp_in_nI (by omega) (by omega)
    have hv1 : vp_in (nI i + (1 : Int32)) L := by rw [show nI i + (1 : Int32) = nI (i + 1) from nI_add i 1]; exact vp_in_nI (by omega) (by omega)
    have hv2 : vp_in (nI i + (2 : Int32)) L := by rw [show nI i + (2 : Int32) = nI (i + 2) from nI_add i 2]; exact vp_in_nI (by omega) (by omega)
    have hv3 : vp_in (nI i + (3 : Int32)) L := by rw [show nI i + (3 : Int32) = nI (i + 3) from nI_add i 3]; exact vp_in_nI (by omega) (by omega)
    have hv4 : vp_in (nI i + (4 : Int32)) L := by rw [show nI i + (4 : Int32) = nI (i + 4) from nI_add i 4]; exact vp_in_nI (by omega) (by omega)
    have hv5 : vp_in (nI i + (5 : Int32)) L := by rw [show nI i + (5 : Int32) = nI (i + 5) from nI_add i 5]; exact vp_in_nI (by omega) (by omega)
    have hv6 : vp_in (nI i + (6 : Int32)) L := by rw [show nI i + (6 : Int32) = nI (i + 6) from nI_add i 6]; exact vp_in_nI (by omega) (by omega)
    have hv7 : vp_in (nI i + (7 : Int32)) L := by rw [show nI i + (7 : Int32) = nI (i + 7) from nI_add i 7]; exact vp_in_nI (by omega) (by omega)
    rw [e8]
    have hg : ∀ cn' T nA' nT' nS' nR', Inv4 T cn' (t + 1) nA' nT' nS' nR' → wp_law_L L xs n (nI (i + 8)) cn' T := by
      intro cn' T nA' nT' nS' nR' I'
      have h9 : t + 1 ≤ 512 := by omega
      exact ih (t + 1) (i + 8) cn' T nA' nT' nS' nR' I' (by omega) (by omega) h9
    have hu := hg cn S nA nT nS nR (I.up ht)
    refine ⟨hv0, ?_, ?_, ?_, ?_, ?_, ?_, ?_, ?_, ?_, ?_, ?_, ?_, ?_, ?_, ?_, ?_, ?_, ?_, ?_, ?_, fun _ => hu⟩
    · intro _
      simp only [eq_true hv1, eq_true hv2, eq_true hv3, true_and]
      exact sim_account I ht _ _ _ (K := fun c T => wp_law_L L xs n (nI (i + 8)) c T) (fun cn' T q I' => hg cn' T _ _ _ _ I')
    · intro _
      simp only [eq_true hv1, eq_true hv2, true_and]
      exact sim_worth I ht _ _ (K := fun T => wp_law_L L xs n (nI (i + 8)) cn T) (fun T I' => hg cn T _ _ _ _ I')
    · intro _
      simp only [eq_true hv1, true_and]
      exact sim_spread I ht _ (K := fun T => wp_law_L L xs n (nI (i + 8)) cn T) (fun T I' => hg cn T _ _ _ _ I')
    · intro _
      simp only [eq_true hv1, eq_true hv2, eq_true hv3, eq_true hv4, true_and]
      exact sim_policy I ht _ _ _ _ (K := fun T => wp_law_L L xs n (nI (i + 8)) cn T) (fun T I' => hg cn T _ _ _ _ I')
    · intro _
      simp only [eq_true hv1, eq_true hv2, eq_true hv3, true_and]
      exact sim_bucket I ht _ _ _ (K := fun T => wp_law_L L xs n (nI (i + 8)) cn T) (fun T I' => hg cn T _ _ _ _ I')
    · intro _
      simp only [eq_true hv1, eq_true hv2, eq_true hv3, eq_true hv4, true_and]
      exact sim_learn I ht _ _ _ (K := fun T => wp_law_L L xs n (nI (i + 8)) cn T) (fun T q I' => hg cn T _ _ _ _ I')
    · intro _
      simp only [eq_true hv1, eq_true hv2, eq_true hv3, true_and]
      exact sim_forget I ht _ _ (K := fun T => wp_law_L L xs n (nI (i + 8)) cn T) (fun T q I' => hg cn T _ _ _ _ I')
    · intro _
      simp only [eq_true hv1, eq_true hv2, true_and]
      exact sim_way I _ (K := fun T => wp_law_L L xs n (nI (i + 8)) cn T) hu
    · intro _
      simp only [eq_true hv1, eq_true hv2, eq_true hv3, eq_true hv4, eq_true hv5, eq_true hv6, eq_true hv7, true_and]
      exact sim_prepare I ht _ _ _ _ _ (K := fun c T => wp_law_L L xs n (nI (i + 8)) c T) (fun cn' T q I' => hg cn' T _ _ _ _ I')
    · intro _
      simp only [eq_true hv1, eq_true hv2, true_and, lgz]
      exact sim_lock _ (K := fun T => wp_law_L L xs n (nI (i + 8)) cn T) hu
    · intro _
      simp only [eq_true hv1, eq_true hv2, eq_true hv3, true_and]
      exact sim_fulfil I ht _ _ (K := fun T => wp_law_L L xs n (nI (i + 8)) cn T) (fun T q I' => hg cn T _ _ _ _ I')
    · intro _
      simp only [eq_true hv1, true_and]
      exact sim_reject I ht _ (K := fun T => wp_law_L L xs n (nI (i + 8)) cn T) (fun T I' => hg cn T _ _ _ _ I')
    · intro _
      simp only [eq_true hv1, true_and]
      exact sim_advance I ht _ (K := fun T => wp_law_L L xs n (nI (i + 8)) cn T) (fun T I' => hg cn T _ _ _ _ I')
    · intro _
      simp only [eq_true hv1, eq_true hv2, eq_true hv3, true_and]
      exact sim_credit I ht _ _ _ (K := fun T => wp_law_L L xs n (nI (i + 8)) cn T) (fun T I' => hg cn T _ _ _ _ I')
    · intro _
      simp only [eq_true hv1, true_and, lgz]
      exact sim_balance I _ (K := fun T => wp_law_L L xs n (nI (i + 8)) cn T) hu
    · intro _
      simp only [lgz]
      exact sim_position I  (K := fun T => wp_law_L L xs n (nI (i + 8)) cn T) hu
    · intro _
      simp only [eq_true hv1, true_and]
      exact sim_state I _ (K := fun T => wp_law_L L xs n (nI (i + 8)) cn T) hu
    · intro _
      simp only [eq_true hv1, eq_true hv2, true_and, lgz]
      exact sim_transfer I _ _ (K := fun T => wp_law_L L xs n (nI (i + 8)) cn T) hu
    · intro _
      simp only [eq_true hv1, true_and, lgz]
      exact sim_settlement I _ (K := fun T => wp_law_L L xs n (nI (i + 8)) cn T) hu (by have := I.1.2.1; have h := I.2.2.2.2.2.2.2.1.2.2.1; have h2 := cF_le (s := S.1 29 0) nT; omega)
    · intro _
      simp only [eq_true hv1, true_and]
      exact sim_drops I _ (K := fun T => wp_law_L L xs n (nI (i + 8)) cn T) hu
/-- the law's walk, whole -/
theorem law_pure {L : Nat} {xs : Nat → Int32} (hL : L ≤ 4098) : wp_law L xs (fun _ => 0) (fun _ _ _ => 0, fun _ _ _ => 0, fun _ _ _ => none) := by
  unfold wp_law
  rintro i1 cn3 S4 rfl rfl rfl
  refine W_cell (k := 0) hL (by decide) (W_cell (k := 1) hL (by decide) ⟨rfl, X_init_ok rfl (fun cn13 S12 hX => ?_)⟩)
  rintro i16 cn18 S19 rfl rfl rfl
  have h0 : cn13 0 = 0 := hX.2.2.2.2.2.2.2.1
  rw [h0]
  refine W_cell (k := 0) hL (by decide) (W_cell (k := 1) hL (by decide) ⟨rfl, M_init_ok (fun k hk => ?_) (fun cn28 T hM => ?_)⟩)
  · have h9 : k ≠ 0 := (by decide : ∀ k ∈ kAr, k ≠ 0) k hk
    have h := hX.2.2.2.2.2.2.2.2 k hk
    simp [oup, h9, h]
  · exact law_loop hL 513 0 2 _ _ 0 0 0 0 (Inv_start hX hM) rfl rfl (by decide)
