theorem pw_in {S : oSt} {a lo hi : Int32} {post : Int32 → oSt → Prop} (h1 : ¬ a < lo) (h2 : ¬ hi < a) (h : post 1 S) : wp_X_isWithin S a lo hi post := ⟨fun q => absurd q h1, fun _ => ⟨fun q => absurd q h2, fun _ => h⟩⟩
theorem pw_out {S : oSt} {a lo hi : Int32} {post : Int32 → oSt → Prop} (h1 : a < lo ∨ hi < a) (h : post 0 S) : wp_X_isWithin S a lo hi post := ⟨fun _ => h, fun q => ⟨fun _ => h, fun q2 => by rcases h1 with z | z; exact absurd z q; exact absurd z q2⟩⟩
theorem ix_cases {n : Nat} (x : Int32) (hn : n < 2 ^ 31) : (x < 0 ∨ nI n ≤ x) ∨ ∃ j, j < n ∧ x = nI j := by
  rcases pk_ix x hn with h | h | h
  · exact Or.inl (Or.inl h)
  · exact Or.inl (Or.inr h)
  · exact Or.inr h
theorem an_bad {S : oSt} {nA : Nat} {a : Int32} {post : Option Nat → oSt → Prop} (hc : S.1 40 0 6 = nI nA) (hb : a < 0 ∨ nI nA ≤ a) (h : post none S) : wp_X_accountNumbered S a post := by
  refine ⟨fun _ => h, fun q => ⟨fun _ => h, fun q2 => ?_⟩⟩
  rw [hc] at q2
  rcases hb with z | z
  · exact absurd z q
  · exact absurd z q2
theorem an_ok {S : oSt} {nA j : Nat} {post : Option Nat → oSt → Prop} (hc : S.1 40 0 6 = nI nA) (hr : S.2.2 40 0 2 = some 0) (h8 : nA ≤ 8) (hj : j < nA) (h41 : S.2.2 41 0 j = some j) (h : post (some j) S) : wp_X_accountNumbered S (nI j) post := by
  have hj31 : j < 2 ^ 31 := by omega
  refine ⟨fun q => absurd q (nI_pos hj31), fun _ => ⟨fun q => ?_, fun _ => ⟨0, hr, vp_in_nI (by omega) (by decide), fun o ho => ?_⟩⟩⟩
  · rw [hc] at q; exact absurd q (nI_ge hj (by omega))
  · rw [nI_clamp hj31, h41] at ho; subst ho; exact h
theorem tn_bad {S : oSt} {nT : Nat} {a : Int32} {post : Option Nat → oSt → Prop} (hc : S.1 40 0 7 = nI nT) (hb : a < 0 ∨ nI nT ≤ a) (h : post none S) : wp_X_transferNumbered S a post := by
  refine ⟨fun _ => h, fun q => ⟨fun _ => h, fun q2 => ?_⟩⟩
  rw [hc] at q2
  rcases hb with z | z
  · exact absurd z q
  · exact absurd z q2
theorem tn_ok {S : oSt} {nT j : Nat} {post : Option Nat → oSt → Prop} (hc : S.1 40 0 7 = nI nT) (hr : S.2.2 40 0 4 = some 0) (h8 : nT ≤ 120) (hj : j < nT) (h43 : S.2.2 43 0 j = some j) (h : post (some j) S) : wp_X_transferNumbered S (nI j) post := by
  have hj31 : j < 2 ^ 31 := by omega
  refine ⟨fun q => absurd q (nI_pos hj31), fun _ => ⟨fun q => ?_, fun _ => ⟨0, hr, vp_in_nI (by omega) (by decide), fun o ho => ?_⟩⟩⟩
  · rw [hc] at q; exact absurd q (nI_ge hj (by omega))
  · rw [nI_clamp hj31, h43] at ho; subst ho; exact h
theorem ia_bad {S : oSt} {nA : Nat} {a : Int32} {post : Int32 → oSt → Prop} (hc : S.1 0 0 4 = nI nA) (hb : a < 0 ∨ nI nA ≤ a) (h : post 0 S) : wp_M_isAccount S a post := by
  refine ⟨fun _ => h, fun q => ⟨fun _ => h, fun q2 => ?_⟩⟩
  rw [hc] at q2
  rcases hb with z | z
  · exact absurd z q
  · exact absurd z q2
theorem ia_ok {S : oSt} {nA j : Nat} {post : Int32 → oSt → Prop} (hc : S.1 0 0 4 = nI nA) (h8 : nA ≤ 8) (hj : j < nA) (h : post 1 S) : wp_M_isAccount S (nI j) post := by
  have hj31 : j < 2 ^ 31 := by omega
  refine ⟨fun q => absurd q (nI_pos hj31), fun _ => ⟨fun q => ?_, fun _ => h⟩⟩
  rw [hc] at q; exact absurd q (nI_ge hj (by omega))
theorem it_bad {S : oSt} {nT : Nat} {a : Int32} {post : Int32 → oSt → Prop} (hc : S.1 0 0 22 = nI nT) (hb : a < 0 ∨ nI nT ≤ a) (h : post 0 S) : wp_M_isTransfer S a post := by
  refine ⟨fun _ => h, fun q => ⟨fun _ => h, fun q2 => ?_⟩⟩
  rw [hc] at q2
  rcases hb with z | z
  · exact absurd z q
  · exact absurd z q2
theorem it_ok {S : oSt} {nT j : Nat} {post : Int32 → oSt → Prop} (hc : S.1 0 0 22 = nI nT) (h8 : nT ≤ 120) (hj : j < nT) (h : post 1 S) : wp_M_isTransfer S (nI j) post := by
  have hj31 : j < 2 ^ 31 := by omega
  refine ⟨fun q => absurd q (nI_pos hj31), fun _ => ⟨fun q => ?_, fun _ => h⟩⟩
  rw [hc] at q; exact absurd q (nI_ge hj (by omega))
/-- the law's comparison -/
def fin {α : Type} (K : oSt → Prop) (r r' : α) (S : oSt) : Prop := ((r = r') → K S) ∧ ((¬ r = r') → False)
theorem fin.ok {α : Type} {K : oSt → Prop} {r : α} {S : oSt} (h : K S) : fin K r r S := ⟨fun _ => h, fun q => q rfl⟩
theorem fin.eq {α : Type} {K : oSt → Prop} {r r' : α} {S : oSt} (e : r = r') (h : K S) : fin K r r' S := e ▸ fin.ok h
theorem cl8 {j : Nat} (h : j < 1000) : (nI j).toNatClampNeg = j := nI_clamp (by omega)
/-! getters -/
theorem sim_drops {S : oSt} {cn : Nat → Nat} {t nA nT nS nR : Nat} (I : Inv4 S cn t nA nT nS nR) (a : Int32) {K : oSt → Prop} (hK : K S) : wp_X_drops S a (fun r S1 => wp_M_drops S1 a (fun r' S2 => fin K r r' S2)) := by
  obtain ⟨⟨b1, b2, b3⟩, hcn, hRf, hSc, hA, hZ, hT, hSt, hRt⟩ := I
  unfold wp_X_drops wp_M_drops
  rcases ix_cases a (n := nA) (by omega) with hb | ⟨j, hj, rfl⟩
  · exact an_bad hSc.1.1 hb ⟨fun _ => ia_bad hSc.1.2 hb ⟨fun _ => fin.ok hK, fun q => absurd rfl q⟩, nofun⟩
  · have h := hA j hj
    refine an_ok hSc.1.1 hRf.2.1 b1 hj h.1.1 ⟨nofun, fun j' e => ?_⟩
    cases e
    refine ⟨j, h.1.2.1, ia_ok hSc.1.2 b1 hj ⟨fun q => absurd q (by decide), fun _ => ⟨0, hRf.1 15 (by decide) (by decide) (by decide) (by decide) (by decide), vp_in_nI (by omega) (by decide), ?_⟩⟩⟩
    rw [cl8 (by omega)]
    exact fin.eq h.2.2.2.2.2.2.2.1.2.2 hK
theorem sim_balance {S : oSt} {cn : Nat → Nat} {t nA nT nS nR : Nat} (I : Inv4 S cn t nA nT nS nR) (a : Int32) {K : oSt → Prop} (hK : K S) : wp_X_balance S a (fun r S1 => wp_M_balance S1 a (fun r' S2 => fin K r r' S2)) := by
  obtain ⟨⟨b1, b2, b3⟩, hcn, hRf, hSc, hA, hZ, hT, hSt, hRt⟩ := I
  unfold wp_X_balance wp_M_balance
  rcases ix_cases a (n := nA) (by omega) with hb | ⟨j, hj, rfl⟩
  · exact an_bad hSc.1.1 hb ⟨fun _ => ia_bad hSc.1.2 hb ⟨fun _ => fin.ok hK, fun q => absurd rfl q⟩, nofun⟩
  · have h := hA j hj
    refine an_ok hSc.1.1 hRf.2.1 b1 hj h.1.1 ⟨nofun, fun j' e => ?_⟩
    cases e
    refine ia_ok hSc.1.2 b1 hj ⟨fun q => absurd q (by decide), fun _ => ⟨0, hRf.1 5 (by decide) (by decide) (by decide) (by decide) (by decide), vp_in_nI (by omega) (by decide), ?_⟩⟩
    rw [cl8 (by omega)]
    exact fin.eq h.2.2.1 hK
theorem sim_state {S : oSt} {cn : Nat → Nat} {t nA nT nS nR : Nat} (I : Inv4 S cn t nA nT nS nR) (a : Int32) {K : oSt → Prop} (hK : K S) : wp_X_state S a (fun r S1 => wp_M_state S1 a (fun r' S2 => fin K r r' S2)) := by
  obtain ⟨⟨b1, b2, b3⟩, hcn, hRf, hSc, hA, hZ, hT, hSt, hRt⟩ := I
  unfold wp_X_state wp_M_state
  rcases ix_cases a (n := nT) (by omega) with hb | ⟨j, hj, rfl⟩
  · exact tn_bad hSc.2.1.1 hb ⟨fun _ => it_bad hSc.2.1.2 hb ⟨fun _ => fin.ok hK, fun q => absurd rfl q⟩, nofun⟩
  · have h := hT j hj
    refine tn_ok hSc.2.1.1 hRf.2.2.2.1 b2 hj h.1 ⟨nofun, fun j' e => ?_⟩
    cases e
    refine it_ok hSc.2.1.2 b2 hj ⟨fun q => absurd q (by decide), fun _ => ⟨0, hRf.1 29 (by decide) (by decide) (by decide) (by decide) (by decide), vp_in_nI (by omega) (by decide), ?_⟩⟩
    rw [cl8 (by omega)]
    exact fin.eq h.2.2.2.2.2.2.2.1 hK
theorem sim_lock {S : oSt} (a : Int64) {K : oSt → Prop} (hK : K S) : wp_X_lock S a (fun r S1 => wp_M_lock S1 a (fun r' S2 => fin K r r' S2)) := by
  unfold wp_X_lock wp_X_lockOf wp_M_lock
  exact fin.ok hK
theorem sim_settlement {S : oSt} {cn : Nat → Nat} {t nA nT nS nR : Nat} (I : Inv4 S cn t nA nT nS nR) (a : Int32) {K : oSt → Prop} (hK : K S) (hcF : nS ≤ 120) : wp_X_settlement S a (fun r S1 => wp_M_settlement S1 a (fun r' S2 => fin K r r' S2)) := by
  obtain ⟨⟨b1, b2, b3⟩, hcn, hRf, hSc, hA, hZ, hT, hSt, hRt⟩ := I
  obtain ⟨s1, s2, s3, s4⟩ := hSt
  unfold wp_X_settlement wp_M_settlement
  simp only [s1, s2]
  rcases ix_cases a (n := nS) (by omega) with hb | ⟨j, hj, rfl⟩
  · have hm : ((a < 0) → fin K (-1 : Int64) (-1) S) ∧ ((¬ a < 0) → ((a < nI nS) → ∃ j1 : Nat, S.2.2 0 0 32 = some j1 ∧ ((vp_in a 120) ∧ (fin K (-1 : Int64) (S.2.1 32 j1 (Int32.toNatClampNeg a)) S))) ∧ ((¬ a < nI nS) → fin K (-1 : Int64) (-1) S)) := by
      refine ⟨fun _ => fin.ok hK, fun q => ⟨fun q2 => ?_, fun _ => fin.ok hK⟩⟩
      rcases hb with z | z
      · exact absurd z q
      · exact absurd z (Int32.not_le.mpr q2)
    refine ⟨fun _ => hm, fun q => ⟨fun _ => hm, fun q2 => ?_⟩⟩
    rcases hb with z | z
    · exact absurd z q
    · exact absurd z q2
  · have hj31 : j < 2 ^ 31 := by omega
    refine ⟨fun q => absurd q (nI_pos hj31), fun _ => ⟨fun q => absurd q (nI_ge hj (by omega)), fun _ => ⟨0, hRf.2.2.2.2.1, vp_in_nI (by omega) (by decide), ?_⟩⟩⟩
    refine ⟨fun q => absurd q (nI_pos hj31), fun _ => ⟨fun _ => ⟨0, hRf.1 32 (by decide) (by decide) (by decide) (by decide) (by decide), vp_in_nI (by omega) (by decide), ?_⟩, fun q => absurd (nI_lt hj (by omega)) q⟩⟩
    rw [cl8 (by omega)]
    exact fin.eq (s4 j hj) hK
theorem sim_transfer {S : oSt} {cn : Nat → Nat} {t nA nT nS nR : Nat} (I : Inv4 S cn t nA nT nS nR) (a b : Int32) {K : oSt → Prop} (hK : K S) : wp_X_transfer S a b (fun r S1 => wp_M_transfer S1 a b (fun r' S2 => fin K r r' S2)) := by
  obtain ⟨⟨b1, b2, b3⟩, hcn, hRf, hSc, hA, hZ, hT, hSt, hRt⟩ := I
  unfold wp_X_transfer wp_M_transfer
  rcases ix_cases a (n := nT) (by omega) with hb | ⟨j, hj, rfl⟩
  · exact tn_bad hSc.2.1.1 hb ⟨fun _ => it_bad hSc.2.1.2 hb ⟨fun _ => fin.ok hK, fun q => absurd rfl q⟩, nofun⟩
  · have h := hT j hj
    refine tn_ok hSc.2.1.1 hRf.2.2.2.1 b2 hj h.1 ⟨nofun, fun j' e => ?_⟩
    cases e
    have hf := fun f h1 h2 h3 h4 h5 => hRf.1 f h1 h2 h3 h4 h5
    have hv : vp_in (nI j) 120 := vp_in_nI (by omega) (by decide)
    obtain ⟨q, hq, hq1, hq2⟩ := h.2.2.1
    refine ⟨fun e => ?_, fun e => ?_, fun e => ?_, fun e => ?_, fun e => ?_⟩
    · subst e
      refine ⟨q, hq1, it_ok hSc.2.1.2 b2 hj ⟨fun q => absurd q (by decide), fun _ => ⟨fun q => absurd q (by decide), fun _ => ⟨fun _ => ⟨fun q => absurd rfl q, fun _ => ⟨0, hf 24 (by decide) (by decide) (by decide) (by decide) (by decide), hv, ?_⟩⟩, fun q => absurd q (by decide)⟩⟩⟩⟩
      rw [cl8 (by omega), hq2, (hA q hq).1.2.2.2.2]
      exact fin.ok hK
    · subst e
      refine it_ok hSc.2.1.2 b2 hj ⟨fun q => absurd q (by decide), fun _ => ⟨fun q => absurd q (by decide), fun _ => ⟨fun _ => ⟨fun _ => ⟨fun q => absurd rfl q, fun _ => ⟨0, hf 26 (by decide) (by decide) (by decide) (by decide) (by decide), hv, ?_⟩⟩, fun q => absurd q (by decide)⟩, fun q => absurd q (by decide)⟩⟩⟩
      rw [cl8 (by omega)]
      exact fin.eq h.2.2.2.2.1 hK
    · subst e
      refine it_ok hSc.2.1.2 b2 hj ⟨fun q => absurd q (by decide), fun _ => ⟨fun q => absurd q (by decide), fun _ => ⟨fun _ => ⟨fun _ => ⟨fun _ => ⟨fun q => absurd rfl q, fun _ => ⟨0, hf 27 (by decide) (by decide) (by decide) (by decide) (by decide), hv, ?_⟩⟩, fun q => absurd q (by decide)⟩, fun q => absurd q (by decide)⟩, fun q => absurd q (by decide)⟩⟩⟩
      rw [cl8 (by omega)]
      exact fin.eq h.2.2.2.2.2.1 hK
    · subst e
      refine it_ok hSc.2.1.2 b2 hj ⟨fun q => absurd q (by decide), fun _ => ⟨fun q => absurd q (by decide), fun _ => ⟨fun _ => ⟨fun _ => ⟨fun _ => ⟨fun _ => ⟨0, hf 29 (by decide) (by decide) (by decide) (by decide) (by decide), hv, ?_⟩, fun q => absurd q (by decide)⟩, fun q => absurd q (by decide)⟩, fun q => absurd q (by decide)⟩, fun q => absurd q (by decide)⟩⟩⟩
      rw [cl8 (by omega)]
      have h7 := h.2.2.2.2.2.2.2.2
      refine ⟨fun q => ?_, fun q => ⟨0, hf 30 (by decide) (by decide) (by decide) (by decide) (by decide), hv, ?_⟩⟩
      · rw [if_neg q] at h7; exact fin.eq h7 hK
      · rw [if_pos q] at h7; exact fin.eq h7 hK
    · have hm : ((b < 0) → fin K (-1 : Int64) (-1) S) ∧ (b ≤ 3 → b < 0) := by
        refine ⟨fun _ => fin.ok hK, fun q => ?_⟩
        rcases e with z | z
        · exact z
        · exact absurd q (Int32.not_le.mpr (Int32.lt_of_lt_of_le (by decide : (3 : Int32) < nI 4) z))
      exact it_ok hSc.2.1.2 b2 hj ⟨fun q => absurd q (by decide), fun _ => ⟨fun _ => fin.ok hK, fun q => ⟨fun q2 => absurd (hm.2 q2) q, fun _ => fin.ok hK⟩⟩⟩
