/-! the start -/
def cellv (L : Nat) (xs : Nat → Int32) (k : Nat) : Int32 := if k < L then xs k else 0
theorem W_cell {L : Nat} {xs : Nat → Int32} {S : oSt} {k : Nat} (hL : L ≤ 4098) (hk : k < 1000) {post : Int32 → oSt → Prop} (h : post (cellv L xs k) S) : wp_W_cell L xs S (nI k) post := by
  unfold wp_W_cell
  have e : (Int32.ofNat L ≤ nI k) ↔ L ≤ k := nI_leI (a := L) (b := k) (by omega) (by omega)
  rw [e]
  unfold cellv at h
  refine ⟨fun z => ?_, fun z => ⟨vp_in_nI (by omega) (by omega), ?_⟩⟩
  · rw [if_neg (by omega)] at h; exact h
  · rw [if_pos (by omega)] at h; rw [cl8 (by omega)]; exact h
/-- the reference's arrays so far -/
def mF (S0 S : oSt) (cn0 cn : Nat → Nat) (ks : List Nat) : Prop := (∀ k ∈ ks, S.2.2 0 0 k = some 0 ∧ S.1 k 0 = (fun _ => 0) ∧ S.2.1 k 0 = (fun _ => 0)) ∧ (∀ k, k ∉ ks → cn k = cn0 k) ∧ eqK [40, 41, 42, 43, 44, 45, 46, 47, 48, 49, 50, 51, 52] S0 S ∧ S.1 0 = S0.1 0
theorem mF.step {S0 S : oSt} {cn0 cn : Nat → Nat} {ks : List Nat} (h : mF S0 S cn0 cn ks) (k : Nat) (hk : k ∉ ks) (hk0 : k ≠ 0) (hk40 : k ∉ [40, 41, 42, 43, 44, 45, 46, 47, 48, 49, 50, 51, 52]) (hc : cn0 k = 0) : mF S0 (sR (sN S k (cn k)) 0 0 k (some (cn k))) cn0 (oup cn k) (k :: ks) := by
  obtain ⟨h1, h2, h3, h4⟩ := h
  have e : cn k = 0 := (h2 k hk).trans hc
  refine ⟨fun q hq => ?_, fun q hq => ?_, eqK.R (by decide) (eqK.N hk40 h3), ?_⟩
  · rw [e]
    rcases List.mem_cons.mp hq with rfl | hq
    · refine ⟨by simp [gR3], ?_, ?_⟩
      · funext d; simp [gR1, gN1]
      · funext d; simp [gR2, gN2]
    · have hne : q ≠ k := fun z => hk (z ▸ hq)
      obtain ⟨a1, a2, a3⟩ := h1 q hq
      refine ⟨?_, ?_, ?_⟩
      · simp [gR3, gN3, hne, Ne.symm hk0, a1]
      · rw [← a2]; funext d; simp [gR1, gN1, hne]
      · rw [← a3]; funext d; simp [gR2, gN2, hne]
  · have hne : q ≠ k := fun z => hq (z ▸ List.mem_cons_self)
    rw [← h2 q (fun z => hq (List.mem_cons_of_mem _ z))]
    simp [oup, hne]
  · rw [← h4]; funext b d; simp [gR1, gN1, Ne.symm hk0]
def mrg (a : Int32) : Int32 := if a < 1 then 10 else if a ≤ 1000 then a else 10
def hld (a : Int32) : Int32 := if a < 1 then 1000 else if a ≤ 100000 then a else 1000

abbrev kAr : List Nat := [32, 30, 29, 28, 27, 26, 25, 24, 23, 21, 20, 19, 17, 16, 15, 14, 13, 12, 11, 10, 9, 8, 7, 6, 5]
set_option maxHeartbeats 4000000 in
set_option maxRecDepth 100000 in
theorem M_init_ok {S : oSt} {cn : Nat → Nat} {a b : Int32} (hc : ∀ k, k ∈ kAr → cn k = 0) {post : Unit → (Nat → Nat) → oSt → Prop} (h : ∀ cn1 T, mF S T cn cn1 kAr → post () cn1 (sI (sI T 0 0 0 (mrg a)) 0 0 1 (hld b))) : wp_M_init cn S a b post := by
  unfold wp_M_init
  have m0 : mF S S cn cn [] := ⟨fun k hk => absurd hk List.not_mem_nil, fun _ _ => rfl, eqK.rf, rfl⟩
  rintro i cn1 S1 rfl rfl rfl T1 rfl
  have m1 := m0.step 5 (by decide) (by decide) (by decide) (hc 5 (by decide))
  revert m1
  generalize sR (sN S 5 (cn 5)) 0 0 5 (some (cn 5)) = U1; generalize oup cn 5 = c1
  intro m1
  rintro i cn2 S2 rfl rfl rfl T2 rfl
  have m2 := m1.step 6 (by decide) (by decide) (by decide) (hc 6 (by decide))
  revert m2
  generalize sR (sN U1 6 (c1 6)) 0 0 6 (some (c1 6)) = U2; generalize oup c1 6 = c2
  intro m2
  clear m1
  rintro i cn3 S3 rfl rfl rfl T3 rfl
  have m3 := m2.step 7 (by decide) (by decide) (by decide) (hc 7 (by decide))
  revert m3
  generalize sR (sN U2 7 (c2 7)) 0 0 7 (some (c2 7)) = U3; generalize oup c2 7 = c3
  intro m3
  clear m2
  rintro i cn4 S4 rfl rfl rfl T4 rfl
  have m4 := m3.step 8 (by decide) (by decide) (by decide) (hc 8 (by decide))
  revert m4
  generalize sR (sN U3 8 (c3 8)) 0 0 8 (some (c3 8)) = U4; generalize oup c3 8 = c4
  intro m4
  clear m3
  rintro i cn5 S5 rfl rfl rfl T5 rfl
  have m5 := m4.step 9 (by decide) (by decide) (by decide) (hc 9 (by decide))
  revert m5
  generalize sR (sN U4 9 (c4 9)) 0 0 9 (some (c4 9)) = U5; generalize oup c4 9 = c5
  intro m5
  clear m4
  rintro i cn6 S6 rfl rfl rfl T6 rfl
  have m6 := m5.step 10 (by decide) (by decide) (by decide) (hc 10 (by decide))
  revert m6
  generalize sR (sN U5 10 (c5 10)) 0 0 10 (some (c5 10)) = U6; generalize oup c5 10 = c6
  intro m6
  clear m5
  rintro i cn7 S7 rfl rfl rfl T7 rfl
  have m7 := m6.step 11 (by decide) (by decide) (by decide) (hc 11 (by decide))
  revert m7
  generalize sR (sN U6 11 (c6 11)) 0 0 11 (some (c6 11)) = U7; generalize oup c6 11 = c7
  intro m7
  clear m6
  rintro i cn8 S8 rfl rfl rfl T8 rfl
  have m8 := m7.step 12 (by decide) (by decide) (by decide) (hc 12 (by decide))
  revert m8
  generalize sR (sN U7 12 (c7 12)) 0 0 12 (some (c7 12)) = U8; generalize oup c7 12 = c8
  intro m8
  clear m7
  rintro i cn9 S9 rfl rfl rfl T9 rfl
  have m9 := m8.step 13 (by decide) (by decide) (by decide) (hc 13 (by decide))
  revert m9
  generalize sR (sN U8 13 (c8 13)) 0 0 13 (some (c8 13)) = U9; generalize oup c8 13 = c9
  intro m9
  clear m8
  rintro i cn10 S10 rfl rfl rfl T10 rfl
  have m10 := m9.step 14 (by decide) (by decide) (by decide) (hc 14 (by decide))
  revert m10
  generalize sR (sN U9 14 (c9 14)) 0 0 14 (some (c9 14)) = U10; generalize oup c9 14 = c10
  intro m10
  clear m9
  rintro i cn11 S11 rfl rfl rfl T11 rfl
  have m11 := m10.step 15 (by decide) (by decide) (by decide) (hc 15 (by decide))
  revert m11
  generalize sR (sN U10 15 (c10 15)) 0 0 15 (some (c10 15)) = U11; generalize oup c10 15 = c11
  intro m11
  clear m10
  rintro i cn12 S12 rfl rfl rfl T12 rfl
  have m12 := m11.step 16 (by decide) (by decide) (by decide) (hc 16 (by decide))
  revert m12
  generalize sR (sN U11 16 (c11 16)) 0 0 16 (some (c11 16)) = U12; generalize oup c11 16 = c12
  intro m12
  clear m11
  rintro i cn13 S13 rfl rfl rfl T13 rfl
  have m13 := m12.step 17 (by decide) (by decide) (by decide) (hc 17 (by decide))
  revert m13
  generalize sR (sN U12 17 (c12 17)) 0 0 17 (some (c12 17)) = U13; generalize oup c12 17 = c13
  intro m13
  clear m12
  rintro i cn14 S14 rfl rfl rfl T14 rfl
  have m14 := m13.step 19 (by decide) (by decide) (by decide) (hc 19 (by decide))
  revert m14
  generalize sR (sN U13 19 (c13 19)) 0 0 19 (some (c13 19)) = U14; generalize oup c13 19 = c14
  intro m14
  clear m13
  rintro i cn15 S15 rfl rfl rfl T15 rfl
  have m15 := m14.step 20 (by decide) (by decide) (by decide) (hc 20 (by decide))
  revert m15
  generalize sR (sN U14 20 (c14 20)) 0 0 20 (some (c14 20)) = U15; generalize oup c14 20 = c15
  intro m15
  clear m14
  rintro i cn16 S16 rfl rfl rfl T16 rfl
  have m16 := m15.step 21 (by decide) (by decide) (by decide) (hc 21 (by decide))
  revert m16
  generalize sR (sN U15 21 (c15 21)) 0 0 21 (some (c15 21)) = U16; generalize oup c15 21 = c16
  intro m16
  clear m15
  rintro i cn17 S17 rfl rfl rfl T17 rfl
  have m17 := m16.step 23 (by decide) (by decide) (by decide) (hc 23 (by decide))
  revert m17
  generalize sR (sN U16 23 (c16 23)) 0 0 23 (some (c16 23)) = U17; generalize oup c16 23 = c17
  intro m17
  clear m16
  rintro i cn18 S18 rfl rfl rfl T18 rfl
  have m18 := m17.step 24 (by decide) (by decide) (by decide) (hc 24 (by decide))
  revert m18
  generalize sR (sN U17 24 (c17 24)) 0 0 24 (some (c17 24)) = U18; generalize oup c17 24 = c18
  intro m18
  clear m17
  rintro i cn19 S19 rfl rfl rfl T19 rfl
  have m19 := m18.step 25 (by decide) (by decide) (by decide) (hc 25 (by decide))
  revert m19
  generalize sR (sN U18 25 (c18 25)) 0 0 25 (some (c18 25)) = U19; generalize oup c18 25 = c19
  intro m19
  clear m18
  rintro i cn20 S20 rfl rfl rfl T20 rfl
  have m20 := m19.step 26 (by decide) (by decide) (by decide) (hc 26 (by decide))
  revert m20
  generalize sR (sN U19 26 (c19 26)) 0 0 26 (some (c19 26)) = U20; generalize oup c19 26 = c20
  intro m20
  clear m19
  rintro i cn21 S21 rfl rfl rfl T21 rfl
  have m21 := m20.step 27 (by decide) (by decide) (by decide) (hc 27 (by decide))
  revert m21
  generalize sR (sN U20 27 (c20 27)) 0 0 27 (some (c20 27)) = U21; generalize oup c20 27 = c21
  intro m21
  clear m20
  rintro i cn22 S22 rfl rfl rfl T22 rfl
  have m22 := m21.step 28 (by decide) (by decide) (by decide) (hc 28 (by decide))
  revert m22
  generalize sR (sN U21 28 (c21 28)) 0 0 28 (some (c21 28)) = U22; generalize oup c21 28 = c22
  intro m22
  clear m21
  rintro i cn23 S23 rfl rfl rfl T23 rfl
  have m23 := m22.step 29 (by decide) (by decide) (by decide) (hc 29 (by decide))
  revert m23
  generalize sR (sN U22 29 (c22 29)) 0 0 29 (some (c22 29)) = U23; generalize oup c22 29 = c23
  intro m23
  clear m22
  rintro i cn24 S24 rfl rfl rfl T24 rfl
  have m24 := m23.step 30 (by decide) (by decide) (by decide) (hc 30 (by decide))
  revert m24
  generalize sR (sN U23 30 (c23 30)) 0 0 30 (some (c23 30)) = U24; generalize oup c23 30 = c24
  intro m24
  clear m23
  rintro i cn25 S25 rfl rfl rfl T25 rfl
  have m25 := m24.step 32 (by decide) (by decide) (by decide) (hc 32 (by decide))
  revert m25
  generalize sR (sN U24 32 (c24 32)) 0 0 32 (some (c24 32)) = U25; generalize oup c24 32 = c25
  intro m25
  clear m24
  have hf := h c25 U25 m25
  unfold mrg hld at hf
  refine ⟨fun z => ?_, fun z => ⟨fun z2 => ?_, fun z2 => ?_⟩⟩
  · rw [if_pos z] at hf
    rintro S1 rfl
    refine ⟨fun y => ?_, fun y => ⟨fun y2 => ?_, fun y2 => ?_⟩⟩
    · rw [if_pos y] at hf; rintro S2 rfl; exact hf
    · rw [if_neg y, if_pos y2] at hf; rintro S2 rfl; exact hf
    · rw [if_neg y, if_neg y2] at hf; rintro S2 rfl; exact hf
  · rw [if_neg z, if_pos z2] at hf
    rintro S1 rfl
    refine ⟨fun y => ?_, fun y => ⟨fun y2 => ?_, fun y2 => ?_⟩⟩
    · rw [if_pos y] at hf; rintro S2 rfl; exact hf
    · rw [if_neg y, if_pos y2] at hf; rintro S2 rfl; exact hf
    · rw [if_neg y, if_neg y2] at hf; rintro S2 rfl; exact hf
  · rw [if_neg z, if_neg z2] at hf
    rintro S1 rfl
    refine ⟨fun y => ?_, fun y => ⟨fun y2 => ?_, fun y2 => ?_⟩⟩
    · rw [if_pos y] at hf; rintro S2 rfl; exact hf
    · rw [if_neg y, if_pos y2] at hf; rintro S2 rfl; exact hf
    · rw [if_neg y, if_neg y2] at hf; rintro S2 rfl; exact hf
/-- what the class's constructor has made -/
def xF (T : oSt) (cn1 : Nat → Nat) (m h : Int32) : Prop := (T.2.2 40 0 2 = some 0 ∧ T.2.2 40 0 3 = some 0 ∧ T.2.2 40 0 4 = some 0 ∧ T.2.2 40 0 5 = some 0 ∧ T.2.2 42 0 0 = some 0 ∧ T.2.2 42 0 1 = some 0 ∧ T.2.2 42 0 2 = some 0) ∧ (T.1 40 0 0 = m ∧ T.1 40 0 1 = h ∧ T.1 40 0 6 = 0 ∧ T.1 40 0 7 = 0 ∧ T.1 40 0 8 = 0 ∧ T.1 40 0 9 = 0 ∧ T.2.1 40 0 10 = 0 ∧ T.1 42 0 3 = 0) ∧ (cn1 48 = 0 ∧ cn1 49 = 0 ∧ cn1 50 = 0 ∧ cn1 51 = 0 ∧ cn1 52 = 0 ∧ cn1 0 = 0 ∧ ∀ k ∈ kAr, cn1 k = 0)
/-- before the two bounds are written -/
def xB (T : oSt) (cn1 : Nat → Nat) : Prop := (T.2.2 40 0 2 = some 0 ∧ T.2.2 40 0 3 = some 0 ∧ T.2.2 40 0 4 = some 0 ∧ T.2.2 40 0 5 = some 0 ∧ T.2.2 42 0 0 = some 0 ∧ T.2.2 42 0 1 = some 0 ∧ T.2.2 42 0 2 = some 0) ∧ (T.1 40 0 6 = 0 ∧ T.1 40 0 7 = 0 ∧ T.1 40 0 8 = 0 ∧ T.1 40 0 9 = 0 ∧ T.2.1 40 0 10 = 0 ∧ T.1 42 0 3 = 0) ∧ (cn1 48 = 0 ∧ cn1 49 = 0 ∧ cn1 50 = 0 ∧ cn1 51 = 0 ∧ cn1 52 = 0 ∧ cn1 0 = 0 ∧ ∀ k ∈ kAr, cn1 k = 0)
theorem xF_mk {B : oSt} {c : Nat → Nat} {m h : Int32} (hB : xB B c) : xF (sI (sI B 40 0 0 m) 40 0 1 h) c m h := by
  obtain ⟨⟨x1, x2, x3, x4, x5, x6, x7⟩, ⟨y3, y4, y5, y6, y7, y8⟩, hc⟩ := hB
  refine ⟨?_, ?_, hc⟩
  · simp only [gI3]; exact ⟨x1, x2, x3, x4, x5, x6, x7⟩
  · refine ⟨by simp [gI1], by simp [gI1], by simp [gI1, y3], by simp [gI1, y4], by simp [gI1, y5], by simp [gI1, y6], by simp [gI2, y7], by simp [gI1, y8]⟩
abbrev cE : Nat → Nat := oup (oup (oup (oup (oup (oup (oup (oup (fun _ => 0) 40) 41) 42) 45) 46) 47) 43) 44
theorem cB : cE 48 = 0 ∧ cE 49 = 0 ∧ cE 50 = 0 ∧ cE 51 = 0 ∧ cE 52 = 0 ∧ cE 0 = 0 ∧ ∀ k ∈ kAr, cE k = 0 := by
  refine ⟨by simp [oup], by simp [oup], by simp [oup], by simp [oup], by simp [oup], by simp [oup], fun k hk => ?_⟩
  have h9 : k < 40 := (by decide : ∀ k ∈ kAr, k < 40) k hk
  have e1 : ¬ k = 40 := by omega
  have e2 : ¬ k = 41 := by omega
  have e3 : ¬ k = 42 := by omega
  have e4 : ¬ k = 43 := by omega
  have e5 : ¬ k = 44 := by omega
  have e6 : ¬ k = 45 := by omega
  have e7 : ¬ k = 46 := by omega
  have e8 : ¬ k = 47 := by omega
  simp [oup, e1, e2, e3, e4, e5, e6, e7, e8]
set_option maxHeartbeats 8000000 in
set_option maxRecDepth 100000 in
theorem X_init_ok {S : oSt} {cn : Nat → Nat} {a b : Int32} (h40 : cn = oup (fun _ => 0) 40) {post : Unit → (Nat → Nat) → oSt → Prop} (h : ∀ cn1 T, xF T cn1 (mrg a) (hld b) → post () cn1 T) : wp_X_init cn S a b post := by
  subst h40
  unfold wp_X_init wp_R_init
  rintro i1 cn3 S4 rfl rfl rfl S6 rfl i7 cn9 S10 rfl rfl rfl
  refine ⟨by simp [oup], ?_⟩
  rintro i1 cn3 S4 rfl rfl rfl S6 rfl i7 cn9 S10 rfl rfl rfl S12 rfl i13 cn15 S16 rfl rfl rfl S18 rfl S19 rfl S18' rfl i19 cn21 S22 rfl rfl rfl S24 rfl i25 cn27 S28 rfl rfl rfl S30 rfl S31 rfl S32 rfl S33 rfl S34 rfl S35 rfl
  have key : ∀ (B : oSt) (c : Nat → Nat), xB B c → ∀ m h9, m = mrg a → h9 = hld b → post () c (sI (sI B 40 0 0 m) 40 0 1 h9) := by
    rintro B c hB m h9 rfl rfl
    exact h _ _ (xF_mk hB)
  have hm1 : a < 1 ∨ (1000 : Int32) < a → mrg a = 10 := by
    intro z
    unfold mrg
    by_cases y : a < 1
    · rw [if_pos y]
    · rw [if_neg y, if_neg (fun w => by rcases z with z | z; exact y z; exact absurd z (Int32.not_lt.mpr w))]
  have hm2 : ¬ a < 1 → ¬ (1000 : Int32) < a → mrg a = a := by
    intro z y; unfold mrg; rw [if_neg z, if_pos (Int32.not_lt.mp y)]
  have hh1 : b < 1 ∨ (100000 : Int32) < b → hld b = 1000 := by
    intro z
    unfold hld
    by_cases y : b < 1
    · rw [if_pos y]
    · rw [if_neg y, if_neg (fun w => by rcases z with z | z; exact y z; exact absurd z (Int32.not_lt.mpr w))]
  have hh2 : ¬ b < 1 → ¬ (100000 : Int32) < b → hld b = b := by
    intro z y; unfold hld; rw [if_neg z, if_pos (Int32.not_lt.mp y)]
  by_cases z : a < 1 ∨ (1000 : Int32) < a
  · refine pw_out z ⟨fun _ => ?_, fun q => absurd rfl q⟩
    rintro S38 rfl
    by_cases y : b < 1 ∨ (100000 : Int32) < b
    · refine pw_out y ⟨fun _ => ?_, fun q => absurd rfl q⟩
      rintro S41 rfl
      refine key _ _ ⟨?_, ?_, ?_⟩ _ _ (hm1 z).symm (hh1 y).symm
      · simp [gI3, gL3, gR3, gN3, oup]
      · simp [gI1, gI2, gL1, gL2, gR1, gR2, gN1, gN2, oup]
      · exact cB
    · refine pw_in (fun w => y (Or.inl w)) (fun w => y (Or.inr w)) ⟨fun q => absurd q (by decide), fun _ => ?_⟩
      rintro S41 rfl
      refine key _ _ ⟨?_, ?_, ?_⟩ _ _ (hm1 z).symm (hh2 (fun w => y (Or.inl w)) (fun w => y (Or.inr w))).symm
      · simp [gI3, gL3, gR3, gN3, oup]
      · simp [gI1, gI2, gL1, gL2, gR1, gR2, gN1, gN2, oup]
      · exact cB
  · refine pw_in (fun w => z (Or.inl w)) (fun w => z (Or.inr w)) ⟨fun q => absurd q (by decide), fun _ => ?_⟩
    rintro S38 rfl
    by_cases y : b < 1 ∨ (100000 : Int32) < b
    · refine pw_out y ⟨fun _ => ?_, fun q => absurd rfl q⟩
      rintro S41 rfl
      refine key _ _ ⟨?_, ?_, ?_⟩ _ _ (hm2 (fun w => z (Or.inl w)) (fun w => z (Or.inr w))).symm (hh1 y).symm
      · simp [gI3, gL3, gR3, gN3, oup]
      · simp [gI1, gI2, gL1, gL2, gR1, gR2, gN1, gN2, oup]
      · exact cB
    · refine pw_in (fun w => y (Or.inl w)) (fun w => y (Or.inr w)) ⟨fun q => absurd q (by decide), fun _ => ?_⟩
      rintro S41 rfl
      refine key _ _ ⟨?_, ?_, ?_⟩ _ _ (hm2 (fun w => z (Or.inl w)) (fun w => z (Or.inr w))).symm (hh2 (fun w => y (Or.inl w)) (fun w => y (Or.inr w))).symm
      · simp [gI3, gL3, gR3, gN3, oup]
      · simp [gI1, gI2, gL1, gL2, gR1, gR2, gN1, gN2, oup]
      · exact cB
theorem mrg_in (a : Int32) : ∃ g, 1 ≤ g ∧ g ≤ 1000 ∧ mrg a = nI g := by
  unfold mrg
  by_cases z : a < 1
  · rw [if_pos z]; exact ⟨10, by decide, by decide, rfl⟩
  · rw [if_neg z]
    by_cases y : a ≤ 1000
    · rw [if_pos y]
      have h0 : ¬ a < 0 := fun w => z (Int32.lt_of_lt_of_le w (by decide))
      obtain ⟨k, hk, rfl⟩ := nI_of2 (M := 1000) (n := 1000) rfl h0 y
      refine ⟨k, ?_, hk, rfl⟩
      rw [show (1 : Int32) = nI 1 from rfl, nI_ltI (by omega) (by decide)] at z
      omega
    · rw [if_neg y]; exact ⟨10, by decide, by decide, rfl⟩
theorem hld_in (a : Int32) : ∃ g, 1 ≤ g ∧ g ≤ 100000 ∧ hld a = nI g := by
  unfold hld
  by_cases z : a < 1
  · rw [if_pos z]; exact ⟨1000, by decide, by decide, rfl⟩
  · rw [if_neg z]
    by_cases y : a ≤ 100000
    · rw [if_pos y]
      have h0 : ¬ a < 0 := fun w => z (Int32.lt_of_lt_of_le w (by decide))
      obtain ⟨k, hk, rfl⟩ := nI_of2 (M := 100000) (n := 100000) rfl h0 y
      refine ⟨k, ?_, hk, rfl⟩
      rw [show (1 : Int32) = nI 1 from rfl, nI_ltI (by omega) (by decide)] at z
      omega
    · rw [if_neg y]; exact ⟨1000, by decide, by decide, rfl⟩
theorem Inv_start {S T : oSt} {cn cn1 : Nat → Nat} {a b : Int32} (hX : xF S cn (mrg a) (hld b)) (hM : mF (sN S 0 0) T (oup cn 0) cn1 kAr) : Inv4 (sI (sI T 0 0 0 (mrg a)) 0 0 1 (hld b)) cn1 0 0 0 0 0 := by
  obtain ⟨⟨x1, x2, x3, x4, x5, x6, x7⟩, ⟨y1, y2, y3, y4, y5, y6, y7, y8⟩, ⟨c1, c2, c3, c4, c5, c6, c7⟩⟩ := hX
  obtain ⟨m1, m2, m3, m4⟩ := hM
  have e40 := m3 40 (by decide)
  have e42 := m3 42 (by decide)
  have s40 : (sN S 0 0).1 40 = S.1 40 := by funext p q; simp [gN1]
  have s40l : (sN S 0 0).2.1 40 = S.2.1 40 := by funext p q; simp [gN2]
  have s40r : (sN S 0 0).2.2 40 = S.2.2 40 := by funext p q; simp [gN3]
  have s42 : (sN S 0 0).1 42 = S.1 42 := by funext p q; simp [gN1]
  have s42r : (sN S 0 0).2.2 42 = S.2.2 42 := by funext p q; simp [gN3]
  have z0 : ∀ f, T.1 0 0 f = 0 := by intro f; rw [m4]; simp [gN1]
  have hcn : ∀ k, k ∉ kAr → k ≠ 0 → cn1 k = cn k := by intro k h1 h2; rw [m2 k h1]; simp [oup, h2]
  refine ⟨⟨by decide, by decide, by decide⟩, ⟨by rw [hcn 48 (by decide) (by decide)]; exact c1, by rw [hcn 49 (by decide) (by decide)]; exact c2, by rw [hcn 50 (by decide) (by decide)]; exact c3, by rw [hcn 51 (by decide) (by decide)]; exact c4, by rw [hcn 52 (by decide) (by decide)]; exact c5⟩, ?_, ?_, fun a ha => absurd ha (Nat.not_lt_zero a), fun q _ hq => ?_, fun j hj => absurd hj (Nat.not_lt_zero j), ?_, ?_⟩
  · unfold iRf
    simp only [gI3]
    rw [e40.2.2, e42.2.2, s40r, s42r]
    refine ⟨fun f h1 h2 h3 h4 h5 => (m1 f ?_).1, x1, x2, x3, x4, x5, x6, x7⟩
    have h9 : f = 5 ∨ f = 6 ∨ f = 7 ∨ f = 8 ∨ f = 9 ∨ f = 10 ∨ f = 11 ∨ f = 12 ∨ f = 13 ∨ f = 14 ∨ f = 15 ∨ f = 16 ∨ f = 17 ∨ f = 19 ∨ f = 20 ∨ f = 21 ∨ f = 23 ∨ f = 24 ∨ f = 25 ∨ f = 26 ∨ f = 27 ∨ f = 28 ∨ f = 29 ∨ f = 30 ∨ f = 32 := by omega
    rcases h9 with rfl | rfl | rfl | rfl | rfl | rfl | rfl | rfl | rfl | rfl | rfl | rfl | rfl | rfl | rfl | rfl | rfl | rfl | rfl | rfl | rfl | rfl | rfl | rfl | rfl <;> decide
  · unfold iSc
    simp only [gI1, gI2]
    rw [e40.1, e40.2.1, s40, s40l]
    obtain ⟨g, g1, g2, g3⟩ := mrg_in a
    obtain ⟨h, h1, h2, h3⟩ := hld_in b
    refine ⟨by simp [y3, z0, nI_0], by simp [y4, z0, nI_0], ⟨g, g1, g2, by simp [y1, g3], by simp [g3]⟩, ⟨h, h1, h2, by simp [y2, h3], by simp [h3]⟩, by simp [y6, z0], 0, by omega, by simp [z0, nI_0], by rw [y7]; rfl⟩
  · have k5 := (m1 5 (by decide)).2.2
    have k10 := (m1 10 (by decide)).2.1
    have k11 := (m1 11 (by decide)).2.1
    have k12 := (m1 12 (by decide)).2.2
    have k17 := (m1 17 (by decide)).2.1
    refine ⟨by simp [gI2, k5], by simp [gI1, k10], by simp [gI1, k11], by simp [gI2, k12], by simp [gI1, k17]⟩
  · refine ⟨?_, by simp [gI1, z0, nI_0], Nat.zero_le _, fun j hj => absurd hj (Nat.not_lt_zero j)⟩
    simp only [gI1]
    rw [e40.1, s40]
    simp [y5, nI_0]
  · refine ⟨by decide, ?_, by simp [gI1, z0, nI_0], fun i j hi => absurd hi (Nat.not_lt_zero i), fun i j hi => absurd hi (Nat.not_lt_zero i), fun y => ⟨fun ⟨i, hi, _⟩ => absurd hi (Nat.not_lt_zero i), fun ⟨i, hi, _⟩ => absurd hi (Nat.not_lt_zero i)⟩, fun i hi => absurd hi (Nat.not_lt_zero i)⟩
    simp only [gI1]
    rw [e42.1, s42]
    simp [y8, nI_0]
