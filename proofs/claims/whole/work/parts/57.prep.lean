/-! prepare -/
theorem sub32 {e g : Nat} (he : e < 2 ^ 31) (hg : g ≤ 1000) : (nI e - nI g).toInt = (e : Int) - g := by
  rw [Int32.toInt_sub, nI_toInt he, nI_toInt (by omega)]
  exact Int.bmod_eq_of_le_mul_two (by omega) (by omega)
theorem sub64 {e g : Nat} (he : e < 2 ^ 31) (hg : g ≤ 1000) : ((nI e).toInt64 - (nI g).toInt64).toInt = (e : Int) - g := by
  rw [Int64.toInt_sub, Int32.toInt_toInt64, Int32.toInt_toInt64, nI_toInt he, nI_toInt (by omega)]
  exact Int.bmod_eq_of_le_mul_two (by omega) (by omega)
def outM (w g hd : Nat) (u : Int32) : Int32 := if nI w + nI hd ≤ u - nI g then nI w + nI hd else u - nI g
theorem out_eq {w g hd : Nat} {u : Int32} (hw : w ≤ 100000000) (hg : g ≤ 1000) (hh : hd ≤ 100000) (hu : nI w < u) : (if lN w + (nI hd).toInt64 < u.toInt64 - (nI g).toInt64 then lN w + (nI hd).toInt64 else u.toInt64 - (nI g).toInt64) = (outM w g hd u).toInt64 := by
  have h0 : ¬ u < 0 := fun z => nI_pos (n := w) (by omega) (Int32.lt_trans hu z)
  obtain ⟨e, he, rfl⟩ := nI_of h0
  have e1 : nI w + nI hd = nI (w + hd) := nI_add _ _
  have e2 : lN w + (nI hd).toInt64 = lN (w + hd) := by rw [nI_l (by omega), lN_add]
  have c1 : (nI (w + hd) ≤ nI e - nI g) ↔ ((w + hd : Nat) : Int) ≤ (e : Int) - g := by
    rw [Int32.le_iff_toInt_le, sub32 he hg, nI_toInt (by omega)]
  have c2 : (lN (w + hd) < (nI e).toInt64 - (nI g).toInt64) ↔ ((w + hd : Nat) : Int) < (e : Int) - g := by
    rw [Int64.lt_iff_toInt_lt, sub64 he hg, lN_toInt (by omega)]
  unfold outM
  rw [e1, e2]
  apply Int64.toInt_inj.mp
  rw [Int32.toInt_toInt64]
  by_cases h1 : ((w + hd : Nat) : Int) < (e : Int) - g
  · rw [if_pos (c2.mpr h1), if_pos (c1.mpr (by omega)), lN_toInt (by omega), nI_toInt (by omega)]
  · rw [if_neg (fun z => h1 (c2.mp z)), sub64 he hg]
    by_cases h2 : ((w + hd : Nat) : Int) ≤ (e : Int) - g
    · rw [if_pos (c1.mpr h2), nI_toInt (by omega)]; omega
    · rw [if_neg (fun z => h2 (c1.mp z)), sub32 he hg]
theorem cmp_now {w : Nat} {z : Int32} (hw : w ≤ 100000000) : 0 < lg_cmp z.toInt64 (lN w) ↔ nI w < z := by
  rw [lg_cmp_gt, Int64.lt_iff_toInt_lt, Int32.lt_iff_toInt_lt, Int32.toInt_toInt64, lN_toInt (by omega), nI_toInt (by omega)]
noncomputable def ifc (P : Prop) (a b : Int32) : Int32 := @ite _ P (Classical.propDecidable P) a b
theorem ifc_pos {P : Prop} {a b : Int32} (h : P) : ifc P a b = a := if_pos h
theorem ifc_neg {P : Prop} {a b : Int32} (h : ¬ P) : ifc P a b = b := if_neg h
/-- what goes out -/
def cvt (S : oSt) (j o : Nat) (v : Int32) : Int64 := (((Int32.toInt64 v) * (Int32.toInt64 (S.1 8 0 j))) * (Int32.toInt64 ((1000 : Int32) - (S.1 0 0 3)))) / ((1000 : Int64) * (Int32.toInt64 (S.1 8 0 o)))
/-- the answer's kind: -2 to -10, or 0 where the transfer is kept -/
noncomputable def pcode (S : oSt) (nT w g hd j : Nat) (x : Int64) (v u r : Int32) : Int32 :=
  ifc (¬ (vpre x ∧ 1 ≤ vlen x)) (-2) (ifc (¬ 0 ≤ v) (-2) (ifc (nT = 120) (-3) (ifc (¬ nI w < u) (-4) (ifc (¬ v ≤ S.1 7 0 j) (-5) (ifc (¬ 100 ≤ S.1 15 0 j) (-6) (ifc (r < 0) (-7) (ifc (r = nI j) (-7) (ifc (¬ nI w < outM w g hd u) (-8) (ifc (¬ 0 ≤ lg_cmp (S.2.1 5 0 j - v.toInt64) (S.1 6 0 j).toInt64) (-9) (ifc (¬ lg_cmp (cvt S j r.toNatClampNeg v) (S.1 7 0 r.toNatClampNeg).toInt64 ≤ 0) (-10) 0))))))))))
def mkM (S T : oSt) (j o nT : Nat) (v out : Int32) (lk : Int64) : oSt := sI (sI (sL (sI (sL (sI (sI (sI (sL (sI T 15 0 j (S.1 15 0 j - 100)) 5 0 j (S.2.1 5 0 j - v.toInt64)) 23 0 nT (nI j)) 24 0 nT (nI o)) 25 0 nT v) 26 0 nT (cvt S j o v)) 27 0 nT out) 28 0 nT lk) 29 0 nT 0) 0 0 22 (nI (nT + 1))
theorem w_ne {S : oSt} {t a : Nat} (h : iA S t a) : ¬ ((1000 : Int64) * (Int32.toInt64 (S.1 8 0 a))) = 0 := by
  obtain ⟨-, ⟨-, -, -, h1, h2⟩, -⟩ := h
  have h0 : ¬ S.1 8 0 a < 0 := fun z => absurd (Int32.lt_of_lt_of_le z (by decide : (0 : Int32) ≤ 1)) (Int32.not_lt.mpr h1)
  obtain ⟨k, hk, e⟩ := nI_of2 (M := 10000) (n := 10000) rfl h0 h2
  rw [e] at h1 ⊢
  have hk1 : 1 ≤ k := by
    rw [show (1 : Int32) = nI 1 from rfl, nI_leI (by decide) (by omega)] at h1
    exact h1
  rw [nI_l (by omega), show (1000 : Int64) = lN 1000 from rfl, lN_mul]
  intro z
  have := (pk_lEQ (a := 1000 * k) (b := 0) (by omega) (by decide)).mp z
  omega
set_option maxHeartbeats 8000000 in
theorem M_prep {S T : oSt} {cn : Nat → Nat} {t nA nT nS nR j w g hd : Nat} {x lk : Int64} {v u r : Int32} (I : Inv4 S cn t nA nT nS nR) (eM : eqK kM S T) (hj : j < nA) (hw : S.1 0 0 2 = nI w) (hg : S.1 0 0 0 = nI g) (hh : S.1 0 0 1 = nI hd) (hr : wayR S nA nR x r) {post : Int32 → oSt → Prop}
    (hA' : ∀ c, pcode S nT w g hd j x v u r = c → (c = -2 ∨ c = -3 ∨ c = -4 ∨ c = -5 ∨ c = -6) → post c T) (hB : ∀ c, pcode S nT w g hd j x v u r = c → (c = -7 ∨ c = -8 ∨ c = -9 ∨ c = -10) → post c (sI T 15 0 j (S.1 15 0 j - 100)))
    (hC : ∀ o, pcode S nT w g hd j x v u r = 0 → o < nA → r = nI o → o ≠ j → post (nI nT) (mkM S T j o nT v (outM w g hd u) lk)) : wp_M_prepare T (nI j) x v u lk post := by
  obtain ⟨⟨b1, b2, b3⟩, hcn, hRf, hSc, hA, hZ, hT, hSt, hRt⟩ := I
  have e0 := eM 0 (by decide)
  have tf : ∀ f, 5 ≤ f → f ≤ 32 → f ≠ 18 → f ≠ 22 → f ≠ 31 → T.2.2 0 0 f = some 0 := by rw [e0.2.2]; exact hRf.1
  have hl := vlen_le (x := x)
  have hv8 : vp_in (nI j) 8 := vp_in_nI (by omega) (by decide)
  have t22 : T.1 0 0 22 = nI nT := by rw [e0.1]; exact hSc.2.1.2
  have t2 : T.1 0 0 2 = nI w := by rw [e0.1]; exact hw
  have t7 : T.1 7 0 = S.1 7 0 := by rw [(eM 7 (by decide)).1]
  have t15 : T.1 15 0 = S.1 15 0 := by rw [(eM 15 (by decide)).1]
  unfold pcode at hA' hB hC
  unfold wp_M_prepare
  refine ia_ok (nA := nA) (by rw [e0.1]; exact hSc.1.2) b1 hj ⟨fun _ => ?_, fun q => absurd q (by decide)⟩
  have hbad2 : ¬ (vpre x ∧ 1 ≤ vlen x) → post (-2) T := fun z => hA' (-2) (by rw [ifc_pos z]) (Or.inl rfl)
  refine M_lengthOf (fun hp => ⟨fun z => hbad2 (fun y => ?_), fun z => ?_⟩) (fun hp => ⟨fun _ => hbad2 (fun y => hp y.1), fun z => absurd (by decide) z⟩)
  · rw [show (1 : Int32) = nI 1 from rfl, nI_ltI (by omega) (by decide)] at z
    omega
  rw [show (1 : Int32) = nI 1 from rfl, nI_ltI (by omega) (by decide)] at z
  have g1 : ¬ ¬ (vpre x ∧ 1 ≤ vlen x) := fun y => y ⟨hp, by omega⟩
  rw [ifc_neg g1] at hA' hB hC
  refine ⟨fun z2 => ?_, fun z2 => hA' (-2) (by rw [ifc_pos z2]) (Or.inl rfl)⟩
  rw [ifc_neg (fun y => y z2)] at hA' hB hC
  rw [t22]
  refine ⟨fun z3 => ?_, fun z3 => ?_⟩
  rotate_left
  · have e120 : nT = 120 := (nI_eq (by omega) (by decide)).mp (show nI nT = nI 120 from z3)
    exact hA' (-3) (by rw [ifc_pos e120]) (Or.inr (Or.inl rfl))
  have hT120 : nT < 120 := Nat.lt_of_le_of_ne b2 (fun y => z3 (by rw [y]; rfl))
  rw [ifc_neg (by omega)] at hA' hB hC
  rw [t2]
  refine ⟨fun z4 => ?_, fun z4 => hA' (-4) (by rw [ifc_pos z4]) (Or.inr (Or.inr (Or.inl rfl)))⟩
  rw [ifc_neg (fun y => y z4)] at hA' hB hC
  refine ⟨0, tf 7 (by decide) (by decide) (by decide) (by decide) (by decide), hv8, ?_⟩
  rw [cl8 (by omega), t7]
  refine ⟨fun z5 => ⟨0, tf 15 (by decide) (by decide) (by decide) (by decide) (by decide), hv8, ?_⟩, fun z5 => hA' (-5) (by rw [ifc_pos z5]) (Or.inr (Or.inr (Or.inr (Or.inl rfl))))⟩
  rw [ifc_neg (fun y => y z5)] at hA' hB hC
  rw [t15]
  refine ⟨fun z6 => ⟨0, tf 15 (by decide) (by decide) (by decide) (by decide) (by decide), hv8, hv8, ?_⟩, fun z6 => hA' (-6) (by rw [ifc_pos z6]) (Or.inr (Or.inr (Or.inr (Or.inr rfl))))⟩
  rw [ifc_neg (fun y => y z6)] at hA' hB hC
  rw [t15]
  rintro S8 rfl
  generalize hU : sI T 15 0 j (S.1 15 0 j - 100) = U at *
  have uk : ∀ k, k ≠ 15 → U.1 k = T.1 k := by intro k hk; subst hU; exact gIk hk
  have ul : U.2 = T.2 := by subst hU; rfl
  have eU : eqK [0, 19, 20, 21] S U := by subst hU; exact eqK.I (by decide) (eM.sub (by decide))
  have uf : ∀ f, 5 ≤ f → f ≤ 32 → f ≠ 18 → f ≠ 22 → f ≠ 31 → U.2.2 0 0 f = some 0 := by rw [ul]; exact tf
  refine M_way_r hp (by omega) hRt eU hRf hr ?_
  refine ⟨fun z7 => hB (-7) (by rw [ifc_pos z7]) (Or.inl rfl), fun z7 => ?_⟩
  rw [ifc_neg z7] at hA' hB hC
  have hro : ∃ o, o < nA ∧ r = nI o := by
    rcases hr.1 with h | h
    · exact h
    · exact absurd (by rw [h]; decide) z7
  obtain ⟨o, ho, rfl⟩ := hro
  refine ⟨fun z8 => ?_, fun z8 => hB (-7) (by rw [ifc_pos z8]) (Or.inl rfl)⟩
  rw [ifc_neg z8] at hA' hB hC
  have hoj : o ≠ j := fun y => z8 (by rw [y])
  have hv8o : vp_in (nI o) 8 := vp_in_nI (by omega) (by decide)
  have u0 : U.1 0 = S.1 0 := by rw [uk 0 (by decide), e0.1]
  have u5 : U.2.1 5 0 = S.2.1 5 0 := by rw [ul, (eM 5 (by decide)).2.1]
  have u6 : U.1 6 0 = S.1 6 0 := by rw [uk 6 (by decide), (eM 6 (by decide)).1]
  have u7 : U.1 7 0 = S.1 7 0 := by rw [uk 7 (by decide), (eM 7 (by decide)).1]
  have u8 : U.1 8 0 = S.1 8 0 := by rw [uk 8 (by decide), (eM 8 (by decide)).1]
  have hJ : wp_M_prepare_J148 post (nI j) v lk (nI o) (outM w g hd u) U := by
    unfold wp_M_prepare_J148
    rw [u0, hw]
    refine ⟨fun z9 => ⟨0, uf 5 (by decide) (by decide) (by decide) (by decide) (by decide), hv8, 0, uf 6 (by decide) (by decide) (by decide) (by decide) (by decide), hv8, ?_⟩, fun z9 => hB (-8) (by rw [ifc_pos z9]) (Or.inr (Or.inl rfl))⟩
    rw [ifc_neg (fun y => y z9)] at hB hC
    rw [cl8 (by omega), u5, u6]
    refine ⟨fun z10 => ⟨0, uf 8 (by decide) (by decide) (by decide) (by decide) (by decide), hv8, 0, uf 8 (by decide) (by decide) (by decide) (by decide) (by decide), hv8o, ?_⟩, fun z10 => hB (-9) (by rw [ifc_pos z10]) (Or.inr (Or.inr (Or.inl rfl)))⟩
    rw [ifc_neg (fun y => y z10), cl8 (by omega)] at hB hC
    rw [cl8 (by omega), u8]
    refine ⟨w_ne (hA o ho), 0, uf 7 (by decide) (by decide) (by decide) (by decide) (by decide), hv8o, ?_⟩
    rw [u7]
    refine ⟨fun z11 => ⟨0, uf 5 (by decide) (by decide) (by decide) (by decide) (by decide), hv8, hv8, ?_⟩, fun z11 => hB (-10) (ifc_pos z11) (Or.inr (Or.inr (Or.inr rfl)))⟩
    rw [ifc_neg (fun y => y z11)] at hC
    have hk := hC o rfl ho rfl hoj
    have hvT : vp_in (nI nT) 120 := vp_in_nI hT120 (by decide)
    have u22 : U.1 0 0 22 = nI nT := by rw [u0]; exact hSc.2.1.2
    rw [u5]
    rintro S17 rfl
    refine ⟨0, uf 23 (by decide) (by decide) (by decide) (by decide) (by decide), by simpa [gL1, gI1, u22] using hvT, ?_⟩
    simp only [gL1, u22]
    rw [cl8 (by omega)]
    rintro S19 rfl
    refine ⟨0, uf 24 (by decide) (by decide) (by decide) (by decide) (by decide), by simpa [gL1, gI1, u22] using hvT, ?_⟩
    simp only [gL1, gI1, u22, Nat.reduceEqDiff, false_and, if_false]
    rw [cl8 (by omega)]
    rintro S21 rfl
    refine ⟨0, uf 25 (by decide) (by decide) (by decide) (by decide) (by decide), by simpa [gL1, gI1, u22] using hvT, ?_⟩
    simp only [gL1, gI1, u22, Nat.reduceEqDiff, false_and, if_false]
    rw [cl8 (by omega)]
    rintro S23 rfl
    refine ⟨0, uf 26 (by decide) (by decide) (by decide) (by decide) (by decide), by simpa [gL1, gI1, u22] using hvT, ?_⟩
    simp only [gL1, gI1, u22, Nat.reduceEqDiff, false_and, if_false]
    rw [cl8 (by omega)]
    rintro S25 rfl
    refine ⟨0, uf 27 (by decide) (by decide) (by decide) (by decide) (by decide), by simpa [gL1, gI1, u22] using hvT, ?_⟩
    simp only [gL1, gI1, u22, Nat.reduceEqDiff, false_and, if_false]
    rw [cl8 (by omega)]
    rintro S27 rfl
    refine ⟨0, uf 28 (by decide) (by decide) (by decide) (by decide) (by decide), by simpa [gL1, gI1, u22] using hvT, ?_⟩
    simp only [gL1, gI1, u22, Nat.reduceEqDiff, false_and, if_false]
    rw [cl8 (by omega)]
    rintro S29 rfl
    refine ⟨0, uf 29 (by decide) (by decide) (by decide) (by decide) (by decide), by simpa [gL1, gI1, u22] using hvT, ?_⟩
    simp only [gL1, gI1, u22, Nat.reduceEqDiff, false_and, if_false]
    rw [cl8 (by omega)]
    rintro S31 rfl S32 rfl
    simp only [gL1, gI1, u22, Nat.reduceEqDiff, false_and, if_false, and_self, if_true, nI_1]
    rw [nI_pred]
    unfold mkM at hk
    rw [hU] at hk
    unfold cvt at hk
    exact hk
  rw [u0, hw, hg, hh]
  unfold outM at hJ
  refine ⟨fun z9 => ?_, fun z9 => ?_⟩
  · rw [if_pos z9] at hJ; exact hJ
  · rw [if_neg z9] at hJ; exact hJ
/-- what the class's prepare has made -/
def mkX (S : oSt) (j o nT : Nat) (v out : Int32) (lk : Int64) : oSt := sI (sR (sL (sL (sL (sI (sR (sR (sL (sI (sN (sL (sI S 49 j 2 (S.1 15 0 j - 100)) 48 j 6 (S.2.1 5 0 j - v.toInt64)) 52 nT) 52 nT 6 0) 52 nT 7 0) 52 nT 0 (some j)) 52 nT 1 (some o)) 52 nT 2 v) 52 nT 3 (cvt S j o v)) 52 nT 4 out.toInt64) 52 nT 5 lk) 43 0 nT (some nT)) 40 0 7 (nI (nT + 1))
set_option maxHeartbeats 8000000 in
theorem X_prep {S : oSt} {cn : Nat → Nat} {t nA nT nS nR j w g hd : Nat} {x lk : Int64} {v u r : Int32} (I : Inv4 S cn t nA nT nS nR) (hj : j < nA) (hw8 : w ≤ 100000000) (hg8 : g ≤ 1000) (hh8 : hd ≤ 100000) (hw : S.2.1 40 0 10 = lN w) (hg : S.1 40 0 0 = nI g) (hh : S.1 40 0 1 = nI hd) (hr : wayR S nA nR x r) {post : Int32 → (Nat → Nat) → oSt → Prop}
    (hA' : ∀ c, pcode S nT w g hd j x v u r = c → (c = -2 ∨ c = -3 ∨ c = -4 ∨ c = -5 ∨ c = -6) → post c cn S) (hB : ∀ c, pcode S nT w g hd j x v u r = c → (c = -7 ∨ c = -8 ∨ c = -9 ∨ c = -10) → post c cn (sI S 49 j 2 (S.1 15 0 j - 100)))
    (hC : ∀ o, pcode S nT w g hd j x v u r = 0 → o < nA → r = nI o → o ≠ j → nT < 120 → post (nI nT) (oup cn 52) (mkX S j o nT v (outM w g hd u) lk)) : wp_X_prepare cn S (nI j) x v u lk post := by
  obtain ⟨⟨b1, b2, b3⟩, hcn, hRf, hSc, hA, hZ, hT, hSt, hRt⟩ := I
  have hl := vlen_le (x := x)
  obtain ⟨a1, ⟨a2, a3, a4, a5, a6⟩, a7, a8, a9, a10, a11, ⟨a12, a13, a14⟩, a15⟩ := hA j hj
  unfold pcode at hA' hB hC
  unfold wp_X_prepare
  refine an_ok hSc.1.1 hRf.2.1 b1 hj a1.1 ⟨nofun, fun j' e => ?_⟩
  cases e
  have hbad2 : ¬ (vpre x ∧ 1 ≤ vlen x) → post (-2) cn S := fun z => hA' (-2) (by rw [ifc_pos z]) (Or.inl rfl)
  unfold wp_X_isAddress
  refine X_letterCount (fun hp => ⟨fun z => ⟨fun _ => hbad2 (fun y => ?_), fun y => absurd rfl y⟩, fun z => ⟨fun y => absurd y (by decide), fun _ => ?_⟩⟩) (fun hp => ⟨fun _ => ⟨fun _ => hbad2 (fun y => hp y.1), fun y => absurd rfl y⟩, fun z => absurd (by decide) z⟩)
  · rw [show (1 : Int32) = nI 1 from rfl, nI_ltI (by omega) (by decide)] at z
    omega
  rw [show (1 : Int32) = nI 1 from rfl, nI_ltI (by omega) (by decide)] at z
  have g1 : ¬ ¬ (vpre x ∧ 1 ≤ vlen x) := fun y => y ⟨hp, by omega⟩
  rw [ifc_neg g1] at hA' hB hC
  refine ⟨fun z2 => ?_, fun z2 => hA' (-2) (by rw [ifc_pos z2]) (Or.inl rfl)⟩
  rw [ifc_neg (fun y => y z2)] at hA' hB hC
  rw [hSc.2.1.1, show (120 : Int32) = nI 120 from rfl, nI_ltI (by omega) (by decide)]
  refine ⟨fun hT120 => ?_, fun z3 => hA' (-3) (by rw [ifc_pos (show nT = 120 by omega)]) (Or.inr (Or.inl rfl))⟩
  rw [ifc_neg (by omega)] at hA' hB hC
  rw [hw, cmp_now hw8]
  refine ⟨fun z4 => ?_, fun z4 => hA' (-4) (by rw [ifc_pos z4]) (Or.inr (Or.inr (Or.inl rfl)))⟩
  rw [ifc_neg (fun y => y z4)] at hA' hB hC
  rw [a3]
  refine ⟨fun z5 => ⟨j, a1.2.1, ?_⟩, fun z5 => hA' (-5) (by rw [ifc_pos z5]) (Or.inr (Or.inr (Or.inr (Or.inl rfl))))⟩
  rw [ifc_neg (fun y => y z5)] at hA' hB hC
  unfold wp_B_take
  rw [a14]
  refine ⟨fun z6 => ?_, fun z6 => ⟨fun y => absurd rfl y, fun _ => hA' (-6) (by rw [ifc_pos z6]) (Or.inr (Or.inr (Or.inr (Or.inr rfl))))⟩⟩
  rw [ifc_neg (fun y => y z6)] at hA' hB hC
  rintro S1 rfl
  refine ⟨fun _ => ⟨0, hRf.2.2.1, rfl, ?_⟩, fun y => absurd y (by decide)⟩
  generalize hU : sI S 49 j 2 (S.1 15 0 j - 100) = U at *
  have uk : ∀ k, k ≠ 49 → U.1 k = S.1 k := by intro k hk; subst hU; exact gIk hk
  have ul : U.2 = S.2 := by subst hU; rfl
  have hRtU : iRt U nA nR := by subst hU; exact hRt.fr2 (eqK.I (by decide) eqK.rf) (by simp [gI1]) (by simp [gI1])
  have hRfU : iRf U := by unfold iRf; rw [ul]; exact hRf
  have hrU : wayR U nA nR x r := by
    unfold wayR at hr ⊢
    rw [uk 19 (by decide), uk 21 (by decide), ul]; exact hr
  refine X_way_r hp hRtU hRfU hrU ?_
  have uc : U.1 40 0 6 = nI nA := by rw [uk 40 (by decide)]; exact hSc.1.1
  by_cases z7 : r < 0
  · refine an_bad uc (Or.inl z7) ⟨fun _ => hB (-7) (by rw [ifc_pos z7]) (Or.inl rfl), nofun⟩
  rw [ifc_neg z7] at hA' hB hC
  have hro : ∃ o, o < nA ∧ r = nI o := by
    rcases hr.1 with h | h
    · exact h
    · exact absurd (by rw [h]; decide) z7
  obtain ⟨o, ho, rfl⟩ := hro
  refine an_ok uc (by rw [ul]; exact hRf.2.1) b1 ho (by rw [ul]; exact (hA o ho).1.1) ⟨nofun, fun j' e => ?_⟩
  cases e
  refine ⟨fun hoj => ?_, fun z8 => hB (-7) (by rw [ifc_pos (show nI o = nI j by rw [z8])]) (Or.inl rfl)⟩
  have z8 : ¬ nI o = nI j := fun y => hoj ((nI_eq (by omega) (by omega)).mp y)
  rw [ifc_neg z8] at hA' hB hC
  obtain ⟨o1, ⟨o2, o3, o4, o5, o6⟩, o7⟩ := hA o ho
  have eo := out_eq (w := w) (g := g) (hd := hd) (u := u) hw8 hg8 hh8 z4
  rw [uk 40 (by decide), hg, hh, ul, hw, eo, cmp_now hw8]
  refine ⟨fun z9 => ?_, fun z9 => hB (-8) (by rw [ifc_pos z9]) (Or.inr (Or.inl rfl))⟩
  rw [ifc_neg (fun y => y z9)] at hB hC
  rw [uk 48 (by decide), a7, a2]
  refine ⟨fun z10 => ?_, fun z10 => hB (-9) (by rw [ifc_pos z10]) (Or.inr (Or.inr (Or.inl rfl)))⟩
  rw [ifc_neg (fun y => y z10), cl8 (by omega)] at hB hC
  rw [a4, o4]
  unfold wp_X_converted
  rw [uk 40 (by decide), hSc.2.2.2.2.1]
  refine ⟨w_ne (hA o ho), ?_⟩
  have e482 : U.1 48 o 2 = S.1 7 0 o := by rw [uk 48 (by decide)]; exact o3
  refine ⟨fun z11 => ?_, fun z11 => by rw [e482] at z11; exact hB (-10) (ifc_pos z11) (Or.inr (Or.inr (Or.inr rfl)))⟩
  rw [e482] at z11
  rw [ifc_neg (fun y => y z11)] at hC
  have hk := hC o rfl ho rfl hoj hT120
  have e486 : U.2.1 48 j 6 = S.2.1 5 0 j := by rw [ul]; exact a7
  rw [e486]
  rintro S18 rfl i19 cn21 S22 rfl rfl rfl
  rw [hcn.2.2.2.2]
  unfold wp_T_init
  rintro S1 rfl S2 rfl S3 rfl S4 rfl S5 rfl S6 rfl S7 rfl S8 rfl
  unfold wp_X_keep
  refine ⟨0, ?_, ?_⟩
  · simp [gL3, gI3, gR3, gN3, ul, hRf.2.2.2.1]
  have e407 : ∀ q : Int32, q = S.1 40 0 7 → vp_in q 120 := by
    rintro q rfl; rw [hSc.2.1.1]; exact vp_in_nI hT120 (by decide)
  have e7 : U.1 40 0 7 = nI nT := by rw [uk 40 (by decide)]; exact hSc.2.1.1
  simp only [gL1, gI1, gR1, gN1, Nat.reduceEqDiff, false_and, if_false, e7]
  refine ⟨vp_in_nI hT120 (by decide), ?_⟩
  rw [cl8 (by omega)]
  rintro S2' rfl S3' rfl
  simp only [gL1, gI1, gR1, gN1, Nat.reduceEqDiff, false_and, if_false, e7, nI_1]
  unfold mkX at hk
  rw [hU] at hk
  unfold cvt at hk
  exact hk
