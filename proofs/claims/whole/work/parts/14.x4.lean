set_option maxRecDepth 100000 in
set_option maxHeartbeats 4000000 in
theorem ct_X_settlement (l : Launch) (Γ : oGm) (ad : oAd) (cn : Nat → Nat) (S : oSt) (a1 : Int32) (post : Int64 → oSt → Prop) (l0 : 0 < cn 40) (h : wp_X_settlement S a1 post) : Met l y_X_settlement (.code y_X_settlement prog_1_method_20_code 2 (some .long) :: oWS) { frames := 1, cells := 0, slots := 0, locals := 40 } (va_Pc [.ref (ad 40 0), .int (a1)] (oW Γ ad cn S)) (oQ Γ ad cn vJ post) 0 0 (oF Γ) := by
  refine o_met (lv := [(0, .ref (ad 40 0)), (1, .int (a1))]) (own := "ValueConnector") (by decide) rfl (Nat.le_of_ble_eq_true rfl) rfl ?_
  intro p e s m args below meth c C hr hnm
  have hR : 1 ≤ ({ frames := 1, cells := 0, slots := 0, locals := 40 } : Room).frames ∧ 40 ≤ ({ frames := 1, cells := 0, slots := 0, locals := 40 } : Room).locals := ⟨Nat.le_refl _, Nat.le_refl _⟩
  unfold wp_X_settlement at h
  refine V_iload_n 1 C rfl d_X_settlement_0 ?_
  refine V_if_lt C d_X_settlement_1 (fun q => ?_) (fun q => ?_)
  · replace h := h.1 q
    refine V_ldc2 (v := -1) C w_385 d_X_settlement_21 ?_
    exact V_lret C hr d_X_settlement_24 h
  · replace h := h.2 q
    refine V_iload_n 1 C rfl d_X_settlement_4 ?_
    refine V_aload_n 0 C rfl d_X_settlement_5 ?_
    refine V_get C f_X_39 l0 (osh_40 _ _ _ _) (fl_40_8 _ _ _) d_X_settlement_6 ?_
    refine V_icmp_ge C d_X_settlement_9 (fun q => ?_) (fun q => ?_)
    · replace h := h.1 q
      refine V_ldc2 (v := -1) C w_385 d_X_settlement_21 ?_
      exact V_lret C hr d_X_settlement_24 h
    · replace h := h.2 q
      refine V_aload_n 0 C rfl d_X_settlement_12 ?_
      obtain ⟨j1, ej1, h⟩ := h
      refine V_getr (f := 5) C f_X_28 l0 (osh_40 _ _ _ _) (fl_40_5 _ _ _) ej1 d_X_settlement_13 (fun lj1 => ?_)
      replace lj1 : j1 < cn 44 := lj1
      refine V_sh [(0, .ref (ad 40 0)), (1, .int (a1))] [.ref (ad 44 j1)] rfl rfl ?_
      refine V_iload_n 1 C rfl d_X_settlement_16 ?_
      refine V_lald C lj1 (osh_44 _ _ _ _) h.1 d_X_settlement_17 ?_
      replace h := h.2
      refine V_goto C d_X_settlement_18 ?_
      exact V_lret C hr d_X_settlement_24 h
set_option maxRecDepth 100000 in
set_option maxHeartbeats 4000000 in
theorem ct_X_drops (l : Launch) (Γ : oGm) (ad : oAd) (cn : Nat → Nat) (S : oSt) (a1 : Int32) (post : Int32 → oSt → Prop) (l0 : 0 < cn 40) (h : wp_X_drops S a1 post) : Met l y_X_drops (.code y_X_drops prog_1_method_21_code 3 (some .int) :: oWS) { frames := 2, cells := 0, slots := 0, locals := 61 } (va_Pc [.ref (ad 40 0), .int (a1)] (oW Γ ad cn S)) (oQ Γ ad cn vI post) 0 0 (oF Γ) := by
  refine o_met (lv := [(0, .ref (ad 40 0)), (1, .int (a1))]) (own := "ValueConnector") (by decide) rfl (Nat.le_of_ble_eq_true rfl) rfl ?_
  intro p e s m args below meth c C hr hnm
  have hR : 2 ≤ ({ frames := 2, cells := 0, slots := 0, locals := 61 } : Room).frames ∧ 61 ≤ ({ frames := 2, cells := 0, slots := 0, locals := 61 } : Room).locals := ⟨Nat.le_refl _, Nat.le_refl _⟩
  unfold wp_X_drops at h
  refine V_aload_n 0 C rfl d_X_drops_0 ?_
  refine V_iload_n 1 C rfl d_X_drops_1 ?_
  refine V_cV (As := [.int (a1)]) (rest := []) C k_X_65 l0 (osh_40 _ _ _ _) (ct_X_accountNumbered l Γ ad cn S (a1) _ l0 h) ⟨rfl, rfl⟩ ⟨Nat.le_trans (by decide) hR.1, Nat.le_trans (by decide) hR.2⟩ ⟨Nat.zero_le _, Nat.zero_le _⟩ rfl rfl (Nat.le_of_ble_eq_true rfl) d_X_drops_2 (fun r1 S2 h => ?_)
  obtain ⟨lr1, h⟩ := h
  refine V_sh [(0, .ref (ad 40 0)), (1, .int (a1))] [rv ad 48 r1] rfl rfl ?_
  refine V_ostore_n (kd := 48) (o := r1) C [(2, rv ad 48 r1), (0, .ref (ad 40 0)), (1, .int (a1))] (by decide) rfl d_X_drops_5 ?_
  refine V_oload_n (kd := 48) (o := r1) 0 C rfl d_X_drops_6 ?_
  refine V_ifnonnull (kd := 48) (o := r1) C d_X_drops_7 (fun j3 q => ?_) (fun q => ?_)
  · replace h := h.2 j3 q
    subst q
    have lj3 := lr1 j3 rfl
    refine V_sh [(2, .ref (ad 48 j3)), (0, .ref (ad 40 0)), (1, .int (a1))] [] rfl rfl ?_
    refine V_aload_n 0 C rfl d_X_drops_14 ?_
    obtain ⟨j4, ej4, h⟩ := h
    refine V_getr (f := 3) C f_X_88 lj3 (osh_48 _ _ _ _) (fl_48_3 _ _ _) ej4 d_X_drops_15 (fun lj4 => ?_)
    replace lj4 : j4 < cn 49 := lj4
    refine V_sh [(2, .ref (ad 48 j3)), (0, .ref (ad 40 0)), (1, .int (a1))] [.ref (ad 49 j4)] rfl rfl ?_
    refine V_get C f_X_208 lj4 (osh_49 _ _ _ _) (fl_49_2 _ _ _) d_X_drops_18 ?_
    exact V_iret C hr d_X_drops_21 h
  · replace h := h.1 q
    subst q
    refine V_iconst (v := -1) C (by decide) d_X_drops_10 ?_
    refine V_goto C d_X_drops_11 ?_
    exact V_iret C hr d_X_drops_21 h
