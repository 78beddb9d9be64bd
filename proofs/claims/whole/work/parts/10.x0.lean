set_option maxRecDepth 100000 in
set_option maxHeartbeats 4000000 in
theorem ct_R_init (l : Launch) (Γ : oGm) (ad : oAd) (cn : Nat → Nat) (S : oSt)  (post : Unit → (Nat → Nat) → oSt → Prop) (l0 : 0 < cn 42) (h : wp_R_init cn S  post) : Met l y_R_init (.code y_R_init prog_5_method_1_code 1 none :: oWS) { frames := 1, cells := 3, slots := 120, locals := 40 } (va_Pc [.ref (ad 42 0)] (oW Γ ad cn S)) (oQn Γ ad cn (fun _ => vU) post) 3 120 (oF Γ) := by
  refine o_met (lv := [(0, .ref (ad 42 0))]) (own := "ValueConnector$RouteTable") (by decide) rfl (Nat.le_of_ble_eq_true rfl) rfl ?_
  intro p e s m args below meth c C hr hnm
  have hR : 1 ≤ ({ frames := 1, cells := 3, slots := 120, locals := 40 } : Room).frames ∧ 40 ≤ ({ frames := 1, cells := 3, slots := 120, locals := 40 } : Room).locals := ⟨Nat.le_refl _, Nat.le_refl _⟩
  have hx0 : oX cn ad ad := fun _ _ _ => rfl
  have hc0 : ∀ k, cn k ≤ cn k := fun _ => Nat.le_refl _
  unfold wp_R_init at h
  refine V_aload_n 0 C rfl d_R_init_0 ?_
  refine V_objInit C w_24 w_15 w_16 ⟨Nat.le_trans (by decide) hR.1, Nat.le_trans (by decide) hR.2⟩ (Nat.le_of_ble_eq_true rfl) d_R_init_1 ?_
  refine V_aload_n 0 C rfl d_R_init_4 ?_
  refine V_bipush (v := 40) C (by decide) d_R_init_5 ?_
  refine V_newi (k := 45) C (fun z => [(0, .ref (z 42 0))]) (fun z => [.ref (z 42 0)]) rfl rfl (fun z hz => ⟨by simp only [hz _ _ l0], by simp only [hz _ _ l0]⟩) w_38 (osh_45 _ _ _ _) (by decide) (by decide) (by decide) (by decide) (by decide) d_R_init_7 (fun i1 ad2 cn3 S4 ei5 ec5 es5 hx5 hc5 li1 => ?_)
  replace h := h i1 cn3 S4 ei5 ec5 es5
  have l0 := Nat.lt_of_lt_of_le l0 (hc5 _)
  have hx0 := oX.trans hx0 hc0 hx5
  have hc0 : ∀ k, cn k ≤ cn3 k := fun k => Nat.le_trans (hc0 k) (hc5 k)
  refine V_sh [(0, .ref (ad2 42 0))] [.ref (ad2 45 i1), .ref (ad2 42 0)] rfl rfl ?_
  refine V_putra (f := 0) (j := i1) C p_R_9 (fun _ => hnm) l0 li1 (osh_42 _ _ _ _) (fl_42_len _ _ _ 0 (by decide)) (fun a => up_42_0 _ _ _ _ a) d_R_init_9 (fun S6 eS6 => ?_)
  replace h := h S6 eS6
  refine V_aload_n 0 C rfl d_R_init_12 ?_
  refine V_bipush (v := 40) C (by decide) d_R_init_13 ?_
  refine V_newl (k := 46) C (fun z => [(0, .ref (z 42 0))]) (fun z => [.ref (z 42 0)]) rfl rfl (fun z hz => ⟨by simp only [hz _ _ l0], by simp only [hz _ _ l0]⟩) w_39 (osh_46 _ _ _ _) (by decide) (by decide) (by decide) (by decide) (by decide) d_R_init_15 (fun i7 ad8 cn9 S10 ei11 ec11 es11 hx11 hc11 li7 => ?_)
  replace h := h i7 cn9 S10 ei11 ec11 es11
  have l0 := Nat.lt_of_lt_of_le l0 (hc11 _)
  have hx0 := oX.trans hx0 hc0 hx11
  have hc0 : ∀ k, cn k ≤ cn9 k := fun k => Nat.le_trans (hc0 k) (hc11 k)
  refine V_sh [(0, .ref (ad8 42 0))] [.ref (ad8 46 i7), .ref (ad8 42 0)] rfl rfl ?_
  refine V_putra (f := 1) (j := i7) C p_R_15 (fun _ => hnm) l0 li7 (osh_42 _ _ _ _) (fl_42_len _ _ _ 1 (by decide)) (fun a => up_42_1 _ _ _ _ a) d_R_init_17 (fun S12 eS12 => ?_)
  replace h := h S12 eS12
  refine V_aload_n 0 C rfl d_R_init_20 ?_
  refine V_bipush (v := 40) C (by decide) d_R_init_21 ?_
  refine V_newi (k := 47) C (fun z => [(0, .ref (z 42 0))]) (fun z => [.ref (z 42 0)]) rfl rfl (fun z hz => ⟨by simp only [hz _ _ l0], by simp only [hz _ _ l0]⟩) w_38 (osh_47 _ _ _ _) (by decide) (by decide) (by decide) (by decide) (by decide) d_R_init_23 (fun i13 ad14 cn15 S16 ei17 ec17 es17 hx17 hc17 li13 => ?_)
  replace h := h i13 cn15 S16 ei17 ec17 es17
  have l0 := Nat.lt_of_lt_of_le l0 (hc17 _)
  have hx0 := oX.trans hx0 hc0 hx17
  have hc0 : ∀ k, cn k ≤ cn15 k := fun k => Nat.le_trans (hc0 k) (hc17 k)
  refine V_sh [(0, .ref (ad14 42 0))] [.ref (ad14 47 i13), .ref (ad14 42 0)] rfl rfl ?_
  refine V_putra (f := 2) (j := i13) C p_R_19 (fun _ => hnm) l0 li13 (osh_42 _ _ _ _) (fl_42_len _ _ _ 2 (by decide)) (fun a => up_42_2 _ _ _ _ a) d_R_init_25 (fun S18 eS18 => ?_)
  replace h := h S18 eS18
  refine V_aload_n 0 C rfl d_R_init_28 ?_
  refine V_iconst (v := 0) C (by decide) d_R_init_29 ?_
  refine V_puti (f := 3) C p_R_22 (fun z => by cases z) l0 (osh_42 _ _ _ _) (fl_42_len _ _ _ 3 (by decide)) (up_42_3 _ _ _ _ _) d_R_init_30 (fun S19 eS19 => ?_)
  replace h := h S19 eS19
  refine V_widen (c1 := 3) (s1 := 120) (by decide) (by decide) ?_
  exact V_vretn C hr hx0 hc0 d_R_init_33 h
set_option maxRecDepth 100000 in
set_option maxHeartbeats 4000000 in
theorem ct_X_isWithin (l : Launch) (Γ : oGm) (ad : oAd) (cn : Nat → Nat) (S : oSt) (a0 : Int32) (a1 : Int32) (a2 : Int32) (post : Int32 → oSt → Prop)  (h : wp_X_isWithin S a0 a1 a2 post) : Met l y_X_isWithin (.code y_X_isWithin prog_1_method_29_code 3 (some .boolean) :: oWS) { frames := 1, cells := 0, slots := 0, locals := 40 } (va_Pc [.int (a0), .int (a1), .int (a2)] (oW Γ ad cn S)) (oQ Γ ad cn vI post) 0 0 (oF Γ) := by
  refine o_met (lv := [(0, .int (a0)), (1, .int (a1)), (2, .int (a2))]) (own := "ValueConnector") (by decide) rfl (Nat.le_of_ble_eq_true rfl) rfl ?_
  intro p e s m args below meth c C hr hnm
  have hR : 1 ≤ ({ frames := 1, cells := 0, slots := 0, locals := 40 } : Room).frames ∧ 40 ≤ ({ frames := 1, cells := 0, slots := 0, locals := 40 } : Room).locals := ⟨Nat.le_refl _, Nat.le_refl _⟩
  unfold wp_X_isWithin at h
  refine V_iload_n 0 C rfl d_X_isWithin_0 ?_
  refine V_iload_n 1 C rfl d_X_isWithin_1 ?_
  refine V_icmp_lt C d_X_isWithin_2 (fun q => ?_) (fun q => ?_)
  · replace h := h.1 q
    refine V_iconst (v := 0) C (by decide) d_X_isWithin_14 ?_
    exact V_zret C hr (by decide) d_X_isWithin_15 h
  · replace h := h.2 q
    refine V_iload_n 0 C rfl d_X_isWithin_5 ?_
    refine V_iload_n 2 C rfl d_X_isWithin_6 ?_
    refine V_icmp_gt C d_X_isWithin_7 (fun q => ?_) (fun q => ?_)
    · replace h := h.1 q
      refine V_iconst (v := 0) C (by decide) d_X_isWithin_14 ?_
      exact V_zret C hr (by decide) d_X_isWithin_15 h
    · replace h := h.2 q
      refine V_iconst (v := 1) C (by decide) d_X_isWithin_10 ?_
      refine V_goto C d_X_isWithin_11 ?_
      exact V_zret C hr (by decide) d_X_isWithin_15 h
set_option maxRecDepth 100000 in
set_option maxHeartbeats 4000000 in
theorem ct_X_init (l : Launch) (Γ : oGm) (ad : oAd) (cn : Nat → Nat) (S : oSt) (a1 : Int32) (a2 : Int32) (post : Unit → (Nat → Nat) → oSt → Prop) (l0 : 0 < cn 40) (h : wp_X_init cn S a1 a2 post) : Met l y_X_init (.code y_X_init prog_1_method_1_code 3 none :: oWS) { frames := 2, cells := 7, slots := 372, locals := 62 } (va_Pc [.ref (ad 40 0), .int (a1), .int (a2)] (oW Γ ad cn S)) (oQn Γ ad cn (fun _ => vU) post) 7 372 (oF Γ) := by
  refine o_met (lv := [(0, .ref (ad 40 0)), (1, .int (a1)), (2, .int (a2))]) (own := "ValueConnector") (by decide) rfl (Nat.le_of_ble_eq_true rfl) rfl ?_
  intro p e s m args below meth c C hr hnm
  have hR : 2 ≤ ({ frames := 2, cells := 7, slots := 372, locals := 62 } : Room).frames ∧ 62 ≤ ({ frames := 2, cells := 7, slots := 372, locals := 62 } : Room).locals := ⟨Nat.le_refl _, Nat.le_refl _⟩
  have hx0 : oX cn ad ad := fun _ _ _ => rfl
  have hc0 : ∀ k, cn k ≤ cn k := fun _ => Nat.le_refl _
  unfold wp_X_init at h
  refine V_aload_n 0 C rfl d_X_init_0 ?_
  refine V_objInit C w_14 w_15 w_16 ⟨Nat.le_trans (by decide) hR.1, Nat.le_trans (by decide) hR.2⟩ (Nat.le_of_ble_eq_true rfl) d_X_init_1 ?_
  refine V_aload_n 0 C rfl d_X_init_4 ?_
  refine V_bipush (v := 8) C (by decide) d_X_init_5 ?_
  refine V_newq (k := 41) (t0 := 2) C C.2.2.1.2.2.2.2.2.2.1 (fun z => [(0, .ref (z 40 0)), (1, .int (a1)), (2, .int (a2))]) (fun z => [.ref (z 40 0)]) rfl rfl (fun z hz => ⟨by simp only [hz _ _ l0], by simp only [hz _ _ l0]⟩) w_17 rfl (osh_41 _ _ _ _) (by decide) (by decide) (by decide) (by decide) (by decide) d_X_init_7 (fun i1 ad2 cn3 S4 ei5 ec5 es5 hx5 hc5 li1 => ?_)
  replace h := h i1 cn3 S4 ei5 ec5 es5
  have l0 := Nat.lt_of_lt_of_le l0 (hc5 _)
  have hx0 := oX.trans hx0 hc0 hx5
  have hc0 : ∀ k, cn k ≤ cn3 k := fun k => Nat.le_trans (hc0 k) (hc5 k)
  refine V_sh [(0, .ref (ad2 40 0)), (1, .int (a1)), (2, .int (a2))] [.ref (ad2 41 i1), .ref (ad2 40 0)] rfl rfl ?_
  refine V_putra (f := 2) (j := i1) C p_X_11 (fun _ => hnm) l0 li1 (osh_40 _ _ _ _) (fl_40_len _ _ _ 2 (by decide)) (fun a => up_40_2 _ _ _ _ a) d_X_init_10 (fun S6 eS6 => ?_)
  replace h := h S6 eS6
  refine V_aload_n 0 C rfl d_X_init_13 ?_
  refine V_new (k := 42) C (fun z => [(0, .ref (z 40 0)), (1, .int (a1)), (2, .int (a2))]) (fun z => [.ref (z 40 0)]) rfl rfl (fun z hz => ⟨by simp only [hz _ _ l0], by simp only [hz _ _ l0]⟩) n_X_15 (osh_42 _ _ _ _) (by decide) (by decide) d_X_init_14 (fun i7 ad8 cn9 S10 ei11 ec11 es11 hx11 hc11 li7 => ?_)
  replace h := h i7 cn9 S10 ei11 ec11 es11
  have l0 := Nat.lt_of_lt_of_le l0 (hc11 _)
  have hx0 := oX.trans hx0 hc0 hx11
  have hc0 : ∀ k, cn k ≤ cn9 k := fun k => Nat.le_trans (hc0 k) (hc11 k)
  refine V_sh [(0, .ref (ad8 40 0)), (1, .int (a1)), (2, .int (a2))] [.ref (ad8 42 i7), .ref (ad8 40 0)] rfl rfl ?_
  refine V_dup C rfl d_X_init_17 ?_
  obtain ⟨q, hq12⟩ := h
  subst q
  have h := hq12
  refine V_cINn (As := []) C (fun z => [(0, .ref (z 40 0)), (1, .int (a1)), (2, .int (a2))]) (fun z => [.ref (z 42 0), .ref (z 40 0)]) rfl rfl (fun z hz => ⟨by simp only [hz _ _ l0], by simp only [hz _ _ li7, hz _ _ l0]⟩) k_X_17 (ct_R_init l Γ ad8 cn9 S10  _ li7 h) ⟨rfl, rfl⟩ ⟨Nat.le_trans (by decide) hR.1, Nat.le_trans (by decide) hR.2⟩ ⟨by decide, by decide⟩ rfl rfl (Nat.le_of_ble_eq_true rfl) d_X_init_18 (fun r13 ad16 cn15 S14 hx17 hc17 h => ?_)
  have l0 := Nat.lt_of_lt_of_le l0 (hc17 _)
  have li7 := Nat.lt_of_lt_of_le li7 (hc17 _)
  have hx0 := oX.trans hx0 hc0 hx17
  have hc0 : ∀ k, cn k ≤ cn15 k := fun k => Nat.le_trans (hc0 k) (hc17 k)
  refine V_sh [(0, .ref (ad16 40 0)), (1, .int (a1)), (2, .int (a2))] [.ref (ad16 42 0), .ref (ad16 40 0)] rfl rfl ?_
  refine V_putr (f := 3) (j := 0) C p_X_18 (fun _ => hnm) l0 li7 (osh_40 _ _ _ _) (fl_40_len _ _ _ 3 (by decide)) (fun a => up_40_3 _ _ _ _ a) d_X_init_21 (fun S18 eS18 => ?_)
  replace h := h S18 eS18
  refine V_aload_n 0 C rfl d_X_init_24 ?_
  refine V_bipush (v := 120) C (by decide) d_X_init_25 ?_
  refine V_newq (k := 43) (t0 := 3) C C.2.2.1.2.2.2.2.2.2.2 (fun z => [(0, .ref (z 40 0)), (1, .int (a1)), (2, .int (a2))]) (fun z => [.ref (z 40 0)]) rfl rfl (fun z hz => ⟨by simp only [hz _ _ l0], by simp only [hz _ _ l0]⟩) w_40 rfl (osh_43 _ _ _ _) (by decide) (by decide) (by decide) (by decide) (by decide) d_X_init_27 (fun i19 ad20 cn21 S22 ei23 ec23 es23 hx23 hc23 li19 => ?_)
  replace h := h i19 cn21 S22 ei23 ec23 es23
  have l0 := Nat.lt_of_lt_of_le l0 (hc23 _)
  have hx0 := oX.trans hx0 hc0 hx23
  have hc0 : ∀ k, cn k ≤ cn21 k := fun k => Nat.le_trans (hc0 k) (hc23 k)
  refine V_sh [(0, .ref (ad20 40 0)), (1, .int (a1)), (2, .int (a2))] [.ref (ad20 43 i19), .ref (ad20 40 0)] rfl rfl ?_
  refine V_putra (f := 4) (j := i19) C p_X_24 (fun _ => hnm) l0 li19 (osh_40 _ _ _ _) (fl_40_len _ _ _ 4 (by decide)) (fun a => up_40_4 _ _ _ _ a) d_X_init_30 (fun S24 eS24 => ?_)
  replace h := h S24 eS24
  refine V_aload_n 0 C rfl d_X_init_33 ?_
  refine V_bipush (v := 120) C (by decide) d_X_init_34 ?_
  refine V_newl (k := 44) C (fun z => [(0, .ref (z 40 0)), (1, .int (a1)), (2, .int (a2))]) (fun z => [.ref (z 40 0)]) rfl rfl (fun z hz => ⟨by simp only [hz _ _ l0], by simp only [hz _ _ l0]⟩) w_39 (osh_44 _ _ _ _) (by decide) (by decide) (by decide) (by decide) (by decide) d_X_init_36 (fun i25 ad26 cn27 S28 ei29 ec29 es29 hx29 hc29 li25 => ?_)
  replace h := h i25 cn27 S28 ei29 ec29 es29
  have l0 := Nat.lt_of_lt_of_le l0 (hc29 _)
  have hx0 := oX.trans hx0 hc0 hx29
  have hc0 : ∀ k, cn k ≤ cn27 k := fun k => Nat.le_trans (hc0 k) (hc29 k)
  refine V_sh [(0, .ref (ad26 40 0)), (1, .int (a1)), (2, .int (a2))] [.ref (ad26 44 i25), .ref (ad26 40 0)] rfl rfl ?_
  refine V_putra (f := 5) (j := i25) C p_X_28 (fun _ => hnm) l0 li25 (osh_40 _ _ _ _) (fl_40_len _ _ _ 5 (by decide)) (fun a => up_40_5 _ _ _ _ a) d_X_init_38 (fun S30 eS30 => ?_)
  replace h := h S30 eS30
  refine V_aload_n 0 C rfl d_X_init_41 ?_
  refine V_iconst (v := 0) C (by decide) d_X_init_42 ?_
  refine V_puti (f := 6) C p_X_32 (fun z => by cases z) l0 (osh_40 _ _ _ _) (fl_40_len _ _ _ 6 (by decide)) (up_40_6 _ _ _ _ _) d_X_init_43 (fun S31 eS31 => ?_)
  replace h := h S31 eS31
  refine V_aload_n 0 C rfl d_X_init_46 ?_
  refine V_iconst (v := 0) C (by decide) d_X_init_47 ?_
  refine V_puti (f := 7) C p_X_36 (fun z => by cases z) l0 (osh_40 _ _ _ _) (fl_40_len _ _ _ 7 (by decide)) (up_40_7 _ _ _ _ _) d_X_init_48 (fun S32 eS32 => ?_)
  replace h := h S32 eS32
  refine V_aload_n 0 C rfl d_X_init_51 ?_
  refine V_iconst (v := 0) C (by decide) d_X_init_52 ?_
  refine V_puti (f := 8) C p_X_39 (fun z => by cases z) l0 (osh_40 _ _ _ _) (fl_40_len _ _ _ 8 (by decide)) (up_40_8 _ _ _ _ _) d_X_init_53 (fun S33 eS33 => ?_)
  replace h := h S33 eS33
  refine V_aload_n 0 C rfl d_X_init_56 ?_
  refine V_iconst (v := 0) C (by decide) d_X_init_57 ?_
  refine V_puti (f := 9) C p_X_42 (fun z => by cases z) l0 (osh_40 _ _ _ _) (fl_40_len _ _ _ 9 (by decide)) (up_40_9 _ _ _ _ _) d_X_init_58 (fun S34 eS34 => ?_)
  replace h := h S34 eS34
  refine V_aload_n 0 C rfl d_X_init_61 ?_
  refine V_lconst (v := 0) C (by decide) d_X_init_62 ?_
  refine V_putl (f := 10) C p_X_45 (fun z => by cases z) l0 (osh_40 _ _ _ _) (fl_40_len _ _ _ 10 (by decide)) (up_40_10 _ _ _ _ _) d_X_init_63 (fun S35 eS35 => ?_)
  replace h := h S35 eS35
  refine V_aload_n 0 C rfl d_X_init_66 ?_
  refine V_iload_n 1 C rfl d_X_init_67 ?_
  refine V_iconst (v := 1) C (by decide) d_X_init_68 ?_
  refine V_sipush (v := 1000) C (by decide) d_X_init_69 ?_
  refine V_cS (As := [.int (a1), .int ((1 : Int32)), .int ((1000 : Int32))]) (rest := [.ref (ad26 40 0)]) C k_X_49 (ct_X_isWithin l Γ ad26 cn27 S35 (a1) ((1 : Int32)) ((1000 : Int32)) _  h) ⟨rfl, rfl⟩ ⟨Nat.le_trans (by decide) hR.1, Nat.le_trans (by decide) hR.2⟩ ⟨by decide, by decide⟩ rfl rfl (Nat.le_of_ble_eq_true rfl) d_X_init_72 (fun r36 S37 h => ?_)
  refine V_sh [(0, .ref (ad26 40 0)), (1, .int (a1)), (2, .int (a2))] [.int (r36), .ref (ad26 40 0)] rfl rfl ?_
  refine V_if_eq C d_X_init_75 (fun q => ?_) (fun q => ?_)
  · replace h := h.1 q
    refine V_bipush (v := 10) C (by decide) d_X_init_82 ?_
    refine V_puti (f := 0) C p_X_53 (fun _ => hnm) l0 (osh_40 _ _ _ _) (fl_40_len _ _ _ 0 (by decide)) (up_40_0 _ _ _ _ _) d_X_init_84 (fun S38 eS38 => ?_)
    replace h := h S38 eS38
    refine V_aload_n 0 C rfl d_X_init_87 ?_
    refine V_iload_n 2 C rfl d_X_init_88 ?_
    refine V_iconst (v := 1) C (by decide) d_X_init_89 ?_
    refine V_ldc (v := 100000) C w_45 d_X_init_90 ?_
    refine V_cS (As := [.int (a2), .int ((1 : Int32)), .int ((100000 : Int32))]) (rest := [.ref (ad26 40 0)]) C k_X_49 (ct_X_isWithin l Γ ad26 cn27 S38 (a2) ((1 : Int32)) ((100000 : Int32)) _  h) ⟨rfl, rfl⟩ ⟨Nat.le_trans (by decide) hR.1, Nat.le_trans (by decide) hR.2⟩ ⟨by decide, by decide⟩ rfl rfl (Nat.le_of_ble_eq_true rfl) d_X_init_92 (fun r39 S40 h => ?_)
    refine V_sh [(0, .ref (ad26 40 0)), (1, .int (a1)), (2, .int (a2))] [.int (r39), .ref (ad26 40 0)] rfl rfl ?_
    refine V_if_eq C d_X_init_95 (fun q => ?_) (fun q => ?_)
    · replace h := h.1 q
      refine V_sipush (v := 1000) C (by decide) d_X_init_102 ?_
      refine V_puti (f := 1) C p_X_57 (fun _ => hnm) l0 (osh_40 _ _ _ _) (fl_40_len _ _ _ 1 (by decide)) (up_40_1 _ _ _ _ _) d_X_init_105 (fun S41 eS41 => ?_)
      replace h := h S41 eS41
      refine V_widen (c1 := 7) (s1 := 372) (by decide) (by decide) ?_
      exact V_vretn C hr hx0 hc0 d_X_init_108 h
    · replace h := h.2 q
      refine V_iload_n 2 C rfl d_X_init_98 ?_
      refine V_goto C d_X_init_99 ?_
      refine V_puti (f := 1) C p_X_57 (fun _ => hnm) l0 (osh_40 _ _ _ _) (fl_40_len _ _ _ 1 (by decide)) (up_40_1 _ _ _ _ _) d_X_init_105 (fun S42 eS42 => ?_)
      replace h := h S42 eS42
      refine V_widen (c1 := 7) (s1 := 372) (by decide) (by decide) ?_
      exact V_vretn C hr hx0 hc0 d_X_init_108 h
  · replace h := h.2 q
    refine V_iload_n 1 C rfl d_X_init_78 ?_
    refine V_goto C d_X_init_79 ?_
    refine V_puti (f := 0) C p_X_53 (fun _ => hnm) l0 (osh_40 _ _ _ _) (fl_40_len _ _ _ 0 (by decide)) (up_40_0 _ _ _ _ _) d_X_init_84 (fun S43 eS43 => ?_)
    replace h := h S43 eS43
    refine V_aload_n 0 C rfl d_X_init_87 ?_
    refine V_iload_n 2 C rfl d_X_init_88 ?_
    refine V_iconst (v := 1) C (by decide) d_X_init_89 ?_
    refine V_ldc (v := 100000) C w_45 d_X_init_90 ?_
    refine V_cS (As := [.int (a2), .int ((1 : Int32)), .int ((100000 : Int32))]) (rest := [.ref (ad26 40 0)]) C k_X_49 (ct_X_isWithin l Γ ad26 cn27 S43 (a2) ((1 : Int32)) ((100000 : Int32)) _  h) ⟨rfl, rfl⟩ ⟨Nat.le_trans (by decide) hR.1, Nat.le_trans (by decide) hR.2⟩ ⟨by decide, by decide⟩ rfl rfl (Nat.le_of_ble_eq_true rfl) d_X_init_92 (fun r44 S45 h => ?_)
    refine V_sh [(0, .ref (ad26 40 0)), (1, .int (a1)), (2, .int (a2))] [.int (r44), .ref (ad26 40 0)] rfl rfl ?_
    refine V_if_eq C d_X_init_95 (fun q => ?_) (fun q => ?_)
    · replace h := h.1 q
      refine V_sipush (v := 1000) C (by decide) d_X_init_102 ?_
      refine V_puti (f := 1) C p_X_57 (fun _ => hnm) l0 (osh_40 _ _ _ _) (fl_40_len _ _ _ 1 (by decide)) (up_40_1 _ _ _ _ _) d_X_init_105 (fun S46 eS46 => ?_)
      replace h := h S46 eS46
      refine V_widen (c1 := 7) (s1 := 372) (by decide) (by decide) ?_
      exact V_vretn C hr hx0 hc0 d_X_init_108 h
    · replace h := h.2 q
      refine V_iload_n 2 C rfl d_X_init_98 ?_
      refine V_goto C d_X_init_99 ?_
      refine V_puti (f := 1) C p_X_57 (fun _ => hnm) l0 (osh_40 _ _ _ _) (fl_40_len _ _ _ 1 (by decide)) (up_40_1 _ _ _ _ _) d_X_init_105 (fun S47 eS47 => ?_)
      replace h := h S47 eS47
      refine V_widen (c1 := 7) (s1 := 372) (by decide) (by decide) ?_
      exact V_vretn C hr hx0 hc0 d_X_init_108 h
set_option maxRecDepth 100000 in
set_option maxHeartbeats 4000000 in
theorem ct_B_renew (l : Launch) (Γ : oGm) (ad : oAd) (cn : Nat → Nat) (S : oSt) (i0 : Nat) (a1 : Int32) (a2 : Int32) (post : Unit → oSt → Prop) (l0 : i0 < cn 49) (h : wp_B_renew S i0 a1 a2 post) : Met l y_B_renew (.code y_B_renew prog_3_method_2_code 3 none :: oWS) { frames := 1, cells := 0, slots := 0, locals := 40 } (va_Pc [.ref (ad 49 i0), .int (a1), .int (a2)] (oW Γ ad cn S)) (oQ Γ ad cn vU post) 0 0 (oF Γ) := by
  refine o_met (lv := [(0, .ref (ad 49 i0)), (1, .int (a1)), (2, .int (a2))]) (own := "ValueConnector$Bucket") (by decide) rfl (Nat.le_of_ble_eq_true rfl) rfl ?_
  intro p e s m args below meth c C hr hnm
  have hR : 1 ≤ ({ frames := 1, cells := 0, slots := 0, locals := 40 } : Room).frames ∧ 40 ≤ ({ frames := 1, cells := 0, slots := 0, locals := 40 } : Room).locals := ⟨Nat.le_refl _, Nat.le_refl _⟩
  unfold wp_B_renew at h
  refine V_aload_n 0 C rfl d_B_renew_0 ?_
  refine V_iload_n 1 C rfl d_B_renew_1 ?_
  refine V_bipush (v := 100) C (by decide) d_B_renew_2 ?_
  refine V_imul C d_B_renew_4 ?_
  refine V_puti (f := 0) C p_B_15 (fun z => by cases z) l0 (osh_49 _ _ _ _) (fl_49_len _ _ _ 0 (by decide)) (up_49_0 _ _ _ _ _) d_B_renew_5 (fun S1 eS1 => ?_)
  replace h := h S1 eS1
  refine V_aload_n 0 C rfl d_B_renew_8 ?_
  refine V_iload_n 2 C rfl d_B_renew_9 ?_
  refine V_puti (f := 1) C p_B_19 (fun z => by cases z) l0 (osh_49 _ _ _ _) (fl_49_len _ _ _ 1 (by decide)) (up_49_1 _ _ _ _ _) d_B_renew_10 (fun S2 eS2 => ?_)
  replace h := h S2 eS2
  refine V_aload_n 0 C rfl d_B_renew_13 ?_
  refine V_aload_n 0 C rfl d_B_renew_14 ?_
  refine V_get C f_B_15 l0 (osh_49 _ _ _ _) (fl_49_0 _ _ _) d_B_renew_15 ?_
  refine V_puti (f := 2) C p_B_22 (fun z => by cases z) l0 (osh_49 _ _ _ _) (fl_49_len _ _ _ 2 (by decide)) (up_49_2 _ _ _ _ _) d_B_renew_18 (fun S3 eS3 => ?_)
  replace h := h S3 eS3
  exact V_vret C hr d_B_renew_21 h
set_option maxRecDepth 100000 in
set_option maxHeartbeats 4000000 in
theorem ct_B_init (l : Launch) (Γ : oGm) (ad : oAd) (cn : Nat → Nat) (S : oSt) (i0 : Nat) (post : Unit → oSt → Prop) (l0 : i0 < cn 49) (h : wp_B_init S i0 post) : Met l y_B_init (.code y_B_init prog_3_method_1_code 1 none :: oWS) { frames := 2, cells := 0, slots := 0, locals := 62 } (va_Pc [.ref (ad 49 i0)] (oW Γ ad cn S)) (oQ Γ ad cn vU post) 0 0 (oF Γ) := by
  refine o_met (lv := [(0, .ref (ad 49 i0))]) (own := "ValueConnector$Bucket") (by decide) rfl (Nat.le_of_ble_eq_true rfl) rfl ?_
  intro p e s m args below meth c C hr hnm
  have hR : 2 ≤ ({ frames := 2, cells := 0, slots := 0, locals := 62 } : Room).frames ∧ 62 ≤ ({ frames := 2, cells := 0, slots := 0, locals := 62 } : Room).locals := ⟨Nat.le_refl _, Nat.le_refl _⟩
  unfold wp_B_init at h
  refine V_aload_n 0 C rfl d_B_init_0 ?_
  refine V_objInit C w_96 w_15 w_16 ⟨Nat.le_trans (by decide) hR.1, Nat.le_trans (by decide) hR.2⟩ (Nat.le_of_ble_eq_true rfl) d_B_init_1 ?_
  refine V_aload_n 0 C rfl d_B_init_4 ?_
  refine V_sipush (v := 1000) C (by decide) d_B_init_5 ?_
  refine V_bipush (v := 100) C (by decide) d_B_init_8 ?_
  refine V_cV (As := [.int ((1000 : Int32)), .int ((100 : Int32))]) (rest := []) C k_B_9 l0 (osh_49 _ _ _ _) (ct_B_renew l Γ ad cn S i0 ((1000 : Int32)) ((100 : Int32)) _ l0 h) ⟨rfl, rfl⟩ ⟨Nat.le_trans (by decide) hR.1, Nat.le_trans (by decide) hR.2⟩ ⟨Nat.zero_le _, Nat.zero_le _⟩ rfl rfl (Nat.le_of_ble_eq_true rfl) d_B_init_10 (fun r1 S2 h => ?_)
  refine V_sh [(0, .ref (ad 49 i0))] [] rfl rfl ?_
  exact V_vret C hr d_B_init_13 h
set_option maxRecDepth 100000 in
set_option maxHeartbeats 4000000 in
theorem ct_K_init (l : Launch) (Γ : oGm) (ad : oAd) (cn : Nat → Nat) (S : oSt) (i0 : Nat) (post : Unit → (Nat → Nat) → oSt → Prop) (l0 : i0 < cn 50) (h : wp_K_init cn S i0 post) : Met l y_K_init (.code y_K_init prog_4_method_1_code 1 none :: oWS) { frames := 1, cells := 1, slots := 8, locals := 40 } (va_Pc [.ref (ad 50 i0)] (oW Γ ad cn S)) (oQn Γ ad cn (fun _ => vU) post) 1 8 (oF Γ) := by
  refine o_met (lv := [(0, .ref (ad 50 i0))]) (own := "ValueConnector$RecentKeys") (by decide) rfl (Nat.le_of_ble_eq_true rfl) rfl ?_
  intro p e s m args below meth c C hr hnm
  have hR : 1 ≤ ({ frames := 1, cells := 1, slots := 8, locals := 40 } : Room).frames ∧ 40 ≤ ({ frames := 1, cells := 1, slots := 8, locals := 40 } : Room).locals := ⟨Nat.le_refl _, Nat.le_refl _⟩
  have hx0 : oX cn ad ad := fun _ _ _ => rfl
  have hc0 : ∀ k, cn k ≤ cn k := fun _ => Nat.le_refl _
  unfold wp_K_init at h
  refine V_aload_n 0 C rfl d_K_init_0 ?_
  refine V_objInit C w_117 w_15 w_16 ⟨Nat.le_trans (by decide) hR.1, Nat.le_trans (by decide) hR.2⟩ (Nat.le_of_ble_eq_true rfl) d_K_init_1 ?_
  refine V_aload_n 0 C rfl d_K_init_4 ?_
  refine V_bipush (v := 8) C (by decide) d_K_init_5 ?_
  refine V_newi (k := 51) C (fun z => [(0, .ref (z 50 i0))]) (fun z => [.ref (z 50 i0)]) rfl rfl (fun z hz => ⟨by simp only [hz _ _ l0], by simp only [hz _ _ l0]⟩) w_38 (osh_51 _ _ _ _) (by decide) (by decide) (by decide) (by decide) (by decide) d_K_init_7 (fun i1 ad2 cn3 S4 ei5 ec5 es5 hx5 hc5 li1 => ?_)
  replace h := h i1 cn3 S4 ei5 ec5 es5
  have l0 := Nat.lt_of_lt_of_le l0 (hc5 _)
  have hx0 := oX.trans hx0 hc0 hx5
  have hc0 : ∀ k, cn k ≤ cn3 k := fun k => Nat.le_trans (hc0 k) (hc5 k)
  refine V_sh [(0, .ref (ad2 50 i0))] [.ref (ad2 51 i1), .ref (ad2 50 i0)] rfl rfl ?_
  refine V_putra (f := 0) (j := i1) C p_K_9 (fun _ => hnm) l0 li1 (osh_50 _ _ _ _) (fl_50_len _ _ _ 0 (by decide)) (fun a => up_50_0 _ _ _ _ a) d_K_init_9 (fun S6 eS6 => ?_)
  replace h := h S6 eS6
  refine V_aload_n 0 C rfl d_K_init_12 ?_
  refine V_iconst (v := 0) C (by decide) d_K_init_13 ?_
  refine V_puti (f := 1) C p_K_15 (fun z => by cases z) l0 (osh_50 _ _ _ _) (fl_50_len _ _ _ 1 (by decide)) (up_50_1 _ _ _ _ _) d_K_init_14 (fun S7 eS7 => ?_)
  replace h := h S7 eS7
  refine V_aload_n 0 C rfl d_K_init_17 ?_
  refine V_iconst (v := 0) C (by decide) d_K_init_18 ?_
  refine V_puti (f := 2) C p_K_19 (fun z => by cases z) l0 (osh_50 _ _ _ _) (fl_50_len _ _ _ 2 (by decide)) (up_50_2 _ _ _ _ _) d_K_init_19 (fun S8 eS8 => ?_)
  replace h := h S8 eS8
  refine V_widen (c1 := 1) (s1 := 8) (by decide) (by decide) ?_
  exact V_vretn C hr hx0 hc0 d_K_init_22 h
set_option maxRecDepth 100000 in
set_option maxHeartbeats 4000000 in
theorem ct_A_init (l : Launch) (Γ : oGm) (ad : oAd) (cn : Nat → Nat) (S : oSt) (i0 : Nat) (a1 : Int32) (a2 : Int32) (a3 : Int32) (a4 : Int32) (post : Unit → (Nat → Nat) → oSt → Prop) (l0 : i0 < cn 48) (h : wp_A_init cn S i0 a1 a2 a3 a4 post) : Met l y_A_init (.code y_A_init prog_2_method_1_code 5 none :: oWS) { frames := 3, cells := 3, slots := 14, locals := 82 } (va_Pc [.ref (ad 48 i0), .int (a1), .int (a2), .int (a3), .int (a4)] (oW Γ ad cn S)) (oQn Γ ad cn (fun _ => vU) post) 3 14 (oF Γ) := by
  refine o_met (lv := [(0, .ref (ad 48 i0)), (1, .int (a1)), (2, .int (a2)), (3, .int (a3)), (4, .int (a4))]) (own := "ValueConnector$Account") (by decide) rfl (Nat.le_of_ble_eq_true rfl) rfl ?_
  intro p e s m args below meth c C hr hnm
  have hR : 3 ≤ ({ frames := 3, cells := 3, slots := 14, locals := 82 } : Room).frames ∧ 82 ≤ ({ frames := 3, cells := 3, slots := 14, locals := 82 } : Room).locals := ⟨Nat.le_refl _, Nat.le_refl _⟩
  have hx0 : oX cn ad ad := fun _ _ _ => rfl
  have hc0 : ∀ k, cn k ≤ cn k := fun _ => Nat.le_refl _
  unfold wp_A_init at h
  refine V_aload_n 0 C rfl d_A_init_0 ?_
  refine V_objInit C w_90 w_15 w_16 ⟨Nat.le_trans (by decide) hR.1, Nat.le_trans (by decide) hR.2⟩ (Nat.le_of_ble_eq_true rfl) d_A_init_1 ?_
  refine V_aload_n 0 C rfl d_A_init_4 ?_
  refine V_new (k := 49) C (fun z => [(0, .ref (z 48 i0)), (1, .int (a1)), (2, .int (a2)), (3, .int (a3)), (4, .int (a4))]) (fun z => [.ref (z 48 i0)]) rfl rfl (fun z hz => ⟨by simp only [hz _ _ l0], by simp only [hz _ _ l0]⟩) n_A_9 (osh_49 _ _ _ _) (by decide) (by decide) d_A_init_5 (fun i1 ad2 cn3 S4 ei5 ec5 es5 hx5 hc5 li1 => ?_)
  replace h := h i1 cn3 S4 ei5 ec5 es5
  have l0 := Nat.lt_of_lt_of_le l0 (hc5 _)
  have hx0 := oX.trans hx0 hc0 hx5
  have hc0 : ∀ k, cn k ≤ cn3 k := fun k => Nat.le_trans (hc0 k) (hc5 k)
  refine V_sh [(0, .ref (ad2 48 i0)), (1, .int (a1)), (2, .int (a2)), (3, .int (a3)), (4, .int (a4))] [.ref (ad2 49 i1), .ref (ad2 48 i0)] rfl rfl ?_
  refine V_dup C rfl d_A_init_8 ?_
  refine V_cI (As := []) (rest := [.ref (ad2 49 i1), .ref (ad2 48 i0)]) C k_A_11 (ct_B_init l Γ ad2 cn3 S4 i1 _ li1 h) ⟨rfl, rfl⟩ ⟨Nat.le_trans (by decide) hR.1, Nat.le_trans (by decide) hR.2⟩ ⟨by decide, by decide⟩ rfl rfl (Nat.le_of_ble_eq_true rfl) d_A_init_9 (fun r6 S7 h => ?_)
  refine V_sh [(0, .ref (ad2 48 i0)), (1, .int (a1)), (2, .int (a2)), (3, .int (a3)), (4, .int (a4))] [.ref (ad2 49 i1), .ref (ad2 48 i0)] rfl rfl ?_
  refine V_putr (f := 3) (j := i1) C p_A_12 (fun _ => hnm) l0 li1 (osh_48 _ _ _ _) (fl_48_len _ _ _ 3 (by decide)) (fun a => up_48_3 _ _ _ _ a) d_A_init_12 (fun S8 eS8 => ?_)
  replace h := h S8 eS8
  refine V_aload_n 0 C rfl d_A_init_15 ?_
  refine V_new (k := 50) C (fun z => [(0, .ref (z 48 i0)), (1, .int (a1)), (2, .int (a2)), (3, .int (a3)), (4, .int (a4))]) (fun z => [.ref (z 48 i0)]) rfl rfl (fun z hz => ⟨by simp only [hz _ _ l0], by simp only [hz _ _ l0]⟩) n_A_18 (osh_50 _ _ _ _) (by decide) (by decide) d_A_init_16 (fun i9 ad10 cn11 S12 ei13 ec13 es13 hx13 hc13 li9 => ?_)
  replace h := h i9 cn11 S12 ei13 ec13 es13
  have l0 := Nat.lt_of_lt_of_le l0 (hc13 _)
  have hx0 := oX.trans hx0 hc0 hx13
  have hc0 : ∀ k, cn k ≤ cn11 k := fun k => Nat.le_trans (hc0 k) (hc13 k)
  refine V_sh [(0, .ref (ad10 48 i0)), (1, .int (a1)), (2, .int (a2)), (3, .int (a3)), (4, .int (a4))] [.ref (ad10 50 i9), .ref (ad10 48 i0)] rfl rfl ?_
  refine V_dup C rfl d_A_init_19 ?_
  refine V_cINn (As := []) C (fun z => [(0, .ref (z 48 i0)), (1, .int (a1)), (2, .int (a2)), (3, .int (a3)), (4, .int (a4))]) (fun z => [.ref (z 50 i9), .ref (z 48 i0)]) rfl rfl (fun z hz => ⟨by simp only [hz _ _ l0], by simp only [hz _ _ li9, hz _ _ l0]⟩) k_A_20 (ct_K_init l Γ ad10 cn11 S12 i9 _ li9 h) ⟨rfl, rfl⟩ ⟨Nat.le_trans (by decide) hR.1, Nat.le_trans (by decide) hR.2⟩ ⟨by decide, by decide⟩ rfl rfl (Nat.le_of_ble_eq_true rfl) d_A_init_20 (fun r14 ad17 cn16 S15 hx18 hc18 h => ?_)
  have l0 := Nat.lt_of_lt_of_le l0 (hc18 _)
  have li9 := Nat.lt_of_lt_of_le li9 (hc18 _)
  have hx0 := oX.trans hx0 hc0 hx18
  have hc0 : ∀ k, cn k ≤ cn16 k := fun k => Nat.le_trans (hc0 k) (hc18 k)
  refine V_sh [(0, .ref (ad17 48 i0)), (1, .int (a1)), (2, .int (a2)), (3, .int (a3)), (4, .int (a4))] [.ref (ad17 50 i9), .ref (ad17 48 i0)] rfl rfl ?_
  refine V_putr (f := 4) (j := i9) C p_A_21 (fun _ => hnm) l0 li9 (osh_48 _ _ _ _) (fl_48_len _ _ _ 4 (by decide)) (fun a => up_48_4 _ _ _ _ a) d_A_init_23 (fun S19 eS19 => ?_)
  replace h := h S19 eS19
  refine V_aload_n 0 C rfl d_A_init_26 ?_
  refine V_lconst (v := 0) C (by decide) d_A_init_27 ?_
  refine V_putl (f := 6) C p_A_25 (fun z => by cases z) l0 (osh_48 _ _ _ _) (fl_48_len _ _ _ 6 (by decide)) (up_48_6 _ _ _ _ _) d_A_init_28 (fun S20 eS20 => ?_)
  replace h := h S20 eS20
  refine V_aload_n 0 C rfl d_A_init_31 ?_
  refine V_iconst (v := 0) C (by decide) d_A_init_32 ?_
  refine V_puti (f := 7) C p_A_29 (fun z => by cases z) l0 (osh_48 _ _ _ _) (fl_48_len _ _ _ 7 (by decide)) (up_48_7 _ _ _ _ _) d_A_init_33 (fun S21 eS21 => ?_)
  replace h := h S21 eS21
  refine V_aload_n 0 C rfl d_A_init_36 ?_
  refine V_iconst (v := 0) C (by decide) d_A_init_37 ?_
  refine V_puti (f := 8) C p_A_33 (fun z => by cases z) l0 (osh_48 _ _ _ _) (fl_48_len _ _ _ 8 (by decide)) (up_48_8 _ _ _ _ _) d_A_init_38 (fun S22 eS22 => ?_)
  replace h := h S22 eS22
  refine V_aload_n 0 C rfl d_A_init_41 ?_
  refine V_iconst (v := 1) C (by decide) d_A_init_42 ?_
  refine V_puti (f := 9) C p_A_36 (fun z => by cases z) l0 (osh_48 _ _ _ _) (fl_48_len _ _ _ 9 (by decide)) (up_48_9 _ _ _ _ _) d_A_init_43 (fun S23 eS23 => ?_)
  replace h := h S23 eS23
  refine V_aload_n 0 C rfl d_A_init_46 ?_
  refine V_lconst (v := 0) C (by decide) d_A_init_47 ?_
  refine V_putl (f := 10) C p_A_39 (fun z => by cases z) l0 (osh_48 _ _ _ _) (fl_48_len _ _ _ 10 (by decide)) (up_48_10 _ _ _ _ _) d_A_init_48 (fun S24 eS24 => ?_)
  replace h := h S24 eS24
  refine V_aload_n 0 C rfl d_A_init_51 ?_
  refine V_iload_n 1 C rfl d_A_init_52 ?_
  refine V_puti (f := 0) C p_A_42 (fun _ => hnm) l0 (osh_48 _ _ _ _) (fl_48_len _ _ _ 0 (by decide)) (up_48_0 _ _ _ _ _) d_A_init_53 (fun S25 eS25 => ?_)
  replace h := h S25 eS25
  refine V_aload_n 0 C rfl d_A_init_56 ?_
  refine V_iload_n 2 C rfl d_A_init_57 ?_
  refine V_puti (f := 1) C p_A_45 (fun _ => hnm) l0 (osh_48 _ _ _ _) (fl_48_len _ _ _ 1 (by decide)) (up_48_1 _ _ _ _ _) d_A_init_58 (fun S26 eS26 => ?_)
  replace h := h S26 eS26
  refine V_aload_n 0 C rfl d_A_init_61 ?_
  refine V_iload_n 3 C rfl d_A_init_62 ?_
  refine V_puti (f := 2) C p_A_48 (fun _ => hnm) l0 (osh_48 _ _ _ _) (fl_48_len _ _ _ 2 (by decide)) (up_48_2 _ _ _ _ _) d_A_init_63 (fun S27 eS27 => ?_)
  replace h := h S27 eS27
  refine V_aload_n 0 C rfl d_A_init_66 ?_
  refine V_iload 4 C rfl d_A_init_67 ?_
  refine V_puti (f := 5) C p_A_51 (fun z => by cases z) l0 (osh_48 _ _ _ _) (fl_48_len _ _ _ 5 (by decide)) (up_48_5 _ _ _ _ _) d_A_init_69 (fun S28 eS28 => ?_)
  replace h := h S28 eS28
  refine V_widen (c1 := 3) (s1 := 14) (by decide) (by decide) ?_
  exact V_vretn C hr hx0 hc0 d_A_init_72 h
set_option maxRecDepth 100000 in
set_option maxHeartbeats 4000000 in
theorem ct_X_account (l : Launch) (Γ : oGm) (ad : oAd) (cn : Nat → Nat) (S : oSt) (a1 : Int32) (a2 : Int32) (a3 : Int32) (post : Int32 → (Nat → Nat) → oSt → Prop) (l0 : 0 < cn 40) (h : wp_X_account cn S a1 a2 a3 post) : Met l y_X_account (.code y_X_account prog_1_method_2_code 5 (some .int) :: oWS) { frames := 4, cells := 4, slots := 25, locals := 106 } (va_Pc [.ref (ad 40 0), .int (a1), .int (a2), .int (a3)] (oW Γ ad cn S)) (oQn Γ ad cn (fun _ => vI) post) 4 25 (oF Γ) := by
  refine o_met (lv := [(0, .ref (ad 40 0)), (1, .int (a1)), (2, .int (a2)), (3, .int (a3))]) (own := "ValueConnector") (by decide) rfl (Nat.le_of_ble_eq_true rfl) rfl ?_
  intro p e s m args below meth c C hr hnm
  have hR : 4 ≤ ({ frames := 4, cells := 4, slots := 25, locals := 106 } : Room).frames ∧ 106 ≤ ({ frames := 4, cells := 4, slots := 25, locals := 106 } : Room).locals := ⟨Nat.le_refl _, Nat.le_refl _⟩
  have hx0 : oX cn ad ad := fun _ _ _ => rfl
  have hc0 : ∀ k, cn k ≤ cn k := fun _ => Nat.le_refl _
  unfold wp_X_account at h
  refine V_aload_n 0 C rfl d_X_account_0 ?_
  refine V_get C f_X_32 l0 (osh_40 _ _ _ _) (fl_40_6 _ _ _) d_X_account_1 ?_
  refine V_bipush (v := 8) C (by decide) d_X_account_4 ?_
  refine V_icmp_ge C d_X_account_6 (fun q => ?_) (fun q => ?_)
  · replace h := h.1 q
    refine V_iconst (v := -1) C (by decide) d_X_account_40 ?_
    refine V_widen (c1 := 4) (s1 := 25) (by decide) (by decide) ?_
    exact V_iretn C hr hx0 hc0 d_X_account_41 h
  · replace h := h.2 q
    refine V_iload_n 1 C rfl d_X_account_9 ?_
    refine V_ldc (v := -1000000000) C w_84 d_X_account_10 ?_
    refine V_iconst (v := 0) C (by decide) d_X_account_12 ?_
    refine V_cS (As := [.int (a1), .int ((-1000000000 : Int32)), .int ((0 : Int32))]) (rest := []) C k_X_49 (ct_X_isWithin l Γ ad cn S (a1) ((-1000000000 : Int32)) ((0 : Int32)) _  h) ⟨rfl, rfl⟩ ⟨Nat.le_trans (by decide) hR.1, Nat.le_trans (by decide) hR.2⟩ ⟨by decide, by decide⟩ rfl rfl (Nat.le_of_ble_eq_true rfl) d_X_account_13 (fun r1 S2 h => ?_)
    refine V_sh [(0, .ref (ad 40 0)), (1, .int (a1)), (2, .int (a2)), (3, .int (a3))] [.int (r1)] rfl rfl ?_
    refine V_if_eq C d_X_account_16 (fun q => ?_) (fun q => ?_)
    · replace h := h.1 q
      refine V_iconst (v := -1) C (by decide) d_X_account_40 ?_
      refine V_widen (c1 := 4) (s1 := 25) (by decide) (by decide) ?_
      exact V_iretn C hr hx0 hc0 d_X_account_41 h
    · replace h := h.2 q
      refine V_iload_n 2 C rfl d_X_account_19 ?_
      refine V_iconst (v := 1) C (by decide) d_X_account_20 ?_
      refine V_ldc (v := 1000000000) C w_85 d_X_account_21 ?_
      refine V_cS (As := [.int (a2), .int ((1 : Int32)), .int ((1000000000 : Int32))]) (rest := []) C k_X_49 (ct_X_isWithin l Γ ad cn S2 (a2) ((1 : Int32)) ((1000000000 : Int32)) _  h) ⟨rfl, rfl⟩ ⟨Nat.le_trans (by decide) hR.1, Nat.le_trans (by decide) hR.2⟩ ⟨by decide, by decide⟩ rfl rfl (Nat.le_of_ble_eq_true rfl) d_X_account_23 (fun r3 S4 h => ?_)
      refine V_sh [(0, .ref (ad 40 0)), (1, .int (a1)), (2, .int (a2)), (3, .int (a3))] [.int (r3)] rfl rfl ?_
      refine V_if_eq C d_X_account_26 (fun q => ?_) (fun q => ?_)
      · replace h := h.1 q
        refine V_iconst (v := -1) C (by decide) d_X_account_40 ?_
        refine V_widen (c1 := 4) (s1 := 25) (by decide) (by decide) ?_
        exact V_iretn C hr hx0 hc0 d_X_account_41 h
      · replace h := h.2 q
        refine V_iload_n 3 C rfl d_X_account_29 ?_
        refine V_iconst (v := 1) C (by decide) d_X_account_30 ?_
        refine V_sipush (v := 10000) C (by decide) d_X_account_31 ?_
        refine V_cS (As := [.int (a3), .int ((1 : Int32)), .int ((10000 : Int32))]) (rest := []) C k_X_49 (ct_X_isWithin l Γ ad cn S4 (a3) ((1 : Int32)) ((10000 : Int32)) _  h) ⟨rfl, rfl⟩ ⟨Nat.le_trans (by decide) hR.1, Nat.le_trans (by decide) hR.2⟩ ⟨by decide, by decide⟩ rfl rfl (Nat.le_of_ble_eq_true rfl) d_X_account_34 (fun r5 S6 h => ?_)
        refine V_sh [(0, .ref (ad 40 0)), (1, .int (a1)), (2, .int (a2)), (3, .int (a3))] [.int (r5)] rfl rfl ?_
        refine V_if_ne C d_X_account_37 (fun q => ?_) (fun q => ?_)
        · replace h := h.1 q
          refine V_aload_n 0 C rfl d_X_account_42 ?_
          refine V_get C f_X_32 l0 (osh_40 _ _ _ _) (fl_40_6 _ _ _) d_X_account_43 ?_
          refine V_istore C [(4, .int ((S6.1 40 0 6))), (0, .ref (ad 40 0)), (1, .int (a1)), (2, .int (a2)), (3, .int (a3))] (by decide) rfl d_X_account_46 ?_
          refine V_aload_n 1 C rfl d_X_account_48 ?_
          obtain ⟨j7, ej7, h⟩ := h
          refine V_getr (f := 2) C f_X_11 l0 (osh_40 _ _ _ _) (fl_40_2 _ _ _) ej7 d_X_account_49 (fun lj7 => ?_)
          replace lj7 : j7 < cn 41 := lj7
          refine V_sh [(4, .int ((S6.1 40 0 6))), (0, .ref (ad 40 0)), (1, .int (a1)), (2, .int (a2)), (3, .int (a3))] [.ref (ad 41 j7)] rfl rfl ?_
          refine V_iload 0 C rfl d_X_account_52 ?_
          refine V_new (k := 48) C (fun z => [(4, .int ((S6.1 40 0 6))), (0, .ref (z 40 0)), (1, .int (a1)), (2, .int (a2)), (3, .int (a3))]) (fun z => [.int ((S6.1 40 0 6)), .ref (z 41 j7)]) rfl rfl (fun z hz => ⟨by simp only [hz _ _ l0], by simp only [hz _ _ lj7]⟩) n_X_9 (osh_48 _ _ _ _) (by decide) (by decide) d_X_account_54 (fun i8 ad9 cn10 S11 ei12 ec12 es12 hx12 hc12 li8 => ?_)
          replace h := h i8 cn10 S11 ei12 ec12 es12
          have l0 := Nat.lt_of_lt_of_le l0 (hc12 _)
          have lj7 := Nat.lt_of_lt_of_le lj7 (hc12 _)
          have hx0 := oX.trans hx0 hc0 hx12
          have hc0 : ∀ k, cn k ≤ cn10 k := fun k => Nat.le_trans (hc0 k) (hc12 k)
          refine V_sh [(4, .int ((S6.1 40 0 6))), (0, .ref (ad9 40 0)), (1, .int (a1)), (2, .int (a2)), (3, .int (a3))] [.ref (ad9 48 i8), .int ((S6.1 40 0 6)), .ref (ad9 41 j7)] rfl rfl ?_
          refine V_dup C rfl d_X_account_57 ?_
          refine V_iload 0 C rfl d_X_account_58 ?_
          refine V_iload_n 2 C rfl d_X_account_60 ?_
          refine V_iload_n 3 C rfl d_X_account_61 ?_
          refine V_iload_n 4 C rfl d_X_account_62 ?_
          refine V_cIn (As := [.int ((S6.1 40 0 6)), .int (a1), .int (a2), .int (a3)]) C (fun z => [(4, .int ((S6.1 40 0 6))), (0, .ref (z 40 0)), (1, .int (a1)), (2, .int (a2)), (3, .int (a3))]) (fun z => [.ref (z 48 i8), .int ((S6.1 40 0 6)), .ref (z 41 j7)]) rfl rfl (fun z hz => ⟨by simp only [hz _ _ l0], by simp only [hz _ _ li8, hz _ _ lj7]⟩) k_X_62 (ct_A_init l Γ ad9 cn10 S11 i8 ((S6.1 40 0 6)) (a1) (a2) (a3) _ li8 h) ⟨rfl, rfl⟩ ⟨Nat.le_trans (by decide) hR.1, Nat.le_trans (by decide) hR.2⟩ ⟨by decide, by decide⟩ rfl rfl (Nat.le_of_ble_eq_true rfl) d_X_account_63 (fun r13 ad16 cn15 S14 hx17 hc17 h => ?_)
          have l0 := Nat.lt_of_lt_of_le l0 (hc17 _)
          have li8 := Nat.lt_of_lt_of_le li8 (hc17 _)
          have lj7 := Nat.lt_of_lt_of_le lj7 (hc17 _)
          have hx0 := oX.trans hx0 hc0 hx17
          have hc0 : ∀ k, cn k ≤ cn15 k := fun k => Nat.le_trans (hc0 k) (hc17 k)
          refine V_sh [(4, .int ((S6.1 40 0 6))), (0, .ref (ad16 40 0)), (1, .int (a1)), (2, .int (a2)), (3, .int (a3))] [.ref (ad16 48 i8), .int ((S6.1 40 0 6)), .ref (ad16 41 j7)] rfl rfl ?_
          refine V_aast (j := i8) (t0 := 2) C lj7 li8 (fun _ => osh_41 _ _ _ _) (osh_48 _ _ _ _) rfl rfl h.1 d_X_account_66 (fun S18 eS18 => ?_)
          replace h := h.2 S18 eS18
          refine V_aload_n 1 C rfl d_X_account_67 ?_
          refine V_dup C rfl d_X_account_68 ?_
          refine V_get C f_X_32 l0 (osh_40 _ _ _ _) (fl_40_6 _ _ _) d_X_account_69 ?_
          refine V_iconst (v := 1) C (by decide) d_X_account_72 ?_
          refine V_iadd C d_X_account_73 ?_
          refine V_puti (f := 6) C p_X_32 (fun z => by cases z) l0 (osh_40 _ _ _ _) (fl_40_len _ _ _ 6 (by decide)) (up_40_6 _ _ _ _ _) d_X_account_74 (fun S19 eS19 => ?_)
          replace h := h S19 eS19
          refine V_iload 0 C rfl d_X_account_77 ?_
          refine V_widen (c1 := 4) (s1 := 25) (by decide) (by decide) ?_
          exact V_iretn C hr hx0 hc0 d_X_account_79 h
        · replace h := h.2 q
          refine V_iconst (v := -1) C (by decide) d_X_account_40 ?_
          refine V_widen (c1 := 4) (s1 := 25) (by decide) (by decide) ?_
          exact V_iretn C hr hx0 hc0 d_X_account_41 h
set_option maxRecDepth 100000 in
set_option maxHeartbeats 4000000 in
theorem ct_X_accountNumbered (l : Launch) (Γ : oGm) (ad : oAd) (cn : Nat → Nat) (S : oSt) (a1 : Int32) (post : Option Nat → oSt → Prop) (l0 : 0 < cn 40) (h : wp_X_accountNumbered S a1 post) : Met l y_X_accountNumbered (.code y_X_accountNumbered prog_1_method_22_code 2 (some (.object "ValueConnector$Account")) :: oWS) { frames := 1, cells := 0, slots := 0, locals := 40 } (va_Pc [.ref (ad 40 0), .int (a1)] (oW Γ ad cn S)) (oQ Γ ad cn (vR ad 48) (fun r S => (∀ j, r = some j → j < cn 48) ∧ post r S)) 0 0 (oF Γ) := by
  refine o_met (lv := [(0, .ref (ad 40 0)), (1, .int (a1))]) (own := "ValueConnector") (by decide) rfl (Nat.le_of_ble_eq_true rfl) rfl ?_
  intro p e s m args below meth c C hr hnm
  have hR : 1 ≤ ({ frames := 1, cells := 0, slots := 0, locals := 40 } : Room).frames ∧ 40 ≤ ({ frames := 1, cells := 0, slots := 0, locals := 40 } : Room).locals := ⟨Nat.le_refl _, Nat.le_refl _⟩
  unfold wp_X_accountNumbered at h
  refine V_iload_n 1 C rfl d_X_accountNumbered_0 ?_
  refine V_if_lt C d_X_accountNumbered_1 (fun q => ?_) (fun q => ?_)
  · replace h := h.1 q
    refine V_null (kd := 48) C d_X_accountNumbered_21 ?_
    exact V_aret (kd := 48) (o := none) C hr d_X_accountNumbered_22 ⟨(fun _ q => by cases q), h⟩
  · replace h := h.2 q
    refine V_iload_n 1 C rfl d_X_accountNumbered_4 ?_
    refine V_aload_n 0 C rfl d_X_accountNumbered_5 ?_
    refine V_get C f_X_32 l0 (osh_40 _ _ _ _) (fl_40_6 _ _ _) d_X_accountNumbered_6 ?_
    refine V_icmp_ge C d_X_accountNumbered_9 (fun q => ?_) (fun q => ?_)
    · replace h := h.1 q
      refine V_null (kd := 48) C d_X_accountNumbered_21 ?_
      exact V_aret (kd := 48) (o := none) C hr d_X_accountNumbered_22 ⟨(fun _ q => by cases q), h⟩
    · replace h := h.2 q
      refine V_aload_n 0 C rfl d_X_accountNumbered_12 ?_
      obtain ⟨j1, ej1, h⟩ := h
      refine V_getr (f := 2) C f_X_11 l0 (osh_40 _ _ _ _) (fl_40_2 _ _ _) ej1 d_X_accountNumbered_13 (fun lj1 => ?_)
      replace lj1 : j1 < cn 41 := lj1
      refine V_sh [(0, .ref (ad 40 0)), (1, .int (a1))] [.ref (ad 41 j1)] rfl rfl ?_
      refine V_iload_n 1 C rfl d_X_accountNumbered_16 ?_
      refine V_aald (t0 := 2) C lj1 (osh_41 _ _ _ _) rfl h.1 d_X_accountNumbered_17 (fun o2 eo2 lo2 => ?_)
      replace h := h.2 o2 eo2
      replace lo2 : ∀ j, o2 = some j → j < cn 48 := lo2
      refine V_sh [(0, .ref (ad 40 0)), (1, .int (a1))] [rv ad 48 o2] rfl rfl ?_
      refine V_goto C d_X_accountNumbered_18 ?_
      exact V_aret (kd := 48) (o := o2) C hr d_X_accountNumbered_22 ⟨lo2, h⟩
set_option maxRecDepth 100000 in
set_option maxHeartbeats 4000000 in
theorem ct_X_worth (l : Launch) (Γ : oGm) (ad : oAd) (cn : Nat → Nat) (S : oSt) (a1 : Int32) (a2 : Int32) (post : Int32 → oSt → Prop) (l0 : 0 < cn 40) (h : wp_X_worth S a1 a2 post) : Met l y_X_worth (.code y_X_worth prog_1_method_3_code 4 (some .boolean) :: oWS) { frames := 2, cells := 0, slots := 0, locals := 62 } (va_Pc [.ref (ad 40 0), .int (a1), .int (a2)] (oW Γ ad cn S)) (oQ Γ ad cn vI post) 0 0 (oF Γ) := by
  refine o_met (lv := [(0, .ref (ad 40 0)), (1, .int (a1)), (2, .int (a2))]) (own := "ValueConnector") (by decide) rfl (Nat.le_of_ble_eq_true rfl) rfl ?_
  intro p e s m args below meth c C hr hnm
  have hR : 2 ≤ ({ frames := 2, cells := 0, slots := 0, locals := 62 } : Room).frames ∧ 62 ≤ ({ frames := 2, cells := 0, slots := 0, locals := 62 } : Room).locals := ⟨Nat.le_refl _, Nat.le_refl _⟩
  unfold wp_X_worth at h
  refine V_aload_n 0 C rfl d_X_worth_0 ?_
  refine V_iload_n 1 C rfl d_X_worth_1 ?_
  refine V_cV (As := [.int (a1)]) (rest := []) C k_X_65 l0 (osh_40 _ _ _ _) (ct_X_accountNumbered l Γ ad cn S (a1) _ l0 h) ⟨rfl, rfl⟩ ⟨Nat.le_trans (by decide) hR.1, Nat.le_trans (by decide) hR.2⟩ ⟨Nat.zero_le _, Nat.zero_le _⟩ rfl rfl (Nat.le_of_ble_eq_true rfl) d_X_worth_2 (fun r1 S2 h => ?_)
  obtain ⟨lr1, h⟩ := h
  refine V_sh [(0, .ref (ad 40 0)), (1, .int (a1)), (2, .int (a2))] [rv ad 48 r1] rfl rfl ?_
  refine V_ostore_n (kd := 48) (o := r1) C [(3, rv ad 48 r1), (0, .ref (ad 40 0)), (1, .int (a1)), (2, .int (a2))] (by decide) rfl d_X_worth_5 ?_
  refine V_oload_n (kd := 48) (o := r1) 0 C rfl d_X_worth_6 ?_
  refine V_ifnull (kd := 48) (o := r1) C d_X_worth_7 (fun q => ?_) (fun j3 q => ?_)
  · replace h := h.1 q
    subst q
    refine V_iconst (v := 0) C (by decide) d_X_worth_21 ?_
    exact V_zret C hr (by decide) d_X_worth_22 h
  · replace h := h.2 j3 q
    subst q
    have lj3 := lr1 j3 rfl
    refine V_sh [(3, .ref (ad 48 j3)), (0, .ref (ad 40 0)), (1, .int (a1)), (2, .int (a2))] [] rfl rfl ?_
    refine V_iload_n 3 C rfl d_X_worth_10 ?_
    refine V_iconst (v := 1) C (by decide) d_X_worth_11 ?_
    refine V_sipush (v := 10000) C (by decide) d_X_worth_12 ?_
    refine V_cS (As := [.int (a2), .int ((1 : Int32)), .int ((10000 : Int32))]) (rest := []) C k_X_49 (ct_X_isWithin l Γ ad cn S2 (a2) ((1 : Int32)) ((10000 : Int32)) _  h) ⟨rfl, rfl⟩ ⟨Nat.le_trans (by decide) hR.1, Nat.le_trans (by decide) hR.2⟩ ⟨Nat.zero_le _, Nat.zero_le _⟩ rfl rfl (Nat.le_of_ble_eq_true rfl) d_X_worth_15 (fun r4 S5 h => ?_)
    refine V_sh [(3, .ref (ad 48 j3)), (0, .ref (ad 40 0)), (1, .int (a1)), (2, .int (a2))] [.int (r4)] rfl rfl ?_
    refine V_if_ne C d_X_worth_18 (fun q => ?_) (fun q => ?_)
    · replace h := h.1 q
      refine V_aload_n 0 C rfl d_X_worth_23 ?_
      refine V_iload_n 3 C rfl d_X_worth_24 ?_
      refine V_puti (f := 5) C p_X_69 (fun z => by cases z) lj3 (osh_48 _ _ _ _) (fl_48_len _ _ _ 5 (by decide)) (up_48_5 _ _ _ _ _) d_X_worth_25 (fun S6 eS6 => ?_)
      replace h := h S6 eS6
      refine V_iconst (v := 1) C (by decide) d_X_worth_28 ?_
      exact V_zret C hr (by decide) d_X_worth_29 h
    · replace h := h.2 q
      refine V_iconst (v := 0) C (by decide) d_X_worth_21 ?_
      exact V_zret C hr (by decide) d_X_worth_22 h
set_option maxRecDepth 100000 in
set_option maxHeartbeats 4000000 in
theorem ct_X_spread (l : Launch) (Γ : oGm) (ad : oAd) (cn : Nat → Nat) (S : oSt) (a1 : Int32) (post : Int32 → oSt → Prop) (l0 : 0 < cn 40) (h : wp_X_spread S a1 post) : Met l y_X_spread (.code y_X_spread prog_1_method_4_code 2 (some .boolean) :: oWS) { frames := 2, cells := 0, slots := 0, locals := 62 } (va_Pc [.ref (ad 40 0), .int (a1)] (oW Γ ad cn S)) (oQ Γ ad cn vI post) 0 0 (oF Γ) := by
  refine o_met (lv := [(0, .ref (ad 40 0)), (1, .int (a1))]) (own := "ValueConnector") (by decide) rfl (Nat.le_of_ble_eq_true rfl) rfl ?_
  intro p e s m args below meth c C hr hnm
  have hR : 2 ≤ ({ frames := 2, cells := 0, slots := 0, locals := 62 } : Room).frames ∧ 62 ≤ ({ frames := 2, cells := 0, slots := 0, locals := 62 } : Room).locals := ⟨Nat.le_refl _, Nat.le_refl _⟩
  unfold wp_X_spread at h
  refine V_iload_n 1 C rfl d_X_spread_0 ?_
  refine V_iconst (v := 0) C (by decide) d_X_spread_1 ?_
  refine V_sipush (v := 999) C (by decide) d_X_spread_2 ?_
  refine V_cS (As := [.int (a1), .int ((0 : Int32)), .int ((999 : Int32))]) (rest := []) C k_X_49 (ct_X_isWithin l Γ ad cn S (a1) ((0 : Int32)) ((999 : Int32)) _  h) ⟨rfl, rfl⟩ ⟨Nat.le_trans (by decide) hR.1, Nat.le_trans (by decide) hR.2⟩ ⟨Nat.zero_le _, Nat.zero_le _⟩ rfl rfl (Nat.le_of_ble_eq_true rfl) d_X_spread_5 (fun r1 S2 h => ?_)
  refine V_sh [(0, .ref (ad 40 0)), (1, .int (a1))] [.int (r1)] rfl rfl ?_
  refine V_if_ne C d_X_spread_8 (fun q => ?_) (fun q => ?_)
  · replace h := h.1 q
    refine V_aload_n 0 C rfl d_X_spread_13 ?_
    refine V_iload_n 1 C rfl d_X_spread_14 ?_
    refine V_puti (f := 9) C p_X_42 (fun z => by cases z) l0 (osh_40 _ _ _ _) (fl_40_len _ _ _ 9 (by decide)) (up_40_9 _ _ _ _ _) d_X_spread_15 (fun S3 eS3 => ?_)
    replace h := h S3 eS3
    refine V_iconst (v := 1) C (by decide) d_X_spread_18 ?_
    exact V_zret C hr (by decide) d_X_spread_19 h
  · replace h := h.2 q
    refine V_iconst (v := 0) C (by decide) d_X_spread_11 ?_
    exact V_zret C hr (by decide) d_X_spread_12 h
set_option maxRecDepth 100000 in
set_option maxHeartbeats 4000000 in
theorem ct_X_policy (l : Launch) (Γ : oGm) (ad : oAd) (cn : Nat → Nat) (S : oSt) (a1 : Int32) (a2 : Int32) (a3 : Int32) (a4 : Int32) (post : Int32 → oSt → Prop) (l0 : 0 < cn 40) (h : wp_X_policy S a1 a2 a3 a4 post) : Met l y_X_policy (.code y_X_policy prog_1_method_5_code 6 (some .boolean) :: oWS) { frames := 2, cells := 0, slots := 0, locals := 62 } (va_Pc [.ref (ad 40 0), .int (a1), .int (a2), .int (a3), .int (a4)] (oW Γ ad cn S)) (oQ Γ ad cn vI post) 0 0 (oF Γ) := by
  refine o_met (lv := [(0, .ref (ad 40 0)), (1, .int (a1)), (2, .int (a2)), (3, .int (a3)), (4, .int (a4))]) (own := "ValueConnector") (by decide) rfl (Nat.le_of_ble_eq_true rfl) rfl ?_
  intro p e s m args below meth c C hr hnm
  have hR : 2 ≤ ({ frames := 2, cells := 0, slots := 0, locals := 62 } : Room).frames ∧ 62 ≤ ({ frames := 2, cells := 0, slots := 0, locals := 62 } : Room).locals := ⟨Nat.le_refl _, Nat.le_refl _⟩
  unfold wp_X_policy at h
  refine V_aload_n 0 C rfl d_X_policy_0 ?_
  refine V_iload_n 1 C rfl d_X_policy_1 ?_
  refine V_cV (As := [.int (a1)]) (rest := []) C k_X_65 l0 (osh_40 _ _ _ _) (ct_X_accountNumbered l Γ ad cn S (a1) _ l0 h) ⟨rfl, rfl⟩ ⟨Nat.le_trans (by decide) hR.1, Nat.le_trans (by decide) hR.2⟩ ⟨Nat.zero_le _, Nat.zero_le _⟩ rfl rfl (Nat.le_of_ble_eq_true rfl) d_X_policy_2 (fun r1 S2 h => ?_)
  obtain ⟨lr1, h⟩ := h
  refine V_sh [(0, .ref (ad 40 0)), (1, .int (a1)), (2, .int (a2)), (3, .int (a3)), (4, .int (a4))] [rv ad 48 r1] rfl rfl ?_
  refine V_ostore (kd := 48) (o := r1) C [(5, rv ad 48 r1), (0, .ref (ad 40 0)), (1, .int (a1)), (2, .int (a2)), (3, .int (a3)), (4, .int (a4))] (by decide) rfl d_X_policy_5 ?_
  refine V_oload (kd := 48) (o := r1) 0 C rfl d_X_policy_7 ?_
  refine V_ifnull (kd := 48) (o := r1) C d_X_policy_9 (fun q => ?_) (fun j3 q => ?_)
  · replace h := h.1 q
    subst q
    refine V_iconst (v := 0) C (by decide) d_X_policy_52 ?_
    exact V_zret C hr (by decide) d_X_policy_53 h
  · replace h := h.2 j3 q
    subst q
    have lj3 := lr1 j3 rfl
    refine V_sh [(5, .ref (ad 48 j3)), (0, .ref (ad 40 0)), (1, .int (a1)), (2, .int (a2)), (3, .int (a3)), (4, .int (a4))] [] rfl rfl ?_
    refine V_iload_n 3 C rfl d_X_policy_12 ?_
    refine V_iconst (v := 1) C (by decide) d_X_policy_13 ?_
    refine V_ldc (v := 1000000000) C w_85 d_X_policy_14 ?_
    refine V_cS (As := [.int (a2), .int ((1 : Int32)), .int ((1000000000 : Int32))]) (rest := []) C k_X_49 (ct_X_isWithin l Γ ad cn S2 (a2) ((1 : Int32)) ((1000000000 : Int32)) _  h) ⟨rfl, rfl⟩ ⟨Nat.le_trans (by decide) hR.1, Nat.le_trans (by decide) hR.2⟩ ⟨Nat.zero_le _, Nat.zero_le _⟩ rfl rfl (Nat.le_of_ble_eq_true rfl) d_X_policy_16 (fun r4 S5 h => ?_)
    refine V_sh [(5, .ref (ad 48 j3)), (0, .ref (ad 40 0)), (1, .int (a1)), (2, .int (a2)), (3, .int (a3)), (4, .int (a4))] [.int (r4)] rfl rfl ?_
    refine V_if_eq C d_X_policy_19 (fun q => ?_) (fun q => ?_)
    · replace h := h.1 q
      refine V_iconst (v := 0) C (by decide) d_X_policy_52 ?_
      exact V_zret C hr (by decide) d_X_policy_53 h
    · replace h := h.2 q
      refine V_iload_n 4 C rfl d_X_policy_22 ?_
      refine V_aload 0 C rfl d_X_policy_23 ?_
      refine V_get C f_X_72 lj3 (osh_48 _ _ _ _) (fl_48_1 _ _ _) d_X_policy_25 ?_
      refine V_iload_n 3 C rfl d_X_policy_28 ?_
      refine V_iconst (v := 1) C (by decide) d_X_policy_29 ?_
      refine V_isub C d_X_policy_30 ?_
      refine V_cS (As := [.int (a3), .int ((S5.1 48 j3 1)), .int ((a2 - (1 : Int32)))]) (rest := []) C k_X_49 (ct_X_isWithin l Γ ad cn S5 (a3) ((S5.1 48 j3 1)) ((a2 - (1 : Int32))) _  h) ⟨rfl, rfl⟩ ⟨Nat.le_trans (by decide) hR.1, Nat.le_trans (by decide) hR.2⟩ ⟨Nat.zero_le _, Nat.zero_le _⟩ rfl rfl (Nat.le_of_ble_eq_true rfl) d_X_policy_31 (fun r6 S7 h => ?_)
      refine V_sh [(5, .ref (ad 48 j3)), (0, .ref (ad 40 0)), (1, .int (a1)), (2, .int (a2)), (3, .int (a3)), (4, .int (a4))] [.int (r6)] rfl rfl ?_
      refine V_if_eq C d_X_policy_34 (fun q => ?_) (fun q => ?_)
      · replace h := h.1 q
        refine V_iconst (v := 0) C (by decide) d_X_policy_52 ?_
        exact V_zret C hr (by decide) d_X_policy_53 h
      · replace h := h.2 q
        refine V_iload 5 C rfl d_X_policy_37 ?_
        refine V_iconst (v := 0) C (by decide) d_X_policy_39 ?_
        refine V_pget C w_189 d_X_policy_40 ?_
        refine V_plen C d_X_policy_43 ?_
        refine V_iconst (v := 1) C (by decide) d_X_policy_44 ?_
        refine V_isub C d_X_policy_45 ?_
        refine V_cS (As := [.int (a4), .int ((0 : Int32)), .int (((4 : Int32) - (1 : Int32)))]) (rest := []) C k_X_49 (ct_X_isWithin l Γ ad cn S7 (a4) ((0 : Int32)) (((4 : Int32) - (1 : Int32))) _  h) ⟨rfl, rfl⟩ ⟨Nat.le_trans (by decide) hR.1, Nat.le_trans (by decide) hR.2⟩ ⟨Nat.zero_le _, Nat.zero_le _⟩ rfl rfl (Nat.le_of_ble_eq_true rfl) d_X_policy_46 (fun r8 S9 h => ?_)
        refine V_sh [(5, .ref (ad 48 j3)), (0, .ref (ad 40 0)), (1, .int (a1)), (2, .int (a2)), (3, .int (a3)), (4, .int (a4))] [.int (r8)] rfl rfl ?_
        refine V_if_ne C d_X_policy_49 (fun q => ?_) (fun q => ?_)
        · replace h := h.1 q
          refine V_aload 0 C rfl d_X_policy_54 ?_
          refine V_iload_n 3 C rfl d_X_policy_56 ?_
          refine V_puti (f := 7) C p_X_79 (fun z => by cases z) lj3 (osh_48 _ _ _ _) (fl_48_len _ _ _ 7 (by decide)) (up_48_7 _ _ _ _ _) d_X_policy_57 (fun S10 eS10 => ?_)
          replace h := h S10 eS10
          refine V_aload 0 C rfl d_X_policy_60 ?_
          refine V_iload_n 4 C rfl d_X_policy_62 ?_
          refine V_puti (f := 8) C p_X_82 (fun z => by cases z) lj3 (osh_48 _ _ _ _) (fl_48_len _ _ _ 8 (by decide)) (up_48_8 _ _ _ _ _) d_X_policy_63 (fun S11 eS11 => ?_)
          replace h := h S11 eS11
          refine V_aload 0 C rfl d_X_policy_66 ?_
          refine V_pget C w_189 d_X_policy_68 ?_
          refine V_iload 5 C rfl d_X_policy_71 ?_
          refine V_pld C h.1 d_X_policy_73 ?_
          replace h := h.2
          refine V_puti (f := 9) C p_X_85 (fun z => by cases z) lj3 (osh_48 _ _ _ _) (fl_48_len _ _ _ 9 (by decide)) (up_48_9 _ _ _ _ _) d_X_policy_74 (fun S12 eS12 => ?_)
          replace h := h S12 eS12
          refine V_iconst (v := 1) C (by decide) d_X_policy_77 ?_
          exact V_zret C hr (by decide) d_X_policy_78 h
        · replace h := h.2 q
          refine V_iconst (v := 0) C (by decide) d_X_policy_52 ?_
          exact V_zret C hr (by decide) d_X_policy_53 h
set_option maxRecDepth 100000 in
set_option maxHeartbeats 4000000 in
theorem ct_X_bucket (l : Launch) (Γ : oGm) (ad : oAd) (cn : Nat → Nat) (S : oSt) (a1 : Int32) (a2 : Int32) (a3 : Int32) (post : Int32 → oSt → Prop) (l0 : 0 < cn 40) (h : wp_X_bucket S a1 a2 a3 post) : Met l y_X_bucket (.code y_X_bucket prog_1_method_6_code 5 (some .boolean) :: oWS) { frames := 2, cells := 0, slots := 0, locals := 62 } (va_Pc [.ref (ad 40 0), .int (a1), .int (a2), .int (a3)] (oW Γ ad cn S)) (oQ Γ ad cn vI post) 0 0 (oF Γ) := by
  refine o_met (lv := [(0, .ref (ad 40 0)), (1, .int (a1)), (2, .int (a2)), (3, .int (a3))]) (own := "ValueConnector") (by decide) rfl (Nat.le_of_ble_eq_true rfl) rfl ?_
  intro p e s m args below meth c C hr hnm
  have hR : 2 ≤ ({ frames := 2, cells := 0, slots := 0, locals := 62 } : Room).frames ∧ 62 ≤ ({ frames := 2, cells := 0, slots := 0, locals := 62 } : Room).locals := ⟨Nat.le_refl _, Nat.le_refl _⟩
  unfold wp_X_bucket at h
  refine V_aload_n 0 C rfl d_X_bucket_0 ?_
  refine V_iload_n 1 C rfl d_X_bucket_1 ?_
  refine V_cV (As := [.int (a1)]) (rest := []) C k_X_65 l0 (osh_40 _ _ _ _) (ct_X_accountNumbered l Γ ad cn S (a1) _ l0 h) ⟨rfl, rfl⟩ ⟨Nat.le_trans (by decide) hR.1, Nat.le_trans (by decide) hR.2⟩ ⟨Nat.zero_le _, Nat.zero_le _⟩ rfl rfl (Nat.le_of_ble_eq_true rfl) d_X_bucket_2 (fun r1 S2 h => ?_)
  obtain ⟨lr1, h⟩ := h
  refine V_sh [(0, .ref (ad 40 0)), (1, .int (a1)), (2, .int (a2)), (3, .int (a3))] [rv ad 48 r1] rfl rfl ?_
  refine V_ostore (kd := 48) (o := r1) C [(4, rv ad 48 r1), (0, .ref (ad 40 0)), (1, .int (a1)), (2, .int (a2)), (3, .int (a3))] (by decide) rfl d_X_bucket_5 ?_
  refine V_oload (kd := 48) (o := r1) 0 C rfl d_X_bucket_7 ?_
  refine V_ifnull (kd := 48) (o := r1) C d_X_bucket_9 (fun q => ?_) (fun j3 q => ?_)
  · replace h := h.1 q
    subst q
    refine V_iconst (v := 0) C (by decide) d_X_bucket_34 ?_
    exact V_zret C hr (by decide) d_X_bucket_35 h
  · replace h := h.2 j3 q
    subst q
    have lj3 := lr1 j3 rfl
    refine V_sh [(4, .ref (ad 48 j3)), (0, .ref (ad 40 0)), (1, .int (a1)), (2, .int (a2)), (3, .int (a3))] [] rfl rfl ?_
    refine V_iload_n 3 C rfl d_X_bucket_12 ?_
    refine V_iconst (v := 1) C (by decide) d_X_bucket_13 ?_
    refine V_sipush (v := 1000) C (by decide) d_X_bucket_14 ?_
    refine V_cS (As := [.int (a2), .int ((1 : Int32)), .int ((1000 : Int32))]) (rest := []) C k_X_49 (ct_X_isWithin l Γ ad cn S2 (a2) ((1 : Int32)) ((1000 : Int32)) _  h) ⟨rfl, rfl⟩ ⟨Nat.le_trans (by decide) hR.1, Nat.le_trans (by decide) hR.2⟩ ⟨Nat.zero_le _, Nat.zero_le _⟩ rfl rfl (Nat.le_of_ble_eq_true rfl) d_X_bucket_17 (fun r4 S5 h => ?_)
    refine V_sh [(4, .ref (ad 48 j3)), (0, .ref (ad 40 0)), (1, .int (a1)), (2, .int (a2)), (3, .int (a3))] [.int (r4)] rfl rfl ?_
    refine V_if_eq C d_X_bucket_20 (fun q => ?_) (fun q => ?_)
    · replace h := h.1 q
      refine V_iconst (v := 0) C (by decide) d_X_bucket_34 ?_
      exact V_zret C hr (by decide) d_X_bucket_35 h
    · replace h := h.2 q
      refine V_iload_n 4 C rfl d_X_bucket_23 ?_
      refine V_iconst (v := 0) C (by decide) d_X_bucket_24 ?_
      refine V_sipush (v := 1000) C (by decide) d_X_bucket_25 ?_
      refine V_cS (As := [.int (a3), .int ((0 : Int32)), .int ((1000 : Int32))]) (rest := []) C k_X_49 (ct_X_isWithin l Γ ad cn S5 (a3) ((0 : Int32)) ((1000 : Int32)) _  h) ⟨rfl, rfl⟩ ⟨Nat.le_trans (by decide) hR.1, Nat.le_trans (by decide) hR.2⟩ ⟨Nat.zero_le _, Nat.zero_le _⟩ rfl rfl (Nat.le_of_ble_eq_true rfl) d_X_bucket_28 (fun r6 S7 h => ?_)
      refine V_sh [(4, .ref (ad 48 j3)), (0, .ref (ad 40 0)), (1, .int (a1)), (2, .int (a2)), (3, .int (a3))] [.int (r6)] rfl rfl ?_
      refine V_if_ne C d_X_bucket_31 (fun q => ?_) (fun q => ?_)
      · replace h := h.1 q
        refine V_aload 0 C rfl d_X_bucket_36 ?_
        obtain ⟨j8, ej8, h⟩ := h
        refine V_getr (f := 3) C f_X_88 lj3 (osh_48 _ _ _ _) (fl_48_3 _ _ _) ej8 d_X_bucket_38 (fun lj8 => ?_)
        replace lj8 : j8 < cn 49 := lj8
        refine V_sh [(4, .ref (ad 48 j3)), (0, .ref (ad 40 0)), (1, .int (a1)), (2, .int (a2)), (3, .int (a3))] [.ref (ad 49 j8)] rfl rfl ?_
        refine V_iload_n 3 C rfl d_X_bucket_41 ?_
        refine V_iload_n 4 C rfl d_X_bucket_42 ?_
        refine V_cV (As := [.int (a2), .int (a3)]) (rest := []) C k_X_92 lj8 (osh_49 _ _ _ _) (ct_B_renew l Γ ad cn S7 j8 (a2) (a3) _ lj8 h) ⟨rfl, rfl⟩ ⟨Nat.le_trans (by decide) hR.1, Nat.le_trans (by decide) hR.2⟩ ⟨Nat.zero_le _, Nat.zero_le _⟩ rfl rfl (Nat.le_of_ble_eq_true rfl) d_X_bucket_43 (fun r9 S10 h => ?_)
        refine V_sh [(4, .ref (ad 48 j3)), (0, .ref (ad 40 0)), (1, .int (a1)), (2, .int (a2)), (3, .int (a3))] [] rfl rfl ?_
        refine V_iconst (v := 1) C (by decide) d_X_bucket_46 ?_
        exact V_zret C hr (by decide) d_X_bucket_47 h
      · replace h := h.2 q
        refine V_iconst (v := 0) C (by decide) d_X_bucket_34 ?_
        exact V_zret C hr (by decide) d_X_bucket_35 h
