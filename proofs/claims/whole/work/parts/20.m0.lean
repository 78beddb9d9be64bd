set_option maxRecDepth 100000 in
set_option maxHeartbeats 4000000 in
theorem ct_W_cell (l : Launch) (Γ : oGm) (ad : oAd) (cn : Nat → Nat) (S : oSt) (a1 : Int32) (post : Int32 → oSt → Prop)  (h : wp_W_cell Γ.2.2.2.1.2.1 Γ.2.2.2.1.2.2 S a1 post) : Met l y_W_cell (.code y_W_cell method_2_code 2 (some .int) :: oWS) { frames := 1, cells := 0, slots := 0, locals := 40 } (va_Pc [.ref Γ.2.2.2.1.1, .int (a1)] (oW Γ ad cn S)) (oQ Γ ad cn vI post) 0 0 (oF Γ) := by
  refine o_met (lv := [(0, .ref Γ.2.2.2.1.1), (1, .int (a1))]) (own := "ValueConnectorLaw") (by decide) rfl (Nat.le_of_ble_eq_true rfl) rfl ?_
  intro p e s m args below meth c C hr hnm
  have hR : 1 ≤ ({ frames := 1, cells := 0, slots := 0, locals := 40 } : Room).frames ∧ 40 ≤ ({ frames := 1, cells := 0, slots := 0, locals := 40 } : Room).locals := ⟨Nat.le_refl _, Nat.le_refl _⟩
  unfold wp_W_cell at h
  refine V_iload_n 1 C rfl d_W_cell_0 ?_
  refine V_aload_n 0 C rfl d_W_cell_1 ?_
  refine V_slen C d_W_cell_2 ?_
  refine V_icmp_ge C d_W_cell_3 (fun q => ?_) (fun q => ?_)
  · replace h := h.1 q
    refine V_iconst (v := 0) C (by decide) d_W_cell_12 ?_
    exact V_iret C hr d_W_cell_13 h
  · replace h := h.2 q
    refine V_aload_n 0 C rfl d_W_cell_6 ?_
    refine V_iload_n 1 C rfl d_W_cell_7 ?_
    refine V_sld C h.1 d_W_cell_8 ?_
    replace h := h.2
    refine V_goto C d_W_cell_9 ?_
    exact V_iret C hr d_W_cell_13 h
set_option maxRecDepth 100000 in
set_option maxHeartbeats 4000000 in
theorem ct_M_init (l : Launch) (Γ : oGm) (ad : oAd) (cn : Nat → Nat) (S : oSt) (a1 : Int32) (a2 : Int32) (post : Unit → (Nat → Nat) → oSt → Prop) (l0 : 0 < cn 0) (h : wp_M_init cn S a1 a2 post) : Met l y_M_init (.code y_M_init prog_8_method_1_code 3 none :: oWS) { frames := 1, cells := 25, slots := 1360, locals := 40 } (va_Pc [.ref (ad 0 0), .int (a1), .int (a2)] (oW Γ ad cn S)) (oQn Γ ad cn (fun _ => vU) post) 25 1360 (oF Γ) := by
  refine o_met (lv := [(0, .ref (ad 0 0)), (1, .int (a1)), (2, .int (a2))]) (own := "ValueConnectorModel") (by decide) rfl (Nat.le_of_ble_eq_true rfl) rfl ?_
  intro p e s m args below meth c C hr hnm
  have hR : 1 ≤ ({ frames := 1, cells := 25, slots := 1360, locals := 40 } : Room).frames ∧ 40 ≤ ({ frames := 1, cells := 25, slots := 1360, locals := 40 } : Room).locals := ⟨Nat.le_refl _, Nat.le_refl _⟩
  have hx0 : oX cn ad ad := fun _ _ _ => rfl
  have hc0 : ∀ k, cn k ≤ cn k := fun _ => Nat.le_refl _
  unfold wp_M_init at h
  refine V_aload_n 0 C rfl d_M_init_0 ?_
  refine V_objInit C w_402 w_15 w_16 ⟨Nat.le_trans (by decide) hR.1, Nat.le_trans (by decide) hR.2⟩ (Nat.le_of_ble_eq_true rfl) d_M_init_1 ?_
  refine V_aload_n 0 C rfl d_M_init_4 ?_
  refine V_bipush (v := 8) C (by decide) d_M_init_5 ?_
  refine V_newl (k := 5) C (fun z => [(0, .ref (z 0 0)), (1, .int (a1)), (2, .int (a2))]) (fun z => [.ref (z 0 0)]) rfl rfl (fun z hz => ⟨by simp only [hz _ _ l0], by simp only [hz _ _ l0]⟩) w_39 (osh_5 _ _ _ _) (by decide) (by decide) (by decide) (by decide) (by decide) d_M_init_7 (fun i1 ad2 cn3 S4 ei5 ec5 es5 hx5 hc5 li1 => ?_)
  replace h := h i1 cn3 S4 ei5 ec5 es5
  have l0 := Nat.lt_of_lt_of_le l0 (hc5 _)
  have hx0 := oX.trans hx0 hc0 hx5
  have hc0 : ∀ k, cn k ≤ cn3 k := fun k => Nat.le_trans (hc0 k) (hc5 k)
  refine V_sh [(0, .ref (ad2 0 0)), (1, .int (a1)), (2, .int (a2))] [.ref (ad2 5 i1), .ref (ad2 0 0)] rfl rfl ?_
  refine V_putra (f := 5) (j := i1) C p_M_7 (fun _ => hnm) l0 li1 (osh_0 _ _ _ _) (fl_0_len _ _ _ 5 (by decide)) (fun a => up_0_5 _ _ _ _ a) d_M_init_9 (fun S6 eS6 => ?_)
  replace h := h S6 eS6
  refine V_aload_n 0 C rfl d_M_init_12 ?_
  refine V_bipush (v := 8) C (by decide) d_M_init_13 ?_
  refine V_newi (k := 6) C (fun z => [(0, .ref (z 0 0)), (1, .int (a1)), (2, .int (a2))]) (fun z => [.ref (z 0 0)]) rfl rfl (fun z hz => ⟨by simp only [hz _ _ l0], by simp only [hz _ _ l0]⟩) w_38 (osh_6 _ _ _ _) (by decide) (by decide) (by decide) (by decide) (by decide) d_M_init_15 (fun i7 ad8 cn9 S10 ei11 ec11 es11 hx11 hc11 li7 => ?_)
  replace h := h i7 cn9 S10 ei11 ec11 es11
  have l0 := Nat.lt_of_lt_of_le l0 (hc11 _)
  have hx0 := oX.trans hx0 hc0 hx11
  have hc0 : ∀ k, cn k ≤ cn9 k := fun k => Nat.le_trans (hc0 k) (hc11 k)
  refine V_sh [(0, .ref (ad8 0 0)), (1, .int (a1)), (2, .int (a2))] [.ref (ad8 6 i7), .ref (ad8 0 0)] rfl rfl ?_
  refine V_putra (f := 6) (j := i7) C p_M_13 (fun _ => hnm) l0 li7 (osh_0 _ _ _ _) (fl_0_len _ _ _ 6 (by decide)) (fun a => up_0_6 _ _ _ _ a) d_M_init_17 (fun S12 eS12 => ?_)
  replace h := h S12 eS12
  refine V_aload_n 0 C rfl d_M_init_20 ?_
  refine V_bipush (v := 8) C (by decide) d_M_init_21 ?_
  refine V_newi (k := 7) C (fun z => [(0, .ref (z 0 0)), (1, .int (a1)), (2, .int (a2))]) (fun z => [.ref (z 0 0)]) rfl rfl (fun z hz => ⟨by simp only [hz _ _ l0], by simp only [hz _ _ l0]⟩) w_38 (osh_7 _ _ _ _) (by decide) (by decide) (by decide) (by decide) (by decide) d_M_init_23 (fun i13 ad14 cn15 S16 ei17 ec17 es17 hx17 hc17 li13 => ?_)
  replace h := h i13 cn15 S16 ei17 ec17 es17
  have l0 := Nat.lt_of_lt_of_le l0 (hc17 _)
  have hx0 := oX.trans hx0 hc0 hx17
  have hc0 : ∀ k, cn k ≤ cn15 k := fun k => Nat.le_trans (hc0 k) (hc17 k)
  refine V_sh [(0, .ref (ad14 0 0)), (1, .int (a1)), (2, .int (a2))] [.ref (ad14 7 i13), .ref (ad14 0 0)] rfl rfl ?_
  refine V_putra (f := 7) (j := i13) C p_M_17 (fun _ => hnm) l0 li13 (osh_0 _ _ _ _) (fl_0_len _ _ _ 7 (by decide)) (fun a => up_0_7 _ _ _ _ a) d_M_init_25 (fun S18 eS18 => ?_)
  replace h := h S18 eS18
  refine V_aload_n 0 C rfl d_M_init_28 ?_
  refine V_bipush (v := 8) C (by decide) d_M_init_29 ?_
  refine V_newi (k := 8) C (fun z => [(0, .ref (z 0 0)), (1, .int (a1)), (2, .int (a2))]) (fun z => [.ref (z 0 0)]) rfl rfl (fun z hz => ⟨by simp only [hz _ _ l0], by simp only [hz _ _ l0]⟩) w_38 (osh_8 _ _ _ _) (by decide) (by decide) (by decide) (by decide) (by decide) d_M_init_31 (fun i19 ad20 cn21 S22 ei23 ec23 es23 hx23 hc23 li19 => ?_)
  replace h := h i19 cn21 S22 ei23 ec23 es23
  have l0 := Nat.lt_of_lt_of_le l0 (hc23 _)
  have hx0 := oX.trans hx0 hc0 hx23
  have hc0 : ∀ k, cn k ≤ cn21 k := fun k => Nat.le_trans (hc0 k) (hc23 k)
  refine V_sh [(0, .ref (ad20 0 0)), (1, .int (a1)), (2, .int (a2))] [.ref (ad20 8 i19), .ref (ad20 0 0)] rfl rfl ?_
  refine V_putra (f := 8) (j := i19) C p_M_20 (fun _ => hnm) l0 li19 (osh_0 _ _ _ _) (fl_0_len _ _ _ 8 (by decide)) (fun a => up_0_8 _ _ _ _ a) d_M_init_33 (fun S24 eS24 => ?_)
  replace h := h S24 eS24
  refine V_aload_n 0 C rfl d_M_init_36 ?_
  refine V_bipush (v := 8) C (by decide) d_M_init_37 ?_
  refine V_newi (k := 9) C (fun z => [(0, .ref (z 0 0)), (1, .int (a1)), (2, .int (a2))]) (fun z => [.ref (z 0 0)]) rfl rfl (fun z hz => ⟨by simp only [hz _ _ l0], by simp only [hz _ _ l0]⟩) w_38 (osh_9 _ _ _ _) (by decide) (by decide) (by decide) (by decide) (by decide) d_M_init_39 (fun i25 ad26 cn27 S28 ei29 ec29 es29 hx29 hc29 li25 => ?_)
  replace h := h i25 cn27 S28 ei29 ec29 es29
  have l0 := Nat.lt_of_lt_of_le l0 (hc29 _)
  have hx0 := oX.trans hx0 hc0 hx29
  have hc0 : ∀ k, cn k ≤ cn27 k := fun k => Nat.le_trans (hc0 k) (hc29 k)
  refine V_sh [(0, .ref (ad26 0 0)), (1, .int (a1)), (2, .int (a2))] [.ref (ad26 9 i25), .ref (ad26 0 0)] rfl rfl ?_
  refine V_putra (f := 9) (j := i25) C p_M_23 (fun _ => hnm) l0 li25 (osh_0 _ _ _ _) (fl_0_len _ _ _ 9 (by decide)) (fun a => up_0_9 _ _ _ _ a) d_M_init_41 (fun S30 eS30 => ?_)
  replace h := h S30 eS30
  refine V_aload_n 0 C rfl d_M_init_44 ?_
  refine V_bipush (v := 8) C (by decide) d_M_init_45 ?_
  refine V_newi (k := 10) C (fun z => [(0, .ref (z 0 0)), (1, .int (a1)), (2, .int (a2))]) (fun z => [.ref (z 0 0)]) rfl rfl (fun z hz => ⟨by simp only [hz _ _ l0], by simp only [hz _ _ l0]⟩) w_38 (osh_10 _ _ _ _) (by decide) (by decide) (by decide) (by decide) (by decide) d_M_init_47 (fun i31 ad32 cn33 S34 ei35 ec35 es35 hx35 hc35 li31 => ?_)
  replace h := h i31 cn33 S34 ei35 ec35 es35
  have l0 := Nat.lt_of_lt_of_le l0 (hc35 _)
  have hx0 := oX.trans hx0 hc0 hx35
  have hc0 : ∀ k, cn k ≤ cn33 k := fun k => Nat.le_trans (hc0 k) (hc35 k)
  refine V_sh [(0, .ref (ad32 0 0)), (1, .int (a1)), (2, .int (a2))] [.ref (ad32 10 i31), .ref (ad32 0 0)] rfl rfl ?_
  refine V_putra (f := 10) (j := i31) C p_M_26 (fun _ => hnm) l0 li31 (osh_0 _ _ _ _) (fl_0_len _ _ _ 10 (by decide)) (fun a => up_0_10 _ _ _ _ a) d_M_init_49 (fun S36 eS36 => ?_)
  replace h := h S36 eS36
  refine V_aload_n 0 C rfl d_M_init_52 ?_
  refine V_bipush (v := 8) C (by decide) d_M_init_53 ?_
  refine V_newi (k := 11) C (fun z => [(0, .ref (z 0 0)), (1, .int (a1)), (2, .int (a2))]) (fun z => [.ref (z 0 0)]) rfl rfl (fun z hz => ⟨by simp only [hz _ _ l0], by simp only [hz _ _ l0]⟩) w_38 (osh_11 _ _ _ _) (by decide) (by decide) (by decide) (by decide) (by decide) d_M_init_55 (fun i37 ad38 cn39 S40 ei41 ec41 es41 hx41 hc41 li37 => ?_)
  replace h := h i37 cn39 S40 ei41 ec41 es41
  have l0 := Nat.lt_of_lt_of_le l0 (hc41 _)
  have hx0 := oX.trans hx0 hc0 hx41
  have hc0 : ∀ k, cn k ≤ cn39 k := fun k => Nat.le_trans (hc0 k) (hc41 k)
  refine V_sh [(0, .ref (ad38 0 0)), (1, .int (a1)), (2, .int (a2))] [.ref (ad38 11 i37), .ref (ad38 0 0)] rfl rfl ?_
  refine V_putra (f := 11) (j := i37) C p_M_29 (fun _ => hnm) l0 li37 (osh_0 _ _ _ _) (fl_0_len _ _ _ 11 (by decide)) (fun a => up_0_11 _ _ _ _ a) d_M_init_57 (fun S42 eS42 => ?_)
  replace h := h S42 eS42
  refine V_aload_n 0 C rfl d_M_init_60 ?_
  refine V_bipush (v := 8) C (by decide) d_M_init_61 ?_
  refine V_newl (k := 12) C (fun z => [(0, .ref (z 0 0)), (1, .int (a1)), (2, .int (a2))]) (fun z => [.ref (z 0 0)]) rfl rfl (fun z hz => ⟨by simp only [hz _ _ l0], by simp only [hz _ _ l0]⟩) w_39 (osh_12 _ _ _ _) (by decide) (by decide) (by decide) (by decide) (by decide) d_M_init_63 (fun i43 ad44 cn45 S46 ei47 ec47 es47 hx47 hc47 li43 => ?_)
  replace h := h i43 cn45 S46 ei47 ec47 es47
  have l0 := Nat.lt_of_lt_of_le l0 (hc47 _)
  have hx0 := oX.trans hx0 hc0 hx47
  have hc0 : ∀ k, cn k ≤ cn45 k := fun k => Nat.le_trans (hc0 k) (hc47 k)
  refine V_sh [(0, .ref (ad44 0 0)), (1, .int (a1)), (2, .int (a2))] [.ref (ad44 12 i43), .ref (ad44 0 0)] rfl rfl ?_
  refine V_putra (f := 12) (j := i43) C p_M_32 (fun _ => hnm) l0 li43 (osh_0 _ _ _ _) (fl_0_len _ _ _ 12 (by decide)) (fun a => up_0_12 _ _ _ _ a) d_M_init_65 (fun S48 eS48 => ?_)
  replace h := h S48 eS48
  refine V_aload_n 0 C rfl d_M_init_68 ?_
  refine V_bipush (v := 8) C (by decide) d_M_init_69 ?_
  refine V_newi (k := 13) C (fun z => [(0, .ref (z 0 0)), (1, .int (a1)), (2, .int (a2))]) (fun z => [.ref (z 0 0)]) rfl rfl (fun z hz => ⟨by simp only [hz _ _ l0], by simp only [hz _ _ l0]⟩) w_38 (osh_13 _ _ _ _) (by decide) (by decide) (by decide) (by decide) (by decide) d_M_init_71 (fun i49 ad50 cn51 S52 ei53 ec53 es53 hx53 hc53 li49 => ?_)
  replace h := h i49 cn51 S52 ei53 ec53 es53
  have l0 := Nat.lt_of_lt_of_le l0 (hc53 _)
  have hx0 := oX.trans hx0 hc0 hx53
  have hc0 : ∀ k, cn k ≤ cn51 k := fun k => Nat.le_trans (hc0 k) (hc53 k)
  refine V_sh [(0, .ref (ad50 0 0)), (1, .int (a1)), (2, .int (a2))] [.ref (ad50 13 i49), .ref (ad50 0 0)] rfl rfl ?_
  refine V_putra (f := 13) (j := i49) C p_M_35 (fun _ => hnm) l0 li49 (osh_0 _ _ _ _) (fl_0_len _ _ _ 13 (by decide)) (fun a => up_0_13 _ _ _ _ a) d_M_init_73 (fun S54 eS54 => ?_)
  replace h := h S54 eS54
  refine V_aload_n 0 C rfl d_M_init_76 ?_
  refine V_bipush (v := 8) C (by decide) d_M_init_77 ?_
  refine V_newi (k := 14) C (fun z => [(0, .ref (z 0 0)), (1, .int (a1)), (2, .int (a2))]) (fun z => [.ref (z 0 0)]) rfl rfl (fun z hz => ⟨by simp only [hz _ _ l0], by simp only [hz _ _ l0]⟩) w_38 (osh_14 _ _ _ _) (by decide) (by decide) (by decide) (by decide) (by decide) d_M_init_79 (fun i55 ad56 cn57 S58 ei59 ec59 es59 hx59 hc59 li55 => ?_)
  replace h := h i55 cn57 S58 ei59 ec59 es59
  have l0 := Nat.lt_of_lt_of_le l0 (hc59 _)
  have hx0 := oX.trans hx0 hc0 hx59
  have hc0 : ∀ k, cn k ≤ cn57 k := fun k => Nat.le_trans (hc0 k) (hc59 k)
  refine V_sh [(0, .ref (ad56 0 0)), (1, .int (a1)), (2, .int (a2))] [.ref (ad56 14 i55), .ref (ad56 0 0)] rfl rfl ?_
  refine V_putra (f := 14) (j := i55) C p_M_38 (fun _ => hnm) l0 li55 (osh_0 _ _ _ _) (fl_0_len _ _ _ 14 (by decide)) (fun a => up_0_14 _ _ _ _ a) d_M_init_81 (fun S60 eS60 => ?_)
  replace h := h S60 eS60
  refine V_aload_n 0 C rfl d_M_init_84 ?_
  refine V_bipush (v := 8) C (by decide) d_M_init_85 ?_
  refine V_newi (k := 15) C (fun z => [(0, .ref (z 0 0)), (1, .int (a1)), (2, .int (a2))]) (fun z => [.ref (z 0 0)]) rfl rfl (fun z hz => ⟨by simp only [hz _ _ l0], by simp only [hz _ _ l0]⟩) w_38 (osh_15 _ _ _ _) (by decide) (by decide) (by decide) (by decide) (by decide) d_M_init_87 (fun i61 ad62 cn63 S64 ei65 ec65 es65 hx65 hc65 li61 => ?_)
  replace h := h i61 cn63 S64 ei65 ec65 es65
  have l0 := Nat.lt_of_lt_of_le l0 (hc65 _)
  have hx0 := oX.trans hx0 hc0 hx65
  have hc0 : ∀ k, cn k ≤ cn63 k := fun k => Nat.le_trans (hc0 k) (hc65 k)
  refine V_sh [(0, .ref (ad62 0 0)), (1, .int (a1)), (2, .int (a2))] [.ref (ad62 15 i61), .ref (ad62 0 0)] rfl rfl ?_
  refine V_putra (f := 15) (j := i61) C p_M_41 (fun _ => hnm) l0 li61 (osh_0 _ _ _ _) (fl_0_len _ _ _ 15 (by decide)) (fun a => up_0_15 _ _ _ _ a) d_M_init_89 (fun S66 eS66 => ?_)
  replace h := h S66 eS66
  refine V_aload_n 0 C rfl d_M_init_92 ?_
  refine V_bipush (v := 64) C (by decide) d_M_init_93 ?_
  refine V_newi (k := 16) C (fun z => [(0, .ref (z 0 0)), (1, .int (a1)), (2, .int (a2))]) (fun z => [.ref (z 0 0)]) rfl rfl (fun z hz => ⟨by simp only [hz _ _ l0], by simp only [hz _ _ l0]⟩) w_38 (osh_16 _ _ _ _) (by decide) (by decide) (by decide) (by decide) (by decide) d_M_init_95 (fun i67 ad68 cn69 S70 ei71 ec71 es71 hx71 hc71 li67 => ?_)
  replace h := h i67 cn69 S70 ei71 ec71 es71
  have l0 := Nat.lt_of_lt_of_le l0 (hc71 _)
  have hx0 := oX.trans hx0 hc0 hx71
  have hc0 : ∀ k, cn k ≤ cn69 k := fun k => Nat.le_trans (hc0 k) (hc71 k)
  refine V_sh [(0, .ref (ad68 0 0)), (1, .int (a1)), (2, .int (a2))] [.ref (ad68 16 i67), .ref (ad68 0 0)] rfl rfl ?_
  refine V_putra (f := 16) (j := i67) C p_M_44 (fun _ => hnm) l0 li67 (osh_0 _ _ _ _) (fl_0_len _ _ _ 16 (by decide)) (fun a => up_0_16 _ _ _ _ a) d_M_init_97 (fun S72 eS72 => ?_)
  replace h := h S72 eS72
  refine V_aload_n 0 C rfl d_M_init_100 ?_
  refine V_bipush (v := 8) C (by decide) d_M_init_101 ?_
  refine V_newi (k := 17) C (fun z => [(0, .ref (z 0 0)), (1, .int (a1)), (2, .int (a2))]) (fun z => [.ref (z 0 0)]) rfl rfl (fun z hz => ⟨by simp only [hz _ _ l0], by simp only [hz _ _ l0]⟩) w_38 (osh_17 _ _ _ _) (by decide) (by decide) (by decide) (by decide) (by decide) d_M_init_103 (fun i73 ad74 cn75 S76 ei77 ec77 es77 hx77 hc77 li73 => ?_)
  replace h := h i73 cn75 S76 ei77 ec77 es77
  have l0 := Nat.lt_of_lt_of_le l0 (hc77 _)
  have hx0 := oX.trans hx0 hc0 hx77
  have hc0 : ∀ k, cn k ≤ cn75 k := fun k => Nat.le_trans (hc0 k) (hc77 k)
  refine V_sh [(0, .ref (ad74 0 0)), (1, .int (a1)), (2, .int (a2))] [.ref (ad74 17 i73), .ref (ad74 0 0)] rfl rfl ?_
  refine V_putra (f := 17) (j := i73) C p_M_47 (fun _ => hnm) l0 li73 (osh_0 _ _ _ _) (fl_0_len _ _ _ 17 (by decide)) (fun a => up_0_17 _ _ _ _ a) d_M_init_105 (fun S78 eS78 => ?_)
  replace h := h S78 eS78
  refine V_aload_n 0 C rfl d_M_init_108 ?_
  refine V_bipush (v := 40) C (by decide) d_M_init_109 ?_
  refine V_newi (k := 19) C (fun z => [(0, .ref (z 0 0)), (1, .int (a1)), (2, .int (a2))]) (fun z => [.ref (z 0 0)]) rfl rfl (fun z hz => ⟨by simp only [hz _ _ l0], by simp only [hz _ _ l0]⟩) w_38 (osh_19 _ _ _ _) (by decide) (by decide) (by decide) (by decide) (by decide) d_M_init_111 (fun i79 ad80 cn81 S82 ei83 ec83 es83 hx83 hc83 li79 => ?_)
  replace h := h i79 cn81 S82 ei83 ec83 es83
  have l0 := Nat.lt_of_lt_of_le l0 (hc83 _)
  have hx0 := oX.trans hx0 hc0 hx83
  have hc0 : ∀ k, cn k ≤ cn81 k := fun k => Nat.le_trans (hc0 k) (hc83 k)
  refine V_sh [(0, .ref (ad80 0 0)), (1, .int (a1)), (2, .int (a2))] [.ref (ad80 19 i79), .ref (ad80 0 0)] rfl rfl ?_
  refine V_putra (f := 19) (j := i79) C p_M_50 (fun _ => hnm) l0 li79 (osh_0 _ _ _ _) (fl_0_len _ _ _ 19 (by decide)) (fun a => up_0_19 _ _ _ _ a) d_M_init_113 (fun S84 eS84 => ?_)
  replace h := h S84 eS84
  refine V_aload_n 0 C rfl d_M_init_116 ?_
  refine V_bipush (v := 40) C (by decide) d_M_init_117 ?_
  refine V_newl (k := 20) C (fun z => [(0, .ref (z 0 0)), (1, .int (a1)), (2, .int (a2))]) (fun z => [.ref (z 0 0)]) rfl rfl (fun z hz => ⟨by simp only [hz _ _ l0], by simp only [hz _ _ l0]⟩) w_39 (osh_20 _ _ _ _) (by decide) (by decide) (by decide) (by decide) (by decide) d_M_init_119 (fun i85 ad86 cn87 S88 ei89 ec89 es89 hx89 hc89 li85 => ?_)
  replace h := h i85 cn87 S88 ei89 ec89 es89
  have l0 := Nat.lt_of_lt_of_le l0 (hc89 _)
  have hx0 := oX.trans hx0 hc0 hx89
  have hc0 : ∀ k, cn k ≤ cn87 k := fun k => Nat.le_trans (hc0 k) (hc89 k)
  refine V_sh [(0, .ref (ad86 0 0)), (1, .int (a1)), (2, .int (a2))] [.ref (ad86 20 i85), .ref (ad86 0 0)] rfl rfl ?_
  refine V_putra (f := 20) (j := i85) C p_M_53 (fun _ => hnm) l0 li85 (osh_0 _ _ _ _) (fl_0_len _ _ _ 20 (by decide)) (fun a => up_0_20 _ _ _ _ a) d_M_init_121 (fun S90 eS90 => ?_)
  replace h := h S90 eS90
  refine V_aload_n 0 C rfl d_M_init_124 ?_
  refine V_bipush (v := 40) C (by decide) d_M_init_125 ?_
  refine V_newi (k := 21) C (fun z => [(0, .ref (z 0 0)), (1, .int (a1)), (2, .int (a2))]) (fun z => [.ref (z 0 0)]) rfl rfl (fun z hz => ⟨by simp only [hz _ _ l0], by simp only [hz _ _ l0]⟩) w_38 (osh_21 _ _ _ _) (by decide) (by decide) (by decide) (by decide) (by decide) d_M_init_127 (fun i91 ad92 cn93 S94 ei95 ec95 es95 hx95 hc95 li91 => ?_)
  replace h := h i91 cn93 S94 ei95 ec95 es95
  have l0 := Nat.lt_of_lt_of_le l0 (hc95 _)
  have hx0 := oX.trans hx0 hc0 hx95
  have hc0 : ∀ k, cn k ≤ cn93 k := fun k => Nat.le_trans (hc0 k) (hc95 k)
  refine V_sh [(0, .ref (ad92 0 0)), (1, .int (a1)), (2, .int (a2))] [.ref (ad92 21 i91), .ref (ad92 0 0)] rfl rfl ?_
  refine V_putra (f := 21) (j := i91) C p_M_56 (fun _ => hnm) l0 li91 (osh_0 _ _ _ _) (fl_0_len _ _ _ 21 (by decide)) (fun a => up_0_21 _ _ _ _ a) d_M_init_129 (fun S96 eS96 => ?_)
  replace h := h S96 eS96
  refine V_aload_n 0 C rfl d_M_init_132 ?_
  refine V_bipush (v := 120) C (by decide) d_M_init_133 ?_
  refine V_newi (k := 23) C (fun z => [(0, .ref (z 0 0)), (1, .int (a1)), (2, .int (a2))]) (fun z => [.ref (z 0 0)]) rfl rfl (fun z hz => ⟨by simp only [hz _ _ l0], by simp only [hz _ _ l0]⟩) w_38 (osh_23 _ _ _ _) (by decide) (by decide) (by decide) (by decide) (by decide) d_M_init_135 (fun i97 ad98 cn99 S100 ei101 ec101 es101 hx101 hc101 li97 => ?_)
  replace h := h i97 cn99 S100 ei101 ec101 es101
  have l0 := Nat.lt_of_lt_of_le l0 (hc101 _)
  have hx0 := oX.trans hx0 hc0 hx101
  have hc0 : ∀ k, cn k ≤ cn99 k := fun k => Nat.le_trans (hc0 k) (hc101 k)
  refine V_sh [(0, .ref (ad98 0 0)), (1, .int (a1)), (2, .int (a2))] [.ref (ad98 23 i97), .ref (ad98 0 0)] rfl rfl ?_
  refine V_putra (f := 23) (j := i97) C p_M_59 (fun _ => hnm) l0 li97 (osh_0 _ _ _ _) (fl_0_len _ _ _ 23 (by decide)) (fun a => up_0_23 _ _ _ _ a) d_M_init_137 (fun S102 eS102 => ?_)
  replace h := h S102 eS102
  refine V_aload_n 0 C rfl d_M_init_140 ?_
  refine V_bipush (v := 120) C (by decide) d_M_init_141 ?_
  refine V_newi (k := 24) C (fun z => [(0, .ref (z 0 0)), (1, .int (a1)), (2, .int (a2))]) (fun z => [.ref (z 0 0)]) rfl rfl (fun z hz => ⟨by simp only [hz _ _ l0], by simp only [hz _ _ l0]⟩) w_38 (osh_24 _ _ _ _) (by decide) (by decide) (by decide) (by decide) (by decide) d_M_init_143 (fun i103 ad104 cn105 S106 ei107 ec107 es107 hx107 hc107 li103 => ?_)
  replace h := h i103 cn105 S106 ei107 ec107 es107
  have l0 := Nat.lt_of_lt_of_le l0 (hc107 _)
  have hx0 := oX.trans hx0 hc0 hx107
  have hc0 : ∀ k, cn k ≤ cn105 k := fun k => Nat.le_trans (hc0 k) (hc107 k)
  refine V_sh [(0, .ref (ad104 0 0)), (1, .int (a1)), (2, .int (a2))] [.ref (ad104 24 i103), .ref (ad104 0 0)] rfl rfl ?_
  refine V_putra (f := 24) (j := i103) C p_M_62 (fun _ => hnm) l0 li103 (osh_0 _ _ _ _) (fl_0_len _ _ _ 24 (by decide)) (fun a => up_0_24 _ _ _ _ a) d_M_init_145 (fun S108 eS108 => ?_)
  replace h := h S108 eS108
  refine V_aload_n 0 C rfl d_M_init_148 ?_
  refine V_bipush (v := 120) C (by decide) d_M_init_149 ?_
  refine V_newi (k := 25) C (fun z => [(0, .ref (z 0 0)), (1, .int (a1)), (2, .int (a2))]) (fun z => [.ref (z 0 0)]) rfl rfl (fun z hz => ⟨by simp only [hz _ _ l0], by simp only [hz _ _ l0]⟩) w_38 (osh_25 _ _ _ _) (by decide) (by decide) (by decide) (by decide) (by decide) d_M_init_151 (fun i109 ad110 cn111 S112 ei113 ec113 es113 hx113 hc113 li109 => ?_)
  replace h := h i109 cn111 S112 ei113 ec113 es113
  have l0 := Nat.lt_of_lt_of_le l0 (hc113 _)
  have hx0 := oX.trans hx0 hc0 hx113
  have hc0 : ∀ k, cn k ≤ cn111 k := fun k => Nat.le_trans (hc0 k) (hc113 k)
  refine V_sh [(0, .ref (ad110 0 0)), (1, .int (a1)), (2, .int (a2))] [.ref (ad110 25 i109), .ref (ad110 0 0)] rfl rfl ?_
  refine V_putra (f := 25) (j := i109) C p_M_65 (fun _ => hnm) l0 li109 (osh_0 _ _ _ _) (fl_0_len _ _ _ 25 (by decide)) (fun a => up_0_25 _ _ _ _ a) d_M_init_153 (fun S114 eS114 => ?_)
  replace h := h S114 eS114
  refine V_aload_n 0 C rfl d_M_init_156 ?_
  refine V_bipush (v := 120) C (by decide) d_M_init_157 ?_
  refine V_newl (k := 26) C (fun z => [(0, .ref (z 0 0)), (1, .int (a1)), (2, .int (a2))]) (fun z => [.ref (z 0 0)]) rfl rfl (fun z hz => ⟨by simp only [hz _ _ l0], by simp only [hz _ _ l0]⟩) w_39 (osh_26 _ _ _ _) (by decide) (by decide) (by decide) (by decide) (by decide) d_M_init_159 (fun i115 ad116 cn117 S118 ei119 ec119 es119 hx119 hc119 li115 => ?_)
  replace h := h i115 cn117 S118 ei119 ec119 es119
  have l0 := Nat.lt_of_lt_of_le l0 (hc119 _)
  have hx0 := oX.trans hx0 hc0 hx119
  have hc0 : ∀ k, cn k ≤ cn117 k := fun k => Nat.le_trans (hc0 k) (hc119 k)
  refine V_sh [(0, .ref (ad116 0 0)), (1, .int (a1)), (2, .int (a2))] [.ref (ad116 26 i115), .ref (ad116 0 0)] rfl rfl ?_
  refine V_putra (f := 26) (j := i115) C p_M_68 (fun _ => hnm) l0 li115 (osh_0 _ _ _ _) (fl_0_len _ _ _ 26 (by decide)) (fun a => up_0_26 _ _ _ _ a) d_M_init_161 (fun S120 eS120 => ?_)
  replace h := h S120 eS120
  refine V_aload_n 0 C rfl d_M_init_164 ?_
  refine V_bipush (v := 120) C (by decide) d_M_init_165 ?_
  refine V_newi (k := 27) C (fun z => [(0, .ref (z 0 0)), (1, .int (a1)), (2, .int (a2))]) (fun z => [.ref (z 0 0)]) rfl rfl (fun z hz => ⟨by simp only [hz _ _ l0], by simp only [hz _ _ l0]⟩) w_38 (osh_27 _ _ _ _) (by decide) (by decide) (by decide) (by decide) (by decide) d_M_init_167 (fun i121 ad122 cn123 S124 ei125 ec125 es125 hx125 hc125 li121 => ?_)
  replace h := h i121 cn123 S124 ei125 ec125 es125
  have l0 := Nat.lt_of_lt_of_le l0 (hc125 _)
  have hx0 := oX.trans hx0 hc0 hx125
  have hc0 : ∀ k, cn k ≤ cn123 k := fun k => Nat.le_trans (hc0 k) (hc125 k)
  refine V_sh [(0, .ref (ad122 0 0)), (1, .int (a1)), (2, .int (a2))] [.ref (ad122 27 i121), .ref (ad122 0 0)] rfl rfl ?_
  refine V_putra (f := 27) (j := i121) C p_M_71 (fun _ => hnm) l0 li121 (osh_0 _ _ _ _) (fl_0_len _ _ _ 27 (by decide)) (fun a => up_0_27 _ _ _ _ a) d_M_init_169 (fun S126 eS126 => ?_)
  replace h := h S126 eS126
  refine V_aload_n 0 C rfl d_M_init_172 ?_
  refine V_bipush (v := 120) C (by decide) d_M_init_173 ?_
  refine V_newl (k := 28) C (fun z => [(0, .ref (z 0 0)), (1, .int (a1)), (2, .int (a2))]) (fun z => [.ref (z 0 0)]) rfl rfl (fun z hz => ⟨by simp only [hz _ _ l0], by simp only [hz _ _ l0]⟩) w_39 (osh_28 _ _ _ _) (by decide) (by decide) (by decide) (by decide) (by decide) d_M_init_175 (fun i127 ad128 cn129 S130 ei131 ec131 es131 hx131 hc131 li127 => ?_)
  replace h := h i127 cn129 S130 ei131 ec131 es131
  have l0 := Nat.lt_of_lt_of_le l0 (hc131 _)
  have hx0 := oX.trans hx0 hc0 hx131
  have hc0 : ∀ k, cn k ≤ cn129 k := fun k => Nat.le_trans (hc0 k) (hc131 k)
  refine V_sh [(0, .ref (ad128 0 0)), (1, .int (a1)), (2, .int (a2))] [.ref (ad128 28 i127), .ref (ad128 0 0)] rfl rfl ?_
  refine V_putra (f := 28) (j := i127) C p_M_74 (fun _ => hnm) l0 li127 (osh_0 _ _ _ _) (fl_0_len _ _ _ 28 (by decide)) (fun a => up_0_28 _ _ _ _ a) d_M_init_177 (fun S132 eS132 => ?_)
  replace h := h S132 eS132
  refine V_aload_n 0 C rfl d_M_init_180 ?_
  refine V_bipush (v := 120) C (by decide) d_M_init_181 ?_
  refine V_newi (k := 29) C (fun z => [(0, .ref (z 0 0)), (1, .int (a1)), (2, .int (a2))]) (fun z => [.ref (z 0 0)]) rfl rfl (fun z hz => ⟨by simp only [hz _ _ l0], by simp only [hz _ _ l0]⟩) w_38 (osh_29 _ _ _ _) (by decide) (by decide) (by decide) (by decide) (by decide) d_M_init_183 (fun i133 ad134 cn135 S136 ei137 ec137 es137 hx137 hc137 li133 => ?_)
  replace h := h i133 cn135 S136 ei137 ec137 es137
  have l0 := Nat.lt_of_lt_of_le l0 (hc137 _)
  have hx0 := oX.trans hx0 hc0 hx137
  have hc0 : ∀ k, cn k ≤ cn135 k := fun k => Nat.le_trans (hc0 k) (hc137 k)
  refine V_sh [(0, .ref (ad134 0 0)), (1, .int (a1)), (2, .int (a2))] [.ref (ad134 29 i133), .ref (ad134 0 0)] rfl rfl ?_
  refine V_putra (f := 29) (j := i133) C p_M_77 (fun _ => hnm) l0 li133 (osh_0 _ _ _ _) (fl_0_len _ _ _ 29 (by decide)) (fun a => up_0_29 _ _ _ _ a) d_M_init_185 (fun S138 eS138 => ?_)
  replace h := h S138 eS138
  refine V_aload_n 0 C rfl d_M_init_188 ?_
  refine V_bipush (v := 120) C (by decide) d_M_init_189 ?_
  refine V_newl (k := 30) C (fun z => [(0, .ref (z 0 0)), (1, .int (a1)), (2, .int (a2))]) (fun z => [.ref (z 0 0)]) rfl rfl (fun z hz => ⟨by simp only [hz _ _ l0], by simp only [hz _ _ l0]⟩) w_39 (osh_30 _ _ _ _) (by decide) (by decide) (by decide) (by decide) (by decide) d_M_init_191 (fun i139 ad140 cn141 S142 ei143 ec143 es143 hx143 hc143 li139 => ?_)
  replace h := h i139 cn141 S142 ei143 ec143 es143
  have l0 := Nat.lt_of_lt_of_le l0 (hc143 _)
  have hx0 := oX.trans hx0 hc0 hx143
  have hc0 : ∀ k, cn k ≤ cn141 k := fun k => Nat.le_trans (hc0 k) (hc143 k)
  refine V_sh [(0, .ref (ad140 0 0)), (1, .int (a1)), (2, .int (a2))] [.ref (ad140 30 i139), .ref (ad140 0 0)] rfl rfl ?_
  refine V_putra (f := 30) (j := i139) C p_M_80 (fun _ => hnm) l0 li139 (osh_0 _ _ _ _) (fl_0_len _ _ _ 30 (by decide)) (fun a => up_0_30 _ _ _ _ a) d_M_init_193 (fun S144 eS144 => ?_)
  replace h := h S144 eS144
  refine V_aload_n 0 C rfl d_M_init_196 ?_
  refine V_bipush (v := 120) C (by decide) d_M_init_197 ?_
  refine V_newl (k := 32) C (fun z => [(0, .ref (z 0 0)), (1, .int (a1)), (2, .int (a2))]) (fun z => [.ref (z 0 0)]) rfl rfl (fun z hz => ⟨by simp only [hz _ _ l0], by simp only [hz _ _ l0]⟩) w_39 (osh_32 _ _ _ _) (by decide) (by decide) (by decide) (by decide) (by decide) d_M_init_199 (fun i145 ad146 cn147 S148 ei149 ec149 es149 hx149 hc149 li145 => ?_)
  replace h := h i145 cn147 S148 ei149 ec149 es149
  have l0 := Nat.lt_of_lt_of_le l0 (hc149 _)
  have hx0 := oX.trans hx0 hc0 hx149
  have hc0 : ∀ k, cn k ≤ cn147 k := fun k => Nat.le_trans (hc0 k) (hc149 k)
  refine V_sh [(0, .ref (ad146 0 0)), (1, .int (a1)), (2, .int (a2))] [.ref (ad146 32 i145), .ref (ad146 0 0)] rfl rfl ?_
  refine V_putra (f := 32) (j := i145) C p_M_83 (fun _ => hnm) l0 li145 (osh_0 _ _ _ _) (fl_0_len _ _ _ 32 (by decide)) (fun a => up_0_32 _ _ _ _ a) d_M_init_201 (fun S150 eS150 => ?_)
  replace h := h S150 eS150
  refine V_aload_n 0 C rfl d_M_init_204 ?_
  refine V_iload_n 1 C rfl d_M_init_205 ?_
  refine V_iconst (v := 1) C (by decide) d_M_init_206 ?_
  refine V_icmp_lt C d_M_init_207 (fun q => ?_) (fun q => ?_)
  · replace h := h.1 q
    refine V_bipush (v := 10) C (by decide) d_M_init_217 ?_
    refine V_goto C d_M_init_219 ?_
    refine V_puti (f := 0) C p_M_86 (fun _ => hnm) l0 (osh_0 _ _ _ _) (fl_0_len _ _ _ 0 (by decide)) (up_0_0 _ _ _ _ _) d_M_init_223 (fun S151 eS151 => ?_)
    replace h := h S151 eS151
    refine V_aload_n 0 C rfl d_M_init_226 ?_
    refine V_iload_n 2 C rfl d_M_init_227 ?_
    refine V_iconst (v := 1) C (by decide) d_M_init_228 ?_
    refine V_icmp_lt C d_M_init_229 (fun q => ?_) (fun q => ?_)
    · replace h := h.1 q
      refine V_sipush (v := 1000) C (by decide) d_M_init_238 ?_
      refine V_goto C d_M_init_241 ?_
      refine V_puti (f := 1) C p_M_91 (fun _ => hnm) l0 (osh_0 _ _ _ _) (fl_0_len _ _ _ 1 (by decide)) (up_0_1 _ _ _ _ _) d_M_init_245 (fun S152 eS152 => ?_)
      replace h := h S152 eS152
      refine V_widen (c1 := 25) (s1 := 1360) (by decide) (by decide) ?_
      exact V_vretn C hr hx0 hc0 d_M_init_248 h
    · replace h := h.2 q
      refine V_iload_n 2 C rfl d_M_init_232 ?_
      refine V_ldc (v := 100000) C w_403 d_M_init_233 ?_
      refine V_icmp_le C d_M_init_235 (fun q => ?_) (fun q => ?_)
      · replace h := h.1 q
        refine V_iload_n 2 C rfl d_M_init_244 ?_
        refine V_puti (f := 1) C p_M_91 (fun _ => hnm) l0 (osh_0 _ _ _ _) (fl_0_len _ _ _ 1 (by decide)) (up_0_1 _ _ _ _ _) d_M_init_245 (fun S153 eS153 => ?_)
        replace h := h S153 eS153
        refine V_widen (c1 := 25) (s1 := 1360) (by decide) (by decide) ?_
        exact V_vretn C hr hx0 hc0 d_M_init_248 h
      · replace h := h.2 q
        refine V_sipush (v := 1000) C (by decide) d_M_init_238 ?_
        refine V_goto C d_M_init_241 ?_
        refine V_puti (f := 1) C p_M_91 (fun _ => hnm) l0 (osh_0 _ _ _ _) (fl_0_len _ _ _ 1 (by decide)) (up_0_1 _ _ _ _ _) d_M_init_245 (fun S154 eS154 => ?_)
        replace h := h S154 eS154
        refine V_widen (c1 := 25) (s1 := 1360) (by decide) (by decide) ?_
        exact V_vretn C hr hx0 hc0 d_M_init_248 h
  · replace h := h.2 q
    refine V_iload_n 1 C rfl d_M_init_210 ?_
    refine V_sipush (v := 1000) C (by decide) d_M_init_211 ?_
    refine V_icmp_le C d_M_init_214 (fun q => ?_) (fun q => ?_)
    · replace h := h.1 q
      refine V_iload_n 1 C rfl d_M_init_222 ?_
      refine V_puti (f := 0) C p_M_86 (fun _ => hnm) l0 (osh_0 _ _ _ _) (fl_0_len _ _ _ 0 (by decide)) (up_0_0 _ _ _ _ _) d_M_init_223 (fun S155 eS155 => ?_)
      replace h := h S155 eS155
      refine V_aload_n 0 C rfl d_M_init_226 ?_
      refine V_iload_n 2 C rfl d_M_init_227 ?_
      refine V_iconst (v := 1) C (by decide) d_M_init_228 ?_
      refine V_icmp_lt C d_M_init_229 (fun q => ?_) (fun q => ?_)
      · replace h := h.1 q
        refine V_sipush (v := 1000) C (by decide) d_M_init_238 ?_
        refine V_goto C d_M_init_241 ?_
        refine V_puti (f := 1) C p_M_91 (fun _ => hnm) l0 (osh_0 _ _ _ _) (fl_0_len _ _ _ 1 (by decide)) (up_0_1 _ _ _ _ _) d_M_init_245 (fun S156 eS156 => ?_)
        replace h := h S156 eS156
        refine V_widen (c1 := 25) (s1 := 1360) (by decide) (by decide) ?_
        exact V_vretn C hr hx0 hc0 d_M_init_248 h
      · replace h := h.2 q
        refine V_iload_n 2 C rfl d_M_init_232 ?_
        refine V_ldc (v := 100000) C w_403 d_M_init_233 ?_
        refine V_icmp_le C d_M_init_235 (fun q => ?_) (fun q => ?_)
        · replace h := h.1 q
          refine V_iload_n 2 C rfl d_M_init_244 ?_
          refine V_puti (f := 1) C p_M_91 (fun _ => hnm) l0 (osh_0 _ _ _ _) (fl_0_len _ _ _ 1 (by decide)) (up_0_1 _ _ _ _ _) d_M_init_245 (fun S157 eS157 => ?_)
          replace h := h S157 eS157
          refine V_widen (c1 := 25) (s1 := 1360) (by decide) (by decide) ?_
          exact V_vretn C hr hx0 hc0 d_M_init_248 h
        · replace h := h.2 q
          refine V_sipush (v := 1000) C (by decide) d_M_init_238 ?_
          refine V_goto C d_M_init_241 ?_
          refine V_puti (f := 1) C p_M_91 (fun _ => hnm) l0 (osh_0 _ _ _ _) (fl_0_len _ _ _ 1 (by decide)) (up_0_1 _ _ _ _ _) d_M_init_245 (fun S158 eS158 => ?_)
          replace h := h S158 eS158
          refine V_widen (c1 := 25) (s1 := 1360) (by decide) (by decide) ?_
          exact V_vretn C hr hx0 hc0 d_M_init_248 h
    · replace h := h.2 q
      refine V_bipush (v := 10) C (by decide) d_M_init_217 ?_
      refine V_goto C d_M_init_219 ?_
      refine V_puti (f := 0) C p_M_86 (fun _ => hnm) l0 (osh_0 _ _ _ _) (fl_0_len _ _ _ 0 (by decide)) (up_0_0 _ _ _ _ _) d_M_init_223 (fun S159 eS159 => ?_)
      replace h := h S159 eS159
      refine V_aload_n 0 C rfl d_M_init_226 ?_
      refine V_iload_n 2 C rfl d_M_init_227 ?_
      refine V_iconst (v := 1) C (by decide) d_M_init_228 ?_
      refine V_icmp_lt C d_M_init_229 (fun q => ?_) (fun q => ?_)
      · replace h := h.1 q
        refine V_sipush (v := 1000) C (by decide) d_M_init_238 ?_
        refine V_goto C d_M_init_241 ?_
        refine V_puti (f := 1) C p_M_91 (fun _ => hnm) l0 (osh_0 _ _ _ _) (fl_0_len _ _ _ 1 (by decide)) (up_0_1 _ _ _ _ _) d_M_init_245 (fun S160 eS160 => ?_)
        replace h := h S160 eS160
        refine V_widen (c1 := 25) (s1 := 1360) (by decide) (by decide) ?_
        exact V_vretn C hr hx0 hc0 d_M_init_248 h
      · replace h := h.2 q
        refine V_iload_n 2 C rfl d_M_init_232 ?_
        refine V_ldc (v := 100000) C w_403 d_M_init_233 ?_
        refine V_icmp_le C d_M_init_235 (fun q => ?_) (fun q => ?_)
        · replace h := h.1 q
          refine V_iload_n 2 C rfl d_M_init_244 ?_
          refine V_puti (f := 1) C p_M_91 (fun _ => hnm) l0 (osh_0 _ _ _ _) (fl_0_len _ _ _ 1 (by decide)) (up_0_1 _ _ _ _ _) d_M_init_245 (fun S161 eS161 => ?_)
          replace h := h S161 eS161
          refine V_widen (c1 := 25) (s1 := 1360) (by decide) (by decide) ?_
          exact V_vretn C hr hx0 hc0 d_M_init_248 h
        · replace h := h.2 q
          refine V_sipush (v := 1000) C (by decide) d_M_init_238 ?_
          refine V_goto C d_M_init_241 ?_
          refine V_puti (f := 1) C p_M_91 (fun _ => hnm) l0 (osh_0 _ _ _ _) (fl_0_len _ _ _ 1 (by decide)) (up_0_1 _ _ _ _ _) d_M_init_245 (fun S162 eS162 => ?_)
          replace h := h S162 eS162
          refine V_widen (c1 := 25) (s1 := 1360) (by decide) (by decide) ?_
          exact V_vretn C hr hx0 hc0 d_M_init_248 h
set_option maxRecDepth 100000 in
set_option maxHeartbeats 4000000 in
theorem ct_M_account (l : Launch) (Γ : oGm) (ad : oAd) (cn : Nat → Nat) (S : oSt) (a1 : Int32) (a2 : Int32) (a3 : Int32) (post : Int32 → oSt → Prop) (l0 : 0 < cn 0) (h : wp_M_account S a1 a2 a3 post) : Met l y_M_account (.code y_M_account prog_8_method_3_code 4 (some .int) :: oWS) { frames := 1, cells := 0, slots := 0, locals := 40 } (va_Pc [.ref (ad 0 0), .int (a1), .int (a2), .int (a3)] (oW Γ ad cn S)) (oQ Γ ad cn vI post) 0 0 (oF Γ) := by
  refine o_met (lv := [(0, .ref (ad 0 0)), (1, .int (a1)), (2, .int (a2)), (3, .int (a3))]) (own := "ValueConnectorModel") (by decide) rfl (Nat.le_of_ble_eq_true rfl) rfl ?_
  intro p e s m args below meth c C hr hnm
  have hR : 1 ≤ ({ frames := 1, cells := 0, slots := 0, locals := 40 } : Room).frames ∧ 40 ≤ ({ frames := 1, cells := 0, slots := 0, locals := 40 } : Room).locals := ⟨Nat.le_refl _, Nat.le_refl _⟩
  unfold wp_M_account at h
  refine V_aload_n 0 C rfl d_M_account_0 ?_
  refine V_get C f_M_94 l0 (osh_0 _ _ _ _) (fl_0_4 _ _ _) d_M_account_1 ?_
  refine V_bipush (v := 8) C (by decide) d_M_account_4 ?_
  refine V_icmp_eq C d_M_account_6 (fun q => ?_) (fun q => ?_)
  · replace h := h.1 q
    refine V_iconst (v := -1) C (by decide) d_M_account_42 ?_
    exact V_iret C hr d_M_account_43 h
  · replace h := h.2 q
    refine V_iload_n 1 C rfl d_M_account_9 ?_
    refine V_ldc (v := -1000000000) C w_508 d_M_account_10 ?_
    refine V_icmp_lt C d_M_account_12 (fun q => ?_) (fun q => ?_)
    · replace h := h.1 q
      refine V_iconst (v := -1) C (by decide) d_M_account_42 ?_
      exact V_iret C hr d_M_account_43 h
    · replace h := h.2 q
      refine V_iload_n 1 C rfl d_M_account_15 ?_
      refine V_if_gt C d_M_account_16 (fun q => ?_) (fun q => ?_)
      · replace h := h.1 q
        refine V_iconst (v := -1) C (by decide) d_M_account_42 ?_
        exact V_iret C hr d_M_account_43 h
      · replace h := h.2 q
        refine V_iload_n 2 C rfl d_M_account_19 ?_
        refine V_iconst (v := 1) C (by decide) d_M_account_20 ?_
        refine V_icmp_lt C d_M_account_21 (fun q => ?_) (fun q => ?_)
        · replace h := h.1 q
          refine V_iconst (v := -1) C (by decide) d_M_account_42 ?_
          exact V_iret C hr d_M_account_43 h
        · replace h := h.2 q
          refine V_iload_n 2 C rfl d_M_account_24 ?_
          refine V_ldc (v := 1000000000) C w_509 d_M_account_25 ?_
          refine V_icmp_gt C d_M_account_27 (fun q => ?_) (fun q => ?_)
          · replace h := h.1 q
            refine V_iconst (v := -1) C (by decide) d_M_account_42 ?_
            exact V_iret C hr d_M_account_43 h
          · replace h := h.2 q
            refine V_iload_n 3 C rfl d_M_account_30 ?_
            refine V_iconst (v := 1) C (by decide) d_M_account_31 ?_
            refine V_icmp_lt C d_M_account_32 (fun q => ?_) (fun q => ?_)
            · replace h := h.1 q
              refine V_iconst (v := -1) C (by decide) d_M_account_42 ?_
              exact V_iret C hr d_M_account_43 h
            · replace h := h.2 q
              refine V_iload_n 3 C rfl d_M_account_35 ?_
              refine V_sipush (v := 10000) C (by decide) d_M_account_36 ?_
              refine V_icmp_le C d_M_account_39 (fun q => ?_) (fun q => ?_)
              · replace h := h.1 q
                refine V_aload_n 0 C rfl d_M_account_44 ?_
                obtain ⟨j1, ej1, h⟩ := h
                refine V_getr (f := 6) C f_M_13 l0 (osh_0 _ _ _ _) (fl_0_6 _ _ _) ej1 d_M_account_45 (fun lj1 => ?_)
                replace lj1 : j1 < cn 6 := lj1
                refine V_sh [(0, .ref (ad 0 0)), (1, .int (a1)), (2, .int (a2)), (3, .int (a3))] [.ref (ad 6 j1)] rfl rfl ?_
                refine V_aload_n 0 C rfl d_M_account_48 ?_
                refine V_get C f_M_94 l0 (osh_0 _ _ _ _) (fl_0_4 _ _ _) d_M_account_49 ?_
                refine V_iload_n 1 C rfl d_M_account_52 ?_
                refine V_iast C lj1 (fun _ => osh_6 _ _ _ _) h.1 d_M_account_53 (fun S2 eS2 => ?_)
                replace h := h.2 S2 eS2
                refine V_aload_n 0 C rfl d_M_account_54 ?_
                obtain ⟨j3, ej3, h⟩ := h
                refine V_getr (f := 7) C f_M_17 l0 (osh_0 _ _ _ _) (fl_0_7 _ _ _) ej3 d_M_account_55 (fun lj3 => ?_)
                replace lj3 : j3 < cn 7 := lj3
                refine V_sh [(0, .ref (ad 0 0)), (1, .int (a1)), (2, .int (a2)), (3, .int (a3))] [.ref (ad 7 j3)] rfl rfl ?_
                refine V_aload_n 0 C rfl d_M_account_58 ?_
                refine V_get C f_M_94 l0 (osh_0 _ _ _ _) (fl_0_4 _ _ _) d_M_account_59 ?_
                refine V_iload_n 2 C rfl d_M_account_62 ?_
                refine V_iast C lj3 (fun _ => osh_7 _ _ _ _) h.1 d_M_account_63 (fun S4 eS4 => ?_)
                replace h := h.2 S4 eS4
                refine V_aload_n 0 C rfl d_M_account_64 ?_
                obtain ⟨j5, ej5, h⟩ := h
                refine V_getr (f := 8) C f_M_20 l0 (osh_0 _ _ _ _) (fl_0_8 _ _ _) ej5 d_M_account_65 (fun lj5 => ?_)
                replace lj5 : j5 < cn 8 := lj5
                refine V_sh [(0, .ref (ad 0 0)), (1, .int (a1)), (2, .int (a2)), (3, .int (a3))] [.ref (ad 8 j5)] rfl rfl ?_
                refine V_aload_n 0 C rfl d_M_account_68 ?_
                refine V_get C f_M_94 l0 (osh_0 _ _ _ _) (fl_0_4 _ _ _) d_M_account_69 ?_
                refine V_iload_n 3 C rfl d_M_account_72 ?_
                refine V_iast C lj5 (fun _ => osh_8 _ _ _ _) h.1 d_M_account_73 (fun S6 eS6 => ?_)
                replace h := h.2 S6 eS6
                refine V_aload_n 0 C rfl d_M_account_74 ?_
                obtain ⟨j7, ej7, h⟩ := h
                refine V_getr (f := 9) C f_M_23 l0 (osh_0 _ _ _ _) (fl_0_9 _ _ _) ej7 d_M_account_75 (fun lj7 => ?_)
                replace lj7 : j7 < cn 9 := lj7
                refine V_sh [(0, .ref (ad 0 0)), (1, .int (a1)), (2, .int (a2)), (3, .int (a3))] [.ref (ad 9 j7)] rfl rfl ?_
                refine V_aload_n 0 C rfl d_M_account_78 ?_
                refine V_get C f_M_94 l0 (osh_0 _ _ _ _) (fl_0_4 _ _ _) d_M_account_79 ?_
                refine V_iconst (v := 0) C (by decide) d_M_account_82 ?_
                refine V_iast C lj7 (fun _ => osh_9 _ _ _ _) h.1 d_M_account_83 (fun S8 eS8 => ?_)
                replace h := h.2 S8 eS8
                refine V_aload_n 0 C rfl d_M_account_84 ?_
                obtain ⟨j9, ej9, h⟩ := h
                refine V_getr (f := 13) C f_M_35 l0 (osh_0 _ _ _ _) (fl_0_13 _ _ _) ej9 d_M_account_85 (fun lj9 => ?_)
                replace lj9 : j9 < cn 13 := lj9
                refine V_sh [(0, .ref (ad 0 0)), (1, .int (a1)), (2, .int (a2)), (3, .int (a3))] [.ref (ad 13 j9)] rfl rfl ?_
                refine V_aload_n 0 C rfl d_M_account_88 ?_
                refine V_get C f_M_94 l0 (osh_0 _ _ _ _) (fl_0_4 _ _ _) d_M_account_89 ?_
                refine V_sipush (v := 1000) C (by decide) d_M_account_92 ?_
                refine V_iast C lj9 (fun _ => osh_13 _ _ _ _) h.1 d_M_account_95 (fun S10 eS10 => ?_)
                replace h := h.2 S10 eS10
                refine V_aload_n 0 C rfl d_M_account_96 ?_
                obtain ⟨j11, ej11, h⟩ := h
                refine V_getr (f := 14) C f_M_38 l0 (osh_0 _ _ _ _) (fl_0_14 _ _ _) ej11 d_M_account_97 (fun lj11 => ?_)
                replace lj11 : j11 < cn 14 := lj11
                refine V_sh [(0, .ref (ad 0 0)), (1, .int (a1)), (2, .int (a2)), (3, .int (a3))] [.ref (ad 14 j11)] rfl rfl ?_
                refine V_aload_n 0 C rfl d_M_account_100 ?_
                refine V_get C f_M_94 l0 (osh_0 _ _ _ _) (fl_0_4 _ _ _) d_M_account_101 ?_
                refine V_bipush (v := 100) C (by decide) d_M_account_104 ?_
                refine V_iast C lj11 (fun _ => osh_14 _ _ _ _) h.1 d_M_account_106 (fun S12 eS12 => ?_)
                replace h := h.2 S12 eS12
                refine V_aload_n 0 C rfl d_M_account_107 ?_
                obtain ⟨j13, ej13, h⟩ := h
                refine V_getr (f := 15) C f_M_41 l0 (osh_0 _ _ _ _) (fl_0_15 _ _ _) ej13 d_M_account_108 (fun lj13 => ?_)
                replace lj13 : j13 < cn 15 := lj13
                refine V_sh [(0, .ref (ad 0 0)), (1, .int (a1)), (2, .int (a2)), (3, .int (a3))] [.ref (ad 15 j13)] rfl rfl ?_
                refine V_aload_n 0 C rfl d_M_account_111 ?_
                refine V_get C f_M_94 l0 (osh_0 _ _ _ _) (fl_0_4 _ _ _) d_M_account_112 ?_
                refine V_ldc (v := 100000) C w_403 d_M_account_115 ?_
                refine V_iast C lj13 (fun _ => osh_15 _ _ _ _) h.1 d_M_account_117 (fun S14 eS14 => ?_)
                replace h := h.2 S14 eS14
                refine V_aload_n 0 C rfl d_M_account_118 ?_
                refine V_dup C rfl d_M_account_119 ?_
                refine V_get C f_M_94 l0 (osh_0 _ _ _ _) (fl_0_4 _ _ _) d_M_account_120 ?_
                refine V_iconst (v := 1) C (by decide) d_M_account_123 ?_
                refine V_iadd C d_M_account_124 ?_
                refine V_puti (f := 4) C p_M_94 (fun z => by cases z) l0 (osh_0 _ _ _ _) (fl_0_len _ _ _ 4 (by decide)) (up_0_4 _ _ _ _ _) d_M_account_125 (fun S15 eS15 => ?_)
                replace h := h S15 eS15
                refine V_aload_n 0 C rfl d_M_account_128 ?_
                refine V_get C f_M_94 l0 (osh_0 _ _ _ _) (fl_0_4 _ _ _) d_M_account_129 ?_
                refine V_iconst (v := 1) C (by decide) d_M_account_132 ?_
                refine V_isub C d_M_account_133 ?_
                exact V_iret C hr d_M_account_134 h
              · replace h := h.2 q
                refine V_iconst (v := -1) C (by decide) d_M_account_42 ?_
                exact V_iret C hr d_M_account_43 h
set_option maxRecDepth 100000 in
set_option maxHeartbeats 4000000 in
theorem ct_M_isAccount (l : Launch) (Γ : oGm) (ad : oAd) (cn : Nat → Nat) (S : oSt) (a1 : Int32) (post : Int32 → oSt → Prop) (l0 : 0 < cn 0) (h : wp_M_isAccount S a1 post) : Met l y_M_isAccount (.code y_M_isAccount prog_8_method_2_code 2 (some .boolean) :: oWS) { frames := 1, cells := 0, slots := 0, locals := 40 } (va_Pc [.ref (ad 0 0), .int (a1)] (oW Γ ad cn S)) (oQ Γ ad cn vI post) 0 0 (oF Γ) := by
  refine o_met (lv := [(0, .ref (ad 0 0)), (1, .int (a1))]) (own := "ValueConnectorModel") (by decide) rfl (Nat.le_of_ble_eq_true rfl) rfl ?_
  intro p e s m args below meth c C hr hnm
  have hR : 1 ≤ ({ frames := 1, cells := 0, slots := 0, locals := 40 } : Room).frames ∧ 40 ≤ ({ frames := 1, cells := 0, slots := 0, locals := 40 } : Room).locals := ⟨Nat.le_refl _, Nat.le_refl _⟩
  unfold wp_M_isAccount at h
  refine V_iload_n 1 C rfl d_M_isAccount_0 ?_
  refine V_if_lt C d_M_isAccount_1 (fun q => ?_) (fun q => ?_)
  · replace h := h.1 q
    refine V_iconst (v := 0) C (by decide) d_M_isAccount_16 ?_
    exact V_zret C hr (by decide) d_M_isAccount_17 h
  · replace h := h.2 q
    refine V_iload_n 1 C rfl d_M_isAccount_4 ?_
    refine V_aload_n 0 C rfl d_M_isAccount_5 ?_
    refine V_get C f_M_94 l0 (osh_0 _ _ _ _) (fl_0_4 _ _ _) d_M_isAccount_6 ?_
    refine V_icmp_ge C d_M_isAccount_9 (fun q => ?_) (fun q => ?_)
    · replace h := h.1 q
      refine V_iconst (v := 0) C (by decide) d_M_isAccount_16 ?_
      exact V_zret C hr (by decide) d_M_isAccount_17 h
    · replace h := h.2 q
      refine V_iconst (v := 1) C (by decide) d_M_isAccount_12 ?_
      refine V_goto C d_M_isAccount_13 ?_
      exact V_zret C hr (by decide) d_M_isAccount_17 h
set_option maxRecDepth 100000 in
set_option maxHeartbeats 4000000 in
theorem ct_M_worth (l : Launch) (Γ : oGm) (ad : oAd) (cn : Nat → Nat) (S : oSt) (a1 : Int32) (a2 : Int32) (post : Int32 → oSt → Prop) (l0 : 0 < cn 0) (h : wp_M_worth S a1 a2 post) : Met l y_M_worth (.code y_M_worth prog_8_method_4_code 3 (some .boolean) :: oWS) { frames := 2, cells := 0, slots := 0, locals := 61 } (va_Pc [.ref (ad 0 0), .int (a1), .int (a2)] (oW Γ ad cn S)) (oQ Γ ad cn vI post) 0 0 (oF Γ) := by
  refine o_met (lv := [(0, .ref (ad 0 0)), (1, .int (a1)), (2, .int (a2))]) (own := "ValueConnectorModel") (by decide) rfl (Nat.le_of_ble_eq_true rfl) rfl ?_
  intro p e s m args below meth c C hr hnm
  have hR : 2 ≤ ({ frames := 2, cells := 0, slots := 0, locals := 61 } : Room).frames ∧ 61 ≤ ({ frames := 2, cells := 0, slots := 0, locals := 61 } : Room).locals := ⟨Nat.le_refl _, Nat.le_refl _⟩
  unfold wp_M_worth at h
  refine V_aload_n 0 C rfl d_M_worth_0 ?_
  refine V_iload_n 1 C rfl d_M_worth_1 ?_
  refine V_cV (As := [.int (a1)]) (rest := []) C k_M_99 l0 (osh_0 _ _ _ _) (ct_M_isAccount l Γ ad cn S (a1) _ l0 h) ⟨rfl, rfl⟩ ⟨Nat.le_trans (by decide) hR.1, Nat.le_trans (by decide) hR.2⟩ ⟨Nat.zero_le _, Nat.zero_le _⟩ rfl rfl (Nat.le_of_ble_eq_true rfl) d_M_worth_2 (fun r1 S2 h => ?_)
  refine V_sh [(0, .ref (ad 0 0)), (1, .int (a1)), (2, .int (a2))] [.int (r1)] rfl rfl ?_
  refine V_if_eq C d_M_worth_5 (fun q => ?_) (fun q => ?_)
  · replace h := h.1 q
    refine V_iconst (v := 0) C (by decide) d_M_worth_20 ?_
    exact V_zret C hr (by decide) d_M_worth_21 h
  · replace h := h.2 q
    refine V_iload_n 2 C rfl d_M_worth_8 ?_
    refine V_iconst (v := 1) C (by decide) d_M_worth_9 ?_
    refine V_icmp_lt C d_M_worth_10 (fun q => ?_) (fun q => ?_)
    · replace h := h.1 q
      refine V_iconst (v := 0) C (by decide) d_M_worth_20 ?_
      exact V_zret C hr (by decide) d_M_worth_21 h
    · replace h := h.2 q
      refine V_iload_n 2 C rfl d_M_worth_13 ?_
      refine V_sipush (v := 10000) C (by decide) d_M_worth_14 ?_
      refine V_icmp_le C d_M_worth_17 (fun q => ?_) (fun q => ?_)
      · replace h := h.1 q
        refine V_aload_n 0 C rfl d_M_worth_22 ?_
        obtain ⟨j3, ej3, h⟩ := h
        refine V_getr (f := 8) C f_M_20 l0 (osh_0 _ _ _ _) (fl_0_8 _ _ _) ej3 d_M_worth_23 (fun lj3 => ?_)
        replace lj3 : j3 < cn 8 := lj3
        refine V_sh [(0, .ref (ad 0 0)), (1, .int (a1)), (2, .int (a2))] [.ref (ad 8 j3)] rfl rfl ?_
        refine V_iload_n 1 C rfl d_M_worth_26 ?_
        refine V_iload_n 2 C rfl d_M_worth_27 ?_
        refine V_iast C lj3 (fun _ => osh_8 _ _ _ _) h.1 d_M_worth_28 (fun S4 eS4 => ?_)
        replace h := h.2 S4 eS4
        refine V_iconst (v := 1) C (by decide) d_M_worth_29 ?_
        exact V_zret C hr (by decide) d_M_worth_30 h
      · replace h := h.2 q
        refine V_iconst (v := 0) C (by decide) d_M_worth_20 ?_
        exact V_zret C hr (by decide) d_M_worth_21 h
set_option maxRecDepth 100000 in
set_option maxHeartbeats 4000000 in
theorem ct_M_spread (l : Launch) (Γ : oGm) (ad : oAd) (cn : Nat → Nat) (S : oSt) (a1 : Int32) (post : Int32 → oSt → Prop) (l0 : 0 < cn 0) (h : wp_M_spread S a1 post) : Met l y_M_spread (.code y_M_spread prog_8_method_5_code 2 (some .boolean) :: oWS) { frames := 1, cells := 0, slots := 0, locals := 40 } (va_Pc [.ref (ad 0 0), .int (a1)] (oW Γ ad cn S)) (oQ Γ ad cn vI post) 0 0 (oF Γ) := by
  refine o_met (lv := [(0, .ref (ad 0 0)), (1, .int (a1))]) (own := "ValueConnectorModel") (by decide) rfl (Nat.le_of_ble_eq_true rfl) rfl ?_
  intro p e s m args below meth c C hr hnm
  have hR : 1 ≤ ({ frames := 1, cells := 0, slots := 0, locals := 40 } : Room).frames ∧ 40 ≤ ({ frames := 1, cells := 0, slots := 0, locals := 40 } : Room).locals := ⟨Nat.le_refl _, Nat.le_refl _⟩
  unfold wp_M_spread at h
  refine V_iload_n 1 C rfl d_M_spread_0 ?_
  refine V_if_lt C d_M_spread_1 (fun q => ?_) (fun q => ?_)
  · replace h := h.1 q
    refine V_iconst (v := 0) C (by decide) d_M_spread_11 ?_
    exact V_zret C hr (by decide) d_M_spread_12 h
  · replace h := h.2 q
    refine V_iload_n 1 C rfl d_M_spread_4 ?_
    refine V_sipush (v := 999) C (by decide) d_M_spread_5 ?_
    refine V_icmp_le C d_M_spread_8 (fun q => ?_) (fun q => ?_)
    · replace h := h.1 q
      refine V_aload_n 0 C rfl d_M_spread_13 ?_
      refine V_iload_n 1 C rfl d_M_spread_14 ?_
      refine V_puti (f := 3) C p_M_103 (fun z => by cases z) l0 (osh_0 _ _ _ _) (fl_0_len _ _ _ 3 (by decide)) (up_0_3 _ _ _ _ _) d_M_spread_15 (fun S1 eS1 => ?_)
      replace h := h S1 eS1
      refine V_iconst (v := 1) C (by decide) d_M_spread_18 ?_
      exact V_zret C hr (by decide) d_M_spread_19 h
    · replace h := h.2 q
      refine V_iconst (v := 0) C (by decide) d_M_spread_11 ?_
      exact V_zret C hr (by decide) d_M_spread_12 h
set_option maxRecDepth 100000 in
set_option maxHeartbeats 4000000 in
theorem ct_M_policy (l : Launch) (Γ : oGm) (ad : oAd) (cn : Nat → Nat) (S : oSt) (a1 : Int32) (a2 : Int32) (a3 : Int32) (a4 : Int32) (post : Int32 → oSt → Prop) (l0 : 0 < cn 0) (h : wp_M_policy S a1 a2 a3 a4 post) : Met l y_M_policy (.code y_M_policy prog_8_method_6_code 5 (some .boolean) :: oWS) { frames := 2, cells := 0, slots := 0, locals := 61 } (va_Pc [.ref (ad 0 0), .int (a1), .int (a2), .int (a3), .int (a4)] (oW Γ ad cn S)) (oQ Γ ad cn vI post) 0 0 (oF Γ) := by
  refine o_met (lv := [(0, .ref (ad 0 0)), (1, .int (a1)), (2, .int (a2)), (3, .int (a3)), (4, .int (a4))]) (own := "ValueConnectorModel") (by decide) rfl (Nat.le_of_ble_eq_true rfl) rfl ?_
  intro p e s m args below meth c C hr hnm
  have hR : 2 ≤ ({ frames := 2, cells := 0, slots := 0, locals := 61 } : Room).frames ∧ 61 ≤ ({ frames := 2, cells := 0, slots := 0, locals := 61 } : Room).locals := ⟨Nat.le_refl _, Nat.le_refl _⟩
  unfold wp_M_policy at h
  refine V_aload_n 0 C rfl d_M_policy_0 ?_
  refine V_iload_n 1 C rfl d_M_policy_1 ?_
  refine V_cV (As := [.int (a1)]) (rest := []) C k_M_99 l0 (osh_0 _ _ _ _) (ct_M_isAccount l Γ ad cn S (a1) _ l0 h) ⟨rfl, rfl⟩ ⟨Nat.le_trans (by decide) hR.1, Nat.le_trans (by decide) hR.2⟩ ⟨Nat.zero_le _, Nat.zero_le _⟩ rfl rfl (Nat.le_of_ble_eq_true rfl) d_M_policy_2 (fun r1 S2 h => ?_)
  refine V_sh [(0, .ref (ad 0 0)), (1, .int (a1)), (2, .int (a2)), (3, .int (a3)), (4, .int (a4))] [.int (r1)] rfl rfl ?_
  refine V_if_eq C d_M_policy_5 (fun q => ?_) (fun q => ?_)
  · replace h := h.1 q
    refine V_iconst (v := 0) C (by decide) d_M_policy_45 ?_
    exact V_zret C hr (by decide) d_M_policy_46 h
  · replace h := h.2 q
    refine V_iload_n 2 C rfl d_M_policy_8 ?_
    refine V_iconst (v := 1) C (by decide) d_M_policy_9 ?_
    refine V_icmp_lt C d_M_policy_10 (fun q => ?_) (fun q => ?_)
    · replace h := h.1 q
      refine V_iconst (v := 0) C (by decide) d_M_policy_45 ?_
      exact V_zret C hr (by decide) d_M_policy_46 h
    · replace h := h.2 q
      refine V_iload_n 2 C rfl d_M_policy_13 ?_
      refine V_ldc (v := 1000000000) C w_509 d_M_policy_14 ?_
      refine V_icmp_gt C d_M_policy_16 (fun q => ?_) (fun q => ?_)
      · replace h := h.1 q
        refine V_iconst (v := 0) C (by decide) d_M_policy_45 ?_
        exact V_zret C hr (by decide) d_M_policy_46 h
      · replace h := h.2 q
        refine V_iload_n 3 C rfl d_M_policy_19 ?_
        refine V_aload_n 0 C rfl d_M_policy_20 ?_
        obtain ⟨j3, ej3, h⟩ := h
        refine V_getr (f := 6) C f_M_13 l0 (osh_0 _ _ _ _) (fl_0_6 _ _ _) ej3 d_M_policy_21 (fun lj3 => ?_)
        replace lj3 : j3 < cn 6 := lj3
        refine V_sh [(0, .ref (ad 0 0)), (1, .int (a1)), (2, .int (a2)), (3, .int (a3)), (4, .int (a4))] [.ref (ad 6 j3), .int (a3)] rfl rfl ?_
        refine V_iload_n 1 C rfl d_M_policy_24 ?_
        refine V_iald C lj3 (osh_6 _ _ _ _) h.1 d_M_policy_25 ?_
        replace h := h.2
        refine V_icmp_lt C d_M_policy_26 (fun q => ?_) (fun q => ?_)
        · replace h := h.1 q
          refine V_iconst (v := 0) C (by decide) d_M_policy_45 ?_
          exact V_zret C hr (by decide) d_M_policy_46 h
        · replace h := h.2 q
          refine V_iload_n 3 C rfl d_M_policy_29 ?_
          refine V_iload_n 2 C rfl d_M_policy_30 ?_
          refine V_icmp_ge C d_M_policy_31 (fun q => ?_) (fun q => ?_)
          · replace h := h.1 q
            refine V_iconst (v := 0) C (by decide) d_M_policy_45 ?_
            exact V_zret C hr (by decide) d_M_policy_46 h
          · replace h := h.2 q
            refine V_iload 4 C rfl d_M_policy_34 ?_
            refine V_if_lt C d_M_policy_36 (fun q => ?_) (fun q => ?_)
            · replace h := h.1 q
              refine V_iconst (v := 0) C (by decide) d_M_policy_45 ?_
              exact V_zret C hr (by decide) d_M_policy_46 h
            · replace h := h.2 q
              refine V_iload 4 C rfl d_M_policy_39 ?_
              refine V_iconst (v := 3) C (by decide) d_M_policy_41 ?_
              refine V_icmp_le C d_M_policy_42 (fun q => ?_) (fun q => ?_)
              · replace h := h.1 q
                refine V_aload_n 0 C rfl d_M_policy_47 ?_
                obtain ⟨j4, ej4, h⟩ := h
                refine V_getr (f := 9) C f_M_23 l0 (osh_0 _ _ _ _) (fl_0_9 _ _ _) ej4 d_M_policy_48 (fun lj4 => ?_)
                replace lj4 : j4 < cn 9 := lj4
                refine V_sh [(0, .ref (ad 0 0)), (1, .int (a1)), (2, .int (a2)), (3, .int (a3)), (4, .int (a4))] [.ref (ad 9 j4)] rfl rfl ?_
                refine V_iload_n 1 C rfl d_M_policy_51 ?_
                refine V_iload_n 2 C rfl d_M_policy_52 ?_
                refine V_iast C lj4 (fun _ => osh_9 _ _ _ _) h.1 d_M_policy_53 (fun S5 eS5 => ?_)
                replace h := h.2 S5 eS5
                refine V_aload_n 0 C rfl d_M_policy_54 ?_
                obtain ⟨j6, ej6, h⟩ := h
                refine V_getr (f := 10) C f_M_26 l0 (osh_0 _ _ _ _) (fl_0_10 _ _ _) ej6 d_M_policy_55 (fun lj6 => ?_)
                replace lj6 : j6 < cn 10 := lj6
                refine V_sh [(0, .ref (ad 0 0)), (1, .int (a1)), (2, .int (a2)), (3, .int (a3)), (4, .int (a4))] [.ref (ad 10 j6)] rfl rfl ?_
                refine V_iload_n 1 C rfl d_M_policy_58 ?_
                refine V_iload_n 3 C rfl d_M_policy_59 ?_
                refine V_iast C lj6 (fun _ => osh_10 _ _ _ _) h.1 d_M_policy_60 (fun S7 eS7 => ?_)
                replace h := h.2 S7 eS7
                refine V_aload_n 0 C rfl d_M_policy_61 ?_
                obtain ⟨j8, ej8, h⟩ := h
                refine V_getr (f := 11) C f_M_29 l0 (osh_0 _ _ _ _) (fl_0_11 _ _ _) ej8 d_M_policy_62 (fun lj8 => ?_)
                replace lj8 : j8 < cn 11 := lj8
                refine V_sh [(0, .ref (ad 0 0)), (1, .int (a1)), (2, .int (a2)), (3, .int (a3)), (4, .int (a4))] [.ref (ad 11 j8)] rfl rfl ?_
                refine V_iload_n 1 C rfl d_M_policy_65 ?_
                refine V_iload 4 C rfl d_M_policy_66 ?_
                refine V_iast C lj8 (fun _ => osh_11 _ _ _ _) h.1 d_M_policy_68 (fun S9 eS9 => ?_)
                replace h := h.2 S9 eS9
                refine V_iconst (v := 1) C (by decide) d_M_policy_69 ?_
                exact V_zret C hr (by decide) d_M_policy_70 h
              · replace h := h.2 q
                refine V_iconst (v := 0) C (by decide) d_M_policy_45 ?_
                exact V_zret C hr (by decide) d_M_policy_46 h
