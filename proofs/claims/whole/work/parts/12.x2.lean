set_option maxRecDepth 100000 in
set_option maxHeartbeats 4000000 in
theorem ct_X_converted (l : Launch) (Γ : oGm) (ad : oAd) (cn : Nat → Nat) (S : oSt) (a1 : Int32) (a2 : Int32) (a3 : Int32) (post : Int64 → oSt → Prop) (l0 : 0 < cn 40) (h : wp_X_converted S a1 a2 a3 post) : Met l y_X_converted (.code y_X_converted prog_1_method_25_code 4 (some .long) :: oWS) { frames := 1, cells := 0, slots := 0, locals := 40 } (va_Pc [.ref (ad 40 0), .int (a1), .int (a2), .int (a3)] (oW Γ ad cn S)) (oQ Γ ad cn vJ post) 0 0 (oF Γ) := by
  refine o_met (lv := [(0, .ref (ad 40 0)), (1, .int (a1)), (2, .int (a2)), (3, .int (a3))]) (own := "ValueConnector") (by decide) rfl (Nat.le_of_ble_eq_true rfl) rfl ?_
  intro p e s m args below meth c C hr hnm
  have hR : 1 ≤ ({ frames := 1, cells := 0, slots := 0, locals := 40 } : Room).frames ∧ 40 ≤ ({ frames := 1, cells := 0, slots := 0, locals := 40 } : Room).locals := ⟨Nat.le_refl _, Nat.le_refl _⟩
  unfold wp_X_converted at h
  refine V_iload_n 1 C rfl d_X_converted_0 ?_
  refine V_i2l C d_X_converted_1 ?_
  refine V_iload_n 2 C rfl d_X_converted_2 ?_
  refine V_i2l C d_X_converted_3 ?_
  refine V_lmul C d_X_converted_4 ?_
  refine V_sipush (v := 1000) C (by decide) d_X_converted_5 ?_
  refine V_aload_n 0 C rfl d_X_converted_8 ?_
  refine V_get C f_X_42 l0 (osh_40 _ _ _ _) (fl_40_9 _ _ _) d_X_converted_9 ?_
  refine V_isub C d_X_converted_12 ?_
  refine V_i2l C d_X_converted_13 ?_
  refine V_lmul C d_X_converted_14 ?_
  refine V_ldc2 (v := 1000) C w_263 d_X_converted_15 ?_
  refine V_iload_n 3 C rfl d_X_converted_18 ?_
  refine V_i2l C d_X_converted_19 ?_
  refine V_lmul C d_X_converted_20 ?_
  refine V_ldiv C h.1 d_X_converted_21 ?_
  replace h := h.2
  exact V_lret C hr d_X_converted_22 h
set_option maxRecDepth 100000 in
set_option maxHeartbeats 4000000 in
theorem ct_T_init (l : Launch) (Γ : oGm) (ad : oAd) (cn : Nat → Nat) (S : oSt) (i0 : Nat) (a1 : Nat) (a2 : Nat) (a3 : Int32) (a4 : Int64) (a6 : Int64) (a8 : Int64) (post : Unit → oSt → Prop) (l0 : i0 < cn 52) (l1 : a1 < cn 48) (l2 : a2 < cn 48) (h : wp_T_init S i0 a1 a2 a3 a4 a6 a8 post) : Met l y_T_init (.code y_T_init prog_6_method_1_code 10 none :: oWS) { frames := 1, cells := 0, slots := 0, locals := 40 } (va_Pc [.ref (ad 52 i0), .ref (ad 48 a1), .ref (ad 48 a2), .int (a3), .long (a4), .long (a6), .long (a8)] (oW Γ ad cn S)) (oQ Γ ad cn vU post) 0 0 (oF Γ) := by
  refine o_met (lv := [(0, .ref (ad 52 i0)), (1, .ref (ad 48 a1)), (2, .ref (ad 48 a2)), (3, .int (a3)), (4, .long (a4)), (6, .long (a6)), (8, .long (a8))]) (own := "ValueConnector$Transfer") (by decide) rfl (Nat.le_of_ble_eq_true rfl) rfl ?_
  intro p e s m args below meth c C hr hnm
  have hR : 1 ≤ ({ frames := 1, cells := 0, slots := 0, locals := 40 } : Room).frames ∧ 40 ≤ ({ frames := 1, cells := 0, slots := 0, locals := 40 } : Room).locals := ⟨Nat.le_refl _, Nat.le_refl _⟩
  unfold wp_T_init at h
  refine V_aload_n 0 C rfl d_T_init_0 ?_
  refine V_objInit C w_268 w_15 w_16 ⟨Nat.le_trans (by decide) hR.1, Nat.le_trans (by decide) hR.2⟩ (Nat.le_of_ble_eq_true rfl) d_T_init_1 ?_
  refine V_aload_n 0 C rfl d_T_init_4 ?_
  refine V_iconst (v := 0) C (by decide) d_T_init_5 ?_
  refine V_puti (f := 6) C p_T_9 (fun z => by cases z) l0 (osh_52 _ _ _ _) (fl_52_len _ _ _ 6 (by decide)) (up_52_6 _ _ _ _ _) d_T_init_6 (fun S1 eS1 => ?_)
  replace h := h S1 eS1
  refine V_aload_n 0 C rfl d_T_init_9 ?_
  refine V_lconst (v := 0) C (by decide) d_T_init_10 ?_
  refine V_putl (f := 7) C p_T_15 (fun z => by cases z) l0 (osh_52 _ _ _ _) (fl_52_len _ _ _ 7 (by decide)) (up_52_7 _ _ _ _ _) d_T_init_11 (fun S2 eS2 => ?_)
  replace h := h S2 eS2
  refine V_aload_n 0 C rfl d_T_init_14 ?_
  refine V_aload_n 1 C rfl d_T_init_15 ?_
  refine V_putr (f := 0) (j := a1) C p_T_19 (fun _ => hnm) l0 l1 (osh_52 _ _ _ _) (fl_52_len _ _ _ 0 (by decide)) (fun a => up_52_0 _ _ _ _ a) d_T_init_16 (fun S3 eS3 => ?_)
  replace h := h S3 eS3
  refine V_aload_n 0 C rfl d_T_init_19 ?_
  refine V_aload_n 2 C rfl d_T_init_20 ?_
  refine V_putr (f := 1) (j := a2) C p_T_23 (fun _ => hnm) l0 l2 (osh_52 _ _ _ _) (fl_52_len _ _ _ 1 (by decide)) (fun a => up_52_1 _ _ _ _ a) d_T_init_21 (fun S4 eS4 => ?_)
  replace h := h S4 eS4
  refine V_aload_n 0 C rfl d_T_init_24 ?_
  refine V_iload_n 3 C rfl d_T_init_25 ?_
  refine V_puti (f := 2) C p_T_26 (fun _ => hnm) l0 (osh_52 _ _ _ _) (fl_52_len _ _ _ 2 (by decide)) (up_52_2 _ _ _ _ _) d_T_init_26 (fun S5 eS5 => ?_)
  replace h := h S5 eS5
  refine V_aload_n 0 C rfl d_T_init_29 ?_
  refine V_lload 4 C rfl d_T_init_30 ?_
  refine V_putl (f := 3) C p_T_29 (fun _ => hnm) l0 (osh_52 _ _ _ _) (fl_52_len _ _ _ 3 (by decide)) (up_52_3 _ _ _ _ _) d_T_init_32 (fun S6 eS6 => ?_)
  replace h := h S6 eS6
  refine V_aload_n 0 C rfl d_T_init_35 ?_
  refine V_lload 5 C rfl d_T_init_36 ?_
  refine V_putl (f := 4) C p_T_32 (fun _ => hnm) l0 (osh_52 _ _ _ _) (fl_52_len _ _ _ 4 (by decide)) (up_52_4 _ _ _ _ _) d_T_init_38 (fun S7 eS7 => ?_)
  replace h := h S7 eS7
  refine V_aload_n 0 C rfl d_T_init_41 ?_
  refine V_lload 6 C rfl d_T_init_42 ?_
  refine V_putl (f := 5) C p_T_35 (fun _ => hnm) l0 (osh_52 _ _ _ _) (fl_52_len _ _ _ 5 (by decide)) (up_52_5 _ _ _ _ _) d_T_init_44 (fun S8 eS8 => ?_)
  replace h := h S8 eS8
  exact V_vret C hr d_T_init_47 h
set_option maxRecDepth 100000 in
set_option maxHeartbeats 4000000 in
theorem ct_X_keep (l : Launch) (Γ : oGm) (ad : oAd) (cn : Nat → Nat) (S : oSt) (a1 : Nat) (post : Int32 → oSt → Prop) (l0 : 0 < cn 40) (l1 : a1 < cn 52) (h : wp_X_keep S a1 post) : Met l y_X_keep (.code y_X_keep prog_1_method_24_code 3 (some .int) :: oWS) { frames := 1, cells := 0, slots := 0, locals := 40 } (va_Pc [.ref (ad 40 0), .ref (ad 52 a1)] (oW Γ ad cn S)) (oQ Γ ad cn vI post) 0 0 (oF Γ) := by
  refine o_met (lv := [(0, .ref (ad 40 0)), (1, .ref (ad 52 a1))]) (own := "ValueConnector") (by decide) rfl (Nat.le_of_ble_eq_true rfl) rfl ?_
  intro p e s m args below meth c C hr hnm
  have hR : 1 ≤ ({ frames := 1, cells := 0, slots := 0, locals := 40 } : Room).frames ∧ 40 ≤ ({ frames := 1, cells := 0, slots := 0, locals := 40 } : Room).locals := ⟨Nat.le_refl _, Nat.le_refl _⟩
  unfold wp_X_keep at h
  refine V_aload_n 0 C rfl d_X_keep_0 ?_
  refine V_get C f_X_36 l0 (osh_40 _ _ _ _) (fl_40_7 _ _ _) d_X_keep_1 ?_
  refine V_istore_n C [(2, .int ((S.1 40 0 7))), (0, .ref (ad 40 0)), (1, .ref (ad 52 a1))] (by decide) rfl d_X_keep_4 ?_
  refine V_aload_n 1 C rfl d_X_keep_5 ?_
  obtain ⟨j1, ej1, h⟩ := h
  refine V_getr (f := 4) C f_X_24 l0 (osh_40 _ _ _ _) (fl_40_4 _ _ _) ej1 d_X_keep_6 (fun lj1 => ?_)
  replace lj1 : j1 < cn 43 := lj1
  refine V_sh [(2, .int ((S.1 40 0 7))), (0, .ref (ad 40 0)), (1, .ref (ad 52 a1))] [.ref (ad 43 j1)] rfl rfl ?_
  refine V_iload_n 0 C rfl d_X_keep_9 ?_
  refine V_aload_n 2 C rfl d_X_keep_10 ?_
  refine V_aast (j := a1) (t0 := 3) C lj1 l1 (fun _ => osh_43 _ _ _ _) (osh_52 _ _ _ _) rfl rfl h.1 d_X_keep_11 (fun S2 eS2 => ?_)
  replace h := h.2 S2 eS2
  refine V_aload_n 1 C rfl d_X_keep_12 ?_
  refine V_dup C rfl d_X_keep_13 ?_
  refine V_get C f_X_36 l0 (osh_40 _ _ _ _) (fl_40_7 _ _ _) d_X_keep_14 ?_
  refine V_iconst (v := 1) C (by decide) d_X_keep_17 ?_
  refine V_iadd C d_X_keep_18 ?_
  refine V_puti (f := 7) C p_X_36 (fun z => by cases z) l0 (osh_40 _ _ _ _) (fl_40_len _ _ _ 7 (by decide)) (up_40_7 _ _ _ _ _) d_X_keep_19 (fun S3 eS3 => ?_)
  replace h := h S3 eS3
  refine V_iload_n 0 C rfl d_X_keep_22 ?_
  exact V_iret C hr d_X_keep_23 h
set_option maxRecDepth 100000 in
set_option maxHeartbeats 4000000 in
theorem ct_X_prepare (l : Launch) (Γ : oGm) (ad : oAd) (cn : Nat → Nat) (S : oSt) (a1 : Int32) (a2 : Int64) (a4 : Int32) (a5 : Int32) (a6 : Int64) (post : Int32 → (Nat → Nat) → oSt → Prop) (l0 : 0 < cn 40) (h : wp_X_prepare cn S a1 a2 a4 a5 a6 post) : Met l y_X_prepare (.code y_X_prepare prog_1_method_10_code 14 (some .int) :: oWS) { frames := 4, cells := 1, slots := 8, locals := 110 } (va_Pc [.ref (ad 40 0), .int (a1), .long (a2), .int (a4), .int (a5), .long (a6)] (oW Γ ad cn S)) (oQn Γ ad cn (fun _ => vI) post) 1 8 (oF Γ) := by
  refine o_met (lv := [(0, .ref (ad 40 0)), (1, .int (a1)), (2, .long (a2)), (4, .int (a4)), (5, .int (a5)), (6, .long (a6))]) (own := "ValueConnector") (by decide) rfl (Nat.le_of_ble_eq_true rfl) rfl ?_
  intro p e s m args below meth c C hr hnm
  have hR : 4 ≤ ({ frames := 4, cells := 1, slots := 8, locals := 110 } : Room).frames ∧ 110 ≤ ({ frames := 4, cells := 1, slots := 8, locals := 110 } : Room).locals := ⟨Nat.le_refl _, Nat.le_refl _⟩
  have hx0 : oX cn ad ad := fun _ _ _ => rfl
  have hc0 : ∀ k, cn k ≤ cn k := fun _ => Nat.le_refl _
  unfold wp_X_prepare at h
  refine V_aload_n 0 C rfl d_X_prepare_0 ?_
  refine V_iload_n 1 C rfl d_X_prepare_1 ?_
  refine V_cV (As := [.int (a1)]) (rest := []) C k_X_65 l0 (osh_40 _ _ _ _) (ct_X_accountNumbered l Γ ad cn S (a1) _ l0 h) ⟨rfl, rfl⟩ ⟨Nat.le_trans (by decide) hR.1, Nat.le_trans (by decide) hR.2⟩ ⟨by decide, by decide⟩ rfl rfl (Nat.le_of_ble_eq_true rfl) d_X_prepare_2 (fun r1 S2 h => ?_)
  obtain ⟨lr1, h⟩ := h
  refine V_sh [(0, .ref (ad 40 0)), (1, .int (a1)), (2, .long (a2)), (4, .int (a4)), (5, .int (a5)), (6, .long (a6))] [rv ad 48 r1] rfl rfl ?_
  refine V_ostore (kd := 48) (o := r1) C [(8, rv ad 48 r1), (0, .ref (ad 40 0)), (1, .int (a1)), (2, .long (a2)), (4, .int (a4)), (5, .int (a5)), (6, .long (a6))] (by decide) rfl d_X_prepare_5 ?_
  refine V_oload (kd := 48) (o := r1) 0 C rfl d_X_prepare_7 ?_
  refine V_ifnonnull (kd := 48) (o := r1) C d_X_prepare_9 (fun j3 q => ?_) (fun q => ?_)
  · replace h := h.2 j3 q
    subst q
    have lj3 := lr1 j3 rfl
    refine V_sh [(8, .ref (ad 48 j3)), (0, .ref (ad 40 0)), (1, .int (a1)), (2, .long (a2)), (4, .int (a4)), (5, .int (a5)), (6, .long (a6))] [] rfl rfl ?_
    refine V_lload_n 3 C rfl d_X_prepare_14 ?_
    refine V_cS (As := [.long (a2)]) (rest := []) C k_X_110 (ct_X_isAddress l Γ ad cn S2 (a2) _  h) ⟨rfl, rfl⟩ ⟨Nat.le_trans (by decide) hR.1, Nat.le_trans (by decide) hR.2⟩ ⟨by decide, by decide⟩ rfl rfl (Nat.le_of_ble_eq_true rfl) d_X_prepare_15 (fun r4 S5 h => ?_)
    refine V_sh [(8, .ref (ad 48 j3)), (0, .ref (ad 40 0)), (1, .int (a1)), (2, .long (a2)), (4, .int (a4)), (5, .int (a5)), (6, .long (a6))] [.int (r4)] rfl rfl ?_
    refine V_if_eq C d_X_prepare_18 (fun q => ?_) (fun q => ?_)
    · replace h := h.1 q
      refine V_bipush (v := -2) C (by decide) d_X_prepare_26 ?_
      refine V_widen (c1 := 1) (s1 := 8) (by decide) (by decide) ?_
      exact V_iretn C hr hx0 hc0 d_X_prepare_28 h
    · replace h := h.2 q
      refine V_iload 4 C rfl d_X_prepare_21 ?_
      refine V_if_ge C d_X_prepare_23 (fun q => ?_) (fun q => ?_)
      · replace h := h.1 q
        refine V_aload_n 1 C rfl d_X_prepare_29 ?_
        refine V_get C f_X_36 l0 (osh_40 _ _ _ _) (fl_40_7 _ _ _) d_X_prepare_30 ?_
        refine V_bipush (v := 120) C (by decide) d_X_prepare_33 ?_
        refine V_icmp_lt C d_X_prepare_35 (fun q => ?_) (fun q => ?_)
        · replace h := h.1 q
          refine V_iload 5 C rfl d_X_prepare_41 ?_
          refine V_i2l C d_X_prepare_43 ?_
          refine V_aload_n 1 C rfl d_X_prepare_44 ?_
          refine V_get C f_X_45 l0 (osh_40 _ _ _ _) (fl_40_10 _ _ _) d_X_prepare_45 ?_
          refine V_lcmp C d_X_prepare_48 ?_
          refine V_if_gt C d_X_prepare_49 (fun q => ?_) (fun q => ?_)
          · replace h := h.1 q
            refine V_iload 4 C rfl d_X_prepare_55 ?_
            refine V_aload 0 C rfl d_X_prepare_57 ?_
            refine V_get C f_X_117 lj3 (osh_48 _ _ _ _) (fl_48_2 _ _ _) d_X_prepare_59 ?_
            refine V_icmp_le C d_X_prepare_62 (fun q => ?_) (fun q => ?_)
            · replace h := h.1 q
              refine V_aload 0 C rfl d_X_prepare_68 ?_
              obtain ⟨j6, ej6, h⟩ := h
              refine V_getr (f := 3) C f_X_88 lj3 (osh_48 _ _ _ _) (fl_48_3 _ _ _) ej6 d_X_prepare_70 (fun lj6 => ?_)
              replace lj6 : j6 < cn 49 := lj6
              refine V_sh [(8, .ref (ad 48 j3)), (0, .ref (ad 40 0)), (1, .int (a1)), (2, .long (a2)), (4, .int (a4)), (5, .int (a5)), (6, .long (a6))] [.ref (ad 49 j6)] rfl rfl ?_
              refine V_bipush (v := 100) C (by decide) d_X_prepare_73 ?_
              refine V_cV (As := [.int ((100 : Int32))]) (rest := []) C k_X_120 lj6 (osh_49 _ _ _ _) (ct_B_take l Γ ad cn S5 j6 ((100 : Int32)) _ lj6 h) ⟨rfl, rfl⟩ ⟨Nat.le_trans (by decide) hR.1, Nat.le_trans (by decide) hR.2⟩ ⟨by decide, by decide⟩ rfl rfl (Nat.le_of_ble_eq_true rfl) d_X_prepare_75 (fun r7 S8 h => ?_)
              refine V_sh [(8, .ref (ad 48 j3)), (0, .ref (ad 40 0)), (1, .int (a1)), (2, .long (a2)), (4, .int (a4)), (5, .int (a5)), (6, .long (a6))] [.int (r7)] rfl rfl ?_
              refine V_if_ne C d_X_prepare_78 (fun q => ?_) (fun q => ?_)
              · replace h := h.1 q
                refine V_aload_n 1 C rfl d_X_prepare_84 ?_
                refine V_aload_n 1 C rfl d_X_prepare_85 ?_
                obtain ⟨j9, ej9, h⟩ := h
                refine V_getr (f := 3) C f_X_18 l0 (osh_40 _ _ _ _) (fl_40_3 _ _ _) ej9 d_X_prepare_86 (fun lj9 => ?_)
                replace lj9 : j9 < cn 42 := lj9
                refine V_sh [(8, .ref (ad 48 j3)), (0, .ref (ad 40 0)), (1, .int (a1)), (2, .long (a2)), (4, .int (a4)), (5, .int (a5)), (6, .long (a6))] [.ref (ad 42 j9), .ref (ad 40 0)] rfl rfl ?_
                refine V_lload_n 3 C rfl d_X_prepare_89 ?_
                obtain ⟨q, hq10⟩ := h
                subst q
                have h := hq10
                refine V_cV (As := [.long (a2)]) (rest := [.ref (ad 40 0)]) C k_X_114 lj9 (osh_42 _ _ _ _) (ct_R_accountFor l Γ ad cn S8 (a2) _ lj9 h) ⟨rfl, rfl⟩ ⟨Nat.le_trans (by decide) hR.1, Nat.le_trans (by decide) hR.2⟩ ⟨by decide, by decide⟩ rfl rfl (Nat.le_of_ble_eq_true rfl) d_X_prepare_90 (fun r11 S12 h => ?_)
                refine V_sh [(8, .ref (ad 48 j3)), (0, .ref (ad 40 0)), (1, .int (a1)), (2, .long (a2)), (4, .int (a4)), (5, .int (a5)), (6, .long (a6))] [.int (r11), .ref (ad 40 0)] rfl rfl ?_
                refine V_cV (As := [.int (r11)]) (rest := []) C k_X_65 l0 (osh_40 _ _ _ _) (ct_X_accountNumbered l Γ ad cn S12 (r11) _ l0 h) ⟨rfl, rfl⟩ ⟨Nat.le_trans (by decide) hR.1, Nat.le_trans (by decide) hR.2⟩ ⟨by decide, by decide⟩ rfl rfl (Nat.le_of_ble_eq_true rfl) d_X_prepare_93 (fun r13 S14 h => ?_)
                obtain ⟨lr13, h⟩ := h
                refine V_sh [(8, .ref (ad 48 j3)), (0, .ref (ad 40 0)), (1, .int (a1)), (2, .long (a2)), (4, .int (a4)), (5, .int (a5)), (6, .long (a6))] [rv ad 48 r13] rfl rfl ?_
                refine V_ostore (kd := 48) (o := r13) C [(9, rv ad 48 r13), (8, .ref (ad 48 j3)), (0, .ref (ad 40 0)), (1, .int (a1)), (2, .long (a2)), (4, .int (a4)), (5, .int (a5)), (6, .long (a6))] (by decide) rfl d_X_prepare_96 ?_
                refine V_oload (kd := 48) (o := r13) 0 C rfl d_X_prepare_98 ?_
                refine V_ifnull (kd := 48) (o := r13) C d_X_prepare_100 (fun q => ?_) (fun j15 q => ?_)
                · replace h := h.1 q
                  subst q
                  refine V_bipush (v := -7) C (by decide) d_X_prepare_110 ?_
                  refine V_widen (c1 := 1) (s1 := 8) (by decide) (by decide) ?_
                  exact V_iretn C hr hx0 hc0 d_X_prepare_112 h
                · replace h := h.2 j15 q
                  subst q
                  have lj15 := lr13 j15 rfl
                  refine V_sh [(9, .ref (ad 48 j15)), (8, .ref (ad 48 j3)), (0, .ref (ad 40 0)), (1, .int (a1)), (2, .long (a2)), (4, .int (a4)), (5, .int (a5)), (6, .long (a6))] [] rfl rfl ?_
                  refine V_aload 0 C rfl d_X_prepare_103 ?_
                  refine V_aload 1 C rfl d_X_prepare_105 ?_
                  refine V_acmp_ne C lj15 lj3 d_X_prepare_107 (fun q => ?_) (fun q => ?_)
                  · replace h := h.1 q
                    refine V_iload 6 C rfl d_X_prepare_113 ?_
                    refine V_i2l C d_X_prepare_115 ?_
                    refine V_aload_n 2 C rfl d_X_prepare_116 ?_
                    refine V_get C f_X_53 l0 (osh_40 _ _ _ _) (fl_40_0 _ _ _) d_X_prepare_117 ?_
                    refine V_i2l C d_X_prepare_120 ?_
                    refine V_lsub C d_X_prepare_121 ?_
                    refine V_aload_n 2 C rfl d_X_prepare_122 ?_
                    refine V_get C f_X_45 l0 (osh_40 _ _ _ _) (fl_40_10 _ _ _) d_X_prepare_123 ?_
                    refine V_aload_n 2 C rfl d_X_prepare_126 ?_
                    refine V_get C f_X_57 l0 (osh_40 _ _ _ _) (fl_40_1 _ _ _) d_X_prepare_127 ?_
                    refine V_i2l C d_X_prepare_130 ?_
                    refine V_ladd C d_X_prepare_131 ?_
                    refine V_mminl C w_256 w_257 w_7 w_258 ⟨Nat.le_trans (by decide) hR.1, Nat.le_trans (by decide) hR.2⟩ (Nat.le_of_ble_eq_true rfl) ⟨by decide, by decide⟩ d_X_prepare_132 ?_
                    refine V_lstore C [(10, .long ((if ((S14.2.1 40 0 10) + (Int32.toInt64 (S14.1 40 0 1))) < ((Int32.toInt64 a5) - (Int32.toInt64 (S14.1 40 0 0))) then ((S14.2.1 40 0 10) + (Int32.toInt64 (S14.1 40 0 1))) else ((Int32.toInt64 a5) - (Int32.toInt64 (S14.1 40 0 0)))))), (9, .ref (ad 48 j15)), (8, .ref (ad 48 j3)), (0, .ref (ad 40 0)), (1, .int (a1)), (2, .long (a2)), (4, .int (a4)), (5, .int (a5)), (6, .long (a6))] (by decide) rfl d_X_prepare_135 ?_
                    refine V_lload 0 C rfl d_X_prepare_137 ?_
                    refine V_aload_n 3 C rfl d_X_prepare_139 ?_
                    refine V_get C f_X_45 l0 (osh_40 _ _ _ _) (fl_40_10 _ _ _) d_X_prepare_140 ?_
                    refine V_lcmp C d_X_prepare_143 ?_
                    refine V_if_gt C d_X_prepare_144 (fun q => ?_) (fun q => ?_)
                    · replace h := h.1 q
                      refine V_aload 2 C rfl d_X_prepare_150 ?_
                      refine V_get C f_X_130 lj3 (osh_48 _ _ _ _) (fl_48_6 _ _ _) d_X_prepare_152 ?_
                      refine V_iload 6 C rfl d_X_prepare_155 ?_
                      refine V_i2l C d_X_prepare_157 ?_
                      refine V_lsub C d_X_prepare_158 ?_
                      refine V_aload 2 C rfl d_X_prepare_159 ?_
                      refine V_get C f_X_72 lj3 (osh_48 _ _ _ _) (fl_48_1 _ _ _) d_X_prepare_161 ?_
                      refine V_i2l C d_X_prepare_164 ?_
                      refine V_lcmp C d_X_prepare_165 ?_
                      refine V_if_ge C d_X_prepare_166 (fun q => ?_) (fun q => ?_)
                      · replace h := h.1 q
                        refine V_aload_n 3 C rfl d_X_prepare_172 ?_
                        refine V_iload 6 C rfl d_X_prepare_173 ?_
                        refine V_aload 2 C rfl d_X_prepare_175 ?_
                        refine V_get C f_X_69 lj3 (osh_48 _ _ _ _) (fl_48_5 _ _ _) d_X_prepare_177 ?_
                        refine V_aload 1 C rfl d_X_prepare_180 ?_
                        refine V_get C f_X_69 lj15 (osh_48 _ _ _ _) (fl_48_5 _ _ _) d_X_prepare_182 ?_
                        refine V_cV (As := [.int (a4), .int ((S14.1 48 j3 5)), .int ((S14.1 48 j15 5))]) (rest := []) C k_X_133 l0 (osh_40 _ _ _ _) (ct_X_converted l Γ ad cn S14 (a4) ((S14.1 48 j3 5)) ((S14.1 48 j15 5)) _ l0 h) ⟨rfl, rfl⟩ ⟨Nat.le_trans (by decide) hR.1, Nat.le_trans (by decide) hR.2⟩ ⟨by decide, by decide⟩ rfl rfl (Nat.le_of_ble_eq_true rfl) d_X_prepare_185 (fun r16 S17 h => ?_)
                        refine V_sh [(10, .long ((if ((S14.2.1 40 0 10) + (Int32.toInt64 (S14.1 40 0 1))) < ((Int32.toInt64 a5) - (Int32.toInt64 (S14.1 40 0 0))) then ((S14.2.1 40 0 10) + (Int32.toInt64 (S14.1 40 0 1))) else ((Int32.toInt64 a5) - (Int32.toInt64 (S14.1 40 0 0)))))), (9, .ref (ad 48 j15)), (8, .ref (ad 48 j3)), (0, .ref (ad 40 0)), (1, .int (a1)), (2, .long (a2)), (4, .int (a4)), (5, .int (a5)), (6, .long (a6))] [.long (r16)] rfl rfl ?_
                        refine V_lstore C [(12, .long (r16)), (10, .long ((if ((S14.2.1 40 0 10) + (Int32.toInt64 (S14.1 40 0 1))) < ((Int32.toInt64 a5) - (Int32.toInt64 (S14.1 40 0 0))) then ((S14.2.1 40 0 10) + (Int32.toInt64 (S14.1 40 0 1))) else ((Int32.toInt64 a5) - (Int32.toInt64 (S14.1 40 0 0)))))), (9, .ref (ad 48 j15)), (8, .ref (ad 48 j3)), (0, .ref (ad 40 0)), (1, .int (a1)), (2, .long (a2)), (4, .int (a4)), (5, .int (a5)), (6, .long (a6))] (by decide) rfl d_X_prepare_188 ?_
                        refine V_lload 0 C rfl d_X_prepare_190 ?_
                        refine V_aload 2 C rfl d_X_prepare_192 ?_
                        refine V_get C f_X_117 lj15 (osh_48 _ _ _ _) (fl_48_2 _ _ _) d_X_prepare_194 ?_
                        refine V_i2l C d_X_prepare_197 ?_
                        refine V_lcmp C d_X_prepare_198 ?_
                        refine V_if_le C d_X_prepare_199 (fun q => ?_) (fun q => ?_)
                        · replace h := h.1 q
                          refine V_aload 3 C rfl d_X_prepare_205 ?_
                          refine V_dup C rfl d_X_prepare_207 ?_
                          refine V_get C f_X_130 lj3 (osh_48 _ _ _ _) (fl_48_6 _ _ _) d_X_prepare_208 ?_
                          refine V_iload 7 C rfl d_X_prepare_211 ?_
                          refine V_i2l C d_X_prepare_213 ?_
                          refine V_lsub C d_X_prepare_214 ?_
                          refine V_putl (f := 6) C p_X_130 (fun z => by cases z) lj3 (osh_48 _ _ _ _) (fl_48_len _ _ _ 6 (by decide)) (up_48_6 _ _ _ _ _) d_X_prepare_215 (fun S18 eS18 => ?_)
                          replace h := h S18 eS18
                          refine V_aload_n 4 C rfl d_X_prepare_218 ?_
                          refine V_new (k := 52) C (fun z => [(12, .long (r16)), (10, .long ((if ((S14.2.1 40 0 10) + (Int32.toInt64 (S14.1 40 0 1))) < ((Int32.toInt64 a5) - (Int32.toInt64 (S14.1 40 0 0))) then ((S14.2.1 40 0 10) + (Int32.toInt64 (S14.1 40 0 1))) else ((Int32.toInt64 a5) - (Int32.toInt64 (S14.1 40 0 0)))))), (9, .ref (z 48 j15)), (8, .ref (z 48 j3)), (0, .ref (z 40 0)), (1, .int (a1)), (2, .long (a2)), (4, .int (a4)), (5, .int (a5)), (6, .long (a6))]) (fun z => [.ref (z 40 0)]) rfl rfl (fun z hz => ⟨by simp only [hz _ _ lj15, hz _ _ lj3, hz _ _ l0], by simp only [hz _ _ l0]⟩) n_X_22 (osh_52 _ _ _ _) (by decide) (by decide) d_X_prepare_219 (fun i19 ad20 cn21 S22 ei23 ec23 es23 hx23 hc23 li19 => ?_)
                          replace h := h i19 cn21 S22 ei23 ec23 es23
                          have lj15 := Nat.lt_of_lt_of_le lj15 (hc23 _)
                          have lj3 := Nat.lt_of_lt_of_le lj3 (hc23 _)
                          have l0 := Nat.lt_of_lt_of_le l0 (hc23 _)
                          have hx0 := oX.trans hx0 hc0 hx23
                          have hc0 : ∀ k, cn k ≤ cn21 k := fun k => Nat.le_trans (hc0 k) (hc23 k)
                          refine V_sh [(12, .long (r16)), (10, .long ((if ((S14.2.1 40 0 10) + (Int32.toInt64 (S14.1 40 0 1))) < ((Int32.toInt64 a5) - (Int32.toInt64 (S14.1 40 0 0))) then ((S14.2.1 40 0 10) + (Int32.toInt64 (S14.1 40 0 1))) else ((Int32.toInt64 a5) - (Int32.toInt64 (S14.1 40 0 0)))))), (9, .ref (ad20 48 j15)), (8, .ref (ad20 48 j3)), (0, .ref (ad20 40 0)), (1, .int (a1)), (2, .long (a2)), (4, .int (a4)), (5, .int (a5)), (6, .long (a6))] [.ref (ad20 52 i19), .ref (ad20 40 0)] rfl rfl ?_
                          refine V_dup C rfl d_X_prepare_222 ?_
                          refine V_aload 3 C rfl d_X_prepare_223 ?_
                          refine V_aload 2 C rfl d_X_prepare_225 ?_
                          refine V_iload 7 C rfl d_X_prepare_227 ?_
                          refine V_lload 0 C rfl d_X_prepare_229 ?_
                          refine V_lload 1 C rfl d_X_prepare_231 ?_
                          refine V_lload 9 C rfl d_X_prepare_233 ?_
                          refine V_cI (As := [.ref (ad20 48 j3), .ref (ad20 48 j15), .int (a4), .long (r16), .long ((if ((S14.2.1 40 0 10) + (Int32.toInt64 (S14.1 40 0 1))) < ((Int32.toInt64 a5) - (Int32.toInt64 (S14.1 40 0 0))) then ((S14.2.1 40 0 10) + (Int32.toInt64 (S14.1 40 0 1))) else ((Int32.toInt64 a5) - (Int32.toInt64 (S14.1 40 0 0))))), .long (a6)]) (rest := [.ref (ad20 52 i19), .ref (ad20 40 0)]) C k_X_137 (ct_T_init l Γ ad20 cn21 S22 i19 (j3) (j15) (a4) (r16) ((if ((S14.2.1 40 0 10) + (Int32.toInt64 (S14.1 40 0 1))) < ((Int32.toInt64 a5) - (Int32.toInt64 (S14.1 40 0 0))) then ((S14.2.1 40 0 10) + (Int32.toInt64 (S14.1 40 0 1))) else ((Int32.toInt64 a5) - (Int32.toInt64 (S14.1 40 0 0))))) (a6) _ li19 lj3 lj15 h) ⟨rfl, rfl⟩ ⟨Nat.le_trans (by decide) hR.1, Nat.le_trans (by decide) hR.2⟩ ⟨by decide, by decide⟩ rfl rfl (Nat.le_of_ble_eq_true rfl) d_X_prepare_235 (fun r24 S25 h => ?_)
                          refine V_sh [(12, .long (r16)), (10, .long ((if ((S14.2.1 40 0 10) + (Int32.toInt64 (S14.1 40 0 1))) < ((Int32.toInt64 a5) - (Int32.toInt64 (S14.1 40 0 0))) then ((S14.2.1 40 0 10) + (Int32.toInt64 (S14.1 40 0 1))) else ((Int32.toInt64 a5) - (Int32.toInt64 (S14.1 40 0 0)))))), (9, .ref (ad20 48 j15)), (8, .ref (ad20 48 j3)), (0, .ref (ad20 40 0)), (1, .int (a1)), (2, .long (a2)), (4, .int (a4)), (5, .int (a5)), (6, .long (a6))] [.ref (ad20 52 i19), .ref (ad20 40 0)] rfl rfl ?_
                          refine V_cV (As := [.ref (ad20 52 i19)]) (rest := []) C k_X_140 l0 (osh_40 _ _ _ _) (ct_X_keep l Γ ad20 cn21 S25 (i19) _ l0 li19 h) ⟨rfl, rfl⟩ ⟨Nat.le_trans (by decide) hR.1, Nat.le_trans (by decide) hR.2⟩ ⟨by decide, by decide⟩ rfl rfl (Nat.le_of_ble_eq_true rfl) d_X_prepare_238 (fun r26 S27 h => ?_)
                          refine V_sh [(12, .long (r16)), (10, .long ((if ((S14.2.1 40 0 10) + (Int32.toInt64 (S14.1 40 0 1))) < ((Int32.toInt64 a5) - (Int32.toInt64 (S14.1 40 0 0))) then ((S14.2.1 40 0 10) + (Int32.toInt64 (S14.1 40 0 1))) else ((Int32.toInt64 a5) - (Int32.toInt64 (S14.1 40 0 0)))))), (9, .ref (ad20 48 j15)), (8, .ref (ad20 48 j3)), (0, .ref (ad20 40 0)), (1, .int (a1)), (2, .long (a2)), (4, .int (a4)), (5, .int (a5)), (6, .long (a6))] [.int (r26)] rfl rfl ?_
                          refine V_widen (c1 := 1) (s1 := 8) (by decide) (by decide) ?_
                          exact V_iretn C hr hx0 hc0 d_X_prepare_241 h
                        · replace h := h.2 q
                          refine V_bipush (v := -10) C (by decide) d_X_prepare_202 ?_
                          refine V_widen (c1 := 1) (s1 := 8) (by decide) (by decide) ?_
                          exact V_iretn C hr hx0 hc0 d_X_prepare_204 h
                      · replace h := h.2 q
                        refine V_bipush (v := -9) C (by decide) d_X_prepare_169 ?_
                        refine V_widen (c1 := 1) (s1 := 8) (by decide) (by decide) ?_
                        exact V_iretn C hr hx0 hc0 d_X_prepare_171 h
                    · replace h := h.2 q
                      refine V_bipush (v := -8) C (by decide) d_X_prepare_147 ?_
                      refine V_widen (c1 := 1) (s1 := 8) (by decide) (by decide) ?_
                      exact V_iretn C hr hx0 hc0 d_X_prepare_149 h
                  · replace h := h.2 q
                    refine V_bipush (v := -7) C (by decide) d_X_prepare_110 ?_
                    refine V_widen (c1 := 1) (s1 := 8) (by decide) (by decide) ?_
                    exact V_iretn C hr hx0 hc0 d_X_prepare_112 h
              · replace h := h.2 q
                refine V_bipush (v := -6) C (by decide) d_X_prepare_81 ?_
                refine V_widen (c1 := 1) (s1 := 8) (by decide) (by decide) ?_
                exact V_iretn C hr hx0 hc0 d_X_prepare_83 h
            · replace h := h.2 q
              refine V_bipush (v := -5) C (by decide) d_X_prepare_65 ?_
              refine V_widen (c1 := 1) (s1 := 8) (by decide) (by decide) ?_
              exact V_iretn C hr hx0 hc0 d_X_prepare_67 h
          · replace h := h.2 q
            refine V_bipush (v := -4) C (by decide) d_X_prepare_52 ?_
            refine V_widen (c1 := 1) (s1 := 8) (by decide) (by decide) ?_
            exact V_iretn C hr hx0 hc0 d_X_prepare_54 h
        · replace h := h.2 q
          refine V_bipush (v := -3) C (by decide) d_X_prepare_38 ?_
          refine V_widen (c1 := 1) (s1 := 8) (by decide) (by decide) ?_
          exact V_iretn C hr hx0 hc0 d_X_prepare_40 h
      · replace h := h.2 q
        refine V_bipush (v := -2) C (by decide) d_X_prepare_26 ?_
        refine V_widen (c1 := 1) (s1 := 8) (by decide) (by decide) ?_
        exact V_iretn C hr hx0 hc0 d_X_prepare_28 h
  · replace h := h.1 q
    subst q
    refine V_iconst (v := -1) C (by decide) d_X_prepare_12 ?_
    refine V_widen (c1 := 1) (s1 := 8) (by decide) (by decide) ?_
    exact V_iretn C hr hx0 hc0 d_X_prepare_13 h
set_option maxRecDepth 100000 in
set_option maxHeartbeats 4000000 in
theorem ct_X_lockOf (l : Launch) (Γ : oGm) (ad : oAd) (cn : Nat → Nat) (S : oSt) (a0 : Int64) (post : Int64 → oSt → Prop)  (h : wp_X_lockOf S a0 post) : Met l y_X_lockOf (.code y_X_lockOf prog_1_method_28_code 4 (some .long) :: oWS) { frames := 1, cells := 0, slots := 0, locals := 40 } (va_Pc [.long (a0)] (oW Γ ad cn S)) (oQ Γ ad cn vJ post) 0 0 (oF Γ) := by
  refine o_met (lv := [(0, .long (a0))]) (own := "ValueConnector") (by decide) rfl (Nat.le_of_ble_eq_true rfl) rfl ?_
  intro p e s m args below meth c C hr hnm
  have hR : 1 ≤ ({ frames := 1, cells := 0, slots := 0, locals := 40 } : Room).frames ∧ 40 ≤ ({ frames := 1, cells := 0, slots := 0, locals := 40 } : Room).locals := ⟨Nat.le_refl _, Nat.le_refl _⟩
  unfold wp_X_lockOf at h
  refine V_lload_n 0 C rfl d_X_lockOf_0 ?_
  refine V_lload_n 0 C rfl d_X_lockOf_1 ?_
  refine V_lmul C d_X_lockOf_2 ?_
  refine V_ldc2 (v := 41) C w_311 d_X_lockOf_3 ?_
  refine V_ladd C d_X_lockOf_6 ?_
  refine V_lstore_n C [(2, .long (((a0 * a0) + (41 : Int64)))), (0, .long (a0))] (by decide) rfl d_X_lockOf_7 ?_
  refine V_lload_n 0 C rfl d_X_lockOf_8 ?_
  refine V_lload_n 0 C rfl d_X_lockOf_9 ?_
  refine V_bipush (v := 7) C (by decide) d_X_lockOf_10 ?_
  refine V_lushr C d_X_lockOf_12 ?_
  refine V_lxor C d_X_lockOf_13 ?_
  exact V_lret C hr d_X_lockOf_14 h
set_option maxRecDepth 100000 in
set_option maxHeartbeats 4000000 in
theorem ct_X_lock (l : Launch) (Γ : oGm) (ad : oAd) (cn : Nat → Nat) (S : oSt) (a1 : Int64) (post : Int64 → oSt → Prop) (l0 : 0 < cn 40) (h : wp_X_lock S a1 post) : Met l y_X_lock (.code y_X_lock prog_1_method_11_code 3 (some .long) :: oWS) { frames := 2, cells := 0, slots := 0, locals := 63 } (va_Pc [.ref (ad 40 0), .long (a1)] (oW Γ ad cn S)) (oQ Γ ad cn vJ post) 0 0 (oF Γ) := by
  refine o_met (lv := [(0, .ref (ad 40 0)), (1, .long (a1))]) (own := "ValueConnector") (by decide) rfl (Nat.le_of_ble_eq_true rfl) rfl ?_
  intro p e s m args below meth c C hr hnm
  have hR : 2 ≤ ({ frames := 2, cells := 0, slots := 0, locals := 63 } : Room).frames ∧ 63 ≤ ({ frames := 2, cells := 0, slots := 0, locals := 63 } : Room).locals := ⟨Nat.le_refl _, Nat.le_refl _⟩
  unfold wp_X_lock at h
  refine V_lload_n 1 C rfl d_X_lock_0 ?_
  refine V_cS (As := [.long (a1)]) (rest := []) C k_X_144 (ct_X_lockOf l Γ ad cn S (a1) _  h) ⟨rfl, rfl⟩ ⟨Nat.le_trans (by decide) hR.1, Nat.le_trans (by decide) hR.2⟩ ⟨Nat.zero_le _, Nat.zero_le _⟩ rfl rfl (Nat.le_of_ble_eq_true rfl) d_X_lock_1 (fun r1 S2 h => ?_)
  refine V_sh [(0, .ref (ad 40 0)), (1, .long (a1))] [.long (r1)] rfl rfl ?_
  exact V_lret C hr d_X_lock_4 h
set_option maxRecDepth 100000 in
set_option maxHeartbeats 4000000 in
theorem ct_X_transferNumbered (l : Launch) (Γ : oGm) (ad : oAd) (cn : Nat → Nat) (S : oSt) (a1 : Int32) (post : Option Nat → oSt → Prop) (l0 : 0 < cn 40) (h : wp_X_transferNumbered S a1 post) : Met l y_X_transferNumbered (.code y_X_transferNumbered prog_1_method_23_code 2 (some (.object "ValueConnector$Transfer")) :: oWS) { frames := 1, cells := 0, slots := 0, locals := 40 } (va_Pc [.ref (ad 40 0), .int (a1)] (oW Γ ad cn S)) (oQ Γ ad cn (vR ad 52) (fun r S => (∀ j, r = some j → j < cn 52) ∧ post r S)) 0 0 (oF Γ) := by
  refine o_met (lv := [(0, .ref (ad 40 0)), (1, .int (a1))]) (own := "ValueConnector") (by decide) rfl (Nat.le_of_ble_eq_true rfl) rfl ?_
  intro p e s m args below meth c C hr hnm
  have hR : 1 ≤ ({ frames := 1, cells := 0, slots := 0, locals := 40 } : Room).frames ∧ 40 ≤ ({ frames := 1, cells := 0, slots := 0, locals := 40 } : Room).locals := ⟨Nat.le_refl _, Nat.le_refl _⟩
  unfold wp_X_transferNumbered at h
  refine V_iload_n 1 C rfl d_X_transferNumbered_0 ?_
  refine V_if_lt C d_X_transferNumbered_1 (fun q => ?_) (fun q => ?_)
  · replace h := h.1 q
    refine V_null (kd := 52) C d_X_transferNumbered_21 ?_
    exact V_aret (kd := 52) (o := none) C hr d_X_transferNumbered_22 ⟨(fun _ q => by cases q), h⟩
  · replace h := h.2 q
    refine V_iload_n 1 C rfl d_X_transferNumbered_4 ?_
    refine V_aload_n 0 C rfl d_X_transferNumbered_5 ?_
    refine V_get C f_X_36 l0 (osh_40 _ _ _ _) (fl_40_7 _ _ _) d_X_transferNumbered_6 ?_
    refine V_icmp_ge C d_X_transferNumbered_9 (fun q => ?_) (fun q => ?_)
    · replace h := h.1 q
      refine V_null (kd := 52) C d_X_transferNumbered_21 ?_
      exact V_aret (kd := 52) (o := none) C hr d_X_transferNumbered_22 ⟨(fun _ q => by cases q), h⟩
    · replace h := h.2 q
      refine V_aload_n 0 C rfl d_X_transferNumbered_12 ?_
      obtain ⟨j1, ej1, h⟩ := h
      refine V_getr (f := 4) C f_X_24 l0 (osh_40 _ _ _ _) (fl_40_4 _ _ _) ej1 d_X_transferNumbered_13 (fun lj1 => ?_)
      replace lj1 : j1 < cn 43 := lj1
      refine V_sh [(0, .ref (ad 40 0)), (1, .int (a1))] [.ref (ad 43 j1)] rfl rfl ?_
      refine V_iload_n 1 C rfl d_X_transferNumbered_16 ?_
      refine V_aald (t0 := 3) C lj1 (osh_43 _ _ _ _) rfl h.1 d_X_transferNumbered_17 (fun o2 eo2 lo2 => ?_)
      replace h := h.2 o2 eo2
      replace lo2 : ∀ j, o2 = some j → j < cn 52 := lo2
      refine V_sh [(0, .ref (ad 40 0)), (1, .int (a1))] [rv ad 52 o2] rfl rfl ?_
      refine V_goto C d_X_transferNumbered_18 ?_
      exact V_aret (kd := 52) (o := o2) C hr d_X_transferNumbered_22 ⟨lo2, h⟩
set_option maxRecDepth 100000 in
set_option maxHeartbeats 4000000 in
theorem ct_T_payOut (l : Launch) (Γ : oGm) (ad : oAd) (cn : Nat → Nat) (S : oSt) (i0 : Nat) (a1 : Int64) (post : Unit → oSt → Prop) (l0 : i0 < cn 52) (h : wp_T_payOut S i0 a1 post) : Met l y_T_payOut (.code y_T_payOut prog_6_method_2_code 3 none :: oWS) { frames := 1, cells := 0, slots := 0, locals := 40 } (va_Pc [.ref (ad 52 i0), .long (a1)] (oW Γ ad cn S)) (oQ Γ ad cn vU post) 0 0 (oF Γ) := by
  refine o_met (lv := [(0, .ref (ad 52 i0)), (1, .long (a1))]) (own := "ValueConnector$Transfer") (by decide) rfl (Nat.le_of_ble_eq_true rfl) rfl ?_
  intro p e s m args below meth c C hr hnm
  have hR : 1 ≤ ({ frames := 1, cells := 0, slots := 0, locals := 40 } : Room).frames ∧ 40 ≤ ({ frames := 1, cells := 0, slots := 0, locals := 40 } : Room).locals := ⟨Nat.le_refl _, Nat.le_refl _⟩
  unfold wp_T_payOut at h
  refine V_aload_n 0 C rfl d_T_payOut_0 ?_
  refine V_iconst (v := 1) C (by decide) d_T_payOut_1 ?_
  refine V_puti (f := 6) C p_T_9 (fun z => by cases z) l0 (osh_52 _ _ _ _) (fl_52_len _ _ _ 6 (by decide)) (up_52_6 _ _ _ _ _) d_T_payOut_2 (fun S1 eS1 => ?_)
  replace h := h S1 eS1
  refine V_aload_n 0 C rfl d_T_payOut_5 ?_
  refine V_lload_n 1 C rfl d_T_payOut_6 ?_
  refine V_putl (f := 7) C p_T_15 (fun z => by cases z) l0 (osh_52 _ _ _ _) (fl_52_len _ _ _ 7 (by decide)) (up_52_7 _ _ _ _ _) d_T_payOut_7 (fun S2 eS2 => ?_)
  replace h := h S2 eS2
  refine V_aload_n 0 C rfl d_T_payOut_10 ?_
  obtain ⟨j3, ej3, h⟩ := h
  refine V_getr (f := 1) C f_T_23 l0 (osh_52 _ _ _ _) (fl_52_1 _ _ _) ej3 d_T_payOut_11 (fun lj3 => ?_)
  replace lj3 : j3 < cn 48 := lj3
  refine V_sh [(0, .ref (ad 52 i0)), (1, .long (a1))] [.ref (ad 48 j3)] rfl rfl ?_
  refine V_dup C rfl d_T_payOut_14 ?_
  refine V_get C f_T_38 lj3 (osh_48 _ _ _ _) (fl_48_6 _ _ _) d_T_payOut_15 ?_
  refine V_aload_n 0 C rfl d_T_payOut_18 ?_
  refine V_get C f_T_29 l0 (osh_52 _ _ _ _) (fl_52_3 _ _ _) d_T_payOut_19 ?_
  refine V_ladd C d_T_payOut_22 ?_
  refine V_putl (f := 6) C p_T_38 (fun z => by cases z) lj3 (osh_48 _ _ _ _) (fl_48_len _ _ _ 6 (by decide)) (up_48_6 _ _ _ _ _) d_T_payOut_23 (fun S4 eS4 => ?_)
  replace h := h S4 eS4
  exact V_vret C hr d_T_payOut_26 h
set_option maxRecDepth 100000 in
set_option maxHeartbeats 4000000 in
theorem ct_A_takeSettled (l : Launch) (Γ : oGm) (ad : oAd) (cn : Nat → Nat) (S : oSt) (i0 : Nat) (post : Int64 → oSt → Prop) (l0 : i0 < cn 48) (h : wp_A_takeSettled S i0 post) : Met l y_A_takeSettled (.code y_A_takeSettled prog_2_method_2_code 3 (some .long) :: oWS) { frames := 1, cells := 0, slots := 0, locals := 40 } (va_Pc [.ref (ad 48 i0)] (oW Γ ad cn S)) (oQ Γ ad cn vJ post) 0 0 (oF Γ) := by
  refine o_met (lv := [(0, .ref (ad 48 i0))]) (own := "ValueConnector$Account") (by decide) rfl (Nat.le_of_ble_eq_true rfl) rfl ?_
  intro p e s m args below meth c C hr hnm
  have hR : 1 ≤ ({ frames := 1, cells := 0, slots := 0, locals := 40 } : Room).frames ∧ 40 ≤ ({ frames := 1, cells := 0, slots := 0, locals := 40 } : Room).locals := ⟨Nat.le_refl _, Nat.le_refl _⟩
  unfold wp_A_takeSettled at h
  refine V_aload_n 0 C rfl d_A_takeSettled_0 ?_
  refine V_get C f_A_29 l0 (osh_48 _ _ _ _) (fl_48_7 _ _ _) d_A_takeSettled_1 ?_
  refine V_if_eq C d_A_takeSettled_4 (fun q => ?_) (fun q => ?_)
  · replace h := h.1 q
    refine V_lconst (v := 0) C (by decide) d_A_takeSettled_20 ?_
    exact V_lret C hr d_A_takeSettled_21 h
  · replace h := h.2 q
    refine V_aload_n 0 C rfl d_A_takeSettled_7 ?_
    refine V_get C f_A_25 l0 (osh_48 _ _ _ _) (fl_48_6 _ _ _) d_A_takeSettled_8 ?_
    refine V_aload_n 0 C rfl d_A_takeSettled_11 ?_
    refine V_get C f_A_29 l0 (osh_48 _ _ _ _) (fl_48_7 _ _ _) d_A_takeSettled_12 ?_
    refine V_i2l C d_A_takeSettled_15 ?_
    refine V_lcmp C d_A_takeSettled_16 ?_
    refine V_if_ge C d_A_takeSettled_17 (fun q => ?_) (fun q => ?_)
    · replace h := h.1 q
      refine V_aload_n 0 C rfl d_A_takeSettled_22 ?_
      refine V_dup C rfl d_A_takeSettled_23 ?_
      refine V_get C f_A_39 l0 (osh_48 _ _ _ _) (fl_48_10 _ _ _) d_A_takeSettled_24 ?_
      refine V_aload_n 0 C rfl d_A_takeSettled_27 ?_
      refine V_get C f_A_25 l0 (osh_48 _ _ _ _) (fl_48_6 _ _ _) d_A_takeSettled_28 ?_
      refine V_aload_n 0 C rfl d_A_takeSettled_31 ?_
      refine V_get C f_A_33 l0 (osh_48 _ _ _ _) (fl_48_8 _ _ _) d_A_takeSettled_32 ?_
      refine V_i2l C d_A_takeSettled_35 ?_
      refine V_lsub C d_A_takeSettled_36 ?_
      refine V_ladd C d_A_takeSettled_37 ?_
      refine V_putl (f := 10) C p_A_39 (fun z => by cases z) l0 (osh_48 _ _ _ _) (fl_48_len _ _ _ 10 (by decide)) (up_48_10 _ _ _ _ _) d_A_takeSettled_38 (fun S1 eS1 => ?_)
      replace h := h S1 eS1
      refine V_aload_n 0 C rfl d_A_takeSettled_41 ?_
      refine V_aload_n 0 C rfl d_A_takeSettled_42 ?_
      refine V_get C f_A_33 l0 (osh_48 _ _ _ _) (fl_48_8 _ _ _) d_A_takeSettled_43 ?_
      refine V_i2l C d_A_takeSettled_46 ?_
      refine V_putl (f := 6) C p_A_25 (fun z => by cases z) l0 (osh_48 _ _ _ _) (fl_48_len _ _ _ 6 (by decide)) (up_48_6 _ _ _ _ _) d_A_takeSettled_47 (fun S2 eS2 => ?_)
      replace h := h S2 eS2
      refine V_aload_n 0 C rfl d_A_takeSettled_50 ?_
      refine V_get C f_A_39 l0 (osh_48 _ _ _ _) (fl_48_10 _ _ _) d_A_takeSettled_51 ?_
      refine V_aload_n 0 C rfl d_A_takeSettled_54 ?_
      refine V_get C f_A_36 l0 (osh_48 _ _ _ _) (fl_48_9 _ _ _) d_A_takeSettled_55 ?_
      refine V_i2l C d_A_takeSettled_58 ?_
      refine V_ldiv C h.1 d_A_takeSettled_59 ?_
      replace h := h.2
      refine V_lstore_n C [(1, .long (((S2.2.1 48 i0 10) / (Int32.toInt64 (S2.1 48 i0 9))))), (0, .ref (ad 48 i0))] (by decide) rfl d_A_takeSettled_60 ?_
      refine V_aload_n 1 C rfl d_A_takeSettled_61 ?_
      refine V_aload_n 1 C rfl d_A_takeSettled_62 ?_
      refine V_get C f_A_39 l0 (osh_48 _ _ _ _) (fl_48_10 _ _ _) d_A_takeSettled_63 ?_
      refine V_aload_n 1 C rfl d_A_takeSettled_66 ?_
      refine V_get C f_A_36 l0 (osh_48 _ _ _ _) (fl_48_9 _ _ _) d_A_takeSettled_67 ?_
      refine V_i2l C d_A_takeSettled_70 ?_
      refine V_lrem C h.1 d_A_takeSettled_71 ?_
      replace h := h.2
      refine V_putl (f := 10) C p_A_39 (fun z => by cases z) l0 (osh_48 _ _ _ _) (fl_48_len _ _ _ 10 (by decide)) (up_48_10 _ _ _ _ _) d_A_takeSettled_72 (fun S3 eS3 => ?_)
      replace h := h S3 eS3
      refine V_lload_n 0 C rfl d_A_takeSettled_75 ?_
      exact V_lret C hr d_A_takeSettled_76 h
    · replace h := h.2 q
      refine V_lconst (v := 0) C (by decide) d_A_takeSettled_20 ?_
      exact V_lret C hr d_A_takeSettled_21 h
set_option maxRecDepth 100000 in
set_option maxHeartbeats 4000000 in
theorem ct_X_settle (l : Launch) (Γ : oGm) (ad : oAd) (cn : Nat → Nat) (S : oSt) (a1 : Nat) (post : Unit → oSt → Prop) (l0 : 0 < cn 40) (l1 : a1 < cn 48) (h : wp_X_settle S a1 post) : Met l y_X_settle (.code y_X_settle prog_1_method_27_code 4 none :: oWS) { frames := 2, cells := 0, slots := 0, locals := 62 } (va_Pc [.ref (ad 40 0), .ref (ad 48 a1)] (oW Γ ad cn S)) (oQ Γ ad cn vU post) 0 0 (oF Γ) := by
  refine o_met (lv := [(0, .ref (ad 40 0)), (1, .ref (ad 48 a1))]) (own := "ValueConnector") (by decide) rfl (Nat.le_of_ble_eq_true rfl) rfl ?_
  intro p e s m args below meth c C hr hnm
  have hR : 2 ≤ ({ frames := 2, cells := 0, slots := 0, locals := 62 } : Room).frames ∧ 62 ≤ ({ frames := 2, cells := 0, slots := 0, locals := 62 } : Room).locals := ⟨Nat.le_refl _, Nat.le_refl _⟩
  unfold wp_X_settle at h
  refine V_aload_n 1 C rfl d_X_settle_0 ?_
  refine V_cV (As := []) (rest := []) C k_X_213 l1 (osh_48 _ _ _ _) (ct_A_takeSettled l Γ ad cn S a1 _ l1 h) ⟨rfl, rfl⟩ ⟨Nat.le_trans (by decide) hR.1, Nat.le_trans (by decide) hR.2⟩ ⟨Nat.zero_le _, Nat.zero_le _⟩ rfl rfl (Nat.le_of_ble_eq_true rfl) d_X_settle_1 (fun r1 S2 h => ?_)
  refine V_sh [(0, .ref (ad 40 0)), (1, .ref (ad 48 a1))] [.long (r1)] rfl rfl ?_
  refine V_lstore_n C [(2, .long (r1)), (0, .ref (ad 40 0)), (1, .ref (ad 48 a1))] (by decide) rfl d_X_settle_4 ?_
  refine V_lload_n 0 C rfl d_X_settle_5 ?_
  refine V_lconst (v := 0) C (by decide) d_X_settle_6 ?_
  refine V_lcmp C d_X_settle_7 ?_
  refine V_if_le C d_X_settle_8 (fun q => ?_) (fun q => ?_)
  · replace h := h.1 q
    exact V_vret C hr d_X_settle_53 h
  · replace h := h.2 q
    refine V_aload_n 1 C rfl d_X_settle_11 ?_
    refine V_get C f_X_39 l0 (osh_40 _ _ _ _) (fl_40_8 _ _ _) d_X_settle_12 ?_
    refine V_aload_n 1 C rfl d_X_settle_15 ?_
    obtain ⟨j3, ej3, h⟩ := h
    refine V_getr (f := 5) C f_X_28 l0 (osh_40 _ _ _ _) (fl_40_5 _ _ _) ej3 d_X_settle_16 (fun lj3 => ?_)
    replace lj3 : j3 < cn 44 := lj3
    refine V_sh [(2, .long (r1)), (0, .ref (ad 40 0)), (1, .ref (ad 48 a1))] [.ref (ad 44 j3), .int ((S2.1 40 0 8))] rfl rfl ?_
    refine V_alen (v := 120) C lj3 (osh_44 _ _ _ _) rfl rfl d_X_settle_19 ?_
    refine V_icmp_ge C d_X_settle_20 (fun q => ?_) (fun q => ?_)
    · replace h := h.1 q
      exact V_vret C hr d_X_settle_53 h
    · replace h := h.2 q
      refine V_aload_n 1 C rfl d_X_settle_23 ?_
      obtain ⟨j4, ej4, h⟩ := h
      refine V_getr (f := 5) C f_X_28 l0 (osh_40 _ _ _ _) (fl_40_5 _ _ _) ej4 d_X_settle_24 (fun lj4 => ?_)
      replace lj4 : j4 < cn 44 := lj4
      refine V_sh [(2, .long (r1)), (0, .ref (ad 40 0)), (1, .ref (ad 48 a1))] [.ref (ad 44 j4)] rfl rfl ?_
      refine V_aload_n 1 C rfl d_X_settle_27 ?_
      refine V_get C f_X_39 l0 (osh_40 _ _ _ _) (fl_40_8 _ _ _) d_X_settle_28 ?_
      refine V_lload_n 0 C rfl d_X_settle_31 ?_
      refine V_ldc2 (v := 8) C w_332 d_X_settle_32 ?_
      refine V_lmul C d_X_settle_35 ?_
      refine V_aload_n 2 C rfl d_X_settle_36 ?_
      refine V_get C f_X_196 l1 (osh_48 _ _ _ _) (fl_48_0 _ _ _) d_X_settle_37 ?_
      refine V_i2l C d_X_settle_40 ?_
      refine V_ladd C d_X_settle_41 ?_
      refine V_last C lj4 (fun _ => osh_44 _ _ _ _) h.1 d_X_settle_42 (fun S5 eS5 => ?_)
      replace h := h.2 S5 eS5
      refine V_aload_n 1 C rfl d_X_settle_43 ?_
      refine V_dup C rfl d_X_settle_44 ?_
      refine V_get C f_X_39 l0 (osh_40 _ _ _ _) (fl_40_8 _ _ _) d_X_settle_45 ?_
      refine V_iconst (v := 1) C (by decide) d_X_settle_48 ?_
      refine V_iadd C d_X_settle_49 ?_
      refine V_puti (f := 8) C p_X_39 (fun z => by cases z) l0 (osh_40 _ _ _ _) (fl_40_len _ _ _ 8 (by decide)) (up_40_8 _ _ _ _ _) d_X_settle_50 (fun S6 eS6 => ?_)
      replace h := h S6 eS6
      exact V_vret C hr d_X_settle_53 h
