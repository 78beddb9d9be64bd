set_option maxRecDepth 100000 in
set_option maxHeartbeats 4000000 in
theorem ct_M_settle (l : Launch) (Γ : oGm) (ad : oAd) (cn : Nat → Nat) (S : oSt) (a1 : Int32) (post : Unit → oSt → Prop) (l0 : 0 < cn 0) (h : wp_M_settle S a1 post) : Met l y_M_settle (.code y_M_settle prog_8_method_21_code 4 none :: oWS) { frames := 2, cells := 0, slots := 0, locals := 60 } (va_Pc [.ref (ad 0 0), .int (a1)] (oW Γ ad cn S)) (oQ Γ ad cn vU post) 0 0 (oF Γ) := by
  refine o_met (lv := [(0, .ref (ad 0 0)), (1, .int (a1))]) (own := "ValueConnectorModel") (by decide) rfl (Nat.le_of_ble_eq_true rfl) rfl ?_
  intro p e s m args below meth c C hr hnm
  have hR : 2 ≤ ({ frames := 2, cells := 0, slots := 0, locals := 60 } : Room).frames ∧ 60 ≤ ({ frames := 2, cells := 0, slots := 0, locals := 60 } : Room).locals := ⟨Nat.le_refl _, Nat.le_refl _⟩
  unfold wp_M_settle at h
  refine V_aload_n 0 C rfl d_M_settle_0 ?_
  obtain ⟨j1, ej1, h⟩ := h
  refine V_getr (f := 9) C f_M_23 l0 (osh_0 _ _ _ _) (fl_0_9 _ _ _) ej1 d_M_settle_1 (fun lj1 => ?_)
  replace lj1 : j1 < cn 9 := lj1
  refine V_sh [(0, .ref (ad 0 0)), (1, .int (a1))] [.ref (ad 9 j1)] rfl rfl ?_
  refine V_iload_n 1 C rfl d_M_settle_4 ?_
  refine V_iald C lj1 (osh_9 _ _ _ _) h.1 d_M_settle_5 ?_
  replace h := h.2
  refine V_if_eq C d_M_settle_6 (fun q => ?_) (fun q => ?_)
  · replace h := h.1 q
    exact V_vret C hr d_M_settle_26 h
  · replace h := h.2 q
    refine V_aload_n 0 C rfl d_M_settle_9 ?_
    obtain ⟨j2, ej2, h⟩ := h
    refine V_getr (f := 5) C f_M_7 l0 (osh_0 _ _ _ _) (fl_0_5 _ _ _) ej2 d_M_settle_10 (fun lj2 => ?_)
    replace lj2 : j2 < cn 5 := lj2
    refine V_sh [(0, .ref (ad 0 0)), (1, .int (a1))] [.ref (ad 5 j2)] rfl rfl ?_
    refine V_iload_n 1 C rfl d_M_settle_13 ?_
    refine V_lald C lj2 (osh_5 _ _ _ _) h.1 d_M_settle_14 ?_
    replace h := h.2
    refine V_aload_n 0 C rfl d_M_settle_15 ?_
    obtain ⟨j3, ej3, h⟩ := h
    refine V_getr (f := 9) C f_M_23 l0 (osh_0 _ _ _ _) (fl_0_9 _ _ _) ej3 d_M_settle_16 (fun lj3 => ?_)
    replace lj3 : j3 < cn 9 := lj3
    refine V_sh [(0, .ref (ad 0 0)), (1, .int (a1))] [.ref (ad 9 j3), .long ((S.2.1 5 j2 (Int32.toNatClampNeg a1)))] rfl rfl ?_
    refine V_iload_n 1 C rfl d_M_settle_19 ?_
    refine V_iald C lj3 (osh_9 _ _ _ _) h.1 d_M_settle_20 ?_
    replace h := h.2
    refine V_i2l C d_M_settle_21 ?_
    refine V_lcmp C d_M_settle_22 ?_
    refine V_if_ge C d_M_settle_23 (fun q => ?_) (fun q => ?_)
    · replace h := h.1 q
      refine V_aload_n 0 C rfl d_M_settle_27 ?_
      obtain ⟨j4, ej4, h⟩ := h
      refine V_getr (f := 12) C f_M_32 l0 (osh_0 _ _ _ _) (fl_0_12 _ _ _) ej4 d_M_settle_28 (fun lj4 => ?_)
      replace lj4 : j4 < cn 12 := lj4
      refine V_sh [(0, .ref (ad 0 0)), (1, .int (a1))] [.ref (ad 12 j4)] rfl rfl ?_
      refine V_iload_n 1 C rfl d_M_settle_31 ?_
      refine V_dup2_11 C rfl rfl d_M_settle_32 ?_
      refine V_lald C lj4 (osh_12 _ _ _ _) h.1 d_M_settle_33 ?_
      replace h := h.2
      refine V_aload_n 0 C rfl d_M_settle_34 ?_
      obtain ⟨j5, ej5, h⟩ := h
      refine V_getr (f := 5) C f_M_7 l0 (osh_0 _ _ _ _) (fl_0_5 _ _ _) ej5 d_M_settle_35 (fun lj5 => ?_)
      replace lj5 : j5 < cn 5 := lj5
      refine V_sh [(0, .ref (ad 0 0)), (1, .int (a1))] [.ref (ad 5 j5), .long ((S.2.1 12 j4 (Int32.toNatClampNeg a1))), .int (a1), .ref (ad 12 j4)] rfl rfl ?_
      refine V_iload_n 1 C rfl d_M_settle_38 ?_
      refine V_lald C lj5 (osh_5 _ _ _ _) h.1 d_M_settle_39 ?_
      replace h := h.2
      refine V_aload_n 0 C rfl d_M_settle_40 ?_
      obtain ⟨j6, ej6, h⟩ := h
      refine V_getr (f := 10) C f_M_26 l0 (osh_0 _ _ _ _) (fl_0_10 _ _ _) ej6 d_M_settle_41 (fun lj6 => ?_)
      replace lj6 : j6 < cn 10 := lj6
      refine V_sh [(0, .ref (ad 0 0)), (1, .int (a1))] [.ref (ad 10 j6), .long ((S.2.1 5 j5 (Int32.toNatClampNeg a1))), .long ((S.2.1 12 j4 (Int32.toNatClampNeg a1))), .int (a1), .ref (ad 12 j4)] rfl rfl ?_
      refine V_iload_n 1 C rfl d_M_settle_44 ?_
      refine V_iald C lj6 (osh_10 _ _ _ _) h.1 d_M_settle_45 ?_
      replace h := h.2
      refine V_i2l C d_M_settle_46 ?_
      refine V_lsub C d_M_settle_47 ?_
      refine V_ladd C d_M_settle_48 ?_
      refine V_last C lj4 (fun _ => osh_12 _ _ _ _) h.1 d_M_settle_49 (fun S7 eS7 => ?_)
      replace h := h.2 S7 eS7
      refine V_aload_n 0 C rfl d_M_settle_50 ?_
      obtain ⟨j8, ej8, h⟩ := h
      refine V_getr (f := 5) C f_M_7 l0 (osh_0 _ _ _ _) (fl_0_5 _ _ _) ej8 d_M_settle_51 (fun lj8 => ?_)
      replace lj8 : j8 < cn 5 := lj8
      refine V_sh [(0, .ref (ad 0 0)), (1, .int (a1))] [.ref (ad 5 j8)] rfl rfl ?_
      refine V_iload_n 1 C rfl d_M_settle_54 ?_
      refine V_aload_n 0 C rfl d_M_settle_55 ?_
      obtain ⟨j9, ej9, h⟩ := h
      refine V_getr (f := 10) C f_M_26 l0 (osh_0 _ _ _ _) (fl_0_10 _ _ _) ej9 d_M_settle_56 (fun lj9 => ?_)
      replace lj9 : j9 < cn 10 := lj9
      refine V_sh [(0, .ref (ad 0 0)), (1, .int (a1))] [.ref (ad 10 j9), .int (a1), .ref (ad 5 j8)] rfl rfl ?_
      refine V_iload_n 1 C rfl d_M_settle_59 ?_
      refine V_iald C lj9 (osh_10 _ _ _ _) h.1 d_M_settle_60 ?_
      replace h := h.2
      refine V_i2l C d_M_settle_61 ?_
      refine V_last C lj8 (fun _ => osh_5 _ _ _ _) h.1 d_M_settle_62 (fun S10 eS10 => ?_)
      replace h := h.2 S10 eS10
      refine V_aload_n 0 C rfl d_M_settle_63 ?_
      obtain ⟨j11, ej11, h⟩ := h
      refine V_getr (f := 12) C f_M_32 l0 (osh_0 _ _ _ _) (fl_0_12 _ _ _) ej11 d_M_settle_64 (fun lj11 => ?_)
      replace lj11 : j11 < cn 12 := lj11
      refine V_sh [(0, .ref (ad 0 0)), (1, .int (a1))] [.ref (ad 12 j11)] rfl rfl ?_
      refine V_iload_n 1 C rfl d_M_settle_67 ?_
      refine V_lald C lj11 (osh_12 _ _ _ _) h.1 d_M_settle_68 ?_
      replace h := h.2
      refine V_aload_n 0 C rfl d_M_settle_69 ?_
      obtain ⟨j12, ej12, h⟩ := h
      refine V_getr (f := 11) C f_M_29 l0 (osh_0 _ _ _ _) (fl_0_11 _ _ _) ej12 d_M_settle_70 (fun lj12 => ?_)
      replace lj12 : j12 < cn 11 := lj12
      refine V_sh [(0, .ref (ad 0 0)), (1, .int (a1))] [.ref (ad 11 j12), .long ((S10.2.1 12 j11 (Int32.toNatClampNeg a1)))] rfl rfl ?_
      refine V_iload_n 1 C rfl d_M_settle_73 ?_
      refine V_iald C lj12 (osh_11 _ _ _ _) h.1 d_M_settle_74 ?_
      replace h := h.2
      refine V_cS (As := [.int ((S10.1 11 j12 (Int32.toNatClampNeg a1)))]) (rest := [.long ((S10.2.1 12 j11 (Int32.toNatClampNeg a1)))]) C k_M_155 (ct_M_power l Γ ad cn S10 ((S10.1 11 j12 (Int32.toNatClampNeg a1))) _  h) ⟨rfl, rfl⟩ ⟨Nat.le_trans (by decide) hR.1, Nat.le_trans (by decide) hR.2⟩ ⟨Nat.zero_le _, Nat.zero_le _⟩ rfl rfl (Nat.le_of_ble_eq_true rfl) d_M_settle_75 (fun r13 S14 h => ?_)
      refine V_sh [(0, .ref (ad 0 0)), (1, .int (a1))] [.int (r13), .long ((S10.2.1 12 j11 (Int32.toNatClampNeg a1)))] rfl rfl ?_
      refine V_i2l C d_M_settle_78 ?_
      refine V_ldiv C h.1 d_M_settle_79 ?_
      replace h := h.2
      refine V_lstore_n C [(2, .long (((S10.2.1 12 j11 (Int32.toNatClampNeg a1)) / (Int32.toInt64 r13)))), (0, .ref (ad 0 0)), (1, .int (a1))] (by decide) rfl d_M_settle_80 ?_
      refine V_aload_n 1 C rfl d_M_settle_81 ?_
      obtain ⟨j15, ej15, h⟩ := h
      refine V_getr (f := 12) C f_M_32 l0 (osh_0 _ _ _ _) (fl_0_12 _ _ _) ej15 d_M_settle_82 (fun lj15 => ?_)
      replace lj15 : j15 < cn 12 := lj15
      refine V_sh [(2, .long (((S10.2.1 12 j11 (Int32.toNatClampNeg a1)) / (Int32.toInt64 r13)))), (0, .ref (ad 0 0)), (1, .int (a1))] [.ref (ad 12 j15)] rfl rfl ?_
      refine V_iload_n 2 C rfl d_M_settle_85 ?_
      refine V_aload_n 1 C rfl d_M_settle_86 ?_
      obtain ⟨j16, ej16, h⟩ := h
      refine V_getr (f := 12) C f_M_32 l0 (osh_0 _ _ _ _) (fl_0_12 _ _ _) ej16 d_M_settle_87 (fun lj16 => ?_)
      replace lj16 : j16 < cn 12 := lj16
      refine V_sh [(2, .long (((S10.2.1 12 j11 (Int32.toNatClampNeg a1)) / (Int32.toInt64 r13)))), (0, .ref (ad 0 0)), (1, .int (a1))] [.ref (ad 12 j16), .int (a1), .ref (ad 12 j15)] rfl rfl ?_
      refine V_iload_n 2 C rfl d_M_settle_90 ?_
      refine V_lald C lj16 (osh_12 _ _ _ _) h.1 d_M_settle_91 ?_
      replace h := h.2
      refine V_aload_n 1 C rfl d_M_settle_92 ?_
      obtain ⟨j17, ej17, h⟩ := h
      refine V_getr (f := 11) C f_M_29 l0 (osh_0 _ _ _ _) (fl_0_11 _ _ _) ej17 d_M_settle_93 (fun lj17 => ?_)
      replace lj17 : j17 < cn 11 := lj17
      refine V_sh [(2, .long (((S10.2.1 12 j11 (Int32.toNatClampNeg a1)) / (Int32.toInt64 r13)))), (0, .ref (ad 0 0)), (1, .int (a1))] [.ref (ad 11 j17), .long ((S14.2.1 12 j16 (Int32.toNatClampNeg a1))), .int (a1), .ref (ad 12 j15)] rfl rfl ?_
      refine V_iload_n 2 C rfl d_M_settle_96 ?_
      refine V_iald C lj17 (osh_11 _ _ _ _) h.1 d_M_settle_97 ?_
      replace h := h.2
      refine V_cS (As := [.int ((S14.1 11 j17 (Int32.toNatClampNeg a1)))]) (rest := [.long ((S14.2.1 12 j16 (Int32.toNatClampNeg a1))), .int (a1), .ref (ad 12 j15)]) C k_M_155 (ct_M_power l Γ ad cn S14 ((S14.1 11 j17 (Int32.toNatClampNeg a1))) _  h) ⟨rfl, rfl⟩ ⟨Nat.le_trans (by decide) hR.1, Nat.le_trans (by decide) hR.2⟩ ⟨Nat.zero_le _, Nat.zero_le _⟩ rfl rfl (Nat.le_of_ble_eq_true rfl) d_M_settle_98 (fun r18 S19 h => ?_)
      refine V_sh [(2, .long (((S10.2.1 12 j11 (Int32.toNatClampNeg a1)) / (Int32.toInt64 r13)))), (0, .ref (ad 0 0)), (1, .int (a1))] [.int (r18), .long ((S14.2.1 12 j16 (Int32.toNatClampNeg a1))), .int (a1), .ref (ad 12 j15)] rfl rfl ?_
      refine V_i2l C d_M_settle_101 ?_
      refine V_lrem C h.1 d_M_settle_102 ?_
      replace h := h.2
      refine V_last C lj15 (fun _ => osh_12 _ _ _ _) h.1 d_M_settle_103 (fun S20 eS20 => ?_)
      replace h := h.2 S20 eS20
      refine V_lload_n 0 C rfl d_M_settle_104 ?_
      refine V_lconst (v := 0) C (by decide) d_M_settle_105 ?_
      refine V_lcmp C d_M_settle_106 ?_
      refine V_if_le C d_M_settle_107 (fun q => ?_) (fun q => ?_)
      · replace h := h.1 q
        exact V_vret C hr d_M_settle_137 h
      · replace h := h.2 q
        refine V_aload_n 1 C rfl d_M_settle_110 ?_
        obtain ⟨j21, ej21, h⟩ := h
        refine V_getr (f := 32) C f_M_83 l0 (osh_0 _ _ _ _) (fl_0_32 _ _ _) ej21 d_M_settle_111 (fun lj21 => ?_)
        replace lj21 : j21 < cn 32 := lj21
        refine V_sh [(2, .long (((S10.2.1 12 j11 (Int32.toNatClampNeg a1)) / (Int32.toInt64 r13)))), (0, .ref (ad 0 0)), (1, .int (a1))] [.ref (ad 32 j21)] rfl rfl ?_
        refine V_aload_n 1 C rfl d_M_settle_114 ?_
        refine V_get C f_M_159 l0 (osh_0 _ _ _ _) (fl_0_31 _ _ _) d_M_settle_115 ?_
        refine V_lload_n 0 C rfl d_M_settle_118 ?_
        refine V_ldc2 (v := 8) C w_588 d_M_settle_119 ?_
        refine V_lmul C d_M_settle_122 ?_
        refine V_iload_n 2 C rfl d_M_settle_123 ?_
        refine V_i2l C d_M_settle_124 ?_
        refine V_ladd C d_M_settle_125 ?_
        refine V_last C lj21 (fun _ => osh_32 _ _ _ _) h.1 d_M_settle_126 (fun S22 eS22 => ?_)
        replace h := h.2 S22 eS22
        refine V_aload_n 1 C rfl d_M_settle_127 ?_
        refine V_dup C rfl d_M_settle_128 ?_
        refine V_get C f_M_159 l0 (osh_0 _ _ _ _) (fl_0_31 _ _ _) d_M_settle_129 ?_
        refine V_iconst (v := 1) C (by decide) d_M_settle_132 ?_
        refine V_iadd C d_M_settle_133 ?_
        refine V_puti (f := 31) C p_M_159 (fun z => by cases z) l0 (osh_0 _ _ _ _) (fl_0_len _ _ _ 31 (by decide)) (up_0_31 _ _ _ _ _) d_M_settle_134 (fun S23 eS23 => ?_)
        replace h := h S23 eS23
        exact V_vret C hr d_M_settle_137 h
    · replace h := h.2 q
      exact V_vret C hr d_M_settle_26 h
set_option maxRecDepth 100000 in
set_option maxHeartbeats 4000000 in
theorem ct_M_fulfil (l : Launch) (Γ : oGm) (ad : oAd) (cn : Nat → Nat) (S : oSt) (a1 : Int32) (a2 : Int64) (post : Int32 → oSt → Prop) (l0 : 0 < cn 0) (h : wp_M_fulfil S a1 a2 post) : Met l y_M_fulfil (.code y_M_fulfil prog_8_method_19_code 4 (some .int) :: oWS) { frames := 3, cells := 0, slots := 0, locals := 83 } (va_Pc [.ref (ad 0 0), .int (a1), .long (a2)] (oW Γ ad cn S)) (oQ Γ ad cn vI post) 0 0 (oF Γ) := by
  refine o_met (lv := [(0, .ref (ad 0 0)), (1, .int (a1)), (2, .long (a2))]) (own := "ValueConnectorModel") (by decide) rfl (Nat.le_of_ble_eq_true rfl) rfl ?_
  intro p e s m args below meth c C hr hnm
  have hR : 3 ≤ ({ frames := 3, cells := 0, slots := 0, locals := 83 } : Room).frames ∧ 83 ≤ ({ frames := 3, cells := 0, slots := 0, locals := 83 } : Room).locals := ⟨Nat.le_refl _, Nat.le_refl _⟩
  unfold wp_M_fulfil at h
  refine V_aload_n 0 C rfl d_M_fulfil_0 ?_
  refine V_iload_n 1 C rfl d_M_fulfil_1 ?_
  refine V_cV (As := [.int (a1)]) (rest := []) C k_M_144 l0 (osh_0 _ _ _ _) (ct_M_isTransfer l Γ ad cn S (a1) _ l0 h) ⟨rfl, rfl⟩ ⟨Nat.le_trans (by decide) hR.1, Nat.le_trans (by decide) hR.2⟩ ⟨Nat.zero_le _, Nat.zero_le _⟩ rfl rfl (Nat.le_of_ble_eq_true rfl) d_M_fulfil_2 (fun r1 S2 h => ?_)
  refine V_sh [(0, .ref (ad 0 0)), (1, .int (a1)), (2, .long (a2))] [.int (r1)] rfl rfl ?_
  refine V_if_ne C d_M_fulfil_5 (fun q => ?_) (fun q => ?_)
  · replace h := h.1 q
    refine V_aload_n 0 C rfl d_M_fulfil_10 ?_
    obtain ⟨j3, ej3, h⟩ := h
    refine V_getr (f := 29) C f_M_77 l0 (osh_0 _ _ _ _) (fl_0_29 _ _ _) ej3 d_M_fulfil_11 (fun lj3 => ?_)
    replace lj3 : j3 < cn 29 := lj3
    refine V_sh [(0, .ref (ad 0 0)), (1, .int (a1)), (2, .long (a2))] [.ref (ad 29 j3)] rfl rfl ?_
    refine V_iload_n 1 C rfl d_M_fulfil_14 ?_
    refine V_iald C lj3 (osh_29 _ _ _ _) h.1 d_M_fulfil_15 ?_
    replace h := h.2
    refine V_if_eq C d_M_fulfil_16 (fun q => ?_) (fun q => ?_)
    · replace h := h.1 q
      refine V_aload_n 0 C rfl d_M_fulfil_22 ?_
      refine V_lload_n 2 C rfl d_M_fulfil_23 ?_
      refine V_cV (As := [.long (a2)]) (rest := []) C k_M_147 l0 (osh_0 _ _ _ _) (ct_M_lock l Γ ad cn S2 (a2) _ l0 h) ⟨rfl, rfl⟩ ⟨Nat.le_trans (by decide) hR.1, Nat.le_trans (by decide) hR.2⟩ ⟨Nat.zero_le _, Nat.zero_le _⟩ rfl rfl (Nat.le_of_ble_eq_true rfl) d_M_fulfil_24 (fun r4 S5 h => ?_)
      refine V_sh [(0, .ref (ad 0 0)), (1, .int (a1)), (2, .long (a2))] [.long (r4)] rfl rfl ?_
      refine V_aload_n 0 C rfl d_M_fulfil_27 ?_
      obtain ⟨j6, ej6, h⟩ := h
      refine V_getr (f := 28) C f_M_74 l0 (osh_0 _ _ _ _) (fl_0_28 _ _ _) ej6 d_M_fulfil_28 (fun lj6 => ?_)
      replace lj6 : j6 < cn 28 := lj6
      refine V_sh [(0, .ref (ad 0 0)), (1, .int (a1)), (2, .long (a2))] [.ref (ad 28 j6), .long (r4)] rfl rfl ?_
      refine V_iload_n 1 C rfl d_M_fulfil_31 ?_
      refine V_lald C lj6 (osh_28 _ _ _ _) h.1 d_M_fulfil_32 ?_
      replace h := h.2
      refine V_lcmp C d_M_fulfil_33 ?_
      refine V_if_eq C d_M_fulfil_34 (fun q => ?_) (fun q => ?_)
      · replace h := h.1 q
        refine V_aload_n 0 C rfl d_M_fulfil_40 ?_
        obtain ⟨j7, ej7, h⟩ := h
        refine V_getr (f := 29) C f_M_77 l0 (osh_0 _ _ _ _) (fl_0_29 _ _ _) ej7 d_M_fulfil_41 (fun lj7 => ?_)
        replace lj7 : j7 < cn 29 := lj7
        refine V_sh [(0, .ref (ad 0 0)), (1, .int (a1)), (2, .long (a2))] [.ref (ad 29 j7)] rfl rfl ?_
        refine V_iload_n 1 C rfl d_M_fulfil_44 ?_
        refine V_iconst (v := 1) C (by decide) d_M_fulfil_45 ?_
        refine V_iast C lj7 (fun _ => osh_29 _ _ _ _) h.1 d_M_fulfil_46 (fun S8 eS8 => ?_)
        replace h := h.2 S8 eS8
        refine V_aload_n 0 C rfl d_M_fulfil_47 ?_
        obtain ⟨j9, ej9, h⟩ := h
        refine V_getr (f := 30) C f_M_80 l0 (osh_0 _ _ _ _) (fl_0_30 _ _ _) ej9 d_M_fulfil_48 (fun lj9 => ?_)
        replace lj9 : j9 < cn 30 := lj9
        refine V_sh [(0, .ref (ad 0 0)), (1, .int (a1)), (2, .long (a2))] [.ref (ad 30 j9)] rfl rfl ?_
        refine V_iload_n 1 C rfl d_M_fulfil_51 ?_
        refine V_lload_n 2 C rfl d_M_fulfil_52 ?_
        refine V_last C lj9 (fun _ => osh_30 _ _ _ _) h.1 d_M_fulfil_53 (fun S10 eS10 => ?_)
        replace h := h.2 S10 eS10
        refine V_aload_n 0 C rfl d_M_fulfil_54 ?_
        obtain ⟨j11, ej11, h⟩ := h
        refine V_getr (f := 5) C f_M_7 l0 (osh_0 _ _ _ _) (fl_0_5 _ _ _) ej11 d_M_fulfil_55 (fun lj11 => ?_)
        replace lj11 : j11 < cn 5 := lj11
        refine V_sh [(0, .ref (ad 0 0)), (1, .int (a1)), (2, .long (a2))] [.ref (ad 5 j11)] rfl rfl ?_
        refine V_aload_n 0 C rfl d_M_fulfil_58 ?_
        obtain ⟨j12, ej12, h⟩ := h
        refine V_getr (f := 24) C f_M_62 l0 (osh_0 _ _ _ _) (fl_0_24 _ _ _) ej12 d_M_fulfil_59 (fun lj12 => ?_)
        replace lj12 : j12 < cn 24 := lj12
        refine V_sh [(0, .ref (ad 0 0)), (1, .int (a1)), (2, .long (a2))] [.ref (ad 24 j12), .ref (ad 5 j11)] rfl rfl ?_
        refine V_iload_n 1 C rfl d_M_fulfil_62 ?_
        refine V_iald C lj12 (osh_24 _ _ _ _) h.1 d_M_fulfil_63 ?_
        replace h := h.2
        refine V_dup2_11 C rfl rfl d_M_fulfil_64 ?_
        refine V_lald C lj11 (osh_5 _ _ _ _) h.1 d_M_fulfil_65 ?_
        replace h := h.2
        refine V_aload_n 0 C rfl d_M_fulfil_66 ?_
        obtain ⟨j13, ej13, h⟩ := h
        refine V_getr (f := 26) C f_M_68 l0 (osh_0 _ _ _ _) (fl_0_26 _ _ _) ej13 d_M_fulfil_67 (fun lj13 => ?_)
        replace lj13 : j13 < cn 26 := lj13
        refine V_sh [(0, .ref (ad 0 0)), (1, .int (a1)), (2, .long (a2))] [.ref (ad 26 j13), .long ((S10.2.1 5 j11 (Int32.toNatClampNeg (S10.1 24 j12 (Int32.toNatClampNeg a1))))), .int ((S10.1 24 j12 (Int32.toNatClampNeg a1))), .ref (ad 5 j11)] rfl rfl ?_
        refine V_iload_n 1 C rfl d_M_fulfil_70 ?_
        refine V_lald C lj13 (osh_26 _ _ _ _) h.1 d_M_fulfil_71 ?_
        replace h := h.2
        refine V_ladd C d_M_fulfil_72 ?_
        refine V_last C lj11 (fun _ => osh_5 _ _ _ _) h.1 d_M_fulfil_73 (fun S14 eS14 => ?_)
        replace h := h.2 S14 eS14
        refine V_aload_n 0 C rfl d_M_fulfil_74 ?_
        refine V_aload_n 0 C rfl d_M_fulfil_75 ?_
        obtain ⟨j15, ej15, h⟩ := h
        refine V_getr (f := 24) C f_M_62 l0 (osh_0 _ _ _ _) (fl_0_24 _ _ _) ej15 d_M_fulfil_76 (fun lj15 => ?_)
        replace lj15 : j15 < cn 24 := lj15
        refine V_sh [(0, .ref (ad 0 0)), (1, .int (a1)), (2, .long (a2))] [.ref (ad 24 j15), .ref (ad 0 0)] rfl rfl ?_
        refine V_iload_n 1 C rfl d_M_fulfil_79 ?_
        refine V_iald C lj15 (osh_24 _ _ _ _) h.1 d_M_fulfil_80 ?_
        replace h := h.2
        refine V_cV (As := [.int ((S14.1 24 j15 (Int32.toNatClampNeg a1)))]) (rest := []) C k_M_151 l0 (osh_0 _ _ _ _) (ct_M_settle l Γ ad cn S14 ((S14.1 24 j15 (Int32.toNatClampNeg a1))) _ l0 h) ⟨rfl, rfl⟩ ⟨Nat.le_trans (by decide) hR.1, Nat.le_trans (by decide) hR.2⟩ ⟨Nat.zero_le _, Nat.zero_le _⟩ rfl rfl (Nat.le_of_ble_eq_true rfl) d_M_fulfil_81 (fun r16 S17 h => ?_)
        refine V_sh [(0, .ref (ad 0 0)), (1, .int (a1)), (2, .long (a2))] [] rfl rfl ?_
        refine V_iconst (v := 0) C (by decide) d_M_fulfil_84 ?_
        exact V_iret C hr d_M_fulfil_85 h
      · replace h := h.2 q
        refine V_bipush (v := -3) C (by decide) d_M_fulfil_37 ?_
        exact V_iret C hr d_M_fulfil_39 h
    · replace h := h.2 q
      refine V_bipush (v := -2) C (by decide) d_M_fulfil_19 ?_
      exact V_iret C hr d_M_fulfil_21 h
  · replace h := h.2 q
    refine V_iconst (v := -1) C (by decide) d_M_fulfil_8 ?_
    exact V_iret C hr d_M_fulfil_9 h
set_option maxRecDepth 100000 in
set_option maxHeartbeats 4000000 in
theorem ct_M_giveBack (l : Launch) (Γ : oGm) (ad : oAd) (cn : Nat → Nat) (S : oSt) (a1 : Int32) (a2 : Int32) (post : Unit → oSt → Prop) (l0 : 0 < cn 0) (h : wp_M_giveBack S a1 a2 post) : Met l y_M_giveBack (.code y_M_giveBack prog_8_method_22_code 3 none :: oWS) { frames := 1, cells := 0, slots := 0, locals := 40 } (va_Pc [.ref (ad 0 0), .int (a1), .int (a2)] (oW Γ ad cn S)) (oQ Γ ad cn vU post) 0 0 (oF Γ) := by
  refine o_met (lv := [(0, .ref (ad 0 0)), (1, .int (a1)), (2, .int (a2))]) (own := "ValueConnectorModel") (by decide) rfl (Nat.le_of_ble_eq_true rfl) rfl ?_
  intro p e s m args below meth c C hr hnm
  have hR : 1 ≤ ({ frames := 1, cells := 0, slots := 0, locals := 40 } : Room).frames ∧ 40 ≤ ({ frames := 1, cells := 0, slots := 0, locals := 40 } : Room).locals := ⟨Nat.le_refl _, Nat.le_refl _⟩
  unfold wp_M_giveBack at h
  refine V_aload_n 0 C rfl d_M_giveBack_0 ?_
  obtain ⟨j1, ej1, h⟩ := h
  refine V_getr (f := 29) C f_M_77 l0 (osh_0 _ _ _ _) (fl_0_29 _ _ _) ej1 d_M_giveBack_1 (fun lj1 => ?_)
  replace lj1 : j1 < cn 29 := lj1
  refine V_sh [(0, .ref (ad 0 0)), (1, .int (a1)), (2, .int (a2))] [.ref (ad 29 j1)] rfl rfl ?_
  refine V_iload_n 1 C rfl d_M_giveBack_4 ?_
  refine V_iload_n 2 C rfl d_M_giveBack_5 ?_
  refine V_iast C lj1 (fun _ => osh_29 _ _ _ _) h.1 d_M_giveBack_6 (fun S2 eS2 => ?_)
  replace h := h.2 S2 eS2
  refine V_aload_n 0 C rfl d_M_giveBack_7 ?_
  obtain ⟨j3, ej3, h⟩ := h
  refine V_getr (f := 5) C f_M_7 l0 (osh_0 _ _ _ _) (fl_0_5 _ _ _) ej3 d_M_giveBack_8 (fun lj3 => ?_)
  replace lj3 : j3 < cn 5 := lj3
  refine V_sh [(0, .ref (ad 0 0)), (1, .int (a1)), (2, .int (a2))] [.ref (ad 5 j3)] rfl rfl ?_
  refine V_aload_n 0 C rfl d_M_giveBack_11 ?_
  obtain ⟨j4, ej4, h⟩ := h
  refine V_getr (f := 23) C f_M_59 l0 (osh_0 _ _ _ _) (fl_0_23 _ _ _) ej4 d_M_giveBack_12 (fun lj4 => ?_)
  replace lj4 : j4 < cn 23 := lj4
  refine V_sh [(0, .ref (ad 0 0)), (1, .int (a1)), (2, .int (a2))] [.ref (ad 23 j4), .ref (ad 5 j3)] rfl rfl ?_
  refine V_iload_n 1 C rfl d_M_giveBack_15 ?_
  refine V_iald C lj4 (osh_23 _ _ _ _) h.1 d_M_giveBack_16 ?_
  replace h := h.2
  refine V_dup2_11 C rfl rfl d_M_giveBack_17 ?_
  refine V_lald C lj3 (osh_5 _ _ _ _) h.1 d_M_giveBack_18 ?_
  replace h := h.2
  refine V_aload_n 0 C rfl d_M_giveBack_19 ?_
  obtain ⟨j5, ej5, h⟩ := h
  refine V_getr (f := 25) C f_M_65 l0 (osh_0 _ _ _ _) (fl_0_25 _ _ _) ej5 d_M_giveBack_20 (fun lj5 => ?_)
  replace lj5 : j5 < cn 25 := lj5
  refine V_sh [(0, .ref (ad 0 0)), (1, .int (a1)), (2, .int (a2))] [.ref (ad 25 j5), .long ((S2.2.1 5 j3 (Int32.toNatClampNeg (S2.1 23 j4 (Int32.toNatClampNeg a1))))), .int ((S2.1 23 j4 (Int32.toNatClampNeg a1))), .ref (ad 5 j3)] rfl rfl ?_
  refine V_iload_n 1 C rfl d_M_giveBack_23 ?_
  refine V_iald C lj5 (osh_25 _ _ _ _) h.1 d_M_giveBack_24 ?_
  replace h := h.2
  refine V_i2l C d_M_giveBack_25 ?_
  refine V_ladd C d_M_giveBack_26 ?_
  refine V_last C lj3 (fun _ => osh_5 _ _ _ _) h.1 d_M_giveBack_27 (fun S6 eS6 => ?_)
  replace h := h.2 S6 eS6
  exact V_vret C hr d_M_giveBack_28 h
set_option maxRecDepth 100000 in
set_option maxHeartbeats 4000000 in
theorem ct_M_reject (l : Launch) (Γ : oGm) (ad : oAd) (cn : Nat → Nat) (S : oSt) (a1 : Int32) (post : Int32 → oSt → Prop) (l0 : 0 < cn 0) (h : wp_M_reject S a1 post) : Met l y_M_reject (.code y_M_reject prog_8_method_23_code 2 (some .int) :: oWS) { frames := 2, cells := 0, slots := 0, locals := 62 } (va_Pc [.ref (ad 0 0), .int (a1)] (oW Γ ad cn S)) (oQ Γ ad cn vI post) 0 0 (oF Γ) := by
  refine o_met (lv := [(0, .ref (ad 0 0)), (1, .int (a1))]) (own := "ValueConnectorModel") (by decide) rfl (Nat.le_of_ble_eq_true rfl) rfl ?_
  intro p e s m args below meth c C hr hnm
  have hR : 2 ≤ ({ frames := 2, cells := 0, slots := 0, locals := 62 } : Room).frames ∧ 62 ≤ ({ frames := 2, cells := 0, slots := 0, locals := 62 } : Room).locals := ⟨Nat.le_refl _, Nat.le_refl _⟩
  unfold wp_M_reject at h
  refine V_aload_n 0 C rfl d_M_reject_0 ?_
  refine V_iload_n 1 C rfl d_M_reject_1 ?_
  refine V_cV (As := [.int (a1)]) (rest := []) C k_M_144 l0 (osh_0 _ _ _ _) (ct_M_isTransfer l Γ ad cn S (a1) _ l0 h) ⟨rfl, rfl⟩ ⟨Nat.le_trans (by decide) hR.1, Nat.le_trans (by decide) hR.2⟩ ⟨Nat.zero_le _, Nat.zero_le _⟩ rfl rfl (Nat.le_of_ble_eq_true rfl) d_M_reject_2 (fun r1 S2 h => ?_)
  refine V_sh [(0, .ref (ad 0 0)), (1, .int (a1))] [.int (r1)] rfl rfl ?_
  refine V_if_ne C d_M_reject_5 (fun q => ?_) (fun q => ?_)
  · replace h := h.1 q
    refine V_aload_n 0 C rfl d_M_reject_10 ?_
    obtain ⟨j3, ej3, h⟩ := h
    refine V_getr (f := 29) C f_M_77 l0 (osh_0 _ _ _ _) (fl_0_29 _ _ _) ej3 d_M_reject_11 (fun lj3 => ?_)
    replace lj3 : j3 < cn 29 := lj3
    refine V_sh [(0, .ref (ad 0 0)), (1, .int (a1))] [.ref (ad 29 j3)] rfl rfl ?_
    refine V_iload_n 1 C rfl d_M_reject_14 ?_
    refine V_iald C lj3 (osh_29 _ _ _ _) h.1 d_M_reject_15 ?_
    replace h := h.2
    refine V_if_eq C d_M_reject_16 (fun q => ?_) (fun q => ?_)
    · replace h := h.1 q
      refine V_aload_n 0 C rfl d_M_reject_22 ?_
      refine V_iload_n 1 C rfl d_M_reject_23 ?_
      refine V_iconst (v := 2) C (by decide) d_M_reject_24 ?_
      refine V_cV (As := [.int (a1), .int ((2 : Int32))]) (rest := []) C k_M_164 l0 (osh_0 _ _ _ _) (ct_M_giveBack l Γ ad cn S2 (a1) ((2 : Int32)) _ l0 h) ⟨rfl, rfl⟩ ⟨Nat.le_trans (by decide) hR.1, Nat.le_trans (by decide) hR.2⟩ ⟨Nat.zero_le _, Nat.zero_le _⟩ rfl rfl (Nat.le_of_ble_eq_true rfl) d_M_reject_25 (fun r4 S5 h => ?_)
      refine V_sh [(0, .ref (ad 0 0)), (1, .int (a1))] [] rfl rfl ?_
      refine V_iconst (v := 0) C (by decide) d_M_reject_28 ?_
      exact V_iret C hr d_M_reject_29 h
    · replace h := h.2 q
      refine V_bipush (v := -2) C (by decide) d_M_reject_19 ?_
      exact V_iret C hr d_M_reject_21 h
  · replace h := h.2 q
    refine V_iconst (v := -1) C (by decide) d_M_reject_8 ?_
    exact V_iret C hr d_M_reject_9 h
set_option maxRecDepth 100000 in
set_option maxHeartbeats 4000000 in
theorem B_M_advance_L90 {p : Program} {l : Launch} {e : Env} {R : Room} {s : State} {m : MethodId} {args : Array Value} {below : List Frame} {meth : Method} {c : Code} {Γ : oGm} {ad : oAd} {cn : Nat → Nat} {post : Int32 → oSt → Prop} (C : Cx p s m args meth c Γ prog_8_method_24_code 4 "ValueConnectorModel") (hr : meth.sig.returnType = (some .int)) (hR : 2 ≤ R.frames ∧ 62 ≤ R.locals) : ∀ (n : Nat) (x2 : Int32) (x3 : Int32) (S : oSt) (_ : 0 < cn 0), wp_M_advance_L90 post n x2 x3 S → Vv p l e R s m args below meth c (MQ below (oQ Γ ad cn vI post) args s 0 0 (oF Γ)) Γ 4 0 0 ad cn S 90 [(0, .ref (ad 0 0)), (2, .int (x2)), (3, .int (x3))] [] := by
  intro n
  induction n with
  | zero => intro x2 x3 S lx0 h; exact h.elim
  | succ n ih =>
    intro x2 x3 S lx0 h
    unfold wp_M_advance_L90 at h
    refine V_iload_n 2 C rfl d_M_advance_90 ?_
    refine V_aload_n 0 C rfl d_M_advance_91 ?_
    refine V_get C f_M_131 lx0 (osh_0 _ _ _ _) (fl_0_22 _ _ _) d_M_advance_92 ?_
    refine V_icmp_ge C d_M_advance_95 (fun q => ?_) (fun q => ?_)
    · replace h := h.1 q
      refine V_iload_n 1 C rfl d_M_advance_135 ?_
      exact V_iret C hr d_M_advance_136 h
    · replace h := h.2 q
      refine V_aload_n 0 C rfl d_M_advance_98 ?_
      obtain ⟨j2, ej2, h⟩ := h
      refine V_getr (f := 29) C f_M_77 lx0 (osh_0 _ _ _ _) (fl_0_29 _ _ _) ej2 d_M_advance_99 (fun lj2 => ?_)
      replace lj2 : j2 < cn 29 := lj2
      refine V_sh [(0, .ref (ad 0 0)), (2, .int (x2)), (3, .int (x3))] [.ref (ad 29 j2)] rfl rfl ?_
      refine V_iload_n 2 C rfl d_M_advance_102 ?_
      refine V_iald C lj2 (osh_29 _ _ _ _) h.1 d_M_advance_103 ?_
      replace h := h.2
      refine V_if_ne C d_M_advance_104 (fun q => ?_) (fun q => ?_)
      · replace h := h.1 q
        refine V_iinc (v := (x3 + 1)) 2 C [(3, .int ((x3 + 1))), (0, .ref (ad 0 0)), (2, .int (x2))] rfl rfl (by decide) rfl d_M_advance_129 ?_
        refine V_goto C d_M_advance_132 ?_
        refine V_lvs [1, 2, 0] [(0, .ref (ad 0 0)), (2, .int (x2)), (3, .int ((x3 + 1)))] rfl ?_
        exact ih (x2) ((x3 + 1)) S lx0 h
      · replace h := h.2 q
        refine V_aload_n 0 C rfl d_M_advance_107 ?_
        obtain ⟨j3, ej3, h⟩ := h
        refine V_getr (f := 27) C f_M_71 lx0 (osh_0 _ _ _ _) (fl_0_27 _ _ _) ej3 d_M_advance_108 (fun lj3 => ?_)
        replace lj3 : j3 < cn 27 := lj3
        refine V_sh [(0, .ref (ad 0 0)), (2, .int (x2)), (3, .int (x3))] [.ref (ad 27 j3)] rfl rfl ?_
        refine V_iload_n 2 C rfl d_M_advance_111 ?_
        refine V_iald C lj3 (osh_27 _ _ _ _) h.1 d_M_advance_112 ?_
        replace h := h.2
        refine V_aload_n 0 C rfl d_M_advance_113 ?_
        refine V_get C f_M_134 lx0 (osh_0 _ _ _ _) (fl_0_2 _ _ _) d_M_advance_114 ?_
        refine V_icmp_gt C d_M_advance_117 (fun q => ?_) (fun q => ?_)
        · replace h := h.1 q
          refine V_iinc (v := (x3 + 1)) 2 C [(3, .int ((x3 + 1))), (0, .ref (ad 0 0)), (2, .int (x2))] rfl rfl (by decide) rfl d_M_advance_129 ?_
          refine V_goto C d_M_advance_132 ?_
          refine V_lvs [1, 2, 0] [(0, .ref (ad 0 0)), (2, .int (x2)), (3, .int ((x3 + 1)))] rfl ?_
          exact ih (x2) ((x3 + 1)) S lx0 h
        · replace h := h.2 q
          refine V_aload_n 0 C rfl d_M_advance_120 ?_
          refine V_iload_n 2 C rfl d_M_advance_121 ?_
          refine V_iconst (v := 3) C (by decide) d_M_advance_122 ?_
          refine V_cV (As := [.int (x3), .int ((3 : Int32))]) (rest := []) C k_M_164 lx0 (osh_0 _ _ _ _) (ct_M_giveBack l Γ ad cn S (x3) ((3 : Int32)) _ lx0 h) ⟨rfl, rfl⟩ ⟨Nat.le_trans (by decide) hR.1, Nat.le_trans (by decide) hR.2⟩ ⟨Nat.zero_le _, Nat.zero_le _⟩ rfl rfl (Nat.le_of_ble_eq_true rfl) d_M_advance_123 (fun r4 S5 h => ?_)
          refine V_sh [(0, .ref (ad 0 0)), (2, .int (x2)), (3, .int (x3))] [] rfl rfl ?_
          refine V_iinc (v := (x2 + 1)) 1 C [(2, .int ((x2 + 1))), (0, .ref (ad 0 0)), (3, .int (x3))] rfl rfl (by decide) rfl d_M_advance_126 ?_
          refine V_iinc (v := (x3 + 1)) 2 C [(3, .int ((x3 + 1))), (2, .int ((x2 + 1))), (0, .ref (ad 0 0))] rfl rfl (by decide) rfl d_M_advance_129 ?_
          refine V_goto C d_M_advance_132 ?_
          refine V_lvs [2, 1, 0] [(0, .ref (ad 0 0)), (2, .int ((x2 + 1))), (3, .int ((x3 + 1)))] rfl ?_
          exact ih ((x2 + 1)) ((x3 + 1)) S5 lx0 h
set_option maxRecDepth 100000 in
set_option maxHeartbeats 4000000 in
theorem B_M_advance_L24 {p : Program} {l : Launch} {e : Env} {R : Room} {s : State} {m : MethodId} {args : Array Value} {below : List Frame} {meth : Method} {c : Code} {Γ : oGm} {ad : oAd} {cn : Nat → Nat} {post : Int32 → oSt → Prop} (C : Cx p s m args meth c Γ prog_8_method_24_code 4 "ValueConnectorModel") (hr : meth.sig.returnType = (some .int)) (hR : 2 ≤ R.frames ∧ 62 ≤ R.locals) : ∀ (n : Nat) (x1 : Int32) (x2 : Int32) (S : oSt) (_ : 0 < cn 0), wp_M_advance_L24 post n x1 x2 S → Vv p l e R s m args below meth c (MQ below (oQ Γ ad cn vI post) args s 0 0 (oF Γ)) Γ 4 0 0 ad cn S 24 [(0, .ref (ad 0 0)), (1, .int (x1)), (2, .int (x2))] [] := by
  intro n
  induction n with
  | zero => intro x1 x2 S lx0 h; exact h.elim
  | succ n ih =>
    intro x1 x2 S lx0 h
    unfold wp_M_advance_L24 at h
    refine V_iload_n 2 C rfl d_M_advance_24 ?_
    refine V_aload_n 0 C rfl d_M_advance_25 ?_
    refine V_get C f_M_94 lx0 (osh_0 _ _ _ _) (fl_0_4 _ _ _) d_M_advance_26 ?_
    refine V_icmp_ge C d_M_advance_29 (fun q => ?_) (fun q => ?_)
    · replace h := h.1 q
      refine V_iconst (v := 0) C (by decide) d_M_advance_86 ?_
      refine V_istore_n C [(2, .int ((0 : Int32))), (0, .ref (ad 0 0)), (1, .int (x1))] (by decide) rfl d_M_advance_87 ?_
      refine V_iconst (v := 0) C (by decide) d_M_advance_88 ?_
      refine V_istore_n C [(3, .int ((0 : Int32))), (2, .int ((0 : Int32))), (0, .ref (ad 0 0)), (1, .int (x1))] (by decide) rfl d_M_advance_89 ?_
      refine V_lvs [2, 1, 0] [(0, .ref (ad 0 0)), (2, .int ((0 : Int32))), (3, .int ((0 : Int32)))] rfl ?_
      obtain ⟨n, h⟩ := h
      exact B_M_advance_L90 C hr hR n ((0 : Int32)) ((0 : Int32)) S lx0 h
    · replace h := h.2 q
      refine V_aload_n 0 C rfl d_M_advance_32 ?_
      obtain ⟨j6, ej6, h⟩ := h
      refine V_getr (f := 15) C f_M_41 lx0 (osh_0 _ _ _ _) (fl_0_15 _ _ _) ej6 d_M_advance_33 (fun lj6 => ?_)
      replace lj6 : j6 < cn 15 := lj6
      refine V_sh [(0, .ref (ad 0 0)), (1, .int (x1)), (2, .int (x2))] [.ref (ad 15 j6)] rfl rfl ?_
      refine V_iload_n 2 C rfl d_M_advance_36 ?_
      refine V_iald C lj6 (osh_15 _ _ _ _) h.1 d_M_advance_37 ?_
      replace h := h.2
      refine V_iload_n 1 C rfl d_M_advance_38 ?_
      refine V_aload_n 0 C rfl d_M_advance_39 ?_
      obtain ⟨j7, ej7, h⟩ := h
      refine V_getr (f := 14) C f_M_38 lx0 (osh_0 _ _ _ _) (fl_0_14 _ _ _) ej7 d_M_advance_40 (fun lj7 => ?_)
      replace lj7 : j7 < cn 14 := lj7
      refine V_sh [(0, .ref (ad 0 0)), (1, .int (x1)), (2, .int (x2))] [.ref (ad 14 j7), .int (x1), .int ((S.1 15 j6 (Int32.toNatClampNeg x2)))] rfl rfl ?_
      refine V_iload_n 2 C rfl d_M_advance_43 ?_
      refine V_iald C lj7 (osh_14 _ _ _ _) h.1 d_M_advance_44 ?_
      replace h := h.2
      refine V_imul C d_M_advance_45 ?_
      refine V_iadd C d_M_advance_46 ?_
      refine V_istore_n C [(3, .int (((S.1 15 j6 (Int32.toNatClampNeg x2)) + (x1 * (S.1 14 j7 (Int32.toNatClampNeg x2)))))), (0, .ref (ad 0 0)), (1, .int (x1)), (2, .int (x2))] (by decide) rfl d_M_advance_47 ?_
      refine V_aload_n 1 C rfl d_M_advance_48 ?_
      obtain ⟨j8, ej8, h⟩ := h
      refine V_getr (f := 15) C f_M_41 lx0 (osh_0 _ _ _ _) (fl_0_15 _ _ _) ej8 d_M_advance_49 (fun lj8 => ?_)
      replace lj8 : j8 < cn 15 := lj8
      refine V_sh [(3, .int (((S.1 15 j6 (Int32.toNatClampNeg x2)) + (x1 * (S.1 14 j7 (Int32.toNatClampNeg x2)))))), (0, .ref (ad 0 0)), (1, .int (x1)), (2, .int (x2))] [.ref (ad 15 j8)] rfl rfl ?_
      refine V_iload_n 3 C rfl d_M_advance_52 ?_
      refine V_iload_n 0 C rfl d_M_advance_53 ?_
      refine V_bipush (v := 100) C (by decide) d_M_advance_54 ?_
      refine V_aload_n 1 C rfl d_M_advance_56 ?_
      obtain ⟨j9, ej9, h⟩ := h
      refine V_getr (f := 13) C f_M_35 lx0 (osh_0 _ _ _ _) (fl_0_13 _ _ _) ej9 d_M_advance_57 (fun lj9 => ?_)
      replace lj9 : j9 < cn 13 := lj9
      refine V_sh [(3, .int (((S.1 15 j6 (Int32.toNatClampNeg x2)) + (x1 * (S.1 14 j7 (Int32.toNatClampNeg x2)))))), (0, .ref (ad 0 0)), (1, .int (x1)), (2, .int (x2))] [.ref (ad 13 j9), .int ((100 : Int32)), .int (((S.1 15 j6 (Int32.toNatClampNeg x2)) + (x1 * (S.1 14 j7 (Int32.toNatClampNeg x2))))), .int (x2), .ref (ad 15 j8)] rfl rfl ?_
      refine V_iload_n 3 C rfl d_M_advance_60 ?_
      refine V_iald C lj9 (osh_13 _ _ _ _) h.1 d_M_advance_61 ?_
      replace h := h.2
      refine V_imul C d_M_advance_62 ?_
      refine V_icmp_ge C d_M_advance_63 (fun q => ?_) (fun q => ?_)
      · replace h := h.1 q
        refine V_bipush (v := 100) C (by decide) d_M_advance_70 ?_
        refine V_aload_n 1 C rfl d_M_advance_72 ?_
        obtain ⟨j10, ej10, h⟩ := h
        refine V_getr (f := 13) C f_M_35 lx0 (osh_0 _ _ _ _) (fl_0_13 _ _ _) ej10 d_M_advance_73 (fun lj10 => ?_)
        replace lj10 : j10 < cn 13 := lj10
        refine V_sh [(3, .int (((S.1 15 j6 (Int32.toNatClampNeg x2)) + (x1 * (S.1 14 j7 (Int32.toNatClampNeg x2)))))), (0, .ref (ad 0 0)), (1, .int (x1)), (2, .int (x2))] [.ref (ad 13 j10), .int ((100 : Int32)), .int (x2), .ref (ad 15 j8)] rfl rfl ?_
        refine V_iload_n 3 C rfl d_M_advance_76 ?_
        refine V_iald C lj10 (osh_13 _ _ _ _) h.1 d_M_advance_77 ?_
        replace h := h.2
        refine V_imul C d_M_advance_78 ?_
        refine V_iast C lj8 (fun _ => osh_15 _ _ _ _) h.1 d_M_advance_79 (fun S11 eS11 => ?_)
        replace h := h.2 S11 eS11
        refine V_iinc (v := (x2 + 1)) 3 C [(2, .int ((x2 + 1))), (3, .int (((S.1 15 j6 (Int32.toNatClampNeg x2)) + (x1 * (S.1 14 j7 (Int32.toNatClampNeg x2)))))), (0, .ref (ad 0 0)), (1, .int (x1))] rfl rfl (by decide) rfl d_M_advance_80 ?_
        refine V_goto C d_M_advance_83 ?_
        refine V_lvs [2, 3, 0] [(0, .ref (ad 0 0)), (1, .int (x1)), (2, .int ((x2 + 1)))] rfl ?_
        exact ih (x1) ((x2 + 1)) S11 lx0 h
      · replace h := h.2 q
        refine V_iload_n 0 C rfl d_M_advance_66 ?_
        refine V_goto C d_M_advance_67 ?_
        refine V_iast C lj8 (fun _ => osh_15 _ _ _ _) h.1 d_M_advance_79 (fun S12 eS12 => ?_)
        replace h := h.2 S12 eS12
        refine V_iinc (v := (x2 + 1)) 3 C [(2, .int ((x2 + 1))), (3, .int (((S.1 15 j6 (Int32.toNatClampNeg x2)) + (x1 * (S.1 14 j7 (Int32.toNatClampNeg x2)))))), (0, .ref (ad 0 0)), (1, .int (x1))] rfl rfl (by decide) rfl d_M_advance_80 ?_
        refine V_goto C d_M_advance_83 ?_
        refine V_lvs [2, 3, 0] [(0, .ref (ad 0 0)), (1, .int (x1)), (2, .int ((x2 + 1)))] rfl ?_
        exact ih (x1) ((x2 + 1)) S12 lx0 h
set_option maxRecDepth 100000 in
set_option maxHeartbeats 4000000 in
theorem ct_M_advance (l : Launch) (Γ : oGm) (ad : oAd) (cn : Nat → Nat) (S : oSt) (a1 : Int32) (post : Int32 → oSt → Prop) (l0 : 0 < cn 0) (h : wp_M_advance S a1 post) : Met l y_M_advance (.code y_M_advance prog_8_method_24_code 4 (some .int) :: oWS) { frames := 2, cells := 0, slots := 0, locals := 62 } (va_Pc [.ref (ad 0 0), .int (a1)] (oW Γ ad cn S)) (oQ Γ ad cn vI post) 0 0 (oF Γ) := by
  refine o_met (lv := [(0, .ref (ad 0 0)), (1, .int (a1))]) (own := "ValueConnectorModel") (by decide) rfl (Nat.le_of_ble_eq_true rfl) rfl ?_
  intro p e s m args below meth c C hr hnm
  have hR : 2 ≤ ({ frames := 2, cells := 0, slots := 0, locals := 62 } : Room).frames ∧ 62 ≤ ({ frames := 2, cells := 0, slots := 0, locals := 62 } : Room).locals := ⟨Nat.le_refl _, Nat.le_refl _⟩
  unfold wp_M_advance at h
  refine V_iload_n 1 C rfl d_M_advance_0 ?_
  refine V_if_lt C d_M_advance_1 (fun q => ?_) (fun q => ?_)
  · replace h := h.1 q
    refine V_iconst (v := -1) C (by decide) d_M_advance_10 ?_
    exact V_iret C hr d_M_advance_11 h
  · replace h := h.2 q
    refine V_iload_n 1 C rfl d_M_advance_4 ?_
    refine V_ldc (v := 100000) C w_403 d_M_advance_5 ?_
    refine V_icmp_le C d_M_advance_7 (fun q => ?_) (fun q => ?_)
    · replace h := h.1 q
      refine V_aload_n 0 C rfl d_M_advance_12 ?_
      refine V_dup C rfl d_M_advance_13 ?_
      refine V_get C f_M_134 l0 (osh_0 _ _ _ _) (fl_0_2 _ _ _) d_M_advance_14 ?_
      refine V_iload_n 1 C rfl d_M_advance_17 ?_
      refine V_iadd C d_M_advance_18 ?_
      refine V_puti (f := 2) C p_M_134 (fun z => by cases z) l0 (osh_0 _ _ _ _) (fl_0_len _ _ _ 2 (by decide)) (up_0_2 _ _ _ _ _) d_M_advance_19 (fun S1 eS1 => ?_)
      replace h := h S1 eS1
      refine V_iconst (v := 0) C (by decide) d_M_advance_22 ?_
      refine V_istore_n C [(2, .int ((0 : Int32))), (0, .ref (ad 0 0)), (1, .int (a1))] (by decide) rfl d_M_advance_23 ?_
      refine V_lvs [1, 2, 0] [(0, .ref (ad 0 0)), (1, .int (a1)), (2, .int ((0 : Int32)))] rfl ?_
      obtain ⟨n, h⟩ := h
      exact B_M_advance_L24 C hr hR n (a1) ((0 : Int32)) S1 l0 h
    · replace h := h.2 q
      refine V_iconst (v := -1) C (by decide) d_M_advance_10 ?_
      exact V_iret C hr d_M_advance_11 h
