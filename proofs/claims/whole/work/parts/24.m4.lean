set_option maxRecDepth 100000 in
set_option maxHeartbeats 4000000 in
theorem B_M_credit_J65 {p : Program} {l : Launch} {e : Env} {R : Room} {s : State} {m : MethodId} {args : Array Value} {below : List Frame} {meth : Method} {c : Code} {Γ : oGm} {ad : oAd} {cn : Nat → Nat} {post : Int32 → oSt → Prop} (C : Cx p s m args meth c Γ prog_8_method_25_code 5 "ValueConnectorModel") (hr : meth.sig.returnType = (some .int)) (hR : 2 ≤ R.frames ∧ 61 ≤ R.locals) : ∀ (x1 : Int32) (x2 : Int32) (x3 : Int32) (S : oSt) (_ : 0 < cn 0), wp_M_credit_J65 post x1 x2 x3 S → Vv p l e R s m args below meth c (MQ below (oQ Γ ad cn vI post) args s 0 0 (oF Γ)) Γ 5 0 0 ad cn S 65 [(0, .ref (ad 0 0)), (1, .int (x1)), (2, .int (x2)), (3, .int (x3))] [] := by
  intro x1 x2 x3 S lx0 h
  unfold wp_M_credit_J65 at h
  refine V_aload_n 0 C rfl d_M_credit_65 ?_
  obtain ⟨j3, ej3, h⟩ := h
  refine V_getr (f := 16) C f_M_44 lx0 (osh_0 _ _ _ _) (fl_0_16 _ _ _) ej3 d_M_credit_66 (fun lj3 => ?_)
  replace lj3 : j3 < cn 16 := lj3
  refine V_sh [(0, .ref (ad 0 0)), (1, .int (x1)), (2, .int (x2)), (3, .int (x3))] [.ref (ad 16 j3)] rfl rfl ?_
  refine V_bipush (v := 8) C (by decide) d_M_credit_69 ?_
  refine V_iload_n 1 C rfl d_M_credit_71 ?_
  refine V_imul C d_M_credit_72 ?_
  refine V_aload_n 0 C rfl d_M_credit_73 ?_
  obtain ⟨j4, ej4, h⟩ := h
  refine V_getr (f := 17) C f_M_47 lx0 (osh_0 _ _ _ _) (fl_0_17 _ _ _) ej4 d_M_credit_74 (fun lj4 => ?_)
  replace lj4 : j4 < cn 17 := lj4
  refine V_sh [(0, .ref (ad 0 0)), (1, .int (x1)), (2, .int (x2)), (3, .int (x3))] [.ref (ad 17 j4), .int (((8 : Int32) * x1)), .ref (ad 16 j3)] rfl rfl ?_
  refine V_iload_n 1 C rfl d_M_credit_77 ?_
  refine V_iald C lj4 (osh_17 _ _ _ _) h.1 d_M_credit_78 ?_
  replace h := h.2
  refine V_bipush (v := 8) C (by decide) d_M_credit_79 ?_
  refine V_irem C h.1 d_M_credit_81 ?_
  replace h := h.2
  refine V_iadd C d_M_credit_82 ?_
  refine V_iload_n 2 C rfl d_M_credit_83 ?_
  refine V_iast C lj3 (fun _ => osh_16 _ _ _ _) h.1 d_M_credit_84 (fun S5 eS5 => ?_)
  replace h := h.2 S5 eS5
  refine V_aload_n 0 C rfl d_M_credit_85 ?_
  obtain ⟨j6, ej6, h⟩ := h
  refine V_getr (f := 17) C f_M_47 lx0 (osh_0 _ _ _ _) (fl_0_17 _ _ _) ej6 d_M_credit_86 (fun lj6 => ?_)
  replace lj6 : j6 < cn 17 := lj6
  refine V_sh [(0, .ref (ad 0 0)), (1, .int (x1)), (2, .int (x2)), (3, .int (x3))] [.ref (ad 17 j6)] rfl rfl ?_
  refine V_iload_n 1 C rfl d_M_credit_89 ?_
  refine V_dup2_11 C rfl rfl d_M_credit_90 ?_
  refine V_iald C lj6 (osh_17 _ _ _ _) h.1 d_M_credit_91 ?_
  replace h := h.2
  refine V_iconst (v := 1) C (by decide) d_M_credit_92 ?_
  refine V_iadd C d_M_credit_93 ?_
  refine V_iast C lj6 (fun _ => osh_17 _ _ _ _) h.1 d_M_credit_94 (fun S7 eS7 => ?_)
  replace h := h.2 S7 eS7
  refine V_aload_n 0 C rfl d_M_credit_95 ?_
  obtain ⟨j8, ej8, h⟩ := h
  refine V_getr (f := 5) C f_M_7 lx0 (osh_0 _ _ _ _) (fl_0_5 _ _ _) ej8 d_M_credit_96 (fun lj8 => ?_)
  replace lj8 : j8 < cn 5 := lj8
  refine V_sh [(0, .ref (ad 0 0)), (1, .int (x1)), (2, .int (x2)), (3, .int (x3))] [.ref (ad 5 j8)] rfl rfl ?_
  refine V_iload_n 1 C rfl d_M_credit_99 ?_
  refine V_dup2_11 C rfl rfl d_M_credit_100 ?_
  refine V_lald C lj8 (osh_5 _ _ _ _) h.1 d_M_credit_101 ?_
  replace h := h.2
  refine V_iload_n 3 C rfl d_M_credit_102 ?_
  refine V_i2l C d_M_credit_103 ?_
  refine V_aload_n 0 C rfl d_M_credit_104 ?_
  obtain ⟨j9, ej9, h⟩ := h
  refine V_getr (f := 11) C f_M_29 lx0 (osh_0 _ _ _ _) (fl_0_11 _ _ _) ej9 d_M_credit_105 (fun lj9 => ?_)
  replace lj9 : j9 < cn 11 := lj9
  refine V_sh [(0, .ref (ad 0 0)), (1, .int (x1)), (2, .int (x2)), (3, .int (x3))] [.ref (ad 11 j9), .long ((Int32.toInt64 x3)), .long ((S7.2.1 5 j8 (Int32.toNatClampNeg x1))), .int (x1), .ref (ad 5 j8)] rfl rfl ?_
  refine V_iload_n 1 C rfl d_M_credit_108 ?_
  refine V_iald C lj9 (osh_11 _ _ _ _) h.1 d_M_credit_109 ?_
  replace h := h.2
  refine V_cS (As := [.int ((S7.1 11 j9 (Int32.toNatClampNeg x1)))]) (rest := [.long ((Int32.toInt64 x3)), .long ((S7.2.1 5 j8 (Int32.toNatClampNeg x1))), .int (x1), .ref (ad 5 j8)]) C k_M_155 (ct_M_power l Γ ad cn S7 ((S7.1 11 j9 (Int32.toNatClampNeg x1))) _  h) ⟨rfl, rfl⟩ ⟨Nat.le_trans (by decide) hR.1, Nat.le_trans (by decide) hR.2⟩ ⟨Nat.zero_le _, Nat.zero_le _⟩ rfl rfl (Nat.le_of_ble_eq_true rfl) d_M_credit_110 (fun r10 S11 h => ?_)
  refine V_sh [(0, .ref (ad 0 0)), (1, .int (x1)), (2, .int (x2)), (3, .int (x3))] [.int (r10), .long ((Int32.toInt64 x3)), .long ((S7.2.1 5 j8 (Int32.toNatClampNeg x1))), .int (x1), .ref (ad 5 j8)] rfl rfl ?_
  refine V_i2l C d_M_credit_113 ?_
  refine V_lmul C d_M_credit_114 ?_
  refine V_ladd C d_M_credit_115 ?_
  refine V_last C lj8 (fun _ => osh_5 _ _ _ _) h.1 d_M_credit_116 (fun S12 eS12 => ?_)
  replace h := h.2 S12 eS12
  refine V_iconst (v := 0) C (by decide) d_M_credit_117 ?_
  exact V_iret C hr d_M_credit_118 h
set_option maxRecDepth 100000 in
set_option maxHeartbeats 4000000 in
theorem B_M_credit_L23 {p : Program} {l : Launch} {e : Env} {R : Room} {s : State} {m : MethodId} {args : Array Value} {below : List Frame} {meth : Method} {c : Code} {Γ : oGm} {ad : oAd} {cn : Nat → Nat} {post : Int32 → oSt → Prop} (C : Cx p s m args meth c Γ prog_8_method_25_code 5 "ValueConnectorModel") (hr : meth.sig.returnType = (some .int)) (hR : 2 ≤ R.frames ∧ 61 ≤ R.locals) : ∀ (n : Nat) (x1 : Int32) (x2 : Int32) (x3 : Int32) (x4 : Int32) (S : oSt) (_ : 0 < cn 0), wp_M_credit_L23 post n x1 x2 x3 x4 S → Vv p l e R s m args below meth c (MQ below (oQ Γ ad cn vI post) args s 0 0 (oF Γ)) Γ 5 0 0 ad cn S 23 [(0, .ref (ad 0 0)), (1, .int (x1)), (2, .int (x2)), (3, .int (x3)), (4, .int (x4))] [] := by
  intro n
  induction n with
  | zero => intro x1 x2 x3 x4 S lx0 h; exact h.elim
  | succ n ih =>
    intro x1 x2 x3 x4 S lx0 h
    unfold wp_M_credit_L23 at h
    refine V_iload 4 C rfl d_M_credit_23 ?_
    refine V_bipush (v := 8) C (by decide) d_M_credit_25 ?_
    refine V_icmp_ge C d_M_credit_27 (fun q => ?_) (fun q => ?_)
    · replace h := h.1 q
      refine V_lvs [0, 1, 2, 3] [(0, .ref (ad 0 0)), (1, .int (x1)), (2, .int (x2)), (3, .int (x3))] rfl ?_
      exact B_M_credit_J65 C hr hR (x1) (x2) (x3) S lx0 h
    · replace h := h.2 q
      refine V_iload 4 C rfl d_M_credit_30 ?_
      refine V_aload_n 0 C rfl d_M_credit_32 ?_
      obtain ⟨j13, ej13, h⟩ := h
      refine V_getr (f := 17) C f_M_47 lx0 (osh_0 _ _ _ _) (fl_0_17 _ _ _) ej13 d_M_credit_33 (fun lj13 => ?_)
      replace lj13 : j13 < cn 17 := lj13
      refine V_sh [(0, .ref (ad 0 0)), (1, .int (x1)), (2, .int (x2)), (3, .int (x3)), (4, .int (x4))] [.ref (ad 17 j13), .int (x4)] rfl rfl ?_
      refine V_iload_n 1 C rfl d_M_credit_36 ?_
      refine V_iald C lj13 (osh_17 _ _ _ _) h.1 d_M_credit_37 ?_
      replace h := h.2
      refine V_icmp_ge C d_M_credit_38 (fun q => ?_) (fun q => ?_)
      · replace h := h.1 q
        refine V_lvs [0, 1, 2, 3] [(0, .ref (ad 0 0)), (1, .int (x1)), (2, .int (x2)), (3, .int (x3))] rfl ?_
        exact B_M_credit_J65 C hr hR (x1) (x2) (x3) S lx0 h
      · replace h := h.2 q
        refine V_aload_n 0 C rfl d_M_credit_41 ?_
        obtain ⟨j14, ej14, h⟩ := h
        refine V_getr (f := 16) C f_M_44 lx0 (osh_0 _ _ _ _) (fl_0_16 _ _ _) ej14 d_M_credit_42 (fun lj14 => ?_)
        replace lj14 : j14 < cn 16 := lj14
        refine V_sh [(0, .ref (ad 0 0)), (1, .int (x1)), (2, .int (x2)), (3, .int (x3)), (4, .int (x4))] [.ref (ad 16 j14)] rfl rfl ?_
        refine V_bipush (v := 8) C (by decide) d_M_credit_45 ?_
        refine V_iload_n 1 C rfl d_M_credit_47 ?_
        refine V_imul C d_M_credit_48 ?_
        refine V_iload 4 C rfl d_M_credit_49 ?_
        refine V_iadd C d_M_credit_51 ?_
        refine V_iald C lj14 (osh_16 _ _ _ _) h.1 d_M_credit_52 ?_
        replace h := h.2
        refine V_iload_n 2 C rfl d_M_credit_53 ?_
        refine V_icmp_ne C d_M_credit_54 (fun q => ?_) (fun q => ?_)
        · replace h := h.1 q
          refine V_iinc (v := (x4 + 1)) 4 C [(4, .int ((x4 + 1))), (0, .ref (ad 0 0)), (1, .int (x1)), (2, .int (x2)), (3, .int (x3))] rfl rfl (by decide) rfl d_M_credit_59 ?_
          refine V_goto C d_M_credit_62 ?_
          refine V_lvs [1, 2, 3, 4, 0] [(0, .ref (ad 0 0)), (1, .int (x1)), (2, .int (x2)), (3, .int (x3)), (4, .int ((x4 + 1)))] rfl ?_
          exact ih (x1) (x2) (x3) ((x4 + 1)) S lx0 h
        · replace h := h.2 q
          refine V_iconst (v := 1) C (by decide) d_M_credit_57 ?_
          exact V_iret C hr d_M_credit_58 h
set_option maxRecDepth 100000 in
set_option maxHeartbeats 4000000 in
theorem ct_M_credit (l : Launch) (Γ : oGm) (ad : oAd) (cn : Nat → Nat) (S : oSt) (a1 : Int32) (a2 : Int32) (a3 : Int32) (post : Int32 → oSt → Prop) (l0 : 0 < cn 0) (h : wp_M_credit S a1 a2 a3 post) : Met l y_M_credit (.code y_M_credit prog_8_method_25_code 5 (some .int) :: oWS) { frames := 2, cells := 0, slots := 0, locals := 61 } (va_Pc [.ref (ad 0 0), .int (a1), .int (a2), .int (a3)] (oW Γ ad cn S)) (oQ Γ ad cn vI post) 0 0 (oF Γ) := by
  refine o_met (lv := [(0, .ref (ad 0 0)), (1, .int (a1)), (2, .int (a2)), (3, .int (a3))]) (own := "ValueConnectorModel") (by decide) rfl (Nat.le_of_ble_eq_true rfl) rfl ?_
  intro p e s m args below meth c C hr hnm
  have hR : 2 ≤ ({ frames := 2, cells := 0, slots := 0, locals := 61 } : Room).frames ∧ 61 ≤ ({ frames := 2, cells := 0, slots := 0, locals := 61 } : Room).locals := ⟨Nat.le_refl _, Nat.le_refl _⟩
  unfold wp_M_credit at h
  refine V_aload_n 0 C rfl d_M_credit_0 ?_
  refine V_iload_n 1 C rfl d_M_credit_1 ?_
  refine V_cV (As := [.int (a1)]) (rest := []) C k_M_99 l0 (osh_0 _ _ _ _) (ct_M_isAccount l Γ ad cn S (a1) _ l0 h) ⟨rfl, rfl⟩ ⟨Nat.le_trans (by decide) hR.1, Nat.le_trans (by decide) hR.2⟩ ⟨Nat.zero_le _, Nat.zero_le _⟩ rfl rfl (Nat.le_of_ble_eq_true rfl) d_M_credit_2 (fun r1 S2 h => ?_)
  refine V_sh [(0, .ref (ad 0 0)), (1, .int (a1)), (2, .int (a2)), (3, .int (a3))] [.int (r1)] rfl rfl ?_
  refine V_if_eq C d_M_credit_5 (fun q => ?_) (fun q => ?_)
  · replace h := h.1 q
    refine V_iconst (v := -1) C (by decide) d_M_credit_18 ?_
    exact V_iret C hr d_M_credit_19 h
  · replace h := h.2 q
    refine V_iload_n 3 C rfl d_M_credit_8 ?_
    refine V_if_lt C d_M_credit_9 (fun q => ?_) (fun q => ?_)
    · replace h := h.1 q
      refine V_iconst (v := -1) C (by decide) d_M_credit_18 ?_
      exact V_iret C hr d_M_credit_19 h
    · replace h := h.2 q
      refine V_iload_n 3 C rfl d_M_credit_12 ?_
      refine V_ldc (v := 1000000) C w_605 d_M_credit_13 ?_
      refine V_icmp_le C d_M_credit_15 (fun q => ?_) (fun q => ?_)
      · replace h := h.1 q
        refine V_iconst (v := 0) C (by decide) d_M_credit_20 ?_
        refine V_istore C [(4, .int ((0 : Int32))), (0, .ref (ad 0 0)), (1, .int (a1)), (2, .int (a2)), (3, .int (a3))] (by decide) rfl d_M_credit_21 ?_
        refine V_lvs [1, 2, 3, 4, 0] [(0, .ref (ad 0 0)), (1, .int (a1)), (2, .int (a2)), (3, .int (a3)), (4, .int ((0 : Int32)))] rfl ?_
        obtain ⟨n, h⟩ := h
        exact B_M_credit_L23 C hr hR n (a1) (a2) (a3) ((0 : Int32)) S2 l0 h
      · replace h := h.2 q
        refine V_iconst (v := -1) C (by decide) d_M_credit_18 ?_
        exact V_iret C hr d_M_credit_19 h
set_option maxRecDepth 100000 in
set_option maxHeartbeats 4000000 in
theorem ct_M_balance (l : Launch) (Γ : oGm) (ad : oAd) (cn : Nat → Nat) (S : oSt) (a1 : Int32) (post : Int64 → oSt → Prop) (l0 : 0 < cn 0) (h : wp_M_balance S a1 post) : Met l y_M_balance (.code y_M_balance prog_8_method_26_code 2 (some .long) :: oWS) { frames := 2, cells := 0, slots := 0, locals := 61 } (va_Pc [.ref (ad 0 0), .int (a1)] (oW Γ ad cn S)) (oQ Γ ad cn vJ post) 0 0 (oF Γ) := by
  refine o_met (lv := [(0, .ref (ad 0 0)), (1, .int (a1))]) (own := "ValueConnectorModel") (by decide) rfl (Nat.le_of_ble_eq_true rfl) rfl ?_
  intro p e s m args below meth c C hr hnm
  have hR : 2 ≤ ({ frames := 2, cells := 0, slots := 0, locals := 61 } : Room).frames ∧ 61 ≤ ({ frames := 2, cells := 0, slots := 0, locals := 61 } : Room).locals := ⟨Nat.le_refl _, Nat.le_refl _⟩
  unfold wp_M_balance at h
  refine V_aload_n 0 C rfl d_M_balance_0 ?_
  refine V_iload_n 1 C rfl d_M_balance_1 ?_
  refine V_cV (As := [.int (a1)]) (rest := []) C k_M_99 l0 (osh_0 _ _ _ _) (ct_M_isAccount l Γ ad cn S (a1) _ l0 h) ⟨rfl, rfl⟩ ⟨Nat.le_trans (by decide) hR.1, Nat.le_trans (by decide) hR.2⟩ ⟨Nat.zero_le _, Nat.zero_le _⟩ rfl rfl (Nat.le_of_ble_eq_true rfl) d_M_balance_2 (fun r1 S2 h => ?_)
  refine V_sh [(0, .ref (ad 0 0)), (1, .int (a1))] [.int (r1)] rfl rfl ?_
  refine V_if_eq C d_M_balance_5 (fun q => ?_) (fun q => ?_)
  · replace h := h.1 q
    refine V_lconst (v := 0) C (by decide) d_M_balance_17 ?_
    exact V_lret C hr d_M_balance_18 h
  · replace h := h.2 q
    refine V_aload_n 0 C rfl d_M_balance_8 ?_
    obtain ⟨j3, ej3, h⟩ := h
    refine V_getr (f := 5) C f_M_7 l0 (osh_0 _ _ _ _) (fl_0_5 _ _ _) ej3 d_M_balance_9 (fun lj3 => ?_)
    replace lj3 : j3 < cn 5 := lj3
    refine V_sh [(0, .ref (ad 0 0)), (1, .int (a1))] [.ref (ad 5 j3)] rfl rfl ?_
    refine V_iload_n 1 C rfl d_M_balance_12 ?_
    refine V_lald C lj3 (osh_5 _ _ _ _) h.1 d_M_balance_13 ?_
    replace h := h.2
    refine V_goto C d_M_balance_14 ?_
    exact V_lret C hr d_M_balance_18 h
set_option maxRecDepth 100000 in
set_option maxHeartbeats 4000000 in
theorem B_M_position_L4 {p : Program} {l : Launch} {e : Env} {R : Room} {s : State} {m : MethodId} {args : Array Value} {below : List Frame} {meth : Method} {c : Code} {Γ : oGm} {ad : oAd} {cn : Nat → Nat} {post : Int64 → oSt → Prop} (C : Cx p s m args meth c Γ prog_8_method_27_code 4 "ValueConnectorModel") (hr : meth.sig.returnType = (some .long)) (hR : 1 ≤ R.frames ∧ 40 ≤ R.locals) : ∀ (n : Nat) (x1 : Int64) (x3 : Int32) (S : oSt) (_ : 0 < cn 0), wp_M_position_L4 post n x1 x3 S → Vv p l e R s m args below meth c (MQ below (oQ Γ ad cn vJ post) args s 0 0 (oF Γ)) Γ 4 0 0 ad cn S 4 [(0, .ref (ad 0 0)), (1, .long (x1)), (3, .int (x3))] [] := by
  intro n
  induction n with
  | zero => intro x1 x3 S lx0 h; exact h.elim
  | succ n ih =>
    intro x1 x3 S lx0 h
    unfold wp_M_position_L4 at h
    refine V_iload_n 2 C rfl d_M_position_4 ?_
    refine V_aload_n 0 C rfl d_M_position_5 ?_
    refine V_get C f_M_94 lx0 (osh_0 _ _ _ _) (fl_0_4 _ _ _) d_M_position_6 ?_
    refine V_icmp_ge C d_M_position_9 (fun q => ?_) (fun q => ?_)
    · replace h := h.1 q
      refine V_lload_n 1 C rfl d_M_position_35 ?_
      exact V_lret C hr d_M_position_36 h
    · replace h := h.2 q
      refine V_lload_n 1 C rfl d_M_position_12 ?_
      refine V_aload_n 0 C rfl d_M_position_13 ?_
      obtain ⟨j1, ej1, h⟩ := h
      refine V_getr (f := 5) C f_M_7 lx0 (osh_0 _ _ _ _) (fl_0_5 _ _ _) ej1 d_M_position_14 (fun lj1 => ?_)
      replace lj1 : j1 < cn 5 := lj1
      refine V_sh [(0, .ref (ad 0 0)), (1, .long (x1)), (3, .int (x3))] [.ref (ad 5 j1), .long (x1)] rfl rfl ?_
      refine V_iload_n 2 C rfl d_M_position_17 ?_
      refine V_lald C lj1 (osh_5 _ _ _ _) h.1 d_M_position_18 ?_
      replace h := h.2
      refine V_aload_n 0 C rfl d_M_position_19 ?_
      obtain ⟨j2, ej2, h⟩ := h
      refine V_getr (f := 8) C f_M_20 lx0 (osh_0 _ _ _ _) (fl_0_8 _ _ _) ej2 d_M_position_20 (fun lj2 => ?_)
      replace lj2 : j2 < cn 8 := lj2
      refine V_sh [(0, .ref (ad 0 0)), (1, .long (x1)), (3, .int (x3))] [.ref (ad 8 j2), .long ((S.2.1 5 j1 (Int32.toNatClampNeg x3))), .long (x1)] rfl rfl ?_
      refine V_iload_n 2 C rfl d_M_position_23 ?_
      refine V_iald C lj2 (osh_8 _ _ _ _) h.1 d_M_position_24 ?_
      replace h := h.2
      refine V_i2l C d_M_position_25 ?_
      refine V_lmul C d_M_position_26 ?_
      refine V_ladd C d_M_position_27 ?_
      refine V_lstore_n C [(1, .long ((x1 + ((S.2.1 5 j1 (Int32.toNatClampNeg x3)) * (Int32.toInt64 (S.1 8 j2 (Int32.toNatClampNeg x3))))))), (0, .ref (ad 0 0)), (3, .int (x3))] (by decide) rfl d_M_position_28 ?_
      refine V_iinc (v := (x3 + 1)) 2 C [(3, .int ((x3 + 1))), (1, .long ((x1 + ((S.2.1 5 j1 (Int32.toNatClampNeg x3)) * (Int32.toInt64 (S.1 8 j2 (Int32.toNatClampNeg x3))))))), (0, .ref (ad 0 0))] rfl rfl (by decide) rfl d_M_position_29 ?_
      refine V_goto C d_M_position_32 ?_
      refine V_lvs [2, 1, 0] [(0, .ref (ad 0 0)), (1, .long ((x1 + ((S.2.1 5 j1 (Int32.toNatClampNeg x3)) * (Int32.toInt64 (S.1 8 j2 (Int32.toNatClampNeg x3))))))), (3, .int ((x3 + 1)))] rfl ?_
      exact ih ((x1 + ((S.2.1 5 j1 (Int32.toNatClampNeg x3)) * (Int32.toInt64 (S.1 8 j2 (Int32.toNatClampNeg x3)))))) ((x3 + 1)) S lx0 h
set_option maxRecDepth 100000 in
set_option maxHeartbeats 4000000 in
theorem ct_M_position (l : Launch) (Γ : oGm) (ad : oAd) (cn : Nat → Nat) (S : oSt)  (post : Int64 → oSt → Prop) (l0 : 0 < cn 0) (h : wp_M_position S  post) : Met l y_M_position (.code y_M_position prog_8_method_27_code 4 (some .long) :: oWS) { frames := 1, cells := 0, slots := 0, locals := 40 } (va_Pc [.ref (ad 0 0)] (oW Γ ad cn S)) (oQ Γ ad cn vJ post) 0 0 (oF Γ) := by
  refine o_met (lv := [(0, .ref (ad 0 0))]) (own := "ValueConnectorModel") (by decide) rfl (Nat.le_of_ble_eq_true rfl) rfl ?_
  intro p e s m args below meth c C hr hnm
  have hR : 1 ≤ ({ frames := 1, cells := 0, slots := 0, locals := 40 } : Room).frames ∧ 40 ≤ ({ frames := 1, cells := 0, slots := 0, locals := 40 } : Room).locals := ⟨Nat.le_refl _, Nat.le_refl _⟩
  unfold wp_M_position at h
  refine V_lconst (v := 0) C (by decide) d_M_position_0 ?_
  refine V_lstore_n C [(1, .long ((0 : Int64))), (0, .ref (ad 0 0))] (by decide) rfl d_M_position_1 ?_
  refine V_iconst (v := 0) C (by decide) d_M_position_2 ?_
  refine V_istore_n C [(3, .int ((0 : Int32))), (1, .long ((0 : Int64))), (0, .ref (ad 0 0))] (by decide) rfl d_M_position_3 ?_
  refine V_lvs [2, 1, 0] [(0, .ref (ad 0 0)), (1, .long ((0 : Int64))), (3, .int ((0 : Int32)))] rfl ?_
  obtain ⟨n, h⟩ := h
  exact B_M_position_L4 C hr hR n ((0 : Int64)) ((0 : Int32)) S l0 h
set_option maxRecDepth 100000 in
set_option maxHeartbeats 4000000 in
theorem ct_M_state (l : Launch) (Γ : oGm) (ad : oAd) (cn : Nat → Nat) (S : oSt) (a1 : Int32) (post : Int32 → oSt → Prop) (l0 : 0 < cn 0) (h : wp_M_state S a1 post) : Met l y_M_state (.code y_M_state prog_8_method_28_code 2 (some .int) :: oWS) { frames := 2, cells := 0, slots := 0, locals := 61 } (va_Pc [.ref (ad 0 0), .int (a1)] (oW Γ ad cn S)) (oQ Γ ad cn vI post) 0 0 (oF Γ) := by
  refine o_met (lv := [(0, .ref (ad 0 0)), (1, .int (a1))]) (own := "ValueConnectorModel") (by decide) rfl (Nat.le_of_ble_eq_true rfl) rfl ?_
  intro p e s m args below meth c C hr hnm
  have hR : 2 ≤ ({ frames := 2, cells := 0, slots := 0, locals := 61 } : Room).frames ∧ 61 ≤ ({ frames := 2, cells := 0, slots := 0, locals := 61 } : Room).locals := ⟨Nat.le_refl _, Nat.le_refl _⟩
  unfold wp_M_state at h
  refine V_aload_n 0 C rfl d_M_state_0 ?_
  refine V_iload_n 1 C rfl d_M_state_1 ?_
  refine V_cV (As := [.int (a1)]) (rest := []) C k_M_144 l0 (osh_0 _ _ _ _) (ct_M_isTransfer l Γ ad cn S (a1) _ l0 h) ⟨rfl, rfl⟩ ⟨Nat.le_trans (by decide) hR.1, Nat.le_trans (by decide) hR.2⟩ ⟨Nat.zero_le _, Nat.zero_le _⟩ rfl rfl (Nat.le_of_ble_eq_true rfl) d_M_state_2 (fun r1 S2 h => ?_)
  refine V_sh [(0, .ref (ad 0 0)), (1, .int (a1))] [.int (r1)] rfl rfl ?_
  refine V_if_eq C d_M_state_5 (fun q => ?_) (fun q => ?_)
  · replace h := h.1 q
    refine V_iconst (v := -1) C (by decide) d_M_state_17 ?_
    exact V_iret C hr d_M_state_18 h
  · replace h := h.2 q
    refine V_aload_n 0 C rfl d_M_state_8 ?_
    obtain ⟨j3, ej3, h⟩ := h
    refine V_getr (f := 29) C f_M_77 l0 (osh_0 _ _ _ _) (fl_0_29 _ _ _) ej3 d_M_state_9 (fun lj3 => ?_)
    replace lj3 : j3 < cn 29 := lj3
    refine V_sh [(0, .ref (ad 0 0)), (1, .int (a1))] [.ref (ad 29 j3)] rfl rfl ?_
    refine V_iload_n 1 C rfl d_M_state_12 ?_
    refine V_iald C lj3 (osh_29 _ _ _ _) h.1 d_M_state_13 ?_
    replace h := h.2
    refine V_goto C d_M_state_14 ?_
    exact V_iret C hr d_M_state_18 h
set_option maxRecDepth 100000 in
set_option maxHeartbeats 4000000 in
theorem ct_M_transfer (l : Launch) (Γ : oGm) (ad : oAd) (cn : Nat → Nat) (S : oSt) (a1 : Int32) (a2 : Int32) (post : Int64 → oSt → Prop) (l0 : 0 < cn 0) (h : wp_M_transfer S a1 a2 post) : Met l y_M_transfer (.code y_M_transfer prog_8_method_29_code 3 (some .long) :: oWS) { frames := 2, cells := 0, slots := 0, locals := 61 } (va_Pc [.ref (ad 0 0), .int (a1), .int (a2)] (oW Γ ad cn S)) (oQ Γ ad cn vJ post) 0 0 (oF Γ) := by
  refine o_met (lv := [(0, .ref (ad 0 0)), (1, .int (a1)), (2, .int (a2))]) (own := "ValueConnectorModel") (by decide) rfl (Nat.le_of_ble_eq_true rfl) rfl ?_
  intro p e s m args below meth c C hr hnm
  have hR : 2 ≤ ({ frames := 2, cells := 0, slots := 0, locals := 61 } : Room).frames ∧ 61 ≤ ({ frames := 2, cells := 0, slots := 0, locals := 61 } : Room).locals := ⟨Nat.le_refl _, Nat.le_refl _⟩
  unfold wp_M_transfer at h
  refine V_aload_n 0 C rfl d_M_transfer_0 ?_
  refine V_iload_n 1 C rfl d_M_transfer_1 ?_
  refine V_cV (As := [.int (a1)]) (rest := []) C k_M_144 l0 (osh_0 _ _ _ _) (ct_M_isTransfer l Γ ad cn S (a1) _ l0 h) ⟨rfl, rfl⟩ ⟨Nat.le_trans (by decide) hR.1, Nat.le_trans (by decide) hR.2⟩ ⟨Nat.zero_le _, Nat.zero_le _⟩ rfl rfl (Nat.le_of_ble_eq_true rfl) d_M_transfer_2 (fun r1 S2 h => ?_)
  refine V_sh [(0, .ref (ad 0 0)), (1, .int (a1)), (2, .int (a2))] [.int (r1)] rfl rfl ?_
  refine V_if_eq C d_M_transfer_5 (fun q => ?_) (fun q => ?_)
  · replace h := h.1 q
    refine V_ldc2 (v := -1) C w_622 d_M_transfer_17 ?_
    exact V_lret C hr d_M_transfer_20 h
  · replace h := h.2 q
    refine V_iload_n 2 C rfl d_M_transfer_8 ?_
    refine V_if_lt C d_M_transfer_9 (fun q => ?_) (fun q => ?_)
    · replace h := h.1 q
      refine V_ldc2 (v := -1) C w_622 d_M_transfer_17 ?_
      exact V_lret C hr d_M_transfer_20 h
    · replace h := h.2 q
      refine V_iload_n 2 C rfl d_M_transfer_12 ?_
      refine V_iconst (v := 3) C (by decide) d_M_transfer_13 ?_
      refine V_icmp_le C d_M_transfer_14 (fun q => ?_) (fun q => ?_)
      · replace h := h.1 q
        refine V_iload_n 2 C rfl d_M_transfer_21 ?_
        refine V_if_ne C d_M_transfer_22 (fun q => ?_) (fun q => ?_)
        · replace h := h.1 q
          refine V_iload_n 2 C rfl d_M_transfer_33 ?_
          refine V_iconst (v := 1) C (by decide) d_M_transfer_34 ?_
          refine V_icmp_ne C d_M_transfer_35 (fun q => ?_) (fun q => ?_)
          · replace h := h.1 q
            refine V_iload_n 2 C rfl d_M_transfer_45 ?_
            refine V_iconst (v := 2) C (by decide) d_M_transfer_46 ?_
            refine V_icmp_ne C d_M_transfer_47 (fun q => ?_) (fun q => ?_)
            · replace h := h.1 q
              refine V_aload_n 0 C rfl d_M_transfer_60 ?_
              obtain ⟨j3, ej3, h⟩ := h
              refine V_getr (f := 29) C f_M_77 l0 (osh_0 _ _ _ _) (fl_0_29 _ _ _) ej3 d_M_transfer_61 (fun lj3 => ?_)
              replace lj3 : j3 < cn 29 := lj3
              refine V_sh [(0, .ref (ad 0 0)), (1, .int (a1)), (2, .int (a2))] [.ref (ad 29 j3)] rfl rfl ?_
              refine V_iload_n 1 C rfl d_M_transfer_64 ?_
              refine V_iald C lj3 (osh_29 _ _ _ _) h.1 d_M_transfer_65 ?_
              replace h := h.2
              refine V_iconst (v := 1) C (by decide) d_M_transfer_66 ?_
              refine V_icmp_ne C d_M_transfer_67 (fun q => ?_) (fun q => ?_)
              · replace h := h.1 q
                refine V_lconst (v := 0) C (by decide) d_M_transfer_79 ?_
                exact V_lret C hr d_M_transfer_80 h
              · replace h := h.2 q
                refine V_aload_n 0 C rfl d_M_transfer_70 ?_
                obtain ⟨j4, ej4, h⟩ := h
                refine V_getr (f := 30) C f_M_80 l0 (osh_0 _ _ _ _) (fl_0_30 _ _ _) ej4 d_M_transfer_71 (fun lj4 => ?_)
                replace lj4 : j4 < cn 30 := lj4
                refine V_sh [(0, .ref (ad 0 0)), (1, .int (a1)), (2, .int (a2))] [.ref (ad 30 j4)] rfl rfl ?_
                refine V_iload_n 1 C rfl d_M_transfer_74 ?_
                refine V_lald C lj4 (osh_30 _ _ _ _) h.1 d_M_transfer_75 ?_
                replace h := h.2
                refine V_goto C d_M_transfer_76 ?_
                exact V_lret C hr d_M_transfer_80 h
            · replace h := h.2 q
              refine V_aload_n 0 C rfl d_M_transfer_50 ?_
              obtain ⟨j5, ej5, h⟩ := h
              refine V_getr (f := 27) C f_M_71 l0 (osh_0 _ _ _ _) (fl_0_27 _ _ _) ej5 d_M_transfer_51 (fun lj5 => ?_)
              replace lj5 : j5 < cn 27 := lj5
              refine V_sh [(0, .ref (ad 0 0)), (1, .int (a1)), (2, .int (a2))] [.ref (ad 27 j5)] rfl rfl ?_
              refine V_iload_n 1 C rfl d_M_transfer_54 ?_
              refine V_iald C lj5 (osh_27 _ _ _ _) h.1 d_M_transfer_55 ?_
              replace h := h.2
              refine V_i2l C d_M_transfer_56 ?_
              refine V_goto C d_M_transfer_57 ?_
              exact V_lret C hr d_M_transfer_80 h
          · replace h := h.2 q
            refine V_aload_n 0 C rfl d_M_transfer_38 ?_
            obtain ⟨j6, ej6, h⟩ := h
            refine V_getr (f := 26) C f_M_68 l0 (osh_0 _ _ _ _) (fl_0_26 _ _ _) ej6 d_M_transfer_39 (fun lj6 => ?_)
            replace lj6 : j6 < cn 26 := lj6
            refine V_sh [(0, .ref (ad 0 0)), (1, .int (a1)), (2, .int (a2))] [.ref (ad 26 j6)] rfl rfl ?_
            refine V_iload_n 1 C rfl d_M_transfer_42 ?_
            refine V_lald C lj6 (osh_26 _ _ _ _) h.1 d_M_transfer_43 ?_
            replace h := h.2
            exact V_lret C hr d_M_transfer_44 h
        · replace h := h.2 q
          refine V_aload_n 0 C rfl d_M_transfer_25 ?_
          obtain ⟨j7, ej7, h⟩ := h
          refine V_getr (f := 24) C f_M_62 l0 (osh_0 _ _ _ _) (fl_0_24 _ _ _) ej7 d_M_transfer_26 (fun lj7 => ?_)
          replace lj7 : j7 < cn 24 := lj7
          refine V_sh [(0, .ref (ad 0 0)), (1, .int (a1)), (2, .int (a2))] [.ref (ad 24 j7)] rfl rfl ?_
          refine V_iload_n 1 C rfl d_M_transfer_29 ?_
          refine V_iald C lj7 (osh_24 _ _ _ _) h.1 d_M_transfer_30 ?_
          replace h := h.2
          refine V_i2l C d_M_transfer_31 ?_
          exact V_lret C hr d_M_transfer_32 h
      · replace h := h.2 q
        refine V_ldc2 (v := -1) C w_622 d_M_transfer_17 ?_
        exact V_lret C hr d_M_transfer_20 h
set_option maxRecDepth 100000 in
set_option maxHeartbeats 4000000 in
theorem ct_M_settlement (l : Launch) (Γ : oGm) (ad : oAd) (cn : Nat → Nat) (S : oSt) (a1 : Int32) (post : Int64 → oSt → Prop) (l0 : 0 < cn 0) (h : wp_M_settlement S a1 post) : Met l y_M_settlement (.code y_M_settlement prog_8_method_30_code 2 (some .long) :: oWS) { frames := 1, cells := 0, slots := 0, locals := 40 } (va_Pc [.ref (ad 0 0), .int (a1)] (oW Γ ad cn S)) (oQ Γ ad cn vJ post) 0 0 (oF Γ) := by
  refine o_met (lv := [(0, .ref (ad 0 0)), (1, .int (a1))]) (own := "ValueConnectorModel") (by decide) rfl (Nat.le_of_ble_eq_true rfl) rfl ?_
  intro p e s m args below meth c C hr hnm
  have hR : 1 ≤ ({ frames := 1, cells := 0, slots := 0, locals := 40 } : Room).frames ∧ 40 ≤ ({ frames := 1, cells := 0, slots := 0, locals := 40 } : Room).locals := ⟨Nat.le_refl _, Nat.le_refl _⟩
  unfold wp_M_settlement at h
  refine V_iload_n 1 C rfl d_M_settlement_0 ?_
  refine V_if_lt C d_M_settlement_1 (fun q => ?_) (fun q => ?_)
  · replace h := h.1 q
    refine V_ldc2 (v := -1) C w_622 d_M_settlement_12 ?_
    refine V_goto C d_M_settlement_15 ?_
    exact V_lret C hr d_M_settlement_24 h
  · replace h := h.2 q
    refine V_iload_n 1 C rfl d_M_settlement_4 ?_
    refine V_aload_n 0 C rfl d_M_settlement_5 ?_
    refine V_get C f_M_159 l0 (osh_0 _ _ _ _) (fl_0_31 _ _ _) d_M_settlement_6 ?_
    refine V_icmp_lt C d_M_settlement_9 (fun q => ?_) (fun q => ?_)
    · replace h := h.1 q
      refine V_aload_n 0 C rfl d_M_settlement_18 ?_
      obtain ⟨j1, ej1, h⟩ := h
      refine V_getr (f := 32) C f_M_83 l0 (osh_0 _ _ _ _) (fl_0_32 _ _ _) ej1 d_M_settlement_19 (fun lj1 => ?_)
      replace lj1 : j1 < cn 32 := lj1
      refine V_sh [(0, .ref (ad 0 0)), (1, .int (a1))] [.ref (ad 32 j1)] rfl rfl ?_
      refine V_iload_n 1 C rfl d_M_settlement_22 ?_
      refine V_lald C lj1 (osh_32 _ _ _ _) h.1 d_M_settlement_23 ?_
      replace h := h.2
      exact V_lret C hr d_M_settlement_24 h
    · replace h := h.2 q
      refine V_ldc2 (v := -1) C w_622 d_M_settlement_12 ?_
      refine V_goto C d_M_settlement_15 ?_
      exact V_lret C hr d_M_settlement_24 h
set_option maxRecDepth 100000 in
set_option maxHeartbeats 4000000 in
theorem ct_M_drops (l : Launch) (Γ : oGm) (ad : oAd) (cn : Nat → Nat) (S : oSt) (a1 : Int32) (post : Int32 → oSt → Prop) (l0 : 0 < cn 0) (h : wp_M_drops S a1 post) : Met l y_M_drops (.code y_M_drops prog_8_method_31_code 2 (some .int) :: oWS) { frames := 2, cells := 0, slots := 0, locals := 61 } (va_Pc [.ref (ad 0 0), .int (a1)] (oW Γ ad cn S)) (oQ Γ ad cn vI post) 0 0 (oF Γ) := by
  refine o_met (lv := [(0, .ref (ad 0 0)), (1, .int (a1))]) (own := "ValueConnectorModel") (by decide) rfl (Nat.le_of_ble_eq_true rfl) rfl ?_
  intro p e s m args below meth c C hr hnm
  have hR : 2 ≤ ({ frames := 2, cells := 0, slots := 0, locals := 61 } : Room).frames ∧ 61 ≤ ({ frames := 2, cells := 0, slots := 0, locals := 61 } : Room).locals := ⟨Nat.le_refl _, Nat.le_refl _⟩
  unfold wp_M_drops at h
  refine V_aload_n 0 C rfl d_M_drops_0 ?_
  refine V_iload_n 1 C rfl d_M_drops_1 ?_
  refine V_cV (As := [.int (a1)]) (rest := []) C k_M_99 l0 (osh_0 _ _ _ _) (ct_M_isAccount l Γ ad cn S (a1) _ l0 h) ⟨rfl, rfl⟩ ⟨Nat.le_trans (by decide) hR.1, Nat.le_trans (by decide) hR.2⟩ ⟨Nat.zero_le _, Nat.zero_le _⟩ rfl rfl (Nat.le_of_ble_eq_true rfl) d_M_drops_2 (fun r1 S2 h => ?_)
  refine V_sh [(0, .ref (ad 0 0)), (1, .int (a1))] [.int (r1)] rfl rfl ?_
  refine V_if_eq C d_M_drops_5 (fun q => ?_) (fun q => ?_)
  · replace h := h.1 q
    refine V_iconst (v := -1) C (by decide) d_M_drops_17 ?_
    exact V_iret C hr d_M_drops_18 h
  · replace h := h.2 q
    refine V_aload_n 0 C rfl d_M_drops_8 ?_
    obtain ⟨j3, ej3, h⟩ := h
    refine V_getr (f := 15) C f_M_41 l0 (osh_0 _ _ _ _) (fl_0_15 _ _ _) ej3 d_M_drops_9 (fun lj3 => ?_)
    replace lj3 : j3 < cn 15 := lj3
    refine V_sh [(0, .ref (ad 0 0)), (1, .int (a1))] [.ref (ad 15 j3)] rfl rfl ?_
    refine V_iload_n 1 C rfl d_M_drops_12 ?_
    refine V_iald C lj3 (osh_15 _ _ _ _) h.1 d_M_drops_13 ?_
    replace h := h.2
    refine V_goto C d_M_drops_14 ?_
    exact V_iret C hr d_M_drops_18 h
