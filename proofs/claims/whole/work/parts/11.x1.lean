set_option maxRecDepth 100000 in
set_option maxHeartbeats 4000000 in
theorem ct_X_isLetter (l : Launch) (Γ : oGm) (ad : oAd) (cn : Nat → Nat) (S : oSt) (a0 : Int64) (post : Int32 → oSt → Prop)  (h : wp_X_isLetter S a0 post) : Met l y_X_isLetter (.code y_X_isLetter prog_1_method_32_code 2 (some .boolean) :: oWS) { frames := 1, cells := 0, slots := 0, locals := 40 } (va_Pc [.long (a0)] (oW Γ ad cn S)) (oQ Γ ad cn vI post) 0 0 (oF Γ) := by
  refine o_met (lv := [(0, .long (a0))]) (own := "ValueConnector") (by decide) rfl (Nat.le_of_ble_eq_true rfl) rfl ?_
  intro p e s m args below meth c C hr hnm
  have hR : 1 ≤ ({ frames := 1, cells := 0, slots := 0, locals := 40 } : Room).frames ∧ 40 ≤ ({ frames := 1, cells := 0, slots := 0, locals := 40 } : Room).locals := ⟨Nat.le_refl _, Nat.le_refl _⟩
  unfold wp_X_isLetter at h
  refine V_lload_n 0 C rfl d_X_isLetter_0 ?_
  refine V_ldc2 (v := 97) C w_207 d_X_isLetter_1 ?_
  refine V_lcmp C d_X_isLetter_4 ?_
  refine V_if_lt C d_X_isLetter_5 (fun q => ?_) (fun q => ?_)
  · replace h := h.1 q
    refine V_iconst (v := 0) C (by decide) d_X_isLetter_20 ?_
    exact V_zret C hr (by decide) d_X_isLetter_21 h
  · replace h := h.2 q
    refine V_lload_n 0 C rfl d_X_isLetter_8 ?_
    refine V_ldc2 (v := 122) C w_208 d_X_isLetter_9 ?_
    refine V_lcmp C d_X_isLetter_12 ?_
    refine V_if_gt C d_X_isLetter_13 (fun q => ?_) (fun q => ?_)
    · replace h := h.1 q
      refine V_iconst (v := 0) C (by decide) d_X_isLetter_20 ?_
      exact V_zret C hr (by decide) d_X_isLetter_21 h
    · replace h := h.2 q
      refine V_iconst (v := 1) C (by decide) d_X_isLetter_16 ?_
      refine V_goto C d_X_isLetter_17 ?_
      exact V_zret C hr (by decide) d_X_isLetter_21 h
set_option maxRecDepth 100000 in
set_option maxHeartbeats 4000000 in
theorem B_X_letterCount_L4 {p : Program} {l : Launch} {e : Env} {R : Room} {s : State} {m : MethodId} {args : Array Value} {below : List Frame} {meth : Method} {c : Code} {Γ : oGm} {ad : oAd} {cn : Nat → Nat} {post : Int32 → oSt → Prop} (C : Cx p s m args meth c Γ prog_1_method_31_code 5 "ValueConnector") (hr : meth.sig.returnType = (some .int)) (hR : 2 ≤ R.frames ∧ 61 ≤ R.locals) : ∀ (n : Nat) (x2 : Int32) (x3 : Int64) (S : oSt) , wp_X_letterCount_L4 post n x2 x3 S → Vv p l e R s m args below meth c (MQ below (oQ Γ ad cn vI post) args s 0 0 (oF Γ)) Γ 5 0 0 ad cn S 4 [(2, .int (x2)), (3, .long (x3))] [] := by
  intro n
  induction n with
  | zero => intro x2 x3 S  h; exact h.elim
  | succ n ih =>
    intro x2 x3 S  h
    unfold wp_X_letterCount_L4 at h
    refine V_iload_n 0 C rfl d_X_letterCount_4 ?_
    refine V_bipush (v := 6) C (by decide) d_X_letterCount_5 ?_
    refine V_icmp_ge C d_X_letterCount_7 (fun q => ?_) (fun q => ?_)
    · replace h := h.1 q
      refine V_lload_n 1 C rfl d_X_letterCount_32 ?_
      refine V_lconst (v := 0) C (by decide) d_X_letterCount_33 ?_
      refine V_lcmp C d_X_letterCount_34 ?_
      refine V_if_ne C d_X_letterCount_35 (fun q => ?_) (fun q => ?_)
      · replace h := h.1 q
        refine V_iconst (v := -1) C (by decide) d_X_letterCount_42 ?_
        exact V_iret C hr d_X_letterCount_43 h
      · replace h := h.2 q
        refine V_iload_n 0 C rfl d_X_letterCount_38 ?_
        refine V_goto C d_X_letterCount_39 ?_
        exact V_iret C hr d_X_letterCount_43 h
    · replace h := h.2 q
      refine V_lload_n 1 C rfl d_X_letterCount_10 ?_
      refine V_ldc2 (v := 255) C w_203 d_X_letterCount_11 ?_
      refine V_land C d_X_letterCount_14 ?_
      refine V_cS (As := [.long ((x3 &&& (255 : Int64)))]) (rest := []) C k_X_223 (ct_X_isLetter l Γ ad cn S ((x3 &&& (255 : Int64))) _  h) ⟨rfl, rfl⟩ ⟨Nat.le_trans (by decide) hR.1, Nat.le_trans (by decide) hR.2⟩ ⟨Nat.zero_le _, Nat.zero_le _⟩ rfl rfl (Nat.le_of_ble_eq_true rfl) d_X_letterCount_15 (fun r1 S2 h => ?_)
      refine V_sh [(2, .int (x2)), (3, .long (x3))] [.int (r1)] rfl rfl ?_
      refine V_if_eq C d_X_letterCount_18 (fun q => ?_) (fun q => ?_)
      · replace h := h.1 q
        refine V_lload_n 1 C rfl d_X_letterCount_32 ?_
        refine V_lconst (v := 0) C (by decide) d_X_letterCount_33 ?_
        refine V_lcmp C d_X_letterCount_34 ?_
        refine V_if_ne C d_X_letterCount_35 (fun q => ?_) (fun q => ?_)
        · replace h := h.1 q
          refine V_iconst (v := -1) C (by decide) d_X_letterCount_42 ?_
          exact V_iret C hr d_X_letterCount_43 h
        · replace h := h.2 q
          refine V_iload_n 0 C rfl d_X_letterCount_38 ?_
          refine V_goto C d_X_letterCount_39 ?_
          exact V_iret C hr d_X_letterCount_43 h
      · replace h := h.2 q
        refine V_lload_n 1 C rfl d_X_letterCount_21 ?_
        refine V_bipush (v := 8) C (by decide) d_X_letterCount_22 ?_
        refine V_lushr C d_X_letterCount_24 ?_
        refine V_lstore_n C [(3, .long ((oush x3 (8 : Int32)))), (2, .int (x2))] (by decide) rfl d_X_letterCount_25 ?_
        refine V_iinc (v := (x2 + 1)) 1 C [(2, .int ((x2 + 1))), (3, .long ((oush x3 (8 : Int32))))] rfl rfl (by decide) rfl d_X_letterCount_26 ?_
        refine V_goto C d_X_letterCount_29 ?_
        exact ih ((x2 + 1)) ((oush x3 (8 : Int32))) S2  h
set_option maxRecDepth 100000 in
set_option maxHeartbeats 4000000 in
theorem ct_X_letterCount (l : Launch) (Γ : oGm) (ad : oAd) (cn : Nat → Nat) (S : oSt) (a0 : Int64) (post : Int32 → oSt → Prop)  (h : wp_X_letterCount S a0 post) : Met l y_X_letterCount (.code y_X_letterCount prog_1_method_31_code 5 (some .int) :: oWS) { frames := 2, cells := 0, slots := 0, locals := 61 } (va_Pc [.long (a0)] (oW Γ ad cn S)) (oQ Γ ad cn vI post) 0 0 (oF Γ) := by
  refine o_met (lv := [(0, .long (a0))]) (own := "ValueConnector") (by decide) rfl (Nat.le_of_ble_eq_true rfl) rfl ?_
  intro p e s m args below meth c C hr hnm
  have hR : 2 ≤ ({ frames := 2, cells := 0, slots := 0, locals := 61 } : Room).frames ∧ 61 ≤ ({ frames := 2, cells := 0, slots := 0, locals := 61 } : Room).locals := ⟨Nat.le_refl _, Nat.le_refl _⟩
  unfold wp_X_letterCount at h
  refine V_iconst (v := 0) C (by decide) d_X_letterCount_0 ?_
  refine V_istore_n C [(2, .int ((0 : Int32))), (0, .long (a0))] (by decide) rfl d_X_letterCount_1 ?_
  refine V_lload_n 1 C rfl d_X_letterCount_2 ?_
  refine V_lstore_n C [(3, .long (a0)), (2, .int ((0 : Int32))), (0, .long (a0))] (by decide) rfl d_X_letterCount_3 ?_
  refine V_lvs [1, 0] [(2, .int ((0 : Int32))), (3, .long (a0))] rfl ?_
  obtain ⟨n, h⟩ := h
  exact B_X_letterCount_L4 C hr hR n ((0 : Int32)) (a0) S  h
set_option maxRecDepth 100000 in
set_option maxHeartbeats 4000000 in
theorem B_R_placeOf_L3 {p : Program} {l : Launch} {e : Env} {R : Room} {s : State} {m : MethodId} {args : Array Value} {below : List Frame} {meth : Method} {c : Code} {Γ : oGm} {ad : oAd} {cn : Nat → Nat} {post : Int32 → oSt → Prop} (C : Cx p s m args meth c Γ prog_5_method_5_code 5 "ValueConnector$RouteTable") (hr : meth.sig.returnType = (some .int)) (hR : 1 ≤ R.frames ∧ 40 ≤ R.locals) : ∀ (n : Nat) (x1 : Int32) (x2 : Int64) (x4 : Int32) (S : oSt) (_ : 0 < cn 42), wp_R_placeOf_L3 post n x1 x2 x4 S → Vv p l e R s m args below meth c (MQ below (oQ Γ ad cn vI post) args s 0 0 (oF Γ)) Γ 5 0 0 ad cn S 3 [(0, .ref (ad 42 0)), (1, .int (x1)), (2, .long (x2)), (4, .int (x4))] [] := by
  intro n
  induction n with
  | zero => intro x1 x2 x4 S lx0 h; exact h.elim
  | succ n ih =>
    intro x1 x2 x4 S lx0 h
    unfold wp_R_placeOf_L3 at h
    refine V_iload 3 C rfl d_R_placeOf_3 ?_
    refine V_aload_n 0 C rfl d_R_placeOf_5 ?_
    refine V_get C f_R_22 lx0 (osh_42 _ _ _ _) (fl_42_3 _ _ _) d_R_placeOf_6 ?_
    refine V_icmp_ge C d_R_placeOf_9 (fun q => ?_) (fun q => ?_)
    · replace h := h.1 q
      refine V_iconst (v := -1) C (by decide) d_R_placeOf_44 ?_
      exact V_iret C hr d_R_placeOf_45 h
    · replace h := h.2 q
      refine V_aload_n 0 C rfl d_R_placeOf_12 ?_
      obtain ⟨j1, ej1, h⟩ := h
      refine V_getr (f := 0) C f_R_9 lx0 (osh_42 _ _ _ _) (fl_42_0 _ _ _) ej1 d_R_placeOf_13 (fun lj1 => ?_)
      replace lj1 : j1 < cn 45 := lj1
      refine V_sh [(0, .ref (ad 42 0)), (1, .int (x1)), (2, .long (x2)), (4, .int (x4))] [.ref (ad 45 j1)] rfl rfl ?_
      refine V_iload 3 C rfl d_R_placeOf_16 ?_
      refine V_iald C lj1 (osh_45 _ _ _ _) h.1 d_R_placeOf_18 ?_
      replace h := h.2
      refine V_iload_n 1 C rfl d_R_placeOf_19 ?_
      refine V_icmp_ne C d_R_placeOf_20 (fun q => ?_) (fun q => ?_)
      · replace h := h.1 q
        refine V_iinc (v := (x4 + 1)) 3 C [(4, .int ((x4 + 1))), (0, .ref (ad 42 0)), (1, .int (x1)), (2, .long (x2))] rfl rfl (by decide) rfl d_R_placeOf_38 ?_
        refine V_goto C d_R_placeOf_41 ?_
        refine V_lvs [1, 2, 3, 0] [(0, .ref (ad 42 0)), (1, .int (x1)), (2, .long (x2)), (4, .int ((x4 + 1)))] rfl ?_
        exact ih (x1) (x2) ((x4 + 1)) S lx0 h
      · replace h := h.2 q
        refine V_aload_n 0 C rfl d_R_placeOf_23 ?_
        obtain ⟨j2, ej2, h⟩ := h
        refine V_getr (f := 1) C f_R_15 lx0 (osh_42 _ _ _ _) (fl_42_1 _ _ _) ej2 d_R_placeOf_24 (fun lj2 => ?_)
        replace lj2 : j2 < cn 46 := lj2
        refine V_sh [(0, .ref (ad 42 0)), (1, .int (x1)), (2, .long (x2)), (4, .int (x4))] [.ref (ad 46 j2)] rfl rfl ?_
        refine V_iload 3 C rfl d_R_placeOf_27 ?_
        refine V_lald C lj2 (osh_46 _ _ _ _) h.1 d_R_placeOf_29 ?_
        replace h := h.2
        refine V_lload_n 2 C rfl d_R_placeOf_30 ?_
        refine V_lcmp C d_R_placeOf_31 ?_
        refine V_if_ne C d_R_placeOf_32 (fun q => ?_) (fun q => ?_)
        · replace h := h.1 q
          refine V_iinc (v := (x4 + 1)) 3 C [(4, .int ((x4 + 1))), (0, .ref (ad 42 0)), (1, .int (x1)), (2, .long (x2))] rfl rfl (by decide) rfl d_R_placeOf_38 ?_
          refine V_goto C d_R_placeOf_41 ?_
          refine V_lvs [1, 2, 3, 0] [(0, .ref (ad 42 0)), (1, .int (x1)), (2, .long (x2)), (4, .int ((x4 + 1)))] rfl ?_
          exact ih (x1) (x2) ((x4 + 1)) S lx0 h
        · replace h := h.2 q
          refine V_iload 3 C rfl d_R_placeOf_35 ?_
          exact V_iret C hr d_R_placeOf_37 h
set_option maxRecDepth 100000 in
set_option maxHeartbeats 4000000 in
theorem ct_R_placeOf (l : Launch) (Γ : oGm) (ad : oAd) (cn : Nat → Nat) (S : oSt) (a1 : Int32) (a2 : Int64) (post : Int32 → oSt → Prop) (l0 : 0 < cn 42) (h : wp_R_placeOf S a1 a2 post) : Met l y_R_placeOf (.code y_R_placeOf prog_5_method_5_code 5 (some .int) :: oWS) { frames := 1, cells := 0, slots := 0, locals := 40 } (va_Pc [.ref (ad 42 0), .int (a1), .long (a2)] (oW Γ ad cn S)) (oQ Γ ad cn vI post) 0 0 (oF Γ) := by
  refine o_met (lv := [(0, .ref (ad 42 0)), (1, .int (a1)), (2, .long (a2))]) (own := "ValueConnector$RouteTable") (by decide) rfl (Nat.le_of_ble_eq_true rfl) rfl ?_
  intro p e s m args below meth c C hr hnm
  have hR : 1 ≤ ({ frames := 1, cells := 0, slots := 0, locals := 40 } : Room).frames ∧ 40 ≤ ({ frames := 1, cells := 0, slots := 0, locals := 40 } : Room).locals := ⟨Nat.le_refl _, Nat.le_refl _⟩
  unfold wp_R_placeOf at h
  refine V_iconst (v := 0) C (by decide) d_R_placeOf_0 ?_
  refine V_istore C [(4, .int ((0 : Int32))), (0, .ref (ad 42 0)), (1, .int (a1)), (2, .long (a2))] (by decide) rfl d_R_placeOf_1 ?_
  refine V_lvs [1, 2, 3, 0] [(0, .ref (ad 42 0)), (1, .int (a1)), (2, .long (a2)), (4, .int ((0 : Int32)))] rfl ?_
  obtain ⟨n, h⟩ := h
  exact B_R_placeOf_L3 C hr hR n (a1) (a2) ((0 : Int32)) S l0 h
set_option maxRecDepth 100000 in
set_option maxHeartbeats 4000000 in
theorem ct_R_enter (l : Launch) (Γ : oGm) (ad : oAd) (cn : Nat → Nat) (S : oSt) (a1 : Int32) (a2 : Int64) (a4 : Int32) (post : Int32 → oSt → Prop) (l0 : 0 < cn 42) (h : wp_R_enter S a1 a2 a4 post) : Met l y_R_enter (.code y_R_enter prog_5_method_2_code 6 (some .boolean) :: oWS) { frames := 2, cells := 0, slots := 0, locals := 64 } (va_Pc [.ref (ad 42 0), .int (a1), .long (a2), .int (a4)] (oW Γ ad cn S)) (oQ Γ ad cn vI post) 0 0 (oF Γ) := by
  refine o_met (lv := [(0, .ref (ad 42 0)), (1, .int (a1)), (2, .long (a2)), (4, .int (a4))]) (own := "ValueConnector$RouteTable") (by decide) rfl (Nat.le_of_ble_eq_true rfl) rfl ?_
  intro p e s m args below meth c C hr hnm
  have hR : 2 ≤ ({ frames := 2, cells := 0, slots := 0, locals := 64 } : Room).frames ∧ 64 ≤ ({ frames := 2, cells := 0, slots := 0, locals := 64 } : Room).locals := ⟨Nat.le_refl _, Nat.le_refl _⟩
  unfold wp_R_enter at h
  refine V_aload_n 0 C rfl d_R_enter_0 ?_
  refine V_iload_n 1 C rfl d_R_enter_1 ?_
  refine V_lload_n 2 C rfl d_R_enter_2 ?_
  refine V_cV (As := [.int (a1), .long (a2)]) (rest := []) C k_R_26 l0 (osh_42 _ _ _ _) (ct_R_placeOf l Γ ad cn S (a1) (a2) _ l0 h) ⟨rfl, rfl⟩ ⟨Nat.le_trans (by decide) hR.1, Nat.le_trans (by decide) hR.2⟩ ⟨Nat.zero_le _, Nat.zero_le _⟩ rfl rfl (Nat.le_of_ble_eq_true rfl) d_R_enter_3 (fun r1 S2 h => ?_)
  refine V_sh [(0, .ref (ad 42 0)), (1, .int (a1)), (2, .long (a2)), (4, .int (a4))] [.int (r1)] rfl rfl ?_
  refine V_istore C [(5, .int (r1)), (0, .ref (ad 42 0)), (1, .int (a1)), (2, .long (a2)), (4, .int (a4))] (by decide) rfl d_R_enter_6 ?_
  refine V_iload 0 C rfl d_R_enter_8 ?_
  refine V_iconst (v := -1) C (by decide) d_R_enter_10 ?_
  refine V_icmp_eq C d_R_enter_11 (fun q => ?_) (fun q => ?_)
  · replace h := h.1 q
    refine V_aload_n 1 C rfl d_R_enter_25 ?_
    refine V_get C f_R_22 l0 (osh_42 _ _ _ _) (fl_42_3 _ _ _) d_R_enter_26 ?_
    refine V_bipush (v := 40) C (by decide) d_R_enter_29 ?_
    refine V_icmp_lt C d_R_enter_31 (fun q => ?_) (fun q => ?_)
    · replace h := h.1 q
      refine V_aload_n 1 C rfl d_R_enter_36 ?_
      obtain ⟨j3, ej3, h⟩ := h
      refine V_getr (f := 0) C f_R_9 l0 (osh_42 _ _ _ _) (fl_42_0 _ _ _) ej3 d_R_enter_37 (fun lj3 => ?_)
      replace lj3 : j3 < cn 45 := lj3
      refine V_sh [(5, .int (r1)), (0, .ref (ad 42 0)), (1, .int (a1)), (2, .long (a2)), (4, .int (a4))] [.ref (ad 45 j3)] rfl rfl ?_
      refine V_aload_n 1 C rfl d_R_enter_40 ?_
      refine V_get C f_R_22 l0 (osh_42 _ _ _ _) (fl_42_3 _ _ _) d_R_enter_41 ?_
      refine V_iload_n 2 C rfl d_R_enter_44 ?_
      refine V_iast C lj3 (fun _ => osh_45 _ _ _ _) h.1 d_R_enter_45 (fun S4 eS4 => ?_)
      replace h := h.2 S4 eS4
      refine V_aload_n 1 C rfl d_R_enter_46 ?_
      obtain ⟨j5, ej5, h⟩ := h
      refine V_getr (f := 1) C f_R_15 l0 (osh_42 _ _ _ _) (fl_42_1 _ _ _) ej5 d_R_enter_47 (fun lj5 => ?_)
      replace lj5 : j5 < cn 46 := lj5
      refine V_sh [(5, .int (r1)), (0, .ref (ad 42 0)), (1, .int (a1)), (2, .long (a2)), (4, .int (a4))] [.ref (ad 46 j5)] rfl rfl ?_
      refine V_aload_n 1 C rfl d_R_enter_50 ?_
      refine V_get C f_R_22 l0 (osh_42 _ _ _ _) (fl_42_3 _ _ _) d_R_enter_51 ?_
      refine V_lload_n 3 C rfl d_R_enter_54 ?_
      refine V_last C lj5 (fun _ => osh_46 _ _ _ _) h.1 d_R_enter_55 (fun S6 eS6 => ?_)
      replace h := h.2 S6 eS6
      refine V_aload_n 1 C rfl d_R_enter_56 ?_
      obtain ⟨j7, ej7, h⟩ := h
      refine V_getr (f := 2) C f_R_19 l0 (osh_42 _ _ _ _) (fl_42_2 _ _ _) ej7 d_R_enter_57 (fun lj7 => ?_)
      replace lj7 : j7 < cn 47 := lj7
      refine V_sh [(5, .int (r1)), (0, .ref (ad 42 0)), (1, .int (a1)), (2, .long (a2)), (4, .int (a4))] [.ref (ad 47 j7)] rfl rfl ?_
      refine V_aload_n 1 C rfl d_R_enter_60 ?_
      refine V_get C f_R_22 l0 (osh_42 _ _ _ _) (fl_42_3 _ _ _) d_R_enter_61 ?_
      refine V_iload 4 C rfl d_R_enter_64 ?_
      refine V_iast C lj7 (fun _ => osh_47 _ _ _ _) h.1 d_R_enter_66 (fun S8 eS8 => ?_)
      replace h := h.2 S8 eS8
      refine V_aload_n 1 C rfl d_R_enter_67 ?_
      refine V_dup C rfl d_R_enter_68 ?_
      refine V_get C f_R_22 l0 (osh_42 _ _ _ _) (fl_42_3 _ _ _) d_R_enter_69 ?_
      refine V_iconst (v := 1) C (by decide) d_R_enter_72 ?_
      refine V_iadd C d_R_enter_73 ?_
      refine V_puti (f := 3) C p_R_22 (fun z => by cases z) l0 (osh_42 _ _ _ _) (fl_42_len _ _ _ 3 (by decide)) (up_42_3 _ _ _ _ _) d_R_enter_74 (fun S9 eS9 => ?_)
      replace h := h S9 eS9
      refine V_iconst (v := 1) C (by decide) d_R_enter_77 ?_
      exact V_zret C hr (by decide) d_R_enter_78 h
    · replace h := h.2 q
      refine V_iconst (v := 0) C (by decide) d_R_enter_34 ?_
      exact V_zret C hr (by decide) d_R_enter_35 h
  · replace h := h.2 q
    refine V_aload_n 1 C rfl d_R_enter_14 ?_
    obtain ⟨j10, ej10, h⟩ := h
    refine V_getr (f := 2) C f_R_19 l0 (osh_42 _ _ _ _) (fl_42_2 _ _ _) ej10 d_R_enter_15 (fun lj10 => ?_)
    replace lj10 : j10 < cn 47 := lj10
    refine V_sh [(5, .int (r1)), (0, .ref (ad 42 0)), (1, .int (a1)), (2, .long (a2)), (4, .int (a4))] [.ref (ad 47 j10)] rfl rfl ?_
    refine V_iload 0 C rfl d_R_enter_18 ?_
    refine V_iload 4 C rfl d_R_enter_20 ?_
    refine V_iast C lj10 (fun _ => osh_47 _ _ _ _) h.1 d_R_enter_22 (fun S11 eS11 => ?_)
    replace h := h.2 S11 eS11
    refine V_iconst (v := 1) C (by decide) d_R_enter_23 ?_
    exact V_zret C hr (by decide) d_R_enter_24 h
set_option maxRecDepth 100000 in
set_option maxHeartbeats 4000000 in
theorem ct_X_learn (l : Launch) (Γ : oGm) (ad : oAd) (cn : Nat → Nat) (S : oSt) (a1 : Int32) (a2 : Int64) (a4 : Int32) (post : Int32 → oSt → Prop) (l0 : 0 < cn 40) (h : wp_X_learn S a1 a2 a4 post) : Met l y_X_learn (.code y_X_learn prog_1_method_7_code 5 (some .boolean) :: oWS) { frames := 3, cells := 0, slots := 0, locals := 89 } (va_Pc [.ref (ad 40 0), .int (a1), .long (a2), .int (a4)] (oW Γ ad cn S)) (oQ Γ ad cn vI post) 0 0 (oF Γ) := by
  refine o_met (lv := [(0, .ref (ad 40 0)), (1, .int (a1)), (2, .long (a2)), (4, .int (a4))]) (own := "ValueConnector") (by decide) rfl (Nat.le_of_ble_eq_true rfl) rfl ?_
  intro p e s m args below meth c C hr hnm
  have hR : 3 ≤ ({ frames := 3, cells := 0, slots := 0, locals := 89 } : Room).frames ∧ 89 ≤ ({ frames := 3, cells := 0, slots := 0, locals := 89 } : Room).locals := ⟨Nat.le_refl _, Nat.le_refl _⟩
  unfold wp_X_learn at h
  refine V_aload_n 0 C rfl d_X_learn_0 ?_
  refine V_iload_n 1 C rfl d_X_learn_1 ?_
  refine V_cV (As := [.int (a1)]) (rest := []) C k_X_65 l0 (osh_40 _ _ _ _) (ct_X_accountNumbered l Γ ad cn S (a1) _ l0 h) ⟨rfl, rfl⟩ ⟨Nat.le_trans (by decide) hR.1, Nat.le_trans (by decide) hR.2⟩ ⟨Nat.zero_le _, Nat.zero_le _⟩ rfl rfl (Nat.le_of_ble_eq_true rfl) d_X_learn_2 (fun r1 S2 h => ?_)
  obtain ⟨lr1, h⟩ := h
  refine V_sh [(0, .ref (ad 40 0)), (1, .int (a1)), (2, .long (a2)), (4, .int (a4))] [rv ad 48 r1] rfl rfl ?_
  refine V_ifnull (kd := 48) (o := r1) C d_X_learn_5 (fun q => ?_) (fun j3 q => ?_)
  · replace h := h.1 q
    subst q
    refine V_iconst (v := 0) C (by decide) d_X_learn_27 ?_
    exact V_zret C hr (by decide) d_X_learn_28 h
  · replace h := h.2 j3 q
    subst q
    have lj3 := lr1 j3 rfl
    refine V_sh [(0, .ref (ad 40 0)), (1, .int (a1)), (2, .long (a2)), (4, .int (a4))] [] rfl rfl ?_
    refine V_lload_n 2 C rfl d_X_learn_8 ?_
    refine V_cS (As := [.long (a2)]) (rest := []) C k_X_98 (ct_X_letterCount l Γ ad cn S2 (a2) _  h) ⟨rfl, rfl⟩ ⟨Nat.le_trans (by decide) hR.1, Nat.le_trans (by decide) hR.2⟩ ⟨Nat.zero_le _, Nat.zero_le _⟩ rfl rfl (Nat.le_of_ble_eq_true rfl) d_X_learn_9 (fun r4 S5 h => ?_)
    refine V_sh [(0, .ref (ad 40 0)), (1, .int (a1)), (2, .long (a2)), (4, .int (a4))] [.int (r4)] rfl rfl ?_
    refine V_iconst (v := -1) C (by decide) d_X_learn_12 ?_
    refine V_icmp_eq C d_X_learn_13 (fun q => ?_) (fun q => ?_)
    · replace h := h.1 q
      refine V_iconst (v := 0) C (by decide) d_X_learn_27 ?_
      exact V_zret C hr (by decide) d_X_learn_28 h
    · replace h := h.2 q
      refine V_iload 3 C rfl d_X_learn_16 ?_
      refine V_iconst (v := 1) C (by decide) d_X_learn_18 ?_
      refine V_bipush (v := 15) C (by decide) d_X_learn_19 ?_
      refine V_cS (As := [.int (a4), .int ((1 : Int32)), .int ((15 : Int32))]) (rest := []) C k_X_49 (ct_X_isWithin l Γ ad cn S5 (a4) ((1 : Int32)) ((15 : Int32)) _  h) ⟨rfl, rfl⟩ ⟨Nat.le_trans (by decide) hR.1, Nat.le_trans (by decide) hR.2⟩ ⟨Nat.zero_le _, Nat.zero_le _⟩ rfl rfl (Nat.le_of_ble_eq_true rfl) d_X_learn_21 (fun r6 S7 h => ?_)
      refine V_sh [(0, .ref (ad 40 0)), (1, .int (a1)), (2, .long (a2)), (4, .int (a4))] [.int (r6)] rfl rfl ?_
      refine V_if_ne C d_X_learn_24 (fun q => ?_) (fun q => ?_)
      · replace h := h.1 q
        refine V_aload_n 0 C rfl d_X_learn_29 ?_
        obtain ⟨j8, ej8, h⟩ := h
        refine V_getr (f := 3) C f_X_18 l0 (osh_40 _ _ _ _) (fl_40_3 _ _ _) ej8 d_X_learn_30 (fun lj8 => ?_)
        replace lj8 : j8 < cn 42 := lj8
        refine V_sh [(0, .ref (ad 40 0)), (1, .int (a1)), (2, .long (a2)), (4, .int (a4))] [.ref (ad 42 j8)] rfl rfl ?_
        refine V_iload_n 1 C rfl d_X_learn_33 ?_
        refine V_lload_n 2 C rfl d_X_learn_34 ?_
        refine V_iload 3 C rfl d_X_learn_35 ?_
        obtain ⟨q, hq9⟩ := h
        subst q
        have h := hq9
        refine V_cV (As := [.int (a1), .long (a2), .int (a4)]) (rest := []) C k_X_102 lj8 (osh_42 _ _ _ _) (ct_R_enter l Γ ad cn S7 (a1) (a2) (a4) _ lj8 h) ⟨rfl, rfl⟩ ⟨Nat.le_trans (by decide) hR.1, Nat.le_trans (by decide) hR.2⟩ ⟨Nat.zero_le _, Nat.zero_le _⟩ rfl rfl (Nat.le_of_ble_eq_true rfl) d_X_learn_37 (fun r10 S11 h => ?_)
        refine V_sh [(0, .ref (ad 40 0)), (1, .int (a1)), (2, .long (a2)), (4, .int (a4))] [.int (r10)] rfl rfl ?_
        exact V_zret C hr h.1 d_X_learn_40 h.2
      · replace h := h.2 q
        refine V_iconst (v := 0) C (by decide) d_X_learn_27 ?_
        exact V_zret C hr (by decide) d_X_learn_28 h
set_option maxRecDepth 100000 in
set_option maxHeartbeats 4000000 in
theorem ct_R_strike (l : Launch) (Γ : oGm) (ad : oAd) (cn : Nat → Nat) (S : oSt) (a1 : Int32) (a2 : Int64) (post : Int32 → oSt → Prop) (l0 : 0 < cn 42) (h : wp_R_strike S a1 a2 post) : Met l y_R_strike (.code y_R_strike prog_5_method_3_code 5 (some .boolean) :: oWS) { frames := 2, cells := 0, slots := 0, locals := 64 } (va_Pc [.ref (ad 42 0), .int (a1), .long (a2)] (oW Γ ad cn S)) (oQ Γ ad cn vI post) 0 0 (oF Γ) := by
  refine o_met (lv := [(0, .ref (ad 42 0)), (1, .int (a1)), (2, .long (a2))]) (own := "ValueConnector$RouteTable") (by decide) rfl (Nat.le_of_ble_eq_true rfl) rfl ?_
  intro p e s m args below meth c C hr hnm
  have hR : 2 ≤ ({ frames := 2, cells := 0, slots := 0, locals := 64 } : Room).frames ∧ 64 ≤ ({ frames := 2, cells := 0, slots := 0, locals := 64 } : Room).locals := ⟨Nat.le_refl _, Nat.le_refl _⟩
  unfold wp_R_strike at h
  refine V_aload_n 0 C rfl d_R_strike_0 ?_
  refine V_iload_n 1 C rfl d_R_strike_1 ?_
  refine V_lload_n 2 C rfl d_R_strike_2 ?_
  refine V_cV (As := [.int (a1), .long (a2)]) (rest := []) C k_R_26 l0 (osh_42 _ _ _ _) (ct_R_placeOf l Γ ad cn S (a1) (a2) _ l0 h) ⟨rfl, rfl⟩ ⟨Nat.le_trans (by decide) hR.1, Nat.le_trans (by decide) hR.2⟩ ⟨Nat.zero_le _, Nat.zero_le _⟩ rfl rfl (Nat.le_of_ble_eq_true rfl) d_R_strike_3 (fun r1 S2 h => ?_)
  refine V_sh [(0, .ref (ad 42 0)), (1, .int (a1)), (2, .long (a2))] [.int (r1)] rfl rfl ?_
  refine V_istore C [(4, .int (r1)), (0, .ref (ad 42 0)), (1, .int (a1)), (2, .long (a2))] (by decide) rfl d_R_strike_6 ?_
  refine V_iload 0 C rfl d_R_strike_8 ?_
  refine V_iconst (v := -1) C (by decide) d_R_strike_10 ?_
  refine V_icmp_ne C d_R_strike_11 (fun q => ?_) (fun q => ?_)
  · replace h := h.1 q
    refine V_aload_n 1 C rfl d_R_strike_16 ?_
    refine V_dup C rfl d_R_strike_17 ?_
    refine V_get C f_R_22 l0 (osh_42 _ _ _ _) (fl_42_3 _ _ _) d_R_strike_18 ?_
    refine V_iconst (v := 1) C (by decide) d_R_strike_21 ?_
    refine V_isub C d_R_strike_22 ?_
    refine V_puti (f := 3) C p_R_22 (fun z => by cases z) l0 (osh_42 _ _ _ _) (fl_42_len _ _ _ 3 (by decide)) (up_42_3 _ _ _ _ _) d_R_strike_23 (fun S3 eS3 => ?_)
    replace h := h S3 eS3
    refine V_aload_n 1 C rfl d_R_strike_26 ?_
    obtain ⟨j4, ej4, h⟩ := h
    refine V_getr (f := 0) C f_R_9 l0 (osh_42 _ _ _ _) (fl_42_0 _ _ _) ej4 d_R_strike_27 (fun lj4 => ?_)
    replace lj4 : j4 < cn 45 := lj4
    refine V_sh [(4, .int (r1)), (0, .ref (ad 42 0)), (1, .int (a1)), (2, .long (a2))] [.ref (ad 45 j4)] rfl rfl ?_
    refine V_iload 0 C rfl d_R_strike_30 ?_
    refine V_aload_n 1 C rfl d_R_strike_32 ?_
    obtain ⟨j5, ej5, h⟩ := h
    refine V_getr (f := 0) C f_R_9 l0 (osh_42 _ _ _ _) (fl_42_0 _ _ _) ej5 d_R_strike_33 (fun lj5 => ?_)
    replace lj5 : j5 < cn 45 := lj5
    refine V_sh [(4, .int (r1)), (0, .ref (ad 42 0)), (1, .int (a1)), (2, .long (a2))] [.ref (ad 45 j5), .int (r1), .ref (ad 45 j4)] rfl rfl ?_
    refine V_aload_n 1 C rfl d_R_strike_36 ?_
    refine V_get C f_R_22 l0 (osh_42 _ _ _ _) (fl_42_3 _ _ _) d_R_strike_37 ?_
    refine V_iald C lj5 (osh_45 _ _ _ _) h.1 d_R_strike_40 ?_
    replace h := h.2
    refine V_iast C lj4 (fun _ => osh_45 _ _ _ _) h.1 d_R_strike_41 (fun S6 eS6 => ?_)
    replace h := h.2 S6 eS6
    refine V_aload_n 1 C rfl d_R_strike_42 ?_
    obtain ⟨j7, ej7, h⟩ := h
    refine V_getr (f := 1) C f_R_15 l0 (osh_42 _ _ _ _) (fl_42_1 _ _ _) ej7 d_R_strike_43 (fun lj7 => ?_)
    replace lj7 : j7 < cn 46 := lj7
    refine V_sh [(4, .int (r1)), (0, .ref (ad 42 0)), (1, .int (a1)), (2, .long (a2))] [.ref (ad 46 j7)] rfl rfl ?_
    refine V_iload 0 C rfl d_R_strike_46 ?_
    refine V_aload_n 1 C rfl d_R_strike_48 ?_
    obtain ⟨j8, ej8, h⟩ := h
    refine V_getr (f := 1) C f_R_15 l0 (osh_42 _ _ _ _) (fl_42_1 _ _ _) ej8 d_R_strike_49 (fun lj8 => ?_)
    replace lj8 : j8 < cn 46 := lj8
    refine V_sh [(4, .int (r1)), (0, .ref (ad 42 0)), (1, .int (a1)), (2, .long (a2))] [.ref (ad 46 j8), .int (r1), .ref (ad 46 j7)] rfl rfl ?_
    refine V_aload_n 1 C rfl d_R_strike_52 ?_
    refine V_get C f_R_22 l0 (osh_42 _ _ _ _) (fl_42_3 _ _ _) d_R_strike_53 ?_
    refine V_lald C lj8 (osh_46 _ _ _ _) h.1 d_R_strike_56 ?_
    replace h := h.2
    refine V_last C lj7 (fun _ => osh_46 _ _ _ _) h.1 d_R_strike_57 (fun S9 eS9 => ?_)
    replace h := h.2 S9 eS9
    refine V_aload_n 1 C rfl d_R_strike_58 ?_
    obtain ⟨j10, ej10, h⟩ := h
    refine V_getr (f := 2) C f_R_19 l0 (osh_42 _ _ _ _) (fl_42_2 _ _ _) ej10 d_R_strike_59 (fun lj10 => ?_)
    replace lj10 : j10 < cn 47 := lj10
    refine V_sh [(4, .int (r1)), (0, .ref (ad 42 0)), (1, .int (a1)), (2, .long (a2))] [.ref (ad 47 j10)] rfl rfl ?_
    refine V_iload 0 C rfl d_R_strike_62 ?_
    refine V_aload_n 1 C rfl d_R_strike_64 ?_
    obtain ⟨j11, ej11, h⟩ := h
    refine V_getr (f := 2) C f_R_19 l0 (osh_42 _ _ _ _) (fl_42_2 _ _ _) ej11 d_R_strike_65 (fun lj11 => ?_)
    replace lj11 : j11 < cn 47 := lj11
    refine V_sh [(4, .int (r1)), (0, .ref (ad 42 0)), (1, .int (a1)), (2, .long (a2))] [.ref (ad 47 j11), .int (r1), .ref (ad 47 j10)] rfl rfl ?_
    refine V_aload_n 1 C rfl d_R_strike_68 ?_
    refine V_get C f_R_22 l0 (osh_42 _ _ _ _) (fl_42_3 _ _ _) d_R_strike_69 ?_
    refine V_iald C lj11 (osh_47 _ _ _ _) h.1 d_R_strike_72 ?_
    replace h := h.2
    refine V_iast C lj10 (fun _ => osh_47 _ _ _ _) h.1 d_R_strike_73 (fun S12 eS12 => ?_)
    replace h := h.2 S12 eS12
    refine V_iconst (v := 1) C (by decide) d_R_strike_74 ?_
    exact V_zret C hr (by decide) d_R_strike_75 h
  · replace h := h.2 q
    refine V_iconst (v := 0) C (by decide) d_R_strike_14 ?_
    exact V_zret C hr (by decide) d_R_strike_15 h
set_option maxRecDepth 100000 in
set_option maxHeartbeats 4000000 in
theorem ct_X_forget (l : Launch) (Γ : oGm) (ad : oAd) (cn : Nat → Nat) (S : oSt) (a1 : Int32) (a2 : Int64) (post : Int32 → oSt → Prop) (l0 : 0 < cn 40) (h : wp_X_forget S a1 a2 post) : Met l y_X_forget (.code y_X_forget prog_1_method_8_code 4 (some .boolean) :: oWS) { frames := 3, cells := 0, slots := 0, locals := 88 } (va_Pc [.ref (ad 40 0), .int (a1), .long (a2)] (oW Γ ad cn S)) (oQ Γ ad cn vI post) 0 0 (oF Γ) := by
  refine o_met (lv := [(0, .ref (ad 40 0)), (1, .int (a1)), (2, .long (a2))]) (own := "ValueConnector") (by decide) rfl (Nat.le_of_ble_eq_true rfl) rfl ?_
  intro p e s m args below meth c C hr hnm
  have hR : 3 ≤ ({ frames := 3, cells := 0, slots := 0, locals := 88 } : Room).frames ∧ 88 ≤ ({ frames := 3, cells := 0, slots := 0, locals := 88 } : Room).locals := ⟨Nat.le_refl _, Nat.le_refl _⟩
  unfold wp_X_forget at h
  refine V_aload_n 0 C rfl d_X_forget_0 ?_
  obtain ⟨j1, ej1, h⟩ := h
  refine V_getr (f := 3) C f_X_18 l0 (osh_40 _ _ _ _) (fl_40_3 _ _ _) ej1 d_X_forget_1 (fun lj1 => ?_)
  replace lj1 : j1 < cn 42 := lj1
  refine V_sh [(0, .ref (ad 40 0)), (1, .int (a1)), (2, .long (a2))] [.ref (ad 42 j1)] rfl rfl ?_
  refine V_iload_n 1 C rfl d_X_forget_4 ?_
  refine V_lload_n 2 C rfl d_X_forget_5 ?_
  obtain ⟨q, hq2⟩ := h
  subst q
  have h := hq2
  refine V_cV (As := [.int (a1), .long (a2)]) (rest := []) C k_X_106 lj1 (osh_42 _ _ _ _) (ct_R_strike l Γ ad cn S (a1) (a2) _ lj1 h) ⟨rfl, rfl⟩ ⟨Nat.le_trans (by decide) hR.1, Nat.le_trans (by decide) hR.2⟩ ⟨Nat.zero_le _, Nat.zero_le _⟩ rfl rfl (Nat.le_of_ble_eq_true rfl) d_X_forget_6 (fun r3 S4 h => ?_)
  refine V_sh [(0, .ref (ad 40 0)), (1, .int (a1)), (2, .long (a2))] [.int (r3)] rfl rfl ?_
  exact V_zret C hr h.1 d_X_forget_9 h.2
set_option maxRecDepth 100000 in
set_option maxHeartbeats 4000000 in
theorem ct_X_isAddress (l : Launch) (Γ : oGm) (ad : oAd) (cn : Nat → Nat) (S : oSt) (a0 : Int64) (post : Int32 → oSt → Prop)  (h : wp_X_isAddress S a0 post) : Met l y_X_isAddress (.code y_X_isAddress prog_1_method_30_code 2 (some .boolean) :: oWS) { frames := 3, cells := 0, slots := 0, locals := 85 } (va_Pc [.long (a0)] (oW Γ ad cn S)) (oQ Γ ad cn vI post) 0 0 (oF Γ) := by
  refine o_met (lv := [(0, .long (a0))]) (own := "ValueConnector") (by decide) rfl (Nat.le_of_ble_eq_true rfl) rfl ?_
  intro p e s m args below meth c C hr hnm
  have hR : 3 ≤ ({ frames := 3, cells := 0, slots := 0, locals := 85 } : Room).frames ∧ 85 ≤ ({ frames := 3, cells := 0, slots := 0, locals := 85 } : Room).locals := ⟨Nat.le_refl _, Nat.le_refl _⟩
  unfold wp_X_isAddress at h
  refine V_lload_n 0 C rfl d_X_isAddress_0 ?_
  refine V_cS (As := [.long (a0)]) (rest := []) C k_X_98 (ct_X_letterCount l Γ ad cn S (a0) _  h) ⟨rfl, rfl⟩ ⟨Nat.le_trans (by decide) hR.1, Nat.le_trans (by decide) hR.2⟩ ⟨Nat.zero_le _, Nat.zero_le _⟩ rfl rfl (Nat.le_of_ble_eq_true rfl) d_X_isAddress_1 (fun r1 S2 h => ?_)
  refine V_sh [(0, .long (a0))] [.int (r1)] rfl rfl ?_
  refine V_iconst (v := 1) C (by decide) d_X_isAddress_4 ?_
  refine V_icmp_lt C d_X_isAddress_5 (fun q => ?_) (fun q => ?_)
  · replace h := h.1 q
    refine V_iconst (v := 0) C (by decide) d_X_isAddress_12 ?_
    exact V_zret C hr (by decide) d_X_isAddress_13 h
  · replace h := h.2 q
    refine V_iconst (v := 1) C (by decide) d_X_isAddress_8 ?_
    refine V_goto C d_X_isAddress_9 ?_
    exact V_zret C hr (by decide) d_X_isAddress_13 h
set_option maxRecDepth 100000 in
set_option maxHeartbeats 4000000 in
theorem ct_R_firstLetters (l : Launch) (Γ : oGm) (ad : oAd) (cn : Nat → Nat) (S : oSt) (a0 : Int64) (a2 : Int32) (post : Int64 → oSt → Prop)  (h : wp_R_firstLetters S a0 a2 post) : Met l y_R_firstLetters (.code y_R_firstLetters prog_5_method_8_code 3 (some .long) :: oWS) { frames := 1, cells := 0, slots := 0, locals := 40 } (va_Pc [.long (a0), .int (a2)] (oW Γ ad cn S)) (oQ Γ ad cn vJ post) 0 0 (oF Γ) := by
  refine o_met (lv := [(0, .long (a0)), (2, .int (a2))]) (own := "ValueConnector$RouteTable") (by decide) rfl (Nat.le_of_ble_eq_true rfl) rfl ?_
  intro p e s m args below meth c C hr hnm
  have hR : 1 ≤ ({ frames := 1, cells := 0, slots := 0, locals := 40 } : Room).frames ∧ 40 ≤ ({ frames := 1, cells := 0, slots := 0, locals := 40 } : Room).locals := ⟨Nat.le_refl _, Nat.le_refl _⟩
  unfold wp_R_firstLetters at h
  refine V_lload_n 0 C rfl d_R_firstLetters_0 ?_
  refine V_lconst (v := 1) C (by decide) d_R_firstLetters_1 ?_
  refine V_bipush (v := 8) C (by decide) d_R_firstLetters_2 ?_
  refine V_iload_n 1 C rfl d_R_firstLetters_4 ?_
  refine V_imul C d_R_firstLetters_5 ?_
  refine V_lshl C d_R_firstLetters_6 ?_
  refine V_lconst (v := 1) C (by decide) d_R_firstLetters_7 ?_
  refine V_lsub C d_R_firstLetters_8 ?_
  refine V_land C d_R_firstLetters_9 ?_
  exact V_lret C hr d_R_firstLetters_10 h
set_option maxRecDepth 100000 in
set_option maxHeartbeats 4000000 in
theorem ct_R_isNearer (l : Launch) (Γ : oGm) (ad : oAd) (cn : Nat → Nat) (S : oSt) (a1 : Int32) (a2 : Int32) (post : Int32 → oSt → Prop) (l0 : 0 < cn 42) (h : wp_R_isNearer S a1 a2 post) : Met l y_R_isNearer (.code y_R_isNearer prog_5_method_7_code 3 (some .boolean) :: oWS) { frames := 1, cells := 0, slots := 0, locals := 40 } (va_Pc [.ref (ad 42 0), .int (a1), .int (a2)] (oW Γ ad cn S)) (oQ Γ ad cn vI post) 0 0 (oF Γ) := by
  refine o_met (lv := [(0, .ref (ad 42 0)), (1, .int (a1)), (2, .int (a2))]) (own := "ValueConnector$RouteTable") (by decide) rfl (Nat.le_of_ble_eq_true rfl) rfl ?_
  intro p e s m args below meth c C hr hnm
  have hR : 1 ≤ ({ frames := 1, cells := 0, slots := 0, locals := 40 } : Room).frames ∧ 40 ≤ ({ frames := 1, cells := 0, slots := 0, locals := 40 } : Room).locals := ⟨Nat.le_refl _, Nat.le_refl _⟩
  unfold wp_R_isNearer at h
  refine V_aload_n 0 C rfl d_R_isNearer_0 ?_
  obtain ⟨j1, ej1, h⟩ := h
  refine V_getr (f := 2) C f_R_19 l0 (osh_42 _ _ _ _) (fl_42_2 _ _ _) ej1 d_R_isNearer_1 (fun lj1 => ?_)
  replace lj1 : j1 < cn 47 := lj1
  refine V_sh [(0, .ref (ad 42 0)), (1, .int (a1)), (2, .int (a2))] [.ref (ad 47 j1)] rfl rfl ?_
  refine V_iload_n 1 C rfl d_R_isNearer_4 ?_
  refine V_iald C lj1 (osh_47 _ _ _ _) h.1 d_R_isNearer_5 ?_
  replace h := h.2
  refine V_aload_n 0 C rfl d_R_isNearer_6 ?_
  obtain ⟨j2, ej2, h⟩ := h
  refine V_getr (f := 2) C f_R_19 l0 (osh_42 _ _ _ _) (fl_42_2 _ _ _) ej2 d_R_isNearer_7 (fun lj2 => ?_)
  replace lj2 : j2 < cn 47 := lj2
  refine V_sh [(0, .ref (ad 42 0)), (1, .int (a1)), (2, .int (a2))] [.ref (ad 47 j2), .int ((S.1 47 j1 (Int32.toNatClampNeg a1)))] rfl rfl ?_
  refine V_iload_n 2 C rfl d_R_isNearer_10 ?_
  refine V_iald C lj2 (osh_47 _ _ _ _) h.1 d_R_isNearer_11 ?_
  replace h := h.2
  refine V_icmp_eq C d_R_isNearer_12 (fun q => ?_) (fun q => ?_)
  · replace h := h.1 q
    refine V_aload_n 0 C rfl d_R_isNearer_36 ?_
    obtain ⟨j3, ej3, h⟩ := h
    refine V_getr (f := 0) C f_R_9 l0 (osh_42 _ _ _ _) (fl_42_0 _ _ _) ej3 d_R_isNearer_37 (fun lj3 => ?_)
    replace lj3 : j3 < cn 45 := lj3
    refine V_sh [(0, .ref (ad 42 0)), (1, .int (a1)), (2, .int (a2))] [.ref (ad 45 j3)] rfl rfl ?_
    refine V_iload_n 1 C rfl d_R_isNearer_40 ?_
    refine V_iald C lj3 (osh_45 _ _ _ _) h.1 d_R_isNearer_41 ?_
    replace h := h.2
    refine V_aload_n 0 C rfl d_R_isNearer_42 ?_
    obtain ⟨j4, ej4, h⟩ := h
    refine V_getr (f := 0) C f_R_9 l0 (osh_42 _ _ _ _) (fl_42_0 _ _ _) ej4 d_R_isNearer_43 (fun lj4 => ?_)
    replace lj4 : j4 < cn 45 := lj4
    refine V_sh [(0, .ref (ad 42 0)), (1, .int (a1)), (2, .int (a2))] [.ref (ad 45 j4), .int ((S.1 45 j3 (Int32.toNatClampNeg a1)))] rfl rfl ?_
    refine V_iload_n 2 C rfl d_R_isNearer_46 ?_
    refine V_iald C lj4 (osh_45 _ _ _ _) h.1 d_R_isNearer_47 ?_
    replace h := h.2
    refine V_icmp_ge C d_R_isNearer_48 (fun q => ?_) (fun q => ?_)
    · replace h := h.1 q
      refine V_iconst (v := 0) C (by decide) d_R_isNearer_55 ?_
      exact V_zret C hr (by decide) d_R_isNearer_56 h
    · replace h := h.2 q
      refine V_iconst (v := 1) C (by decide) d_R_isNearer_51 ?_
      refine V_goto C d_R_isNearer_52 ?_
      exact V_zret C hr (by decide) d_R_isNearer_56 h
  · replace h := h.2 q
    refine V_aload_n 0 C rfl d_R_isNearer_15 ?_
    obtain ⟨j5, ej5, h⟩ := h
    refine V_getr (f := 2) C f_R_19 l0 (osh_42 _ _ _ _) (fl_42_2 _ _ _) ej5 d_R_isNearer_16 (fun lj5 => ?_)
    replace lj5 : j5 < cn 47 := lj5
    refine V_sh [(0, .ref (ad 42 0)), (1, .int (a1)), (2, .int (a2))] [.ref (ad 47 j5)] rfl rfl ?_
    refine V_iload_n 1 C rfl d_R_isNearer_19 ?_
    refine V_iald C lj5 (osh_47 _ _ _ _) h.1 d_R_isNearer_20 ?_
    replace h := h.2
    refine V_aload_n 0 C rfl d_R_isNearer_21 ?_
    obtain ⟨j6, ej6, h⟩ := h
    refine V_getr (f := 2) C f_R_19 l0 (osh_42 _ _ _ _) (fl_42_2 _ _ _) ej6 d_R_isNearer_22 (fun lj6 => ?_)
    replace lj6 : j6 < cn 47 := lj6
    refine V_sh [(0, .ref (ad 42 0)), (1, .int (a1)), (2, .int (a2))] [.ref (ad 47 j6), .int ((S.1 47 j5 (Int32.toNatClampNeg a1)))] rfl rfl ?_
    refine V_iload_n 2 C rfl d_R_isNearer_25 ?_
    refine V_iald C lj6 (osh_47 _ _ _ _) h.1 d_R_isNearer_26 ?_
    replace h := h.2
    refine V_icmp_ge C d_R_isNearer_27 (fun q => ?_) (fun q => ?_)
    · replace h := h.1 q
      refine V_iconst (v := 0) C (by decide) d_R_isNearer_34 ?_
      exact V_zret C hr (by decide) d_R_isNearer_35 h
    · replace h := h.2 q
      refine V_iconst (v := 1) C (by decide) d_R_isNearer_30 ?_
      refine V_goto C d_R_isNearer_31 ?_
      exact V_zret C hr (by decide) d_R_isNearer_35 h
set_option maxRecDepth 100000 in
set_option maxHeartbeats 4000000 in
theorem B_R_nearest_L5 {p : Program} {l : Launch} {e : Env} {R : Room} {s : State} {m : MethodId} {args : Array Value} {below : List Frame} {meth : Method} {c : Code} {Γ : oGm} {ad : oAd} {cn : Nat → Nat} {post : Int32 → oSt → Prop} (C : Cx p s m args meth c Γ prog_5_method_6_code 5 "ValueConnector$RouteTable") (hr : meth.sig.returnType = (some .int)) (hR : 2 ≤ R.frames ∧ 62 ≤ R.locals) : ∀ (n : Nat) (x1 : Int64) (x3 : Int32) (x4 : Int32) (S : oSt) (_ : 0 < cn 42), wp_R_nearest_L5 post n x1 x3 x4 S → Vv p l e R s m args below meth c (MQ below (oQ Γ ad cn vI post) args s 0 0 (oF Γ)) Γ 5 0 0 ad cn S 5 [(0, .ref (ad 42 0)), (1, .long (x1)), (3, .int (x3)), (4, .int (x4))] [] := by
  intro n
  induction n with
  | zero => intro x1 x3 x4 S lx0 h; exact h.elim
  | succ n ih =>
    intro x1 x3 x4 S lx0 h
    unfold wp_R_nearest_L5 at h
    refine V_iload 3 C rfl d_R_nearest_5 ?_
    refine V_aload_n 0 C rfl d_R_nearest_7 ?_
    refine V_get C f_R_22 lx0 (osh_42 _ _ _ _) (fl_42_3 _ _ _) d_R_nearest_8 ?_
    refine V_icmp_ge C d_R_nearest_11 (fun q => ?_) (fun q => ?_)
    · replace h := h.1 q
      refine V_iload_n 2 C rfl d_R_nearest_50 ?_
      exact V_iret C hr d_R_nearest_51 h
    · replace h := h.2 q
      refine V_aload_n 0 C rfl d_R_nearest_14 ?_
      obtain ⟨j1, ej1, h⟩ := h
      refine V_getr (f := 1) C f_R_15 lx0 (osh_42 _ _ _ _) (fl_42_1 _ _ _) ej1 d_R_nearest_15 (fun lj1 => ?_)
      replace lj1 : j1 < cn 46 := lj1
      refine V_sh [(0, .ref (ad 42 0)), (1, .long (x1)), (3, .int (x3)), (4, .int (x4))] [.ref (ad 46 j1)] rfl rfl ?_
      refine V_iload 3 C rfl d_R_nearest_18 ?_
      refine V_lald C lj1 (osh_46 _ _ _ _) h.1 d_R_nearest_20 ?_
      replace h := h.2
      refine V_lload_n 1 C rfl d_R_nearest_21 ?_
      refine V_lcmp C d_R_nearest_22 ?_
      refine V_if_ne C d_R_nearest_23 (fun q => ?_) (fun q => ?_)
      · replace h := h.1 q
        refine V_iinc (v := (x4 + 1)) 3 C [(4, .int ((x4 + 1))), (0, .ref (ad 42 0)), (1, .long (x1)), (3, .int (x3))] rfl rfl (by decide) rfl d_R_nearest_44 ?_
        refine V_goto C d_R_nearest_47 ?_
        refine V_lvs [1, 2, 3, 0] [(0, .ref (ad 42 0)), (1, .long (x1)), (3, .int (x3)), (4, .int ((x4 + 1)))] rfl ?_
        exact ih (x1) (x3) ((x4 + 1)) S lx0 h
      · replace h := h.2 q
        refine V_iload_n 2 C rfl d_R_nearest_26 ?_
        refine V_iconst (v := -1) C (by decide) d_R_nearest_27 ?_
        refine V_icmp_eq C d_R_nearest_28 (fun q => ?_) (fun q => ?_)
        · replace h := h.1 q
          refine V_iload 3 C rfl d_R_nearest_41 ?_
          refine V_istore_n C [(3, .int (x4)), (0, .ref (ad 42 0)), (1, .long (x1)), (4, .int (x4))] (by decide) rfl d_R_nearest_43 ?_
          refine V_iinc (v := (x4 + 1)) 3 C [(4, .int ((x4 + 1))), (3, .int (x4)), (0, .ref (ad 42 0)), (1, .long (x1))] rfl rfl (by decide) rfl d_R_nearest_44 ?_
          refine V_goto C d_R_nearest_47 ?_
          refine V_lvs [2, 3, 1, 0] [(0, .ref (ad 42 0)), (1, .long (x1)), (3, .int (x4)), (4, .int ((x4 + 1)))] rfl ?_
          exact ih (x1) (x4) ((x4 + 1)) S lx0 h
        · replace h := h.2 q
          refine V_aload_n 0 C rfl d_R_nearest_31 ?_
          refine V_iload 3 C rfl d_R_nearest_32 ?_
          refine V_iload_n 2 C rfl d_R_nearest_34 ?_
          refine V_cV (As := [.int (x4), .int (x3)]) (rest := []) C k_R_41 lx0 (osh_42 _ _ _ _) (ct_R_isNearer l Γ ad cn S (x4) (x3) _ lx0 h) ⟨rfl, rfl⟩ ⟨Nat.le_trans (by decide) hR.1, Nat.le_trans (by decide) hR.2⟩ ⟨Nat.zero_le _, Nat.zero_le _⟩ rfl rfl (Nat.le_of_ble_eq_true rfl) d_R_nearest_35 (fun r2 S3 h => ?_)
          refine V_sh [(0, .ref (ad 42 0)), (1, .long (x1)), (3, .int (x3)), (4, .int (x4))] [.int (r2)] rfl rfl ?_
          refine V_if_eq C d_R_nearest_38 (fun q => ?_) (fun q => ?_)
          · replace h := h.1 q
            refine V_iinc (v := (x4 + 1)) 3 C [(4, .int ((x4 + 1))), (0, .ref (ad 42 0)), (1, .long (x1)), (3, .int (x3))] rfl rfl (by decide) rfl d_R_nearest_44 ?_
            refine V_goto C d_R_nearest_47 ?_
            refine V_lvs [1, 2, 3, 0] [(0, .ref (ad 42 0)), (1, .long (x1)), (3, .int (x3)), (4, .int ((x4 + 1)))] rfl ?_
            exact ih (x1) (x3) ((x4 + 1)) S3 lx0 h
          · replace h := h.2 q
            refine V_iload 3 C rfl d_R_nearest_41 ?_
            refine V_istore_n C [(3, .int (x4)), (0, .ref (ad 42 0)), (1, .long (x1)), (4, .int (x4))] (by decide) rfl d_R_nearest_43 ?_
            refine V_iinc (v := (x4 + 1)) 3 C [(4, .int ((x4 + 1))), (3, .int (x4)), (0, .ref (ad 42 0)), (1, .long (x1))] rfl rfl (by decide) rfl d_R_nearest_44 ?_
            refine V_goto C d_R_nearest_47 ?_
            refine V_lvs [2, 3, 1, 0] [(0, .ref (ad 42 0)), (1, .long (x1)), (3, .int (x4)), (4, .int ((x4 + 1)))] rfl ?_
            exact ih (x1) (x4) ((x4 + 1)) S3 lx0 h
set_option maxRecDepth 100000 in
set_option maxHeartbeats 4000000 in
theorem ct_R_nearest (l : Launch) (Γ : oGm) (ad : oAd) (cn : Nat → Nat) (S : oSt) (a1 : Int64) (post : Int32 → oSt → Prop) (l0 : 0 < cn 42) (h : wp_R_nearest S a1 post) : Met l y_R_nearest (.code y_R_nearest prog_5_method_6_code 5 (some .int) :: oWS) { frames := 2, cells := 0, slots := 0, locals := 62 } (va_Pc [.ref (ad 42 0), .long (a1)] (oW Γ ad cn S)) (oQ Γ ad cn vI post) 0 0 (oF Γ) := by
  refine o_met (lv := [(0, .ref (ad 42 0)), (1, .long (a1))]) (own := "ValueConnector$RouteTable") (by decide) rfl (Nat.le_of_ble_eq_true rfl) rfl ?_
  intro p e s m args below meth c C hr hnm
  have hR : 2 ≤ ({ frames := 2, cells := 0, slots := 0, locals := 62 } : Room).frames ∧ 62 ≤ ({ frames := 2, cells := 0, slots := 0, locals := 62 } : Room).locals := ⟨Nat.le_refl _, Nat.le_refl _⟩
  unfold wp_R_nearest at h
  refine V_iconst (v := -1) C (by decide) d_R_nearest_0 ?_
  refine V_istore_n C [(3, .int ((-1 : Int32))), (0, .ref (ad 42 0)), (1, .long (a1))] (by decide) rfl d_R_nearest_1 ?_
  refine V_iconst (v := 0) C (by decide) d_R_nearest_2 ?_
  refine V_istore C [(4, .int ((0 : Int32))), (3, .int ((-1 : Int32))), (0, .ref (ad 42 0)), (1, .long (a1))] (by decide) rfl d_R_nearest_3 ?_
  refine V_lvs [2, 3, 1, 0] [(0, .ref (ad 42 0)), (1, .long (a1)), (3, .int ((-1 : Int32))), (4, .int ((0 : Int32)))] rfl ?_
  obtain ⟨n, h⟩ := h
  exact B_R_nearest_L5 C hr hR n (a1) ((-1 : Int32)) ((0 : Int32)) S l0 h
set_option maxRecDepth 100000 in
set_option maxHeartbeats 4000000 in
theorem B_R_accountFor_L5 {p : Program} {l : Launch} {e : Env} {R : Room} {s : State} {m : MethodId} {args : Array Value} {below : List Frame} {meth : Method} {c : Code} {Γ : oGm} {ad : oAd} {cn : Nat → Nat} {post : Int32 → oSt → Prop} (C : Cx p s m args meth c Γ prog_5_method_4_code 5 "ValueConnector$RouteTable") (hr : meth.sig.returnType = (some .int)) (hR : 3 ≤ R.frames ∧ 86 ≤ R.locals) : ∀ (n : Nat) (x1 : Int64) (x3 : Int32) (S : oSt) (_ : 0 < cn 42), wp_R_accountFor_L5 post n x1 x3 S → Vv p l e R s m args below meth c (MQ below (oQ Γ ad cn vI post) args s 0 0 (oF Γ)) Γ 5 0 0 ad cn S 5 [(0, .ref (ad 42 0)), (1, .long (x1)), (3, .int (x3))] [] := by
  intro n
  induction n with
  | zero => intro x1 x3 S lx0 h; exact h.elim
  | succ n ih =>
    intro x1 x3 S lx0 h
    unfold wp_R_accountFor_L5 at h
    refine V_iload_n 2 C rfl d_R_accountFor_5 ?_
    refine V_if_lt C d_R_accountFor_6 (fun q => ?_) (fun q => ?_)
    · replace h := h.1 q
      refine V_iconst (v := -1) C (by decide) d_R_accountFor_40 ?_
      exact V_iret C hr d_R_accountFor_41 h
    · replace h := h.2 q
      refine V_aload_n 0 C rfl d_R_accountFor_9 ?_
      refine V_lload_n 1 C rfl d_R_accountFor_10 ?_
      refine V_iload_n 2 C rfl d_R_accountFor_11 ?_
      refine V_cS (As := [.long (x1), .int (x3)]) (rest := [.ref (ad 42 0)]) C k_R_34 (ct_R_firstLetters l Γ ad cn S (x1) (x3) _  h) ⟨rfl, rfl⟩ ⟨Nat.le_trans (by decide) hR.1, Nat.le_trans (by decide) hR.2⟩ ⟨Nat.zero_le _, Nat.zero_le _⟩ rfl rfl (Nat.le_of_ble_eq_true rfl) d_R_accountFor_12 (fun r3 S4 h => ?_)
      refine V_sh [(0, .ref (ad 42 0)), (1, .long (x1)), (3, .int (x3))] [.long (r3), .ref (ad 42 0)] rfl rfl ?_
      refine V_cV (As := [.long (r3)]) (rest := []) C k_R_38 lx0 (osh_42 _ _ _ _) (ct_R_nearest l Γ ad cn S4 (r3) _ lx0 h) ⟨rfl, rfl⟩ ⟨Nat.le_trans (by decide) hR.1, Nat.le_trans (by decide) hR.2⟩ ⟨Nat.zero_le _, Nat.zero_le _⟩ rfl rfl (Nat.le_of_ble_eq_true rfl) d_R_accountFor_15 (fun r5 S6 h => ?_)
      refine V_sh [(0, .ref (ad 42 0)), (1, .long (x1)), (3, .int (x3))] [.int (r5)] rfl rfl ?_
      refine V_istore C [(4, .int (r5)), (0, .ref (ad 42 0)), (1, .long (x1)), (3, .int (x3))] (by decide) rfl d_R_accountFor_18 ?_
      refine V_iload 0 C rfl d_R_accountFor_20 ?_
      refine V_iconst (v := -1) C (by decide) d_R_accountFor_22 ?_
      refine V_icmp_eq C d_R_accountFor_23 (fun q => ?_) (fun q => ?_)
      · replace h := h.1 q
        refine V_iinc (v := (x3 + (-1))) 3 C [(3, .int ((x3 + (-1)))), (4, .int (r5)), (0, .ref (ad 42 0)), (1, .long (x1))] rfl (congrArg (HAdd.hAdd x3) (show Int32.ofInt (-1) = -1 by decide)) (by decide) rfl d_R_accountFor_34 ?_
        refine V_goto C d_R_accountFor_37 ?_
        refine V_lvs [2, 3, 0] [(0, .ref (ad 42 0)), (1, .long (x1)), (3, .int ((x3 + (-1))))] rfl ?_
        exact ih (x1) ((x3 + (-1))) S6 lx0 h
      · replace h := h.2 q
        refine V_aload_n 1 C rfl d_R_accountFor_26 ?_
        obtain ⟨j7, ej7, h⟩ := h
        refine V_getr (f := 0) C f_R_9 lx0 (osh_42 _ _ _ _) (fl_42_0 _ _ _) ej7 d_R_accountFor_27 (fun lj7 => ?_)
        replace lj7 : j7 < cn 45 := lj7
        refine V_sh [(4, .int (r5)), (0, .ref (ad 42 0)), (1, .long (x1)), (3, .int (x3))] [.ref (ad 45 j7)] rfl rfl ?_
        refine V_iload 0 C rfl d_R_accountFor_30 ?_
        refine V_iald C lj7 (osh_45 _ _ _ _) h.1 d_R_accountFor_32 ?_
        replace h := h.2
        exact V_iret C hr d_R_accountFor_33 h
set_option maxRecDepth 100000 in
set_option maxHeartbeats 4000000 in
theorem ct_R_accountFor (l : Launch) (Γ : oGm) (ad : oAd) (cn : Nat → Nat) (S : oSt) (a1 : Int64) (post : Int32 → oSt → Prop) (l0 : 0 < cn 42) (h : wp_R_accountFor S a1 post) : Met l y_R_accountFor (.code y_R_accountFor prog_5_method_4_code 5 (some .int) :: oWS) { frames := 3, cells := 0, slots := 0, locals := 86 } (va_Pc [.ref (ad 42 0), .long (a1)] (oW Γ ad cn S)) (oQ Γ ad cn vI post) 0 0 (oF Γ) := by
  refine o_met (lv := [(0, .ref (ad 42 0)), (1, .long (a1))]) (own := "ValueConnector$RouteTable") (by decide) rfl (Nat.le_of_ble_eq_true rfl) rfl ?_
  intro p e s m args below meth c C hr hnm
  have hR : 3 ≤ ({ frames := 3, cells := 0, slots := 0, locals := 86 } : Room).frames ∧ 86 ≤ ({ frames := 3, cells := 0, slots := 0, locals := 86 } : Room).locals := ⟨Nat.le_refl _, Nat.le_refl _⟩
  unfold wp_R_accountFor at h
  refine V_lload_n 1 C rfl d_R_accountFor_0 ?_
  refine V_cSN (As := [.long (a1)]) (rest := []) C k_R_30 (ct_X_letterCount l Γ ad cn S (a1) _  h) ⟨rfl, rfl⟩ ⟨Nat.le_trans (by decide) hR.1, Nat.le_trans (by decide) hR.2⟩ ⟨Nat.zero_le _, Nat.zero_le _⟩ rfl rfl (Nat.le_of_ble_eq_true rfl) d_R_accountFor_1 (fun r1 S2 h => ?_)
  refine V_sh [(0, .ref (ad 42 0)), (1, .long (a1))] [.int (r1)] rfl rfl ?_
  refine V_istore_n C [(3, .int (r1)), (0, .ref (ad 42 0)), (1, .long (a1))] (by decide) rfl d_R_accountFor_4 ?_
  refine V_lvs [1, 2, 0] [(0, .ref (ad 42 0)), (1, .long (a1)), (3, .int (r1))] rfl ?_
  obtain ⟨n, h⟩ := h
  exact B_R_accountFor_L5 C hr hR n (a1) (r1) S2 l0 h
set_option maxRecDepth 100000 in
set_option maxHeartbeats 4000000 in
theorem ct_X_way (l : Launch) (Γ : oGm) (ad : oAd) (cn : Nat → Nat) (S : oSt) (a1 : Int64) (post : Int32 → oSt → Prop) (l0 : 0 < cn 40) (h : wp_X_way S a1 post) : Met l y_X_way (.code y_X_way prog_1_method_9_code 3 (some .int) :: oWS) { frames := 4, cells := 0, slots := 0, locals := 110 } (va_Pc [.ref (ad 40 0), .long (a1)] (oW Γ ad cn S)) (oQ Γ ad cn vI post) 0 0 (oF Γ) := by
  refine o_met (lv := [(0, .ref (ad 40 0)), (1, .long (a1))]) (own := "ValueConnector") (by decide) rfl (Nat.le_of_ble_eq_true rfl) rfl ?_
  intro p e s m args below meth c C hr hnm
  have hR : 4 ≤ ({ frames := 4, cells := 0, slots := 0, locals := 110 } : Room).frames ∧ 110 ≤ ({ frames := 4, cells := 0, slots := 0, locals := 110 } : Room).locals := ⟨Nat.le_refl _, Nat.le_refl _⟩
  unfold wp_X_way at h
  refine V_lload_n 1 C rfl d_X_way_0 ?_
  refine V_cS (As := [.long (a1)]) (rest := []) C k_X_110 (ct_X_isAddress l Γ ad cn S (a1) _  h) ⟨rfl, rfl⟩ ⟨Nat.le_trans (by decide) hR.1, Nat.le_trans (by decide) hR.2⟩ ⟨Nat.zero_le _, Nat.zero_le _⟩ rfl rfl (Nat.le_of_ble_eq_true rfl) d_X_way_1 (fun r1 S2 h => ?_)
  refine V_sh [(0, .ref (ad 40 0)), (1, .long (a1))] [.int (r1)] rfl rfl ?_
  refine V_if_eq C d_X_way_4 (fun q => ?_) (fun q => ?_)
  · replace h := h.1 q
    refine V_iconst (v := -1) C (by decide) d_X_way_18 ?_
    exact V_iret C hr d_X_way_19 h
  · replace h := h.2 q
    refine V_aload_n 0 C rfl d_X_way_7 ?_
    obtain ⟨j3, ej3, h⟩ := h
    refine V_getr (f := 3) C f_X_18 l0 (osh_40 _ _ _ _) (fl_40_3 _ _ _) ej3 d_X_way_8 (fun lj3 => ?_)
    replace lj3 : j3 < cn 42 := lj3
    refine V_sh [(0, .ref (ad 40 0)), (1, .long (a1))] [.ref (ad 42 j3)] rfl rfl ?_
    refine V_lload_n 1 C rfl d_X_way_11 ?_
    obtain ⟨q, hq4⟩ := h
    subst q
    have h := hq4
    refine V_cV (As := [.long (a1)]) (rest := []) C k_X_114 lj3 (osh_42 _ _ _ _) (ct_R_accountFor l Γ ad cn S2 (a1) _ lj3 h) ⟨rfl, rfl⟩ ⟨Nat.le_trans (by decide) hR.1, Nat.le_trans (by decide) hR.2⟩ ⟨Nat.zero_le _, Nat.zero_le _⟩ rfl rfl (Nat.le_of_ble_eq_true rfl) d_X_way_12 (fun r5 S6 h => ?_)
    refine V_sh [(0, .ref (ad 40 0)), (1, .long (a1))] [.int (r5)] rfl rfl ?_
    refine V_goto C d_X_way_15 ?_
    exact V_iret C hr d_X_way_19 h
set_option maxRecDepth 100000 in
set_option maxHeartbeats 4000000 in
theorem ct_B_take (l : Launch) (Γ : oGm) (ad : oAd) (cn : Nat → Nat) (S : oSt) (i0 : Nat) (a1 : Int32) (post : Int32 → oSt → Prop) (l0 : i0 < cn 49) (h : wp_B_take S i0 a1 post) : Met l y_B_take (.code y_B_take prog_3_method_3_code 2 (some .boolean) :: oWS) { frames := 1, cells := 0, slots := 0, locals := 40 } (va_Pc [.ref (ad 49 i0), .int (a1)] (oW Γ ad cn S)) (oQ Γ ad cn vI post) 0 0 (oF Γ) := by
  refine o_met (lv := [(0, .ref (ad 49 i0)), (1, .int (a1))]) (own := "ValueConnector$Bucket") (by decide) rfl (Nat.le_of_ble_eq_true rfl) rfl ?_
  intro p e s m args below meth c C hr hnm
  have hR : 1 ≤ ({ frames := 1, cells := 0, slots := 0, locals := 40 } : Room).frames ∧ 40 ≤ ({ frames := 1, cells := 0, slots := 0, locals := 40 } : Room).locals := ⟨Nat.le_refl _, Nat.le_refl _⟩
  unfold wp_B_take at h
  refine V_aload_n 0 C rfl d_B_take_0 ?_
  refine V_get C f_B_22 l0 (osh_49 _ _ _ _) (fl_49_2 _ _ _) d_B_take_1 ?_
  refine V_iload_n 1 C rfl d_B_take_4 ?_
  refine V_icmp_ge C d_B_take_5 (fun q => ?_) (fun q => ?_)
  · replace h := h.1 q
    refine V_aload_n 0 C rfl d_B_take_10 ?_
    refine V_dup C rfl d_B_take_11 ?_
    refine V_get C f_B_22 l0 (osh_49 _ _ _ _) (fl_49_2 _ _ _) d_B_take_12 ?_
    refine V_iload_n 1 C rfl d_B_take_15 ?_
    refine V_isub C d_B_take_16 ?_
    refine V_puti (f := 2) C p_B_22 (fun z => by cases z) l0 (osh_49 _ _ _ _) (fl_49_len _ _ _ 2 (by decide)) (up_49_2 _ _ _ _ _) d_B_take_17 (fun S1 eS1 => ?_)
    replace h := h S1 eS1
    refine V_iconst (v := 1) C (by decide) d_B_take_20 ?_
    exact V_zret C hr (by decide) d_B_take_21 h
  · replace h := h.2 q
    refine V_iconst (v := 0) C (by decide) d_B_take_8 ?_
    exact V_zret C hr (by decide) d_B_take_9 h
