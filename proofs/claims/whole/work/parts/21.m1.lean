set_option maxRecDepth 100000 in
set_option maxHeartbeats 4000000 in
theorem ct_M_bucket (l : Launch) (Γ : oGm) (ad : oAd) (cn : Nat → Nat) (S : oSt) (a1 : Int32) (a2 : Int32) (a3 : Int32) (post : Int32 → oSt → Prop) (l0 : 0 < cn 0) (h : wp_M_bucket S a1 a2 a3 post) : Met l y_M_bucket (.code y_M_bucket prog_8_method_7_code 4 (some .boolean) :: oWS) { frames := 2, cells := 0, slots := 0, locals := 61 } (va_Pc [.ref (ad 0 0), .int (a1), .int (a2), .int (a3)] (oW Γ ad cn S)) (oQ Γ ad cn vI post) 0 0 (oF Γ) := by
  refine o_met (lv := [(0, .ref (ad 0 0)), (1, .int (a1)), (2, .int (a2)), (3, .int (a3))]) (own := "ValueConnectorModel") (by decide) rfl (Nat.le_of_ble_eq_true rfl) rfl ?_
  intro p e s m args below meth c C hr hnm
  have hR : 2 ≤ ({ frames := 2, cells := 0, slots := 0, locals := 61 } : Room).frames ∧ 61 ≤ ({ frames := 2, cells := 0, slots := 0, locals := 61 } : Room).locals := ⟨Nat.le_refl _, Nat.le_refl _⟩
  unfold wp_M_bucket at h
  refine V_aload_n 0 C rfl d_M_bucket_0 ?_
  refine V_iload_n 1 C rfl d_M_bucket_1 ?_
  refine V_cV (As := [.int (a1)]) (rest := []) C k_M_99 l0 (osh_0 _ _ _ _) (ct_M_isAccount l Γ ad cn S (a1) _ l0 h) ⟨rfl, rfl⟩ ⟨Nat.le_trans (by decide) hR.1, Nat.le_trans (by decide) hR.2⟩ ⟨Nat.zero_le _, Nat.zero_le _⟩ rfl rfl (Nat.le_of_ble_eq_true rfl) d_M_bucket_2 (fun r1 S2 h => ?_)
  refine V_sh [(0, .ref (ad 0 0)), (1, .int (a1)), (2, .int (a2)), (3, .int (a3))] [.int (r1)] rfl rfl ?_
  refine V_if_eq C d_M_bucket_5 (fun q => ?_) (fun q => ?_)
  · replace h := h.1 q
    refine V_iconst (v := 0) C (by decide) d_M_bucket_31 ?_
    exact V_zret C hr (by decide) d_M_bucket_32 h
  · replace h := h.2 q
    refine V_iload_n 2 C rfl d_M_bucket_8 ?_
    refine V_iconst (v := 1) C (by decide) d_M_bucket_9 ?_
    refine V_icmp_lt C d_M_bucket_10 (fun q => ?_) (fun q => ?_)
    · replace h := h.1 q
      refine V_iconst (v := 0) C (by decide) d_M_bucket_31 ?_
      exact V_zret C hr (by decide) d_M_bucket_32 h
    · replace h := h.2 q
      refine V_iload_n 2 C rfl d_M_bucket_13 ?_
      refine V_sipush (v := 1000) C (by decide) d_M_bucket_14 ?_
      refine V_icmp_gt C d_M_bucket_17 (fun q => ?_) (fun q => ?_)
      · replace h := h.1 q
        refine V_iconst (v := 0) C (by decide) d_M_bucket_31 ?_
        exact V_zret C hr (by decide) d_M_bucket_32 h
      · replace h := h.2 q
        refine V_iload_n 3 C rfl d_M_bucket_20 ?_
        refine V_if_lt C d_M_bucket_21 (fun q => ?_) (fun q => ?_)
        · replace h := h.1 q
          refine V_iconst (v := 0) C (by decide) d_M_bucket_31 ?_
          exact V_zret C hr (by decide) d_M_bucket_32 h
        · replace h := h.2 q
          refine V_iload_n 3 C rfl d_M_bucket_24 ?_
          refine V_sipush (v := 1000) C (by decide) d_M_bucket_25 ?_
          refine V_icmp_le C d_M_bucket_28 (fun q => ?_) (fun q => ?_)
          · replace h := h.1 q
            refine V_aload_n 0 C rfl d_M_bucket_33 ?_
            obtain ⟨j3, ej3, h⟩ := h
            refine V_getr (f := 13) C f_M_35 l0 (osh_0 _ _ _ _) (fl_0_13 _ _ _) ej3 d_M_bucket_34 (fun lj3 => ?_)
            replace lj3 : j3 < cn 13 := lj3
            refine V_sh [(0, .ref (ad 0 0)), (1, .int (a1)), (2, .int (a2)), (3, .int (a3))] [.ref (ad 13 j3)] rfl rfl ?_
            refine V_iload_n 1 C rfl d_M_bucket_37 ?_
            refine V_iload_n 2 C rfl d_M_bucket_38 ?_
            refine V_iast C lj3 (fun _ => osh_13 _ _ _ _) h.1 d_M_bucket_39 (fun S4 eS4 => ?_)
            replace h := h.2 S4 eS4
            refine V_aload_n 0 C rfl d_M_bucket_40 ?_
            obtain ⟨j5, ej5, h⟩ := h
            refine V_getr (f := 14) C f_M_38 l0 (osh_0 _ _ _ _) (fl_0_14 _ _ _) ej5 d_M_bucket_41 (fun lj5 => ?_)
            replace lj5 : j5 < cn 14 := lj5
            refine V_sh [(0, .ref (ad 0 0)), (1, .int (a1)), (2, .int (a2)), (3, .int (a3))] [.ref (ad 14 j5)] rfl rfl ?_
            refine V_iload_n 1 C rfl d_M_bucket_44 ?_
            refine V_iload_n 3 C rfl d_M_bucket_45 ?_
            refine V_iast C lj5 (fun _ => osh_14 _ _ _ _) h.1 d_M_bucket_46 (fun S6 eS6 => ?_)
            replace h := h.2 S6 eS6
            refine V_aload_n 0 C rfl d_M_bucket_47 ?_
            obtain ⟨j7, ej7, h⟩ := h
            refine V_getr (f := 15) C f_M_41 l0 (osh_0 _ _ _ _) (fl_0_15 _ _ _) ej7 d_M_bucket_48 (fun lj7 => ?_)
            replace lj7 : j7 < cn 15 := lj7
            refine V_sh [(0, .ref (ad 0 0)), (1, .int (a1)), (2, .int (a2)), (3, .int (a3))] [.ref (ad 15 j7)] rfl rfl ?_
            refine V_iload_n 1 C rfl d_M_bucket_51 ?_
            refine V_bipush (v := 100) C (by decide) d_M_bucket_52 ?_
            refine V_iload_n 2 C rfl d_M_bucket_54 ?_
            refine V_imul C d_M_bucket_55 ?_
            refine V_iast C lj7 (fun _ => osh_15 _ _ _ _) h.1 d_M_bucket_56 (fun S8 eS8 => ?_)
            replace h := h.2 S8 eS8
            refine V_iconst (v := 1) C (by decide) d_M_bucket_57 ?_
            exact V_zret C hr (by decide) d_M_bucket_58 h
          · replace h := h.2 q
            refine V_iconst (v := 0) C (by decide) d_M_bucket_31 ?_
            exact V_zret C hr (by decide) d_M_bucket_32 h
set_option maxRecDepth 100000 in
set_option maxHeartbeats 4000000 in
theorem ct_M_letterAt (l : Launch) (Γ : oGm) (ad : oAd) (cn : Nat → Nat) (S : oSt) (a0 : Int64) (a2 : Int32) (post : Int32 → oSt → Prop)  (h : wp_M_letterAt S a0 a2 post) : Met l y_M_letterAt (.code y_M_letterAt prog_8_method_8_code 3 (some .int) :: oWS) { frames := 1, cells := 0, slots := 0, locals := 40 } (va_Pc [.long (a0), .int (a2)] (oW Γ ad cn S)) (oQ Γ ad cn vI post) 0 0 (oF Γ) := by
  refine o_met (lv := [(0, .long (a0)), (2, .int (a2))]) (own := "ValueConnectorModel") (by decide) rfl (Nat.le_of_ble_eq_true rfl) rfl ?_
  intro p e s m args below meth c C hr hnm
  have hR : 1 ≤ ({ frames := 1, cells := 0, slots := 0, locals := 40 } : Room).frames ∧ 40 ≤ ({ frames := 1, cells := 0, slots := 0, locals := 40 } : Room).locals := ⟨Nat.le_refl _, Nat.le_refl _⟩
  unfold wp_M_letterAt at h
  refine V_lload_n 0 C rfl d_M_letterAt_0 ?_
  refine V_bipush (v := 8) C (by decide) d_M_letterAt_1 ?_
  refine V_iload_n 1 C rfl d_M_letterAt_3 ?_
  refine V_imul C d_M_letterAt_4 ?_
  refine V_lshr C d_M_letterAt_5 ?_
  refine V_ldc2 (v := 255) C w_540 d_M_letterAt_6 ?_
  refine V_land C d_M_letterAt_9 ?_
  refine V_l2i C d_M_letterAt_10 ?_
  exact V_iret C hr d_M_letterAt_11 h
set_option maxRecDepth 100000 in
set_option maxHeartbeats 4000000 in
theorem B_M_lengthOf_L36 {p : Program} {l : Launch} {e : Env} {R : Room} {s : State} {m : MethodId} {args : Array Value} {below : List Frame} {meth : Method} {c : Code} {Γ : oGm} {ad : oAd} {cn : Nat → Nat} {post : Int32 → oSt → Prop} (C : Cx p s m args meth c Γ prog_8_method_9_code 4 "ValueConnectorModel") (hr : meth.sig.returnType = (some .int)) (hR : 2 ≤ R.frames ∧ 62 ≤ R.locals) : ∀ (n : Nat) (x0 : Int64) (x2 : Int32) (x3 : Int32) (S : oSt) , wp_M_lengthOf_L36 post n x0 x2 x3 S → Vv p l e R s m args below meth c (MQ below (oQ Γ ad cn vI post) args s 0 0 (oF Γ)) Γ 4 0 0 ad cn S 36 [(0, .long (x0)), (2, .int (x2)), (3, .int (x3))] [] := by
  intro n
  induction n with
  | zero => intro x0 x2 x3 S  h; exact h.elim
  | succ n ih =>
    intro x0 x2 x3 S  h
    unfold wp_M_lengthOf_L36 at h
    refine V_iload_n 2 C rfl d_M_lengthOf_36 ?_
    refine V_bipush (v := 8) C (by decide) d_M_lengthOf_37 ?_
    refine V_icmp_ge C d_M_lengthOf_39 (fun q => ?_) (fun q => ?_)
    · replace h := h.1 q
      refine V_iload_n 1 C rfl d_M_lengthOf_58 ?_
      exact V_iret C hr d_M_lengthOf_59 h
    · replace h := h.2 q
      refine V_lload_n 0 C rfl d_M_lengthOf_42 ?_
      refine V_iload_n 2 C rfl d_M_lengthOf_43 ?_
      refine V_cS (As := [.long (x0), .int (x3)]) (rest := []) C k_M_108 (ct_M_letterAt l Γ ad cn S (x0) (x3) _  h) ⟨rfl, rfl⟩ ⟨Nat.le_trans (by decide) hR.1, Nat.le_trans (by decide) hR.2⟩ ⟨Nat.zero_le _, Nat.zero_le _⟩ rfl rfl (Nat.le_of_ble_eq_true rfl) d_M_lengthOf_44 (fun r1 S2 h => ?_)
      refine V_sh [(0, .long (x0)), (2, .int (x2)), (3, .int (x3))] [.int (r1)] rfl rfl ?_
      refine V_if_eq C d_M_lengthOf_47 (fun q => ?_) (fun q => ?_)
      · replace h := h.1 q
        refine V_iinc (v := (x3 + 1)) 2 C [(3, .int ((x3 + 1))), (0, .long (x0)), (2, .int (x2))] rfl rfl (by decide) rfl d_M_lengthOf_52 ?_
        refine V_goto C d_M_lengthOf_55 ?_
        refine V_lvs [1, 2, 0] [(0, .long (x0)), (2, .int (x2)), (3, .int ((x3 + 1)))] rfl ?_
        exact ih (x0) (x2) ((x3 + 1)) S2  h
      · replace h := h.2 q
        refine V_iconst (v := -1) C (by decide) d_M_lengthOf_50 ?_
        exact V_iret C hr d_M_lengthOf_51 h
set_option maxRecDepth 100000 in
set_option maxHeartbeats 4000000 in
theorem B_M_lengthOf_L2 {p : Program} {l : Launch} {e : Env} {R : Room} {s : State} {m : MethodId} {args : Array Value} {below : List Frame} {meth : Method} {c : Code} {Γ : oGm} {ad : oAd} {cn : Nat → Nat} {post : Int32 → oSt → Prop} (C : Cx p s m args meth c Γ prog_8_method_9_code 4 "ValueConnectorModel") (hr : meth.sig.returnType = (some .int)) (hR : 2 ≤ R.frames ∧ 62 ≤ R.locals) : ∀ (n : Nat) (x0 : Int64) (x2 : Int32) (S : oSt) , wp_M_lengthOf_L2 post n x0 x2 S → Vv p l e R s m args below meth c (MQ below (oQ Γ ad cn vI post) args s 0 0 (oF Γ)) Γ 4 0 0 ad cn S 2 [(0, .long (x0)), (2, .int (x2))] [] := by
  intro n
  induction n with
  | zero => intro x0 x2 S  h; exact h.elim
  | succ n ih =>
    intro x0 x2 S  h
    unfold wp_M_lengthOf_L2 at h
    refine V_iload_n 1 C rfl d_M_lengthOf_2 ?_
    refine V_bipush (v := 6) C (by decide) d_M_lengthOf_3 ?_
    refine V_icmp_ge C d_M_lengthOf_5 (fun q => ?_) (fun q => ?_)
    · replace h := h.1 q
      refine V_iload_n 1 C rfl d_M_lengthOf_34 ?_
      refine V_istore_n C [(3, .int (x2)), (0, .long (x0)), (2, .int (x2))] (by decide) rfl d_M_lengthOf_35 ?_
      refine V_lvs [1, 2, 0] [(0, .long (x0)), (2, .int (x2)), (3, .int (x2))] rfl ?_
      obtain ⟨n, h⟩ := h
      exact B_M_lengthOf_L36 C hr hR n (x0) (x2) (x2) S  h
    · replace h := h.2 q
      refine V_lload_n 0 C rfl d_M_lengthOf_8 ?_
      refine V_iload_n 1 C rfl d_M_lengthOf_9 ?_
      refine V_cS (As := [.long (x0), .int (x2)]) (rest := []) C k_M_108 (ct_M_letterAt l Γ ad cn S (x0) (x2) _  h) ⟨rfl, rfl⟩ ⟨Nat.le_trans (by decide) hR.1, Nat.le_trans (by decide) hR.2⟩ ⟨Nat.zero_le _, Nat.zero_le _⟩ rfl rfl (Nat.le_of_ble_eq_true rfl) d_M_lengthOf_10 (fun r3 S4 h => ?_)
      refine V_sh [(0, .long (x0)), (2, .int (x2))] [.int (r3)] rfl rfl ?_
      refine V_bipush (v := 97) C (by decide) d_M_lengthOf_13 ?_
      refine V_icmp_lt C d_M_lengthOf_15 (fun q => ?_) (fun q => ?_)
      · replace h := h.1 q
        refine V_iload_n 1 C rfl d_M_lengthOf_34 ?_
        refine V_istore_n C [(3, .int (x2)), (0, .long (x0)), (2, .int (x2))] (by decide) rfl d_M_lengthOf_35 ?_
        refine V_lvs [1, 2, 0] [(0, .long (x0)), (2, .int (x2)), (3, .int (x2))] rfl ?_
        obtain ⟨n, h⟩ := h
        exact B_M_lengthOf_L36 C hr hR n (x0) (x2) (x2) S4  h
      · replace h := h.2 q
        refine V_lload_n 0 C rfl d_M_lengthOf_18 ?_
        refine V_iload_n 1 C rfl d_M_lengthOf_19 ?_
        refine V_cS (As := [.long (x0), .int (x2)]) (rest := []) C k_M_108 (ct_M_letterAt l Γ ad cn S4 (x0) (x2) _  h) ⟨rfl, rfl⟩ ⟨Nat.le_trans (by decide) hR.1, Nat.le_trans (by decide) hR.2⟩ ⟨Nat.zero_le _, Nat.zero_le _⟩ rfl rfl (Nat.le_of_ble_eq_true rfl) d_M_lengthOf_20 (fun r5 S6 h => ?_)
        refine V_sh [(0, .long (x0)), (2, .int (x2))] [.int (r5)] rfl rfl ?_
        refine V_bipush (v := 122) C (by decide) d_M_lengthOf_23 ?_
        refine V_icmp_gt C d_M_lengthOf_25 (fun q => ?_) (fun q => ?_)
        · replace h := h.1 q
          refine V_iload_n 1 C rfl d_M_lengthOf_34 ?_
          refine V_istore_n C [(3, .int (x2)), (0, .long (x0)), (2, .int (x2))] (by decide) rfl d_M_lengthOf_35 ?_
          refine V_lvs [1, 2, 0] [(0, .long (x0)), (2, .int (x2)), (3, .int (x2))] rfl ?_
          obtain ⟨n, h⟩ := h
          exact B_M_lengthOf_L36 C hr hR n (x0) (x2) (x2) S6  h
        · replace h := h.2 q
          refine V_iinc (v := (x2 + 1)) 1 C [(2, .int ((x2 + 1))), (0, .long (x0))] rfl rfl (by decide) rfl d_M_lengthOf_28 ?_
          refine V_goto C d_M_lengthOf_31 ?_
          refine V_lvs [1, 0] [(0, .long (x0)), (2, .int ((x2 + 1)))] rfl ?_
          exact ih (x0) ((x2 + 1)) S6  h
set_option maxRecDepth 100000 in
set_option maxHeartbeats 4000000 in
theorem ct_M_lengthOf (l : Launch) (Γ : oGm) (ad : oAd) (cn : Nat → Nat) (S : oSt) (a0 : Int64) (post : Int32 → oSt → Prop)  (h : wp_M_lengthOf S a0 post) : Met l y_M_lengthOf (.code y_M_lengthOf prog_8_method_9_code 4 (some .int) :: oWS) { frames := 2, cells := 0, slots := 0, locals := 62 } (va_Pc [.long (a0)] (oW Γ ad cn S)) (oQ Γ ad cn vI post) 0 0 (oF Γ) := by
  refine o_met (lv := [(0, .long (a0))]) (own := "ValueConnectorModel") (by decide) rfl (Nat.le_of_ble_eq_true rfl) rfl ?_
  intro p e s m args below meth c C hr hnm
  have hR : 2 ≤ ({ frames := 2, cells := 0, slots := 0, locals := 62 } : Room).frames ∧ 62 ≤ ({ frames := 2, cells := 0, slots := 0, locals := 62 } : Room).locals := ⟨Nat.le_refl _, Nat.le_refl _⟩
  unfold wp_M_lengthOf at h
  refine V_iconst (v := 0) C (by decide) d_M_lengthOf_0 ?_
  refine V_istore_n C [(2, .int ((0 : Int32))), (0, .long (a0))] (by decide) rfl d_M_lengthOf_1 ?_
  refine V_lvs [1, 0] [(0, .long (a0)), (2, .int ((0 : Int32)))] rfl ?_
  obtain ⟨n, h⟩ := h
  exact B_M_lengthOf_L2 C hr hR n (a0) ((0 : Int32)) S  h
set_option maxRecDepth 100000 in
set_option maxHeartbeats 4000000 in
theorem B_M_find_L6 {p : Program} {l : Launch} {e : Env} {R : Room} {s : State} {m : MethodId} {args : Array Value} {below : List Frame} {meth : Method} {c : Code} {Γ : oGm} {ad : oAd} {cn : Nat → Nat} {post : Int32 → oSt → Prop} (C : Cx p s m args meth c Γ prog_8_method_10_code 6 "ValueConnectorModel") (hr : meth.sig.returnType = (some .int)) (hR : 1 ≤ R.frames ∧ 40 ≤ R.locals) : ∀ (n : Nat) (x1 : Int32) (x2 : Int64) (x4 : Int32) (x5 : Int32) (S : oSt) (_ : 0 < cn 0), wp_M_find_L6 post n x1 x2 x4 x5 S → Vv p l e R s m args below meth c (MQ below (oQ Γ ad cn vI post) args s 0 0 (oF Γ)) Γ 6 0 0 ad cn S 6 [(0, .ref (ad 0 0)), (1, .int (x1)), (2, .long (x2)), (4, .int (x4)), (5, .int (x5))] [] := by
  intro n
  induction n with
  | zero => intro x1 x2 x4 x5 S lx0 h; exact h.elim
  | succ n ih =>
    intro x1 x2 x4 x5 S lx0 h
    unfold wp_M_find_L6 at h
    refine V_iload 4 C rfl d_M_find_6 ?_
    refine V_aload_n 0 C rfl d_M_find_8 ?_
    refine V_get C f_M_112 lx0 (osh_0 _ _ _ _) (fl_0_18 _ _ _) d_M_find_9 ?_
    refine V_icmp_ge C d_M_find_12 (fun q => ?_) (fun q => ?_)
    · replace h := h.1 q
      refine V_iload 3 C rfl d_M_find_53 ?_
      exact V_iret C hr d_M_find_55 h
    · replace h := h.2 q
      refine V_aload_n 0 C rfl d_M_find_15 ?_
      obtain ⟨j1, ej1, h⟩ := h
      refine V_getr (f := 19) C f_M_50 lx0 (osh_0 _ _ _ _) (fl_0_19 _ _ _) ej1 d_M_find_16 (fun lj1 => ?_)
      replace lj1 : j1 < cn 19 := lj1
      refine V_sh [(0, .ref (ad 0 0)), (1, .int (x1)), (2, .long (x2)), (4, .int (x4)), (5, .int (x5))] [.ref (ad 19 j1)] rfl rfl ?_
      refine V_iload 4 C rfl d_M_find_19 ?_
      refine V_iald C lj1 (osh_19 _ _ _ _) h.1 d_M_find_21 ?_
      replace h := h.2
      refine V_iload_n 1 C rfl d_M_find_22 ?_
      refine V_icmp_ne C d_M_find_23 (fun q => ?_) (fun q => ?_)
      · replace h := h.1 q
        refine V_iload 3 C rfl d_M_find_43 ?_
        refine V_istore C [(4, .int (x4)), (0, .ref (ad 0 0)), (1, .int (x1)), (2, .long (x2)), (5, .int (x5))] (by decide) rfl d_M_find_45 ?_
        refine V_iinc (v := (x5 + 1)) 4 C [(5, .int ((x5 + 1))), (4, .int (x4)), (0, .ref (ad 0 0)), (1, .int (x1)), (2, .long (x2))] rfl rfl (by decide) rfl d_M_find_47 ?_
        refine V_goto C d_M_find_50 ?_
        refine V_lvs [2, 3, 4, 1, 0] [(0, .ref (ad 0 0)), (1, .int (x1)), (2, .long (x2)), (4, .int (x4)), (5, .int ((x5 + 1)))] rfl ?_
        exact ih (x1) (x2) (x4) ((x5 + 1)) S lx0 h
      · replace h := h.2 q
        refine V_aload_n 0 C rfl d_M_find_26 ?_
        obtain ⟨j2, ej2, h⟩ := h
        refine V_getr (f := 20) C f_M_53 lx0 (osh_0 _ _ _ _) (fl_0_20 _ _ _) ej2 d_M_find_27 (fun lj2 => ?_)
        replace lj2 : j2 < cn 20 := lj2
        refine V_sh [(0, .ref (ad 0 0)), (1, .int (x1)), (2, .long (x2)), (4, .int (x4)), (5, .int (x5))] [.ref (ad 20 j2)] rfl rfl ?_
        refine V_iload 4 C rfl d_M_find_30 ?_
        refine V_lald C lj2 (osh_20 _ _ _ _) h.1 d_M_find_32 ?_
        replace h := h.2
        refine V_lload_n 2 C rfl d_M_find_33 ?_
        refine V_lcmp C d_M_find_34 ?_
        refine V_if_ne C d_M_find_35 (fun q => ?_) (fun q => ?_)
        · replace h := h.1 q
          refine V_iload 3 C rfl d_M_find_43 ?_
          refine V_istore C [(4, .int (x4)), (0, .ref (ad 0 0)), (1, .int (x1)), (2, .long (x2)), (5, .int (x5))] (by decide) rfl d_M_find_45 ?_
          refine V_iinc (v := (x5 + 1)) 4 C [(5, .int ((x5 + 1))), (4, .int (x4)), (0, .ref (ad 0 0)), (1, .int (x1)), (2, .long (x2))] rfl rfl (by decide) rfl d_M_find_47 ?_
          refine V_goto C d_M_find_50 ?_
          refine V_lvs [2, 3, 4, 1, 0] [(0, .ref (ad 0 0)), (1, .int (x1)), (2, .long (x2)), (4, .int (x4)), (5, .int ((x5 + 1)))] rfl ?_
          exact ih (x1) (x2) (x4) ((x5 + 1)) S lx0 h
        · replace h := h.2 q
          refine V_iload 4 C rfl d_M_find_38 ?_
          refine V_goto C d_M_find_40 ?_
          refine V_istore C [(4, .int (x5)), (0, .ref (ad 0 0)), (1, .int (x1)), (2, .long (x2)), (5, .int (x5))] (by decide) rfl d_M_find_45 ?_
          refine V_iinc (v := (x5 + 1)) 4 C [(5, .int ((x5 + 1))), (4, .int (x5)), (0, .ref (ad 0 0)), (1, .int (x1)), (2, .long (x2))] rfl rfl (by decide) rfl d_M_find_47 ?_
          refine V_goto C d_M_find_50 ?_
          refine V_lvs [2, 3, 4, 1, 0] [(0, .ref (ad 0 0)), (1, .int (x1)), (2, .long (x2)), (4, .int (x5)), (5, .int ((x5 + 1)))] rfl ?_
          exact ih (x1) (x2) (x5) ((x5 + 1)) S lx0 h
set_option maxRecDepth 100000 in
set_option maxHeartbeats 4000000 in
theorem ct_M_find (l : Launch) (Γ : oGm) (ad : oAd) (cn : Nat → Nat) (S : oSt) (a1 : Int32) (a2 : Int64) (post : Int32 → oSt → Prop) (l0 : 0 < cn 0) (h : wp_M_find S a1 a2 post) : Met l y_M_find (.code y_M_find prog_8_method_10_code 6 (some .int) :: oWS) { frames := 1, cells := 0, slots := 0, locals := 40 } (va_Pc [.ref (ad 0 0), .int (a1), .long (a2)] (oW Γ ad cn S)) (oQ Γ ad cn vI post) 0 0 (oF Γ) := by
  refine o_met (lv := [(0, .ref (ad 0 0)), (1, .int (a1)), (2, .long (a2))]) (own := "ValueConnectorModel") (by decide) rfl (Nat.le_of_ble_eq_true rfl) rfl ?_
  intro p e s m args below meth c C hr hnm
  have hR : 1 ≤ ({ frames := 1, cells := 0, slots := 0, locals := 40 } : Room).frames ∧ 40 ≤ ({ frames := 1, cells := 0, slots := 0, locals := 40 } : Room).locals := ⟨Nat.le_refl _, Nat.le_refl _⟩
  unfold wp_M_find at h
  refine V_iconst (v := -1) C (by decide) d_M_find_0 ?_
  refine V_istore C [(4, .int ((-1 : Int32))), (0, .ref (ad 0 0)), (1, .int (a1)), (2, .long (a2))] (by decide) rfl d_M_find_1 ?_
  refine V_iconst (v := 0) C (by decide) d_M_find_3 ?_
  refine V_istore C [(5, .int ((0 : Int32))), (4, .int ((-1 : Int32))), (0, .ref (ad 0 0)), (1, .int (a1)), (2, .long (a2))] (by decide) rfl d_M_find_4 ?_
  refine V_lvs [2, 3, 4, 1, 0] [(0, .ref (ad 0 0)), (1, .int (a1)), (2, .long (a2)), (4, .int ((-1 : Int32))), (5, .int ((0 : Int32)))] rfl ?_
  obtain ⟨n, h⟩ := h
  exact B_M_find_L6 C hr hR n (a1) (a2) ((-1 : Int32)) ((0 : Int32)) S l0 h
set_option maxRecDepth 100000 in
set_option maxHeartbeats 4000000 in
theorem B_M_learn_J54 {p : Program} {l : Launch} {e : Env} {R : Room} {s : State} {m : MethodId} {args : Array Value} {below : List Frame} {meth : Method} {c : Code} {Γ : oGm} {ad : oAd} {cn : Nat → Nat} {post : Int32 → oSt → Prop} (C : Cx p s m args meth c Γ prog_8_method_11_code 6 "ValueConnectorModel") (hr : meth.sig.returnType = (some .boolean)) (hR : 3 ≤ R.frames ∧ 85 ≤ R.locals) : ∀ (x1 : Int32) (x2 : Int64) (x4 : Int32) (x5 : Int32) (S : oSt) (_ : 0 < cn 0), wp_M_learn_J54 post x1 x2 x4 x5 S → Vv p l e R s m args below meth c (MQ below (oQ Γ ad cn vI post) args s 0 0 (oF Γ)) Γ 6 0 0 ad cn S 54 [(0, .ref (ad 0 0)), (1, .int (x1)), (2, .long (x2)), (4, .int (x4)), (5, .int (x5))] [] := by
  intro x1 x2 x4 x5 S lx0 h
  unfold wp_M_learn_J54 at h
  refine V_iload 4 C rfl d_M_learn_54 ?_
  refine V_if_ge C d_M_learn_56 (fun q => ?_) (fun q => ?_)
  · replace h := h.1 q
    refine V_aload_n 0 C rfl d_M_learn_75 ?_
    obtain ⟨j7, ej7, h⟩ := h
    refine V_getr (f := 19) C f_M_50 lx0 (osh_0 _ _ _ _) (fl_0_19 _ _ _) ej7 d_M_learn_76 (fun lj7 => ?_)
    replace lj7 : j7 < cn 19 := lj7
    refine V_sh [(0, .ref (ad 0 0)), (1, .int (x1)), (2, .long (x2)), (4, .int (x4)), (5, .int (x5))] [.ref (ad 19 j7)] rfl rfl ?_
    refine V_iload 4 C rfl d_M_learn_79 ?_
    refine V_iload_n 1 C rfl d_M_learn_81 ?_
    refine V_iast C lj7 (fun _ => osh_19 _ _ _ _) h.1 d_M_learn_82 (fun S8 eS8 => ?_)
    replace h := h.2 S8 eS8
    refine V_aload_n 0 C rfl d_M_learn_83 ?_
    obtain ⟨j9, ej9, h⟩ := h
    refine V_getr (f := 20) C f_M_53 lx0 (osh_0 _ _ _ _) (fl_0_20 _ _ _) ej9 d_M_learn_84 (fun lj9 => ?_)
    replace lj9 : j9 < cn 20 := lj9
    refine V_sh [(0, .ref (ad 0 0)), (1, .int (x1)), (2, .long (x2)), (4, .int (x4)), (5, .int (x5))] [.ref (ad 20 j9)] rfl rfl ?_
    refine V_iload 4 C rfl d_M_learn_87 ?_
    refine V_lload_n 2 C rfl d_M_learn_89 ?_
    refine V_last C lj9 (fun _ => osh_20 _ _ _ _) h.1 d_M_learn_90 (fun S10 eS10 => ?_)
    replace h := h.2 S10 eS10
    refine V_aload_n 0 C rfl d_M_learn_91 ?_
    obtain ⟨j11, ej11, h⟩ := h
    refine V_getr (f := 21) C f_M_56 lx0 (osh_0 _ _ _ _) (fl_0_21 _ _ _) ej11 d_M_learn_92 (fun lj11 => ?_)
    replace lj11 : j11 < cn 21 := lj11
    refine V_sh [(0, .ref (ad 0 0)), (1, .int (x1)), (2, .long (x2)), (4, .int (x4)), (5, .int (x5))] [.ref (ad 21 j11)] rfl rfl ?_
    refine V_iload 4 C rfl d_M_learn_95 ?_
    refine V_iload 3 C rfl d_M_learn_97 ?_
    refine V_iast C lj11 (fun _ => osh_21 _ _ _ _) h.1 d_M_learn_99 (fun S12 eS12 => ?_)
    replace h := h.2 S12 eS12
    refine V_iconst (v := 1) C (by decide) d_M_learn_100 ?_
    exact V_zret C hr (by decide) d_M_learn_101 h
  · replace h := h.2 q
    refine V_aload_n 0 C rfl d_M_learn_59 ?_
    refine V_get C f_M_112 lx0 (osh_0 _ _ _ _) (fl_0_18 _ _ _) d_M_learn_60 ?_
    refine V_istore C [(5, .int ((S.1 0 0 18))), (0, .ref (ad 0 0)), (1, .int (x1)), (2, .long (x2)), (4, .int (x4))] (by decide) rfl d_M_learn_63 ?_
    refine V_aload_n 1 C rfl d_M_learn_65 ?_
    refine V_dup C rfl d_M_learn_66 ?_
    refine V_get C f_M_112 lx0 (osh_0 _ _ _ _) (fl_0_18 _ _ _) d_M_learn_67 ?_
    refine V_iconst (v := 1) C (by decide) d_M_learn_70 ?_
    refine V_iadd C d_M_learn_71 ?_
    refine V_puti (f := 18) C p_M_112 (fun z => by cases z) lx0 (osh_0 _ _ _ _) (fl_0_len _ _ _ 18 (by decide)) (up_0_18 _ _ _ _ _) d_M_learn_72 (fun S13 eS13 => ?_)
    replace h := h S13 eS13
    refine V_aload_n 1 C rfl d_M_learn_75 ?_
    obtain ⟨j14, ej14, h⟩ := h
    refine V_getr (f := 19) C f_M_50 lx0 (osh_0 _ _ _ _) (fl_0_19 _ _ _) ej14 d_M_learn_76 (fun lj14 => ?_)
    replace lj14 : j14 < cn 19 := lj14
    refine V_sh [(5, .int ((S.1 0 0 18))), (0, .ref (ad 0 0)), (1, .int (x1)), (2, .long (x2)), (4, .int (x4))] [.ref (ad 19 j14)] rfl rfl ?_
    refine V_iload 0 C rfl d_M_learn_79 ?_
    refine V_iload_n 2 C rfl d_M_learn_81 ?_
    refine V_iast C lj14 (fun _ => osh_19 _ _ _ _) h.1 d_M_learn_82 (fun S15 eS15 => ?_)
    replace h := h.2 S15 eS15
    refine V_aload_n 1 C rfl d_M_learn_83 ?_
    obtain ⟨j16, ej16, h⟩ := h
    refine V_getr (f := 20) C f_M_53 lx0 (osh_0 _ _ _ _) (fl_0_20 _ _ _) ej16 d_M_learn_84 (fun lj16 => ?_)
    replace lj16 : j16 < cn 20 := lj16
    refine V_sh [(5, .int ((S.1 0 0 18))), (0, .ref (ad 0 0)), (1, .int (x1)), (2, .long (x2)), (4, .int (x4))] [.ref (ad 20 j16)] rfl rfl ?_
    refine V_iload 0 C rfl d_M_learn_87 ?_
    refine V_lload_n 3 C rfl d_M_learn_89 ?_
    refine V_last C lj16 (fun _ => osh_20 _ _ _ _) h.1 d_M_learn_90 (fun S17 eS17 => ?_)
    replace h := h.2 S17 eS17
    refine V_aload_n 1 C rfl d_M_learn_91 ?_
    obtain ⟨j18, ej18, h⟩ := h
    refine V_getr (f := 21) C f_M_56 lx0 (osh_0 _ _ _ _) (fl_0_21 _ _ _) ej18 d_M_learn_92 (fun lj18 => ?_)
    replace lj18 : j18 < cn 21 := lj18
    refine V_sh [(5, .int ((S.1 0 0 18))), (0, .ref (ad 0 0)), (1, .int (x1)), (2, .long (x2)), (4, .int (x4))] [.ref (ad 21 j18)] rfl rfl ?_
    refine V_iload 0 C rfl d_M_learn_95 ?_
    refine V_iload 4 C rfl d_M_learn_97 ?_
    refine V_iast C lj18 (fun _ => osh_21 _ _ _ _) h.1 d_M_learn_99 (fun S19 eS19 => ?_)
    replace h := h.2 S19 eS19
    refine V_iconst (v := 1) C (by decide) d_M_learn_100 ?_
    exact V_zret C hr (by decide) d_M_learn_101 h
set_option maxRecDepth 100000 in
set_option maxHeartbeats 4000000 in
theorem ct_M_learn (l : Launch) (Γ : oGm) (ad : oAd) (cn : Nat → Nat) (S : oSt) (a1 : Int32) (a2 : Int64) (a4 : Int32) (post : Int32 → oSt → Prop) (l0 : 0 < cn 0) (h : wp_M_learn S a1 a2 a4 post) : Met l y_M_learn (.code y_M_learn prog_8_method_11_code 6 (some .boolean) :: oWS) { frames := 3, cells := 0, slots := 0, locals := 85 } (va_Pc [.ref (ad 0 0), .int (a1), .long (a2), .int (a4)] (oW Γ ad cn S)) (oQ Γ ad cn vI post) 0 0 (oF Γ) := by
  refine o_met (lv := [(0, .ref (ad 0 0)), (1, .int (a1)), (2, .long (a2)), (4, .int (a4))]) (own := "ValueConnectorModel") (by decide) rfl (Nat.le_of_ble_eq_true rfl) rfl ?_
  intro p e s m args below meth c C hr hnm
  have hR : 3 ≤ ({ frames := 3, cells := 0, slots := 0, locals := 85 } : Room).frames ∧ 85 ≤ ({ frames := 3, cells := 0, slots := 0, locals := 85 } : Room).locals := ⟨Nat.le_refl _, Nat.le_refl _⟩
  unfold wp_M_learn at h
  refine V_aload_n 0 C rfl d_M_learn_0 ?_
  refine V_iload_n 1 C rfl d_M_learn_1 ?_
  refine V_cV (As := [.int (a1)]) (rest := []) C k_M_99 l0 (osh_0 _ _ _ _) (ct_M_isAccount l Γ ad cn S (a1) _ l0 h) ⟨rfl, rfl⟩ ⟨Nat.le_trans (by decide) hR.1, Nat.le_trans (by decide) hR.2⟩ ⟨Nat.zero_le _, Nat.zero_le _⟩ rfl rfl (Nat.le_of_ble_eq_true rfl) d_M_learn_2 (fun r1 S2 h => ?_)
  refine V_sh [(0, .ref (ad 0 0)), (1, .int (a1)), (2, .long (a2)), (4, .int (a4))] [.int (r1)] rfl rfl ?_
  refine V_if_eq C d_M_learn_5 (fun q => ?_) (fun q => ?_)
  · replace h := h.1 q
    refine V_iconst (v := 0) C (by decide) d_M_learn_28 ?_
    exact V_zret C hr (by decide) d_M_learn_29 h
  · replace h := h.2 q
    refine V_lload_n 2 C rfl d_M_learn_8 ?_
    refine V_cS (As := [.long (a2)]) (rest := []) C k_M_115 (ct_M_lengthOf l Γ ad cn S2 (a2) _  h) ⟨rfl, rfl⟩ ⟨Nat.le_trans (by decide) hR.1, Nat.le_trans (by decide) hR.2⟩ ⟨Nat.zero_le _, Nat.zero_le _⟩ rfl rfl (Nat.le_of_ble_eq_true rfl) d_M_learn_9 (fun r3 S4 h => ?_)
    refine V_sh [(0, .ref (ad 0 0)), (1, .int (a1)), (2, .long (a2)), (4, .int (a4))] [.int (r3)] rfl rfl ?_
    refine V_if_lt C d_M_learn_12 (fun q => ?_) (fun q => ?_)
    · replace h := h.1 q
      refine V_iconst (v := 0) C (by decide) d_M_learn_28 ?_
      exact V_zret C hr (by decide) d_M_learn_29 h
    · replace h := h.2 q
      refine V_iload 3 C rfl d_M_learn_15 ?_
      refine V_iconst (v := 1) C (by decide) d_M_learn_17 ?_
      refine V_icmp_lt C d_M_learn_18 (fun q => ?_) (fun q => ?_)
      · replace h := h.1 q
        refine V_iconst (v := 0) C (by decide) d_M_learn_28 ?_
        exact V_zret C hr (by decide) d_M_learn_29 h
      · replace h := h.2 q
        refine V_iload 3 C rfl d_M_learn_21 ?_
        refine V_bipush (v := 15) C (by decide) d_M_learn_23 ?_
        refine V_icmp_le C d_M_learn_25 (fun q => ?_) (fun q => ?_)
        · replace h := h.1 q
          refine V_aload_n 0 C rfl d_M_learn_30 ?_
          refine V_iload_n 1 C rfl d_M_learn_31 ?_
          refine V_lload_n 2 C rfl d_M_learn_32 ?_
          refine V_cV (As := [.int (a1), .long (a2)]) (rest := []) C k_M_119 l0 (osh_0 _ _ _ _) (ct_M_find l Γ ad cn S4 (a1) (a2) _ l0 h) ⟨rfl, rfl⟩ ⟨Nat.le_trans (by decide) hR.1, Nat.le_trans (by decide) hR.2⟩ ⟨Nat.zero_le _, Nat.zero_le _⟩ rfl rfl (Nat.le_of_ble_eq_true rfl) d_M_learn_33 (fun r5 S6 h => ?_)
          refine V_sh [(0, .ref (ad 0 0)), (1, .int (a1)), (2, .long (a2)), (4, .int (a4))] [.int (r5)] rfl rfl ?_
          refine V_istore C [(5, .int (r5)), (0, .ref (ad 0 0)), (1, .int (a1)), (2, .long (a2)), (4, .int (a4))] (by decide) rfl d_M_learn_36 ?_
          refine V_iload 0 C rfl d_M_learn_38 ?_
          refine V_if_ge C d_M_learn_40 (fun q => ?_) (fun q => ?_)
          · replace h := h.1 q
            refine V_lvs [1, 2, 3, 4, 0] [(0, .ref (ad 0 0)), (1, .int (a1)), (2, .long (a2)), (4, .int (a4)), (5, .int (r5))] rfl ?_
            exact B_M_learn_J54 C hr hR (a1) (a2) (a4) (r5) S6 l0 h
          · replace h := h.2 q
            refine V_aload_n 1 C rfl d_M_learn_43 ?_
            refine V_get C f_M_112 l0 (osh_0 _ _ _ _) (fl_0_18 _ _ _) d_M_learn_44 ?_
            refine V_bipush (v := 40) C (by decide) d_M_learn_47 ?_
            refine V_icmp_ne C d_M_learn_49 (fun q => ?_) (fun q => ?_)
            · replace h := h.1 q
              refine V_lvs [1, 2, 3, 4, 0] [(0, .ref (ad 0 0)), (1, .int (a1)), (2, .long (a2)), (4, .int (a4)), (5, .int (r5))] rfl ?_
              exact B_M_learn_J54 C hr hR (a1) (a2) (a4) (r5) S6 l0 h
            · replace h := h.2 q
              refine V_iconst (v := 0) C (by decide) d_M_learn_52 ?_
              exact V_zret C hr (by decide) d_M_learn_53 h
        · replace h := h.2 q
          refine V_iconst (v := 0) C (by decide) d_M_learn_28 ?_
          exact V_zret C hr (by decide) d_M_learn_29 h
set_option maxRecDepth 100000 in
set_option maxHeartbeats 4000000 in
theorem B_M_forget_L19 {p : Program} {l : Launch} {e : Env} {R : Room} {s : State} {m : MethodId} {args : Array Value} {below : List Frame} {meth : Method} {c : Code} {Γ : oGm} {ad : oAd} {cn : Nat → Nat} {post : Int32 → oSt → Prop} (C : Cx p s m args meth c Γ prog_8_method_12_code 6 "ValueConnectorModel") (hr : meth.sig.returnType = (some .boolean)) (hR : 2 ≤ R.frames ∧ 65 ≤ R.locals) : ∀ (n : Nat) (x5 : Int32) (S : oSt) (_ : 0 < cn 0), wp_M_forget_L19 post n x5 S → Vv p l e R s m args below meth c (MQ below (oQ Γ ad cn vI post) args s 0 0 (oF Γ)) Γ 6 0 0 ad cn S 19 [(0, .ref (ad 0 0)), (5, .int (x5))] [] := by
  intro n
  induction n with
  | zero => intro x5 S lx0 h; exact h.elim
  | succ n ih =>
    intro x5 S lx0 h
    unfold wp_M_forget_L19 at h
    refine V_iload 1 C rfl d_M_forget_19 ?_
    refine V_iconst (v := 1) C (by decide) d_M_forget_21 ?_
    refine V_iadd C d_M_forget_22 ?_
    refine V_aload_n 0 C rfl d_M_forget_23 ?_
    refine V_get C f_M_112 lx0 (osh_0 _ _ _ _) (fl_0_18 _ _ _) d_M_forget_24 ?_
    refine V_icmp_ge C d_M_forget_27 (fun q => ?_) (fun q => ?_)
    · replace h := h.1 q
      refine V_aload_n 0 C rfl d_M_forget_84 ?_
      refine V_dup C rfl d_M_forget_85 ?_
      refine V_get C f_M_112 lx0 (osh_0 _ _ _ _) (fl_0_18 _ _ _) d_M_forget_86 ?_
      refine V_iconst (v := 1) C (by decide) d_M_forget_89 ?_
      refine V_isub C d_M_forget_90 ?_
      refine V_puti (f := 18) C p_M_112 (fun z => by cases z) lx0 (osh_0 _ _ _ _) (fl_0_len _ _ _ 18 (by decide)) (up_0_18 _ _ _ _ _) d_M_forget_91 (fun S3 eS3 => ?_)
      replace h := h S3 eS3
      refine V_iconst (v := 1) C (by decide) d_M_forget_94 ?_
      exact V_zret C hr (by decide) d_M_forget_95 h
    · replace h := h.2 q
      refine V_aload_n 0 C rfl d_M_forget_30 ?_
      obtain ⟨j4, ej4, h⟩ := h
      refine V_getr (f := 19) C f_M_50 lx0 (osh_0 _ _ _ _) (fl_0_19 _ _ _) ej4 d_M_forget_31 (fun lj4 => ?_)
      replace lj4 : j4 < cn 19 := lj4
      refine V_sh [(0, .ref (ad 0 0)), (5, .int (x5))] [.ref (ad 19 j4)] rfl rfl ?_
      refine V_iload 1 C rfl d_M_forget_34 ?_
      refine V_aload_n 0 C rfl d_M_forget_36 ?_
      obtain ⟨j5, ej5, h⟩ := h
      refine V_getr (f := 19) C f_M_50 lx0 (osh_0 _ _ _ _) (fl_0_19 _ _ _) ej5 d_M_forget_37 (fun lj5 => ?_)
      replace lj5 : j5 < cn 19 := lj5
      refine V_sh [(0, .ref (ad 0 0)), (5, .int (x5))] [.ref (ad 19 j5), .int (x5), .ref (ad 19 j4)] rfl rfl ?_
      refine V_iload 1 C rfl d_M_forget_40 ?_
      refine V_iconst (v := 1) C (by decide) d_M_forget_42 ?_
      refine V_iadd C d_M_forget_43 ?_
      refine V_iald C lj5 (osh_19 _ _ _ _) h.1 d_M_forget_44 ?_
      replace h := h.2
      refine V_iast C lj4 (fun _ => osh_19 _ _ _ _) h.1 d_M_forget_45 (fun S6 eS6 => ?_)
      replace h := h.2 S6 eS6
      refine V_aload_n 0 C rfl d_M_forget_46 ?_
      obtain ⟨j7, ej7, h⟩ := h
      refine V_getr (f := 20) C f_M_53 lx0 (osh_0 _ _ _ _) (fl_0_20 _ _ _) ej7 d_M_forget_47 (fun lj7 => ?_)
      replace lj7 : j7 < cn 20 := lj7
      refine V_sh [(0, .ref (ad 0 0)), (5, .int (x5))] [.ref (ad 20 j7)] rfl rfl ?_
      refine V_iload 1 C rfl d_M_forget_50 ?_
      refine V_aload_n 0 C rfl d_M_forget_52 ?_
      obtain ⟨j8, ej8, h⟩ := h
      refine V_getr (f := 20) C f_M_53 lx0 (osh_0 _ _ _ _) (fl_0_20 _ _ _) ej8 d_M_forget_53 (fun lj8 => ?_)
      replace lj8 : j8 < cn 20 := lj8
      refine V_sh [(0, .ref (ad 0 0)), (5, .int (x5))] [.ref (ad 20 j8), .int (x5), .ref (ad 20 j7)] rfl rfl ?_
      refine V_iload 1 C rfl d_M_forget_56 ?_
      refine V_iconst (v := 1) C (by decide) d_M_forget_58 ?_
      refine V_iadd C d_M_forget_59 ?_
      refine V_lald C lj8 (osh_20 _ _ _ _) h.1 d_M_forget_60 ?_
      replace h := h.2
      refine V_last C lj7 (fun _ => osh_20 _ _ _ _) h.1 d_M_forget_61 (fun S9 eS9 => ?_)
      replace h := h.2 S9 eS9
      refine V_aload_n 0 C rfl d_M_forget_62 ?_
      obtain ⟨j10, ej10, h⟩ := h
      refine V_getr (f := 21) C f_M_56 lx0 (osh_0 _ _ _ _) (fl_0_21 _ _ _) ej10 d_M_forget_63 (fun lj10 => ?_)
      replace lj10 : j10 < cn 21 := lj10
      refine V_sh [(0, .ref (ad 0 0)), (5, .int (x5))] [.ref (ad 21 j10)] rfl rfl ?_
      refine V_iload 1 C rfl d_M_forget_66 ?_
      refine V_aload_n 0 C rfl d_M_forget_68 ?_
      obtain ⟨j11, ej11, h⟩ := h
      refine V_getr (f := 21) C f_M_56 lx0 (osh_0 _ _ _ _) (fl_0_21 _ _ _) ej11 d_M_forget_69 (fun lj11 => ?_)
      replace lj11 : j11 < cn 21 := lj11
      refine V_sh [(0, .ref (ad 0 0)), (5, .int (x5))] [.ref (ad 21 j11), .int (x5), .ref (ad 21 j10)] rfl rfl ?_
      refine V_iload 1 C rfl d_M_forget_72 ?_
      refine V_iconst (v := 1) C (by decide) d_M_forget_74 ?_
      refine V_iadd C d_M_forget_75 ?_
      refine V_iald C lj11 (osh_21 _ _ _ _) h.1 d_M_forget_76 ?_
      replace h := h.2
      refine V_iast C lj10 (fun _ => osh_21 _ _ _ _) h.1 d_M_forget_77 (fun S12 eS12 => ?_)
      replace h := h.2 S12 eS12
      refine V_iinc (v := (x5 + 1)) 1 C [(5, .int ((x5 + 1))), (0, .ref (ad 0 0))] rfl rfl (by decide) rfl d_M_forget_78 ?_
      refine V_goto C d_M_forget_81 ?_
      refine V_lvs [1, 0] [(0, .ref (ad 0 0)), (5, .int ((x5 + 1)))] rfl ?_
      exact ih ((x5 + 1)) S12 lx0 h
set_option maxRecDepth 100000 in
set_option maxHeartbeats 4000000 in
theorem ct_M_forget (l : Launch) (Γ : oGm) (ad : oAd) (cn : Nat → Nat) (S : oSt) (a1 : Int32) (a2 : Int64) (post : Int32 → oSt → Prop) (l0 : 0 < cn 0) (h : wp_M_forget S a1 a2 post) : Met l y_M_forget (.code y_M_forget prog_8_method_12_code 6 (some .boolean) :: oWS) { frames := 2, cells := 0, slots := 0, locals := 65 } (va_Pc [.ref (ad 0 0), .int (a1), .long (a2)] (oW Γ ad cn S)) (oQ Γ ad cn vI post) 0 0 (oF Γ) := by
  refine o_met (lv := [(0, .ref (ad 0 0)), (1, .int (a1)), (2, .long (a2))]) (own := "ValueConnectorModel") (by decide) rfl (Nat.le_of_ble_eq_true rfl) rfl ?_
  intro p e s m args below meth c C hr hnm
  have hR : 2 ≤ ({ frames := 2, cells := 0, slots := 0, locals := 65 } : Room).frames ∧ 65 ≤ ({ frames := 2, cells := 0, slots := 0, locals := 65 } : Room).locals := ⟨Nat.le_refl _, Nat.le_refl _⟩
  unfold wp_M_forget at h
  refine V_aload_n 0 C rfl d_M_forget_0 ?_
  refine V_iload_n 1 C rfl d_M_forget_1 ?_
  refine V_lload_n 2 C rfl d_M_forget_2 ?_
  refine V_cV (As := [.int (a1), .long (a2)]) (rest := []) C k_M_119 l0 (osh_0 _ _ _ _) (ct_M_find l Γ ad cn S (a1) (a2) _ l0 h) ⟨rfl, rfl⟩ ⟨Nat.le_trans (by decide) hR.1, Nat.le_trans (by decide) hR.2⟩ ⟨Nat.zero_le _, Nat.zero_le _⟩ rfl rfl (Nat.le_of_ble_eq_true rfl) d_M_forget_3 (fun r1 S2 h => ?_)
  refine V_sh [(0, .ref (ad 0 0)), (1, .int (a1)), (2, .long (a2))] [.int (r1)] rfl rfl ?_
  refine V_istore C [(4, .int (r1)), (0, .ref (ad 0 0)), (1, .int (a1)), (2, .long (a2))] (by decide) rfl d_M_forget_6 ?_
  refine V_iload 0 C rfl d_M_forget_8 ?_
  refine V_if_ge C d_M_forget_10 (fun q => ?_) (fun q => ?_)
  · replace h := h.1 q
    refine V_iload 0 C rfl d_M_forget_15 ?_
    refine V_istore C [(5, .int (r1)), (4, .int (r1)), (0, .ref (ad 0 0)), (1, .int (a1)), (2, .long (a2))] (by decide) rfl d_M_forget_17 ?_
    refine V_lvs [2, 0] [(0, .ref (ad 0 0)), (5, .int (r1))] rfl ?_
    obtain ⟨n, h⟩ := h
    exact B_M_forget_L19 C hr hR n (r1) S2 l0 h
  · replace h := h.2 q
    refine V_iconst (v := 0) C (by decide) d_M_forget_13 ?_
    exact V_zret C hr (by decide) d_M_forget_14 h
set_option maxRecDepth 100000 in
set_option maxHeartbeats 4000000 in
theorem B_M_begins_L12 {p : Program} {l : Launch} {e : Env} {R : Room} {s : State} {m : MethodId} {args : Array Value} {below : List Frame} {meth : Method} {c : Code} {Γ : oGm} {ad : oAd} {cn : Nat → Nat} {post : Int32 → oSt → Prop} (C : Cx p s m args meth c Γ prog_8_method_13_code 8 "ValueConnectorModel") (hr : meth.sig.returnType = (some .boolean)) (hR : 3 ≤ R.frames ∧ 85 ≤ R.locals) : ∀ (n : Nat) (x1 : Int64) (x3 : Int64) (x5 : Int32) (x6 : Int32) (x7 : Int32) (S : oSt) , wp_M_begins_L12 post n x1 x3 x5 x6 x7 S → Vv p l e R s m args below meth c (MQ below (oQ Γ ad cn vI post) args s 0 0 (oF Γ)) Γ 8 0 0 ad cn S 12 [(1, .long (x1)), (3, .long (x3)), (5, .int (x5)), (6, .int (x6)), (7, .int (x7))] [] := by
  intro n
  induction n with
  | zero => intro x1 x3 x5 x6 x7 S  h; exact h.elim
  | succ n ih =>
    intro x1 x3 x5 x6 x7 S  h
    unfold wp_M_begins_L12 at h
    refine V_iload 4 C rfl d_M_begins_12 ?_
    refine V_iload 3 C rfl d_M_begins_14 ?_
    refine V_icmp_ge C d_M_begins_16 (fun q => ?_) (fun q => ?_)
    · replace h := h.1 q
      refine V_iload 2 C rfl d_M_begins_52 ?_
      exact V_zret C hr h.1 d_M_begins_54 h.2
    · replace h := h.2 q
      refine V_iload 2 C rfl d_M_begins_19 ?_
      refine V_if_eq C d_M_begins_21 (fun q => ?_) (fun q => ?_)
      · replace h := h.1 q
        refine V_iconst (v := 0) C (by decide) d_M_begins_43 ?_
        refine V_istore C [(5, .int ((0 : Int32))), (1, .long (x1)), (3, .long (x3)), (6, .int (x6)), (7, .int (x7))] (by decide) rfl d_M_begins_44 ?_
        refine V_iinc (v := (x7 + 1)) 4 C [(7, .int ((x7 + 1))), (5, .int ((0 : Int32))), (1, .long (x1)), (3, .long (x3)), (6, .int (x6))] rfl rfl (by decide) rfl d_M_begins_46 ?_
        refine V_goto C d_M_begins_49 ?_
        refine V_lvs [2, 3, 1, 4, 0] [(1, .long (x1)), (3, .long (x3)), (5, .int ((0 : Int32))), (6, .int (x6)), (7, .int ((x7 + 1)))] rfl ?_
        exact ih (x1) (x3) ((0 : Int32)) (x6) ((x7 + 1)) S  h
      · replace h := h.2 q
        refine V_lload_n 0 C rfl d_M_begins_24 ?_
        refine V_iload 4 C rfl d_M_begins_25 ?_
        refine V_cS (As := [.long (x1), .int (x7)]) (rest := []) C k_M_108 (ct_M_letterAt l Γ ad cn S (x1) (x7) _  h) ⟨rfl, rfl⟩ ⟨Nat.le_trans (by decide) hR.1, Nat.le_trans (by decide) hR.2⟩ ⟨Nat.zero_le _, Nat.zero_le _⟩ rfl rfl (Nat.le_of_ble_eq_true rfl) d_M_begins_27 (fun r3 S4 h => ?_)
        refine V_sh [(1, .long (x1)), (3, .long (x3)), (5, .int (x5)), (6, .int (x6)), (7, .int (x7))] [.int (r3)] rfl rfl ?_
        refine V_lload_n 1 C rfl d_M_begins_30 ?_
        refine V_iload 4 C rfl d_M_begins_31 ?_
        refine V_cS (As := [.long (x3), .int (x7)]) (rest := [.int (r3)]) C k_M_108 (ct_M_letterAt l Γ ad cn S4 (x3) (x7) _  h) ⟨rfl, rfl⟩ ⟨Nat.le_trans (by decide) hR.1, Nat.le_trans (by decide) hR.2⟩ ⟨Nat.zero_le _, Nat.zero_le _⟩ rfl rfl (Nat.le_of_ble_eq_true rfl) d_M_begins_33 (fun r5 S6 h => ?_)
        refine V_sh [(1, .long (x1)), (3, .long (x3)), (5, .int (x5)), (6, .int (x6)), (7, .int (x7))] [.int (r5), .int (r3)] rfl rfl ?_
        refine V_icmp_ne C d_M_begins_36 (fun q => ?_) (fun q => ?_)
        · replace h := h.1 q
          refine V_iconst (v := 0) C (by decide) d_M_begins_43 ?_
          refine V_istore C [(5, .int ((0 : Int32))), (1, .long (x1)), (3, .long (x3)), (6, .int (x6)), (7, .int (x7))] (by decide) rfl d_M_begins_44 ?_
          refine V_iinc (v := (x7 + 1)) 4 C [(7, .int ((x7 + 1))), (5, .int ((0 : Int32))), (1, .long (x1)), (3, .long (x3)), (6, .int (x6))] rfl rfl (by decide) rfl d_M_begins_46 ?_
          refine V_goto C d_M_begins_49 ?_
          refine V_lvs [2, 3, 1, 4, 0] [(1, .long (x1)), (3, .long (x3)), (5, .int ((0 : Int32))), (6, .int (x6)), (7, .int ((x7 + 1)))] rfl ?_
          exact ih (x1) (x3) ((0 : Int32)) (x6) ((x7 + 1)) S6  h
        · replace h := h.2 q
          refine V_iconst (v := 1) C (by decide) d_M_begins_39 ?_
          refine V_goto C d_M_begins_40 ?_
          refine V_istore C [(5, .int ((1 : Int32))), (1, .long (x1)), (3, .long (x3)), (6, .int (x6)), (7, .int (x7))] (by decide) rfl d_M_begins_44 ?_
          refine V_iinc (v := (x7 + 1)) 4 C [(7, .int ((x7 + 1))), (5, .int ((1 : Int32))), (1, .long (x1)), (3, .long (x3)), (6, .int (x6))] rfl rfl (by decide) rfl d_M_begins_46 ?_
          refine V_goto C d_M_begins_49 ?_
          refine V_lvs [2, 3, 1, 4, 0] [(1, .long (x1)), (3, .long (x3)), (5, .int ((1 : Int32))), (6, .int (x6)), (7, .int ((x7 + 1)))] rfl ?_
          exact ih (x1) (x3) ((1 : Int32)) (x6) ((x7 + 1)) S6  h
set_option maxRecDepth 100000 in
set_option maxHeartbeats 4000000 in
theorem ct_M_begins (l : Launch) (Γ : oGm) (ad : oAd) (cn : Nat → Nat) (S : oSt) (a1 : Int64) (a3 : Int64) (post : Int32 → oSt → Prop) (l0 : 0 < cn 0) (h : wp_M_begins S a1 a3 post) : Met l y_M_begins (.code y_M_begins prog_8_method_13_code 8 (some .boolean) :: oWS) { frames := 3, cells := 0, slots := 0, locals := 85 } (va_Pc [.ref (ad 0 0), .long (a1), .long (a3)] (oW Γ ad cn S)) (oQ Γ ad cn vI post) 0 0 (oF Γ) := by
  refine o_met (lv := [(0, .ref (ad 0 0)), (1, .long (a1)), (3, .long (a3))]) (own := "ValueConnectorModel") (by decide) rfl (Nat.le_of_ble_eq_true rfl) rfl ?_
  intro p e s m args below meth c C hr hnm
  have hR : 3 ≤ ({ frames := 3, cells := 0, slots := 0, locals := 85 } : Room).frames ∧ 85 ≤ ({ frames := 3, cells := 0, slots := 0, locals := 85 } : Room).locals := ⟨Nat.le_refl _, Nat.le_refl _⟩
  unfold wp_M_begins at h
  refine V_iconst (v := 1) C (by decide) d_M_begins_0 ?_
  refine V_istore C [(5, .int ((1 : Int32))), (0, .ref (ad 0 0)), (1, .long (a1)), (3, .long (a3))] (by decide) rfl d_M_begins_1 ?_
  refine V_lload_n 3 C rfl d_M_begins_3 ?_
  refine V_cS (As := [.long (a3)]) (rest := []) C k_M_115 (ct_M_lengthOf l Γ ad cn S (a3) _  h) ⟨rfl, rfl⟩ ⟨Nat.le_trans (by decide) hR.1, Nat.le_trans (by decide) hR.2⟩ ⟨Nat.zero_le _, Nat.zero_le _⟩ rfl rfl (Nat.le_of_ble_eq_true rfl) d_M_begins_4 (fun r1 S2 h => ?_)
  refine V_sh [(5, .int ((1 : Int32))), (0, .ref (ad 0 0)), (1, .long (a1)), (3, .long (a3))] [.int (r1)] rfl rfl ?_
  refine V_istore C [(6, .int (r1)), (5, .int ((1 : Int32))), (0, .ref (ad 0 0)), (1, .long (a1)), (3, .long (a3))] (by decide) rfl d_M_begins_7 ?_
  refine V_iconst (v := 0) C (by decide) d_M_begins_9 ?_
  refine V_istore C [(7, .int ((0 : Int32))), (6, .int (r1)), (5, .int ((1 : Int32))), (0, .ref (ad 0 0)), (1, .long (a1)), (3, .long (a3))] (by decide) rfl d_M_begins_10 ?_
  refine V_lvs [4, 5, 2, 1, 0] [(1, .long (a1)), (3, .long (a3)), (5, .int ((1 : Int32))), (6, .int (r1)), (7, .int ((0 : Int32)))] rfl ?_
  obtain ⟨n, h⟩ := h
  exact B_M_begins_L12 C hr hR n (a1) (a3) ((1 : Int32)) (r1) ((0 : Int32)) S2  h
set_option maxRecDepth 100000 in
set_option maxHeartbeats 4000000 in
theorem ct_M_better (l : Launch) (Γ : oGm) (ad : oAd) (cn : Nat → Nat) (S : oSt) (a1 : Int32) (a2 : Int32) (post : Int32 → oSt → Prop) (l0 : 0 < cn 0) (h : wp_M_better S a1 a2 post) : Met l y_M_better (.code y_M_better prog_8_method_14_code 5 (some .boolean) :: oWS) { frames := 3, cells := 0, slots := 0, locals := 85 } (va_Pc [.ref (ad 0 0), .int (a1), .int (a2)] (oW Γ ad cn S)) (oQ Γ ad cn vI post) 0 0 (oF Γ) := by
  refine o_met (lv := [(0, .ref (ad 0 0)), (1, .int (a1)), (2, .int (a2))]) (own := "ValueConnectorModel") (by decide) rfl (Nat.le_of_ble_eq_true rfl) rfl ?_
  intro p e s m args below meth c C hr hnm
  have hR : 3 ≤ ({ frames := 3, cells := 0, slots := 0, locals := 85 } : Room).frames ∧ 85 ≤ ({ frames := 3, cells := 0, slots := 0, locals := 85 } : Room).locals := ⟨Nat.le_refl _, Nat.le_refl _⟩
  unfold wp_M_better at h
  refine V_aload_n 0 C rfl d_M_better_0 ?_
  obtain ⟨j1, ej1, h⟩ := h
  refine V_getr (f := 20) C f_M_53 l0 (osh_0 _ _ _ _) (fl_0_20 _ _ _) ej1 d_M_better_1 (fun lj1 => ?_)
  replace lj1 : j1 < cn 20 := lj1
  refine V_sh [(0, .ref (ad 0 0)), (1, .int (a1)), (2, .int (a2))] [.ref (ad 20 j1)] rfl rfl ?_
  refine V_iload_n 1 C rfl d_M_better_4 ?_
  refine V_lald C lj1 (osh_20 _ _ _ _) h.1 d_M_better_5 ?_
  replace h := h.2
  refine V_cS (As := [.long ((S.2.1 20 j1 (Int32.toNatClampNeg a1)))]) (rest := []) C k_M_115 (ct_M_lengthOf l Γ ad cn S ((S.2.1 20 j1 (Int32.toNatClampNeg a1))) _  h) ⟨rfl, rfl⟩ ⟨Nat.le_trans (by decide) hR.1, Nat.le_trans (by decide) hR.2⟩ ⟨Nat.zero_le _, Nat.zero_le _⟩ rfl rfl (Nat.le_of_ble_eq_true rfl) d_M_better_6 (fun r2 S3 h => ?_)
  refine V_sh [(0, .ref (ad 0 0)), (1, .int (a1)), (2, .int (a2))] [.int (r2)] rfl rfl ?_
  refine V_istore_n C [(3, .int (r2)), (0, .ref (ad 0 0)), (1, .int (a1)), (2, .int (a2))] (by decide) rfl d_M_better_9 ?_
  refine V_aload_n 1 C rfl d_M_better_10 ?_
  obtain ⟨j4, ej4, h⟩ := h
  refine V_getr (f := 20) C f_M_53 l0 (osh_0 _ _ _ _) (fl_0_20 _ _ _) ej4 d_M_better_11 (fun lj4 => ?_)
  replace lj4 : j4 < cn 20 := lj4
  refine V_sh [(3, .int (r2)), (0, .ref (ad 0 0)), (1, .int (a1)), (2, .int (a2))] [.ref (ad 20 j4)] rfl rfl ?_
  refine V_iload_n 3 C rfl d_M_better_14 ?_
  refine V_lald C lj4 (osh_20 _ _ _ _) h.1 d_M_better_15 ?_
  replace h := h.2
  refine V_cS (As := [.long ((S3.2.1 20 j4 (Int32.toNatClampNeg a2)))]) (rest := []) C k_M_115 (ct_M_lengthOf l Γ ad cn S3 ((S3.2.1 20 j4 (Int32.toNatClampNeg a2))) _  h) ⟨rfl, rfl⟩ ⟨Nat.le_trans (by decide) hR.1, Nat.le_trans (by decide) hR.2⟩ ⟨Nat.zero_le _, Nat.zero_le _⟩ rfl rfl (Nat.le_of_ble_eq_true rfl) d_M_better_16 (fun r5 S6 h => ?_)
  refine V_sh [(3, .int (r2)), (0, .ref (ad 0 0)), (1, .int (a1)), (2, .int (a2))] [.int (r5)] rfl rfl ?_
  refine V_istore C [(4, .int (r5)), (3, .int (r2)), (0, .ref (ad 0 0)), (1, .int (a1)), (2, .int (a2))] (by decide) rfl d_M_better_19 ?_
  refine V_iload_n 1 C rfl d_M_better_21 ?_
  refine V_iload 0 C rfl d_M_better_22 ?_
  refine V_icmp_eq C d_M_better_24 (fun q => ?_) (fun q => ?_)
  · replace h := h.1 q
    refine V_aload_n 2 C rfl d_M_better_39 ?_
    obtain ⟨j7, ej7, h⟩ := h
    refine V_getr (f := 21) C f_M_56 l0 (osh_0 _ _ _ _) (fl_0_21 _ _ _) ej7 d_M_better_40 (fun lj7 => ?_)
    replace lj7 : j7 < cn 21 := lj7
    refine V_sh [(4, .int (r5)), (3, .int (r2)), (0, .ref (ad 0 0)), (1, .int (a1)), (2, .int (a2))] [.ref (ad 21 j7)] rfl rfl ?_
    refine V_iload_n 3 C rfl d_M_better_43 ?_
    refine V_iald C lj7 (osh_21 _ _ _ _) h.1 d_M_better_44 ?_
    replace h := h.2
    refine V_aload_n 2 C rfl d_M_better_45 ?_
    obtain ⟨j8, ej8, h⟩ := h
    refine V_getr (f := 21) C f_M_56 l0 (osh_0 _ _ _ _) (fl_0_21 _ _ _) ej8 d_M_better_46 (fun lj8 => ?_)
    replace lj8 : j8 < cn 21 := lj8
    refine V_sh [(4, .int (r5)), (3, .int (r2)), (0, .ref (ad 0 0)), (1, .int (a1)), (2, .int (a2))] [.ref (ad 21 j8), .int ((S6.1 21 j7 (Int32.toNatClampNeg a1)))] rfl rfl ?_
    refine V_iload_n 4 C rfl d_M_better_49 ?_
    refine V_iald C lj8 (osh_21 _ _ _ _) h.1 d_M_better_50 ?_
    replace h := h.2
    refine V_icmp_lt C d_M_better_51 (fun q => ?_) (fun q => ?_)
    · replace h := h.1 q
      refine V_iconst (v := 1) C (by decide) d_M_better_84 ?_
      refine V_goto C d_M_better_85 ?_
      exact V_zret C hr (by decide) d_M_better_89 h
    · replace h := h.2 q
      refine V_aload_n 2 C rfl d_M_better_54 ?_
      obtain ⟨j9, ej9, h⟩ := h
      refine V_getr (f := 21) C f_M_56 l0 (osh_0 _ _ _ _) (fl_0_21 _ _ _) ej9 d_M_better_55 (fun lj9 => ?_)
      replace lj9 : j9 < cn 21 := lj9
      refine V_sh [(4, .int (r5)), (3, .int (r2)), (0, .ref (ad 0 0)), (1, .int (a1)), (2, .int (a2))] [.ref (ad 21 j9)] rfl rfl ?_
      refine V_iload_n 3 C rfl d_M_better_58 ?_
      refine V_iald C lj9 (osh_21 _ _ _ _) h.1 d_M_better_59 ?_
      replace h := h.2
      refine V_aload_n 2 C rfl d_M_better_60 ?_
      obtain ⟨j10, ej10, h⟩ := h
      refine V_getr (f := 21) C f_M_56 l0 (osh_0 _ _ _ _) (fl_0_21 _ _ _) ej10 d_M_better_61 (fun lj10 => ?_)
      replace lj10 : j10 < cn 21 := lj10
      refine V_sh [(4, .int (r5)), (3, .int (r2)), (0, .ref (ad 0 0)), (1, .int (a1)), (2, .int (a2))] [.ref (ad 21 j10), .int ((S6.1 21 j9 (Int32.toNatClampNeg a1)))] rfl rfl ?_
      refine V_iload_n 4 C rfl d_M_better_64 ?_
      refine V_iald C lj10 (osh_21 _ _ _ _) h.1 d_M_better_65 ?_
      replace h := h.2
      refine V_icmp_ne C d_M_better_66 (fun q => ?_) (fun q => ?_)
      · replace h := h.1 q
        refine V_iconst (v := 0) C (by decide) d_M_better_88 ?_
        exact V_zret C hr (by decide) d_M_better_89 h
      · replace h := h.2 q
        refine V_aload_n 2 C rfl d_M_better_69 ?_
        obtain ⟨j11, ej11, h⟩ := h
        refine V_getr (f := 19) C f_M_50 l0 (osh_0 _ _ _ _) (fl_0_19 _ _ _) ej11 d_M_better_70 (fun lj11 => ?_)
        replace lj11 : j11 < cn 19 := lj11
        refine V_sh [(4, .int (r5)), (3, .int (r2)), (0, .ref (ad 0 0)), (1, .int (a1)), (2, .int (a2))] [.ref (ad 19 j11)] rfl rfl ?_
        refine V_iload_n 3 C rfl d_M_better_73 ?_
        refine V_iald C lj11 (osh_19 _ _ _ _) h.1 d_M_better_74 ?_
        replace h := h.2
        refine V_aload_n 2 C rfl d_M_better_75 ?_
        obtain ⟨j12, ej12, h⟩ := h
        refine V_getr (f := 19) C f_M_50 l0 (osh_0 _ _ _ _) (fl_0_19 _ _ _) ej12 d_M_better_76 (fun lj12 => ?_)
        replace lj12 : j12 < cn 19 := lj12
        refine V_sh [(4, .int (r5)), (3, .int (r2)), (0, .ref (ad 0 0)), (1, .int (a1)), (2, .int (a2))] [.ref (ad 19 j12), .int ((S6.1 19 j11 (Int32.toNatClampNeg a1)))] rfl rfl ?_
        refine V_iload_n 4 C rfl d_M_better_79 ?_
        refine V_iald C lj12 (osh_19 _ _ _ _) h.1 d_M_better_80 ?_
        replace h := h.2
        refine V_icmp_ge C d_M_better_81 (fun q => ?_) (fun q => ?_)
        · replace h := h.1 q
          refine V_iconst (v := 0) C (by decide) d_M_better_88 ?_
          exact V_zret C hr (by decide) d_M_better_89 h
        · replace h := h.2 q
          refine V_iconst (v := 1) C (by decide) d_M_better_84 ?_
          refine V_goto C d_M_better_85 ?_
          exact V_zret C hr (by decide) d_M_better_89 h
  · replace h := h.2 q
    refine V_iload_n 1 C rfl d_M_better_27 ?_
    refine V_iload 0 C rfl d_M_better_28 ?_
    refine V_icmp_le C d_M_better_30 (fun q => ?_) (fun q => ?_)
    · replace h := h.1 q
      refine V_iconst (v := 0) C (by decide) d_M_better_37 ?_
      exact V_zret C hr (by decide) d_M_better_38 h
    · replace h := h.2 q
      refine V_iconst (v := 1) C (by decide) d_M_better_33 ?_
      refine V_goto C d_M_better_34 ?_
      exact V_zret C hr (by decide) d_M_better_38 h
