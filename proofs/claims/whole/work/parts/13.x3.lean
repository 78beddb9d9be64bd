set_option maxRecDepth 100000 in
set_option maxHeartbeats 4000000 in
theorem ct_X_fulfil (l : Launch) (Γ : oGm) (ad : oAd) (cn : Nat → Nat) (S : oSt) (a1 : Int32) (a2 : Int64) (post : Int32 → oSt → Prop) (l0 : 0 < cn 40) (h : wp_X_fulfil S a1 a2 post) : Met l y_X_fulfil (.code y_X_fulfil prog_1_method_12_code 5 (some .int) :: oWS) { frames := 3, cells := 0, slots := 0, locals := 85 } (va_Pc [.ref (ad 40 0), .int (a1), .long (a2)] (oW Γ ad cn S)) (oQ Γ ad cn vI post) 0 0 (oF Γ) := by
  refine o_met (lv := [(0, .ref (ad 40 0)), (1, .int (a1)), (2, .long (a2))]) (own := "ValueConnector") (by decide) rfl (Nat.le_of_ble_eq_true rfl) rfl ?_
  intro p e s m args below meth c C hr hnm
  have hR : 3 ≤ ({ frames := 3, cells := 0, slots := 0, locals := 85 } : Room).frames ∧ 85 ≤ ({ frames := 3, cells := 0, slots := 0, locals := 85 } : Room).locals := ⟨Nat.le_refl _, Nat.le_refl _⟩
  unfold wp_X_fulfil at h
  refine V_aload_n 0 C rfl d_X_fulfil_0 ?_
  refine V_iload_n 1 C rfl d_X_fulfil_1 ?_
  refine V_cV (As := [.int (a1)]) (rest := []) C k_X_148 l0 (osh_40 _ _ _ _) (ct_X_transferNumbered l Γ ad cn S (a1) _ l0 h) ⟨rfl, rfl⟩ ⟨Nat.le_trans (by decide) hR.1, Nat.le_trans (by decide) hR.2⟩ ⟨Nat.zero_le _, Nat.zero_le _⟩ rfl rfl (Nat.le_of_ble_eq_true rfl) d_X_fulfil_2 (fun r1 S2 h => ?_)
  obtain ⟨lr1, h⟩ := h
  refine V_sh [(0, .ref (ad 40 0)), (1, .int (a1)), (2, .long (a2))] [rv ad 52 r1] rfl rfl ?_
  refine V_ostore (kd := 52) (o := r1) C [(4, rv ad 52 r1), (0, .ref (ad 40 0)), (1, .int (a1)), (2, .long (a2))] (by decide) rfl d_X_fulfil_5 ?_
  refine V_oload (kd := 52) (o := r1) 0 C rfl d_X_fulfil_7 ?_
  refine V_ifnonnull (kd := 52) (o := r1) C d_X_fulfil_9 (fun j3 q => ?_) (fun q => ?_)
  · replace h := h.2 j3 q
    subst q
    have lj3 := lr1 j3 rfl
    refine V_sh [(4, .ref (ad 52 j3)), (0, .ref (ad 40 0)), (1, .int (a1)), (2, .long (a2))] [] rfl rfl ?_
    refine V_aload 0 C rfl d_X_fulfil_14 ?_
    refine V_get C f_X_152 lj3 (osh_52 _ _ _ _) (fl_52_6 _ _ _) d_X_fulfil_16 ?_
    refine V_if_eq C d_X_fulfil_19 (fun q => ?_) (fun q => ?_)
    · replace h := h.1 q
      refine V_lload_n 3 C rfl d_X_fulfil_25 ?_
      refine V_cS (As := [.long (a2)]) (rest := []) C k_X_144 (ct_X_lockOf l Γ ad cn S2 (a2) _  h) ⟨rfl, rfl⟩ ⟨Nat.le_trans (by decide) hR.1, Nat.le_trans (by decide) hR.2⟩ ⟨Nat.zero_le _, Nat.zero_le _⟩ rfl rfl (Nat.le_of_ble_eq_true rfl) d_X_fulfil_26 (fun r4 S5 h => ?_)
      refine V_sh [(4, .ref (ad 52 j3)), (0, .ref (ad 40 0)), (1, .int (a1)), (2, .long (a2))] [.long (r4)] rfl rfl ?_
      refine V_aload 0 C rfl d_X_fulfil_29 ?_
      refine V_get C f_X_155 lj3 (osh_52 _ _ _ _) (fl_52_5 _ _ _) d_X_fulfil_31 ?_
      refine V_lcmp C d_X_fulfil_34 ?_
      refine V_if_eq C d_X_fulfil_35 (fun q => ?_) (fun q => ?_)
      · replace h := h.1 q
        refine V_aload 0 C rfl d_X_fulfil_41 ?_
        refine V_lload_n 3 C rfl d_X_fulfil_43 ?_
        refine V_cV (As := [.long (a2)]) (rest := []) C k_X_158 lj3 (osh_52 _ _ _ _) (ct_T_payOut l Γ ad cn S5 j3 (a2) _ lj3 h) ⟨rfl, rfl⟩ ⟨Nat.le_trans (by decide) hR.1, Nat.le_trans (by decide) hR.2⟩ ⟨Nat.zero_le _, Nat.zero_le _⟩ rfl rfl (Nat.le_of_ble_eq_true rfl) d_X_fulfil_44 (fun r6 S7 h => ?_)
        refine V_sh [(4, .ref (ad 52 j3)), (0, .ref (ad 40 0)), (1, .int (a1)), (2, .long (a2))] [] rfl rfl ?_
        refine V_aload_n 1 C rfl d_X_fulfil_47 ?_
        refine V_aload 0 C rfl d_X_fulfil_48 ?_
        obtain ⟨j8, ej8, h⟩ := h
        refine V_getr (f := 1) C f_X_162 lj3 (osh_52 _ _ _ _) (fl_52_1 _ _ _) ej8 d_X_fulfil_50 (fun lj8 => ?_)
        replace lj8 : j8 < cn 48 := lj8
        refine V_sh [(4, .ref (ad 52 j3)), (0, .ref (ad 40 0)), (1, .int (a1)), (2, .long (a2))] [.ref (ad 48 j8), .ref (ad 40 0)] rfl rfl ?_
        refine V_cV (As := [.ref (ad 48 j8)]) (rest := []) C k_X_166 l0 (osh_40 _ _ _ _) (ct_X_settle l Γ ad cn S7 (j8) _ l0 lj8 h) ⟨rfl, rfl⟩ ⟨Nat.le_trans (by decide) hR.1, Nat.le_trans (by decide) hR.2⟩ ⟨Nat.zero_le _, Nat.zero_le _⟩ rfl rfl (Nat.le_of_ble_eq_true rfl) d_X_fulfil_53 (fun r9 S10 h => ?_)
        refine V_sh [(4, .ref (ad 52 j3)), (0, .ref (ad 40 0)), (1, .int (a1)), (2, .long (a2))] [] rfl rfl ?_
        refine V_iconst (v := 0) C (by decide) d_X_fulfil_56 ?_
        exact V_iret C hr d_X_fulfil_57 h
      · replace h := h.2 q
        refine V_bipush (v := -3) C (by decide) d_X_fulfil_38 ?_
        exact V_iret C hr d_X_fulfil_40 h
    · replace h := h.2 q
      refine V_bipush (v := -2) C (by decide) d_X_fulfil_22 ?_
      exact V_iret C hr d_X_fulfil_24 h
  · replace h := h.1 q
    subst q
    refine V_iconst (v := -1) C (by decide) d_X_fulfil_12 ?_
    exact V_iret C hr d_X_fulfil_13 h
set_option maxRecDepth 100000 in
set_option maxHeartbeats 4000000 in
theorem ct_T_payBack (l : Launch) (Γ : oGm) (ad : oAd) (cn : Nat → Nat) (S : oSt) (i0 : Nat) (a1 : Int32) (post : Unit → oSt → Prop) (l0 : i0 < cn 52) (h : wp_T_payBack S i0 a1 post) : Met l y_T_payBack (.code y_T_payBack prog_6_method_3_code 2 none :: oWS) { frames := 1, cells := 0, slots := 0, locals := 40 } (va_Pc [.ref (ad 52 i0), .int (a1)] (oW Γ ad cn S)) (oQ Γ ad cn vU post) 0 0 (oF Γ) := by
  refine o_met (lv := [(0, .ref (ad 52 i0)), (1, .int (a1))]) (own := "ValueConnector$Transfer") (by decide) rfl (Nat.le_of_ble_eq_true rfl) rfl ?_
  intro p e s m args below meth c C hr hnm
  have hR : 1 ≤ ({ frames := 1, cells := 0, slots := 0, locals := 40 } : Room).frames ∧ 40 ≤ ({ frames := 1, cells := 0, slots := 0, locals := 40 } : Room).locals := ⟨Nat.le_refl _, Nat.le_refl _⟩
  unfold wp_T_payBack at h
  refine V_aload_n 0 C rfl d_T_payBack_0 ?_
  refine V_iload_n 1 C rfl d_T_payBack_1 ?_
  refine V_puti (f := 6) C p_T_9 (fun z => by cases z) l0 (osh_52 _ _ _ _) (fl_52_len _ _ _ 6 (by decide)) (up_52_6 _ _ _ _ _) d_T_payBack_2 (fun S1 eS1 => ?_)
  replace h := h S1 eS1
  refine V_aload_n 0 C rfl d_T_payBack_5 ?_
  obtain ⟨j2, ej2, h⟩ := h
  refine V_getr (f := 0) C f_T_19 l0 (osh_52 _ _ _ _) (fl_52_0 _ _ _) ej2 d_T_payBack_6 (fun lj2 => ?_)
  replace lj2 : j2 < cn 48 := lj2
  refine V_sh [(0, .ref (ad 52 i0)), (1, .int (a1))] [.ref (ad 48 j2)] rfl rfl ?_
  refine V_dup C rfl d_T_payBack_9 ?_
  refine V_get C f_T_38 lj2 (osh_48 _ _ _ _) (fl_48_6 _ _ _) d_T_payBack_10 ?_
  refine V_aload_n 0 C rfl d_T_payBack_13 ?_
  refine V_get C f_T_26 l0 (osh_52 _ _ _ _) (fl_52_2 _ _ _) d_T_payBack_14 ?_
  refine V_i2l C d_T_payBack_17 ?_
  refine V_ladd C d_T_payBack_18 ?_
  refine V_putl (f := 6) C p_T_38 (fun z => by cases z) lj2 (osh_48 _ _ _ _) (fl_48_len _ _ _ 6 (by decide)) (up_48_6 _ _ _ _ _) d_T_payBack_19 (fun S3 eS3 => ?_)
  replace h := h S3 eS3
  exact V_vret C hr d_T_payBack_22 h
set_option maxRecDepth 100000 in
set_option maxHeartbeats 4000000 in
theorem ct_X_reject (l : Launch) (Γ : oGm) (ad : oAd) (cn : Nat → Nat) (S : oSt) (a1 : Int32) (post : Int32 → oSt → Prop) (l0 : 0 < cn 40) (h : wp_X_reject S a1 post) : Met l y_X_reject (.code y_X_reject prog_1_method_13_code 3 (some .int) :: oWS) { frames := 2, cells := 0, slots := 0, locals := 61 } (va_Pc [.ref (ad 40 0), .int (a1)] (oW Γ ad cn S)) (oQ Γ ad cn vI post) 0 0 (oF Γ) := by
  refine o_met (lv := [(0, .ref (ad 40 0)), (1, .int (a1))]) (own := "ValueConnector") (by decide) rfl (Nat.le_of_ble_eq_true rfl) rfl ?_
  intro p e s m args below meth c C hr hnm
  have hR : 2 ≤ ({ frames := 2, cells := 0, slots := 0, locals := 61 } : Room).frames ∧ 61 ≤ ({ frames := 2, cells := 0, slots := 0, locals := 61 } : Room).locals := ⟨Nat.le_refl _, Nat.le_refl _⟩
  unfold wp_X_reject at h
  refine V_aload_n 0 C rfl d_X_reject_0 ?_
  refine V_iload_n 1 C rfl d_X_reject_1 ?_
  refine V_cV (As := [.int (a1)]) (rest := []) C k_X_148 l0 (osh_40 _ _ _ _) (ct_X_transferNumbered l Γ ad cn S (a1) _ l0 h) ⟨rfl, rfl⟩ ⟨Nat.le_trans (by decide) hR.1, Nat.le_trans (by decide) hR.2⟩ ⟨Nat.zero_le _, Nat.zero_le _⟩ rfl rfl (Nat.le_of_ble_eq_true rfl) d_X_reject_2 (fun r1 S2 h => ?_)
  obtain ⟨lr1, h⟩ := h
  refine V_sh [(0, .ref (ad 40 0)), (1, .int (a1))] [rv ad 52 r1] rfl rfl ?_
  refine V_ostore_n (kd := 52) (o := r1) C [(2, rv ad 52 r1), (0, .ref (ad 40 0)), (1, .int (a1))] (by decide) rfl d_X_reject_5 ?_
  refine V_oload_n (kd := 52) (o := r1) 0 C rfl d_X_reject_6 ?_
  refine V_ifnonnull (kd := 52) (o := r1) C d_X_reject_7 (fun j3 q => ?_) (fun q => ?_)
  · replace h := h.2 j3 q
    subst q
    have lj3 := lr1 j3 rfl
    refine V_sh [(2, .ref (ad 52 j3)), (0, .ref (ad 40 0)), (1, .int (a1))] [] rfl rfl ?_
    refine V_aload_n 0 C rfl d_X_reject_12 ?_
    refine V_get C f_X_152 lj3 (osh_52 _ _ _ _) (fl_52_6 _ _ _) d_X_reject_13 ?_
    refine V_if_eq C d_X_reject_16 (fun q => ?_) (fun q => ?_)
    · replace h := h.1 q
      refine V_aload_n 0 C rfl d_X_reject_22 ?_
      refine V_iconst (v := 2) C (by decide) d_X_reject_23 ?_
      refine V_cV (As := [.int ((2 : Int32))]) (rest := []) C k_X_170 lj3 (osh_52 _ _ _ _) (ct_T_payBack l Γ ad cn S2 j3 ((2 : Int32)) _ lj3 h) ⟨rfl, rfl⟩ ⟨Nat.le_trans (by decide) hR.1, Nat.le_trans (by decide) hR.2⟩ ⟨Nat.zero_le _, Nat.zero_le _⟩ rfl rfl (Nat.le_of_ble_eq_true rfl) d_X_reject_24 (fun r4 S5 h => ?_)
      refine V_sh [(2, .ref (ad 52 j3)), (0, .ref (ad 40 0)), (1, .int (a1))] [] rfl rfl ?_
      refine V_iconst (v := 0) C (by decide) d_X_reject_27 ?_
      exact V_iret C hr d_X_reject_28 h
    · replace h := h.2 q
      refine V_bipush (v := -2) C (by decide) d_X_reject_19 ?_
      exact V_iret C hr d_X_reject_21 h
  · replace h := h.1 q
    subst q
    refine V_iconst (v := -1) C (by decide) d_X_reject_10 ?_
    exact V_iret C hr d_X_reject_11 h
set_option maxRecDepth 100000 in
set_option maxHeartbeats 4000000 in
theorem ct_B_refill (l : Launch) (Γ : oGm) (ad : oAd) (cn : Nat → Nat) (S : oSt) (i0 : Nat) (a1 : Int32) (post : Unit → oSt → Prop) (l0 : i0 < cn 49) (h : wp_B_refill S i0 a1 post) : Met l y_B_refill (.code y_B_refill prog_3_method_4_code 2 none :: oWS) { frames := 1, cells := 0, slots := 0, locals := 40 } (va_Pc [.ref (ad 49 i0), .int (a1)] (oW Γ ad cn S)) (oQ Γ ad cn vU post) 0 0 (oF Γ) := by
  refine o_met (lv := [(0, .ref (ad 49 i0)), (1, .int (a1))]) (own := "ValueConnector$Bucket") (by decide) rfl (Nat.le_of_ble_eq_true rfl) rfl ?_
  intro p e s m args below meth c C hr hnm
  have hR : 1 ≤ ({ frames := 1, cells := 0, slots := 0, locals := 40 } : Room).frames ∧ 40 ≤ ({ frames := 1, cells := 0, slots := 0, locals := 40 } : Room).locals := ⟨Nat.le_refl _, Nat.le_refl _⟩
  unfold wp_B_refill at h
  refine V_aload_n 0 C rfl d_B_refill_0 ?_
  refine V_aload_n 0 C rfl d_B_refill_1 ?_
  refine V_get C f_B_15 l0 (osh_49 _ _ _ _) (fl_49_0 _ _ _) d_B_refill_2 ?_
  refine V_aload_n 0 C rfl d_B_refill_5 ?_
  refine V_get C f_B_22 l0 (osh_49 _ _ _ _) (fl_49_2 _ _ _) d_B_refill_6 ?_
  refine V_aload_n 0 C rfl d_B_refill_9 ?_
  refine V_get C f_B_19 l0 (osh_49 _ _ _ _) (fl_49_1 _ _ _) d_B_refill_10 ?_
  refine V_iload_n 1 C rfl d_B_refill_13 ?_
  refine V_imul C d_B_refill_14 ?_
  refine V_iadd C d_B_refill_15 ?_
  refine V_mmin C w_349 w_350 w_7 w_351 ⟨Nat.le_trans (by decide) hR.1, Nat.le_trans (by decide) hR.2⟩ (Nat.le_of_ble_eq_true rfl) ⟨Nat.zero_le _, Nat.zero_le _⟩ d_B_refill_16 ?_
  refine V_puti (f := 2) C p_B_22 (fun z => by cases z) l0 (osh_49 _ _ _ _) (fl_49_len _ _ _ 2 (by decide)) (up_49_2 _ _ _ _ _) d_B_refill_19 (fun S1 eS1 => ?_)
  replace h := h S1 eS1
  exact V_vret C hr d_B_refill_22 h
set_option maxRecDepth 100000 in
set_option maxHeartbeats 4000000 in
theorem B_X_lapseDue_L4 {p : Program} {l : Launch} {e : Env} {R : Room} {s : State} {m : MethodId} {args : Array Value} {below : List Frame} {meth : Method} {c : Code} {Γ : oGm} {ad : oAd} {cn : Nat → Nat} {post : Int32 → oSt → Prop} (C : Cx p s m args meth c Γ prog_1_method_26_code 4 "ValueConnector") (hr : meth.sig.returnType = (some .int)) (hR : 2 ≤ R.frames ∧ 61 ≤ R.locals) : ∀ (n : Nat) (x1 : Int32) (x2 : Int32) (S : oSt) (_ : 0 < cn 40), wp_X_lapseDue_L4 post n x1 x2 S → Vv p l e R s m args below meth c (MQ below (oQ Γ ad cn vI post) args s 0 0 (oF Γ)) Γ 4 0 0 ad cn S 4 [(0, .ref (ad 40 0)), (1, .int (x1)), (2, .int (x2))] [] := by
  intro n
  induction n with
  | zero => intro x1 x2 S lx0 h; exact h.elim
  | succ n ih =>
    intro x1 x2 S lx0 h
    unfold wp_X_lapseDue_L4 at h
    refine V_iload_n 2 C rfl d_X_lapseDue_4 ?_
    refine V_aload_n 0 C rfl d_X_lapseDue_5 ?_
    refine V_get C f_X_36 lx0 (osh_40 _ _ _ _) (fl_40_7 _ _ _) d_X_lapseDue_6 ?_
    refine V_icmp_ge C d_X_lapseDue_9 (fun q => ?_) (fun q => ?_)
    · replace h := h.1 q
      refine V_iload_n 1 C rfl d_X_lapseDue_52 ?_
      exact V_iret C hr d_X_lapseDue_53 h
    · replace h := h.2 q
      refine V_aload_n 0 C rfl d_X_lapseDue_12 ?_
      obtain ⟨j1, ej1, h⟩ := h
      refine V_getr (f := 4) C f_X_24 lx0 (osh_40 _ _ _ _) (fl_40_4 _ _ _) ej1 d_X_lapseDue_13 (fun lj1 => ?_)
      replace lj1 : j1 < cn 43 := lj1
      refine V_sh [(0, .ref (ad 40 0)), (1, .int (x1)), (2, .int (x2))] [.ref (ad 43 j1)] rfl rfl ?_
      refine V_iload_n 2 C rfl d_X_lapseDue_16 ?_
      refine V_aald (t0 := 3) C lj1 (osh_43 _ _ _ _) rfl h.1 d_X_lapseDue_17 (fun o2 eo2 lo2 => ?_)
      replace h := h.2 o2 eo2
      replace lo2 : ∀ j, o2 = some j → j < cn 52 := lo2
      refine V_sh [(0, .ref (ad 40 0)), (1, .int (x1)), (2, .int (x2))] [rv ad 52 o2] rfl rfl ?_
      refine V_ostore_n (kd := 52) (o := o2) C [(3, rv ad 52 o2), (0, .ref (ad 40 0)), (1, .int (x1)), (2, .int (x2))] (by decide) rfl d_X_lapseDue_18 ?_
      refine V_oload_n (kd := 52) (o := o2) 0 C rfl d_X_lapseDue_19 ?_
      obtain ⟨j3, q, h⟩ := h
      subst q
      have lj3 := lo2 j3 rfl
      refine V_sh [(3, .ref (ad 52 j3)), (0, .ref (ad 40 0)), (1, .int (x1)), (2, .int (x2))] [.ref (ad 52 j3)] rfl rfl ?_
      refine V_get C f_X_152 lj3 (osh_52 _ _ _ _) (fl_52_6 _ _ _) d_X_lapseDue_20 ?_
      refine V_if_ne C d_X_lapseDue_23 (fun q => ?_) (fun q => ?_)
      · replace h := h.1 q
        refine V_iinc (v := (x2 + 1)) 3 C [(2, .int ((x2 + 1))), (3, .ref (ad 52 j3)), (0, .ref (ad 40 0)), (1, .int (x1))] rfl rfl (by decide) rfl d_X_lapseDue_46 ?_
        refine V_goto C d_X_lapseDue_49 ?_
        refine V_lvs [2, 3, 0] [(0, .ref (ad 40 0)), (1, .int (x1)), (2, .int ((x2 + 1)))] rfl ?_
        exact ih (x1) ((x2 + 1)) S lx0 h
      · replace h := h.2 q
        refine V_aload_n 0 C rfl d_X_lapseDue_26 ?_
        refine V_get C f_X_202 lj3 (osh_52 _ _ _ _) (fl_52_4 _ _ _) d_X_lapseDue_27 ?_
        refine V_aload_n 1 C rfl d_X_lapseDue_30 ?_
        refine V_get C f_X_45 lx0 (osh_40 _ _ _ _) (fl_40_10 _ _ _) d_X_lapseDue_31 ?_
        refine V_lcmp C d_X_lapseDue_34 ?_
        refine V_if_gt C d_X_lapseDue_35 (fun q => ?_) (fun q => ?_)
        · replace h := h.1 q
          refine V_iinc (v := (x2 + 1)) 3 C [(2, .int ((x2 + 1))), (3, .ref (ad 52 j3)), (0, .ref (ad 40 0)), (1, .int (x1))] rfl rfl (by decide) rfl d_X_lapseDue_46 ?_
          refine V_goto C d_X_lapseDue_49 ?_
          refine V_lvs [2, 3, 0] [(0, .ref (ad 40 0)), (1, .int (x1)), (2, .int ((x2 + 1)))] rfl ?_
          exact ih (x1) ((x2 + 1)) S lx0 h
        · replace h := h.2 q
          refine V_aload_n 0 C rfl d_X_lapseDue_38 ?_
          refine V_iconst (v := 3) C (by decide) d_X_lapseDue_39 ?_
          refine V_cV (As := [.int ((3 : Int32))]) (rest := []) C k_X_170 lj3 (osh_52 _ _ _ _) (ct_T_payBack l Γ ad cn S j3 ((3 : Int32)) _ lj3 h) ⟨rfl, rfl⟩ ⟨Nat.le_trans (by decide) hR.1, Nat.le_trans (by decide) hR.2⟩ ⟨Nat.zero_le _, Nat.zero_le _⟩ rfl rfl (Nat.le_of_ble_eq_true rfl) d_X_lapseDue_40 (fun r4 S5 h => ?_)
          refine V_sh [(3, .ref (ad 52 j3)), (0, .ref (ad 40 0)), (1, .int (x1)), (2, .int (x2))] [] rfl rfl ?_
          refine V_iinc (v := (x1 + 1)) 2 C [(1, .int ((x1 + 1))), (3, .ref (ad 52 j3)), (0, .ref (ad 40 0)), (2, .int (x2))] rfl rfl (by decide) rfl d_X_lapseDue_43 ?_
          refine V_iinc (v := (x2 + 1)) 3 C [(2, .int ((x2 + 1))), (1, .int ((x1 + 1))), (3, .ref (ad 52 j3)), (0, .ref (ad 40 0))] rfl rfl (by decide) rfl d_X_lapseDue_46 ?_
          refine V_goto C d_X_lapseDue_49 ?_
          refine V_lvs [3, 1, 0] [(0, .ref (ad 40 0)), (1, .int ((x1 + 1))), (2, .int ((x2 + 1)))] rfl ?_
          exact ih ((x1 + 1)) ((x2 + 1)) S5 lx0 h
set_option maxRecDepth 100000 in
set_option maxHeartbeats 4000000 in
theorem ct_X_lapseDue (l : Launch) (Γ : oGm) (ad : oAd) (cn : Nat → Nat) (S : oSt)  (post : Int32 → oSt → Prop) (l0 : 0 < cn 40) (h : wp_X_lapseDue S  post) : Met l y_X_lapseDue (.code y_X_lapseDue prog_1_method_26_code 4 (some .int) :: oWS) { frames := 2, cells := 0, slots := 0, locals := 61 } (va_Pc [.ref (ad 40 0)] (oW Γ ad cn S)) (oQ Γ ad cn vI post) 0 0 (oF Γ) := by
  refine o_met (lv := [(0, .ref (ad 40 0))]) (own := "ValueConnector") (by decide) rfl (Nat.le_of_ble_eq_true rfl) rfl ?_
  intro p e s m args below meth c C hr hnm
  have hR : 2 ≤ ({ frames := 2, cells := 0, slots := 0, locals := 61 } : Room).frames ∧ 61 ≤ ({ frames := 2, cells := 0, slots := 0, locals := 61 } : Room).locals := ⟨Nat.le_refl _, Nat.le_refl _⟩
  unfold wp_X_lapseDue at h
  refine V_iconst (v := 0) C (by decide) d_X_lapseDue_0 ?_
  refine V_istore_n C [(1, .int ((0 : Int32))), (0, .ref (ad 40 0))] (by decide) rfl d_X_lapseDue_1 ?_
  refine V_iconst (v := 0) C (by decide) d_X_lapseDue_2 ?_
  refine V_istore_n C [(2, .int ((0 : Int32))), (1, .int ((0 : Int32))), (0, .ref (ad 40 0))] (by decide) rfl d_X_lapseDue_3 ?_
  refine V_lvs [2, 1, 0] [(0, .ref (ad 40 0)), (1, .int ((0 : Int32))), (2, .int ((0 : Int32)))] rfl ?_
  obtain ⟨n, h⟩ := h
  exact B_X_lapseDue_L4 C hr hR n ((0 : Int32)) ((0 : Int32)) S l0 h
set_option maxRecDepth 100000 in
set_option maxHeartbeats 4000000 in
theorem B_X_advance_L25 {p : Program} {l : Launch} {e : Env} {R : Room} {s : State} {m : MethodId} {args : Array Value} {below : List Frame} {meth : Method} {c : Code} {Γ : oGm} {ad : oAd} {cn : Nat → Nat} {post : Int32 → oSt → Prop} (C : Cx p s m args meth c Γ prog_1_method_14_code 3 "ValueConnector") (hr : meth.sig.returnType = (some .int)) (hR : 3 ≤ R.frames ∧ 84 ≤ R.locals) : ∀ (n : Nat) (x1 : Int32) (x2 : Int32) (S : oSt) (_ : 0 < cn 40), wp_X_advance_L25 post n x1 x2 S → Vv p l e R s m args below meth c (MQ below (oQ Γ ad cn vI post) args s 0 0 (oF Γ)) Γ 3 0 0 ad cn S 25 [(0, .ref (ad 40 0)), (1, .int (x1)), (2, .int (x2))] [] := by
  intro n
  induction n with
  | zero => intro x1 x2 S lx0 h; exact h.elim
  | succ n ih =>
    intro x1 x2 S lx0 h
    unfold wp_X_advance_L25 at h
    refine V_iload_n 2 C rfl d_X_advance_25 ?_
    refine V_aload_n 0 C rfl d_X_advance_26 ?_
    refine V_get C f_X_32 lx0 (osh_40 _ _ _ _) (fl_40_6 _ _ _) d_X_advance_27 ?_
    refine V_icmp_ge C d_X_advance_30 (fun q => ?_) (fun q => ?_)
    · replace h := h.1 q
      refine V_aload_n 0 C rfl d_X_advance_52 ?_
      refine V_cV (As := []) (rest := []) C k_X_177 lx0 (osh_40 _ _ _ _) (ct_X_lapseDue l Γ ad cn S  _ lx0 h) ⟨rfl, rfl⟩ ⟨Nat.le_trans (by decide) hR.1, Nat.le_trans (by decide) hR.2⟩ ⟨Nat.zero_le _, Nat.zero_le _⟩ rfl rfl (Nat.le_of_ble_eq_true rfl) d_X_advance_53 (fun r4 S5 h => ?_)
      refine V_sh [(0, .ref (ad 40 0)), (1, .int (x1)), (2, .int (x2))] [.int (r4)] rfl rfl ?_
      exact V_iret C hr d_X_advance_56 h
    · replace h := h.2 q
      refine V_aload_n 0 C rfl d_X_advance_33 ?_
      obtain ⟨j6, ej6, h⟩ := h
      refine V_getr (f := 2) C f_X_11 lx0 (osh_40 _ _ _ _) (fl_40_2 _ _ _) ej6 d_X_advance_34 (fun lj6 => ?_)
      replace lj6 : j6 < cn 41 := lj6
      refine V_sh [(0, .ref (ad 40 0)), (1, .int (x1)), (2, .int (x2))] [.ref (ad 41 j6)] rfl rfl ?_
      refine V_iload_n 2 C rfl d_X_advance_37 ?_
      refine V_aald (t0 := 2) C lj6 (osh_41 _ _ _ _) rfl h.1 d_X_advance_38 (fun o7 eo7 lo7 => ?_)
      replace h := h.2 o7 eo7
      replace lo7 : ∀ j, o7 = some j → j < cn 48 := lo7
      refine V_sh [(0, .ref (ad 40 0)), (1, .int (x1)), (2, .int (x2))] [rv ad 48 o7] rfl rfl ?_
      obtain ⟨j8, q, h⟩ := h
      subst q
      have lj8 := lo7 j8 rfl
      refine V_sh [(0, .ref (ad 40 0)), (1, .int (x1)), (2, .int (x2))] [.ref (ad 48 j8)] rfl rfl ?_
      obtain ⟨j9, ej9, h⟩ := h
      refine V_getr (f := 3) C f_X_88 lj8 (osh_48 _ _ _ _) (fl_48_3 _ _ _) ej9 d_X_advance_39 (fun lj9 => ?_)
      replace lj9 : j9 < cn 49 := lj9
      refine V_sh [(0, .ref (ad 40 0)), (1, .int (x1)), (2, .int (x2))] [.ref (ad 49 j9)] rfl rfl ?_
      refine V_iload_n 1 C rfl d_X_advance_42 ?_
      refine V_cV (As := [.int (x1)]) (rest := []) C k_X_174 lj9 (osh_49 _ _ _ _) (ct_B_refill l Γ ad cn S j9 (x1) _ lj9 h) ⟨rfl, rfl⟩ ⟨Nat.le_trans (by decide) hR.1, Nat.le_trans (by decide) hR.2⟩ ⟨Nat.zero_le _, Nat.zero_le _⟩ rfl rfl (Nat.le_of_ble_eq_true rfl) d_X_advance_43 (fun r10 S11 h => ?_)
      refine V_sh [(0, .ref (ad 40 0)), (1, .int (x1)), (2, .int (x2))] [] rfl rfl ?_
      refine V_iinc (v := (x2 + 1)) 2 C [(2, .int ((x2 + 1))), (0, .ref (ad 40 0)), (1, .int (x1))] rfl rfl (by decide) rfl d_X_advance_46 ?_
      refine V_goto C d_X_advance_49 ?_
      refine V_lvs [1, 2, 0] [(0, .ref (ad 40 0)), (1, .int (x1)), (2, .int ((x2 + 1)))] rfl ?_
      exact ih (x1) ((x2 + 1)) S11 lx0 h
set_option maxRecDepth 100000 in
set_option maxHeartbeats 4000000 in
theorem ct_X_advance (l : Launch) (Γ : oGm) (ad : oAd) (cn : Nat → Nat) (S : oSt) (a1 : Int32) (post : Int32 → oSt → Prop) (l0 : 0 < cn 40) (h : wp_X_advance S a1 post) : Met l y_X_advance (.code y_X_advance prog_1_method_14_code 3 (some .int) :: oWS) { frames := 3, cells := 0, slots := 0, locals := 84 } (va_Pc [.ref (ad 40 0), .int (a1)] (oW Γ ad cn S)) (oQ Γ ad cn vI post) 0 0 (oF Γ) := by
  refine o_met (lv := [(0, .ref (ad 40 0)), (1, .int (a1))]) (own := "ValueConnector") (by decide) rfl (Nat.le_of_ble_eq_true rfl) rfl ?_
  intro p e s m args below meth c C hr hnm
  have hR : 3 ≤ ({ frames := 3, cells := 0, slots := 0, locals := 84 } : Room).frames ∧ 84 ≤ ({ frames := 3, cells := 0, slots := 0, locals := 84 } : Room).locals := ⟨Nat.le_refl _, Nat.le_refl _⟩
  unfold wp_X_advance at h
  refine V_iload_n 1 C rfl d_X_advance_0 ?_
  refine V_iconst (v := 0) C (by decide) d_X_advance_1 ?_
  refine V_ldc (v := 100000) C w_45 d_X_advance_2 ?_
  refine V_cS (As := [.int (a1), .int ((0 : Int32)), .int ((100000 : Int32))]) (rest := []) C k_X_49 (ct_X_isWithin l Γ ad cn S (a1) ((0 : Int32)) ((100000 : Int32)) _  h) ⟨rfl, rfl⟩ ⟨Nat.le_trans (by decide) hR.1, Nat.le_trans (by decide) hR.2⟩ ⟨Nat.zero_le _, Nat.zero_le _⟩ rfl rfl (Nat.le_of_ble_eq_true rfl) d_X_advance_4 (fun r1 S2 h => ?_)
  refine V_sh [(0, .ref (ad 40 0)), (1, .int (a1))] [.int (r1)] rfl rfl ?_
  refine V_if_ne C d_X_advance_7 (fun q => ?_) (fun q => ?_)
  · replace h := h.1 q
    refine V_aload_n 0 C rfl d_X_advance_12 ?_
    refine V_dup C rfl d_X_advance_13 ?_
    refine V_get C f_X_45 l0 (osh_40 _ _ _ _) (fl_40_10 _ _ _) d_X_advance_14 ?_
    refine V_iload_n 1 C rfl d_X_advance_17 ?_
    refine V_i2l C d_X_advance_18 ?_
    refine V_ladd C d_X_advance_19 ?_
    refine V_putl (f := 10) C p_X_45 (fun z => by cases z) l0 (osh_40 _ _ _ _) (fl_40_len _ _ _ 10 (by decide)) (up_40_10 _ _ _ _ _) d_X_advance_20 (fun S3 eS3 => ?_)
    replace h := h S3 eS3
    refine V_iconst (v := 0) C (by decide) d_X_advance_23 ?_
    refine V_istore_n C [(2, .int ((0 : Int32))), (0, .ref (ad 40 0)), (1, .int (a1))] (by decide) rfl d_X_advance_24 ?_
    refine V_lvs [1, 2, 0] [(0, .ref (ad 40 0)), (1, .int (a1)), (2, .int ((0 : Int32)))] rfl ?_
    obtain ⟨n, h⟩ := h
    exact B_X_advance_L25 C hr hR n (a1) ((0 : Int32)) S3 l0 h
  · replace h := h.2 q
    refine V_iconst (v := -1) C (by decide) d_X_advance_10 ?_
    exact V_iret C hr d_X_advance_11 h
set_option maxRecDepth 100000 in
set_option maxHeartbeats 4000000 in
theorem B_K_holds_L2 {p : Program} {l : Launch} {e : Env} {R : Room} {s : State} {m : MethodId} {args : Array Value} {below : List Frame} {meth : Method} {c : Code} {Γ : oGm} {ad : oAd} {cn : Nat → Nat} {post : Int32 → oSt → Prop} (C : Cx p s m args meth c Γ prog_4_method_2_code 3 "ValueConnector$RecentKeys") (hr : meth.sig.returnType = (some .boolean)) (hR : 1 ≤ R.frames ∧ 40 ≤ R.locals) : ∀ (n : Nat) (x0 : Nat) (x1 : Int32) (x2 : Int32) (S : oSt) (_ : x0 < cn 50), wp_K_holds_L2 post n x0 x1 x2 S → Vv p l e R s m args below meth c (MQ below (oQ Γ ad cn vI post) args s 0 0 (oF Γ)) Γ 3 0 0 ad cn S 2 [(0, .ref (ad 50 x0)), (1, .int (x1)), (2, .int (x2))] [] := by
  intro n
  induction n with
  | zero => intro x0 x1 x2 S lx0 h; exact h.elim
  | succ n ih =>
    intro x0 x1 x2 S lx0 h
    unfold wp_K_holds_L2 at h
    refine V_iload_n 2 C rfl d_K_holds_2 ?_
    refine V_aload_n 0 C rfl d_K_holds_3 ?_
    refine V_get C f_K_15 lx0 (osh_50 _ _ _ _) (fl_50_1 _ _ _) d_K_holds_4 ?_
    refine V_icmp_ge C d_K_holds_7 (fun q => ?_) (fun q => ?_)
    · replace h := h.1 q
      refine V_iconst (v := 0) C (by decide) d_K_holds_28 ?_
      exact V_zret C hr (by decide) d_K_holds_29 h
    · replace h := h.2 q
      refine V_aload_n 0 C rfl d_K_holds_10 ?_
      obtain ⟨j1, ej1, h⟩ := h
      refine V_getr (f := 0) C f_K_9 lx0 (osh_50 _ _ _ _) (fl_50_0 _ _ _) ej1 d_K_holds_11 (fun lj1 => ?_)
      replace lj1 : j1 < cn 51 := lj1
      refine V_sh [(0, .ref (ad 50 x0)), (1, .int (x1)), (2, .int (x2))] [.ref (ad 51 j1)] rfl rfl ?_
      refine V_iload_n 2 C rfl d_K_holds_14 ?_
      refine V_iald C lj1 (osh_51 _ _ _ _) h.1 d_K_holds_15 ?_
      replace h := h.2
      refine V_iload_n 1 C rfl d_K_holds_16 ?_
      refine V_icmp_ne C d_K_holds_17 (fun q => ?_) (fun q => ?_)
      · replace h := h.1 q
        refine V_iinc (v := (x2 + 1)) 2 C [(2, .int ((x2 + 1))), (0, .ref (ad 50 x0)), (1, .int (x1))] rfl rfl (by decide) rfl d_K_holds_22 ?_
        refine V_goto C d_K_holds_25 ?_
        refine V_lvs [1, 2, 0] [(0, .ref (ad 50 x0)), (1, .int (x1)), (2, .int ((x2 + 1)))] rfl ?_
        exact ih (x0) (x1) ((x2 + 1)) S lx0 h
      · replace h := h.2 q
        refine V_iconst (v := 1) C (by decide) d_K_holds_20 ?_
        exact V_zret C hr (by decide) d_K_holds_21 h
set_option maxRecDepth 100000 in
set_option maxHeartbeats 4000000 in
theorem ct_K_holds (l : Launch) (Γ : oGm) (ad : oAd) (cn : Nat → Nat) (S : oSt) (i0 : Nat) (a1 : Int32) (post : Int32 → oSt → Prop) (l0 : i0 < cn 50) (h : wp_K_holds S i0 a1 post) : Met l y_K_holds (.code y_K_holds prog_4_method_2_code 3 (some .boolean) :: oWS) { frames := 1, cells := 0, slots := 0, locals := 40 } (va_Pc [.ref (ad 50 i0), .int (a1)] (oW Γ ad cn S)) (oQ Γ ad cn vI post) 0 0 (oF Γ) := by
  refine o_met (lv := [(0, .ref (ad 50 i0)), (1, .int (a1))]) (own := "ValueConnector$RecentKeys") (by decide) rfl (Nat.le_of_ble_eq_true rfl) rfl ?_
  intro p e s m args below meth c C hr hnm
  have hR : 1 ≤ ({ frames := 1, cells := 0, slots := 0, locals := 40 } : Room).frames ∧ 40 ≤ ({ frames := 1, cells := 0, slots := 0, locals := 40 } : Room).locals := ⟨Nat.le_refl _, Nat.le_refl _⟩
  unfold wp_K_holds at h
  refine V_iconst (v := 0) C (by decide) d_K_holds_0 ?_
  refine V_istore_n C [(2, .int ((0 : Int32))), (0, .ref (ad 50 i0)), (1, .int (a1))] (by decide) rfl d_K_holds_1 ?_
  refine V_lvs [1, 2, 0] [(0, .ref (ad 50 i0)), (1, .int (a1)), (2, .int ((0 : Int32)))] rfl ?_
  obtain ⟨n, h⟩ := h
  exact B_K_holds_L2 C hr hR n (i0) (a1) ((0 : Int32)) S l0 h
set_option maxRecDepth 100000 in
set_option maxHeartbeats 4000000 in
theorem ct_K_remember (l : Launch) (Γ : oGm) (ad : oAd) (cn : Nat → Nat) (S : oSt) (i0 : Nat) (a1 : Int32) (post : Unit → oSt → Prop) (l0 : i0 < cn 50) (h : wp_K_remember S i0 a1 post) : Met l y_K_remember (.code y_K_remember prog_4_method_3_code 2 none :: oWS) { frames := 1, cells := 0, slots := 0, locals := 40 } (va_Pc [.ref (ad 50 i0), .int (a1)] (oW Γ ad cn S)) (oQ Γ ad cn vU post) 0 0 (oF Γ) := by
  refine o_met (lv := [(0, .ref (ad 50 i0)), (1, .int (a1))]) (own := "ValueConnector$RecentKeys") (by decide) rfl (Nat.le_of_ble_eq_true rfl) rfl ?_
  intro p e s m args below meth c C hr hnm
  have hR : 1 ≤ ({ frames := 1, cells := 0, slots := 0, locals := 40 } : Room).frames ∧ 40 ≤ ({ frames := 1, cells := 0, slots := 0, locals := 40 } : Room).locals := ⟨Nat.le_refl _, Nat.le_refl _⟩
  unfold wp_K_remember at h
  refine V_aload_n 0 C rfl d_K_remember_0 ?_
  refine V_get C f_K_15 l0 (osh_50 _ _ _ _) (fl_50_1 _ _ _) d_K_remember_1 ?_
  refine V_aload_n 0 C rfl d_K_remember_4 ?_
  obtain ⟨j1, ej1, h⟩ := h
  refine V_getr (f := 0) C f_K_9 l0 (osh_50 _ _ _ _) (fl_50_0 _ _ _) ej1 d_K_remember_5 (fun lj1 => ?_)
  replace lj1 : j1 < cn 51 := lj1
  refine V_sh [(0, .ref (ad 50 i0)), (1, .int (a1))] [.ref (ad 51 j1), .int ((S.1 50 i0 1))] rfl rfl ?_
  refine V_alen (v := 8) C lj1 (osh_51 _ _ _ _) rfl rfl d_K_remember_8 ?_
  refine V_icmp_ge C d_K_remember_9 (fun q => ?_) (fun q => ?_)
  · replace h := h.1 q
    refine V_aload_n 0 C rfl d_K_remember_33 ?_
    obtain ⟨j2, ej2, h⟩ := h
    refine V_getr (f := 0) C f_K_9 l0 (osh_50 _ _ _ _) (fl_50_0 _ _ _) ej2 d_K_remember_34 (fun lj2 => ?_)
    replace lj2 : j2 < cn 51 := lj2
    refine V_sh [(0, .ref (ad 50 i0)), (1, .int (a1))] [.ref (ad 51 j2)] rfl rfl ?_
    refine V_aload_n 0 C rfl d_K_remember_37 ?_
    refine V_get C f_K_19 l0 (osh_50 _ _ _ _) (fl_50_2 _ _ _) d_K_remember_38 ?_
    refine V_iload_n 1 C rfl d_K_remember_41 ?_
    refine V_iast C lj2 (fun _ => osh_51 _ _ _ _) h.1 d_K_remember_42 (fun S3 eS3 => ?_)
    replace h := h.2 S3 eS3
    refine V_aload_n 0 C rfl d_K_remember_43 ?_
    refine V_aload_n 0 C rfl d_K_remember_44 ?_
    refine V_get C f_K_19 l0 (osh_50 _ _ _ _) (fl_50_2 _ _ _) d_K_remember_45 ?_
    refine V_iconst (v := 1) C (by decide) d_K_remember_48 ?_
    refine V_iadd C d_K_remember_49 ?_
    refine V_aload_n 0 C rfl d_K_remember_50 ?_
    obtain ⟨j4, ej4, h⟩ := h
    refine V_getr (f := 0) C f_K_9 l0 (osh_50 _ _ _ _) (fl_50_0 _ _ _) ej4 d_K_remember_51 (fun lj4 => ?_)
    replace lj4 : j4 < cn 51 := lj4
    refine V_sh [(0, .ref (ad 50 i0)), (1, .int (a1))] [.ref (ad 51 j4), .int (((S3.1 50 i0 2) + (1 : Int32))), .ref (ad 50 i0)] rfl rfl ?_
    refine V_alen (v := 8) C lj4 (osh_51 _ _ _ _) rfl rfl d_K_remember_54 ?_
    refine V_icmp_ge C d_K_remember_55 (fun q => ?_) (fun q => ?_)
    · replace h := h.1 q
      refine V_iconst (v := 0) C (by decide) d_K_remember_67 ?_
      refine V_puti (f := 2) C p_K_19 (fun z => by cases z) l0 (osh_50 _ _ _ _) (fl_50_len _ _ _ 2 (by decide)) (up_50_2 _ _ _ _ _) d_K_remember_68 (fun S5 eS5 => ?_)
      replace h := h S5 eS5
      exact V_vret C hr d_K_remember_71 h
    · replace h := h.2 q
      refine V_aload_n 0 C rfl d_K_remember_58 ?_
      refine V_get C f_K_19 l0 (osh_50 _ _ _ _) (fl_50_2 _ _ _) d_K_remember_59 ?_
      refine V_iconst (v := 1) C (by decide) d_K_remember_62 ?_
      refine V_iadd C d_K_remember_63 ?_
      refine V_goto C d_K_remember_64 ?_
      refine V_puti (f := 2) C p_K_19 (fun z => by cases z) l0 (osh_50 _ _ _ _) (fl_50_len _ _ _ 2 (by decide)) (up_50_2 _ _ _ _ _) d_K_remember_68 (fun S6 eS6 => ?_)
      replace h := h S6 eS6
      exact V_vret C hr d_K_remember_71 h
  · replace h := h.2 q
    refine V_aload_n 0 C rfl d_K_remember_12 ?_
    obtain ⟨j7, ej7, h⟩ := h
    refine V_getr (f := 0) C f_K_9 l0 (osh_50 _ _ _ _) (fl_50_0 _ _ _) ej7 d_K_remember_13 (fun lj7 => ?_)
    replace lj7 : j7 < cn 51 := lj7
    refine V_sh [(0, .ref (ad 50 i0)), (1, .int (a1))] [.ref (ad 51 j7)] rfl rfl ?_
    refine V_aload_n 0 C rfl d_K_remember_16 ?_
    refine V_get C f_K_15 l0 (osh_50 _ _ _ _) (fl_50_1 _ _ _) d_K_remember_17 ?_
    refine V_iload_n 1 C rfl d_K_remember_20 ?_
    refine V_iast C lj7 (fun _ => osh_51 _ _ _ _) h.1 d_K_remember_21 (fun S8 eS8 => ?_)
    replace h := h.2 S8 eS8
    refine V_aload_n 0 C rfl d_K_remember_22 ?_
    refine V_dup C rfl d_K_remember_23 ?_
    refine V_get C f_K_15 l0 (osh_50 _ _ _ _) (fl_50_1 _ _ _) d_K_remember_24 ?_
    refine V_iconst (v := 1) C (by decide) d_K_remember_27 ?_
    refine V_iadd C d_K_remember_28 ?_
    refine V_puti (f := 1) C p_K_15 (fun z => by cases z) l0 (osh_50 _ _ _ _) (fl_50_len _ _ _ 1 (by decide)) (up_50_1 _ _ _ _ _) d_K_remember_29 (fun S9 eS9 => ?_)
    replace h := h S9 eS9
    exact V_vret C hr d_K_remember_32 h
set_option maxRecDepth 100000 in
set_option maxHeartbeats 4000000 in
theorem ct_X_credit (l : Launch) (Γ : oGm) (ad : oAd) (cn : Nat → Nat) (S : oSt) (a1 : Int32) (a2 : Int32) (a3 : Int32) (post : Int32 → oSt → Prop) (l0 : 0 < cn 40) (h : wp_X_credit S a1 a2 a3 post) : Met l y_X_credit (.code y_X_credit prog_1_method_15_code 5 (some .int) :: oWS) { frames := 2, cells := 0, slots := 0, locals := 62 } (va_Pc [.ref (ad 40 0), .int (a1), .int (a2), .int (a3)] (oW Γ ad cn S)) (oQ Γ ad cn vI post) 0 0 (oF Γ) := by
  refine o_met (lv := [(0, .ref (ad 40 0)), (1, .int (a1)), (2, .int (a2)), (3, .int (a3))]) (own := "ValueConnector") (by decide) rfl (Nat.le_of_ble_eq_true rfl) rfl ?_
  intro p e s m args below meth c C hr hnm
  have hR : 2 ≤ ({ frames := 2, cells := 0, slots := 0, locals := 62 } : Room).frames ∧ 62 ≤ ({ frames := 2, cells := 0, slots := 0, locals := 62 } : Room).locals := ⟨Nat.le_refl _, Nat.le_refl _⟩
  unfold wp_X_credit at h
  refine V_aload_n 0 C rfl d_X_credit_0 ?_
  refine V_iload_n 1 C rfl d_X_credit_1 ?_
  refine V_cV (As := [.int (a1)]) (rest := []) C k_X_65 l0 (osh_40 _ _ _ _) (ct_X_accountNumbered l Γ ad cn S (a1) _ l0 h) ⟨rfl, rfl⟩ ⟨Nat.le_trans (by decide) hR.1, Nat.le_trans (by decide) hR.2⟩ ⟨Nat.zero_le _, Nat.zero_le _⟩ rfl rfl (Nat.le_of_ble_eq_true rfl) d_X_credit_2 (fun r1 S2 h => ?_)
  obtain ⟨lr1, h⟩ := h
  refine V_sh [(0, .ref (ad 40 0)), (1, .int (a1)), (2, .int (a2)), (3, .int (a3))] [rv ad 48 r1] rfl rfl ?_
  refine V_ostore (kd := 48) (o := r1) C [(4, rv ad 48 r1), (0, .ref (ad 40 0)), (1, .int (a1)), (2, .int (a2)), (3, .int (a3))] (by decide) rfl d_X_credit_5 ?_
  refine V_oload (kd := 48) (o := r1) 0 C rfl d_X_credit_7 ?_
  refine V_ifnull (kd := 48) (o := r1) C d_X_credit_9 (fun q => ?_) (fun j3 q => ?_)
  · replace h := h.1 q
    subst q
    refine V_iconst (v := -1) C (by decide) d_X_credit_22 ?_
    exact V_iret C hr d_X_credit_23 h
  · replace h := h.2 j3 q
    subst q
    have lj3 := lr1 j3 rfl
    refine V_sh [(4, .ref (ad 48 j3)), (0, .ref (ad 40 0)), (1, .int (a1)), (2, .int (a2)), (3, .int (a3))] [] rfl rfl ?_
    refine V_iload_n 4 C rfl d_X_credit_12 ?_
    refine V_iconst (v := 0) C (by decide) d_X_credit_13 ?_
    refine V_ldc (v := 1000000) C w_360 d_X_credit_14 ?_
    refine V_cS (As := [.int (a3), .int ((0 : Int32)), .int ((1000000 : Int32))]) (rest := []) C k_X_49 (ct_X_isWithin l Γ ad cn S2 (a3) ((0 : Int32)) ((1000000 : Int32)) _  h) ⟨rfl, rfl⟩ ⟨Nat.le_trans (by decide) hR.1, Nat.le_trans (by decide) hR.2⟩ ⟨Nat.zero_le _, Nat.zero_le _⟩ rfl rfl (Nat.le_of_ble_eq_true rfl) d_X_credit_16 (fun r4 S5 h => ?_)
    refine V_sh [(4, .ref (ad 48 j3)), (0, .ref (ad 40 0)), (1, .int (a1)), (2, .int (a2)), (3, .int (a3))] [.int (r4)] rfl rfl ?_
    refine V_if_ne C d_X_credit_19 (fun q => ?_) (fun q => ?_)
    · replace h := h.1 q
      refine V_aload 0 C rfl d_X_credit_24 ?_
      obtain ⟨j6, ej6, h⟩ := h
      refine V_getr (f := 4) C f_X_182 lj3 (osh_48 _ _ _ _) (fl_48_4 _ _ _) ej6 d_X_credit_26 (fun lj6 => ?_)
      replace lj6 : j6 < cn 50 := lj6
      refine V_sh [(4, .ref (ad 48 j3)), (0, .ref (ad 40 0)), (1, .int (a1)), (2, .int (a2)), (3, .int (a3))] [.ref (ad 50 j6)] rfl rfl ?_
      refine V_iload_n 3 C rfl d_X_credit_29 ?_
      refine V_cV (As := [.int (a2)]) (rest := []) C k_X_186 lj6 (osh_50 _ _ _ _) (ct_K_holds l Γ ad cn S5 j6 (a2) _ lj6 h) ⟨rfl, rfl⟩ ⟨Nat.le_trans (by decide) hR.1, Nat.le_trans (by decide) hR.2⟩ ⟨Nat.zero_le _, Nat.zero_le _⟩ rfl rfl (Nat.le_of_ble_eq_true rfl) d_X_credit_30 (fun r7 S8 h => ?_)
      refine V_sh [(4, .ref (ad 48 j3)), (0, .ref (ad 40 0)), (1, .int (a1)), (2, .int (a2)), (3, .int (a3))] [.int (r7)] rfl rfl ?_
      refine V_if_eq C d_X_credit_33 (fun q => ?_) (fun q => ?_)
      · replace h := h.1 q
        refine V_aload 0 C rfl d_X_credit_38 ?_
        obtain ⟨j9, ej9, h⟩ := h
        refine V_getr (f := 4) C f_X_182 lj3 (osh_48 _ _ _ _) (fl_48_4 _ _ _) ej9 d_X_credit_40 (fun lj9 => ?_)
        replace lj9 : j9 < cn 50 := lj9
        refine V_sh [(4, .ref (ad 48 j3)), (0, .ref (ad 40 0)), (1, .int (a1)), (2, .int (a2)), (3, .int (a3))] [.ref (ad 50 j9)] rfl rfl ?_
        refine V_iload_n 3 C rfl d_X_credit_43 ?_
        refine V_cV (As := [.int (a2)]) (rest := []) C k_X_191 lj9 (osh_50 _ _ _ _) (ct_K_remember l Γ ad cn S8 j9 (a2) _ lj9 h) ⟨rfl, rfl⟩ ⟨Nat.le_trans (by decide) hR.1, Nat.le_trans (by decide) hR.2⟩ ⟨Nat.zero_le _, Nat.zero_le _⟩ rfl rfl (Nat.le_of_ble_eq_true rfl) d_X_credit_44 (fun r10 S11 h => ?_)
        refine V_sh [(4, .ref (ad 48 j3)), (0, .ref (ad 40 0)), (1, .int (a1)), (2, .int (a2)), (3, .int (a3))] [] rfl rfl ?_
        refine V_aload 0 C rfl d_X_credit_47 ?_
        refine V_dup C rfl d_X_credit_49 ?_
        refine V_get C f_X_130 lj3 (osh_48 _ _ _ _) (fl_48_6 _ _ _) d_X_credit_50 ?_
        refine V_iload_n 4 C rfl d_X_credit_53 ?_
        refine V_i2l C d_X_credit_54 ?_
        refine V_aload 0 C rfl d_X_credit_55 ?_
        refine V_get C f_X_85 lj3 (osh_48 _ _ _ _) (fl_48_9 _ _ _) d_X_credit_57 ?_
        refine V_i2l C d_X_credit_60 ?_
        refine V_lmul C d_X_credit_61 ?_
        refine V_ladd C d_X_credit_62 ?_
        refine V_putl (f := 6) C p_X_130 (fun z => by cases z) lj3 (osh_48 _ _ _ _) (fl_48_len _ _ _ 6 (by decide)) (up_48_6 _ _ _ _ _) d_X_credit_63 (fun S12 eS12 => ?_)
        replace h := h S12 eS12
        refine V_iconst (v := 0) C (by decide) d_X_credit_66 ?_
        exact V_iret C hr d_X_credit_67 h
      · replace h := h.2 q
        refine V_iconst (v := 1) C (by decide) d_X_credit_36 ?_
        exact V_iret C hr d_X_credit_37 h
    · replace h := h.2 q
      refine V_iconst (v := -1) C (by decide) d_X_credit_22 ?_
      exact V_iret C hr d_X_credit_23 h
set_option maxRecDepth 100000 in
set_option maxHeartbeats 4000000 in
theorem ct_X_balance (l : Launch) (Γ : oGm) (ad : oAd) (cn : Nat → Nat) (S : oSt) (a1 : Int32) (post : Int64 → oSt → Prop) (l0 : 0 < cn 40) (h : wp_X_balance S a1 post) : Met l y_X_balance (.code y_X_balance prog_1_method_16_code 3 (some .long) :: oWS) { frames := 2, cells := 0, slots := 0, locals := 61 } (va_Pc [.ref (ad 40 0), .int (a1)] (oW Γ ad cn S)) (oQ Γ ad cn vJ post) 0 0 (oF Γ) := by
  refine o_met (lv := [(0, .ref (ad 40 0)), (1, .int (a1))]) (own := "ValueConnector") (by decide) rfl (Nat.le_of_ble_eq_true rfl) rfl ?_
  intro p e s m args below meth c C hr hnm
  have hR : 2 ≤ ({ frames := 2, cells := 0, slots := 0, locals := 61 } : Room).frames ∧ 61 ≤ ({ frames := 2, cells := 0, slots := 0, locals := 61 } : Room).locals := ⟨Nat.le_refl _, Nat.le_refl _⟩
  unfold wp_X_balance at h
  refine V_aload_n 0 C rfl d_X_balance_0 ?_
  refine V_iload_n 1 C rfl d_X_balance_1 ?_
  refine V_cV (As := [.int (a1)]) (rest := []) C k_X_65 l0 (osh_40 _ _ _ _) (ct_X_accountNumbered l Γ ad cn S (a1) _ l0 h) ⟨rfl, rfl⟩ ⟨Nat.le_trans (by decide) hR.1, Nat.le_trans (by decide) hR.2⟩ ⟨Nat.zero_le _, Nat.zero_le _⟩ rfl rfl (Nat.le_of_ble_eq_true rfl) d_X_balance_2 (fun r1 S2 h => ?_)
  obtain ⟨lr1, h⟩ := h
  refine V_sh [(0, .ref (ad 40 0)), (1, .int (a1))] [rv ad 48 r1] rfl rfl ?_
  refine V_ostore_n (kd := 48) (o := r1) C [(2, rv ad 48 r1), (0, .ref (ad 40 0)), (1, .int (a1))] (by decide) rfl d_X_balance_5 ?_
  refine V_oload_n (kd := 48) (o := r1) 0 C rfl d_X_balance_6 ?_
  refine V_ifnonnull (kd := 48) (o := r1) C d_X_balance_7 (fun j3 q => ?_) (fun q => ?_)
  · replace h := h.2 j3 q
    subst q
    have lj3 := lr1 j3 rfl
    refine V_sh [(2, .ref (ad 48 j3)), (0, .ref (ad 40 0)), (1, .int (a1))] [] rfl rfl ?_
    refine V_aload_n 0 C rfl d_X_balance_14 ?_
    refine V_get C f_X_130 lj3 (osh_48 _ _ _ _) (fl_48_6 _ _ _) d_X_balance_15 ?_
    exact V_lret C hr d_X_balance_18 h
  · replace h := h.1 q
    subst q
    refine V_lconst (v := 0) C (by decide) d_X_balance_10 ?_
    refine V_goto C d_X_balance_11 ?_
    exact V_lret C hr d_X_balance_18 h
set_option maxRecDepth 100000 in
set_option maxHeartbeats 4000000 in
theorem B_X_position_L4 {p : Program} {l : Launch} {e : Env} {R : Room} {s : State} {m : MethodId} {args : Array Value} {below : List Frame} {meth : Method} {c : Code} {Γ : oGm} {ad : oAd} {cn : Nat → Nat} {post : Int64 → oSt → Prop} (C : Cx p s m args meth c Γ prog_1_method_17_code 4 "ValueConnector") (hr : meth.sig.returnType = (some .long)) (hR : 1 ≤ R.frames ∧ 40 ≤ R.locals) : ∀ (n : Nat) (x1 : Int64) (x3 : Int32) (S : oSt) (_ : 0 < cn 40), wp_X_position_L4 post n x1 x3 S → Vv p l e R s m args below meth c (MQ below (oQ Γ ad cn vJ post) args s 0 0 (oF Γ)) Γ 4 0 0 ad cn S 4 [(0, .ref (ad 40 0)), (1, .long (x1)), (3, .int (x3))] [] := by
  intro n
  induction n with
  | zero => intro x1 x3 S lx0 h; exact h.elim
  | succ n ih =>
    intro x1 x3 S lx0 h
    unfold wp_X_position_L4 at h
    refine V_iload_n 2 C rfl d_X_position_4 ?_
    refine V_aload_n 0 C rfl d_X_position_5 ?_
    refine V_get C f_X_32 lx0 (osh_40 _ _ _ _) (fl_40_6 _ _ _) d_X_position_6 ?_
    refine V_icmp_ge C d_X_position_9 (fun q => ?_) (fun q => ?_)
    · replace h := h.1 q
      refine V_lload_n 1 C rfl d_X_position_41 ?_
      exact V_lret C hr d_X_position_42 h
    · replace h := h.2 q
      refine V_lload_n 1 C rfl d_X_position_12 ?_
      refine V_aload_n 0 C rfl d_X_position_13 ?_
      obtain ⟨j1, ej1, h⟩ := h
      refine V_getr (f := 2) C f_X_11 lx0 (osh_40 _ _ _ _) (fl_40_2 _ _ _) ej1 d_X_position_14 (fun lj1 => ?_)
      replace lj1 : j1 < cn 41 := lj1
      refine V_sh [(0, .ref (ad 40 0)), (1, .long (x1)), (3, .int (x3))] [.ref (ad 41 j1), .long (x1)] rfl rfl ?_
      refine V_iload_n 2 C rfl d_X_position_17 ?_
      refine V_aald (t0 := 2) C lj1 (osh_41 _ _ _ _) rfl h.1 d_X_position_18 (fun o2 eo2 lo2 => ?_)
      replace h := h.2 o2 eo2
      replace lo2 : ∀ j, o2 = some j → j < cn 48 := lo2
      refine V_sh [(0, .ref (ad 40 0)), (1, .long (x1)), (3, .int (x3))] [rv ad 48 o2, .long (x1)] rfl rfl ?_
      obtain ⟨j3, q, h⟩ := h
      subst q
      have lj3 := lo2 j3 rfl
      refine V_sh [(0, .ref (ad 40 0)), (1, .long (x1)), (3, .int (x3))] [.ref (ad 48 j3), .long (x1)] rfl rfl ?_
      refine V_get C f_X_130 lj3 (osh_48 _ _ _ _) (fl_48_6 _ _ _) d_X_position_19 ?_
      refine V_aload_n 0 C rfl d_X_position_22 ?_
      obtain ⟨j4, ej4, h⟩ := h
      refine V_getr (f := 2) C f_X_11 lx0 (osh_40 _ _ _ _) (fl_40_2 _ _ _) ej4 d_X_position_23 (fun lj4 => ?_)
      replace lj4 : j4 < cn 41 := lj4
      refine V_sh [(0, .ref (ad 40 0)), (1, .long (x1)), (3, .int (x3))] [.ref (ad 41 j4), .long ((S.2.1 48 j3 6)), .long (x1)] rfl rfl ?_
      refine V_iload_n 2 C rfl d_X_position_26 ?_
      refine V_aald (t0 := 2) C lj4 (osh_41 _ _ _ _) rfl h.1 d_X_position_27 (fun o5 eo5 lo5 => ?_)
      replace h := h.2 o5 eo5
      replace lo5 : ∀ j, o5 = some j → j < cn 48 := lo5
      refine V_sh [(0, .ref (ad 40 0)), (1, .long (x1)), (3, .int (x3))] [rv ad 48 o5, .long ((S.2.1 48 j3 6)), .long (x1)] rfl rfl ?_
      obtain ⟨j6, q, h⟩ := h
      subst q
      have lj6 := lo5 j6 rfl
      refine V_sh [(0, .ref (ad 40 0)), (1, .long (x1)), (3, .int (x3))] [.ref (ad 48 j6), .long ((S.2.1 48 j3 6)), .long (x1)] rfl rfl ?_
      refine V_get C f_X_69 lj6 (osh_48 _ _ _ _) (fl_48_5 _ _ _) d_X_position_28 ?_
      refine V_i2l C d_X_position_31 ?_
      refine V_lmul C d_X_position_32 ?_
      refine V_ladd C d_X_position_33 ?_
      refine V_lstore_n C [(1, .long ((x1 + ((S.2.1 48 j3 6) * (Int32.toInt64 (S.1 48 j6 5)))))), (0, .ref (ad 40 0)), (3, .int (x3))] (by decide) rfl d_X_position_34 ?_
      refine V_iinc (v := (x3 + 1)) 2 C [(3, .int ((x3 + 1))), (1, .long ((x1 + ((S.2.1 48 j3 6) * (Int32.toInt64 (S.1 48 j6 5)))))), (0, .ref (ad 40 0))] rfl rfl (by decide) rfl d_X_position_35 ?_
      refine V_goto C d_X_position_38 ?_
      refine V_lvs [2, 1, 0] [(0, .ref (ad 40 0)), (1, .long ((x1 + ((S.2.1 48 j3 6) * (Int32.toInt64 (S.1 48 j6 5)))))), (3, .int ((x3 + 1)))] rfl ?_
      exact ih ((x1 + ((S.2.1 48 j3 6) * (Int32.toInt64 (S.1 48 j6 5))))) ((x3 + 1)) S lx0 h
set_option maxRecDepth 100000 in
set_option maxHeartbeats 4000000 in
theorem ct_X_position (l : Launch) (Γ : oGm) (ad : oAd) (cn : Nat → Nat) (S : oSt)  (post : Int64 → oSt → Prop) (l0 : 0 < cn 40) (h : wp_X_position S  post) : Met l y_X_position (.code y_X_position prog_1_method_17_code 4 (some .long) :: oWS) { frames := 1, cells := 0, slots := 0, locals := 40 } (va_Pc [.ref (ad 40 0)] (oW Γ ad cn S)) (oQ Γ ad cn vJ post) 0 0 (oF Γ) := by
  refine o_met (lv := [(0, .ref (ad 40 0))]) (own := "ValueConnector") (by decide) rfl (Nat.le_of_ble_eq_true rfl) rfl ?_
  intro p e s m args below meth c C hr hnm
  have hR : 1 ≤ ({ frames := 1, cells := 0, slots := 0, locals := 40 } : Room).frames ∧ 40 ≤ ({ frames := 1, cells := 0, slots := 0, locals := 40 } : Room).locals := ⟨Nat.le_refl _, Nat.le_refl _⟩
  unfold wp_X_position at h
  refine V_lconst (v := 0) C (by decide) d_X_position_0 ?_
  refine V_lstore_n C [(1, .long ((0 : Int64))), (0, .ref (ad 40 0))] (by decide) rfl d_X_position_1 ?_
  refine V_iconst (v := 0) C (by decide) d_X_position_2 ?_
  refine V_istore_n C [(3, .int ((0 : Int32))), (1, .long ((0 : Int64))), (0, .ref (ad 40 0))] (by decide) rfl d_X_position_3 ?_
  refine V_lvs [2, 1, 0] [(0, .ref (ad 40 0)), (1, .long ((0 : Int64))), (3, .int ((0 : Int32)))] rfl ?_
  obtain ⟨n, h⟩ := h
  exact B_X_position_L4 C hr hR n ((0 : Int64)) ((0 : Int32)) S l0 h
set_option maxRecDepth 100000 in
set_option maxHeartbeats 4000000 in
theorem ct_X_state (l : Launch) (Γ : oGm) (ad : oAd) (cn : Nat → Nat) (S : oSt) (a1 : Int32) (post : Int32 → oSt → Prop) (l0 : 0 < cn 40) (h : wp_X_state S a1 post) : Met l y_X_state (.code y_X_state prog_1_method_18_code 3 (some .int) :: oWS) { frames := 2, cells := 0, slots := 0, locals := 61 } (va_Pc [.ref (ad 40 0), .int (a1)] (oW Γ ad cn S)) (oQ Γ ad cn vI post) 0 0 (oF Γ) := by
  refine o_met (lv := [(0, .ref (ad 40 0)), (1, .int (a1))]) (own := "ValueConnector") (by decide) rfl (Nat.le_of_ble_eq_true rfl) rfl ?_
  intro p e s m args below meth c C hr hnm
  have hR : 2 ≤ ({ frames := 2, cells := 0, slots := 0, locals := 61 } : Room).frames ∧ 61 ≤ ({ frames := 2, cells := 0, slots := 0, locals := 61 } : Room).locals := ⟨Nat.le_refl _, Nat.le_refl _⟩
  unfold wp_X_state at h
  refine V_aload_n 0 C rfl d_X_state_0 ?_
  refine V_iload_n 1 C rfl d_X_state_1 ?_
  refine V_cV (As := [.int (a1)]) (rest := []) C k_X_148 l0 (osh_40 _ _ _ _) (ct_X_transferNumbered l Γ ad cn S (a1) _ l0 h) ⟨rfl, rfl⟩ ⟨Nat.le_trans (by decide) hR.1, Nat.le_trans (by decide) hR.2⟩ ⟨Nat.zero_le _, Nat.zero_le _⟩ rfl rfl (Nat.le_of_ble_eq_true rfl) d_X_state_2 (fun r1 S2 h => ?_)
  obtain ⟨lr1, h⟩ := h
  refine V_sh [(0, .ref (ad 40 0)), (1, .int (a1))] [rv ad 52 r1] rfl rfl ?_
  refine V_ostore_n (kd := 52) (o := r1) C [(2, rv ad 52 r1), (0, .ref (ad 40 0)), (1, .int (a1))] (by decide) rfl d_X_state_5 ?_
  refine V_oload_n (kd := 52) (o := r1) 0 C rfl d_X_state_6 ?_
  refine V_ifnonnull (kd := 52) (o := r1) C d_X_state_7 (fun j3 q => ?_) (fun q => ?_)
  · replace h := h.2 j3 q
    subst q
    have lj3 := lr1 j3 rfl
    refine V_sh [(2, .ref (ad 52 j3)), (0, .ref (ad 40 0)), (1, .int (a1))] [] rfl rfl ?_
    refine V_aload_n 0 C rfl d_X_state_14 ?_
    refine V_get C f_X_152 lj3 (osh_52 _ _ _ _) (fl_52_6 _ _ _) d_X_state_15 ?_
    exact V_iret C hr d_X_state_18 h
  · replace h := h.1 q
    subst q
    refine V_iconst (v := -1) C (by decide) d_X_state_10 ?_
    refine V_goto C d_X_state_11 ?_
    exact V_iret C hr d_X_state_18 h
set_option maxRecDepth 100000 in
set_option maxHeartbeats 4000000 in
theorem ct_X_transfer (l : Launch) (Γ : oGm) (ad : oAd) (cn : Nat → Nat) (S : oSt) (a1 : Int32) (a2 : Int32) (post : Int64 → oSt → Prop) (l0 : 0 < cn 40) (h : wp_X_transfer S a1 a2 post) : Met l y_X_transfer (.code y_X_transfer prog_1_method_19_code 4 (some .long) :: oWS) { frames := 2, cells := 0, slots := 0, locals := 61 } (va_Pc [.ref (ad 40 0), .int (a1), .int (a2)] (oW Γ ad cn S)) (oQ Γ ad cn vJ post) 0 0 (oF Γ) := by
  refine o_met (lv := [(0, .ref (ad 40 0)), (1, .int (a1)), (2, .int (a2))]) (own := "ValueConnector") (by decide) rfl (Nat.le_of_ble_eq_true rfl) rfl ?_
  intro p e s m args below meth c C hr hnm
  have hR : 2 ≤ ({ frames := 2, cells := 0, slots := 0, locals := 61 } : Room).frames ∧ 61 ≤ ({ frames := 2, cells := 0, slots := 0, locals := 61 } : Room).locals := ⟨Nat.le_refl _, Nat.le_refl _⟩
  unfold wp_X_transfer at h
  refine V_aload_n 0 C rfl d_X_transfer_0 ?_
  refine V_iload_n 1 C rfl d_X_transfer_1 ?_
  refine V_cV (As := [.int (a1)]) (rest := []) C k_X_148 l0 (osh_40 _ _ _ _) (ct_X_transferNumbered l Γ ad cn S (a1) _ l0 h) ⟨rfl, rfl⟩ ⟨Nat.le_trans (by decide) hR.1, Nat.le_trans (by decide) hR.2⟩ ⟨Nat.zero_le _, Nat.zero_le _⟩ rfl rfl (Nat.le_of_ble_eq_true rfl) d_X_transfer_2 (fun r1 S2 h => ?_)
  obtain ⟨lr1, h⟩ := h
  refine V_sh [(0, .ref (ad 40 0)), (1, .int (a1)), (2, .int (a2))] [rv ad 52 r1] rfl rfl ?_
  refine V_ostore_n (kd := 52) (o := r1) C [(3, rv ad 52 r1), (0, .ref (ad 40 0)), (1, .int (a1)), (2, .int (a2))] (by decide) rfl d_X_transfer_5 ?_
  refine V_oload_n (kd := 52) (o := r1) 0 C rfl d_X_transfer_6 ?_
  refine V_ifnonnull (kd := 52) (o := r1) C d_X_transfer_7 (fun j3 q => ?_) (fun q => ?_)
  · replace h := h.2 j3 q
    subst q
    have lj3 := lr1 j3 rfl
    refine V_sh [(3, .ref (ad 52 j3)), (0, .ref (ad 40 0)), (1, .int (a1)), (2, .int (a2))] [] rfl rfl ?_
    refine V_iload_n 3 C rfl d_X_transfer_14 ?_
    refine V_swt (td := 68) C 4 (fun n => [44, 53, 58, 63].getD n 0) (by decide) (by decide) d_X_transfer_15 (fun n hn => by
        have h9 : n = 0 ∨ n = 1 ∨ n = 2 ∨ n = 3 := by omega
        rcases h9 with rfl | rfl | rfl | rfl <;> exact ⟨_, rfl, by decide⟩) (by decide) (fun n hn q => ?_) (fun q => ?_)
    · have h9 : n = 0 ∨ n = 1 ∨ n = 2 ∨ n = 3 := by omega
      rcases h9 with rfl | rfl | rfl | rfl
      · refine V_pc (pc2 := 44) rfl ?_
        replace h := h.1 q
        refine V_aload_n 0 C rfl d_X_transfer_44 ?_
        obtain ⟨j4, ej4, h⟩ := h
        refine V_getr (f := 1) C f_X_162 lj3 (osh_52 _ _ _ _) (fl_52_1 _ _ _) ej4 d_X_transfer_45 (fun lj4 => ?_)
        replace lj4 : j4 < cn 48 := lj4
        refine V_sh [(3, .ref (ad 52 j3)), (0, .ref (ad 40 0)), (1, .int (a1)), (2, .int (a2))] [.ref (ad 48 j4)] rfl rfl ?_
        refine V_get C f_X_196 lj4 (osh_48 _ _ _ _) (fl_48_0 _ _ _) d_X_transfer_48 ?_
        refine V_i2l C d_X_transfer_51 ?_
        exact V_lret C hr d_X_transfer_52 h
      · refine V_pc (pc2 := 53) rfl ?_
        replace h := h.2.1 q
        refine V_aload_n 0 C rfl d_X_transfer_53 ?_
        refine V_get C f_X_199 lj3 (osh_52 _ _ _ _) (fl_52_3 _ _ _) d_X_transfer_54 ?_
        exact V_lret C hr d_X_transfer_57 h
      · refine V_pc (pc2 := 58) rfl ?_
        replace h := h.2.2.1 q
        refine V_aload_n 0 C rfl d_X_transfer_58 ?_
        refine V_get C f_X_202 lj3 (osh_52 _ _ _ _) (fl_52_4 _ _ _) d_X_transfer_59 ?_
        exact V_lret C hr d_X_transfer_62 h
      · refine V_pc (pc2 := 63) rfl ?_
        replace h := h.2.2.2.1 q
        refine V_aload_n 0 C rfl d_X_transfer_63 ?_
        refine V_get C f_X_205 lj3 (osh_52 _ _ _ _) (fl_52_7 _ _ _) d_X_transfer_64 ?_
        exact V_lret C hr d_X_transfer_67 h
    · replace h := h.2.2.2.2 q
      refine V_ldc2 (v := -1) C w_385 d_X_transfer_68 ?_
      exact V_lret C hr d_X_transfer_71 h
  · replace h := h.1 q
    subst q
    refine V_ldc2 (v := -1) C w_385 d_X_transfer_10 ?_
    exact V_lret C hr d_X_transfer_13 h
