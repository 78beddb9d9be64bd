set_option maxRecDepth 100000 in
set_option maxHeartbeats 4000000 in
theorem B_M_way_L15 {p : Program} {l : Launch} {e : Env} {R : Room} {s : State} {m : MethodId} {args : Array Value} {below : List Frame} {meth : Method} {c : Code} {Γ : oGm} {ad : oAd} {cn : Nat → Nat} {post : Int32 → oSt → Prop} (C : Cx p s m args meth c Γ prog_8_method_15_code 5 "ValueConnectorModel") (hr : meth.sig.returnType = (some .int)) (hR : 4 ≤ R.frames ∧ 112 ≤ R.locals) : ∀ (n : Nat) (x1 : Int64) (x3 : Int32) (x4 : Int32) (S : oSt) (_ : 0 < cn 0), wp_M_way_L15 post n x1 x3 x4 S → Vv p l e R s m args below meth c (MQ below (oQ Γ ad cn vI post) args s 0 0 (oF Γ)) Γ 5 0 0 ad cn S 15 [(0, .ref (ad 0 0)), (1, .long (x1)), (3, .int (x3)), (4, .int (x4))] [] := by
  intro n
  induction n with
  | zero => intro x1 x3 x4 S lx0 h; exact h.elim
  | succ n ih =>
    intro x1 x3 x4 S lx0 h
    unfold wp_M_way_L15 at h
    refine V_iload 3 C rfl d_M_way_15 ?_
    refine V_aload_n 0 C rfl d_M_way_17 ?_
    refine V_get C f_M_112 lx0 (osh_0 _ _ _ _) (fl_0_18 _ _ _) d_M_way_18 ?_
    refine V_icmp_ge C d_M_way_21 (fun q => ?_) (fun q => ?_)
    · replace h := h.1 q
      refine V_iload_n 2 C rfl d_M_way_62 ?_
      refine V_if_ge C d_M_way_63 (fun q => ?_) (fun q => ?_)
      · replace h := h.1 q
        refine V_aload_n 0 C rfl d_M_way_70 ?_
        obtain ⟨j3, ej3, h⟩ := h
        refine V_getr (f := 19) C f_M_50 lx0 (osh_0 _ _ _ _) (fl_0_19 _ _ _) ej3 d_M_way_71 (fun lj3 => ?_)
        replace lj3 : j3 < cn 19 := lj3
        refine V_sh [(0, .ref (ad 0 0)), (1, .long (x1)), (3, .int (x3)), (4, .int (x4))] [.ref (ad 19 j3)] rfl rfl ?_
        refine V_iload_n 2 C rfl d_M_way_74 ?_
        refine V_iald C lj3 (osh_19 _ _ _ _) h.1 d_M_way_75 ?_
        replace h := h.2
        exact V_iret C hr d_M_way_76 h
      · replace h := h.2 q
        refine V_iconst (v := -1) C (by decide) d_M_way_66 ?_
        refine V_goto C d_M_way_67 ?_
        exact V_iret C hr d_M_way_76 h
    · replace h := h.2 q
      refine V_aload_n 0 C rfl d_M_way_24 ?_
      refine V_lload_n 1 C rfl d_M_way_25 ?_
      refine V_aload_n 0 C rfl d_M_way_26 ?_
      obtain ⟨j4, ej4, h⟩ := h
      refine V_getr (f := 20) C f_M_53 lx0 (osh_0 _ _ _ _) (fl_0_20 _ _ _) ej4 d_M_way_27 (fun lj4 => ?_)
      replace lj4 : j4 < cn 20 := lj4
      refine V_sh [(0, .ref (ad 0 0)), (1, .long (x1)), (3, .int (x3)), (4, .int (x4))] [.ref (ad 20 j4), .long (x1), .ref (ad 0 0)] rfl rfl ?_
      refine V_iload 3 C rfl d_M_way_30 ?_
      refine V_lald C lj4 (osh_20 _ _ _ _) h.1 d_M_way_32 ?_
      replace h := h.2
      refine V_cV (As := [.long (x1), .long ((S.2.1 20 j4 (Int32.toNatClampNeg x4)))]) (rest := []) C k_M_123 lx0 (osh_0 _ _ _ _) (ct_M_begins l Γ ad cn S (x1) ((S.2.1 20 j4 (Int32.toNatClampNeg x4))) _ lx0 h) ⟨rfl, rfl⟩ ⟨Nat.le_trans (by decide) hR.1, Nat.le_trans (by decide) hR.2⟩ ⟨Nat.zero_le _, Nat.zero_le _⟩ rfl rfl (Nat.le_of_ble_eq_true rfl) d_M_way_33 (fun r5 S6 h => ?_)
      refine V_sh [(0, .ref (ad 0 0)), (1, .long (x1)), (3, .int (x3)), (4, .int (x4))] [.int (r5)] rfl rfl ?_
      refine V_if_eq C d_M_way_36 (fun q => ?_) (fun q => ?_)
      · replace h := h.1 q
        refine V_iinc (v := (x4 + 1)) 3 C [(4, .int ((x4 + 1))), (0, .ref (ad 0 0)), (1, .long (x1)), (3, .int (x3))] rfl rfl (by decide) rfl d_M_way_56 ?_
        refine V_goto C d_M_way_59 ?_
        refine V_lvs [1, 2, 3, 0] [(0, .ref (ad 0 0)), (1, .long (x1)), (3, .int (x3)), (4, .int ((x4 + 1)))] rfl ?_
        exact ih (x1) (x3) ((x4 + 1)) S6 lx0 h
      · replace h := h.2 q
        refine V_iload_n 2 C rfl d_M_way_39 ?_
        refine V_if_lt C d_M_way_40 (fun q => ?_) (fun q => ?_)
        · replace h := h.1 q
          refine V_iload 3 C rfl d_M_way_53 ?_
          refine V_istore_n C [(3, .int (x4)), (0, .ref (ad 0 0)), (1, .long (x1)), (4, .int (x4))] (by decide) rfl d_M_way_55 ?_
          refine V_iinc (v := (x4 + 1)) 3 C [(4, .int ((x4 + 1))), (3, .int (x4)), (0, .ref (ad 0 0)), (1, .long (x1))] rfl rfl (by decide) rfl d_M_way_56 ?_
          refine V_goto C d_M_way_59 ?_
          refine V_lvs [2, 3, 1, 0] [(0, .ref (ad 0 0)), (1, .long (x1)), (3, .int (x4)), (4, .int ((x4 + 1)))] rfl ?_
          exact ih (x1) (x4) ((x4 + 1)) S6 lx0 h
        · replace h := h.2 q
          refine V_aload_n 0 C rfl d_M_way_43 ?_
          refine V_iload 3 C rfl d_M_way_44 ?_
          refine V_iload_n 2 C rfl d_M_way_46 ?_
          refine V_cV (As := [.int (x4), .int (x3)]) (rest := []) C k_M_127 lx0 (osh_0 _ _ _ _) (ct_M_better l Γ ad cn S6 (x4) (x3) _ lx0 h) ⟨rfl, rfl⟩ ⟨Nat.le_trans (by decide) hR.1, Nat.le_trans (by decide) hR.2⟩ ⟨Nat.zero_le _, Nat.zero_le _⟩ rfl rfl (Nat.le_of_ble_eq_true rfl) d_M_way_47 (fun r7 S8 h => ?_)
          refine V_sh [(0, .ref (ad 0 0)), (1, .long (x1)), (3, .int (x3)), (4, .int (x4))] [.int (r7)] rfl rfl ?_
          refine V_if_eq C d_M_way_50 (fun q => ?_) (fun q => ?_)
          · replace h := h.1 q
            refine V_iinc (v := (x4 + 1)) 3 C [(4, .int ((x4 + 1))), (0, .ref (ad 0 0)), (1, .long (x1)), (3, .int (x3))] rfl rfl (by decide) rfl d_M_way_56 ?_
            refine V_goto C d_M_way_59 ?_
            refine V_lvs [1, 2, 3, 0] [(0, .ref (ad 0 0)), (1, .long (x1)), (3, .int (x3)), (4, .int ((x4 + 1)))] rfl ?_
            exact ih (x1) (x3) ((x4 + 1)) S8 lx0 h
          · replace h := h.2 q
            refine V_iload 3 C rfl d_M_way_53 ?_
            refine V_istore_n C [(3, .int (x4)), (0, .ref (ad 0 0)), (1, .long (x1)), (4, .int (x4))] (by decide) rfl d_M_way_55 ?_
            refine V_iinc (v := (x4 + 1)) 3 C [(4, .int ((x4 + 1))), (3, .int (x4)), (0, .ref (ad 0 0)), (1, .long (x1))] rfl rfl (by decide) rfl d_M_way_56 ?_
            refine V_goto C d_M_way_59 ?_
            refine V_lvs [2, 3, 1, 0] [(0, .ref (ad 0 0)), (1, .long (x1)), (3, .int (x4)), (4, .int ((x4 + 1)))] rfl ?_
            exact ih (x1) (x4) ((x4 + 1)) S8 lx0 h
set_option maxRecDepth 100000 in
set_option maxHeartbeats 4000000 in
theorem ct_M_way (l : Launch) (Γ : oGm) (ad : oAd) (cn : Nat → Nat) (S : oSt) (a1 : Int64) (post : Int32 → oSt → Prop) (l0 : 0 < cn 0) (h : wp_M_way S a1 post) : Met l y_M_way (.code y_M_way prog_8_method_15_code 5 (some .int) :: oWS) { frames := 4, cells := 0, slots := 0, locals := 112 } (va_Pc [.ref (ad 0 0), .long (a1)] (oW Γ ad cn S)) (oQ Γ ad cn vI post) 0 0 (oF Γ) := by
  refine o_met (lv := [(0, .ref (ad 0 0)), (1, .long (a1))]) (own := "ValueConnectorModel") (by decide) rfl (Nat.le_of_ble_eq_true rfl) rfl ?_
  intro p e s m args below meth c C hr hnm
  have hR : 4 ≤ ({ frames := 4, cells := 0, slots := 0, locals := 112 } : Room).frames ∧ 112 ≤ ({ frames := 4, cells := 0, slots := 0, locals := 112 } : Room).locals := ⟨Nat.le_refl _, Nat.le_refl _⟩
  unfold wp_M_way at h
  refine V_lload_n 1 C rfl d_M_way_0 ?_
  refine V_cS (As := [.long (a1)]) (rest := []) C k_M_115 (ct_M_lengthOf l Γ ad cn S (a1) _  h) ⟨rfl, rfl⟩ ⟨Nat.le_trans (by decide) hR.1, Nat.le_trans (by decide) hR.2⟩ ⟨Nat.zero_le _, Nat.zero_le _⟩ rfl rfl (Nat.le_of_ble_eq_true rfl) d_M_way_1 (fun r1 S2 h => ?_)
  refine V_sh [(0, .ref (ad 0 0)), (1, .long (a1))] [.int (r1)] rfl rfl ?_
  refine V_iconst (v := 1) C (by decide) d_M_way_4 ?_
  refine V_icmp_ge C d_M_way_5 (fun q => ?_) (fun q => ?_)
  · replace h := h.1 q
    refine V_iconst (v := -1) C (by decide) d_M_way_10 ?_
    refine V_istore_n C [(3, .int ((-1 : Int32))), (0, .ref (ad 0 0)), (1, .long (a1))] (by decide) rfl d_M_way_11 ?_
    refine V_iconst (v := 0) C (by decide) d_M_way_12 ?_
    refine V_istore C [(4, .int ((0 : Int32))), (3, .int ((-1 : Int32))), (0, .ref (ad 0 0)), (1, .long (a1))] (by decide) rfl d_M_way_13 ?_
    refine V_lvs [2, 3, 1, 0] [(0, .ref (ad 0 0)), (1, .long (a1)), (3, .int ((-1 : Int32))), (4, .int ((0 : Int32)))] rfl ?_
    obtain ⟨n, h⟩ := h
    exact B_M_way_L15 C hr hR n (a1) ((-1 : Int32)) ((0 : Int32)) S2 l0 h
  · replace h := h.2 q
    refine V_iconst (v := -1) C (by decide) d_M_way_8 ?_
    exact V_iret C hr d_M_way_9 h
set_option maxRecDepth 100000 in
set_option maxHeartbeats 4000000 in
theorem B_M_prepare_J148 {p : Program} {l : Launch} {e : Env} {R : Room} {s : State} {m : MethodId} {args : Array Value} {below : List Frame} {meth : Method} {c : Code} {Γ : oGm} {ad : oAd} {cn : Nat → Nat} {post : Int32 → oSt → Prop} (C : Cx p s m args meth c Γ prog_8_method_16_code 12 "ValueConnectorModel") (hr : meth.sig.returnType = (some .int)) (hR : 5 ≤ R.frames ∧ 136 ≤ R.locals) : ∀ (x1 : Int32) (x4 : Int32) (x6 : Int64) (x8 : Int32) (y0 : Int32) (S : oSt) (_ : 0 < cn 0), wp_M_prepare_J148 post x1 x4 x6 x8 y0 S → Vv p l e R s m args below meth c (MQ below (oQ Γ ad cn vI post) args s 0 0 (oF Γ)) Γ 12 0 0 ad cn S 148 [(0, .ref (ad 0 0)), (1, .int (x1)), (4, .int (x4)), (6, .long (x6)), (8, .int (x8))] [.int (y0)] := by
  intro x1 x4 x6 x8 y0 S lx0 h
  unfold wp_M_prepare_J148 at h
  refine V_istore C [(9, .int (y0)), (0, .ref (ad 0 0)), (1, .int (x1)), (4, .int (x4)), (6, .long (x6)), (8, .int (x8))] (by decide) rfl d_M_prepare_148 ?_
  refine V_iload 0 C rfl d_M_prepare_150 ?_
  refine V_aload_n 1 C rfl d_M_prepare_152 ?_
  refine V_get C f_M_134 lx0 (osh_0 _ _ _ _) (fl_0_2 _ _ _) d_M_prepare_153 ?_
  refine V_icmp_gt C d_M_prepare_156 (fun q => ?_) (fun q => ?_)
  · replace h := h.1 q
    refine V_aload_n 1 C rfl d_M_prepare_162 ?_
    obtain ⟨j11, ej11, h⟩ := h
    refine V_getr (f := 5) C f_M_7 lx0 (osh_0 _ _ _ _) (fl_0_5 _ _ _) ej11 d_M_prepare_163 (fun lj11 => ?_)
    replace lj11 : j11 < cn 5 := lj11
    refine V_sh [(9, .int (y0)), (0, .ref (ad 0 0)), (1, .int (x1)), (4, .int (x4)), (6, .long (x6)), (8, .int (x8))] [.ref (ad 5 j11)] rfl rfl ?_
    refine V_iload_n 2 C rfl d_M_prepare_166 ?_
    refine V_lald C lj11 (osh_5 _ _ _ _) h.1 d_M_prepare_167 ?_
    replace h := h.2
    refine V_iload 3 C rfl d_M_prepare_168 ?_
    refine V_i2l C d_M_prepare_170 ?_
    refine V_lsub C d_M_prepare_171 ?_
    refine V_aload_n 1 C rfl d_M_prepare_172 ?_
    obtain ⟨j12, ej12, h⟩ := h
    refine V_getr (f := 6) C f_M_13 lx0 (osh_0 _ _ _ _) (fl_0_6 _ _ _) ej12 d_M_prepare_173 (fun lj12 => ?_)
    replace lj12 : j12 < cn 6 := lj12
    refine V_sh [(9, .int (y0)), (0, .ref (ad 0 0)), (1, .int (x1)), (4, .int (x4)), (6, .long (x6)), (8, .int (x8))] [.ref (ad 6 j12), .long (((S.2.1 5 j11 (Int32.toNatClampNeg x1)) - (Int32.toInt64 x4)))] rfl rfl ?_
    refine V_iload_n 2 C rfl d_M_prepare_176 ?_
    refine V_iald C lj12 (osh_6 _ _ _ _) h.1 d_M_prepare_177 ?_
    replace h := h.2
    refine V_i2l C d_M_prepare_178 ?_
    refine V_lcmp C d_M_prepare_179 ?_
    refine V_if_ge C d_M_prepare_180 (fun q => ?_) (fun q => ?_)
    · replace h := h.1 q
      refine V_iload 3 C rfl d_M_prepare_186 ?_
      refine V_i2l C d_M_prepare_188 ?_
      refine V_aload_n 1 C rfl d_M_prepare_189 ?_
      obtain ⟨j13, ej13, h⟩ := h
      refine V_getr (f := 8) C f_M_20 lx0 (osh_0 _ _ _ _) (fl_0_8 _ _ _) ej13 d_M_prepare_190 (fun lj13 => ?_)
      replace lj13 : j13 < cn 8 := lj13
      refine V_sh [(9, .int (y0)), (0, .ref (ad 0 0)), (1, .int (x1)), (4, .int (x4)), (6, .long (x6)), (8, .int (x8))] [.ref (ad 8 j13), .long ((Int32.toInt64 x4))] rfl rfl ?_
      refine V_iload_n 2 C rfl d_M_prepare_193 ?_
      refine V_iald C lj13 (osh_8 _ _ _ _) h.1 d_M_prepare_194 ?_
      replace h := h.2
      refine V_i2l C d_M_prepare_195 ?_
      refine V_lmul C d_M_prepare_196 ?_
      refine V_sipush (v := 1000) C (by decide) d_M_prepare_197 ?_
      refine V_aload_n 1 C rfl d_M_prepare_200 ?_
      refine V_get C f_M_103 lx0 (osh_0 _ _ _ _) (fl_0_3 _ _ _) d_M_prepare_201 ?_
      refine V_isub C d_M_prepare_204 ?_
      refine V_i2l C d_M_prepare_205 ?_
      refine V_lmul C d_M_prepare_206 ?_
      refine V_ldc2 (v := 1000) C w_566 d_M_prepare_207 ?_
      refine V_aload_n 1 C rfl d_M_prepare_210 ?_
      obtain ⟨j14, ej14, h⟩ := h
      refine V_getr (f := 8) C f_M_20 lx0 (osh_0 _ _ _ _) (fl_0_8 _ _ _) ej14 d_M_prepare_211 (fun lj14 => ?_)
      replace lj14 : j14 < cn 8 := lj14
      refine V_sh [(9, .int (y0)), (0, .ref (ad 0 0)), (1, .int (x1)), (4, .int (x4)), (6, .long (x6)), (8, .int (x8))] [.ref (ad 8 j14), .long ((1000 : Int64)), .long ((((Int32.toInt64 x4) * (Int32.toInt64 (S.1 8 j13 (Int32.toNatClampNeg x1)))) * (Int32.toInt64 ((1000 : Int32) - (S.1 0 0 3)))))] rfl rfl ?_
      refine V_iload 5 C rfl d_M_prepare_214 ?_
      refine V_iald C lj14 (osh_8 _ _ _ _) h.1 d_M_prepare_216 ?_
      replace h := h.2
      refine V_i2l C d_M_prepare_217 ?_
      refine V_lmul C d_M_prepare_218 ?_
      refine V_ldiv C h.1 d_M_prepare_219 ?_
      replace h := h.2
      refine V_lstore C [(10, .long (((((Int32.toInt64 x4) * (Int32.toInt64 (S.1 8 j13 (Int32.toNatClampNeg x1)))) * (Int32.toInt64 ((1000 : Int32) - (S.1 0 0 3)))) / ((1000 : Int64) * (Int32.toInt64 (S.1 8 j14 (Int32.toNatClampNeg x8))))))), (9, .int (y0)), (0, .ref (ad 0 0)), (1, .int (x1)), (4, .int (x4)), (6, .long (x6)), (8, .int (x8))] (by decide) rfl d_M_prepare_220 ?_
      refine V_lload 0 C rfl d_M_prepare_222 ?_
      refine V_aload_n 2 C rfl d_M_prepare_224 ?_
      obtain ⟨j15, ej15, h⟩ := h
      refine V_getr (f := 7) C f_M_17 lx0 (osh_0 _ _ _ _) (fl_0_7 _ _ _) ej15 d_M_prepare_225 (fun lj15 => ?_)
      replace lj15 : j15 < cn 7 := lj15
      refine V_sh [(10, .long (((((Int32.toInt64 x4) * (Int32.toInt64 (S.1 8 j13 (Int32.toNatClampNeg x1)))) * (Int32.toInt64 ((1000 : Int32) - (S.1 0 0 3)))) / ((1000 : Int64) * (Int32.toInt64 (S.1 8 j14 (Int32.toNatClampNeg x8))))))), (9, .int (y0)), (0, .ref (ad 0 0)), (1, .int (x1)), (4, .int (x4)), (6, .long (x6)), (8, .int (x8))] [.ref (ad 7 j15), .long (((((Int32.toInt64 x4) * (Int32.toInt64 (S.1 8 j13 (Int32.toNatClampNeg x1)))) * (Int32.toInt64 ((1000 : Int32) - (S.1 0 0 3)))) / ((1000 : Int64) * (Int32.toInt64 (S.1 8 j14 (Int32.toNatClampNeg x8))))))] rfl rfl ?_
      refine V_iload 6 C rfl d_M_prepare_228 ?_
      refine V_iald C lj15 (osh_7 _ _ _ _) h.1 d_M_prepare_230 ?_
      replace h := h.2
      refine V_i2l C d_M_prepare_231 ?_
      refine V_lcmp C d_M_prepare_232 ?_
      refine V_if_le C d_M_prepare_233 (fun q => ?_) (fun q => ?_)
      · replace h := h.1 q
        refine V_aload_n 2 C rfl d_M_prepare_239 ?_
        obtain ⟨j16, ej16, h⟩ := h
        refine V_getr (f := 5) C f_M_7 lx0 (osh_0 _ _ _ _) (fl_0_5 _ _ _) ej16 d_M_prepare_240 (fun lj16 => ?_)
        replace lj16 : j16 < cn 5 := lj16
        refine V_sh [(10, .long (((((Int32.toInt64 x4) * (Int32.toInt64 (S.1 8 j13 (Int32.toNatClampNeg x1)))) * (Int32.toInt64 ((1000 : Int32) - (S.1 0 0 3)))) / ((1000 : Int64) * (Int32.toInt64 (S.1 8 j14 (Int32.toNatClampNeg x8))))))), (9, .int (y0)), (0, .ref (ad 0 0)), (1, .int (x1)), (4, .int (x4)), (6, .long (x6)), (8, .int (x8))] [.ref (ad 5 j16)] rfl rfl ?_
        refine V_iload_n 3 C rfl d_M_prepare_243 ?_
        refine V_dup2_11 C rfl rfl d_M_prepare_244 ?_
        refine V_lald C lj16 (osh_5 _ _ _ _) h.1 d_M_prepare_245 ?_
        replace h := h.2
        refine V_iload 4 C rfl d_M_prepare_246 ?_
        refine V_i2l C d_M_prepare_248 ?_
        refine V_lsub C d_M_prepare_249 ?_
        refine V_last C lj16 (fun _ => osh_5 _ _ _ _) h.1 d_M_prepare_250 (fun S17 eS17 => ?_)
        replace h := h.2 S17 eS17
        refine V_aload_n 2 C rfl d_M_prepare_251 ?_
        obtain ⟨j18, ej18, h⟩ := h
        refine V_getr (f := 23) C f_M_59 lx0 (osh_0 _ _ _ _) (fl_0_23 _ _ _) ej18 d_M_prepare_252 (fun lj18 => ?_)
        replace lj18 : j18 < cn 23 := lj18
        refine V_sh [(10, .long (((((Int32.toInt64 x4) * (Int32.toInt64 (S.1 8 j13 (Int32.toNatClampNeg x1)))) * (Int32.toInt64 ((1000 : Int32) - (S.1 0 0 3)))) / ((1000 : Int64) * (Int32.toInt64 (S.1 8 j14 (Int32.toNatClampNeg x8))))))), (9, .int (y0)), (0, .ref (ad 0 0)), (1, .int (x1)), (4, .int (x4)), (6, .long (x6)), (8, .int (x8))] [.ref (ad 23 j18)] rfl rfl ?_
        refine V_aload_n 2 C rfl d_M_prepare_255 ?_
        refine V_get C f_M_131 lx0 (osh_0 _ _ _ _) (fl_0_22 _ _ _) d_M_prepare_256 ?_
        refine V_iload_n 3 C rfl d_M_prepare_259 ?_
        refine V_iast C lj18 (fun _ => osh_23 _ _ _ _) h.1 d_M_prepare_260 (fun S19 eS19 => ?_)
        replace h := h.2 S19 eS19
        refine V_aload_n 2 C rfl d_M_prepare_261 ?_
        obtain ⟨j20, ej20, h⟩ := h
        refine V_getr (f := 24) C f_M_62 lx0 (osh_0 _ _ _ _) (fl_0_24 _ _ _) ej20 d_M_prepare_262 (fun lj20 => ?_)
        replace lj20 : j20 < cn 24 := lj20
        refine V_sh [(10, .long (((((Int32.toInt64 x4) * (Int32.toInt64 (S.1 8 j13 (Int32.toNatClampNeg x1)))) * (Int32.toInt64 ((1000 : Int32) - (S.1 0 0 3)))) / ((1000 : Int64) * (Int32.toInt64 (S.1 8 j14 (Int32.toNatClampNeg x8))))))), (9, .int (y0)), (0, .ref (ad 0 0)), (1, .int (x1)), (4, .int (x4)), (6, .long (x6)), (8, .int (x8))] [.ref (ad 24 j20)] rfl rfl ?_
        refine V_aload_n 2 C rfl d_M_prepare_265 ?_
        refine V_get C f_M_131 lx0 (osh_0 _ _ _ _) (fl_0_22 _ _ _) d_M_prepare_266 ?_
        refine V_iload 6 C rfl d_M_prepare_269 ?_
        refine V_iast C lj20 (fun _ => osh_24 _ _ _ _) h.1 d_M_prepare_271 (fun S21 eS21 => ?_)
        replace h := h.2 S21 eS21
        refine V_aload_n 2 C rfl d_M_prepare_272 ?_
        obtain ⟨j22, ej22, h⟩ := h
        refine V_getr (f := 25) C f_M_65 lx0 (osh_0 _ _ _ _) (fl_0_25 _ _ _) ej22 d_M_prepare_273 (fun lj22 => ?_)
        replace lj22 : j22 < cn 25 := lj22
        refine V_sh [(10, .long (((((Int32.toInt64 x4) * (Int32.toInt64 (S.1 8 j13 (Int32.toNatClampNeg x1)))) * (Int32.toInt64 ((1000 : Int32) - (S.1 0 0 3)))) / ((1000 : Int64) * (Int32.toInt64 (S.1 8 j14 (Int32.toNatClampNeg x8))))))), (9, .int (y0)), (0, .ref (ad 0 0)), (1, .int (x1)), (4, .int (x4)), (6, .long (x6)), (8, .int (x8))] [.ref (ad 25 j22)] rfl rfl ?_
        refine V_aload_n 2 C rfl d_M_prepare_276 ?_
        refine V_get C f_M_131 lx0 (osh_0 _ _ _ _) (fl_0_22 _ _ _) d_M_prepare_277 ?_
        refine V_iload 4 C rfl d_M_prepare_280 ?_
        refine V_iast C lj22 (fun _ => osh_25 _ _ _ _) h.1 d_M_prepare_282 (fun S23 eS23 => ?_)
        replace h := h.2 S23 eS23
        refine V_aload_n 2 C rfl d_M_prepare_283 ?_
        obtain ⟨j24, ej24, h⟩ := h
        refine V_getr (f := 26) C f_M_68 lx0 (osh_0 _ _ _ _) (fl_0_26 _ _ _) ej24 d_M_prepare_284 (fun lj24 => ?_)
        replace lj24 : j24 < cn 26 := lj24
        refine V_sh [(10, .long (((((Int32.toInt64 x4) * (Int32.toInt64 (S.1 8 j13 (Int32.toNatClampNeg x1)))) * (Int32.toInt64 ((1000 : Int32) - (S.1 0 0 3)))) / ((1000 : Int64) * (Int32.toInt64 (S.1 8 j14 (Int32.toNatClampNeg x8))))))), (9, .int (y0)), (0, .ref (ad 0 0)), (1, .int (x1)), (4, .int (x4)), (6, .long (x6)), (8, .int (x8))] [.ref (ad 26 j24)] rfl rfl ?_
        refine V_aload_n 2 C rfl d_M_prepare_287 ?_
        refine V_get C f_M_131 lx0 (osh_0 _ _ _ _) (fl_0_22 _ _ _) d_M_prepare_288 ?_
        refine V_lload 0 C rfl d_M_prepare_291 ?_
        refine V_last C lj24 (fun _ => osh_26 _ _ _ _) h.1 d_M_prepare_293 (fun S25 eS25 => ?_)
        replace h := h.2 S25 eS25
        refine V_aload_n 2 C rfl d_M_prepare_294 ?_
        obtain ⟨j26, ej26, h⟩ := h
        refine V_getr (f := 27) C f_M_71 lx0 (osh_0 _ _ _ _) (fl_0_27 _ _ _) ej26 d_M_prepare_295 (fun lj26 => ?_)
        replace lj26 : j26 < cn 27 := lj26
        refine V_sh [(10, .long (((((Int32.toInt64 x4) * (Int32.toInt64 (S.1 8 j13 (Int32.toNatClampNeg x1)))) * (Int32.toInt64 ((1000 : Int32) - (S.1 0 0 3)))) / ((1000 : Int64) * (Int32.toInt64 (S.1 8 j14 (Int32.toNatClampNeg x8))))))), (9, .int (y0)), (0, .ref (ad 0 0)), (1, .int (x1)), (4, .int (x4)), (6, .long (x6)), (8, .int (x8))] [.ref (ad 27 j26)] rfl rfl ?_
        refine V_aload_n 2 C rfl d_M_prepare_298 ?_
        refine V_get C f_M_131 lx0 (osh_0 _ _ _ _) (fl_0_22 _ _ _) d_M_prepare_299 ?_
        refine V_iload 1 C rfl d_M_prepare_302 ?_
        refine V_iast C lj26 (fun _ => osh_27 _ _ _ _) h.1 d_M_prepare_304 (fun S27 eS27 => ?_)
        replace h := h.2 S27 eS27
        refine V_aload_n 2 C rfl d_M_prepare_305 ?_
        obtain ⟨j28, ej28, h⟩ := h
        refine V_getr (f := 28) C f_M_74 lx0 (osh_0 _ _ _ _) (fl_0_28 _ _ _) ej28 d_M_prepare_306 (fun lj28 => ?_)
        replace lj28 : j28 < cn 28 := lj28
        refine V_sh [(10, .long (((((Int32.toInt64 x4) * (Int32.toInt64 (S.1 8 j13 (Int32.toNatClampNeg x1)))) * (Int32.toInt64 ((1000 : Int32) - (S.1 0 0 3)))) / ((1000 : Int64) * (Int32.toInt64 (S.1 8 j14 (Int32.toNatClampNeg x8))))))), (9, .int (y0)), (0, .ref (ad 0 0)), (1, .int (x1)), (4, .int (x4)), (6, .long (x6)), (8, .int (x8))] [.ref (ad 28 j28)] rfl rfl ?_
        refine V_aload_n 2 C rfl d_M_prepare_309 ?_
        refine V_get C f_M_131 lx0 (osh_0 _ _ _ _) (fl_0_22 _ _ _) d_M_prepare_310 ?_
        refine V_lload 5 C rfl d_M_prepare_313 ?_
        refine V_last C lj28 (fun _ => osh_28 _ _ _ _) h.1 d_M_prepare_315 (fun S29 eS29 => ?_)
        replace h := h.2 S29 eS29
        refine V_aload_n 2 C rfl d_M_prepare_316 ?_
        obtain ⟨j30, ej30, h⟩ := h
        refine V_getr (f := 29) C f_M_77 lx0 (osh_0 _ _ _ _) (fl_0_29 _ _ _) ej30 d_M_prepare_317 (fun lj30 => ?_)
        replace lj30 : j30 < cn 29 := lj30
        refine V_sh [(10, .long (((((Int32.toInt64 x4) * (Int32.toInt64 (S.1 8 j13 (Int32.toNatClampNeg x1)))) * (Int32.toInt64 ((1000 : Int32) - (S.1 0 0 3)))) / ((1000 : Int64) * (Int32.toInt64 (S.1 8 j14 (Int32.toNatClampNeg x8))))))), (9, .int (y0)), (0, .ref (ad 0 0)), (1, .int (x1)), (4, .int (x4)), (6, .long (x6)), (8, .int (x8))] [.ref (ad 29 j30)] rfl rfl ?_
        refine V_aload_n 2 C rfl d_M_prepare_320 ?_
        refine V_get C f_M_131 lx0 (osh_0 _ _ _ _) (fl_0_22 _ _ _) d_M_prepare_321 ?_
        refine V_iconst (v := 0) C (by decide) d_M_prepare_324 ?_
        refine V_iast C lj30 (fun _ => osh_29 _ _ _ _) h.1 d_M_prepare_325 (fun S31 eS31 => ?_)
        replace h := h.2 S31 eS31
        refine V_aload_n 2 C rfl d_M_prepare_326 ?_
        refine V_dup C rfl d_M_prepare_327 ?_
        refine V_get C f_M_131 lx0 (osh_0 _ _ _ _) (fl_0_22 _ _ _) d_M_prepare_328 ?_
        refine V_iconst (v := 1) C (by decide) d_M_prepare_331 ?_
        refine V_iadd C d_M_prepare_332 ?_
        refine V_puti (f := 22) C p_M_131 (fun z => by cases z) lx0 (osh_0 _ _ _ _) (fl_0_len _ _ _ 22 (by decide)) (up_0_22 _ _ _ _ _) d_M_prepare_333 (fun S32 eS32 => ?_)
        replace h := h S32 eS32
        refine V_aload_n 2 C rfl d_M_prepare_336 ?_
        refine V_get C f_M_131 lx0 (osh_0 _ _ _ _) (fl_0_22 _ _ _) d_M_prepare_337 ?_
        refine V_iconst (v := 1) C (by decide) d_M_prepare_340 ?_
        refine V_isub C d_M_prepare_341 ?_
        exact V_iret C hr d_M_prepare_342 h
      · replace h := h.2 q
        refine V_bipush (v := -10) C (by decide) d_M_prepare_236 ?_
        exact V_iret C hr d_M_prepare_238 h
    · replace h := h.2 q
      refine V_bipush (v := -9) C (by decide) d_M_prepare_183 ?_
      exact V_iret C hr d_M_prepare_185 h
  · replace h := h.2 q
    refine V_bipush (v := -8) C (by decide) d_M_prepare_159 ?_
    exact V_iret C hr d_M_prepare_161 h
set_option maxRecDepth 100000 in
set_option maxHeartbeats 4000000 in
theorem ct_M_prepare (l : Launch) (Γ : oGm) (ad : oAd) (cn : Nat → Nat) (S : oSt) (a1 : Int32) (a2 : Int64) (a4 : Int32) (a5 : Int32) (a6 : Int64) (post : Int32 → oSt → Prop) (l0 : 0 < cn 0) (h : wp_M_prepare S a1 a2 a4 a5 a6 post) : Met l y_M_prepare (.code y_M_prepare prog_8_method_16_code 12 (some .int) :: oWS) { frames := 5, cells := 0, slots := 0, locals := 136 } (va_Pc [.ref (ad 0 0), .int (a1), .long (a2), .int (a4), .int (a5), .long (a6)] (oW Γ ad cn S)) (oQ Γ ad cn vI post) 0 0 (oF Γ) := by
  refine o_met (lv := [(0, .ref (ad 0 0)), (1, .int (a1)), (2, .long (a2)), (4, .int (a4)), (5, .int (a5)), (6, .long (a6))]) (own := "ValueConnectorModel") (by decide) rfl (Nat.le_of_ble_eq_true rfl) rfl ?_
  intro p e s m args below meth c C hr hnm
  have hR : 5 ≤ ({ frames := 5, cells := 0, slots := 0, locals := 136 } : Room).frames ∧ 136 ≤ ({ frames := 5, cells := 0, slots := 0, locals := 136 } : Room).locals := ⟨Nat.le_refl _, Nat.le_refl _⟩
  unfold wp_M_prepare at h
  refine V_aload_n 0 C rfl d_M_prepare_0 ?_
  refine V_iload_n 1 C rfl d_M_prepare_1 ?_
  refine V_cV (As := [.int (a1)]) (rest := []) C k_M_99 l0 (osh_0 _ _ _ _) (ct_M_isAccount l Γ ad cn S (a1) _ l0 h) ⟨rfl, rfl⟩ ⟨Nat.le_trans (by decide) hR.1, Nat.le_trans (by decide) hR.2⟩ ⟨Nat.zero_le _, Nat.zero_le _⟩ rfl rfl (Nat.le_of_ble_eq_true rfl) d_M_prepare_2 (fun r1 S2 h => ?_)
  refine V_sh [(0, .ref (ad 0 0)), (1, .int (a1)), (2, .long (a2)), (4, .int (a4)), (5, .int (a5)), (6, .long (a6))] [.int (r1)] rfl rfl ?_
  refine V_if_ne C d_M_prepare_5 (fun q => ?_) (fun q => ?_)
  · replace h := h.1 q
    refine V_lload_n 2 C rfl d_M_prepare_10 ?_
    refine V_cS (As := [.long (a2)]) (rest := []) C k_M_115 (ct_M_lengthOf l Γ ad cn S2 (a2) _  h) ⟨rfl, rfl⟩ ⟨Nat.le_trans (by decide) hR.1, Nat.le_trans (by decide) hR.2⟩ ⟨Nat.zero_le _, Nat.zero_le _⟩ rfl rfl (Nat.le_of_ble_eq_true rfl) d_M_prepare_11 (fun r3 S4 h => ?_)
    refine V_sh [(0, .ref (ad 0 0)), (1, .int (a1)), (2, .long (a2)), (4, .int (a4)), (5, .int (a5)), (6, .long (a6))] [.int (r3)] rfl rfl ?_
    refine V_iconst (v := 1) C (by decide) d_M_prepare_14 ?_
    refine V_icmp_lt C d_M_prepare_15 (fun q => ?_) (fun q => ?_)
    · replace h := h.1 q
      refine V_bipush (v := -2) C (by decide) d_M_prepare_23 ?_
      exact V_iret C hr d_M_prepare_25 h
    · replace h := h.2 q
      refine V_iload 3 C rfl d_M_prepare_18 ?_
      refine V_if_ge C d_M_prepare_20 (fun q => ?_) (fun q => ?_)
      · replace h := h.1 q
        refine V_aload_n 0 C rfl d_M_prepare_26 ?_
        refine V_get C f_M_131 l0 (osh_0 _ _ _ _) (fl_0_22 _ _ _) d_M_prepare_27 ?_
        refine V_bipush (v := 120) C (by decide) d_M_prepare_30 ?_
        refine V_icmp_ne C d_M_prepare_32 (fun q => ?_) (fun q => ?_)
        · replace h := h.1 q
          refine V_iload 4 C rfl d_M_prepare_38 ?_
          refine V_aload_n 0 C rfl d_M_prepare_40 ?_
          refine V_get C f_M_134 l0 (osh_0 _ _ _ _) (fl_0_2 _ _ _) d_M_prepare_41 ?_
          refine V_icmp_gt C d_M_prepare_44 (fun q => ?_) (fun q => ?_)
          · replace h := h.1 q
            refine V_iload 3 C rfl d_M_prepare_50 ?_
            refine V_aload_n 0 C rfl d_M_prepare_52 ?_
            obtain ⟨j5, ej5, h⟩ := h
            refine V_getr (f := 7) C f_M_17 l0 (osh_0 _ _ _ _) (fl_0_7 _ _ _) ej5 d_M_prepare_53 (fun lj5 => ?_)
            replace lj5 : j5 < cn 7 := lj5
            refine V_sh [(0, .ref (ad 0 0)), (1, .int (a1)), (2, .long (a2)), (4, .int (a4)), (5, .int (a5)), (6, .long (a6))] [.ref (ad 7 j5), .int (a4)] rfl rfl ?_
            refine V_iload_n 1 C rfl d_M_prepare_56 ?_
            refine V_iald C lj5 (osh_7 _ _ _ _) h.1 d_M_prepare_57 ?_
            replace h := h.2
            refine V_icmp_le C d_M_prepare_58 (fun q => ?_) (fun q => ?_)
            · replace h := h.1 q
              refine V_aload_n 0 C rfl d_M_prepare_64 ?_
              obtain ⟨j6, ej6, h⟩ := h
              refine V_getr (f := 15) C f_M_41 l0 (osh_0 _ _ _ _) (fl_0_15 _ _ _) ej6 d_M_prepare_65 (fun lj6 => ?_)
              replace lj6 : j6 < cn 15 := lj6
              refine V_sh [(0, .ref (ad 0 0)), (1, .int (a1)), (2, .long (a2)), (4, .int (a4)), (5, .int (a5)), (6, .long (a6))] [.ref (ad 15 j6)] rfl rfl ?_
              refine V_iload_n 1 C rfl d_M_prepare_68 ?_
              refine V_iald C lj6 (osh_15 _ _ _ _) h.1 d_M_prepare_69 ?_
              replace h := h.2
              refine V_bipush (v := 100) C (by decide) d_M_prepare_70 ?_
              refine V_icmp_ge C d_M_prepare_72 (fun q => ?_) (fun q => ?_)
              · replace h := h.1 q
                refine V_aload_n 0 C rfl d_M_prepare_78 ?_
                obtain ⟨j7, ej7, h⟩ := h
                refine V_getr (f := 15) C f_M_41 l0 (osh_0 _ _ _ _) (fl_0_15 _ _ _) ej7 d_M_prepare_79 (fun lj7 => ?_)
                replace lj7 : j7 < cn 15 := lj7
                refine V_sh [(0, .ref (ad 0 0)), (1, .int (a1)), (2, .long (a2)), (4, .int (a4)), (5, .int (a5)), (6, .long (a6))] [.ref (ad 15 j7)] rfl rfl ?_
                refine V_iload_n 1 C rfl d_M_prepare_82 ?_
                refine V_dup2_11 C rfl rfl d_M_prepare_83 ?_
                refine V_iald C lj7 (osh_15 _ _ _ _) h.1 d_M_prepare_84 ?_
                replace h := h.2
                refine V_bipush (v := 100) C (by decide) d_M_prepare_85 ?_
                refine V_isub C d_M_prepare_87 ?_
                refine V_iast C lj7 (fun _ => osh_15 _ _ _ _) h.1 d_M_prepare_88 (fun S8 eS8 => ?_)
                replace h := h.2 S8 eS8
                refine V_aload_n 0 C rfl d_M_prepare_89 ?_
                refine V_lload_n 2 C rfl d_M_prepare_90 ?_
                refine V_cV (As := [.long (a2)]) (rest := []) C k_M_137 l0 (osh_0 _ _ _ _) (ct_M_way l Γ ad cn S8 (a2) _ l0 h) ⟨rfl, rfl⟩ ⟨Nat.le_trans (by decide) hR.1, Nat.le_trans (by decide) hR.2⟩ ⟨Nat.zero_le _, Nat.zero_le _⟩ rfl rfl (Nat.le_of_ble_eq_true rfl) d_M_prepare_91 (fun r9 S10 h => ?_)
                refine V_sh [(0, .ref (ad 0 0)), (1, .int (a1)), (2, .long (a2)), (4, .int (a4)), (5, .int (a5)), (6, .long (a6))] [.int (r9)] rfl rfl ?_
                refine V_istore C [(8, .int (r9)), (0, .ref (ad 0 0)), (1, .int (a1)), (2, .long (a2)), (4, .int (a4)), (5, .int (a5)), (6, .long (a6))] (by decide) rfl d_M_prepare_94 ?_
                refine V_iload 0 C rfl d_M_prepare_96 ?_
                refine V_if_lt C d_M_prepare_98 (fun q => ?_) (fun q => ?_)
                · replace h := h.1 q
                  refine V_bipush (v := -7) C (by decide) d_M_prepare_107 ?_
                  exact V_iret C hr d_M_prepare_109 h
                · replace h := h.2 q
                  refine V_iload 0 C rfl d_M_prepare_101 ?_
                  refine V_iload_n 2 C rfl d_M_prepare_103 ?_
                  refine V_icmp_ne C d_M_prepare_104 (fun q => ?_) (fun q => ?_)
                  · replace h := h.1 q
                    refine V_iload 5 C rfl d_M_prepare_110 ?_
                    refine V_aload_n 1 C rfl d_M_prepare_112 ?_
                    refine V_get C f_M_86 l0 (osh_0 _ _ _ _) (fl_0_0 _ _ _) d_M_prepare_113 ?_
                    refine V_isub C d_M_prepare_116 ?_
                    refine V_aload_n 1 C rfl d_M_prepare_117 ?_
                    refine V_get C f_M_134 l0 (osh_0 _ _ _ _) (fl_0_2 _ _ _) d_M_prepare_118 ?_
                    refine V_aload_n 1 C rfl d_M_prepare_121 ?_
                    refine V_get C f_M_91 l0 (osh_0 _ _ _ _) (fl_0_1 _ _ _) d_M_prepare_122 ?_
                    refine V_iadd C d_M_prepare_125 ?_
                    refine V_icmp_ge C d_M_prepare_126 (fun q => ?_) (fun q => ?_)
                    · replace h := h.1 q
                      refine V_aload_n 1 C rfl d_M_prepare_139 ?_
                      refine V_get C f_M_134 l0 (osh_0 _ _ _ _) (fl_0_2 _ _ _) d_M_prepare_140 ?_
                      refine V_aload_n 1 C rfl d_M_prepare_143 ?_
                      refine V_get C f_M_91 l0 (osh_0 _ _ _ _) (fl_0_1 _ _ _) d_M_prepare_144 ?_
                      refine V_iadd C d_M_prepare_147 ?_
                      refine V_lvs [1, 2, 4, 6, 0] [(0, .ref (ad 0 0)), (1, .int (a1)), (4, .int (a4)), (6, .long (a6)), (8, .int (r9))] rfl ?_
                      exact B_M_prepare_J148 C hr hR (a1) (a4) (a6) (r9) (((S10.1 0 0 2) + (S10.1 0 0 1))) S10 l0 h
                    · replace h := h.2 q
                      refine V_iload 5 C rfl d_M_prepare_129 ?_
                      refine V_aload_n 1 C rfl d_M_prepare_131 ?_
                      refine V_get C f_M_86 l0 (osh_0 _ _ _ _) (fl_0_0 _ _ _) d_M_prepare_132 ?_
                      refine V_isub C d_M_prepare_135 ?_
                      refine V_goto C d_M_prepare_136 ?_
                      refine V_lvs [1, 2, 4, 6, 0] [(0, .ref (ad 0 0)), (1, .int (a1)), (4, .int (a4)), (6, .long (a6)), (8, .int (r9))] rfl ?_
                      exact B_M_prepare_J148 C hr hR (a1) (a4) (a6) (r9) ((a5 - (S10.1 0 0 0))) S10 l0 h
                  · replace h := h.2 q
                    refine V_bipush (v := -7) C (by decide) d_M_prepare_107 ?_
                    exact V_iret C hr d_M_prepare_109 h
              · replace h := h.2 q
                refine V_bipush (v := -6) C (by decide) d_M_prepare_75 ?_
                exact V_iret C hr d_M_prepare_77 h
            · replace h := h.2 q
              refine V_bipush (v := -5) C (by decide) d_M_prepare_61 ?_
              exact V_iret C hr d_M_prepare_63 h
          · replace h := h.2 q
            refine V_bipush (v := -4) C (by decide) d_M_prepare_47 ?_
            exact V_iret C hr d_M_prepare_49 h
        · replace h := h.2 q
          refine V_bipush (v := -3) C (by decide) d_M_prepare_35 ?_
          exact V_iret C hr d_M_prepare_37 h
      · replace h := h.2 q
        refine V_bipush (v := -2) C (by decide) d_M_prepare_23 ?_
        exact V_iret C hr d_M_prepare_25 h
  · replace h := h.2 q
    refine V_iconst (v := -1) C (by decide) d_M_prepare_8 ?_
    exact V_iret C hr d_M_prepare_9 h
set_option maxRecDepth 100000 in
set_option maxHeartbeats 4000000 in
theorem ct_M_lock (l : Launch) (Γ : oGm) (ad : oAd) (cn : Nat → Nat) (S : oSt) (a1 : Int64) (post : Int64 → oSt → Prop) (l0 : 0 < cn 0) (h : wp_M_lock S a1 post) : Met l y_M_lock (.code y_M_lock prog_8_method_17_code 5 (some .long) :: oWS) { frames := 1, cells := 0, slots := 0, locals := 40 } (va_Pc [.ref (ad 0 0), .long (a1)] (oW Γ ad cn S)) (oQ Γ ad cn vJ post) 0 0 (oF Γ) := by
  refine o_met (lv := [(0, .ref (ad 0 0)), (1, .long (a1))]) (own := "ValueConnectorModel") (by decide) rfl (Nat.le_of_ble_eq_true rfl) rfl ?_
  intro p e s m args below meth c C hr hnm
  have hR : 1 ≤ ({ frames := 1, cells := 0, slots := 0, locals := 40 } : Room).frames ∧ 40 ≤ ({ frames := 1, cells := 0, slots := 0, locals := 40 } : Room).locals := ⟨Nat.le_refl _, Nat.le_refl _⟩
  unfold wp_M_lock at h
  refine V_lload_n 1 C rfl d_M_lock_0 ?_
  refine V_lload_n 1 C rfl d_M_lock_1 ?_
  refine V_lmul C d_M_lock_2 ?_
  refine V_ldc2 (v := 41) C w_571 d_M_lock_3 ?_
  refine V_ladd C d_M_lock_6 ?_
  refine V_lstore_n C [(3, .long (((a1 * a1) + (41 : Int64)))), (0, .ref (ad 0 0)), (1, .long (a1))] (by decide) rfl d_M_lock_7 ?_
  refine V_lload_n 0 C rfl d_M_lock_8 ?_
  refine V_lload_n 0 C rfl d_M_lock_9 ?_
  refine V_bipush (v := 7) C (by decide) d_M_lock_10 ?_
  refine V_lushr C d_M_lock_12 ?_
  refine V_lxor C d_M_lock_13 ?_
  exact V_lret C hr d_M_lock_14 h
set_option maxRecDepth 100000 in
set_option maxHeartbeats 4000000 in
theorem ct_M_isTransfer (l : Launch) (Γ : oGm) (ad : oAd) (cn : Nat → Nat) (S : oSt) (a1 : Int32) (post : Int32 → oSt → Prop) (l0 : 0 < cn 0) (h : wp_M_isTransfer S a1 post) : Met l y_M_isTransfer (.code y_M_isTransfer prog_8_method_18_code 2 (some .boolean) :: oWS) { frames := 1, cells := 0, slots := 0, locals := 40 } (va_Pc [.ref (ad 0 0), .int (a1)] (oW Γ ad cn S)) (oQ Γ ad cn vI post) 0 0 (oF Γ) := by
  refine o_met (lv := [(0, .ref (ad 0 0)), (1, .int (a1))]) (own := "ValueConnectorModel") (by decide) rfl (Nat.le_of_ble_eq_true rfl) rfl ?_
  intro p e s m args below meth c C hr hnm
  have hR : 1 ≤ ({ frames := 1, cells := 0, slots := 0, locals := 40 } : Room).frames ∧ 40 ≤ ({ frames := 1, cells := 0, slots := 0, locals := 40 } : Room).locals := ⟨Nat.le_refl _, Nat.le_refl _⟩
  unfold wp_M_isTransfer at h
  refine V_iload_n 1 C rfl d_M_isTransfer_0 ?_
  refine V_if_lt C d_M_isTransfer_1 (fun q => ?_) (fun q => ?_)
  · replace h := h.1 q
    refine V_iconst (v := 0) C (by decide) d_M_isTransfer_16 ?_
    exact V_zret C hr (by decide) d_M_isTransfer_17 h
  · replace h := h.2 q
    refine V_iload_n 1 C rfl d_M_isTransfer_4 ?_
    refine V_aload_n 0 C rfl d_M_isTransfer_5 ?_
    refine V_get C f_M_131 l0 (osh_0 _ _ _ _) (fl_0_22 _ _ _) d_M_isTransfer_6 ?_
    refine V_icmp_ge C d_M_isTransfer_9 (fun q => ?_) (fun q => ?_)
    · replace h := h.1 q
      refine V_iconst (v := 0) C (by decide) d_M_isTransfer_16 ?_
      exact V_zret C hr (by decide) d_M_isTransfer_17 h
    · replace h := h.2 q
      refine V_iconst (v := 1) C (by decide) d_M_isTransfer_12 ?_
      refine V_goto C d_M_isTransfer_13 ?_
      exact V_zret C hr (by decide) d_M_isTransfer_17 h
set_option maxRecDepth 100000 in
set_option maxHeartbeats 4000000 in
theorem ct_M_power (l : Launch) (Γ : oGm) (ad : oAd) (cn : Nat → Nat) (S : oSt) (a0 : Int32) (post : Int32 → oSt → Prop)  (h : wp_M_power S a0 post) : Met l y_M_power (.code y_M_power prog_8_method_20_code 1 (some .int) :: oWS) { frames := 1, cells := 0, slots := 0, locals := 40 } (va_Pc [.int (a0)] (oW Γ ad cn S)) (oQ Γ ad cn vI post) 0 0 (oF Γ) := by
  refine o_met (lv := [(0, .int (a0))]) (own := "ValueConnectorModel") (by decide) rfl (Nat.le_of_ble_eq_true rfl) rfl ?_
  intro p e s m args below meth c C hr hnm
  have hR : 1 ≤ ({ frames := 1, cells := 0, slots := 0, locals := 40 } : Room).frames ∧ 40 ≤ ({ frames := 1, cells := 0, slots := 0, locals := 40 } : Room).locals := ⟨Nat.le_refl _, Nat.le_refl _⟩
  unfold wp_M_power at h
  refine V_iload_n 0 C rfl d_M_power_0 ?_
  refine V_if_ne C d_M_power_1 (fun q => ?_) (fun q => ?_)
  · replace h := h.1 q
    refine V_iload_n 0 C rfl d_M_power_8 ?_
    refine V_iconst (v := 1) C (by decide) d_M_power_9 ?_
    refine V_icmp_ne C d_M_power_10 (fun q => ?_) (fun q => ?_)
    · replace h := h.1 q
      refine V_iload_n 0 C rfl d_M_power_18 ?_
      refine V_iconst (v := 2) C (by decide) d_M_power_19 ?_
      refine V_icmp_ne C d_M_power_20 (fun q => ?_) (fun q => ?_)
      · replace h := h.1 q
        refine V_sipush (v := 1000) C (by decide) d_M_power_28 ?_
        exact V_iret C hr d_M_power_31 h
      · replace h := h.2 q
        refine V_bipush (v := 100) C (by decide) d_M_power_23 ?_
        refine V_goto C d_M_power_25 ?_
        exact V_iret C hr d_M_power_31 h
    · replace h := h.2 q
      refine V_bipush (v := 10) C (by decide) d_M_power_13 ?_
      refine V_goto C d_M_power_15 ?_
      exact V_iret C hr d_M_power_31 h
  · replace h := h.2 q
    refine V_iconst (v := 1) C (by decide) d_M_power_4 ?_
    refine V_goto C d_M_power_5 ?_
    exact V_iret C hr d_M_power_31 h
