set_option maxRecDepth 100000 in
set_option maxHeartbeats 16000000 in
theorem B_law_L {p : Program} {l : Launch} {e : Env} {s : State} {m : MethodId} {b : Nat} {below : List Frame} {meth : Method} {c : Code} {Γ : oGm} (C : Cx p s m #[Value.ref b] meth c Γ code 4 "ValueConnectorLaw") (hb0 : s.heap.size ≤ Γ.2.2.1) (hr : meth.sig.returnType = ret) : ∀ (n : Nat) (x3 : Int32) (ad : oAd) (cn : Nat → Nat) (S : oSt) (cells slots : Nat) (_ : cells + 4 * n ≤ 600000) (_ : slots + 25 * n ≤ 7302250) (_ : 0 < cn 40) (_ : 0 < cn 0), wp_law_L Γ.2.2.2.1.2.1 Γ.2.2.2.1.2.2 n x3 cn S → Vv p l e room_1 s m #[Value.ref b] below meth c (lw_Z below #[Value.ref b] s) Γ 4 cells slots ad cn S 38 [(0, .ref Γ.2.2.2.1.1), (1, .ref (ad 40 0)), (2, .ref (ad 0 0)), (3, .int (x3))] [] := by
  have hR : 6 ≤ room_1.frames ∧ 167 ≤ room_1.locals := by decide
  intro n
  induction n with
  | zero => intro x3 ad cn S cells slots _ _ lx1 lx2 h; exact h.elim
  | succ n ih =>
    intro x3 ad cn S cells slots hcl hsl lx1 lx2 h
    unfold wp_law_L at h
    refine V_iload_n 3 C rfl d_law_38 ?_
    refine V_aload_n 0 C rfl d_law_39 ?_
    refine V_slen C d_law_40 ?_
    refine V_bipush (v := 8) C (by decide) d_law_41 ?_
    refine V_isub C d_law_43 ?_
    refine V_icmp_gt C d_law_44 (fun q => ?_) (fun q => ?_)
    · replace h := h.1 q
      refine V_iconst (v := 1) C (by decide) d_law_1013 ?_
      exact V_lawret C hb0 hr (by omega) (by omega) d_law_1014
    · replace h := h.2 q
      refine V_aload_n 0 C rfl d_law_47 ?_
      refine V_iload_n 3 C rfl d_law_48 ?_
      refine V_sld C h.1 d_law_49 ?_
      replace h := h.2
      refine V_bipush (v := 31) C (by decide) d_law_50 ?_
      refine V_iand C d_law_52 ?_
      refine V_swt (td := 1007) C 20 (fun n => [148, 191, 224, 247, 300, 343, 416, 479, 532, 659, 713, 776, 799, 822, 865, 889, 903, 926, 960, 984].getD n 0) (by decide) (by decide) d_law_53 (fun n hn => by
          have h9 : n = 0 ∨ n = 1 ∨ n = 2 ∨ n = 3 ∨ n = 4 ∨ n = 5 ∨ n = 6 ∨ n = 7 ∨ n = 8 ∨ n = 9 ∨ n = 10 ∨ n = 11 ∨ n = 12 ∨ n = 13 ∨ n = 14 ∨ n = 15 ∨ n = 16 ∨ n = 17 ∨ n = 18 ∨ n = 19 := by omega
          rcases h9 with rfl | rfl | rfl | rfl | rfl | rfl | rfl | rfl | rfl | rfl | rfl | rfl | rfl | rfl | rfl | rfl | rfl | rfl | rfl | rfl <;> exact ⟨_, rfl, by decide⟩) (by decide) (fun n hn q => ?_) (fun q => ?_)
      · have h9 : n = 0 ∨ n = 1 ∨ n = 2 ∨ n = 3 ∨ n = 4 ∨ n = 5 ∨ n = 6 ∨ n = 7 ∨ n = 8 ∨ n = 9 ∨ n = 10 ∨ n = 11 ∨ n = 12 ∨ n = 13 ∨ n = 14 ∨ n = 15 ∨ n = 16 ∨ n = 17 ∨ n = 18 ∨ n = 19 := by omega
        rcases h9 with rfl | rfl | rfl | rfl | rfl | rfl | rfl | rfl | rfl | rfl | rfl | rfl | rfl | rfl | rfl | rfl | rfl | rfl | rfl | rfl
        · refine V_pc (pc2 := 148) rfl ?_
          replace h := h.1 q
          refine V_aload_n 1 C rfl d_law_148 ?_
          refine V_aload_n 0 C rfl d_law_149 ?_
          refine V_iload_n 3 C rfl d_law_150 ?_
          refine V_iconst (v := 1) C (by decide) d_law_151 ?_
          refine V_iadd C d_law_152 ?_
          refine V_sld C h.1 d_law_153 ?_
          replace h := h.2
          refine V_aload_n 0 C rfl d_law_154 ?_
          refine V_iload_n 3 C rfl d_law_155 ?_
          refine V_iconst (v := 2) C (by decide) d_law_156 ?_
          refine V_iadd C d_law_157 ?_
          refine V_sld C h.1 d_law_158 ?_
          replace h := h.2
          refine V_aload_n 0 C rfl d_law_159 ?_
          refine V_iload_n 3 C rfl d_law_160 ?_
          refine V_iconst (v := 3) C (by decide) d_law_161 ?_
          refine V_iadd C d_law_162 ?_
          refine V_sld C h.1 d_law_163 ?_
          replace h := h.2
          refine V_cVn (As := [.int ((Γ.2.2.2.1.2.2 (Int32.toNatClampNeg (x3 + (1 : Int32))))), .int ((Γ.2.2.2.1.2.2 (Int32.toNatClampNeg (x3 + (2 : Int32))))), .int ((Γ.2.2.2.1.2.2 (Int32.toNatClampNeg (x3 + (3 : Int32)))))]) C (fun z => [(0, .ref Γ.2.2.2.1.1), (1, .ref (z 40 0)), (2, .ref (z 0 0)), (3, .int (x3))]) (fun z => []) rfl rfl (fun z hz => ⟨by simp only [hz _ _ lx1, hz _ _ lx2], rfl⟩) k_W_21 lx1 (osh_40 _ _ _ _) (ct_X_account l Γ ad cn S ((Γ.2.2.2.1.2.2 (Int32.toNatClampNeg (x3 + (1 : Int32))))) ((Γ.2.2.2.1.2.2 (Int32.toNatClampNeg (x3 + (2 : Int32))))) ((Γ.2.2.2.1.2.2 (Int32.toNatClampNeg (x3 + (3 : Int32))))) _ lx1 h) ⟨rfl, rfl⟩ ⟨Nat.le_trans (by decide) hR.1, Nat.le_trans (by decide) hR.2⟩ ⟨(show _ ≤ 600000 by omega), (show _ ≤ 7302250 by omega)⟩ rfl rfl (Nat.le_of_ble_eq_true rfl) d_law_164 (fun r31 ad34 cn33 S32 hx35 hc35 h => ?_)
          have lx1 := Nat.lt_of_lt_of_le lx1 (hc35 _)
          have lx2 := Nat.lt_of_lt_of_le lx2 (hc35 _)
          refine V_sh [(0, .ref Γ.2.2.2.1.1), (1, .ref (ad34 40 0)), (2, .ref (ad34 0 0)), (3, .int (x3))] [.int (r31)] rfl rfl ?_
          refine V_aload_n 2 C rfl d_law_167 ?_
          refine V_aload_n 0 C rfl d_law_168 ?_
          refine V_iload_n 3 C rfl d_law_169 ?_
          refine V_iconst (v := 1) C (by decide) d_law_170 ?_
          refine V_iadd C d_law_171 ?_
          refine V_sld C h.1 d_law_172 ?_
          replace h := h.2
          refine V_aload_n 0 C rfl d_law_173 ?_
          refine V_iload_n 3 C rfl d_law_174 ?_
          refine V_iconst (v := 2) C (by decide) d_law_175 ?_
          refine V_iadd C d_law_176 ?_
          refine V_sld C h.1 d_law_177 ?_
          replace h := h.2
          refine V_aload_n 0 C rfl d_law_178 ?_
          refine V_iload_n 3 C rfl d_law_179 ?_
          refine V_iconst (v := 3) C (by decide) d_law_180 ?_
          refine V_iadd C d_law_181 ?_
          refine V_sld C h.1 d_law_182 ?_
          replace h := h.2
          refine V_cV (As := [.int ((Γ.2.2.2.1.2.2 (Int32.toNatClampNeg (x3 + (1 : Int32))))), .int ((Γ.2.2.2.1.2.2 (Int32.toNatClampNeg (x3 + (2 : Int32))))), .int ((Γ.2.2.2.1.2.2 (Int32.toNatClampNeg (x3 + (3 : Int32)))))]) (rest := [.int (r31)]) C k_W_25 lx2 (osh_0 _ _ _ _) (ct_M_account l Γ ad34 cn33 S32 ((Γ.2.2.2.1.2.2 (Int32.toNatClampNeg (x3 + (1 : Int32))))) ((Γ.2.2.2.1.2.2 (Int32.toNatClampNeg (x3 + (2 : Int32))))) ((Γ.2.2.2.1.2.2 (Int32.toNatClampNeg (x3 + (3 : Int32))))) _ lx2 h) ⟨rfl, rfl⟩ ⟨Nat.le_trans (by decide) hR.1, Nat.le_trans (by decide) hR.2⟩ ⟨(show _ ≤ 600000 by omega), (show _ ≤ 7302250 by omega)⟩ rfl rfl (Nat.le_of_ble_eq_true rfl) d_law_183 (fun r36 S37 h => ?_)
          refine V_sh [(0, .ref Γ.2.2.2.1.1), (1, .ref (ad34 40 0)), (2, .ref (ad34 0 0)), (3, .int (x3))] [.int (r36), .int (r31)] rfl rfl ?_
          refine V_icmp_eq C d_law_186 (fun q => ?_) (fun q => ?_)
          · replace h := h.1 q
            refine V_iinc (v := (x3 + 8)) 3 C [(3, .int ((x3 + 8))), (0, .ref Γ.2.2.2.1.1), (1, .ref (ad34 40 0)), (2, .ref (ad34 0 0))] rfl rfl (by decide) rfl d_law_1007 ?_
            refine V_goto C d_law_1010 ?_
            refine V_lvs [1, 2, 3, 0] [(0, .ref Γ.2.2.2.1.1), (1, .ref (ad34 40 0)), (2, .ref (ad34 0 0)), (3, .int ((x3 + 8)))] rfl ?_
            exact ih ((x3 + 8)) ad34 cn33 S37 _ _ (by omega) (by omega) lx1 lx2 h
          · replace h := h.2 q
            refine V_iconst (v := 0) C (by decide) d_law_189 ?_
            exact h.elim
        · refine V_pc (pc2 := 191) rfl ?_
          replace h := h.2.1 q
          refine V_aload_n 1 C rfl d_law_191 ?_
          refine V_aload_n 0 C rfl d_law_192 ?_
          refine V_iload_n 3 C rfl d_law_193 ?_
          refine V_iconst (v := 1) C (by decide) d_law_194 ?_
          refine V_iadd C d_law_195 ?_
          refine V_sld C h.1 d_law_196 ?_
          replace h := h.2
          refine V_aload_n 0 C rfl d_law_197 ?_
          refine V_iload_n 3 C rfl d_law_198 ?_
          refine V_iconst (v := 2) C (by decide) d_law_199 ?_
          refine V_iadd C d_law_200 ?_
          refine V_sld C h.1 d_law_201 ?_
          replace h := h.2
          refine V_cV (As := [.int ((Γ.2.2.2.1.2.2 (Int32.toNatClampNeg (x3 + (1 : Int32))))), .int ((Γ.2.2.2.1.2.2 (Int32.toNatClampNeg (x3 + (2 : Int32)))))]) (rest := []) C k_W_26 lx1 (osh_40 _ _ _ _) (ct_X_worth l Γ ad cn S ((Γ.2.2.2.1.2.2 (Int32.toNatClampNeg (x3 + (1 : Int32))))) ((Γ.2.2.2.1.2.2 (Int32.toNatClampNeg (x3 + (2 : Int32))))) _ lx1 h) ⟨rfl, rfl⟩ ⟨Nat.le_trans (by decide) hR.1, Nat.le_trans (by decide) hR.2⟩ ⟨(show _ ≤ 600000 by omega), (show _ ≤ 7302250 by omega)⟩ rfl rfl (Nat.le_of_ble_eq_true rfl) d_law_202 (fun r38 S39 h => ?_)
          refine V_sh [(0, .ref Γ.2.2.2.1.1), (1, .ref (ad 40 0)), (2, .ref (ad 0 0)), (3, .int (x3))] [.int (r38)] rfl rfl ?_
          refine V_aload_n 2 C rfl d_law_205 ?_
          refine V_aload_n 0 C rfl d_law_206 ?_
          refine V_iload_n 3 C rfl d_law_207 ?_
          refine V_iconst (v := 1) C (by decide) d_law_208 ?_
          refine V_iadd C d_law_209 ?_
          refine V_sld C h.1 d_law_210 ?_
          replace h := h.2
          refine V_aload_n 0 C rfl d_law_211 ?_
          refine V_iload_n 3 C rfl d_law_212 ?_
          refine V_iconst (v := 2) C (by decide) d_law_213 ?_
          refine V_iadd C d_law_214 ?_
          refine V_sld C h.1 d_law_215 ?_
          replace h := h.2
          refine V_cV (As := [.int ((Γ.2.2.2.1.2.2 (Int32.toNatClampNeg (x3 + (1 : Int32))))), .int ((Γ.2.2.2.1.2.2 (Int32.toNatClampNeg (x3 + (2 : Int32)))))]) (rest := [.int (r38)]) C k_W_30 lx2 (osh_0 _ _ _ _) (ct_M_worth l Γ ad cn S39 ((Γ.2.2.2.1.2.2 (Int32.toNatClampNeg (x3 + (1 : Int32))))) ((Γ.2.2.2.1.2.2 (Int32.toNatClampNeg (x3 + (2 : Int32))))) _ lx2 h) ⟨rfl, rfl⟩ ⟨Nat.le_trans (by decide) hR.1, Nat.le_trans (by decide) hR.2⟩ ⟨(show _ ≤ 600000 by omega), (show _ ≤ 7302250 by omega)⟩ rfl rfl (Nat.le_of_ble_eq_true rfl) d_law_216 (fun r40 S41 h => ?_)
          refine V_sh [(0, .ref Γ.2.2.2.1.1), (1, .ref (ad 40 0)), (2, .ref (ad 0 0)), (3, .int (x3))] [.int (r40), .int (r38)] rfl rfl ?_
          refine V_icmp_eq C d_law_219 (fun q => ?_) (fun q => ?_)
          · replace h := h.1 q
            refine V_iinc (v := (x3 + 8)) 3 C [(3, .int ((x3 + 8))), (0, .ref Γ.2.2.2.1.1), (1, .ref (ad 40 0)), (2, .ref (ad 0 0))] rfl rfl (by decide) rfl d_law_1007 ?_
            refine V_goto C d_law_1010 ?_
            refine V_lvs [1, 2, 3, 0] [(0, .ref Γ.2.2.2.1.1), (1, .ref (ad 40 0)), (2, .ref (ad 0 0)), (3, .int ((x3 + 8)))] rfl ?_
            exact ih ((x3 + 8)) ad cn S41 _ _ (by omega) (by omega) lx1 lx2 h
          · replace h := h.2 q
            refine V_iconst (v := 0) C (by decide) d_law_222 ?_
            exact h.elim
        · refine V_pc (pc2 := 224) rfl ?_
          replace h := h.2.2.1 q
          refine V_aload_n 1 C rfl d_law_224 ?_
          refine V_aload_n 0 C rfl d_law_225 ?_
          refine V_iload_n 3 C rfl d_law_226 ?_
          refine V_iconst (v := 1) C (by decide) d_law_227 ?_
          refine V_iadd C d_law_228 ?_
          refine V_sld C h.1 d_law_229 ?_
          replace h := h.2
          refine V_cV (As := [.int ((Γ.2.2.2.1.2.2 (Int32.toNatClampNeg (x3 + (1 : Int32)))))]) (rest := []) C k_W_31 lx1 (osh_40 _ _ _ _) (ct_X_spread l Γ ad cn S ((Γ.2.2.2.1.2.2 (Int32.toNatClampNeg (x3 + (1 : Int32))))) _ lx1 h) ⟨rfl, rfl⟩ ⟨Nat.le_trans (by decide) hR.1, Nat.le_trans (by decide) hR.2⟩ ⟨(show _ ≤ 600000 by omega), (show _ ≤ 7302250 by omega)⟩ rfl rfl (Nat.le_of_ble_eq_true rfl) d_law_230 (fun r42 S43 h => ?_)
          refine V_sh [(0, .ref Γ.2.2.2.1.1), (1, .ref (ad 40 0)), (2, .ref (ad 0 0)), (3, .int (x3))] [.int (r42)] rfl rfl ?_
          refine V_aload_n 2 C rfl d_law_233 ?_
          refine V_aload_n 0 C rfl d_law_234 ?_
          refine V_iload_n 3 C rfl d_law_235 ?_
          refine V_iconst (v := 1) C (by decide) d_law_236 ?_
          refine V_iadd C d_law_237 ?_
          refine V_sld C h.1 d_law_238 ?_
          replace h := h.2
          refine V_cV (As := [.int ((Γ.2.2.2.1.2.2 (Int32.toNatClampNeg (x3 + (1 : Int32)))))]) (rest := [.int (r42)]) C k_W_35 lx2 (osh_0 _ _ _ _) (ct_M_spread l Γ ad cn S43 ((Γ.2.2.2.1.2.2 (Int32.toNatClampNeg (x3 + (1 : Int32))))) _ lx2 h) ⟨rfl, rfl⟩ ⟨Nat.le_trans (by decide) hR.1, Nat.le_trans (by decide) hR.2⟩ ⟨(show _ ≤ 600000 by omega), (show _ ≤ 7302250 by omega)⟩ rfl rfl (Nat.le_of_ble_eq_true rfl) d_law_239 (fun r44 S45 h => ?_)
          refine V_sh [(0, .ref Γ.2.2.2.1.1), (1, .ref (ad 40 0)), (2, .ref (ad 0 0)), (3, .int (x3))] [.int (r44), .int (r42)] rfl rfl ?_
          refine V_icmp_eq C d_law_242 (fun q => ?_) (fun q => ?_)
          · replace h := h.1 q
            refine V_iinc (v := (x3 + 8)) 3 C [(3, .int ((x3 + 8))), (0, .ref Γ.2.2.2.1.1), (1, .ref (ad 40 0)), (2, .ref (ad 0 0))] rfl rfl (by decide) rfl d_law_1007 ?_
            refine V_goto C d_law_1010 ?_
            refine V_lvs [1, 2, 3, 0] [(0, .ref Γ.2.2.2.1.1), (1, .ref (ad 40 0)), (2, .ref (ad 0 0)), (3, .int ((x3 + 8)))] rfl ?_
            exact ih ((x3 + 8)) ad cn S45 _ _ (by omega) (by omega) lx1 lx2 h
          · replace h := h.2 q
            refine V_iconst (v := 0) C (by decide) d_law_245 ?_
            exact h.elim
        · refine V_pc (pc2 := 247) rfl ?_
          replace h := h.2.2.2.1 q
          refine V_aload_n 1 C rfl d_law_247 ?_
          refine V_aload_n 0 C rfl d_law_248 ?_
          refine V_iload_n 3 C rfl d_law_249 ?_
          refine V_iconst (v := 1) C (by decide) d_law_250 ?_
          refine V_iadd C d_law_251 ?_
          refine V_sld C h.1 d_law_252 ?_
          replace h := h.2
          refine V_aload_n 0 C rfl d_law_253 ?_
          refine V_iload_n 3 C rfl d_law_254 ?_
          refine V_iconst (v := 2) C (by decide) d_law_255 ?_
          refine V_iadd C d_law_256 ?_
          refine V_sld C h.1 d_law_257 ?_
          replace h := h.2
          refine V_aload_n 0 C rfl d_law_258 ?_
          refine V_iload_n 3 C rfl d_law_259 ?_
          refine V_iconst (v := 3) C (by decide) d_law_260 ?_
          refine V_iadd C d_law_261 ?_
          refine V_sld C h.1 d_law_262 ?_
          replace h := h.2
          refine V_aload_n 0 C rfl d_law_263 ?_
          refine V_iload_n 3 C rfl d_law_264 ?_
          refine V_iconst (v := 4) C (by decide) d_law_265 ?_
          refine V_iadd C d_law_266 ?_
          refine V_sld C h.1 d_law_267 ?_
          replace h := h.2
          refine V_cV (As := [.int ((Γ.2.2.2.1.2.2 (Int32.toNatClampNeg (x3 + (1 : Int32))))), .int ((Γ.2.2.2.1.2.2 (Int32.toNatClampNeg (x3 + (2 : Int32))))), .int ((Γ.2.2.2.1.2.2 (Int32.toNatClampNeg (x3 + (3 : Int32))))), .int ((Γ.2.2.2.1.2.2 (Int32.toNatClampNeg (x3 + (4 : Int32)))))]) (rest := []) C k_W_36 lx1 (osh_40 _ _ _ _) (ct_X_policy l Γ ad cn S ((Γ.2.2.2.1.2.2 (Int32.toNatClampNeg (x3 + (1 : Int32))))) ((Γ.2.2.2.1.2.2 (Int32.toNatClampNeg (x3 + (2 : Int32))))) ((Γ.2.2.2.1.2.2 (Int32.toNatClampNeg (x3 + (3 : Int32))))) ((Γ.2.2.2.1.2.2 (Int32.toNatClampNeg (x3 + (4 : Int32))))) _ lx1 h) ⟨rfl, rfl⟩ ⟨Nat.le_trans (by decide) hR.1, Nat.le_trans (by decide) hR.2⟩ ⟨(show _ ≤ 600000 by omega), (show _ ≤ 7302250 by omega)⟩ rfl rfl (Nat.le_of_ble_eq_true rfl) d_law_268 (fun r46 S47 h => ?_)
          refine V_sh [(0, .ref Γ.2.2.2.1.1), (1, .ref (ad 40 0)), (2, .ref (ad 0 0)), (3, .int (x3))] [.int (r46)] rfl rfl ?_
          refine V_aload_n 2 C rfl d_law_271 ?_
          refine V_aload_n 0 C rfl d_law_272 ?_
          refine V_iload_n 3 C rfl d_law_273 ?_
          refine V_iconst (v := 1) C (by decide) d_law_274 ?_
          refine V_iadd C d_law_275 ?_
          refine V_sld C h.1 d_law_276 ?_
          replace h := h.2
          refine V_aload_n 0 C rfl d_law_277 ?_
          refine V_iload_n 3 C rfl d_law_278 ?_
          refine V_iconst (v := 2) C (by decide) d_law_279 ?_
          refine V_iadd C d_law_280 ?_
          refine V_sld C h.1 d_law_281 ?_
          replace h := h.2
          refine V_aload_n 0 C rfl d_law_282 ?_
          refine V_iload_n 3 C rfl d_law_283 ?_
          refine V_iconst (v := 3) C (by decide) d_law_284 ?_
          refine V_iadd C d_law_285 ?_
          refine V_sld C h.1 d_law_286 ?_
          replace h := h.2
          refine V_aload_n 0 C rfl d_law_287 ?_
          refine V_iload_n 3 C rfl d_law_288 ?_
          refine V_iconst (v := 4) C (by decide) d_law_289 ?_
          refine V_iadd C d_law_290 ?_
          refine V_sld C h.1 d_law_291 ?_
          replace h := h.2
          refine V_cV (As := [.int ((Γ.2.2.2.1.2.2 (Int32.toNatClampNeg (x3 + (1 : Int32))))), .int ((Γ.2.2.2.1.2.2 (Int32.toNatClampNeg (x3 + (2 : Int32))))), .int ((Γ.2.2.2.1.2.2 (Int32.toNatClampNeg (x3 + (3 : Int32))))), .int ((Γ.2.2.2.1.2.2 (Int32.toNatClampNeg (x3 + (4 : Int32)))))]) (rest := [.int (r46)]) C k_W_40 lx2 (osh_0 _ _ _ _) (ct_M_policy l Γ ad cn S47 ((Γ.2.2.2.1.2.2 (Int32.toNatClampNeg (x3 + (1 : Int32))))) ((Γ.2.2.2.1.2.2 (Int32.toNatClampNeg (x3 + (2 : Int32))))) ((Γ.2.2.2.1.2.2 (Int32.toNatClampNeg (x3 + (3 : Int32))))) ((Γ.2.2.2.1.2.2 (Int32.toNatClampNeg (x3 + (4 : Int32))))) _ lx2 h) ⟨rfl, rfl⟩ ⟨Nat.le_trans (by decide) hR.1, Nat.le_trans (by decide) hR.2⟩ ⟨(show _ ≤ 600000 by omega), (show _ ≤ 7302250 by omega)⟩ rfl rfl (Nat.le_of_ble_eq_true rfl) d_law_292 (fun r48 S49 h => ?_)
          refine V_sh [(0, .ref Γ.2.2.2.1.1), (1, .ref (ad 40 0)), (2, .ref (ad 0 0)), (3, .int (x3))] [.int (r48), .int (r46)] rfl rfl ?_
          refine V_icmp_eq C d_law_295 (fun q => ?_) (fun q => ?_)
          · replace h := h.1 q
            refine V_iinc (v := (x3 + 8)) 3 C [(3, .int ((x3 + 8))), (0, .ref Γ.2.2.2.1.1), (1, .ref (ad 40 0)), (2, .ref (ad 0 0))] rfl rfl (by decide) rfl d_law_1007 ?_
            refine V_goto C d_law_1010 ?_
            refine V_lvs [1, 2, 3, 0] [(0, .ref Γ.2.2.2.1.1), (1, .ref (ad 40 0)), (2, .ref (ad 0 0)), (3, .int ((x3 + 8)))] rfl ?_
            exact ih ((x3 + 8)) ad cn S49 _ _ (by omega) (by omega) lx1 lx2 h
          · replace h := h.2 q
            refine V_iconst (v := 0) C (by decide) d_law_298 ?_
            exact h.elim
        · refine V_pc (pc2 := 300) rfl ?_
          replace h := h.2.2.2.2.1 q
          refine V_aload_n 1 C rfl d_law_300 ?_
          refine V_aload_n 0 C rfl d_law_301 ?_
          refine V_iload_n 3 C rfl d_law_302 ?_
          refine V_iconst (v := 1) C (by decide) d_law_303 ?_
          refine V_iadd C d_law_304 ?_
          refine V_sld C h.1 d_law_305 ?_
          replace h := h.2
          refine V_aload_n 0 C rfl d_law_306 ?_
          refine V_iload_n 3 C rfl d_law_307 ?_
          refine V_iconst (v := 2) C (by decide) d_law_308 ?_
          refine V_iadd C d_law_309 ?_
          refine V_sld C h.1 d_law_310 ?_
          replace h := h.2
          refine V_aload_n 0 C rfl d_law_311 ?_
          refine V_iload_n 3 C rfl d_law_312 ?_
          refine V_iconst (v := 3) C (by decide) d_law_313 ?_
          refine V_iadd C d_law_314 ?_
          refine V_sld C h.1 d_law_315 ?_
          replace h := h.2
          refine V_cV (As := [.int ((Γ.2.2.2.1.2.2 (Int32.toNatClampNeg (x3 + (1 : Int32))))), .int ((Γ.2.2.2.1.2.2 (Int32.toNatClampNeg (x3 + (2 : Int32))))), .int ((Γ.2.2.2.1.2.2 (Int32.toNatClampNeg (x3 + (3 : Int32)))))]) (rest := []) C k_W_41 lx1 (osh_40 _ _ _ _) (ct_X_bucket l Γ ad cn S ((Γ.2.2.2.1.2.2 (Int32.toNatClampNeg (x3 + (1 : Int32))))) ((Γ.2.2.2.1.2.2 (Int32.toNatClampNeg (x3 + (2 : Int32))))) ((Γ.2.2.2.1.2.2 (Int32.toNatClampNeg (x3 + (3 : Int32))))) _ lx1 h) ⟨rfl, rfl⟩ ⟨Nat.le_trans (by decide) hR.1, Nat.le_trans (by decide) hR.2⟩ ⟨(show _ ≤ 600000 by omega), (show _ ≤ 7302250 by omega)⟩ rfl rfl (Nat.le_of_ble_eq_true rfl) d_law_316 (fun r50 S51 h => ?_)
          refine V_sh [(0, .ref Γ.2.2.2.1.1), (1, .ref (ad 40 0)), (2, .ref (ad 0 0)), (3, .int (x3))] [.int (r50)] rfl rfl ?_
          refine V_aload_n 2 C rfl d_law_319 ?_
          refine V_aload_n 0 C rfl d_law_320 ?_
          refine V_iload_n 3 C rfl d_law_321 ?_
          refine V_iconst (v := 1) C (by decide) d_law_322 ?_
          refine V_iadd C d_law_323 ?_
          refine V_sld C h.1 d_law_324 ?_
          replace h := h.2
          refine V_aload_n 0 C rfl d_law_325 ?_
          refine V_iload_n 3 C rfl d_law_326 ?_
          refine V_iconst (v := 2) C (by decide) d_law_327 ?_
          refine V_iadd C d_law_328 ?_
          refine V_sld C h.1 d_law_329 ?_
          replace h := h.2
          refine V_aload_n 0 C rfl d_law_330 ?_
          refine V_iload_n 3 C rfl d_law_331 ?_
          refine V_iconst (v := 3) C (by decide) d_law_332 ?_
          refine V_iadd C d_law_333 ?_
          refine V_sld C h.1 d_law_334 ?_
          replace h := h.2
          refine V_cV (As := [.int ((Γ.2.2.2.1.2.2 (Int32.toNatClampNeg (x3 + (1 : Int32))))), .int ((Γ.2.2.2.1.2.2 (Int32.toNatClampNeg (x3 + (2 : Int32))))), .int ((Γ.2.2.2.1.2.2 (Int32.toNatClampNeg (x3 + (3 : Int32)))))]) (rest := [.int (r50)]) C k_W_45 lx2 (osh_0 _ _ _ _) (ct_M_bucket l Γ ad cn S51 ((Γ.2.2.2.1.2.2 (Int32.toNatClampNeg (x3 + (1 : Int32))))) ((Γ.2.2.2.1.2.2 (Int32.toNatClampNeg (x3 + (2 : Int32))))) ((Γ.2.2.2.1.2.2 (Int32.toNatClampNeg (x3 + (3 : Int32))))) _ lx2 h) ⟨rfl, rfl⟩ ⟨Nat.le_trans (by decide) hR.1, Nat.le_trans (by decide) hR.2⟩ ⟨(show _ ≤ 600000 by omega), (show _ ≤ 7302250 by omega)⟩ rfl rfl (Nat.le_of_ble_eq_true rfl) d_law_335 (fun r52 S53 h => ?_)
          refine V_sh [(0, .ref Γ.2.2.2.1.1), (1, .ref (ad 40 0)), (2, .ref (ad 0 0)), (3, .int (x3))] [.int (r52), .int (r50)] rfl rfl ?_
          refine V_icmp_eq C d_law_338 (fun q => ?_) (fun q => ?_)
          · replace h := h.1 q
            refine V_iinc (v := (x3 + 8)) 3 C [(3, .int ((x3 + 8))), (0, .ref Γ.2.2.2.1.1), (1, .ref (ad 40 0)), (2, .ref (ad 0 0))] rfl rfl (by decide) rfl d_law_1007 ?_
            refine V_goto C d_law_1010 ?_
            refine V_lvs [1, 2, 3, 0] [(0, .ref Γ.2.2.2.1.1), (1, .ref (ad 40 0)), (2, .ref (ad 0 0)), (3, .int ((x3 + 8)))] rfl ?_
            exact ih ((x3 + 8)) ad cn S53 _ _ (by omega) (by omega) lx1 lx2 h
          · replace h := h.2 q
            refine V_iconst (v := 0) C (by decide) d_law_341 ?_
            exact h.elim
        · refine V_pc (pc2 := 343) rfl ?_
          replace h := h.2.2.2.2.2.1 q
          refine V_aload_n 1 C rfl d_law_343 ?_
          refine V_aload_n 0 C rfl d_law_344 ?_
          refine V_iload_n 3 C rfl d_law_345 ?_
          refine V_iconst (v := 1) C (by decide) d_law_346 ?_
          refine V_iadd C d_law_347 ?_
          refine V_sld C h.1 d_law_348 ?_
          replace h := h.2
          refine V_aload_n 0 C rfl d_law_349 ?_
          refine V_iload_n 3 C rfl d_law_350 ?_
          refine V_iconst (v := 2) C (by decide) d_law_351 ?_
          refine V_iadd C d_law_352 ?_
          refine V_sld C h.1 d_law_353 ?_
          replace h := h.2
          refine V_i2l C d_law_354 ?_
          refine V_bipush (v := 32) C (by decide) d_law_355 ?_
          refine V_lshl C d_law_357 ?_
          refine V_aload_n 0 C rfl d_law_358 ?_
          refine V_iload_n 3 C rfl d_law_359 ?_
          refine V_iconst (v := 3) C (by decide) d_law_360 ?_
          refine V_iadd C d_law_361 ?_
          refine V_sld C h.1 d_law_362 ?_
          replace h := h.2
          refine V_i2l C d_law_363 ?_
          refine V_ldc2 (v := 4294967295) C w_631 d_law_364 ?_
          refine V_land C d_law_367 ?_
          refine V_lor C d_law_368 ?_
          refine V_aload_n 0 C rfl d_law_369 ?_
          refine V_iload_n 3 C rfl d_law_370 ?_
          refine V_iconst (v := 4) C (by decide) d_law_371 ?_
          refine V_iadd C d_law_372 ?_
          refine V_sld C h.1 d_law_373 ?_
          replace h := h.2
          refine V_cV (As := [.int ((Γ.2.2.2.1.2.2 (Int32.toNatClampNeg (x3 + (1 : Int32))))), .long ((((Int32.toInt64 (Γ.2.2.2.1.2.2 (Int32.toNatClampNeg (x3 + (2 : Int32))))) <<< (Int32.toInt64 (32 : Int32) &&& 63)) ||| ((Int32.toInt64 (Γ.2.2.2.1.2.2 (Int32.toNatClampNeg (x3 + (3 : Int32))))) &&& (4294967295 : Int64)))), .int ((Γ.2.2.2.1.2.2 (Int32.toNatClampNeg (x3 + (4 : Int32)))))]) (rest := []) C k_W_48 lx1 (osh_40 _ _ _ _) (ct_X_learn l Γ ad cn S ((Γ.2.2.2.1.2.2 (Int32.toNatClampNeg (x3 + (1 : Int32))))) ((((Int32.toInt64 (Γ.2.2.2.1.2.2 (Int32.toNatClampNeg (x3 + (2 : Int32))))) <<< (Int32.toInt64 (32 : Int32) &&& 63)) ||| ((Int32.toInt64 (Γ.2.2.2.1.2.2 (Int32.toNatClampNeg (x3 + (3 : Int32))))) &&& (4294967295 : Int64)))) ((Γ.2.2.2.1.2.2 (Int32.toNatClampNeg (x3 + (4 : Int32))))) _ lx1 h) ⟨rfl, rfl⟩ ⟨Nat.le_trans (by decide) hR.1, Nat.le_trans (by decide) hR.2⟩ ⟨(show _ ≤ 600000 by omega), (show _ ≤ 7302250 by omega)⟩ rfl rfl (Nat.le_of_ble_eq_true rfl) d_law_374 (fun r54 S55 h => ?_)
          refine V_sh [(0, .ref Γ.2.2.2.1.1), (1, .ref (ad 40 0)), (2, .ref (ad 0 0)), (3, .int (x3))] [.int (r54)] rfl rfl ?_
          refine V_aload_n 2 C rfl d_law_377 ?_
          refine V_aload_n 0 C rfl d_law_378 ?_
          refine V_iload_n 3 C rfl d_law_379 ?_
          refine V_iconst (v := 1) C (by decide) d_law_380 ?_
          refine V_iadd C d_law_381 ?_
          refine V_sld C h.1 d_law_382 ?_
          replace h := h.2
          refine V_aload_n 0 C rfl d_law_383 ?_
          refine V_iload_n 3 C rfl d_law_384 ?_
          refine V_iconst (v := 2) C (by decide) d_law_385 ?_
          refine V_iadd C d_law_386 ?_
          refine V_sld C h.1 d_law_387 ?_
          replace h := h.2
          refine V_i2l C d_law_388 ?_
          refine V_bipush (v := 32) C (by decide) d_law_389 ?_
          refine V_lshl C d_law_391 ?_
          refine V_aload_n 0 C rfl d_law_392 ?_
          refine V_iload_n 3 C rfl d_law_393 ?_
          refine V_iconst (v := 3) C (by decide) d_law_394 ?_
          refine V_iadd C d_law_395 ?_
          refine V_sld C h.1 d_law_396 ?_
          replace h := h.2
          refine V_i2l C d_law_397 ?_
          refine V_ldc2 (v := 4294967295) C w_631 d_law_398 ?_
          refine V_land C d_law_401 ?_
          refine V_lor C d_law_402 ?_
          refine V_aload_n 0 C rfl d_law_403 ?_
          refine V_iload_n 3 C rfl d_law_404 ?_
          refine V_iconst (v := 4) C (by decide) d_law_405 ?_
          refine V_iadd C d_law_406 ?_
          refine V_sld C h.1 d_law_407 ?_
          replace h := h.2
          refine V_cV (As := [.int ((Γ.2.2.2.1.2.2 (Int32.toNatClampNeg (x3 + (1 : Int32))))), .long ((((Int32.toInt64 (Γ.2.2.2.1.2.2 (Int32.toNatClampNeg (x3 + (2 : Int32))))) <<< (Int32.toInt64 (32 : Int32) &&& 63)) ||| ((Int32.toInt64 (Γ.2.2.2.1.2.2 (Int32.toNatClampNeg (x3 + (3 : Int32))))) &&& (4294967295 : Int64)))), .int ((Γ.2.2.2.1.2.2 (Int32.toNatClampNeg (x3 + (4 : Int32)))))]) (rest := [.int (r54)]) C k_W_52 lx2 (osh_0 _ _ _ _) (ct_M_learn l Γ ad cn S55 ((Γ.2.2.2.1.2.2 (Int32.toNatClampNeg (x3 + (1 : Int32))))) ((((Int32.toInt64 (Γ.2.2.2.1.2.2 (Int32.toNatClampNeg (x3 + (2 : Int32))))) <<< (Int32.toInt64 (32 : Int32) &&& 63)) ||| ((Int32.toInt64 (Γ.2.2.2.1.2.2 (Int32.toNatClampNeg (x3 + (3 : Int32))))) &&& (4294967295 : Int64)))) ((Γ.2.2.2.1.2.2 (Int32.toNatClampNeg (x3 + (4 : Int32))))) _ lx2 h) ⟨rfl, rfl⟩ ⟨Nat.le_trans (by decide) hR.1, Nat.le_trans (by decide) hR.2⟩ ⟨(show _ ≤ 600000 by omega), (show _ ≤ 7302250 by omega)⟩ rfl rfl (Nat.le_of_ble_eq_true rfl) d_law_408 (fun r56 S57 h => ?_)
          refine V_sh [(0, .ref Γ.2.2.2.1.1), (1, .ref (ad 40 0)), (2, .ref (ad 0 0)), (3, .int (x3))] [.int (r56), .int (r54)] rfl rfl ?_
          refine V_icmp_eq C d_law_411 (fun q => ?_) (fun q => ?_)
          · replace h := h.1 q
            refine V_iinc (v := (x3 + 8)) 3 C [(3, .int ((x3 + 8))), (0, .ref Γ.2.2.2.1.1), (1, .ref (ad 40 0)), (2, .ref (ad 0 0))] rfl rfl (by decide) rfl d_law_1007 ?_
            refine V_goto C d_law_1010 ?_
            refine V_lvs [1, 2, 3, 0] [(0, .ref Γ.2.2.2.1.1), (1, .ref (ad 40 0)), (2, .ref (ad 0 0)), (3, .int ((x3 + 8)))] rfl ?_
            exact ih ((x3 + 8)) ad cn S57 _ _ (by omega) (by omega) lx1 lx2 h
          · replace h := h.2 q
            refine V_iconst (v := 0) C (by decide) d_law_414 ?_
            exact h.elim
        · refine V_pc (pc2 := 416) rfl ?_
          replace h := h.2.2.2.2.2.2.1 q
          refine V_aload_n 1 C rfl d_law_416 ?_
          refine V_aload_n 0 C rfl d_law_417 ?_
          refine V_iload_n 3 C rfl d_law_418 ?_
          refine V_iconst (v := 1) C (by decide) d_law_419 ?_
          refine V_iadd C d_law_420 ?_
          refine V_sld C h.1 d_law_421 ?_
          replace h := h.2
          refine V_aload_n 0 C rfl d_law_422 ?_
          refine V_iload_n 3 C rfl d_law_423 ?_
          refine V_iconst (v := 2) C (by decide) d_law_424 ?_
          refine V_iadd C d_law_425 ?_
          refine V_sld C h.1 d_law_426 ?_
          replace h := h.2
          refine V_i2l C d_law_427 ?_
          refine V_bipush (v := 32) C (by decide) d_law_428 ?_
          refine V_lshl C d_law_430 ?_
          refine V_aload_n 0 C rfl d_law_431 ?_
          refine V_iload_n 3 C rfl d_law_432 ?_
          refine V_iconst (v := 3) C (by decide) d_law_433 ?_
          refine V_iadd C d_law_434 ?_
          refine V_sld C h.1 d_law_435 ?_
          replace h := h.2
          refine V_i2l C d_law_436 ?_
          refine V_ldc2 (v := 4294967295) C w_631 d_law_437 ?_
          refine V_land C d_law_440 ?_
          refine V_lor C d_law_441 ?_
          refine V_cV (As := [.int ((Γ.2.2.2.1.2.2 (Int32.toNatClampNeg (x3 + (1 : Int32))))), .long ((((Int32.toInt64 (Γ.2.2.2.1.2.2 (Int32.toNatClampNeg (x3 + (2 : Int32))))) <<< (Int32.toInt64 (32 : Int32) &&& 63)) ||| ((Int32.toInt64 (Γ.2.2.2.1.2.2 (Int32.toNatClampNeg (x3 + (3 : Int32))))) &&& (4294967295 : Int64))))]) (rest := []) C k_W_53 lx1 (osh_40 _ _ _ _) (ct_X_forget l Γ ad cn S ((Γ.2.2.2.1.2.2 (Int32.toNatClampNeg (x3 + (1 : Int32))))) ((((Int32.toInt64 (Γ.2.2.2.1.2.2 (Int32.toNatClampNeg (x3 + (2 : Int32))))) <<< (Int32.toInt64 (32 : Int32) &&& 63)) ||| ((Int32.toInt64 (Γ.2.2.2.1.2.2 (Int32.toNatClampNeg (x3 + (3 : Int32))))) &&& (4294967295 : Int64)))) _ lx1 h) ⟨rfl, rfl⟩ ⟨Nat.le_trans (by decide) hR.1, Nat.le_trans (by decide) hR.2⟩ ⟨(show _ ≤ 600000 by omega), (show _ ≤ 7302250 by omega)⟩ rfl rfl (Nat.le_of_ble_eq_true rfl) d_law_442 (fun r58 S59 h => ?_)
          refine V_sh [(0, .ref Γ.2.2.2.1.1), (1, .ref (ad 40 0)), (2, .ref (ad 0 0)), (3, .int (x3))] [.int (r58)] rfl rfl ?_
          refine V_aload_n 2 C rfl d_law_445 ?_
          refine V_aload_n 0 C rfl d_law_446 ?_
          refine V_iload_n 3 C rfl d_law_447 ?_
          refine V_iconst (v := 1) C (by decide) d_law_448 ?_
          refine V_iadd C d_law_449 ?_
          refine V_sld C h.1 d_law_450 ?_
          replace h := h.2
          refine V_aload_n 0 C rfl d_law_451 ?_
          refine V_iload_n 3 C rfl d_law_452 ?_
          refine V_iconst (v := 2) C (by decide) d_law_453 ?_
          refine V_iadd C d_law_454 ?_
          refine V_sld C h.1 d_law_455 ?_
          replace h := h.2
          refine V_i2l C d_law_456 ?_
          refine V_bipush (v := 32) C (by decide) d_law_457 ?_
          refine V_lshl C d_law_459 ?_
          refine V_aload_n 0 C rfl d_law_460 ?_
          refine V_iload_n 3 C rfl d_law_461 ?_
          refine V_iconst (v := 3) C (by decide) d_law_462 ?_
          refine V_iadd C d_law_463 ?_
          refine V_sld C h.1 d_law_464 ?_
          replace h := h.2
          refine V_i2l C d_law_465 ?_
          refine V_ldc2 (v := 4294967295) C w_631 d_law_466 ?_
          refine V_land C d_law_469 ?_
          refine V_lor C d_law_470 ?_
          refine V_cV (As := [.int ((Γ.2.2.2.1.2.2 (Int32.toNatClampNeg (x3 + (1 : Int32))))), .long ((((Int32.toInt64 (Γ.2.2.2.1.2.2 (Int32.toNatClampNeg (x3 + (2 : Int32))))) <<< (Int32.toInt64 (32 : Int32) &&& 63)) ||| ((Int32.toInt64 (Γ.2.2.2.1.2.2 (Int32.toNatClampNeg (x3 + (3 : Int32))))) &&& (4294967295 : Int64))))]) (rest := [.int (r58)]) C k_W_57 lx2 (osh_0 _ _ _ _) (ct_M_forget l Γ ad cn S59 ((Γ.2.2.2.1.2.2 (Int32.toNatClampNeg (x3 + (1 : Int32))))) ((((Int32.toInt64 (Γ.2.2.2.1.2.2 (Int32.toNatClampNeg (x3 + (2 : Int32))))) <<< (Int32.toInt64 (32 : Int32) &&& 63)) ||| ((Int32.toInt64 (Γ.2.2.2.1.2.2 (Int32.toNatClampNeg (x3 + (3 : Int32))))) &&& (4294967295 : Int64)))) _ lx2 h) ⟨rfl, rfl⟩ ⟨Nat.le_trans (by decide) hR.1, Nat.le_trans (by decide) hR.2⟩ ⟨(show _ ≤ 600000 by omega), (show _ ≤ 7302250 by omega)⟩ rfl rfl (Nat.le_of_ble_eq_true rfl) d_law_471 (fun r60 S61 h => ?_)
          refine V_sh [(0, .ref Γ.2.2.2.1.1), (1, .ref (ad 40 0)), (2, .ref (ad 0 0)), (3, .int (x3))] [.int (r60), .int (r58)] rfl rfl ?_
          refine V_icmp_eq C d_law_474 (fun q => ?_) (fun q => ?_)
          · replace h := h.1 q
            refine V_iinc (v := (x3 + 8)) 3 C [(3, .int ((x3 + 8))), (0, .ref Γ.2.2.2.1.1), (1, .ref (ad 40 0)), (2, .ref (ad 0 0))] rfl rfl (by decide) rfl d_law_1007 ?_
            refine V_goto C d_law_1010 ?_
            refine V_lvs [1, 2, 3, 0] [(0, .ref Γ.2.2.2.1.1), (1, .ref (ad 40 0)), (2, .ref (ad 0 0)), (3, .int ((x3 + 8)))] rfl ?_
            exact ih ((x3 + 8)) ad cn S61 _ _ (by omega) (by omega) lx1 lx2 h
          · replace h := h.2 q
            refine V_iconst (v := 0) C (by decide) d_law_477 ?_
            exact h.elim
        · refine V_pc (pc2 := 479) rfl ?_
          replace h := h.2.2.2.2.2.2.2.1 q
          refine V_aload_n 1 C rfl d_law_479 ?_
          refine V_aload_n 0 C rfl d_law_480 ?_
          refine V_iload_n 3 C rfl d_law_481 ?_
          refine V_iconst (v := 1) C (by decide) d_law_482 ?_
          refine V_iadd C d_law_483 ?_
          refine V_sld C h.1 d_law_484 ?_
          replace h := h.2
          refine V_i2l C d_law_485 ?_
          refine V_bipush (v := 32) C (by decide) d_law_486 ?_
          refine V_lshl C d_law_488 ?_
          refine V_aload_n 0 C rfl d_law_489 ?_
          refine V_iload_n 3 C rfl d_law_490 ?_
          refine V_iconst (v := 2) C (by decide) d_law_491 ?_
          refine V_iadd C d_law_492 ?_
          refine V_sld C h.1 d_law_493 ?_
          replace h := h.2
          refine V_i2l C d_law_494 ?_
          refine V_ldc2 (v := 4294967295) C w_631 d_law_495 ?_
          refine V_land C d_law_498 ?_
          refine V_lor C d_law_499 ?_
          refine V_cV (As := [.long ((((Int32.toInt64 (Γ.2.2.2.1.2.2 (Int32.toNatClampNeg (x3 + (1 : Int32))))) <<< (Int32.toInt64 (32 : Int32) &&& 63)) ||| ((Int32.toInt64 (Γ.2.2.2.1.2.2 (Int32.toNatClampNeg (x3 + (2 : Int32))))) &&& (4294967295 : Int64))))]) (rest := []) C k_W_58 lx1 (osh_40 _ _ _ _) (ct_X_way l Γ ad cn S ((((Int32.toInt64 (Γ.2.2.2.1.2.2 (Int32.toNatClampNeg (x3 + (1 : Int32))))) <<< (Int32.toInt64 (32 : Int32) &&& 63)) ||| ((Int32.toInt64 (Γ.2.2.2.1.2.2 (Int32.toNatClampNeg (x3 + (2 : Int32))))) &&& (4294967295 : Int64)))) _ lx1 h) ⟨rfl, rfl⟩ ⟨Nat.le_trans (by decide) hR.1, Nat.le_trans (by decide) hR.2⟩ ⟨(show _ ≤ 600000 by omega), (show _ ≤ 7302250 by omega)⟩ rfl rfl (Nat.le_of_ble_eq_true rfl) d_law_500 (fun r62 S63 h => ?_)
          refine V_sh [(0, .ref Γ.2.2.2.1.1), (1, .ref (ad 40 0)), (2, .ref (ad 0 0)), (3, .int (x3))] [.int (r62)] rfl rfl ?_
          refine V_aload_n 2 C rfl d_law_503 ?_
          refine V_aload_n 0 C rfl d_law_504 ?_
          refine V_iload_n 3 C rfl d_law_505 ?_
          refine V_iconst (v := 1) C (by decide) d_law_506 ?_
          refine V_iadd C d_law_507 ?_
          refine V_sld C h.1 d_law_508 ?_
          replace h := h.2
          refine V_i2l C d_law_509 ?_
          refine V_bipush (v := 32) C (by decide) d_law_510 ?_
          refine V_lshl C d_law_512 ?_
          refine V_aload_n 0 C rfl d_law_513 ?_
          refine V_iload_n 3 C rfl d_law_514 ?_
          refine V_iconst (v := 2) C (by decide) d_law_515 ?_
          refine V_iadd C d_law_516 ?_
          refine V_sld C h.1 d_law_517 ?_
          replace h := h.2
          refine V_i2l C d_law_518 ?_
          refine V_ldc2 (v := 4294967295) C w_631 d_law_519 ?_
          refine V_land C d_law_522 ?_
          refine V_lor C d_law_523 ?_
          refine V_cV (As := [.long ((((Int32.toInt64 (Γ.2.2.2.1.2.2 (Int32.toNatClampNeg (x3 + (1 : Int32))))) <<< (Int32.toInt64 (32 : Int32) &&& 63)) ||| ((Int32.toInt64 (Γ.2.2.2.1.2.2 (Int32.toNatClampNeg (x3 + (2 : Int32))))) &&& (4294967295 : Int64))))]) (rest := [.int (r62)]) C k_W_62 lx2 (osh_0 _ _ _ _) (ct_M_way l Γ ad cn S63 ((((Int32.toInt64 (Γ.2.2.2.1.2.2 (Int32.toNatClampNeg (x3 + (1 : Int32))))) <<< (Int32.toInt64 (32 : Int32) &&& 63)) ||| ((Int32.toInt64 (Γ.2.2.2.1.2.2 (Int32.toNatClampNeg (x3 + (2 : Int32))))) &&& (4294967295 : Int64)))) _ lx2 h) ⟨rfl, rfl⟩ ⟨Nat.le_trans (by decide) hR.1, Nat.le_trans (by decide) hR.2⟩ ⟨(show _ ≤ 600000 by omega), (show _ ≤ 7302250 by omega)⟩ rfl rfl (Nat.le_of_ble_eq_true rfl) d_law_524 (fun r64 S65 h => ?_)
          refine V_sh [(0, .ref Γ.2.2.2.1.1), (1, .ref (ad 40 0)), (2, .ref (ad 0 0)), (3, .int (x3))] [.int (r64), .int (r62)] rfl rfl ?_
          refine V_icmp_eq C d_law_527 (fun q => ?_) (fun q => ?_)
          · replace h := h.1 q
            refine V_iinc (v := (x3 + 8)) 3 C [(3, .int ((x3 + 8))), (0, .ref Γ.2.2.2.1.1), (1, .ref (ad 40 0)), (2, .ref (ad 0 0))] rfl rfl (by decide) rfl d_law_1007 ?_
            refine V_goto C d_law_1010 ?_
            refine V_lvs [1, 2, 3, 0] [(0, .ref Γ.2.2.2.1.1), (1, .ref (ad 40 0)), (2, .ref (ad 0 0)), (3, .int ((x3 + 8)))] rfl ?_
            exact ih ((x3 + 8)) ad cn S65 _ _ (by omega) (by omega) lx1 lx2 h
          · replace h := h.2 q
            refine V_iconst (v := 0) C (by decide) d_law_530 ?_
            exact h.elim
        · refine V_pc (pc2 := 532) rfl ?_
          replace h := h.2.2.2.2.2.2.2.2.1 q
          refine V_aload_n 1 C rfl d_law_532 ?_
          refine V_aload_n 0 C rfl d_law_533 ?_
          refine V_iload_n 3 C rfl d_law_534 ?_
          refine V_iconst (v := 1) C (by decide) d_law_535 ?_
          refine V_iadd C d_law_536 ?_
          refine V_sld C h.1 d_law_537 ?_
          replace h := h.2
          refine V_aload_n 0 C rfl d_law_538 ?_
          refine V_iload_n 3 C rfl d_law_539 ?_
          refine V_iconst (v := 2) C (by decide) d_law_540 ?_
          refine V_iadd C d_law_541 ?_
          refine V_sld C h.1 d_law_542 ?_
          replace h := h.2
          refine V_i2l C d_law_543 ?_
          refine V_bipush (v := 32) C (by decide) d_law_544 ?_
          refine V_lshl C d_law_546 ?_
          refine V_aload_n 0 C rfl d_law_547 ?_
          refine V_iload_n 3 C rfl d_law_548 ?_
          refine V_iconst (v := 3) C (by decide) d_law_549 ?_
          refine V_iadd C d_law_550 ?_
          refine V_sld C h.1 d_law_551 ?_
          replace h := h.2
          refine V_i2l C d_law_552 ?_
          refine V_ldc2 (v := 4294967295) C w_631 d_law_553 ?_
          refine V_land C d_law_556 ?_
          refine V_lor C d_law_557 ?_
          refine V_aload_n 0 C rfl d_law_558 ?_
          refine V_iload_n 3 C rfl d_law_559 ?_
          refine V_iconst (v := 4) C (by decide) d_law_560 ?_
          refine V_iadd C d_law_561 ?_
          refine V_sld C h.1 d_law_562 ?_
          replace h := h.2
          refine V_aload_n 0 C rfl d_law_563 ?_
          refine V_iload_n 3 C rfl d_law_564 ?_
          refine V_iconst (v := 5) C (by decide) d_law_565 ?_
          refine V_iadd C d_law_566 ?_
          refine V_sld C h.1 d_law_567 ?_
          replace h := h.2
          refine V_aload_n 0 C rfl d_law_568 ?_
          refine V_iload_n 3 C rfl d_law_569 ?_
          refine V_bipush (v := 6) C (by decide) d_law_570 ?_
          refine V_iadd C d_law_572 ?_
          refine V_sld C h.1 d_law_573 ?_
          replace h := h.2
          refine V_i2l C d_law_574 ?_
          refine V_bipush (v := 32) C (by decide) d_law_575 ?_
          refine V_lshl C d_law_577 ?_
          refine V_aload_n 0 C rfl d_law_578 ?_
          refine V_iload_n 3 C rfl d_law_579 ?_
          refine V_bipush (v := 7) C (by decide) d_law_580 ?_
          refine V_iadd C d_law_582 ?_
          refine V_sld C h.1 d_law_583 ?_
          replace h := h.2
          refine V_i2l C d_law_584 ?_
          refine V_ldc2 (v := 4294967295) C w_631 d_law_585 ?_
          refine V_land C d_law_588 ?_
          refine V_lor C d_law_589 ?_
          refine V_cVn (As := [.int ((Γ.2.2.2.1.2.2 (Int32.toNatClampNeg (x3 + (1 : Int32))))), .long ((((Int32.toInt64 (Γ.2.2.2.1.2.2 (Int32.toNatClampNeg (x3 + (2 : Int32))))) <<< (Int32.toInt64 (32 : Int32) &&& 63)) ||| ((Int32.toInt64 (Γ.2.2.2.1.2.2 (Int32.toNatClampNeg (x3 + (3 : Int32))))) &&& (4294967295 : Int64)))), .int ((Γ.2.2.2.1.2.2 (Int32.toNatClampNeg (x3 + (4 : Int32))))), .int ((Γ.2.2.2.1.2.2 (Int32.toNatClampNeg (x3 + (5 : Int32))))), .long ((((Int32.toInt64 (Γ.2.2.2.1.2.2 (Int32.toNatClampNeg (x3 + (6 : Int32))))) <<< (Int32.toInt64 (32 : Int32) &&& 63)) ||| ((Int32.toInt64 (Γ.2.2.2.1.2.2 (Int32.toNatClampNeg (x3 + (7 : Int32))))) &&& (4294967295 : Int64))))]) C (fun z => [(0, .ref Γ.2.2.2.1.1), (1, .ref (z 40 0)), (2, .ref (z 0 0)), (3, .int (x3))]) (fun z => []) rfl rfl (fun z hz => ⟨by simp only [hz _ _ lx1, hz _ _ lx2], rfl⟩) k_W_63 lx1 (osh_40 _ _ _ _) (ct_X_prepare l Γ ad cn S ((Γ.2.2.2.1.2.2 (Int32.toNatClampNeg (x3 + (1 : Int32))))) ((((Int32.toInt64 (Γ.2.2.2.1.2.2 (Int32.toNatClampNeg (x3 + (2 : Int32))))) <<< (Int32.toInt64 (32 : Int32) &&& 63)) ||| ((Int32.toInt64 (Γ.2.2.2.1.2.2 (Int32.toNatClampNeg (x3 + (3 : Int32))))) &&& (4294967295 : Int64)))) ((Γ.2.2.2.1.2.2 (Int32.toNatClampNeg (x3 + (4 : Int32))))) ((Γ.2.2.2.1.2.2 (Int32.toNatClampNeg (x3 + (5 : Int32))))) ((((Int32.toInt64 (Γ.2.2.2.1.2.2 (Int32.toNatClampNeg (x3 + (6 : Int32))))) <<< (Int32.toInt64 (32 : Int32) &&& 63)) ||| ((Int32.toInt64 (Γ.2.2.2.1.2.2 (Int32.toNatClampNeg (x3 + (7 : Int32))))) &&& (4294967295 : Int64)))) _ lx1 h) ⟨rfl, rfl⟩ ⟨Nat.le_trans (by decide) hR.1, Nat.le_trans (by decide) hR.2⟩ ⟨(show _ ≤ 600000 by omega), (show _ ≤ 7302250 by omega)⟩ rfl rfl (Nat.le_of_ble_eq_true rfl) d_law_590 (fun r66 ad69 cn68 S67 hx70 hc70 h => ?_)
          have lx1 := Nat.lt_of_lt_of_le lx1 (hc70 _)
          have lx2 := Nat.lt_of_lt_of_le lx2 (hc70 _)
          refine V_sh [(0, .ref Γ.2.2.2.1.1), (1, .ref (ad69 40 0)), (2, .ref (ad69 0 0)), (3, .int (x3))] [.int (r66)] rfl rfl ?_
          refine V_aload_n 2 C rfl d_law_593 ?_
          refine V_aload_n 0 C rfl d_law_594 ?_
          refine V_iload_n 3 C rfl d_law_595 ?_
          refine V_iconst (v := 1) C (by decide) d_law_596 ?_
          refine V_iadd C d_law_597 ?_
          refine V_sld C h.1 d_law_598 ?_
          replace h := h.2
          refine V_aload_n 0 C rfl d_law_599 ?_
          refine V_iload_n 3 C rfl d_law_600 ?_
          refine V_iconst (v := 2) C (by decide) d_law_601 ?_
          refine V_iadd C d_law_602 ?_
          refine V_sld C h.1 d_law_603 ?_
          replace h := h.2
          refine V_i2l C d_law_604 ?_
          refine V_bipush (v := 32) C (by decide) d_law_605 ?_
          refine V_lshl C d_law_607 ?_
          refine V_aload_n 0 C rfl d_law_608 ?_
          refine V_iload_n 3 C rfl d_law_609 ?_
          refine V_iconst (v := 3) C (by decide) d_law_610 ?_
          refine V_iadd C d_law_611 ?_
          refine V_sld C h.1 d_law_612 ?_
          replace h := h.2
          refine V_i2l C d_law_613 ?_
          refine V_ldc2 (v := 4294967295) C w_631 d_law_614 ?_
          refine V_land C d_law_617 ?_
          refine V_lor C d_law_618 ?_
          refine V_aload_n 0 C rfl d_law_619 ?_
          refine V_iload_n 3 C rfl d_law_620 ?_
          refine V_iconst (v := 4) C (by decide) d_law_621 ?_
          refine V_iadd C d_law_622 ?_
          refine V_sld C h.1 d_law_623 ?_
          replace h := h.2
          refine V_aload_n 0 C rfl d_law_624 ?_
          refine V_iload_n 3 C rfl d_law_625 ?_
          refine V_iconst (v := 5) C (by decide) d_law_626 ?_
          refine V_iadd C d_law_627 ?_
          refine V_sld C h.1 d_law_628 ?_
          replace h := h.2
          refine V_aload_n 0 C rfl d_law_629 ?_
          refine V_iload_n 3 C rfl d_law_630 ?_
          refine V_bipush (v := 6) C (by decide) d_law_631 ?_
          refine V_iadd C d_law_633 ?_
          refine V_sld C h.1 d_law_634 ?_
          replace h := h.2
          refine V_i2l C d_law_635 ?_
          refine V_bipush (v := 32) C (by decide) d_law_636 ?_
          refine V_lshl C d_law_638 ?_
          refine V_aload_n 0 C rfl d_law_639 ?_
          refine V_iload_n 3 C rfl d_law_640 ?_
          refine V_bipush (v := 7) C (by decide) d_law_641 ?_
          refine V_iadd C d_law_643 ?_
          refine V_sld C h.1 d_law_644 ?_
          replace h := h.2
          refine V_i2l C d_law_645 ?_
          refine V_ldc2 (v := 4294967295) C w_631 d_law_646 ?_
          refine V_land C d_law_649 ?_
          refine V_lor C d_law_650 ?_
          refine V_cV (As := [.int ((Γ.2.2.2.1.2.2 (Int32.toNatClampNeg (x3 + (1 : Int32))))), .long ((((Int32.toInt64 (Γ.2.2.2.1.2.2 (Int32.toNatClampNeg (x3 + (2 : Int32))))) <<< (Int32.toInt64 (32 : Int32) &&& 63)) ||| ((Int32.toInt64 (Γ.2.2.2.1.2.2 (Int32.toNatClampNeg (x3 + (3 : Int32))))) &&& (4294967295 : Int64)))), .int ((Γ.2.2.2.1.2.2 (Int32.toNatClampNeg (x3 + (4 : Int32))))), .int ((Γ.2.2.2.1.2.2 (Int32.toNatClampNeg (x3 + (5 : Int32))))), .long ((((Int32.toInt64 (Γ.2.2.2.1.2.2 (Int32.toNatClampNeg (x3 + (6 : Int32))))) <<< (Int32.toInt64 (32 : Int32) &&& 63)) ||| ((Int32.toInt64 (Γ.2.2.2.1.2.2 (Int32.toNatClampNeg (x3 + (7 : Int32))))) &&& (4294967295 : Int64))))]) (rest := [.int (r66)]) C k_W_67 lx2 (osh_0 _ _ _ _) (ct_M_prepare l Γ ad69 cn68 S67 ((Γ.2.2.2.1.2.2 (Int32.toNatClampNeg (x3 + (1 : Int32))))) ((((Int32.toInt64 (Γ.2.2.2.1.2.2 (Int32.toNatClampNeg (x3 + (2 : Int32))))) <<< (Int32.toInt64 (32 : Int32) &&& 63)) ||| ((Int32.toInt64 (Γ.2.2.2.1.2.2 (Int32.toNatClampNeg (x3 + (3 : Int32))))) &&& (4294967295 : Int64)))) ((Γ.2.2.2.1.2.2 (Int32.toNatClampNeg (x3 + (4 : Int32))))) ((Γ.2.2.2.1.2.2 (Int32.toNatClampNeg (x3 + (5 : Int32))))) ((((Int32.toInt64 (Γ.2.2.2.1.2.2 (Int32.toNatClampNeg (x3 + (6 : Int32))))) <<< (Int32.toInt64 (32 : Int32) &&& 63)) ||| ((Int32.toInt64 (Γ.2.2.2.1.2.2 (Int32.toNatClampNeg (x3 + (7 : Int32))))) &&& (4294967295 : Int64)))) _ lx2 h) ⟨rfl, rfl⟩ ⟨Nat.le_trans (by decide) hR.1, Nat.le_trans (by decide) hR.2⟩ ⟨(show _ ≤ 600000 by omega), (show _ ≤ 7302250 by omega)⟩ rfl rfl (Nat.le_of_ble_eq_true rfl) d_law_651 (fun r71 S72 h => ?_)
          refine V_sh [(0, .ref Γ.2.2.2.1.1), (1, .ref (ad69 40 0)), (2, .ref (ad69 0 0)), (3, .int (x3))] [.int (r71), .int (r66)] rfl rfl ?_
          refine V_icmp_eq C d_law_654 (fun q => ?_) (fun q => ?_)
          · replace h := h.1 q
            refine V_iinc (v := (x3 + 8)) 3 C [(3, .int ((x3 + 8))), (0, .ref Γ.2.2.2.1.1), (1, .ref (ad69 40 0)), (2, .ref (ad69 0 0))] rfl rfl (by decide) rfl d_law_1007 ?_
            refine V_goto C d_law_1010 ?_
            refine V_lvs [1, 2, 3, 0] [(0, .ref Γ.2.2.2.1.1), (1, .ref (ad69 40 0)), (2, .ref (ad69 0 0)), (3, .int ((x3 + 8)))] rfl ?_
            exact ih ((x3 + 8)) ad69 cn68 S72 _ _ (by omega) (by omega) lx1 lx2 h
          · replace h := h.2 q
            refine V_iconst (v := 0) C (by decide) d_law_657 ?_
            exact h.elim
        · refine V_pc (pc2 := 659) rfl ?_
          replace h := h.2.2.2.2.2.2.2.2.2.1 q
          refine V_aload_n 1 C rfl d_law_659 ?_
          refine V_aload_n 0 C rfl d_law_660 ?_
          refine V_iload_n 3 C rfl d_law_661 ?_
          refine V_iconst (v := 1) C (by decide) d_law_662 ?_
          refine V_iadd C d_law_663 ?_
          refine V_sld C h.1 d_law_664 ?_
          replace h := h.2
          refine V_i2l C d_law_665 ?_
          refine V_bipush (v := 32) C (by decide) d_law_666 ?_
          refine V_lshl C d_law_668 ?_
          refine V_aload_n 0 C rfl d_law_669 ?_
          refine V_iload_n 3 C rfl d_law_670 ?_
          refine V_iconst (v := 2) C (by decide) d_law_671 ?_
          refine V_iadd C d_law_672 ?_
          refine V_sld C h.1 d_law_673 ?_
          replace h := h.2
          refine V_i2l C d_law_674 ?_
          refine V_ldc2 (v := 4294967295) C w_631 d_law_675 ?_
          refine V_land C d_law_678 ?_
          refine V_lor C d_law_679 ?_
          refine V_cV (As := [.long ((((Int32.toInt64 (Γ.2.2.2.1.2.2 (Int32.toNatClampNeg (x3 + (1 : Int32))))) <<< (Int32.toInt64 (32 : Int32) &&& 63)) ||| ((Int32.toInt64 (Γ.2.2.2.1.2.2 (Int32.toNatClampNeg (x3 + (2 : Int32))))) &&& (4294967295 : Int64))))]) (rest := []) C k_W_68 lx1 (osh_40 _ _ _ _) (ct_X_lock l Γ ad cn S ((((Int32.toInt64 (Γ.2.2.2.1.2.2 (Int32.toNatClampNeg (x3 + (1 : Int32))))) <<< (Int32.toInt64 (32 : Int32) &&& 63)) ||| ((Int32.toInt64 (Γ.2.2.2.1.2.2 (Int32.toNatClampNeg (x3 + (2 : Int32))))) &&& (4294967295 : Int64)))) _ lx1 h) ⟨rfl, rfl⟩ ⟨Nat.le_trans (by decide) hR.1, Nat.le_trans (by decide) hR.2⟩ ⟨(show _ ≤ 600000 by omega), (show _ ≤ 7302250 by omega)⟩ rfl rfl (Nat.le_of_ble_eq_true rfl) d_law_680 (fun r73 S74 h => ?_)
          refine V_sh [(0, .ref Γ.2.2.2.1.1), (1, .ref (ad 40 0)), (2, .ref (ad 0 0)), (3, .int (x3))] [.long (r73)] rfl rfl ?_
          refine V_aload_n 2 C rfl d_law_683 ?_
          refine V_aload_n 0 C rfl d_law_684 ?_
          refine V_iload_n 3 C rfl d_law_685 ?_
          refine V_iconst (v := 1) C (by decide) d_law_686 ?_
          refine V_iadd C d_law_687 ?_
          refine V_sld C h.1 d_law_688 ?_
          replace h := h.2
          refine V_i2l C d_law_689 ?_
          refine V_bipush (v := 32) C (by decide) d_law_690 ?_
          refine V_lshl C d_law_692 ?_
          refine V_aload_n 0 C rfl d_law_693 ?_
          refine V_iload_n 3 C rfl d_law_694 ?_
          refine V_iconst (v := 2) C (by decide) d_law_695 ?_
          refine V_iadd C d_law_696 ?_
          refine V_sld C h.1 d_law_697 ?_
          replace h := h.2
          refine V_i2l C d_law_698 ?_
          refine V_ldc2 (v := 4294967295) C w_631 d_law_699 ?_
          refine V_land C d_law_702 ?_
          refine V_lor C d_law_703 ?_
          refine V_cV (As := [.long ((((Int32.toInt64 (Γ.2.2.2.1.2.2 (Int32.toNatClampNeg (x3 + (1 : Int32))))) <<< (Int32.toInt64 (32 : Int32) &&& 63)) ||| ((Int32.toInt64 (Γ.2.2.2.1.2.2 (Int32.toNatClampNeg (x3 + (2 : Int32))))) &&& (4294967295 : Int64))))]) (rest := [.long (r73)]) C k_W_72 lx2 (osh_0 _ _ _ _) (ct_M_lock l Γ ad cn S74 ((((Int32.toInt64 (Γ.2.2.2.1.2.2 (Int32.toNatClampNeg (x3 + (1 : Int32))))) <<< (Int32.toInt64 (32 : Int32) &&& 63)) ||| ((Int32.toInt64 (Γ.2.2.2.1.2.2 (Int32.toNatClampNeg (x3 + (2 : Int32))))) &&& (4294967295 : Int64)))) _ lx2 h) ⟨rfl, rfl⟩ ⟨Nat.le_trans (by decide) hR.1, Nat.le_trans (by decide) hR.2⟩ ⟨(show _ ≤ 600000 by omega), (show _ ≤ 7302250 by omega)⟩ rfl rfl (Nat.le_of_ble_eq_true rfl) d_law_704 (fun r75 S76 h => ?_)
          refine V_sh [(0, .ref Γ.2.2.2.1.1), (1, .ref (ad 40 0)), (2, .ref (ad 0 0)), (3, .int (x3))] [.long (r75), .long (r73)] rfl rfl ?_
          refine V_lcmp C d_law_707 ?_
          refine V_if_eq C d_law_708 (fun q => ?_) (fun q => ?_)
          · replace h := h.1 q
            refine V_iinc (v := (x3 + 8)) 3 C [(3, .int ((x3 + 8))), (0, .ref Γ.2.2.2.1.1), (1, .ref (ad 40 0)), (2, .ref (ad 0 0))] rfl rfl (by decide) rfl d_law_1007 ?_
            refine V_goto C d_law_1010 ?_
            refine V_lvs [1, 2, 3, 0] [(0, .ref Γ.2.2.2.1.1), (1, .ref (ad 40 0)), (2, .ref (ad 0 0)), (3, .int ((x3 + 8)))] rfl ?_
            exact ih ((x3 + 8)) ad cn S76 _ _ (by omega) (by omega) lx1 lx2 h
          · replace h := h.2 q
            refine V_iconst (v := 0) C (by decide) d_law_711 ?_
            exact h.elim
        · refine V_pc (pc2 := 713) rfl ?_
          replace h := h.2.2.2.2.2.2.2.2.2.2.1 q
          refine V_aload_n 1 C rfl d_law_713 ?_
          refine V_aload_n 0 C rfl d_law_714 ?_
          refine V_iload_n 3 C rfl d_law_715 ?_
          refine V_iconst (v := 1) C (by decide) d_law_716 ?_
          refine V_iadd C d_law_717 ?_
          refine V_sld C h.1 d_law_718 ?_
          replace h := h.2
          refine V_aload_n 0 C rfl d_law_719 ?_
          refine V_iload_n 3 C rfl d_law_720 ?_
          refine V_iconst (v := 2) C (by decide) d_law_721 ?_
          refine V_iadd C d_law_722 ?_
          refine V_sld C h.1 d_law_723 ?_
          replace h := h.2
          refine V_i2l C d_law_724 ?_
          refine V_bipush (v := 32) C (by decide) d_law_725 ?_
          refine V_lshl C d_law_727 ?_
          refine V_aload_n 0 C rfl d_law_728 ?_
          refine V_iload_n 3 C rfl d_law_729 ?_
          refine V_iconst (v := 3) C (by decide) d_law_730 ?_
          refine V_iadd C d_law_731 ?_
          refine V_sld C h.1 d_law_732 ?_
          replace h := h.2
          refine V_i2l C d_law_733 ?_
          refine V_ldc2 (v := 4294967295) C w_631 d_law_734 ?_
          refine V_land C d_law_737 ?_
          refine V_lor C d_law_738 ?_
          refine V_cV (As := [.int ((Γ.2.2.2.1.2.2 (Int32.toNatClampNeg (x3 + (1 : Int32))))), .long ((((Int32.toInt64 (Γ.2.2.2.1.2.2 (Int32.toNatClampNeg (x3 + (2 : Int32))))) <<< (Int32.toInt64 (32 : Int32) &&& 63)) ||| ((Int32.toInt64 (Γ.2.2.2.1.2.2 (Int32.toNatClampNeg (x3 + (3 : Int32))))) &&& (4294967295 : Int64))))]) (rest := []) C k_W_73 lx1 (osh_40 _ _ _ _) (ct_X_fulfil l Γ ad cn S ((Γ.2.2.2.1.2.2 (Int32.toNatClampNeg (x3 + (1 : Int32))))) ((((Int32.toInt64 (Γ.2.2.2.1.2.2 (Int32.toNatClampNeg (x3 + (2 : Int32))))) <<< (Int32.toInt64 (32 : Int32) &&& 63)) ||| ((Int32.toInt64 (Γ.2.2.2.1.2.2 (Int32.toNatClampNeg (x3 + (3 : Int32))))) &&& (4294967295 : Int64)))) _ lx1 h) ⟨rfl, rfl⟩ ⟨Nat.le_trans (by decide) hR.1, Nat.le_trans (by decide) hR.2⟩ ⟨(show _ ≤ 600000 by omega), (show _ ≤ 7302250 by omega)⟩ rfl rfl (Nat.le_of_ble_eq_true rfl) d_law_739 (fun r77 S78 h => ?_)
          refine V_sh [(0, .ref Γ.2.2.2.1.1), (1, .ref (ad 40 0)), (2, .ref (ad 0 0)), (3, .int (x3))] [.int (r77)] rfl rfl ?_
          refine V_aload_n 2 C rfl d_law_742 ?_
          refine V_aload_n 0 C rfl d_law_743 ?_
          refine V_iload_n 3 C rfl d_law_744 ?_
          refine V_iconst (v := 1) C (by decide) d_law_745 ?_
          refine V_iadd C d_law_746 ?_
          refine V_sld C h.1 d_law_747 ?_
          replace h := h.2
          refine V_aload_n 0 C rfl d_law_748 ?_
          refine V_iload_n 3 C rfl d_law_749 ?_
          refine V_iconst (v := 2) C (by decide) d_law_750 ?_
          refine V_iadd C d_law_751 ?_
          refine V_sld C h.1 d_law_752 ?_
          replace h := h.2
          refine V_i2l C d_law_753 ?_
          refine V_bipush (v := 32) C (by decide) d_law_754 ?_
          refine V_lshl C d_law_756 ?_
          refine V_aload_n 0 C rfl d_law_757 ?_
          refine V_iload_n 3 C rfl d_law_758 ?_
          refine V_iconst (v := 3) C (by decide) d_law_759 ?_
          refine V_iadd C d_law_760 ?_
          refine V_sld C h.1 d_law_761 ?_
          replace h := h.2
          refine V_i2l C d_law_762 ?_
          refine V_ldc2 (v := 4294967295) C w_631 d_law_763 ?_
          refine V_land C d_law_766 ?_
          refine V_lor C d_law_767 ?_
          refine V_cV (As := [.int ((Γ.2.2.2.1.2.2 (Int32.toNatClampNeg (x3 + (1 : Int32))))), .long ((((Int32.toInt64 (Γ.2.2.2.1.2.2 (Int32.toNatClampNeg (x3 + (2 : Int32))))) <<< (Int32.toInt64 (32 : Int32) &&& 63)) ||| ((Int32.toInt64 (Γ.2.2.2.1.2.2 (Int32.toNatClampNeg (x3 + (3 : Int32))))) &&& (4294967295 : Int64))))]) (rest := [.int (r77)]) C k_W_77 lx2 (osh_0 _ _ _ _) (ct_M_fulfil l Γ ad cn S78 ((Γ.2.2.2.1.2.2 (Int32.toNatClampNeg (x3 + (1 : Int32))))) ((((Int32.toInt64 (Γ.2.2.2.1.2.2 (Int32.toNatClampNeg (x3 + (2 : Int32))))) <<< (Int32.toInt64 (32 : Int32) &&& 63)) ||| ((Int32.toInt64 (Γ.2.2.2.1.2.2 (Int32.toNatClampNeg (x3 + (3 : Int32))))) &&& (4294967295 : Int64)))) _ lx2 h) ⟨rfl, rfl⟩ ⟨Nat.le_trans (by decide) hR.1, Nat.le_trans (by decide) hR.2⟩ ⟨(show _ ≤ 600000 by omega), (show _ ≤ 7302250 by omega)⟩ rfl rfl (Nat.le_of_ble_eq_true rfl) d_law_768 (fun r79 S80 h => ?_)
          refine V_sh [(0, .ref Γ.2.2.2.1.1), (1, .ref (ad 40 0)), (2, .ref (ad 0 0)), (3, .int (x3))] [.int (r79), .int (r77)] rfl rfl ?_
          refine V_icmp_eq C d_law_771 (fun q => ?_) (fun q => ?_)
          · replace h := h.1 q
            refine V_iinc (v := (x3 + 8)) 3 C [(3, .int ((x3 + 8))), (0, .ref Γ.2.2.2.1.1), (1, .ref (ad 40 0)), (2, .ref (ad 0 0))] rfl rfl (by decide) rfl d_law_1007 ?_
            refine V_goto C d_law_1010 ?_
            refine V_lvs [1, 2, 3, 0] [(0, .ref Γ.2.2.2.1.1), (1, .ref (ad 40 0)), (2, .ref (ad 0 0)), (3, .int ((x3 + 8)))] rfl ?_
            exact ih ((x3 + 8)) ad cn S80 _ _ (by omega) (by omega) lx1 lx2 h
          · replace h := h.2 q
            refine V_iconst (v := 0) C (by decide) d_law_774 ?_
            exact h.elim
        · refine V_pc (pc2 := 776) rfl ?_
          replace h := h.2.2.2.2.2.2.2.2.2.2.2.1 q
          refine V_aload_n 1 C rfl d_law_776 ?_
          refine V_aload_n 0 C rfl d_law_777 ?_
          refine V_iload_n 3 C rfl d_law_778 ?_
          refine V_iconst (v := 1) C (by decide) d_law_779 ?_
          refine V_iadd C d_law_780 ?_
          refine V_sld C h.1 d_law_781 ?_
          replace h := h.2
          refine V_cV (As := [.int ((Γ.2.2.2.1.2.2 (Int32.toNatClampNeg (x3 + (1 : Int32)))))]) (rest := []) C k_W_78 lx1 (osh_40 _ _ _ _) (ct_X_reject l Γ ad cn S ((Γ.2.2.2.1.2.2 (Int32.toNatClampNeg (x3 + (1 : Int32))))) _ lx1 h) ⟨rfl, rfl⟩ ⟨Nat.le_trans (by decide) hR.1, Nat.le_trans (by decide) hR.2⟩ ⟨(show _ ≤ 600000 by omega), (show _ ≤ 7302250 by omega)⟩ rfl rfl (Nat.le_of_ble_eq_true rfl) d_law_782 (fun r81 S82 h => ?_)
          refine V_sh [(0, .ref Γ.2.2.2.1.1), (1, .ref (ad 40 0)), (2, .ref (ad 0 0)), (3, .int (x3))] [.int (r81)] rfl rfl ?_
          refine V_aload_n 2 C rfl d_law_785 ?_
          refine V_aload_n 0 C rfl d_law_786 ?_
          refine V_iload_n 3 C rfl d_law_787 ?_
          refine V_iconst (v := 1) C (by decide) d_law_788 ?_
          refine V_iadd C d_law_789 ?_
          refine V_sld C h.1 d_law_790 ?_
          replace h := h.2
          refine V_cV (As := [.int ((Γ.2.2.2.1.2.2 (Int32.toNatClampNeg (x3 + (1 : Int32)))))]) (rest := [.int (r81)]) C k_W_82 lx2 (osh_0 _ _ _ _) (ct_M_reject l Γ ad cn S82 ((Γ.2.2.2.1.2.2 (Int32.toNatClampNeg (x3 + (1 : Int32))))) _ lx2 h) ⟨rfl, rfl⟩ ⟨Nat.le_trans (by decide) hR.1, Nat.le_trans (by decide) hR.2⟩ ⟨(show _ ≤ 600000 by omega), (show _ ≤ 7302250 by omega)⟩ rfl rfl (Nat.le_of_ble_eq_true rfl) d_law_791 (fun r83 S84 h => ?_)
          refine V_sh [(0, .ref Γ.2.2.2.1.1), (1, .ref (ad 40 0)), (2, .ref (ad 0 0)), (3, .int (x3))] [.int (r83), .int (r81)] rfl rfl ?_
          refine V_icmp_eq C d_law_794 (fun q => ?_) (fun q => ?_)
          · replace h := h.1 q
            refine V_iinc (v := (x3 + 8)) 3 C [(3, .int ((x3 + 8))), (0, .ref Γ.2.2.2.1.1), (1, .ref (ad 40 0)), (2, .ref (ad 0 0))] rfl rfl (by decide) rfl d_law_1007 ?_
            refine V_goto C d_law_1010 ?_
            refine V_lvs [1, 2, 3, 0] [(0, .ref Γ.2.2.2.1.1), (1, .ref (ad 40 0)), (2, .ref (ad 0 0)), (3, .int ((x3 + 8)))] rfl ?_
            exact ih ((x3 + 8)) ad cn S84 _ _ (by omega) (by omega) lx1 lx2 h
          · replace h := h.2 q
            refine V_iconst (v := 0) C (by decide) d_law_797 ?_
            exact h.elim
        · refine V_pc (pc2 := 799) rfl ?_
          replace h := h.2.2.2.2.2.2.2.2.2.2.2.2.1 q
          refine V_aload_n 1 C rfl d_law_799 ?_
          refine V_aload_n 0 C rfl d_law_800 ?_
          refine V_iload_n 3 C rfl d_law_801 ?_
          refine V_iconst (v := 1) C (by decide) d_law_802 ?_
          refine V_iadd C d_law_803 ?_
          refine V_sld C h.1 d_law_804 ?_
          replace h := h.2
          refine V_cV (As := [.int ((Γ.2.2.2.1.2.2 (Int32.toNatClampNeg (x3 + (1 : Int32)))))]) (rest := []) C k_W_83 lx1 (osh_40 _ _ _ _) (ct_X_advance l Γ ad cn S ((Γ.2.2.2.1.2.2 (Int32.toNatClampNeg (x3 + (1 : Int32))))) _ lx1 h) ⟨rfl, rfl⟩ ⟨Nat.le_trans (by decide) hR.1, Nat.le_trans (by decide) hR.2⟩ ⟨(show _ ≤ 600000 by omega), (show _ ≤ 7302250 by omega)⟩ rfl rfl (Nat.le_of_ble_eq_true rfl) d_law_805 (fun r85 S86 h => ?_)
          refine V_sh [(0, .ref Γ.2.2.2.1.1), (1, .ref (ad 40 0)), (2, .ref (ad 0 0)), (3, .int (x3))] [.int (r85)] rfl rfl ?_
          refine V_aload_n 2 C rfl d_law_808 ?_
          refine V_aload_n 0 C rfl d_law_809 ?_
          refine V_iload_n 3 C rfl d_law_810 ?_
          refine V_iconst (v := 1) C (by decide) d_law_811 ?_
          refine V_iadd C d_law_812 ?_
          refine V_sld C h.1 d_law_813 ?_
          replace h := h.2
          refine V_cV (As := [.int ((Γ.2.2.2.1.2.2 (Int32.toNatClampNeg (x3 + (1 : Int32)))))]) (rest := [.int (r85)]) C k_W_86 lx2 (osh_0 _ _ _ _) (ct_M_advance l Γ ad cn S86 ((Γ.2.2.2.1.2.2 (Int32.toNatClampNeg (x3 + (1 : Int32))))) _ lx2 h) ⟨rfl, rfl⟩ ⟨Nat.le_trans (by decide) hR.1, Nat.le_trans (by decide) hR.2⟩ ⟨(show _ ≤ 600000 by omega), (show _ ≤ 7302250 by omega)⟩ rfl rfl (Nat.le_of_ble_eq_true rfl) d_law_814 (fun r87 S88 h => ?_)
          refine V_sh [(0, .ref Γ.2.2.2.1.1), (1, .ref (ad 40 0)), (2, .ref (ad 0 0)), (3, .int (x3))] [.int (r87), .int (r85)] rfl rfl ?_
          refine V_icmp_eq C d_law_817 (fun q => ?_) (fun q => ?_)
          · replace h := h.1 q
            refine V_iinc (v := (x3 + 8)) 3 C [(3, .int ((x3 + 8))), (0, .ref Γ.2.2.2.1.1), (1, .ref (ad 40 0)), (2, .ref (ad 0 0))] rfl rfl (by decide) rfl d_law_1007 ?_
            refine V_goto C d_law_1010 ?_
            refine V_lvs [1, 2, 3, 0] [(0, .ref Γ.2.2.2.1.1), (1, .ref (ad 40 0)), (2, .ref (ad 0 0)), (3, .int ((x3 + 8)))] rfl ?_
            exact ih ((x3 + 8)) ad cn S88 _ _ (by omega) (by omega) lx1 lx2 h
          · replace h := h.2 q
            refine V_iconst (v := 0) C (by decide) d_law_820 ?_
            exact h.elim
        · refine V_pc (pc2 := 822) rfl ?_
          replace h := h.2.2.2.2.2.2.2.2.2.2.2.2.2.1 q
          refine V_aload_n 1 C rfl d_law_822 ?_
          refine V_aload_n 0 C rfl d_law_823 ?_
          refine V_iload_n 3 C rfl d_law_824 ?_
          refine V_iconst (v := 1) C (by decide) d_law_825 ?_
          refine V_iadd C d_law_826 ?_
          refine V_sld C h.1 d_law_827 ?_
          replace h := h.2
          refine V_aload_n 0 C rfl d_law_828 ?_
          refine V_iload_n 3 C rfl d_law_829 ?_
          refine V_iconst (v := 2) C (by decide) d_law_830 ?_
          refine V_iadd C d_law_831 ?_
          refine V_sld C h.1 d_law_832 ?_
          replace h := h.2
          refine V_aload_n 0 C rfl d_law_833 ?_
          refine V_iload_n 3 C rfl d_law_834 ?_
          refine V_iconst (v := 3) C (by decide) d_law_835 ?_
          refine V_iadd C d_law_836 ?_
          refine V_sld C h.1 d_law_837 ?_
          replace h := h.2
          refine V_cV (As := [.int ((Γ.2.2.2.1.2.2 (Int32.toNatClampNeg (x3 + (1 : Int32))))), .int ((Γ.2.2.2.1.2.2 (Int32.toNatClampNeg (x3 + (2 : Int32))))), .int ((Γ.2.2.2.1.2.2 (Int32.toNatClampNeg (x3 + (3 : Int32)))))]) (rest := []) C k_W_87 lx1 (osh_40 _ _ _ _) (ct_X_credit l Γ ad cn S ((Γ.2.2.2.1.2.2 (Int32.toNatClampNeg (x3 + (1 : Int32))))) ((Γ.2.2.2.1.2.2 (Int32.toNatClampNeg (x3 + (2 : Int32))))) ((Γ.2.2.2.1.2.2 (Int32.toNatClampNeg (x3 + (3 : Int32))))) _ lx1 h) ⟨rfl, rfl⟩ ⟨Nat.le_trans (by decide) hR.1, Nat.le_trans (by decide) hR.2⟩ ⟨(show _ ≤ 600000 by omega), (show _ ≤ 7302250 by omega)⟩ rfl rfl (Nat.le_of_ble_eq_true rfl) d_law_838 (fun r89 S90 h => ?_)
          refine V_sh [(0, .ref Γ.2.2.2.1.1), (1, .ref (ad 40 0)), (2, .ref (ad 0 0)), (3, .int (x3))] [.int (r89)] rfl rfl ?_
          refine V_aload_n 2 C rfl d_law_841 ?_
          refine V_aload_n 0 C rfl d_law_842 ?_
          refine V_iload_n 3 C rfl d_law_843 ?_
          refine V_iconst (v := 1) C (by decide) d_law_844 ?_
          refine V_iadd C d_law_845 ?_
          refine V_sld C h.1 d_law_846 ?_
          replace h := h.2
          refine V_aload_n 0 C rfl d_law_847 ?_
          refine V_iload_n 3 C rfl d_law_848 ?_
          refine V_iconst (v := 2) C (by decide) d_law_849 ?_
          refine V_iadd C d_law_850 ?_
          refine V_sld C h.1 d_law_851 ?_
          replace h := h.2
          refine V_aload_n 0 C rfl d_law_852 ?_
          refine V_iload_n 3 C rfl d_law_853 ?_
          refine V_iconst (v := 3) C (by decide) d_law_854 ?_
          refine V_iadd C d_law_855 ?_
          refine V_sld C h.1 d_law_856 ?_
          replace h := h.2
          refine V_cV (As := [.int ((Γ.2.2.2.1.2.2 (Int32.toNatClampNeg (x3 + (1 : Int32))))), .int ((Γ.2.2.2.1.2.2 (Int32.toNatClampNeg (x3 + (2 : Int32))))), .int ((Γ.2.2.2.1.2.2 (Int32.toNatClampNeg (x3 + (3 : Int32)))))]) (rest := [.int (r89)]) C k_W_90 lx2 (osh_0 _ _ _ _) (ct_M_credit l Γ ad cn S90 ((Γ.2.2.2.1.2.2 (Int32.toNatClampNeg (x3 + (1 : Int32))))) ((Γ.2.2.2.1.2.2 (Int32.toNatClampNeg (x3 + (2 : Int32))))) ((Γ.2.2.2.1.2.2 (Int32.toNatClampNeg (x3 + (3 : Int32))))) _ lx2 h) ⟨rfl, rfl⟩ ⟨Nat.le_trans (by decide) hR.1, Nat.le_trans (by decide) hR.2⟩ ⟨(show _ ≤ 600000 by omega), (show _ ≤ 7302250 by omega)⟩ rfl rfl (Nat.le_of_ble_eq_true rfl) d_law_857 (fun r91 S92 h => ?_)
          refine V_sh [(0, .ref Γ.2.2.2.1.1), (1, .ref (ad 40 0)), (2, .ref (ad 0 0)), (3, .int (x3))] [.int (r91), .int (r89)] rfl rfl ?_
          refine V_icmp_eq C d_law_860 (fun q => ?_) (fun q => ?_)
          · replace h := h.1 q
            refine V_iinc (v := (x3 + 8)) 3 C [(3, .int ((x3 + 8))), (0, .ref Γ.2.2.2.1.1), (1, .ref (ad 40 0)), (2, .ref (ad 0 0))] rfl rfl (by decide) rfl d_law_1007 ?_
            refine V_goto C d_law_1010 ?_
            refine V_lvs [1, 2, 3, 0] [(0, .ref Γ.2.2.2.1.1), (1, .ref (ad 40 0)), (2, .ref (ad 0 0)), (3, .int ((x3 + 8)))] rfl ?_
            exact ih ((x3 + 8)) ad cn S92 _ _ (by omega) (by omega) lx1 lx2 h
          · replace h := h.2 q
            refine V_iconst (v := 0) C (by decide) d_law_863 ?_
            exact h.elim
        · refine V_pc (pc2 := 865) rfl ?_
          replace h := h.2.2.2.2.2.2.2.2.2.2.2.2.2.2.1 q
          refine V_aload_n 1 C rfl d_law_865 ?_
          refine V_aload_n 0 C rfl d_law_866 ?_
          refine V_iload_n 3 C rfl d_law_867 ?_
          refine V_iconst (v := 1) C (by decide) d_law_868 ?_
          refine V_iadd C d_law_869 ?_
          refine V_sld C h.1 d_law_870 ?_
          replace h := h.2
          refine V_cV (As := [.int ((Γ.2.2.2.1.2.2 (Int32.toNatClampNeg (x3 + (1 : Int32)))))]) (rest := []) C k_W_91 lx1 (osh_40 _ _ _ _) (ct_X_balance l Γ ad cn S ((Γ.2.2.2.1.2.2 (Int32.toNatClampNeg (x3 + (1 : Int32))))) _ lx1 h) ⟨rfl, rfl⟩ ⟨Nat.le_trans (by decide) hR.1, Nat.le_trans (by decide) hR.2⟩ ⟨(show _ ≤ 600000 by omega), (show _ ≤ 7302250 by omega)⟩ rfl rfl (Nat.le_of_ble_eq_true rfl) d_law_871 (fun r93 S94 h => ?_)
          refine V_sh [(0, .ref Γ.2.2.2.1.1), (1, .ref (ad 40 0)), (2, .ref (ad 0 0)), (3, .int (x3))] [.long (r93)] rfl rfl ?_
          refine V_aload_n 2 C rfl d_law_874 ?_
          refine V_aload_n 0 C rfl d_law_875 ?_
          refine V_iload_n 3 C rfl d_law_876 ?_
          refine V_iconst (v := 1) C (by decide) d_law_877 ?_
          refine V_iadd C d_law_878 ?_
          refine V_sld C h.1 d_law_879 ?_
          replace h := h.2
          refine V_cV (As := [.int ((Γ.2.2.2.1.2.2 (Int32.toNatClampNeg (x3 + (1 : Int32)))))]) (rest := [.long (r93)]) C k_W_95 lx2 (osh_0 _ _ _ _) (ct_M_balance l Γ ad cn S94 ((Γ.2.2.2.1.2.2 (Int32.toNatClampNeg (x3 + (1 : Int32))))) _ lx2 h) ⟨rfl, rfl⟩ ⟨Nat.le_trans (by decide) hR.1, Nat.le_trans (by decide) hR.2⟩ ⟨(show _ ≤ 600000 by omega), (show _ ≤ 7302250 by omega)⟩ rfl rfl (Nat.le_of_ble_eq_true rfl) d_law_880 (fun r95 S96 h => ?_)
          refine V_sh [(0, .ref Γ.2.2.2.1.1), (1, .ref (ad 40 0)), (2, .ref (ad 0 0)), (3, .int (x3))] [.long (r95), .long (r93)] rfl rfl ?_
          refine V_lcmp C d_law_883 ?_
          refine V_if_eq C d_law_884 (fun q => ?_) (fun q => ?_)
          · replace h := h.1 q
            refine V_iinc (v := (x3 + 8)) 3 C [(3, .int ((x3 + 8))), (0, .ref Γ.2.2.2.1.1), (1, .ref (ad 40 0)), (2, .ref (ad 0 0))] rfl rfl (by decide) rfl d_law_1007 ?_
            refine V_goto C d_law_1010 ?_
            refine V_lvs [1, 2, 3, 0] [(0, .ref Γ.2.2.2.1.1), (1, .ref (ad 40 0)), (2, .ref (ad 0 0)), (3, .int ((x3 + 8)))] rfl ?_
            exact ih ((x3 + 8)) ad cn S96 _ _ (by omega) (by omega) lx1 lx2 h
          · replace h := h.2 q
            refine V_iconst (v := 0) C (by decide) d_law_887 ?_
            exact h.elim
        · refine V_pc (pc2 := 889) rfl ?_
          replace h := h.2.2.2.2.2.2.2.2.2.2.2.2.2.2.2.1 q
          refine V_aload_n 1 C rfl d_law_889 ?_
          refine V_cV (As := []) (rest := []) C k_W_96 lx1 (osh_40 _ _ _ _) (ct_X_position l Γ ad cn S  _ lx1 h) ⟨rfl, rfl⟩ ⟨Nat.le_trans (by decide) hR.1, Nat.le_trans (by decide) hR.2⟩ ⟨(show _ ≤ 600000 by omega), (show _ ≤ 7302250 by omega)⟩ rfl rfl (Nat.le_of_ble_eq_true rfl) d_law_890 (fun r97 S98 h => ?_)
          refine V_sh [(0, .ref Γ.2.2.2.1.1), (1, .ref (ad 40 0)), (2, .ref (ad 0 0)), (3, .int (x3))] [.long (r97)] rfl rfl ?_
          refine V_aload_n 2 C rfl d_law_893 ?_
          refine V_cV (As := []) (rest := [.long (r97)]) C k_W_100 lx2 (osh_0 _ _ _ _) (ct_M_position l Γ ad cn S98  _ lx2 h) ⟨rfl, rfl⟩ ⟨Nat.le_trans (by decide) hR.1, Nat.le_trans (by decide) hR.2⟩ ⟨(show _ ≤ 600000 by omega), (show _ ≤ 7302250 by omega)⟩ rfl rfl (Nat.le_of_ble_eq_true rfl) d_law_894 (fun r99 S100 h => ?_)
          refine V_sh [(0, .ref Γ.2.2.2.1.1), (1, .ref (ad 40 0)), (2, .ref (ad 0 0)), (3, .int (x3))] [.long (r99), .long (r97)] rfl rfl ?_
          refine V_lcmp C d_law_897 ?_
          refine V_if_eq C d_law_898 (fun q => ?_) (fun q => ?_)
          · replace h := h.1 q
            refine V_iinc (v := (x3 + 8)) 3 C [(3, .int ((x3 + 8))), (0, .ref Γ.2.2.2.1.1), (1, .ref (ad 40 0)), (2, .ref (ad 0 0))] rfl rfl (by decide) rfl d_law_1007 ?_
            refine V_goto C d_law_1010 ?_
            refine V_lvs [1, 2, 3, 0] [(0, .ref Γ.2.2.2.1.1), (1, .ref (ad 40 0)), (2, .ref (ad 0 0)), (3, .int ((x3 + 8)))] rfl ?_
            exact ih ((x3 + 8)) ad cn S100 _ _ (by omega) (by omega) lx1 lx2 h
          · replace h := h.2 q
            refine V_iconst (v := 0) C (by decide) d_law_901 ?_
            exact h.elim
        · refine V_pc (pc2 := 903) rfl ?_
          replace h := h.2.2.2.2.2.2.2.2.2.2.2.2.2.2.2.2.1 q
          refine V_aload_n 1 C rfl d_law_903 ?_
          refine V_aload_n 0 C rfl d_law_904 ?_
          refine V_iload_n 3 C rfl d_law_905 ?_
          refine V_iconst (v := 1) C (by decide) d_law_906 ?_
          refine V_iadd C d_law_907 ?_
          refine V_sld C h.1 d_law_908 ?_
          replace h := h.2
          refine V_cV (As := [.int ((Γ.2.2.2.1.2.2 (Int32.toNatClampNeg (x3 + (1 : Int32)))))]) (rest := []) C k_W_101 lx1 (osh_40 _ _ _ _) (ct_X_state l Γ ad cn S ((Γ.2.2.2.1.2.2 (Int32.toNatClampNeg (x3 + (1 : Int32))))) _ lx1 h) ⟨rfl, rfl⟩ ⟨Nat.le_trans (by decide) hR.1, Nat.le_trans (by decide) hR.2⟩ ⟨(show _ ≤ 600000 by omega), (show _ ≤ 7302250 by omega)⟩ rfl rfl (Nat.le_of_ble_eq_true rfl) d_law_909 (fun r101 S102 h => ?_)
          refine V_sh [(0, .ref Γ.2.2.2.1.1), (1, .ref (ad 40 0)), (2, .ref (ad 0 0)), (3, .int (x3))] [.int (r101)] rfl rfl ?_
          refine V_aload_n 2 C rfl d_law_912 ?_
          refine V_aload_n 0 C rfl d_law_913 ?_
          refine V_iload_n 3 C rfl d_law_914 ?_
          refine V_iconst (v := 1) C (by decide) d_law_915 ?_
          refine V_iadd C d_law_916 ?_
          refine V_sld C h.1 d_law_917 ?_
          replace h := h.2
          refine V_cV (As := [.int ((Γ.2.2.2.1.2.2 (Int32.toNatClampNeg (x3 + (1 : Int32)))))]) (rest := [.int (r101)]) C k_W_104 lx2 (osh_0 _ _ _ _) (ct_M_state l Γ ad cn S102 ((Γ.2.2.2.1.2.2 (Int32.toNatClampNeg (x3 + (1 : Int32))))) _ lx2 h) ⟨rfl, rfl⟩ ⟨Nat.le_trans (by decide) hR.1, Nat.le_trans (by decide) hR.2⟩ ⟨(show _ ≤ 600000 by omega), (show _ ≤ 7302250 by omega)⟩ rfl rfl (Nat.le_of_ble_eq_true rfl) d_law_918 (fun r103 S104 h => ?_)
          refine V_sh [(0, .ref Γ.2.2.2.1.1), (1, .ref (ad 40 0)), (2, .ref (ad 0 0)), (3, .int (x3))] [.int (r103), .int (r101)] rfl rfl ?_
          refine V_icmp_eq C d_law_921 (fun q => ?_) (fun q => ?_)
          · replace h := h.1 q
            refine V_iinc (v := (x3 + 8)) 3 C [(3, .int ((x3 + 8))), (0, .ref Γ.2.2.2.1.1), (1, .ref (ad 40 0)), (2, .ref (ad 0 0))] rfl rfl (by decide) rfl d_law_1007 ?_
            refine V_goto C d_law_1010 ?_
            refine V_lvs [1, 2, 3, 0] [(0, .ref Γ.2.2.2.1.1), (1, .ref (ad 40 0)), (2, .ref (ad 0 0)), (3, .int ((x3 + 8)))] rfl ?_
            exact ih ((x3 + 8)) ad cn S104 _ _ (by omega) (by omega) lx1 lx2 h
          · replace h := h.2 q
            refine V_iconst (v := 0) C (by decide) d_law_924 ?_
            exact h.elim
        · refine V_pc (pc2 := 926) rfl ?_
          replace h := h.2.2.2.2.2.2.2.2.2.2.2.2.2.2.2.2.2.1 q
          refine V_aload_n 1 C rfl d_law_926 ?_
          refine V_aload_n 0 C rfl d_law_927 ?_
          refine V_iload_n 3 C rfl d_law_928 ?_
          refine V_iconst (v := 1) C (by decide) d_law_929 ?_
          refine V_iadd C d_law_930 ?_
          refine V_sld C h.1 d_law_931 ?_
          replace h := h.2
          refine V_aload_n 0 C rfl d_law_932 ?_
          refine V_iload_n 3 C rfl d_law_933 ?_
          refine V_iconst (v := 2) C (by decide) d_law_934 ?_
          refine V_iadd C d_law_935 ?_
          refine V_sld C h.1 d_law_936 ?_
          replace h := h.2
          refine V_cV (As := [.int ((Γ.2.2.2.1.2.2 (Int32.toNatClampNeg (x3 + (1 : Int32))))), .int ((Γ.2.2.2.1.2.2 (Int32.toNatClampNeg (x3 + (2 : Int32)))))]) (rest := []) C k_W_105 lx1 (osh_40 _ _ _ _) (ct_X_transfer l Γ ad cn S ((Γ.2.2.2.1.2.2 (Int32.toNatClampNeg (x3 + (1 : Int32))))) ((Γ.2.2.2.1.2.2 (Int32.toNatClampNeg (x3 + (2 : Int32))))) _ lx1 h) ⟨rfl, rfl⟩ ⟨Nat.le_trans (by decide) hR.1, Nat.le_trans (by decide) hR.2⟩ ⟨(show _ ≤ 600000 by omega), (show _ ≤ 7302250 by omega)⟩ rfl rfl (Nat.le_of_ble_eq_true rfl) d_law_937 (fun r105 S106 h => ?_)
          refine V_sh [(0, .ref Γ.2.2.2.1.1), (1, .ref (ad 40 0)), (2, .ref (ad 0 0)), (3, .int (x3))] [.long (r105)] rfl rfl ?_
          refine V_aload_n 2 C rfl d_law_940 ?_
          refine V_aload_n 0 C rfl d_law_941 ?_
          refine V_iload_n 3 C rfl d_law_942 ?_
          refine V_iconst (v := 1) C (by decide) d_law_943 ?_
          refine V_iadd C d_law_944 ?_
          refine V_sld C h.1 d_law_945 ?_
          replace h := h.2
          refine V_aload_n 0 C rfl d_law_946 ?_
          refine V_iload_n 3 C rfl d_law_947 ?_
          refine V_iconst (v := 2) C (by decide) d_law_948 ?_
          refine V_iadd C d_law_949 ?_
          refine V_sld C h.1 d_law_950 ?_
          replace h := h.2
          refine V_cV (As := [.int ((Γ.2.2.2.1.2.2 (Int32.toNatClampNeg (x3 + (1 : Int32))))), .int ((Γ.2.2.2.1.2.2 (Int32.toNatClampNeg (x3 + (2 : Int32)))))]) (rest := [.long (r105)]) C k_W_109 lx2 (osh_0 _ _ _ _) (ct_M_transfer l Γ ad cn S106 ((Γ.2.2.2.1.2.2 (Int32.toNatClampNeg (x3 + (1 : Int32))))) ((Γ.2.2.2.1.2.2 (Int32.toNatClampNeg (x3 + (2 : Int32))))) _ lx2 h) ⟨rfl, rfl⟩ ⟨Nat.le_trans (by decide) hR.1, Nat.le_trans (by decide) hR.2⟩ ⟨(show _ ≤ 600000 by omega), (show _ ≤ 7302250 by omega)⟩ rfl rfl (Nat.le_of_ble_eq_true rfl) d_law_951 (fun r107 S108 h => ?_)
          refine V_sh [(0, .ref Γ.2.2.2.1.1), (1, .ref (ad 40 0)), (2, .ref (ad 0 0)), (3, .int (x3))] [.long (r107), .long (r105)] rfl rfl ?_
          refine V_lcmp C d_law_954 ?_
          refine V_if_eq C d_law_955 (fun q => ?_) (fun q => ?_)
          · replace h := h.1 q
            refine V_iinc (v := (x3 + 8)) 3 C [(3, .int ((x3 + 8))), (0, .ref Γ.2.2.2.1.1), (1, .ref (ad 40 0)), (2, .ref (ad 0 0))] rfl rfl (by decide) rfl d_law_1007 ?_
            refine V_goto C d_law_1010 ?_
            refine V_lvs [1, 2, 3, 0] [(0, .ref Γ.2.2.2.1.1), (1, .ref (ad 40 0)), (2, .ref (ad 0 0)), (3, .int ((x3 + 8)))] rfl ?_
            exact ih ((x3 + 8)) ad cn S108 _ _ (by omega) (by omega) lx1 lx2 h
          · replace h := h.2 q
            refine V_iconst (v := 0) C (by decide) d_law_958 ?_
            exact h.elim
        · refine V_pc (pc2 := 960) rfl ?_
          replace h := h.2.2.2.2.2.2.2.2.2.2.2.2.2.2.2.2.2.2.1 q
          refine V_aload_n 1 C rfl d_law_960 ?_
          refine V_aload_n 0 C rfl d_law_961 ?_
          refine V_iload_n 3 C rfl d_law_962 ?_
          refine V_iconst (v := 1) C (by decide) d_law_963 ?_
          refine V_iadd C d_law_964 ?_
          refine V_sld C h.1 d_law_965 ?_
          replace h := h.2
          refine V_cV (As := [.int ((Γ.2.2.2.1.2.2 (Int32.toNatClampNeg (x3 + (1 : Int32)))))]) (rest := []) C k_W_110 lx1 (osh_40 _ _ _ _) (ct_X_settlement l Γ ad cn S ((Γ.2.2.2.1.2.2 (Int32.toNatClampNeg (x3 + (1 : Int32))))) _ lx1 h) ⟨rfl, rfl⟩ ⟨Nat.le_trans (by decide) hR.1, Nat.le_trans (by decide) hR.2⟩ ⟨(show _ ≤ 600000 by omega), (show _ ≤ 7302250 by omega)⟩ rfl rfl (Nat.le_of_ble_eq_true rfl) d_law_966 (fun r109 S110 h => ?_)
          refine V_sh [(0, .ref Γ.2.2.2.1.1), (1, .ref (ad 40 0)), (2, .ref (ad 0 0)), (3, .int (x3))] [.long (r109)] rfl rfl ?_
          refine V_aload_n 2 C rfl d_law_969 ?_
          refine V_aload_n 0 C rfl d_law_970 ?_
          refine V_iload_n 3 C rfl d_law_971 ?_
          refine V_iconst (v := 1) C (by decide) d_law_972 ?_
          refine V_iadd C d_law_973 ?_
          refine V_sld C h.1 d_law_974 ?_
          replace h := h.2
          refine V_cV (As := [.int ((Γ.2.2.2.1.2.2 (Int32.toNatClampNeg (x3 + (1 : Int32)))))]) (rest := [.long (r109)]) C k_W_113 lx2 (osh_0 _ _ _ _) (ct_M_settlement l Γ ad cn S110 ((Γ.2.2.2.1.2.2 (Int32.toNatClampNeg (x3 + (1 : Int32))))) _ lx2 h) ⟨rfl, rfl⟩ ⟨Nat.le_trans (by decide) hR.1, Nat.le_trans (by decide) hR.2⟩ ⟨(show _ ≤ 600000 by omega), (show _ ≤ 7302250 by omega)⟩ rfl rfl (Nat.le_of_ble_eq_true rfl) d_law_975 (fun r111 S112 h => ?_)
          refine V_sh [(0, .ref Γ.2.2.2.1.1), (1, .ref (ad 40 0)), (2, .ref (ad 0 0)), (3, .int (x3))] [.long (r111), .long (r109)] rfl rfl ?_
          refine V_lcmp C d_law_978 ?_
          refine V_if_eq C d_law_979 (fun q => ?_) (fun q => ?_)
          · replace h := h.1 q
            refine V_iinc (v := (x3 + 8)) 3 C [(3, .int ((x3 + 8))), (0, .ref Γ.2.2.2.1.1), (1, .ref (ad 40 0)), (2, .ref (ad 0 0))] rfl rfl (by decide) rfl d_law_1007 ?_
            refine V_goto C d_law_1010 ?_
            refine V_lvs [1, 2, 3, 0] [(0, .ref Γ.2.2.2.1.1), (1, .ref (ad 40 0)), (2, .ref (ad 0 0)), (3, .int ((x3 + 8)))] rfl ?_
            exact ih ((x3 + 8)) ad cn S112 _ _ (by omega) (by omega) lx1 lx2 h
          · replace h := h.2 q
            refine V_iconst (v := 0) C (by decide) d_law_982 ?_
            exact h.elim
        · refine V_pc (pc2 := 984) rfl ?_
          replace h := h.2.2.2.2.2.2.2.2.2.2.2.2.2.2.2.2.2.2.2.1 q
          refine V_aload_n 1 C rfl d_law_984 ?_
          refine V_aload_n 0 C rfl d_law_985 ?_
          refine V_iload_n 3 C rfl d_law_986 ?_
          refine V_iconst (v := 1) C (by decide) d_law_987 ?_
          refine V_iadd C d_law_988 ?_
          refine V_sld C h.1 d_law_989 ?_
          replace h := h.2
          refine V_cV (As := [.int ((Γ.2.2.2.1.2.2 (Int32.toNatClampNeg (x3 + (1 : Int32)))))]) (rest := []) C k_W_114 lx1 (osh_40 _ _ _ _) (ct_X_drops l Γ ad cn S ((Γ.2.2.2.1.2.2 (Int32.toNatClampNeg (x3 + (1 : Int32))))) _ lx1 h) ⟨rfl, rfl⟩ ⟨Nat.le_trans (by decide) hR.1, Nat.le_trans (by decide) hR.2⟩ ⟨(show _ ≤ 600000 by omega), (show _ ≤ 7302250 by omega)⟩ rfl rfl (Nat.le_of_ble_eq_true rfl) d_law_990 (fun r113 S114 h => ?_)
          refine V_sh [(0, .ref Γ.2.2.2.1.1), (1, .ref (ad 40 0)), (2, .ref (ad 0 0)), (3, .int (x3))] [.int (r113)] rfl rfl ?_
          refine V_aload_n 2 C rfl d_law_993 ?_
          refine V_aload_n 0 C rfl d_law_994 ?_
          refine V_iload_n 3 C rfl d_law_995 ?_
          refine V_iconst (v := 1) C (by decide) d_law_996 ?_
          refine V_iadd C d_law_997 ?_
          refine V_sld C h.1 d_law_998 ?_
          replace h := h.2
          refine V_cV (As := [.int ((Γ.2.2.2.1.2.2 (Int32.toNatClampNeg (x3 + (1 : Int32)))))]) (rest := [.int (r113)]) C k_W_117 lx2 (osh_0 _ _ _ _) (ct_M_drops l Γ ad cn S114 ((Γ.2.2.2.1.2.2 (Int32.toNatClampNeg (x3 + (1 : Int32))))) _ lx2 h) ⟨rfl, rfl⟩ ⟨Nat.le_trans (by decide) hR.1, Nat.le_trans (by decide) hR.2⟩ ⟨(show _ ≤ 600000 by omega), (show _ ≤ 7302250 by omega)⟩ rfl rfl (Nat.le_of_ble_eq_true rfl) d_law_999 (fun r115 S116 h => ?_)
          refine V_sh [(0, .ref Γ.2.2.2.1.1), (1, .ref (ad 40 0)), (2, .ref (ad 0 0)), (3, .int (x3))] [.int (r115), .int (r113)] rfl rfl ?_
          refine V_icmp_eq C d_law_1002 (fun q => ?_) (fun q => ?_)
          · replace h := h.1 q
            refine V_iinc (v := (x3 + 8)) 3 C [(3, .int ((x3 + 8))), (0, .ref Γ.2.2.2.1.1), (1, .ref (ad 40 0)), (2, .ref (ad 0 0))] rfl rfl (by decide) rfl d_law_1007 ?_
            refine V_goto C d_law_1010 ?_
            refine V_lvs [1, 2, 3, 0] [(0, .ref Γ.2.2.2.1.1), (1, .ref (ad 40 0)), (2, .ref (ad 0 0)), (3, .int ((x3 + 8)))] rfl ?_
            exact ih ((x3 + 8)) ad cn S116 _ _ (by omega) (by omega) lx1 lx2 h
          · replace h := h.2 q
            refine V_iconst (v := 0) C (by decide) d_law_1005 ?_
            exact h.elim
      · replace h := h.2.2.2.2.2.2.2.2.2.2.2.2.2.2.2.2.2.2.2.2 q
        refine V_iinc (v := (x3 + 8)) 3 C [(3, .int ((x3 + 8))), (0, .ref Γ.2.2.2.1.1), (1, .ref (ad 40 0)), (2, .ref (ad 0 0))] rfl rfl (by decide) rfl d_law_1007 ?_
        refine V_goto C d_law_1010 ?_
        refine V_lvs [1, 2, 3, 0] [(0, .ref Γ.2.2.2.1.1), (1, .ref (ad 40 0)), (2, .ref (ad 0 0)), (3, .int ((x3 + 8)))] rfl ?_
        exact ih ((x3 + 8)) ad cn S _ _ (by omega) (by omega) lx1 lx2 h
set_option maxRecDepth 100000 in
set_option maxHeartbeats 16000000 in
theorem ct_law {p : Program} {l : Launch} {e : Env} {s : State} {m : MethodId} {b : Nat} {below : List Frame} {meth : Method} {c : Code} {Γ : oGm} {ad : oAd} {cn : Nat → Nat} {S : oSt} (C : Cx p s m #[Value.ref b] meth c Γ code 4 "ValueConnectorLaw") (hb0 : s.heap.size ≤ Γ.2.2.1) (hr : meth.sig.returnType = ret) (h : wp_law Γ.2.2.2.1.2.1 Γ.2.2.2.1.2.2 cn S) : Vv p l e room_1 s m #[Value.ref b] below meth c (lw_Z below #[Value.ref b] s) Γ 4 0 0 ad cn S 0 [(0, .ref Γ.2.2.2.1.1)] [] := by
  have hR : 6 ≤ room_1.frames ∧ 167 ≤ room_1.locals := by decide
  unfold wp_law at h
  refine V_new (k := 40) C (fun z => [(0, .ref Γ.2.2.2.1.1)]) (fun z => []) rfl rfl (fun z hz => ⟨rfl, rfl⟩) n_W_7 (osh_40 _ _ _ _) (by decide) (by decide) d_law_0 (fun i1 ad2 cn3 S4 ei5 ec5 es5 hx5 hc5 li1 => ?_)
  replace h := h i1 cn3 S4 ei5 ec5 es5
  refine V_sh [(0, .ref Γ.2.2.2.1.1)] [.ref (ad2 40 i1)] rfl rfl ?_
  refine V_dup C rfl d_law_3 ?_
  refine V_aload_n 0 C rfl d_law_4 ?_
  refine V_iconst (v := 0) C (by decide) d_law_5 ?_
  refine V_cS (As := [.ref Γ.2.2.2.1.1, .int ((0 : Int32))]) (rest := [.ref (ad2 40 i1), .ref (ad2 40 i1)]) C k_W_9 (ct_W_cell l Γ ad2 cn3 S4 ((0 : Int32)) _  h) ⟨rfl, rfl⟩ ⟨Nat.le_trans (by decide) hR.1, Nat.le_trans (by decide) hR.2⟩ ⟨by decide, by decide⟩ rfl rfl (Nat.le_of_ble_eq_true rfl) d_law_6 (fun r6 S7 h => ?_)
  refine V_sh [(0, .ref Γ.2.2.2.1.1)] [.int (r6), .ref (ad2 40 i1), .ref (ad2 40 i1)] rfl rfl ?_
  refine V_aload_n 0 C rfl d_law_9 ?_
  refine V_iconst (v := 1) C (by decide) d_law_10 ?_
  refine V_cS (As := [.ref Γ.2.2.2.1.1, .int ((1 : Int32))]) (rest := [.int (r6), .ref (ad2 40 i1), .ref (ad2 40 i1)]) C k_W_9 (ct_W_cell l Γ ad2 cn3 S7 ((1 : Int32)) _  h) ⟨rfl, rfl⟩ ⟨Nat.le_trans (by decide) hR.1, Nat.le_trans (by decide) hR.2⟩ ⟨by decide, by decide⟩ rfl rfl (Nat.le_of_ble_eq_true rfl) d_law_11 (fun r8 S9 h => ?_)
  refine V_sh [(0, .ref Γ.2.2.2.1.1)] [.int (r8), .int (r6), .ref (ad2 40 i1), .ref (ad2 40 i1)] rfl rfl ?_
  obtain ⟨q, hq10⟩ := h
  subst q
  have h := hq10
  refine V_cIn (As := [.int (r6), .int (r8)]) C (fun z => [(0, .ref Γ.2.2.2.1.1)]) (fun z => [.ref (z 40 0)]) rfl rfl (fun z hz => ⟨rfl, by simp only [hz _ _ li1]⟩) k_W_15 (ct_X_init l Γ ad2 cn3 S9 (r6) (r8) _ li1 h) ⟨rfl, rfl⟩ ⟨Nat.le_trans (by decide) hR.1, Nat.le_trans (by decide) hR.2⟩ ⟨by decide, by decide⟩ rfl rfl (Nat.le_of_ble_eq_true rfl) d_law_14 (fun r11 ad14 cn13 S12 hx15 hc15 h => ?_)
  have li1 := Nat.lt_of_lt_of_le li1 (hc15 _)
  refine V_sh [(0, .ref Γ.2.2.2.1.1)] [.ref (ad14 40 0)] rfl rfl ?_
  refine V_astore_n C [(1, .ref (ad14 40 0)), (0, .ref Γ.2.2.2.1.1)] (by decide) rfl d_law_17 ?_
  refine V_new (k := 0) C (fun z => [(1, .ref (z 40 0)), (0, .ref Γ.2.2.2.1.1)]) (fun z => []) rfl rfl (fun z hz => ⟨by simp only [hz _ _ li1], rfl⟩) n_W_18 (osh_0 _ _ _ _) (by decide) (by decide) d_law_18 (fun i16 ad17 cn18 S19 ei20 ec20 es20 hx20 hc20 li16 => ?_)
  replace h := h i16 cn18 S19 ei20 ec20 es20
  have li1 := Nat.lt_of_lt_of_le li1 (hc20 _)
  refine V_sh [(1, .ref (ad17 40 0)), (0, .ref Γ.2.2.2.1.1)] [.ref (ad17 0 i16)] rfl rfl ?_
  refine V_dup C rfl d_law_21 ?_
  refine V_aload_n 1 C rfl d_law_22 ?_
  refine V_iconst (v := 0) C (by decide) d_law_23 ?_
  refine V_cS (As := [.ref Γ.2.2.2.1.1, .int ((0 : Int32))]) (rest := [.ref (ad17 0 i16), .ref (ad17 0 i16)]) C k_W_9 (ct_W_cell l Γ ad17 cn18 S19 ((0 : Int32)) _  h) ⟨rfl, rfl⟩ ⟨Nat.le_trans (by decide) hR.1, Nat.le_trans (by decide) hR.2⟩ ⟨by decide, by decide⟩ rfl rfl (Nat.le_of_ble_eq_true rfl) d_law_24 (fun r21 S22 h => ?_)
  refine V_sh [(1, .ref (ad17 40 0)), (0, .ref Γ.2.2.2.1.1)] [.int (r21), .ref (ad17 0 i16), .ref (ad17 0 i16)] rfl rfl ?_
  refine V_aload_n 1 C rfl d_law_27 ?_
  refine V_iconst (v := 1) C (by decide) d_law_28 ?_
  refine V_cS (As := [.ref Γ.2.2.2.1.1, .int ((1 : Int32))]) (rest := [.int (r21), .ref (ad17 0 i16), .ref (ad17 0 i16)]) C k_W_9 (ct_W_cell l Γ ad17 cn18 S22 ((1 : Int32)) _  h) ⟨rfl, rfl⟩ ⟨Nat.le_trans (by decide) hR.1, Nat.le_trans (by decide) hR.2⟩ ⟨by decide, by decide⟩ rfl rfl (Nat.le_of_ble_eq_true rfl) d_law_29 (fun r23 S24 h => ?_)
  refine V_sh [(1, .ref (ad17 40 0)), (0, .ref Γ.2.2.2.1.1)] [.int (r23), .int (r21), .ref (ad17 0 i16), .ref (ad17 0 i16)] rfl rfl ?_
  obtain ⟨q, hq25⟩ := h
  subst q
  have h := hq25
  refine V_cIn (As := [.int (r21), .int (r23)]) C (fun z => [(1, .ref (z 40 0)), (0, .ref Γ.2.2.2.1.1)]) (fun z => [.ref (z 0 0)]) rfl rfl (fun z hz => ⟨by simp only [hz _ _ li1], by simp only [hz _ _ li16]⟩) k_W_20 (ct_M_init l Γ ad17 cn18 S24 (r21) (r23) _ li16 h) ⟨rfl, rfl⟩ ⟨Nat.le_trans (by decide) hR.1, Nat.le_trans (by decide) hR.2⟩ ⟨by decide, by decide⟩ rfl rfl (Nat.le_of_ble_eq_true rfl) d_law_32 (fun r26 ad29 cn28 S27 hx30 hc30 h => ?_)
  have li1 := Nat.lt_of_lt_of_le li1 (hc30 _)
  have li16 := Nat.lt_of_lt_of_le li16 (hc30 _)
  refine V_sh [(1, .ref (ad29 40 0)), (0, .ref Γ.2.2.2.1.1)] [.ref (ad29 0 0)] rfl rfl ?_
  refine V_astore_n C [(2, .ref (ad29 0 0)), (1, .ref (ad29 40 0)), (0, .ref Γ.2.2.2.1.1)] (by decide) rfl d_law_35 ?_
  refine V_iconst (v := 2) C (by decide) d_law_36 ?_
  refine V_istore_n C [(3, .int ((2 : Int32))), (2, .ref (ad29 0 0)), (1, .ref (ad29 40 0)), (0, .ref Γ.2.2.2.1.1)] (by decide) rfl d_law_37 ?_
  refine V_lvs [3, 2, 1, 0] [(0, .ref Γ.2.2.2.1.1), (1, .ref (ad29 40 0)), (2, .ref (ad29 0 0)), (3, .int ((2 : Int32)))] rfl ?_
  exact B_law_L C hb0 hr 513 ((2 : Int32)) ad29 cn28 S27 _ _ (by decide) (by decide) li1 li16 h
