/-! THE CLAIM OUT OF ONE WALK OF THE LAW'S BODY. Your part is whole_start (and what it stands on); all else here is the same for every law, but numbers. -/
def R_law : String := "ValueConnectorLaw"
def lw_P (b : Addr) (xs : List Int32) (args : Array Value) (s : State) : Prop := args = #[.ref b] ∧ s.IntsAt b xs ∧ xs.length ≤ 4098 ∧ (Jvm.Cond.and given_1 narrow_1).before args s = true
def lw_Q (_ : Array Value) (s : State) (o : Outcome) (t : State) : Prop := o = .returned (some (.int 1)) ∧ Framed s o t [] 600000 7302250
def lw_Z (below : List Frame) (a : Array Value) (s : State) : State → Prop := fun t => ∃ o, t.status = .running ∧ Ended t below o ∧ lw_Q a s o t
/-- the law's own end, with 1 on the stack, nothing written that was there before, its room as the claim has it -/
theorem lw_ret {p : Program} {l : Launch} {e : Env} {s : State} {m : MethodId} {below : List Frame} {meth : Method} {c : Code} {b : Nat} (hx : p.tables.exec = Jvm.exec) (hb : c.code = code) (hr : meth.sig.returnType = ret) (hlocks : meth.locks = false) {pc : Nat} {H : Heap} {ls : Array Slot} (hdg : decode code pc = .ok (.ireturn, 1)) : W p l e room_1 s m #[Value.ref b] below meth c H [] 600000 7302250 (lw_Z below #[Value.ref b] s) (F0 m pc ls [.int 1]) := by
  intro T hT X
  obtain ⟨fs, hret, hrun, hended, hW, hframe⟩ := X.leave (v := some (.int 1)) (hlocks := hlocks) (fun h => by rw [hr] at h; cases h)
  have hmeth' : T.vm.method? m = some meth := X.method'
  refine ⟨T.setFrames fs, ?_, .returned (some (.int 1)), hrun, hended, rfl, ⟨_, rfl⟩, hW, hframe⟩
  jvm_step X.here [X.here.top, hx, hb, hdg, hmeth', hr, ret, narrow_b1]
  (try refine ⟨rfl, ?_⟩); (try refine ⟨rfl, ?_⟩)
  first | (intro acts; rw [hret _ acts rfl rfl rfl]) | rw [hret _ _ rfl rfl rfl]
  exact Steps.refl _
/-- what holds at the law's entry: the machine, the code, the tables' words (any of lw_tbl by 'hts w (by decide +kernel)'), the script of L ints xs at the cell b, what the Statement gives of the start (any of its parts by flat_of_before) -/
def lw_At (p : Program) (s : State) (m : MethodId) (meth : Method) (c : Code) (b L : Nat) (xs : Nat → Int32) : Prop :=
  p.tables.exec = Jvm.exec ∧ c.code = code ∧ meth.sig.returnType = ret ∧ c.maxLocals = 4 ∧ s.vm.findClass R_law = some m.cls ∧ (∀ w ∈ lw_tbl, w.before #[Value.ref b] s = true) ∧ va_X b L xs s s.heap ∧ b < s.heap.size ∧ meth.locks = false ∧ (Jvm.Cond.and given_1 narrow_1).before #[Value.ref b] s = true
theorem w_9 : (Jvm.Cond.classLink "ValueConnectorLaw" (7 : Nat) "ValueConnector") ∈ oWS := oat 25 (by decide +kernel) rfl
theorem w_10 : (Jvm.Cond.instantiable "ValueConnector" (11 : Nat)) ∈ oWS := oat 26 (by decide +kernel) rfl
theorem n_W_7 : Nk "ValueConnectorLaw" 7 1 11 (fl_40 (fun _ => 0) (fun _ => 0) (fun _ => none)) := ⟨_, _, ty_X, rfl, uw_X, ok_X, w_9, w_10, w_1, fun j hj => by
  have h9 : j = 0 ∨ j = 1 ∨ j = 2 ∨ j = 3 ∨ j = 4 ∨ j = 5 ∨ j = 6 ∨ j = 7 ∨ j = 8 ∨ j = 9 ∨ j = 10 := by omega
  rcases h9 with rfl | rfl | rfl | rfl | rfl | rfl | rfl | rfl | rfl | rfl | rfl <;> rfl⟩
theorem w_0 : (Jvm.Cond.initialized "ValueConnectorLaw") ∈ oWS := oat 16 (by decide +kernel) rfl
theorem w_396 : (Jvm.Cond.code ({ cls := "ValueConnectorLaw", name := "cell", desc := "([II)I" } : Jvm.MethodName) method_2_code (2 : Nat) (Option.some Jvm.ClassFile.FieldType.int)) ∈ oWS := oat 412 (by decide +kernel) rfl
theorem w_394 : (Jvm.Cond.methodLink "ValueConnectorLaw" (9 : Nat) ({ cls := "ValueConnectorLaw", name := "cell", desc := "([II)I" } : Jvm.MethodName)) ∈ oWS := oat 410 (by decide +kernel) rfl
theorem w_395 : (Jvm.Cond.static ({ cls := "ValueConnectorLaw", name := "cell", desc := "([II)I" } : Jvm.MethodName)) ∈ oWS := oat 411 (by decide +kernel) rfl
theorem k_W_9 : Ks "ValueConnectorLaw" 9 y_W_cell method_2_code 2 (some .int) 2 := ⟨w_394, w_395, w_0, w_396, ⟨by decide, by decide, by decide +kernel⟩⟩
theorem w_13 : (Jvm.Cond.code ({ cls := "ValueConnector", name := "<init>", desc := "(II)V" } : Jvm.MethodName) prog_1_method_1_code (3 : Nat) (Option.none : Option Jvm.ClassFile.FieldType)) ∈ oWS := oat 29 (by decide +kernel) rfl
theorem w_11 : (Jvm.Cond.methodLink "ValueConnectorLaw" (15 : Nat) ({ cls := "ValueConnector", name := "<init>", desc := "(II)V" } : Jvm.MethodName)) ∈ oWS := oat 27 (by decide +kernel) rfl
theorem w_12 : (Jvm.Cond.instanceMethod ({ cls := "ValueConnector", name := "<init>", desc := "(II)V" } : Jvm.MethodName)) ∈ oWS := oat 28 (by decide +kernel) rfl
theorem k_W_15 : Ki "ValueConnectorLaw" 15 y_X_init prog_1_method_1_code 3 2 := ⟨w_11, w_12, w_1, w_13, ⟨by decide, by decide, by decide +kernel⟩, rfl⟩
theorem w_397 : (Jvm.Cond.classLink "ValueConnectorLaw" (18 : Nat) "ValueConnectorModel") ∈ oWS := oat 413 (by decide +kernel) rfl
theorem w_398 : (Jvm.Cond.instantiable "ValueConnectorModel" (33 : Nat)) ∈ oWS := oat 414 (by decide +kernel) rfl
theorem n_W_18 : Nk "ValueConnectorLaw" 18 0 33 (fl_0 (fun _ => 0) (fun _ => 0) (fun _ => none)) := ⟨_, _, ty_M, rfl, uw_M, ok_M, w_397, w_398, w_3, fun j hj => by
  have h9 : j = 0 ∨ j = 1 ∨ j = 2 ∨ j = 3 ∨ j = 4 ∨ j = 5 ∨ j = 6 ∨ j = 7 ∨ j = 8 ∨ j = 9 ∨ j = 10 ∨ j = 11 ∨ j = 12 ∨ j = 13 ∨ j = 14 ∨ j = 15 ∨ j = 16 ∨ j = 17 ∨ j = 18 ∨ j = 19 ∨ j = 20 ∨ j = 21 ∨ j = 22 ∨ j = 23 ∨ j = 24 ∨ j = 25 ∨ j = 26 ∨ j = 27 ∨ j = 28 ∨ j = 29 ∨ j = 30 ∨ j = 31 ∨ j = 32 := by omega
  rcases h9 with rfl | rfl | rfl | rfl | rfl | rfl | rfl | rfl | rfl | rfl | rfl | rfl | rfl | rfl | rfl | rfl | rfl | rfl | rfl | rfl | rfl | rfl | rfl | rfl | rfl | rfl | rfl | rfl | rfl | rfl | rfl | rfl | rfl <;> rfl⟩
theorem w_401 : (Jvm.Cond.code ({ cls := "ValueConnectorModel", name := "<init>", desc := "(II)V" } : Jvm.MethodName) prog_8_method_1_code (3 : Nat) (Option.none : Option Jvm.ClassFile.FieldType)) ∈ oWS := oat 417 (by decide +kernel) rfl
theorem w_399 : (Jvm.Cond.methodLink "ValueConnectorLaw" (20 : Nat) ({ cls := "ValueConnectorModel", name := "<init>", desc := "(II)V" } : Jvm.MethodName)) ∈ oWS := oat 415 (by decide +kernel) rfl
theorem w_400 : (Jvm.Cond.instanceMethod ({ cls := "ValueConnectorModel", name := "<init>", desc := "(II)V" } : Jvm.MethodName)) ∈ oWS := oat 416 (by decide +kernel) rfl
theorem k_W_20 : Ki "ValueConnectorLaw" 20 y_M_init prog_8_method_1_code 3 2 := ⟨w_399, w_400, w_3, w_401, ⟨by decide, by decide, by decide +kernel⟩, rfl⟩
theorem w_83 : (Jvm.Cond.code ({ cls := "ValueConnector", name := "account", desc := "(III)I" } : Jvm.MethodName) prog_1_method_2_code (5 : Nat) (Option.some Jvm.ClassFile.FieldType.int)) ∈ oWS := oat 99 (by decide +kernel) rfl
theorem w_80 : (Jvm.Cond.methodLink "ValueConnectorLaw" (21 : Nat) ({ cls := "ValueConnector", name := "account", desc := "(III)I" } : Jvm.MethodName)) ∈ oWS := oat 96 (by decide +kernel) rfl
theorem w_81 : (Jvm.Cond.instanceMethod ({ cls := "ValueConnector", name := "account", desc := "(III)I" } : Jvm.MethodName)) ∈ oWS := oat 97 (by decide +kernel) rfl
theorem w_82 : (Jvm.Cond.selects "ValueConnector" ({ cls := "ValueConnector", name := "account", desc := "(III)I" } : Jvm.MethodName) ({ cls := "ValueConnector", name := "account", desc := "(III)I" } : Jvm.MethodName)) ∈ oWS := oat 98 (by decide +kernel) rfl
theorem k_W_21 : Kv "ValueConnectorLaw" 21 1 y_X_account prog_1_method_2_code 5 (some .int) 3 := ⟨w_80, w_81, w_82, w_1, w_83, ⟨by decide, by decide, by decide +kernel⟩, _, _, rfl⟩
theorem w_507 : (Jvm.Cond.code ({ cls := "ValueConnectorModel", name := "account", desc := "(III)I" } : Jvm.MethodName) prog_8_method_3_code (4 : Nat) (Option.some Jvm.ClassFile.FieldType.int)) ∈ oWS := oat 523 (by decide +kernel) rfl
theorem w_504 : (Jvm.Cond.methodLink "ValueConnectorLaw" (25 : Nat) ({ cls := "ValueConnectorModel", name := "account", desc := "(III)I" } : Jvm.MethodName)) ∈ oWS := oat 520 (by decide +kernel) rfl
theorem w_505 : (Jvm.Cond.instanceMethod ({ cls := "ValueConnectorModel", name := "account", desc := "(III)I" } : Jvm.MethodName)) ∈ oWS := oat 521 (by decide +kernel) rfl
theorem w_506 : (Jvm.Cond.selects "ValueConnectorModel" ({ cls := "ValueConnectorModel", name := "account", desc := "(III)I" } : Jvm.MethodName) ({ cls := "ValueConnectorModel", name := "account", desc := "(III)I" } : Jvm.MethodName)) ∈ oWS := oat 522 (by decide +kernel) rfl
theorem k_W_25 : Kv "ValueConnectorLaw" 25 0 y_M_account prog_8_method_3_code 4 (some .int) 3 := ⟨w_504, w_505, w_506, w_3, w_507, ⟨by decide, by decide, by decide +kernel⟩, _, _, rfl⟩
theorem w_176 : (Jvm.Cond.code ({ cls := "ValueConnector", name := "worth", desc := "(II)Z" } : Jvm.MethodName) prog_1_method_3_code (4 : Nat) (Option.some Jvm.ClassFile.FieldType.boolean)) ∈ oWS := oat 192 (by decide +kernel) rfl
theorem w_173 : (Jvm.Cond.methodLink "ValueConnectorLaw" (26 : Nat) ({ cls := "ValueConnector", name := "worth", desc := "(II)Z" } : Jvm.MethodName)) ∈ oWS := oat 189 (by decide +kernel) rfl
theorem w_174 : (Jvm.Cond.instanceMethod ({ cls := "ValueConnector", name := "worth", desc := "(II)Z" } : Jvm.MethodName)) ∈ oWS := oat 190 (by decide +kernel) rfl
theorem w_175 : (Jvm.Cond.selects "ValueConnector" ({ cls := "ValueConnector", name := "worth", desc := "(II)Z" } : Jvm.MethodName) ({ cls := "ValueConnector", name := "worth", desc := "(II)Z" } : Jvm.MethodName)) ∈ oWS := oat 191 (by decide +kernel) rfl
theorem k_W_26 : Kv "ValueConnectorLaw" 26 1 y_X_worth prog_1_method_3_code 4 (some .boolean) 2 := ⟨w_173, w_174, w_175, w_1, w_176, ⟨by decide, by decide, by decide +kernel⟩, _, _, rfl⟩
theorem w_513 : (Jvm.Cond.code ({ cls := "ValueConnectorModel", name := "worth", desc := "(II)Z" } : Jvm.MethodName) prog_8_method_4_code (3 : Nat) (Option.some Jvm.ClassFile.FieldType.boolean)) ∈ oWS := oat 529 (by decide +kernel) rfl
theorem w_510 : (Jvm.Cond.methodLink "ValueConnectorLaw" (30 : Nat) ({ cls := "ValueConnectorModel", name := "worth", desc := "(II)Z" } : Jvm.MethodName)) ∈ oWS := oat 526 (by decide +kernel) rfl
theorem w_511 : (Jvm.Cond.instanceMethod ({ cls := "ValueConnectorModel", name := "worth", desc := "(II)Z" } : Jvm.MethodName)) ∈ oWS := oat 527 (by decide +kernel) rfl
theorem w_512 : (Jvm.Cond.selects "ValueConnectorModel" ({ cls := "ValueConnectorModel", name := "worth", desc := "(II)Z" } : Jvm.MethodName) ({ cls := "ValueConnectorModel", name := "worth", desc := "(II)Z" } : Jvm.MethodName)) ∈ oWS := oat 528 (by decide +kernel) rfl
theorem k_W_30 : Kv "ValueConnectorLaw" 30 0 y_M_worth prog_8_method_4_code 3 (some .boolean) 2 := ⟨w_510, w_511, w_512, w_3, w_513, ⟨by decide, by decide, by decide +kernel⟩, _, _, rfl⟩
theorem w_184 : (Jvm.Cond.code ({ cls := "ValueConnector", name := "spread", desc := "(I)Z" } : Jvm.MethodName) prog_1_method_4_code (2 : Nat) (Option.some Jvm.ClassFile.FieldType.boolean)) ∈ oWS := oat 200 (by decide +kernel) rfl
theorem w_181 : (Jvm.Cond.methodLink "ValueConnectorLaw" (31 : Nat) ({ cls := "ValueConnector", name := "spread", desc := "(I)Z" } : Jvm.MethodName)) ∈ oWS := oat 197 (by decide +kernel) rfl
theorem w_182 : (Jvm.Cond.instanceMethod ({ cls := "ValueConnector", name := "spread", desc := "(I)Z" } : Jvm.MethodName)) ∈ oWS := oat 198 (by decide +kernel) rfl
theorem w_183 : (Jvm.Cond.selects "ValueConnector" ({ cls := "ValueConnector", name := "spread", desc := "(I)Z" } : Jvm.MethodName) ({ cls := "ValueConnector", name := "spread", desc := "(I)Z" } : Jvm.MethodName)) ∈ oWS := oat 199 (by decide +kernel) rfl
theorem k_W_31 : Kv "ValueConnectorLaw" 31 1 y_X_spread prog_1_method_4_code 2 (some .boolean) 1 := ⟨w_181, w_182, w_183, w_1, w_184, ⟨by decide, by decide, by decide +kernel⟩, _, _, rfl⟩
theorem w_521 : (Jvm.Cond.code ({ cls := "ValueConnectorModel", name := "spread", desc := "(I)Z" } : Jvm.MethodName) prog_8_method_5_code (2 : Nat) (Option.some Jvm.ClassFile.FieldType.boolean)) ∈ oWS := oat 537 (by decide +kernel) rfl
theorem w_518 : (Jvm.Cond.methodLink "ValueConnectorLaw" (35 : Nat) ({ cls := "ValueConnectorModel", name := "spread", desc := "(I)Z" } : Jvm.MethodName)) ∈ oWS := oat 534 (by decide +kernel) rfl
theorem w_519 : (Jvm.Cond.instanceMethod ({ cls := "ValueConnectorModel", name := "spread", desc := "(I)Z" } : Jvm.MethodName)) ∈ oWS := oat 535 (by decide +kernel) rfl
theorem w_520 : (Jvm.Cond.selects "ValueConnectorModel" ({ cls := "ValueConnectorModel", name := "spread", desc := "(I)Z" } : Jvm.MethodName) ({ cls := "ValueConnectorModel", name := "spread", desc := "(I)Z" } : Jvm.MethodName)) ∈ oWS := oat 536 (by decide +kernel) rfl
theorem k_W_35 : Kv "ValueConnectorLaw" 35 0 y_M_spread prog_8_method_5_code 2 (some .boolean) 1 := ⟨w_518, w_519, w_520, w_3, w_521, ⟨by decide, by decide, by decide +kernel⟩, _, _, rfl⟩
theorem w_188 : (Jvm.Cond.code ({ cls := "ValueConnector", name := "policy", desc := "(IIII)Z" } : Jvm.MethodName) prog_1_method_5_code (6 : Nat) (Option.some Jvm.ClassFile.FieldType.boolean)) ∈ oWS := oat 204 (by decide +kernel) rfl
theorem w_185 : (Jvm.Cond.methodLink "ValueConnectorLaw" (36 : Nat) ({ cls := "ValueConnector", name := "policy", desc := "(IIII)Z" } : Jvm.MethodName)) ∈ oWS := oat 201 (by decide +kernel) rfl
theorem w_186 : (Jvm.Cond.instanceMethod ({ cls := "ValueConnector", name := "policy", desc := "(IIII)Z" } : Jvm.MethodName)) ∈ oWS := oat 202 (by decide +kernel) rfl
theorem w_187 : (Jvm.Cond.selects "ValueConnector" ({ cls := "ValueConnector", name := "policy", desc := "(IIII)Z" } : Jvm.MethodName) ({ cls := "ValueConnector", name := "policy", desc := "(IIII)Z" } : Jvm.MethodName)) ∈ oWS := oat 203 (by decide +kernel) rfl
theorem k_W_36 : Kv "ValueConnectorLaw" 36 1 y_X_policy prog_1_method_5_code 6 (some .boolean) 4 := ⟨w_185, w_186, w_187, w_1, w_188, ⟨by decide, by decide, by decide +kernel⟩, _, _, rfl⟩
theorem w_525 : (Jvm.Cond.code ({ cls := "ValueConnectorModel", name := "policy", desc := "(IIII)Z" } : Jvm.MethodName) prog_8_method_6_code (5 : Nat) (Option.some Jvm.ClassFile.FieldType.boolean)) ∈ oWS := oat 541 (by decide +kernel) rfl
theorem w_522 : (Jvm.Cond.methodLink "ValueConnectorLaw" (40 : Nat) ({ cls := "ValueConnectorModel", name := "policy", desc := "(IIII)Z" } : Jvm.MethodName)) ∈ oWS := oat 538 (by decide +kernel) rfl
theorem w_523 : (Jvm.Cond.instanceMethod ({ cls := "ValueConnectorModel", name := "policy", desc := "(IIII)Z" } : Jvm.MethodName)) ∈ oWS := oat 539 (by decide +kernel) rfl
theorem w_524 : (Jvm.Cond.selects "ValueConnectorModel" ({ cls := "ValueConnectorModel", name := "policy", desc := "(IIII)Z" } : Jvm.MethodName) ({ cls := "ValueConnectorModel", name := "policy", desc := "(IIII)Z" } : Jvm.MethodName)) ∈ oWS := oat 540 (by decide +kernel) rfl
theorem k_W_40 : Kv "ValueConnectorLaw" 40 0 y_M_policy prog_8_method_6_code 5 (some .boolean) 4 := ⟨w_522, w_523, w_524, w_3, w_525, ⟨by decide, by decide, by decide +kernel⟩, _, _, rfl⟩
theorem w_194 : (Jvm.Cond.code ({ cls := "ValueConnector", name := "bucket", desc := "(III)Z" } : Jvm.MethodName) prog_1_method_6_code (5 : Nat) (Option.some Jvm.ClassFile.FieldType.boolean)) ∈ oWS := oat 210 (by decide +kernel) rfl
theorem w_191 : (Jvm.Cond.methodLink "ValueConnectorLaw" (41 : Nat) ({ cls := "ValueConnector", name := "bucket", desc := "(III)Z" } : Jvm.MethodName)) ∈ oWS := oat 207 (by decide +kernel) rfl
theorem w_192 : (Jvm.Cond.instanceMethod ({ cls := "ValueConnector", name := "bucket", desc := "(III)Z" } : Jvm.MethodName)) ∈ oWS := oat 208 (by decide +kernel) rfl
theorem w_193 : (Jvm.Cond.selects "ValueConnector" ({ cls := "ValueConnector", name := "bucket", desc := "(III)Z" } : Jvm.MethodName) ({ cls := "ValueConnector", name := "bucket", desc := "(III)Z" } : Jvm.MethodName)) ∈ oWS := oat 209 (by decide +kernel) rfl
theorem k_W_41 : Kv "ValueConnectorLaw" 41 1 y_X_bucket prog_1_method_6_code 5 (some .boolean) 3 := ⟨w_191, w_192, w_193, w_1, w_194, ⟨by decide, by decide, by decide +kernel⟩, _, _, rfl⟩
theorem w_529 : (Jvm.Cond.code ({ cls := "ValueConnectorModel", name := "bucket", desc := "(III)Z" } : Jvm.MethodName) prog_8_method_7_code (4 : Nat) (Option.some Jvm.ClassFile.FieldType.boolean)) ∈ oWS := oat 545 (by decide +kernel) rfl
theorem w_526 : (Jvm.Cond.methodLink "ValueConnectorLaw" (45 : Nat) ({ cls := "ValueConnectorModel", name := "bucket", desc := "(III)Z" } : Jvm.MethodName)) ∈ oWS := oat 542 (by decide +kernel) rfl
theorem w_527 : (Jvm.Cond.instanceMethod ({ cls := "ValueConnectorModel", name := "bucket", desc := "(III)Z" } : Jvm.MethodName)) ∈ oWS := oat 543 (by decide +kernel) rfl
theorem w_528 : (Jvm.Cond.selects "ValueConnectorModel" ({ cls := "ValueConnectorModel", name := "bucket", desc := "(III)Z" } : Jvm.MethodName) ({ cls := "ValueConnectorModel", name := "bucket", desc := "(III)Z" } : Jvm.MethodName)) ∈ oWS := oat 544 (by decide +kernel) rfl
theorem k_W_45 : Kv "ValueConnectorLaw" 45 0 y_M_bucket prog_8_method_7_code 4 (some .boolean) 3 := ⟨w_526, w_527, w_528, w_3, w_529, ⟨by decide, by decide, by decide +kernel⟩, _, _, rfl⟩
theorem w_631 : (Jvm.Cond.constantLong "ValueConnectorLaw" (46 : Nat) (4294967295 : Int64)) ∈ oWS := oat 647 (by decide +kernel) rfl
theorem w_199 : (Jvm.Cond.code ({ cls := "ValueConnector", name := "learn", desc := "(IJI)Z" } : Jvm.MethodName) prog_1_method_7_code (5 : Nat) (Option.some Jvm.ClassFile.FieldType.boolean)) ∈ oWS := oat 215 (by decide +kernel) rfl
theorem w_196 : (Jvm.Cond.methodLink "ValueConnectorLaw" (48 : Nat) ({ cls := "ValueConnector", name := "learn", desc := "(IJI)Z" } : Jvm.MethodName)) ∈ oWS := oat 212 (by decide +kernel) rfl
theorem w_197 : (Jvm.Cond.instanceMethod ({ cls := "ValueConnector", name := "learn", desc := "(IJI)Z" } : Jvm.MethodName)) ∈ oWS := oat 213 (by decide +kernel) rfl
theorem w_198 : (Jvm.Cond.selects "ValueConnector" ({ cls := "ValueConnector", name := "learn", desc := "(IJI)Z" } : Jvm.MethodName) ({ cls := "ValueConnector", name := "learn", desc := "(IJI)Z" } : Jvm.MethodName)) ∈ oWS := oat 214 (by decide +kernel) rfl
theorem k_W_48 : Kv "ValueConnectorLaw" 48 1 y_X_learn prog_1_method_7_code 5 (some .boolean) 3 := ⟨w_196, w_197, w_198, w_1, w_199, ⟨by decide, by decide, by decide +kernel⟩, _, _, rfl⟩
theorem w_533 : (Jvm.Cond.code ({ cls := "ValueConnectorModel", name := "learn", desc := "(IJI)Z" } : Jvm.MethodName) prog_8_method_11_code (6 : Nat) (Option.some Jvm.ClassFile.FieldType.boolean)) ∈ oWS := oat 549 (by decide +kernel) rfl
theorem w_530 : (Jvm.Cond.methodLink "ValueConnectorLaw" (52 : Nat) ({ cls := "ValueConnectorModel", name := "learn", desc := "(IJI)Z" } : Jvm.MethodName)) ∈ oWS := oat 546 (by decide +kernel) rfl
theorem w_531 : (Jvm.Cond.instanceMethod ({ cls := "ValueConnectorModel", name := "learn", desc := "(IJI)Z" } : Jvm.MethodName)) ∈ oWS := oat 547 (by decide +kernel) rfl
theorem w_532 : (Jvm.Cond.selects "ValueConnectorModel" ({ cls := "ValueConnectorModel", name := "learn", desc := "(IJI)Z" } : Jvm.MethodName) ({ cls := "ValueConnectorModel", name := "learn", desc := "(IJI)Z" } : Jvm.MethodName)) ∈ oWS := oat 548 (by decide +kernel) rfl
theorem k_W_52 : Kv "ValueConnectorLaw" 52 0 y_M_learn prog_8_method_11_code 6 (some .boolean) 3 := ⟨w_530, w_531, w_532, w_3, w_533, ⟨by decide, by decide, by decide +kernel⟩, _, _, rfl⟩
theorem w_220 : (Jvm.Cond.code ({ cls := "ValueConnector", name := "forget", desc := "(IJ)Z" } : Jvm.MethodName) prog_1_method_8_code (4 : Nat) (Option.some Jvm.ClassFile.FieldType.boolean)) ∈ oWS := oat 236 (by decide +kernel) rfl
theorem w_217 : (Jvm.Cond.methodLink "ValueConnectorLaw" (53 : Nat) ({ cls := "ValueConnector", name := "forget", desc := "(IJ)Z" } : Jvm.MethodName)) ∈ oWS := oat 233 (by decide +kernel) rfl
theorem w_218 : (Jvm.Cond.instanceMethod ({ cls := "ValueConnector", name := "forget", desc := "(IJ)Z" } : Jvm.MethodName)) ∈ oWS := oat 234 (by decide +kernel) rfl
theorem w_219 : (Jvm.Cond.selects "ValueConnector" ({ cls := "ValueConnector", name := "forget", desc := "(IJ)Z" } : Jvm.MethodName) ({ cls := "ValueConnector", name := "forget", desc := "(IJ)Z" } : Jvm.MethodName)) ∈ oWS := oat 235 (by decide +kernel) rfl
theorem k_W_53 : Kv "ValueConnectorLaw" 53 1 y_X_forget prog_1_method_8_code 4 (some .boolean) 2 := ⟨w_217, w_218, w_219, w_1, w_220, ⟨by decide, by decide, by decide +kernel⟩, _, _, rfl⟩
theorem w_548 : (Jvm.Cond.code ({ cls := "ValueConnectorModel", name := "forget", desc := "(IJ)Z" } : Jvm.MethodName) prog_8_method_12_code (6 : Nat) (Option.some Jvm.ClassFile.FieldType.boolean)) ∈ oWS := oat 564 (by decide +kernel) rfl
theorem w_545 : (Jvm.Cond.methodLink "ValueConnectorLaw" (57 : Nat) ({ cls := "ValueConnectorModel", name := "forget", desc := "(IJ)Z" } : Jvm.MethodName)) ∈ oWS := oat 561 (by decide +kernel) rfl
theorem w_546 : (Jvm.Cond.instanceMethod ({ cls := "ValueConnectorModel", name := "forget", desc := "(IJ)Z" } : Jvm.MethodName)) ∈ oWS := oat 562 (by decide +kernel) rfl
theorem w_547 : (Jvm.Cond.selects "ValueConnectorModel" ({ cls := "ValueConnectorModel", name := "forget", desc := "(IJ)Z" } : Jvm.MethodName) ({ cls := "ValueConnectorModel", name := "forget", desc := "(IJ)Z" } : Jvm.MethodName)) ∈ oWS := oat 563 (by decide +kernel) rfl
theorem k_W_57 : Kv "ValueConnectorLaw" 57 0 y_M_forget prog_8_method_12_code 6 (some .boolean) 2 := ⟨w_545, w_546, w_547, w_3, w_548, ⟨by decide, by decide, by decide +kernel⟩, _, _, rfl⟩
theorem w_228 : (Jvm.Cond.code ({ cls := "ValueConnector", name := "way", desc := "(J)I" } : Jvm.MethodName) prog_1_method_9_code (3 : Nat) (Option.some Jvm.ClassFile.FieldType.int)) ∈ oWS := oat 244 (by decide +kernel) rfl
theorem w_225 : (Jvm.Cond.methodLink "ValueConnectorLaw" (58 : Nat) ({ cls := "ValueConnector", name := "way", desc := "(J)I" } : Jvm.MethodName)) ∈ oWS := oat 241 (by decide +kernel) rfl
theorem w_226 : (Jvm.Cond.instanceMethod ({ cls := "ValueConnector", name := "way", desc := "(J)I" } : Jvm.MethodName)) ∈ oWS := oat 242 (by decide +kernel) rfl
theorem w_227 : (Jvm.Cond.selects "ValueConnector" ({ cls := "ValueConnector", name := "way", desc := "(J)I" } : Jvm.MethodName) ({ cls := "ValueConnector", name := "way", desc := "(J)I" } : Jvm.MethodName)) ∈ oWS := oat 243 (by decide +kernel) rfl
theorem k_W_58 : Kv "ValueConnectorLaw" 58 1 y_X_way prog_1_method_9_code 3 (some .int) 1 := ⟨w_225, w_226, w_227, w_1, w_228, ⟨by decide, by decide, by decide +kernel⟩, _, _, rfl⟩
theorem w_549 : (Jvm.Cond.methodLink "ValueConnectorLaw" (62 : Nat) ({ cls := "ValueConnectorModel", name := "way", desc := "(J)I" } : Jvm.MethodName)) ∈ oWS := oat 565 (by decide +kernel) rfl
theorem k_W_62 : Kv "ValueConnectorLaw" 62 0 y_M_way prog_8_method_15_code 5 (some .int) 1 := ⟨w_549, w_550, w_551, w_3, w_552, ⟨by decide, by decide, by decide +kernel⟩, _, _, rfl⟩
theorem w_251 : (Jvm.Cond.code ({ cls := "ValueConnector", name := "prepare", desc := "(IJIIJ)I" } : Jvm.MethodName) prog_1_method_10_code (14 : Nat) (Option.some Jvm.ClassFile.FieldType.int)) ∈ oWS := oat 267 (by decide +kernel) rfl
theorem w_248 : (Jvm.Cond.methodLink "ValueConnectorLaw" (63 : Nat) ({ cls := "ValueConnector", name := "prepare", desc := "(IJIIJ)I" } : Jvm.MethodName)) ∈ oWS := oat 264 (by decide +kernel) rfl
theorem w_249 : (Jvm.Cond.instanceMethod ({ cls := "ValueConnector", name := "prepare", desc := "(IJIIJ)I" } : Jvm.MethodName)) ∈ oWS := oat 265 (by decide +kernel) rfl
theorem w_250 : (Jvm.Cond.selects "ValueConnector" ({ cls := "ValueConnector", name := "prepare", desc := "(IJIIJ)I" } : Jvm.MethodName) ({ cls := "ValueConnector", name := "prepare", desc := "(IJIIJ)I" } : Jvm.MethodName)) ∈ oWS := oat 266 (by decide +kernel) rfl
theorem k_W_63 : Kv "ValueConnectorLaw" 63 1 y_X_prepare prog_1_method_10_code 14 (some .int) 5 := ⟨w_248, w_249, w_250, w_1, w_251, ⟨by decide, by decide, by decide +kernel⟩, _, _, rfl⟩
theorem w_564 : (Jvm.Cond.code ({ cls := "ValueConnectorModel", name := "prepare", desc := "(IJIIJ)I" } : Jvm.MethodName) prog_8_method_16_code (12 : Nat) (Option.some Jvm.ClassFile.FieldType.int)) ∈ oWS := oat 580 (by decide +kernel) rfl
theorem w_561 : (Jvm.Cond.methodLink "ValueConnectorLaw" (67 : Nat) ({ cls := "ValueConnectorModel", name := "prepare", desc := "(IJIIJ)I" } : Jvm.MethodName)) ∈ oWS := oat 577 (by decide +kernel) rfl
theorem w_562 : (Jvm.Cond.instanceMethod ({ cls := "ValueConnectorModel", name := "prepare", desc := "(IJIIJ)I" } : Jvm.MethodName)) ∈ oWS := oat 578 (by decide +kernel) rfl
theorem w_563 : (Jvm.Cond.selects "ValueConnectorModel" ({ cls := "ValueConnectorModel", name := "prepare", desc := "(IJIIJ)I" } : Jvm.MethodName) ({ cls := "ValueConnectorModel", name := "prepare", desc := "(IJIIJ)I" } : Jvm.MethodName)) ∈ oWS := oat 579 (by decide +kernel) rfl
theorem k_W_67 : Kv "ValueConnectorLaw" 67 0 y_M_prepare prog_8_method_16_code 12 (some .int) 5 := ⟨w_561, w_562, w_563, w_3, w_564, ⟨by decide, by decide, by decide +kernel⟩, _, _, rfl⟩
theorem w_307 : (Jvm.Cond.code ({ cls := "ValueConnector", name := "lock", desc := "(J)J" } : Jvm.MethodName) prog_1_method_11_code (3 : Nat) (Option.some Jvm.ClassFile.FieldType.long)) ∈ oWS := oat 323 (by decide +kernel) rfl
theorem w_304 : (Jvm.Cond.methodLink "ValueConnectorLaw" (68 : Nat) ({ cls := "ValueConnector", name := "lock", desc := "(J)J" } : Jvm.MethodName)) ∈ oWS := oat 320 (by decide +kernel) rfl
theorem w_305 : (Jvm.Cond.instanceMethod ({ cls := "ValueConnector", name := "lock", desc := "(J)J" } : Jvm.MethodName)) ∈ oWS := oat 321 (by decide +kernel) rfl
theorem w_306 : (Jvm.Cond.selects "ValueConnector" ({ cls := "ValueConnector", name := "lock", desc := "(J)J" } : Jvm.MethodName) ({ cls := "ValueConnector", name := "lock", desc := "(J)J" } : Jvm.MethodName)) ∈ oWS := oat 322 (by decide +kernel) rfl
theorem k_W_68 : Kv "ValueConnectorLaw" 68 1 y_X_lock prog_1_method_11_code 3 (some .long) 1 := ⟨w_304, w_305, w_306, w_1, w_307, ⟨by decide, by decide, by decide +kernel⟩, _, _, rfl⟩
theorem w_567 : (Jvm.Cond.methodLink "ValueConnectorLaw" (72 : Nat) ({ cls := "ValueConnectorModel", name := "lock", desc := "(J)J" } : Jvm.MethodName)) ∈ oWS := oat 583 (by decide +kernel) rfl
theorem k_W_72 : Kv "ValueConnectorLaw" 72 0 y_M_lock prog_8_method_17_code 5 (some .long) 1 := ⟨w_567, w_568, w_569, w_3, w_570, ⟨by decide, by decide, by decide +kernel⟩, _, _, rfl⟩
theorem w_315 : (Jvm.Cond.code ({ cls := "ValueConnector", name := "fulfil", desc := "(IJ)I" } : Jvm.MethodName) prog_1_method_12_code (5 : Nat) (Option.some Jvm.ClassFile.FieldType.int)) ∈ oWS := oat 331 (by decide +kernel) rfl
theorem w_312 : (Jvm.Cond.methodLink "ValueConnectorLaw" (73 : Nat) ({ cls := "ValueConnector", name := "fulfil", desc := "(IJ)I" } : Jvm.MethodName)) ∈ oWS := oat 328 (by decide +kernel) rfl
theorem w_313 : (Jvm.Cond.instanceMethod ({ cls := "ValueConnector", name := "fulfil", desc := "(IJ)I" } : Jvm.MethodName)) ∈ oWS := oat 329 (by decide +kernel) rfl
theorem w_314 : (Jvm.Cond.selects "ValueConnector" ({ cls := "ValueConnector", name := "fulfil", desc := "(IJ)I" } : Jvm.MethodName) ({ cls := "ValueConnector", name := "fulfil", desc := "(IJ)I" } : Jvm.MethodName)) ∈ oWS := oat 330 (by decide +kernel) rfl
theorem k_W_73 : Kv "ValueConnectorLaw" 73 1 y_X_fulfil prog_1_method_12_code 5 (some .int) 2 := ⟨w_312, w_313, w_314, w_1, w_315, ⟨by decide, by decide, by decide +kernel⟩, _, _, rfl⟩
theorem w_575 : (Jvm.Cond.code ({ cls := "ValueConnectorModel", name := "fulfil", desc := "(IJ)I" } : Jvm.MethodName) prog_8_method_19_code (4 : Nat) (Option.some Jvm.ClassFile.FieldType.int)) ∈ oWS := oat 591 (by decide +kernel) rfl
theorem w_572 : (Jvm.Cond.methodLink "ValueConnectorLaw" (77 : Nat) ({ cls := "ValueConnectorModel", name := "fulfil", desc := "(IJ)I" } : Jvm.MethodName)) ∈ oWS := oat 588 (by decide +kernel) rfl
theorem w_573 : (Jvm.Cond.instanceMethod ({ cls := "ValueConnectorModel", name := "fulfil", desc := "(IJ)I" } : Jvm.MethodName)) ∈ oWS := oat 589 (by decide +kernel) rfl
theorem w_574 : (Jvm.Cond.selects "ValueConnectorModel" ({ cls := "ValueConnectorModel", name := "fulfil", desc := "(IJ)I" } : Jvm.MethodName) ({ cls := "ValueConnectorModel", name := "fulfil", desc := "(IJ)I" } : Jvm.MethodName)) ∈ oWS := oat 590 (by decide +kernel) rfl
theorem k_W_77 : Kv "ValueConnectorLaw" 77 0 y_M_fulfil prog_8_method_19_code 4 (some .int) 2 := ⟨w_572, w_573, w_574, w_3, w_575, ⟨by decide, by decide, by decide +kernel⟩, _, _, rfl⟩
theorem w_336 : (Jvm.Cond.code ({ cls := "ValueConnector", name := "reject", desc := "(I)I" } : Jvm.MethodName) prog_1_method_13_code (3 : Nat) (Option.some Jvm.ClassFile.FieldType.int)) ∈ oWS := oat 352 (by decide +kernel) rfl
theorem w_333 : (Jvm.Cond.methodLink "ValueConnectorLaw" (78 : Nat) ({ cls := "ValueConnector", name := "reject", desc := "(I)I" } : Jvm.MethodName)) ∈ oWS := oat 349 (by decide +kernel) rfl
theorem w_334 : (Jvm.Cond.instanceMethod ({ cls := "ValueConnector", name := "reject", desc := "(I)I" } : Jvm.MethodName)) ∈ oWS := oat 350 (by decide +kernel) rfl
theorem w_335 : (Jvm.Cond.selects "ValueConnector" ({ cls := "ValueConnector", name := "reject", desc := "(I)I" } : Jvm.MethodName) ({ cls := "ValueConnector", name := "reject", desc := "(I)I" } : Jvm.MethodName)) ∈ oWS := oat 351 (by decide +kernel) rfl
theorem k_W_78 : Kv "ValueConnectorLaw" 78 1 y_X_reject prog_1_method_13_code 3 (some .int) 1 := ⟨w_333, w_334, w_335, w_1, w_336, ⟨by decide, by decide, by decide +kernel⟩, _, _, rfl⟩
theorem w_592 : (Jvm.Cond.code ({ cls := "ValueConnectorModel", name := "reject", desc := "(I)I" } : Jvm.MethodName) prog_8_method_23_code (2 : Nat) (Option.some Jvm.ClassFile.FieldType.int)) ∈ oWS := oat 608 (by decide +kernel) rfl
theorem w_589 : (Jvm.Cond.methodLink "ValueConnectorLaw" (82 : Nat) ({ cls := "ValueConnectorModel", name := "reject", desc := "(I)I" } : Jvm.MethodName)) ∈ oWS := oat 605 (by decide +kernel) rfl
theorem w_590 : (Jvm.Cond.instanceMethod ({ cls := "ValueConnectorModel", name := "reject", desc := "(I)I" } : Jvm.MethodName)) ∈ oWS := oat 606 (by decide +kernel) rfl
theorem w_591 : (Jvm.Cond.selects "ValueConnectorModel" ({ cls := "ValueConnectorModel", name := "reject", desc := "(I)I" } : Jvm.MethodName) ({ cls := "ValueConnectorModel", name := "reject", desc := "(I)I" } : Jvm.MethodName)) ∈ oWS := oat 607 (by decide +kernel) rfl
theorem k_W_82 : Kv "ValueConnectorLaw" 82 0 y_M_reject prog_8_method_23_code 2 (some .int) 1 := ⟨w_589, w_590, w_591, w_3, w_592, ⟨by decide, by decide, by decide +kernel⟩, _, _, rfl⟩
theorem w_344 : (Jvm.Cond.code ({ cls := "ValueConnector", name := "advance", desc := "(I)I" } : Jvm.MethodName) prog_1_method_14_code (3 : Nat) (Option.some Jvm.ClassFile.FieldType.int)) ∈ oWS := oat 360 (by decide +kernel) rfl
theorem w_341 : (Jvm.Cond.methodLink "ValueConnectorLaw" (83 : Nat) ({ cls := "ValueConnector", name := "advance", desc := "(I)I" } : Jvm.MethodName)) ∈ oWS := oat 357 (by decide +kernel) rfl
theorem w_342 : (Jvm.Cond.instanceMethod ({ cls := "ValueConnector", name := "advance", desc := "(I)I" } : Jvm.MethodName)) ∈ oWS := oat 358 (by decide +kernel) rfl
theorem w_343 : (Jvm.Cond.selects "ValueConnector" ({ cls := "ValueConnector", name := "advance", desc := "(I)I" } : Jvm.MethodName) ({ cls := "ValueConnector", name := "advance", desc := "(I)I" } : Jvm.MethodName)) ∈ oWS := oat 359 (by decide +kernel) rfl
theorem k_W_83 : Kv "ValueConnectorLaw" 83 1 y_X_advance prog_1_method_14_code 3 (some .int) 1 := ⟨w_341, w_342, w_343, w_1, w_344, ⟨by decide, by decide, by decide +kernel⟩, _, _, rfl⟩
theorem w_600 : (Jvm.Cond.code ({ cls := "ValueConnectorModel", name := "advance", desc := "(I)I" } : Jvm.MethodName) prog_8_method_24_code (4 : Nat) (Option.some Jvm.ClassFile.FieldType.int)) ∈ oWS := oat 616 (by decide +kernel) rfl
theorem w_597 : (Jvm.Cond.methodLink "ValueConnectorLaw" (86 : Nat) ({ cls := "ValueConnectorModel", name := "advance", desc := "(I)I" } : Jvm.MethodName)) ∈ oWS := oat 613 (by decide +kernel) rfl
theorem w_598 : (Jvm.Cond.instanceMethod ({ cls := "ValueConnectorModel", name := "advance", desc := "(I)I" } : Jvm.MethodName)) ∈ oWS := oat 614 (by decide +kernel) rfl
theorem w_599 : (Jvm.Cond.selects "ValueConnectorModel" ({ cls := "ValueConnectorModel", name := "advance", desc := "(I)I" } : Jvm.MethodName) ({ cls := "ValueConnectorModel", name := "advance", desc := "(I)I" } : Jvm.MethodName)) ∈ oWS := oat 615 (by decide +kernel) rfl
theorem k_W_86 : Kv "ValueConnectorLaw" 86 0 y_M_advance prog_8_method_24_code 4 (some .int) 1 := ⟨w_597, w_598, w_599, w_3, w_600, ⟨by decide, by decide, by decide +kernel⟩, _, _, rfl⟩
theorem w_359 : (Jvm.Cond.code ({ cls := "ValueConnector", name := "credit", desc := "(III)I" } : Jvm.MethodName) prog_1_method_15_code (5 : Nat) (Option.some Jvm.ClassFile.FieldType.int)) ∈ oWS := oat 375 (by decide +kernel) rfl
theorem w_356 : (Jvm.Cond.methodLink "ValueConnectorLaw" (87 : Nat) ({ cls := "ValueConnector", name := "credit", desc := "(III)I" } : Jvm.MethodName)) ∈ oWS := oat 372 (by decide +kernel) rfl
theorem w_357 : (Jvm.Cond.instanceMethod ({ cls := "ValueConnector", name := "credit", desc := "(III)I" } : Jvm.MethodName)) ∈ oWS := oat 373 (by decide +kernel) rfl
theorem w_358 : (Jvm.Cond.selects "ValueConnector" ({ cls := "ValueConnector", name := "credit", desc := "(III)I" } : Jvm.MethodName) ({ cls := "ValueConnector", name := "credit", desc := "(III)I" } : Jvm.MethodName)) ∈ oWS := oat 374 (by decide +kernel) rfl
theorem k_W_87 : Kv "ValueConnectorLaw" 87 1 y_X_credit prog_1_method_15_code 5 (some .int) 3 := ⟨w_356, w_357, w_358, w_1, w_359, ⟨by decide, by decide, by decide +kernel⟩, _, _, rfl⟩
theorem w_604 : (Jvm.Cond.code ({ cls := "ValueConnectorModel", name := "credit", desc := "(III)I" } : Jvm.MethodName) prog_8_method_25_code (5 : Nat) (Option.some Jvm.ClassFile.FieldType.int)) ∈ oWS := oat 620 (by decide +kernel) rfl
theorem w_601 : (Jvm.Cond.methodLink "ValueConnectorLaw" (90 : Nat) ({ cls := "ValueConnectorModel", name := "credit", desc := "(III)I" } : Jvm.MethodName)) ∈ oWS := oat 617 (by decide +kernel) rfl
theorem w_602 : (Jvm.Cond.instanceMethod ({ cls := "ValueConnectorModel", name := "credit", desc := "(III)I" } : Jvm.MethodName)) ∈ oWS := oat 618 (by decide +kernel) rfl
theorem w_603 : (Jvm.Cond.selects "ValueConnectorModel" ({ cls := "ValueConnectorModel", name := "credit", desc := "(III)I" } : Jvm.MethodName) ({ cls := "ValueConnectorModel", name := "credit", desc := "(III)I" } : Jvm.MethodName)) ∈ oWS := oat 619 (by decide +kernel) rfl
theorem k_W_90 : Kv "ValueConnectorLaw" 90 0 y_M_credit prog_8_method_25_code 5 (some .int) 3 := ⟨w_601, w_602, w_603, w_3, w_604, ⟨by decide, by decide, by decide +kernel⟩, _, _, rfl⟩
theorem w_372 : (Jvm.Cond.code ({ cls := "ValueConnector", name := "balance", desc := "(I)J" } : Jvm.MethodName) prog_1_method_16_code (3 : Nat) (Option.some Jvm.ClassFile.FieldType.long)) ∈ oWS := oat 388 (by decide +kernel) rfl
theorem w_369 : (Jvm.Cond.methodLink "ValueConnectorLaw" (91 : Nat) ({ cls := "ValueConnector", name := "balance", desc := "(I)J" } : Jvm.MethodName)) ∈ oWS := oat 385 (by decide +kernel) rfl
theorem w_370 : (Jvm.Cond.instanceMethod ({ cls := "ValueConnector", name := "balance", desc := "(I)J" } : Jvm.MethodName)) ∈ oWS := oat 386 (by decide +kernel) rfl
theorem w_371 : (Jvm.Cond.selects "ValueConnector" ({ cls := "ValueConnector", name := "balance", desc := "(I)J" } : Jvm.MethodName) ({ cls := "ValueConnector", name := "balance", desc := "(I)J" } : Jvm.MethodName)) ∈ oWS := oat 387 (by decide +kernel) rfl
theorem k_W_91 : Kv "ValueConnectorLaw" 91 1 y_X_balance prog_1_method_16_code 3 (some .long) 1 := ⟨w_369, w_370, w_371, w_1, w_372, ⟨by decide, by decide, by decide +kernel⟩, _, _, rfl⟩
theorem w_609 : (Jvm.Cond.code ({ cls := "ValueConnectorModel", name := "balance", desc := "(I)J" } : Jvm.MethodName) prog_8_method_26_code (2 : Nat) (Option.some Jvm.ClassFile.FieldType.long)) ∈ oWS := oat 625 (by decide +kernel) rfl
theorem w_606 : (Jvm.Cond.methodLink "ValueConnectorLaw" (95 : Nat) ({ cls := "ValueConnectorModel", name := "balance", desc := "(I)J" } : Jvm.MethodName)) ∈ oWS := oat 622 (by decide +kernel) rfl
theorem w_607 : (Jvm.Cond.instanceMethod ({ cls := "ValueConnectorModel", name := "balance", desc := "(I)J" } : Jvm.MethodName)) ∈ oWS := oat 623 (by decide +kernel) rfl
theorem w_608 : (Jvm.Cond.selects "ValueConnectorModel" ({ cls := "ValueConnectorModel", name := "balance", desc := "(I)J" } : Jvm.MethodName) ({ cls := "ValueConnectorModel", name := "balance", desc := "(I)J" } : Jvm.MethodName)) ∈ oWS := oat 624 (by decide +kernel) rfl
theorem k_W_95 : Kv "ValueConnectorLaw" 95 0 y_M_balance prog_8_method_26_code 2 (some .long) 1 := ⟨w_606, w_607, w_608, w_3, w_609, ⟨by decide, by decide, by decide +kernel⟩, _, _, rfl⟩
theorem w_376 : (Jvm.Cond.code ({ cls := "ValueConnector", name := "position", desc := "()J" } : Jvm.MethodName) prog_1_method_17_code (4 : Nat) (Option.some Jvm.ClassFile.FieldType.long)) ∈ oWS := oat 392 (by decide +kernel) rfl
theorem w_373 : (Jvm.Cond.methodLink "ValueConnectorLaw" (96 : Nat) ({ cls := "ValueConnector", name := "position", desc := "()J" } : Jvm.MethodName)) ∈ oWS := oat 389 (by decide +kernel) rfl
theorem w_374 : (Jvm.Cond.instanceMethod ({ cls := "ValueConnector", name := "position", desc := "()J" } : Jvm.MethodName)) ∈ oWS := oat 390 (by decide +kernel) rfl
theorem w_375 : (Jvm.Cond.selects "ValueConnector" ({ cls := "ValueConnector", name := "position", desc := "()J" } : Jvm.MethodName) ({ cls := "ValueConnector", name := "position", desc := "()J" } : Jvm.MethodName)) ∈ oWS := oat 391 (by decide +kernel) rfl
theorem k_W_96 : Kv "ValueConnectorLaw" 96 1 y_X_position prog_1_method_17_code 4 (some .long) 0 := ⟨w_373, w_374, w_375, w_1, w_376, ⟨by decide, by decide, by decide +kernel⟩, _, _, rfl⟩
theorem w_613 : (Jvm.Cond.code ({ cls := "ValueConnectorModel", name := "position", desc := "()J" } : Jvm.MethodName) prog_8_method_27_code (4 : Nat) (Option.some Jvm.ClassFile.FieldType.long)) ∈ oWS := oat 629 (by decide +kernel) rfl
theorem w_610 : (Jvm.Cond.methodLink "ValueConnectorLaw" (100 : Nat) ({ cls := "ValueConnectorModel", name := "position", desc := "()J" } : Jvm.MethodName)) ∈ oWS := oat 626 (by decide +kernel) rfl
theorem w_611 : (Jvm.Cond.instanceMethod ({ cls := "ValueConnectorModel", name := "position", desc := "()J" } : Jvm.MethodName)) ∈ oWS := oat 627 (by decide +kernel) rfl
theorem w_612 : (Jvm.Cond.selects "ValueConnectorModel" ({ cls := "ValueConnectorModel", name := "position", desc := "()J" } : Jvm.MethodName) ({ cls := "ValueConnectorModel", name := "position", desc := "()J" } : Jvm.MethodName)) ∈ oWS := oat 628 (by decide +kernel) rfl
theorem k_W_100 : Kv "ValueConnectorLaw" 100 0 y_M_position prog_8_method_27_code 4 (some .long) 0 := ⟨w_610, w_611, w_612, w_3, w_613, ⟨by decide, by decide, by decide +kernel⟩, _, _, rfl⟩
theorem w_380 : (Jvm.Cond.code ({ cls := "ValueConnector", name := "state", desc := "(I)I" } : Jvm.MethodName) prog_1_method_18_code (3 : Nat) (Option.some Jvm.ClassFile.FieldType.int)) ∈ oWS := oat 396 (by decide +kernel) rfl
theorem w_377 : (Jvm.Cond.methodLink "ValueConnectorLaw" (101 : Nat) ({ cls := "ValueConnector", name := "state", desc := "(I)I" } : Jvm.MethodName)) ∈ oWS := oat 393 (by decide +kernel) rfl
theorem w_378 : (Jvm.Cond.instanceMethod ({ cls := "ValueConnector", name := "state", desc := "(I)I" } : Jvm.MethodName)) ∈ oWS := oat 394 (by decide +kernel) rfl
theorem w_379 : (Jvm.Cond.selects "ValueConnector" ({ cls := "ValueConnector", name := "state", desc := "(I)I" } : Jvm.MethodName) ({ cls := "ValueConnector", name := "state", desc := "(I)I" } : Jvm.MethodName)) ∈ oWS := oat 395 (by decide +kernel) rfl
theorem k_W_101 : Kv "ValueConnectorLaw" 101 1 y_X_state prog_1_method_18_code 3 (some .int) 1 := ⟨w_377, w_378, w_379, w_1, w_380, ⟨by decide, by decide, by decide +kernel⟩, _, _, rfl⟩
theorem w_617 : (Jvm.Cond.code ({ cls := "ValueConnectorModel", name := "state", desc := "(I)I" } : Jvm.MethodName) prog_8_method_28_code (2 : Nat) (Option.some Jvm.ClassFile.FieldType.int)) ∈ oWS := oat 633 (by decide +kernel) rfl
theorem w_614 : (Jvm.Cond.methodLink "ValueConnectorLaw" (104 : Nat) ({ cls := "ValueConnectorModel", name := "state", desc := "(I)I" } : Jvm.MethodName)) ∈ oWS := oat 630 (by decide +kernel) rfl
theorem w_615 : (Jvm.Cond.instanceMethod ({ cls := "ValueConnectorModel", name := "state", desc := "(I)I" } : Jvm.MethodName)) ∈ oWS := oat 631 (by decide +kernel) rfl
theorem w_616 : (Jvm.Cond.selects "ValueConnectorModel" ({ cls := "ValueConnectorModel", name := "state", desc := "(I)I" } : Jvm.MethodName) ({ cls := "ValueConnectorModel", name := "state", desc := "(I)I" } : Jvm.MethodName)) ∈ oWS := oat 632 (by decide +kernel) rfl
theorem k_W_104 : Kv "ValueConnectorLaw" 104 0 y_M_state prog_8_method_28_code 2 (some .int) 1 := ⟨w_614, w_615, w_616, w_3, w_617, ⟨by decide, by decide, by decide +kernel⟩, _, _, rfl⟩
theorem w_384 : (Jvm.Cond.code ({ cls := "ValueConnector", name := "transfer", desc := "(II)J" } : Jvm.MethodName) prog_1_method_19_code (4 : Nat) (Option.some Jvm.ClassFile.FieldType.long)) ∈ oWS := oat 400 (by decide +kernel) rfl
theorem w_381 : (Jvm.Cond.methodLink "ValueConnectorLaw" (105 : Nat) ({ cls := "ValueConnector", name := "transfer", desc := "(II)J" } : Jvm.MethodName)) ∈ oWS := oat 397 (by decide +kernel) rfl
theorem w_382 : (Jvm.Cond.instanceMethod ({ cls := "ValueConnector", name := "transfer", desc := "(II)J" } : Jvm.MethodName)) ∈ oWS := oat 398 (by decide +kernel) rfl
theorem w_383 : (Jvm.Cond.selects "ValueConnector" ({ cls := "ValueConnector", name := "transfer", desc := "(II)J" } : Jvm.MethodName) ({ cls := "ValueConnector", name := "transfer", desc := "(II)J" } : Jvm.MethodName)) ∈ oWS := oat 399 (by decide +kernel) rfl
theorem k_W_105 : Kv "ValueConnectorLaw" 105 1 y_X_transfer prog_1_method_19_code 4 (some .long) 2 := ⟨w_381, w_382, w_383, w_1, w_384, ⟨by decide, by decide, by decide +kernel⟩, _, _, rfl⟩
theorem w_621 : (Jvm.Cond.code ({ cls := "ValueConnectorModel", name := "transfer", desc := "(II)J" } : Jvm.MethodName) prog_8_method_29_code (3 : Nat) (Option.some Jvm.ClassFile.FieldType.long)) ∈ oWS := oat 637 (by decide +kernel) rfl
theorem w_618 : (Jvm.Cond.methodLink "ValueConnectorLaw" (109 : Nat) ({ cls := "ValueConnectorModel", name := "transfer", desc := "(II)J" } : Jvm.MethodName)) ∈ oWS := oat 634 (by decide +kernel) rfl
theorem w_619 : (Jvm.Cond.instanceMethod ({ cls := "ValueConnectorModel", name := "transfer", desc := "(II)J" } : Jvm.MethodName)) ∈ oWS := oat 635 (by decide +kernel) rfl
theorem w_620 : (Jvm.Cond.selects "ValueConnectorModel" ({ cls := "ValueConnectorModel", name := "transfer", desc := "(II)J" } : Jvm.MethodName) ({ cls := "ValueConnectorModel", name := "transfer", desc := "(II)J" } : Jvm.MethodName)) ∈ oWS := oat 636 (by decide +kernel) rfl
theorem k_W_109 : Kv "ValueConnectorLaw" 109 0 y_M_transfer prog_8_method_29_code 3 (some .long) 2 := ⟨w_618, w_619, w_620, w_3, w_621, ⟨by decide, by decide, by decide +kernel⟩, _, _, rfl⟩
theorem w_389 : (Jvm.Cond.code ({ cls := "ValueConnector", name := "settlement", desc := "(I)J" } : Jvm.MethodName) prog_1_method_20_code (2 : Nat) (Option.some Jvm.ClassFile.FieldType.long)) ∈ oWS := oat 405 (by decide +kernel) rfl
theorem w_386 : (Jvm.Cond.methodLink "ValueConnectorLaw" (110 : Nat) ({ cls := "ValueConnector", name := "settlement", desc := "(I)J" } : Jvm.MethodName)) ∈ oWS := oat 402 (by decide +kernel) rfl
theorem w_387 : (Jvm.Cond.instanceMethod ({ cls := "ValueConnector", name := "settlement", desc := "(I)J" } : Jvm.MethodName)) ∈ oWS := oat 403 (by decide +kernel) rfl
theorem w_388 : (Jvm.Cond.selects "ValueConnector" ({ cls := "ValueConnector", name := "settlement", desc := "(I)J" } : Jvm.MethodName) ({ cls := "ValueConnector", name := "settlement", desc := "(I)J" } : Jvm.MethodName)) ∈ oWS := oat 404 (by decide +kernel) rfl
theorem k_W_110 : Kv "ValueConnectorLaw" 110 1 y_X_settlement prog_1_method_20_code 2 (some .long) 1 := ⟨w_386, w_387, w_388, w_1, w_389, ⟨by decide, by decide, by decide +kernel⟩, _, _, rfl⟩
theorem w_626 : (Jvm.Cond.code ({ cls := "ValueConnectorModel", name := "settlement", desc := "(I)J" } : Jvm.MethodName) prog_8_method_30_code (2 : Nat) (Option.some Jvm.ClassFile.FieldType.long)) ∈ oWS := oat 642 (by decide +kernel) rfl
theorem w_623 : (Jvm.Cond.methodLink "ValueConnectorLaw" (113 : Nat) ({ cls := "ValueConnectorModel", name := "settlement", desc := "(I)J" } : Jvm.MethodName)) ∈ oWS := oat 639 (by decide +kernel) rfl
theorem w_624 : (Jvm.Cond.instanceMethod ({ cls := "ValueConnectorModel", name := "settlement", desc := "(I)J" } : Jvm.MethodName)) ∈ oWS := oat 640 (by decide +kernel) rfl
theorem w_625 : (Jvm.Cond.selects "ValueConnectorModel" ({ cls := "ValueConnectorModel", name := "settlement", desc := "(I)J" } : Jvm.MethodName) ({ cls := "ValueConnectorModel", name := "settlement", desc := "(I)J" } : Jvm.MethodName)) ∈ oWS := oat 641 (by decide +kernel) rfl
theorem k_W_113 : Kv "ValueConnectorLaw" 113 0 y_M_settlement prog_8_method_30_code 2 (some .long) 1 := ⟨w_623, w_624, w_625, w_3, w_626, ⟨by decide, by decide, by decide +kernel⟩, _, _, rfl⟩
theorem w_393 : (Jvm.Cond.code ({ cls := "ValueConnector", name := "drops", desc := "(I)I" } : Jvm.MethodName) prog_1_method_21_code (3 : Nat) (Option.some Jvm.ClassFile.FieldType.int)) ∈ oWS := oat 409 (by decide +kernel) rfl
theorem w_390 : (Jvm.Cond.methodLink "ValueConnectorLaw" (114 : Nat) ({ cls := "ValueConnector", name := "drops", desc := "(I)I" } : Jvm.MethodName)) ∈ oWS := oat 406 (by decide +kernel) rfl
theorem w_391 : (Jvm.Cond.instanceMethod ({ cls := "ValueConnector", name := "drops", desc := "(I)I" } : Jvm.MethodName)) ∈ oWS := oat 407 (by decide +kernel) rfl
theorem w_392 : (Jvm.Cond.selects "ValueConnector" ({ cls := "ValueConnector", name := "drops", desc := "(I)I" } : Jvm.MethodName) ({ cls := "ValueConnector", name := "drops", desc := "(I)I" } : Jvm.MethodName)) ∈ oWS := oat 408 (by decide +kernel) rfl
theorem k_W_114 : Kv "ValueConnectorLaw" 114 1 y_X_drops prog_1_method_21_code 3 (some .int) 1 := ⟨w_390, w_391, w_392, w_1, w_393, ⟨by decide, by decide, by decide +kernel⟩, _, _, rfl⟩
theorem w_630 : (Jvm.Cond.code ({ cls := "ValueConnectorModel", name := "drops", desc := "(I)I" } : Jvm.MethodName) prog_8_method_31_code (2 : Nat) (Option.some Jvm.ClassFile.FieldType.int)) ∈ oWS := oat 646 (by decide +kernel) rfl
theorem w_627 : (Jvm.Cond.methodLink "ValueConnectorLaw" (117 : Nat) ({ cls := "ValueConnectorModel", name := "drops", desc := "(I)I" } : Jvm.MethodName)) ∈ oWS := oat 643 (by decide +kernel) rfl
theorem w_628 : (Jvm.Cond.instanceMethod ({ cls := "ValueConnectorModel", name := "drops", desc := "(I)I" } : Jvm.MethodName)) ∈ oWS := oat 644 (by decide +kernel) rfl
theorem w_629 : (Jvm.Cond.selects "ValueConnectorModel" ({ cls := "ValueConnectorModel", name := "drops", desc := "(I)I" } : Jvm.MethodName) ({ cls := "ValueConnectorModel", name := "drops", desc := "(I)I" } : Jvm.MethodName)) ∈ oWS := oat 645 (by decide +kernel) rfl
theorem k_W_117 : Kv "ValueConnectorLaw" 117 0 y_M_drops prog_8_method_31_code 2 (some .int) 1 := ⟨w_627, w_628, w_629, w_3, w_630, ⟨by decide, by decide, by decide +kernel⟩, _, _, rfl⟩
/-- the law's end -/
theorem V_lawret {p : Program} {l : Launch} {e : Env} {s : State} {m : MethodId} {below : List Frame} {meth : Method} {c : Code} {Γ : oGm} {cells slots b : Nat} {ad : oAd} {cn : Nat → Nat} {S : oSt} {pc nx : Nat} {lv : List (Nat × Value)} (C : Cx p s m #[Value.ref b] meth c Γ code 4 "ValueConnectorLaw") (hb0 : s.heap.size ≤ Γ.2.2.1) (hr : meth.sig.returnType = ret) (h1 : cells ≤ 600000) (h2 : slots ≤ 7302250) (d : Dc code pc .ireturn 1 nx) : Vv p l e room_1 s m #[Value.ref b] below meth c (lw_Z below #[Value.ref b] s) Γ 4 cells slots ad cn S pc lv [.int 1] := by
  intro H locs ls hP hS hl
  refine va_forget (fun q hq => Nat.le_trans hb0 (hS.2.2 q hq)) ?_
  refine W.widen h1 h2 ?_
  exact lw_ret C.x C.b hr C.2.2.2 d.1
