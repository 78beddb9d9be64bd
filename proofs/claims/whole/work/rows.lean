section
/-- a private method of a class that the tables say can be made, by its rows of tables_1 -/
def lw_okq (q : MethodName × Nat) : Prop := (q.1.cls ≠ "java/lang/invoke/MethodHandle" ∧ q.1.cls ≠ "java/lang/invoke/VarHandle") ∧ Cond.instantiable q.1.cls q.2 ∈ tables_1 ∧ Cond.privateMethod q.1 ∈ tables_1 ∧ Cond.instanceMethod q.1 ∈ tables_1
theorem lw_p0 : lw_okq (⟨"ValueConnector", "accountNumbered", "(I)LValueConnector$Account;"⟩, 11) := ⟨⟨by decide +kernel, by decide +kernel⟩, List.mem_of_getElem? (i := 10) (by decide +kernel), List.mem_of_getElem? (i := 178) (by decide +kernel), List.mem_of_getElem? (i := 179) (by decide +kernel)⟩
theorem lw_p1 : lw_okq (⟨"ValueConnector$RouteTable", "placeOf", "(IJ)I"⟩, 4) := ⟨⟨by decide +kernel, by decide +kernel⟩, List.mem_of_getElem? (i := 20) (by decide +kernel), List.mem_of_getElem? (i := 214) (by decide +kernel), List.mem_of_getElem? (i := 215) (by decide +kernel)⟩
theorem lw_p2 : lw_okq (⟨"ValueConnector$RouteTable", "nearest", "(J)I"⟩, 4) := ⟨⟨by decide +kernel, by decide +kernel⟩, List.mem_of_getElem? (i := 20) (by decide +kernel), List.mem_of_getElem? (i := 241) (by decide +kernel), List.mem_of_getElem? (i := 242) (by decide +kernel)⟩
theorem lw_p3 : lw_okq (⟨"ValueConnector$RouteTable", "isNearer", "(II)Z"⟩, 4) := ⟨⟨by decide +kernel, by decide +kernel⟩, List.mem_of_getElem? (i := 20) (by decide +kernel), List.mem_of_getElem? (i := 245) (by decide +kernel), List.mem_of_getElem? (i := 246) (by decide +kernel)⟩
theorem lw_p4 : lw_okq (⟨"ValueConnector", "converted", "(III)J"⟩, 11) := ⟨⟨by decide +kernel, by decide +kernel⟩, List.mem_of_getElem? (i := 10) (by decide +kernel), List.mem_of_getElem? (i := 260) (by decide +kernel), List.mem_of_getElem? (i := 261) (by decide +kernel)⟩
theorem lw_p5 : lw_okq (⟨"ValueConnector", "keep", "(LValueConnector$Transfer;)I"⟩, 11) := ⟨⟨by decide +kernel, by decide +kernel⟩, List.mem_of_getElem? (i := 10) (by decide +kernel), List.mem_of_getElem? (i := 301) (by decide +kernel), List.mem_of_getElem? (i := 302) (by decide +kernel)⟩
theorem lw_p6 : lw_okq (⟨"ValueConnector", "transferNumbered", "(I)LValueConnector$Transfer;"⟩, 11) := ⟨⟨by decide +kernel, by decide +kernel⟩, List.mem_of_getElem? (i := 10) (by decide +kernel), List.mem_of_getElem? (i := 317) (by decide +kernel), List.mem_of_getElem? (i := 318) (by decide +kernel)⟩
theorem lw_p7 : lw_okq (⟨"ValueConnector", "settle", "(LValueConnector$Account;)V"⟩, 11) := ⟨⟨by decide +kernel, by decide +kernel⟩, List.mem_of_getElem? (i := 10) (by decide +kernel), List.mem_of_getElem? (i := 325) (by decide +kernel), List.mem_of_getElem? (i := 326) (by decide +kernel)⟩
theorem lw_p8 : lw_okq (⟨"ValueConnector", "lapseDue", "()I"⟩, 11) := ⟨⟨by decide +kernel, by decide +kernel⟩, List.mem_of_getElem? (i := 10) (by decide +kernel), List.mem_of_getElem? (i := 353) (by decide +kernel), List.mem_of_getElem? (i := 354) (by decide +kernel)⟩
theorem lw_p9 : lw_okq (⟨"ValueConnectorModel", "isAccount", "(I)Z"⟩, 33) := ⟨⟨by decide +kernel, by decide +kernel⟩, List.mem_of_getElem? (i := 398) (by decide +kernel), List.mem_of_getElem? (i := 515) (by decide +kernel), List.mem_of_getElem? (i := 516) (by decide +kernel)⟩
theorem lw_p10 : lw_okq (⟨"ValueConnectorModel", "find", "(IJ)I"⟩, 33) := ⟨⟨by decide +kernel, by decide +kernel⟩, List.mem_of_getElem? (i := 398) (by decide +kernel), List.mem_of_getElem? (i := 542) (by decide +kernel), List.mem_of_getElem? (i := 543) (by decide +kernel)⟩
theorem lw_p11 : lw_okq (⟨"ValueConnectorModel", "begins", "(JJ)Z"⟩, 33) := ⟨⟨by decide +kernel, by decide +kernel⟩, List.mem_of_getElem? (i := 398) (by decide +kernel), List.mem_of_getElem? (i := 554) (by decide +kernel), List.mem_of_getElem? (i := 555) (by decide +kernel)⟩
theorem lw_p12 : lw_okq (⟨"ValueConnectorModel", "better", "(II)Z"⟩, 33) := ⟨⟨by decide +kernel, by decide +kernel⟩, List.mem_of_getElem? (i := 398) (by decide +kernel), List.mem_of_getElem? (i := 558) (by decide +kernel), List.mem_of_getElem? (i := 559) (by decide +kernel)⟩
theorem lw_p13 : lw_okq (⟨"ValueConnectorModel", "isTransfer", "(I)Z"⟩, 33) := ⟨⟨by decide +kernel, by decide +kernel⟩, List.mem_of_getElem? (i := 398) (by decide +kernel), List.mem_of_getElem? (i := 577) (by decide +kernel), List.mem_of_getElem? (i := 578) (by decide +kernel)⟩
theorem lw_p14 : lw_okq (⟨"ValueConnectorModel", "settle", "(I)V"⟩, 33) := ⟨⟨by decide +kernel, by decide +kernel⟩, List.mem_of_getElem? (i := 398) (by decide +kernel), List.mem_of_getElem? (i := 582) (by decide +kernel), List.mem_of_getElem? (i := 583) (by decide +kernel)⟩
theorem lw_p15 : lw_okq (⟨"ValueConnectorModel", "giveBack", "(II)V"⟩, 33) := ⟨⟨by decide +kernel, by decide +kernel⟩, List.mem_of_getElem? (i := 398) (by decide +kernel), List.mem_of_getElem? (i := 594) (by decide +kernel), List.mem_of_getElem? (i := 595) (by decide +kernel)⟩
def lw_privs_1 : List (MethodName × Nat) := [(⟨"ValueConnector", "accountNumbered", "(I)LValueConnector$Account;"⟩, 11), (⟨"ValueConnector$RouteTable", "placeOf", "(IJ)I"⟩, 4), (⟨"ValueConnector$RouteTable", "nearest", "(J)I"⟩, 4), (⟨"ValueConnector$RouteTable", "isNearer", "(II)Z"⟩, 4), (⟨"ValueConnector", "converted", "(III)J"⟩, 11), (⟨"ValueConnector", "keep", "(LValueConnector$Transfer;)I"⟩, 11), (⟨"ValueConnector", "transferNumbered", "(I)LValueConnector$Transfer;"⟩, 11), (⟨"ValueConnector", "settle", "(LValueConnector$Account;)V"⟩, 11), (⟨"ValueConnector", "lapseDue", "()I"⟩, 11), (⟨"ValueConnectorModel", "isAccount", "(I)Z"⟩, 33), (⟨"ValueConnectorModel", "find", "(IJ)I"⟩, 33), (⟨"ValueConnectorModel", "begins", "(JJ)Z"⟩, 33), (⟨"ValueConnectorModel", "better", "(II)Z"⟩, 33), (⟨"ValueConnectorModel", "isTransfer", "(I)Z"⟩, 33), (⟨"ValueConnectorModel", "settle", "(I)V"⟩, 33), (⟨"ValueConnectorModel", "giveBack", "(II)V"⟩, 33)]
theorem lw_r1 : ∀ q ∈ lw_privs_1, lw_okq q := List.forall_mem_cons.mpr ⟨lw_p0, List.forall_mem_cons.mpr ⟨lw_p1, List.forall_mem_cons.mpr ⟨lw_p2, List.forall_mem_cons.mpr ⟨lw_p3, List.forall_mem_cons.mpr ⟨lw_p4, List.forall_mem_cons.mpr ⟨lw_p5, List.forall_mem_cons.mpr ⟨lw_p6, List.forall_mem_cons.mpr ⟨lw_p7, List.forall_mem_cons.mpr ⟨lw_p8, List.forall_mem_cons.mpr ⟨lw_p9, List.forall_mem_cons.mpr ⟨lw_p10, List.forall_mem_cons.mpr ⟨lw_p11, List.forall_mem_cons.mpr ⟨lw_p12, List.forall_mem_cons.mpr ⟨lw_p13, List.forall_mem_cons.mpr ⟨lw_p14, List.forall_mem_cons.mpr ⟨lw_p15, fun _ h => absurd h List.not_mem_nil⟩⟩⟩⟩⟩⟩⟩⟩⟩⟩⟩⟩⟩⟩⟩⟩
def lw_privs : List (MethodName × Nat) := lw_privs_1
def lw_tbl : List Cond := k2_sels lw_privs ++ tables_1
theorem lw_privs_ok : ∀ q ∈ lw_privs, lw_okq q := lw_r1
end
section
def T_M : u_T := fun k => match k with
  | 0 => ("ValueConnectorModel", "margin", "I", true)
  | 1 => ("ValueConnectorModel", "hold", "I", true)
  | 2 => ("ValueConnectorModel", "now", "I", false)
  | 3 => ("ValueConnectorModel", "spread", "I", false)
  | 4 => ("ValueConnectorModel", "accounts", "I", false)
  | 5 => ("ValueConnectorModel", "balance", "[J", true)
  | 6 => ("ValueConnectorModel", "minimum", "[I", true)
  | 7 => ("ValueConnectorModel", "limit", "[I", true)
  | 8 => ("ValueConnectorModel", "worth", "[I", true)
  | 9 => ("ValueConnectorModel", "threshold", "[I", true)
  | 10 => ("ValueConnectorModel", "target", "[I", true)
  | 11 => ("ValueConnectorModel", "digits", "[I", true)
  | 12 => ("ValueConnectorModel", "rest", "[J", true)
  | 13 => ("ValueConnectorModel", "capacity", "[I", true)
  | 14 => ("ValueConnectorModel", "flow", "[I", true)
  | 15 => ("ValueConnectorModel", "drops", "[I", true)
  | 16 => ("ValueConnectorModel", "keys", "[I", true)
  | 17 => ("ValueConnectorModel", "keyCount", "[I", true)
  | 18 => ("ValueConnectorModel", "routes", "I", false)
  | 19 => ("ValueConnectorModel", "routeOf", "[I", true)
  | 20 => ("ValueConnectorModel", "routePrefix", "[J", true)
  | 21 => ("ValueConnectorModel", "routeHops", "[I", true)
  | 22 => ("ValueConnectorModel", "transfers", "I", false)
  | 23 => ("ValueConnectorModel", "from", "[I", true)
  | 24 => ("ValueConnectorModel", "to", "[I", true)
  | 25 => ("ValueConnectorModel", "amount", "[I", true)
  | 26 => ("ValueConnectorModel", "outgoing", "[J", true)
  | 27 => ("ValueConnectorModel", "expiry", "[I", true)
  | 28 => ("ValueConnectorModel", "condition", "[J", true)
  | 29 => ("ValueConnectorModel", "state", "[I", true)
  | 30 => ("ValueConnectorModel", "opened", "[J", true)
  | 31 => ("ValueConnectorModel", "settlements", "I", false)
  | _ => ("ValueConnectorModel", "settled", "[J", true)
def ty_M : Nat → FieldType := fun k => match k with
  | 0 => .int
  | 1 => .int
  | 2 => .int
  | 3 => .int
  | 4 => .int
  | 5 => .array .long
  | 6 => .array .int
  | 7 => .array .int
  | 8 => .array .int
  | 9 => .array .int
  | 10 => .array .int
  | 11 => .array .int
  | 12 => .array .long
  | 13 => .array .int
  | 14 => .array .int
  | 15 => .array .int
  | 16 => .array .int
  | 17 => .array .int
  | 18 => .int
  | 19 => .array .int
  | 20 => .array .long
  | 21 => .array .int
  | 22 => .int
  | 23 => .array .int
  | 24 => .array .int
  | 25 => .array .int
  | 26 => .array .long
  | 27 => .array .int
  | 28 => .array .long
  | 29 => .array .int
  | 30 => .array .long
  | 31 => .int
  | _ => .array .long
theorem nm_M : ∀ a, a < 33 → ∀ b, b < 33 → a ≠ b → (T_M a).2.1 ≠ (T_M b).2.1 := by decide +kernel
theorem ok_M : ∀ k, k < 33 → parseFieldDescriptor (T_M k).2.2.1 = some (ty_M k) := by decide +kernel
def T_X : u_T := fun k => match k with
  | 0 => ("ValueConnector", "margin", "I", true)
  | 1 => ("ValueConnector", "hold", "I", true)
  | 2 => ("ValueConnector", "accounts", "[LValueConnector$Account;", true)
  | 3 => ("ValueConnector", "routes", "LValueConnector$RouteTable;", true)
  | 4 => ("ValueConnector", "transfers", "[LValueConnector$Transfer;", true)
  | 5 => ("ValueConnector", "settlements", "[J", true)
  | 6 => ("ValueConnector", "accountCount", "I", false)
  | 7 => ("ValueConnector", "transferCount", "I", false)
  | 8 => ("ValueConnector", "settlementCount", "I", false)
  | 9 => ("ValueConnector", "spread", "I", false)
  | _ => ("ValueConnector", "now", "J", false)
def ty_X : Nat → FieldType := fun k => match k with
  | 0 => .int
  | 1 => .int
  | 2 => .array (.object "ValueConnector$Account")
  | 3 => .object "ValueConnector$RouteTable"
  | 4 => .array (.object "ValueConnector$Transfer")
  | 5 => .array .long
  | 6 => .int
  | 7 => .int
  | 8 => .int
  | 9 => .int
  | _ => .long
theorem nm_X : ∀ a, a < 11 → ∀ b, b < 11 → a ≠ b → (T_X a).2.1 ≠ (T_X b).2.1 := by decide +kernel
theorem ok_X : ∀ k, k < 11 → parseFieldDescriptor (T_X k).2.2.1 = some (ty_X k) := by decide +kernel
def T_R : u_T := fun k => match k with
  | 0 => ("ValueConnector$RouteTable", "owners", "[I", true)
  | 1 => ("ValueConnector$RouteTable", "prefixes", "[J", true)
  | 2 => ("ValueConnector$RouteTable", "distances", "[I", true)
  | _ => ("ValueConnector$RouteTable", "count", "I", false)
def ty_R : Nat → FieldType := fun k => match k with
  | 0 => .array .int
  | 1 => .array .long
  | 2 => .array .int
  | _ => .int
theorem nm_R : ∀ a, a < 4 → ∀ b, b < 4 → a ≠ b → (T_R a).2.1 ≠ (T_R b).2.1 := by decide +kernel
theorem ok_R : ∀ k, k < 4 → parseFieldDescriptor (T_R k).2.2.1 = some (ty_R k) := by decide +kernel
def T_A : u_T := fun k => match k with
  | 0 => ("ValueConnector$Account", "number", "I", true)
  | 1 => ("ValueConnector$Account", "minimum", "I", true)
  | 2 => ("ValueConnector$Account", "limit", "I", true)
  | 3 => ("ValueConnector$Account", "bucket", "LValueConnector$Bucket;", true)
  | 4 => ("ValueConnector$Account", "creditKeys", "LValueConnector$RecentKeys;", true)
  | 5 => ("ValueConnector$Account", "worth", "I", false)
  | 6 => ("ValueConnector$Account", "balance", "J", false)
  | 7 => ("ValueConnector$Account", "threshold", "I", false)
  | 8 => ("ValueConnector$Account", "target", "I", false)
  | 9 => ("ValueConnector$Account", "unit", "I", false)
  | _ => ("ValueConnector$Account", "rest", "J", false)
def ty_A : Nat → FieldType := fun k => match k with
  | 0 => .int
  | 1 => .int
  | 2 => .int
  | 3 => .object "ValueConnector$Bucket"
  | 4 => .object "ValueConnector$RecentKeys"
  | 5 => .int
  | 6 => .long
  | 7 => .int
  | 8 => .int
  | 9 => .int
  | _ => .long
theorem nm_A : ∀ a, a < 11 → ∀ b, b < 11 → a ≠ b → (T_A a).2.1 ≠ (T_A b).2.1 := by decide +kernel
theorem ok_A : ∀ k, k < 11 → parseFieldDescriptor (T_A k).2.2.1 = some (ty_A k) := by decide +kernel
def T_B : u_T := fun k => match k with
  | 0 => ("ValueConnector$Bucket", "most", "I", false)
  | 1 => ("ValueConnector$Bucket", "flow", "I", false)
  | _ => ("ValueConnector$Bucket", "drops", "I", false)
def ty_B : Nat → FieldType := fun k => match k with
  | 0 => .int
  | 1 => .int
  | _ => .int
theorem nm_B : ∀ a, a < 3 → ∀ b, b < 3 → a ≠ b → (T_B a).2.1 ≠ (T_B b).2.1 := by decide +kernel
theorem ok_B : ∀ k, k < 3 → parseFieldDescriptor (T_B k).2.2.1 = some (ty_B k) := by decide +kernel
def T_K : u_T := fun k => match k with
  | 0 => ("ValueConnector$RecentKeys", "keys", "[I", true)
  | 1 => ("ValueConnector$RecentKeys", "count", "I", false)
  | _ => ("ValueConnector$RecentKeys", "oldest", "I", false)
def ty_K : Nat → FieldType := fun k => match k with
  | 0 => .array .int
  | 1 => .int
  | _ => .int
theorem nm_K : ∀ a, a < 3 → ∀ b, b < 3 → a ≠ b → (T_K a).2.1 ≠ (T_K b).2.1 := by decide +kernel
theorem ok_K : ∀ k, k < 3 → parseFieldDescriptor (T_K k).2.2.1 = some (ty_K k) := by decide +kernel
def T_T : u_T := fun k => match k with
  | 0 => ("ValueConnector$Transfer", "payer", "LValueConnector$Account;", true)
  | 1 => ("ValueConnector$Transfer", "payee", "LValueConnector$Account;", true)
  | 2 => ("ValueConnector$Transfer", "amount", "I", true)
  | 3 => ("ValueConnector$Transfer", "outgoingAmount", "J", true)
  | 4 => ("ValueConnector$Transfer", "outgoingExpiry", "J", true)
  | 5 => ("ValueConnector$Transfer", "condition", "J", true)
  | 6 => ("ValueConnector$Transfer", "state", "I", false)
  | _ => ("ValueConnector$Transfer", "key", "J", false)
def ty_T : Nat → FieldType := fun k => match k with
  | 0 => .object "ValueConnector$Account"
  | 1 => .object "ValueConnector$Account"
  | 2 => .int
  | 3 => .long
  | 4 => .long
  | 5 => .long
  | 6 => .int
  | _ => .long
theorem nm_T : ∀ a, a < 8 → ∀ b, b < 8 → a ≠ b → (T_T a).2.1 ≠ (T_T b).2.1 := by decide +kernel
theorem ok_T : ∀ k, k < 8 → parseFieldDescriptor (T_T k).2.2.1 = some (ty_T k) := by decide +kernel
abbrev vwCl : List vw_C := [("ValueConnectorModel", T_M, 33), ("ValueConnector", T_X, 11), ("ValueConnector$RouteTable", T_R, 4), ("ValueConnector$Account", T_A, 11), ("ValueConnector$Bucket", T_B, 3), ("ValueConnector$RecentKeys", T_K, 3), ("ValueConnector$Transfer", T_T, 8)]
def oWS : List Jvm.Cond := lw_tbl.filter goodWord
theorem oWS_good : ∀ w ∈ oWS, (w.onTables && w.keeps) = true ∨ ∃ ty, w = .arrayClass ty := fun w h => good_of_word (List.mem_filter.mp h).2
theorem oin {ws : List Jvm.Cond} (h : ws.all (fun w => decide (w ∈ lw_tbl) && goodWord w) = true) : ∀ w ∈ ws, w ∈ oWS := by
  intro w hw
  have h1 := List.all_eq_true.mp h w hw
  simp only [Bool.and_eq_true, decide_eq_true_eq] at h1
  exact List.mem_filter.mpr h1
theorem oat {w : Jvm.Cond} (i : Nat) (h : lw_tbl[i]? = some w) (g : goodWord w = true) : w ∈ oWS := List.mem_filter.mpr ⟨List.mem_of_getElem? h, g⟩
def oNW : List Jvm.Cond := [(Jvm.Cond.methodLinkNest "ValueConnector" (17 : Nat) ({ cls := "ValueConnector$RouteTable", name := "<init>", desc := "()V" } : Jvm.MethodName) "ValueConnector"), (Jvm.Cond.methodLinkNest "ValueConnector$Account" (20 : Nat) ({ cls := "ValueConnector$RecentKeys", name := "<init>", desc := "()V" } : Jvm.MethodName) "ValueConnector"), (Jvm.Cond.methodLinkNest "ValueConnector$RouteTable" (30 : Nat) ({ cls := "ValueConnector", name := "letterCount", desc := "(J)I" } : Jvm.MethodName) "ValueConnector")]
theorem uw_M : ∀ w ∈ u_ws "ValueConnectorModel" T_M 33, w ∈ oWS := oin (by decide +kernel)
theorem uw_X : ∀ w ∈ u_ws "ValueConnector" T_X 11, w ∈ oWS := oin (by decide +kernel)
theorem uw_R : ∀ w ∈ u_ws "ValueConnector$RouteTable" T_R 4, w ∈ oWS := oin (by decide +kernel)
theorem uw_A : ∀ w ∈ u_ws "ValueConnector$Account" T_A 11, w ∈ oWS := oin (by decide +kernel)
theorem uw_B : ∀ w ∈ u_ws "ValueConnector$Bucket" T_B 3, w ∈ oWS := oin (by decide +kernel)
theorem uw_K : ∀ w ∈ u_ws "ValueConnector$RecentKeys" T_K 3, w ∈ oWS := oin (by decide +kernel)
theorem uw_T : ∀ w ∈ u_ws "ValueConnector$Transfer" T_T 8, w ∈ oWS := oin (by decide +kernel)
abbrev oA_ : String := "ValueConnector$Account"
abbrev oT_ : String := "ValueConnector$Transfer"
def opw (j : Nat) : Int32 := if j = 0 then 1 else if j = 1 then 10 else if j = 2 then 100 else 1000
def oush (x : Int64) (y : Int32) : Int64 := (x.toUInt64 >>> (y.toInt64.toUInt64 &&& Int64.toUInt64 63)).toInt64
def otk (k f : Nat) : Nat :=
  if k = 0 then f else if k = 40 then (if f = 2 then 41 else if f = 3 then 42 else if f = 4 then 43 else 44) else if k = 41 then 48 else if k = 43 then 52 else if k = 42 then (if f = 0 then 45 else if f = 1 then 46 else 47) else if k = 48 then (if f = 3 then 49 else 50) else if k = 50 then 51 else 48
def fl_0 (j : Nat → Int32) (g : Nat → Int64) (r : Nat → Option Nat) : List Value := [.int (j 0), .int (j 1), .int (j 2), .int (j 3), .int (j 4), va_rf (r 5), va_rf (r 6), va_rf (r 7), va_rf (r 8), va_rf (r 9), va_rf (r 10), va_rf (r 11), va_rf (r 12), va_rf (r 13), va_rf (r 14), va_rf (r 15), va_rf (r 16), va_rf (r 17), .int (j 18), va_rf (r 19), va_rf (r 20), va_rf (r 21), .int (j 22), va_rf (r 23), va_rf (r 24), va_rf (r 25), va_rf (r 26), va_rf (r 27), va_rf (r 28), va_rf (r 29), va_rf (r 30), .int (j 31), va_rf (r 32)]
def fl_40 (j : Nat → Int32) (g : Nat → Int64) (r : Nat → Option Nat) : List Value := [.int (j 0), .int (j 1), va_rf (r 2), va_rf (r 3), va_rf (r 4), va_rf (r 5), .int (j 6), .int (j 7), .int (j 8), .int (j 9), .long (g 10)]
def fl_42 (j : Nat → Int32) (g : Nat → Int64) (r : Nat → Option Nat) : List Value := [va_rf (r 0), va_rf (r 1), va_rf (r 2), .int (j 3)]
def fl_48 (j : Nat → Int32) (g : Nat → Int64) (r : Nat → Option Nat) : List Value := [.int (j 0), .int (j 1), .int (j 2), va_rf (r 3), va_rf (r 4), .int (j 5), .long (g 6), .int (j 7), .int (j 8), .int (j 9), .long (g 10)]
def fl_49 (j : Nat → Int32) (g : Nat → Int64) (r : Nat → Option Nat) : List Value := [.int (j 0), .int (j 1), .int (j 2)]
def fl_50 (j : Nat → Int32) (g : Nat → Int64) (r : Nat → Option Nat) : List Value := [va_rf (r 0), .int (j 1), .int (j 2)]
def fl_52 (j : Nat → Int32) (g : Nat → Int64) (r : Nat → Option Nat) : List Value := [va_rf (r 0), va_rf (r 1), .int (j 2), .long (g 3), .long (g 4), .long (g 5), .int (j 6), .long (g 7)]
def osh (ca : Nat → ClassId) (k : Nat) (j : Nat → Int32) (g : Nat → Int64) (r : Nat → Option Nat) : va_E :=
  if k = 0 then .inr (0, fl_0 j g r) else
  if k = 5 then .inl (ca 1, 8, .inr (.inl g)) else
  if k = 6 then .inl (ca 0, 8, .inl j) else
  if k = 7 then .inl (ca 0, 8, .inl j) else
  if k = 8 then .inl (ca 0, 8, .inl j) else
  if k = 9 then .inl (ca 0, 8, .inl j) else
  if k = 10 then .inl (ca 0, 8, .inl j) else
  if k = 11 then .inl (ca 0, 8, .inl j) else
  if k = 12 then .inl (ca 1, 8, .inr (.inl g)) else
  if k = 13 then .inl (ca 0, 8, .inl j) else
  if k = 14 then .inl (ca 0, 8, .inl j) else
  if k = 15 then .inl (ca 0, 8, .inl j) else
  if k = 16 then .inl (ca 0, 64, .inl j) else
  if k = 17 then .inl (ca 0, 8, .inl j) else
  if k = 19 then .inl (ca 0, 40, .inl j) else
  if k = 20 then .inl (ca 1, 40, .inr (.inl g)) else
  if k = 21 then .inl (ca 0, 40, .inl j) else
  if k = 23 then .inl (ca 0, 120, .inl j) else
  if k = 24 then .inl (ca 0, 120, .inl j) else
  if k = 25 then .inl (ca 0, 120, .inl j) else
  if k = 26 then .inl (ca 1, 120, .inr (.inl g)) else
  if k = 27 then .inl (ca 0, 120, .inl j) else
  if k = 28 then .inl (ca 1, 120, .inr (.inl g)) else
  if k = 29 then .inl (ca 0, 120, .inl j) else
  if k = 30 then .inl (ca 1, 120, .inr (.inl g)) else
  if k = 32 then .inl (ca 1, 120, .inr (.inl g)) else
  if k = 40 then .inr (1, fl_40 j g r) else
  if k = 41 then .inl (ca 2, 8, .inr (.inr (.inr (.inr r)))) else
  if k = 42 then .inr (2, fl_42 j g r) else
  if k = 43 then .inl (ca 3, 120, .inr (.inr (.inr (.inr r)))) else
  if k = 44 then .inl (ca 1, 120, .inr (.inl g)) else
  if k = 45 then .inl (ca 0, 40, .inl j) else
  if k = 46 then .inl (ca 1, 40, .inr (.inl g)) else
  if k = 47 then .inl (ca 0, 40, .inl j) else
  if k = 48 then .inr (3, fl_48 j g r) else
  if k = 49 then .inr (4, fl_49 j g r) else
  if k = 50 then .inr (5, fl_50 j g r) else
  if k = 51 then .inl (ca 0, 8, .inl j) else
  if k = 52 then .inr (6, fl_52 j g r) else .inr (0, [])
theorem osh_0 (ca : Nat → ClassId) (j : Nat → Int32) (g : Nat → Int64) (r : Nat → Option Nat) : osh ca 0 j g r = .inr (0, fl_0 j g r) := rfl
theorem fl_0_len (j : Nat → Int32) (g : Nat → Int64) (r : Nat → Option Nat) (n : Nat) (h : n < 33) : n < (fl_0 j g r).length := h
theorem fl_0_0 (j : Nat → Int32) (g : Nat → Int64) (r : Nat → Option Nat) : (fl_0 j g r)[0]? = some (.int (j 0)) := rfl
theorem up_0_0 (ca : Nat → ClassId) (j : Nat → Int32) (g : Nat → Int64) (r : Nat → Option Nat) (v : Int32) : osh ca 0 (upd j 0 v) g r = .inr (0, (fl_0 j g r).set 0 (.int v)) := rfl
theorem fl_0_1 (j : Nat → Int32) (g : Nat → Int64) (r : Nat → Option Nat) : (fl_0 j g r)[1]? = some (.int (j 1)) := rfl
theorem up_0_1 (ca : Nat → ClassId) (j : Nat → Int32) (g : Nat → Int64) (r : Nat → Option Nat) (v : Int32) : osh ca 0 (upd j 1 v) g r = .inr (0, (fl_0 j g r).set 1 (.int v)) := rfl
theorem fl_0_2 (j : Nat → Int32) (g : Nat → Int64) (r : Nat → Option Nat) : (fl_0 j g r)[2]? = some (.int (j 2)) := rfl
theorem up_0_2 (ca : Nat → ClassId) (j : Nat → Int32) (g : Nat → Int64) (r : Nat → Option Nat) (v : Int32) : osh ca 0 (upd j 2 v) g r = .inr (0, (fl_0 j g r).set 2 (.int v)) := rfl
theorem fl_0_3 (j : Nat → Int32) (g : Nat → Int64) (r : Nat → Option Nat) : (fl_0 j g r)[3]? = some (.int (j 3)) := rfl
theorem up_0_3 (ca : Nat → ClassId) (j : Nat → Int32) (g : Nat → Int64) (r : Nat → Option Nat) (v : Int32) : osh ca 0 (upd j 3 v) g r = .inr (0, (fl_0 j g r).set 3 (.int v)) := rfl
theorem fl_0_4 (j : Nat → Int32) (g : Nat → Int64) (r : Nat → Option Nat) : (fl_0 j g r)[4]? = some (.int (j 4)) := rfl
theorem up_0_4 (ca : Nat → ClassId) (j : Nat → Int32) (g : Nat → Int64) (r : Nat → Option Nat) (v : Int32) : osh ca 0 (upd j 4 v) g r = .inr (0, (fl_0 j g r).set 4 (.int v)) := rfl
theorem fl_0_5 (j : Nat → Int32) (g : Nat → Int64) (r : Nat → Option Nat) : (fl_0 j g r)[5]? = some (va_rf (r 5)) := rfl
theorem up_0_5 (ca : Nat → ClassId) (j : Nat → Int32) (g : Nat → Int64) (r : Nat → Option Nat) (a : Nat) : osh ca 0 j g (va_up r 5 (some a)) = .inr (0, (fl_0 j g r).set 5 (.ref a)) := rfl
theorem fl_0_6 (j : Nat → Int32) (g : Nat → Int64) (r : Nat → Option Nat) : (fl_0 j g r)[6]? = some (va_rf (r 6)) := rfl
theorem up_0_6 (ca : Nat → ClassId) (j : Nat → Int32) (g : Nat → Int64) (r : Nat → Option Nat) (a : Nat) : osh ca 0 j g (va_up r 6 (some a)) = .inr (0, (fl_0 j g r).set 6 (.ref a)) := rfl
theorem fl_0_7 (j : Nat → Int32) (g : Nat → Int64) (r : Nat → Option Nat) : (fl_0 j g r)[7]? = some (va_rf (r 7)) := rfl
theorem up_0_7 (ca : Nat → ClassId) (j : Nat → Int32) (g : Nat → Int64) (r : Nat → Option Nat) (a : Nat) : osh ca 0 j g (va_up r 7 (some a)) = .inr (0, (fl_0 j g r).set 7 (.ref a)) := rfl
theorem fl_0_8 (j : Nat → Int32) (g : Nat → Int64) (r : Nat → Option Nat) : (fl_0 j g r)[8]? = some (va_rf (r 8)) := rfl
theorem up_0_8 (ca : Nat → ClassId) (j : Nat → Int32) (g : Nat → Int64) (r : Nat → Option Nat) (a : Nat) : osh ca 0 j g (va_up r 8 (some a)) = .inr (0, (fl_0 j g r).set 8 (.ref a)) := rfl
theorem fl_0_9 (j : Nat → Int32) (g : Nat → Int64) (r : Nat → Option Nat) : (fl_0 j g r)[9]? = some (va_rf (r 9)) := rfl
theorem up_0_9 (ca : Nat → ClassId) (j : Nat → Int32) (g : Nat → Int64) (r : Nat → Option Nat) (a : Nat) : osh ca 0 j g (va_up r 9 (some a)) = .inr (0, (fl_0 j g r).set 9 (.ref a)) := rfl
theorem fl_0_10 (j : Nat → Int32) (g : Nat → Int64) (r : Nat → Option Nat) : (fl_0 j g r)[10]? = some (va_rf (r 10)) := rfl
theorem up_0_10 (ca : Nat → ClassId) (j : Nat → Int32) (g : Nat → Int64) (r : Nat → Option Nat) (a : Nat) : osh ca 0 j g (va_up r 10 (some a)) = .inr (0, (fl_0 j g r).set 10 (.ref a)) := rfl
theorem fl_0_11 (j : Nat → Int32) (g : Nat → Int64) (r : Nat → Option Nat) : (fl_0 j g r)[11]? = some (va_rf (r 11)) := rfl
theorem up_0_11 (ca : Nat → ClassId) (j : Nat → Int32) (g : Nat → Int64) (r : Nat → Option Nat) (a : Nat) : osh ca 0 j g (va_up r 11 (some a)) = .inr (0, (fl_0 j g r).set 11 (.ref a)) := rfl
theorem fl_0_12 (j : Nat → Int32) (g : Nat → Int64) (r : Nat → Option Nat) : (fl_0 j g r)[12]? = some (va_rf (r 12)) := rfl
theorem up_0_12 (ca : Nat → ClassId) (j : Nat → Int32) (g : Nat → Int64) (r : Nat → Option Nat) (a : Nat) : osh ca 0 j g (va_up r 12 (some a)) = .inr (0, (fl_0 j g r).set 12 (.ref a)) := rfl
theorem fl_0_13 (j : Nat → Int32) (g : Nat → Int64) (r : Nat → Option Nat) : (fl_0 j g r)[13]? = some (va_rf (r 13)) := rfl
theorem up_0_13 (ca : Nat → ClassId) (j : Nat → Int32) (g : Nat → Int64) (r : Nat → Option Nat) (a : Nat) : osh ca 0 j g (va_up r 13 (some a)) = .inr (0, (fl_0 j g r).set 13 (.ref a)) := rfl
theorem fl_0_14 (j : Nat → Int32) (g : Nat → Int64) (r : Nat → Option Nat) : (fl_0 j g r)[14]? = some (va_rf (r 14)) := rfl
theorem up_0_14 (ca : Nat → ClassId) (j : Nat → Int32) (g : Nat → Int64) (r : Nat → Option Nat) (a : Nat) : osh ca 0 j g (va_up r 14 (some a)) = .inr (0, (fl_0 j g r).set 14 (.ref a)) := rfl
theorem fl_0_15 (j : Nat → Int32) (g : Nat → Int64) (r : Nat → Option Nat) : (fl_0 j g r)[15]? = some (va_rf (r 15)) := rfl
theorem up_0_15 (ca : Nat → ClassId) (j : Nat → Int32) (g : Nat → Int64) (r : Nat → Option Nat) (a : Nat) : osh ca 0 j g (va_up r 15 (some a)) = .inr (0, (fl_0 j g r).set 15 (.ref a)) := rfl
theorem fl_0_16 (j : Nat → Int32) (g : Nat → Int64) (r : Nat → Option Nat) : (fl_0 j g r)[16]? = some (va_rf (r 16)) := rfl
theorem up_0_16 (ca : Nat → ClassId) (j : Nat → Int32) (g : Nat → Int64) (r : Nat → Option Nat) (a : Nat) : osh ca 0 j g (va_up r 16 (some a)) = .inr (0, (fl_0 j g r).set 16 (.ref a)) := rfl
theorem fl_0_17 (j : Nat → Int32) (g : Nat → Int64) (r : Nat → Option Nat) : (fl_0 j g r)[17]? = some (va_rf (r 17)) := rfl
theorem up_0_17 (ca : Nat → ClassId) (j : Nat → Int32) (g : Nat → Int64) (r : Nat → Option Nat) (a : Nat) : osh ca 0 j g (va_up r 17 (some a)) = .inr (0, (fl_0 j g r).set 17 (.ref a)) := rfl
theorem fl_0_18 (j : Nat → Int32) (g : Nat → Int64) (r : Nat → Option Nat) : (fl_0 j g r)[18]? = some (.int (j 18)) := rfl
theorem up_0_18 (ca : Nat → ClassId) (j : Nat → Int32) (g : Nat → Int64) (r : Nat → Option Nat) (v : Int32) : osh ca 0 (upd j 18 v) g r = .inr (0, (fl_0 j g r).set 18 (.int v)) := rfl
theorem fl_0_19 (j : Nat → Int32) (g : Nat → Int64) (r : Nat → Option Nat) : (fl_0 j g r)[19]? = some (va_rf (r 19)) := rfl
theorem up_0_19 (ca : Nat → ClassId) (j : Nat → Int32) (g : Nat → Int64) (r : Nat → Option Nat) (a : Nat) : osh ca 0 j g (va_up r 19 (some a)) = .inr (0, (fl_0 j g r).set 19 (.ref a)) := rfl
theorem fl_0_20 (j : Nat → Int32) (g : Nat → Int64) (r : Nat → Option Nat) : (fl_0 j g r)[20]? = some (va_rf (r 20)) := rfl
theorem up_0_20 (ca : Nat → ClassId) (j : Nat → Int32) (g : Nat → Int64) (r : Nat → Option Nat) (a : Nat) : osh ca 0 j g (va_up r 20 (some a)) = .inr (0, (fl_0 j g r).set 20 (.ref a)) := rfl
theorem fl_0_21 (j : Nat → Int32) (g : Nat → Int64) (r : Nat → Option Nat) : (fl_0 j g r)[21]? = some (va_rf (r 21)) := rfl
theorem up_0_21 (ca : Nat → ClassId) (j : Nat → Int32) (g : Nat → Int64) (r : Nat → Option Nat) (a : Nat) : osh ca 0 j g (va_up r 21 (some a)) = .inr (0, (fl_0 j g r).set 21 (.ref a)) := rfl
theorem fl_0_22 (j : Nat → Int32) (g : Nat → Int64) (r : Nat → Option Nat) : (fl_0 j g r)[22]? = some (.int (j 22)) := rfl
theorem up_0_22 (ca : Nat → ClassId) (j : Nat → Int32) (g : Nat → Int64) (r : Nat → Option Nat) (v : Int32) : osh ca 0 (upd j 22 v) g r = .inr (0, (fl_0 j g r).set 22 (.int v)) := rfl
theorem fl_0_23 (j : Nat → Int32) (g : Nat → Int64) (r : Nat → Option Nat) : (fl_0 j g r)[23]? = some (va_rf (r 23)) := rfl
theorem up_0_23 (ca : Nat → ClassId) (j : Nat → Int32) (g : Nat → Int64) (r : Nat → Option Nat) (a : Nat) : osh ca 0 j g (va_up r 23 (some a)) = .inr (0, (fl_0 j g r).set 23 (.ref a)) := rfl
theorem fl_0_24 (j : Nat → Int32) (g : Nat → Int64) (r : Nat → Option Nat) : (fl_0 j g r)[24]? = some (va_rf (r 24)) := rfl
theorem up_0_24 (ca : Nat → ClassId) (j : Nat → Int32) (g : Nat → Int64) (r : Nat → Option Nat) (a : Nat) : osh ca 0 j g (va_up r 24 (some a)) = .inr (0, (fl_0 j g r).set 24 (.ref a)) := rfl
theorem fl_0_25 (j : Nat → Int32) (g : Nat → Int64) (r : Nat → Option Nat) : (fl_0 j g r)[25]? = some (va_rf (r 25)) := rfl
theorem up_0_25 (ca : Nat → ClassId) (j : Nat → Int32) (g : Nat → Int64) (r : Nat → Option Nat) (a : Nat) : osh ca 0 j g (va_up r 25 (some a)) = .inr (0, (fl_0 j g r).set 25 (.ref a)) := rfl
theorem fl_0_26 (j : Nat → Int32) (g : Nat → Int64) (r : Nat → Option Nat) : (fl_0 j g r)[26]? = some (va_rf (r 26)) := rfl
theorem up_0_26 (ca : Nat → ClassId) (j : Nat → Int32) (g : Nat → Int64) (r : Nat → Option Nat) (a : Nat) : osh ca 0 j g (va_up r 26 (some a)) = .inr (0, (fl_0 j g r).set 26 (.ref a)) := rfl
theorem fl_0_27 (j : Nat → Int32) (g : Nat → Int64) (r : Nat → Option Nat) : (fl_0 j g r)[27]? = some (va_rf (r 27)) := rfl
theorem up_0_27 (ca : Nat → ClassId) (j : Nat → Int32) (g : Nat → Int64) (r : Nat → Option Nat) (a : Nat) : osh ca 0 j g (va_up r 27 (some a)) = .inr (0, (fl_0 j g r).set 27 (.ref a)) := rfl
theorem fl_0_28 (j : Nat → Int32) (g : Nat → Int64) (r : Nat → Option Nat) : (fl_0 j g r)[28]? = some (va_rf (r 28)) := rfl
theorem up_0_28 (ca : Nat → ClassId) (j : Nat → Int32) (g : Nat → Int64) (r : Nat → Option Nat) (a : Nat) : osh ca 0 j g (va_up r 28 (some a)) = .inr (0, (fl_0 j g r).set 28 (.ref a)) := rfl
theorem fl_0_29 (j : Nat → Int32) (g : Nat → Int64) (r : Nat → Option Nat) : (fl_0 j g r)[29]? = some (va_rf (r 29)) := rfl
theorem up_0_29 (ca : Nat → ClassId) (j : Nat → Int32) (g : Nat → Int64) (r : Nat → Option Nat) (a : Nat) : osh ca 0 j g (va_up r 29 (some a)) = .inr (0, (fl_0 j g r).set 29 (.ref a)) := rfl
theorem fl_0_30 (j : Nat → Int32) (g : Nat → Int64) (r : Nat → Option Nat) : (fl_0 j g r)[30]? = some (va_rf (r 30)) := rfl
theorem up_0_30 (ca : Nat → ClassId) (j : Nat → Int32) (g : Nat → Int64) (r : Nat → Option Nat) (a : Nat) : osh ca 0 j g (va_up r 30 (some a)) = .inr (0, (fl_0 j g r).set 30 (.ref a)) := rfl
theorem fl_0_31 (j : Nat → Int32) (g : Nat → Int64) (r : Nat → Option Nat) : (fl_0 j g r)[31]? = some (.int (j 31)) := rfl
theorem up_0_31 (ca : Nat → ClassId) (j : Nat → Int32) (g : Nat → Int64) (r : Nat → Option Nat) (v : Int32) : osh ca 0 (upd j 31 v) g r = .inr (0, (fl_0 j g r).set 31 (.int v)) := rfl
theorem fl_0_32 (j : Nat → Int32) (g : Nat → Int64) (r : Nat → Option Nat) : (fl_0 j g r)[32]? = some (va_rf (r 32)) := rfl
theorem up_0_32 (ca : Nat → ClassId) (j : Nat → Int32) (g : Nat → Int64) (r : Nat → Option Nat) (a : Nat) : osh ca 0 j g (va_up r 32 (some a)) = .inr (0, (fl_0 j g r).set 32 (.ref a)) := rfl
theorem osh_5 (ca : Nat → ClassId) (j : Nat → Int32) (g : Nat → Int64) (r : Nat → Option Nat) : osh ca 5 j g r = .inl (ca 1, 8, .inr (.inl g)) := rfl
theorem osh_6 (ca : Nat → ClassId) (j : Nat → Int32) (g : Nat → Int64) (r : Nat → Option Nat) : osh ca 6 j g r = .inl (ca 0, 8, .inl j) := rfl
theorem osh_7 (ca : Nat → ClassId) (j : Nat → Int32) (g : Nat → Int64) (r : Nat → Option Nat) : osh ca 7 j g r = .inl (ca 0, 8, .inl j) := rfl
theorem osh_8 (ca : Nat → ClassId) (j : Nat → Int32) (g : Nat → Int64) (r : Nat → Option Nat) : osh ca 8 j g r = .inl (ca 0, 8, .inl j) := rfl
theorem osh_9 (ca : Nat → ClassId) (j : Nat → Int32) (g : Nat → Int64) (r : Nat → Option Nat) : osh ca 9 j g r = .inl (ca 0, 8, .inl j) := rfl
theorem osh_10 (ca : Nat → ClassId) (j : Nat → Int32) (g : Nat → Int64) (r : Nat → Option Nat) : osh ca 10 j g r = .inl (ca 0, 8, .inl j) := rfl
theorem osh_11 (ca : Nat → ClassId) (j : Nat → Int32) (g : Nat → Int64) (r : Nat → Option Nat) : osh ca 11 j g r = .inl (ca 0, 8, .inl j) := rfl
theorem osh_12 (ca : Nat → ClassId) (j : Nat → Int32) (g : Nat → Int64) (r : Nat → Option Nat) : osh ca 12 j g r = .inl (ca 1, 8, .inr (.inl g)) := rfl
theorem osh_13 (ca : Nat → ClassId) (j : Nat → Int32) (g : Nat → Int64) (r : Nat → Option Nat) : osh ca 13 j g r = .inl (ca 0, 8, .inl j) := rfl
theorem osh_14 (ca : Nat → ClassId) (j : Nat → Int32) (g : Nat → Int64) (r : Nat → Option Nat) : osh ca 14 j g r = .inl (ca 0, 8, .inl j) := rfl
theorem osh_15 (ca : Nat → ClassId) (j : Nat → Int32) (g : Nat → Int64) (r : Nat → Option Nat) : osh ca 15 j g r = .inl (ca 0, 8, .inl j) := rfl
theorem osh_16 (ca : Nat → ClassId) (j : Nat → Int32) (g : Nat → Int64) (r : Nat → Option Nat) : osh ca 16 j g r = .inl (ca 0, 64, .inl j) := rfl
theorem osh_17 (ca : Nat → ClassId) (j : Nat → Int32) (g : Nat → Int64) (r : Nat → Option Nat) : osh ca 17 j g r = .inl (ca 0, 8, .inl j) := rfl
theorem osh_19 (ca : Nat → ClassId) (j : Nat → Int32) (g : Nat → Int64) (r : Nat → Option Nat) : osh ca 19 j g r = .inl (ca 0, 40, .inl j) := rfl
theorem osh_20 (ca : Nat → ClassId) (j : Nat → Int32) (g : Nat → Int64) (r : Nat → Option Nat) : osh ca 20 j g r = .inl (ca 1, 40, .inr (.inl g)) := rfl
theorem osh_21 (ca : Nat → ClassId) (j : Nat → Int32) (g : Nat → Int64) (r : Nat → Option Nat) : osh ca 21 j g r = .inl (ca 0, 40, .inl j) := rfl
theorem osh_23 (ca : Nat → ClassId) (j : Nat → Int32) (g : Nat → Int64) (r : Nat → Option Nat) : osh ca 23 j g r = .inl (ca 0, 120, .inl j) := rfl
theorem osh_24 (ca : Nat → ClassId) (j : Nat → Int32) (g : Nat → Int64) (r : Nat → Option Nat) : osh ca 24 j g r = .inl (ca 0, 120, .inl j) := rfl
theorem osh_25 (ca : Nat → ClassId) (j : Nat → Int32) (g : Nat → Int64) (r : Nat → Option Nat) : osh ca 25 j g r = .inl (ca 0, 120, .inl j) := rfl
theorem osh_26 (ca : Nat → ClassId) (j : Nat → Int32) (g : Nat → Int64) (r : Nat → Option Nat) : osh ca 26 j g r = .inl (ca 1, 120, .inr (.inl g)) := rfl
theorem osh_27 (ca : Nat → ClassId) (j : Nat → Int32) (g : Nat → Int64) (r : Nat → Option Nat) : osh ca 27 j g r = .inl (ca 0, 120, .inl j) := rfl
theorem osh_28 (ca : Nat → ClassId) (j : Nat → Int32) (g : Nat → Int64) (r : Nat → Option Nat) : osh ca 28 j g r = .inl (ca 1, 120, .inr (.inl g)) := rfl
theorem osh_29 (ca : Nat → ClassId) (j : Nat → Int32) (g : Nat → Int64) (r : Nat → Option Nat) : osh ca 29 j g r = .inl (ca 0, 120, .inl j) := rfl
theorem osh_30 (ca : Nat → ClassId) (j : Nat → Int32) (g : Nat → Int64) (r : Nat → Option Nat) : osh ca 30 j g r = .inl (ca 1, 120, .inr (.inl g)) := rfl
theorem osh_32 (ca : Nat → ClassId) (j : Nat → Int32) (g : Nat → Int64) (r : Nat → Option Nat) : osh ca 32 j g r = .inl (ca 1, 120, .inr (.inl g)) := rfl
theorem osh_40 (ca : Nat → ClassId) (j : Nat → Int32) (g : Nat → Int64) (r : Nat → Option Nat) : osh ca 40 j g r = .inr (1, fl_40 j g r) := rfl
theorem fl_40_len (j : Nat → Int32) (g : Nat → Int64) (r : Nat → Option Nat) (n : Nat) (h : n < 11) : n < (fl_40 j g r).length := h
theorem fl_40_0 (j : Nat → Int32) (g : Nat → Int64) (r : Nat → Option Nat) : (fl_40 j g r)[0]? = some (.int (j 0)) := rfl
theorem up_40_0 (ca : Nat → ClassId) (j : Nat → Int32) (g : Nat → Int64) (r : Nat → Option Nat) (v : Int32) : osh ca 40 (upd j 0 v) g r = .inr (1, (fl_40 j g r).set 0 (.int v)) := rfl
theorem fl_40_1 (j : Nat → Int32) (g : Nat → Int64) (r : Nat → Option Nat) : (fl_40 j g r)[1]? = some (.int (j 1)) := rfl
theorem up_40_1 (ca : Nat → ClassId) (j : Nat → Int32) (g : Nat → Int64) (r : Nat → Option Nat) (v : Int32) : osh ca 40 (upd j 1 v) g r = .inr (1, (fl_40 j g r).set 1 (.int v)) := rfl
theorem fl_40_2 (j : Nat → Int32) (g : Nat → Int64) (r : Nat → Option Nat) : (fl_40 j g r)[2]? = some (va_rf (r 2)) := rfl
theorem up_40_2 (ca : Nat → ClassId) (j : Nat → Int32) (g : Nat → Int64) (r : Nat → Option Nat) (a : Nat) : osh ca 40 j g (va_up r 2 (some a)) = .inr (1, (fl_40 j g r).set 2 (.ref a)) := rfl
theorem fl_40_3 (j : Nat → Int32) (g : Nat → Int64) (r : Nat → Option Nat) : (fl_40 j g r)[3]? = some (va_rf (r 3)) := rfl
theorem up_40_3 (ca : Nat → ClassId) (j : Nat → Int32) (g : Nat → Int64) (r : Nat → Option Nat) (a : Nat) : osh ca 40 j g (va_up r 3 (some a)) = .inr (1, (fl_40 j g r).set 3 (.ref a)) := rfl
theorem fl_40_4 (j : Nat → Int32) (g : Nat → Int64) (r : Nat → Option Nat) : (fl_40 j g r)[4]? = some (va_rf (r 4)) := rfl
theorem up_40_4 (ca : Nat → ClassId) (j : Nat → Int32) (g : Nat → Int64) (r : Nat → Option Nat) (a : Nat) : osh ca 40 j g (va_up r 4 (some a)) = .inr (1, (fl_40 j g r).set 4 (.ref a)) := rfl
theorem fl_40_5 (j : Nat → Int32) (g : Nat → Int64) (r : Nat → Option Nat) : (fl_40 j g r)[5]? = some (va_rf (r 5)) := rfl
theorem up_40_5 (ca : Nat → ClassId) (j : Nat → Int32) (g : Nat → Int64) (r : Nat → Option Nat) (a : Nat) : osh ca 40 j g (va_up r 5 (some a)) = .inr (1, (fl_40 j g r).set 5 (.ref a)) := rfl
theorem fl_40_6 (j : Nat → Int32) (g : Nat → Int64) (r : Nat → Option Nat) : (fl_40 j g r)[6]? = some (.int (j 6)) := rfl
theorem up_40_6 (ca : Nat → ClassId) (j : Nat → Int32) (g : Nat → Int64) (r : Nat → Option Nat) (v : Int32) : osh ca 40 (upd j 6 v) g r = .inr (1, (fl_40 j g r).set 6 (.int v)) := rfl
theorem fl_40_7 (j : Nat → Int32) (g : Nat → Int64) (r : Nat → Option Nat) : (fl_40 j g r)[7]? = some (.int (j 7)) := rfl
theorem up_40_7 (ca : Nat → ClassId) (j : Nat → Int32) (g : Nat → Int64) (r : Nat → Option Nat) (v : Int32) : osh ca 40 (upd j 7 v) g r = .inr (1, (fl_40 j g r).set 7 (.int v)) := rfl
theorem fl_40_8 (j : Nat → Int32) (g : Nat → Int64) (r : Nat → Option Nat) : (fl_40 j g r)[8]? = some (.int (j 8)) := rfl
theorem up_40_8 (ca : Nat → ClassId) (j : Nat → Int32) (g : Nat → Int64) (r : Nat → Option Nat) (v : Int32) : osh ca 40 (upd j 8 v) g r = .inr (1, (fl_40 j g r).set 8 (.int v)) := rfl
theorem fl_40_9 (j : Nat → Int32) (g : Nat → Int64) (r : Nat → Option Nat) : (fl_40 j g r)[9]? = some (.int (j 9)) := rfl
theorem up_40_9 (ca : Nat → ClassId) (j : Nat → Int32) (g : Nat → Int64) (r : Nat → Option Nat) (v : Int32) : osh ca 40 (upd j 9 v) g r = .inr (1, (fl_40 j g r).set 9 (.int v)) := rfl
theorem fl_40_10 (j : Nat → Int32) (g : Nat → Int64) (r : Nat → Option Nat) : (fl_40 j g r)[10]? = some (.long (g 10)) := rfl
theorem up_40_10 (ca : Nat → ClassId) (j : Nat → Int32) (g : Nat → Int64) (r : Nat → Option Nat) (v : Int64) : osh ca 40 j (vp_updL g 10 v) r = .inr (1, (fl_40 j g r).set 10 (.long v)) := rfl
theorem osh_41 (ca : Nat → ClassId) (j : Nat → Int32) (g : Nat → Int64) (r : Nat → Option Nat) : osh ca 41 j g r = .inl (ca 2, 8, .inr (.inr (.inr (.inr r)))) := rfl
theorem osh_42 (ca : Nat → ClassId) (j : Nat → Int32) (g : Nat → Int64) (r : Nat → Option Nat) : osh ca 42 j g r = .inr (2, fl_42 j g r) := rfl
theorem fl_42_len (j : Nat → Int32) (g : Nat → Int64) (r : Nat → Option Nat) (n : Nat) (h : n < 4) : n < (fl_42 j g r).length := h
theorem fl_42_0 (j : Nat → Int32) (g : Nat → Int64) (r : Nat → Option Nat) : (fl_42 j g r)[0]? = some (va_rf (r 0)) := rfl
theorem up_42_0 (ca : Nat → ClassId) (j : Nat → Int32) (g : Nat → Int64) (r : Nat → Option Nat) (a : Nat) : osh ca 42 j g (va_up r 0 (some a)) = .inr (2, (fl_42 j g r).set 0 (.ref a)) := rfl
theorem fl_42_1 (j : Nat → Int32) (g : Nat → Int64) (r : Nat → Option Nat) : (fl_42 j g r)[1]? = some (va_rf (r 1)) := rfl
theorem up_42_1 (ca : Nat → ClassId) (j : Nat → Int32) (g : Nat → Int64) (r : Nat → Option Nat) (a : Nat) : osh ca 42 j g (va_up r 1 (some a)) = .inr (2, (fl_42 j g r).set 1 (.ref a)) := rfl
theorem fl_42_2 (j : Nat → Int32) (g : Nat → Int64) (r : Nat → Option Nat) : (fl_42 j g r)[2]? = some (va_rf (r 2)) := rfl
theorem up_42_2 (ca : Nat → ClassId) (j : Nat → Int32) (g : Nat → Int64) (r : Nat → Option Nat) (a : Nat) : osh ca 42 j g (va_up r 2 (some a)) = .inr (2, (fl_42 j g r).set 2 (.ref a)) := rfl
theorem fl_42_3 (j : Nat → Int32) (g : Nat → Int64) (r : Nat → Option Nat) : (fl_42 j g r)[3]? = some (.int (j 3)) := rfl
theorem up_42_3 (ca : Nat → ClassId) (j : Nat → Int32) (g : Nat → Int64) (r : Nat → Option Nat) (v : Int32) : osh ca 42 (upd j 3 v) g r = .inr (2, (fl_42 j g r).set 3 (.int v)) := rfl
theorem osh_43 (ca : Nat → ClassId) (j : Nat → Int32) (g : Nat → Int64) (r : Nat → Option Nat) : osh ca 43 j g r = .inl (ca 3, 120, .inr (.inr (.inr (.inr r)))) := rfl
theorem osh_44 (ca : Nat → ClassId) (j : Nat → Int32) (g : Nat → Int64) (r : Nat → Option Nat) : osh ca 44 j g r = .inl (ca 1, 120, .inr (.inl g)) := rfl
theorem osh_45 (ca : Nat → ClassId) (j : Nat → Int32) (g : Nat → Int64) (r : Nat → Option Nat) : osh ca 45 j g r = .inl (ca 0, 40, .inl j) := rfl
theorem osh_46 (ca : Nat → ClassId) (j : Nat → Int32) (g : Nat → Int64) (r : Nat → Option Nat) : osh ca 46 j g r = .inl (ca 1, 40, .inr (.inl g)) := rfl
theorem osh_47 (ca : Nat → ClassId) (j : Nat → Int32) (g : Nat → Int64) (r : Nat → Option Nat) : osh ca 47 j g r = .inl (ca 0, 40, .inl j) := rfl
theorem osh_48 (ca : Nat → ClassId) (j : Nat → Int32) (g : Nat → Int64) (r : Nat → Option Nat) : osh ca 48 j g r = .inr (3, fl_48 j g r) := rfl
theorem fl_48_len (j : Nat → Int32) (g : Nat → Int64) (r : Nat → Option Nat) (n : Nat) (h : n < 11) : n < (fl_48 j g r).length := h
theorem fl_48_0 (j : Nat → Int32) (g : Nat → Int64) (r : Nat → Option Nat) : (fl_48 j g r)[0]? = some (.int (j 0)) := rfl
theorem up_48_0 (ca : Nat → ClassId) (j : Nat → Int32) (g : Nat → Int64) (r : Nat → Option Nat) (v : Int32) : osh ca 48 (upd j 0 v) g r = .inr (3, (fl_48 j g r).set 0 (.int v)) := rfl
theorem fl_48_1 (j : Nat → Int32) (g : Nat → Int64) (r : Nat → Option Nat) : (fl_48 j g r)[1]? = some (.int (j 1)) := rfl
theorem up_48_1 (ca : Nat → ClassId) (j : Nat → Int32) (g : Nat → Int64) (r : Nat → Option Nat) (v : Int32) : osh ca 48 (upd j 1 v) g r = .inr (3, (fl_48 j g r).set 1 (.int v)) := rfl
theorem fl_48_2 (j : Nat → Int32) (g : Nat → Int64) (r : Nat → Option Nat) : (fl_48 j g r)[2]? = some (.int (j 2)) := rfl
theorem up_48_2 (ca : Nat → ClassId) (j : Nat → Int32) (g : Nat → Int64) (r : Nat → Option Nat) (v : Int32) : osh ca 48 (upd j 2 v) g r = .inr (3, (fl_48 j g r).set 2 (.int v)) := rfl
theorem fl_48_3 (j : Nat → Int32) (g : Nat → Int64) (r : Nat → Option Nat) : (fl_48 j g r)[3]? = some (va_rf (r 3)) := rfl
theorem up_48_3 (ca : Nat → ClassId) (j : Nat → Int32) (g : Nat → Int64) (r : Nat → Option Nat) (a : Nat) : osh ca 48 j g (va_up r 3 (some a)) = .inr (3, (fl_48 j g r).set 3 (.ref a)) := rfl
theorem fl_48_4 (j : Nat → Int32) (g : Nat → Int64) (r : Nat → Option Nat) : (fl_48 j g r)[4]? = some (va_rf (r 4)) := rfl
theorem up_48_4 (ca : Nat → ClassId) (j : Nat → Int32) (g : Nat → Int64) (r : Nat → Option Nat) (a : Nat) : osh ca 48 j g (va_up r 4 (some a)) = .inr (3, (fl_48 j g r).set 4 (.ref a)) := rfl
theorem fl_48_5 (j : Nat → Int32) (g : Nat → Int64) (r : Nat → Option Nat) : (fl_48 j g r)[5]? = some (.int (j 5)) := rfl
theorem up_48_5 (ca : Nat → ClassId) (j : Nat → Int32) (g : Nat → Int64) (r : Nat → Option Nat) (v : Int32) : osh ca 48 (upd j 5 v) g r = .inr (3, (fl_48 j g r).set 5 (.int v)) := rfl
theorem fl_48_6 (j : Nat → Int32) (g : Nat → Int64) (r : Nat → Option Nat) : (fl_48 j g r)[6]? = some (.long (g 6)) := rfl
theorem up_48_6 (ca : Nat → ClassId) (j : Nat → Int32) (g : Nat → Int64) (r : Nat → Option Nat) (v : Int64) : osh ca 48 j (vp_updL g 6 v) r = .inr (3, (fl_48 j g r).set 6 (.long v)) := rfl
theorem fl_48_7 (j : Nat → Int32) (g : Nat → Int64) (r : Nat → Option Nat) : (fl_48 j g r)[7]? = some (.int (j 7)) := rfl
theorem up_48_7 (ca : Nat → ClassId) (j : Nat → Int32) (g : Nat → Int64) (r : Nat → Option Nat) (v : Int32) : osh ca 48 (upd j 7 v) g r = .inr (3, (fl_48 j g r).set 7 (.int v)) := rfl
theorem fl_48_8 (j : Nat → Int32) (g : Nat → Int64) (r : Nat → Option Nat) : (fl_48 j g r)[8]? = some (.int (j 8)) := rfl
theorem up_48_8 (ca : Nat → ClassId) (j : Nat → Int32) (g : Nat → Int64) (r : Nat → Option Nat) (v : Int32) : osh ca 48 (upd j 8 v) g r = .inr (3, (fl_48 j g r).set 8 (.int v)) := rfl
theorem fl_48_9 (j : Nat → Int32) (g : Nat → Int64) (r : Nat → Option Nat) : (fl_48 j g r)[9]? = some (.int (j 9)) := rfl
theorem up_48_9 (ca : Nat → ClassId) (j : Nat → Int32) (g : Nat → Int64) (r : Nat → Option Nat) (v : Int32) : osh ca 48 (upd j 9 v) g r = .inr (3, (fl_48 j g r).set 9 (.int v)) := rfl
theorem fl_48_10 (j : Nat → Int32) (g : Nat → Int64) (r : Nat → Option Nat) : (fl_48 j g r)[10]? = some (.long (g 10)) := rfl
theorem up_48_10 (ca : Nat → ClassId) (j : Nat → Int32) (g : Nat → Int64) (r : Nat → Option Nat) (v : Int64) : osh ca 48 j (vp_updL g 10 v) r = .inr (3, (fl_48 j g r).set 10 (.long v)) := rfl
theorem osh_49 (ca : Nat → ClassId) (j : Nat → Int32) (g : Nat → Int64) (r : Nat → Option Nat) : osh ca 49 j g r = .inr (4, fl_49 j g r) := rfl
theorem fl_49_len (j : Nat → Int32) (g : Nat → Int64) (r : Nat → Option Nat) (n : Nat) (h : n < 3) : n < (fl_49 j g r).length := h
theorem fl_49_0 (j : Nat → Int32) (g : Nat → Int64) (r : Nat → Option Nat) : (fl_49 j g r)[0]? = some (.int (j 0)) := rfl
theorem up_49_0 (ca : Nat → ClassId) (j : Nat → Int32) (g : Nat → Int64) (r : Nat → Option Nat) (v : Int32) : osh ca 49 (upd j 0 v) g r = .inr (4, (fl_49 j g r).set 0 (.int v)) := rfl
theorem fl_49_1 (j : Nat → Int32) (g : Nat → Int64) (r : Nat → Option Nat) : (fl_49 j g r)[1]? = some (.int (j 1)) := rfl
theorem up_49_1 (ca : Nat → ClassId) (j : Nat → Int32) (g : Nat → Int64) (r : Nat → Option Nat) (v : Int32) : osh ca 49 (upd j 1 v) g r = .inr (4, (fl_49 j g r).set 1 (.int v)) := rfl
theorem fl_49_2 (j : Nat → Int32) (g : Nat → Int64) (r : Nat → Option Nat) : (fl_49 j g r)[2]? = some (.int (j 2)) := rfl
theorem up_49_2 (ca : Nat → ClassId) (j : Nat → Int32) (g : Nat → Int64) (r : Nat → Option Nat) (v : Int32) : osh ca 49 (upd j 2 v) g r = .inr (4, (fl_49 j g r).set 2 (.int v)) := rfl
theorem osh_50 (ca : Nat → ClassId) (j : Nat → Int32) (g : Nat → Int64) (r : Nat → Option Nat) : osh ca 50 j g r = .inr (5, fl_50 j g r) := rfl
theorem fl_50_len (j : Nat → Int32) (g : Nat → Int64) (r : Nat → Option Nat) (n : Nat) (h : n < 3) : n < (fl_50 j g r).length := h
theorem fl_50_0 (j : Nat → Int32) (g : Nat → Int64) (r : Nat → Option Nat) : (fl_50 j g r)[0]? = some (va_rf (r 0)) := rfl
theorem up_50_0 (ca : Nat → ClassId) (j : Nat → Int32) (g : Nat → Int64) (r : Nat → Option Nat) (a : Nat) : osh ca 50 j g (va_up r 0 (some a)) = .inr (5, (fl_50 j g r).set 0 (.ref a)) := rfl
theorem fl_50_1 (j : Nat → Int32) (g : Nat → Int64) (r : Nat → Option Nat) : (fl_50 j g r)[1]? = some (.int (j 1)) := rfl
theorem up_50_1 (ca : Nat → ClassId) (j : Nat → Int32) (g : Nat → Int64) (r : Nat → Option Nat) (v : Int32) : osh ca 50 (upd j 1 v) g r = .inr (5, (fl_50 j g r).set 1 (.int v)) := rfl
theorem fl_50_2 (j : Nat → Int32) (g : Nat → Int64) (r : Nat → Option Nat) : (fl_50 j g r)[2]? = some (.int (j 2)) := rfl
theorem up_50_2 (ca : Nat → ClassId) (j : Nat → Int32) (g : Nat → Int64) (r : Nat → Option Nat) (v : Int32) : osh ca 50 (upd j 2 v) g r = .inr (5, (fl_50 j g r).set 2 (.int v)) := rfl
theorem osh_51 (ca : Nat → ClassId) (j : Nat → Int32) (g : Nat → Int64) (r : Nat → Option Nat) : osh ca 51 j g r = .inl (ca 0, 8, .inl j) := rfl
theorem osh_52 (ca : Nat → ClassId) (j : Nat → Int32) (g : Nat → Int64) (r : Nat → Option Nat) : osh ca 52 j g r = .inr (6, fl_52 j g r) := rfl
theorem fl_52_len (j : Nat → Int32) (g : Nat → Int64) (r : Nat → Option Nat) (n : Nat) (h : n < 8) : n < (fl_52 j g r).length := h
theorem fl_52_0 (j : Nat → Int32) (g : Nat → Int64) (r : Nat → Option Nat) : (fl_52 j g r)[0]? = some (va_rf (r 0)) := rfl
theorem up_52_0 (ca : Nat → ClassId) (j : Nat → Int32) (g : Nat → Int64) (r : Nat → Option Nat) (a : Nat) : osh ca 52 j g (va_up r 0 (some a)) = .inr (6, (fl_52 j g r).set 0 (.ref a)) := rfl
theorem fl_52_1 (j : Nat → Int32) (g : Nat → Int64) (r : Nat → Option Nat) : (fl_52 j g r)[1]? = some (va_rf (r 1)) := rfl
theorem up_52_1 (ca : Nat → ClassId) (j : Nat → Int32) (g : Nat → Int64) (r : Nat → Option Nat) (a : Nat) : osh ca 52 j g (va_up r 1 (some a)) = .inr (6, (fl_52 j g r).set 1 (.ref a)) := rfl
theorem fl_52_2 (j : Nat → Int32) (g : Nat → Int64) (r : Nat → Option Nat) : (fl_52 j g r)[2]? = some (.int (j 2)) := rfl
theorem up_52_2 (ca : Nat → ClassId) (j : Nat → Int32) (g : Nat → Int64) (r : Nat → Option Nat) (v : Int32) : osh ca 52 (upd j 2 v) g r = .inr (6, (fl_52 j g r).set 2 (.int v)) := rfl
theorem fl_52_3 (j : Nat → Int32) (g : Nat → Int64) (r : Nat → Option Nat) : (fl_52 j g r)[3]? = some (.long (g 3)) := rfl
theorem up_52_3 (ca : Nat → ClassId) (j : Nat → Int32) (g : Nat → Int64) (r : Nat → Option Nat) (v : Int64) : osh ca 52 j (vp_updL g 3 v) r = .inr (6, (fl_52 j g r).set 3 (.long v)) := rfl
theorem fl_52_4 (j : Nat → Int32) (g : Nat → Int64) (r : Nat → Option Nat) : (fl_52 j g r)[4]? = some (.long (g 4)) := rfl
theorem up_52_4 (ca : Nat → ClassId) (j : Nat → Int32) (g : Nat → Int64) (r : Nat → Option Nat) (v : Int64) : osh ca 52 j (vp_updL g 4 v) r = .inr (6, (fl_52 j g r).set 4 (.long v)) := rfl
theorem fl_52_5 (j : Nat → Int32) (g : Nat → Int64) (r : Nat → Option Nat) : (fl_52 j g r)[5]? = some (.long (g 5)) := rfl
theorem up_52_5 (ca : Nat → ClassId) (j : Nat → Int32) (g : Nat → Int64) (r : Nat → Option Nat) (v : Int64) : osh ca 52 j (vp_updL g 5 v) r = .inr (6, (fl_52 j g r).set 5 (.long v)) := rfl
theorem fl_52_6 (j : Nat → Int32) (g : Nat → Int64) (r : Nat → Option Nat) : (fl_52 j g r)[6]? = some (.int (j 6)) := rfl
theorem up_52_6 (ca : Nat → ClassId) (j : Nat → Int32) (g : Nat → Int64) (r : Nat → Option Nat) (v : Int32) : osh ca 52 (upd j 6 v) g r = .inr (6, (fl_52 j g r).set 6 (.int v)) := rfl
theorem fl_52_7 (j : Nat → Int32) (g : Nat → Int64) (r : Nat → Option Nat) : (fl_52 j g r)[7]? = some (.long (g 7)) := rfl
theorem up_52_7 (ca : Nat → ClassId) (j : Nat → Int32) (g : Nat → Int64) (r : Nat → Option Nat) (v : Int64) : osh ca 52 j (vp_updL g 7 v) r = .inr (6, (fl_52 j g r).set 7 (.long v)) := rfl
end
section
/-! my world: cells by kind and number; what they hold are tables of ints, longs and references (by number) -/
abbrev oSt : Type := (Nat → Nat → Nat → Int32) × (Nat → Nat → Nat → Int64) × (Nat → Nat → Nat → Option Nat)
abbrev oAd : Type := Nat → Nat → Nat
/-- the classes' numbers and slots, the array classes, the first new address, the script (address, length, contents), the address of the powers -/
abbrev oGm : Type := va_G × (Nat → ClassId) × Nat × (Nat × Nat × (Nat → Int32)) × Nat
def oF (Γ : oGm) : Nat → Prop := fun q => Γ.2.2.1 ≤ q
def ores (ad : oAd) (k : Nat) (r : Nat → Option Nat) : Nat → Option Nat := fun f => (r f).map (ad (otk k f))
def ocl (Γ : oGm) (ad : oAd) (S : oSt) (k i : Nat) : va_E := osh Γ.2.1 k (S.1 k i) (S.2.1 k i) (ores ad k (S.2.2 k i))
def oP (Γ : oGm) (ad : oAd) (cn : Nat → Nat) (S : oSt) (H : Heap) : Prop :=
  (∀ k i, i < cn k → va_at Γ.1 vwCl (ad k i, ocl Γ ad S k i) H) ∧
  (∀ k i k' i', i < cn k → i' < cn k' → ad k i = ad k' i' → k = k' ∧ i = i') ∧
  (∀ k i, i < cn k → Γ.2.2.1 ≤ ad k i) ∧
  (∀ k i f i', i < cn k → S.2.2 k i f = some i' → i' < cn (otk k f))
def sI (S : oSt) (k i f : Nat) (v : Int32) : oSt := (fun a b d => if a = k ∧ b = i ∧ d = f then v else S.1 a b d, S.2.1, S.2.2)
def sL (S : oSt) (k i f : Nat) (v : Int64) : oSt := (S.1, fun a b d => if a = k ∧ b = i ∧ d = f then v else S.2.1 a b d, S.2.2)
def sR (S : oSt) (k i f : Nat) (v : Option Nat) : oSt := (S.1, S.2.1, fun a b d => if a = k ∧ b = i ∧ d = f then v else S.2.2 a b d)
/-- a new cell: all its fields stand at their defaults -/
def sN (S : oSt) (k i : Nat) : oSt := (fun a b d => if a = k ∧ b = i then 0 else S.1 a b d, fun a b d => if a = k ∧ b = i then 0 else S.2.1 a b d, fun a b d => if a = k ∧ b = i then none else S.2.2 a b d)
def oup (cn : Nat → Nat) (k : Nat) : Nat → Nat := fun a => if a = k then cn k + 1 else cn a
theorem oup_lt {cn : Nat → Nat} {k a i : Nat} (h : i < cn a) : i < oup cn k a := by
  unfold oup
  split
  · next e => subst e; omega
  · exact h
theorem oup_le {cn : Nat → Nat} {k a : Nat} : cn a ≤ oup cn k a := by
  unfold oup
  split
  · next e => subst e; omega
  · omega
theorem oup_new {cn : Nat → Nat} {k : Nat} : cn k < oup cn k k := by simp [oup]
theorem sI_self {S : oSt} {k i f : Nat} {v : Int32} : (sI S k i f v).1 k i = upd (S.1 k i) f v := by
  funext d; simp [sI, upd]
theorem sI_ne {S : oSt} {k i f a b : Nat} {v : Int32} (h : ¬ (a = k ∧ b = i)) : (sI S k i f v).1 a b = S.1 a b := by
  funext d
  show (if a = k ∧ b = i ∧ d = f then v else S.1 a b d) = _
  rw [if_neg (fun q => h ⟨q.1, q.2.1⟩)]
theorem sL_self {S : oSt} {k i f : Nat} {v : Int64} : (sL S k i f v).2.1 k i = vp_updL (S.2.1 k i) f v := by
  funext d; simp [sL, vp_updL]
theorem sL_ne {S : oSt} {k i f a b : Nat} {v : Int64} (h : ¬ (a = k ∧ b = i)) : (sL S k i f v).2.1 a b = S.2.1 a b := by
  funext d
  show (if a = k ∧ b = i ∧ d = f then v else S.2.1 a b d) = _
  rw [if_neg (fun q => h ⟨q.1, q.2.1⟩)]
theorem sR_self {S : oSt} {k i f : Nat} {v : Option Nat} : (sR S k i f v).2.2 k i = va_up (S.2.2 k i) f v := by
  funext d; simp [sR, va_up]
theorem sR_ne {S : oSt} {k i f a b : Nat} {v : Option Nat} (h : ¬ (a = k ∧ b = i)) : (sR S k i f v).2.2 a b = S.2.2 a b := by
  funext d
  show (if a = k ∧ b = i ∧ d = f then v else S.2.2 a b d) = _
  rw [if_neg (fun q => h ⟨q.1, q.2.1⟩)]
theorem ores_up {ad : oAd} {k f : Nat} {r : Nat → Option Nat} {v : Option Nat} : ores ad k (va_up r f v) = va_up (ores ad k r) f (v.map (ad (otk k f))) := by
  funext d
  by_cases h : d = f
  · subst h; simp [ores, va_up]
  · simp [ores, va_up, h]
/-- one cell has changed -/
theorem oP.set {Γ : oGm} {ad : oAd} {cn : Nat → Nat} {S S' : oSt} {H H1 : Heap} {k i : Nat} (h : oP Γ ad cn S H) (hk : i < cn k)
    (h1 : ∀ a b, ¬ (a = k ∧ b = i) → S'.1 a b = S.1 a b ∧ S'.2.1 a b = S.2.1 a b ∧ S'.2.2 a b = S.2.2 a b)
    (hc : va_at Γ.1 vwCl (ad k i, ocl Γ ad S' k i) H1) (oq : ∀ q : Nat, q ≠ ad k i → H1[q]? = H[q]?)
    (hr : ∀ f i', S'.2.2 k i f = some i' → i' < cn (otk k f)) : oP Γ ad cn S' H1 := by
  refine ⟨fun a b hb => ?_, h.2.1, h.2.2.1, fun a b f i' hb e => ?_⟩
  · by_cases hab : a = k ∧ b = i
    · obtain ⟨rfl, rfl⟩ := hab; exact hc
    · obtain ⟨e1, e2, e3⟩ := h1 a b hab
      have h0 := h.1 a b hb
      unfold ocl
      rw [e1, e2, e3]
      exact va_at.kept h0 (oq _ (fun z => hab (h.2.1 a b k i hb hk z)))
  · by_cases hab : a = k ∧ b = i
    · obtain ⟨rfl, rfl⟩ := hab; exact hr f i' e
    · obtain ⟨e1, e2, e3⟩ := h1 a b hab
      rw [e3] at e
      exact h.2.2.2 a b f i' hb e
theorem oP.setI {Γ : oGm} {ad : oAd} {cn : Nat → Nat} {S : oSt} {H H1 : Heap} {k i f : Nat} {v : Int32} {x : va_E} (h : oP Γ ad cn S H) (hk : i < cn k)
    (hx : osh Γ.2.1 k (upd (S.1 k i) f v) (S.2.1 k i) (ores ad k (S.2.2 k i)) = x) (hc : va_at Γ.1 vwCl (ad k i, x) H1) (oq : ∀ q : Nat, q ≠ ad k i → H1[q]? = H[q]?) : oP Γ ad cn (sI S k i f v) H1 := by
  refine h.set hk (fun a b hab => ⟨sI_ne hab, rfl, rfl⟩) ?_ oq (fun f i' e => h.2.2.2 k i f i' hk e)
  unfold ocl
  rw [sI_self]
  subst hx
  exact hc
theorem oP.setL {Γ : oGm} {ad : oAd} {cn : Nat → Nat} {S : oSt} {H H1 : Heap} {k i f : Nat} {v : Int64} {x : va_E} (h : oP Γ ad cn S H) (hk : i < cn k)
    (hx : osh Γ.2.1 k (S.1 k i) (vp_updL (S.2.1 k i) f v) (ores ad k (S.2.2 k i)) = x) (hc : va_at Γ.1 vwCl (ad k i, x) H1) (oq : ∀ q : Nat, q ≠ ad k i → H1[q]? = H[q]?) : oP Γ ad cn (sL S k i f v) H1 := by
  refine h.set hk (fun a b hab => ⟨rfl, sL_ne hab, rfl⟩) ?_ oq (fun f i' e => h.2.2.2 k i f i' hk e)
  unfold ocl
  rw [sL_self]
  subst hx
  exact hc
theorem oP.setR {Γ : oGm} {ad : oAd} {cn : Nat → Nat} {S : oSt} {H H1 : Heap} {k i f : Nat} {v : Option Nat} {x : va_E} (h : oP Γ ad cn S H) (hk : i < cn k) (hv : ∀ i', v = some i' → i' < cn (otk k f))
    (hx : osh Γ.2.1 k (S.1 k i) (S.2.1 k i) (va_up (ores ad k (S.2.2 k i)) f (v.map (ad (otk k f)))) = x) (hc : va_at Γ.1 vwCl (ad k i, x) H1) (oq : ∀ q : Nat, q ≠ ad k i → H1[q]? = H[q]?) : oP Γ ad cn (sR S k i f v) H1 := by
  refine h.set hk (fun a b hab => ⟨rfl, rfl, sR_ne hab⟩) ?_ oq (fun f' i' e => ?_)
  · unfold ocl
    rw [sR_self, ores_up]
    subst hx
    exact hc
  · rw [sR_self] at e
    by_cases hf : f' = f
    · subst hf
      rw [va_up_self] at e
      exact hv i' e
    · rw [va_up_ne _ _ hf] at e
      exact h.2.2.2 k i f' i' hk e
/-- the addresses of what stood before stay -/
def oX (cn : Nat → Nat) (ad ad' : oAd) : Prop := ∀ a b, b < cn a → ad' a b = ad a b
theorem oX.trans {cn cn1 : Nat → Nat} {ad ad1 ad2 : oAd} (h : oX cn ad ad1) (hc : ∀ k, cn k ≤ cn1 k) (h2 : oX cn1 ad1 ad2) : oX cn ad ad2 := fun a b hb => (h2 a b (Nat.lt_of_lt_of_le hb (hc a))).trans (h a b hb)
def oN (ad : oAd) (k i q : Nat) : oAd := fun a b => if a = k ∧ b = i then q else ad a b
theorem oN_x {cn : Nat → Nat} {ad : oAd} {k q : Nat} : oX cn ad (oN ad k (cn k) q) := by
  intro a b hb
  show (if a = k ∧ b = cn k then q else ad a b) = _
  rw [if_neg]
  rintro ⟨rfl, rfl⟩
  omega
theorem oN_new {cn : Nat → Nat} {ad : oAd} {k q : Nat} : oN ad k (cn k) q k (cn k) = q := by simp [oN]
theorem oP.lt {Γ : oGm} {ad : oAd} {cn : Nat → Nat} {S : oSt} {H : Heap} (h : oP Γ ad cn S H) {k i : Nat} (hk : i < cn k) : ad k i < H.size := (h.1 k i hk).lt
/-- a cell has come -/
theorem oP.new {Γ : oGm} {ad : oAd} {cn : Nat → Nat} {S : oSt} {H H1 : Heap} {k q : Nat} {x : va_E} (h : oP Γ ad cn S H) (hq : q = H.size) (hb0 : Γ.2.2.1 ≤ q)
    (hx : osh Γ.2.1 k (fun _ => 0) (fun _ => 0) (fun _ => none) = x) (hc : va_at Γ.1 vwCl (q, x) H1) (oq : ∀ a : Nat, a < H.size → H1[a]? = H[a]?) : oP Γ (oN ad k (cn k) q) (oup cn k) (sN S k (cn k)) H1 := by
  have hcase : ∀ a b, b < oup cn k a → (a = k ∧ b = cn k) ∨ (¬ (a = k ∧ b = cn k) ∧ b < cn a) := by
    intro a b hb
    by_cases hab : a = k ∧ b = cn k
    · exact Or.inl hab
    · refine Or.inr ⟨hab, ?_⟩
      unfold oup at hb
      split at hb
      · next e => subst e; have : ¬ b = cn a := fun z => hab ⟨rfl, z⟩; omega
      · exact hb
  have hold : ∀ a b, ¬ (a = k ∧ b = cn k) → b < cn a → oN ad k (cn k) q a b = ad a b := fun a b _ hb => oN_x a b hb
  have hSo : ∀ a b, ¬ (a = k ∧ b = cn k) → (sN S k (cn k)).1 a b = S.1 a b ∧ (sN S k (cn k)).2.1 a b = S.2.1 a b ∧ (sN S k (cn k)).2.2 a b = S.2.2 a b := by
    intro a b hab
    refine ⟨?_, ?_, ?_⟩ <;> funext d <;> simp only [sN, if_neg hab]
  refine ⟨fun a b hb => ?_, fun a b a' b' hb hb' e => ?_, fun a b hb => ?_, fun a b f i' hb e => ?_⟩
  · rcases hcase a b hb with ⟨rfl, rfl⟩ | ⟨hab, hb⟩
    · rw [oN_new]
      have e1 : ocl Γ (oN ad a (cn a) q) (sN S a (cn a)) a (cn a) = x := by
        unfold ocl
        have f1 : (sN S a (cn a)).1 a (cn a) = fun _ => 0 := by funext d; simp [sN]
        have f2 : (sN S a (cn a)).2.1 a (cn a) = fun _ => 0 := by funext d; simp [sN]
        have f3 : (sN S a (cn a)).2.2 a (cn a) = fun _ => none := by funext d; simp [sN]
        rw [f1, f2, f3]
        exact hx
      rw [e1]
      exact hc
    · rw [hold a b hab hb]
      have e1 : ocl Γ (oN ad k (cn k) q) (sN S k (cn k)) a b = ocl Γ ad S a b := by
        unfold ocl
        obtain ⟨f1, f2, f3⟩ := hSo a b hab
        rw [f1, f2, f3]
        congr 1
        funext f
        unfold ores
        cases hr : S.2.2 a b f with
        | none => rfl
        | some i' =>
          have hl := h.2.2.2 a b f i' hb hr
          show some _ = some _
          rw [oN_x _ _ hl]
      rw [e1]
      exact va_at.kept (h.1 a b hb) (oq _ (h.lt hb))
  · rcases hcase a b hb with ⟨rfl, rfl⟩ | ⟨hab, hb1⟩ <;> rcases hcase a' b' hb' with ⟨rfl, rfl⟩ | ⟨hab', hb2⟩
    · exact ⟨rfl, rfl⟩
    · rw [oN_new, hold a' b' hab' hb2] at e
      have := h.lt hb2
      omega
    · rw [oN_new, hold a b hab hb1] at e
      have := h.lt hb1
      omega
    · rw [hold a b hab hb1, hold a' b' hab' hb2] at e
      exact h.2.1 a b a' b' hb1 hb2 e
  · rcases hcase a b hb with ⟨rfl, rfl⟩ | ⟨hab, hb⟩
    · rw [oN_new]; exact hb0
    · rw [hold a b hab hb]; exact h.2.2.1 a b hb
  · rcases hcase a b hb with ⟨rfl, rfl⟩ | ⟨hab, hb⟩
    · have f3 : (sN S a (cn a)).2.2 a (cn a) f = none := by simp [sN]
      rw [f3] at e
      cases e
    · rw [(hSo a b hab).2.2] at e
      exact oup_lt (h.2.2.2 a b f i' hb e)
/-- the reference that stands for a number -/
def rv (ad : oAd) (k : Nat) (o : Option Nat) : Value := va_rf (o.map (ad k))
/-- what nobody writes: the powers, the script; and words that no method carries among its own -/
def oz (Γ : oGm) (U : State) : Prop :=
  va_Z "ValueConnector" "POWERS_OF_TEN" "[I" (.ref Γ.2.2.2.2) (oF Γ) U U.heap ∧ va_T .int Γ.2.2.2.2 4 (fun j => .int (opw j)) (oF Γ) U U.heap ∧
  va_X Γ.2.2.2.1.1 Γ.2.2.2.1.2.1 Γ.2.2.2.1.2.2 U U.heap ∧ Γ.2.2.2.1.1 < Γ.2.2.1 ∧ Γ.2.2.1 ≤ U.heap.size ∧ (∀ w ∈ oNW, va_Nw w U) ∧ va_AO oA_ U ∧ va_AO oT_ U
theorem oNW_warm {s U : State} (hW : s.WarmedH U.vm) (h : ∀ w ∈ oNW, va_Nw w s) : ∀ w ∈ oNW, va_Nw w U := by
  intro w hw
  have h1 := h w hw
  simp only [oNW, List.mem_cons, List.not_mem_nil, or_false] at hw
  rcases hw with rfl | rfl | rfl
  · exact va_Nw.warmM hW h1
  · exact va_Nw.warmM hW h1
  · exact va_Nw.warmM hW h1
theorem oNW_same {s U : State} (hW : s.vm = U.vm) (h : ∀ w ∈ oNW, va_Nw w s) : ∀ w ∈ oNW, va_Nw w U := by
  intro w hw
  have h1 := h w hw
  simp only [oNW, List.mem_cons, List.not_mem_nil, or_false] at hw
  rcases hw with rfl | rfl | rfl
  · exact va_Nw.same rfl hW h1
  · exact va_Nw.same rfl hW h1
  · exact va_Nw.same rfl hW h1
def oty (Γ : oGm) : List (ClassId × FieldType) := [(Γ.2.1 0, .int), (Γ.2.1 1, .long), (Γ.2.1 2, .object oA_), (Γ.2.1 3, .object oT_)]
def oW (Γ : oGm) (ad : oAd) (cn : Nat → Nat) (S : oSt) (U : State) : Prop := oP Γ ad cn S U.heap ∧ va_K Γ.1 vwCl (oty Γ) U ∧ oz Γ U
theorem oz.go0 {Γ : oGm} {s U : State} {H : Heap} {locs : List Loc} (h : oz Γ s) (hS : va_S (oF Γ) s.heap H locs) (hU : U.heap = H) (hvm : s.vm.Alike U.vm) (hn : ∀ w ∈ oNW, va_Nw w U) : oz Γ U := by
  obtain ⟨h1, h2, h3, h4, h5, h6, h7, h8⟩ := h
  have hk : ∀ a : Nat, a < s.heap.size → ¬ oF Γ a → U.heap[a]? = s.heap[a]? := fun a ha hn => by rw [hU]; exact hS.2.1 a ha hn
  refine ⟨(h1.moved hvm).kept hk, (h2.moved hvm).kept hk, (h3.moved hvm).kept (hk _ (Nat.lt_of_lt_of_le h4 h5) (fun z => Nat.not_le.mpr h4 z)), h4, ?_, hn, h7.moved hvm, h8.moved hvm⟩
  rw [hU]
  exact Nat.le_trans h5 hS.1
theorem oz.go {Γ : oGm} {s U : State} {H : Heap} {locs : List Loc} (h : oz Γ s) (hS : va_S (oF Γ) s.heap H locs) (hU : U.heap = H) (hW : s.WarmedH U.vm) : oz Γ U :=
  h.go0 hS hU hW.alike (oNW_warm hW h.2.2.2.2.2.1)
theorem oW.blind {Γ : oGm} {ad : oAd} {cn : Nat → Nat} {S : oSt} {av : List Value} : FrameBlind (va_Pc av (oW Γ ad cn S)) := by
  intro a U g mk q
  obtain ⟨q0, q1, q2, q3⟩ := q
  refine ⟨q0, q1, va_K.moved (u := U) (U := U.calling g mk a) (Vm.Alike.refl U.vm) q2, ?_⟩
  exact q3.go0 (H := U.heap) (locs := []) va_S.rf rfl (Vm.Alike.refl U.vm) (oNW_same (s := U) (U := U.calling g mk a) rfl q3.2.2.2.2.2.1)
/-- a method's end: an answer r, a new state -/
def oQ {ρ : Type} (Γ : oGm) (ad : oAd) (cn : Nat → Nat) (val : ρ → Option Value) (post : ρ → oSt → Prop) : Array Value → State → Outcome → State → Prop := fun _ st oc t => (∃ (r : ρ) (S : oSt), oc = .returned (val r) ∧ post r S ∧ oW Γ ad cn S t) ∧ va_F (oF Γ) st t
/-- the same, of a method that makes cells -/
def oQn {ρ : Type} (Γ : oGm) (ad : oAd) (cn : Nat → Nat) (val : oAd → ρ → Option Value) (post : ρ → (Nat → Nat) → oSt → Prop) : Array Value → State → Outcome → State → Prop := fun _ st oc t => (∃ (r : ρ) (ad' : oAd) (cn' : Nat → Nat) (S : oSt), oc = .returned (val ad' r) ∧ oX cn ad ad' ∧ (∀ k, cn k ≤ cn' k) ∧ post r cn' S ∧ oW Γ ad' cn' S t) ∧ va_F (oF Γ) st t
end
section
section OV
variable {p : Program} {l : Launch} {e : Env} {R : Room} {s : State} {m : MethodId} {args : Array Value} {below : List Frame} {meth : Method} {c : Code} {Q : State → Prop} {Γ : oGm} {nL cells slots : Nat} {ad : oAd} {cn : Nat → Nat} {S : oSt} {cc : ByteArray} {own : String} {pc nx : Nat} {lv : List (Nat × Value)} {rest : List Value}
def Vv (p : Program) (l : Launch) (e : Env) (R : Room) (s : State) (m : MethodId) (args : Array Value) (below : List Frame) (meth : Method) (c : Code) (Q : State → Prop) (Γ : oGm) (nL cells slots : Nat) (ad : oAd) (cn : Nat → Nat) (S : oSt) (pc : Nat) (lv : List (Nat × Value)) (st : List Value) : Prop :=
  ∀ (H : Heap) (locs : List Loc) (ls : Array Slot), oP Γ ad cn S H → va_S (oF Γ) s.heap H locs → lv_has ls nL lv → W p l e R s m args below meth c H locs cells slots Q (F0 m pc ls st)
def Cx (p : Program) (s : State) (m : MethodId) (args : Array Value) (meth : Method) (c : Code) (Γ : oGm) (cc : ByteArray) (nL : Nat) (own : String) : Prop :=
  CallFix p m c cc nL s args oWS own ∧ va_K Γ.1 vwCl (oty Γ) s ∧ oz Γ s ∧ meth.locks = false
theorem Cx.x (C : Cx p s m args meth c Γ cc nL own) : p.tables.exec = Jvm.exec := C.1.1
theorem Cx.b (C : Cx p s m args meth c Γ cc nL own) : c.code = cc := C.1.2.1
theorem Cx.n (C : Cx p s m args meth c Γ cc nL own) : c.maxLocals = nL := C.1.2.2.1
theorem Cx.o (C : Cx p s m args meth c Γ cc nL own) : s.vm.findClass own = some m.cls := C.1.2.2.2.1
theorem Cx.nw (C : Cx p s m args meth c Γ cc nL own) {w : Jvm.Cond} (h : w ∈ oNW) : va_Nw w s := C.2.2.1.2.2.2.2.2.1 w h
theorem Cx.w (C : Cx p s m args meth c Γ cc nL own) {w : Jvm.Cond} (h : w ∈ oWS) : w.before args s = true := C.1.2.2.2.2 w h
/-- an instruction, its length, the next one's place -/
def Dc (cc : ByteArray) (pc : Nat) (i : Jvm.ClassFile.Instr) (n nx : Nat) : Prop := decode cc pc = .ok (i, n) ∧ pc + n = nx
/-- a branch: its target too -/
def Db (cc : ByteArray) (pc : Nat) (i : Int → Jvm.ClassFile.Instr) (tgt nx : Nat) : Prop := ∃ off : Int, decode cc pc = .ok (i off, 3) ∧ (pc : Int) + off = (tgt : Int) ∧ pc + 3 = nx
theorem V_iconst {n : Int} {v : Int32} (C : Cx p s m args meth c Γ cc nL own) (hv : Int32.ofInt n = v) (d : Dc cc pc (.iconst n) 1 nx) (k : Vv p l e R s m args below meth c Q Γ nL cells slots ad cn S nx lv (.int v :: rest)) : Vv p l e R s m args below meth c Q Γ nL cells slots ad cn S pc lv (rest) := by
  obtain ⟨d, rfl⟩ := d
  exact fun H locs ls hP hS hl => lv_iconst C.x C.b d hv (k H locs ls hP hS hl)
theorem V_bipush {n : Int} {v : Int32} (C : Cx p s m args meth c Γ cc nL own) (hv : (Int8.ofInt n).toInt32 = v) (d : Dc cc pc (.bipush n) 2 nx) (k : Vv p l e R s m args below meth c Q Γ nL cells slots ad cn S nx lv (.int v :: rest)) : Vv p l e R s m args below meth c Q Γ nL cells slots ad cn S pc lv (rest) := by
  obtain ⟨d, rfl⟩ := d
  exact fun H locs ls hP hS hl => lv_bipush C.x C.b d hv (k H locs ls hP hS hl)
theorem V_sipush {n : Int} {v : Int32} (C : Cx p s m args meth c Γ cc nL own) (hv : (Int16.ofInt n).toInt32 = v) (d : Dc cc pc (.sipush n) 3 nx) (k : Vv p l e R s m args below meth c Q Γ nL cells slots ad cn S nx lv (.int v :: rest)) : Vv p l e R s m args below meth c Q Γ nL cells slots ad cn S pc lv (rest) := by
  obtain ⟨d, rfl⟩ := d
  exact fun H locs ls hP hS hl => lv_sipush C.x C.b d hv (k H locs ls hP hS hl)
theorem V_lconst {n : Fin 2} {v : Int64} (C : Cx p s m args meth c Γ cc nL own) (hv : Int64.ofNat (n : Nat) = v) (d : Dc cc pc (.lconst n) 1 nx) (k : Vv p l e R s m args below meth c Q Γ nL cells slots ad cn S nx lv (.long v :: rest)) : Vv p l e R s m args below meth c Q Γ nL cells slots ad cn S pc lv (rest) := by
  obtain ⟨d, rfl⟩ := d
  exact fun H locs ls hP hS hl => lv_lconst C.x C.b d hv (k H locs ls hP hS hl)
theorem V_ldc {index : Nat} {v : Int32} (C : Cx p s m args meth c Γ cc nL own) (hw : Jvm.Cond.constant own index v ∈ oWS) (d : Dc cc pc (.ldc index) 2 nx) (k : Vv p l e R s m args below meth c Q Γ nL cells slots ad cn S nx lv (.int v :: rest)) : Vv p l e R s m args below meth c Q Γ nL cells slots ad cn S pc lv (rest) := by
  obtain ⟨d, rfl⟩ := d
  exact fun H locs ls hP hS hl => lv_ldc C.x C.b C.o (C.w hw) d (k H locs ls hP hS hl)
theorem V_ldc2 {index : Nat} {v : Int64} (C : Cx p s m args meth c Γ cc nL own) (hw : Jvm.Cond.constantLong own index v ∈ oWS) (d : Dc cc pc (.ldc2_w index) 3 nx) (k : Vv p l e R s m args below meth c Q Γ nL cells slots ad cn S nx lv (.long v :: rest)) : Vv p l e R s m args below meth c Q Γ nL cells slots ad cn S pc lv (rest) := by
  obtain ⟨d, rfl⟩ := d
  exact fun H locs ls hP hS hl => lv_ldc2 C.x C.b C.o (C.w hw) d (k H locs ls hP hS hl)
theorem V_iload_n {k : Fin 4} {x : Int32} (q : Nat) (C : Cx p s m args meth c Γ cc nL own) (hq : lv[q]? = some ((k : Nat), .int x)) (d : Dc cc pc (.iload_n k) 1 nx) (k : Vv p l e R s m args below meth c Q Γ nL cells slots ad cn S nx lv (.int x :: rest)) : Vv p l e R s m args below meth c Q Γ nL cells slots ad cn S pc lv (rest) := by
  obtain ⟨d, rfl⟩ := d
  exact fun H locs ls hP hS hl => lv_iload_n C.x C.b d rfl (lv_at hl q hq) (k H locs ls hP hS hl)
theorem V_iload {i : Nat} {x : Int32} (q : Nat) (C : Cx p s m args meth c Γ cc nL own) (hq : lv[q]? = some (i, .int x)) (d : Dc cc pc (.iload i) 2 nx) (k : Vv p l e R s m args below meth c Q Γ nL cells slots ad cn S nx lv (.int x :: rest)) : Vv p l e R s m args below meth c Q Γ nL cells slots ad cn S pc lv (rest) := by
  obtain ⟨d, rfl⟩ := d
  exact fun H locs ls hP hS hl => lv_iload C.x C.b d (lv_at hl q hq) (k H locs ls hP hS hl)
theorem V_lload_n {k : Fin 4} {x : Int64} (q : Nat) (C : Cx p s m args meth c Γ cc nL own) (hq : lv[q]? = some ((k : Nat), .long x)) (d : Dc cc pc (.lload_n k) 1 nx) (k : Vv p l e R s m args below meth c Q Γ nL cells slots ad cn S nx lv (.long x :: rest)) : Vv p l e R s m args below meth c Q Γ nL cells slots ad cn S pc lv (rest) := by
  obtain ⟨d, rfl⟩ := d
  exact fun H locs ls hP hS hl => lv_lload_n C.x C.b d rfl (lv_at hl q hq) (k H locs ls hP hS hl)
theorem V_lload {i : Nat} {x : Int64} (q : Nat) (C : Cx p s m args meth c Γ cc nL own) (hq : lv[q]? = some (i, .long x)) (d : Dc cc pc (.lload i) 2 nx) (k : Vv p l e R s m args below meth c Q Γ nL cells slots ad cn S nx lv (.long x :: rest)) : Vv p l e R s m args below meth c Q Γ nL cells slots ad cn S pc lv (rest) := by
  obtain ⟨d, rfl⟩ := d
  exact fun H locs ls hP hS hl => lv_lload C.x C.b d (lv_at hl q hq) (k H locs ls hP hS hl)
theorem V_aload_n {k : Fin 4} {x : Nat} (q : Nat) (C : Cx p s m args meth c Γ cc nL own) (hq : lv[q]? = some ((k : Nat), .ref x)) (d : Dc cc pc (.aload_n k) 1 nx) (k : Vv p l e R s m args below meth c Q Γ nL cells slots ad cn S nx lv (.ref x :: rest)) : Vv p l e R s m args below meth c Q Γ nL cells slots ad cn S pc lv (rest) := by
  obtain ⟨d, rfl⟩ := d
  exact fun H locs ls hP hS hl => lv_aload_n C.x C.b d rfl (lv_at hl q hq) (k H locs ls hP hS hl)
theorem V_aload {i : Nat} {x : Nat} (q : Nat) (C : Cx p s m args meth c Γ cc nL own) (hq : lv[q]? = some (i, .ref x)) (d : Dc cc pc (.aload i) 2 nx) (k : Vv p l e R s m args below meth c Q Γ nL cells slots ad cn S nx lv (.ref x :: rest)) : Vv p l e R s m args below meth c Q Γ nL cells slots ad cn S pc lv (rest) := by
  obtain ⟨d, rfl⟩ := d
  exact fun H locs ls hP hS hl => lv_aload C.x C.b d (lv_at hl q hq) (k H locs ls hP hS hl)
theorem V_oload_n {k : Fin 4} {kd : Nat} {o : Option Nat} (q : Nat) (C : Cx p s m args meth c Γ cc nL own) (hq : lv[q]? = some ((k : Nat), rv ad kd o)) (d : Dc cc pc (.aload_n k) 1 nx) (k : Vv p l e R s m args below meth c Q Γ nL cells slots ad cn S nx lv (rv ad kd o :: rest)) : Vv p l e R s m args below meth c Q Γ nL cells slots ad cn S pc lv rest := by
  obtain ⟨d, rfl⟩ := d
  intro H locs ls hP hS hl
  cases o with
  | none => exact lv_aload_nN C.x C.b d rfl (lv_at hl q hq) (k H locs ls hP hS hl)
  | some i => exact lv_aload_n C.x C.b d rfl (lv_at hl q hq) (k H locs ls hP hS hl)
theorem V_oload {i kd : Nat} {o : Option Nat} (q : Nat) (C : Cx p s m args meth c Γ cc nL own) (hq : lv[q]? = some (i, rv ad kd o)) (d : Dc cc pc (.aload i) 2 nx) (k : Vv p l e R s m args below meth c Q Γ nL cells slots ad cn S nx lv (rv ad kd o :: rest)) : Vv p l e R s m args below meth c Q Γ nL cells slots ad cn S pc lv rest := by
  obtain ⟨d, rfl⟩ := d
  intro H locs ls hP hS hl
  cases o with
  | none => exact lv_aloadN C.x C.b d (lv_at hl q hq) (k H locs ls hP hS hl)
  | some i => exact lv_aload C.x C.b d (lv_at hl q hq) (k H locs ls hP hS hl)
theorem V_istore_n {k : Fin 4} {x : Int32} (C : Cx p s m args meth c Γ cc nL own) (lv2 : List (Nat × Value)) (hn : (k : Nat) < nL) (hl2 : ((k : Nat), Value.int x) :: lv.filter (fun q => !(q.1 == (k : Nat)) && !(q.1 + 1 == (k : Nat) && q.2.category == 2)) = lv2) (d : Dc cc pc (.istore_n k) 1 nx) (k2 : Vv p l e R s m args below meth c Q Γ nL cells slots ad cn S nx lv2 rest) : Vv p l e R s m args below meth c Q Γ nL cells slots ad cn S pc lv (.int x :: rest) := by
  obtain ⟨d, rfl⟩ := d
  exact fun H locs ls hP hS hl => lv_istore_n C.x C.b d rfl hl hn hl2 (fun ls hl => k2 H locs ls hP hS hl)
theorem V_istore {i : Nat} {x : Int32} (C : Cx p s m args meth c Γ cc nL own) (lv2 : List (Nat × Value)) (hn : i < nL) (hl2 : (i, Value.int x) :: lv.filter (fun q => !(q.1 == i) && !(q.1 + 1 == i && q.2.category == 2)) = lv2) (d : Dc cc pc (.istore i) 2 nx) (k2 : Vv p l e R s m args below meth c Q Γ nL cells slots ad cn S nx lv2 rest) : Vv p l e R s m args below meth c Q Γ nL cells slots ad cn S pc lv (.int x :: rest) := by
  obtain ⟨d, rfl⟩ := d
  exact fun H locs ls hP hS hl => lv_istore C.x C.b d hl hn hl2 (fun ls hl => k2 H locs ls hP hS hl)
theorem V_lstore_n {k : Fin 4} {x : Int64} (C : Cx p s m args meth c Γ cc nL own) (lv2 : List (Nat × Value)) (hn : (k : Nat) + 1 < nL) (hl2 : ((k : Nat), Value.long x) :: lv.filter (fun q => !(q.1 == (k : Nat)) && (!(q.1 == (k : Nat) + 1) && !(q.1 + 1 == (k : Nat) && q.2.category == 2))) = lv2) (d : Dc cc pc (.lstore_n k) 1 nx) (k2 : Vv p l e R s m args below meth c Q Γ nL cells slots ad cn S nx lv2 rest) : Vv p l e R s m args below meth c Q Γ nL cells slots ad cn S pc lv (.long x :: rest) := by
  obtain ⟨d, rfl⟩ := d
  exact fun H locs ls hP hS hl => lv_lstore_n C.x C.b d rfl hl hn hl2 (fun ls hl => k2 H locs ls hP hS hl)
theorem V_lstore {i : Nat} {x : Int64} (C : Cx p s m args meth c Γ cc nL own) (lv2 : List (Nat × Value)) (hn : i + 1 < nL) (hl2 : (i, Value.long x) :: lv.filter (fun q => !(q.1 == i) && (!(q.1 == i + 1) && !(q.1 + 1 == i && q.2.category == 2))) = lv2) (d : Dc cc pc (.lstore i) 2 nx) (k2 : Vv p l e R s m args below meth c Q Γ nL cells slots ad cn S nx lv2 rest) : Vv p l e R s m args below meth c Q Γ nL cells slots ad cn S pc lv (.long x :: rest) := by
  obtain ⟨d, rfl⟩ := d
  exact fun H locs ls hP hS hl => lv_lstore C.x C.b d hl hn hl2 (fun ls hl => k2 H locs ls hP hS hl)
theorem V_astore_n {k : Fin 4} {x : Nat} (C : Cx p s m args meth c Γ cc nL own) (lv2 : List (Nat × Value)) (hn : (k : Nat) < nL) (hl2 : ((k : Nat), Value.ref x) :: lv.filter (fun q => !(q.1 == (k : Nat)) && !(q.1 + 1 == (k : Nat) && q.2.category == 2)) = lv2) (d : Dc cc pc (.astore_n k) 1 nx) (k2 : Vv p l e R s m args below meth c Q Γ nL cells slots ad cn S nx lv2 rest) : Vv p l e R s m args below meth c Q Γ nL cells slots ad cn S pc lv (.ref x :: rest) := by
  obtain ⟨d, rfl⟩ := d
  exact fun H locs ls hP hS hl => lv_astore_n C.x C.b d rfl hl hn hl2 (fun ls hl => k2 H locs ls hP hS hl)
theorem V_astore {i : Nat} {x : Nat} (C : Cx p s m args meth c Γ cc nL own) (lv2 : List (Nat × Value)) (hn : i < nL) (hl2 : (i, Value.ref x) :: lv.filter (fun q => !(q.1 == i) && !(q.1 + 1 == i && q.2.category == 2)) = lv2) (d : Dc cc pc (.astore i) 2 nx) (k2 : Vv p l e R s m args below meth c Q Γ nL cells slots ad cn S nx lv2 rest) : Vv p l e R s m args below meth c Q Γ nL cells slots ad cn S pc lv (.ref x :: rest) := by
  obtain ⟨d, rfl⟩ := d
  exact fun H locs ls hP hS hl => lv_astore C.x C.b d hl hn hl2 (fun ls hl => k2 H locs ls hP hS hl)
theorem V_ostore_n {k : Fin 4} {kd : Nat} {o : Option Nat} (C : Cx p s m args meth c Γ cc nL own) (lv2 : List (Nat × Value)) (hn : (k : Nat) < nL) (hl2 : ((k : Nat), rv ad kd o) :: lv.filter (fun q => !(q.1 == (k : Nat)) && !(q.1 + 1 == (k : Nat) && q.2.category == 2)) = lv2) (d : Dc cc pc (.astore_n k) 1 nx) (k2 : Vv p l e R s m args below meth c Q Γ nL cells slots ad cn S nx lv2 rest) : Vv p l e R s m args below meth c Q Γ nL cells slots ad cn S pc lv (rv ad kd o :: rest) := by
  obtain ⟨d, rfl⟩ := d
  intro H locs ls hP hS hl
  cases o with
  | none => exact lv_astore_nN C.x C.b d rfl hl hn hl2 (fun ls hl => k2 H locs ls hP hS hl)
  | some i => exact lv_astore_n C.x C.b d rfl hl hn hl2 (fun ls hl => k2 H locs ls hP hS hl)
theorem V_ostore {i : Nat} {kd : Nat} {o : Option Nat} (C : Cx p s m args meth c Γ cc nL own) (lv2 : List (Nat × Value)) (hn : i < nL) (hl2 : (i, rv ad kd o) :: lv.filter (fun q => !(q.1 == i) && !(q.1 + 1 == i && q.2.category == 2)) = lv2) (d : Dc cc pc (.astore i) 2 nx) (k2 : Vv p l e R s m args below meth c Q Γ nL cells slots ad cn S nx lv2 rest) : Vv p l e R s m args below meth c Q Γ nL cells slots ad cn S pc lv (rv ad kd o :: rest) := by
  obtain ⟨d, rfl⟩ := d
  intro H locs ls hP hS hl
  cases o with
  | none => exact lv_astoreN C.x C.b d hl hn hl2 (fun ls hl => k2 H locs ls hP hS hl)
  | some i => exact lv_astore C.x C.b d hl hn hl2 (fun ls hl => k2 H locs ls hP hS hl)
theorem V_iinc {i : Nat} {n : Int} {x v : Int32} (q : Nat) (C : Cx p s m args meth c Γ cc nL own) (lv2 : List (Nat × Value)) (hq : lv[q]? = some (i, .int x)) (hv : x + Int32.ofInt n = v) (hn : i < nL) (hl2 : (i, Value.int v) :: lv.filter (fun q => !(q.1 == i) && !(q.1 + 1 == i && q.2.category == 2)) = lv2) (d : Dc cc pc (.iinc i n) 3 nx) (k2 : Vv p l e R s m args below meth c Q Γ nL cells slots ad cn S nx lv2 rest) : Vv p l e R s m args below meth c Q Γ nL cells slots ad cn S pc lv rest := by
  obtain ⟨d, rfl⟩ := d
  exact fun H locs ls hP hS hl => lv_iinc C.x C.b d hl hq hv hn hl2 (fun ls hl => k2 H locs ls hP hS hl)
theorem V_iadd {x y : Int32} (C : Cx p s m args meth c Γ cc nL own)  (d : Dc cc pc (.iadd) 1 nx) (k : Vv p l e R s m args below meth c Q Γ nL cells slots ad cn S nx lv (.int (x + y) :: rest)) : Vv p l e R s m args below meth c Q Γ nL cells slots ad cn S pc lv (.int y :: .int x :: rest) := by
  obtain ⟨d, rfl⟩ := d
  exact fun H locs ls hP hS hl => lv_iadd C.x C.b d (k H locs ls hP hS hl)
theorem V_isub {x y : Int32} (C : Cx p s m args meth c Γ cc nL own)  (d : Dc cc pc (.isub) 1 nx) (k : Vv p l e R s m args below meth c Q Γ nL cells slots ad cn S nx lv (.int (x - y) :: rest)) : Vv p l e R s m args below meth c Q Γ nL cells slots ad cn S pc lv (.int y :: .int x :: rest) := by
  obtain ⟨d, rfl⟩ := d
  exact fun H locs ls hP hS hl => lv_isub C.x C.b d (k H locs ls hP hS hl)
theorem V_imul {x y : Int32} (C : Cx p s m args meth c Γ cc nL own)  (d : Dc cc pc (.imul) 1 nx) (k : Vv p l e R s m args below meth c Q Γ nL cells slots ad cn S nx lv (.int (x * y) :: rest)) : Vv p l e R s m args below meth c Q Γ nL cells slots ad cn S pc lv (.int y :: .int x :: rest) := by
  obtain ⟨d, rfl⟩ := d
  exact fun H locs ls hP hS hl => lv_imul C.x C.b d (k H locs ls hP hS hl)
theorem V_iand {x y : Int32} (C : Cx p s m args meth c Γ cc nL own)  (d : Dc cc pc (.iand) 1 nx) (k : Vv p l e R s m args below meth c Q Γ nL cells slots ad cn S nx lv (.int (x &&& y) :: rest)) : Vv p l e R s m args below meth c Q Γ nL cells slots ad cn S pc lv (.int y :: .int x :: rest) := by
  obtain ⟨d, rfl⟩ := d
  exact fun H locs ls hP hS hl => lv_iand C.x C.b d (k H locs ls hP hS hl)
theorem V_ior {x y : Int32} (C : Cx p s m args meth c Γ cc nL own)  (d : Dc cc pc (.ior) 1 nx) (k : Vv p l e R s m args below meth c Q Γ nL cells slots ad cn S nx lv (.int (x ||| y) :: rest)) : Vv p l e R s m args below meth c Q Γ nL cells slots ad cn S pc lv (.int y :: .int x :: rest) := by
  obtain ⟨d, rfl⟩ := d
  exact fun H locs ls hP hS hl => lv_ior C.x C.b d (k H locs ls hP hS hl)
theorem V_ixor {x y : Int32} (C : Cx p s m args meth c Γ cc nL own)  (d : Dc cc pc (.ixor) 1 nx) (k : Vv p l e R s m args below meth c Q Γ nL cells slots ad cn S nx lv (.int (x ^^^ y) :: rest)) : Vv p l e R s m args below meth c Q Γ nL cells slots ad cn S pc lv (.int y :: .int x :: rest) := by
  obtain ⟨d, rfl⟩ := d
  exact fun H locs ls hP hS hl => lv_ixor C.x C.b d (k H locs ls hP hS hl)
theorem V_ishl {x y : Int32} (C : Cx p s m args meth c Γ cc nL own)  (d : Dc cc pc (.ishl) 1 nx) (k : Vv p l e R s m args below meth c Q Γ nL cells slots ad cn S nx lv (.int (x <<< (y &&& 31)) :: rest)) : Vv p l e R s m args below meth c Q Γ nL cells slots ad cn S pc lv (.int y :: .int x :: rest) := by
  obtain ⟨d, rfl⟩ := d
  exact fun H locs ls hP hS hl => lv_ishl C.x C.b d (k H locs ls hP hS hl)
theorem V_ishr {x y : Int32} (C : Cx p s m args meth c Γ cc nL own)  (d : Dc cc pc (.ishr) 1 nx) (k : Vv p l e R s m args below meth c Q Γ nL cells slots ad cn S nx lv (.int (x >>> (y &&& 31)) :: rest)) : Vv p l e R s m args below meth c Q Γ nL cells slots ad cn S pc lv (.int y :: .int x :: rest) := by
  obtain ⟨d, rfl⟩ := d
  exact fun H locs ls hP hS hl => lv_ishr C.x C.b d (k H locs ls hP hS hl)
theorem V_ladd {x y : Int64} (C : Cx p s m args meth c Γ cc nL own)  (d : Dc cc pc (.ladd) 1 nx) (k : Vv p l e R s m args below meth c Q Γ nL cells slots ad cn S nx lv (.long (x + y) :: rest)) : Vv p l e R s m args below meth c Q Γ nL cells slots ad cn S pc lv (.long y :: .long x :: rest) := by
  obtain ⟨d, rfl⟩ := d
  exact fun H locs ls hP hS hl => lv_ladd C.x C.b d (k H locs ls hP hS hl)
theorem V_lsub {x y : Int64} (C : Cx p s m args meth c Γ cc nL own)  (d : Dc cc pc (.lsub) 1 nx) (k : Vv p l e R s m args below meth c Q Γ nL cells slots ad cn S nx lv (.long (x - y) :: rest)) : Vv p l e R s m args below meth c Q Γ nL cells slots ad cn S pc lv (.long y :: .long x :: rest) := by
  obtain ⟨d, rfl⟩ := d
  exact fun H locs ls hP hS hl => lv_lsub C.x C.b d (k H locs ls hP hS hl)
theorem V_lmul {x y : Int64} (C : Cx p s m args meth c Γ cc nL own)  (d : Dc cc pc (.lmul) 1 nx) (k : Vv p l e R s m args below meth c Q Γ nL cells slots ad cn S nx lv (.long (x * y) :: rest)) : Vv p l e R s m args below meth c Q Γ nL cells slots ad cn S pc lv (.long y :: .long x :: rest) := by
  obtain ⟨d, rfl⟩ := d
  exact fun H locs ls hP hS hl => lv_lmul C.x C.b d (k H locs ls hP hS hl)
theorem V_land {x y : Int64} (C : Cx p s m args meth c Γ cc nL own)  (d : Dc cc pc (.land) 1 nx) (k : Vv p l e R s m args below meth c Q Γ nL cells slots ad cn S nx lv (.long (x &&& y) :: rest)) : Vv p l e R s m args below meth c Q Γ nL cells slots ad cn S pc lv (.long y :: .long x :: rest) := by
  obtain ⟨d, rfl⟩ := d
  exact fun H locs ls hP hS hl => lv_land C.x C.b d (k H locs ls hP hS hl)
theorem V_lor {x y : Int64} (C : Cx p s m args meth c Γ cc nL own)  (d : Dc cc pc (.lor) 1 nx) (k : Vv p l e R s m args below meth c Q Γ nL cells slots ad cn S nx lv (.long (x ||| y) :: rest)) : Vv p l e R s m args below meth c Q Γ nL cells slots ad cn S pc lv (.long y :: .long x :: rest) := by
  obtain ⟨d, rfl⟩ := d
  exact fun H locs ls hP hS hl => lv_lor C.x C.b d (k H locs ls hP hS hl)
theorem V_lxor {x y : Int64} (C : Cx p s m args meth c Γ cc nL own)  (d : Dc cc pc (.lxor) 1 nx) (k : Vv p l e R s m args below meth c Q Γ nL cells slots ad cn S nx lv (.long (x ^^^ y) :: rest)) : Vv p l e R s m args below meth c Q Γ nL cells slots ad cn S pc lv (.long y :: .long x :: rest) := by
  obtain ⟨d, rfl⟩ := d
  exact fun H locs ls hP hS hl => lv_lxor C.x C.b d (k H locs ls hP hS hl)
theorem V_idiv {x y : Int32} (C : Cx p s m args meth c Γ cc nL own) (hne : ¬ y = 0) (d : Dc cc pc (.idiv) 1 nx) (k : Vv p l e R s m args below meth c Q Γ nL cells slots ad cn S nx lv (.int (x / y) :: rest)) : Vv p l e R s m args below meth c Q Γ nL cells slots ad cn S pc lv (.int y :: .int x :: rest) := by
  obtain ⟨d, rfl⟩ := d
  exact fun H locs ls hP hS hl => lv_idiv C.x C.b d hne (k H locs ls hP hS hl)
theorem V_irem {x y : Int32} (C : Cx p s m args meth c Γ cc nL own) (hne : ¬ y = 0) (d : Dc cc pc (.irem) 1 nx) (k : Vv p l e R s m args below meth c Q Γ nL cells slots ad cn S nx lv (.int (x - x / y * y) :: rest)) : Vv p l e R s m args below meth c Q Γ nL cells slots ad cn S pc lv (.int y :: .int x :: rest) := by
  obtain ⟨d, rfl⟩ := d
  exact fun H locs ls hP hS hl => lv_irem C.x C.b d hne (k H locs ls hP hS hl)
theorem V_ldiv {x y : Int64} (C : Cx p s m args meth c Γ cc nL own) (hne : ¬ y = 0) (d : Dc cc pc (.ldiv) 1 nx) (k : Vv p l e R s m args below meth c Q Γ nL cells slots ad cn S nx lv (.long (x / y) :: rest)) : Vv p l e R s m args below meth c Q Γ nL cells slots ad cn S pc lv (.long y :: .long x :: rest) := by
  obtain ⟨d, rfl⟩ := d
  exact fun H locs ls hP hS hl => lv_ldiv C.x C.b d hne (k H locs ls hP hS hl)
theorem V_lrem {x y : Int64} (C : Cx p s m args meth c Γ cc nL own) (hne : ¬ y = 0) (d : Dc cc pc (.lrem) 1 nx) (k : Vv p l e R s m args below meth c Q Γ nL cells slots ad cn S nx lv (.long (x - x / y * y) :: rest)) : Vv p l e R s m args below meth c Q Γ nL cells slots ad cn S pc lv (.long y :: .long x :: rest) := by
  obtain ⟨d, rfl⟩ := d
  exact fun H locs ls hP hS hl => lv_lrem C.x C.b d hne (k H locs ls hP hS hl)
theorem V_i2l {x : Int32} (C : Cx p s m args meth c Γ cc nL own)  (d : Dc cc pc (.i2l) 1 nx) (k : Vv p l e R s m args below meth c Q Γ nL cells slots ad cn S nx lv (.long x.toInt64 :: rest)) : Vv p l e R s m args below meth c Q Γ nL cells slots ad cn S pc lv (.int x :: rest) := by
  obtain ⟨d, rfl⟩ := d
  exact fun H locs ls hP hS hl => lv_i2l C.x C.b d rfl (k H locs ls hP hS hl)
theorem V_l2i {x : Int64} (C : Cx p s m args meth c Γ cc nL own)  (d : Dc cc pc (.l2i) 1 nx) (k : Vv p l e R s m args below meth c Q Γ nL cells slots ad cn S nx lv (.int x.toInt32 :: rest)) : Vv p l e R s m args below meth c Q Γ nL cells slots ad cn S pc lv (.long x :: rest) := by
  obtain ⟨d, rfl⟩ := d
  exact fun H locs ls hP hS hl => lv_l2i C.x C.b d rfl (k H locs ls hP hS hl)
theorem V_lushr {x : Int64} {y : Int32} (C : Cx p s m args meth c Γ cc nL own)  (d : Dc cc pc (.lushr) 1 nx) (k : Vv p l e R s m args below meth c Q Γ nL cells slots ad cn S nx lv (.long (oush x y) :: rest)) : Vv p l e R s m args below meth c Q Γ nL cells slots ad cn S pc lv (.int y :: .long x :: rest) := by
  obtain ⟨d, rfl⟩ := d
  exact fun H locs ls hP hS hl => lv_lushr C.x C.b d rfl (k H locs ls hP hS hl)
theorem V_lshl {x : Int64} {y : Int32} (C : Cx p s m args meth c Γ cc nL own)  (d : Dc cc pc (.lshl) 1 nx) (k : Vv p l e R s m args below meth c Q Γ nL cells slots ad cn S nx lv (.long (x <<< (y.toInt64 &&& 63)) :: rest)) : Vv p l e R s m args below meth c Q Γ nL cells slots ad cn S pc lv (.int y :: .long x :: rest) := by
  obtain ⟨d, rfl⟩ := d
  exact fun H locs ls hP hS hl => lv_lshl C.x C.b d rfl (k H locs ls hP hS hl)
theorem V_lshr {x : Int64} {y : Int32} (C : Cx p s m args meth c Γ cc nL own)  (d : Dc cc pc (.lshr) 1 nx) (k : Vv p l e R s m args below meth c Q Γ nL cells slots ad cn S nx lv (.long (x >>> (y.toInt64 &&& 63)) :: rest)) : Vv p l e R s m args below meth c Q Γ nL cells slots ad cn S pc lv (.int y :: .long x :: rest) := by
  obtain ⟨d, rfl⟩ := d
  exact fun H locs ls hP hS hl => lv_lshr C.x C.b d rfl (k H locs ls hP hS hl)
theorem V_lcmp {x y : Int64} (C : Cx p s m args meth c Γ cc nL own)  (d : Dc cc pc (.lcmp) 1 nx) (k : Vv p l e R s m args below meth c Q Γ nL cells slots ad cn S nx lv (.int (lg_cmp x y) :: rest)) : Vv p l e R s m args below meth c Q Γ nL cells slots ad cn S pc lv (.long y :: .long x :: rest) := by
  obtain ⟨d, rfl⟩ := d
  exact fun H locs ls hP hS hl => W.lcmp C.x C.b d (k H locs ls hP hS hl)
theorem V_dup {va : Value} (C : Cx p s m args meth c Γ cc nL own) (h1 : va.category = 1) (d : Dc cc pc (.dup) 1 nx) (k : Vv p l e R s m args below meth c Q Γ nL cells slots ad cn S nx lv (va :: va :: rest)) : Vv p l e R s m args below meth c Q Γ nL cells slots ad cn S pc lv (va :: rest) := by
  obtain ⟨d, rfl⟩ := d
  exact fun H locs ls hP hS hl => lv_dup C.x C.b d h1 (k H locs ls hP hS hl)
theorem V_pop {va : Value} (C : Cx p s m args meth c Γ cc nL own) (h1 : va.category = 1) (d : Dc cc pc (.pop) 1 nx) (k : Vv p l e R s m args below meth c Q Γ nL cells slots ad cn S nx lv (rest)) : Vv p l e R s m args below meth c Q Γ nL cells slots ad cn S pc lv (va :: rest) := by
  obtain ⟨d, rfl⟩ := d
  exact fun H locs ls hP hS hl => lv_pop C.x C.b d h1 (k H locs ls hP hS hl)
theorem V_dup_x1 {va vb : Value} (C : Cx p s m args meth c Γ cc nL own) (h1 : va.category = 1) (h2 : vb.category = 1) (d : Dc cc pc (.dup_x1) 1 nx) (k : Vv p l e R s m args below meth c Q Γ nL cells slots ad cn S nx lv (va :: vb :: va :: rest)) : Vv p l e R s m args below meth c Q Γ nL cells slots ad cn S pc lv (va :: vb :: rest) := by
  obtain ⟨d, rfl⟩ := d
  exact fun H locs ls hP hS hl => lv_dup_x1 C.x C.b d h1 h2 (k H locs ls hP hS hl)
theorem V_dup2_11 {va vb : Value} (C : Cx p s m args meth c Γ cc nL own) (h1 : va.category = 1) (h2 : vb.category = 1) (d : Dc cc pc (.dup2) 1 nx) (k : Vv p l e R s m args below meth c Q Γ nL cells slots ad cn S nx lv (va :: vb :: va :: vb :: rest)) : Vv p l e R s m args below meth c Q Γ nL cells slots ad cn S pc lv (va :: vb :: rest) := by
  obtain ⟨d, rfl⟩ := d
  exact fun H locs ls hP hS hl => lv_dup2_11 C.x C.b d h1 h2 (k H locs ls hP hS hl)
theorem V_dup2_2 {va : Value} (C : Cx p s m args meth c Γ cc nL own) (h1 : va.category = 2) (d : Dc cc pc (.dup2) 1 nx) (k : Vv p l e R s m args below meth c Q Γ nL cells slots ad cn S nx lv (va :: va :: rest)) : Vv p l e R s m args below meth c Q Γ nL cells slots ad cn S pc lv (va :: rest) := by
  obtain ⟨d, rfl⟩ := d
  exact fun H locs ls hP hS hl => lv_dup2_2 C.x C.b d h1 (k H locs ls hP hS hl)
theorem V_pop2_2 {va : Value} (C : Cx p s m args meth c Γ cc nL own) (h1 : va.category = 2) (d : Dc cc pc (.pop2) 1 nx) (k : Vv p l e R s m args below meth c Q Γ nL cells slots ad cn S nx lv (rest)) : Vv p l e R s m args below meth c Q Γ nL cells slots ad cn S pc lv (va :: rest) := by
  obtain ⟨d, rfl⟩ := d
  exact fun H locs ls hP hS hl => lv_pop2_2 C.x C.b d h1 (k H locs ls hP hS hl)
theorem V_null {kd : Nat} (C : Cx p s m args meth c Γ cc nL own)  (d : Dc cc pc (.aconst_null) 1 nx) (k : Vv p l e R s m args below meth c Q Γ nL cells slots ad cn S nx lv (rv ad kd none :: rest)) : Vv p l e R s m args below meth c Q Γ nL cells slots ad cn S pc lv (rest) := by
  obtain ⟨d, rfl⟩ := d
  exact fun H locs ls hP hS hl => lv_null C.x C.b d (k H locs ls hP hS hl)
theorem V_if_eq {x : Int32} {tgt : Nat} (C : Cx p s m args meth c Γ cc nL own) (d : Db cc pc (.ifCond .eq) tgt nx) (kt : x = 0 → Vv p l e R s m args below meth c Q Γ nL cells slots ad cn S tgt lv rest) (kf : ¬ x = 0 → Vv p l e R s m args below meth c Q Γ nL cells slots ad cn S nx lv rest) : Vv p l e R s m args below meth c Q Γ nL cells slots ad cn S pc lv (.int x :: rest) := by
  obtain ⟨off, d, ht, rfl⟩ := d
  exact fun H locs ls hP hS hl => lv_if_eq C.x C.b d ht (fun q => kt q H locs ls hP hS hl) (fun q => kf q H locs ls hP hS hl)
theorem V_icmp_eq {x y : Int32} {tgt : Nat} (C : Cx p s m args meth c Γ cc nL own) (d : Db cc pc (.if_icmp .eq) tgt nx) (kt : x = y → Vv p l e R s m args below meth c Q Γ nL cells slots ad cn S tgt lv rest) (kf : ¬ x = y → Vv p l e R s m args below meth c Q Γ nL cells slots ad cn S nx lv rest) : Vv p l e R s m args below meth c Q Γ nL cells slots ad cn S pc lv (.int y :: .int x :: rest) := by
  obtain ⟨off, d, ht, rfl⟩ := d
  exact fun H locs ls hP hS hl => lv_icmp_eq C.x C.b d ht (fun q => kt q H locs ls hP hS hl) (fun q => kf q H locs ls hP hS hl)
theorem V_if_ne {x : Int32} {tgt : Nat} (C : Cx p s m args meth c Γ cc nL own) (d : Db cc pc (.ifCond .ne) tgt nx) (kt : ¬ x = 0 → Vv p l e R s m args below meth c Q Γ nL cells slots ad cn S tgt lv rest) (kf : x = 0 → Vv p l e R s m args below meth c Q Γ nL cells slots ad cn S nx lv rest) : Vv p l e R s m args below meth c Q Γ nL cells slots ad cn S pc lv (.int x :: rest) := by
  obtain ⟨off, d, ht, rfl⟩ := d
  exact fun H locs ls hP hS hl => lv_if_ne C.x C.b d ht (fun q => kt q H locs ls hP hS hl) (fun q => kf q H locs ls hP hS hl)
theorem V_icmp_ne {x y : Int32} {tgt : Nat} (C : Cx p s m args meth c Γ cc nL own) (d : Db cc pc (.if_icmp .ne) tgt nx) (kt : ¬ x = y → Vv p l e R s m args below meth c Q Γ nL cells slots ad cn S tgt lv rest) (kf : x = y → Vv p l e R s m args below meth c Q Γ nL cells slots ad cn S nx lv rest) : Vv p l e R s m args below meth c Q Γ nL cells slots ad cn S pc lv (.int y :: .int x :: rest) := by
  obtain ⟨off, d, ht, rfl⟩ := d
  exact fun H locs ls hP hS hl => lv_icmp_ne C.x C.b d ht (fun q => kt q H locs ls hP hS hl) (fun q => kf q H locs ls hP hS hl)
theorem V_if_lt {x : Int32} {tgt : Nat} (C : Cx p s m args meth c Γ cc nL own) (d : Db cc pc (.ifCond .lt) tgt nx) (kt : x < 0 → Vv p l e R s m args below meth c Q Γ nL cells slots ad cn S tgt lv rest) (kf : ¬ x < 0 → Vv p l e R s m args below meth c Q Γ nL cells slots ad cn S nx lv rest) : Vv p l e R s m args below meth c Q Γ nL cells slots ad cn S pc lv (.int x :: rest) := by
  obtain ⟨off, d, ht, rfl⟩ := d
  exact fun H locs ls hP hS hl => lv_if_lt C.x C.b d ht (fun q => kt q H locs ls hP hS hl) (fun q => kf q H locs ls hP hS hl)
theorem V_icmp_lt {x y : Int32} {tgt : Nat} (C : Cx p s m args meth c Γ cc nL own) (d : Db cc pc (.if_icmp .lt) tgt nx) (kt : x < y → Vv p l e R s m args below meth c Q Γ nL cells slots ad cn S tgt lv rest) (kf : ¬ x < y → Vv p l e R s m args below meth c Q Γ nL cells slots ad cn S nx lv rest) : Vv p l e R s m args below meth c Q Γ nL cells slots ad cn S pc lv (.int y :: .int x :: rest) := by
  obtain ⟨off, d, ht, rfl⟩ := d
  exact fun H locs ls hP hS hl => lv_icmp_lt C.x C.b d ht (fun q => kt q H locs ls hP hS hl) (fun q => kf q H locs ls hP hS hl)
theorem V_if_ge {x : Int32} {tgt : Nat} (C : Cx p s m args meth c Γ cc nL own) (d : Db cc pc (.ifCond .ge) tgt nx) (kt : 0 ≤ x → Vv p l e R s m args below meth c Q Γ nL cells slots ad cn S tgt lv rest) (kf : ¬ 0 ≤ x → Vv p l e R s m args below meth c Q Γ nL cells slots ad cn S nx lv rest) : Vv p l e R s m args below meth c Q Γ nL cells slots ad cn S pc lv (.int x :: rest) := by
  obtain ⟨off, d, ht, rfl⟩ := d
  exact fun H locs ls hP hS hl => lv_if_ge C.x C.b d ht (fun q => kt q H locs ls hP hS hl) (fun q => kf q H locs ls hP hS hl)
theorem V_icmp_ge {x y : Int32} {tgt : Nat} (C : Cx p s m args meth c Γ cc nL own) (d : Db cc pc (.if_icmp .ge) tgt nx) (kt : y ≤ x → Vv p l e R s m args below meth c Q Γ nL cells slots ad cn S tgt lv rest) (kf : ¬ y ≤ x → Vv p l e R s m args below meth c Q Γ nL cells slots ad cn S nx lv rest) : Vv p l e R s m args below meth c Q Γ nL cells slots ad cn S pc lv (.int y :: .int x :: rest) := by
  obtain ⟨off, d, ht, rfl⟩ := d
  exact fun H locs ls hP hS hl => lv_icmp_ge C.x C.b d ht (fun q => kt q H locs ls hP hS hl) (fun q => kf q H locs ls hP hS hl)
theorem V_if_gt {x : Int32} {tgt : Nat} (C : Cx p s m args meth c Γ cc nL own) (d : Db cc pc (.ifCond .gt) tgt nx) (kt : 0 < x → Vv p l e R s m args below meth c Q Γ nL cells slots ad cn S tgt lv rest) (kf : ¬ 0 < x → Vv p l e R s m args below meth c Q Γ nL cells slots ad cn S nx lv rest) : Vv p l e R s m args below meth c Q Γ nL cells slots ad cn S pc lv (.int x :: rest) := by
  obtain ⟨off, d, ht, rfl⟩ := d
  exact fun H locs ls hP hS hl => lv_if_gt C.x C.b d ht (fun q => kt q H locs ls hP hS hl) (fun q => kf q H locs ls hP hS hl)
theorem V_icmp_gt {x y : Int32} {tgt : Nat} (C : Cx p s m args meth c Γ cc nL own) (d : Db cc pc (.if_icmp .gt) tgt nx) (kt : y < x → Vv p l e R s m args below meth c Q Γ nL cells slots ad cn S tgt lv rest) (kf : ¬ y < x → Vv p l e R s m args below meth c Q Γ nL cells slots ad cn S nx lv rest) : Vv p l e R s m args below meth c Q Γ nL cells slots ad cn S pc lv (.int y :: .int x :: rest) := by
  obtain ⟨off, d, ht, rfl⟩ := d
  exact fun H locs ls hP hS hl => lv_icmp_gt C.x C.b d ht (fun q => kt q H locs ls hP hS hl) (fun q => kf q H locs ls hP hS hl)
theorem V_if_le {x : Int32} {tgt : Nat} (C : Cx p s m args meth c Γ cc nL own) (d : Db cc pc (.ifCond .le) tgt nx) (kt : x ≤ 0 → Vv p l e R s m args below meth c Q Γ nL cells slots ad cn S tgt lv rest) (kf : ¬ x ≤ 0 → Vv p l e R s m args below meth c Q Γ nL cells slots ad cn S nx lv rest) : Vv p l e R s m args below meth c Q Γ nL cells slots ad cn S pc lv (.int x :: rest) := by
  obtain ⟨off, d, ht, rfl⟩ := d
  exact fun H locs ls hP hS hl => lv_if_le C.x C.b d ht (fun q => kt q H locs ls hP hS hl) (fun q => kf q H locs ls hP hS hl)
theorem V_icmp_le {x y : Int32} {tgt : Nat} (C : Cx p s m args meth c Γ cc nL own) (d : Db cc pc (.if_icmp .le) tgt nx) (kt : x ≤ y → Vv p l e R s m args below meth c Q Γ nL cells slots ad cn S tgt lv rest) (kf : ¬ x ≤ y → Vv p l e R s m args below meth c Q Γ nL cells slots ad cn S nx lv rest) : Vv p l e R s m args below meth c Q Γ nL cells slots ad cn S pc lv (.int y :: .int x :: rest) := by
  obtain ⟨off, d, ht, rfl⟩ := d
  exact fun H locs ls hP hS hl => lv_icmp_le C.x C.b d ht (fun q => kt q H locs ls hP hS hl) (fun q => kf q H locs ls hP hS hl)
theorem V_goto {tgt : Nat} (C : Cx p s m args meth c Γ cc nL own) (d : Db cc pc .goto tgt nx) (k : Vv p l e R s m args below meth c Q Γ nL cells slots ad cn S tgt lv rest) : Vv p l e R s m args below meth c Q Γ nL cells slots ad cn S pc lv rest := by
  obtain ⟨off, d, ht, rfl⟩ := d
  exact fun H locs ls hP hS hl => lv_goto C.x C.b d ht (k H locs ls hP hS hl)
theorem V_ifnull {kd tgt : Nat} {o : Option Nat} (C : Cx p s m args meth c Γ cc nL own) (d : Db cc pc .ifnull tgt nx) (kt : o = none → Vv p l e R s m args below meth c Q Γ nL cells slots ad cn S tgt lv rest) (kf : ∀ i, o = some i → Vv p l e R s m args below meth c Q Γ nL cells slots ad cn S nx lv rest) : Vv p l e R s m args below meth c Q Γ nL cells slots ad cn S pc lv (rv ad kd o :: rest) := by
  obtain ⟨off, d, ht, rfl⟩ := d
  intro H locs ls hP hS hl
  cases o with
  | none => exact lv_ifnullN C.x C.b d ht (kt rfl H locs ls hP hS hl)
  | some i => exact lv_ifnull C.x C.b d (kf i rfl H locs ls hP hS hl)
theorem V_ifnonnull {kd tgt : Nat} {o : Option Nat} (C : Cx p s m args meth c Γ cc nL own) (d : Db cc pc .ifnonnull tgt nx) (kt : ∀ i, o = some i → Vv p l e R s m args below meth c Q Γ nL cells slots ad cn S tgt lv rest) (kf : o = none → Vv p l e R s m args below meth c Q Γ nL cells slots ad cn S nx lv rest) : Vv p l e R s m args below meth c Q Γ nL cells slots ad cn S pc lv (rv ad kd o :: rest) := by
  obtain ⟨off, d, ht, rfl⟩ := d
  intro H locs ls hP hS hl
  cases o with
  | none => exact lv_ifnonnullN C.x C.b d (kf rfl H locs ls hP hS hl)
  | some i => exact lv_ifnonnull C.x C.b d ht (kt i rfl H locs ls hP hS hl)
theorem V_acmp_ne {kd i j tgt : Nat} (C : Cx p s m args meth c Γ cc nL own) (hi : i < cn kd) (hj : j < cn kd) (d : Db cc pc (.if_acmp .ne) tgt nx) (kt : ¬ i = j → Vv p l e R s m args below meth c Q Γ nL cells slots ad cn S tgt lv rest) (kf : i = j → Vv p l e R s m args below meth c Q Γ nL cells slots ad cn S nx lv rest) : Vv p l e R s m args below meth c Q Γ nL cells slots ad cn S pc lv (.ref (ad kd j) :: .ref (ad kd i) :: rest) := by
  obtain ⟨off, d, ht, rfl⟩ := d
  intro H locs ls hP hS hl
  exact lv_acmp_ne (rx := some (ad kd i)) (ry := some (ad kd j)) C.x C.b d ht (fun q => kt (fun z => q (by rw [z])) H locs ls hP hS hl) (fun q => kf (hP.2.1 kd i kd j hi hj (Option.some.inj q)).2 H locs ls hP hS hl)
theorem V_acmp_eq {kd i j tgt : Nat} (C : Cx p s m args meth c Γ cc nL own) (hi : i < cn kd) (hj : j < cn kd) (d : Db cc pc (.if_acmp .eq) tgt nx) (kt : i = j → Vv p l e R s m args below meth c Q Γ nL cells slots ad cn S tgt lv rest) (kf : ¬ i = j → Vv p l e R s m args below meth c Q Γ nL cells slots ad cn S nx lv rest) : Vv p l e R s m args below meth c Q Γ nL cells slots ad cn S pc lv (.ref (ad kd j) :: .ref (ad kd i) :: rest) := by
  obtain ⟨off, d, ht, rfl⟩ := d
  intro H locs ls hP hS hl
  exact lv_acmp_eq (rx := some (ad kd i)) (ry := some (ad kd j)) C.x C.b d ht (fun q => kt (hP.2.1 kd i kd j hi hj (Option.some.inj q)).2 H locs ls hP hS hl) (fun q => kf (fun z => q (by rw [z])) H locs ls hP hS hl)
theorem V_tableIn {dflt lo hi off : Int} {offs : Array Int} {len tgt : Nat} {x : Int32} (C : Cx p s m args meth c Γ cc nL own) (d : decode cc pc = .ok (.tableswitch dflt lo hi offs, len)) (h1 : ¬ x.toInt < lo) (h2 : ¬ hi < x.toInt) (ho : offs[(x.toInt - lo).toNat]? = some off) (ht : (pc : Int) + off = (tgt : Int)) (k : Vv p l e R s m args below meth c Q Γ nL cells slots ad cn S tgt lv rest) : Vv p l e R s m args below meth c Q Γ nL cells slots ad cn S pc lv (.int x :: rest) :=
  fun H locs ls hP hS hl => lv_tableIn C.x C.b d h1 h2 ho ht (k H locs ls hP hS hl)
theorem V_tableOut {dflt lo hi : Int} {offs : Array Int} {len tgt : Nat} {x : Int32} (C : Cx p s m args meth c Γ cc nL own) (d : decode cc pc = .ok (.tableswitch dflt lo hi offs, len)) (h : x.toInt < lo ∨ hi < x.toInt) (ht : (pc : Int) + dflt = (tgt : Int)) (k : Vv p l e R s m args below meth c Q Γ nL cells slots ad cn S tgt lv rest) : Vv p l e R s m args below meth c Q Γ nL cells slots ad cn S pc lv (.int x :: rest) :=
  fun H locs ls hP hS hl => lv_tableOut C.x C.b d h ht (k H locs ls hP hS hl)
/-- a field's link: the place in its class's table -/
def Fk (own : String) (index ci pos : Nat) : Prop := ∃ (Cn : String) (T : u_T) (N : Nat), vwCl[ci]? = some (Cn, T, N) ∧ (∀ w ∈ u_ws Cn T N, w ∈ oWS) ∧ pos < N ∧ Jvm.Cond.fieldLink own index (T pos).1 (T pos).2.1 (T pos).2.2.1 ∈ oWS
/-- a field that is written: not final, or final in its own constructor -/
def Fp (own : String) (index ci pos : Nat) (ty : FieldType) (fin : Bool) : Prop := ∃ (Cn : String) (T : u_T) (N : Nat) (ty0 : Nat → FieldType), vwCl[ci]? = some (Cn, T, N) ∧ (∀ w ∈ u_ws Cn T N, w ∈ oWS) ∧ pos < N ∧ Jvm.Cond.fieldLink own index (T pos).1 (T pos).2.1 (T pos).2.2.1 ∈ oWS ∧
  (∀ k, k < N → parseFieldDescriptor (T k).2.2.1 = some (ty0 k)) ∧ (∀ a, a < N → ∀ b, b < N → a ≠ b → (T a).2.1 ≠ (T b).2.1) ∧ parseFieldDescriptor (T pos).2.2.1 = some ty ∧ (T pos).2.2.2 = fin ∧ (fin = true → (T pos).1 = own)
theorem V_get {k i ci pos index : Nat} {fs : List Value} {v : Value} (C : Cx p s m args meth c Γ cc nL own) (F : Fk own index ci pos) (hk : i < cn k) (hsh : osh Γ.2.1 k (S.1 k i) (S.2.1 k i) (ores ad k (S.2.2 k i)) = .inr (ci, fs)) (hv : fs[pos]? = some v) (d : Dc cc pc (.getfield index) 3 nx) (kk : Vv p l e R s m args below meth c Q Γ nL cells slots ad cn S nx lv (v :: rest)) : Vv p l e R s m args below meth c Q Γ nL cells slots ad cn S pc lv (.ref (ad k i) :: rest) := by
  obtain ⟨d, rfl⟩ := d
  obtain ⟨Cn, T, N, hc, hin, hpos, hlink⟩ := F
  intro H locs ls hP hS hl
  have h0 := hP.1 k i hk
  unfold ocl at h0
  rw [hsh] at h0
  have hP1 : va_P Γ.1 vwCl [(ad k i, .inr (ci, fs))] H := by
    intro q x hx
    have hz : q < 1 := (List.getElem?_eq_some_iff.mp hx).1
    rw [show q = 0 by omega] at hx
    cases hx
    exact h0
  exact va_get C.x C.b C.1.2.2.2.2 hin C.o C.2.1 hP1 0 rfl hc pos hpos (C.w hlink) (fun _ h9 => h9) hv d (kk H locs ls hP hS hl)
theorem V_getr {k i ci pos index f j : Nat} {fs : List Value} (C : Cx p s m args meth c Γ cc nL own) (F : Fk own index ci pos) (hk : i < cn k) (hsh : osh Γ.2.1 k (S.1 k i) (S.2.1 k i) (ores ad k (S.2.2 k i)) = .inr (ci, fs)) (hv : fs[pos]? = some (va_rf (ores ad k (S.2.2 k i) f))) (hj : S.2.2 k i f = some j) (d : Dc cc pc (.getfield index) 3 nx) (kk : j < cn (otk k f) → Vv p l e R s m args below meth c Q Γ nL cells slots ad cn S nx lv (.ref (ad (otk k f) j) :: rest)) : Vv p l e R s m args below meth c Q Γ nL cells slots ad cn S pc lv (.ref (ad k i) :: rest) := by
  refine fun H locs ls hP hS hl => V_get C F hk hsh hv d ?_ H locs ls hP hS hl
  have e1 : ores ad k (S.2.2 k i) f = some (ad (otk k f) j) := by unfold ores; rw [hj]; rfl
  rw [e1]
  exact kk (hP.2.2.2 k i f j hk hj)
/-- a field is written: the machine's row -/
theorem W_putG {H : Heap} {locs : List Loc} {ls : Array Slot} {a ci pos index : Nat} {fs : List Value} {v : Value} {ty : FieldType} {fin : Bool} (C : Cx p s m args meth c Γ cc nL own) (F : Fp own index ci pos ty fin) (hfi : fin = true → meth.name = "<init>") (he : va_at Γ.1 vwCl (a, .inr (ci, fs)) H) (hn : narrow ty v = v) (hfit : fits ty v = true) (hl : pos < fs.length) (d : decode cc pc = .ok (.putfield index, 3))
    (kk : ∀ (H1 : Heap) (sl : Nat), va_at Γ.1 vwCl (a, .inr (ci, fs.set pos v)) H1 → H1.size = H.size → (∀ q : Nat, q ≠ a → H1[q]? = H[q]?) → W p l e R s m args below meth c H1 (locs ++ [⟨a, sl⟩]) cells slots Q (F0 m (pc + 3) ls rest)) : W p l e R s m args below meth c H locs cells slots Q (F0 m pc ls (v :: .ref a :: rest)) := by
  obtain ⟨Cn, T, N, ty0, hc, hin, hk, hlink, hty, hnm, hd, hfin, hdecl⟩ := F
  have hts := C.1.2.2.2.2
  have hap := va_apart (own := own) hts hin ty0 hty hnm C.2.1 hc
  obtain ⟨r, h1, cell, q1, q2, q3, q4⟩ := he
  have hr : r = (Cn, T, N) := Option.some.inj (h1.symm.trans hc)
  subst hr
  obtain ⟨hS, hfc, kC, hkC, hkind⟩ := C.2.1.1 ci _ hc
  obtain ⟨cf, kf, fi, f, hi, hsl⟩ := hS pos hk
  have hlay := hts _ (hin _ (u_in_lay hk))
  unfold u_lay at hlay
  have hst := (u_facts hfc hkC (u_lays hts hin hk) hi).1
  cases fin with
  | false =>
    rw [if_neg (by rw [hfin]; decide)] at hlay
    have h6 := u_store hfc hkC hkind hlay hi hd hn hfit
    refine W.putK C.x C.b (f := f) ⟨C.o, C.w hlink, ⟨_, _, _, hi⟩, hst⟩ (by rw [q2]; exact h6) q1 q3 (by rw [hsl]; exact k2_hasslot (q4 pos hk)) rfl rfl d fun H' e1 e2 e3 => ?_
    rw [hsl] at e1 ⊢
    exact kk H' _ ⟨_, hc, t_OB.to (V := updV (vp_V fs) pos v) ⟨_, e1, q2, q3, t_set q4 hap hk v⟩ (fun j _ => vp_updV_set hl v j)⟩ e2 e3
  | true =>
    rw [if_pos hfin] at hlay
    have hcf : m.cls = cf := by
      obtain ⟨_, _, c', _, _, _, -, -, hf', -, -, -, hown2, -⟩ := Cond.laysFinal_spec hlay
      have e1 : c' = cf := by have := hi.symm.trans hf'; simp at this; exact this.1.symm
      rw [hdecl rfl] at hown2
      rw [← e1]; exact Option.some.inj (C.o.symm.trans hown2)
    have h6 := u_fits hfc hkC hkind (Or.inr hlay) hi hd hn hfit
    refine W.putFinK C.x C.b C.o (C.w hlink) hi hst hcf (hfi rfl) (by rw [q2]; exact h6) q1 q3 (by rw [hsl]; exact k2_hasslot (q4 pos hk)) rfl rfl d fun H' e1 e2 e3 => ?_
    rw [hsl] at e1 ⊢
    exact kk H' _ ⟨_, hc, t_OB.to (V := updV (vp_V fs) pos v) ⟨_, e1, q2, q3, t_set q4 hap hk v⟩ (fun j _ => vp_updV_set hl v j)⟩ e2 e3
theorem V_puti {k i ci pos index f : Nat} {fs : List Value} {x : Int32} {fin : Bool} (C : Cx p s m args meth c Γ cc nL own) (F : Fp own index ci pos .int fin) (hfi : fin = true → meth.name = "<init>") (hk : i < cn k) (hsh : osh Γ.2.1 k (S.1 k i) (S.2.1 k i) (ores ad k (S.2.2 k i)) = .inr (ci, fs)) (hl : pos < fs.length) (hup : osh Γ.2.1 k (upd (S.1 k i) f x) (S.2.1 k i) (ores ad k (S.2.2 k i)) = .inr (ci, fs.set pos (.int x))) (d : Dc cc pc (.putfield index) 3 nx) (kk : ∀ S2 : oSt, S2 = sI S k i f x → Vv p l e R s m args below meth c Q Γ nL cells slots ad cn S2 nx lv rest) : Vv p l e R s m args below meth c Q Γ nL cells slots ad cn S pc lv (.int x :: .ref (ad k i) :: rest) := by
  obtain ⟨d, rfl⟩ := d
  intro H locs ls hP hS hl0
  have h0 := hP.1 k i hk
  unfold ocl at h0
  rw [hsh] at h0
  exact W_putG C F hfi h0 rfl rfl hl d (fun H1 sl h1 z oq => kk _ rfl H1 _ ls (hP.setI hk hup h1 oq) (hS.put z oq (hP.2.2.1 k i hk)) hl0)
theorem V_putl {k i ci pos index f : Nat} {fs : List Value} {x : Int64} {fin : Bool} (C : Cx p s m args meth c Γ cc nL own) (F : Fp own index ci pos .long fin) (hfi : fin = true → meth.name = "<init>") (hk : i < cn k) (hsh : osh Γ.2.1 k (S.1 k i) (S.2.1 k i) (ores ad k (S.2.2 k i)) = .inr (ci, fs)) (hl : pos < fs.length) (hup : osh Γ.2.1 k (S.1 k i) (vp_updL (S.2.1 k i) f x) (ores ad k (S.2.2 k i)) = .inr (ci, fs.set pos (.long x))) (d : Dc cc pc (.putfield index) 3 nx) (kk : ∀ S2 : oSt, S2 = sL S k i f x → Vv p l e R s m args below meth c Q Γ nL cells slots ad cn S2 nx lv rest) : Vv p l e R s m args below meth c Q Γ nL cells slots ad cn S pc lv (.long x :: .ref (ad k i) :: rest) := by
  obtain ⟨d, rfl⟩ := d
  intro H locs ls hP hS hl0
  have h0 := hP.1 k i hk
  unfold ocl at h0
  rw [hsh] at h0
  exact W_putG C F hfi h0 rfl rfl hl d (fun H1 sl h1 z oq => kk _ rfl H1 _ ls (hP.setL hk hup h1 oq) (hS.put z oq (hP.2.2.1 k i hk)) hl0)
theorem V_putr {k i ci pos index f j : Nat} {fs : List Value} {Cn : String} {fin : Bool} (C : Cx p s m args meth c Γ cc nL own) (F : Fp own index ci pos (.object Cn) fin) (hfi : fin = true → meth.name = "<init>") (hk : i < cn k) (hj : j < cn (otk k f)) (hsh : osh Γ.2.1 k (S.1 k i) (S.2.1 k i) (ores ad k (S.2.2 k i)) = .inr (ci, fs)) (hl : pos < fs.length) (hup : ∀ a, osh Γ.2.1 k (S.1 k i) (S.2.1 k i) (va_up (ores ad k (S.2.2 k i)) f (some a)) = .inr (ci, fs.set pos (.ref a))) (d : Dc cc pc (.putfield index) 3 nx) (kk : ∀ S2 : oSt, S2 = sR S k i f (some j) → Vv p l e R s m args below meth c Q Γ nL cells slots ad cn S2 nx lv rest) : Vv p l e R s m args below meth c Q Γ nL cells slots ad cn S pc lv (.ref (ad (otk k f) j) :: .ref (ad k i) :: rest) := by
  obtain ⟨d, rfl⟩ := d
  intro H locs ls hP hS hl0
  have h0 := hP.1 k i hk
  unfold ocl at h0
  rw [hsh] at h0
  exact W_putG C F hfi h0 rfl rfl hl d (fun H1 sl h1 z oq => kk _ rfl H1 _ ls (hP.setR hk (fun i' e => by cases e; exact hj) (hup _) h1 oq) (hS.put z oq (hP.2.2.1 k i hk)) hl0)
theorem V_putra {k i ci pos index f j : Nat} {fs : List Value} {te : FieldType} {fin : Bool} (C : Cx p s m args meth c Γ cc nL own) (F : Fp own index ci pos (.array te) fin) (hfi : fin = true → meth.name = "<init>") (hk : i < cn k) (hj : j < cn (otk k f)) (hsh : osh Γ.2.1 k (S.1 k i) (S.2.1 k i) (ores ad k (S.2.2 k i)) = .inr (ci, fs)) (hl : pos < fs.length) (hup : ∀ a, osh Γ.2.1 k (S.1 k i) (S.2.1 k i) (va_up (ores ad k (S.2.2 k i)) f (some a)) = .inr (ci, fs.set pos (.ref a))) (d : Dc cc pc (.putfield index) 3 nx) (kk : ∀ S2 : oSt, S2 = sR S k i f (some j) → Vv p l e R s m args below meth c Q Γ nL cells slots ad cn S2 nx lv rest) : Vv p l e R s m args below meth c Q Γ nL cells slots ad cn S pc lv (.ref (ad (otk k f) j) :: .ref (ad k i) :: rest) := by
  obtain ⟨d, rfl⟩ := d
  intro H locs ls hP hS hl0
  have h0 := hP.1 k i hk
  unfold ocl at h0
  rw [hsh] at h0
  exact W_putG C F hfi h0 rfl rfl hl d (fun H1 sl h1 z oq => kk _ rfl H1 _ ls (hP.setR hk (fun i' e => by cases e; exact hj) (hup _) h1 oq) (hS.put z oq (hP.2.2.1 k i hk)) hl0)
theorem V_iald {k i n : Nat} {x : Int32} (C : Cx p s m args meth c Γ cc nL own) (hk : i < cn k) (hsh : osh Γ.2.1 k (S.1 k i) (S.2.1 k i) (ores ad k (S.2.2 k i)) = .inl (Γ.2.1 0, n, .inl (S.1 k i))) (hin : vp_in x n) (d : Dc cc pc (.iaload) 1 nx) (kk : Vv p l e R s m args below meth c Q Γ nL cells slots ad cn S nx lv (.int (S.1 k i x.toNatClampNeg) :: rest)) : Vv p l e R s m args below meth c Q Γ nL cells slots ad cn S pc lv (.int x :: .ref (ad k i) :: rest) := by
  obtain ⟨d, rfl⟩ := d
  intro H locs ls hP hS hl
  have h0 := hP.1 k i hk
  unfold ocl at h0
  rw [hsh] at h0
  have hP1 : va_P Γ.1 vwCl [(ad k i, .inl (Γ.2.1 0, n, .inl (S.1 k i)))] H := by
    intro q x hx
    have hz : q < 1 := (List.getElem?_eq_some_iff.mp hx).1
    rw [show q = 0 by omega] at hx
    cases hx
    exact h0
  exact va_iald C.x C.b C.2.1 hP1 0 0 rfl rfl hin d (kk H locs ls hP hS hl)
theorem V_lald {k i n : Nat} {x : Int32} (C : Cx p s m args meth c Γ cc nL own) (hk : i < cn k) (hsh : osh Γ.2.1 k (S.1 k i) (S.2.1 k i) (ores ad k (S.2.2 k i)) = .inl (Γ.2.1 1, n, .inr (.inl (S.2.1 k i)))) (hin : vp_in x n) (d : Dc cc pc (.laload) 1 nx) (kk : Vv p l e R s m args below meth c Q Γ nL cells slots ad cn S nx lv (.long (S.2.1 k i x.toNatClampNeg) :: rest)) : Vv p l e R s m args below meth c Q Γ nL cells slots ad cn S pc lv (.int x :: .ref (ad k i) :: rest) := by
  obtain ⟨d, rfl⟩ := d
  intro H locs ls hP hS hl
  have h0 := hP.1 k i hk
  unfold ocl at h0
  rw [hsh] at h0
  have hP1 : va_P Γ.1 vwCl [(ad k i, .inl (Γ.2.1 1, n, .inr (.inl (S.2.1 k i))))] H := by
    intro q x hx
    have hz : q < 1 := (List.getElem?_eq_some_iff.mp hx).1
    rw [show q = 0 by omega] at hx
    cases hx
    exact h0
  exact va_lald C.x C.b C.2.1 hP1 0 1 rfl rfl hin d (kk H locs ls hP hS hl)
theorem V_aald {k i n t0 : Nat} {Cn : String} {x : Int32} (C : Cx p s m args meth c Γ cc nL own) (hk : i < cn k) (hsh : osh Γ.2.1 k (S.1 k i) (S.2.1 k i) (ores ad k (S.2.2 k i)) = .inl (Γ.2.1 t0, n, .inr (.inr (.inr (.inr (ores ad k (S.2.2 k i))))))) (ht : (oty Γ)[t0]? = some (Γ.2.1 t0, .object Cn)) (hin : vp_in x n) (d : Dc cc pc (.aaload) 1 nx) (kk : ∀ o : Option Nat, o = S.2.2 k i x.toNatClampNeg → (∀ j, o = some j → j < cn (otk k x.toNatClampNeg)) → Vv p l e R s m args below meth c Q Γ nL cells slots ad cn S nx lv (rv ad (otk k x.toNatClampNeg) o :: rest)) : Vv p l e R s m args below meth c Q Γ nL cells slots ad cn S pc lv (.int x :: .ref (ad k i) :: rest) := by
  obtain ⟨d, rfl⟩ := d
  intro H locs ls hP hS hl
  have h0 := hP.1 k i hk
  unfold ocl at h0
  rw [hsh] at h0
  have hP1 : va_P Γ.1 vwCl [(ad k i, .inl (Γ.2.1 t0, n, .inr (.inr (.inr (.inr (ores ad k (S.2.2 k i)))))))] H := by
    intro q x hx
    have hz : q < 1 := (List.getElem?_eq_some_iff.mp hx).1
    rw [show q = 0 by omega] at hx
    cases hx
    exact h0
  exact va_aldq C.x C.b C.2.1 hP1 0 t0 rfl ht hin d (kk _ rfl (fun j hj => hP.2.2.2 k i _ j hk hj) H locs ls hP hS hl)
theorem V_alen {k i t0 : Nat} {v : Int32} {A : vp_A} {ty : FieldType} (C : Cx p s m args meth c Γ cc nL own) (hk : i < cn k) (hsh : osh Γ.2.1 k (S.1 k i) (S.2.1 k i) (ores ad k (S.2.2 k i)) = .inl (Γ.2.1 t0, A)) (ht : (oty Γ)[t0]? = some (Γ.2.1 t0, ty)) (hv : Int32.ofNat A.1 = v) (d : Dc cc pc (.arraylength) 1 nx) (kk : Vv p l e R s m args below meth c Q Γ nL cells slots ad cn S nx lv (.int v :: rest)) : Vv p l e R s m args below meth c Q Γ nL cells slots ad cn S pc lv (.ref (ad k i) :: rest) := by
  obtain ⟨d, rfl⟩ := d
  intro H locs ls hP hS hl
  have h0 := hP.1 k i hk
  unfold ocl at h0
  rw [hsh] at h0
  have hP1 : va_P Γ.1 vwCl [(ad k i, .inl (Γ.2.1 t0, A))] H := by
    intro q x hx
    have hz : q < 1 := (List.getElem?_eq_some_iff.mp hx).1
    rw [show q = 0 by omega] at hx
    cases hx
    exact h0
  exact va_alen C.x C.b C.2.1 hP1 0 t0 rfl ht hv d (kk H locs ls hP hS hl)
theorem V_iast {k i n : Nat} {x y : Int32} (C : Cx p s m args meth c Γ cc nL own) (hk : i < cn k) (hsh : ∀ j, osh Γ.2.1 k j (S.2.1 k i) (ores ad k (S.2.2 k i)) = .inl (Γ.2.1 0, n, .inl j)) (hin : vp_in x n) (d : Dc cc pc (.iastore) 1 nx) (kk : ∀ S2 : oSt, S2 = sI S k i x.toNatClampNeg y → Vv p l e R s m args below meth c Q Γ nL cells slots ad cn S2 nx lv rest) : Vv p l e R s m args below meth c Q Γ nL cells slots ad cn S pc lv (.int y :: .int x :: .ref (ad k i) :: rest) := by
  obtain ⟨d, rfl⟩ := d
  intro H locs ls hP hS hl
  have h0 := hP.1 k i hk
  unfold ocl at h0
  rw [hsh] at h0
  refine W.iast C.x C.b h0 ((C.2.1.2 0 _ rfl).1 n (fun j => .int (S.1 k i j))) (fun q => by cases q) (by show ¬ (x < 0 ∨ (arrV _ _ _).slots.size ≤ _); rw [arrV_size]; exact hin) rfl rfl d fun H1 e1 z oq => ?_
  refine kk _ rfl H1 _ ls (hP.setI hk (hsh _) ?_ oq) (hS.put z oq (hP.2.2.1 k i hk)) hl
  show H1[ad k i]? = some (vp_cell _ _)
  rw [e1, vp_cell_i, vp_cell_i, arrV_store]
  congr 2
  funext q
  by_cases hq : q = x.toNatClampNeg
  · subst hq
    simp [updV, upd]
  · simp [updV, upd, hq]
theorem V_last {k i n : Nat} {x : Int32} {y : Int64} (C : Cx p s m args meth c Γ cc nL own) (hk : i < cn k) (hsh : ∀ g, osh Γ.2.1 k (S.1 k i) g (ores ad k (S.2.2 k i)) = .inl (Γ.2.1 1, n, .inr (.inl g))) (hin : vp_in x n) (d : Dc cc pc (.lastore) 1 nx) (kk : ∀ S2 : oSt, S2 = sL S k i x.toNatClampNeg y → Vv p l e R s m args below meth c Q Γ nL cells slots ad cn S2 nx lv rest) : Vv p l e R s m args below meth c Q Γ nL cells slots ad cn S pc lv (.long y :: .int x :: .ref (ad k i) :: rest) := by
  obtain ⟨d, rfl⟩ := d
  intro H locs ls hP hS hl
  have h0 := hP.1 k i hk
  unfold ocl at h0
  rw [hsh] at h0
  refine W.last C.x C.b h0 ((C.2.1.2 1 _ rfl).1 n (fun j => .long (S.2.1 k i j))) (fun q => by cases q) (by show ¬ (x < 0 ∨ (arrV _ _ _).slots.size ≤ _); rw [arrV_size]; exact hin) rfl rfl d fun H1 e1 z oq => ?_
  refine kk _ rfl H1 _ ls (hP.setL hk (hsh _) ?_ oq) (hS.put z oq (hP.2.2.1 k i hk)) hl
  show H1[ad k i]? = some (vp_cell _ _)
  rw [e1, vp_cell_l, vp_cell_l, arrV_store]
  congr 2
  funext q
  by_cases hq : q = x.toNatClampNeg
  · subst hq
    simp [updV, vp_updL]
  · simp [updV, vp_updL, hq]
theorem V_aast {k i n t0 j ci : Nat} {x : Int32} {r : vw_C} {vs : List Value} (C : Cx p s m args meth c Γ cc nL own) (hk : i < cn k) (hj : j < cn (otk k x.toNatClampNeg)) (hsh : ∀ ρ, osh Γ.2.1 k (S.1 k i) (S.2.1 k i) ρ = .inl (Γ.2.1 t0, n, .inr (.inr (.inr (.inr ρ))))) (hv : osh Γ.2.1 (otk k x.toNatClampNeg) (S.1 (otk k x.toNatClampNeg) j) (S.2.1 (otk k x.toNatClampNeg) j) (ores ad (otk k x.toNatClampNeg) (S.2.2 (otk k x.toNatClampNeg) j)) = .inr (ci, vs)) (hc : vwCl[ci]? = some r) (ht : (oty Γ)[t0]? = some (Γ.2.1 t0, .object r.1)) (hin : vp_in x n) (d : Dc cc pc (.aastore) 1 nx) (kk : ∀ S2 : oSt, S2 = sR S k i x.toNatClampNeg (some j) → Vv p l e R s m args below meth c Q Γ nL cells slots ad cn S2 nx lv rest) : Vv p l e R s m args below meth c Q Γ nL cells slots ad cn S pc lv (.ref (ad (otk k x.toNatClampNeg) j) :: .int x :: .ref (ad k i) :: rest) := by
  obtain ⟨d, rfl⟩ := d
  intro H locs ls hP hS hl
  have h0 := hP.1 k i hk
  have g0 := hP.1 _ j hj
  unfold ocl at h0 g0
  rw [hsh] at h0
  rw [hv] at g0
  have hlt : x.toNatClampNeg < n := Nat.not_le.mp fun q => hin (Or.inr q)
  have hx0 : ¬ x < 0 := fun q => hin (Or.inl q)
  obtain ⟨r', hr', cellV, g1, g2, g3, -⟩ := g0
  have hcls := (C.2.1.1 ci r hc).2
  obtain ⟨kA, comp, k1, k2, k3, -⟩ := (C.2.1.2 t0 _ ht).2
  have hcomp : comp = Γ.1.1 ci := Option.some.inj (k3.symm.trans hcls.1)
  subst hcomp
  obtain ⟨kC, hkC, -⟩ := hcls.2
  refine W.aast C.x C.b h0 (fun q h => by cases h) (fun h => by cases h) k1 k2 rfl hkC ⟨hx0, by show _ < (arrV _ _ _).slots.size; rw [arrV_size]; exact hlt⟩ g1 (fun q h => by rw [g3] at h; cases h) (by rw [g2]; exact hkC) (by rw [g2]; exact va_assign hcls) rfl rfl d fun H1 e1 z oq => ?_
  refine kk _ rfl H1 _ ls (hP.setR hk (fun i' e2 => by cases e2; exact hj) (hsh _) ?_ oq) (hS.put z oq (hP.2.2.1 k i hk)) hl
  show H1[ad k i]? = some (vp_cell _ _)
  rw [e1, vp_cell_q, vp_cell_q, arrV_store]
  congr 2
  funext q
  by_cases hq : q = x.toNatClampNeg
  · subst hq
    simp [updV, va_up, va_rf]
  · simp [updV, va_up, hq]
/-! the script and the powers -/
theorem V_sld {x : Int32} (C : Cx p s m args meth c Γ cc nL own) (hin : vp_in x Γ.2.2.2.1.2.1) (d : Dc cc pc (.iaload) 1 nx) (kk : Vv p l e R s m args below meth c Q Γ nL cells slots ad cn S nx lv (.int (Γ.2.2.2.1.2.2 x.toNatClampNeg) :: rest)) : Vv p l e R s m args below meth c Q Γ nL cells slots ad cn S pc lv (.int x :: .ref Γ.2.2.2.1.1 :: rest) := by
  obtain ⟨d, rfl⟩ := d
  obtain ⟨-, -, h3, h4, h5, -⟩ := C.2.2.1
  exact fun H locs ls hP hS hl => va_sld C.x C.b h3 (Nat.lt_of_lt_of_le h4 h5) (fun z => Nat.not_le.mpr h4 z) hS hin d (kk H locs ls hP hS hl)
theorem V_slen (C : Cx p s m args meth c Γ cc nL own) (d : Dc cc pc (.arraylength) 1 nx) (kk : Vv p l e R s m args below meth c Q Γ nL cells slots ad cn S nx lv (.int (Int32.ofNat Γ.2.2.2.1.2.1) :: rest)) : Vv p l e R s m args below meth c Q Γ nL cells slots ad cn S pc lv (.ref Γ.2.2.2.1.1 :: rest) := by
  obtain ⟨d, rfl⟩ := d
  obtain ⟨-, -, h3, h4, h5, -⟩ := C.2.2.1
  exact fun H locs ls hP hS hl => va_slen C.x C.b h3 (Nat.lt_of_lt_of_le h4 h5) (fun z => Nat.not_le.mpr h4 z) hS d (kk H locs ls hP hS hl)
theorem V_pget {index : Nat} (C : Cx p s m args meth c Γ cc nL own) (hw : Jvm.Cond.fieldLink own index "ValueConnector" "POWERS_OF_TEN" "[I" ∈ oWS) (d : Dc cc pc (.getstatic index) 3 nx) (kk : Vv p l e R s m args below meth c Q Γ nL cells slots ad cn S nx lv (.ref Γ.2.2.2.2 :: rest)) : Vv p l e R s m args below meth c Q Γ nL cells slots ad cn S pc lv rest := by
  obtain ⟨d, rfl⟩ := d
  exact fun H locs ls hP hS hl => va_gets C.x C.b C.2.2.1.1 hS C.o (C.w hw) (fun _ h9 => h9) d (kk H locs ls hP hS hl)
theorem V_pld {x : Int32} (C : Cx p s m args meth c Γ cc nL own) (hin : vp_in x 4) (d : Dc cc pc (.iaload) 1 nx) (kk : Vv p l e R s m args below meth c Q Γ nL cells slots ad cn S nx lv (.int (opw x.toNatClampNeg) :: rest)) : Vv p l e R s m args below meth c Q Γ nL cells slots ad cn S pc lv (.int x :: .ref Γ.2.2.2.2 :: rest) := by
  obtain ⟨d, rfl⟩ := d
  exact fun H locs ls hP hS hl => va_ti C.x C.b C.2.2.1.2.1 hS hin rfl d (kk H locs ls hP hS hl)
theorem V_plen (C : Cx p s m args meth c Γ cc nL own) (d : Dc cc pc (.arraylength) 1 nx) (kk : Vv p l e R s m args below meth c Q Γ nL cells slots ad cn S nx lv (.int 4 :: rest)) : Vv p l e R s m args below meth c Q Γ nL cells slots ad cn S pc lv (.ref Γ.2.2.2.2 :: rest) := by
  obtain ⟨d, rfl⟩ := d
  exact fun H locs ls hP hS hl => va_tlen C.x C.b C.2.2.1.2.1 hS rfl d (kk H locs ls hP hS hl)
def vI (r : Int32) : Option Value := some (.int r)
def vJ (r : Int64) : Option Value := some (.long r)
def vU (_ : Unit) : Option Value := none
def vR (ad : oAd) (k : Nat) (o : Option Nat) : Option Value := some (rv ad k o)
theorem oend {ρ : Type} {val : ρ → Option Value} {post : ρ → oSt → Prop} {r : ρ} {a : Array Value} {H : Heap} {locs : List Loc} (C : Cx p s m args meth c Γ cc nL own) (h : post r S) (hP : oP Γ ad cn S H) (hS : va_S (oF Γ) s.heap H locs) (t : State) (ht : t.heap = H) (hW : s.WarmedH t.vm) : oQ Γ ad cn val post a s (.returned (val r)) t :=
  ⟨⟨r, S, rfl, h, by rw [ht]; exact hP, va_K.moved hW.alike C.2.1, C.2.2.1.go hS ht hW⟩, hS.F ht⟩
theorem oendn {ρ : Type} {val : oAd → ρ → Option Value} {post : ρ → (Nat → Nat) → oSt → Prop} {r : ρ} {a : Array Value} {H : Heap} {locs : List Loc} {ad0 : oAd} {cn0 : Nat → Nat} (C : Cx p s m args meth c Γ cc nL own) (hx : oX cn0 ad0 ad) (hc : ∀ k, cn0 k ≤ cn k) (h : post r cn S) (hP : oP Γ ad cn S H) (hS : va_S (oF Γ) s.heap H locs) (t : State) (ht : t.heap = H) (hW : s.WarmedH t.vm) : oQn Γ ad0 cn0 val post a s (.returned (val ad r)) t :=
  ⟨⟨r, ad, cn, S, rfl, hx, hc, h, by rw [ht]; exact hP, va_K.moved hW.alike C.2.1, C.2.2.1.go hS ht hW⟩, hS.F ht⟩
theorem V_iret {v : Int32} {post : Int32 → oSt → Prop} (C : Cx p s m args meth c Γ cc nL own) (hr : meth.sig.returnType = some .int) (d : Dc cc pc .ireturn 1 nx) (h : post v S) : Vv p l e R s m args below meth c (MQ below (oQ Γ ad cn vI post) args s cells slots (oF Γ)) Γ nL cells slots ad cn S pc lv [.int v] :=
  fun H locs ls hP hS hl => W.iret C.x C.b hr (fun t ht hW => oend (val := vI) C h hP hS t ht hW) hS.2.2 d.1 C.2.2.2
theorem V_iretn {v : Int32} {post : Int32 → (Nat → Nat) → oSt → Prop} {ad0 : oAd} {cn0 : Nat → Nat} (C : Cx p s m args meth c Γ cc nL own) (hr : meth.sig.returnType = some .int) (hx : oX cn0 ad0 ad) (hc : ∀ k, cn0 k ≤ cn k) (d : Dc cc pc .ireturn 1 nx) (h : post v cn S) : Vv p l e R s m args below meth c (MQ below (oQn Γ ad0 cn0 (fun _ => vI) post) args s cells slots (oF Γ)) Γ nL cells slots ad cn S pc lv [.int v] :=
  fun H locs ls hP hS hl => W.iret C.x C.b hr (fun t ht hW => oendn (val := fun _ => vI) C hx hc h hP hS t ht hW) hS.2.2 d.1 C.2.2.2
theorem V_lret {v : Int64} {post : Int64 → oSt → Prop} (C : Cx p s m args meth c Γ cc nL own) (hr : meth.sig.returnType = some .long) (d : Dc cc pc .lreturn 1 nx) (h : post v S) : Vv p l e R s m args below meth c (MQ below (oQ Γ ad cn vJ post) args s cells slots (oF Γ)) Γ nL cells slots ad cn S pc lv [.long v] :=
  fun H locs ls hP hS hl => W.lret C.x C.b hr (fun t ht hW => oend (val := vJ) C h hP hS t ht hW) hS.2.2 d.1 C.2.2.2
theorem V_lretn {v : Int64} {post : Int64 → (Nat → Nat) → oSt → Prop} {ad0 : oAd} {cn0 : Nat → Nat} (C : Cx p s m args meth c Γ cc nL own) (hr : meth.sig.returnType = some .long) (hx : oX cn0 ad0 ad) (hc : ∀ k, cn0 k ≤ cn k) (d : Dc cc pc .lreturn 1 nx) (h : post v cn S) : Vv p l e R s m args below meth c (MQ below (oQn Γ ad0 cn0 (fun _ => vJ) post) args s cells slots (oF Γ)) Γ nL cells slots ad cn S pc lv [.long v] :=
  fun H locs ls hP hS hl => W.lret C.x C.b hr (fun t ht hW => oendn (val := fun _ => vJ) C hx hc h hP hS t ht hW) hS.2.2 d.1 C.2.2.2
theorem V_zret {v : Int32} {post : Int32 → oSt → Prop} (C : Cx p s m args meth c Γ cc nL own) (hr : meth.sig.returnType = some .boolean) (hz : narrow .boolean (.int v) = .int v) (d : Dc cc pc .ireturn 1 nx) (h : post v S) : Vv p l e R s m args below meth c (MQ below (oQ Γ ad cn vI post) args s cells slots (oF Γ)) Γ nL cells slots ad cn S pc lv [.int v] :=
  fun H locs ls hP hS hl => W.zret C.x C.b hr hz (fun t ht hW => oend (val := vI) C h hP hS t ht hW) hS.2.2 d.1 C.2.2.2
theorem V_zretn {v : Int32} {post : Int32 → (Nat → Nat) → oSt → Prop} {ad0 : oAd} {cn0 : Nat → Nat} (C : Cx p s m args meth c Γ cc nL own) (hr : meth.sig.returnType = some .boolean) (hz : narrow .boolean (.int v) = .int v) (hx : oX cn0 ad0 ad) (hc : ∀ k, cn0 k ≤ cn k) (d : Dc cc pc .ireturn 1 nx) (h : post v cn S) : Vv p l e R s m args below meth c (MQ below (oQn Γ ad0 cn0 (fun _ => vI) post) args s cells slots (oF Γ)) Γ nL cells slots ad cn S pc lv [.int v] :=
  fun H locs ls hP hS hl => W.zret C.x C.b hr hz (fun t ht hW => oendn (val := fun _ => vI) C hx hc h hP hS t ht hW) hS.2.2 d.1 C.2.2.2
theorem V_vret {post : Unit → oSt → Prop} (C : Cx p s m args meth c Γ cc nL own) (hr : meth.sig.returnType = none) (d : Dc cc pc .return_ 1 nx) (h : post () S) : Vv p l e R s m args below meth c (MQ below (oQ Γ ad cn vU post) args s cells slots (oF Γ)) Γ nL cells slots ad cn S pc lv [] :=
  fun H locs ls hP hS hl => W.vret C.x C.b hr (fun t ht hW => oend (val := vU) (r := ()) C h hP hS t ht hW) hS.2.2 d.1 C.2.2.2
theorem V_vretn {post : Unit → (Nat → Nat) → oSt → Prop} {ad0 : oAd} {cn0 : Nat → Nat} (C : Cx p s m args meth c Γ cc nL own) (hr : meth.sig.returnType = none) (hx : oX cn0 ad0 ad) (hc : ∀ k, cn0 k ≤ cn k) (d : Dc cc pc .return_ 1 nx) (h : post () cn S) : Vv p l e R s m args below meth c (MQ below (oQn Γ ad0 cn0 (fun _ => vU) post) args s cells slots (oF Γ)) Γ nL cells slots ad cn S pc lv [] :=
  fun H locs ls hP hS hl => W.vret C.x C.b hr (fun t ht hW => oendn (val := fun _ => vU) (r := ()) C hx hc h hP hS t ht hW) hS.2.2 d.1 C.2.2.2
theorem rv_or (ad : oAd) (k : Nat) (o : Option Nat) : rv ad k o = .null ∨ ∃ a, rv ad k o = .ref a := by
  cases o with
  | none => exact Or.inl rfl
  | some i => exact Or.inr ⟨_, rfl⟩
theorem V_aret {kd : Nat} {Cn : String} {o : Option Nat} {post : Option Nat → oSt → Prop} (C : Cx p s m args meth c Γ cc nL own) (hr : meth.sig.returnType = some (.object Cn)) (d : Dc cc pc .areturn 1 nx) (h : post o S) : Vv p l e R s m args below meth c (MQ below (oQ Γ ad cn (vR ad kd) post) args s cells slots (oF Γ)) Γ nL cells slots ad cn S pc lv [rv ad kd o] :=
  fun H locs ls hP hS hl => W.aret C.x C.b hr (Or.inl ⟨_, rfl⟩) (rv_or ad kd o) (fun t ht hW => oend (val := vR ad kd) C h hP hS t ht hW) hS.2.2 d.1 C.2.2.2
theorem V_widen {c1 s1 : Nat} {st : List Value} (h1 : cells ≤ c1) (h2 : slots ≤ s1) (k : Vv p l e R s m args below meth c Q Γ nL c1 s1 ad cn S pc lv st) : Vv p l e R s m args below meth c Q Γ nL cells slots ad cn S pc lv st := fun H locs ls hP hS hl => W.widen h1 h2 (k H locs ls hP hS hl)
/-! calls -/
theorem V_runW {ρ : Type} {val : ρ → Option Value} {post : ρ → oSt → Prop} {a : Array Value} {st0 : List Value} (k : ∀ (H : Heap) (locs : List Loc) (ls : Array Slot), oP Γ ad cn S H → va_S (oF Γ) s.heap H locs → lv_has ls nL lv → va_Run p l e R s m args below meth c H locs cells slots 0 0 (F0 m pc ls st0) rest (oQ Γ ad cn val post a) (oF Γ)) (hnx : pc + 3 = nx)
    (kk : ∀ (r : ρ) (S1 : oSt), post r S1 → Vv p l e R s m args below meth c Q Γ nL cells slots ad cn S1 nx lv ((val r).toList ++ rest)) : Vv p l e R s m args below meth c Q Γ nL cells slots ad cn S pc lv st0 := by
  subst hnx
  intro H locs ls hP hS hl T hT X
  obtain ⟨v, st₀, t, T', L, h0, X', hL, e1, e2, ⟨⟨r, S1, hv, hp, hb, -⟩, hz, hk⟩, st⟩ := k H locs ls hP hS hl T hT X
  cases hv
  rw [h0] at hz hk
  obtain ⟨t2, a1, b1⟩ := kk r S1 hp T'.heap (locs ++ L) ls (by rw [e1]; exact hb) ⟨Nat.le_trans hS.1 (by rw [e1]; exact hz), fun q h1 h2 => by rw [e1, hk q (Nat.lt_of_lt_of_le h1 hS.1) h2]; exact hS.2.1 q h1 h2, fun q hq => by
      rcases List.mem_append.mp hq with h | h
      · exact hS.2.2 q h
      · exact hL q h⟩ hl T' rfl X'
  exact ⟨t2, st t2 a1, b1⟩
theorem V_runWn {ρ : Type} {mc ms : Nat} {val : oAd → ρ → Option Value} {post : ρ → (Nat → Nat) → oSt → Prop} {a : Array Value} {st0 : List Value} (lvf : oAd → List (Nat × Value)) (restf : oAd → List Value) (hlv : lvf ad = lv) (hre : restf ad = rest) (hl2 : ∀ ad2, oX cn ad ad2 → lvf ad2 = lvf ad ∧ restf ad2 = restf ad) (k : ∀ (H : Heap) (locs : List Loc) (ls : Array Slot), oP Γ ad cn S H → va_S (oF Γ) s.heap H locs → lv_has ls nL lv → va_Run p l e R s m args below meth c H locs cells slots mc ms (F0 m pc ls st0) rest (oQn Γ ad cn val post a) (oF Γ)) (hnx : pc + 3 = nx)
    (kk : ∀ (r : ρ) (ad2 : oAd) (cn2 : Nat → Nat) (S1 : oSt), oX cn ad ad2 → (∀ k, cn k ≤ cn2 k) → post r cn2 S1 → Vv p l e R s m args below meth c Q Γ nL (cells + mc) (slots + ms) ad2 cn2 S1 nx (lvf ad2) ((val ad2 r).toList ++ restf ad2)) : Vv p l e R s m args below meth c Q Γ nL cells slots ad cn S pc lv st0 := by
  subst hnx
  intro H locs ls hP hS hl T hT X
  obtain ⟨v, st₀, t, T', L, h0, X', hL, e1, e2, ⟨⟨r, ad2, cn2, S1, hv, hx, hc, hp, hb, -⟩, hz, hk⟩, st⟩ := k H locs ls hP hS hl T hT X
  cases hv
  rw [h0] at hz hk
  obtain ⟨q1, q2⟩ := hl2 ad2 hx
  obtain ⟨t2, a1, b1⟩ := kk r ad2 cn2 S1 hx hc hp T'.heap (locs ++ L) ls (by rw [e1]; exact hb) ⟨Nat.le_trans hS.1 (by rw [e1]; exact hz), fun q h1 h2 => by rw [e1, hk q (Nat.lt_of_lt_of_le h1 hS.1) h2]; exact hS.2.1 q h1 h2, fun q hq => by
      rcases List.mem_append.mp hq with h | h
      · exact hS.2.2 q h
      · exact hL q h⟩ (by rw [q1, hlv]; exact hl) T' rfl X'
  refine ⟨t2, st t2 ?_, b1⟩
  rw [q2, hre] at a1
  exact a1
/-- what stands before a call -/
theorem opre {av : List Value} {H : Heap} {locs : List Loc} (C : Cx p s m args meth c Γ cc nL own) (hP : oP Γ ad cn S H) (hS : va_S (oF Γ) s.heap H locs) : PreS s H (va_Pc av (oW Γ ad cn S)) av :=
  ⟨oW.blind, fun U hU hW => ⟨rfl, by rw [hU]; exact hP, va_K.moved hW.alike C.2.1, C.2.2.1.go hS hU hW⟩⟩
theorem oprev {av : List Value} {H : Heap} {locs : List Loc} {k i ci : Nat} {r : vw_C} {fs : List Value} (C : Cx p s m args meth c Γ cc nL own) (hk : i < cn k) (hsh : osh Γ.2.1 k (S.1 k i) (S.2.1 k i) (ores ad k (S.2.2 k i)) = .inr (ci, fs)) (hc : vwCl[ci]? = some r) (hP : oP Γ ad cn S H) (hS : va_S (oF Γ) s.heap H locs) : PreV s H r.1 (ad k i) (va_Pc (.ref (ad k i) :: av) (oW Γ ad cn S)) av := by
  refine ⟨oW.blind, ?_, fun U hU hW => ⟨rfl, by rw [hU]; exact hP, va_K.moved hW.alike C.2.1, C.2.2.1.go hS hU hW⟩⟩
  have h0 := hP.1 k i hk
  unfold ocl at h0
  rw [hsh] at h0
  obtain ⟨q', h1, cell, g1, g2, g3, -⟩ := h0
  exact ⟨cell, g1, by rw [g3]; rfl, by rw [g2]; exact (C.2.1.1 ci r hc).2.1⟩
end OV
end
section
section OV2
variable {p : Program} {l : Launch} {e : Env} {R : Room} {s : State} {m : MethodId} {args : Array Value} {below : List Frame} {meth : Method} {c : Code} {Q : State → Prop} {Γ : oGm} {nL cells slots : Nat} {ad : oAd} {cn : Nat → Nat} {S : oSt} {cc : ByteArray} {own : String} {pc nx : Nat} {lv : List (Nat × Value)} {rest : List Value}
theorem V_lvs {st : List Value} (ks : List Nat) (lv2 : List (Nat × Value)) (h : lv_pick lv ks = lv2) (k : Vv p l e R s m args below meth c Q Γ nL cells slots ad cn S pc lv2 st) : Vv p l e R s m args below meth c Q Γ nL cells slots ad cn S pc lv st := fun H locs ls hP hS hl => k H locs ls hP hS (lv_sub hl ks h)
theorem V_sh {st : List Value} (lv2 : List (Nat × Value)) (st2 : List Value) (h1 : lv = lv2) (h2 : st = st2) (k : Vv p l e R s m args below meth c Q Γ nL cells slots ad cn S pc lv2 st2) : Vv p l e R s m args below meth c Q Γ nL cells slots ad cn S pc lv st := by subst h1; subst h2; exact k
theorem ob0 {H : Heap} {locs : List Loc} (C : Cx p s m args meth c Γ cc nL own) (hS : va_S (oF Γ) s.heap H locs) : Γ.2.2.1 ≤ H.size := Nat.le_trans C.2.2.1.2.2.2.2.1 hS.1
theorem ogrow {H H1 : Heap} {locs : List Loc} (hS : va_S (oF Γ) s.heap H locs) (z : H1.size = H.size + 1) (o1 : ∀ q : Nat, q < H.size → H1[q]? = H[q]?) : va_S (oF Γ) s.heap H1 locs :=
  ⟨Nat.le_trans hS.1 (by omega), fun x h1 h2 => (o1 x (Nat.lt_of_lt_of_le h1 hS.1)).trans (hS.2.1 x h1 h2), hS.2.2⟩
/-- a new object of a class: what its words are -/
def Nk (own : String) (index ci N : Nat) (fs : List Value) : Prop := ∃ (Cn : String) (T : u_T) (ty : Nat → FieldType), vwCl[ci]? = some (Cn, T, N) ∧ (∀ w ∈ u_ws Cn T N, w ∈ oWS) ∧ (∀ k, k < N → parseFieldDescriptor (T k).2.2.1 = some (ty k)) ∧ Jvm.Cond.classLink own index Cn ∈ oWS ∧ Jvm.Cond.instantiable Cn N ∈ oWS ∧ Jvm.Cond.initialized Cn ∈ oWS ∧ ∀ j, j < N → defaultValue (ty j) = vp_V fs j
theorem V_new {k ci index N : Nat} {fs : List Value} (C : Cx p s m args meth c Γ cc nL own) (lvf : oAd → List (Nat × Value)) (restf : oAd → List Value) (hlv : lvf ad = lv) (hre : restf ad = rest) (hl2 : ∀ ad2, oX cn ad ad2 → lvf ad2 = lvf ad ∧ restf ad2 = restf ad) (F : Nk own index ci N fs) (hsh : osh Γ.2.1 k (fun _ => 0) (fun _ => 0) (fun _ => none) = .inr (ci, fs)) (hcells : cells + 1 ≤ R.cells) (hslots : slots + N ≤ R.slots) (d : Dc cc pc (.new index) 3 nx)
    (kk : ∀ (i : Nat) (ad2 : oAd) (cn2 : Nat → Nat) (S2 : oSt), i = cn k → cn2 = oup cn k → S2 = sN S k i → oX cn ad ad2 → (∀ a, cn a ≤ cn2 a) → i < cn2 k → Vv p l e R s m args below meth c Q Γ nL (cells + 1) (slots + N) ad2 cn2 S2 nx (lvf ad2) (.ref (ad2 k i) :: restf ad2)) : Vv p l e R s m args below meth c Q Γ nL cells slots ad cn S pc lv rest := by
  obtain ⟨d, rfl⟩ := d
  obtain ⟨Cn, T, ty, hc, hin, hty, w1, w2, w3, hfs⟩ := F
  intro H locs ls hP hS hl
  have hKn := C.2.1.1 ci _ hc
  refine W.newcK C.x C.b C.o (C.w w1) (C.w w2) (C.w w3) rfl d hcells hslots hKn.2.1 rfl fun H1 kC hkC e1 z1 o1 => ?_
  have hat : va_at Γ.1 vwCl (H.size, .inr (ci, fs)) H1 := ⟨_, hc, (u_born ty C.1.2.2.2.2 hin hKn hkC e1 hty).to hfs⟩
  have hP1 := hP.new (k := k) rfl (ob0 C hS) hsh hat o1
  obtain ⟨q1, q2⟩ := hl2 _ (oN_x (cn := cn) (ad := ad) (k := k) (q := H.size))
  have h9 := kk (cn k) _ (oup cn k) _ rfl rfl rfl (oN_x (cn := cn) (ad := ad) (k := k) (q := H.size)) (fun _ => oup_le) oup_new H1 locs ls hP1 (ogrow hS z1 o1) (by rw [q1, hlv]; exact hl)
  rw [q2, hre, oN_new] at h9
  exact h9
theorem V_newi {k N : Nat} {n : Int32} (C : Cx p s m args meth c Γ cc nL own) (lvf : oAd → List (Nat × Value)) (restf : oAd → List Value) (hlv : lvf ad = lv) (hre : restf ad = rest) (hl2 : ∀ ad2, oX cn ad ad2 → lvf ad2 = lvf ad ∧ restf ad2 = restf ad) (hw : Jvm.Cond.arrayClass .int ∈ oWS) (hsh : osh Γ.2.1 k (fun _ => 0) (fun _ => 0) (fun _ => none) = .inl (Γ.2.1 0, N, .inl (fun _ => 0))) (hn : ¬ n < 0) (hN : n.toNatClampNeg = N) (hbytes : N * 4 ≤ 536870912) (hcells : cells + 1 ≤ R.cells) (hslots : slots + N ≤ R.slots) (d : Dc cc pc (.newarray .int) 2 nx)
    (kk : ∀ (i : Nat) (ad2 : oAd) (cn2 : Nat → Nat) (S2 : oSt), i = cn k → cn2 = oup cn k → S2 = sN S k i → oX cn ad ad2 → (∀ a, cn a ≤ cn2 a) → i < cn2 k → Vv p l e R s m args below meth c Q Γ nL (cells + 1) (slots + N) ad2 cn2 S2 nx (lvf ad2) (.ref (ad2 k i) :: restf ad2)) : Vv p l e R s m args below meth c Q Γ nL cells slots ad cn S pc lv (.int n :: rest) := by
  obtain ⟨d, rfl⟩ := d
  intro H locs ls hP hS hl
  refine va_newaK (atype := .int) C.x C.b (C.w hw) rfl d rfl hn hN hbytes hcells hslots rfl fun H1 cA e1 z1 o1 hAr hNm => ?_
  have hcA : cA = Γ.2.1 0 := Option.some.inj (hNm.symm.trans (C.2.1.2 0 _ rfl).2)
  subst hcA
  have hP1 := hP.new (k := k) rfl (ob0 C hS) hsh e1 o1
  obtain ⟨q1, q2⟩ := hl2 _ (oN_x (cn := cn) (ad := ad) (k := k) (q := H.size))
  have h9 := kk (cn k) _ (oup cn k) _ rfl rfl rfl (oN_x (cn := cn) (ad := ad) (k := k) (q := H.size)) (fun _ => oup_le) oup_new H1 locs ls hP1 (ogrow hS z1 o1) (by rw [q1, hlv]; exact hl)
  rw [q2, hre, oN_new] at h9
  exact h9
theorem V_newl {k N : Nat} {n : Int32} (C : Cx p s m args meth c Γ cc nL own) (lvf : oAd → List (Nat × Value)) (restf : oAd → List Value) (hlv : lvf ad = lv) (hre : restf ad = rest) (hl2 : ∀ ad2, oX cn ad ad2 → lvf ad2 = lvf ad ∧ restf ad2 = restf ad) (hw : Jvm.Cond.arrayClass .long ∈ oWS) (hsh : osh Γ.2.1 k (fun _ => 0) (fun _ => 0) (fun _ => none) = .inl (Γ.2.1 1, N, .inr (.inl (fun _ => 0)))) (hn : ¬ n < 0) (hN : n.toNatClampNeg = N) (hbytes : N * 8 ≤ 536870912) (hcells : cells + 1 ≤ R.cells) (hslots : slots + N ≤ R.slots) (d : Dc cc pc (.newarray .long) 2 nx)
    (kk : ∀ (i : Nat) (ad2 : oAd) (cn2 : Nat → Nat) (S2 : oSt), i = cn k → cn2 = oup cn k → S2 = sN S k i → oX cn ad ad2 → (∀ a, cn a ≤ cn2 a) → i < cn2 k → Vv p l e R s m args below meth c Q Γ nL (cells + 1) (slots + N) ad2 cn2 S2 nx (lvf ad2) (.ref (ad2 k i) :: restf ad2)) : Vv p l e R s m args below meth c Q Γ nL cells slots ad cn S pc lv (.int n :: rest) := by
  obtain ⟨d, rfl⟩ := d
  intro H locs ls hP hS hl
  refine va_newaK (atype := .long) C.x C.b (C.w hw) rfl d rfl hn hN hbytes hcells hslots rfl fun H1 cA e1 z1 o1 hAr hNm => ?_
  have hcA : cA = Γ.2.1 1 := Option.some.inj (hNm.symm.trans (C.2.1.2 1 _ rfl).2)
  subst hcA
  have hP1 := hP.new (k := k) rfl (ob0 C hS) hsh e1 o1
  obtain ⟨q1, q2⟩ := hl2 _ (oN_x (cn := cn) (ad := ad) (k := k) (q := H.size))
  have h9 := kk (cn k) _ (oup cn k) _ rfl rfl rfl (oN_x (cn := cn) (ad := ad) (k := k) (q := H.size)) (fun _ => oup_le) oup_new H1 locs ls hP1 (ogrow hS z1 o1) (by rw [q1, hlv]; exact hl)
  rw [q2, hre, oN_new] at h9
  exact h9
theorem V_newq {k N t0 index : Nat} {Cn : String} {n : Int32} (C : Cx p s m args meth c Γ cc nL own) (hao : va_AO Cn s) (lvf : oAd → List (Nat × Value)) (restf : oAd → List Value) (hlv : lvf ad = lv) (hre : restf ad = rest) (hl2 : ∀ ad2, oX cn ad ad2 → lvf ad2 = lvf ad ∧ restf ad2 = restf ad) (hw : Jvm.Cond.classLink own index Cn ∈ oWS) (ht : (oty Γ)[t0]? = some (Γ.2.1 t0, .object Cn)) (hsh : osh Γ.2.1 k (fun _ => 0) (fun _ => 0) (fun _ => none) = .inl (Γ.2.1 t0, N, .inr (.inr (.inr (.inr (fun _ => none)))))) (hn : ¬ n < 0) (hN : n.toNatClampNeg = N) (hbytes : N * 4 ≤ 536870912) (hcells : cells + 1 ≤ R.cells) (hslots : slots + N ≤ R.slots) (d : Dc cc pc (.anewarray index) 3 nx)
    (kk : ∀ (i : Nat) (ad2 : oAd) (cn2 : Nat → Nat) (S2 : oSt), i = cn k → cn2 = oup cn k → S2 = sN S k i → oX cn ad ad2 → (∀ a, cn a ≤ cn2 a) → i < cn2 k → Vv p l e R s m args below meth c Q Γ nL (cells + 1) (slots + N) ad2 cn2 S2 nx (lvf ad2) (.ref (ad2 k i) :: restf ad2)) : Vv p l e R s m args below meth c Q Γ nL cells slots ad cn S pc lv (.int n :: rest) := by
  obtain ⟨d, rfl⟩ := d
  intro H locs ls hP hS hl
  subst hN
  refine W.anew C.x C.b C.o (C.w hw) (va_AO.use hao) rfl d rfl hn hbytes hcells hslots fun cA kA comp f1 f2 f3 f4 => ?_
  obtain ⟨kA', comp', k1, k2, k3, k4⟩ := (C.2.1.2 t0 _ ht).2
  have hcA : cA = Γ.2.1 t0 := Option.some.inj (f1.symm.trans k4)
  subst hcA
  generalize hH1 : H.push ({ cls := Γ.2.1 t0, slots := Array.replicate n.toNatClampNeg .null, vm := .none } : Cell) = H1
  have z1 : H1.size = H.size + 1 := by rw [← hH1, Array.size_push]
  have e1 : H1[H.size]? = some (arrV (Γ.2.1 t0) n.toNatClampNeg (fun _ => .null)) := by rw [← hH1, Array.getElem?_push_size, ← arrV_new]
  have o1 : ∀ q : Nat, q < H.size → H1[q]? = H[q]? := fun q hq => by rw [← hH1, Array.getElem?_push, if_neg (Nat.ne_of_lt hq)]
  have hP1 := hP.new (k := k) rfl (ob0 C hS) hsh e1 o1
  obtain ⟨q1, q2⟩ := hl2 _ (oN_x (cn := cn) (ad := ad) (k := k) (q := H.size))
  have h9 := kk (cn k) _ (oup cn k) _ rfl rfl rfl (oN_x (cn := cn) (ad := ad) (k := k) (q := H.size)) (fun _ => oup_le) oup_new H1 locs ls hP1 (ogrow hS z1 o1) (by rw [q1, hlv]; exact hl)
  rw [q2, hre, oN_new] at h9
  exact h9
theorem V_objInit {index a : Nat} (C : Cx p s m args meth c Γ cc nL own) (hw1 : Jvm.Cond.methodLink own index Lib.objectInit ∈ oWS) (hw2 : Jvm.Cond.instanceMethod Lib.objectInit ∈ oWS) (hw3 : Jvm.Cond.code Lib.objectInit ⟨#[0xb1]⟩ 1 none ∈ oWS) (hR : 1 ≤ R.frames ∧ 40 ≤ R.locals) (hrest : (rest.map fun v => v.category).sum ≤ 8) (d : Dc cc pc (.invokespecial index) 3 nx) (k : Vv p l e R s m args below meth c Q Γ nL cells slots ad cn S nx lv rest) : Vv p l e R s m args below meth c Q Γ nL cells slots ad cn S pc lv (.ref a :: rest) := by
  obtain ⟨d, rfl⟩ := d
  intro H locs ls hP hS hl
  exact W.objInit C.x C.b C.o (C.w hw1) (C.w hw2) (C.w hw3) rfl (by rw [C.n]; exact hl.1) rfl d hR.1 (by show 2 * 0 + _ + 12 ≤ _; have := hR.2; omega) (k H locs ls hP hS hl)
theorem V_mmin {index : Nat} {x y : Int32} (C : Cx p s m args meth c Γ cc nL own) (hw1 : Jvm.Cond.methodLink own index Lib.Math.min.name ∈ oWS) (hw2 : Jvm.Cond.static Lib.Math.min.name ∈ oWS) (hw3 : Jvm.Cond.initialized "java/lang/Math" ∈ oWS) (hw4 : Jvm.Cond.code Lib.Math.min.name Lib.Math.min.code 2 (some .int) ∈ oWS) (hR : 1 ≤ R.frames ∧ 40 ≤ R.locals) (hrest : (rest.map fun v => v.category).sum ≤ 8) (hcs : cells ≤ R.cells ∧ slots ≤ R.slots) (d : Dc cc pc (.invokestatic index) 3 nx) (k : Vv p l e R s m args below meth c Q Γ nL cells slots ad cn S nx lv (.int (if y < x then y else x) :: rest)) : Vv p l e R s m args below meth c Q Γ nL cells slots ad cn S pc lv (.int y :: .int x :: rest) := by
  obtain ⟨d, rfl⟩ := d
  intro H locs ls hP hS hl
  exact va_mmin C.x C.b (by rw [C.n]; exact hl.1.symm) C.o (C.w hw1) (C.w hw2) (C.w hw3) (C.w hw4) hR.1 (by have := hR.2; omega) hcs.1 hcs.2 d (k H locs ls hP hS hl)
theorem V_mminl {index : Nat} {x y : Int64} (C : Cx p s m args meth c Γ cc nL own) (hw1 : Jvm.Cond.methodLink own index Lib.MathLoose.min_long.x ∈ oWS) (hw2 : Jvm.Cond.static Lib.MathLoose.min_long.x ∈ oWS) (hw3 : Jvm.Cond.initialized "java/lang/Math" ∈ oWS) (hw4 : Jvm.Cond.code Lib.MathLoose.min_long.x Lib.MathLoose.min_long.code 4 (some .long) ∈ oWS) (hR : 1 ≤ R.frames ∧ 40 ≤ R.locals) (hrest : (rest.map fun v => v.category).sum ≤ 8) (hcs : cells ≤ R.cells ∧ slots ≤ R.slots) (d : Dc cc pc (.invokestatic index) 3 nx) (k : Vv p l e R s m args below meth c Q Γ nL cells slots ad cn S nx lv (.long (if y < x then y else x) :: rest)) : Vv p l e R s m args below meth c Q Γ nL cells slots ad cn S pc lv (.long y :: .long x :: rest) := by
  obtain ⟨d, rfl⟩ := d
  intro H locs ls hP hS hl
  exact va_mmin_long C.x C.b (by rw [C.n]; exact hl.1.symm) C.o (C.w hw1) (C.w hw2) (C.w hw3) (C.w hw4) hR.1 (by have := hR.2; omega) hcs.1 hcs.2 d (k H locs ls hP hS hl)
end OV2
section OV3
variable {p : Program} {l : Launch} {e : Env} {R : Room} {s : State} {m : MethodId} {args : Array Value} {below : List Frame} {meth : Method} {c : Code} {Q : State → Prop} {Γ : oGm} {nL cells slots : Nat} {ad : oAd} {cn : Nat → Nat} {S : oSt} {cc : ByteArray} {own : String} {pc nx : Nat} {lv : List (Nat × Value)} {rest : List Value}
theorem ogood {xs : List Jvm.Cond} (h : ∀ w ∈ xs, w ∈ oWS) : GoodIn oWS xs := fun w hw => ⟨h w hw, oWS_good w (h w hw)⟩
def oD (y : MethodName) (n : Nat) : Prop := y.cls ≠ "java/lang/invoke/MethodHandle" ∧ y.cls ≠ "java/lang/invoke/VarHandle" ∧ (parseMethodDescriptor y.desc).map (fun d => d.parameters.length) = some n
def Ks (own : String) (index : Nat) (y : MethodName) (bytes : ByteArray) (maxL : Nat) (ret : Option FieldType) (n : Nat) : Prop := Jvm.Cond.methodLink own index y ∈ oWS ∧ Jvm.Cond.static y ∈ oWS ∧ Jvm.Cond.initialized y.cls ∈ oWS ∧ Jvm.Cond.code y bytes maxL ret ∈ oWS ∧ oD y n
def Kv (own : String) (index ci : Nat) (y : MethodName) (bytes : ByteArray) (maxL : Nat) (ret : Option FieldType) (n : Nat) : Prop := Jvm.Cond.methodLink own index y ∈ oWS ∧ Jvm.Cond.instanceMethod y ∈ oWS ∧ Jvm.Cond.selects y.cls y y ∈ oWS ∧ Jvm.Cond.initialized y.cls ∈ oWS ∧ Jvm.Cond.code y bytes maxL ret ∈ oWS ∧ oD y n ∧ ∃ (T : u_T) (N : Nat), vwCl[ci]? = some (y.cls, T, N)
def Ki (own : String) (index : Nat) (y : MethodName) (bytes : ByteArray) (maxL : Nat) (n : Nat) : Prop := Jvm.Cond.methodLink own index y ∈ oWS ∧ Jvm.Cond.instanceMethod y ∈ oWS ∧ Jvm.Cond.initialized y.cls ∈ oWS ∧ Jvm.Cond.code y bytes maxL none ∈ oWS ∧ oD y n ∧ y.name = "<init>"
def Kvn (own : String) (index ci : Nat) (host : String) (y : MethodName) (bytes : ByteArray) (maxL : Nat) (ret : Option FieldType) (n : Nat) : Prop := Jvm.Cond.methodLinkNest own index y host ∈ oNW ∧ Jvm.Cond.instanceMethod y ∈ oWS ∧ Jvm.Cond.selects y.cls y y ∈ oWS ∧ Jvm.Cond.initialized y.cls ∈ oWS ∧ Jvm.Cond.code y bytes maxL ret ∈ oWS ∧ oD y n ∧ ∃ (T : u_T) (N : Nat), vwCl[ci]? = some (y.cls, T, N)
def Ksn (own : String) (index : Nat) (host : String) (y : MethodName) (bytes : ByteArray) (maxL : Nat) (ret : Option FieldType) (n : Nat) : Prop := Jvm.Cond.methodLinkNest own index y host ∈ oNW ∧ Jvm.Cond.static y ∈ oWS ∧ Jvm.Cond.initialized y.cls ∈ oWS ∧ Jvm.Cond.code y bytes maxL ret ∈ oWS ∧ oD y n
def Kin (own : String) (index : Nat) (host : String) (y : MethodName) (bytes : ByteArray) (maxL : Nat) (n : Nat) : Prop := Jvm.Cond.methodLinkNest own index y host ∈ oNW ∧ Jvm.Cond.instanceMethod y ∈ oWS ∧ Jvm.Cond.initialized y.cls ∈ oWS ∧ Jvm.Cond.code y bytes maxL none ∈ oWS ∧ oD y n ∧ y.name = "<init>"
theorem oC_in {y : MethodName} {bytes : ByteArray} {maxL : Nat} {ret : Option FieldType} (h : Jvm.Cond.code y bytes maxL ret ∈ oWS) : GoodIn oWS (Jvm.Cond.code y bytes maxL ret :: oWS) := by
  refine ogood ?_
  intro w hw
  rcases List.mem_cons.mp hw with h1 | h1
  · subst h1; exact h
  · exact h1
theorem oS_in {own : String} {index : Nat} {y : MethodName} {bytes : ByteArray} {maxL n : Nat} {ret : Option FieldType} (K : Ks own index y bytes maxL ret n) : GoodIn oWS (va_wsS own index y (Jvm.Cond.code y bytes maxL ret :: oWS)) := by
  refine ogood ?_
  intro w hw
  rcases List.mem_append.mp hw with h1 | h1
  · simp only [List.mem_cons, List.not_mem_nil, or_false] at h1
    rcases h1 with h1 | h1 | h1 <;> subst h1
    · exact K.1
    · exact K.2.1
    · exact K.2.2.1
  · exact (oC_in K.2.2.2.1 w h1).1
theorem oV_in {own : String} {index ci : Nat} {y : MethodName} {bytes : ByteArray} {maxL n : Nat} {ret : Option FieldType} (K : Kv own index ci y bytes maxL ret n) : GoodIn oWS (wsV own index y.cls y (Jvm.Cond.code y bytes maxL ret :: oWS)) := by
  refine ogood ?_
  intro w hw
  rcases List.mem_append.mp hw with h1 | h1
  · simp only [List.mem_cons, List.not_mem_nil, or_false] at h1
    rcases h1 with h1 | h1 | h1 | h1 <;> subst h1
    · exact K.1
    · exact K.2.1
    · exact K.2.2.1
    · exact K.2.2.2.1
  · exact (oC_in K.2.2.2.2.1 w h1).1
theorem V_cS {ρ : Type} {val : ρ → Option Value} {post : ρ → oSt → Prop} {y : MethodName} {bytes : ByteArray} {maxL n index : Nat} {ret : Option FieldType} {rm : Room} {As st0 : List Value}  (C : Cx p s m args meth c Γ cc nL own) (K : Ks own index y bytes maxL ret n)  (hM : Met l y (.code y bytes maxL ret :: oWS) rm (va_Pc As (oW Γ ad cn S)) (oQ Γ ad cn val post) 0 0 (oF Γ)) (hrm : rm.cells = 0 ∧ rm.slots = 0) (hR : rm.frames + 1 ≤ R.frames ∧ 8 + (maxL + 11) + rm.locals ≤ R.locals) (hcs : cells ≤ R.cells ∧ slots ≤ R.slots) (hn : As.length = n) (hst : As.reverse ++ rest = st0) (hrest : (rest.map fun v => v.category).sum ≤ 8) (d : Dc cc pc (.invokestatic index) 3 nx)
    (kk : ∀ (r : ρ) (S1 : oSt), post r S1 → Vv p l e R s m args below meth c Q Γ nL cells slots ad cn S1 nx lv ((val r).toList ++ rest)) : Vv p l e R s m args below meth c Q Γ nL cells slots ad cn S pc lv st0 := by
  exact V_runW (fun H locs ls hP hS hl => va_runS C.1 hM (va_cwS n C.1.2.2.2.2 (oS_in K) rfl hrm.1 hrm.2 K.2.2.2.2 hR) (opre C hP hS) rfl hn hl.1 hst.symm (lv_room hrest) d.1 hcs) d.2 kk
theorem V_cSn {ρ : Type} {mc ms : Nat} {val : oAd → ρ → Option Value} {post : ρ → (Nat → Nat) → oSt → Prop} {y : MethodName} {bytes : ByteArray} {maxL n index : Nat} {ret : Option FieldType} {rm : Room} {As st0 : List Value}  (C : Cx p s m args meth c Γ cc nL own) (lvf : oAd → List (Nat × Value)) (restf : oAd → List Value) (hlv : lvf ad = lv) (hre : restf ad = rest) (hl2 : ∀ ad2, oX cn ad ad2 → lvf ad2 = lvf ad ∧ restf ad2 = restf ad) (K : Ks own index y bytes maxL ret n)  (hM : Met l y (.code y bytes maxL ret :: oWS) rm (va_Pc As (oW Γ ad cn S)) (oQn Γ ad cn val post) mc ms (oF Γ)) (hrm : rm.cells = mc ∧ rm.slots = ms) (hR : rm.frames + 1 ≤ R.frames ∧ 8 + (maxL + 11) + rm.locals ≤ R.locals) (hcs : cells + mc ≤ R.cells ∧ slots + ms ≤ R.slots) (hn : As.length = n) (hst : As.reverse ++ rest = st0) (hrest : (rest.map fun v => v.category).sum ≤ 8) (d : Dc cc pc (.invokestatic index) 3 nx)
    (kk : ∀ (r : ρ) (ad2 : oAd) (cn2 : Nat → Nat) (S1 : oSt), oX cn ad ad2 → (∀ k, cn k ≤ cn2 k) → post r cn2 S1 → Vv p l e R s m args below meth c Q Γ nL (cells + mc) (slots + ms) ad2 cn2 S1 nx (lvf ad2) ((val ad2 r).toList ++ restf ad2)) : Vv p l e R s m args below meth c Q Γ nL cells slots ad cn S pc lv st0 := by
  exact V_runWn lvf restf hlv hre hl2 (fun H locs ls hP hS hl => va_runS C.1 hM (va_cwS n C.1.2.2.2.2 (oS_in K) rfl hrm.1 hrm.2 K.2.2.2.2 hR) (opre C hP hS) rfl hn hl.1 hst.symm (lv_room hrest) d.1 hcs) d.2 kk
theorem V_cV {ρ : Type} {val : ρ → Option Value} {post : ρ → oSt → Prop} {y : MethodName} {bytes : ByteArray} {maxL n index : Nat} {ret : Option FieldType} {rm : Room} {As st0 : List Value} {k i ci : Nat} {fs : List Value} (C : Cx p s m args meth c Γ cc nL own) (K : Kv own index ci y bytes maxL ret n) (hk : i < cn k) (hsh : osh Γ.2.1 k (S.1 k i) (S.2.1 k i) (ores ad k (S.2.2 k i)) = .inr (ci, fs)) (hM : Met l y (.code y bytes maxL ret :: oWS) rm (va_Pc (.ref (ad k i) :: As) (oW Γ ad cn S)) (oQ Γ ad cn val post) 0 0 (oF Γ)) (hrm : rm.cells = 0 ∧ rm.slots = 0) (hR : rm.frames + 1 ≤ R.frames ∧ 8 + (maxL + 11) + rm.locals ≤ R.locals) (hcs : cells ≤ R.cells ∧ slots ≤ R.slots) (hn : As.length = n) (hst : As.reverse ++ .ref (ad k i) :: rest = st0) (hrest : (rest.map fun v => v.category).sum ≤ 8) (d : Dc cc pc (.invokevirtual index) 3 nx)
    (kk : ∀ (r : ρ) (S1 : oSt), post r S1 → Vv p l e R s m args below meth c Q Γ nL cells slots ad cn S1 nx lv ((val r).toList ++ rest)) : Vv p l e R s m args below meth c Q Γ nL cells slots ad cn S pc lv st0 := by
  exact V_runW (fun H locs ls hP hS hl => va_runV (C := y.cls) C.1 hM (cwV n C.1.2.2.2.2 (oV_in K) rfl hrm.1 hrm.2 ⟨rfl, K.2.2.2.2.2.1⟩ hR) (by obtain ⟨T, N, hc⟩ := K.2.2.2.2.2.2; exact oprev C hk hsh hc hP hS) rfl hn hl.1 hst.symm (lv_room hrest) d.1 hcs) d.2 kk
theorem V_cVn {ρ : Type} {mc ms : Nat} {val : oAd → ρ → Option Value} {post : ρ → (Nat → Nat) → oSt → Prop} {y : MethodName} {bytes : ByteArray} {maxL n index : Nat} {ret : Option FieldType} {rm : Room} {As st0 : List Value} {k i ci : Nat} {fs : List Value} (C : Cx p s m args meth c Γ cc nL own) (lvf : oAd → List (Nat × Value)) (restf : oAd → List Value) (hlv : lvf ad = lv) (hre : restf ad = rest) (hl2 : ∀ ad2, oX cn ad ad2 → lvf ad2 = lvf ad ∧ restf ad2 = restf ad) (K : Kv own index ci y bytes maxL ret n) (hk : i < cn k) (hsh : osh Γ.2.1 k (S.1 k i) (S.2.1 k i) (ores ad k (S.2.2 k i)) = .inr (ci, fs)) (hM : Met l y (.code y bytes maxL ret :: oWS) rm (va_Pc (.ref (ad k i) :: As) (oW Γ ad cn S)) (oQn Γ ad cn val post) mc ms (oF Γ)) (hrm : rm.cells = mc ∧ rm.slots = ms) (hR : rm.frames + 1 ≤ R.frames ∧ 8 + (maxL + 11) + rm.locals ≤ R.locals) (hcs : cells + mc ≤ R.cells ∧ slots + ms ≤ R.slots) (hn : As.length = n) (hst : As.reverse ++ .ref (ad k i) :: rest = st0) (hrest : (rest.map fun v => v.category).sum ≤ 8) (d : Dc cc pc (.invokevirtual index) 3 nx)
    (kk : ∀ (r : ρ) (ad2 : oAd) (cn2 : Nat → Nat) (S1 : oSt), oX cn ad ad2 → (∀ k, cn k ≤ cn2 k) → post r cn2 S1 → Vv p l e R s m args below meth c Q Γ nL (cells + mc) (slots + ms) ad2 cn2 S1 nx (lvf ad2) ((val ad2 r).toList ++ restf ad2)) : Vv p l e R s m args below meth c Q Γ nL cells slots ad cn S pc lv st0 := by
  exact V_runWn lvf restf hlv hre hl2 (fun H locs ls hP hS hl => va_runV (C := y.cls) C.1 hM (cwV n C.1.2.2.2.2 (oV_in K) rfl hrm.1 hrm.2 ⟨rfl, K.2.2.2.2.2.1⟩ hR) (by obtain ⟨T, N, hc⟩ := K.2.2.2.2.2.2; exact oprev C hk hsh hc hP hS) rfl hn hl.1 hst.symm (lv_room hrest) d.1 hcs) d.2 kk
theorem V_cI {ρ : Type} {val : ρ → Option Value} {post : ρ → oSt → Prop} {y : MethodName} {bytes : ByteArray} {maxL n index : Nat} {ret : Option FieldType} {rm : Room} {As st0 : List Value} {b : Nat} (C : Cx p s m args meth c Γ cc nL own) (K : Ki own index y bytes maxL n)  (hM : Met l y (.code y bytes maxL none :: oWS) rm (va_Pc (.ref b :: As) (oW Γ ad cn S)) (oQ Γ ad cn val post) 0 0 (oF Γ)) (hrm : rm.cells = 0 ∧ rm.slots = 0) (hR : rm.frames + 1 ≤ R.frames ∧ 8 + (maxL + 11) + rm.locals ≤ R.locals) (hcs : cells ≤ R.cells ∧ slots ≤ R.slots) (hn : As.length = n) (hst : As.reverse ++ .ref b :: rest = st0) (hrest : (rest.map fun v => v.category).sum ≤ 8) (d : Dc cc pc (.invokespecial index) 3 nx)
    (kk : ∀ (r : ρ) (S1 : oSt), post r S1 → Vv p l e R s m args below meth c Q Γ nL cells slots ad cn S1 nx lv ((val r).toList ++ rest)) : Vv p l e R s m args below meth c Q Γ nL cells slots ad cn S pc lv st0 := by
  exact V_runW (fun H locs ls hP hS hl => va_runI C.1 hM (cwI n C.1.2.2.2.2 (oC_in K.2.2.2.1) rfl hrm.1 hrm.2 (C.w K.2.2.1) (C.w K.1) (C.w K.2.1) K.2.2.2.2.2 K.2.2.2.2.1 hR) (opre C hP hS) rfl hn hl.1 hst.symm (lv_room hrest) d.1 hcs) d.2 kk
theorem V_cIn {ρ : Type} {mc ms : Nat} {val : oAd → ρ → Option Value} {post : ρ → (Nat → Nat) → oSt → Prop} {y : MethodName} {bytes : ByteArray} {maxL n index : Nat} {ret : Option FieldType} {rm : Room} {As st0 : List Value} {b : Nat} (C : Cx p s m args meth c Γ cc nL own) (lvf : oAd → List (Nat × Value)) (restf : oAd → List Value) (hlv : lvf ad = lv) (hre : restf ad = rest) (hl2 : ∀ ad2, oX cn ad ad2 → lvf ad2 = lvf ad ∧ restf ad2 = restf ad) (K : Ki own index y bytes maxL n)  (hM : Met l y (.code y bytes maxL none :: oWS) rm (va_Pc (.ref b :: As) (oW Γ ad cn S)) (oQn Γ ad cn val post) mc ms (oF Γ)) (hrm : rm.cells = mc ∧ rm.slots = ms) (hR : rm.frames + 1 ≤ R.frames ∧ 8 + (maxL + 11) + rm.locals ≤ R.locals) (hcs : cells + mc ≤ R.cells ∧ slots + ms ≤ R.slots) (hn : As.length = n) (hst : As.reverse ++ .ref b :: rest = st0) (hrest : (rest.map fun v => v.category).sum ≤ 8) (d : Dc cc pc (.invokespecial index) 3 nx)
    (kk : ∀ (r : ρ) (ad2 : oAd) (cn2 : Nat → Nat) (S1 : oSt), oX cn ad ad2 → (∀ k, cn k ≤ cn2 k) → post r cn2 S1 → Vv p l e R s m args below meth c Q Γ nL (cells + mc) (slots + ms) ad2 cn2 S1 nx (lvf ad2) ((val ad2 r).toList ++ restf ad2)) : Vv p l e R s m args below meth c Q Γ nL cells slots ad cn S pc lv st0 := by
  exact V_runWn lvf restf hlv hre hl2 (fun H locs ls hP hS hl => va_runI C.1 hM (cwI n C.1.2.2.2.2 (oC_in K.2.2.2.1) rfl hrm.1 hrm.2 (C.w K.2.2.1) (C.w K.1) (C.w K.2.1) K.2.2.2.2.2 K.2.2.2.2.1 hR) (opre C hP hS) rfl hn hl.1 hst.symm (lv_room hrest) d.1 hcs) d.2 kk
theorem V_cVN {ρ : Type} {val : ρ → Option Value} {post : ρ → oSt → Prop} {y : MethodName} {bytes : ByteArray} {maxL n index : Nat} {ret : Option FieldType} {rm : Room} {As st0 : List Value} {k i ci : Nat} {host : String} {fs : List Value} (C : Cx p s m args meth c Γ cc nL own) (K : Kvn own index ci host y bytes maxL ret n) (hk : i < cn k) (hsh : osh Γ.2.1 k (S.1 k i) (S.2.1 k i) (ores ad k (S.2.2 k i)) = .inr (ci, fs)) (hM : Met l y (.code y bytes maxL ret :: oWS) rm (va_Pc (.ref (ad k i) :: As) (oW Γ ad cn S)) (oQ Γ ad cn val post) 0 0 (oF Γ)) (hrm : rm.cells = 0 ∧ rm.slots = 0) (hR : rm.frames + 1 ≤ R.frames ∧ 8 + (maxL + 11) + rm.locals ≤ R.locals) (hcs : cells ≤ R.cells ∧ slots ≤ R.slots) (hn : As.length = n) (hst : As.reverse ++ .ref (ad k i) :: rest = st0) (hrest : (rest.map fun v => v.category).sum ≤ 8) (d : Dc cc pc (.invokevirtual index) 3 nx)
    (kk : ∀ (r : ρ) (S1 : oSt), post r S1 → Vv p l e R s m args below meth c Q Γ nL cells slots ad cn S1 nx lv ((val r).toList ++ rest)) : Vv p l e R s m args below meth c Q Γ nL cells slots ad cn S pc lv st0 := by
  exact V_runW (fun H locs ls hP hS hl => va_runVN (C := y.cls) C.1 hM ⟨va_cnB n C.1.2.2.2.2 (oC_in K.2.2.2.2.1) rfl hrm.1 hrm.2 (C.nw K.1) (C.w K.2.2.2.1) K.2.2.2.2.2.1 hR, C.w K.2.1, C.w K.2.2.1⟩ (by obtain ⟨T, N, hc⟩ := K.2.2.2.2.2.2; exact oprev C hk hsh hc hP hS) rfl hn hl.1 hst.symm (lv_room hrest) d.1 hcs) d.2 kk
theorem V_cVNn {ρ : Type} {mc ms : Nat} {val : oAd → ρ → Option Value} {post : ρ → (Nat → Nat) → oSt → Prop} {y : MethodName} {bytes : ByteArray} {maxL n index : Nat} {ret : Option FieldType} {rm : Room} {As st0 : List Value} {k i ci : Nat} {host : String} {fs : List Value} (C : Cx p s m args meth c Γ cc nL own) (lvf : oAd → List (Nat × Value)) (restf : oAd → List Value) (hlv : lvf ad = lv) (hre : restf ad = rest) (hl2 : ∀ ad2, oX cn ad ad2 → lvf ad2 = lvf ad ∧ restf ad2 = restf ad) (K : Kvn own index ci host y bytes maxL ret n) (hk : i < cn k) (hsh : osh Γ.2.1 k (S.1 k i) (S.2.1 k i) (ores ad k (S.2.2 k i)) = .inr (ci, fs)) (hM : Met l y (.code y bytes maxL ret :: oWS) rm (va_Pc (.ref (ad k i) :: As) (oW Γ ad cn S)) (oQn Γ ad cn val post) mc ms (oF Γ)) (hrm : rm.cells = mc ∧ rm.slots = ms) (hR : rm.frames + 1 ≤ R.frames ∧ 8 + (maxL + 11) + rm.locals ≤ R.locals) (hcs : cells + mc ≤ R.cells ∧ slots + ms ≤ R.slots) (hn : As.length = n) (hst : As.reverse ++ .ref (ad k i) :: rest = st0) (hrest : (rest.map fun v => v.category).sum ≤ 8) (d : Dc cc pc (.invokevirtual index) 3 nx)
    (kk : ∀ (r : ρ) (ad2 : oAd) (cn2 : Nat → Nat) (S1 : oSt), oX cn ad ad2 → (∀ k, cn k ≤ cn2 k) → post r cn2 S1 → Vv p l e R s m args below meth c Q Γ nL (cells + mc) (slots + ms) ad2 cn2 S1 nx (lvf ad2) ((val ad2 r).toList ++ restf ad2)) : Vv p l e R s m args below meth c Q Γ nL cells slots ad cn S pc lv st0 := by
  exact V_runWn lvf restf hlv hre hl2 (fun H locs ls hP hS hl => va_runVN (C := y.cls) C.1 hM ⟨va_cnB n C.1.2.2.2.2 (oC_in K.2.2.2.2.1) rfl hrm.1 hrm.2 (C.nw K.1) (C.w K.2.2.2.1) K.2.2.2.2.2.1 hR, C.w K.2.1, C.w K.2.2.1⟩ (by obtain ⟨T, N, hc⟩ := K.2.2.2.2.2.2; exact oprev C hk hsh hc hP hS) rfl hn hl.1 hst.symm (lv_room hrest) d.1 hcs) d.2 kk
theorem V_cSN {ρ : Type} {val : ρ → Option Value} {post : ρ → oSt → Prop} {y : MethodName} {bytes : ByteArray} {maxL n index : Nat} {ret : Option FieldType} {rm : Room} {As st0 : List Value} {host : String} (C : Cx p s m args meth c Γ cc nL own) (K : Ksn own index host y bytes maxL ret n)  (hM : Met l y (.code y bytes maxL ret :: oWS) rm (va_Pc As (oW Γ ad cn S)) (oQ Γ ad cn val post) 0 0 (oF Γ)) (hrm : rm.cells = 0 ∧ rm.slots = 0) (hR : rm.frames + 1 ≤ R.frames ∧ 8 + (maxL + 11) + rm.locals ≤ R.locals) (hcs : cells ≤ R.cells ∧ slots ≤ R.slots) (hn : As.length = n) (hst : As.reverse ++ rest = st0) (hrest : (rest.map fun v => v.category).sum ≤ 8) (d : Dc cc pc (.invokestatic index) 3 nx)
    (kk : ∀ (r : ρ) (S1 : oSt), post r S1 → Vv p l e R s m args below meth c Q Γ nL cells slots ad cn S1 nx lv ((val r).toList ++ rest)) : Vv p l e R s m args below meth c Q Γ nL cells slots ad cn S pc lv st0 := by
  exact V_runW (fun H locs ls hP hS hl => va_runSN C.1 hM ⟨va_cnB n C.1.2.2.2.2 (oC_in K.2.2.2.1) rfl hrm.1 hrm.2 (C.nw K.1) (C.w K.2.2.1) K.2.2.2.2 hR, C.w K.2.1, trivial⟩ (opre C hP hS) rfl hn hl.1 hst.symm (lv_room hrest) d.1 hcs) d.2 kk
theorem V_cSNn {ρ : Type} {mc ms : Nat} {val : oAd → ρ → Option Value} {post : ρ → (Nat → Nat) → oSt → Prop} {y : MethodName} {bytes : ByteArray} {maxL n index : Nat} {ret : Option FieldType} {rm : Room} {As st0 : List Value} {host : String} (C : Cx p s m args meth c Γ cc nL own) (lvf : oAd → List (Nat × Value)) (restf : oAd → List Value) (hlv : lvf ad = lv) (hre : restf ad = rest) (hl2 : ∀ ad2, oX cn ad ad2 → lvf ad2 = lvf ad ∧ restf ad2 = restf ad) (K : Ksn own index host y bytes maxL ret n)  (hM : Met l y (.code y bytes maxL ret :: oWS) rm (va_Pc As (oW Γ ad cn S)) (oQn Γ ad cn val post) mc ms (oF Γ)) (hrm : rm.cells = mc ∧ rm.slots = ms) (hR : rm.frames + 1 ≤ R.frames ∧ 8 + (maxL + 11) + rm.locals ≤ R.locals) (hcs : cells + mc ≤ R.cells ∧ slots + ms ≤ R.slots) (hn : As.length = n) (hst : As.reverse ++ rest = st0) (hrest : (rest.map fun v => v.category).sum ≤ 8) (d : Dc cc pc (.invokestatic index) 3 nx)
    (kk : ∀ (r : ρ) (ad2 : oAd) (cn2 : Nat → Nat) (S1 : oSt), oX cn ad ad2 → (∀ k, cn k ≤ cn2 k) → post r cn2 S1 → Vv p l e R s m args below meth c Q Γ nL (cells + mc) (slots + ms) ad2 cn2 S1 nx (lvf ad2) ((val ad2 r).toList ++ restf ad2)) : Vv p l e R s m args below meth c Q Γ nL cells slots ad cn S pc lv st0 := by
  exact V_runWn lvf restf hlv hre hl2 (fun H locs ls hP hS hl => va_runSN C.1 hM ⟨va_cnB n C.1.2.2.2.2 (oC_in K.2.2.2.1) rfl hrm.1 hrm.2 (C.nw K.1) (C.w K.2.2.1) K.2.2.2.2 hR, C.w K.2.1, trivial⟩ (opre C hP hS) rfl hn hl.1 hst.symm (lv_room hrest) d.1 hcs) d.2 kk
theorem V_cIN {ρ : Type} {val : ρ → Option Value} {post : ρ → oSt → Prop} {y : MethodName} {bytes : ByteArray} {maxL n index : Nat} {ret : Option FieldType} {rm : Room} {As st0 : List Value} {b : Nat} {host : String} (C : Cx p s m args meth c Γ cc nL own) (K : Kin own index host y bytes maxL n)  (hM : Met l y (.code y bytes maxL none :: oWS) rm (va_Pc (.ref b :: As) (oW Γ ad cn S)) (oQ Γ ad cn val post) 0 0 (oF Γ)) (hrm : rm.cells = 0 ∧ rm.slots = 0) (hR : rm.frames + 1 ≤ R.frames ∧ 8 + (maxL + 11) + rm.locals ≤ R.locals) (hcs : cells ≤ R.cells ∧ slots ≤ R.slots) (hn : As.length = n) (hst : As.reverse ++ .ref b :: rest = st0) (hrest : (rest.map fun v => v.category).sum ≤ 8) (d : Dc cc pc (.invokespecial index) 3 nx)
    (kk : ∀ (r : ρ) (S1 : oSt), post r S1 → Vv p l e R s m args below meth c Q Γ nL cells slots ad cn S1 nx lv ((val r).toList ++ rest)) : Vv p l e R s m args below meth c Q Γ nL cells slots ad cn S pc lv st0 := by
  exact V_runW (fun H locs ls hP hS hl => va_runIN C.1 hM ⟨va_cnB n C.1.2.2.2.2 (oC_in K.2.2.2.1) rfl hrm.1 hrm.2 (C.nw K.1) (C.w K.2.2.1) K.2.2.2.2.1 hR, K.2.2.2.2.2, C.w K.2.1⟩ (opre C hP hS) rfl hn hl.1 hst.symm (lv_room hrest) d.1 hcs) d.2 kk
theorem V_cINn {ρ : Type} {mc ms : Nat} {val : oAd → ρ → Option Value} {post : ρ → (Nat → Nat) → oSt → Prop} {y : MethodName} {bytes : ByteArray} {maxL n index : Nat} {ret : Option FieldType} {rm : Room} {As st0 : List Value} {b : Nat} {host : String} (C : Cx p s m args meth c Γ cc nL own) (lvf : oAd → List (Nat × Value)) (restf : oAd → List Value) (hlv : lvf ad = lv) (hre : restf ad = rest) (hl2 : ∀ ad2, oX cn ad ad2 → lvf ad2 = lvf ad ∧ restf ad2 = restf ad) (K : Kin own index host y bytes maxL n)  (hM : Met l y (.code y bytes maxL none :: oWS) rm (va_Pc (.ref b :: As) (oW Γ ad cn S)) (oQn Γ ad cn val post) mc ms (oF Γ)) (hrm : rm.cells = mc ∧ rm.slots = ms) (hR : rm.frames + 1 ≤ R.frames ∧ 8 + (maxL + 11) + rm.locals ≤ R.locals) (hcs : cells + mc ≤ R.cells ∧ slots + ms ≤ R.slots) (hn : As.length = n) (hst : As.reverse ++ .ref b :: rest = st0) (hrest : (rest.map fun v => v.category).sum ≤ 8) (d : Dc cc pc (.invokespecial index) 3 nx)
    (kk : ∀ (r : ρ) (ad2 : oAd) (cn2 : Nat → Nat) (S1 : oSt), oX cn ad ad2 → (∀ k, cn k ≤ cn2 k) → post r cn2 S1 → Vv p l e R s m args below meth c Q Γ nL (cells + mc) (slots + ms) ad2 cn2 S1 nx (lvf ad2) ((val ad2 r).toList ++ restf ad2)) : Vv p l e R s m args below meth c Q Γ nL cells slots ad cn S pc lv st0 := by
  exact V_runWn lvf restf hlv hre hl2 (fun H locs ls hP hS hl => va_runIN C.1 hM ⟨va_cnB n C.1.2.2.2.2 (oC_in K.2.2.2.1) rfl hrm.1 hrm.2 (C.nw K.1) (C.w K.2.2.1) K.2.2.2.2.1 hR, K.2.2.2.2.2, C.w K.2.1⟩ (opre C hP hS) rfl hn hl.1 hst.symm (lv_room hrest) d.1 hcs) d.2 kk
end OV3
section OV4
variable {p : Program} {l : Launch} {e : Env} {R : Room} {s : State} {m : MethodId} {args : Array Value} {below : List Frame} {meth : Method} {c : Code} {Q : State → Prop} {Γ : oGm} {nL cells slots : Nat} {ad : oAd} {cn : Nat → Nat} {S : oSt} {cc : ByteArray} {own : String} {pc nx : Nat} {lv : List (Nat × Value)} {rest : List Value}
theorem V_pc {pc2 : Nat} {st : List Value} (h : pc = pc2) (k : Vv p l e R s m args below meth c Q Γ nL cells slots ad cn S pc2 lv st) : Vv p l e R s m args below meth c Q Γ nL cells slots ad cn S pc lv st := by subst h; exact k
theorem V_swt {x : Int32} {dflt hi : Int} {offs : Array Int} {len td : Nat} (C : Cx p s m args meth c Γ cc nL own) (N : Nat) (tgt : Nat → Nat) (hN : N < 2 ^ 31) (hhi : hi + 1 = (N : Int)) (d : decode cc pc = .ok (.tableswitch dflt 0 hi offs, len)) (ht : ∀ n, n < N → ∃ off : Int, offs[n]? = some off ∧ (pc : Int) + off = (tgt n : Int)) (hd : (pc : Int) + dflt = (td : Int))
    (k : ∀ n, n < N → x = nI n → Vv p l e R s m args below meth c Q Γ nL cells slots ad cn S (tgt n) lv rest) (kd : (x < 0 ∨ nI N ≤ x) → Vv p l e R s m args below meth c Q Γ nL cells slots ad cn S td lv rest) : Vv p l e R s m args below meth c Q Γ nL cells slots ad cn S pc lv (.int x :: rest) := by
  by_cases h1 : x < 0
  · exact V_tableOut C d (Or.inl (by have := Int32.lt_iff_toInt_lt.mp h1; simpa using this)) hd (kd (Or.inl h1))
  · by_cases h2 : nI N ≤ x
    · refine V_tableOut C d (Or.inr ?_) hd (kd (Or.inr h2))
      have := Int32.le_iff_toInt_le.mp h2
      rw [nI_toInt hN] at this
      omega
    · obtain ⟨j, hj, rfl⟩ := nI_of h1
      have hjN : j < N := by
        refine Nat.not_le.mp fun q => h2 ?_
        exact nI_le q hj
      obtain ⟨off, ho, ht⟩ := ht j hjN
      have ej : (nI j).toInt = (j : Int) := nI_toInt hj
      refine V_tableIn C d (by rw [ej]; omega) (by rw [ej]; omega) (off := off) ?_ ht (k j hjN rfl)
      rw [ej]
      simpa using ho
theorem o_met {y : MethodName} {maxL : Nat} {ret : Option FieldType} {rm : Room} {av : List Value} {Qc : Array Value → State → Outcome → State → Prop} {mc ms : Nat} (hy : plainName y.cls = true) (ho : y.cls = own) (hsl : (lg_sl av).length ≤ maxL) (hlv : lv_args 0 av = lv)
    (body : ∀ (p : Program) (e : Env) (s : State) (m : MethodId) (args : Array Value) (below : List Frame) (meth : Method) (c : Code), Cx p s m args meth c Γ cc maxL own → meth.sig.returnType = ret → meth.name = y.name → Vv p l e rm s m args below meth c (MQ below Qc args s mc ms (oF Γ)) Γ maxL 0 0 ad cn S 0 lv []) : Met l y (.code y cc maxL ret :: oWS) rm (va_Pc av (oW Γ ad cn S)) Qc mc ms (oF Γ) := by
  refine Met.ofW (cc := cc) (maxL := maxL) (ret := ret) hy rfl ?_
  intro p e s m args below meth c s₁ B hml hv
  obtain ⟨rfl, hP, hK, hz⟩ := hv
  have hts := atoms_spec (ws := .code y cc maxL ret :: oWS) B.pre
  have hown : s.vm.findClass y.cls = some m.cls := findClass_of_methodNamed B.named
  subst ho
  have C : Cx p s m av.toArray meth c Γ cc maxL y.cls := ⟨⟨B.exec, B.bytes, hml, hown, fun w hw => hts w (List.mem_cons_of_mem _ hw)⟩, hK, hz, B.notSynchronized⟩
  have hl := lv_entry av (n := maxL) hsl
  rw [hlv] at hl
  rw [lg_entry_eq]
  exact body p e s m _ below meth c C B.returns (name_of_methodNamed B.named B.method).1 s.heap [] _ hP va_S.rf hl
end OV4
end
