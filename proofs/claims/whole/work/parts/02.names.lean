def T_M : u_T := fun k => match k with
  | 0 => ("ValueConnectorModel", "margin", "I", true)
  | 1 => ("ValueConnectorModel", "hold", "I", true)
  | 2 => ("ValueConnectorModel", "now", "I", false)
  | 3 => ("ValueConnectorModel", "spread", "I", false)
  | 4 => ("ValueConnectorModel", "accounts", "I", false)
  | 5 => ("ValueConnectorModel", "balance", "[J", true)
  | 6 => ("ValueConnectorModel", "minimum", "[I", true)
  | 7 => ("ValueConnectorModel", "limit", "[I", true)
  | 8 => ("ValueConnectorModel", "worth", "[I", true)
  | 9 => ("ValueConnectorModel", "threshold", "[I", true)
  | 10 => ("ValueConnectorModel", "target", "[I", true)
  | 11 => ("ValueConnectorModel", "digits", "[I", true)
  | 12 => ("ValueConnectorModel", "rest", "[J", true)
  | 13 => ("ValueConnectorModel", "capacity", "[I", true)
  | 14 => ("ValueConnectorModel", "flow", "[I", true)
  | 15 => ("ValueConnectorModel", "drops", "[I", true)
  | 16 => ("ValueConnectorModel", "keys", "[I", true)
  | 17 => ("ValueConnectorModel", "keyCount", "[I", true)
  | 18 => ("ValueConnectorModel", "routes", "I", false)
  | 19 => ("ValueConnectorModel", "routeOf", "[I", true)
  | 20 => ("ValueConnectorModel", "routePrefix", "[J", true)
  | 21 => ("ValueConnectorModel", "routeHops", "[I", true)
  | 22 => ("ValueConnectorModel", "transfers", "I", false)
  | 23 => ("ValueConnectorModel", "from", "[I", true)
  | 24 => ("ValueConnectorModel", "to", "[I", true)
  | 25 => ("ValueConnectorModel", "amount", "[I", true)
  | 26 => ("ValueConnectorModel", "outgoing", "[J", true)
  | 27 => ("ValueConnectorModel", "expiry", "[I", true)
  | 28 => ("ValueConnectorModel", "condition", "[J", true)
  | 29 => ("ValueConnectorModel", "state", "[I", true)
  | 30 => ("ValueConnectorModel", "opened", "[J", true)
  | 31 => ("ValueConnectorModel", "settlements", "I", false)
  | _ => ("ValueConnectorModel", "settled", "[J", true)
def ty_M : Nat → FieldType := fun k => match k with
  | 0 => .int
  | 1 => .int
  | 2 => .int
  | 3 => .int
  | 4 => .int
  | 5 => .array .long
  | 6 => .array .int
  | 7 => .array .int
  | 8 => .array .int
  | 9 => .array .int
  | 10 => .array .int
  | 11 => .array .int
  | 12 => .array .long
  | 13 => .array .int
  | 14 => .array .int
  | 15 => .array .int
  | 16 => .array .int
  | 17 => .array .int
  | 18 => .int
  | 19 => .array .int
  | 20 => .array .long
  | 21 => .array .int
  | 22 => .int
  | 23 => .array .int
  | 24 => .array .int
  | 25 => .array .int
  | 26 => .array .long
  | 27 => .array .int
  | 28 => .array .long
  | 29 => .array .int
  | 30 => .array .long
  | 31 => .int
  | _ => .array .long
theorem nm_M : ∀ a, a < 33 → ∀ b, b < 33 → a ≠ b → (T_M a).2.1 ≠ (T_M b).2.1 := by decide +kernel
theorem ok_M : ∀ k, k < 33 → parseFieldDescriptor (T_M k).2.2.1 = some (ty_M k) := by decide +kernel
def T_X : u_T := fun k => match k with
  | 0 => ("ValueConnector", "margin", "I", true)
  | 1 => ("ValueConnector", "hold", "I", true)
  | 2 => ("ValueConnector", "accounts", "[LValueConnector$Account;", true)
  | 3 => ("ValueConnector", "routes", "LValueConnector$RouteTable;", true)
  | 4 => ("ValueConnector", "transfers", "[LValueConnector$Transfer;", true)
  | 5 => ("ValueConnector", "settlements", "[J", true)
  | 6 => ("ValueConnector", "accountCount", "I", false)
  | 7 => ("ValueConnector", "transferCount", "I", false)
  | 8 => ("ValueConnector", "settlementCount", "I", false)
  | 9 => ("ValueConnector", "spread", "I", false)
  | _ => ("ValueConnector", "now", "J", false)
def ty_X : Nat → FieldType := fun k => match k with
  | 0 => .int
  | 1 => .int
  | 2 => .array (.object "ValueConnector$Account")
  | 3 => .object "ValueConnector$RouteTable"
  | 4 => .array (.object "ValueConnector$Transfer")
  | 5 => .array .long
  | 6 => .int
  | 7 => .int
  | 8 => .int
  | 9 => .int
  | _ => .long
theorem nm_X : ∀ a, a < 11 → ∀ b, b < 11 → a ≠ b → (T_X a).2.1 ≠ (T_X b).2.1 := by decide +kernel
theorem ok_X : ∀ k, k < 11 → parseFieldDescriptor (T_X k).2.2.1 = some (ty_X k) := by decide +kernel
def T_R : u_T := fun k => match k with
  | 0 => ("ValueConnector$RouteTable", "owners", "[I", true)
  | 1 => ("ValueConnector$RouteTable", "prefixes", "[J", true)
  | 2 => ("ValueConnector$RouteTable", "distances", "[I", true)
  | _ => ("ValueConnector$RouteTable", "count", "I", false)
def ty_R : Nat → FieldType := fun k => match k with
  | 0 => .array .int
  | 1 => .array .long
  | 2 => .array .int
  | _ => .int
theorem nm_R : ∀ a, a < 4 → ∀ b, b < 4 → a ≠ b → (T_R a).2.1 ≠ (T_R b).2.1 := by decide +kernel
theorem ok_R : ∀ k, k < 4 → parseFieldDescriptor (T_R k).2.2.1 = some (ty_R k) := by decide +kernel
def T_A : u_T := fun k => match k with
  | 0 => ("ValueConnector$Account", "number", "I", true)
  | 1 => ("ValueConnector$Account", "minimum", "I", true)
  | 2 => ("ValueConnector$Account", "limit", "I", true)
  | 3 => ("ValueConnector$Account", "bucket", "LValueConnector$Bucket;", true)
  | 4 => ("ValueConnector$Account", "creditKeys", "LValueConnector$RecentKeys;", true)
  | 5 => ("ValueConnector$Account", "worth", "I", false)
  | 6 => ("ValueConnector$Account", "balance", "J", false)
  | 7 => ("ValueConnector$Account", "threshold", "I", false)
  | 8 => ("ValueConnector$Account", "target", "I", false)
  | 9 => ("ValueConnector$Account", "unit", "I", false)
  | _ => ("ValueConnector$Account", "rest", "J", false)
def ty_A : Nat → FieldType := fun k => match k with
  | 0 => .int
  | 1 => .int
  | 2 => .int
  | 3 => .object "ValueConnector$Bucket"
  | 4 => .object "ValueConnector$RecentKeys"
  | 5 => .int
  | 6 => .long
  | 7 => .int
  | 8 => .int
  | 9 => .int
  | _ => .long
theorem nm_A : ∀ a, a < 11 → ∀ b, b < 11 → a ≠ b → (T_A a).2.1 ≠ (T_A b).2.1 := by decide +kernel
theorem ok_A : ∀ k, k < 11 → parseFieldDescriptor (T_A k).2.2.1 = some (ty_A k) := by decide +kernel
def T_B : u_T := fun k => match k with
  | 0 => ("ValueConnector$Bucket", "most", "I", false)
  | 1 => ("ValueConnector$Bucket", "flow", "I", false)
  | _ => ("ValueConnector$Bucket", "drops", "I", false)
def ty_B : Nat → FieldType := fun k => match k with
  | 0 => .int
  | 1 => .int
  | _ => .int
theorem nm_B : ∀ a, a < 3 → ∀ b, b < 3 → a ≠ b → (T_B a).2.1 ≠ (T_B b).2.1 := by decide +kernel
theorem ok_B : ∀ k, k < 3 → parseFieldDescriptor (T_B k).2.2.1 = some (ty_B k) := by decide +kernel
def T_K : u_T := fun k => match k with
  | 0 => ("ValueConnector$RecentKeys", "keys", "[I", true)
  | 1 => ("ValueConnector$RecentKeys", "count", "I", false)
  | _ => ("ValueConnector$RecentKeys", "oldest", "I", false)
def ty_K : Nat → FieldType := fun k => match k with
  | 0 => .array .int
  | 1 => .int
  | _ => .int
theorem nm_K : ∀ a, a < 3 → ∀ b, b < 3 → a ≠ b → (T_K a).2.1 ≠ (T_K b).2.1 := by decide +kernel
theorem ok_K : ∀ k, k < 3 → parseFieldDescriptor (T_K k).2.2.1 = some (ty_K k) := by decide +kernel
def T_T : u_T := fun k => match k with
  | 0 => ("ValueConnector$Transfer", "payer", "LValueConnector$Account;", true)
  | 1 => ("ValueConnector$Transfer", "payee", "LValueConnector$Account;", true)
  | 2 => ("ValueConnector$Transfer", "amount", "I", true)
  | 3 => ("ValueConnector$Transfer", "outgoingAmount", "J", true)
  | 4 => ("ValueConnector$Transfer", "outgoingExpiry", "J", true)
  | 5 => ("ValueConnector$Transfer", "condition", "J", true)
  | 6 => ("ValueConnector$Transfer", "state", "I", false)
  | _ => ("ValueConnector$Transfer", "key", "J", false)
def ty_T : Nat → FieldType := fun k => match k with
  | 0 => .object "ValueConnector$Account"
  | 1 => .object "ValueConnector$Account"
  | 2 => .int
  | 3 => .long
  | 4 => .long
  | 5 => .long
  | 6 => .int
  | _ => .long
theorem nm_T : ∀ a, a < 8 → ∀ b, b < 8 → a ≠ b → (T_T a).2.1 ≠ (T_T b).2.1 := by decide +kernel
theorem ok_T : ∀ k, k < 8 → parseFieldDescriptor (T_T k).2.2.1 = some (ty_T k) := by decide +kernel
abbrev vwCl : List vw_C := [("ValueConnectorModel", T_M, 33), ("ValueConnector", T_X, 11), ("ValueConnector$RouteTable", T_R, 4), ("ValueConnector$Account", T_A, 11), ("ValueConnector$Bucket", T_B, 3), ("ValueConnector$RecentKeys", T_K, 3), ("ValueConnector$Transfer", T_T, 8)]
def oWS : List Jvm.Cond := lw_tbl.filter goodWord
theorem oWS_good : ∀ w ∈ oWS, (w.onTables && w.keeps) = true ∨ ∃ ty, w = .arrayClass ty := fun w h => good_of_word (List.mem_filter.mp h).2
theorem oin {ws : List Jvm.Cond} (h : ws.all (fun w => decide (w ∈ lw_tbl) && goodWord w) = true) : ∀ w ∈ ws, w ∈ oWS := by
  intro w hw
  have h1 := List.all_eq_true.mp h w hw
  simp only [Bool.and_eq_true, decide_eq_true_eq] at h1
  exact List.mem_filter.mpr h1
theorem oat {w : Jvm.Cond} (i : Nat) (h : lw_tbl[i]? = some w) (g : goodWord w = true) : w ∈ oWS := List.mem_filter.mpr ⟨List.mem_of_getElem? h, g⟩
def oNW : List Jvm.Cond := [(Jvm.Cond.methodLinkNest "ValueConnector" (17 : Nat) ({ cls := "ValueConnector$RouteTable", name := "<init>", desc := "()V" } : Jvm.MethodName) "ValueConnector"), (Jvm.Cond.methodLinkNest "ValueConnector$Account" (20 : Nat) ({ cls := "ValueConnector$RecentKeys", name := "<init>", desc := "()V" } : Jvm.MethodName) "ValueConnector"), (Jvm.Cond.methodLinkNest "ValueConnector$RouteTable" (30 : Nat) ({ cls := "ValueConnector", name := "letterCount", desc := "(J)I" } : Jvm.MethodName) "ValueConnector")]
theorem uw_M : ∀ w ∈ u_ws "ValueConnectorModel" T_M 33, w ∈ oWS := oin (by decide +kernel)
theorem uw_X : ∀ w ∈ u_ws "ValueConnector" T_X 11, w ∈ oWS := oin (by decide +kernel)
theorem uw_R : ∀ w ∈ u_ws "ValueConnector$RouteTable" T_R 4, w ∈ oWS := oin (by decide +kernel)
theorem uw_A : ∀ w ∈ u_ws "ValueConnector$Account" T_A 11, w ∈ oWS := oin (by decide +kernel)
theorem uw_B : ∀ w ∈ u_ws "ValueConnector$Bucket" T_B 3, w ∈ oWS := oin (by decide +kernel)
theorem uw_K : ∀ w ∈ u_ws "ValueConnector$RecentKeys" T_K 3, w ∈ oWS := oin (by decide +kernel)
theorem uw_T : ∀ w ∈ u_ws "ValueConnector$Transfer" T_T 8, w ∈ oWS := oin (by decide +kernel)
abbrev oA_ : String := "ValueConnector$Account"
abbrev oT_ : String := "ValueConnector$Transfer"
def opw (j : Nat) : Int32 := if j = 0 then 1 else if j = 1 then 10 else if j = 2 then 100 else 1000
def oush (x : Int64) (y : Int32) : Int64 := (x.toUInt64 >>> (y.toInt64.toUInt64 &&& Int64.toUInt64 63)).toInt64
def otk (k f : Nat) : Nat :=
  if k = 0 then f else if k = 40 then (if f = 2 then 41 else if f = 3 then 42 else if f = 4 then 43 else 44) else if k = 41 then 48 else if k = 43 then 52 else if k = 42 then (if f = 0 then 45 else if f = 1 then 46 else 47) else if k = 48 then (if f = 3 then 49 else 50) else if k = 50 then 51 else 48
def fl_0 (j : Nat → Int32) (g : Nat → Int64) (r : Nat → Option Nat) : List Value := [.int (j 0), .int (j 1), .int (j 2), .int (j 3), .int (j 4), va_rf (r 5), va_rf (r 6), va_rf (r 7), va_rf (r 8), va_rf (r 9), va_rf (r 10), va_rf (r 11), va_rf (r 12), va_rf (r 13), va_rf (r 14), va_rf (r 15), va_rf (r 16), va_rf (r 17), .int (j 18), va_rf (r 19), va_rf (r 20), va_rf (r 21), .int (j 22), va_rf (r 23), va_rf (r 24), va_rf (r 25), va_rf (r 26), va_rf (r 27), va_rf (r 28), va_rf (r 29), va_rf (r 30), .int (j 31), va_rf (r 32)]
def fl_40 (j : Nat → Int32) (g : Nat → Int64) (r : Nat → Option Nat) : List Value := [.int (j 0), .int (j 1), va_rf (r 2), va_rf (r 3), va_rf (r 4), va_rf (r 5), .int (j 6), .int (j 7), .int (j 8), .int (j 9), .long (g 10)]
def fl_42 (j : Nat → Int32) (g : Nat → Int64) (r : Nat → Option Nat) : List Value := [va_rf (r 0), va_rf (r 1), va_rf (r 2), .int (j 3)]
def fl_48 (j : Nat → Int32) (g : Nat → Int64) (r : Nat → Option Nat) : List Value := [.int (j 0), .int (j 1), .int (j 2), va_rf (r 3), va_rf (r 4), .int (j 5), .long (g 6), .int (j 7), .int (j 8), .int (j 9), .long (g 10)]
def fl_49 (j : Nat → Int32) (g : Nat → Int64) (r : Nat → Option Nat) : List Value := [.int (j 0), .int (j 1), .int (j 2)]
def fl_50 (j : Nat → Int32) (g : Nat → Int64) (r : Nat → Option Nat) : List Value := [va_rf (r 0), .int (j 1), .int (j 2)]
def fl_52 (j : Nat → Int32) (g : Nat → Int64) (r : Nat → Option Nat) : List Value := [va_rf (r 0), va_rf (r 1), .int (j 2), .long (g 3), .long (g 4), .long (g 5), .int (j 6), .long (g 7)]
def osh (ca : Nat → ClassId) (k : Nat) (j : Nat → Int32) (g : Nat → Int64) (r : Nat → Option Nat) : va_E :=
  if k = 0 then .inr (0, fl_0 j g r) else
  if k = 5 then .inl (ca 1, 8, .inr (.inl g)) else
  if k = 6 then .inl (ca 0, 8, .inl j) else
  if k = 7 then .inl (ca 0, 8, .inl j) else
  if k = 8 then .inl (ca 0, 8, .inl j) else
  if k = 9 then .inl (ca 0, 8, .inl j) else
  if k = 10 then .inl (ca 0, 8, .inl j) else
  if k = 11 then .inl (ca 0, 8, .inl j) else
  if k = 12 then .inl (ca 1, 8, .inr (.inl g)) else
  if k = 13 then .inl (ca 0, 8, .inl j) else
  if k = 14 then .inl (ca 0, 8, .inl j) else
  if k = 15 then .inl (ca 0, 8, .inl j) else
  if k = 16 then .inl (ca 0, 64, .inl j) else
  if k = 17 then .inl (ca 0, 8, .inl j) else
  if k = 19 then .inl (ca 0, 40, .inl j) else
  if k = 20 then .inl (ca 1, 40, .inr (.inl g)) else
  if k = 21 then .inl (ca 0, 40, .inl j) else
  if k = 23 then .inl (ca 0, 120, .inl j) else
  if k = 24 then .inl (ca 0, 120, .inl j) else
  if k = 25 then .inl (ca 0, 120, .inl j) else
  if k = 26 then .inl (ca 1, 120, .inr (.inl g)) else
  if k = 27 then .inl (ca 0, 120, .inl j) else
  if k = 28 then .inl (ca 1, 120, .inr (.inl g)) else
  if k = 29 then .inl (ca 0, 120, .inl j) else
  if k = 30 then .inl (ca 1, 120, .inr (.inl g)) else
  if k = 32 then .inl (ca 1, 120, .inr (.inl g)) else
  if k = 40 then .inr (1, fl_40 j g r) else
  if k = 41 then .inl (ca 2, 8, .inr (.inr (.inr (.inr r)))) else
  if k = 42 then .inr (2, fl_42 j g r) else
  if k = 43 then .inl (ca 3, 120, .inr (.inr (.inr (.inr r)))) else
  if k = 44 then .inl (ca 1, 120, .inr (.inl g)) else
  if k = 45 then .inl (ca 0, 40, .inl j) else
  if k = 46 then .inl (ca 1, 40, .inr (.inl g)) else
  if k = 47 then .inl (ca 0, 40, .inl j) else
  if k = 48 then .inr (3, fl_48 j g r) else
  if k = 49 then .inr (4, fl_49 j g r) else
  if k = 50 then .inr (5, fl_50 j g r) else
  if k = 51 then .inl (ca 0, 8, .inl j) else
  if k = 52 then .inr (6, fl_52 j g r) else .inr (0, [])
theorem osh_0 (ca : Nat → ClassId) (j : Nat → Int32) (g : Nat → Int64) (r : Nat → Option Nat) : osh ca 0 j g r = .inr (0, fl_0 j g r) := rfl
theorem fl_0_len (j : Nat → Int32) (g : Nat → Int64) (r : Nat → Option Nat) (n : Nat) (h : n < 33) : n < (fl_0 j g r).length := h
theorem fl_0_0 (j : Nat → Int32) (g : Nat → Int64) (r : Nat → Option Nat) : (fl_0 j g r)[0]? = some (.int (j 0)) := rfl
theorem up_0_0 (ca : Nat → ClassId) (j : Nat → Int32) (g : Nat → Int64) (r : Nat → Option Nat) (v : Int32) : osh ca 0 (upd j 0 v) g r = .inr (0, (fl_0 j g r).set 0 (.int v)) := rfl
theorem fl_0_1 (j : Nat → Int32) (g : Nat → Int64) (r : Nat → Option Nat) : (fl_0 j g r)[1]? = some (.int (j 1)) := rfl
theorem up_0_1 (ca : Nat → ClassId) (j : Nat → Int32) (g : Nat → Int64) (r : Nat → Option Nat) (v : Int32) : osh ca 0 (upd j 1 v) g r = .inr (0, (fl_0 j g r).set 1 (.int v)) := rfl
theorem fl_0_2 (j : Nat → Int32) (g : Nat → Int64) (r : Nat → Option Nat) : (fl_0 j g r)[2]? = some (.int (j 2)) := rfl
theorem up_0_2 (ca : Nat → ClassId) (j : Nat → Int32) (g : Nat → Int64) (r : Nat → Option Nat) (v : Int32) : osh ca 0 (upd j 2 v) g r = .inr (0, (fl_0 j g r).set 2 (.int v)) := rfl
theorem fl_0_3 (j : Nat → Int32) (g : Nat → Int64) (r : Nat → Option Nat) : (fl_0 j g r)[3]? = some (.int (j 3)) := rfl
theorem up_0_3 (ca : Nat → ClassId) (j : Nat → Int32) (g : Nat → Int64) (r : Nat → Option Nat) (v : Int32) : osh ca 0 (upd j 3 v) g r = .inr (0, (fl_0 j g r).set 3 (.int v)) := rfl
theorem fl_0_4 (j : Nat → Int32) (g : Nat → Int64) (r : Nat → Option Nat) : (fl_0 j g r)[4]? = some (.int (j 4)) := rfl
theorem up_0_4 (ca : Nat → ClassId) (j : Nat → Int32) (g : Nat → Int64) (r : Nat → Option Nat) (v : Int32) : osh ca 0 (upd j 4 v) g r = .inr (0, (fl_0 j g r).set 4 (.int v)) := rfl
theorem fl_0_5 (j : Nat → Int32) (g : Nat → Int64) (r : Nat → Option Nat) : (fl_0 j g r)[5]? = some (va_rf (r 5)) := rfl
theorem up_0_5 (ca : Nat → ClassId) (j : Nat → Int32) (g : Nat → Int64) (r : Nat → Option Nat) (a : Nat) : osh ca 0 j g (va_up r 5 (some a)) = .inr (0, (fl_0 j g r).set 5 (.ref a)) := rfl
theorem fl_0_6 (j : Nat → Int32) (g : Nat → Int64) (r : Nat → Option Nat) : (fl_0 j g r)[6]? = some (va_rf (r 6)) := rfl
theorem up_0_6 (ca : Nat → ClassId) (j : Nat → Int32) (g : Nat → Int64) (r : Nat → Option Nat) (a : Nat) : osh ca 0 j g (va_up r 6 (some a)) = .inr (0, (fl_0 j g r).set 6 (.ref a)) := rfl
theorem fl_0_7 (j : Nat → Int32) (g : Nat → Int64) (r : Nat → Option Nat) : (fl_0 j g r)[7]? = some (va_rf (r 7)) := rfl
theorem up_0_7 (ca : Nat → ClassId) (j : Nat → Int32) (g : Nat → Int64) (r : Nat → Option Nat) (a : Nat) : osh ca 0 j g (va_up r 7 (some a)) = .inr (0, (fl_0 j g r).set 7 (.ref a)) := rfl
theorem fl_0_8 (j : Nat → Int32) (g : Nat → Int64) (r : Nat → Option Nat) : (fl_0 j g r)[8]? = some (va_rf (r 8)) := rfl
theorem up_0_8 (ca : Nat → ClassId) (j : Nat → Int32) (g : Nat → Int64) (r : Nat → Option Nat) (a : Nat) : osh ca 0 j g (va_up r 8 (some a)) = .inr (0, (fl_0 j g r).set 8 (.ref a)) := rfl
theorem fl_0_9 (j : Nat → Int32) (g : Nat → Int64) (r : Nat → Option Nat) : (fl_0 j g r)[9]? = some (va_rf (r 9)) := rfl
theorem up_0_9 (ca : Nat → ClassId) (j : Nat → Int32) (g : Nat → Int64) (r : Nat → Option Nat) (a : Nat) : osh ca 0 j g (va_up r 9 (some a)) = .inr (0, (fl_0 j g r).set 9 (.ref a)) := rfl
theorem fl_0_10 (j : Nat → Int32) (g : Nat → Int64) (r : Nat → Option Nat) : (fl_0 j g r)[10]? = some (va_rf (r 10)) := rfl
theorem up_0_10 (ca : Nat → ClassId) (j : Nat → Int32) (g : Nat → Int64) (r : Nat → Option Nat) (a : Nat) : osh ca 0 j g (va_up r 10 (some a)) = .inr (0, (fl_0 j g r).set 10 (.ref a)) := rfl
theorem fl_0_11 (j : Nat → Int32) (g : Nat → Int64) (r : Nat → Option Nat) : (fl_0 j g r)[11]? = some (va_rf (r 11)) := rfl
theorem up_0_11 (ca : Nat → ClassId) (j : Nat → Int32) (g : Nat → Int64) (r : Nat → Option Nat) (a : Nat) : osh ca 0 j g (va_up r 11 (some a)) = .inr (0, (fl_0 j g r).set 11 (.ref a)) := rfl
theorem fl_0_12 (j : Nat → Int32) (g : Nat → Int64) (r : Nat → Option Nat) : (fl_0 j g r)[12]? = some (va_rf (r 12)) := rfl
theorem up_0_12 (ca : Nat → ClassId) (j : Nat → Int32) (g : Nat → Int64) (r : Nat → Option Nat) (a : Nat) : osh ca 0 j g (va_up r 12 (some a)) = .inr (0, (fl_0 j g r).set 12 (.ref a)) := rfl
theorem fl_0_13 (j : Nat → Int32) (g : Nat → Int64) (r : Nat → Option Nat) : (fl_0 j g r)[13]? = some (va_rf (r 13)) := rfl
theorem up_0_13 (ca : Nat → ClassId) (j : Nat → Int32) (g : Nat → Int64) (r : Nat → Option Nat) (a : Nat) : osh ca 0 j g (va_up r 13 (some a)) = .inr (0, (fl_0 j g r).set 13 (.ref a)) := rfl
theorem fl_0_14 (j : Nat → Int32) (g : Nat → Int64) (r : Nat → Option Nat) : (fl_0 j g r)[14]? = some (va_rf (r 14)) := rfl
theorem up_0_14 (ca : Nat → ClassId) (j : Nat → Int32) (g : Nat → Int64) (r : Nat → Option Nat) (a : Nat) : osh ca 0 j g (va_up r 14 (some a)) = .inr (0, (fl_0 j g r).set 14 (.ref a)) := rfl
theorem fl_0_15 (j : Nat → Int32) (g : Nat → Int64) (r : Nat → Option Nat) : (fl_0 j g r)[15]? = some (va_rf (r 15)) := rfl
theorem up_0_15 (ca : Nat → ClassId) (j : Nat → Int32) (g : Nat → Int64) (r : Nat → Option Nat) (a : Nat) : osh ca 0 j g (va_up r 15 (some a)) = .inr (0, (fl_0 j g r).set 15 (.ref a)) := rfl
theorem fl_0_16 (j : Nat → Int32) (g : Nat → Int64) (r : Nat → Option Nat) : (fl_0 j g r)[16]? = some (va_rf (r 16)) := rfl
theorem up_0_16 (ca : Nat → ClassId) (j : Nat → Int32) (g : Nat → Int64) (r : Nat → Option Nat) (a : Nat) : osh ca 0 j g (va_up r 16 (some a)) = .inr (0, (fl_0 j g r).set 16 (.ref a)) := rfl
theorem fl_0_17 (j : Nat → Int32) (g : Nat → Int64) (r : Nat → Option Nat) : (fl_0 j g r)[17]? = some (va_rf (r 17)) := rfl
theorem up_0_17 (ca : Nat → ClassId) (j : Nat → Int32) (g : Nat → Int64) (r : Nat → Option Nat) (a : Nat) : osh ca 0 j g (va_up r 17 (some a)) = .inr (0, (fl_0 j g r).set 17 (.ref a)) := rfl
theorem fl_0_18 (j : Nat → Int32) (g : Nat → Int64) (r : Nat → Option Nat) : (fl_0 j g r)[18]? = some (.int (j 18)) := rfl
theorem up_0_18 (ca : Nat → ClassId) (j : Nat → Int32) (g : Nat → Int64) (r : Nat → Option Nat) (v : Int32) : osh ca 0 (upd j 18 v) g r = .inr (0, (fl_0 j g r).set 18 (.int v)) := rfl
theorem fl_0_19 (j : Nat → Int32) (g : Nat → Int64) (r : Nat → Option Nat) : (fl_0 j g r)[19]? = some (va_rf (r 19)) := rfl
theorem up_0_19 (ca : Nat → ClassId) (j : Nat → Int32) (g : Nat → Int64) (r : Nat → Option Nat) (a : Nat) : osh ca 0 j g (va_up r 19 (some a)) = .inr (0, (fl_0 j g r).set 19 (.ref a)) := rfl
theorem fl_0_20 (j : Nat → Int32) (g : Nat → Int64) (r : Nat → Option Nat) : (fl_0 j g r)[20]? = some (va_rf (r 20)) := rfl
theorem up_0_20 (ca : Nat → ClassId) (j : Nat → Int32) (g : Nat → Int64) (r : Nat → Option Nat) (a : Nat) : osh ca 0 j g (va_up r 20 (some a)) = .inr (0, (fl_0 j g r).set 20 (.ref a)) := rfl
theorem fl_0_21 (j : Nat → Int32) (g : Nat → Int64) (r : Nat → Option Nat) : (fl_0 j g r)[21]? = some (va_rf (r 21)) := rfl
theorem up_0_21 (ca : Nat → ClassId) (j : Nat → Int32) (g : Nat → Int64) (r : Nat → Option Nat) (a : Nat) : osh ca 0 j g (va_up r 21 (some a)) = .inr (0, (fl_0 j g r).set 21 (.ref a)) := rfl
theorem fl_0_22 (j : Nat → Int32) (g : Nat → Int64) (r : Nat → Option Nat) : (fl_0 j g r)[22]? = some (.int (j 22)) := rfl
theorem up_0_22 (ca : Nat → ClassId) (j : Nat → Int32) (g : Nat → Int64) (r : Nat → Option Nat) (v : Int32) : osh ca 0 (upd j 22 v) g r = .inr (0, (fl_0 j g r).set 22 (.int v)) := rfl
theorem fl_0_23 (j : Nat → Int32) (g : Nat → Int64) (r : Nat → Option Nat) : (fl_0 j g r)[23]? = some (va_rf (r 23)) := rfl
theorem up_0_23 (ca : Nat → ClassId) (j : Nat → Int32) (g : Nat → Int64) (r : Nat → Option Nat) (a : Nat) : osh ca 0 j g (va_up r 23 (some a)) = .inr (0, (fl_0 j g r).set 23 (.ref a)) := rfl
theorem fl_0_24 (j : Nat → Int32) (g : Nat → Int64) (r : Nat → Option Nat) : (fl_0 j g r)[24]? = some (va_rf (r 24)) := rfl
theorem up_0_24 (ca : Nat → ClassId) (j : Nat → Int32) (g : Nat → Int64) (r : Nat → Option Nat) (a : Nat) : osh ca 0 j g (va_up r 24 (some a)) = .inr (0, (fl_0 j g r).set 24 (.ref a)) := rfl
theorem fl_0_25 (j : Nat → Int32) (g : Nat → Int64) (r : Nat → Option Nat) : (fl_0 j g r)[25]? = some (va_rf (r 25)) := rfl
theorem up_0_25 (ca : Nat → ClassId) (j : Nat → Int32) (g : Nat → Int64) (r : Nat → Option Nat) (a : Nat) : osh ca 0 j g (va_up r 25 (some a)) = .inr (0, (fl_0 j g r).set 25 (.ref a)) := rfl
theorem fl_0_26 (j : Nat → Int32) (g : Nat → Int64) (r : Nat → Option Nat) : (fl_0 j g r)[26]? = some (va_rf (r 26)) := rfl
theorem up_0_26 (ca : Nat → ClassId) (j : Nat → Int32) (g : Nat → Int64) (r : Nat → Option Nat) (a : Nat) : osh ca 0 j g (va_up r 26 (some a)) = .inr (0, (fl_0 j g r).set 26 (.ref a)) := rfl
theorem fl_0_27 (j : Nat → Int32) (g : Nat → Int64) (r : Nat → Option Nat) : (fl_0 j g r)[27]? = some (va_rf (r 27)) := rfl
theorem up_0_27 (ca : Nat → ClassId) (j : Nat → Int32) (g : Nat → Int64) (r : Nat → Option Nat) (a : Nat) : osh ca 0 j g (va_up r 27 (some a)) = .inr (0, (fl_0 j g r).set 27 (.ref a)) := rfl
theorem fl_0_28 (j : Nat → Int32) (g : Nat → Int64) (r : Nat → Option Nat) : (fl_0 j g r)[28]? = some (va_rf (r 28)) := rfl
theorem up_0_28 (ca : Nat → ClassId) (j : Nat → Int32) (g : Nat → Int64) (r : Nat → Option Nat) (a : Nat) : osh ca 0 j g (va_up r 28 (some a)) = .inr (0, (fl_0 j g r).set 28 (.ref a)) := rfl
theorem fl_0_29 (j : Nat → Int32) (g : Nat → Int64) (r : Nat → Option Nat) : (fl_0 j g r)[29]? = some (va_rf (r 29)) := rfl
theorem up_0_29 (ca : Nat → ClassId) (j : Nat → Int32) (g : Nat → Int64) (r : Nat → Option Nat) (a : Nat) : osh ca 0 j g (va_up r 29 (some a)) = .inr (0, (fl_0 j g r).set 29 (.ref a)) := rfl
theorem fl_0_30 (j : Nat → Int32) (g : Nat → Int64) (r : Nat → Option Nat) : (fl_0 j g r)[30]? = some (va_rf (r 30)) := rfl
theorem up_0_30 (ca : Nat → ClassId) (j : Nat → Int32) (g : Nat → Int64) (r : Nat → Option Nat) (a : Nat) : osh ca 0 j g (va_up r 30 (some a)) = .inr (0, (fl_0 j g r).set 30 (.ref a)) := rfl
theorem fl_0_31 (j : Nat → Int32) (g : Nat → Int64) (r : Nat → Option Nat) : (fl_0 j g r)[31]? = some (.int (j 31)) := rfl
theorem up_0_31 (ca : Nat → ClassId) (j : Nat → Int32) (g : Nat → Int64) (r : Nat → Option Nat) (v : Int32) : osh ca 0 (upd j 31 v) g r = .inr (0, (fl_0 j g r).set 31 (.int v)) := rfl
theorem fl_0_32 (j : Nat → Int32) (g : Nat → Int64) (r : Nat → Option Nat) : (fl_0 j g r)[32]? = some (va_rf (r 32)) := rfl
theorem up_0_32 (ca : Nat → ClassId) (j : Nat → Int32) (g : Nat → Int64) (r : Nat → Option Nat) (a : Nat) : osh ca 0 j g (va_up r 32 (some a)) = .inr (0, (fl_0 j g r).set 32 (.ref a)) := rfl
theorem osh_5 (ca : Nat → ClassId) (j : Nat → Int32) (g : Nat → Int64) (r : Nat → Option Nat) : osh ca 5 j g r = .inl (ca 1, 8, .inr (.inl g)) := rfl
theorem osh_6 (ca : Nat → ClassId) (j : Nat → Int32) (g : Nat → Int64) (r : Nat → Option Nat) : osh ca 6 j g r = .inl (ca 0, 8, .inl j) := rfl
theorem osh_7 (ca : Nat → ClassId) (j : Nat → Int32) (g : Nat → Int64) (r : Nat → Option Nat) : osh ca 7 j g r = .inl (ca 0, 8, .inl j) := rfl
theorem osh_8 (ca : Nat → ClassId) (j : Nat → Int32) (g : Nat → Int64) (r : Nat → Option Nat) : osh ca 8 j g r = .inl (ca 0, 8, .inl j) := rfl
theorem osh_9 (ca : Nat → ClassId) (j : Nat → Int32) (g : Nat → Int64) (r : Nat → Option Nat) : osh ca 9 j g r = .inl (ca 0, 8, .inl j) := rfl
theorem osh_10 (ca : Nat → ClassId) (j : Nat → Int32) (g : Nat → Int64) (r : Nat → Option Nat) : osh ca 10 j g r = .inl (ca 0, 8, .inl j) := rfl
theorem osh_11 (ca : Nat → ClassId) (j : Nat → Int32) (g : Nat → Int64) (r : Nat → Option Nat) : osh ca 11 j g r = .inl (ca 0, 8, .inl j) := rfl
theorem osh_12 (ca : Nat → ClassId) (j : Nat → Int32) (g : Nat → Int64) (r : Nat → Option Nat) : osh ca 12 j g r = .inl (ca 1, 8, .inr (.inl g)) := rfl
theorem osh_13 (ca : Nat → ClassId) (j : Nat → Int32) (g : Nat → Int64) (r : Nat → Option Nat) : osh ca 13 j g r = .inl (ca 0, 8, .inl j) := rfl
theorem osh_14 (ca : Nat → ClassId) (j : Nat → Int32) (g : Nat → Int64) (r : Nat → Option Nat) : osh ca 14 j g r = .inl (ca 0, 8, .inl j) := rfl
theorem osh_15 (ca : Nat → ClassId) (j : Nat → Int32) (g : Nat → Int64) (r : Nat → Option Nat) : osh ca 15 j g r = .inl (ca 0, 8, .inl j) := rfl
theorem osh_16 (ca : Nat → ClassId) (j : Nat → Int32) (g : Nat → Int64) (r : Nat → Option Nat) : osh ca 16 j g r = .inl (ca 0, 64, .inl j) := rfl
theorem osh_17 (ca : Nat → ClassId) (j : Nat → Int32) (g : Nat → Int64) (r : Nat → Option Nat) : osh ca 17 j g r = .inl (ca 0, 8, .inl j) := rfl
theorem osh_19 (ca : Nat → ClassId) (j : Nat → Int32) (g : Nat → Int64) (r : Nat → Option Nat) : osh ca 19 j g r = .inl (ca 0, 40, .inl j) := rfl
theorem osh_20 (ca : Nat → ClassId) (j : Nat → Int32) (g : Nat → Int64) (r : Nat → Option Nat) : osh ca 20 j g r = .inl (ca 1, 40, .inr (.inl g)) := rfl
theorem osh_21 (ca : Nat → ClassId) (j : Nat → Int32) (g : Nat → Int64) (r : Nat → Option Nat) : osh ca 21 j g r = .inl (ca 0, 40, .inl j) := rfl
theorem osh_23 (ca : Nat → ClassId) (j : Nat → Int32) (g : Nat → Int64) (r : Nat → Option Nat) : osh ca 23 j g r = .inl (ca 0, 120, .inl j) := rfl
theorem osh_24 (ca : Nat → ClassId) (j : Nat → Int32) (g : Nat → Int64) (r : Nat → Option Nat) : osh ca 24 j g r = .inl (ca 0, 120, .inl j) := rfl
theorem osh_25 (ca : Nat → ClassId) (j : Nat → Int32) (g : Nat → Int64) (r : Nat → Option Nat) : osh ca 25 j g r = .inl (ca 0, 120, .inl j) := rfl
theorem osh_26 (ca : Nat → ClassId) (j : Nat → Int32) (g : Nat → Int64) (r : Nat → Option Nat) : osh ca 26 j g r = .inl (ca 1, 120, .inr (.inl g)) := rfl
theorem osh_27 (ca : Nat → ClassId) (j : Nat → Int32) (g : Nat → Int64) (r : Nat → Option Nat) : osh ca 27 j g r = .inl (ca 0, 120, .inl j) := rfl
theorem osh_28 (ca : Nat → ClassId) (j : Nat → Int32) (g : Nat → Int64) (r : Nat → Option Nat) : osh ca 28 j g r = .inl (ca 1, 120, .inr (.inl g)) := rfl
theorem osh_29 (ca : Nat → ClassId) (j : Nat → Int32) (g : Nat → Int64) (r : Nat → Option Nat) : osh ca 29 j g r = .inl (ca 0, 120, .inl j) := rfl
theorem osh_30 (ca : Nat → ClassId) (j : Nat → Int32) (g : Nat → Int64) (r : Nat → Option Nat) : osh ca 30 j g r = .inl (ca 1, 120, .inr (.inl g)) := rfl
theorem osh_32 (ca : Nat → ClassId) (j : Nat → Int32) (g : Nat → Int64) (r : Nat → Option Nat) : osh ca 32 j g r = .inl (ca 1, 120, .inr (.inl g)) := rfl
theorem osh_40 (ca : Nat → ClassId) (j : Nat → Int32) (g : Nat → Int64) (r : Nat → Option Nat) : osh ca 40 j g r = .inr (1, fl_40 j g r) := rfl
theorem fl_40_len (j : Nat → Int32) (g : Nat → Int64) (r : Nat → Option Nat) (n : Nat) (h : n < 11) : n < (fl_40 j g r).length := h
theorem fl_40_0 (j : Nat → Int32) (g : Nat → Int64) (r : Nat → Option Nat) : (fl_40 j g r)[0]? = some (.int (j 0)) := rfl
theorem up_40_0 (ca : Nat → ClassId) (j : Nat → Int32) (g : Nat → Int64) (r : Nat → Option Nat) (v : Int32) : osh ca 40 (upd j 0 v) g r = .inr (1, (fl_40 j g r).set 0 (.int v)) := rfl
theorem fl_40_1 (j : Nat → Int32) (g : Nat → Int64) (r : Nat → Option Nat) : (fl_40 j g r)[1]? = some (.int (j 1)) := rfl
theorem up_40_1 (ca : Nat → ClassId) (j : Nat → Int32) (g : Nat → Int64) (r : Nat → Option Nat) (v : Int32) : osh ca 40 (upd j 1 v) g r = .inr (1, (fl_40 j g r).set 1 (.int v)) := rfl
theorem fl_40_2 (j : Nat → Int32) (g : Nat → Int64) (r : Nat → Option Nat) : (fl_40 j g r)[2]? = some (va_rf (r 2)) := rfl
theorem up_40_2 (ca : Nat → ClassId) (j : Nat → Int32) (g : Nat → Int64) (r : Nat → Option Nat) (a : Nat) : osh ca 40 j g (va_up r 2 (some a)) = .inr (1, (fl_40 j g r).set 2 (.ref a)) := rfl
theorem fl_40_3 (j : Nat → Int32) (g : Nat → Int64) (r : Nat → Option Nat) : (fl_40 j g r)[3]? = some (va_rf (r 3)) := rfl
theorem up_40_3 (ca : Nat → ClassId) (j : Nat → Int32) (g : Nat → Int64) (r : Nat → Option Nat) (a : Nat) : osh ca 40 j g (va_up r 3 (some a)) = .inr (1, (fl_40 j g r).set 3 (.ref a)) := rfl
theorem fl_40_4 (j : Nat → Int32) (g : Nat → Int64) (r : Nat → Option Nat) : (fl_40 j g r)[4]? = some (va_rf (r 4)) := rfl
theorem up_40_4 (ca : Nat → ClassId) (j : Nat → Int32) (g : Nat → Int64) (r : Nat → Option Nat) (a : Nat) : osh ca 40 j g (va_up r 4 (some a)) = .inr (1, (fl_40 j g r).set 4 (.ref a)) := rfl
theorem fl_40_5 (j : Nat → Int32) (g : Nat → Int64) (r : Nat → Option Nat) : (fl_40 j g r)[5]? = some (va_rf (r 5)) := rfl
theorem up_40_5 (ca : Nat → ClassId) (j : Nat → Int32) (g : Nat → Int64) (r : Nat → Option Nat) (a : Nat) : osh ca 40 j g (va_up r 5 (some a)) = .inr (1, (fl_40 j g r).set 5 (.ref a)) := rfl
theorem fl_40_6 (j : Nat → Int32) (g : Nat → Int64) (r : Nat → Option Nat) : (fl_40 j g r)[6]? = some (.int (j 6)) := rfl
theorem up_40_6 (ca : Nat → ClassId) (j : Nat → Int32) (g : Nat → Int64) (r : Nat → Option Nat) (v : Int32) : osh ca 40 (upd j 6 v) g r = .inr (1, (fl_40 j g r).set 6 (.int v)) := rfl
theorem fl_40_7 (j : Nat → Int32) (g : Nat → Int64) (r : Nat → Option Nat) : (fl_40 j g r)[7]? = some (.int (j 7)) := rfl
theorem up_40_7 (ca : Nat → ClassId) (j : Nat → Int32) (g : Nat → Int64) (r : Nat → Option Nat) (v : Int32) : osh ca 40 (upd j 7 v) g r = .inr (1, (fl_40 j g r).set 7 (.int v)) := rfl
theorem fl_40_8 (j : Nat → Int32) (g : Nat → Int64) (r : Nat → Option Nat) : (fl_40 j g r)[8]? = some (.int (j 8)) := rfl
theorem up_40_8 (ca : Nat → ClassId) (j : Nat → Int32) (g : Nat → Int64) (r : Nat → Option Nat) (v : Int32) : osh ca 40 (upd j 8 v) g r = .inr (1, (fl_40 j g r).set 8 (.int v)) := rfl
theorem fl_40_9 (j : Nat → Int32) (g : Nat → Int64) (r : Nat → Option Nat) : (fl_40 j g r)[9]? = some (.int (j 9)) := rfl
theorem up_40_9 (ca : Nat → ClassId) (j : Nat → Int32) (g : Nat → Int64) (r : Nat → Option Nat) (v : Int32) : osh ca 40 (upd j 9 v) g r = .inr (1, (fl_40 j g r).set 9 (.int v)) := rfl
theorem fl_40_10 (j : Nat → Int32) (g : Nat → Int64) (r : Nat → Option Nat) : (fl_40 j g r)[10]? = some (.long (g 10)) := rfl
theorem up_40_10 (ca : Nat → ClassId) (j : Nat → Int32) (g : Nat → Int64) (r : Nat → Option Nat) (v : Int64) : osh ca 40 j (vp_updL g 10 v) r = .inr (1, (fl_40 j g r).set 10 (.long v)) := rfl
theorem osh_41 (ca : Nat → ClassId) (j : Nat → Int32) (g : Nat → Int64) (r : Nat → Option Nat) : osh ca 41 j g r = .inl (ca 2, 8, .inr (.inr (.inr (.inr r)))) := rfl
theorem osh_42 (ca : Nat → ClassId) (j : Nat → Int32) (g : Nat → Int64) (r : Nat → Option Nat) : osh ca 42 j g r = .inr (2, fl_42 j g r) := rfl
theorem fl_42_len (j : Nat → Int32) (g : Nat → Int64) (r : Nat → Option Nat) (n : Nat) (h : n < 4) : n < (fl_42 j g r).length := h
theorem fl_42_0 (j : Nat → Int32) (g : Nat → Int64) (r : Nat → Option Nat) : (fl_42 j g r)[0]? = some (va_rf (r 0)) := rfl
theorem up_42_0 (ca : Nat → ClassId) (j : Nat → Int32) (g : Nat → Int64) (r : Nat → Option Nat) (a : Nat) : osh ca 42 j g (va_up r 0 (some a)) = .inr (2, (fl_42 j g r).set 0 (.ref a)) := rfl
theorem fl_42_1 (j : Nat → Int32) (g : Nat → Int64) (r : Nat → Option Nat) : (fl_42 j g r)[1]? = some (va_rf (r 1)) := rfl
theorem up_42_1 (ca : Nat → ClassId) (j : Nat → Int32) (g : Nat → Int64) (r : Nat → Option Nat) (a : Nat) : osh ca 42 j g (va_up r 1 (some a)) = .inr (2, (fl_42 j g r).set 1 (.ref a)) := rfl
theorem fl_42_2 (j : Nat → Int32) (g : Nat → Int64) (r : Nat → Option Nat) : (fl_42 j g r)[2]? = some (va_rf (r 2)) := rfl
theorem up_42_2 (ca : Nat → ClassId) (j : Nat → Int32) (g : Nat → Int64) (r : Nat → Option Nat) (a : Nat) : osh ca 42 j g (va_up r 2 (some a)) = .inr (2, (fl_42 j g r).set 2 (.ref a)) := rfl
theorem fl_42_3 (j : Nat → Int32) (g : Nat → Int64) (r : Nat → Option Nat) : (fl_42 j g r)[3]? = some (.int (j 3)) := rfl
theorem up_42_3 (ca : Nat → ClassId) (j : Nat → Int32) (g : Nat → Int64) (r : Nat → Option Nat) (v : Int32) : osh ca 42 (upd j 3 v) g r = .inr (2, (fl_42 j g r).set 3 (.int v)) := rfl
theorem osh_43 (ca : Nat → ClassId) (j : Nat → Int32) (g : Nat → Int64) (r : Nat → Option Nat) : osh ca 43 j g r = .inl (ca 3, 120, .inr (.inr (.inr (.inr r)))) := rfl
theorem osh_44 (ca : Nat → ClassId) (j : Nat → Int32) (g : Nat → Int64) (r : Nat → Option Nat) : osh ca 44 j g r = .inl (ca 1, 120, .inr (.inl g)) := rfl
theorem osh_45 (ca : Nat → ClassId) (j : Nat → Int32) (g : Nat → Int64) (r : Nat → Option Nat) : osh ca 45 j g r = .inl (ca 0, 40, .inl j) := rfl
theorem osh_46 (ca : Nat → ClassId) (j : Nat → Int32) (g : Nat → Int64) (r : Nat → Option Nat) : osh ca 46 j g r = .inl (ca 1, 40, .inr (.inl g)) := rfl
theorem osh_47 (ca : Nat → ClassId) (j : Nat → Int32) (g : Nat → Int64) (r : Nat → Option Nat) : osh ca 47 j g r = .inl (ca 0, 40, .inl j) := rfl
theorem osh_48 (ca : Nat → ClassId) (j : Nat → Int32) (g : Nat → Int64) (r : Nat → Option Nat) : osh ca 48 j g r = .inr (3, fl_48 j g r) := rfl
theorem fl_48_len (j : Nat → Int32) (g : Nat → Int64) (r : Nat → Option Nat) (n : Nat) (h : n < 11) : n < (fl_48 j g r).length := h
theorem fl_48_0 (j : Nat → Int32) (g : Nat → Int64) (r : Nat → Option Nat) : (fl_48 j g r)[0]? = some (.int (j 0)) := rfl
theorem up_48_0 (ca : Nat → ClassId) (j : Nat → Int32) (g : Nat → Int64) (r : Nat → Option Nat) (v : Int32) : osh ca 48 (upd j 0 v) g r = .inr (3, (fl_48 j g r).set 0 (.int v)) := rfl
theorem fl_48_1 (j : Nat → Int32) (g : Nat → Int64) (r : Nat → Option Nat) : (fl_48 j g r)[1]? = some (.int (j 1)) := rfl
theorem up_48_1 (ca : Nat → ClassId) (j : Nat → Int32) (g : Nat → Int64) (r : Nat → Option Nat) (v : Int32) : osh ca 48 (upd j 1 v) g r = .inr (3, (fl_48 j g r).set 1 (.int v)) := rfl
theorem fl_48_2 (j : Nat → Int32) (g : Nat → Int64) (r : Nat → Option Nat) : (fl_48 j g r)[2]? = some (.int (j 2)) := rfl
theorem up_48_2 (ca : Nat → ClassId) (j : Nat → Int32) (g : Nat → Int64) (r : Nat → Option Nat) (v : Int32) : osh ca 48 (upd j 2 v) g r = .inr (3, (fl_48 j g r).set 2 (.int v)) := rfl
theorem fl_48_3 (j : Nat → Int32) (g : Nat → Int64) (r : Nat → Option Nat) : (fl_48 j g r)[3]? = some (va_rf (r 3)) := rfl
theorem up_48_3 (ca : Nat → ClassId) (j : Nat → Int32) (g : Nat → Int64) (r : Nat → Option Nat) (a : Nat) : osh ca 48 j g (va_up r 3 (some a)) = .inr (3, (fl_48 j g r).set 3 (.ref a)) := rfl
theorem fl_48_4 (j : Nat → Int32) (g : Nat → Int64) (r : Nat → Option Nat) : (fl_48 j g r)[4]? = some (va_rf (r 4)) := rfl
theorem up_48_4 (ca : Nat → ClassId) (j : Nat → Int32) (g : Nat → Int64) (r : Nat → Option Nat) (a : Nat) : osh ca 48 j g (va_up r 4 (some a)) = .inr (3, (fl_48 j g r).set 4 (.ref a)) := rfl
theorem fl_48_5 (j : Nat → Int32) (g : Nat → Int64) (r : Nat → Option Nat) : (fl_48 j g r)[5]? = some (.int (j 5)) := rfl
theorem up_48_5 (ca : Nat → ClassId) (j : Nat → Int32) (g : Nat → Int64) (r : Nat → Option Nat) (v : Int32) : osh ca 48 (upd j 5 v) g r = .inr (3, (fl_48 j g r).set 5 (.int v)) := rfl
theorem fl_48_6 (j : Nat → Int32) (g : Nat → Int64) (r : Nat → Option Nat) : (fl_48 j g r)[6]? = some (.long (g 6)) := rfl
theorem up_48_6 (ca : Nat → ClassId) (j : Nat → Int32) (g : Nat → Int64) (r : Nat → Option Nat) (v : Int64) : osh ca 48 j (vp_updL g 6 v) r = .inr (3, (fl_48 j g r).set 6 (.long v)) := rfl
theorem fl_48_7 (j : Nat → Int32) (g : Nat → Int64) (r : Nat → Option Nat) : (fl_48 j g r)[7]? = some (.int (j 7)) := rfl
theorem up_48_7 (ca : Nat → ClassId) (j : Nat → Int32) (g : Nat → Int64) (r : Nat → Option Nat) (v : Int32) : osh ca 48 (upd j 7 v) g r = .inr (3, (fl_48 j g r).set 7 (.int v)) := rfl
theorem fl_48_8 (j : Nat → Int32) (g : Nat → Int64) (r : Nat → Option Nat) : (fl_48 j g r)[8]? = some (.int (j 8)) := rfl
theorem up_48_8 (ca : Nat → ClassId) (j : Nat → Int32) (g : Nat → Int64) (r : Nat → Option Nat) (v : Int32) : osh ca 48 (upd j 8 v) g r = .inr (3, (fl_48 j g r).set 8 (.int v)) := rfl
theorem fl_48_9 (j : Nat → Int32) (g : Nat → Int64) (r : Nat → Option Nat) : (fl_48 j g r)[9]? = some (.int (j 9)) := rfl
theorem up_48_9 (ca : Nat → ClassId) (j : Nat → Int32) (g : Nat → Int64) (r : Nat → Option Nat) (v : Int32) : osh ca 48 (upd j 9 v) g r = .inr (3, (fl_48 j g r).set 9 (.int v)) := rfl
theorem fl_48_10 (j : Nat → Int32) (g : Nat → Int64) (r : Nat → Option Nat) : (fl_48 j g r)[10]? = some (.long (g 10)) := rfl
theorem up_48_10 (ca : Nat → ClassId) (j : Nat → Int32) (g : Nat → Int64) (r : Nat → Option Nat) (v : Int64) : osh ca 48 j (vp_updL g 10 v) r = .inr (3, (fl_48 j g r).set 10 (.long v)) := rfl
theorem osh_49 (ca : Nat → ClassId) (j : Nat → Int32) (g : Nat → Int64) (r : Nat → Option Nat) : osh ca 49 j g r = .inr (4, fl_49 j g r) := rfl
theorem fl_49_len (j : Nat → Int32) (g : Nat → Int64) (r : Nat → Option Nat) (n : Nat) (h : n < 3) : n < (fl_49 j g r).length := h
theorem fl_49_0 (j : Nat → Int32) (g : Nat → Int64) (r : Nat → Option Nat) : (fl_49 j g r)[0]? = some (.int (j 0)) := rfl
theorem up_49_0 (ca : Nat → ClassId) (j : Nat → Int32) (g : Nat → Int64) (r : Nat → Option Nat) (v : Int32) : osh ca 49 (upd j 0 v) g r = .inr (4, (fl_49 j g r).set 0 (.int v)) := rfl
theorem fl_49_1 (j : Nat → Int32) (g : Nat → Int64) (r : Nat → Option Nat) : (fl_49 j g r)[1]? = some (.int (j 1)) := rfl
theorem up_49_1 (ca : Nat → ClassId) (j : Nat → Int32) (g : Nat → Int64) (r : Nat → Option Nat) (v : Int32) : osh ca 49 (upd j 1 v) g r = .inr (4, (fl_49 j g r).set 1 (.int v)) := rfl
theorem fl_49_2 (j : Nat → Int32) (g : Nat → Int64) (r : Nat → Option Nat) : (fl_49 j g r)[2]? = some (.int (j 2)) := rfl
theorem up_49_2 (ca : Nat → ClassId) (j : Nat → Int32) (g : Nat → Int64) (r : Nat → Option Nat) (v : Int32) : osh ca 49 (upd j 2 v) g r = .inr (4, (fl_49 j g r).set 2 (.int v)) := rfl
theorem osh_50 (ca : Nat → ClassId) (j : Nat → Int32) (g : Nat → Int64) (r : Nat → Option Nat) : osh ca 50 j g r = .inr (5, fl_50 j g r) := rfl
theorem fl_50_len (j : Nat → Int32) (g : Nat → Int64) (r : Nat → Option Nat) (n : Nat) (h : n < 3) : n < (fl_50 j g r).length := h
theorem fl_50_0 (j : Nat → Int32) (g : Nat → Int64) (r : Nat → Option Nat) : (fl_50 j g r)[0]? = some (va_rf (r 0)) := rfl
theorem up_50_0 (ca : Nat → ClassId) (j : Nat → Int32) (g : Nat → Int64) (r : Nat → Option Nat) (a : Nat) : osh ca 50 j g (va_up r 0 (some a)) = .inr (5, (fl_50 j g r).set 0 (.ref a)) := rfl
theorem fl_50_1 (j : Nat → Int32) (g : Nat → Int64) (r : Nat → Option Nat) : (fl_50 j g r)[1]? = some (.int (j 1)) := rfl
theorem up_50_1 (ca : Nat → ClassId) (j : Nat → Int32) (g : Nat → Int64) (r : Nat → Option Nat) (v : Int32) : osh ca 50 (upd j 1 v) g r = .inr (5, (fl_50 j g r).set 1 (.int v)) := rfl
theorem fl_50_2 (j : Nat → Int32) (g : Nat → Int64) (r : Nat → Option Nat) : (fl_50 j g r)[2]? = some (.int (j 2)) := rfl
theorem up_50_2 (ca : Nat → ClassId) (j : Nat → Int32) (g : Nat → Int64) (r : Nat → Option Nat) (v : Int32) : osh ca 50 (upd j 2 v) g r = .inr (5, (fl_50 j g r).set 2 (.int v)) := rfl
theorem osh_51 (ca : Nat → ClassId) (j : Nat → Int32) (g : Nat → Int64) (r : Nat → Option Nat) : osh ca 51 j g r = .inl (ca 0, 8, .inl j) := rfl
theorem osh_52 (ca : Nat → ClassId) (j : Nat → Int32) (g : Nat → Int64) (r : Nat → Option Nat) : osh ca 52 j g r = .inr (6, fl_52 j g r) := rfl
theorem fl_52_len (j : Nat → Int32) (g : Nat → Int64) (r : Nat → Option Nat) (n : Nat) (h : n < 8) : n < (fl_52 j g r).length := h
theorem fl_52_0 (j : Nat → Int32) (g : Nat → Int64) (r : Nat → Option Nat) : (fl_52 j g r)[0]? = some (va_rf (r 0)) := rfl
theorem up_52_0 (ca : Nat → ClassId) (j : Nat → Int32) (g : Nat → Int64) (r : Nat → Option Nat) (a : Nat) : osh ca 52 j g (va_up r 0 (some a)) = .inr (6, (fl_52 j g r).set 0 (.ref a)) := rfl
theorem fl_52_1 (j : Nat → Int32) (g : Nat → Int64) (r : Nat → Option Nat) : (fl_52 j g r)[1]? = some (va_rf (r 1)) := rfl
theorem up_52_1 (ca : Nat → ClassId) (j : Nat → Int32) (g : Nat → Int64) (r : Nat → Option Nat) (a : Nat) : osh ca 52 j g (va_up r 1 (some a)) = .inr (6, (fl_52 j g r).set 1 (.ref a)) := rfl
theorem fl_52_2 (j : Nat → Int32) (g : Nat → Int64) (r : Nat → Option Nat) : (fl_52 j g r)[2]? = some (.int (j 2)) := rfl
theorem up_52_2 (ca : Nat → ClassId) (j : Nat → Int32) (g : Nat → Int64) (r : Nat → Option Nat) (v : Int32) : osh ca 52 (upd j 2 v) g r = .inr (6, (fl_52 j g r).set 2 (.int v)) := rfl
theorem fl_52_3 (j : Nat → Int32) (g : Nat → Int64) (r : Nat → Option Nat) : (fl_52 j g r)[3]? = some (.long (g 3)) := rfl
theorem up_52_3 (ca : Nat → ClassId) (j : Nat → Int32) (g : Nat → Int64) (r : Nat → Option Nat) (v : Int64) : osh ca 52 j (vp_updL g 3 v) r = .inr (6, (fl_52 j g r).set 3 (.long v)) := rfl
theorem fl_52_4 (j : Nat → Int32) (g : Nat → Int64) (r : Nat → Option Nat) : (fl_52 j g r)[4]? = some (.long (g 4)) := rfl
theorem up_52_4 (ca : Nat → ClassId) (j : Nat → Int32) (g : Nat → Int64) (r : Nat → Option Nat) (v : Int64) : osh ca 52 j (vp_updL g 4 v) r = .inr (6, (fl_52 j g r).set 4 (.long v)) := rfl
theorem fl_52_5 (j : Nat → Int32) (g : Nat → Int64) (r : Nat → Option Nat) : (fl_52 j g r)[5]? = some (.long (g 5)) := rfl
theorem up_52_5 (ca : Nat → ClassId) (j : Nat → Int32) (g : Nat → Int64) (r : Nat → Option Nat) (v : Int64) : osh ca 52 j (vp_updL g 5 v) r = .inr (6, (fl_52 j g r).set 5 (.long v)) := rfl
theorem fl_52_6 (j : Nat → Int32) (g : Nat → Int64) (r : Nat → Option Nat) : (fl_52 j g r)[6]? = some (.int (j 6)) := rfl
theorem up_52_6 (ca : Nat → ClassId) (j : Nat → Int32) (g : Nat → Int64) (r : Nat → Option Nat) (v : Int32) : osh ca 52 (upd j 6 v) g r = .inr (6, (fl_52 j g r).set 6 (.int v)) := rfl
theorem fl_52_7 (j : Nat → Int32) (g : Nat → Int64) (r : Nat → Option Nat) : (fl_52 j g r)[7]? = some (.long (g 7)) := rfl
theorem up_52_7 (ca : Nat → ClassId) (j : Nat → Int32) (g : Nat → Int64) (r : Nat → Option Nat) (v : Int64) : osh ca 52 j (vp_updL g 7 v) r = .inr (6, (fl_52 j g r).set 7 (.long v)) := rfl
