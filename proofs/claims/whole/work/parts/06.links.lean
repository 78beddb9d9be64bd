def y_X_init : MethodName := ⟨"ValueConnector", "<init>", "(II)V"⟩
def y_R_init : MethodName := ⟨"ValueConnector$RouteTable", "<init>", "()V"⟩
def y_X_isWithin : MethodName := ⟨"ValueConnector", "isWithin", "(III)Z"⟩
def y_X_account : MethodName := ⟨"ValueConnector", "account", "(III)I"⟩
def y_A_init : MethodName := ⟨"ValueConnector$Account", "<init>", "(IIII)V"⟩
def y_B_init : MethodName := ⟨"ValueConnector$Bucket", "<init>", "()V"⟩
def y_B_renew : MethodName := ⟨"ValueConnector$Bucket", "renew", "(II)V"⟩
def y_K_init : MethodName := ⟨"ValueConnector$RecentKeys", "<init>", "()V"⟩
def y_X_worth : MethodName := ⟨"ValueConnector", "worth", "(II)Z"⟩
def y_X_accountNumbered : MethodName := ⟨"ValueConnector", "accountNumbered", "(I)LValueConnector$Account;"⟩
def y_X_spread : MethodName := ⟨"ValueConnector", "spread", "(I)Z"⟩
def y_X_policy : MethodName := ⟨"ValueConnector", "policy", "(IIII)Z"⟩
def y_X_bucket : MethodName := ⟨"ValueConnector", "bucket", "(III)Z"⟩
def y_X_learn : MethodName := ⟨"ValueConnector", "learn", "(IJI)Z"⟩
def y_X_letterCount : MethodName := ⟨"ValueConnector", "letterCount", "(J)I"⟩
def y_X_isLetter : MethodName := ⟨"ValueConnector", "isLetter", "(J)Z"⟩
def y_R_enter : MethodName := ⟨"ValueConnector$RouteTable", "enter", "(IJI)Z"⟩
def y_R_placeOf : MethodName := ⟨"ValueConnector$RouteTable", "placeOf", "(IJ)I"⟩
def y_X_forget : MethodName := ⟨"ValueConnector", "forget", "(IJ)Z"⟩
def y_R_strike : MethodName := ⟨"ValueConnector$RouteTable", "strike", "(IJ)Z"⟩
def y_X_way : MethodName := ⟨"ValueConnector", "way", "(J)I"⟩
def y_X_isAddress : MethodName := ⟨"ValueConnector", "isAddress", "(J)Z"⟩
def y_R_accountFor : MethodName := ⟨"ValueConnector$RouteTable", "accountFor", "(J)I"⟩
def y_R_firstLetters : MethodName := ⟨"ValueConnector$RouteTable", "firstLetters", "(JI)J"⟩
def y_R_nearest : MethodName := ⟨"ValueConnector$RouteTable", "nearest", "(J)I"⟩
def y_R_isNearer : MethodName := ⟨"ValueConnector$RouteTable", "isNearer", "(II)Z"⟩
def y_X_prepare : MethodName := ⟨"ValueConnector", "prepare", "(IJIIJ)I"⟩
def y_B_take : MethodName := ⟨"ValueConnector$Bucket", "take", "(I)Z"⟩
def y_X_converted : MethodName := ⟨"ValueConnector", "converted", "(III)J"⟩
def y_T_init : MethodName := ⟨"ValueConnector$Transfer", "<init>", "(LValueConnector$Account;LValueConnector$Account;IJJJ)V"⟩
def y_X_keep : MethodName := ⟨"ValueConnector", "keep", "(LValueConnector$Transfer;)I"⟩
def y_X_lock : MethodName := ⟨"ValueConnector", "lock", "(J)J"⟩
def y_X_lockOf : MethodName := ⟨"ValueConnector", "lockOf", "(J)J"⟩
def y_X_fulfil : MethodName := ⟨"ValueConnector", "fulfil", "(IJ)I"⟩
def y_X_transferNumbered : MethodName := ⟨"ValueConnector", "transferNumbered", "(I)LValueConnector$Transfer;"⟩
def y_T_payOut : MethodName := ⟨"ValueConnector$Transfer", "payOut", "(J)V"⟩
def y_X_settle : MethodName := ⟨"ValueConnector", "settle", "(LValueConnector$Account;)V"⟩
def y_A_takeSettled : MethodName := ⟨"ValueConnector$Account", "takeSettled", "()J"⟩
def y_X_reject : MethodName := ⟨"ValueConnector", "reject", "(I)I"⟩
def y_T_payBack : MethodName := ⟨"ValueConnector$Transfer", "payBack", "(I)V"⟩
def y_X_advance : MethodName := ⟨"ValueConnector", "advance", "(I)I"⟩
def y_B_refill : MethodName := ⟨"ValueConnector$Bucket", "refill", "(I)V"⟩
def y_X_lapseDue : MethodName := ⟨"ValueConnector", "lapseDue", "()I"⟩
def y_X_credit : MethodName := ⟨"ValueConnector", "credit", "(III)I"⟩
def y_K_holds : MethodName := ⟨"ValueConnector$RecentKeys", "holds", "(I)Z"⟩
def y_K_remember : MethodName := ⟨"ValueConnector$RecentKeys", "remember", "(I)V"⟩
def y_X_balance : MethodName := ⟨"ValueConnector", "balance", "(I)J"⟩
def y_X_position : MethodName := ⟨"ValueConnector", "position", "()J"⟩
def y_X_state : MethodName := ⟨"ValueConnector", "state", "(I)I"⟩
def y_X_transfer : MethodName := ⟨"ValueConnector", "transfer", "(II)J"⟩
def y_X_settlement : MethodName := ⟨"ValueConnector", "settlement", "(I)J"⟩
def y_X_drops : MethodName := ⟨"ValueConnector", "drops", "(I)I"⟩
def y_W_cell : MethodName := ⟨"ValueConnectorLaw", "cell", "([II)I"⟩
def y_M_init : MethodName := ⟨"ValueConnectorModel", "<init>", "(II)V"⟩
def y_M_account : MethodName := ⟨"ValueConnectorModel", "account", "(III)I"⟩
def y_M_worth : MethodName := ⟨"ValueConnectorModel", "worth", "(II)Z"⟩
def y_M_isAccount : MethodName := ⟨"ValueConnectorModel", "isAccount", "(I)Z"⟩
def y_M_spread : MethodName := ⟨"ValueConnectorModel", "spread", "(I)Z"⟩
def y_M_policy : MethodName := ⟨"ValueConnectorModel", "policy", "(IIII)Z"⟩
def y_M_bucket : MethodName := ⟨"ValueConnectorModel", "bucket", "(III)Z"⟩
def y_M_learn : MethodName := ⟨"ValueConnectorModel", "learn", "(IJI)Z"⟩
def y_M_lengthOf : MethodName := ⟨"ValueConnectorModel", "lengthOf", "(J)I"⟩
def y_M_letterAt : MethodName := ⟨"ValueConnectorModel", "letterAt", "(JI)I"⟩
def y_M_find : MethodName := ⟨"ValueConnectorModel", "find", "(IJ)I"⟩
def y_M_forget : MethodName := ⟨"ValueConnectorModel", "forget", "(IJ)Z"⟩
def y_M_way : MethodName := ⟨"ValueConnectorModel", "way", "(J)I"⟩
def y_M_begins : MethodName := ⟨"ValueConnectorModel", "begins", "(JJ)Z"⟩
def y_M_better : MethodName := ⟨"ValueConnectorModel", "better", "(II)Z"⟩
def y_M_prepare : MethodName := ⟨"ValueConnectorModel", "prepare", "(IJIIJ)I"⟩
def y_M_lock : MethodName := ⟨"ValueConnectorModel", "lock", "(J)J"⟩
def y_M_fulfil : MethodName := ⟨"ValueConnectorModel", "fulfil", "(IJ)I"⟩
def y_M_isTransfer : MethodName := ⟨"ValueConnectorModel", "isTransfer", "(I)Z"⟩
def y_M_settle : MethodName := ⟨"ValueConnectorModel", "settle", "(I)V"⟩
def y_M_power : MethodName := ⟨"ValueConnectorModel", "power", "(I)I"⟩
def y_M_reject : MethodName := ⟨"ValueConnectorModel", "reject", "(I)I"⟩
def y_M_giveBack : MethodName := ⟨"ValueConnectorModel", "giveBack", "(II)V"⟩
def y_M_advance : MethodName := ⟨"ValueConnectorModel", "advance", "(I)I"⟩
def y_M_credit : MethodName := ⟨"ValueConnectorModel", "credit", "(III)I"⟩
def y_M_balance : MethodName := ⟨"ValueConnectorModel", "balance", "(I)J"⟩
def y_M_position : MethodName := ⟨"ValueConnectorModel", "position", "()J"⟩
def y_M_state : MethodName := ⟨"ValueConnectorModel", "state", "(I)I"⟩
def y_M_transfer : MethodName := ⟨"ValueConnectorModel", "transfer", "(II)J"⟩
def y_M_settlement : MethodName := ⟨"ValueConnectorModel", "settlement", "(I)J"⟩
def y_M_drops : MethodName := ⟨"ValueConnectorModel", "drops", "(I)I"⟩
theorem w_24 : (Jvm.Cond.methodLink "ValueConnector$RouteTable" (3 : Nat) ({ cls := "java/lang/Object", name := "<init>", desc := "()V" } : Jvm.MethodName)) ∈ oWS := oat 40 (by decide +kernel) rfl
theorem w_15 : (Jvm.Cond.instanceMethod ({ cls := "java/lang/Object", name := "<init>", desc := "()V" } : Jvm.MethodName)) ∈ oWS := oat 31 (by decide +kernel) rfl
theorem w_16 : (Jvm.Cond.code Lib.objectInit ⟨#[0xb1]⟩ 1 none) ∈ oWS := oat 32 (by decide +kernel) rfl
theorem w_38 : (Jvm.Cond.arrayClass Jvm.ClassFile.FieldType.int) ∈ oWS := oat 54 (by decide +kernel) rfl
theorem w_25 : (Jvm.Cond.fieldLink "ValueConnector$RouteTable" (9 : Nat) "ValueConnector$RouteTable" "owners" "[I") ∈ oWS := oat 41 (by decide +kernel) rfl
theorem p_R_9 : Fp "ValueConnector$RouteTable" 9 2 0 (.array .int) true := ⟨_, _, _, ty_R, rfl, uw_R, by decide, w_25, ok_R, nm_R, by decide +kernel, rfl, fun _ => rfl⟩
theorem w_39 : (Jvm.Cond.arrayClass Jvm.ClassFile.FieldType.long) ∈ oWS := oat 55 (by decide +kernel) rfl
theorem w_26 : (Jvm.Cond.fieldLink "ValueConnector$RouteTable" (15 : Nat) "ValueConnector$RouteTable" "prefixes" "[J") ∈ oWS := oat 42 (by decide +kernel) rfl
theorem p_R_15 : Fp "ValueConnector$RouteTable" 15 2 1 (.array .long) true := ⟨_, _, _, ty_R, rfl, uw_R, by decide, w_26, ok_R, nm_R, by decide +kernel, rfl, fun _ => rfl⟩
theorem w_27 : (Jvm.Cond.fieldLink "ValueConnector$RouteTable" (19 : Nat) "ValueConnector$RouteTable" "distances" "[I") ∈ oWS := oat 43 (by decide +kernel) rfl
theorem p_R_19 : Fp "ValueConnector$RouteTable" 19 2 2 (.array .int) true := ⟨_, _, _, ty_R, rfl, uw_R, by decide, w_27, ok_R, nm_R, by decide +kernel, rfl, fun _ => rfl⟩
theorem w_28 : (Jvm.Cond.fieldLink "ValueConnector$RouteTable" (22 : Nat) "ValueConnector$RouteTable" "count" "I") ∈ oWS := oat 44 (by decide +kernel) rfl
theorem p_R_22 : Fp "ValueConnector$RouteTable" 22 2 3 (.int) false := ⟨_, _, _, ty_R, rfl, uw_R, by decide, w_28, ok_R, nm_R, by decide +kernel, rfl, fun z => by cases z⟩
theorem w_14 : (Jvm.Cond.methodLink "ValueConnector" (1 : Nat) ({ cls := "java/lang/Object", name := "<init>", desc := "()V" } : Jvm.MethodName)) ∈ oWS := oat 30 (by decide +kernel) rfl
theorem w_17 : (Jvm.Cond.classLink "ValueConnector" (9 : Nat) "ValueConnector$Account") ∈ oWS := oat 33 (by decide +kernel) rfl
theorem w_48 : (Jvm.Cond.fieldLink "ValueConnector" (11 : Nat) "ValueConnector" "accounts" "[LValueConnector$Account;") ∈ oWS := oat 64 (by decide +kernel) rfl
theorem p_X_11 : Fp "ValueConnector" 11 1 2 (.array (.object "ValueConnector$Account")) true := ⟨_, _, _, ty_X, rfl, uw_X, by decide, w_48, ok_X, nm_X, by decide +kernel, rfl, fun _ => rfl⟩
theorem w_19 : (Jvm.Cond.classLink "ValueConnector" (15 : Nat) "ValueConnector$RouteTable") ∈ oWS := oat 35 (by decide +kernel) rfl
theorem w_20 : (Jvm.Cond.instantiable "ValueConnector$RouteTable" (4 : Nat)) ∈ oWS := oat 36 (by decide +kernel) rfl
theorem w_2 : (Jvm.Cond.initialized "ValueConnector$RouteTable") ∈ oWS := oat 18 (by decide +kernel) rfl
theorem n_X_15 : Nk "ValueConnector" 15 2 4 (fl_42 (fun _ => 0) (fun _ => 0) (fun _ => none)) := ⟨_, _, ty_R, rfl, uw_R, ok_R, w_19, w_20, w_2, fun j hj => by
  have h9 : j = 0 ∨ j = 1 ∨ j = 2 ∨ j = 3 := by omega
  rcases h9 with rfl | rfl | rfl | rfl <;> rfl⟩
theorem w_23 : (Jvm.Cond.code ({ cls := "ValueConnector$RouteTable", name := "<init>", desc := "()V" } : Jvm.MethodName) prog_5_method_1_code (1 : Nat) (Option.none : Option Jvm.ClassFile.FieldType)) ∈ oWS := oat 39 (by decide +kernel) rfl
theorem w_22 : (Jvm.Cond.instanceMethod ({ cls := "ValueConnector$RouteTable", name := "<init>", desc := "()V" } : Jvm.MethodName)) ∈ oWS := oat 38 (by decide +kernel) rfl
theorem k_X_17 : Kin "ValueConnector" 17 "ValueConnector" y_R_init prog_5_method_1_code 1 0 := ⟨(List.mem_of_getElem? (i := 0) rfl), w_22, w_2, w_23, ⟨by decide, by decide, by decide +kernel⟩, rfl⟩
theorem w_49 : (Jvm.Cond.fieldLink "ValueConnector" (18 : Nat) "ValueConnector" "routes" "LValueConnector$RouteTable;") ∈ oWS := oat 65 (by decide +kernel) rfl
theorem p_X_18 : Fp "ValueConnector" 18 1 3 (.object "ValueConnector$RouteTable") true := ⟨_, _, _, ty_X, rfl, uw_X, by decide, w_49, ok_X, nm_X, by decide +kernel, rfl, fun _ => rfl⟩
theorem w_40 : (Jvm.Cond.classLink "ValueConnector" (22 : Nat) "ValueConnector$Transfer") ∈ oWS := oat 56 (by decide +kernel) rfl
theorem w_50 : (Jvm.Cond.fieldLink "ValueConnector" (24 : Nat) "ValueConnector" "transfers" "[LValueConnector$Transfer;") ∈ oWS := oat 66 (by decide +kernel) rfl
theorem p_X_24 : Fp "ValueConnector" 24 1 4 (.array (.object "ValueConnector$Transfer")) true := ⟨_, _, _, ty_X, rfl, uw_X, by decide, w_50, ok_X, nm_X, by decide +kernel, rfl, fun _ => rfl⟩
theorem w_51 : (Jvm.Cond.fieldLink "ValueConnector" (28 : Nat) "ValueConnector" "settlements" "[J") ∈ oWS := oat 67 (by decide +kernel) rfl
theorem p_X_28 : Fp "ValueConnector" 28 1 5 (.array .long) true := ⟨_, _, _, ty_X, rfl, uw_X, by decide, w_51, ok_X, nm_X, by decide +kernel, rfl, fun _ => rfl⟩
theorem w_52 : (Jvm.Cond.fieldLink "ValueConnector" (32 : Nat) "ValueConnector" "accountCount" "I") ∈ oWS := oat 68 (by decide +kernel) rfl
theorem p_X_32 : Fp "ValueConnector" 32 1 6 (.int) false := ⟨_, _, _, ty_X, rfl, uw_X, by decide, w_52, ok_X, nm_X, by decide +kernel, rfl, fun z => by cases z⟩
theorem w_53 : (Jvm.Cond.fieldLink "ValueConnector" (36 : Nat) "ValueConnector" "transferCount" "I") ∈ oWS := oat 69 (by decide +kernel) rfl
theorem p_X_36 : Fp "ValueConnector" 36 1 7 (.int) false := ⟨_, _, _, ty_X, rfl, uw_X, by decide, w_53, ok_X, nm_X, by decide +kernel, rfl, fun z => by cases z⟩
theorem w_54 : (Jvm.Cond.fieldLink "ValueConnector" (39 : Nat) "ValueConnector" "settlementCount" "I") ∈ oWS := oat 70 (by decide +kernel) rfl
theorem p_X_39 : Fp "ValueConnector" 39 1 8 (.int) false := ⟨_, _, _, ty_X, rfl, uw_X, by decide, w_54, ok_X, nm_X, by decide +kernel, rfl, fun z => by cases z⟩
theorem w_55 : (Jvm.Cond.fieldLink "ValueConnector" (42 : Nat) "ValueConnector" "spread" "I") ∈ oWS := oat 71 (by decide +kernel) rfl
theorem p_X_42 : Fp "ValueConnector" 42 1 9 (.int) false := ⟨_, _, _, ty_X, rfl, uw_X, by decide, w_55, ok_X, nm_X, by decide +kernel, rfl, fun z => by cases z⟩
theorem w_56 : (Jvm.Cond.fieldLink "ValueConnector" (45 : Nat) "ValueConnector" "now" "J") ∈ oWS := oat 72 (by decide +kernel) rfl
theorem p_X_45 : Fp "ValueConnector" 45 1 10 (.long) false := ⟨_, _, _, ty_X, rfl, uw_X, by decide, w_56, ok_X, nm_X, by decide +kernel, rfl, fun z => by cases z⟩
theorem w_1 : (Jvm.Cond.initialized "ValueConnector") ∈ oWS := oat 17 (by decide +kernel) rfl
theorem w_44 : (Jvm.Cond.code ({ cls := "ValueConnector", name := "isWithin", desc := "(III)Z" } : Jvm.MethodName) prog_1_method_29_code (3 : Nat) (Option.some Jvm.ClassFile.FieldType.boolean)) ∈ oWS := oat 60 (by decide +kernel) rfl
theorem w_42 : (Jvm.Cond.methodLink "ValueConnector" (49 : Nat) ({ cls := "ValueConnector", name := "isWithin", desc := "(III)Z" } : Jvm.MethodName)) ∈ oWS := oat 58 (by decide +kernel) rfl
theorem w_43 : (Jvm.Cond.static ({ cls := "ValueConnector", name := "isWithin", desc := "(III)Z" } : Jvm.MethodName)) ∈ oWS := oat 59 (by decide +kernel) rfl
theorem k_X_49 : Ks "ValueConnector" 49 y_X_isWithin prog_1_method_29_code 3 (some .boolean) 3 := ⟨w_42, w_43, w_1, w_44, ⟨by decide, by decide, by decide +kernel⟩⟩
theorem w_46 : (Jvm.Cond.fieldLink "ValueConnector" (53 : Nat) "ValueConnector" "margin" "I") ∈ oWS := oat 62 (by decide +kernel) rfl
theorem p_X_53 : Fp "ValueConnector" 53 1 0 (.int) true := ⟨_, _, _, ty_X, rfl, uw_X, by decide, w_46, ok_X, nm_X, by decide +kernel, rfl, fun _ => rfl⟩
theorem w_45 : (Jvm.Cond.constant "ValueConnector" (56 : Nat) (100000 : Int32)) ∈ oWS := oat 61 (by decide +kernel) rfl
theorem w_47 : (Jvm.Cond.fieldLink "ValueConnector" (57 : Nat) "ValueConnector" "hold" "I") ∈ oWS := oat 63 (by decide +kernel) rfl
theorem p_X_57 : Fp "ValueConnector" 57 1 1 (.int) true := ⟨_, _, _, ty_X, rfl, uw_X, by decide, w_47, ok_X, nm_X, by decide +kernel, rfl, fun _ => rfl⟩
theorem w_101 : (Jvm.Cond.fieldLink "ValueConnector$Bucket" (15 : Nat) "ValueConnector$Bucket" "most" "I") ∈ oWS := oat 117 (by decide +kernel) rfl
theorem p_B_15 : Fp "ValueConnector$Bucket" 15 4 0 (.int) false := ⟨_, _, _, ty_B, rfl, uw_B, by decide, w_101, ok_B, nm_B, by decide +kernel, rfl, fun z => by cases z⟩
theorem w_102 : (Jvm.Cond.fieldLink "ValueConnector$Bucket" (19 : Nat) "ValueConnector$Bucket" "flow" "I") ∈ oWS := oat 118 (by decide +kernel) rfl
theorem p_B_19 : Fp "ValueConnector$Bucket" 19 4 1 (.int) false := ⟨_, _, _, ty_B, rfl, uw_B, by decide, w_102, ok_B, nm_B, by decide +kernel, rfl, fun z => by cases z⟩
theorem f_B_15 : Fk "ValueConnector$Bucket" 15 4 0 := ⟨_, _, _, rfl, uw_B, by decide, w_101⟩
theorem w_103 : (Jvm.Cond.fieldLink "ValueConnector$Bucket" (22 : Nat) "ValueConnector$Bucket" "drops" "I") ∈ oWS := oat 119 (by decide +kernel) rfl
theorem p_B_22 : Fp "ValueConnector$Bucket" 22 4 2 (.int) false := ⟨_, _, _, ty_B, rfl, uw_B, by decide, w_103, ok_B, nm_B, by decide +kernel, rfl, fun z => by cases z⟩
theorem w_96 : (Jvm.Cond.methodLink "ValueConnector$Bucket" (3 : Nat) ({ cls := "java/lang/Object", name := "<init>", desc := "()V" } : Jvm.MethodName)) ∈ oWS := oat 112 (by decide +kernel) rfl
theorem w_5 : (Jvm.Cond.initialized "ValueConnector$Bucket") ∈ oWS := oat 21 (by decide +kernel) rfl
theorem w_100 : (Jvm.Cond.code ({ cls := "ValueConnector$Bucket", name := "renew", desc := "(II)V" } : Jvm.MethodName) prog_3_method_2_code (3 : Nat) (Option.none : Option Jvm.ClassFile.FieldType)) ∈ oWS := oat 116 (by decide +kernel) rfl
theorem w_97 : (Jvm.Cond.methodLink "ValueConnector$Bucket" (9 : Nat) ({ cls := "ValueConnector$Bucket", name := "renew", desc := "(II)V" } : Jvm.MethodName)) ∈ oWS := oat 113 (by decide +kernel) rfl
theorem w_98 : (Jvm.Cond.instanceMethod ({ cls := "ValueConnector$Bucket", name := "renew", desc := "(II)V" } : Jvm.MethodName)) ∈ oWS := oat 114 (by decide +kernel) rfl
theorem w_99 : (Jvm.Cond.selects "ValueConnector$Bucket" ({ cls := "ValueConnector$Bucket", name := "renew", desc := "(II)V" } : Jvm.MethodName) ({ cls := "ValueConnector$Bucket", name := "renew", desc := "(II)V" } : Jvm.MethodName)) ∈ oWS := oat 115 (by decide +kernel) rfl
theorem k_B_9 : Kv "ValueConnector$Bucket" 9 4 y_B_renew prog_3_method_2_code 3 none 2 := ⟨w_97, w_98, w_99, w_5, w_100, ⟨by decide, by decide, by decide +kernel⟩, _, _, rfl⟩
theorem w_117 : (Jvm.Cond.methodLink "ValueConnector$RecentKeys" (3 : Nat) ({ cls := "java/lang/Object", name := "<init>", desc := "()V" } : Jvm.MethodName)) ∈ oWS := oat 133 (by decide +kernel) rfl
theorem w_118 : (Jvm.Cond.fieldLink "ValueConnector$RecentKeys" (9 : Nat) "ValueConnector$RecentKeys" "keys" "[I") ∈ oWS := oat 134 (by decide +kernel) rfl
theorem p_K_9 : Fp "ValueConnector$RecentKeys" 9 5 0 (.array .int) true := ⟨_, _, _, ty_K, rfl, uw_K, by decide, w_118, ok_K, nm_K, by decide +kernel, rfl, fun _ => rfl⟩
theorem w_119 : (Jvm.Cond.fieldLink "ValueConnector$RecentKeys" (15 : Nat) "ValueConnector$RecentKeys" "count" "I") ∈ oWS := oat 135 (by decide +kernel) rfl
theorem p_K_15 : Fp "ValueConnector$RecentKeys" 15 5 1 (.int) false := ⟨_, _, _, ty_K, rfl, uw_K, by decide, w_119, ok_K, nm_K, by decide +kernel, rfl, fun z => by cases z⟩
theorem w_120 : (Jvm.Cond.fieldLink "ValueConnector$RecentKeys" (19 : Nat) "ValueConnector$RecentKeys" "oldest" "I") ∈ oWS := oat 136 (by decide +kernel) rfl
theorem p_K_19 : Fp "ValueConnector$RecentKeys" 19 5 2 (.int) false := ⟨_, _, _, ty_K, rfl, uw_K, by decide, w_120, ok_K, nm_K, by decide +kernel, rfl, fun z => by cases z⟩
theorem w_90 : (Jvm.Cond.methodLink "ValueConnector$Account" (3 : Nat) ({ cls := "java/lang/Object", name := "<init>", desc := "()V" } : Jvm.MethodName)) ∈ oWS := oat 106 (by decide +kernel) rfl
theorem w_91 : (Jvm.Cond.classLink "ValueConnector$Account" (9 : Nat) "ValueConnector$Bucket") ∈ oWS := oat 107 (by decide +kernel) rfl
theorem w_92 : (Jvm.Cond.instantiable "ValueConnector$Bucket" (3 : Nat)) ∈ oWS := oat 108 (by decide +kernel) rfl
theorem n_A_9 : Nk "ValueConnector$Account" 9 4 3 (fl_49 (fun _ => 0) (fun _ => 0) (fun _ => none)) := ⟨_, _, ty_B, rfl, uw_B, ok_B, w_91, w_92, w_5, fun j hj => by
  have h9 : j = 0 ∨ j = 1 ∨ j = 2 := by omega
  rcases h9 with rfl | rfl | rfl <;> rfl⟩
theorem w_95 : (Jvm.Cond.code ({ cls := "ValueConnector$Bucket", name := "<init>", desc := "()V" } : Jvm.MethodName) prog_3_method_1_code (1 : Nat) (Option.none : Option Jvm.ClassFile.FieldType)) ∈ oWS := oat 111 (by decide +kernel) rfl
theorem w_93 : (Jvm.Cond.methodLink "ValueConnector$Account" (11 : Nat) ({ cls := "ValueConnector$Bucket", name := "<init>", desc := "()V" } : Jvm.MethodName)) ∈ oWS := oat 109 (by decide +kernel) rfl
theorem w_94 : (Jvm.Cond.instanceMethod ({ cls := "ValueConnector$Bucket", name := "<init>", desc := "()V" } : Jvm.MethodName)) ∈ oWS := oat 110 (by decide +kernel) rfl
theorem k_A_11 : Ki "ValueConnector$Account" 11 y_B_init prog_3_method_1_code 1 0 := ⟨w_93, w_94, w_5, w_95, ⟨by decide, by decide, by decide +kernel⟩, rfl⟩
theorem w_134 : (Jvm.Cond.fieldLink "ValueConnector$Account" (12 : Nat) "ValueConnector$Account" "bucket" "LValueConnector$Bucket;") ∈ oWS := oat 150 (by decide +kernel) rfl
theorem p_A_12 : Fp "ValueConnector$Account" 12 3 3 (.object "ValueConnector$Bucket") true := ⟨_, _, _, ty_A, rfl, uw_A, by decide, w_134, ok_A, nm_A, by decide +kernel, rfl, fun _ => rfl⟩
theorem w_112 : (Jvm.Cond.classLink "ValueConnector$Account" (18 : Nat) "ValueConnector$RecentKeys") ∈ oWS := oat 128 (by decide +kernel) rfl
theorem w_113 : (Jvm.Cond.instantiable "ValueConnector$RecentKeys" (3 : Nat)) ∈ oWS := oat 129 (by decide +kernel) rfl
theorem w_6 : (Jvm.Cond.initialized "ValueConnector$RecentKeys") ∈ oWS := oat 22 (by decide +kernel) rfl
theorem n_A_18 : Nk "ValueConnector$Account" 18 5 3 (fl_50 (fun _ => 0) (fun _ => 0) (fun _ => none)) := ⟨_, _, ty_K, rfl, uw_K, ok_K, w_112, w_113, w_6, fun j hj => by
  have h9 : j = 0 ∨ j = 1 ∨ j = 2 := by omega
  rcases h9 with rfl | rfl | rfl <;> rfl⟩
theorem w_116 : (Jvm.Cond.code ({ cls := "ValueConnector$RecentKeys", name := "<init>", desc := "()V" } : Jvm.MethodName) prog_4_method_1_code (1 : Nat) (Option.none : Option Jvm.ClassFile.FieldType)) ∈ oWS := oat 132 (by decide +kernel) rfl
theorem w_115 : (Jvm.Cond.instanceMethod ({ cls := "ValueConnector$RecentKeys", name := "<init>", desc := "()V" } : Jvm.MethodName)) ∈ oWS := oat 131 (by decide +kernel) rfl
theorem k_A_20 : Kin "ValueConnector$Account" 20 "ValueConnector" y_K_init prog_4_method_1_code 1 0 := ⟨(List.mem_of_getElem? (i := 1) rfl), w_115, w_6, w_116, ⟨by decide, by decide, by decide +kernel⟩, rfl⟩
theorem w_136 : (Jvm.Cond.fieldLink "ValueConnector$Account" (21 : Nat) "ValueConnector$Account" "creditKeys" "LValueConnector$RecentKeys;") ∈ oWS := oat 152 (by decide +kernel) rfl
theorem p_A_21 : Fp "ValueConnector$Account" 21 3 4 (.object "ValueConnector$RecentKeys") true := ⟨_, _, _, ty_A, rfl, uw_A, by decide, w_136, ok_A, nm_A, by decide +kernel, rfl, fun _ => rfl⟩
theorem w_140 : (Jvm.Cond.fieldLink "ValueConnector$Account" (25 : Nat) "ValueConnector$Account" "balance" "J") ∈ oWS := oat 156 (by decide +kernel) rfl
theorem p_A_25 : Fp "ValueConnector$Account" 25 3 6 (.long) false := ⟨_, _, _, ty_A, rfl, uw_A, by decide, w_140, ok_A, nm_A, by decide +kernel, rfl, fun z => by cases z⟩
theorem w_143 : (Jvm.Cond.fieldLink "ValueConnector$Account" (29 : Nat) "ValueConnector$Account" "threshold" "I") ∈ oWS := oat 159 (by decide +kernel) rfl
theorem p_A_29 : Fp "ValueConnector$Account" 29 3 7 (.int) false := ⟨_, _, _, ty_A, rfl, uw_A, by decide, w_143, ok_A, nm_A, by decide +kernel, rfl, fun z => by cases z⟩
theorem w_145 : (Jvm.Cond.fieldLink "ValueConnector$Account" (33 : Nat) "ValueConnector$Account" "target" "I") ∈ oWS := oat 161 (by decide +kernel) rfl
theorem p_A_33 : Fp "ValueConnector$Account" 33 3 8 (.int) false := ⟨_, _, _, ty_A, rfl, uw_A, by decide, w_145, ok_A, nm_A, by decide +kernel, rfl, fun z => by cases z⟩
theorem w_147 : (Jvm.Cond.fieldLink "ValueConnector$Account" (36 : Nat) "ValueConnector$Account" "unit" "I") ∈ oWS := oat 163 (by decide +kernel) rfl
theorem p_A_36 : Fp "ValueConnector$Account" 36 3 9 (.int) false := ⟨_, _, _, ty_A, rfl, uw_A, by decide, w_147, ok_A, nm_A, by decide +kernel, rfl, fun z => by cases z⟩
theorem w_149 : (Jvm.Cond.fieldLink "ValueConnector$Account" (39 : Nat) "ValueConnector$Account" "rest" "J") ∈ oWS := oat 165 (by decide +kernel) rfl
theorem p_A_39 : Fp "ValueConnector$Account" 39 3 10 (.long) false := ⟨_, _, _, ty_A, rfl, uw_A, by decide, w_149, ok_A, nm_A, by decide +kernel, rfl, fun z => by cases z⟩
theorem w_128 : (Jvm.Cond.fieldLink "ValueConnector$Account" (42 : Nat) "ValueConnector$Account" "number" "I") ∈ oWS := oat 144 (by decide +kernel) rfl
theorem p_A_42 : Fp "ValueConnector$Account" 42 3 0 (.int) true := ⟨_, _, _, ty_A, rfl, uw_A, by decide, w_128, ok_A, nm_A, by decide +kernel, rfl, fun _ => rfl⟩
theorem w_130 : (Jvm.Cond.fieldLink "ValueConnector$Account" (45 : Nat) "ValueConnector$Account" "minimum" "I") ∈ oWS := oat 146 (by decide +kernel) rfl
theorem p_A_45 : Fp "ValueConnector$Account" 45 3 1 (.int) true := ⟨_, _, _, ty_A, rfl, uw_A, by decide, w_130, ok_A, nm_A, by decide +kernel, rfl, fun _ => rfl⟩
theorem w_132 : (Jvm.Cond.fieldLink "ValueConnector$Account" (48 : Nat) "ValueConnector$Account" "limit" "I") ∈ oWS := oat 148 (by decide +kernel) rfl
theorem p_A_48 : Fp "ValueConnector$Account" 48 3 2 (.int) true := ⟨_, _, _, ty_A, rfl, uw_A, by decide, w_132, ok_A, nm_A, by decide +kernel, rfl, fun _ => rfl⟩
theorem w_138 : (Jvm.Cond.fieldLink "ValueConnector$Account" (51 : Nat) "ValueConnector$Account" "worth" "I") ∈ oWS := oat 154 (by decide +kernel) rfl
theorem p_A_51 : Fp "ValueConnector$Account" 51 3 5 (.int) false := ⟨_, _, _, ty_A, rfl, uw_A, by decide, w_138, ok_A, nm_A, by decide +kernel, rfl, fun z => by cases z⟩
theorem f_X_32 : Fk "ValueConnector" 32 1 6 := ⟨_, _, _, rfl, uw_X, by decide, w_52⟩
theorem w_84 : (Jvm.Cond.constant "ValueConnector" (60 : Nat) (-1000000000 : Int32)) ∈ oWS := oat 100 (by decide +kernel) rfl
theorem w_85 : (Jvm.Cond.constant "ValueConnector" (61 : Nat) (1000000000 : Int32)) ∈ oWS := oat 101 (by decide +kernel) rfl
theorem f_X_11 : Fk "ValueConnector" 11 1 2 := ⟨_, _, _, rfl, uw_X, by decide, w_48⟩
theorem w_86 : (Jvm.Cond.instantiable "ValueConnector$Account" (11 : Nat)) ∈ oWS := oat 102 (by decide +kernel) rfl
theorem w_4 : (Jvm.Cond.initialized "ValueConnector$Account") ∈ oWS := oat 20 (by decide +kernel) rfl
theorem n_X_9 : Nk "ValueConnector" 9 3 11 (fl_48 (fun _ => 0) (fun _ => 0) (fun _ => none)) := ⟨_, _, ty_A, rfl, uw_A, ok_A, w_17, w_86, w_4, fun j hj => by
  have h9 : j = 0 ∨ j = 1 ∨ j = 2 ∨ j = 3 ∨ j = 4 ∨ j = 5 ∨ j = 6 ∨ j = 7 ∨ j = 8 ∨ j = 9 ∨ j = 10 := by omega
  rcases h9 with rfl | rfl | rfl | rfl | rfl | rfl | rfl | rfl | rfl | rfl | rfl <;> rfl⟩
theorem w_89 : (Jvm.Cond.code ({ cls := "ValueConnector$Account", name := "<init>", desc := "(IIII)V" } : Jvm.MethodName) prog_2_method_1_code (5 : Nat) (Option.none : Option Jvm.ClassFile.FieldType)) ∈ oWS := oat 105 (by decide +kernel) rfl
theorem w_87 : (Jvm.Cond.methodLink "ValueConnector" (62 : Nat) ({ cls := "ValueConnector$Account", name := "<init>", desc := "(IIII)V" } : Jvm.MethodName)) ∈ oWS := oat 103 (by decide +kernel) rfl
theorem w_88 : (Jvm.Cond.instanceMethod ({ cls := "ValueConnector$Account", name := "<init>", desc := "(IIII)V" } : Jvm.MethodName)) ∈ oWS := oat 104 (by decide +kernel) rfl
theorem k_X_62 : Ki "ValueConnector" 62 y_A_init prog_2_method_1_code 5 4 := ⟨w_87, w_88, w_4, w_89, ⟨by decide, by decide, by decide +kernel⟩, rfl⟩
theorem w_180 : (Jvm.Cond.code ({ cls := "ValueConnector", name := "accountNumbered", desc := "(I)LValueConnector$Account;" } : Jvm.MethodName) prog_1_method_22_code (2 : Nat) (Option.some (Jvm.ClassFile.FieldType.object "ValueConnector$Account"))) ∈ oWS := oat 196 (by decide +kernel) rfl
theorem w_177 : (Jvm.Cond.methodLink "ValueConnector" (65 : Nat) ({ cls := "ValueConnector", name := "accountNumbered", desc := "(I)LValueConnector$Account;" } : Jvm.MethodName)) ∈ oWS := oat 193 (by decide +kernel) rfl
theorem w_179 : (Jvm.Cond.instanceMethod ({ cls := "ValueConnector", name := "accountNumbered", desc := "(I)LValueConnector$Account;" } : Jvm.MethodName)) ∈ oWS := oat 195 (by decide +kernel) rfl
theorem ws_0 : (Jvm.Cond.selects "ValueConnector" ({ cls := "ValueConnector", name := "accountNumbered", desc := "(I)LValueConnector$Account;" } : Jvm.MethodName) ({ cls := "ValueConnector", name := "accountNumbered", desc := "(I)LValueConnector$Account;" } : Jvm.MethodName)) ∈ oWS := oat 0 (by decide +kernel) rfl
theorem k_X_65 : Kv "ValueConnector" 65 1 y_X_accountNumbered prog_1_method_22_code 2 (some (.object "ValueConnector$Account")) 1 := ⟨w_177, w_179, ws_0, w_1, w_180, ⟨by decide, by decide, by decide +kernel⟩, _, _, rfl⟩
theorem w_139 : (Jvm.Cond.fieldLink "ValueConnector" (69 : Nat) "ValueConnector$Account" "worth" "I") ∈ oWS := oat 155 (by decide +kernel) rfl
theorem p_X_69 : Fp "ValueConnector" 69 3 5 (.int) false := ⟨_, _, _, ty_A, rfl, uw_A, by decide, w_139, ok_A, nm_A, by decide +kernel, rfl, fun z => by cases z⟩
theorem w_131 : (Jvm.Cond.fieldLink "ValueConnector" (72 : Nat) "ValueConnector$Account" "minimum" "I") ∈ oWS := oat 147 (by decide +kernel) rfl
theorem f_X_72 : Fk "ValueConnector" 72 3 1 := ⟨_, _, _, rfl, uw_A, by decide, w_131⟩
theorem w_189 : (Jvm.Cond.fieldLink "ValueConnector" (75 : Nat) "ValueConnector" "POWERS_OF_TEN" "[I") ∈ oWS := oat 205 (by decide +kernel) rfl
theorem w_144 : (Jvm.Cond.fieldLink "ValueConnector" (79 : Nat) "ValueConnector$Account" "threshold" "I") ∈ oWS := oat 160 (by decide +kernel) rfl
theorem p_X_79 : Fp "ValueConnector" 79 3 7 (.int) false := ⟨_, _, _, ty_A, rfl, uw_A, by decide, w_144, ok_A, nm_A, by decide +kernel, rfl, fun z => by cases z⟩
theorem w_146 : (Jvm.Cond.fieldLink "ValueConnector" (82 : Nat) "ValueConnector$Account" "target" "I") ∈ oWS := oat 162 (by decide +kernel) rfl
theorem p_X_82 : Fp "ValueConnector" 82 3 8 (.int) false := ⟨_, _, _, ty_A, rfl, uw_A, by decide, w_146, ok_A, nm_A, by decide +kernel, rfl, fun z => by cases z⟩
theorem w_148 : (Jvm.Cond.fieldLink "ValueConnector" (85 : Nat) "ValueConnector$Account" "unit" "I") ∈ oWS := oat 164 (by decide +kernel) rfl
theorem p_X_85 : Fp "ValueConnector" 85 3 9 (.int) false := ⟨_, _, _, ty_A, rfl, uw_A, by decide, w_148, ok_A, nm_A, by decide +kernel, rfl, fun z => by cases z⟩
theorem w_135 : (Jvm.Cond.fieldLink "ValueConnector" (88 : Nat) "ValueConnector$Account" "bucket" "LValueConnector$Bucket;") ∈ oWS := oat 151 (by decide +kernel) rfl
theorem f_X_88 : Fk "ValueConnector" 88 3 3 := ⟨_, _, _, rfl, uw_A, by decide, w_135⟩
theorem w_195 : (Jvm.Cond.methodLink "ValueConnector" (92 : Nat) ({ cls := "ValueConnector$Bucket", name := "renew", desc := "(II)V" } : Jvm.MethodName)) ∈ oWS := oat 211 (by decide +kernel) rfl
theorem k_X_92 : Kv "ValueConnector" 92 4 y_B_renew prog_3_method_2_code 3 none 2 := ⟨w_195, w_98, w_99, w_5, w_100, ⟨by decide, by decide, by decide +kernel⟩, _, _, rfl⟩
theorem w_207 : (Jvm.Cond.constantLong "ValueConnector" (226 : Nat) (97 : Int64)) ∈ oWS := oat 223 (by decide +kernel) rfl
theorem w_208 : (Jvm.Cond.constantLong "ValueConnector" (228 : Nat) (122 : Int64)) ∈ oWS := oat 224 (by decide +kernel) rfl
theorem w_203 : (Jvm.Cond.constantLong "ValueConnector" (221 : Nat) (255 : Int64)) ∈ oWS := oat 219 (by decide +kernel) rfl
theorem w_206 : (Jvm.Cond.code ({ cls := "ValueConnector", name := "isLetter", desc := "(J)Z" } : Jvm.MethodName) prog_1_method_32_code (2 : Nat) (Option.some Jvm.ClassFile.FieldType.boolean)) ∈ oWS := oat 222 (by decide +kernel) rfl
theorem w_204 : (Jvm.Cond.methodLink "ValueConnector" (223 : Nat) ({ cls := "ValueConnector", name := "isLetter", desc := "(J)Z" } : Jvm.MethodName)) ∈ oWS := oat 220 (by decide +kernel) rfl
theorem w_205 : (Jvm.Cond.static ({ cls := "ValueConnector", name := "isLetter", desc := "(J)Z" } : Jvm.MethodName)) ∈ oWS := oat 221 (by decide +kernel) rfl
theorem k_X_223 : Ks "ValueConnector" 223 y_X_isLetter prog_1_method_32_code 2 (some .boolean) 1 := ⟨w_204, w_205, w_1, w_206, ⟨by decide, by decide, by decide +kernel⟩⟩
theorem f_R_22 : Fk "ValueConnector$RouteTable" 22 2 3 := ⟨_, _, _, rfl, uw_R, by decide, w_28⟩
theorem f_R_9 : Fk "ValueConnector$RouteTable" 9 2 0 := ⟨_, _, _, rfl, uw_R, by decide, w_25⟩
theorem f_R_15 : Fk "ValueConnector$RouteTable" 15 2 1 := ⟨_, _, _, rfl, uw_R, by decide, w_26⟩
theorem w_216 : (Jvm.Cond.code ({ cls := "ValueConnector$RouteTable", name := "placeOf", desc := "(IJ)I" } : Jvm.MethodName) prog_5_method_5_code (5 : Nat) (Option.some Jvm.ClassFile.FieldType.int)) ∈ oWS := oat 232 (by decide +kernel) rfl
theorem w_213 : (Jvm.Cond.methodLink "ValueConnector$RouteTable" (26 : Nat) ({ cls := "ValueConnector$RouteTable", name := "placeOf", desc := "(IJ)I" } : Jvm.MethodName)) ∈ oWS := oat 229 (by decide +kernel) rfl
theorem w_215 : (Jvm.Cond.instanceMethod ({ cls := "ValueConnector$RouteTable", name := "placeOf", desc := "(IJ)I" } : Jvm.MethodName)) ∈ oWS := oat 231 (by decide +kernel) rfl
theorem ws_1 : (Jvm.Cond.selects "ValueConnector$RouteTable" ({ cls := "ValueConnector$RouteTable", name := "placeOf", desc := "(IJ)I" } : Jvm.MethodName) ({ cls := "ValueConnector$RouteTable", name := "placeOf", desc := "(IJ)I" } : Jvm.MethodName)) ∈ oWS := oat 1 (by decide +kernel) rfl
theorem k_R_26 : Kv "ValueConnector$RouteTable" 26 2 y_R_placeOf prog_5_method_5_code 5 (some .int) 2 := ⟨w_213, w_215, ws_1, w_2, w_216, ⟨by decide, by decide, by decide +kernel⟩, _, _, rfl⟩
theorem f_R_19 : Fk "ValueConnector$RouteTable" 19 2 2 := ⟨_, _, _, rfl, uw_R, by decide, w_27⟩
theorem w_202 : (Jvm.Cond.code ({ cls := "ValueConnector", name := "letterCount", desc := "(J)I" } : Jvm.MethodName) prog_1_method_31_code (5 : Nat) (Option.some Jvm.ClassFile.FieldType.int)) ∈ oWS := oat 218 (by decide +kernel) rfl
theorem w_200 : (Jvm.Cond.methodLink "ValueConnector" (98 : Nat) ({ cls := "ValueConnector", name := "letterCount", desc := "(J)I" } : Jvm.MethodName)) ∈ oWS := oat 216 (by decide +kernel) rfl
theorem w_201 : (Jvm.Cond.static ({ cls := "ValueConnector", name := "letterCount", desc := "(J)I" } : Jvm.MethodName)) ∈ oWS := oat 217 (by decide +kernel) rfl
theorem k_X_98 : Ks "ValueConnector" 98 y_X_letterCount prog_1_method_31_code 5 (some .int) 1 := ⟨w_200, w_201, w_1, w_202, ⟨by decide, by decide, by decide +kernel⟩⟩
theorem f_X_18 : Fk "ValueConnector" 18 1 3 := ⟨_, _, _, rfl, uw_X, by decide, w_49⟩
theorem w_212 : (Jvm.Cond.code ({ cls := "ValueConnector$RouteTable", name := "enter", desc := "(IJI)Z" } : Jvm.MethodName) prog_5_method_2_code (6 : Nat) (Option.some Jvm.ClassFile.FieldType.boolean)) ∈ oWS := oat 228 (by decide +kernel) rfl
theorem w_209 : (Jvm.Cond.methodLink "ValueConnector" (102 : Nat) ({ cls := "ValueConnector$RouteTable", name := "enter", desc := "(IJI)Z" } : Jvm.MethodName)) ∈ oWS := oat 225 (by decide +kernel) rfl
theorem w_210 : (Jvm.Cond.instanceMethod ({ cls := "ValueConnector$RouteTable", name := "enter", desc := "(IJI)Z" } : Jvm.MethodName)) ∈ oWS := oat 226 (by decide +kernel) rfl
theorem w_211 : (Jvm.Cond.selects "ValueConnector$RouteTable" ({ cls := "ValueConnector$RouteTable", name := "enter", desc := "(IJI)Z" } : Jvm.MethodName) ({ cls := "ValueConnector$RouteTable", name := "enter", desc := "(IJI)Z" } : Jvm.MethodName)) ∈ oWS := oat 227 (by decide +kernel) rfl
theorem k_X_102 : Kv "ValueConnector" 102 2 y_R_enter prog_5_method_2_code 6 (some .boolean) 3 := ⟨w_209, w_210, w_211, w_2, w_212, ⟨by decide, by decide, by decide +kernel⟩, _, _, rfl⟩
theorem w_224 : (Jvm.Cond.code ({ cls := "ValueConnector$RouteTable", name := "strike", desc := "(IJ)Z" } : Jvm.MethodName) prog_5_method_3_code (5 : Nat) (Option.some Jvm.ClassFile.FieldType.boolean)) ∈ oWS := oat 240 (by decide +kernel) rfl
theorem w_221 : (Jvm.Cond.methodLink "ValueConnector" (106 : Nat) ({ cls := "ValueConnector$RouteTable", name := "strike", desc := "(IJ)Z" } : Jvm.MethodName)) ∈ oWS := oat 237 (by decide +kernel) rfl
theorem w_222 : (Jvm.Cond.instanceMethod ({ cls := "ValueConnector$RouteTable", name := "strike", desc := "(IJ)Z" } : Jvm.MethodName)) ∈ oWS := oat 238 (by decide +kernel) rfl
theorem w_223 : (Jvm.Cond.selects "ValueConnector$RouteTable" ({ cls := "ValueConnector$RouteTable", name := "strike", desc := "(IJ)Z" } : Jvm.MethodName) ({ cls := "ValueConnector$RouteTable", name := "strike", desc := "(IJ)Z" } : Jvm.MethodName)) ∈ oWS := oat 239 (by decide +kernel) rfl
theorem k_X_106 : Kv "ValueConnector" 106 2 y_R_strike prog_5_method_3_code 5 (some .boolean) 2 := ⟨w_221, w_222, w_223, w_2, w_224, ⟨by decide, by decide, by decide +kernel⟩, _, _, rfl⟩
theorem w_247 : (Jvm.Cond.code ({ cls := "ValueConnector$RouteTable", name := "isNearer", desc := "(II)Z" } : Jvm.MethodName) prog_5_method_7_code (3 : Nat) (Option.some Jvm.ClassFile.FieldType.boolean)) ∈ oWS := oat 263 (by decide +kernel) rfl
theorem w_244 : (Jvm.Cond.methodLink "ValueConnector$RouteTable" (41 : Nat) ({ cls := "ValueConnector$RouteTable", name := "isNearer", desc := "(II)Z" } : Jvm.MethodName)) ∈ oWS := oat 260 (by decide +kernel) rfl
theorem w_246 : (Jvm.Cond.instanceMethod ({ cls := "ValueConnector$RouteTable", name := "isNearer", desc := "(II)Z" } : Jvm.MethodName)) ∈ oWS := oat 262 (by decide +kernel) rfl
theorem ws_3 : (Jvm.Cond.selects "ValueConnector$RouteTable" ({ cls := "ValueConnector$RouteTable", name := "isNearer", desc := "(II)Z" } : Jvm.MethodName) ({ cls := "ValueConnector$RouteTable", name := "isNearer", desc := "(II)Z" } : Jvm.MethodName)) ∈ oWS := oat 3 (by decide +kernel) rfl
theorem k_R_41 : Kv "ValueConnector$RouteTable" 41 2 y_R_isNearer prog_5_method_7_code 3 (some .boolean) 2 := ⟨w_244, w_246, ws_3, w_2, w_247, ⟨by decide, by decide, by decide +kernel⟩, _, _, rfl⟩
theorem k_R_30 : Ksn "ValueConnector$RouteTable" 30 "ValueConnector" y_X_letterCount prog_1_method_31_code 5 (some .int) 1 := ⟨(List.mem_of_getElem? (i := 2) rfl), w_201, w_1, w_202, ⟨by decide, by decide, by decide +kernel⟩⟩
theorem w_239 : (Jvm.Cond.code ({ cls := "ValueConnector$RouteTable", name := "firstLetters", desc := "(JI)J" } : Jvm.MethodName) prog_5_method_8_code (3 : Nat) (Option.some Jvm.ClassFile.FieldType.long)) ∈ oWS := oat 255 (by decide +kernel) rfl
theorem w_237 : (Jvm.Cond.methodLink "ValueConnector$RouteTable" (34 : Nat) ({ cls := "ValueConnector$RouteTable", name := "firstLetters", desc := "(JI)J" } : Jvm.MethodName)) ∈ oWS := oat 253 (by decide +kernel) rfl
theorem w_238 : (Jvm.Cond.static ({ cls := "ValueConnector$RouteTable", name := "firstLetters", desc := "(JI)J" } : Jvm.MethodName)) ∈ oWS := oat 254 (by decide +kernel) rfl
theorem k_R_34 : Ks "ValueConnector$RouteTable" 34 y_R_firstLetters prog_5_method_8_code 3 (some .long) 2 := ⟨w_237, w_238, w_2, w_239, ⟨by decide, by decide, by decide +kernel⟩⟩
theorem w_243 : (Jvm.Cond.code ({ cls := "ValueConnector$RouteTable", name := "nearest", desc := "(J)I" } : Jvm.MethodName) prog_5_method_6_code (5 : Nat) (Option.some Jvm.ClassFile.FieldType.int)) ∈ oWS := oat 259 (by decide +kernel) rfl
theorem w_240 : (Jvm.Cond.methodLink "ValueConnector$RouteTable" (38 : Nat) ({ cls := "ValueConnector$RouteTable", name := "nearest", desc := "(J)I" } : Jvm.MethodName)) ∈ oWS := oat 256 (by decide +kernel) rfl
theorem w_242 : (Jvm.Cond.instanceMethod ({ cls := "ValueConnector$RouteTable", name := "nearest", desc := "(J)I" } : Jvm.MethodName)) ∈ oWS := oat 258 (by decide +kernel) rfl
theorem ws_2 : (Jvm.Cond.selects "ValueConnector$RouteTable" ({ cls := "ValueConnector$RouteTable", name := "nearest", desc := "(J)I" } : Jvm.MethodName) ({ cls := "ValueConnector$RouteTable", name := "nearest", desc := "(J)I" } : Jvm.MethodName)) ∈ oWS := oat 2 (by decide +kernel) rfl
theorem k_R_38 : Kv "ValueConnector$RouteTable" 38 2 y_R_nearest prog_5_method_6_code 5 (some .int) 1 := ⟨w_240, w_242, ws_2, w_2, w_243, ⟨by decide, by decide, by decide +kernel⟩, _, _, rfl⟩
theorem w_231 : (Jvm.Cond.code ({ cls := "ValueConnector", name := "isAddress", desc := "(J)Z" } : Jvm.MethodName) prog_1_method_30_code (2 : Nat) (Option.some Jvm.ClassFile.FieldType.boolean)) ∈ oWS := oat 247 (by decide +kernel) rfl
theorem w_229 : (Jvm.Cond.methodLink "ValueConnector" (110 : Nat) ({ cls := "ValueConnector", name := "isAddress", desc := "(J)Z" } : Jvm.MethodName)) ∈ oWS := oat 245 (by decide +kernel) rfl
theorem w_230 : (Jvm.Cond.static ({ cls := "ValueConnector", name := "isAddress", desc := "(J)Z" } : Jvm.MethodName)) ∈ oWS := oat 246 (by decide +kernel) rfl
theorem k_X_110 : Ks "ValueConnector" 110 y_X_isAddress prog_1_method_30_code 2 (some .boolean) 1 := ⟨w_229, w_230, w_1, w_231, ⟨by decide, by decide, by decide +kernel⟩⟩
theorem w_235 : (Jvm.Cond.code ({ cls := "ValueConnector$RouteTable", name := "accountFor", desc := "(J)I" } : Jvm.MethodName) prog_5_method_4_code (5 : Nat) (Option.some Jvm.ClassFile.FieldType.int)) ∈ oWS := oat 251 (by decide +kernel) rfl
theorem w_232 : (Jvm.Cond.methodLink "ValueConnector" (114 : Nat) ({ cls := "ValueConnector$RouteTable", name := "accountFor", desc := "(J)I" } : Jvm.MethodName)) ∈ oWS := oat 248 (by decide +kernel) rfl
theorem w_233 : (Jvm.Cond.instanceMethod ({ cls := "ValueConnector$RouteTable", name := "accountFor", desc := "(J)I" } : Jvm.MethodName)) ∈ oWS := oat 249 (by decide +kernel) rfl
theorem w_234 : (Jvm.Cond.selects "ValueConnector$RouteTable" ({ cls := "ValueConnector$RouteTable", name := "accountFor", desc := "(J)I" } : Jvm.MethodName) ({ cls := "ValueConnector$RouteTable", name := "accountFor", desc := "(J)I" } : Jvm.MethodName)) ∈ oWS := oat 250 (by decide +kernel) rfl
theorem k_X_114 : Kv "ValueConnector" 114 2 y_R_accountFor prog_5_method_4_code 5 (some .int) 1 := ⟨w_232, w_233, w_234, w_2, w_235, ⟨by decide, by decide, by decide +kernel⟩, _, _, rfl⟩
theorem f_B_22 : Fk "ValueConnector$Bucket" 22 4 2 := ⟨_, _, _, rfl, uw_B, by decide, w_103⟩
theorem f_X_42 : Fk "ValueConnector" 42 1 9 := ⟨_, _, _, rfl, uw_X, by decide, w_55⟩
theorem w_263 : (Jvm.Cond.constantLong "ValueConnector" (211 : Nat) (1000 : Int64)) ∈ oWS := oat 279 (by decide +kernel) rfl
theorem w_268 : (Jvm.Cond.methodLink "ValueConnector$Transfer" (3 : Nat) ({ cls := "java/lang/Object", name := "<init>", desc := "()V" } : Jvm.MethodName)) ∈ oWS := oat 284 (by decide +kernel) rfl
theorem w_279 : (Jvm.Cond.fieldLink "ValueConnector$Transfer" (9 : Nat) "ValueConnector$Transfer" "state" "I") ∈ oWS := oat 295 (by decide +kernel) rfl
theorem p_T_9 : Fp "ValueConnector$Transfer" 9 6 6 (.int) false := ⟨_, _, _, ty_T, rfl, uw_T, by decide, w_279, ok_T, nm_T, by decide +kernel, rfl, fun z => by cases z⟩
theorem w_281 : (Jvm.Cond.fieldLink "ValueConnector$Transfer" (15 : Nat) "ValueConnector$Transfer" "key" "J") ∈ oWS := oat 297 (by decide +kernel) rfl
theorem p_T_15 : Fp "ValueConnector$Transfer" 15 6 7 (.long) false := ⟨_, _, _, ty_T, rfl, uw_T, by decide, w_281, ok_T, nm_T, by decide +kernel, rfl, fun z => by cases z⟩
theorem w_269 : (Jvm.Cond.fieldLink "ValueConnector$Transfer" (19 : Nat) "ValueConnector$Transfer" "payer" "LValueConnector$Account;") ∈ oWS := oat 285 (by decide +kernel) rfl
theorem p_T_19 : Fp "ValueConnector$Transfer" 19 6 0 (.object "ValueConnector$Account") true := ⟨_, _, _, ty_T, rfl, uw_T, by decide, w_269, ok_T, nm_T, by decide +kernel, rfl, fun _ => rfl⟩
theorem w_270 : (Jvm.Cond.fieldLink "ValueConnector$Transfer" (23 : Nat) "ValueConnector$Transfer" "payee" "LValueConnector$Account;") ∈ oWS := oat 286 (by decide +kernel) rfl
theorem p_T_23 : Fp "ValueConnector$Transfer" 23 6 1 (.object "ValueConnector$Account") true := ⟨_, _, _, ty_T, rfl, uw_T, by decide, w_270, ok_T, nm_T, by decide +kernel, rfl, fun _ => rfl⟩
theorem w_272 : (Jvm.Cond.fieldLink "ValueConnector$Transfer" (26 : Nat) "ValueConnector$Transfer" "amount" "I") ∈ oWS := oat 288 (by decide +kernel) rfl
theorem p_T_26 : Fp "ValueConnector$Transfer" 26 6 2 (.int) true := ⟨_, _, _, ty_T, rfl, uw_T, by decide, w_272, ok_T, nm_T, by decide +kernel, rfl, fun _ => rfl⟩
theorem w_273 : (Jvm.Cond.fieldLink "ValueConnector$Transfer" (29 : Nat) "ValueConnector$Transfer" "outgoingAmount" "J") ∈ oWS := oat 289 (by decide +kernel) rfl
theorem p_T_29 : Fp "ValueConnector$Transfer" 29 6 3 (.long) true := ⟨_, _, _, ty_T, rfl, uw_T, by decide, w_273, ok_T, nm_T, by decide +kernel, rfl, fun _ => rfl⟩
theorem w_275 : (Jvm.Cond.fieldLink "ValueConnector$Transfer" (32 : Nat) "ValueConnector$Transfer" "outgoingExpiry" "J") ∈ oWS := oat 291 (by decide +kernel) rfl
theorem p_T_32 : Fp "ValueConnector$Transfer" 32 6 4 (.long) true := ⟨_, _, _, ty_T, rfl, uw_T, by decide, w_275, ok_T, nm_T, by decide +kernel, rfl, fun _ => rfl⟩
theorem w_277 : (Jvm.Cond.fieldLink "ValueConnector$Transfer" (35 : Nat) "ValueConnector$Transfer" "condition" "J") ∈ oWS := oat 293 (by decide +kernel) rfl
theorem p_T_35 : Fp "ValueConnector$Transfer" 35 6 5 (.long) true := ⟨_, _, _, ty_T, rfl, uw_T, by decide, w_277, ok_T, nm_T, by decide +kernel, rfl, fun _ => rfl⟩
theorem f_X_36 : Fk "ValueConnector" 36 1 7 := ⟨_, _, _, rfl, uw_X, by decide, w_53⟩
theorem f_X_24 : Fk "ValueConnector" 24 1 4 := ⟨_, _, _, rfl, uw_X, by decide, w_50⟩
theorem f_X_45 : Fk "ValueConnector" 45 1 10 := ⟨_, _, _, rfl, uw_X, by decide, w_56⟩
theorem w_133 : (Jvm.Cond.fieldLink "ValueConnector" (117 : Nat) "ValueConnector$Account" "limit" "I") ∈ oWS := oat 149 (by decide +kernel) rfl
theorem f_X_117 : Fk "ValueConnector" 117 3 2 := ⟨_, _, _, rfl, uw_A, by decide, w_133⟩
theorem w_255 : (Jvm.Cond.code ({ cls := "ValueConnector$Bucket", name := "take", desc := "(I)Z" } : Jvm.MethodName) prog_3_method_3_code (2 : Nat) (Option.some Jvm.ClassFile.FieldType.boolean)) ∈ oWS := oat 271 (by decide +kernel) rfl
theorem w_252 : (Jvm.Cond.methodLink "ValueConnector" (120 : Nat) ({ cls := "ValueConnector$Bucket", name := "take", desc := "(I)Z" } : Jvm.MethodName)) ∈ oWS := oat 268 (by decide +kernel) rfl
theorem w_253 : (Jvm.Cond.instanceMethod ({ cls := "ValueConnector$Bucket", name := "take", desc := "(I)Z" } : Jvm.MethodName)) ∈ oWS := oat 269 (by decide +kernel) rfl
theorem w_254 : (Jvm.Cond.selects "ValueConnector$Bucket" ({ cls := "ValueConnector$Bucket", name := "take", desc := "(I)Z" } : Jvm.MethodName) ({ cls := "ValueConnector$Bucket", name := "take", desc := "(I)Z" } : Jvm.MethodName)) ∈ oWS := oat 270 (by decide +kernel) rfl
theorem k_X_120 : Kv "ValueConnector" 120 4 y_B_take prog_3_method_3_code 2 (some .boolean) 1 := ⟨w_252, w_253, w_254, w_5, w_255, ⟨by decide, by decide, by decide +kernel⟩, _, _, rfl⟩
theorem f_X_53 : Fk "ValueConnector" 53 1 0 := ⟨_, _, _, rfl, uw_X, by decide, w_46⟩
theorem f_X_57 : Fk "ValueConnector" 57 1 1 := ⟨_, _, _, rfl, uw_X, by decide, w_47⟩
theorem w_256 : (Jvm.Cond.methodLink "ValueConnector" (124 : Nat) ({ cls := "java/lang/Math", name := "min", desc := "(JJ)J" } : Jvm.MethodName)) ∈ oWS := oat 272 (by decide +kernel) rfl
theorem w_257 : (Jvm.Cond.static ({ cls := "java/lang/Math", name := "min", desc := "(JJ)J" } : Jvm.MethodName)) ∈ oWS := oat 273 (by decide +kernel) rfl
theorem w_7 : (Jvm.Cond.initialized "java/lang/Math") ∈ oWS := oat 23 (by decide +kernel) rfl
theorem w_258 : (Jvm.Cond.code Lib.MathLoose.min_long.x Lib.MathLoose.min_long.code 4 (some .long)) ∈ oWS := oat 274 (by decide +kernel) rfl
theorem w_142 : (Jvm.Cond.fieldLink "ValueConnector" (130 : Nat) "ValueConnector$Account" "balance" "J") ∈ oWS := oat 158 (by decide +kernel) rfl
theorem f_X_130 : Fk "ValueConnector" 130 3 6 := ⟨_, _, _, rfl, uw_A, by decide, w_142⟩
theorem f_X_69 : Fk "ValueConnector" 69 3 5 := ⟨_, _, _, rfl, uw_A, by decide, w_139⟩
theorem w_262 : (Jvm.Cond.code ({ cls := "ValueConnector", name := "converted", desc := "(III)J" } : Jvm.MethodName) prog_1_method_25_code (4 : Nat) (Option.some Jvm.ClassFile.FieldType.long)) ∈ oWS := oat 278 (by decide +kernel) rfl
theorem w_259 : (Jvm.Cond.methodLink "ValueConnector" (133 : Nat) ({ cls := "ValueConnector", name := "converted", desc := "(III)J" } : Jvm.MethodName)) ∈ oWS := oat 275 (by decide +kernel) rfl
theorem w_261 : (Jvm.Cond.instanceMethod ({ cls := "ValueConnector", name := "converted", desc := "(III)J" } : Jvm.MethodName)) ∈ oWS := oat 277 (by decide +kernel) rfl
theorem ws_4 : (Jvm.Cond.selects "ValueConnector" ({ cls := "ValueConnector", name := "converted", desc := "(III)J" } : Jvm.MethodName) ({ cls := "ValueConnector", name := "converted", desc := "(III)J" } : Jvm.MethodName)) ∈ oWS := oat 4 (by decide +kernel) rfl
theorem k_X_133 : Kv "ValueConnector" 133 1 y_X_converted prog_1_method_25_code 4 (some .long) 3 := ⟨w_259, w_261, ws_4, w_1, w_262, ⟨by decide, by decide, by decide +kernel⟩, _, _, rfl⟩
theorem p_X_130 : Fp "ValueConnector" 130 3 6 (.long) false := ⟨_, _, _, ty_A, rfl, uw_A, by decide, w_142, ok_A, nm_A, by decide +kernel, rfl, fun z => by cases z⟩
theorem w_264 : (Jvm.Cond.instantiable "ValueConnector$Transfer" (8 : Nat)) ∈ oWS := oat 280 (by decide +kernel) rfl
theorem w_8 : (Jvm.Cond.initialized "ValueConnector$Transfer") ∈ oWS := oat 24 (by decide +kernel) rfl
theorem n_X_22 : Nk "ValueConnector" 22 6 8 (fl_52 (fun _ => 0) (fun _ => 0) (fun _ => none)) := ⟨_, _, ty_T, rfl, uw_T, ok_T, w_40, w_264, w_8, fun j hj => by
  have h9 : j = 0 ∨ j = 1 ∨ j = 2 ∨ j = 3 ∨ j = 4 ∨ j = 5 ∨ j = 6 ∨ j = 7 := by omega
  rcases h9 with rfl | rfl | rfl | rfl | rfl | rfl | rfl | rfl <;> rfl⟩
theorem w_267 : (Jvm.Cond.code ({ cls := "ValueConnector$Transfer", name := "<init>", desc := "(LValueConnector$Account;LValueConnector$Account;IJJJ)V" } : Jvm.MethodName) prog_6_method_1_code (10 : Nat) (Option.none : Option Jvm.ClassFile.FieldType)) ∈ oWS := oat 283 (by decide +kernel) rfl
theorem w_265 : (Jvm.Cond.methodLink "ValueConnector" (137 : Nat) ({ cls := "ValueConnector$Transfer", name := "<init>", desc := "(LValueConnector$Account;LValueConnector$Account;IJJJ)V" } : Jvm.MethodName)) ∈ oWS := oat 281 (by decide +kernel) rfl
theorem w_266 : (Jvm.Cond.instanceMethod ({ cls := "ValueConnector$Transfer", name := "<init>", desc := "(LValueConnector$Account;LValueConnector$Account;IJJJ)V" } : Jvm.MethodName)) ∈ oWS := oat 282 (by decide +kernel) rfl
theorem k_X_137 : Ki "ValueConnector" 137 y_T_init prog_6_method_1_code 10 6 := ⟨w_265, w_266, w_8, w_267, ⟨by decide, by decide, by decide +kernel⟩, rfl⟩
theorem w_303 : (Jvm.Cond.code ({ cls := "ValueConnector", name := "keep", desc := "(LValueConnector$Transfer;)I" } : Jvm.MethodName) prog_1_method_24_code (3 : Nat) (Option.some Jvm.ClassFile.FieldType.int)) ∈ oWS := oat 319 (by decide +kernel) rfl
theorem w_300 : (Jvm.Cond.methodLink "ValueConnector" (140 : Nat) ({ cls := "ValueConnector", name := "keep", desc := "(LValueConnector$Transfer;)I" } : Jvm.MethodName)) ∈ oWS := oat 316 (by decide +kernel) rfl
theorem w_302 : (Jvm.Cond.instanceMethod ({ cls := "ValueConnector", name := "keep", desc := "(LValueConnector$Transfer;)I" } : Jvm.MethodName)) ∈ oWS := oat 318 (by decide +kernel) rfl
theorem ws_5 : (Jvm.Cond.selects "ValueConnector" ({ cls := "ValueConnector", name := "keep", desc := "(LValueConnector$Transfer;)I" } : Jvm.MethodName) ({ cls := "ValueConnector", name := "keep", desc := "(LValueConnector$Transfer;)I" } : Jvm.MethodName)) ∈ oWS := oat 5 (by decide +kernel) rfl
theorem k_X_140 : Kv "ValueConnector" 140 1 y_X_keep prog_1_method_24_code 3 (some .int) 1 := ⟨w_300, w_302, ws_5, w_1, w_303, ⟨by decide, by decide, by decide +kernel⟩, _, _, rfl⟩
theorem w_311 : (Jvm.Cond.constantLong "ValueConnector" (219 : Nat) (41 : Int64)) ∈ oWS := oat 327 (by decide +kernel) rfl
theorem w_310 : (Jvm.Cond.code ({ cls := "ValueConnector", name := "lockOf", desc := "(J)J" } : Jvm.MethodName) prog_1_method_28_code (4 : Nat) (Option.some Jvm.ClassFile.FieldType.long)) ∈ oWS := oat 326 (by decide +kernel) rfl
theorem w_308 : (Jvm.Cond.methodLink "ValueConnector" (144 : Nat) ({ cls := "ValueConnector", name := "lockOf", desc := "(J)J" } : Jvm.MethodName)) ∈ oWS := oat 324 (by decide +kernel) rfl
theorem w_309 : (Jvm.Cond.static ({ cls := "ValueConnector", name := "lockOf", desc := "(J)J" } : Jvm.MethodName)) ∈ oWS := oat 325 (by decide +kernel) rfl
theorem k_X_144 : Ks "ValueConnector" 144 y_X_lockOf prog_1_method_28_code 4 (some .long) 1 := ⟨w_308, w_309, w_1, w_310, ⟨by decide, by decide, by decide +kernel⟩⟩
theorem f_T_23 : Fk "ValueConnector$Transfer" 23 6 1 := ⟨_, _, _, rfl, uw_T, by decide, w_270⟩
theorem w_141 : (Jvm.Cond.fieldLink "ValueConnector$Transfer" (38 : Nat) "ValueConnector$Account" "balance" "J") ∈ oWS := oat 157 (by decide +kernel) rfl
theorem f_T_38 : Fk "ValueConnector$Transfer" 38 3 6 := ⟨_, _, _, rfl, uw_A, by decide, w_141⟩
theorem f_T_29 : Fk "ValueConnector$Transfer" 29 6 3 := ⟨_, _, _, rfl, uw_T, by decide, w_273⟩
theorem p_T_38 : Fp "ValueConnector$Transfer" 38 3 6 (.long) false := ⟨_, _, _, ty_A, rfl, uw_A, by decide, w_141, ok_A, nm_A, by decide +kernel, rfl, fun z => by cases z⟩
theorem f_A_29 : Fk "ValueConnector$Account" 29 3 7 := ⟨_, _, _, rfl, uw_A, by decide, w_143⟩
theorem f_A_25 : Fk "ValueConnector$Account" 25 3 6 := ⟨_, _, _, rfl, uw_A, by decide, w_140⟩
theorem f_A_39 : Fk "ValueConnector$Account" 39 3 10 := ⟨_, _, _, rfl, uw_A, by decide, w_149⟩
theorem f_A_33 : Fk "ValueConnector$Account" 33 3 8 := ⟨_, _, _, rfl, uw_A, by decide, w_145⟩
theorem f_A_36 : Fk "ValueConnector$Account" 36 3 9 := ⟨_, _, _, rfl, uw_A, by decide, w_147⟩
theorem w_331 : (Jvm.Cond.code ({ cls := "ValueConnector$Account", name := "takeSettled", desc := "()J" } : Jvm.MethodName) prog_2_method_2_code (3 : Nat) (Option.some Jvm.ClassFile.FieldType.long)) ∈ oWS := oat 347 (by decide +kernel) rfl
theorem w_328 : (Jvm.Cond.methodLink "ValueConnector" (213 : Nat) ({ cls := "ValueConnector$Account", name := "takeSettled", desc := "()J" } : Jvm.MethodName)) ∈ oWS := oat 344 (by decide +kernel) rfl
theorem w_329 : (Jvm.Cond.instanceMethod ({ cls := "ValueConnector$Account", name := "takeSettled", desc := "()J" } : Jvm.MethodName)) ∈ oWS := oat 345 (by decide +kernel) rfl
theorem w_330 : (Jvm.Cond.selects "ValueConnector$Account" ({ cls := "ValueConnector$Account", name := "takeSettled", desc := "()J" } : Jvm.MethodName) ({ cls := "ValueConnector$Account", name := "takeSettled", desc := "()J" } : Jvm.MethodName)) ∈ oWS := oat 346 (by decide +kernel) rfl
theorem k_X_213 : Kv "ValueConnector" 213 3 y_A_takeSettled prog_2_method_2_code 3 (some .long) 0 := ⟨w_328, w_329, w_330, w_4, w_331, ⟨by decide, by decide, by decide +kernel⟩, _, _, rfl⟩
theorem f_X_39 : Fk "ValueConnector" 39 1 8 := ⟨_, _, _, rfl, uw_X, by decide, w_54⟩
theorem f_X_28 : Fk "ValueConnector" 28 1 5 := ⟨_, _, _, rfl, uw_X, by decide, w_51⟩
theorem w_332 : (Jvm.Cond.constantLong "ValueConnector" (217 : Nat) (8 : Int64)) ∈ oWS := oat 348 (by decide +kernel) rfl
theorem w_129 : (Jvm.Cond.fieldLink "ValueConnector" (196 : Nat) "ValueConnector$Account" "number" "I") ∈ oWS := oat 145 (by decide +kernel) rfl
theorem f_X_196 : Fk "ValueConnector" 196 3 0 := ⟨_, _, _, rfl, uw_A, by decide, w_129⟩
theorem w_319 : (Jvm.Cond.code ({ cls := "ValueConnector", name := "transferNumbered", desc := "(I)LValueConnector$Transfer;" } : Jvm.MethodName) prog_1_method_23_code (2 : Nat) (Option.some (Jvm.ClassFile.FieldType.object "ValueConnector$Transfer"))) ∈ oWS := oat 335 (by decide +kernel) rfl
theorem w_316 : (Jvm.Cond.methodLink "ValueConnector" (148 : Nat) ({ cls := "ValueConnector", name := "transferNumbered", desc := "(I)LValueConnector$Transfer;" } : Jvm.MethodName)) ∈ oWS := oat 332 (by decide +kernel) rfl
theorem w_318 : (Jvm.Cond.instanceMethod ({ cls := "ValueConnector", name := "transferNumbered", desc := "(I)LValueConnector$Transfer;" } : Jvm.MethodName)) ∈ oWS := oat 334 (by decide +kernel) rfl
theorem ws_6 : (Jvm.Cond.selects "ValueConnector" ({ cls := "ValueConnector", name := "transferNumbered", desc := "(I)LValueConnector$Transfer;" } : Jvm.MethodName) ({ cls := "ValueConnector", name := "transferNumbered", desc := "(I)LValueConnector$Transfer;" } : Jvm.MethodName)) ∈ oWS := oat 6 (by decide +kernel) rfl
theorem k_X_148 : Kv "ValueConnector" 148 1 y_X_transferNumbered prog_1_method_23_code 2 (some (.object "ValueConnector$Transfer")) 1 := ⟨w_316, w_318, ws_6, w_1, w_319, ⟨by decide, by decide, by decide +kernel⟩, _, _, rfl⟩
theorem w_280 : (Jvm.Cond.fieldLink "ValueConnector" (152 : Nat) "ValueConnector$Transfer" "state" "I") ∈ oWS := oat 296 (by decide +kernel) rfl
theorem f_X_152 : Fk "ValueConnector" 152 6 6 := ⟨_, _, _, rfl, uw_T, by decide, w_280⟩
theorem w_278 : (Jvm.Cond.fieldLink "ValueConnector" (155 : Nat) "ValueConnector$Transfer" "condition" "J") ∈ oWS := oat 294 (by decide +kernel) rfl
theorem f_X_155 : Fk "ValueConnector" 155 6 5 := ⟨_, _, _, rfl, uw_T, by decide, w_278⟩
theorem w_323 : (Jvm.Cond.code ({ cls := "ValueConnector$Transfer", name := "payOut", desc := "(J)V" } : Jvm.MethodName) prog_6_method_2_code (3 : Nat) (Option.none : Option Jvm.ClassFile.FieldType)) ∈ oWS := oat 339 (by decide +kernel) rfl
theorem w_320 : (Jvm.Cond.methodLink "ValueConnector" (158 : Nat) ({ cls := "ValueConnector$Transfer", name := "payOut", desc := "(J)V" } : Jvm.MethodName)) ∈ oWS := oat 336 (by decide +kernel) rfl
theorem w_321 : (Jvm.Cond.instanceMethod ({ cls := "ValueConnector$Transfer", name := "payOut", desc := "(J)V" } : Jvm.MethodName)) ∈ oWS := oat 337 (by decide +kernel) rfl
theorem w_322 : (Jvm.Cond.selects "ValueConnector$Transfer" ({ cls := "ValueConnector$Transfer", name := "payOut", desc := "(J)V" } : Jvm.MethodName) ({ cls := "ValueConnector$Transfer", name := "payOut", desc := "(J)V" } : Jvm.MethodName)) ∈ oWS := oat 338 (by decide +kernel) rfl
theorem k_X_158 : Kv "ValueConnector" 158 6 y_T_payOut prog_6_method_2_code 3 none 1 := ⟨w_320, w_321, w_322, w_8, w_323, ⟨by decide, by decide, by decide +kernel⟩, _, _, rfl⟩
theorem w_271 : (Jvm.Cond.fieldLink "ValueConnector" (162 : Nat) "ValueConnector$Transfer" "payee" "LValueConnector$Account;") ∈ oWS := oat 287 (by decide +kernel) rfl
theorem f_X_162 : Fk "ValueConnector" 162 6 1 := ⟨_, _, _, rfl, uw_T, by decide, w_271⟩
theorem w_327 : (Jvm.Cond.code ({ cls := "ValueConnector", name := "settle", desc := "(LValueConnector$Account;)V" } : Jvm.MethodName) prog_1_method_27_code (4 : Nat) (Option.none : Option Jvm.ClassFile.FieldType)) ∈ oWS := oat 343 (by decide +kernel) rfl
theorem w_324 : (Jvm.Cond.methodLink "ValueConnector" (166 : Nat) ({ cls := "ValueConnector", name := "settle", desc := "(LValueConnector$Account;)V" } : Jvm.MethodName)) ∈ oWS := oat 340 (by decide +kernel) rfl
theorem w_326 : (Jvm.Cond.instanceMethod ({ cls := "ValueConnector", name := "settle", desc := "(LValueConnector$Account;)V" } : Jvm.MethodName)) ∈ oWS := oat 342 (by decide +kernel) rfl
theorem ws_7 : (Jvm.Cond.selects "ValueConnector" ({ cls := "ValueConnector", name := "settle", desc := "(LValueConnector$Account;)V" } : Jvm.MethodName) ({ cls := "ValueConnector", name := "settle", desc := "(LValueConnector$Account;)V" } : Jvm.MethodName)) ∈ oWS := oat 7 (by decide +kernel) rfl
theorem k_X_166 : Kv "ValueConnector" 166 1 y_X_settle prog_1_method_27_code 4 none 1 := ⟨w_324, w_326, ws_7, w_1, w_327, ⟨by decide, by decide, by decide +kernel⟩, _, _, rfl⟩
theorem f_T_19 : Fk "ValueConnector$Transfer" 19 6 0 := ⟨_, _, _, rfl, uw_T, by decide, w_269⟩
theorem f_T_26 : Fk "ValueConnector$Transfer" 26 6 2 := ⟨_, _, _, rfl, uw_T, by decide, w_272⟩
theorem w_340 : (Jvm.Cond.code ({ cls := "ValueConnector$Transfer", name := "payBack", desc := "(I)V" } : Jvm.MethodName) prog_6_method_3_code (2 : Nat) (Option.none : Option Jvm.ClassFile.FieldType)) ∈ oWS := oat 356 (by decide +kernel) rfl
theorem w_337 : (Jvm.Cond.methodLink "ValueConnector" (170 : Nat) ({ cls := "ValueConnector$Transfer", name := "payBack", desc := "(I)V" } : Jvm.MethodName)) ∈ oWS := oat 353 (by decide +kernel) rfl
theorem w_338 : (Jvm.Cond.instanceMethod ({ cls := "ValueConnector$Transfer", name := "payBack", desc := "(I)V" } : Jvm.MethodName)) ∈ oWS := oat 354 (by decide +kernel) rfl
theorem w_339 : (Jvm.Cond.selects "ValueConnector$Transfer" ({ cls := "ValueConnector$Transfer", name := "payBack", desc := "(I)V" } : Jvm.MethodName) ({ cls := "ValueConnector$Transfer", name := "payBack", desc := "(I)V" } : Jvm.MethodName)) ∈ oWS := oat 355 (by decide +kernel) rfl
theorem k_X_170 : Kv "ValueConnector" 170 6 y_T_payBack prog_6_method_3_code 2 none 1 := ⟨w_337, w_338, w_339, w_8, w_340, ⟨by decide, by decide, by decide +kernel⟩, _, _, rfl⟩
theorem f_B_19 : Fk "ValueConnector$Bucket" 19 4 1 := ⟨_, _, _, rfl, uw_B, by decide, w_102⟩
theorem w_349 : (Jvm.Cond.methodLink "ValueConnector$Bucket" (25 : Nat) ({ cls := "java/lang/Math", name := "min", desc := "(II)I" } : Jvm.MethodName)) ∈ oWS := oat 365 (by decide +kernel) rfl
theorem w_350 : (Jvm.Cond.static ({ cls := "java/lang/Math", name := "min", desc := "(II)I" } : Jvm.MethodName)) ∈ oWS := oat 366 (by decide +kernel) rfl
theorem w_351 : (Jvm.Cond.code Lib.Math.min.name Lib.Math.min.code 2 (some .int)) ∈ oWS := oat 367 (by decide +kernel) rfl
theorem w_276 : (Jvm.Cond.fieldLink "ValueConnector" (202 : Nat) "ValueConnector$Transfer" "outgoingExpiry" "J") ∈ oWS := oat 292 (by decide +kernel) rfl
theorem f_X_202 : Fk "ValueConnector" 202 6 4 := ⟨_, _, _, rfl, uw_T, by decide, w_276⟩
theorem w_355 : (Jvm.Cond.code ({ cls := "ValueConnector", name := "lapseDue", desc := "()I" } : Jvm.MethodName) prog_1_method_26_code (4 : Nat) (Option.some Jvm.ClassFile.FieldType.int)) ∈ oWS := oat 371 (by decide +kernel) rfl
theorem w_352 : (Jvm.Cond.methodLink "ValueConnector" (177 : Nat) ({ cls := "ValueConnector", name := "lapseDue", desc := "()I" } : Jvm.MethodName)) ∈ oWS := oat 368 (by decide +kernel) rfl
theorem w_354 : (Jvm.Cond.instanceMethod ({ cls := "ValueConnector", name := "lapseDue", desc := "()I" } : Jvm.MethodName)) ∈ oWS := oat 370 (by decide +kernel) rfl
theorem ws_8 : (Jvm.Cond.selects "ValueConnector" ({ cls := "ValueConnector", name := "lapseDue", desc := "()I" } : Jvm.MethodName) ({ cls := "ValueConnector", name := "lapseDue", desc := "()I" } : Jvm.MethodName)) ∈ oWS := oat 8 (by decide +kernel) rfl
theorem k_X_177 : Kv "ValueConnector" 177 1 y_X_lapseDue prog_1_method_26_code 4 (some .int) 0 := ⟨w_352, w_354, ws_8, w_1, w_355, ⟨by decide, by decide, by decide +kernel⟩, _, _, rfl⟩
theorem w_348 : (Jvm.Cond.code ({ cls := "ValueConnector$Bucket", name := "refill", desc := "(I)V" } : Jvm.MethodName) prog_3_method_4_code (2 : Nat) (Option.none : Option Jvm.ClassFile.FieldType)) ∈ oWS := oat 364 (by decide +kernel) rfl
theorem w_345 : (Jvm.Cond.methodLink "ValueConnector" (174 : Nat) ({ cls := "ValueConnector$Bucket", name := "refill", desc := "(I)V" } : Jvm.MethodName)) ∈ oWS := oat 361 (by decide +kernel) rfl
theorem w_346 : (Jvm.Cond.instanceMethod ({ cls := "ValueConnector$Bucket", name := "refill", desc := "(I)V" } : Jvm.MethodName)) ∈ oWS := oat 362 (by decide +kernel) rfl
theorem w_347 : (Jvm.Cond.selects "ValueConnector$Bucket" ({ cls := "ValueConnector$Bucket", name := "refill", desc := "(I)V" } : Jvm.MethodName) ({ cls := "ValueConnector$Bucket", name := "refill", desc := "(I)V" } : Jvm.MethodName)) ∈ oWS := oat 363 (by decide +kernel) rfl
theorem k_X_174 : Kv "ValueConnector" 174 4 y_B_refill prog_3_method_4_code 2 none 1 := ⟨w_345, w_346, w_347, w_5, w_348, ⟨by decide, by decide, by decide +kernel⟩, _, _, rfl⟩
theorem f_K_15 : Fk "ValueConnector$RecentKeys" 15 5 1 := ⟨_, _, _, rfl, uw_K, by decide, w_119⟩
theorem f_K_9 : Fk "ValueConnector$RecentKeys" 9 5 0 := ⟨_, _, _, rfl, uw_K, by decide, w_118⟩
theorem f_K_19 : Fk "ValueConnector$RecentKeys" 19 5 2 := ⟨_, _, _, rfl, uw_K, by decide, w_120⟩
theorem w_360 : (Jvm.Cond.constant "ValueConnector" (181 : Nat) (1000000 : Int32)) ∈ oWS := oat 376 (by decide +kernel) rfl
theorem w_137 : (Jvm.Cond.fieldLink "ValueConnector" (182 : Nat) "ValueConnector$Account" "creditKeys" "LValueConnector$RecentKeys;") ∈ oWS := oat 153 (by decide +kernel) rfl
theorem f_X_182 : Fk "ValueConnector" 182 3 4 := ⟨_, _, _, rfl, uw_A, by decide, w_137⟩
theorem w_364 : (Jvm.Cond.code ({ cls := "ValueConnector$RecentKeys", name := "holds", desc := "(I)Z" } : Jvm.MethodName) prog_4_method_2_code (3 : Nat) (Option.some Jvm.ClassFile.FieldType.boolean)) ∈ oWS := oat 380 (by decide +kernel) rfl
theorem w_361 : (Jvm.Cond.methodLink "ValueConnector" (186 : Nat) ({ cls := "ValueConnector$RecentKeys", name := "holds", desc := "(I)Z" } : Jvm.MethodName)) ∈ oWS := oat 377 (by decide +kernel) rfl
theorem w_362 : (Jvm.Cond.instanceMethod ({ cls := "ValueConnector$RecentKeys", name := "holds", desc := "(I)Z" } : Jvm.MethodName)) ∈ oWS := oat 378 (by decide +kernel) rfl
theorem w_363 : (Jvm.Cond.selects "ValueConnector$RecentKeys" ({ cls := "ValueConnector$RecentKeys", name := "holds", desc := "(I)Z" } : Jvm.MethodName) ({ cls := "ValueConnector$RecentKeys", name := "holds", desc := "(I)Z" } : Jvm.MethodName)) ∈ oWS := oat 379 (by decide +kernel) rfl
theorem k_X_186 : Kv "ValueConnector" 186 5 y_K_holds prog_4_method_2_code 3 (some .boolean) 1 := ⟨w_361, w_362, w_363, w_6, w_364, ⟨by decide, by decide, by decide +kernel⟩, _, _, rfl⟩
theorem w_368 : (Jvm.Cond.code ({ cls := "ValueConnector$RecentKeys", name := "remember", desc := "(I)V" } : Jvm.MethodName) prog_4_method_3_code (2 : Nat) (Option.none : Option Jvm.ClassFile.FieldType)) ∈ oWS := oat 384 (by decide +kernel) rfl
theorem w_365 : (Jvm.Cond.methodLink "ValueConnector" (191 : Nat) ({ cls := "ValueConnector$RecentKeys", name := "remember", desc := "(I)V" } : Jvm.MethodName)) ∈ oWS := oat 381 (by decide +kernel) rfl
theorem w_366 : (Jvm.Cond.instanceMethod ({ cls := "ValueConnector$RecentKeys", name := "remember", desc := "(I)V" } : Jvm.MethodName)) ∈ oWS := oat 382 (by decide +kernel) rfl
theorem w_367 : (Jvm.Cond.selects "ValueConnector$RecentKeys" ({ cls := "ValueConnector$RecentKeys", name := "remember", desc := "(I)V" } : Jvm.MethodName) ({ cls := "ValueConnector$RecentKeys", name := "remember", desc := "(I)V" } : Jvm.MethodName)) ∈ oWS := oat 383 (by decide +kernel) rfl
theorem k_X_191 : Kv "ValueConnector" 191 5 y_K_remember prog_4_method_3_code 2 none 1 := ⟨w_365, w_366, w_367, w_6, w_368, ⟨by decide, by decide, by decide +kernel⟩, _, _, rfl⟩
theorem f_X_85 : Fk "ValueConnector" 85 3 9 := ⟨_, _, _, rfl, uw_A, by decide, w_148⟩
theorem w_385 : (Jvm.Cond.constantLong "ValueConnector" (194 : Nat) (-1 : Int64)) ∈ oWS := oat 401 (by decide +kernel) rfl
theorem w_274 : (Jvm.Cond.fieldLink "ValueConnector" (199 : Nat) "ValueConnector$Transfer" "outgoingAmount" "J") ∈ oWS := oat 290 (by decide +kernel) rfl
theorem f_X_199 : Fk "ValueConnector" 199 6 3 := ⟨_, _, _, rfl, uw_T, by decide, w_274⟩
theorem w_282 : (Jvm.Cond.fieldLink "ValueConnector" (205 : Nat) "ValueConnector$Transfer" "key" "J") ∈ oWS := oat 298 (by decide +kernel) rfl
theorem f_X_205 : Fk "ValueConnector" 205 6 7 := ⟨_, _, _, rfl, uw_T, by decide, w_282⟩
theorem w_104 : (Jvm.Cond.fieldLink "ValueConnector" (208 : Nat) "ValueConnector$Bucket" "drops" "I") ∈ oWS := oat 120 (by decide +kernel) rfl
theorem f_X_208 : Fk "ValueConnector" 208 4 2 := ⟨_, _, _, rfl, uw_B, by decide, w_104⟩
theorem w_402 : (Jvm.Cond.methodLink "ValueConnectorModel" (1 : Nat) ({ cls := "java/lang/Object", name := "<init>", desc := "()V" } : Jvm.MethodName)) ∈ oWS := oat 418 (by decide +kernel) rfl
theorem w_409 : (Jvm.Cond.fieldLink "ValueConnectorModel" (7 : Nat) "ValueConnectorModel" "balance" "[J") ∈ oWS := oat 425 (by decide +kernel) rfl
theorem p_M_7 : Fp "ValueConnectorModel" 7 0 5 (.array .long) true := ⟨_, _, _, ty_M, rfl, uw_M, by decide, w_409, ok_M, nm_M, by decide +kernel, rfl, fun _ => rfl⟩
theorem w_410 : (Jvm.Cond.fieldLink "ValueConnectorModel" (13 : Nat) "ValueConnectorModel" "minimum" "[I") ∈ oWS := oat 426 (by decide +kernel) rfl
theorem p_M_13 : Fp "ValueConnectorModel" 13 0 6 (.array .int) true := ⟨_, _, _, ty_M, rfl, uw_M, by decide, w_410, ok_M, nm_M, by decide +kernel, rfl, fun _ => rfl⟩
theorem w_411 : (Jvm.Cond.fieldLink "ValueConnectorModel" (17 : Nat) "ValueConnectorModel" "limit" "[I") ∈ oWS := oat 427 (by decide +kernel) rfl
theorem p_M_17 : Fp "ValueConnectorModel" 17 0 7 (.array .int) true := ⟨_, _, _, ty_M, rfl, uw_M, by decide, w_411, ok_M, nm_M, by decide +kernel, rfl, fun _ => rfl⟩
theorem w_412 : (Jvm.Cond.fieldLink "ValueConnectorModel" (20 : Nat) "ValueConnectorModel" "worth" "[I") ∈ oWS := oat 428 (by decide +kernel) rfl
theorem p_M_20 : Fp "ValueConnectorModel" 20 0 8 (.array .int) true := ⟨_, _, _, ty_M, rfl, uw_M, by decide, w_412, ok_M, nm_M, by decide +kernel, rfl, fun _ => rfl⟩
theorem w_413 : (Jvm.Cond.fieldLink "ValueConnectorModel" (23 : Nat) "ValueConnectorModel" "threshold" "[I") ∈ oWS := oat 429 (by decide +kernel) rfl
theorem p_M_23 : Fp "ValueConnectorModel" 23 0 9 (.array .int) true := ⟨_, _, _, ty_M, rfl, uw_M, by decide, w_413, ok_M, nm_M, by decide +kernel, rfl, fun _ => rfl⟩
theorem w_414 : (Jvm.Cond.fieldLink "ValueConnectorModel" (26 : Nat) "ValueConnectorModel" "target" "[I") ∈ oWS := oat 430 (by decide +kernel) rfl
theorem p_M_26 : Fp "ValueConnectorModel" 26 0 10 (.array .int) true := ⟨_, _, _, ty_M, rfl, uw_M, by decide, w_414, ok_M, nm_M, by decide +kernel, rfl, fun _ => rfl⟩
theorem w_415 : (Jvm.Cond.fieldLink "ValueConnectorModel" (29 : Nat) "ValueConnectorModel" "digits" "[I") ∈ oWS := oat 431 (by decide +kernel) rfl
theorem p_M_29 : Fp "ValueConnectorModel" 29 0 11 (.array .int) true := ⟨_, _, _, ty_M, rfl, uw_M, by decide, w_415, ok_M, nm_M, by decide +kernel, rfl, fun _ => rfl⟩
theorem w_416 : (Jvm.Cond.fieldLink "ValueConnectorModel" (32 : Nat) "ValueConnectorModel" "rest" "[J") ∈ oWS := oat 432 (by decide +kernel) rfl
theorem p_M_32 : Fp "ValueConnectorModel" 32 0 12 (.array .long) true := ⟨_, _, _, ty_M, rfl, uw_M, by decide, w_416, ok_M, nm_M, by decide +kernel, rfl, fun _ => rfl⟩
theorem w_417 : (Jvm.Cond.fieldLink "ValueConnectorModel" (35 : Nat) "ValueConnectorModel" "capacity" "[I") ∈ oWS := oat 433 (by decide +kernel) rfl
theorem p_M_35 : Fp "ValueConnectorModel" 35 0 13 (.array .int) true := ⟨_, _, _, ty_M, rfl, uw_M, by decide, w_417, ok_M, nm_M, by decide +kernel, rfl, fun _ => rfl⟩
theorem w_418 : (Jvm.Cond.fieldLink "ValueConnectorModel" (38 : Nat) "ValueConnectorModel" "flow" "[I") ∈ oWS := oat 434 (by decide +kernel) rfl
theorem p_M_38 : Fp "ValueConnectorModel" 38 0 14 (.array .int) true := ⟨_, _, _, ty_M, rfl, uw_M, by decide, w_418, ok_M, nm_M, by decide +kernel, rfl, fun _ => rfl⟩
theorem w_419 : (Jvm.Cond.fieldLink "ValueConnectorModel" (41 : Nat) "ValueConnectorModel" "drops" "[I") ∈ oWS := oat 435 (by decide +kernel) rfl
theorem p_M_41 : Fp "ValueConnectorModel" 41 0 15 (.array .int) true := ⟨_, _, _, ty_M, rfl, uw_M, by decide, w_419, ok_M, nm_M, by decide +kernel, rfl, fun _ => rfl⟩
theorem w_420 : (Jvm.Cond.fieldLink "ValueConnectorModel" (44 : Nat) "ValueConnectorModel" "keys" "[I") ∈ oWS := oat 436 (by decide +kernel) rfl
theorem p_M_44 : Fp "ValueConnectorModel" 44 0 16 (.array .int) true := ⟨_, _, _, ty_M, rfl, uw_M, by decide, w_420, ok_M, nm_M, by decide +kernel, rfl, fun _ => rfl⟩
theorem w_421 : (Jvm.Cond.fieldLink "ValueConnectorModel" (47 : Nat) "ValueConnectorModel" "keyCount" "[I") ∈ oWS := oat 437 (by decide +kernel) rfl
theorem p_M_47 : Fp "ValueConnectorModel" 47 0 17 (.array .int) true := ⟨_, _, _, ty_M, rfl, uw_M, by decide, w_421, ok_M, nm_M, by decide +kernel, rfl, fun _ => rfl⟩
theorem w_423 : (Jvm.Cond.fieldLink "ValueConnectorModel" (50 : Nat) "ValueConnectorModel" "routeOf" "[I") ∈ oWS := oat 439 (by decide +kernel) rfl
theorem p_M_50 : Fp "ValueConnectorModel" 50 0 19 (.array .int) true := ⟨_, _, _, ty_M, rfl, uw_M, by decide, w_423, ok_M, nm_M, by decide +kernel, rfl, fun _ => rfl⟩
theorem w_424 : (Jvm.Cond.fieldLink "ValueConnectorModel" (53 : Nat) "ValueConnectorModel" "routePrefix" "[J") ∈ oWS := oat 440 (by decide +kernel) rfl
theorem p_M_53 : Fp "ValueConnectorModel" 53 0 20 (.array .long) true := ⟨_, _, _, ty_M, rfl, uw_M, by decide, w_424, ok_M, nm_M, by decide +kernel, rfl, fun _ => rfl⟩
theorem w_425 : (Jvm.Cond.fieldLink "ValueConnectorModel" (56 : Nat) "ValueConnectorModel" "routeHops" "[I") ∈ oWS := oat 441 (by decide +kernel) rfl
theorem p_M_56 : Fp "ValueConnectorModel" 56 0 21 (.array .int) true := ⟨_, _, _, ty_M, rfl, uw_M, by decide, w_425, ok_M, nm_M, by decide +kernel, rfl, fun _ => rfl⟩
theorem w_427 : (Jvm.Cond.fieldLink "ValueConnectorModel" (59 : Nat) "ValueConnectorModel" "from" "[I") ∈ oWS := oat 443 (by decide +kernel) rfl
theorem p_M_59 : Fp "ValueConnectorModel" 59 0 23 (.array .int) true := ⟨_, _, _, ty_M, rfl, uw_M, by decide, w_427, ok_M, nm_M, by decide +kernel, rfl, fun _ => rfl⟩
theorem w_428 : (Jvm.Cond.fieldLink "ValueConnectorModel" (62 : Nat) "ValueConnectorModel" "to" "[I") ∈ oWS := oat 444 (by decide +kernel) rfl
theorem p_M_62 : Fp "ValueConnectorModel" 62 0 24 (.array .int) true := ⟨_, _, _, ty_M, rfl, uw_M, by decide, w_428, ok_M, nm_M, by decide +kernel, rfl, fun _ => rfl⟩
theorem w_429 : (Jvm.Cond.fieldLink "ValueConnectorModel" (65 : Nat) "ValueConnectorModel" "amount" "[I") ∈ oWS := oat 445 (by decide +kernel) rfl
theorem p_M_65 : Fp "ValueConnectorModel" 65 0 25 (.array .int) true := ⟨_, _, _, ty_M, rfl, uw_M, by decide, w_429, ok_M, nm_M, by decide +kernel, rfl, fun _ => rfl⟩
theorem w_430 : (Jvm.Cond.fieldLink "ValueConnectorModel" (68 : Nat) "ValueConnectorModel" "outgoing" "[J") ∈ oWS := oat 446 (by decide +kernel) rfl
theorem p_M_68 : Fp "ValueConnectorModel" 68 0 26 (.array .long) true := ⟨_, _, _, ty_M, rfl, uw_M, by decide, w_430, ok_M, nm_M, by decide +kernel, rfl, fun _ => rfl⟩
theorem w_431 : (Jvm.Cond.fieldLink "ValueConnectorModel" (71 : Nat) "ValueConnectorModel" "expiry" "[I") ∈ oWS := oat 447 (by decide +kernel) rfl
theorem p_M_71 : Fp "ValueConnectorModel" 71 0 27 (.array .int) true := ⟨_, _, _, ty_M, rfl, uw_M, by decide, w_431, ok_M, nm_M, by decide +kernel, rfl, fun _ => rfl⟩
theorem w_432 : (Jvm.Cond.fieldLink "ValueConnectorModel" (74 : Nat) "ValueConnectorModel" "condition" "[J") ∈ oWS := oat 448 (by decide +kernel) rfl
theorem p_M_74 : Fp "ValueConnectorModel" 74 0 28 (.array .long) true := ⟨_, _, _, ty_M, rfl, uw_M, by decide, w_432, ok_M, nm_M, by decide +kernel, rfl, fun _ => rfl⟩
theorem w_433 : (Jvm.Cond.fieldLink "ValueConnectorModel" (77 : Nat) "ValueConnectorModel" "state" "[I") ∈ oWS := oat 449 (by decide +kernel) rfl
theorem p_M_77 : Fp "ValueConnectorModel" 77 0 29 (.array .int) true := ⟨_, _, _, ty_M, rfl, uw_M, by decide, w_433, ok_M, nm_M, by decide +kernel, rfl, fun _ => rfl⟩
theorem w_434 : (Jvm.Cond.fieldLink "ValueConnectorModel" (80 : Nat) "ValueConnectorModel" "opened" "[J") ∈ oWS := oat 450 (by decide +kernel) rfl
theorem p_M_80 : Fp "ValueConnectorModel" 80 0 30 (.array .long) true := ⟨_, _, _, ty_M, rfl, uw_M, by decide, w_434, ok_M, nm_M, by decide +kernel, rfl, fun _ => rfl⟩
theorem w_436 : (Jvm.Cond.fieldLink "ValueConnectorModel" (83 : Nat) "ValueConnectorModel" "settled" "[J") ∈ oWS := oat 452 (by decide +kernel) rfl
theorem p_M_83 : Fp "ValueConnectorModel" 83 0 32 (.array .long) true := ⟨_, _, _, ty_M, rfl, uw_M, by decide, w_436, ok_M, nm_M, by decide +kernel, rfl, fun _ => rfl⟩
theorem w_404 : (Jvm.Cond.fieldLink "ValueConnectorModel" (86 : Nat) "ValueConnectorModel" "margin" "I") ∈ oWS := oat 420 (by decide +kernel) rfl
theorem p_M_86 : Fp "ValueConnectorModel" 86 0 0 (.int) true := ⟨_, _, _, ty_M, rfl, uw_M, by decide, w_404, ok_M, nm_M, by decide +kernel, rfl, fun _ => rfl⟩
theorem w_405 : (Jvm.Cond.fieldLink "ValueConnectorModel" (91 : Nat) "ValueConnectorModel" "hold" "I") ∈ oWS := oat 421 (by decide +kernel) rfl
theorem p_M_91 : Fp "ValueConnectorModel" 91 0 1 (.int) true := ⟨_, _, _, ty_M, rfl, uw_M, by decide, w_405, ok_M, nm_M, by decide +kernel, rfl, fun _ => rfl⟩
theorem w_403 : (Jvm.Cond.constant "ValueConnectorModel" (90 : Nat) (100000 : Int32)) ∈ oWS := oat 419 (by decide +kernel) rfl
theorem w_408 : (Jvm.Cond.fieldLink "ValueConnectorModel" (94 : Nat) "ValueConnectorModel" "accounts" "I") ∈ oWS := oat 424 (by decide +kernel) rfl
theorem f_M_94 : Fk "ValueConnectorModel" 94 0 4 := ⟨_, _, _, rfl, uw_M, by decide, w_408⟩
theorem w_508 : (Jvm.Cond.constant "ValueConnectorModel" (97 : Nat) (-1000000000 : Int32)) ∈ oWS := oat 524 (by decide +kernel) rfl
theorem w_509 : (Jvm.Cond.constant "ValueConnectorModel" (98 : Nat) (1000000000 : Int32)) ∈ oWS := oat 525 (by decide +kernel) rfl
theorem f_M_13 : Fk "ValueConnectorModel" 13 0 6 := ⟨_, _, _, rfl, uw_M, by decide, w_410⟩
theorem f_M_17 : Fk "ValueConnectorModel" 17 0 7 := ⟨_, _, _, rfl, uw_M, by decide, w_411⟩
theorem f_M_20 : Fk "ValueConnectorModel" 20 0 8 := ⟨_, _, _, rfl, uw_M, by decide, w_412⟩
theorem f_M_23 : Fk "ValueConnectorModel" 23 0 9 := ⟨_, _, _, rfl, uw_M, by decide, w_413⟩
theorem f_M_35 : Fk "ValueConnectorModel" 35 0 13 := ⟨_, _, _, rfl, uw_M, by decide, w_417⟩
theorem f_M_38 : Fk "ValueConnectorModel" 38 0 14 := ⟨_, _, _, rfl, uw_M, by decide, w_418⟩
theorem f_M_41 : Fk "ValueConnectorModel" 41 0 15 := ⟨_, _, _, rfl, uw_M, by decide, w_419⟩
theorem p_M_94 : Fp "ValueConnectorModel" 94 0 4 (.int) false := ⟨_, _, _, ty_M, rfl, uw_M, by decide, w_408, ok_M, nm_M, by decide +kernel, rfl, fun z => by cases z⟩
theorem w_3 : (Jvm.Cond.initialized "ValueConnectorModel") ∈ oWS := oat 19 (by decide +kernel) rfl
theorem w_517 : (Jvm.Cond.code ({ cls := "ValueConnectorModel", name := "isAccount", desc := "(I)Z" } : Jvm.MethodName) prog_8_method_2_code (2 : Nat) (Option.some Jvm.ClassFile.FieldType.boolean)) ∈ oWS := oat 533 (by decide +kernel) rfl
theorem w_514 : (Jvm.Cond.methodLink "ValueConnectorModel" (99 : Nat) ({ cls := "ValueConnectorModel", name := "isAccount", desc := "(I)Z" } : Jvm.MethodName)) ∈ oWS := oat 530 (by decide +kernel) rfl
theorem w_516 : (Jvm.Cond.instanceMethod ({ cls := "ValueConnectorModel", name := "isAccount", desc := "(I)Z" } : Jvm.MethodName)) ∈ oWS := oat 532 (by decide +kernel) rfl
theorem ws_9 : (Jvm.Cond.selects "ValueConnectorModel" ({ cls := "ValueConnectorModel", name := "isAccount", desc := "(I)Z" } : Jvm.MethodName) ({ cls := "ValueConnectorModel", name := "isAccount", desc := "(I)Z" } : Jvm.MethodName)) ∈ oWS := oat 9 (by decide +kernel) rfl
theorem k_M_99 : Kv "ValueConnectorModel" 99 0 y_M_isAccount prog_8_method_2_code 2 (some .boolean) 1 := ⟨w_514, w_516, ws_9, w_3, w_517, ⟨by decide, by decide, by decide +kernel⟩, _, _, rfl⟩
theorem w_407 : (Jvm.Cond.fieldLink "ValueConnectorModel" (103 : Nat) "ValueConnectorModel" "spread" "I") ∈ oWS := oat 423 (by decide +kernel) rfl
theorem p_M_103 : Fp "ValueConnectorModel" 103 0 3 (.int) false := ⟨_, _, _, ty_M, rfl, uw_M, by decide, w_407, ok_M, nm_M, by decide +kernel, rfl, fun z => by cases z⟩
theorem f_M_26 : Fk "ValueConnectorModel" 26 0 10 := ⟨_, _, _, rfl, uw_M, by decide, w_414⟩
theorem f_M_29 : Fk "ValueConnectorModel" 29 0 11 := ⟨_, _, _, rfl, uw_M, by decide, w_415⟩
theorem w_540 : (Jvm.Cond.constantLong "ValueConnectorModel" (106 : Nat) (255 : Int64)) ∈ oWS := oat 556 (by decide +kernel) rfl
theorem w_539 : (Jvm.Cond.code ({ cls := "ValueConnectorModel", name := "letterAt", desc := "(JI)I" } : Jvm.MethodName) prog_8_method_8_code (3 : Nat) (Option.some Jvm.ClassFile.FieldType.int)) ∈ oWS := oat 555 (by decide +kernel) rfl
theorem w_537 : (Jvm.Cond.methodLink "ValueConnectorModel" (108 : Nat) ({ cls := "ValueConnectorModel", name := "letterAt", desc := "(JI)I" } : Jvm.MethodName)) ∈ oWS := oat 553 (by decide +kernel) rfl
theorem w_538 : (Jvm.Cond.static ({ cls := "ValueConnectorModel", name := "letterAt", desc := "(JI)I" } : Jvm.MethodName)) ∈ oWS := oat 554 (by decide +kernel) rfl
theorem k_M_108 : Ks "ValueConnectorModel" 108 y_M_letterAt prog_8_method_8_code 3 (some .int) 2 := ⟨w_537, w_538, w_3, w_539, ⟨by decide, by decide, by decide +kernel⟩⟩
theorem w_422 : (Jvm.Cond.fieldLink "ValueConnectorModel" (112 : Nat) "ValueConnectorModel" "routes" "I") ∈ oWS := oat 438 (by decide +kernel) rfl
theorem f_M_112 : Fk "ValueConnectorModel" 112 0 18 := ⟨_, _, _, rfl, uw_M, by decide, w_422⟩
theorem f_M_50 : Fk "ValueConnectorModel" 50 0 19 := ⟨_, _, _, rfl, uw_M, by decide, w_423⟩
theorem f_M_53 : Fk "ValueConnectorModel" 53 0 20 := ⟨_, _, _, rfl, uw_M, by decide, w_424⟩
theorem w_536 : (Jvm.Cond.code ({ cls := "ValueConnectorModel", name := "lengthOf", desc := "(J)I" } : Jvm.MethodName) prog_8_method_9_code (4 : Nat) (Option.some Jvm.ClassFile.FieldType.int)) ∈ oWS := oat 552 (by decide +kernel) rfl
theorem w_534 : (Jvm.Cond.methodLink "ValueConnectorModel" (115 : Nat) ({ cls := "ValueConnectorModel", name := "lengthOf", desc := "(J)I" } : Jvm.MethodName)) ∈ oWS := oat 550 (by decide +kernel) rfl
theorem w_535 : (Jvm.Cond.static ({ cls := "ValueConnectorModel", name := "lengthOf", desc := "(J)I" } : Jvm.MethodName)) ∈ oWS := oat 551 (by decide +kernel) rfl
theorem k_M_115 : Ks "ValueConnectorModel" 115 y_M_lengthOf prog_8_method_9_code 4 (some .int) 1 := ⟨w_534, w_535, w_3, w_536, ⟨by decide, by decide, by decide +kernel⟩⟩
theorem w_544 : (Jvm.Cond.code ({ cls := "ValueConnectorModel", name := "find", desc := "(IJ)I" } : Jvm.MethodName) prog_8_method_10_code (6 : Nat) (Option.some Jvm.ClassFile.FieldType.int)) ∈ oWS := oat 560 (by decide +kernel) rfl
theorem w_541 : (Jvm.Cond.methodLink "ValueConnectorModel" (119 : Nat) ({ cls := "ValueConnectorModel", name := "find", desc := "(IJ)I" } : Jvm.MethodName)) ∈ oWS := oat 557 (by decide +kernel) rfl
theorem w_543 : (Jvm.Cond.instanceMethod ({ cls := "ValueConnectorModel", name := "find", desc := "(IJ)I" } : Jvm.MethodName)) ∈ oWS := oat 559 (by decide +kernel) rfl
theorem ws_10 : (Jvm.Cond.selects "ValueConnectorModel" ({ cls := "ValueConnectorModel", name := "find", desc := "(IJ)I" } : Jvm.MethodName) ({ cls := "ValueConnectorModel", name := "find", desc := "(IJ)I" } : Jvm.MethodName)) ∈ oWS := oat 10 (by decide +kernel) rfl
theorem k_M_119 : Kv "ValueConnectorModel" 119 0 y_M_find prog_8_method_10_code 6 (some .int) 2 := ⟨w_541, w_543, ws_10, w_3, w_544, ⟨by decide, by decide, by decide +kernel⟩, _, _, rfl⟩
theorem f_M_56 : Fk "ValueConnectorModel" 56 0 21 := ⟨_, _, _, rfl, uw_M, by decide, w_425⟩
theorem p_M_112 : Fp "ValueConnectorModel" 112 0 18 (.int) false := ⟨_, _, _, ty_M, rfl, uw_M, by decide, w_422, ok_M, nm_M, by decide +kernel, rfl, fun z => by cases z⟩
theorem w_556 : (Jvm.Cond.code ({ cls := "ValueConnectorModel", name := "begins", desc := "(JJ)Z" } : Jvm.MethodName) prog_8_method_13_code (8 : Nat) (Option.some Jvm.ClassFile.FieldType.boolean)) ∈ oWS := oat 572 (by decide +kernel) rfl
theorem w_553 : (Jvm.Cond.methodLink "ValueConnectorModel" (123 : Nat) ({ cls := "ValueConnectorModel", name := "begins", desc := "(JJ)Z" } : Jvm.MethodName)) ∈ oWS := oat 569 (by decide +kernel) rfl
theorem w_555 : (Jvm.Cond.instanceMethod ({ cls := "ValueConnectorModel", name := "begins", desc := "(JJ)Z" } : Jvm.MethodName)) ∈ oWS := oat 571 (by decide +kernel) rfl
theorem ws_11 : (Jvm.Cond.selects "ValueConnectorModel" ({ cls := "ValueConnectorModel", name := "begins", desc := "(JJ)Z" } : Jvm.MethodName) ({ cls := "ValueConnectorModel", name := "begins", desc := "(JJ)Z" } : Jvm.MethodName)) ∈ oWS := oat 11 (by decide +kernel) rfl
theorem k_M_123 : Kv "ValueConnectorModel" 123 0 y_M_begins prog_8_method_13_code 8 (some .boolean) 2 := ⟨w_553, w_555, ws_11, w_3, w_556, ⟨by decide, by decide, by decide +kernel⟩, _, _, rfl⟩
theorem w_560 : (Jvm.Cond.code ({ cls := "ValueConnectorModel", name := "better", desc := "(II)Z" } : Jvm.MethodName) prog_8_method_14_code (5 : Nat) (Option.some Jvm.ClassFile.FieldType.boolean)) ∈ oWS := oat 576 (by decide +kernel) rfl
theorem w_557 : (Jvm.Cond.methodLink "ValueConnectorModel" (127 : Nat) ({ cls := "ValueConnectorModel", name := "better", desc := "(II)Z" } : Jvm.MethodName)) ∈ oWS := oat 573 (by decide +kernel) rfl
theorem w_559 : (Jvm.Cond.instanceMethod ({ cls := "ValueConnectorModel", name := "better", desc := "(II)Z" } : Jvm.MethodName)) ∈ oWS := oat 575 (by decide +kernel) rfl
theorem ws_12 : (Jvm.Cond.selects "ValueConnectorModel" ({ cls := "ValueConnectorModel", name := "better", desc := "(II)Z" } : Jvm.MethodName) ({ cls := "ValueConnectorModel", name := "better", desc := "(II)Z" } : Jvm.MethodName)) ∈ oWS := oat 12 (by decide +kernel) rfl
theorem k_M_127 : Kv "ValueConnectorModel" 127 0 y_M_better prog_8_method_14_code 5 (some .boolean) 2 := ⟨w_557, w_559, ws_12, w_3, w_560, ⟨by decide, by decide, by decide +kernel⟩, _, _, rfl⟩
theorem w_426 : (Jvm.Cond.fieldLink "ValueConnectorModel" (131 : Nat) "ValueConnectorModel" "transfers" "I") ∈ oWS := oat 442 (by decide +kernel) rfl
theorem f_M_131 : Fk "ValueConnectorModel" 131 0 22 := ⟨_, _, _, rfl, uw_M, by decide, w_426⟩
theorem w_406 : (Jvm.Cond.fieldLink "ValueConnectorModel" (134 : Nat) "ValueConnectorModel" "now" "I") ∈ oWS := oat 422 (by decide +kernel) rfl
theorem f_M_134 : Fk "ValueConnectorModel" 134 0 2 := ⟨_, _, _, rfl, uw_M, by decide, w_406⟩
theorem w_552 : (Jvm.Cond.code ({ cls := "ValueConnectorModel", name := "way", desc := "(J)I" } : Jvm.MethodName) prog_8_method_15_code (5 : Nat) (Option.some Jvm.ClassFile.FieldType.int)) ∈ oWS := oat 568 (by decide +kernel) rfl
theorem w_565 : (Jvm.Cond.methodLink "ValueConnectorModel" (137 : Nat) ({ cls := "ValueConnectorModel", name := "way", desc := "(J)I" } : Jvm.MethodName)) ∈ oWS := oat 581 (by decide +kernel) rfl
theorem w_550 : (Jvm.Cond.instanceMethod ({ cls := "ValueConnectorModel", name := "way", desc := "(J)I" } : Jvm.MethodName)) ∈ oWS := oat 566 (by decide +kernel) rfl
theorem w_551 : (Jvm.Cond.selects "ValueConnectorModel" ({ cls := "ValueConnectorModel", name := "way", desc := "(J)I" } : Jvm.MethodName) ({ cls := "ValueConnectorModel", name := "way", desc := "(J)I" } : Jvm.MethodName)) ∈ oWS := oat 567 (by decide +kernel) rfl
theorem k_M_137 : Kv "ValueConnectorModel" 137 0 y_M_way prog_8_method_15_code 5 (some .int) 1 := ⟨w_565, w_550, w_551, w_3, w_552, ⟨by decide, by decide, by decide +kernel⟩, _, _, rfl⟩
theorem f_M_86 : Fk "ValueConnectorModel" 86 0 0 := ⟨_, _, _, rfl, uw_M, by decide, w_404⟩
theorem f_M_91 : Fk "ValueConnectorModel" 91 0 1 := ⟨_, _, _, rfl, uw_M, by decide, w_405⟩
theorem f_M_7 : Fk "ValueConnectorModel" 7 0 5 := ⟨_, _, _, rfl, uw_M, by decide, w_409⟩
theorem f_M_103 : Fk "ValueConnectorModel" 103 0 3 := ⟨_, _, _, rfl, uw_M, by decide, w_407⟩
theorem w_566 : (Jvm.Cond.constantLong "ValueConnectorModel" (140 : Nat) (1000 : Int64)) ∈ oWS := oat 582 (by decide +kernel) rfl
theorem f_M_59 : Fk "ValueConnectorModel" 59 0 23 := ⟨_, _, _, rfl, uw_M, by decide, w_427⟩
theorem f_M_62 : Fk "ValueConnectorModel" 62 0 24 := ⟨_, _, _, rfl, uw_M, by decide, w_428⟩
theorem f_M_65 : Fk "ValueConnectorModel" 65 0 25 := ⟨_, _, _, rfl, uw_M, by decide, w_429⟩
theorem f_M_68 : Fk "ValueConnectorModel" 68 0 26 := ⟨_, _, _, rfl, uw_M, by decide, w_430⟩
theorem f_M_71 : Fk "ValueConnectorModel" 71 0 27 := ⟨_, _, _, rfl, uw_M, by decide, w_431⟩
theorem f_M_74 : Fk "ValueConnectorModel" 74 0 28 := ⟨_, _, _, rfl, uw_M, by decide, w_432⟩
theorem f_M_77 : Fk "ValueConnectorModel" 77 0 29 := ⟨_, _, _, rfl, uw_M, by decide, w_433⟩
theorem p_M_131 : Fp "ValueConnectorModel" 131 0 22 (.int) false := ⟨_, _, _, ty_M, rfl, uw_M, by decide, w_426, ok_M, nm_M, by decide +kernel, rfl, fun z => by cases z⟩
theorem w_571 : (Jvm.Cond.constantLong "ValueConnectorModel" (142 : Nat) (41 : Int64)) ∈ oWS := oat 587 (by decide +kernel) rfl
theorem f_M_32 : Fk "ValueConnectorModel" 32 0 12 := ⟨_, _, _, rfl, uw_M, by decide, w_416⟩
theorem w_587 : (Jvm.Cond.code ({ cls := "ValueConnectorModel", name := "power", desc := "(I)I" } : Jvm.MethodName) prog_8_method_20_code (1 : Nat) (Option.some Jvm.ClassFile.FieldType.int)) ∈ oWS := oat 603 (by decide +kernel) rfl
theorem w_585 : (Jvm.Cond.methodLink "ValueConnectorModel" (155 : Nat) ({ cls := "ValueConnectorModel", name := "power", desc := "(I)I" } : Jvm.MethodName)) ∈ oWS := oat 601 (by decide +kernel) rfl
theorem w_586 : (Jvm.Cond.static ({ cls := "ValueConnectorModel", name := "power", desc := "(I)I" } : Jvm.MethodName)) ∈ oWS := oat 602 (by decide +kernel) rfl
theorem k_M_155 : Ks "ValueConnectorModel" 155 y_M_power prog_8_method_20_code 1 (some .int) 1 := ⟨w_585, w_586, w_3, w_587, ⟨by decide, by decide, by decide +kernel⟩⟩
theorem f_M_83 : Fk "ValueConnectorModel" 83 0 32 := ⟨_, _, _, rfl, uw_M, by decide, w_436⟩
theorem w_435 : (Jvm.Cond.fieldLink "ValueConnectorModel" (159 : Nat) "ValueConnectorModel" "settlements" "I") ∈ oWS := oat 451 (by decide +kernel) rfl
theorem f_M_159 : Fk "ValueConnectorModel" 159 0 31 := ⟨_, _, _, rfl, uw_M, by decide, w_435⟩
theorem w_588 : (Jvm.Cond.constantLong "ValueConnectorModel" (162 : Nat) (8 : Int64)) ∈ oWS := oat 604 (by decide +kernel) rfl
theorem p_M_159 : Fp "ValueConnectorModel" 159 0 31 (.int) false := ⟨_, _, _, ty_M, rfl, uw_M, by decide, w_435, ok_M, nm_M, by decide +kernel, rfl, fun z => by cases z⟩
theorem w_579 : (Jvm.Cond.code ({ cls := "ValueConnectorModel", name := "isTransfer", desc := "(I)Z" } : Jvm.MethodName) prog_8_method_18_code (2 : Nat) (Option.some Jvm.ClassFile.FieldType.boolean)) ∈ oWS := oat 595 (by decide +kernel) rfl
theorem w_576 : (Jvm.Cond.methodLink "ValueConnectorModel" (144 : Nat) ({ cls := "ValueConnectorModel", name := "isTransfer", desc := "(I)Z" } : Jvm.MethodName)) ∈ oWS := oat 592 (by decide +kernel) rfl
theorem w_578 : (Jvm.Cond.instanceMethod ({ cls := "ValueConnectorModel", name := "isTransfer", desc := "(I)Z" } : Jvm.MethodName)) ∈ oWS := oat 594 (by decide +kernel) rfl
theorem ws_13 : (Jvm.Cond.selects "ValueConnectorModel" ({ cls := "ValueConnectorModel", name := "isTransfer", desc := "(I)Z" } : Jvm.MethodName) ({ cls := "ValueConnectorModel", name := "isTransfer", desc := "(I)Z" } : Jvm.MethodName)) ∈ oWS := oat 13 (by decide +kernel) rfl
theorem k_M_144 : Kv "ValueConnectorModel" 144 0 y_M_isTransfer prog_8_method_18_code 2 (some .boolean) 1 := ⟨w_576, w_578, ws_13, w_3, w_579, ⟨by decide, by decide, by decide +kernel⟩, _, _, rfl⟩
theorem w_570 : (Jvm.Cond.code ({ cls := "ValueConnectorModel", name := "lock", desc := "(J)J" } : Jvm.MethodName) prog_8_method_17_code (5 : Nat) (Option.some Jvm.ClassFile.FieldType.long)) ∈ oWS := oat 586 (by decide +kernel) rfl
theorem w_580 : (Jvm.Cond.methodLink "ValueConnectorModel" (147 : Nat) ({ cls := "ValueConnectorModel", name := "lock", desc := "(J)J" } : Jvm.MethodName)) ∈ oWS := oat 596 (by decide +kernel) rfl
theorem w_568 : (Jvm.Cond.instanceMethod ({ cls := "ValueConnectorModel", name := "lock", desc := "(J)J" } : Jvm.MethodName)) ∈ oWS := oat 584 (by decide +kernel) rfl
theorem w_569 : (Jvm.Cond.selects "ValueConnectorModel" ({ cls := "ValueConnectorModel", name := "lock", desc := "(J)J" } : Jvm.MethodName) ({ cls := "ValueConnectorModel", name := "lock", desc := "(J)J" } : Jvm.MethodName)) ∈ oWS := oat 585 (by decide +kernel) rfl
theorem k_M_147 : Kv "ValueConnectorModel" 147 0 y_M_lock prog_8_method_17_code 5 (some .long) 1 := ⟨w_580, w_568, w_569, w_3, w_570, ⟨by decide, by decide, by decide +kernel⟩, _, _, rfl⟩
theorem f_M_80 : Fk "ValueConnectorModel" 80 0 30 := ⟨_, _, _, rfl, uw_M, by decide, w_434⟩
theorem w_584 : (Jvm.Cond.code ({ cls := "ValueConnectorModel", name := "settle", desc := "(I)V" } : Jvm.MethodName) prog_8_method_21_code (4 : Nat) (Option.none : Option Jvm.ClassFile.FieldType)) ∈ oWS := oat 600 (by decide +kernel) rfl
theorem w_581 : (Jvm.Cond.methodLink "ValueConnectorModel" (151 : Nat) ({ cls := "ValueConnectorModel", name := "settle", desc := "(I)V" } : Jvm.MethodName)) ∈ oWS := oat 597 (by decide +kernel) rfl
theorem w_583 : (Jvm.Cond.instanceMethod ({ cls := "ValueConnectorModel", name := "settle", desc := "(I)V" } : Jvm.MethodName)) ∈ oWS := oat 599 (by decide +kernel) rfl
theorem ws_14 : (Jvm.Cond.selects "ValueConnectorModel" ({ cls := "ValueConnectorModel", name := "settle", desc := "(I)V" } : Jvm.MethodName) ({ cls := "ValueConnectorModel", name := "settle", desc := "(I)V" } : Jvm.MethodName)) ∈ oWS := oat 14 (by decide +kernel) rfl
theorem k_M_151 : Kv "ValueConnectorModel" 151 0 y_M_settle prog_8_method_21_code 4 none 1 := ⟨w_581, w_583, ws_14, w_3, w_584, ⟨by decide, by decide, by decide +kernel⟩, _, _, rfl⟩
theorem w_596 : (Jvm.Cond.code ({ cls := "ValueConnectorModel", name := "giveBack", desc := "(II)V" } : Jvm.MethodName) prog_8_method_22_code (3 : Nat) (Option.none : Option Jvm.ClassFile.FieldType)) ∈ oWS := oat 612 (by decide +kernel) rfl
theorem w_593 : (Jvm.Cond.methodLink "ValueConnectorModel" (164 : Nat) ({ cls := "ValueConnectorModel", name := "giveBack", desc := "(II)V" } : Jvm.MethodName)) ∈ oWS := oat 609 (by decide +kernel) rfl
theorem w_595 : (Jvm.Cond.instanceMethod ({ cls := "ValueConnectorModel", name := "giveBack", desc := "(II)V" } : Jvm.MethodName)) ∈ oWS := oat 611 (by decide +kernel) rfl
theorem ws_15 : (Jvm.Cond.selects "ValueConnectorModel" ({ cls := "ValueConnectorModel", name := "giveBack", desc := "(II)V" } : Jvm.MethodName) ({ cls := "ValueConnectorModel", name := "giveBack", desc := "(II)V" } : Jvm.MethodName)) ∈ oWS := oat 15 (by decide +kernel) rfl
theorem k_M_164 : Kv "ValueConnectorModel" 164 0 y_M_giveBack prog_8_method_22_code 3 none 2 := ⟨w_593, w_595, ws_15, w_3, w_596, ⟨by decide, by decide, by decide +kernel⟩, _, _, rfl⟩
theorem p_M_134 : Fp "ValueConnectorModel" 134 0 2 (.int) false := ⟨_, _, _, ty_M, rfl, uw_M, by decide, w_406, ok_M, nm_M, by decide +kernel, rfl, fun z => by cases z⟩
theorem w_605 : (Jvm.Cond.constant "ValueConnectorModel" (168 : Nat) (1000000 : Int32)) ∈ oWS := oat 621 (by decide +kernel) rfl
theorem f_M_44 : Fk "ValueConnectorModel" 44 0 16 := ⟨_, _, _, rfl, uw_M, by decide, w_420⟩
theorem f_M_47 : Fk "ValueConnectorModel" 47 0 17 := ⟨_, _, _, rfl, uw_M, by decide, w_421⟩
theorem w_622 : (Jvm.Cond.constantLong "ValueConnectorModel" (169 : Nat) (-1 : Int64)) ∈ oWS := oat 638 (by decide +kernel) rfl
