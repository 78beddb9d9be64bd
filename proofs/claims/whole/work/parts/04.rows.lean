section OV
variable {p : Program} {l : Launch} {e : Env} {R : Room} {s : State} {m : MethodId} {args : Array Value} {below : List Frame} {meth : Method} {c : Code} {Q : State → Prop} {Γ : oGm} {nL cells slots : Nat} {ad : oAd} {cn : Nat → Nat} {S : oSt} {cc : ByteArray} {own : String} {pc nx : Nat} {lv : List (Nat × Value)} {rest : List Value}
def Vv (p : Program) (l : Launch) (e : Env) (R : Room) (s : State) (m : MethodId) (args : Array Value) (below : List Frame) (meth : Method) (c : Code) (Q : State → Prop) (Γ : oGm) (nL cells slots : Nat) (ad : oAd) (cn : Nat → Nat) (S : oSt) (pc : Nat) (lv : List (Nat × Value)) (st : List Value) : Prop :=
  ∀ (H : Heap) (locs : List Loc) (ls : Array Slot), oP Γ ad cn S H → va_S (oF Γ) s.heap H locs → lv_has ls nL lv → W p l e R s m args below meth c H locs cells slots Q (F0 m pc ls st)
def Cx (p : Program) (s : State) (m : MethodId) (args : Array Value) (meth : Method) (c : Code) (Γ : oGm) (cc : ByteArray) (nL : Nat) (own : String) : Prop :=
  CallFix p m c cc nL s args oWS own ∧ va_K Γ.1 vwCl (oty Γ) s ∧ oz Γ s ∧ meth.locks = false
theorem Cx.x (C : Cx p s m args meth c Γ cc nL own) : p.tables.exec = Jvm.exec := C.1.1
theorem Cx.b (C : Cx p s m args meth c Γ cc nL own) : c.code = cc := C.1.2.1
theorem Cx.n (C : Cx p s m args meth c Γ cc nL own) : c.maxLocals = nL := C.1.2.2.1
theorem Cx.o (C : Cx p s m args meth c Γ cc nL own) : s.vm.findClass own = some m.cls := C.1.2.2.2.1
theorem Cx.nw (C : Cx p s m args meth c Γ cc nL own) {w : Jvm.Cond} (h : w ∈ oNW) : va_Nw w s := C.2.2.1.2.2.2.2.2.1 w h
theorem Cx.w (C : Cx p s m args meth c Γ cc nL own) {w : Jvm.Cond} (h : w ∈ oWS) : w.before args s = true := C.1.2.2.2.2 w h
/-- an instruction, its length, the next one's place -/
def Dc (cc : ByteArray) (pc : Nat) (i : Jvm.ClassFile.Instr) (n nx : Nat) : Prop := decode cc pc = .ok (i, n) ∧ pc + n = nx
/-- a branch: its target too -/
def Db (cc : ByteArray) (pc : Nat) (i : Int → Jvm.ClassFile.Instr) (tgt nx : Nat) : Prop := ∃ off : Int, decode cc pc = .ok (i off, 3) ∧ (pc : Int) + off = (tgt : Int) ∧ pc + 3 = nx
theorem V_iconst {n : Int} {v : Int32} (C : Cx p s m args meth c Γ cc nL own) (hv : Int32.ofInt n = v) (d : Dc cc pc (.iconst n) 1 nx) (k : Vv p l e R s m args below meth c Q Γ nL cells slots ad cn S nx lv (.int v :: rest)) : Vv p l e R s m args below meth c Q Γ nL cells slots ad cn S pc lv (rest) := by
  obtain ⟨d, rfl⟩ := d
  exact fun H locs ls hP hS hl => lv_iconst C.x C.b d hv (k H locs ls hP hS hl)
theorem V_bipush {n : Int} {v : Int32} (C : Cx p s m args meth c Γ cc nL own) (hv : (Int8.ofInt n).toInt32 = v) (d : Dc cc pc (.bipush n) 2 nx) (k : Vv p l e R s m args below meth c Q Γ nL cells slots ad cn S nx lv (.int v :: rest)) : Vv p l e R s m args below meth c Q Γ nL cells slots ad cn S pc lv (rest) := by
  obtain ⟨d, rfl⟩ := d
  exact fun H locs ls hP hS hl => lv_bipush C.x C.b d hv (k H locs ls hP hS hl)
theorem V_sipush {n : Int} {v : Int32} (C : Cx p s m args meth c Γ cc nL own) (hv : (Int16.ofInt n).toInt32 = v) (d : Dc cc pc (.sipush n) 3 nx) (k : Vv p l e R s m args below meth c Q Γ nL cells slots ad cn S nx lv (.int v :: rest)) : Vv p l e R s m args below meth c Q Γ nL cells slots ad cn S pc lv (rest) := by
  obtain ⟨d, rfl⟩ := d
  exact fun H locs ls hP hS hl => lv_sipush C.x C.b d hv (k H locs ls hP hS hl)
theorem V_lconst {n : Fin 2} {v : Int64} (C : Cx p s m args meth c Γ cc nL own) (hv : Int64.ofNat (n : Nat) = v) (d : Dc cc pc (.lconst n) 1 nx) (k : Vv p l e R s m args below meth c Q Γ nL cells slots ad cn S nx lv (.long v :: rest)) : Vv p l e R s m args below meth c Q Γ nL cells slots ad cn S pc lv (rest) := by
  obtain ⟨d, rfl⟩ := d
  exact fun H locs ls hP hS hl => lv_lconst C.x C.b d hv (k H locs ls hP hS hl)
theorem V_ldc {index : Nat} {v : Int32} (C : Cx p s m args meth c Γ cc nL own) (hw : Jvm.Cond.constant own index v ∈ oWS) (d : Dc cc pc (.ldc index) 2 nx) (k : Vv p l e R s m args below meth c Q Γ nL cells slots ad cn S nx lv (.int v :: rest)) : Vv p l e R s m args below meth c Q Γ nL cells slots ad cn S pc lv (rest) := by
  obtain ⟨d, rfl⟩ := d
  exact fun H locs ls hP hS hl => lv_ldc C.x C.b C.o (C.w hw) d (k H locs ls hP hS hl)
theorem V_ldc2 {index : Nat} {v : Int64} (C : Cx p s m args meth c Γ cc nL own) (hw : Jvm.Cond.constantLong own index v ∈ oWS) (d : Dc cc pc (.ldc2_w index) 3 nx) (k : Vv p l e R s m args below meth c Q Γ nL cells slots ad cn S nx lv (.long v :: rest)) : Vv p l e R s m args below meth c Q Γ nL cells slots ad cn S pc lv (rest) := by
  obtain ⟨d, rfl⟩ := d
  exact fun H locs ls hP hS hl => lv_ldc2 C.x C.b C.o (C.w hw) d (k H locs ls hP hS hl)
theorem V_iload_n {k : Fin 4} {x : Int32} (q : Nat) (C : Cx p s m args meth c Γ cc nL own) (hq : lv[q]? = some ((k : Nat), .int x)) (d : Dc cc pc (.iload_n k) 1 nx) (k : Vv p l e R s m args below meth c Q Γ nL cells slots ad cn S nx lv (.int x :: rest)) : Vv p l e R s m args below meth c Q Γ nL cells slots ad cn S pc lv (rest) := by
  obtain ⟨d, rfl⟩ := d
  exact fun H locs ls hP hS hl => lv_iload_n C.x C.b d rfl (lv_at hl q hq) (k H locs ls hP hS hl)
theorem V_iload {i : Nat} {x : Int32} (q : Nat) (C : Cx p s m args meth c Γ cc nL own) (hq : lv[q]? = some (i, .int x)) (d : Dc cc pc (.iload i) 2 nx) (k : Vv p l e R s m args below meth c Q Γ nL cells slots ad cn S nx lv (.int x :: rest)) : Vv p l e R s m args below meth c Q Γ nL cells slots ad cn S pc lv (rest) := by
  obtain ⟨d, rfl⟩ := d
  exact fun H locs ls hP hS hl => lv_iload C.x C.b d (lv_at hl q hq) (k H locs ls hP hS hl)
theorem V_lload_n {k : Fin 4} {x : Int64} (q : Nat) (C : Cx p s m args meth c Γ cc nL own) (hq : lv[q]? = some ((k : Nat), .long x)) (d : Dc cc pc (.lload_n k) 1 nx) (k : Vv p l e R s m args below meth c Q Γ nL cells slots ad cn S nx lv (.long x :: rest)) : Vv p l e R s m args below meth c Q Γ nL cells slots ad cn S pc lv (rest) := by
  obtain ⟨d, rfl⟩ := d
  exact fun H locs ls hP hS hl => lv_lload_n C.x C.b d rfl (lv_at hl q hq) (k H locs ls hP hS hl)
theorem V_lload {i : Nat} {x : Int64} (q : Nat) (C : Cx p s m args meth c Γ cc nL own) (hq : lv[q]? = some (i, .long x)) (d : Dc cc pc (.lload i) 2 nx) (k : Vv p l e R s m args below meth c Q Γ nL cells slots ad cn S nx lv (.long x :: rest)) : Vv p l e R s m args below meth c Q Γ nL cells slots ad cn S pc lv (rest) := by
  obtain ⟨d, rfl⟩ := d
  exact fun H locs ls hP hS hl => lv_lload C.x C.b d (lv_at hl q hq) (k H locs ls hP hS hl)
theorem V_aload_n {k : Fin 4} {x : Nat} (q : Nat) (C : Cx p s m args meth c Γ cc nL own) (hq : lv[q]? = some ((k : Nat), .ref x)) (d : Dc cc pc (.aload_n k) 1 nx) (k : Vv p l e R s m args below meth c Q Γ nL cells slots ad cn S nx lv (.ref x :: rest)) : Vv p l e R s m args below meth c Q Γ nL cells slots ad cn S pc lv (rest) := by
  obtain ⟨d, rfl⟩ := d
  exact fun H locs ls hP hS hl => lv_aload_n C.x C.b d rfl (lv_at hl q hq) (k H locs ls hP hS hl)
theorem V_aload {i : Nat} {x : Nat} (q : Nat) (C : Cx p s m args meth c Γ cc nL own) (hq : lv[q]? = some (i, .ref x)) (d : Dc cc pc (.aload i) 2 nx) (k : Vv p l e R s m args below meth c Q Γ nL cells slots ad cn S nx lv (.ref x :: rest)) : Vv p l e R s m args below meth c Q Γ nL cells slots ad cn S pc lv (rest) := by
  obtain ⟨d, rfl⟩ := d
  exact fun H locs ls hP hS hl => lv_aload C.x C.b d (lv_at hl q hq) (k H locs ls hP hS hl)
theorem V_oload_n {k : Fin 4} {kd : Nat} {o : Option Nat} (q : Nat) (C : Cx p s m args meth c Γ cc nL own) (hq : lv[q]? = some ((k : Nat), rv ad kd o)) (d : Dc cc pc (.aload_n k) 1 nx) (k : Vv p l e R s m args below meth c Q Γ nL cells slots ad cn S nx lv (rv ad kd o :: rest)) : Vv p l e R s m args below meth c Q Γ nL cells slots ad cn S pc lv rest := by
  obtain ⟨d, rfl⟩ := d
  intro H locs ls hP hS hl
  cases o with
  | none => exact lv_aload_nN C.x C.b d rfl (lv_at hl q hq) (k H locs ls hP hS hl)
  | some i => exact lv_aload_n C.x C.b d rfl (lv_at hl q hq) (k H locs ls hP hS hl)
theorem V_oload {i kd : Nat} {o : Option Nat} (q : Nat) (C : Cx p s m args meth c Γ cc nL own) (hq : lv[q]? = some (i, rv ad kd o)) (d : Dc cc pc (.aload i) 2 nx) (k : Vv p l e R s m args below meth c Q Γ nL cells slots ad cn S nx lv (rv ad kd o :: rest)) : Vv p l e R s m args below meth c Q Γ nL cells slots ad cn S pc lv rest := by
  obtain ⟨d, rfl⟩ := d
  intro H locs ls hP hS hl
  cases o with
  | none => exact lv_aloadN C.x C.b d (lv_at hl q hq) (k H locs ls hP hS hl)
  | some i => exact lv_aload C.x C.b d (lv_at hl q hq) (k H locs ls hP hS hl)
theorem V_istore_n {k : Fin 4} {x : Int32} (C : Cx p s m args meth c Γ cc nL own) (lv2 : List (Nat × Value)) (hn : (k : Nat) < nL) (hl2 : ((k : Nat), Value.int x) :: lv.filter (fun q => !(q.1 == (k : Nat)) && !(q.1 + 1 == (k : Nat) && q.2.category == 2)) = lv2) (d : Dc cc pc (.istore_n k) 1 nx) (k2 : Vv p l e R s m args below meth c Q Γ nL cells slots ad cn S nx lv2 rest) : Vv p l e R s m args below meth c Q Γ nL cells slots ad cn S pc lv (.int x :: rest) := by
  obtain ⟨d, rfl⟩ := d
  exact fun H locs ls hP hS hl => lv_istore_n C.x C.b d rfl hl hn hl2 (fun ls hl => k2 H locs ls hP hS hl)
theorem V_istore {i : Nat} {x : Int32} (C : Cx p s m args meth c Γ cc nL own) (lv2 : List (Nat × Value)) (hn : i < nL) (hl2 : (i, Value.int x) :: lv.filter (fun q => !(q.1 == i) && !(q.1 + 1 == i && q.2.category == 2)) = lv2) (d : Dc cc pc (.istore i) 2 nx) (k2 : Vv p l e R s m args below meth c Q Γ nL cells slots ad cn S nx lv2 rest) : Vv p l e R s m args below meth c Q Γ nL cells slots ad cn S pc lv (.int x :: rest) := by
  obtain ⟨d, rfl⟩ := d
  exact fun H locs ls hP hS hl => lv_istore C.x C.b d hl hn hl2 (fun ls hl => k2 H locs ls hP hS hl)
theorem V_lstore_n {k : Fin 4} {x : Int64} (C : Cx p s m args meth c Γ cc nL own) (lv2 : List (Nat × Value)) (hn : (k : Nat) + 1 < nL) (hl2 : ((k : Nat), Value.long x) :: lv.filter (fun q => !(q.1 == (k : Nat)) && (!(q.1 == (k : Nat) + 1) && !(q.1 + 1 == (k : Nat) && q.2.category == 2))) = lv2) (d : Dc cc pc (.lstore_n k) 1 nx) (k2 : Vv p l e R s m args below meth c Q Γ nL cells slots ad cn S nx lv2 rest) : Vv p l e R s m args below meth c Q Γ nL cells slots ad cn S pc lv (.long x :: rest) := by
  obtain ⟨d, rfl⟩ := d
  exact fun H locs ls hP hS hl => lv_lstore_n C.x C.b d rfl hl hn hl2 (fun ls hl => k2 H locs ls hP hS hl)
theorem V_lstore {i : Nat} {x : Int64} (C : Cx p s m args meth c Γ cc nL own) (lv2 : List (Nat × Value)) (hn : i + 1 < nL) (hl2 : (i, Value.long x) :: lv.filter (fun q => !(q.1 == i) && (!(q.1 == i + 1) && !(q.1 + 1 == i && q.2.category == 2))) = lv2) (d : Dc cc pc (.lstore i) 2 nx) (k2 : Vv p l e R s m args below meth c Q Γ nL cells slots ad cn S nx lv2 rest) : Vv p l e R s m args below meth c Q Γ nL cells slots ad cn S pc lv (.long x :: rest) := by
  obtain ⟨d, rfl⟩ := d
  exact fun H locs ls hP hS hl => lv_lstore C.x C.b d hl hn hl2 (fun ls hl => k2 H locs ls hP hS hl)
theorem V_astore_n {k : Fin 4} {x : Nat} (C : Cx p s m args meth c Γ cc nL own) (lv2 : List (Nat × Value)) (hn : (k : Nat) < nL) (hl2 : ((k : Nat), Value.ref x) :: lv.filter (fun q => !(q.1 == (k : Nat)) && !(q.1 + 1 == (k : Nat) && q.2.category == 2)) = lv2) (d : Dc cc pc (.astore_n k) 1 nx) (k2 : Vv p l e R s m args below meth c Q Γ nL cells slots ad cn S nx lv2 rest) : Vv p l e R s m args below meth c Q Γ nL cells slots ad cn S pc lv (.ref x :: rest) := by
  obtain ⟨d, rfl⟩ := d
  exact fun H locs ls hP hS hl => lv_astore_n C.x C.b d rfl hl hn hl2 (fun ls hl => k2 H locs ls hP hS hl)
theorem V_astore {i : Nat} {x : Nat} (C : Cx p s m args meth c Γ cc nL own) (lv2 : List (Nat × Value)) (hn : i < nL) (hl2 : (i, Value.ref x) :: lv.filter (fun q => !(q.1 == i) && !(q.1 + 1 == i && q.2.category == 2)) = lv2) (d : Dc cc pc (.astore i) 2 nx) (k2 : Vv p l e R s m args below meth c Q Γ nL cells slots ad cn S nx lv2 rest) : Vv p l e R s m args below meth c Q Γ nL cells slots ad cn S pc lv (.ref x :: rest) := by
  obtain ⟨d, rfl⟩ := d
  exact fun H locs ls hP hS hl => lv_astore C.x C.b d hl hn hl2 (fun ls hl => k2 H locs ls hP hS hl)
theorem V_ostore_n {k : Fin 4} {kd : Nat} {o : Option Nat} (C : Cx p s m args meth c Γ cc nL own) (lv2 : List (Nat × Value)) (hn : (k : Nat) < nL) (hl2 : ((k : Nat), rv ad kd o) :: lv.filter (fun q => !(q.1 == (k : Nat)) && !(q.1 + 1 == (k : Nat) && q.2.category == 2)) = lv2) (d : Dc cc pc (.astore_n k) 1 nx) (k2 : Vv p l e R s m args below meth c Q Γ nL cells slots ad cn S nx lv2 rest) : Vv p l e R s m args below meth c Q Γ nL cells slots ad cn S pc lv (rv ad kd o :: rest) := by
  obtain ⟨d, rfl⟩ := d
  intro H locs ls hP hS hl
  cases o with
  | none => exact lv_astore_nN C.x C.b d rfl hl hn hl2 (fun ls hl => k2 H locs ls hP hS hl)
  | some i => exact lv_astore_n C.x C.b d rfl hl hn hl2 (fun ls hl => k2 H locs ls hP hS hl)
theorem V_ostore {i : Nat} {kd : Nat} {o : Option Nat} (C : Cx p s m args meth c Γ cc nL own) (lv2 : List (Nat × Value)) (hn : i < nL) (hl2 : (i, rv ad kd o) :: lv.filter (fun q => !(q.1 == i) && !(q.1 + 1 == i && q.2.category == 2)) = lv2) (d : Dc cc pc (.astore i) 2 nx) (k2 : Vv p l e R s m args below meth c Q Γ nL cells slots ad cn S nx lv2 rest) : Vv p l e R s m args below meth c Q Γ nL cells slots ad cn S pc lv (rv ad kd o :: rest) := by
  obtain ⟨d, rfl⟩ := d
  intro H locs ls hP hS hl
  cases o with
  | none => exact lv_astoreN C.x C.b d hl hn hl2 (fun ls hl => k2 H locs ls hP hS hl)
  | some i => exact lv_astore C.x C.b d hl hn hl2 (fun ls hl => k2 H locs ls hP hS hl)
theorem V_iinc {i : Nat} {n : Int} {x v : Int32} (q : Nat) (C : Cx p s m args meth c Γ cc nL own) (lv2 : List (Nat × Value)) (hq : lv[q]? = some (i, .int x)) (hv : x + Int32.ofInt n = v) (hn : i < nL) (hl2 : (i, Value.int v) :: lv.filter (fun q => !(q.1 == i) && !(q.1 + 1 == i && q.2.category == 2)) = lv2) (d : Dc cc pc (.iinc i n) 3 nx) (k2 : Vv p l e R s m args below meth c Q Γ nL cells slots ad cn S nx lv2 rest) : Vv p l e R s m args below meth c Q Γ nL cells slots ad cn S pc lv rest := by
  obtain ⟨d, rfl⟩ := d
  exact fun H locs ls hP hS hl => lv_iinc C.x C.b d hl hq hv hn hl2 (fun ls hl => k2 H locs ls hP hS hl)
theorem V_iadd {x y : Int32} (C : Cx p s m args meth c Γ cc nL own)  (d : Dc cc pc (.iadd) 1 nx) (k : Vv p l e R s m args below meth c Q Γ nL cells slots ad cn S nx lv (.int (x + y) :: rest)) : Vv p l e R s m args below meth c Q Γ nL cells slots ad cn S pc lv (.int y :: .int x :: rest) := by
  obtain ⟨d, rfl⟩ := d
  exact fun H locs ls hP hS hl => lv_iadd C.x C.b d (k H locs ls hP hS hl)
theorem V_isub {x y : Int32} (C : Cx p s m args meth c Γ cc nL own)  (d : Dc cc pc (.isub) 1 nx) (k : Vv p l e R s m args below meth c Q Γ nL cells slots ad cn S nx lv (.int (x - y) :: rest)) : Vv p l e R s m args below meth c Q Γ nL cells slots ad cn S pc lv (.int y :: .int x :: rest) := by
  obtain ⟨d, rfl⟩ := d
  exact fun H locs ls hP hS hl => lv_isub C.x C.b d (k H locs ls hP hS hl)
theorem V_imul {x y : Int32} (C : Cx p s m args meth c Γ cc nL own)  (d : Dc cc pc (.imul) 1 nx) (k : Vv p l e R s m args below meth c Q Γ nL cells slots ad cn S nx lv (.int (x * y) :: rest)) : Vv p l e R s m args below meth c Q Γ nL cells slots ad cn S pc lv (.int y :: .int x :: rest) := by
  obtain ⟨d, rfl⟩ := d
  exact fun H locs ls hP hS hl => lv_imul C.x C.b d (k H locs ls hP hS hl)
theorem V_iand {x y : Int32} (C : Cx p s m args meth c Γ cc nL own)  (d : Dc cc pc (.iand) 1 nx) (k : Vv p l e R s m args below meth c Q Γ nL cells slots ad cn S nx lv (.int (x &&& y) :: rest)) : Vv p l e R s m args below meth c Q Γ nL cells slots ad cn S pc lv (.int y :: .int x :: rest) := by
  obtain ⟨d, rfl⟩ := d
  exact fun H locs ls hP hS hl => lv_iand C.x C.b d (k H locs ls hP hS hl)
theorem V_ior {x y : Int32} (C : Cx p s m args meth c Γ cc nL own)  (d : Dc cc pc (.ior) 1 nx) (k : Vv p l e R s m args below meth c Q Γ nL cells slots ad cn S nx lv (.int (x ||| y) :: rest)) : Vv p l e R s m args below meth c Q Γ nL cells slots ad cn S pc lv (.int y :: .int x :: rest) := by
  obtain ⟨d, rfl⟩ := d
  exact fun H locs ls hP hS hl => lv_ior C.x C.b d (k H locs ls hP hS hl)
theorem V_ixor {x y : Int32} (C : Cx p s m args meth c Γ cc nL own)  (d : Dc cc pc (.ixor) 1 nx) (k : Vv p l e R s m args below meth c Q Γ nL cells slots ad cn S nx lv (.int (x ^^^ y) :: rest)) : Vv p l e R s m args below meth c Q Γ nL cells slots ad cn S pc lv (.int y :: .int x :: rest) := by
  obtain ⟨d, rfl⟩ := d
  exact fun H locs ls hP hS hl => lv_ixor C.x C.b d (k H locs ls hP hS hl)
theorem V_ishl {x y : Int32} (C : Cx p s m args meth c Γ cc nL own)  (d : Dc cc pc (.ishl) 1 nx) (k : Vv p l e R s m args below meth c Q Γ nL cells slots ad cn S nx lv (.int (x <<< (y &&& 31)) :: rest)) : Vv p l e R s m args below meth c Q Γ nL cells slots ad cn S pc lv (.int y :: .int x :: rest) := by
  obtain ⟨d, rfl⟩ := d
  exact fun H locs ls hP hS hl => lv_ishl C.x C.b d (k H locs ls hP hS hl)
theorem V_ishr {x y : Int32} (C : Cx p s m args meth c Γ cc nL own)  (d : Dc cc pc (.ishr) 1 nx) (k : Vv p l e R s m args below meth c Q Γ nL cells slots ad cn S nx lv (.int (x >>> (y &&& 31)) :: rest)) : Vv p l e R s m args below meth c Q Γ nL cells slots ad cn S pc lv (.int y :: .int x :: rest) := by
  obtain ⟨d, rfl⟩ := d
  exact fun H locs ls hP hS hl => lv_ishr C.x C.b d (k H locs ls hP hS hl)
theorem V_ladd {x y : Int64} (C : Cx p s m args meth c Γ cc nL own)  (d : Dc cc pc (.ladd) 1 nx) (k : Vv p l e R s m args below meth c Q Γ nL cells slots ad cn S nx lv (.long (x + y) :: rest)) : Vv p l e R s m args below meth c Q Γ nL cells slots ad cn S pc lv (.long y :: .long x :: rest) := by
  obtain ⟨d, rfl⟩ := d
  exact fun H locs ls hP hS hl => lv_ladd C.x C.b d (k H locs ls hP hS hl)
theorem V_lsub {x y : Int64} (C : Cx p s m args meth c Γ cc nL own)  (d : Dc cc pc (.lsub) 1 nx) (k : Vv p l e R s m args below meth c Q Γ nL cells slots ad cn S nx lv (.long (x - y) :: rest)) : Vv p l e R s m args below meth c Q Γ nL cells slots ad cn S pc lv (.long y :: .long x :: rest) := by
  obtain ⟨d, rfl⟩ := d
  exact fun H locs ls hP hS hl => lv_lsub C.x C.b d (k H locs ls hP hS hl)
theorem V_lmul {x y : Int64} (C : Cx p s m args meth c Γ cc nL own)  (d : Dc cc pc (.lmul) 1 nx) (k : Vv p l e R s m args below meth c Q Γ nL cells slots ad cn S nx lv (.long (x * y) :: rest)) : Vv p l e R s m args below meth c Q Γ nL cells slots ad cn S pc lv (.long y :: .long x :: rest) := by
  obtain ⟨d, rfl⟩ := d
  exact fun H locs ls hP hS hl => lv_lmul C.x C.b d (k H locs ls hP hS hl)
theorem V_land {x y : Int64} (C : Cx p s m args meth c Γ cc nL own)  (d : Dc cc pc (.land) 1 nx) (k : Vv p l e R s m args below meth c Q Γ nL cells slots ad cn S nx lv (.long (x &&& y) :: rest)) : Vv p l e R s m args below meth c Q Γ nL cells slots ad cn S pc lv (.long y :: .long x :: rest) := by
  obtain ⟨d, rfl⟩ := d
  exact fun H locs ls hP hS hl => lv_land C.x C.b d (k H locs ls hP hS hl)
theorem V_lor {x y : Int64} (C : Cx p s m args meth c Γ cc nL own)  (d : Dc cc pc (.lor) 1 nx) (k : Vv p l e R s m args below meth c Q Γ nL cells slots ad cn S nx lv (.long (x ||| y) :: rest)) : Vv p l e R s m args below meth c Q Γ nL cells slots ad cn S pc lv (.long y :: .long x :: rest) := by
  obtain ⟨d, rfl⟩ := d
  exact fun H locs ls hP hS hl => lv_lor C.x C.b d (k H locs ls hP hS hl)
theorem V_lxor {x y : Int64} (C : Cx p s m args meth c Γ cc nL own)  (d : Dc cc pc (.lxor) 1 nx) (k : Vv p l e R s m args below meth c Q Γ nL cells slots ad cn S nx lv (.long (x ^^^ y) :: rest)) : Vv p l e R s m args below meth c Q Γ nL cells slots ad cn S pc lv (.long y :: .long x :: rest) := by
  obtain ⟨d, rfl⟩ := d
  exact fun H locs ls hP hS hl => lv_lxor C.x C.b d (k H locs ls hP hS hl)
theorem V_idiv {x y : Int32} (C : Cx p s m args meth c Γ cc nL own) (hne : ¬ y = 0) (d : Dc cc pc (.idiv) 1 nx) (k : Vv p l e R s m args below meth c Q Γ nL cells slots ad cn S nx lv (.int (x / y) :: rest)) : Vv p l e R s m args below meth c Q Γ nL cells slots ad cn S pc lv (.int y :: .int x :: rest) := by
  obtain ⟨d, rfl⟩ := d
  exact fun H locs ls hP hS hl => lv_idiv C.x C.b d hne (k H locs ls hP hS hl)
theorem V_irem {x y : Int32} (C : Cx p s m args meth c Γ cc nL own) (hne : ¬ y = 0) (d : Dc cc pc (.irem) 1 nx) (k : Vv p l e R s m args below meth c Q Γ nL cells slots ad cn S nx lv (.int (x - x / y * y) :: rest)) : Vv p l e R s m args below meth c Q Γ nL cells slots ad cn S pc lv (.int y :: .int x :: rest) := by
  obtain ⟨d, rfl⟩ := d
  exact fun H locs ls hP hS hl => lv_irem C.x C.b d hne (k H locs ls hP hS hl)
theorem V_ldiv {x y : Int64} (C : Cx p s m args meth c Γ cc nL own) (hne : ¬ y = 0) (d : Dc cc pc (.ldiv) 1 nx) (k : Vv p l e R s m args below meth c Q Γ nL cells slots ad cn S nx lv (.long (x / y) :: rest)) : Vv p l e R s m args below meth c Q Γ nL cells slots ad cn S pc lv (.long y :: .long x :: rest) := by
  obtain ⟨d, rfl⟩ := d
  exact fun H locs ls hP hS hl => lv_ldiv C.x C.b d hne (k H locs ls hP hS hl)
theorem V_lrem {x y : Int64} (C : Cx p s m args meth c Γ cc nL own) (hne : ¬ y = 0) (d : Dc cc pc (.lrem) 1 nx) (k : Vv p l e R s m args below meth c Q Γ nL cells slots ad cn S nx lv (.long (x - x / y * y) :: rest)) : Vv p l e R s m args below meth c Q Γ nL cells slots ad cn S pc lv (.long y :: .long x :: rest) := by
  obtain ⟨d, rfl⟩ := d
  exact fun H locs ls hP hS hl => lv_lrem C.x C.b d hne (k H locs ls hP hS hl)
theorem V_i2l {x : Int32} (C : Cx p s m args meth c Γ cc nL own)  (d : Dc cc pc (.i2l) 1 nx) (k : Vv p l e R s m args below meth c Q Γ nL cells slots ad cn S nx lv (.long x.toInt64 :: rest)) : Vv p l e R s m args below meth c Q Γ nL cells slots ad cn S pc lv (.int x :: rest) := by
  obtain ⟨d, rfl⟩ := d
  exact fun H locs ls hP hS hl => lv_i2l C.x C.b d rfl (k H locs ls hP hS hl)
theorem V_l2i {x : Int64} (C : Cx p s m args meth c Γ cc nL own)  (d : Dc cc pc (.l2i) 1 nx) (k : Vv p l e R s m args below meth c Q Γ nL cells slots ad cn S nx lv (.int x.toInt32 :: rest)) : Vv p l e R s m args below meth c Q Γ nL cells slots ad cn S pc lv (.long x :: rest) := by
  obtain ⟨d, rfl⟩ := d
  exact fun H locs ls hP hS hl => lv_l2i C.x C.b d rfl (k H locs ls hP hS hl)
theorem V_lushr {x : Int64} {y : Int32} (C : Cx p s m args meth c Γ cc nL own)  (d : Dc cc pc (.lushr) 1 nx) (k : Vv p l e R s m args below meth c Q Γ nL cells slots ad cn S nx lv (.long (oush x y) :: rest)) : Vv p l e R s m args below meth c Q Γ nL cells slots ad cn S pc lv (.int y :: .long x :: rest) := by
  obtain ⟨d, rfl⟩ := d
  exact fun H locs ls hP hS hl => lv_lushr C.x C.b d rfl (k H locs ls hP hS hl)
theorem V_lshl {x : Int64} {y : Int32} (C : Cx p s m args meth c Γ cc nL own)  (d : Dc cc pc (.lshl) 1 nx) (k : Vv p l e R s m args below meth c Q Γ nL cells slots ad cn S nx lv (.long (x <<< (y.toInt64 &&& 63)) :: rest)) : Vv p l e R s m args below meth c Q Γ nL cells slots ad cn S pc lv (.int y :: .long x :: rest) := by
  obtain ⟨d, rfl⟩ := d
  exact fun H locs ls hP hS hl => lv_lshl C.x C.b d rfl (k H locs ls hP hS hl)
theorem V_lshr {x : Int64} {y : Int32} (C : Cx p s m args meth c Γ cc nL own)  (d : Dc cc pc (.lshr) 1 nx) (k : Vv p l e R s m args below meth c Q Γ nL cells slots ad cn S nx lv (.long (x >>> (y.toInt64 &&& 63)) :: rest)) : Vv p l e R s m args below meth c Q Γ nL cells slots ad cn S pc lv (.int y :: .long x :: rest) := by
  obtain ⟨d, rfl⟩ := d
  exact fun H locs ls hP hS hl => lv_lshr C.x C.b d rfl (k H locs ls hP hS hl)
theorem V_lcmp {x y : Int64} (C : Cx p s m args meth c Γ cc nL own)  (d : Dc cc pc (.lcmp) 1 nx) (k : Vv p l e R s m args below meth c Q Γ nL cells slots ad cn S nx lv (.int (lg_cmp x y) :: rest)) : Vv p l e R s m args below meth c Q Γ nL cells slots ad cn S pc lv (.long y :: .long x :: rest) := by
  obtain ⟨d, rfl⟩ := d
  exact fun H locs ls hP hS hl => W.lcmp C.x C.b d (k H locs ls hP hS hl)
theorem V_dup {va : Value} (C : Cx p s m args meth c Γ cc nL own) (h1 : va.category = 1) (d : Dc cc pc (.dup) 1 nx) (k : Vv p l e R s m args below meth c Q Γ nL cells slots ad cn S nx lv (va :: va :: rest)) : Vv p l e R s m args below meth c Q Γ nL cells slots ad cn S pc lv (va :: rest) := by
  obtain ⟨d, rfl⟩ := d
  exact fun H locs ls hP hS hl => lv_dup C.x C.b d h1 (k H locs ls hP hS hl)
theorem V_pop {va : Value} (C : Cx p s m args meth c Γ cc nL own) (h1 : va.category = 1) (d : Dc cc pc (.pop) 1 nx) (k : Vv p l e R s m args below meth c Q Γ nL cells slots ad cn S nx lv (rest)) : Vv p l e R s m args below meth c Q Γ nL cells slots ad cn S pc lv (va :: rest) := by
  obtain ⟨d, rfl⟩ := d
  exact fun H locs ls hP hS hl => lv_pop C.x C.b d h1 (k H locs ls hP hS hl)
theorem V_dup_x1 {va vb : Value} (C : Cx p s m args meth c Γ cc nL own) (h1 : va.category = 1) (h2 : vb.category = 1) (d : Dc cc pc (.dup_x1) 1 nx) (k : Vv p l e R s m args below meth c Q Γ nL cells slots ad cn S nx lv (va :: vb :: va :: rest)) : Vv p l e R s m args below meth c Q Γ nL cells slots ad cn S pc lv (va :: vb :: rest) := by
  obtain ⟨d, rfl⟩ := d
  exact fun H locs ls hP hS hl => lv_dup_x1 C.x C.b d h1 h2 (k H locs ls hP hS hl)
theorem V_dup2_11 {va vb : Value} (C : Cx p s m args meth c Γ cc nL own) (h1 : va.category = 1) (h2 : vb.category = 1) (d : Dc cc pc (.dup2) 1 nx) (k : Vv p l e R s m args below meth c Q Γ nL cells slots ad cn S nx lv (va :: vb :: va :: vb :: rest)) : Vv p l e R s m args below meth c Q Γ nL cells slots ad cn S pc lv (va :: vb :: rest) := by
  obtain ⟨d, rfl⟩ := d
  exact fun H locs ls hP hS hl => lv_dup2_11 C.x C.b d h1 h2 (k H locs ls hP hS hl)
theorem V_dup2_2 {va : Value} (C : Cx p s m args meth c Γ cc nL own) (h1 : va.category = 2) (d : Dc cc pc (.dup2) 1 nx) (k : Vv p l e R s m args below meth c Q Γ nL cells slots ad cn S nx lv (va :: va :: rest)) : Vv p l e R s m args below meth c Q Γ nL cells slots ad cn S pc lv (va :: rest) := by
  obtain ⟨d, rfl⟩ := d
  exact fun H locs ls hP hS hl => lv_dup2_2 C.x C.b d h1 (k H locs ls hP hS hl)
theorem V_pop2_2 {va : Value} (C : Cx p s m args meth c Γ cc nL own) (h1 : va.category = 2) (d : Dc cc pc (.pop2) 1 nx) (k : Vv p l e R s m args below meth c Q Γ nL cells slots ad cn S nx lv (rest)) : Vv p l e R s m args below meth c Q Γ nL cells slots ad cn S pc lv (va :: rest) := by
  obtain ⟨d, rfl⟩ := d
  exact fun H locs ls hP hS hl => lv_pop2_2 C.x C.b d h1 (k H locs ls hP hS hl)
theorem V_null {kd : Nat} (C : Cx p s m args meth c Γ cc nL own)  (d : Dc cc pc (.aconst_null) 1 nx) (k : Vv p l e R s m args below meth c Q Γ nL cells slots ad cn S nx lv (rv ad kd none :: rest)) : Vv p l e R s m args below meth c Q Γ nL cells slots ad cn S pc lv (rest) := by
  obtain ⟨d, rfl⟩ := d
  exact fun H locs ls hP hS hl => lv_null C.x C.b d (k H locs ls hP hS hl)
theorem V_if_eq {x : Int32} {tgt : Nat} (C : Cx p s m args meth c Γ cc nL own) (d : Db cc pc (.ifCond .eq) tgt nx) (kt : x = 0 → Vv p l e R s m args below meth c Q Γ nL cells slots ad cn S tgt lv rest) (kf : ¬ x = 0 → Vv p l e R s m args below meth c Q Γ nL cells slots ad cn S nx lv rest) : Vv p l e R s m args below meth c Q Γ nL cells slots ad cn S pc lv (.int x :: rest) := by
  obtain ⟨off, d, ht, rfl⟩ := d
  exact fun H locs ls hP hS hl => lv_if_eq C.x C.b d ht (fun q => kt q H locs ls hP hS hl) (fun q => kf q H locs ls hP hS hl)
theorem V_icmp_eq {x y : Int32} {tgt : Nat} (C : Cx p s m args meth c Γ cc nL own) (d : Db cc pc (.if_icmp .eq) tgt nx) (kt : x = y → Vv p l e R s m args below meth c Q Γ nL cells slots ad cn S tgt lv rest) (kf : ¬ x = y → Vv p l e R s m args below meth c Q Γ nL cells slots ad cn S nx lv rest) : Vv p l e R s m args below meth c Q Γ nL cells slots ad cn S pc lv (.int y :: .int x :: rest) := by
  obtain ⟨off, d, ht, rfl⟩ := d
  exact fun H locs ls hP hS hl => lv_icmp_eq C.x C.b d ht (fun q => kt q H locs ls hP hS hl) (fun q => kf q H locs ls hP hS hl)
theorem V_if_ne {x : Int32} {tgt : Nat} (C : Cx p s m args meth c Γ cc nL own) (d : Db cc pc (.ifCond .ne) tgt nx) (kt : ¬ x = 0 → Vv p l e R s m args below meth c Q Γ nL cells slots ad cn S tgt lv rest) (kf : x = 0 → Vv p l e R s m args below meth c Q Γ nL cells slots ad cn S nx lv rest) : Vv p l e R s m args below meth c Q Γ nL cells slots ad cn S pc lv (.int x :: rest) := by
  obtain ⟨off, d, ht, rfl⟩ := d
  exact fun H locs ls hP hS hl => lv_if_ne C.x C.b d ht (fun q => kt q H locs ls hP hS hl) (fun q => kf q H locs ls hP hS hl)
theorem V_icmp_ne {x y : Int32} {tgt : Nat} (C : Cx p s m args meth c Γ cc nL own) (d : Db cc pc (.if_icmp .ne) tgt nx) (kt : ¬ x = y → Vv p l e R s m args below meth c Q Γ nL cells slots ad cn S tgt lv rest) (kf : x = y → Vv p l e R s m args below meth c Q Γ nL cells slots ad cn S nx lv rest) : Vv p l e R s m args below meth c Q Γ nL cells slots ad cn S pc lv (.int y :: .int x :: rest) := by
  obtain ⟨off, d, ht, rfl⟩ := d
  exact fun H locs ls hP hS hl => lv_icmp_ne C.x C.b d ht (fun q => kt q H locs ls hP hS hl) (fun q => kf q H locs ls hP hS hl)
theorem V_if_lt {x : Int32} {tgt : Nat} (C : Cx p s m args meth c Γ cc nL own) (d : Db cc pc (.ifCond .lt) tgt nx) (kt : x < 0 → Vv p l e R s m args below meth c Q Γ nL cells slots ad cn S tgt lv rest) (kf : ¬ x < 0 → Vv p l e R s m args below meth c Q Γ nL cells slots ad cn S nx lv rest) : Vv p l e R s m args below meth c Q Γ nL cells slots ad cn S pc lv (.int x :: rest) := by
  obtain ⟨off, d, ht, rfl⟩ := d
  exact fun H locs ls hP hS hl => lv_if_lt C.x C.b d ht (fun q => kt q H locs ls hP hS hl) (fun q => kf q H locs ls hP hS hl)
theorem V_icmp_lt {x y : Int32} {tgt : Nat} (C : Cx p s m args meth c Γ cc nL own) (d : Db cc pc (.if_icmp .lt) tgt nx) (kt : x < y → Vv p l e R s m args below meth c Q Γ nL cells slots ad cn S tgt lv rest) (kf : ¬ x < y → Vv p l e R s m args below meth c Q Γ nL cells slots ad cn S nx lv rest) : Vv p l e R s m args below meth c Q Γ nL cells slots ad cn S pc lv (.int y :: .int x :: rest) := by
  obtain ⟨off, d, ht, rfl⟩ := d
  exact fun H locs ls hP hS hl => lv_icmp_lt C.x C.b d ht (fun q => kt q H locs ls hP hS hl) (fun q => kf q H locs ls hP hS hl)
theorem V_if_ge {x : Int32} {tgt : Nat} (C : Cx p s m args meth c Γ cc nL own) (d : Db cc pc (.ifCond .ge) tgt nx) (kt : 0 ≤ x → Vv p l e R s m args below meth c Q Γ nL cells slots ad cn S tgt lv rest) (kf : ¬ 0 ≤ x → Vv p l e R s m args below meth c Q Γ nL cells slots ad cn S nx lv rest) : Vv p l e R s m args below meth c Q Γ nL cells slots ad cn S pc lv (.int x :: rest) := by
  obtain ⟨off, d, ht, rfl⟩ := d
  exact fun H locs ls hP hS hl => lv_if_ge C.x C.b d ht (fun q => kt q H locs ls hP hS hl) (fun q => kf q H locs ls hP hS hl)
theorem V_icmp_ge {x y : Int32} {tgt : Nat} (C : Cx p s m args meth c Γ cc nL own) (d : Db cc pc (.if_icmp .ge) tgt nx) (kt : y ≤ x → Vv p l e R s m args below meth c Q Γ nL cells slots ad cn S tgt lv rest) (kf : ¬ y ≤ x → Vv p l e R s m args below meth c Q Γ nL cells slots ad cn S nx lv rest) : Vv p l e R s m args below meth c Q Γ nL cells slots ad cn S pc lv (.int y :: .int x :: rest) := by
  obtain ⟨off, d, ht, rfl⟩ := d
  exact fun H locs ls hP hS hl => lv_icmp_ge C.x C.b d ht (fun q => kt q H locs ls hP hS hl) (fun q => kf q H locs ls hP hS hl)
theorem V_if_gt {x : Int32} {tgt : Nat} (C : Cx p s m args meth c Γ cc nL own) (d : Db cc pc (.ifCond .gt) tgt nx) (kt : 0 < x → Vv p l e R s m args below meth c Q Γ nL cells slots ad cn S tgt lv rest) (kf : ¬ 0 < x → Vv p l e R s m args below meth c Q Γ nL cells slots ad cn S nx lv rest) : Vv p l e R s m args below meth c Q Γ nL cells slots ad cn S pc lv (.int x :: rest) := by
  obtain ⟨off, d, ht, rfl⟩ := d
  exact fun H locs ls hP hS hl => lv_if_gt C.x C.b d ht (fun q => kt q H locs ls hP hS hl) (fun q => kf q H locs ls hP hS hl)
theorem V_icmp_gt {x y : Int32} {tgt : Nat} (C : Cx p s m args meth c Γ cc nL own) (d : Db cc pc (.if_icmp .gt) tgt nx) (kt : y < x → Vv p l e R s m args below meth c Q Γ nL cells slots ad cn S tgt lv rest) (kf : ¬ y < x → Vv p l e R s m args below meth c Q Γ nL cells slots ad cn S nx lv rest) : Vv p l e R s m args below meth c Q Γ nL cells slots ad cn S pc lv (.int y :: .int x :: rest) := by
  obtain ⟨off, d, ht, rfl⟩ := d
  exact fun H locs ls hP hS hl => lv_icmp_gt C.x C.b d ht (fun q => kt q H locs ls hP hS hl) (fun q => kf q H locs ls hP hS hl)
theorem V_if_le {x : Int32} {tgt : Nat} (C : Cx p s m args meth c Γ cc nL own) (d : Db cc pc (.ifCond .le) tgt nx) (kt : x ≤ 0 → Vv p l e R s m args below meth c Q Γ nL cells slots ad cn S tgt lv rest) (kf : ¬ x ≤ 0 → Vv p l e R s m args below meth c Q Γ nL cells slots ad cn S nx lv rest) : Vv p l e R s m args below meth c Q Γ nL cells slots ad cn S pc lv (.int x :: rest) := by
  obtain ⟨off, d, ht, rfl⟩ := d
  exact fun H locs ls hP hS hl => lv_if_le C.x C.b d ht (fun q => kt q H locs ls hP hS hl) (fun q => kf q H locs ls hP hS hl)
theorem V_icmp_le {x y : Int32} {tgt : Nat} (C : Cx p s m args meth c Γ cc nL own) (d : Db cc pc (.if_icmp .le) tgt nx) (kt : x ≤ y → Vv p l e R s m args below meth c Q Γ nL cells slots ad cn S tgt lv rest) (kf : ¬ x ≤ y → Vv p l e R s m args below meth c Q Γ nL cells slots ad cn S nx lv rest) : Vv p l e R s m args below meth c Q Γ nL cells slots ad cn S pc lv (.int y :: .int x :: rest) := by
  obtain ⟨off, d, ht, rfl⟩ := d
  exact fun H locs ls hP hS hl => lv_icmp_le C.x C.b d ht (fun q => kt q H locs ls hP hS hl) (fun q => kf q H locs ls hP hS hl)
theorem V_goto {tgt : Nat} (C : Cx p s m args meth c Γ cc nL own) (d : Db cc pc .goto tgt nx) (k : Vv p l e R s m args below meth c Q Γ nL cells slots ad cn S tgt lv rest) : Vv p l e R s m args below meth c Q Γ nL cells slots ad cn S pc lv rest := by
  obtain ⟨off, d, ht, rfl⟩ := d
  exact fun H locs ls hP hS hl => lv_goto C.x C.b d ht (k H locs ls hP hS hl)
theorem V_ifnull {kd tgt : Nat} {o : Option Nat} (C : Cx p s m args meth c Γ cc nL own) (d : Db cc pc .ifnull tgt nx) (kt : o = none → Vv p l e R s m args below meth c Q Γ nL cells slots ad cn S tgt lv rest) (kf : ∀ i, o = some i → Vv p l e R s m args below meth c Q Γ nL cells slots ad cn S nx lv rest) : Vv p l e R s m args below meth c Q Γ nL cells slots ad cn S pc lv (rv ad kd o :: rest) := by
  obtain ⟨off, d, ht, rfl⟩ := d
  intro H locs ls hP hS hl
  cases o with
  | none => exact lv_ifnullN C.x C.b d ht (kt rfl H locs ls hP hS hl)
  | some i => exact lv_ifnull C.x C.b d (kf i rfl H locs ls hP hS hl)
theorem V_ifnonnull {kd tgt : Nat} {o : Option Nat} (C : Cx p s m args meth c Γ cc nL own) (d : Db cc pc .ifnonnull tgt nx) (kt : ∀ i, o = some i → Vv p l e R s m args below meth c Q Γ nL cells slots ad cn S tgt lv rest) (kf : o = none → Vv p l e R s m args below meth c Q Γ nL cells slots ad cn S nx lv rest) : Vv p l e R s m args below meth c Q Γ nL cells slots ad cn S pc lv (rv ad kd o :: rest) := by
  obtain ⟨off, d, ht, rfl⟩ := d
  intro H locs ls hP hS hl
  cases o with
  | none => exact lv_ifnonnullN C.x C.b d (kf rfl H locs ls hP hS hl)
  | some i => exact lv_ifnonnull C.x C.b d ht (kt i rfl H locs ls hP hS hl)
theorem V_acmp_ne {kd i j tgt : Nat} (C : Cx p s m args meth c Γ cc nL own) (hi : i < cn kd) (hj : j < cn kd) (d : Db cc pc (.if_acmp .ne) tgt nx) (kt : ¬ i = j → Vv p l e R s m args below meth c Q Γ nL cells slots ad cn S tgt lv rest) (kf : i = j → Vv p l e R s m args below meth c Q Γ nL cells slots ad cn S nx lv rest) : Vv p l e R s m args below meth c Q Γ nL cells slots ad cn S pc lv (.ref (ad kd j) :: .ref (ad kd i) :: rest) := by
  obtain ⟨off, d, ht, rfl⟩ := d
  intro H locs ls hP hS hl
  exact lv_acmp_ne (rx := some (ad kd i)) (ry := some (ad kd j)) C.x C.b d ht (fun q => kt (fun z => q (by rw [z])) H locs ls hP hS hl) (fun q => kf (hP.2.1 kd i kd j hi hj (Option.some.inj q)).2 H locs ls hP hS hl)
theorem V_acmp_eq {kd i j tgt : Nat} (C : Cx p s m args meth c Γ cc nL own) (hi : i < cn kd) (hj : j < cn kd) (d : Db cc pc (.if_acmp .eq) tgt nx) (kt : i = j → Vv p l e R s m args below meth c Q Γ nL cells slots ad cn S tgt lv rest) (kf : ¬ i = j → Vv p l e R s m args below meth c Q Γ nL cells slots ad cn S nx lv rest) : Vv p l e R s m args below meth c Q Γ nL cells slots ad cn S pc lv (.ref (ad kd j) :: .ref (ad kd i) :: rest) := by
  obtain ⟨off, d, ht, rfl⟩ := d
  intro H locs ls hP hS hl
  exact lv_acmp_eq (rx := some (ad kd i)) (ry := some (ad kd j)) C.x C.b d ht (fun q => kt (hP.2.1 kd i kd j hi hj (Option.some.inj q)).2 H locs ls hP hS hl) (fun q => kf (fun z => q (by rw [z])) H locs ls hP hS hl)
theorem V_tableIn {dflt lo hi off : Int} {offs : Array Int} {len tgt : Nat} {x : Int32} (C : Cx p s m args meth c Γ cc nL own) (d : decode cc pc = .ok (.tableswitch dflt lo hi offs, len)) (h1 : ¬ x.toInt < lo) (h2 : ¬ hi < x.toInt) (ho : offs[(x.toInt - lo).toNat]? = some off) (ht : (pc : Int) + off = (tgt : Int)) (k : Vv p l e R s m args below meth c Q Γ nL cells slots ad cn S tgt lv rest) : Vv p l e R s m args below meth c Q Γ nL cells slots ad cn S pc lv (.int x :: rest) :=
  fun H locs ls hP hS hl => lv_tableIn C.x C.b d h1 h2 ho ht (k H locs ls hP hS hl)
theorem V_tableOut {dflt lo hi : Int} {offs : Array Int} {len tgt : Nat} {x : Int32} (C : Cx p s m args meth c Γ cc nL own) (d : decode cc pc = .ok (.tableswitch dflt lo hi offs, len)) (h : x.toInt < lo ∨ hi < x.toInt) (ht : (pc : Int) + dflt = (tgt : Int)) (k : Vv p l e R s m args below meth c Q Γ nL cells slots ad cn S tgt lv rest) : Vv p l e R s m args below meth c Q Γ nL cells slots ad cn S pc lv (.int x :: rest) :=
  fun H locs ls hP hS hl => lv_tableOut C.x C.b d h ht (k H locs ls hP hS hl)
/-- a field's link: the place in its class's table -/
def Fk (own : String) (index ci pos : Nat) : Prop := ∃ (Cn : String) (T : u_T) (N : Nat), vwCl[ci]? = some (Cn, T, N) ∧ (∀ w ∈ u_ws Cn T N, w ∈ oWS) ∧ pos < N ∧ Jvm.Cond.fieldLink own index (T pos).1 (T pos).2.1 (T pos).2.2.1 ∈ oWS
/-- a field that is written: not final, or final in its own constructor -/
def Fp (own : String) (index ci pos : Nat) (ty : FieldType) (fin : Bool) : Prop := ∃ (Cn : String) (T : u_T) (N : Nat) (ty0 : Nat → FieldType), vwCl[ci]? = some (Cn, T, N) ∧ (∀ w ∈ u_ws Cn T N, w ∈ oWS) ∧ pos < N ∧ Jvm.Cond.fieldLink own index (T pos).1 (T pos).2.1 (T pos).2.2.1 ∈ oWS ∧
  (∀ k, k < N → parseFieldDescriptor (T k).2.2.1 = some (ty0 k)) ∧ (∀ a, a < N → ∀ b, b < N → a ≠ b → (T a).2.1 ≠ (T b).2.1) ∧ parseFieldDescriptor (T pos).2.2.1 = some ty ∧ (T pos).2.2.2 = fin ∧ (fin = true → (T pos).1 = own)
theorem V_get {k i ci pos index : Nat} {fs : List Value} {v : Value} (C : Cx p s m args meth c Γ cc nL own) (F : Fk own index ci pos) (hk : i < cn k) (hsh : osh Γ.2.1 k (S.1 k i) (S.2.1 k i) (ores ad k (S.2.2 k i)) = .inr (ci, fs)) (hv : fs[pos]? = some v) (d : Dc cc pc (.getfield index) 3 nx) (kk : Vv p l e R s m args below meth c Q Γ nL cells slots ad cn S nx lv (v :: rest)) : Vv p l e R s m args below meth c Q Γ nL cells slots ad cn S pc lv (.ref (ad k i) :: rest) := by
  obtain ⟨d, rfl⟩ := d
  obtain ⟨Cn, T, N, hc, hin, hpos, hlink⟩ := F
  intro H locs ls hP hS hl
  have h0 := hP.1 k i hk
  unfold ocl at h0
  rw [hsh] at h0
  have hP1 : va_P Γ.1 vwCl [(ad k i, .inr (ci, fs))] H := by
    intro q x hx
    have hz : q < 1 := (List.getElem?_eq_some_iff.mp hx).1
    rw [show q = 0 by omega] at hx
    cases hx
    exact h0
  exact va_get C.x C.b C.1.2.2.2.2 hin C.o C.2.1 hP1 0 rfl hc pos hpos (C.w hlink) (fun _ h9 => h9) hv d (kk H locs ls hP hS hl)
theorem V_getr {k i ci pos index f j : Nat} {fs : List Value} (C : Cx p s m args meth c Γ cc nL own) (F : Fk own index ci pos) (hk : i < cn k) (hsh : osh Γ.2.1 k (S.1 k i) (S.2.1 k i) (ores ad k (S.2.2 k i)) = .inr (ci, fs)) (hv : fs[pos]? = some (va_rf (ores ad k (S.2.2 k i) f))) (hj : S.2.2 k i f = some j) (d : Dc cc pc (.getfield index) 3 nx) (kk : j < cn (otk k f) → Vv p l e R s m args below meth c Q Γ nL cells slots ad cn S nx lv (.ref (ad (otk k f) j) :: rest)) : Vv p l e R s m args below meth c Q Γ nL cells slots ad cn S pc lv (.ref (ad k i) :: rest) := by
  refine fun H locs ls hP hS hl => V_get C F hk hsh hv d ?_ H locs ls hP hS hl
  have e1 : ores ad k (S.2.2 k i) f = some (ad (otk k f) j) := by unfold ores; rw [hj]; rfl
  rw [e1]
  exact kk (hP.2.2.2 k i f j hk hj)
/-- a field is written: the machine's row -/
theorem W_putG {H : Heap} {locs : List Loc} {ls : Array Slot} {a ci pos index : Nat} {fs : List Value} {v : Value} {ty : FieldType} {fin : Bool} (C : Cx p s m args meth c Γ cc nL own) (F : Fp own index ci pos ty fin) (hfi : fin = true → meth.name = "<init>") (he : va_at Γ.1 vwCl (a, .inr (ci, fs)) H) (hn : narrow ty v = v) (hfit : fits ty v = true) (hl : pos < fs.length) (d : decode cc pc = .ok (.putfield index, 3))
    (kk : ∀ (H1 : Heap) (sl : Nat), va_at Γ.1 vwCl (a, .inr (ci, fs.set pos v)) H1 → H1.size = H.size → (∀ q : Nat, q ≠ a → H1[q]? = H[q]?) → W p l e R s m args below meth c H1 (locs ++ [⟨a, sl⟩]) cells slots Q (F0 m (pc + 3) ls rest)) : W p l e R s m args below meth c H locs cells slots Q (F0 m pc ls (v :: .ref a :: rest)) := by
  obtain ⟨Cn, T, N, ty0, hc, hin, hk, hlink, hty, hnm, hd, hfin, hdecl⟩ := F
  have hts := C.1.2.2.2.2
  have hap := va_apart (own := own) hts hin ty0 hty hnm C.2.1 hc
  obtain ⟨r, h1, cell, q1, q2, q3, q4⟩ := he
  have hr : r = (Cn, T, N) := Option.some.inj (h1.symm.trans hc)
  subst hr
  obtain ⟨hS, hfc, kC, hkC, hkind⟩ := C.2.1.1 ci _ hc
  obtain ⟨cf, kf, fi, f, hi, hsl⟩ := hS pos hk
  have hlay := hts _ (hin _ (u_in_lay hk))
  unfold u_lay at hlay
  have hst := (u_facts hfc hkC (u_lays hts hin hk) hi).1
  cases fin with
  | false =>
    rw [if_neg (by rw [hfin]; decide)] at hlay
    have h6 := u_store hfc hkC hkind hlay hi hd hn hfit
    refine W.putK C.x C.b (f := f) ⟨C.o, C.w hlink, ⟨_, _, _, hi⟩, hst⟩ (by rw [q2]; exact h6) q1 q3 (by rw [hsl]; exact k2_hasslot (q4 pos hk)) rfl rfl d fun H' e1 e2 e3 => ?_
    rw [hsl] at e1 ⊢
    exact kk H' _ ⟨_, hc, t_OB.to (V := updV (vp_V fs) pos v) ⟨_, e1, q2, q3, t_set q4 hap hk v⟩ (fun j _ => vp_updV_set hl v j)⟩ e2 e3
  | true =>
    rw [if_pos hfin] at hlay
    have hcf : m.cls = cf := by
      obtain ⟨_, _, c', _, _, _, -, -, hf', -, -, -, hown2, -⟩ := Cond.laysFinal_spec hlay
      have e1 : c' = cf := by have := hi.symm.trans hf'; simp at this; exact this.1.symm
      rw [hdecl rfl] at hown2
      rw [← e1]; exact Option.some.inj (C.o.symm.trans hown2)
    have h6 := u_fits hfc hkC hkind (Or.inr hlay) hi hd hn hfit
    refine W.putFinK C.x C.b C.o (C.w hlink) hi hst hcf (hfi rfl) (by rw [q2]; exact h6) q1 q3 (by rw [hsl]; exact k2_hasslot (q4 pos hk)) rfl rfl d fun H' e1 e2 e3 => ?_
    rw [hsl] at e1 ⊢
    exact kk H' _ ⟨_, hc, t_OB.to (V := updV (vp_V fs) pos v) ⟨_, e1, q2, q3, t_set q4 hap hk v⟩ (fun j _ => vp_updV_set hl v j)⟩ e2 e3
theorem V_puti {k i ci pos index f : Nat} {fs : List Value} {x : Int32} {fin : Bool} (C : Cx p s m args meth c Γ cc nL own) (F : Fp own index ci pos .int fin) (hfi : fin = true → meth.name = "<init>") (hk : i < cn k) (hsh : osh Γ.2.1 k (S.1 k i) (S.2.1 k i) (ores ad k (S.2.2 k i)) = .inr (ci, fs)) (hl : pos < fs.length) (hup : osh Γ.2.1 k (upd (S.1 k i) f x) (S.2.1 k i) (ores ad k (S.2.2 k i)) = .inr (ci, fs.set pos (.int x))) (d : Dc cc pc (.putfield index) 3 nx) (kk : ∀ S2 : oSt, S2 = sI S k i f x → Vv p l e R s m args below meth c Q Γ nL cells slots ad cn S2 nx lv rest) : Vv p l e R s m args below meth c Q Γ nL cells slots ad cn S pc lv (.int x :: .ref (ad k i) :: rest) := by
  obtain ⟨d, rfl⟩ := d
  intro H locs ls hP hS hl0
  have h0 := hP.1 k i hk
  unfold ocl at h0
  rw [hsh] at h0
  exact W_putG C F hfi h0 rfl rfl hl d (fun H1 sl h1 z oq => kk _ rfl H1 _ ls (hP.setI hk hup h1 oq) (hS.put z oq (hP.2.2.1 k i hk)) hl0)
theorem V_putl {k i ci pos index f : Nat} {fs : List Value} {x : Int64} {fin : Bool} (C : Cx p s m args meth c Γ cc nL own) (F : Fp own index ci pos .long fin) (hfi : fin = true → meth.name = "<init>") (hk : i < cn k) (hsh : osh Γ.2.1 k (S.1 k i) (S.2.1 k i) (ores ad k (S.2.2 k i)) = .inr (ci, fs)) (hl : pos < fs.length) (hup : osh Γ.2.1 k (S.1 k i) (vp_updL (S.2.1 k i) f x) (ores ad k (S.2.2 k i)) = .inr (ci, fs.set pos (.long x))) (d : Dc cc pc (.putfield index) 3 nx) (kk : ∀ S2 : oSt, S2 = sL S k i f x → Vv p l e R s m args below meth c Q Γ nL cells slots ad cn S2 nx lv rest) : Vv p l e R s m args below meth c Q Γ nL cells slots ad cn S pc lv (.long x :: .ref (ad k i) :: rest) := by
  obtain ⟨d, rfl⟩ := d
  intro H locs ls hP hS hl0
  have h0 := hP.1 k i hk
  unfold ocl at h0
  rw [hsh] at h0
  exact W_putG C F hfi h0 rfl rfl hl d (fun H1 sl h1 z oq => kk _ rfl H1 _ ls (hP.setL hk hup h1 oq) (hS.put z oq (hP.2.2.1 k i hk)) hl0)
theorem V_putr {k i ci pos index f j : Nat} {fs : List Value} {Cn : String} {fin : Bool} (C : Cx p s m args meth c Γ cc nL own) (F : Fp own index ci pos (.object Cn) fin) (hfi : fin = true → meth.name = "<init>") (hk : i < cn k) (hj : j < cn (otk k f)) (hsh : osh Γ.2.1 k (S.1 k i) (S.2.1 k i) (ores ad k (S.2.2 k i)) = .inr (ci, fs)) (hl : pos < fs.length) (hup : ∀ a, osh Γ.2.1 k (S.1 k i) (S.2.1 k i) (va_up (ores ad k (S.2.2 k i)) f (some a)) = .inr (ci, fs.set pos (.ref a))) (d : Dc cc pc (.putfield index) 3 nx) (kk : ∀ S2 : oSt, S2 = sR S k i f (some j) → Vv p l e R s m args below meth c Q Γ nL cells slots ad cn S2 nx lv rest) : Vv p l e R s m args below meth c Q Γ nL cells slots ad cn S pc lv (.ref (ad (otk k f) j) :: .ref (ad k i) :: rest) := by
  obtain ⟨d, rfl⟩ := d
  intro H locs ls hP hS hl0
  have h0 := hP.1 k i hk
  unfold ocl at h0
  rw [hsh] at h0
  exact W_putG C F hfi h0 rfl rfl hl d (fun H1 sl h1 z oq => kk _ rfl H1 _ ls (hP.setR hk (fun i' e => by cases e; exact hj) (hup _) h1 oq) (hS.put z oq (hP.2.2.1 k i hk)) hl0)
theorem V_putra {k i ci pos index f j : Nat} {fs : List Value} {te : FieldType} {fin : Bool} (C : Cx p s m args meth c Γ cc nL own) (F : Fp own index ci pos (.array te) fin) (hfi : fin = true → meth.name = "<init>") (hk : i < cn k) (hj : j < cn (otk k f)) (hsh : osh Γ.2.1 k (S.1 k i) (S.2.1 k i) (ores ad k (S.2.2 k i)) = .inr (ci, fs)) (hl : pos < fs.length) (hup : ∀ a, osh Γ.2.1 k (S.1 k i) (S.2.1 k i) (va_up (ores ad k (S.2.2 k i)) f (some a)) = .inr (ci, fs.set pos (.ref a))) (d : Dc cc pc (.putfield index) 3 nx) (kk : ∀ S2 : oSt, S2 = sR S k i f (some j) → Vv p l e R s m args below meth c Q Γ nL cells slots ad cn S2 nx lv rest) : Vv p l e R s m args below meth c Q Γ nL cells slots ad cn S pc lv (.ref (ad (otk k f) j) :: .ref (ad k i) :: rest) := by
  obtain ⟨d, rfl⟩ := d
  intro H locs ls hP hS hl0
  have h0 := hP.1 k i hk
  unfold ocl at h0
  rw [hsh] at h0
  exact W_putG C F hfi h0 rfl rfl hl d (fun H1 sl h1 z oq => kk _ rfl H1 _ ls (hP.setR hk (fun i' e => by cases e; exact hj) (hup _) h1 oq) (hS.put z oq (hP.2.2.1 k i hk)) hl0)
theorem V_iald {k i n : Nat} {x : Int32} (C : Cx p s m args meth c Γ cc nL own) (hk : i < cn k) (hsh : osh Γ.2.1 k (S.1 k i) (S.2.1 k i) (ores ad k (S.2.2 k i)) = .inl (Γ.2.1 0, n, .inl (S.1 k i))) (hin : vp_in x n) (d : Dc cc pc (.iaload) 1 nx) (kk : Vv p l e R s m args below meth c Q Γ nL cells slots ad cn S nx lv (.int (S.1 k i x.toNatClampNeg) :: rest)) : Vv p l e R s m args below meth c Q Γ nL cells slots ad cn S pc lv (.int x :: .ref (ad k i) :: rest) := by
  obtain ⟨d, rfl⟩ := d
  intro H locs ls hP hS hl
  have h0 := hP.1 k i hk
  unfold ocl at h0
  rw [hsh] at h0
  have hP1 : va_P Γ.1 vwCl [(ad k i, .inl (Γ.2.1 0, n, .inl (S.1 k i)))] H := by
    intro q x hx
    have hz : q < 1 := (List.getElem?_eq_some_iff.mp hx).1
    rw [show q = 0 by omega] at hx
    cases hx
    exact h0
  exact va_iald C.x C.b C.2.1 hP1 0 0 rfl rfl hin d (kk H locs ls hP hS hl)
theorem V_lald {k i n : Nat} {x : Int32} (C : Cx p s m args meth c Γ cc nL own) (hk : i < cn k) (hsh : osh Γ.2.1 k (S.1 k i) (S.2.1 k i) (ores ad k (S.2.2 k i)) = .inl (Γ.2.1 1, n, .inr (.inl (S.2.1 k i)))) (hin : vp_in x n) (d : Dc cc pc (.laload) 1 nx) (kk : Vv p l e R s m args below meth c Q Γ nL cells slots ad cn S nx lv (.long (S.2.1 k i x.toNatClampNeg) :: rest)) : Vv p l e R s m args below meth c Q Γ nL cells slots ad cn S pc lv (.int x :: .ref (ad k i) :: rest) := by
  obtain ⟨d, rfl⟩ := d
  intro H locs ls hP hS hl
  have h0 := hP.1 k i hk
  unfold ocl at h0
  rw [hsh] at h0
  have hP1 : va_P Γ.1 vwCl [(ad k i, .inl (Γ.2.1 1, n, .inr (.inl (S.2.1 k i))))] H := by
    intro q x hx
    have hz : q < 1 := (List.getElem?_eq_some_iff.mp hx).1
    rw [show q = 0 by omega] at hx
    cases hx
    exact h0
  exact va_lald C.x C.b C.2.1 hP1 0 1 rfl rfl hin d (kk H locs ls hP hS hl)
theorem V_aald {k i n t0 : Nat} {Cn : String} {x : Int32} (C : Cx p s m args meth c Γ cc nL own) (hk : i < cn k) (hsh : osh Γ.2.1 k (S.1 k i) (S.2.1 k i) (ores ad k (S.2.2 k i)) = .inl (Γ.2.1 t0, n, .inr (.inr (.inr (.inr (ores ad k (S.2.2 k i))))))) (ht : (oty Γ)[t0]? = some (Γ.2.1 t0, .object Cn)) (hin : vp_in x n) (d : Dc cc pc (.aaload) 1 nx) (kk : ∀ o : Option Nat, o = S.2.2 k i x.toNatClampNeg → (∀ j, o = some j → j < cn (otk k x.toNatClampNeg)) → Vv p l e R s m args below meth c Q Γ nL cells slots ad cn S nx lv (rv ad (otk k x.toNatClampNeg) o :: rest)) : Vv p l e R s m args below meth c Q Γ nL cells slots ad cn S pc lv (.int x :: .ref (ad k i) :: rest) := by
  obtain ⟨d, rfl⟩ := d
  intro H locs ls hP hS hl
  have h0 := hP.1 k i hk
  unfold ocl at h0
  rw [hsh] at h0
  have hP1 : va_P Γ.1 vwCl [(ad k i, .inl (Γ.2.1 t0, n, .inr (.inr (.inr (.inr (ores ad k (S.2.2 k i)))))))] H := by
    intro q x hx
    have hz : q < 1 := (List.getElem?_eq_some_iff.mp hx).1
    rw [show q = 0 by omega] at hx
    cases hx
    exact h0
  exact va_aldq C.x C.b C.2.1 hP1 0 t0 rfl ht hin d (kk _ rfl (fun j hj => hP.2.2.2 k i _ j hk hj) H locs ls hP hS hl)
theorem V_alen {k i t0 : Nat} {v : Int32} {A : vp_A} {ty : FieldType} (C : Cx p s m args meth c Γ cc nL own) (hk : i < cn k) (hsh : osh Γ.2.1 k (S.1 k i) (S.2.1 k i) (ores ad k (S.2.2 k i)) = .inl (Γ.2.1 t0, A)) (ht : (oty Γ)[t0]? = some (Γ.2.1 t0, ty)) (hv : Int32.ofNat A.1 = v) (d : Dc cc pc (.arraylength) 1 nx) (kk : Vv p l e R s m args below meth c Q Γ nL cells slots ad cn S nx lv (.int v :: rest)) : Vv p l e R s m args below meth c Q Γ nL cells slots ad cn S pc lv (.ref (ad k i) :: rest) := by
  obtain ⟨d, rfl⟩ := d
  intro H locs ls hP hS hl
  have h0 := hP.1 k i hk
  unfold ocl at h0
  rw [hsh] at h0
  have hP1 : va_P Γ.1 vwCl [(ad k i, .inl (Γ.2.1 t0, A))] H := by
    intro q x hx
    have hz : q < 1 := (List.getElem?_eq_some_iff.mp hx).1
    rw [show q = 0 by omega] at hx
    cases hx
    exact h0
  exact va_alen C.x C.b C.2.1 hP1 0 t0 rfl ht hv d (kk H locs ls hP hS hl)
theorem V_iast {k i n : Nat} {x y : Int32} (C : Cx p s m args meth c Γ cc nL own) (hk : i < cn k) (hsh : ∀ j, osh Γ.2.1 k j (S.2.1 k i) (ores ad k (S.2.2 k i)) = .inl (Γ.2.1 0, n, .inl j)) (hin : vp_in x n) (d : Dc cc pc (.iastore) 1 nx) (kk : ∀ S2 : oSt, S2 = sI S k i x.toNatClampNeg y → Vv p l e R s m args below meth c Q Γ nL cells slots ad cn S2 nx lv rest) : Vv p l e R s m args below meth c Q Γ nL cells slots ad cn S pc lv (.int y :: .int x :: .ref (ad k i) :: rest) := by
  obtain ⟨d, rfl⟩ := d
  intro H locs ls hP hS hl
  have h0 := hP.1 k i hk
  unfold ocl at h0
  rw [hsh] at h0
  refine W.iast C.x C.b h0 ((C.2.1.2 0 _ rfl).1 n (fun j => .int (S.1 k i j))) (fun q => by cases q) (by show ¬ (x < 0 ∨ (arrV _ _ _).slots.size ≤ _); rw [arrV_size]; exact hin) rfl rfl d fun H1 e1 z oq => ?_
  refine kk _ rfl H1 _ ls (hP.setI hk (hsh _) ?_ oq) (hS.put z oq (hP.2.2.1 k i hk)) hl
  show H1[ad k i]? = some (vp_cell _ _)
  rw [e1, vp_cell_i, vp_cell_i, arrV_store]
  congr 2
  funext q
  by_cases hq : q = x.toNatClampNeg
  · subst hq
    simp [updV, upd]
  · simp [updV, upd, hq]
theorem V_last {k i n : Nat} {x : Int32} {y : Int64} (C : Cx p s m args meth c Γ cc nL own) (hk : i < cn k) (hsh : ∀ g, osh Γ.2.1 k (S.1 k i) g (ores ad k (S.2.2 k i)) = .inl (Γ.2.1 1, n, .inr (.inl g))) (hin : vp_in x n) (d : Dc cc pc (.lastore) 1 nx) (kk : ∀ S2 : oSt, S2 = sL S k i x.toNatClampNeg y → Vv p l e R s m args below meth c Q Γ nL cells slots ad cn S2 nx lv rest) : Vv p l e R s m args below meth c Q Γ nL cells slots ad cn S pc lv (.long y :: .int x :: .ref (ad k i) :: rest) := by
  obtain ⟨d, rfl⟩ := d
  intro H locs ls hP hS hl
  have h0 := hP.1 k i hk
  unfold ocl at h0
  rw [hsh] at h0
  refine W.last C.x C.b h0 ((C.2.1.2 1 _ rfl).1 n (fun j => .long (S.2.1 k i j))) (fun q => by cases q) (by show ¬ (x < 0 ∨ (arrV _ _ _).slots.size ≤ _); rw [arrV_size]; exact hin) rfl rfl d fun H1 e1 z oq => ?_
  refine kk _ rfl H1 _ ls (hP.setL hk (hsh _) ?_ oq) (hS.put z oq (hP.2.2.1 k i hk)) hl
  show H1[ad k i]? = some (vp_cell _ _)
  rw [e1, vp_cell_l, vp_cell_l, arrV_store]
  congr 2
  funext q
  by_cases hq : q = x.toNatClampNeg
  · subst hq
    simp [updV, vp_updL]
  · simp [updV, vp_updL, hq]
theorem V_aast {k i n t0 j ci : Nat} {x : Int32} {r : vw_C} {vs : List Value} (C : Cx p s m args meth c Γ cc nL own) (hk : i < cn k) (hj : j < cn (otk k x.toNatClampNeg)) (hsh : ∀ ρ, osh Γ.2.1 k (S.1 k i) (S.2.1 k i) ρ = .inl (Γ.2.1 t0, n, .inr (.inr (.inr (.inr ρ))))) (hv : osh Γ.2.1 (otk k x.toNatClampNeg) (S.1 (otk k x.toNatClampNeg) j) (S.2.1 (otk k x.toNatClampNeg) j) (ores ad (otk k x.toNatClampNeg) (S.2.2 (otk k x.toNatClampNeg) j)) = .inr (ci, vs)) (hc : vwCl[ci]? = some r) (ht : (oty Γ)[t0]? = some (Γ.2.1 t0, .object r.1)) (hin : vp_in x n) (d : Dc cc pc (.aastore) 1 nx) (kk : ∀ S2 : oSt, S2 = sR S k i x.toNatClampNeg (some j) → Vv p l e R s m args below meth c Q Γ nL cells slots ad cn S2 nx lv rest) : Vv p l e R s m args below meth c Q Γ nL cells slots ad cn S pc lv (.ref (ad (otk k x.toNatClampNeg) j) :: .int x :: .ref (ad k i) :: rest) := by
  obtain ⟨d, rfl⟩ := d
  intro H locs ls hP hS hl
  have h0 := hP.1 k i hk
  have g0 := hP.1 _ j hj
  unfold ocl at h0 g0
  rw [hsh] at h0
  rw [hv] at g0
  have hlt : x.toNatClampNeg < n := Nat.not_le.mp fun q => hin (Or.inr q)
  have hx0 : ¬ x < 0 := fun q => hin (Or.inl q)
  obtain ⟨r', hr', cellV, g1, g2, g3, -⟩ := g0
  have hcls := (C.2.1.1 ci r hc).2
  obtain ⟨kA, comp, k1, k2, k3, -⟩ := (C.2.1.2 t0 _ ht).2
  have hcomp : comp = Γ.1.1 ci := Option.some.inj (k3.symm.trans hcls.1)
  subst hcomp
  obtain ⟨kC, hkC, -⟩ := hcls.2
  refine W.aast C.x C.b h0 (fun q h => by cases h) (fun h => by cases h) k1 k2 rfl hkC ⟨hx0, by show _ < (arrV _ _ _).slots.size; rw [arrV_size]; exact hlt⟩ g1 (fun q h => by rw [g3] at h; cases h) (by rw [g2]; exact hkC) (by rw [g2]; exact va_assign hcls) rfl rfl d fun H1 e1 z oq => ?_
  refine kk _ rfl H1 _ ls (hP.setR hk (fun i' e2 => by cases e2; exact hj) (hsh _) ?_ oq) (hS.put z oq (hP.2.2.1 k i hk)) hl
  show H1[ad k i]? = some (vp_cell _ _)
  rw [e1, vp_cell_q, vp_cell_q, arrV_store]
  congr 2
  funext q
  by_cases hq : q = x.toNatClampNeg
  · subst hq
    simp [updV, va_up, va_rf]
  · simp [updV, va_up, hq]
/-! the script and the powers -/
theorem V_sld {x : Int32} (C : Cx p s m args meth c Γ cc nL own) (hin : vp_in x Γ.2.2.2.1.2.1) (d : Dc cc pc (.iaload) 1 nx) (kk : Vv p l e R s m args below meth c Q Γ nL cells slots ad cn S nx lv (.int (Γ.2.2.2.1.2.2 x.toNatClampNeg) :: rest)) : Vv p l e R s m args below meth c Q Γ nL cells slots ad cn S pc lv (.int x :: .ref Γ.2.2.2.1.1 :: rest) := by
  obtain ⟨d, rfl⟩ := d
  obtain ⟨-, -, h3, h4, h5, -⟩ := C.2.2.1
  exact fun H locs ls hP hS hl => va_sld C.x C.b h3 (Nat.lt_of_lt_of_le h4 h5) (fun z => Nat.not_le.mpr h4 z) hS hin d (kk H locs ls hP hS hl)
theorem V_slen (C : Cx p s m args meth c Γ cc nL own) (d : Dc cc pc (.arraylength) 1 nx) (kk : Vv p l e R s m args below meth c Q Γ nL cells slots ad cn S nx lv (.int (Int32.ofNat Γ.2.2.2.1.2.1) :: rest)) : Vv p l e R s m args below meth c Q Γ nL cells slots ad cn S pc lv (.ref Γ.2.2.2.1.1 :: rest) := by
  obtain ⟨d, rfl⟩ := d
  obtain ⟨-, -, h3, h4, h5, -⟩ := C.2.2.1
  exact fun H locs ls hP hS hl => va_slen C.x C.b h3 (Nat.lt_of_lt_of_le h4 h5) (fun z => Nat.not_le.mpr h4 z) hS d (kk H locs ls hP hS hl)
theorem V_pget {index : Nat} (C : Cx p s m args meth c Γ cc nL own) (hw : Jvm.Cond.fieldLink own index "ValueConnector" "POWERS_OF_TEN" "[I" ∈ oWS) (d : Dc cc pc (.getstatic index) 3 nx) (kk : Vv p l e R s m args below meth c Q Γ nL cells slots ad cn S nx lv (.ref Γ.2.2.2.2 :: rest)) : Vv p l e R s m args below meth c Q Γ nL cells slots ad cn S pc lv rest := by
  obtain ⟨d, rfl⟩ := d
  exact fun H locs ls hP hS hl => va_gets C.x C.b C.2.2.1.1 hS C.o (C.w hw) (fun _ h9 => h9) d (kk H locs ls hP hS hl)
theorem V_pld {x : Int32} (C : Cx p s m args meth c Γ cc nL own) (hin : vp_in x 4) (d : Dc cc pc (.iaload) 1 nx) (kk : Vv p l e R s m args below meth c Q Γ nL cells slots ad cn S nx lv (.int (opw x.toNatClampNeg) :: rest)) : Vv p l e R s m args below meth c Q Γ nL cells slots ad cn S pc lv (.int x :: .ref Γ.2.2.2.2 :: rest) := by
  obtain ⟨d, rfl⟩ := d
  exact fun H locs ls hP hS hl => va_ti C.x C.b C.2.2.1.2.1 hS hin rfl d (kk H locs ls hP hS hl)
theorem V_plen (C : Cx p s m args meth c Γ cc nL own) (d : Dc cc pc (.arraylength) 1 nx) (kk : Vv p l e R s m args below meth c Q Γ nL cells slots ad cn S nx lv (.int 4 :: rest)) : Vv p l e R s m args below meth c Q Γ nL cells slots ad cn S pc lv (.ref Γ.2.2.2.2 :: rest) := by
  obtain ⟨d, rfl⟩ := d
  exact fun H locs ls hP hS hl => va_tlen C.x C.b C.2.2.1.2.1 hS rfl d (kk H locs ls hP hS hl)
def vI (r : Int32) : Option Value := some (.int r)
def vJ (r : Int64) : Option Value := some (.long r)
def vU (_ : Unit) : Option Value := none
def vR (ad : oAd) (k : Nat) (o : Option Nat) : Option Value := some (rv ad k o)
theorem oend {ρ : Type} {val : ρ → Option Value} {post : ρ → oSt → Prop} {r : ρ} {a : Array Value} {H : Heap} {locs : List Loc} (C : Cx p s m args meth c Γ cc nL own) (h : post r S) (hP : oP Γ ad cn S H) (hS : va_S (oF Γ) s.heap H locs) (t : State) (ht : t.heap = H) (hW : s.WarmedH t.vm) : oQ Γ ad cn val post a s (.returned (val r)) t :=
  ⟨⟨r, S, rfl, h, by rw [ht]; exact hP, va_K.moved hW.alike C.2.1, C.2.2.1.go hS ht hW⟩, hS.F ht⟩
theorem oendn {ρ : Type} {val : oAd → ρ → Option Value} {post : ρ → (Nat → Nat) → oSt → Prop} {r : ρ} {a : Array Value} {H : Heap} {locs : List Loc} {ad0 : oAd} {cn0 : Nat → Nat} (C : Cx p s m args meth c Γ cc nL own) (hx : oX cn0 ad0 ad) (hc : ∀ k, cn0 k ≤ cn k) (h : post r cn S) (hP : oP Γ ad cn S H) (hS : va_S (oF Γ) s.heap H locs) (t : State) (ht : t.heap = H) (hW : s.WarmedH t.vm) : oQn Γ ad0 cn0 val post a s (.returned (val ad r)) t :=
  ⟨⟨r, ad, cn, S, rfl, hx, hc, h, by rw [ht]; exact hP, va_K.moved hW.alike C.2.1, C.2.2.1.go hS ht hW⟩, hS.F ht⟩
theorem V_iret {v : Int32} {post : Int32 → oSt → Prop} (C : Cx p s m args meth c Γ cc nL own) (hr : meth.sig.returnType = some .int) (d : Dc cc pc .ireturn 1 nx) (h : post v S) : Vv p l e R s m args below meth c (MQ below (oQ Γ ad cn vI post) args s cells slots (oF Γ)) Γ nL cells slots ad cn S pc lv [.int v] :=
  fun H locs ls hP hS hl => W.iret C.x C.b hr (fun t ht hW => oend (val := vI) C h hP hS t ht hW) hS.2.2 d.1 C.2.2.2
theorem V_iretn {v : Int32} {post : Int32 → (Nat → Nat) → oSt → Prop} {ad0 : oAd} {cn0 : Nat → Nat} (C : Cx p s m args meth c Γ cc nL own) (hr : meth.sig.returnType = some .int) (hx : oX cn0 ad0 ad) (hc : ∀ k, cn0 k ≤ cn k) (d : Dc cc pc .ireturn 1 nx) (h : post v cn S) : Vv p l e R s m args below meth c (MQ below (oQn Γ ad0 cn0 (fun _ => vI) post) args s cells slots (oF Γ)) Γ nL cells slots ad cn S pc lv [.int v] :=
  fun H locs ls hP hS hl => W.iret C.x C.b hr (fun t ht hW => oendn (val := fun _ => vI) C hx hc h hP hS t ht hW) hS.2.2 d.1 C.2.2.2
theorem V_lret {v : Int64} {post : Int64 → oSt → Prop} (C : Cx p s m args meth c Γ cc nL own) (hr : meth.sig.returnType = some .long) (d : Dc cc pc .lreturn 1 nx) (h : post v S) : Vv p l e R s m args below meth c (MQ below (oQ Γ ad cn vJ post) args s cells slots (oF Γ)) Γ nL cells slots ad cn S pc lv [.long v] :=
  fun H locs ls hP hS hl => W.lret C.x C.b hr (fun t ht hW => oend (val := vJ) C h hP hS t ht hW) hS.2.2 d.1 C.2.2.2
theorem V_lretn {v : Int64} {post : Int64 → (Nat → Nat) → oSt → Prop} {ad0 : oAd} {cn0 : Nat → Nat} (C : Cx p s m args meth c Γ cc nL own) (hr : meth.sig.returnType = some .long) (hx : oX cn0 ad0 ad) (hc : ∀ k, cn0 k ≤ cn k) (d : Dc cc pc .lreturn 1 nx) (h : post v cn S) : Vv p l e R s m args below meth c (MQ below (oQn Γ ad0 cn0 (fun _ => vJ) post) args s cells slots (oF Γ)) Γ nL cells slots ad cn S pc lv [.long v] :=
  fun H locs ls hP hS hl => W.lret C.x C.b hr (fun t ht hW => oendn (val := fun _ => vJ) C hx hc h hP hS t ht hW) hS.2.2 d.1 C.2.2.2
theorem V_zret {v : Int32} {post : Int32 → oSt → Prop} (C : Cx p s m args meth c Γ cc nL own) (hr : meth.sig.returnType = some .boolean) (hz : narrow .boolean (.int v) = .int v) (d : Dc cc pc .ireturn 1 nx) (h : post v S) : Vv p l e R s m args below meth c (MQ below (oQ Γ ad cn vI post) args s cells slots (oF Γ)) Γ nL cells slots ad cn S pc lv [.int v] :=
  fun H locs ls hP hS hl => W.zret C.x C.b hr hz (fun t ht hW => oend (val := vI) C h hP hS t ht hW) hS.2.2 d.1 C.2.2.2
theorem V_zretn {v : Int32} {post : Int32 → (Nat → Nat) → oSt → Prop} {ad0 : oAd} {cn0 : Nat → Nat} (C : Cx p s m args meth c Γ cc nL own) (hr : meth.sig.returnType = some .boolean) (hz : narrow .boolean (.int v) = .int v) (hx : oX cn0 ad0 ad) (hc : ∀ k, cn0 k ≤ cn k) (d : Dc cc pc .ireturn 1 nx) (h : post v cn S) : Vv p l e R s m args below meth c (MQ below (oQn Γ ad0 cn0 (fun _ => vI) post) args s cells slots (oF Γ)) Γ nL cells slots ad cn S pc lv [.int v] :=
  fun H locs ls hP hS hl => W.zret C.x C.b hr hz (fun t ht hW => oendn (val := fun _ => vI) C hx hc h hP hS t ht hW) hS.2.2 d.1 C.2.2.2
theorem V_vret {post : Unit → oSt → Prop} (C : Cx p s m args meth c Γ cc nL own) (hr : meth.sig.returnType = none) (d : Dc cc pc .return_ 1 nx) (h : post () S) : Vv p l e R s m args below meth c (MQ below (oQ Γ ad cn vU post) args s cells slots (oF Γ)) Γ nL cells slots ad cn S pc lv [] :=
  fun H locs ls hP hS hl => W.vret C.x C.b hr (fun t ht hW => oend (val := vU) (r := ()) C h hP hS t ht hW) hS.2.2 d.1 C.2.2.2
theorem V_vretn {post : Unit → (Nat → Nat) → oSt → Prop} {ad0 : oAd} {cn0 : Nat → Nat} (C : Cx p s m args meth c Γ cc nL own) (hr : meth.sig.returnType = none) (hx : oX cn0 ad0 ad) (hc : ∀ k, cn0 k ≤ cn k) (d : Dc cc pc .return_ 1 nx) (h : post () cn S) : Vv p l e R s m args below meth c (MQ below (oQn Γ ad0 cn0 (fun _ => vU) post) args s cells slots (oF Γ)) Γ nL cells slots ad cn S pc lv [] :=
  fun H locs ls hP hS hl => W.vret C.x C.b hr (fun t ht hW => oendn (val := fun _ => vU) (r := ()) C hx hc h hP hS t ht hW) hS.2.2 d.1 C.2.2.2
theorem rv_or (ad : oAd) (k : Nat) (o : Option Nat) : rv ad k o = .null ∨ ∃ a, rv ad k o = .ref a := by
  cases o with
  | none => exact Or.inl rfl
  | some i => exact Or.inr ⟨_, rfl⟩
theorem V_aret {kd : Nat} {Cn : String} {o : Option Nat} {post : Option Nat → oSt → Prop} (C : Cx p s m args meth c Γ cc nL own) (hr : meth.sig.returnType = some (.object Cn)) (d : Dc cc pc .areturn 1 nx) (h : post o S) : Vv p l e R s m args below meth c (MQ below (oQ Γ ad cn (vR ad kd) post) args s cells slots (oF Γ)) Γ nL cells slots ad cn S pc lv [rv ad kd o] :=
  fun H locs ls hP hS hl => W.aret C.x C.b hr (Or.inl ⟨_, rfl⟩) (rv_or ad kd o) (fun t ht hW => oend (val := vR ad kd) C h hP hS t ht hW) hS.2.2 d.1 C.2.2.2
theorem V_widen {c1 s1 : Nat} {st : List Value} (h1 : cells ≤ c1) (h2 : slots ≤ s1) (k : Vv p l e R s m args below meth c Q Γ nL c1 s1 ad cn S pc lv st) : Vv p l e R s m args below meth c Q Γ nL cells slots ad cn S pc lv st := fun H locs ls hP hS hl => W.widen h1 h2 (k H locs ls hP hS hl)
/-! calls -/
theorem V_runW {ρ : Type} {val : ρ → Option Value} {post : ρ → oSt → Prop} {a : Array Value} {st0 : List Value} (k : ∀ (H : Heap) (locs : List Loc) (ls : Array Slot), oP Γ ad cn S H → va_S (oF Γ) s.heap H locs → lv_has ls nL lv → va_Run p l e R s m args below meth c H locs cells slots 0 0 (F0 m pc ls st0) rest (oQ Γ ad cn val post a) (oF Γ)) (hnx : pc + 3 = nx)
    (kk : ∀ (r : ρ) (S1 : oSt), post r S1 → Vv p l e R s m args below meth c Q Γ nL cells slots ad cn S1 nx lv ((val r).toList ++ rest)) : Vv p l e R s m args below meth c Q Γ nL cells slots ad cn S pc lv st0 := by
  subst hnx
  intro H locs ls hP hS hl T hT X
  obtain ⟨v, st₀, t, T', L, h0, X', hL, e1, e2, ⟨⟨r, S1, hv, hp, hb, -⟩, hz, hk⟩, st⟩ := k H locs ls hP hS hl T hT X
  cases hv
  rw [h0] at hz hk
  obtain ⟨t2, a1, b1⟩ := kk r S1 hp T'.heap (locs ++ L) ls (by rw [e1]; exact hb) ⟨Nat.le_trans hS.1 (by rw [e1]; exact hz), fun q h1 h2 => by rw [e1, hk q (Nat.lt_of_lt_of_le h1 hS.1) h2]; exact hS.2.1 q h1 h2, fun q hq => by
      rcases List.mem_append.mp hq with h | h
      · exact hS.2.2 q h
      · exact hL q h⟩ hl T' rfl X'
  exact ⟨t2, st t2 a1, b1⟩
theorem V_runWn {ρ : Type} {mc ms : Nat} {val : oAd → ρ → Option Value} {post : ρ → (Nat → Nat) → oSt → Prop} {a : Array Value} {st0 : List Value} (lvf : oAd → List (Nat × Value)) (restf : oAd → List Value) (hlv : lvf ad = lv) (hre : restf ad = rest) (hl2 : ∀ ad2, oX cn ad ad2 → lvf ad2 = lvf ad ∧ restf ad2 = restf ad) (k : ∀ (H : Heap) (locs : List Loc) (ls : Array Slot), oP Γ ad cn S H → va_S (oF Γ) s.heap H locs → lv_has ls nL lv → va_Run p l e R s m args below meth c H locs cells slots mc ms (F0 m pc ls st0) rest (oQn Γ ad cn val post a) (oF Γ)) (hnx : pc + 3 = nx)
    (kk : ∀ (r : ρ) (ad2 : oAd) (cn2 : Nat → Nat) (S1 : oSt), oX cn ad ad2 → (∀ k, cn k ≤ cn2 k) → post r cn2 S1 → Vv p l e R s m args below meth c Q Γ nL (cells + mc) (slots + ms) ad2 cn2 S1 nx (lvf ad2) ((val ad2 r).toList ++ restf ad2)) : Vv p l e R s m args below meth c Q Γ nL cells slots ad cn S pc lv st0 := by
  subst hnx
  intro H locs ls hP hS hl T hT X
  obtain ⟨v, st₀, t, T', L, h0, X', hL, e1, e2, ⟨⟨r, ad2, cn2, S1, hv, hx, hc, hp, hb, -⟩, hz, hk⟩, st⟩ := k H locs ls hP hS hl T hT X
  cases hv
  rw [h0] at hz hk
  obtain ⟨q1, q2⟩ := hl2 ad2 hx
  obtain ⟨t2, a1, b1⟩ := kk r ad2 cn2 S1 hx hc hp T'.heap (locs ++ L) ls (by rw [e1]; exact hb) ⟨Nat.le_trans hS.1 (by rw [e1]; exact hz), fun q h1 h2 => by rw [e1, hk q (Nat.lt_of_lt_of_le h1 hS.1) h2]; exact hS.2.1 q h1 h2, fun q hq => by
      rcases List.mem_append.mp hq with h | h
      · exact hS.2.2 q h
      · exact hL q h⟩ (by rw [q1, hlv]; exact hl) T' rfl X'
  refine ⟨t2, st t2 ?_, b1⟩
  rw [q2, hre] at a1
  exact a1
/-- what stands before a call -/
theorem opre {av : List Value} {H : Heap} {locs : List Loc} (C : Cx p s m args meth c Γ cc nL own) (hP : oP Γ ad cn S H) (hS : va_S (oF Γ) s.heap H locs) : PreS s H (va_Pc av (oW Γ ad cn S)) av :=
  ⟨oW.blind, fun U hU hW => ⟨rfl, by rw [hU]; exact hP, va_K.moved hW.alike C.2.1, C.2.2.1.go hS hU hW⟩⟩
theorem oprev {av : List Value} {H : Heap} {locs : List Loc} {k i ci : Nat} {r : vw_C} {fs : List Value} (C : Cx p s m args meth c Γ cc nL own) (hk : i < cn k) (hsh : osh Γ.2.1 k (S.1 k i) (S.2.1 k i) (ores ad k (S.2.2 k i)) = .inr (ci, fs)) (hc : vwCl[ci]? = some r) (hP : oP Γ ad cn S H) (hS : va_S (oF Γ) s.heap H locs) : PreV s H r.1 (ad k i) (va_Pc (.ref (ad k i) :: av) (oW Γ ad cn S)) av := by
  refine ⟨oW.blind, ?_, fun U hU hW => ⟨rfl, by rw [hU]; exact hP, va_K.moved hW.alike C.2.1, C.2.2.1.go hS hU hW⟩⟩
  have h0 := hP.1 k i hk
  unfold ocl at h0
  rw [hsh] at h0
  obtain ⟨q', h1, cell, g1, g2, g3, -⟩ := h0
  exact ⟨cell, g1, by rw [g3]; rfl, by rw [g2]; exact (C.2.1.1 ci r hc).2.1⟩
end OV
