section OV2
variable {p : Program} {l : Launch} {e : Env} {R : Room} {s : State} {m : MethodId} {args : Array Value} {below : List Frame} {meth : Method} {c : Code} {Q : State → Prop} {Γ : oGm} {nL cells slots : Nat} {ad : oAd} {cn : Nat → Nat} {S : oSt} {cc : ByteArray} {own : String} {pc nx : Nat} {lv : List (Nat × Value)} {rest : List Value}
theorem V_lvs {st : List Value} (ks : List Nat) (lv2 : List (Nat × Value)) (h : lv_pick lv ks = lv2) (k : Vv p l e R s m args below meth c Q Γ nL cells slots ad cn S pc lv2 st) : Vv p l e R s m args below meth c Q Γ nL cells slots ad cn S pc lv st := fun H locs ls hP hS hl => k H locs ls hP hS (lv_sub hl ks h)
theorem V_sh {st : List Value} (lv2 : List (Nat × Value)) (st2 : List Value) (h1 : lv = lv2) (h2 : st = st2) (k : Vv p l e R s m args below meth c Q Γ nL cells slots ad cn S pc lv2 st2) : Vv p l e R s m args below meth c Q Γ nL cells slots ad cn S pc lv st := by subst h1; subst h2; exact k
theorem ob0 {H : Heap} {locs : List Loc} (C : Cx p s m args meth c Γ cc nL own) (hS : va_S (oF Γ) s.heap H locs) : Γ.2.2.1 ≤ H.size := Nat.le_trans C.2.2.1.2.2.2.2.1 hS.1
theorem ogrow {H H1 : Heap} {locs : List Loc} (hS : va_S (oF Γ) s.heap H locs) (z : H1.size = H.size + 1) (o1 : ∀ q : Nat, q < H.size → H1[q]? = H[q]?) : va_S (oF Γ) s.heap H1 locs :=
  ⟨Nat.le_trans hS.1 (by omega), fun x h1 h2 => (o1 x (Nat.lt_of_lt_of_le h1 hS.1)).trans (hS.2.1 x h1 h2), hS.2.2⟩
/-- a new object of a class: what its words are -/
def Nk (own : String) (index ci N : Nat) (fs : List Value) : Prop := ∃ (Cn : String) (T : u_T) (ty : Nat → FieldType), vwCl[ci]? = some (Cn, T, N) ∧ (∀ w ∈ u_ws Cn T N, w ∈ oWS) ∧ (∀ k, k < N → parseFieldDescriptor (T k).2.2.1 = some (ty k)) ∧ Jvm.Cond.classLink own index Cn ∈ oWS ∧ Jvm.Cond.instantiable Cn N ∈ oWS ∧ Jvm.Cond.initialized Cn ∈ oWS ∧ ∀ j, j < N → defaultValue (ty j) = vp_V fs j
theorem V_new {k ci index N : Nat} {fs : List Value} (C : Cx p s m args meth c Γ cc nL own) (lvf : oAd → List (Nat × Value)) (restf : oAd → List Value) (hlv : lvf ad = lv) (hre : restf ad = rest) (hl2 : ∀ ad2, oX cn ad ad2 → lvf ad2 = lvf ad ∧ restf ad2 = restf ad) (F : Nk own index ci N fs) (hsh : osh Γ.2.1 k (fun _ => 0) (fun _ => 0) (fun _ => none) = .inr (ci, fs)) (hcells : cells + 1 ≤ R.cells) (hslots : slots + N ≤ R.slots) (d : Dc cc pc (.new index) 3 nx)
    (kk : ∀ (i : Nat) (ad2 : oAd) (cn2 : Nat → Nat) (S2 : oSt), i = cn k → cn2 = oup cn k → S2 = sN S k i → oX cn ad ad2 → (∀ a, cn a ≤ cn2 a) → i < cn2 k → Vv p l e R s m args below meth c Q Γ nL (cells + 1) (slots + N) ad2 cn2 S2 nx (lvf ad2) (.ref (ad2 k i) :: restf ad2)) : Vv p l e R s m args below meth c Q Γ nL cells slots ad cn S pc lv rest := by
  obtain ⟨d, rfl⟩ := d
  obtain ⟨Cn, T, ty, hc, hin, hty, w1, w2, w3, hfs⟩ := F
  intro H locs ls hP hS hl
  have hKn := C.2.1.1 ci _ hc
  refine W.newcK C.x C.b C.o (C.w w1) (C.w w2) (C.w w3) rfl d hcells hslots hKn.2.1 rfl fun H1 kC hkC e1 z1 o1 => ?_
  have hat : va_at Γ.1 vwCl (H.size, .inr (ci, fs)) H1 := ⟨_, hc, (u_born ty C.1.2.2.2.2 hin hKn hkC e1 hty).to hfs⟩
  have hP1 := hP.new (k := k) rfl (ob0 C hS) hsh hat o1
  obtain ⟨q1, q2⟩ := hl2 _ (oN_x (cn := cn) (ad := ad) (k := k) (q := H.size))
  have h9 := kk (cn k) _ (oup cn k) _ rfl rfl rfl (oN_x (cn := cn) (ad := ad) (k := k) (q := H.size)) (fun _ => oup_le) oup_new H1 locs ls hP1 (ogrow hS z1 o1) (by rw [q1, hlv]; exact hl)
  rw [q2, hre, oN_new] at h9
  exact h9
theorem V_newi {k N : Nat} {n : Int32} (C : Cx p s m args meth c Γ cc nL own) (lvf : oAd → List (Nat × Value)) (restf : oAd → List Value) (hlv : lvf ad = lv) (hre : restf ad = rest) (hl2 : ∀ ad2, oX cn ad ad2 → lvf ad2 = lvf ad ∧ restf ad2 = restf ad) (hw : Jvm.Cond.arrayClass .int ∈ oWS) (hsh : osh Γ.2.1 k (fun _ => 0) (fun _ => 0) (fun _ => none) = .inl (Γ.2.1 0, N, .inl (fun _ => 0))) (hn : ¬ n < 0) (hN : n.toNatClampNeg = N) (hbytes : N * 4 ≤ 536870912) (hcells : cells + 1 ≤ R.cells) (hslots : slots + N ≤ R.slots) (d : Dc cc pc (.newarray .int) 2 nx)
    (kk : ∀ (i : Nat) (ad2 : oAd) (cn2 : Nat → Nat) (S2 : oSt), i = cn k → cn2 = oup cn k → S2 = sN S k i → oX cn ad ad2 → (∀ a, cn a ≤ cn2 a) → i < cn2 k → Vv p l e R s m args below meth c Q Γ nL (cells + 1) (slots + N) ad2 cn2 S2 nx (lvf ad2) (.ref (ad2 k i) :: restf ad2)) : Vv p l e R s m args below meth c Q Γ nL cells slots ad cn S pc lv (.int n :: rest) := by
  obtain ⟨d, rfl⟩ := d
  intro H locs ls hP hS hl
  refine va_newaK (atype := .int) C.x C.b (C.w hw) rfl d rfl hn hN hbytes hcells hslots rfl fun H1 cA e1 z1 o1 hAr hNm => ?_
  have hcA : cA = Γ.2.1 0 := Option.some.inj (hNm.symm.trans (C.2.1.2 0 _ rfl).2)
  subst hcA
  have hP1 := hP.new (k := k) rfl (ob0 C hS) hsh e1 o1
  obtain ⟨q1, q2⟩ := hl2 _ (oN_x (cn := cn) (ad := ad) (k := k) (q := H.size))
  have h9 := kk (cn k) _ (oup cn k) _ rfl rfl rfl (oN_x (cn := cn) (ad := ad) (k := k) (q := H.size)) (fun _ => oup_le) oup_new H1 locs ls hP1 (ogrow hS z1 o1) (by rw [q1, hlv]; exact hl)
  rw [q2, hre, oN_new] at h9
  exact h9
theorem V_newl {k N : Nat} {n : Int32} (C : Cx p s m args meth c Γ cc nL own) (lvf : oAd → List (Nat × Value)) (restf : oAd → List Value) (hlv : lvf ad = lv) (hre : restf ad = rest) (hl2 : ∀ ad2, oX cn ad ad2 → lvf ad2 = lvf ad ∧ restf ad2 = restf ad) (hw : Jvm.Cond.arrayClass .long ∈ oWS) (hsh : osh Γ.2.1 k (fun _ => 0) (fun _ => 0) (fun _ => none) = .inl (Γ.2.1 1, N, .inr (.inl (fun _ => 0)))) (hn : ¬ n < 0) (hN : n.toNatClampNeg = N) (hbytes : N * 8 ≤ 536870912) (hcells : cells + 1 ≤ R.cells) (hslots : slots + N ≤ R.slots) (d : Dc cc pc (.newarray .long) 2 nx)
    (kk : ∀ (i : Nat) (ad2 : oAd) (cn2 : Nat → Nat) (S2 : oSt), i = cn k → cn2 = oup cn k → S2 = sN S k i → oX cn ad ad2 → (∀ a, cn a ≤ cn2 a) → i < cn2 k → Vv p l e R s m args below meth c Q Γ nL (cells + 1) (slots + N) ad2 cn2 S2 nx (lvf ad2) (.ref (ad2 k i) :: restf ad2)) : Vv p l e R s m args below meth c Q Γ nL cells slots ad cn S pc lv (.int n :: rest) := by
  obtain ⟨d, rfl⟩ := d
  intro H locs ls hP hS hl
  refine va_newaK (atype := .long) C.x C.b (C.w hw) rfl d rfl hn hN hbytes hcells hslots rfl fun H1 cA e1 z1 o1 hAr hNm => ?_
  have hcA : cA = Γ.2.1 1 := Option.some.inj (hNm.symm.trans (C.2.1.2 1 _ rfl).2)
  subst hcA
  have hP1 := hP.new (k := k) rfl (ob0 C hS) hsh e1 o1
  obtain ⟨q1, q2⟩ := hl2 _ (oN_x (cn := cn) (ad := ad) (k := k) (q := H.size))
  have h9 := kk (cn k) _ (oup cn k) _ rfl rfl rfl (oN_x (cn := cn) (ad := ad) (k := k) (q := H.size)) (fun _ => oup_le) oup_new H1 locs ls hP1 (ogrow hS z1 o1) (by rw [q1, hlv]; exact hl)
  rw [q2, hre, oN_new] at h9
  exact h9
theorem V_newq {k N t0 index : Nat} {Cn : String} {n : Int32} (C : Cx p s m args meth c Γ cc nL own) (hao : va_AO Cn s) (lvf : oAd → List (Nat × Value)) (restf : oAd → List Value) (hlv : lvf ad = lv) (hre : restf ad = rest) (hl2 : ∀ ad2, oX cn ad ad2 → lvf ad2 = lvf ad ∧ restf ad2 = restf ad) (hw : Jvm.Cond.classLink own index Cn ∈ oWS) (ht : (oty Γ)[t0]? = some (Γ.2.1 t0, .object Cn)) (hsh : osh Γ.2.1 k (fun _ => 0) (fun _ => 0) (fun _ => none) = .inl (Γ.2.1 t0, N, .inr (.inr (.inr (.inr (fun _ => none)))))) (hn : ¬ n < 0) (hN : n.toNatClampNeg = N) (hbytes : N * 4 ≤ 536870912) (hcells : cells + 1 ≤ R.cells) (hslots : slots + N ≤ R.slots) (d : Dc cc pc (.anewarray index) 3 nx)
    (kk : ∀ (i : Nat) (ad2 : oAd) (cn2 : Nat → Nat) (S2 : oSt), i = cn k → cn2 = oup cn k → S2 = sN S k i → oX cn ad ad2 → (∀ a, cn a ≤ cn2 a) → i < cn2 k → Vv p l e R s m args below meth c Q Γ nL (cells + 1) (slots + N) ad2 cn2 S2 nx (lvf ad2) (.ref (ad2 k i) :: restf ad2)) : Vv p l e R s m args below meth c Q Γ nL cells slots ad cn S pc lv (.int n :: rest) := by
  obtain ⟨d, rfl⟩ := d
  intro H locs ls hP hS hl
  subst hN
  refine W.anew C.x C.b C.o (C.w hw) (va_AO.use hao) rfl d rfl hn hbytes hcells hslots fun cA kA comp f1 f2 f3 f4 => ?_
  obtain ⟨kA', comp', k1, k2, k3, k4⟩ := (C.2.1.2 t0 _ ht).2
  have hcA : cA = Γ.2.1 t0 := Option.some.inj (f1.symm.trans k4)
  subst hcA
  generalize hH1 : H.push ({ cls := Γ.2.1 t0, slots := Array.replicate n.toNatClampNeg .null, vm := .none } : Cell) = H1
  have z1 : H1.size = H.size + 1 := by rw [← hH1, Array.size_push]
  have e1 : H1[H.size]? = some (arrV (Γ.2.1 t0) n.toNatClampNeg (fun _ => .null)) := by rw [← hH1, Array.getElem?_push_size, ← arrV_new]
  have o1 : ∀ q : Nat, q < H.size → H1[q]? = H[q]? := fun q hq => by rw [← hH1, Array.getElem?_push, if_neg (Nat.ne_of_lt hq)]
  have hP1 := hP.new (k := k) rfl (ob0 C hS) hsh e1 o1
  obtain ⟨q1, q2⟩ := hl2 _ (oN_x (cn := cn) (ad := ad) (k := k) (q := H.size))
  have h9 := kk (cn k) _ (oup cn k) _ rfl rfl rfl (oN_x (cn := cn) (ad := ad) (k := k) (q := H.size)) (fun _ => oup_le) oup_new H1 locs ls hP1 (ogrow hS z1 o1) (by rw [q1, hlv]; exact hl)
  rw [q2, hre, oN_new] at h9
  exact h9
theorem V_objInit {index a : Nat} (C : Cx p s m args meth c Γ cc nL own) (hw1 : Jvm.Cond.methodLink own index Lib.objectInit ∈ oWS) (hw2 : Jvm.Cond.instanceMethod Lib.objectInit ∈ oWS) (hw3 : Jvm.Cond.code Lib.objectInit ⟨#[0xb1]⟩ 1 none ∈ oWS) (hR : 1 ≤ R.frames ∧ 40 ≤ R.locals) (hrest : (rest.map fun v => v.category).sum ≤ 8) (d : Dc cc pc (.invokespecial index) 3 nx) (k : Vv p l e R s m args below meth c Q Γ nL cells slots ad cn S nx lv rest) : Vv p l e R s m args below meth c Q Γ nL cells slots ad cn S pc lv (.ref a :: rest) := by
  obtain ⟨d, rfl⟩ := d
  intro H locs ls hP hS hl
  exact W.objInit C.x C.b C.o (C.w hw1) (C.w hw2) (C.w hw3) rfl (by rw [C.n]; exact hl.1) rfl d hR.1 (by show 2 * 0 + _ + 12 ≤ _; have := hR.2; omega) (k H locs ls hP hS hl)
theorem V_mmin {index : Nat} {x y : Int32} (C : Cx p s m args meth c Γ cc nL own) (hw1 : Jvm.Cond.methodLink own index Lib.Math.min.name ∈ oWS) (hw2 : Jvm.Cond.static Lib.Math.min.name ∈ oWS) (hw3 : Jvm.Cond.initialized "java/lang/Math" ∈ oWS) (hw4 : Jvm.Cond.code Lib.Math.min.name Lib.Math.min.code 2 (some .int) ∈ oWS) (hR : 1 ≤ R.frames ∧ 40 ≤ R.locals) (hrest : (rest.map fun v => v.category).sum ≤ 8) (hcs : cells ≤ R.cells ∧ slots ≤ R.slots) (d : Dc cc pc (.invokestatic index) 3 nx) (k : Vv p l e R s m args below meth c Q Γ nL cells slots ad cn S nx lv (.int (if y < x then y else x) :: rest)) : Vv p l e R s m args below meth c Q Γ nL cells slots ad cn S pc lv (.int y :: .int x :: rest) := by
  obtain ⟨d, rfl⟩ := d
  intro H locs ls hP hS hl
  exact va_mmin C.x C.b (by rw [C.n]; exact hl.1.symm) C.o (C.w hw1) (C.w hw2) (C.w hw3) (C.w hw4) hR.1 (by have := hR.2; omega) hcs.1 hcs.2 d (k H locs ls hP hS hl)
theorem V_mminl {index : Nat} {x y : Int64} (C : Cx p s m args meth c Γ cc nL own) (hw1 : Jvm.Cond.methodLink own index Lib.MathLoose.min_long.x ∈ oWS) (hw2 : Jvm.Cond.static Lib.MathLoose.min_long.x ∈ oWS) (hw3 : Jvm.Cond.initialized "java/lang/Math" ∈ oWS) (hw4 : Jvm.Cond.code Lib.MathLoose.min_long.x Lib.MathLoose.min_long.code 4 (some .long) ∈ oWS) (hR : 1 ≤ R.frames ∧ 40 ≤ R.locals) (hrest : (rest.map fun v => v.category).sum ≤ 8) (hcs : cells ≤ R.cells ∧ slots ≤ R.slots) (d : Dc cc pc (.invokestatic index) 3 nx) (k : Vv p l e R s m args below meth c Q Γ nL cells slots ad cn S nx lv (.long (if y < x then y else x) :: rest)) : Vv p l e R s m args below meth c Q Γ nL cells slots ad cn S pc lv (.long y :: .long x :: rest) := by
  obtain ⟨d, rfl⟩ := d
  intro H locs ls hP hS hl
  exact va_mmin_long C.x C.b (by rw [C.n]; exact hl.1.symm) C.o (C.w hw1) (C.w hw2) (C.w hw3) (C.w hw4) hR.1 (by have := hR.2; omega) hcs.1 hcs.2 d (k H locs ls hP hS hl)
end OV2
section OV3
variable {p : Program} {l : Launch} {e : Env} {R : Room} {s : State} {m : MethodId} {args : Array Value} {below : List Frame} {meth : Method} {c : Code} {Q : State → Prop} {Γ : oGm} {nL cells slots : Nat} {ad : oAd} {cn : Nat → Nat} {S : oSt} {cc : ByteArray} {own : String} {pc nx : Nat} {lv : List (Nat × Value)} {rest : List Value}
theorem ogood {xs : List Jvm.Cond} (h : ∀ w ∈ xs, w ∈ oWS) : GoodIn oWS xs := fun w hw => ⟨h w hw, oWS_good w (h w hw)⟩
def oD (y : MethodName) (n : Nat) : Prop := y.cls ≠ "java/lang/invoke/MethodHandle" ∧ y.cls ≠ "java/lang/invoke/VarHandle" ∧ (parseMethodDescriptor y.desc).map (fun d => d.parameters.length) = some n
def Ks (own : String) (index : Nat) (y : MethodName) (bytes : ByteArray) (maxL : Nat) (ret : Option FieldType) (n : Nat) : Prop := Jvm.Cond.methodLink own index y ∈ oWS ∧ Jvm.Cond.static y ∈ oWS ∧ Jvm.Cond.initialized y.cls ∈ oWS ∧ Jvm.Cond.code y bytes maxL ret ∈ oWS ∧ oD y n
def Kv (own : String) (index ci : Nat) (y : MethodName) (bytes : ByteArray) (maxL : Nat) (ret : Option FieldType) (n : Nat) : Prop := Jvm.Cond.methodLink own index y ∈ oWS ∧ Jvm.Cond.instanceMethod y ∈ oWS ∧ Jvm.Cond.selects y.cls y y ∈ oWS ∧ Jvm.Cond.initialized y.cls ∈ oWS ∧ Jvm.Cond.code y bytes maxL ret ∈ oWS ∧ oD y n ∧ ∃ (T : u_T) (N : Nat), vwCl[ci]? = some (y.cls, T, N)
def Ki (own : String) (index : Nat) (y : MethodName) (bytes : ByteArray) (maxL : Nat) (n : Nat) : Prop := Jvm.Cond.methodLink own index y ∈ oWS ∧ Jvm.Cond.instanceMethod y ∈ oWS ∧ Jvm.Cond.initialized y.cls ∈ oWS ∧ Jvm.Cond.code y bytes maxL none ∈ oWS ∧ oD y n ∧ y.name = "<init>"
def Kvn (own : String) (index ci : Nat) (host : String) (y : MethodName) (bytes : ByteArray) (maxL : Nat) (ret : Option FieldType) (n : Nat) : Prop := Jvm.Cond.methodLinkNest own index y host ∈ oNW ∧ Jvm.Cond.instanceMethod y ∈ oWS ∧ Jvm.Cond.selects y.cls y y ∈ oWS ∧ Jvm.Cond.initialized y.cls ∈ oWS ∧ Jvm.Cond.code y bytes maxL ret ∈ oWS ∧ oD y n ∧ ∃ (T : u_T) (N : Nat), vwCl[ci]? = some (y.cls, T, N)
def Ksn (own : String) (index : Nat) (host : String) (y : MethodName) (bytes : ByteArray) (maxL : Nat) (ret : Option FieldType) (n : Nat) : Prop := Jvm.Cond.methodLinkNest own index y host ∈ oNW ∧ Jvm.Cond.static y ∈ oWS ∧ Jvm.Cond.initialized y.cls ∈ oWS ∧ Jvm.Cond.code y bytes maxL ret ∈ oWS ∧ oD y n
def Kin (own : String) (index : Nat) (host : String) (y : MethodName) (bytes : ByteArray) (maxL : Nat) (n : Nat) : Prop := Jvm.Cond.methodLinkNest own index y host ∈ oNW ∧ Jvm.Cond.instanceMethod y ∈ oWS ∧ Jvm.Cond.initialized y.cls ∈ oWS ∧ Jvm.Cond.code y bytes maxL none ∈ oWS ∧ oD y n ∧ y.name = "<init>"
theorem oC_in {y : MethodName} {bytes : ByteArray} {maxL : Nat} {ret : Option FieldType} (h : Jvm.Cond.code y bytes maxL ret ∈ oWS) : GoodIn oWS (Jvm.Cond.code y bytes maxL ret :: oWS) := by
  refine ogood ?_
  intro w hw
  rcases List.mem_cons.mp hw with h1 | h1
  · subst h1; exact h
  · exact h1
theorem oS_in {own : String} {index : Nat} {y : MethodName} {bytes : ByteArray} {maxL n : Nat} {ret : Option FieldType} (K : Ks own index y bytes maxL ret n) : GoodIn oWS (va_wsS own index y (Jvm.Cond.code y bytes maxL ret :: oWS)) := by
  refine ogood ?_
  intro w hw
  rcases List.mem_append.mp hw with h1 | h1
  · simp only [List.mem_cons, List.not_mem_nil, or_false] at h1
    rcases h1 with h1 | h1 | h1 <;> subst h1
    · exact K.1
    · exact K.2.1
    · exact K.2.2.1
  · exact (oC_in K.2.2.2.1 w h1).1
theorem oV_in {own : String} {index ci : Nat} {y : MethodName} {bytes : ByteArray} {maxL n : Nat} {ret : Option FieldType} (K : Kv own index ci y bytes maxL ret n) : GoodIn oWS (wsV own index y.cls y (Jvm.Cond.code y bytes maxL ret :: oWS)) := by
  refine ogood ?_
  intro w hw
  rcases List.mem_append.mp hw with h1 | h1
  · simp only [List.mem_cons, List.not_mem_nil, or_false] at h1
    rcases h1 with h1 | h1 | h1 | h1 <;> subst h1
    · exact K.1
    · exact K.2.1
    · exact K.2.2.1
    · exact K.2.2.2.1
  · exact (oC_in K.2.2.2.2.1 w h1).1
theorem V_cS {ρ : Type} {val : ρ → Option Value} {post : ρ → oSt → Prop} {y : MethodName} {bytes : ByteArray} {maxL n index : Nat} {ret : Option FieldType} {rm : Room} {As st0 : List Value}  (C : Cx p s m args meth c Γ cc nL own) (K : Ks own index y bytes maxL ret n)  (hM : Met l y (.code y bytes maxL ret :: oWS) rm (va_Pc As (oW Γ ad cn S)) (oQ Γ ad cn val post) 0 0 (oF Γ)) (hrm : rm.cells = 0 ∧ rm.slots = 0) (hR : rm.frames + 1 ≤ R.frames ∧ 8 + (maxL + 11) + rm.locals ≤ R.locals) (hcs : cells ≤ R.cells ∧ slots ≤ R.slots) (hn : As.length = n) (hst : As.reverse ++ rest = st0) (hrest : (rest.map fun v => v.category).sum ≤ 8) (d : Dc cc pc (.invokestatic index) 3 nx)
    (kk : ∀ (r : ρ) (S1 : oSt), post r S1 → Vv p l e R s m args below meth c Q Γ nL cells slots ad cn S1 nx lv ((val r).toList ++ rest)) : Vv p l e R s m args below meth c Q Γ nL cells slots ad cn S pc lv st0 := by
  exact V_runW (fun H locs ls hP hS hl => va_runS C.1 hM (va_cwS n C.1.2.2.2.2 (oS_in K) rfl hrm.1 hrm.2 K.2.2.2.2 hR) (opre C hP hS) rfl hn hl.1 hst.symm (lv_room hrest) d.1 hcs) d.2 kk
theorem V_cSn {ρ : Type} {mc ms : Nat} {val : oAd → ρ → Option Value} {post : ρ → (Nat → Nat) → oSt → Prop} {y : MethodName} {bytes : ByteArray} {maxL n index : Nat} {ret : Option FieldType} {rm : Room} {As st0 : List Value}  (C : Cx p s m args meth c Γ cc nL own) (lvf : oAd → List (Nat × Value)) (restf : oAd → List Value) (hlv : lvf ad = lv) (hre : restf ad = rest) (hl2 : ∀ ad2, oX cn ad ad2 → lvf ad2 = lvf ad ∧ restf ad2 = restf ad) (K : Ks own index y bytes maxL ret n)  (hM : Met l y (.code y bytes maxL ret :: oWS) rm (va_Pc As (oW Γ ad cn S)) (oQn Γ ad cn val post) mc ms (oF Γ)) (hrm : rm.cells = mc ∧ rm.slots = ms) (hR : rm.frames + 1 ≤ R.frames ∧ 8 + (maxL + 11) + rm.locals ≤ R.locals) (hcs : cells + mc ≤ R.cells ∧ slots + ms ≤ R.slots) (hn : As.length = n) (hst : As.reverse ++ rest = st0) (hrest : (rest.map fun v => v.category).sum ≤ 8) (d : Dc cc pc (.invokestatic index) 3 nx)
    (kk : ∀ (r : ρ) (ad2 : oAd) (cn2 : Nat → Nat) (S1 : oSt), oX cn ad ad2 → (∀ k, cn k ≤ cn2 k) → post r cn2 S1 → Vv p l e R s m args below meth c Q Γ nL (cells + mc) (slots + ms) ad2 cn2 S1 nx (lvf ad2) ((val ad2 r).toList ++ restf ad2)) : Vv p l e R s m args below meth c Q Γ nL cells slots ad cn S pc lv st0 := by
  exact V_runWn lvf restf hlv hre hl2 (fun H locs ls hP hS hl => va_runS C.1 hM (va_cwS n C.1.2.2.2.2 (oS_in K) rfl hrm.1 hrm.2 K.2.2.2.2 hR) (opre C hP hS) rfl hn hl.1 hst.symm (lv_room hrest) d.1 hcs) d.2 kk
theorem V_cV {ρ : Type} {val : ρ → Option Value} {post : ρ → oSt → Prop} {y : MethodName} {bytes : ByteArray} {maxL n index : Nat} {ret : Option FieldType} {rm : Room} {As st0 : List Value} {k i ci : Nat} {fs : List Value} (C : Cx p s m args meth c Γ cc nL own) (K : Kv own index ci y bytes maxL ret n) (hk : i < cn k) (hsh : osh Γ.2.1 k (S.1 k i) (S.2.1 k i) (ores ad k (S.2.2 k i)) = .inr (ci, fs)) (hM : Met l y (.code y bytes maxL ret :: oWS) rm (va_Pc (.ref (ad k i) :: As) (oW Γ ad cn S)) (oQ Γ ad cn val post) 0 0 (oF Γ)) (hrm : rm.cells = 0 ∧ rm.slots = 0) (hR : rm.frames + 1 ≤ R.frames ∧ 8 + (maxL + 11) + rm.locals ≤ R.locals) (hcs : cells ≤ R.cells ∧ slots ≤ R.slots) (hn : As.length = n) (hst : As.reverse ++ .ref (ad k i) :: rest = st0) (hrest : (rest.map fun v => v.category).sum ≤ 8) (d : Dc cc pc (.invokevirtual index) 3 nx)
    (kk : ∀ (r : ρ) (S1 : oSt), post r S1 → Vv p l e R s m args below meth c Q Γ nL cells slots ad cn S1 nx lv ((val r).toList ++ rest)) : Vv p l e R s m args below meth c Q Γ nL cells slots ad cn S pc lv st0 := by
  exact V_runW (fun H locs ls hP hS hl => va_runV (C := y.cls) C.1 hM (cwV n C.1.2.2.2.2 (oV_in K) rfl hrm.1 hrm.2 ⟨rfl, K.2.2.2.2.2.1⟩ hR) (by obtain ⟨T, N, hc⟩ := K.2.2.2.2.2.2; exact oprev C hk hsh hc hP hS) rfl hn hl.1 hst.symm (lv_room hrest) d.1 hcs) d.2 kk
theorem V_cVn {ρ : Type} {mc ms : Nat} {val : oAd → ρ → Option Value} {post : ρ → (Nat → Nat) → oSt → Prop} {y : MethodName} {bytes : ByteArray} {maxL n index : Nat} {ret : Option FieldType} {rm : Room} {As st0 : List Value} {k i ci : Nat} {fs : List Value} (C : Cx p s m args meth c Γ cc nL own) (lvf : oAd → List (Nat × Value)) (restf : oAd → List Value) (hlv : lvf ad = lv) (hre : restf ad = rest) (hl2 : ∀ ad2, oX cn ad ad2 → lvf ad2 = lvf ad ∧ restf ad2 = restf ad) (K : Kv own index ci y bytes maxL ret n) (hk : i < cn k) (hsh : osh Γ.2.1 k (S.1 k i) (S.2.1 k i) (ores ad k (S.2.2 k i)) = .inr (ci, fs)) (hM : Met l y (.code y bytes maxL ret :: oWS) rm (va_Pc (.ref (ad k i) :: As) (oW Γ ad cn S)) (oQn Γ ad cn val post) mc ms (oF Γ)) (hrm : rm.cells = mc ∧ rm.slots = ms) (hR : rm.frames + 1 ≤ R.frames ∧ 8 + (maxL + 11) + rm.locals ≤ R.locals) (hcs : cells + mc ≤ R.cells ∧ slots + ms ≤ R.slots) (hn : As.length = n) (hst : As.reverse ++ .ref (ad k i) :: rest = st0) (hrest : (rest.map fun v => v.category).sum ≤ 8) (d : Dc cc pc (.invokevirtual index) 3 nx)
    (kk : ∀ (r : ρ) (ad2 : oAd) (cn2 : Nat → Nat) (S1 : oSt), oX cn ad ad2 → (∀ k, cn k ≤ cn2 k) → post r cn2 S1 → Vv p l e R s m args below meth c Q Γ nL (cells + mc) (slots + ms) ad2 cn2 S1 nx (lvf ad2) ((val ad2 r).toList ++ restf ad2)) : Vv p l e R s m args below meth c Q Γ nL cells slots ad cn S pc lv st0 := by
  exact V_runWn lvf restf hlv hre hl2 (fun H locs ls hP hS hl => va_runV (C := y.cls) C.1 hM (cwV n C.1.2.2.2.2 (oV_in K) rfl hrm.1 hrm.2 ⟨rfl, K.2.2.2.2.2.1⟩ hR) (by obtain ⟨T, N, hc⟩ := K.2.2.2.2.2.2; exact oprev C hk hsh hc hP hS) rfl hn hl.1 hst.symm (lv_room hrest) d.1 hcs) d.2 kk
theorem V_cI {ρ : Type} {val : ρ → Option Value} {post : ρ → oSt → Prop} {y : MethodName} {bytes : ByteArray} {maxL n index : Nat}  {rm : Room} {As st0 : List Value} {b : Nat} (C : Cx p s m args meth c Γ cc nL own) (K : Ki own index y bytes maxL n)  (hM : Met l y (.code y bytes maxL none :: oWS) rm (va_Pc (.ref b :: As) (oW Γ ad cn S)) (oQ Γ ad cn val post) 0 0 (oF Γ)) (hrm : rm.cells = 0 ∧ rm.slots = 0) (hR : rm.frames + 1 ≤ R.frames ∧ 8 + (maxL + 11) + rm.locals ≤ R.locals) (hcs : cells ≤ R.cells ∧ slots ≤ R.slots) (hn : As.length = n) (hst : As.reverse ++ .ref b :: rest = st0) (hrest : (rest.map fun v => v.category).sum ≤ 8) (d : Dc cc pc (.invokespecial index) 3 nx)
    (kk : ∀ (r : ρ) (S1 : oSt), post r S1 → Vv p l e R s m args below meth c Q Γ nL cells slots ad cn S1 nx lv ((val r).toList ++ rest)) : Vv p l e R s m args below meth c Q Γ nL cells slots ad cn S pc lv st0 := by
  exact V_runW (fun H locs ls hP hS hl => va_runI C.1 hM (cwI n C.1.2.2.2.2 (oC_in K.2.2.2.1) rfl hrm.1 hrm.2 (C.w K.2.2.1) (C.w K.1) (C.w K.2.1) K.2.2.2.2.2 K.2.2.2.2.1 hR) (opre C hP hS) rfl hn hl.1 hst.symm (lv_room hrest) d.1 hcs) d.2 kk
theorem V_cIn {ρ : Type} {mc ms : Nat} {val : oAd → ρ → Option Value} {post : ρ → (Nat → Nat) → oSt → Prop} {y : MethodName} {bytes : ByteArray} {maxL n index : Nat}  {rm : Room} {As st0 : List Value} {b : Nat} (C : Cx p s m args meth c Γ cc nL own) (lvf : oAd → List (Nat × Value)) (restf : oAd → List Value) (hlv : lvf ad = lv) (hre : restf ad = rest) (hl2 : ∀ ad2, oX cn ad ad2 → lvf ad2 = lvf ad ∧ restf ad2 = restf ad) (K : Ki own index y bytes maxL n)  (hM : Met l y (.code y bytes maxL none :: oWS) rm (va_Pc (.ref b :: As) (oW Γ ad cn S)) (oQn Γ ad cn val post) mc ms (oF Γ)) (hrm : rm.cells = mc ∧ rm.slots = ms) (hR : rm.frames + 1 ≤ R.frames ∧ 8 + (maxL + 11) + rm.locals ≤ R.locals) (hcs : cells + mc ≤ R.cells ∧ slots + ms ≤ R.slots) (hn : As.length = n) (hst : As.reverse ++ .ref b :: rest = st0) (hrest : (rest.map fun v => v.category).sum ≤ 8) (d : Dc cc pc (.invokespecial index) 3 nx)
    (kk : ∀ (r : ρ) (ad2 : oAd) (cn2 : Nat → Nat) (S1 : oSt), oX cn ad ad2 → (∀ k, cn k ≤ cn2 k) → post r cn2 S1 → Vv p l e R s m args below meth c Q Γ nL (cells + mc) (slots + ms) ad2 cn2 S1 nx (lvf ad2) ((val ad2 r).toList ++ restf ad2)) : Vv p l e R s m args below meth c Q Γ nL cells slots ad cn S pc lv st0 := by
  exact V_runWn lvf restf hlv hre hl2 (fun H locs ls hP hS hl => va_runI C.1 hM (cwI n C.1.2.2.2.2 (oC_in K.2.2.2.1) rfl hrm.1 hrm.2 (C.w K.2.2.1) (C.w K.1) (C.w K.2.1) K.2.2.2.2.2 K.2.2.2.2.1 hR) (opre C hP hS) rfl hn hl.1 hst.symm (lv_room hrest) d.1 hcs) d.2 kk
theorem V_cVN {ρ : Type} {val : ρ → Option Value} {post : ρ → oSt → Prop} {y : MethodName} {bytes : ByteArray} {maxL n index : Nat} {ret : Option FieldType} {rm : Room} {As st0 : List Value} {k i ci : Nat} {host : String} {fs : List Value} (C : Cx p s m args meth c Γ cc nL own) (K : Kvn own index ci host y bytes maxL ret n) (hk : i < cn k) (hsh : osh Γ.2.1 k (S.1 k i) (S.2.1 k i) (ores ad k (S.2.2 k i)) = .inr (ci, fs)) (hM : Met l y (.code y bytes maxL ret :: oWS) rm (va_Pc (.ref (ad k i) :: As) (oW Γ ad cn S)) (oQ Γ ad cn val post) 0 0 (oF Γ)) (hrm : rm.cells = 0 ∧ rm.slots = 0) (hR : rm.frames + 1 ≤ R.frames ∧ 8 + (maxL + 11) + rm.locals ≤ R.locals) (hcs : cells ≤ R.cells ∧ slots ≤ R.slots) (hn : As.length = n) (hst : As.reverse ++ .ref (ad k i) :: rest = st0) (hrest : (rest.map fun v => v.category).sum ≤ 8) (d : Dc cc pc (.invokevirtual index) 3 nx)
    (kk : ∀ (r : ρ) (S1 : oSt), post r S1 → Vv p l e R s m args below meth c Q Γ nL cells slots ad cn S1 nx lv ((val r).toList ++ rest)) : Vv p l e R s m args below meth c Q Γ nL cells slots ad cn S pc lv st0 := by
  exact V_runW (fun H locs ls hP hS hl => va_runVN (C := y.cls) C.1 hM ⟨va_cnB n C.1.2.2.2.2 (oC_in K.2.2.2.2.1) rfl hrm.1 hrm.2 (C.nw K.1) (C.w K.2.2.2.1) K.2.2.2.2.2.1 hR, C.w K.2.1, C.w K.2.2.1⟩ (by obtain ⟨T, N, hc⟩ := K.2.2.2.2.2.2; exact oprev C hk hsh hc hP hS) rfl hn hl.1 hst.symm (lv_room hrest) d.1 hcs) d.2 kk
theorem V_cVNn {ρ : Type} {mc ms : Nat} {val : oAd → ρ → Option Value} {post : ρ → (Nat → Nat) → oSt → Prop} {y : MethodName} {bytes : ByteArray} {maxL n index : Nat} {ret : Option FieldType} {rm : Room} {As st0 : List Value} {k i ci : Nat} {host : String} {fs : List Value} (C : Cx p s m args meth c Γ cc nL own) (lvf : oAd → List (Nat × Value)) (restf : oAd → List Value) (hlv : lvf ad = lv) (hre : restf ad = rest) (hl2 : ∀ ad2, oX cn ad ad2 → lvf ad2 = lvf ad ∧ restf ad2 = restf ad) (K : Kvn own index ci host y bytes maxL ret n) (hk : i < cn k) (hsh : osh Γ.2.1 k (S.1 k i) (S.2.1 k i) (ores ad k (S.2.2 k i)) = .inr (ci, fs)) (hM : Met l y (.code y bytes maxL ret :: oWS) rm (va_Pc (.ref (ad k i) :: As) (oW Γ ad cn S)) (oQn Γ ad cn val post) mc ms (oF Γ)) (hrm : rm.cells = mc ∧ rm.slots = ms) (hR : rm.frames + 1 ≤ R.frames ∧ 8 + (maxL + 11) + rm.locals ≤ R.locals) (hcs : cells + mc ≤ R.cells ∧ slots + ms ≤ R.slots) (hn : As.length = n) (hst : As.reverse ++ .ref (ad k i) :: rest = st0) (hrest : (rest.map fun v => v.category).sum ≤ 8) (d : Dc cc pc (.invokevirtual index) 3 nx)
    (kk : ∀ (r : ρ) (ad2 : oAd) (cn2 : Nat → Nat) (S1 : oSt), oX cn ad ad2 → (∀ k, cn k ≤ cn2 k) → post r cn2 S1 → Vv p l e R s m args below meth c Q Γ nL (cells + mc) (slots + ms) ad2 cn2 S1 nx (lvf ad2) ((val ad2 r).toList ++ restf ad2)) : Vv p l e R s m args below meth c Q Γ nL cells slots ad cn S pc lv st0 := by
  exact V_runWn lvf restf hlv hre hl2 (fun H locs ls hP hS hl => va_runVN (C := y.cls) C.1 hM ⟨va_cnB n C.1.2.2.2.2 (oC_in K.2.2.2.2.1) rfl hrm.1 hrm.2 (C.nw K.1) (C.w K.2.2.2.1) K.2.2.2.2.2.1 hR, C.w K.2.1, C.w K.2.2.1⟩ (by obtain ⟨T, N, hc⟩ := K.2.2.2.2.2.2; exact oprev C hk hsh hc hP hS) rfl hn hl.1 hst.symm (lv_room hrest) d.1 hcs) d.2 kk
theorem V_cSN {ρ : Type} {val : ρ → Option Value} {post : ρ → oSt → Prop} {y : MethodName} {bytes : ByteArray} {maxL n index : Nat} {ret : Option FieldType} {rm : Room} {As st0 : List Value} {host : String} (C : Cx p s m args meth c Γ cc nL own) (K : Ksn own index host y bytes maxL ret n)  (hM : Met l y (.code y bytes maxL ret :: oWS) rm (va_Pc As (oW Γ ad cn S)) (oQ Γ ad cn val post) 0 0 (oF Γ)) (hrm : rm.cells = 0 ∧ rm.slots = 0) (hR : rm.frames + 1 ≤ R.frames ∧ 8 + (maxL + 11) + rm.locals ≤ R.locals) (hcs : cells ≤ R.cells ∧ slots ≤ R.slots) (hn : As.length = n) (hst : As.reverse ++ rest = st0) (hrest : (rest.map fun v => v.category).sum ≤ 8) (d : Dc cc pc (.invokestatic index) 3 nx)
    (kk : ∀ (r : ρ) (S1 : oSt), post r S1 → Vv p l e R s m args below meth c Q Γ nL cells slots ad cn S1 nx lv ((val r).toList ++ rest)) : Vv p l e R s m args below meth c Q Γ nL cells slots ad cn S pc lv st0 := by
  exact V_runW (fun H locs ls hP hS hl => va_runSN C.1 hM ⟨va_cnB n C.1.2.2.2.2 (oC_in K.2.2.2.1) rfl hrm.1 hrm.2 (C.nw K.1) (C.w K.2.2.1) K.2.2.2.2 hR, C.w K.2.1, trivial⟩ (opre C hP hS) rfl hn hl.1 hst.symm (lv_room hrest) d.1 hcs) d.2 kk
theorem V_cSNn {ρ : Type} {mc ms : Nat} {val : oAd → ρ → Option Value} {post : ρ → (Nat → Nat) → oSt → Prop} {y : MethodName} {bytes : ByteArray} {maxL n index : Nat} {ret : Option FieldType} {rm : Room} {As st0 : List Value} {host : String} (C : Cx p s m args meth c Γ cc nL own) (lvf : oAd → List (Nat × Value)) (restf : oAd → List Value) (hlv : lvf ad = lv) (hre : restf ad = rest) (hl2 : ∀ ad2, oX cn ad ad2 → lvf ad2 = lvf ad ∧ restf ad2 = restf ad) (K : Ksn own index host y bytes maxL ret n)  (hM : Met l y (.code y bytes maxL ret :: oWS) rm (va_Pc As (oW Γ ad cn S)) (oQn Γ ad cn val post) mc ms (oF Γ)) (hrm : rm.cells = mc ∧ rm.slots = ms) (hR : rm.frames + 1 ≤ R.frames ∧ 8 + (maxL + 11) + rm.locals ≤ R.locals) (hcs : cells + mc ≤ R.cells ∧ slots + ms ≤ R.slots) (hn : As.length = n) (hst : As.reverse ++ rest = st0) (hrest : (rest.map fun v => v.category).sum ≤ 8) (d : Dc cc pc (.invokestatic index) 3 nx)
    (kk : ∀ (r : ρ) (ad2 : oAd) (cn2 : Nat → Nat) (S1 : oSt), oX cn ad ad2 → (∀ k, cn k ≤ cn2 k) → post r cn2 S1 → Vv p l e R s m args below meth c Q Γ nL (cells + mc) (slots + ms) ad2 cn2 S1 nx (lvf ad2) ((val ad2 r).toList ++ restf ad2)) : Vv p l e R s m args below meth c Q Γ nL cells slots ad cn S pc lv st0 := by
  exact V_runWn lvf restf hlv hre hl2 (fun H locs ls hP hS hl => va_runSN C.1 hM ⟨va_cnB n C.1.2.2.2.2 (oC_in K.2.2.2.1) rfl hrm.1 hrm.2 (C.nw K.1) (C.w K.2.2.1) K.2.2.2.2 hR, C.w K.2.1, trivial⟩ (opre C hP hS) rfl hn hl.1 hst.symm (lv_room hrest) d.1 hcs) d.2 kk
theorem V_cIN {ρ : Type} {val : ρ → Option Value} {post : ρ → oSt → Prop} {y : MethodName} {bytes : ByteArray} {maxL n index : Nat}  {rm : Room} {As st0 : List Value} {b : Nat} {host : String} (C : Cx p s m args meth c Γ cc nL own) (K : Kin own index host y bytes maxL n)  (hM : Met l y (.code y bytes maxL none :: oWS) rm (va_Pc (.ref b :: As) (oW Γ ad cn S)) (oQ Γ ad cn val post) 0 0 (oF Γ)) (hrm : rm.cells = 0 ∧ rm.slots = 0) (hR : rm.frames + 1 ≤ R.frames ∧ 8 + (maxL + 11) + rm.locals ≤ R.locals) (hcs : cells ≤ R.cells ∧ slots ≤ R.slots) (hn : As.length = n) (hst : As.reverse ++ .ref b :: rest = st0) (hrest : (rest.map fun v => v.category).sum ≤ 8) (d : Dc cc pc (.invokespecial index) 3 nx)
    (kk : ∀ (r : ρ) (S1 : oSt), post r S1 → Vv p l e R s m args below meth c Q Γ nL cells slots ad cn S1 nx lv ((val r).toList ++ rest)) : Vv p l e R s m args below meth c Q Γ nL cells slots ad cn S pc lv st0 := by
  exact V_runW (fun H locs ls hP hS hl => va_runIN C.1 hM ⟨va_cnB n C.1.2.2.2.2 (oC_in K.2.2.2.1) rfl hrm.1 hrm.2 (C.nw K.1) (C.w K.2.2.1) K.2.2.2.2.1 hR, K.2.2.2.2.2, C.w K.2.1⟩ (opre C hP hS) rfl hn hl.1 hst.symm (lv_room hrest) d.1 hcs) d.2 kk
theorem V_cINn {ρ : Type} {mc ms : Nat} {val : oAd → ρ → Option Value} {post : ρ → (Nat → Nat) → oSt → Prop} {y : MethodName} {bytes : ByteArray} {maxL n index : Nat}  {rm : Room} {As st0 : List Value} {b : Nat} {host : String} (C : Cx p s m args meth c Γ cc nL own) (lvf : oAd → List (Nat × Value)) (restf : oAd → List Value) (hlv : lvf ad = lv) (hre : restf ad = rest) (hl2 : ∀ ad2, oX cn ad ad2 → lvf ad2 = lvf ad ∧ restf ad2 = restf ad) (K : Kin own index host y bytes maxL n)  (hM : Met l y (.code y bytes maxL none :: oWS) rm (va_Pc (.ref b :: As) (oW Γ ad cn S)) (oQn Γ ad cn val post) mc ms (oF Γ)) (hrm : rm.cells = mc ∧ rm.slots = ms) (hR : rm.frames + 1 ≤ R.frames ∧ 8 + (maxL + 11) + rm.locals ≤ R.locals) (hcs : cells + mc ≤ R.cells ∧ slots + ms ≤ R.slots) (hn : As.length = n) (hst : As.reverse ++ .ref b :: rest = st0) (hrest : (rest.map fun v => v.category).sum ≤ 8) (d : Dc cc pc (.invokespecial index) 3 nx)
    (kk : ∀ (r : ρ) (ad2 : oAd) (cn2 : Nat → Nat) (S1 : oSt), oX cn ad ad2 → (∀ k, cn k ≤ cn2 k) → post r cn2 S1 → Vv p l e R s m args below meth c Q Γ nL (cells + mc) (slots + ms) ad2 cn2 S1 nx (lvf ad2) ((val ad2 r).toList ++ restf ad2)) : Vv p l e R s m args below meth c Q Γ nL cells slots ad cn S pc lv st0 := by
  exact V_runWn lvf restf hlv hre hl2 (fun H locs ls hP hS hl => va_runIN C.1 hM ⟨va_cnB n C.1.2.2.2.2 (oC_in K.2.2.2.1) rfl hrm.1 hrm.2 (C.nw K.1) (C.w K.2.2.1) K.2.2.2.2.1 hR, K.2.2.2.2.2, C.w K.2.1⟩ (opre C hP hS) rfl hn hl.1 hst.symm (lv_room hrest) d.1 hcs) d.2 kk
end OV3
section OV4
variable {p : Program} {l : Launch} {e : Env} {R : Room} {s : State} {m : MethodId} {args : Array Value} {below : List Frame} {meth : Method} {c : Code} {Q : State → Prop} {Γ : oGm} {nL cells slots : Nat} {ad : oAd} {cn : Nat → Nat} {S : oSt} {cc : ByteArray} {own : String} {pc nx : Nat} {lv : List (Nat × Value)} {rest : List Value}
theorem V_pc {pc2 : Nat} {st : List Value} (h : pc = pc2) (k : Vv p l e R s m args below meth c Q Γ nL cells slots ad cn S pc2 lv st) : Vv p l e R s m args below meth c Q Γ nL cells slots ad cn S pc lv st := by subst h; exact k
theorem V_swt {x : Int32} {dflt hi : Int} {offs : Array Int} {len td : Nat} (C : Cx p s m args meth c Γ cc nL own) (N : Nat) (tgt : Nat → Nat) (hN : N < 2 ^ 31) (hhi : hi + 1 = (N : Int)) (d : decode cc pc = .ok (.tableswitch dflt 0 hi offs, len)) (ht : ∀ n, n < N → ∃ off : Int, offs[n]? = some off ∧ (pc : Int) + off = (tgt n : Int)) (hd : (pc : Int) + dflt = (td : Int))
    (k : ∀ n, n < N → x = nI n → Vv p l e R s m args below meth c Q Γ nL cells slots ad cn S (tgt n) lv rest) (kd : (x < 0 ∨ nI N ≤ x) → Vv p l e R s m args below meth c Q Γ nL cells slots ad cn S td lv rest) : Vv p l e R s m args below meth c Q Γ nL cells slots ad cn S pc lv (.int x :: rest) := by
  by_cases h1 : x < 0
  · exact V_tableOut C d (Or.inl (by have := Int32.lt_iff_toInt_lt.mp h1; simpa using this)) hd (kd (Or.inl h1))
  · by_cases h2 : nI N ≤ x
    · refine V_tableOut C d (Or.inr ?_) hd (kd (Or.inr h2))
      have := Int32.le_iff_toInt_le.mp h2
      rw [nI_toInt hN] at this
      omega
    · obtain ⟨j, hj, rfl⟩ := nI_of h1
      have hjN : j < N := by
        refine Nat.not_le.mp fun q => h2 ?_
        exact nI_le q hj
      obtain ⟨off, ho, ht⟩ := ht j hjN
      have ej : (nI j).toInt = (j : Int) := nI_toInt hj
      refine V_tableIn C d (by rw [ej]; omega) (by rw [ej]; omega) (off := off) ?_ ht (k j hjN rfl)
      rw [ej]
      simpa using ho
theorem o_met {y : MethodName} {maxL : Nat} {ret : Option FieldType} {rm : Room} {av : List Value} {Qc : Array Value → State → Outcome → State → Prop} {mc ms : Nat} (hy : plainName y.cls = true) (ho : y.cls = own) (hsl : (lg_sl av).length ≤ maxL) (hlv : lv_args 0 av = lv)
    (body : ∀ (p : Program) (e : Env) (s : State) (m : MethodId) (args : Array Value) (below : List Frame) (meth : Method) (c : Code), Cx p s m args meth c Γ cc maxL own → meth.sig.returnType = ret → meth.name = y.name → Vv p l e rm s m args below meth c (MQ below Qc args s mc ms (oF Γ)) Γ maxL 0 0 ad cn S 0 lv []) : Met l y (.code y cc maxL ret :: oWS) rm (va_Pc av (oW Γ ad cn S)) Qc mc ms (oF Γ) := by
  refine Met.ofW (cc := cc) (maxL := maxL) (ret := ret) hy rfl ?_
  intro p e s m args below meth c s₁ B hml hv
  obtain ⟨rfl, hP, hK, hz⟩ := hv
  have hts := atoms_spec (ws := .code y cc maxL ret :: oWS) B.pre
  have hown : s.vm.findClass y.cls = some m.cls := findClass_of_methodNamed B.named
  subst ho
  have C : Cx p s m av.toArray meth c Γ cc maxL y.cls := ⟨⟨B.exec, B.bytes, hml, hown, fun w hw => hts w (List.mem_cons_of_mem _ hw)⟩, hK, hz, B.notSynchronized⟩
  have hl := lv_entry av (n := maxL) hsl
  rw [hlv] at hl
  rw [lg_entry_eq]
  exact body p e s m _ below meth c C B.returns (name_of_methodNamed B.named B.method).1 s.heap [] _ hP va_S.rf hl
end OV4
