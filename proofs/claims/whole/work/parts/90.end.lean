def oS0 : oSt := (fun _ _ _ => 0, fun _ _ _ => 0, fun _ _ _ => none)
theorem lw_in {w : Jvm.Cond} (i : Nat) (h : lw_tbl[i]? = some w) : w ∈ lw_tbl := List.mem_of_getElem? h
/-- YOUR PART: from the entry, for every script of at most 4098 ints, the law comes to its end with true -/
theorem whole_start {p : Program} {e : Env} {s : State} {m : MethodId} {below : List Frame} {meth : Method} {c : Code} (l : Launch) {b L : Nat} {xs : Nat → Int32} (hL : L ≤ 4098) (C0 : lw_At p s m meth c b L xs) : W p l e room_1 s m #[Value.ref b] below meth c s.heap [] 0 0 (lw_Z below #[Value.ref b] s) (entryFrame m ([Value.ref b] : List Value).toArray 4) := by
  obtain ⟨hx, hb, hr, hml, hown, hts, hX, hbl, hlocks, hgv⟩ := C0
  have hw : ∀ w ∈ oWS, w.before #[Value.ref b] s = true := fun w h => hts w (List.mem_filter.mp h).1
  obtain ⟨c0, i0, k0⟩ := u_known (C := "ValueConnectorModel") (T := T_M) (N := 33) (n := 33) hw uw_M (hw _ (oat 414 (by decide +kernel) rfl))
  obtain ⟨c1, i1, k1⟩ := u_known (C := "ValueConnector") (T := T_X) (N := 11) (n := 11) hw uw_X (hw _ (oat 26 (by decide +kernel) rfl))
  obtain ⟨c2, i2, k2⟩ := u_known (C := "ValueConnector$RouteTable") (T := T_R) (N := 4) (n := 4) hw uw_R (hw _ (oat 36 (by decide +kernel) rfl))
  obtain ⟨c3, i3, k3⟩ := u_known (C := "ValueConnector$Account") (T := T_A) (N := 11) (n := 11) hw uw_A (hw _ (oat 102 (by decide +kernel) rfl))
  obtain ⟨c4, i4, k4⟩ := u_known (C := "ValueConnector$Bucket") (T := T_B) (N := 3) (n := 3) hw uw_B (hw _ (oat 108 (by decide +kernel) rfl))
  obtain ⟨c5, i5, k5⟩ := u_known (C := "ValueConnector$RecentKeys") (T := T_K) (N := 3) (n := 3) hw uw_K (hw _ (oat 129 (by decide +kernel) rfl))
  obtain ⟨c6, i6, k6⟩ := u_known (C := "ValueConnector$Transfer") (T := T_T) (N := 8) (n := 8) hw uw_T (hw _ (oat 280 (by decide +kernel) rfl))
  obtain ⟨a0, ka0, co0, e01, e02, e03⟩ := Cond.arrayClass_spec (type := .int) (hw _ (oat 54 (by decide +kernel) rfl))
  obtain ⟨a1, ka1, co1, e11, e12, e13⟩ := Cond.arrayClass_spec (type := .long) (hw _ (oat 55 (by decide +kernel) rfl))
  have hoA : va_AO oA_ s := hts (Jvm.Cond.arrayOver (Jvm.ClassFile.FieldType.object "ValueConnector$Account")) (lw_in 34 (by decide +kernel))
  have hoT : va_AO oT_ s := hts (Jvm.Cond.arrayOver (Jvm.ClassFile.FieldType.object "ValueConnector$Transfer")) (lw_in 57 (by decide +kernel))
  obtain ⟨co2, a2, ka2, e21, -, e22, e23, e24⟩ := Cond.arrayOver_spec hoA
  obtain ⟨co3, a3, ka3, e31, -, e32, e33, e34⟩ := Cond.arrayOver_spec hoT
  -- the powers
  have hs := flat_of_before _ hgv
  have hA0 : ∀ a : Nat, a < s.heap.size → ¬ (s.heap.size ≤ a) := fun a h z => Nat.lt_irrefl _ (Nat.lt_of_lt_of_le h z)
  have harr : (Cond.arrayOf (.static "ValueConnector" "POWERS_OF_TEN" "[I") .int).before #[Value.ref b] s = true := hs _ (by decide +kernel)
  have hlen := va_eqt (hs (Cond.eq (.length (.static "ValueConnector" "POWERS_OF_TEN" "[I")) (.int 4)) (by decide +kernel))
  have h0 := va_eqt (hs (Cond.eq (.elem (.static "ValueConnector" "POWERS_OF_TEN" "[I") (.int 0)) (.int 1)) (by decide +kernel))
  have h1 := va_eqt (hs (Cond.eq (.elem (.static "ValueConnector" "POWERS_OF_TEN" "[I") (.int 1)) (.int 10)) (by decide +kernel))
  have h2 := va_eqt (hs (Cond.eq (.elem (.static "ValueConnector" "POWERS_OF_TEN" "[I") (.int 2)) (.int 100)) (by decide +kernel))
  have h3 := va_eqt (hs (Cond.eq (.elem (.static "ValueConnector" "POWERS_OF_TEN" "[I") (.int 3)) (.int 1000)) (by decide +kernel))
  obtain ⟨t, ht, hT⟩ := va_Tof (N := 4) (f := fun j => .int (opw j)) (A := fun q => s.heap.size ≤ q) (by decide) harr hlen (fun j hj => by
    have h9 : j = 0 ∨ j = 1 ∨ j = 2 ∨ j = 3 := by omega
    rcases h9 with rfl | rfl | rfl | rfl
    · exact h0
    · exact h1
    · exact h2
    · exact h3) hA0
  have hZ := va_Zref (A := fun q => s.heap.size ≤ q) (hts (Jvm.Cond.laysStatic "ValueConnector" "POWERS_OF_TEN" "[I") (lw_in 206 (by decide +kernel))) (hw _ (oat 17 (by decide +kernel) rfl)) ht hA0
  -- the names
  let Γ : oGm := ((fun k => if k = 0 then c0 else if k = 1 then c1 else if k = 2 then c2 else if k = 3 then c3 else if k = 4 then c4 else if k = 5 then c5 else c6, fun k => if k = 0 then i0 else if k = 1 then i1 else if k = 2 then i2 else if k = 3 then i3 else if k = 4 then i4 else if k = 5 then i5 else i6), (fun k => if k = 0 then a0 else if k = 1 then a1 else if k = 2 then a2 else a3), s.heap.size, (b, L, xs), t)
  have hK : va_K Γ.1 vwCl (oty Γ) s := by
    refine ⟨fun k q hk => ?_, fun k q hk => ?_⟩
    · have hlt : k < 7 := (List.getElem?_eq_some_iff.mp hk).1
      have h9 : k = 0 ∨ k = 1 ∨ k = 2 ∨ k = 3 ∨ k = 4 ∨ k = 5 ∨ k = 6 := by omega
      rcases h9 with rfl | rfl | rfl | rfl | rfl | rfl | rfl
      · cases hk; exact k0
      · cases hk; exact k1
      · cases hk; exact k2
      · cases hk; exact k3
      · cases hk; exact k4
      · cases hk; exact k5
      · cases hk; exact k6
    · have hlt : k < 4 := (List.getElem?_eq_some_iff.mp hk).1
      have h9 : k = 0 ∨ k = 1 ∨ k = 2 ∨ k = 3 := by omega
      rcases h9 with rfl | rfl | rfl | rfl
      · cases hk; exact ⟨fun n z => ⟨fun k h => (by cases h), ka0, e02, co0, e03⟩, e01⟩
      · cases hk; exact ⟨fun n z => ⟨fun k h => (by cases h), ka1, e12, co1, e13⟩, e11⟩
      · cases hk; exact ⟨fun n z => ⟨fun k h => (by cases h), ka2, e22, co2, e23⟩, ka2, co2, e22, e23, e21, e24⟩
      · cases hk; exact ⟨fun n z => ⟨fun k h => (by cases h), ka3, e32, co3, e33⟩, ka3, co3, e32, e33, e31, e34⟩
  have hN : ∀ w ∈ oNW, va_Nw w s := by
    intro w hw9
    simp only [oNW, List.mem_cons, List.not_mem_nil, or_false] at hw9
    rcases hw9 with rfl | rfl | rfl
    · exact va_Nw.of rfl (hts _ (lw_in 37 (by decide +kernel)))
    · exact va_Nw.of rfl (hts _ (lw_in 130 (by decide +kernel)))
    · exact va_Nw.of rfl (hts _ (lw_in 252 (by decide +kernel)))
  have hz : oz Γ s := ⟨hZ, hT, hX, hbl, Nat.le_refl _, hN, hoA, hoT⟩
  have C : Cx p s m #[Value.ref b] meth c Γ code 4 "ValueConnectorLaw" := ⟨⟨hx, hb, hml, hown, hw⟩, hK, hz, hlocks⟩
  have hV := ct_law (l := l) (e := e) (below := below) (ad := fun _ _ => 0) (cn := fun _ => 0) (S := oS0) C (Nat.le_refl _) hr (law_pure hL)
  have hl := lv_entry ([Value.ref b]) (n := 4) (Nat.le_of_ble_eq_true rfl)
  rw [lg_entry_eq]
  exact hV s.heap [] _ ⟨fun k i h => absurd h (Nat.not_lt_zero _), fun k i k' i' h => absurd h (Nat.not_lt_zero _), fun k i h => absurd h (Nat.not_lt_zero _), fun k i f i' h => absurd h (Nat.not_lt_zero _)⟩ va_S.rf hl
set_option maxHeartbeats 4000000 in
theorem lw_walk (l : Launch) (b : Addr) (xs : List Int32) : MetFree l x (headSpec (Jvm.Cond.code x code maxLocals ret :: tables_1) room_1) (lw_P b xs) (fun _ _ _ _ _ => True) lw_Q := by
  refine MetFree.of_bodyS (code := code) (maxLocals := maxLocals) (ret := ret) (by decide) ?_ ?_
  · intro args s m h hn
    obtain ⟨meth, c, h1, h2, h3, h4, h5, h6, -, -⟩ := Cond.code_spec hn (atoms_spec (ws := Jvm.Cond.code x code maxLocals ret :: tables_1) h _ List.mem_cons_self)
    exact ⟨meth, c, h1, h2, h3, h4, h5, h6⟩
  · intro p e s m args below meth c s₁ B hml0 hP _
    obtain ⟨rfl, hx, hbd, hgv⟩ := hP
    obtain ⟨scr, harrAt, hlist, hof, hsmall⟩ := hx
    obtain ⟨hcb, hkn, -, -⟩ := State.arrayAt?_spec harrAt
    have hown : s.vm.findClass R_law = some m.cls := findClass_of_methodNamed B.named
    have hts0 : ∀ c ∈ (Jvm.Cond.code x code maxLocals ret :: tables_1), c.before #[Value.ref b] s = true := atoms_spec (ws := Jvm.Cond.code x code maxLocals ret :: tables_1) B.pre
    have hts : ∀ w ∈ lw_tbl, w.before #[Value.ref b] s = true := k2_hts_sels lw_privs (fun w hw => hts0 w (List.mem_cons_of_mem _ hw)) lw_privs_ok
    have hml : c.maxLocals = 4 := B.maxLocals_eq (hts0 _ List.mem_cons_self)
    have X₀ : Stand p l e room_1 s m #[Value.ref b] below meth c s₁ [] 0 0 := Stand.of_body B
    have hh0 : s₁.heap = s.heap := by rw [B.state]; rfl
    have hsz : scr.slots.size = xs.length := by rw [← Array.length_toList, hlist, List.length_map]
    have hval : ∀ j : Nat, j < xs.length → scr.slots[j]? = some (.int (xs.getD j 0)) := fun j hj => by
      rw [← Array.getElem?_toList, hlist]
      simp [hj]
    have hbl : b < s.heap.size := (Array.getElem?_eq_some_iff.mp hcb).1
    have hX : va_X b xs.length (fun j => xs.getD j 0) s s.heap := ⟨scr, hcb, hof, hkn, hsz, hval⟩
    have K : W p l e room_1 s m #[Value.ref b] below meth c s₁.heap [] 0 0 (lw_Z below #[Value.ref b] s) (entryFrame m ([Value.ref b] : List Value).toArray 4) := by
      rw [hh0]
      exact whole_start l hbd ⟨B.exec, B.bytes, B.returns, hml, hown, hts, hX, hbl, B.notSynchronized, hgv⟩
    obtain ⟨t, a1, o, b1, b2, b3⟩ := K s₁ rfl X₀
    exact ⟨t, o, a1, b1, b2, b3⟩
theorem lw_pre_spec {args : Array Value} {s : State} (h : (Jvm.Cond.and given_1 narrow_1).before args s = true) (hr : rest_1_c.before args s = true) : ∃ (b : Addr) (xs : List Int32), lw_P b xs args s := by
  have hs := flat_of_before _ h
  have hq := flat_of_before _ hr
  have hc : (Cond.count 1).before args s = true := hs _ (by decide +kernel)
  have harr : (Cond.arrayOf (.arg 0) .int).before args s = true := hs _ (by decide +kernel)
  have hle : (Cond.le (.length (.arg 0)) (.int 4098)).before args s = true := hs _ (by decide +kernel)
  have hlen : (Cond.isInt (.length (.arg 0))).before args s = true := hq _ (by decide +kernel)
  have hall : (Cond.all (.arg 0) (.isInt (.elem (.arg 0) (.index 0)))).before args s = true := hq _ (by decide +kernel)
  obtain ⟨b, xs, hb, hx⟩ := State.ints_of_pre rfl harr hlen hall
  have hsm : xs.length < 2 ^ 31 := hx.choose_spec.2.2.2
  have hev : (Term.length (.arg 0)).eval args s none [] s = some (.int xs.length.toInt32) := hx.length_eval hb
  have hv := Cond.le_ints hev (show (Term.int 4098).eval args s none [] s = some (.int 4098) from rfl)
  have hd : xs.length.toInt32 ≤ 4098 := by
    simpa [Cond.before, Cond.holds, hv] using hle
  have hN : xs.length ≤ 4098 := (Int32.ofNat_le_ofNat hsm (by decide)).mp (show Int32.ofNat xs.length ≤ Int32.ofNat 4098 from hd)
  exact ⟨b, xs, Cond.one_arg hc (show args[0]? = some (.ref b) from hb), hx, hN, h⟩
theorem lw_comes (l : Launch) : Comes l x (Jvm.Cond.code x code maxLocals ret :: tables_1) room_1 (fun tb e args s => Calls_1 tb e args s ∧ rest_1 tb e args s ∧ Pre_1 tb e args s)
    (fun _ _ args s o t => lw_Q args s o t) := by
  intro p e ha hc hk s m args below hf hfit hheap happ hpre
  obtain ⟨b, xs, hP⟩ := lw_pre_spec hpre.2.2 hpre.2.1
  obtain ⟨k, o, h1, h2, h3, hQ⟩ := lw_walk l b xs p e ha hc hk s m args below hf ((Spec.applies_iff_loose hf).mp happ).1 hP trivial
  exact ⟨k, o, h1, h2, h3, hQ⟩
theorem lw_frame {s t : State} {o : Outcome} {args : Array Value} (h : Framed s o t [] 600000 7302250) :
    Framed s o t (fieldLocs frame_1_writes args s ++ arrayLocs frame_1_arrays args s ++ staticLocs frame_1_statics s) 600000 7302250 := h
theorem lw_limb (L : Cond) (hL : ∀ (args : Array Value) (s t : State), L.after args s (.returned (some (.int 1))) t = true) :
    ArmFor flags0 classFile x code maxLocals ret World_1 tables_1 room_1 Calls_1 rest_1 Pre_1
      (fun tb e a s o t => postC L tb e a s o t ∧ Framed s o t (fieldLocs frame_1_writes a s ++ arrayLocs frame_1_arrays a s ++ staticLocs frame_1_statics s) 600000 7302250) := by
  intro l _ _ _ p e ha hc hk s m args below hf hfit hheap happ hpre
  obtain ⟨k, o, h1, h2, h3, rfl, hF⟩ := lw_comes l p e ha hc hk s m args below hf hfit hheap happ hpre
  exact ⟨k, _, h1, h2, h3, hL args s _, lw_frame hF⟩
theorem i_vc : Claimed_1_1 ∧ Claimed_1_2 := ⟨lw_limb limb_1_1 (fun args s t => by simp [limb_1_1, Cond.after, Cond.holds, Cond.value]), lw_limb limb_1_2 (fun args s t => Cond.after_iff.mpr (by
  first | (rw [show limb_1_2 = Cond.eq .result (.int 1) from rfl, Cond.eq_ints (x := 1) (y := 1) rfl rfl]; simp; done) | (simp [limb_1_2, Cond.value, Term.eval]; done)))⟩
