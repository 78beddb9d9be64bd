/-! my world: cells by kind and number; what they hold are tables of ints, longs and references (by number) -/
abbrev oSt : Type := (Nat → Nat → Nat → Int32) × (Nat → Nat → Nat → Int64) × (Nat → Nat → Nat → Option Nat)
abbrev oAd : Type := Nat → Nat → Nat
/-- the classes' numbers and slots, the array classes, the first new address, the script (address, length, contents), the address of the powers -/
abbrev oGm : Type := va_G × (Nat → ClassId) × Nat × (Nat × Nat × (Nat → Int32)) × Nat
def oF (Γ : oGm) : Nat → Prop := fun q => Γ.2.2.1 ≤ q
def ores (ad : oAd) (k : Nat) (r : Nat → Option Nat) : Nat → Option Nat := fun f => (r f).map (ad (otk k f))
def ocl (Γ : oGm) (ad : oAd) (S : oSt) (k i : Nat) : va_E := osh Γ.2.1 k (S.1 k i) (S.2.1 k i) (ores ad k (S.2.2 k i))
def oP (Γ : oGm) (ad : oAd) (cn : Nat → Nat) (S : oSt) (H : Heap) : Prop :=
  (∀ k i, i < cn k → va_at Γ.1 vwCl (ad k i, ocl Γ ad S k i) H) ∧
  (∀ k i k' i', i < cn k → i' < cn k' → ad k i = ad k' i' → k = k' ∧ i = i') ∧
  (∀ k i, i < cn k → Γ.2.2.1 ≤ ad k i) ∧
  (∀ k i f i', i < cn k → S.2.2 k i f = some i' → i' < cn (otk k f))
def sI (S : oSt) (k i f : Nat) (v : Int32) : oSt := (fun a b d => if a = k ∧ b = i ∧ d = f then v else S.1 a b d, S.2.1, S.2.2)
def sL (S : oSt) (k i f : Nat) (v : Int64) : oSt := (S.1, fun a b d => if a = k ∧ b = i ∧ d = f then v else S.2.1 a b d, S.2.2)
def sR (S : oSt) (k i f : Nat) (v : Option Nat) : oSt := (S.1, S.2.1, fun a b d => if a = k ∧ b = i ∧ d = f then v else S.2.2 a b d)
/-- a new cell: all its fields stand at their defaults -/
def sN (S : oSt) (k i : Nat) : oSt := (fun a b d => if a = k ∧ b = i then 0 else S.1 a b d, fun a b d => if a = k ∧ b = i then 0 else S.2.1 a b d, fun a b d => if a = k ∧ b = i then none else S.2.2 a b d)
def oup (cn : Nat → Nat) (k : Nat) : Nat → Nat := fun a => if a = k then cn k + 1 else cn a
theorem oup_lt {cn : Nat → Nat} {k a i : Nat} (h : i < cn a) : i < oup cn k a := by
  unfold oup
  split
  · next e => subst e; omega
  · exact h
theorem oup_le {cn : Nat → Nat} {k a : Nat} : cn a ≤ oup cn k a := by
  unfold oup
  split
  · next e => subst e; omega
  · omega
theorem oup_new {cn : Nat → Nat} {k : Nat} : cn k < oup cn k k := by simp [oup]
theorem sI_self {S : oSt} {k i f : Nat} {v : Int32} : (sI S k i f v).1 k i = upd (S.1 k i) f v := by
  funext d; simp [sI, upd]
theorem sI_ne {S : oSt} {k i f a b : Nat} {v : Int32} (h : ¬ (a = k ∧ b = i)) : (sI S k i f v).1 a b = S.1 a b := by
  funext d
  show (if a = k ∧ b = i ∧ d = f then v else S.1 a b d) = _
  rw [if_neg (fun q => h ⟨q.1, q.2.1⟩)]
theorem sL_self {S : oSt} {k i f : Nat} {v : Int64} : (sL S k i f v).2.1 k i = vp_updL (S.2.1 k i) f v := by
  funext d; simp [sL, vp_updL]
theorem sL_ne {S : oSt} {k i f a b : Nat} {v : Int64} (h : ¬ (a = k ∧ b = i)) : (sL S k i f v).2.1 a b = S.2.1 a b := by
  funext d
  show (if a = k ∧ b = i ∧ d = f then v else S.2.1 a b d) = _
  rw [if_neg (fun q => h ⟨q.1, q.2.1⟩)]
theorem sR_self {S : oSt} {k i f : Nat} {v : Option Nat} : (sR S k i f v).2.2 k i = va_up (S.2.2 k i) f v := by
  funext d; simp [sR, va_up]
theorem sR_ne {S : oSt} {k i f a b : Nat} {v : Option Nat} (h : ¬ (a = k ∧ b = i)) : (sR S k i f v).2.2 a b = S.2.2 a b := by
  funext d
  show (if a = k ∧ b = i ∧ d = f then v else S.2.2 a b d) = _
  rw [if_neg (fun q => h ⟨q.1, q.2.1⟩)]
theorem ores_up {ad : oAd} {k f : Nat} {r : Nat → Option Nat} {v : Option Nat} : ores ad k (va_up r f v) = va_up (ores ad k r) f (v.map (ad (otk k f))) := by
  funext d
  by_cases h : d = f
  · subst h; simp [ores, va_up]
  · simp [ores, va_up, h]
/-- one cell has changed -/
theorem oP.set {Γ : oGm} {ad : oAd} {cn : Nat → Nat} {S S' : oSt} {H H1 : Heap} {k i : Nat} (h : oP Γ ad cn S H) (hk : i < cn k)
    (h1 : ∀ a b, ¬ (a = k ∧ b = i) → S'.1 a b = S.1 a b ∧ S'.2.1 a b = S.2.1 a b ∧ S'.2.2 a b = S.2.2 a b)
    (hc : va_at Γ.1 vwCl (ad k i, ocl Γ ad S' k i) H1) (oq : ∀ q : Nat, q ≠ ad k i → H1[q]? = H[q]?)
    (hr : ∀ f i', S'.2.2 k i f = some i' → i' < cn (otk k f)) : oP Γ ad cn S' H1 := by
  refine ⟨fun a b hb => ?_, h.2.1, h.2.2.1, fun a b f i' hb e => ?_⟩
  · by_cases hab : a = k ∧ b = i
    · obtain ⟨rfl, rfl⟩ := hab; exact hc
    · obtain ⟨e1, e2, e3⟩ := h1 a b hab
      have h0 := h.1 a b hb
      unfold ocl
      rw [e1, e2, e3]
      exact va_at.kept h0 (oq _ (fun z => hab (h.2.1 a b k i hb hk z)))
  · by_cases hab : a = k ∧ b = i
    · obtain ⟨rfl, rfl⟩ := hab; exact hr f i' e
    · obtain ⟨e1, e2, e3⟩ := h1 a b hab
      rw [e3] at e
      exact h.2.2.2 a b f i' hb e
theorem oP.setI {Γ : oGm} {ad : oAd} {cn : Nat → Nat} {S : oSt} {H H1 : Heap} {k i f : Nat} {v : Int32} {x : va_E} (h : oP Γ ad cn S H) (hk : i < cn k)
    (hx : osh Γ.2.1 k (upd (S.1 k i) f v) (S.2.1 k i) (ores ad k (S.2.2 k i)) = x) (hc : va_at Γ.1 vwCl (ad k i, x) H1) (oq : ∀ q : Nat, q ≠ ad k i → H1[q]? = H[q]?) : oP Γ ad cn (sI S k i f v) H1 := by
  refine h.set hk (fun a b hab => ⟨sI_ne hab, rfl, rfl⟩) ?_ oq (fun f i' e => h.2.2.2 k i f i' hk e)
  unfold ocl
  rw [sI_self]
  subst hx
  exact hc
theorem oP.setL {Γ : oGm} {ad : oAd} {cn : Nat → Nat} {S : oSt} {H H1 : Heap} {k i f : Nat} {v : Int64} {x : va_E} (h : oP Γ ad cn S H) (hk : i < cn k)
    (hx : osh Γ.2.1 k (S.1 k i) (vp_updL (S.2.1 k i) f v) (ores ad k (S.2.2 k i)) = x) (hc : va_at Γ.1 vwCl (ad k i, x) H1) (oq : ∀ q : Nat, q ≠ ad k i → H1[q]? = H[q]?) : oP Γ ad cn (sL S k i f v) H1 := by
  refine h.set hk (fun a b hab => ⟨rfl, sL_ne hab, rfl⟩) ?_ oq (fun f i' e => h.2.2.2 k i f i' hk e)
  unfold ocl
  rw [sL_self]
  subst hx
  exact hc
theorem oP.setR {Γ : oGm} {ad : oAd} {cn : Nat → Nat} {S : oSt} {H H1 : Heap} {k i f : Nat} {v : Option Nat} {x : va_E} (h : oP Γ ad cn S H) (hk : i < cn k) (hv : ∀ i', v = some i' → i' < cn (otk k f))
    (hx : osh Γ.2.1 k (S.1 k i) (S.2.1 k i) (va_up (ores ad k (S.2.2 k i)) f (v.map (ad (otk k f)))) = x) (hc : va_at Γ.1 vwCl (ad k i, x) H1) (oq : ∀ q : Nat, q ≠ ad k i → H1[q]? = H[q]?) : oP Γ ad cn (sR S k i f v) H1 := by
  refine h.set hk (fun a b hab => ⟨rfl, rfl, sR_ne hab⟩) ?_ oq (fun f' i' e => ?_)
  · unfold ocl
    rw [sR_self, ores_up]
    subst hx
    exact hc
  · rw [sR_self] at e
    by_cases hf : f' = f
    · subst hf
      rw [va_up_self] at e
      exact hv i' e
    · rw [va_up_ne _ _ hf] at e
      exact h.2.2.2 k i f' i' hk e
/-- the addresses of what stood before stay -/
def oX (cn : Nat → Nat) (ad ad' : oAd) : Prop := ∀ a b, b < cn a → ad' a b = ad a b
theorem oX.trans {cn cn1 : Nat → Nat} {ad ad1 ad2 : oAd} (h : oX cn ad ad1) (hc : ∀ k, cn k ≤ cn1 k) (h2 : oX cn1 ad1 ad2) : oX cn ad ad2 := fun a b hb => (h2 a b (Nat.lt_of_lt_of_le hb (hc a))).trans (h a b hb)
def oN (ad : oAd) (k i q : Nat) : oAd := fun a b => if a = k ∧ b = i then q else ad a b
theorem oN_x {cn : Nat → Nat} {ad : oAd} {k q : Nat} : oX cn ad (oN ad k (cn k) q) := by
  intro a b hb
  show (if a = k ∧ b = cn k then q else ad a b) = _
  rw [if_neg]
  rintro ⟨rfl, rfl⟩
  omega
theorem oN_new {cn : Nat → Nat} {ad : oAd} {k q : Nat} : oN ad k (cn k) q k (cn k) = q := by simp [oN]
theorem oP.lt {Γ : oGm} {ad : oAd} {cn : Nat → Nat} {S : oSt} {H : Heap} (h : oP Γ ad cn S H) {k i : Nat} (hk : i < cn k) : ad k i < H.size := (h.1 k i hk).lt
/-- a cell has come -/
theorem oP.new {Γ : oGm} {ad : oAd} {cn : Nat → Nat} {S : oSt} {H H1 : Heap} {k q : Nat} {x : va_E} (h : oP Γ ad cn S H) (hq : q = H.size) (hb0 : Γ.2.2.1 ≤ q)
    (hx : osh Γ.2.1 k (fun _ => 0) (fun _ => 0) (fun _ => none) = x) (hc : va_at Γ.1 vwCl (q, x) H1) (oq : ∀ a : Nat, a < H.size → H1[a]? = H[a]?) : oP Γ (oN ad k (cn k) q) (oup cn k) (sN S k (cn k)) H1 := by
  have hcase : ∀ a b, b < oup cn k a → (a = k ∧ b = cn k) ∨ (¬ (a = k ∧ b = cn k) ∧ b < cn a) := by
    intro a b hb
    by_cases hab : a = k ∧ b = cn k
    · exact Or.inl hab
    · refine Or.inr ⟨hab, ?_⟩
      unfold oup at hb
      split at hb
      · next e => subst e; have : ¬ b = cn a := fun z => hab ⟨rfl, z⟩; omega
      · exact hb
  have hold : ∀ a b, ¬ (a = k ∧ b = cn k) → b < cn a → oN ad k (cn k) q a b = ad a b := fun a b _ hb => oN_x a b hb
  have hSo : ∀ a b, ¬ (a = k ∧ b = cn k) → (sN S k (cn k)).1 a b = S.1 a b ∧ (sN S k (cn k)).2.1 a b = S.2.1 a b ∧ (sN S k (cn k)).2.2 a b = S.2.2 a b := by
    intro a b hab
    refine ⟨?_, ?_, ?_⟩ <;> funext d <;> simp only [sN, if_neg hab]
  refine ⟨fun a b hb => ?_, fun a b a' b' hb hb' e => ?_, fun a b hb => ?_, fun a b f i' hb e => ?_⟩
  · rcases hcase a b hb with ⟨rfl, rfl⟩ | ⟨hab, hb⟩
    · rw [oN_new]
      have e1 : ocl Γ (oN ad a (cn a) q) (sN S a (cn a)) a (cn a) = x := by
        unfold ocl
        have f1 : (sN S a (cn a)).1 a (cn a) = fun _ => 0 := by funext d; simp [sN]
        have f2 : (sN S a (cn a)).2.1 a (cn a) = fun _ => 0 := by funext d; simp [sN]
        have f3 : (sN S a (cn a)).2.2 a (cn a) = fun _ => none := by funext d; simp [sN]
        rw [f1, f2, f3]
        exact hx
      rw [e1]
      exact hc
    · rw [hold a b hab hb]
      have e1 : ocl Γ (oN ad k (cn k) q) (sN S k (cn k)) a b = ocl Γ ad S a b := by
        unfold ocl
        obtain ⟨f1, f2, f3⟩ := hSo a b hab
        rw [f1, f2, f3]
        congr 1
        funext f
        unfold ores
        cases hr : S.2.2 a b f with
        | none => rfl
        | some i' =>
          have hl := h.2.2.2 a b f i' hb hr
          show some _ = some _
          rw [oN_x _ _ hl]
      rw [e1]
      exact va_at.kept (h.1 a b hb) (oq _ (h.lt hb))
  · rcases hcase a b hb with ⟨rfl, rfl⟩ | ⟨hab, hb1⟩ <;> rcases hcase a' b' hb' with ⟨rfl, rfl⟩ | ⟨hab', hb2⟩
    · exact ⟨rfl, rfl⟩
    · rw [oN_new, hold a' b' hab' hb2] at e
      have := h.lt hb2
      omega
    · rw [oN_new, hold a b hab hb1] at e
      have := h.lt hb1
      omega
    · rw [hold a b hab hb1, hold a' b' hab' hb2] at e
      exact h.2.1 a b a' b' hb1 hb2 e
  · rcases hcase a b hb with ⟨rfl, rfl⟩ | ⟨hab, hb⟩
    · rw [oN_new]; exact hb0
    · rw [hold a b hab hb]; exact h.2.2.1 a b hb
  · rcases hcase a b hb with ⟨rfl, rfl⟩ | ⟨hab, hb⟩
    · have f3 : (sN S a (cn a)).2.2 a (cn a) f = none := by simp [sN]
      rw [f3] at e
      cases e
    · rw [(hSo a b hab).2.2] at e
      exact oup_lt (h.2.2.2 a b f i' hb e)
/-- the reference that stands for a number -/
def rv (ad : oAd) (k : Nat) (o : Option Nat) : Value := va_rf (o.map (ad k))
/-- what nobody writes: the powers, the script; and words that no method carries among its own -/
def oz (Γ : oGm) (U : State) : Prop :=
  va_Z "ValueConnector" "POWERS_OF_TEN" "[I" (.ref Γ.2.2.2.2) (oF Γ) U U.heap ∧ va_T .int Γ.2.2.2.2 4 (fun j => .int (opw j)) (oF Γ) U U.heap ∧
  va_X Γ.2.2.2.1.1 Γ.2.2.2.1.2.1 Γ.2.2.2.1.2.2 U U.heap ∧ Γ.2.2.2.1.1 < Γ.2.2.1 ∧ Γ.2.2.1 ≤ U.heap.size ∧ (∀ w ∈ oNW, va_Nw w U) ∧ va_AO oA_ U ∧ va_AO oT_ U
theorem oNW_warm {s U : State} (hW : s.WarmedH U.vm) (h : ∀ w ∈ oNW, va_Nw w s) : ∀ w ∈ oNW, va_Nw w U := by
  intro w hw
  have h1 := h w hw
  simp only [oNW, List.mem_cons, List.not_mem_nil, or_false] at hw
  rcases hw with rfl | rfl | rfl
  · exact va_Nw.warmM hW h1
  · exact va_Nw.warmM hW h1
  · exact va_Nw.warmM hW h1
theorem oNW_same {s U : State} (hW : s.vm = U.vm) (h : ∀ w ∈ oNW, va_Nw w s) : ∀ w ∈ oNW, va_Nw w U := by
  intro w hw
  have h1 := h w hw
  simp only [oNW, List.mem_cons, List.not_mem_nil, or_false] at hw
  rcases hw with rfl | rfl | rfl
  · exact va_Nw.same rfl hW h1
  · exact va_Nw.same rfl hW h1
  · exact va_Nw.same rfl hW h1
def oty (Γ : oGm) : List (ClassId × FieldType) := [(Γ.2.1 0, .int), (Γ.2.1 1, .long), (Γ.2.1 2, .object oA_), (Γ.2.1 3, .object oT_)]
def oW (Γ : oGm) (ad : oAd) (cn : Nat → Nat) (S : oSt) (U : State) : Prop := oP Γ ad cn S U.heap ∧ va_K Γ.1 vwCl (oty Γ) U ∧ oz Γ U
theorem oz.go0 {Γ : oGm} {s U : State} {H : Heap} {locs : List Loc} (h : oz Γ s) (hS : va_S (oF Γ) s.heap H locs) (hU : U.heap = H) (hvm : s.vm.Alike U.vm) (hn : ∀ w ∈ oNW, va_Nw w U) : oz Γ U := by
  obtain ⟨h1, h2, h3, h4, h5, h6, h7, h8⟩ := h
  have hk : ∀ a : Nat, a < s.heap.size → ¬ oF Γ a → U.heap[a]? = s.heap[a]? := fun a ha hn => by rw [hU]; exact hS.2.1 a ha hn
  refine ⟨(h1.moved hvm).kept hk, (h2.moved hvm).kept hk, (h3.moved hvm).kept (hk _ (Nat.lt_of_lt_of_le h4 h5) (fun z => Nat.not_le.mpr h4 z)), h4, ?_, hn, h7.moved hvm, h8.moved hvm⟩
  rw [hU]
  exact Nat.le_trans h5 hS.1
theorem oz.go {Γ : oGm} {s U : State} {H : Heap} {locs : List Loc} (h : oz Γ s) (hS : va_S (oF Γ) s.heap H locs) (hU : U.heap = H) (hW : s.WarmedH U.vm) : oz Γ U :=
  h.go0 hS hU hW.alike (oNW_warm hW h.2.2.2.2.2.1)
theorem oW.blind {Γ : oGm} {ad : oAd} {cn : Nat → Nat} {S : oSt} {av : List Value} : FrameBlind (va_Pc av (oW Γ ad cn S)) := by
  intro a U g mk q
  obtain ⟨q0, q1, q2, q3⟩ := q
  refine ⟨q0, q1, va_K.moved (u := U) (U := U.calling g mk a) (Vm.Alike.refl U.vm) q2, ?_⟩
  exact q3.go0 (H := U.heap) (locs := []) va_S.rf rfl (Vm.Alike.refl U.vm) (oNW_same (s := U) (U := U.calling g mk a) rfl q3.2.2.2.2.2.1)
/-- a method's end: an answer r, a new state -/
def oQ {ρ : Type} (Γ : oGm) (ad : oAd) (cn : Nat → Nat) (val : ρ → Option Value) (post : ρ → oSt → Prop) : Array Value → State → Outcome → State → Prop := fun _ st oc t => (∃ (r : ρ) (S : oSt), oc = .returned (val r) ∧ post r S ∧ oW Γ ad cn S t) ∧ va_F (oF Γ) st t
/-- the same, of a method that makes cells -/
def oQn {ρ : Type} (Γ : oGm) (ad : oAd) (cn : Nat → Nat) (val : oAd → ρ → Option Value) (post : ρ → (Nat → Nat) → oSt → Prop) : Array Value → State → Outcome → State → Prop := fun _ st oc t => (∃ (r : ρ) (ad' : oAd) (cn' : Nat → Nat) (S : oSt), oc = .returned (val ad' r) ∧ oX cn ad ad' ∧ (∀ k, cn k ≤ cn' k) ∧ post r cn' S ∧ oW Γ ad' cn' S t) ∧ va_F (oF Γ) st t
