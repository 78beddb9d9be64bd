/-! the pure part: the relation that class and reference keep -/
theorem gI1 {S : oSt} {k i f a b d : Nat} {v : Int32} : (sI S k i f v).1 a b d = if a = k ∧ b = i ∧ d = f then v else S.1 a b d := rfl
theorem gI2 {S : oSt} {k i f : Nat} {v : Int32} : (sI S k i f v).2.1 = S.2.1 := rfl
theorem gI3 {S : oSt} {k i f : Nat} {v : Int32} : (sI S k i f v).2.2 = S.2.2 := rfl
theorem gL1 {S : oSt} {k i f : Nat} {v : Int64} : (sL S k i f v).1 = S.1 := rfl
theorem gL2 {S : oSt} {k i f a b d : Nat} {v : Int64} : (sL S k i f v).2.1 a b d = if a = k ∧ b = i ∧ d = f then v else S.2.1 a b d := rfl
theorem gL3 {S : oSt} {k i f : Nat} {v : Int64} : (sL S k i f v).2.2 = S.2.2 := rfl
theorem gR1 {S : oSt} {k i f : Nat} {v : Option Nat} : (sR S k i f v).1 = S.1 := rfl
theorem gR2 {S : oSt} {k i f : Nat} {v : Option Nat} : (sR S k i f v).2.1 = S.2.1 := rfl
theorem gR3 {S : oSt} {k i f a b d : Nat} {v : Option Nat} : (sR S k i f v).2.2 a b d = if a = k ∧ b = i ∧ d = f then v else S.2.2 a b d := rfl
theorem gN1 {S : oSt} {k i a b d : Nat} : (sN S k i).1 a b d = if a = k ∧ b = i then 0 else S.1 a b d := rfl
theorem gN2 {S : oSt} {k i a b d : Nat} : (sN S k i).2.1 a b d = if a = k ∧ b = i then 0 else S.2.1 a b d := rfl
theorem gN3 {S : oSt} {k i a b d : Nat} : (sN S k i).2.2 a b d = if a = k ∧ b = i then none else S.2.2 a b d := rfl
/-- the kinds ks stand in T as in S -/
def eqK (ks : List Nat) (S T : oSt) : Prop := ∀ k ∈ ks, T.1 k = S.1 k ∧ T.2.1 k = S.2.1 k ∧ T.2.2 k = S.2.2 k
theorem eqK.rf {ks : List Nat} {S : oSt} : eqK ks S S := fun _ _ => ⟨rfl, rfl, rfl⟩
theorem eqK.I {ks : List Nat} {S T : oSt} {k i f : Nat} {v : Int32} (h : k ∉ ks) (e : eqK ks S T) : eqK ks S (sI T k i f v) := by
  intro a ha
  obtain ⟨e1, e2, e3⟩ := e a ha
  refine ⟨?_, e2, e3⟩
  rw [← e1]
  funext b
  exact sI_ne (fun z => h (z.1 ▸ ha))
theorem eqK.L {ks : List Nat} {S T : oSt} {k i f : Nat} {v : Int64} (h : k ∉ ks) (e : eqK ks S T) : eqK ks S (sL T k i f v) := by
  intro a ha
  obtain ⟨e1, e2, e3⟩ := e a ha
  refine ⟨e1, ?_, e3⟩
  rw [← e2]
  funext b
  exact sL_ne (fun z => h (z.1 ▸ ha))
theorem eqK.R {ks : List Nat} {S T : oSt} {k i f : Nat} {v : Option Nat} (h : k ∉ ks) (e : eqK ks S T) : eqK ks S (sR T k i f v) := by
  intro a ha
  obtain ⟨e1, e2, e3⟩ := e a ha
  refine ⟨e1, e2, ?_⟩
  rw [← e3]
  funext b
  exact sR_ne (fun z => h (z.1 ▸ ha))
theorem eqK.N {ks : List Nat} {S T : oSt} {k i : Nat} (h : k ∉ ks) (e : eqK ks S T) : eqK ks S (sN T k i) := by
  intro a ha
  obtain ⟨e1, e2, e3⟩ := e a ha
  have hak : ¬ a = k := fun z => h (z ▸ ha)
  refine ⟨?_, ?_, ?_⟩
  · rw [← e1]; funext b d; show (if a = k ∧ b = i then _ else _) = _; rw [if_neg (fun z => hak z.1)]
  · rw [← e2]; funext b d; show (if a = k ∧ b = i then _ else _) = _; rw [if_neg (fun z => hak z.1)]
  · rw [← e3]; funext b d; show (if a = k ∧ b = i then _ else _) = _; rw [if_neg (fun z => hak z.1)]
theorem eqK.sub {ks ks' : List Nat} {S T : oSt} (e : eqK ks S T) (h : ∀ k ∈ ks', k ∈ ks) : eqK ks' S T := fun k hk => e k (h k hk)
theorem eqK.trans {ks : List Nat} {S T U : oSt} (e : eqK ks S T) (e' : eqK ks T U) : eqK ks S U := fun k hk => ⟨(e' k hk).1.trans (e k hk).1, (e' k hk).2.1.trans (e k hk).2.1, (e' k hk).2.2.trans (e k hk).2.2⟩
/-- the arrays' places, the tables' places -/
def iRf (S : oSt) : Prop := (∀ f, 5 ≤ f → f ≤ 32 → f ≠ 18 → f ≠ 22 → f ≠ 31 → S.2.2 0 0 f = some 0) ∧ S.2.2 40 0 2 = some 0 ∧ S.2.2 40 0 3 = some 0 ∧ S.2.2 40 0 4 = some 0 ∧ S.2.2 40 0 5 = some 0 ∧ S.2.2 42 0 0 = some 0 ∧ S.2.2 42 0 1 = some 0 ∧ S.2.2 42 0 2 = some 0
/-- numbers: margin, hold, spread, now, how many accounts and transfers -/
def iSc (S : oSt) (t nA nT : Nat) : Prop := (S.1 40 0 6 = nI nA ∧ S.1 0 0 4 = nI nA) ∧ (S.1 40 0 7 = nI nT ∧ S.1 0 0 22 = nI nT) ∧ (∃ g, 1 ≤ g ∧ g ≤ 1000 ∧ S.1 40 0 0 = nI g ∧ S.1 0 0 0 = nI g) ∧ (∃ h, 1 ≤ h ∧ h ≤ 100000 ∧ S.1 40 0 1 = nI h ∧ S.1 0 0 1 = nI h) ∧ S.1 40 0 9 = S.1 0 0 3 ∧ ∃ w, w ≤ 100000 * t ∧ S.1 0 0 2 = nI w ∧ S.2.1 40 0 10 = lN w
/-- an account -/
def iA (S : oSt) (t a : Nat) : Prop := (S.2.2 41 0 a = some a ∧ S.2.2 48 a 3 = some a ∧ S.2.2 48 a 4 = some a ∧ S.2.2 50 a 0 = some a ∧ S.1 48 a 0 = nI a) ∧
  (S.1 48 a 1 = S.1 6 0 a ∧ S.1 48 a 2 = S.1 7 0 a ∧ S.1 48 a 5 = S.1 8 0 a ∧ 1 ≤ S.1 8 0 a ∧ S.1 8 0 a ≤ 10000) ∧
  S.2.1 48 a 6 = S.2.1 5 0 a ∧ S.1 48 a 7 = S.1 9 0 a ∧ S.1 48 a 8 = S.1 10 0 a ∧ (∃ d, d < 4 ∧ S.1 11 0 a = nI d ∧ S.1 48 a 9 = opw d) ∧ S.2.1 48 a 10 = S.2.1 12 0 a ∧
  (S.1 49 a 0 = 100 * S.1 13 0 a ∧ S.1 49 a 1 = S.1 14 0 a ∧ S.1 49 a 2 = S.1 15 0 a) ∧
  ∃ K, K ≤ t ∧ S.1 17 0 a = nI K ∧ S.1 50 a 1 = nI (min K 8) ∧ S.1 50 a 2 = nI (if K < 8 then 0 else K % 8) ∧ ∀ i, i < min K 8 → S.1 51 a i = S.1 16 0 (8 * a + i)
/-- a place where no account is yet -/
def iZ (S : oSt) (a : Nat) : Prop := S.2.1 5 0 a = 0 ∧ S.1 10 0 a = 0 ∧ S.1 11 0 a = 0 ∧ S.2.1 12 0 a = 0 ∧ S.1 17 0 a = 0
/-- a transfer -/
def iT (S : oSt) (nA j : Nat) : Prop := S.2.2 43 0 j = some j ∧ (∃ p, p < nA ∧ S.2.2 52 j 0 = some p ∧ S.1 23 0 j = nI p) ∧ (∃ q, q < nA ∧ S.2.2 52 j 1 = some q ∧ S.1 24 0 j = nI q) ∧
  S.1 52 j 2 = S.1 25 0 j ∧ S.2.1 52 j 3 = S.2.1 26 0 j ∧ S.2.1 52 j 4 = (S.1 27 0 j).toInt64 ∧ S.2.1 52 j 5 = S.2.1 28 0 j ∧ S.1 52 j 6 = S.1 29 0 j ∧ S.2.1 52 j 7 = if S.1 29 0 j = 1 then S.2.1 30 0 j else 0
/-- how many of the first n transfers are fulfilled -/
def cF (s : Nat → Int32) : Nat → Nat
  | 0 => 0
  | n + 1 => cF s n + if s n = 1 then 1 else 0
def iSt (S : oSt) (nT nS : Nat) : Prop := S.1 40 0 8 = nI nS ∧ S.1 0 0 31 = nI nS ∧ nS ≤ cF (S.1 29 0) nT ∧ ∀ j, j < nS → S.2.1 44 0 j = S.2.1 32 0 j
/-- a table of routes: owner, prefix, hops -/
def rT (o : Nat → Int32) (p : Nat → Int64) (h : Nat → Int32) (n : Nat) (x : Int32 × Int64 × Int32) : Prop := ∃ i, i < n ∧ o i = x.1 ∧ p i = x.2.1 ∧ h i = x.2.2
def rU (o : Nat → Int32) (p : Nat → Int64) (n : Nat) : Prop := ∀ i j, i < n → j < n → o i = o j → p i = p j → i = j
/-! letters: a long as eight bytes -/
def uN (x : Int64) : Nat := x.toBitVec.toNat
def byt (x : Int64) (k : Nat) : Nat := uN x / 256 ^ k % 256
def lett (b : Nat) : Bool := decide (97 ≤ b) && decide (b ≤ 122)
/-- how many letters stand at the front, from k on, at most m -/
def nlet (x : Int64) (k : Nat) : Nat → Nat
  | 0 => 0
  | m + 1 => if lett (byt x k) then nlet x (k + 1) m + 1 else 0
def vlen (x : Int64) : Nat := nlet x 0 6
/-- a prefix: letters, then nothing -/
def vpre (x : Int64) : Prop := uN x < 256 ^ vlen x
def iRt (S : oSt) (nA nR : Nat) : Prop := nR ≤ 40 ∧ S.1 42 0 3 = nI nR ∧ S.1 0 0 18 = nI nR ∧ rU (S.1 45 0) (S.2.1 46 0) nR ∧ rU (S.1 19 0) (S.2.1 20 0) nR ∧ (∀ x, rT (S.1 45 0) (S.2.1 46 0) (S.1 47 0) nR x ↔ rT (S.1 19 0) (S.2.1 20 0) (S.1 21 0) nR x) ∧ ∀ i, i < nR → vpre (S.2.1 20 0 i) ∧ ∃ o, o < nA ∧ S.1 19 0 i = nI o
def iCn (cn : Nat → Nat) (nA nT : Nat) : Prop := cn 48 = nA ∧ cn 49 = nA ∧ cn 50 = nA ∧ cn 51 = nA ∧ cn 52 = nT
def Inv4 (S : oSt) (cn : Nat → Nat) (t nA nT nS nR : Nat) : Prop := (nA ≤ 8 ∧ nT ≤ 120 ∧ t ≤ 600) ∧ iCn cn nA nT ∧ iRf S ∧ iSc S t nA nT ∧ (∀ a, a < nA → iA S t a) ∧ (∀ a, nA ≤ a → a < 8 → iZ S a) ∧ (∀ j, j < nT → iT S nA j) ∧ iSt S nT nS ∧ iRt S nA nR
def Inv (S : oSt) (cn : Nat → Nat) (t : Nat) : Prop := ∃ nA nT nS nR, Inv4 S cn t nA nT nS nR
abbrev kRf : List Nat := [0, 40, 42]
abbrev kSc : List Nat := [0, 40]
abbrev kA : List Nat := [41, 48, 49, 50, 51, 5, 6, 7, 8, 9, 10, 11, 12, 13, 14, 15, 16, 17]
abbrev kZ : List Nat := [5, 10, 11, 12, 17]
abbrev kT : List Nat := [43, 52, 23, 24, 25, 26, 27, 28, 29, 30]
abbrev kSt : List Nat := [0, 40, 44, 29, 32]
abbrev kRt : List Nat := [0, 42, 45, 46, 47, 19, 20, 21]
theorem iRf.fr {S T : oSt} (h : iRf S) (e : eqK kRf S T) : iRf T := by
  unfold iRf at h ⊢
  rw [(e 0 (by decide)).2.2, (e 40 (by decide)).2.2, (e 42 (by decide)).2.2]
  exact h
theorem iSc.fr {S T : oSt} {t nA nT : Nat} (h : iSc S t nA nT) (e : eqK kSc S T) : iSc T t nA nT := by
  unfold iSc at h ⊢
  rw [(e 0 (by decide)).1, (e 40 (by decide)).1, (e 40 (by decide)).2.1]
  exact h
theorem iA.fr {S T : oSt} {t a : Nat} (h : iA S t a) (e : eqK kA S T) : iA T t a := by
  unfold iA at h ⊢
  rw [(e 41 (by decide)).2.2, (e 48 (by decide)).2.2, (e 50 (by decide)).2.2, (e 48 (by decide)).1, (e 48 (by decide)).2.1, (e 49 (by decide)).1, (e 50 (by decide)).1, (e 51 (by decide)).1, (e 5 (by decide)).2.1, (e 6 (by decide)).1, (e 7 (by decide)).1, (e 8 (by decide)).1, (e 9 (by decide)).1, (e 10 (by decide)).1, (e 11 (by decide)).1, (e 12 (by decide)).2.1, (e 13 (by decide)).1, (e 14 (by decide)).1, (e 15 (by decide)).1, (e 16 (by decide)).1, (e 17 (by decide)).1]
  exact h
theorem iZ.fr {S T : oSt} {a : Nat} (h : iZ S a) (e : eqK kZ S T) : iZ T a := by
  unfold iZ at h ⊢
  rw [(e 5 (by decide)).2.1, (e 10 (by decide)).1, (e 11 (by decide)).1, (e 12 (by decide)).2.1, (e 17 (by decide)).1]
  exact h
theorem iT.fr {S T : oSt} {nA j : Nat} (h : iT S nA j) (e : eqK kT S T) : iT T nA j := by
  unfold iT at h ⊢
  rw [(e 43 (by decide)).2.2, (e 52 (by decide)).2.2, (e 52 (by decide)).1, (e 52 (by decide)).2.1, (e 23 (by decide)).1, (e 24 (by decide)).1, (e 25 (by decide)).1, (e 26 (by decide)).2.1, (e 27 (by decide)).1, (e 28 (by decide)).2.1, (e 29 (by decide)).1, (e 30 (by decide)).2.1]
  exact h
theorem iSt.fr {S T : oSt} {nT nS : Nat} (h : iSt S nT nS) (e : eqK kSt S T) : iSt T nT nS := by
  unfold iSt at h ⊢
  rw [(e 40 (by decide)).1, (e 0 (by decide)).1, (e 29 (by decide)).1, (e 44 (by decide)).2.1, (e 32 (by decide)).2.1]
  exact h
theorem iRt.fr {S T : oSt} {nA nR : Nat} (h : iRt S nA nR) (e : eqK kRt S T) : iRt T nA nR := by
  unfold iRt at h ⊢
  rw [(e 42 (by decide)).1, (e 0 (by decide)).1, (e 45 (by decide)).1, (e 46 (by decide)).2.1, (e 47 (by decide)).1, (e 19 (by decide)).1, (e 20 (by decide)).2.1, (e 21 (by decide)).1]
  exact h
theorem iA.up {S : oSt} {t t' a : Nat} (h : iA S t a) (ht : t ≤ t') : iA S t' a := by
  obtain ⟨h1, h2, h3, h4, h5, h6, h7, h8, K, hK, h9⟩ := h
  exact ⟨h1, h2, h3, h4, h5, h6, h7, h8, K, Nat.le_trans hK ht, h9⟩
theorem iSc.up {S : oSt} {t t' nA nT : Nat} (h : iSc S t nA nT) (ht : t ≤ t') : iSc S t' nA nT := by
  obtain ⟨h1, h2, h3, h4, h5, w, hw, h6⟩ := h
  exact ⟨h1, h2, h3, h4, h5, w, by omega, h6⟩
theorem Inv4.up {S : oSt} {cn : Nat → Nat} {t nA nT nS nR : Nat} (h : Inv4 S cn t nA nT nS nR) (ht : t + 1 ≤ 600) : Inv4 S cn (t + 1) nA nT nS nR := by
  obtain ⟨⟨h1, h2, h3⟩, h4, h5, h6, h7, h8⟩ := h
  exact ⟨⟨h1, h2, ht⟩, h4, h5, h6.up (by omega), fun a ha => (h7 a ha).up (by omega), h8⟩
theorem gIk {S : oSt} {k i f a : Nat} {v : Int32} (h : a ≠ k) : (sI S k i f v).1 a = S.1 a := by funext b; exact sI_ne (fun z => h z.1)
theorem gLk {S : oSt} {k i f a : Nat} {v : Int64} (h : a ≠ k) : (sL S k i f v).2.1 a = S.2.1 a := by funext b; exact sL_ne (fun z => h z.1)
theorem gRk {S : oSt} {k i f a : Nat} {v : Option Nat} (h : a ≠ k) : (sR S k i f v).2.2 a = S.2.2 a := by funext b; exact sR_ne (fun z => h z.1)
theorem iSt.fr2 {S T : oSt} {nT nS : Nat} (h : iSt S nT nS) (e : eqK [44, 29, 32] S T) (e1 : T.1 40 0 8 = S.1 40 0 8) (e2 : T.1 0 0 31 = S.1 0 0 31) : iSt T nT nS := by
  unfold iSt at h ⊢
  rw [e1, e2, (e 29 (by decide)).1, (e 44 (by decide)).2.1, (e 32 (by decide)).2.1]
  exact h
theorem iRt.fr2 {S T : oSt} {nA nR : Nat} (h : iRt S nA nR) (e : eqK [45, 46, 47, 19, 20, 21] S T) (e1 : T.1 42 0 3 = S.1 42 0 3) (e2 : T.1 0 0 18 = S.1 0 0 18) : iRt T nA nR := by
  unfold iRt at h ⊢
  rw [e1, e2, (e 45 (by decide)).1, (e 46 (by decide)).2.1, (e 47 (by decide)).1, (e 19 (by decide)).1, (e 20 (by decide)).2.1, (e 21 (by decide)).1]
  exact h
theorem iRt.nA {S : oSt} {nA nB nR : Nat} (h : iRt S nA nR) (hAB : nA ≤ nB) : iRt S nB nR := by
  obtain ⟨h1, h2, h3, h4, h5, h6, h7⟩ := h
  exact ⟨h1, h2, h3, h4, h5, h6, fun i hi => ⟨(h7 i hi).1, by obtain ⟨o, ho, e⟩ := (h7 i hi).2; exact ⟨o, by omega, e⟩⟩⟩
theorem iT.nA {S : oSt} {nA nB j : Nat} (h : iT S nA j) (hAB : nA ≤ nB) : iT S nB j := by
  obtain ⟨h1, ⟨p, hp, h2⟩, ⟨q, hq, h3⟩, h4⟩ := h
  exact ⟨h1, ⟨p, by omega, h2⟩, ⟨q, by omega, h3⟩, h4⟩
