/-! what a state of the system is: the buffer, the versions, the patches (base, goal, origins), what is installed, the history -/
abbrev BL : Type := List Nat
abbrev Pt : Type := BL × BL × List Int32
abbrev St : Type := BL × List BL × List Pt × BL × List BL
def bv (xs : BL) : Nat → Nat := fun i => xs.getD i 0
abbrev bb (xs : BL) : Nat → Int32 := fun i => nI (bv xs i)
abbrev ba (cs : Nat → ClassId) (xs : BL) : va_E := fa cs xs.length (bb xs)
def rowOk (xs : BL) : Prop := xs.length ≤ 400 ∧ ∀ i, bv xs i < 256
abbrev vsN (vs : List BL) (i : Nat) : BL := vs.getD i []
abbrev psN (ps : List Pt) (j : Nat) : Pt := ps.getD j ([], [], [])
/-- the first of the versions with these bytes -/
def FI (vs : List BL) (k : Nat) (xs : BL) : Prop := k < vs.length ∧ vsN vs k = xs ∧ ∀ i, i < k → vsN vs i ≠ xs
def ptOk (p : Pt) : Prop := rowOk p.1 ∧ rowOk p.2.1 ∧ p.2.2.length = p.2.1.length ∧ ∀ k, k < p.2.1.length → rf p.2.2 k = (-1) ∨ ∃ j, j < p.1.length ∧ rf p.2.2 k = nI j
def stOk (σ : St) : Prop := rowOk σ.1 ∧ (σ.2.1.length ≤ 12 ∧ ∀ i, i < σ.2.1.length → rowOk (vsN σ.2.1 i)) ∧ (σ.2.2.1.length ≤ 12 ∧ ∀ j, j < σ.2.2.1.length → ptOk (psN σ.2.2.1 j)) ∧ rowOk σ.2.2.2.1 ∧ (σ.2.2.2.2.length ≤ 20 ∧ ∀ i, i < σ.2.2.2.2.length → rowOk (vsN σ.2.2.2.2 i))
def eqL (xs ys : BL) : Bool := eqB (bb xs) (bb ys) xs.length ys.length
/-- what the class holds beside the state: the rows' contents (0 buffer, 1 sums, 2 reached), the lists' counts, addresses (0..2 the lists' arrays, 3, 4 what is installed), their lengths and contents, rows' addresses (0, 1 versions, 2, 3 history), patches' (0 patch, 1, 2 goal, 3 origins, 4 starts) and numbers (5 base, 6 goal) -/
abbrev XU : Type := (Nat → Nat → Int32) × (Nat → Int32) × (Nat → Nat) × (Nat → Nat) × (Nat → Nat → Option Nat) × (Nat → Nat → Nat) × (Nat → Nat → Nat)
abbrev xF (u : XU) : Nat → Nat → Int32 := u.1
abbrev xm (u : XU) : Nat → Int32 := u.2.1
abbrev xe (u : XU) : Nat → Nat := u.2.2.1
abbrev xc (u : XU) : Nat → Nat := u.2.2.2.1
abbrev xg (u : XU) : Nat → Nat → Option Nat := u.2.2.2.2.1
abbrev xR (u : XU) : Nat → Nat → Nat := u.2.2.2.2.2.1
abbrev xP (u : XU) : Nat → Nat → Nat := u.2.2.2.2.2.2
abbrev RH (D : va_G) (cs : Nat → ClassId) (r b : Nat) (xs : BL) (H : Heap) : Prop := At D r (.inr (2, [.ref b])) H ∧ At D b (ba cs xs) H
abbrev LH (D : va_G) (cs : Nat → ClassId) (lo : Nat) (mc : Int32) (ed n cap : Nat) (g : Nat → Option Nat) (A : Nat → Nat) (H : Heap) : Prop :=
  At D lo (.inr (0, [.int mc, .ref ed, .int (nI n)])) H ∧ (0 < n → At D ed (qa cs 1 cap g) H ∧ n ≤ cap) ∧ cap ≤ 66 ∧ ∀ i, i < n → g i = some (A i)
abbrev patE (u : XU) (j : Nat) (p : Pt) : va_E := .inr (1, [.int (nI (xP u 5 j)), .int (nI (xP u 6 j)), .ref (xP u 1 j), .ref (xP u 3 j), .ref (xP u 4 j), .int (nI (litN (rf p.2.2) p.2.1.length)), .int (nI (costN (rf p.2.2) p.2.1.length))])
abbrev PH (D : va_G) (cs : Nat → ClassId) (u : XU) (j : Nat) (p : Pt) (H : Heap) : Prop :=
  At D (xP u 0 j) (patE u j p) H ∧ At D (xP u 3 j) (fa cs p.2.1.length (rf p.2.2)) H ∧ At D (xP u 4 j) (fa cs (manyN (rf p.2.2) p.2.1.length) (fun i => nI (posN (rf p.2.2) p.2.1.length i))) H ∧ At D (xP u 1 j) (.inr (2, [.ref (xP u 2 j)])) H ∧ At D (xP u 2 j) (ba cs p.2.1) H
abbrev xO (a : Nat → Nat) (u : XU) (σ : St) : va_E := .inr (3, [.ref (a 1), .int (nI σ.1.length), .ref (a 4), .ref (a 5), .ref (xe u 3), .ref (a 6), .ref (a 2), .ref (a 3)])
/-- the class's state in a heap -/
def XH (D : va_G) (cs : Nat → ClassId) (a : Nat → Nat) (u : XU) (σ : St) (H : Heap) : Prop :=
  At D (a 0) (xO a u σ) H ∧ At D (a 1) (fa cs 400 (xF u 0)) H ∧ (∀ i, i < σ.1.length → xF u 0 i = bb σ.1 i) ∧
  LH D cs (a 4) (xm u 0) (xe u 0) σ.2.1.length (xc u 0) (xg u 0) (xR u 0) H ∧ LH D cs (a 5) (xm u 1) (xe u 1) σ.2.2.1.length (xc u 1) (xg u 1) (xP u 0) H ∧ LH D cs (a 6) (xm u 2) (xe u 2) σ.2.2.2.2.length (xc u 2) (xg u 2) (xR u 2) H ∧
  (∀ i, i < σ.2.1.length → RH D cs (xR u 0 i) (xR u 1 i) (vsN σ.2.1 i) H) ∧ (∀ j, j < σ.2.2.1.length → PH D cs u j (psN σ.2.2.1 j) H ∧ FI σ.2.1 (xP u 5 j) (psN σ.2.2.1 j).1 ∧ FI σ.2.1 (xP u 6 j) (psN σ.2.2.1 j).2.1) ∧
  RH D cs (xe u 3) (xe u 4) σ.2.2.2.1 H ∧ (∀ i, i < σ.2.2.2.2.length → RH D cs (xR u 2 i) (xR u 3 i) (vsN σ.2.2.2.2 i) H) ∧ stOk σ
def flN (vs : List BL) (v : Nat) : Nat := match fsF (fun i => eqL (vsN vs i) (vsN vs v)) v with
  | some k => k
  | none => v
theorem rf_lt {xs : BL} (h : rowOk xs) (i : Nat) : bv xs i < 256 := h.2 i
theorem bv_out {xs : BL} {i : Nat} (h : xs.length ≤ i) : bv xs i = 0 := by
  unfold bv
  rw [List.getD_eq_getElem?_getD, List.getElem?_eq_none h]; rfl

