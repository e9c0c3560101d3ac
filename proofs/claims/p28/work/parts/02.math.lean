/-! plain numbers: counts, sums, the k-th place, the weak sum -/
def ct (P : Nat → Bool) : Nat → Nat
  | 0 => 0
  | n + 1 => ct P n + (if P n = true then 1 else 0)
def sm (f : Nat → Nat) : Nat → Nat
  | 0 => 0
  | n + 1 => sm f n + f n
theorem ct_le (P : Nat → Bool) : ∀ n, ct P n ≤ n
  | 0 => Nat.le_refl 0
  | n + 1 => by
    have h := ct_le P n
    show ct P n + (if P n = true then 1 else 0) ≤ n + 1
    split <;> omega
theorem ct_t {P : Nat → Bool} {n : Nat} (h : P n = true) : ct P (n + 1) = ct P n + 1 := by
  show ct P n + (if P n = true then 1 else 0) = _
  rw [if_pos h]
theorem ct_f {P : Nat → Bool} {n : Nat} (h : P n = false) : ct P (n + 1) = ct P n := by
  show ct P n + (if P n = true then 1 else 0) = _
  rw [h]; rfl
theorem ct_mono (P : Nat → Bool) {a b : Nat} (h : a ≤ b) : ct P a ≤ ct P b := by
  obtain ⟨d, rfl⟩ := Nat.exists_eq_add_of_le h
  clear h
  induction d with
  | zero => exact Nat.le_refl _
  | succ d ih =>
    have e : ct P (a + (d + 1)) = ct P (a + d) + (if P (a + d) = true then 1 else 0) := rfl
    rw [e]; omega
theorem ct_lt {P : Nat → Bool} {a b : Nat} (h : a < b) (ha : P a = true) : ct P a < ct P b := by
  have h1 := ct_mono P (show a + 1 ≤ b from h)
  rw [ct_t ha] at h1
  omega
theorem ct_cong {P P' : Nat → Bool} : ∀ {n : Nat}, (∀ k, k < n → P k = P' k) → ct P n = ct P' n
  | 0, _ => rfl
  | n + 1, h => by
    show ct P n + (if P n = true then 1 else 0) = ct P' n + (if P' n = true then 1 else 0)
    rw [ct_cong (fun k hk => h k (by omega)), h n (by omega)]
def kth (P : Nat → Bool) : Nat → Nat → Nat
  | 0, _ => 0
  | n + 1, i => if P n = true ∧ ct P n = i then n else kth P n i
theorem kth_ok {P : Nat → Bool} : ∀ {n i : Nat}, i < ct P n → kth P n i < n ∧ P (kth P n i) = true ∧ ct P (kth P n i) = i
  | 0, i, h => absurd h (Nat.not_lt_zero i)
  | n + 1, i, h => by
    by_cases q : P n = true ∧ ct P n = i
    · have e : kth P (n + 1) i = n := if_pos q
      rw [e]; exact ⟨Nat.lt_succ_self n, q.1, q.2⟩
    · have e : kth P (n + 1) i = kth P n i := if_neg q
      rw [e]
      have h2 : i < ct P n := by
        cases hp : P n with
        | false => rwa [ct_f hp] at h
        | true =>
          rw [ct_t hp] at h
          have hne : ¬ ct P n = i := fun z => q ⟨hp, z⟩
          omega
      obtain ⟨h3, h4, h5⟩ := kth_ok h2
      exact ⟨by omega, h4, h5⟩
theorem ct_inj {P : Nat → Bool} {a b : Nat} (ha : P a = true) (hb : P b = true) (h : ct P a = ct P b) : a = b := by
  rcases Nat.lt_trichotomy a b with q | q | q
  · have := ct_lt q ha; omega
  · exact q
  · have := ct_lt q hb; omega
theorem kth_uq {P : Nat → Bool} {n k : Nat} (hk : k < n) (hP : P k = true) : kth P n (ct P k) = k := by
  obtain ⟨-, h2, h3⟩ := kth_ok (P := P) (n := n) (i := ct P k) (ct_lt hk hP)
  exact ct_inj h2 hP h3
theorem sm_cong {f g : Nat → Nat} : ∀ {n : Nat}, (∀ k, k < n → f k = g k) → sm f n = sm g n
  | 0, _ => rfl
  | n + 1, h => by
    show sm f n + f n = sm g n + g n
    rw [sm_cong (fun k hk => h k (by omega)), h n (by omega)]
theorem sm_bound {f : Nat → Nat} {c : Nat} : ∀ {n : Nat}, (∀ k, k < n → f k ≤ c) → sm f n ≤ n * c
  | 0, _ => by show 0 ≤ 0 * c; omega
  | n + 1, h => by
    have h1 := sm_bound (f := f) (c := c) (n := n) (fun k hk => h k (by omega))
    have h2 := h n (by omega)
    show sm f n + f n ≤ (n + 1) * c
    rw [Nat.succ_mul]
    omega
theorem sm_mono (f : Nat → Nat) {a b : Nat} (h : a ≤ b) : sm f a ≤ sm f b := by
  obtain ⟨d, rfl⟩ := Nat.exists_eq_add_of_le h
  clear h
  induction d with
  | zero => exact Nat.le_refl _
  | succ d ih =>
    have e : sm f (a + (d + 1)) = sm f (a + d) + f (a + d) := rfl
    rw [e]; omega
theorem sm_add (f g : Nat → Nat) : ∀ n, sm (fun k => f k + g k) n = sm f n + sm g n
  | 0 => rfl
  | n + 1 => by
    show sm (fun k => f k + g k) n + (f n + g n) = sm f n + f n + (sm g n + g n)
    rw [sm_add f g n]; omega
def sA (v : Nat → Nat) (p n : Nat) : Nat := sm (fun z => v (p + z)) n
def sB (v : Nat → Nat) (p n : Nat) : Nat := sm (fun z => sA v p (z + 1)) n
def sX (v : Nat → Nat) (p n k : Nat) : Nat := sm (fun z => (n - z) * v (p + z)) k
def wsum (v : Nat → Nat) (p n : Nat) : Nat := sA v p n % 256 + 256 * (sB v p n % 256)
theorem sX_sB (v : Nat → Nat) (p : Nat) : ∀ n, sX v p n n = sB v p n
  | 0 => rfl
  | n + 1 => by
    have e1 : sX v p (n + 1) (n + 1) = sm (fun z => (n - z) * v (p + z) + v (p + z)) (n + 1) := sm_cong (fun k hk => by
      show (n + 1 - k) * v (p + k) = (n - k) * v (p + k) + v (p + k)
      rw [show n + 1 - k = (n - k) + 1 by omega, Nat.succ_mul])
    have e2 : sX v p n (n + 1) = sX v p n n := by
      show sX v p n n + (n - n) * v (p + n) = _
      rw [Nat.sub_self, Nat.zero_mul, Nat.add_zero]
    rw [e1, sm_add]
    show sX v p n (n + 1) + sA v p (n + 1) = sB v p n + sA v p (n + 1)
    rw [e2, sX_sB v p n]
theorem sA_lt {v : Nat → Nat} (hv : ∀ i, v i < 256) {p n : Nat} (hn : n ≤ 400) : sA v p n < 131072 := by
  have h := sm_bound (f := fun z => v (p + z)) (c := 255) (n := n) (fun k _ => Nat.le_of_lt_succ (hv _))
  show sm (fun z => v (p + z)) n < _
  omega
theorem sB_lt {v : Nat → Nat} (hv : ∀ i, v i < 256) {p n : Nat} (hn : n ≤ 400) : sB v p n < 67108864 := by
  have h := sm_bound (f := fun z => sA v p (z + 1)) (c := 131072) (n := n) (fun k hk => Nat.le_of_lt (sA_lt hv (by omega)))
  show sm (fun z => sA v p (z + 1)) n < _
  omega
theorem sX_lt {v : Nat → Nat} (hv : ∀ i, v i < 256) {p n k : Nat} (hn : n ≤ 400) (hk : k ≤ n) : sX v p n k < 67108864 := by
  have h := sm_bound (f := fun z => (n - z) * v (p + z)) (c := 102000) (n := k) (fun z _ => by
    have h1 : (n - z) * v (p + z) ≤ 400 * 255 := Nat.mul_le_mul (by omega) (Nat.le_of_lt_succ (hv _))
    exact h1)
  show sm (fun z => (n - z) * v (p + z)) k < _
  omega
theorem wsum_lt (v : Nat → Nat) (p n : Nat) : wsum v p n < 65536 := by
  show sA v p n % 256 + 256 * (sB v p n % 256) < _
  omega
theorem wsum_cong {v v' : Nat → Nat} {p n : Nat} (h : ∀ k, k < n → v (p + k) = v' (p + k)) : wsum v p n = wsum v' p n := by
  have h1 : ∀ k, k ≤ n → sA v p k = sA v' p k := fun k hk => sm_cong (fun z hz => h z (by omega))
  have h2 : sB v p n = sB v' p n := sm_cong (fun z hz => h1 (z + 1) (by omega))
  show sA v p n % 256 + 256 * (sB v p n % 256) = sA v' p n % 256 + 256 * (sB v' p n % 256)
  rw [h1 n (Nat.le_refl n), h2]
/-- the first place below n -/
def fsF (P : Nat → Bool) : Nat → Option Nat
  | 0 => none
  | n + 1 => match fsF P n with
    | some k => some k
    | none => if P n = true then some n else none
def oI (o : Option Nat) : Int32 := match o with
  | none => -1
  | some k => nI k
theorem fsF_none {P : Nat → Bool} : ∀ {n : Nat}, (∀ j, j < n → P j = false) → fsF P n = none
  | 0, _ => rfl
  | n + 1, h => by
    have e := fsF_none (P := P) (n := n) (fun j hj => h j (by omega))
    simp only [fsF, e, h n (Nat.lt_succ_self n)]
    rfl
theorem fsF_some {P : Nat → Bool} {k : Nat} (hk : P k = true) (hj : ∀ j, j < k → P j = false) : ∀ {n : Nat}, k < n → fsF P n = some k
  | 0, h => absurd h (Nat.not_lt_zero k)
  | n + 1, h => by
    by_cases q : k < n
    · simp only [fsF, fsF_some hk hj q]
    · have e : k = n := by omega
      subst e
      simp only [fsF, fsF_none hj, hk]
      rfl
theorem fsF_of {P : Nat → Bool} {n k : Nat} : fsF P n = some k → k < n ∧ P k = true ∧ ∀ j, j < k → P j = false := by
  induction n with
  | zero => intro h; cases h
  | succ n ih =>
    intro h
    cases e : fsF P n with
    | some q =>
      simp only [fsF, e] at h
      cases h
      obtain ⟨a, b, c⟩ := ih e
      exact ⟨by omega, b, c⟩
    | none =>
      simp only [fsF, e] at h
      by_cases hp : P n = true
      · rw [if_pos hp] at h
        have hk9 := Option.some.inj h
        rw [← hk9]
        refine ⟨Nat.lt_succ_self _, hp, fun j hj => ?_⟩
        cases hq : P j with
        | false => rfl
        | true =>
          exfalso
          obtain ⟨j0, h1, h2⟩ : ∃ j0, P j0 = true ∧ j0 < n ∧ ∀ i, i < j0 → P i = false := by
            obtain ⟨j0, g1, g2⟩ := pk_least (fun i => P i = true ∧ i < n) ⟨j, hq, hj⟩
            exact ⟨j0, g1.1, g1.2, fun i hi => by
              cases hz : P i with
              | false => rfl
              | true => exact absurd ⟨hz, by omega⟩ (g2 i hi)⟩
          rw [fsF_some h1 h2.2 h2.1] at e
          cases e
      · rw [if_neg hp] at h; cases h
theorem fsF_no {P : Nat → Bool} {n : Nat} (h : fsF P n = none) : ∀ j, j < n → P j = false := by
  intro j hj
  cases hq : P j with
  | false => rfl
  | true =>
    exfalso
    obtain ⟨j0, g1, g2⟩ := pk_least (fun i => P i = true ∧ i < n) ⟨j, hq, hj⟩
    rw [fsF_some g1.1 (fun i hi => by
      cases hz : P i with
      | false => rfl
      | true => exact absurd ⟨hz, by omega⟩ (g2 i hi)) g1.2] at h
    cases h
def stA (o : Nat → Int32) (k : Nat) : Bool := decide (k = 0) || decide (¬ o k = (if o (k - 1) = (-1) then (-1) else o (k - 1) + nI 1))
def ltA (o : Nat → Int32) (k : Nat) : Bool := decide (o k = (-1))
def manyN (o : Nat → Int32) (n : Nat) : Nat := ct (stA o) n
def litN (o : Nat → Int32) (n : Nat) : Nat := ct (ltA o) n
def wt (o : Nat → Int32) (k : Nat) : Nat := if o k = (-1) then 2 else 5
def costN (o : Nat → Int32) (n : Nat) : Nat := litN o n + sm (fun k => if stA o k = true then wt o k else 0) n
def posN (o : Nat → Int32) (n i : Nat) : Nat := kth (stA o) n i
def endN (o : Nat → Int32) (n i : Nat) : Nat := if i + 1 < manyN o n then posN o n (i + 1) else n
def tellI (o : Nat → Int32) (v : Nat → Nat) (n i what : Nat) : Int32 :=
  if what = 0 then bI (ltA o (posN o n i)) else if what = 1 then o (posN o n i) else if what = 2 then nI (endN o n i - posN o n i) else if o (posN o n i) = (-1) then nI (wsum v (posN o n i) (endN o n i - posN o n i)) else (-1)
theorem bT {b : Bool} (h : b = true) : nI 1 = bI b := by rw [h]; rfl
theorem bF {b : Bool} (h : b = false) : nI 0 = bI b := by rw [h]; rfl
/-- the numbers of the digest -/
def dgF (d : Int64) (f : Nat → Int32) : Nat → Int64
  | 0 => d
  | k + 1 => dgF d f k * 31 + (f k).toInt64
def dgR (d : Int64) (f : Nat → Int32) (n : Nat) : Int64 := dgF (d * 31 + (nI n).toInt64) f n
def dgT (d : Int64) (F : Nat → Nat → Int32) (i : Nat) : Nat → Int64
  | 0 => d
  | w + 1 => dgT d F i w * 31 + (F i w).toInt64
def dgI (d : Int64) (F : Nat → Nat → Int32) : Nat → Int64
  | 0 => d
  | i + 1 => dgT (dgI d F i) F i 4
def dgP (d : Int64) (F : Nat → Nat → Int32) (n : Nat) : Int64 := dgI (d * 31 + (nI n).toInt64) F n

