/-! readers of numbers, third part -/
theorem stB_succ (f g : Nat → Int32) (i j k : Nat) : stB f g i j (k + 1) = (stB f g i j k && decide (f (i + k) = g (j + k))) := by
  by_cases h : f (i + k) = g (j + k)
  · by_cases q : ∀ z, z < k → f (i + z) = g (j + z)
    · rw [stB_t q, stB_t (fun z hz => (Nat.lt_succ_iff_lt_or_eq.mp hz).elim (q z) (fun e => by rw [e]; exact h)), decide_eq_true h]; rfl
    · have h1 : stB f g i j k = false := decide_eq_false q
      have h2 : stB f g i j (k + 1) = false := decide_eq_false (fun z => q (fun y hy => z y (by omega)))
      rw [h1, h2]; rfl
  · rw [stB_f (k := k) (Nat.lt_succ_self k) h, decide_eq_false h, Bool.and_false]
theorem stB_0 (f g : Nat → Int32) (i j : Nat) : stB f g i j 0 = true := stB_t (fun k hk => absurd hk (Nat.not_lt_zero k))
theorem stB_mono {f g : Nat → Int32} {i j k n : Nat} (h : stB f g i j k = false) (hk : k ≤ n) : stB f g i j n = false := by
  cases h2 : stB f g i j n with
  | false => rfl
  | true =>
    have h3 := of_decide_eq_true h2
    rw [stB_t (fun z hz => h3 z (by omega))] at h
    cases h
theorem eqB_mono {f g : Nat → Int32} {k n0 n1 : Nat} (h : (n0 == n1 && stB f g 0 0 k) = false) (hk : k ≤ n0) : eqB f g n0 n1 = false := by
  unfold eqB
  rcases Bool.and_eq_false_iff.mp h with q | q
  · rw [q]; rfl
  · rw [stB_mono q hk, Bool.and_false]
theorem z_lft {i t : Nat} (hi : i < 2 ^ 30) (ht : t < 2 ^ 30) : nI i - nI t < 0 ↔ i < t := by
  rw [Int32.lt_iff_toInt_lt, pk_sub_toInt hi ht, show (0 : Int32).toInt = 0 from rfl]; omega
theorem z_lfd (i t : Nat) : nI i - nI t + Int32.ofInt (-1) = nI i - nI (t + 1) := by
  rw [← nI_1, show Int32.ofInt (-1) = -1 from rfl]
  rw [Int32.sub_eq_add_neg, Int32.sub_eq_add_neg, Int32.neg_add]
  rw [Int32.add_assoc, ← Int32.sub_eq_add_neg]
theorem z_bk (F : Nat) : nI F - nI 1 + Int32.ofInt 1 = nI F := Int32.sub_add_cancel _ _
theorem z_bk1 {F : Nat} (h : 0 < F) : nI F - nI 1 = nI (F - 1) := pk_sub h

theorem wt_le (o : Nat → Int32) (k : Nat) : wt o k ≤ 5 := by unfold wt; split <;> omega
theorem cs_lt (o : Nat → Int32) {k : Nat} (hk : k ≤ 400) : sm (fun z => if stA o z = true then wt o z else 0) k ≤ 2000 := by
  have h := sm_bound (f := fun z => if stA o z = true then wt o z else 0) (c := 5) (n := k) (fun z _ => by
    show (if stA o z = true then wt o z else 0) ≤ 5
    have := wt_le o z
    split <;> omega)
  omega
theorem cs_t {o : Nat → Int32} {k w : Nat} (h : stA o k = true) (hw : wt o k = w) : sm (fun z => if stA o z = true then wt o z else 0) k + w = sm (fun z => if stA o z = true then wt o z else 0) (k + 1) := by
  show _ = _ + (if stA o k = true then wt o k else 0)
  rw [if_pos h, hw]
theorem cs_f {o : Nat → Int32} {k : Nat} (h : stA o k = false) : sm (fun z => if stA o z = true then wt o z else 0) (k + 1) = sm (fun z => if stA o z = true then wt o z else 0) k := by
  show _ + (if stA o k = true then wt o k else 0) = _
  rw [h]; rfl
theorem wt_l {o : Nat → Int32} {k : Nat} (h : o k = (-1)) : wt o k = 2 := if_pos h
theorem wt_c {o : Nat → Int32} {k : Nat} (h : ¬ o k = (-1)) : wt o k = 5 := if_neg h

