/-! what a patch's instructions are, read off its origins -/
def PG (p : Pt) : Prop := ∀ k, k < p.2.1.length → rf p.2.2 k = (-1) ∨ ∃ j, j < p.1.length ∧ rf p.2.2 k = nI j ∧ bv p.1 j = bv p.2.1 k
theorem stA_no {o : Nat → Int32} {k : Nat} (h : stA o k = false) : k ≠ 0 ∧ o k = (if o (k - 1) = (-1) then (-1) else o (k - 1) + nI 1) := by
  unfold stA at h
  rw [Bool.or_eq_false_iff] at h
  exact ⟨of_decide_eq_false h.1, Decidable.of_not_not (of_decide_eq_false h.2)⟩
theorem stA_is {o : Nat → Int32} {k : Nat} (h : stA o k = true) (h0 : k ≠ 0) : ¬ o k = (if o (k - 1) = (-1) then (-1) else o (k - 1) + nI 1) := by
  unfold stA at h
  rw [Bool.or_eq_true] at h
  rcases h with h | h
  · exact absurd (of_decide_eq_true h) h0
  · exact of_decide_eq_true h
theorem stA_0 (o : Nat → Int32) : stA o 0 = true := by simp [stA]
def atN (o : Nat → Int32) (n i : Nat) : Nat := if i < manyN o n then posN o n i else n
section IN1
variable {o : Nat → Int32} {n i j : Nat}
theorem ps_ok (hi : i < manyN o n) : posN o n i < n ∧ stA o (posN o n i) = true ∧ ct (stA o) (posN o n i) = i := kth_ok (P := stA o) hi
theorem en_ok (hi : i < manyN o n) : posN o n i < endN o n i ∧ endN o n i ≤ n ∧ ct (stA o) (endN o n i) = i + 1 := by
  obtain ⟨h1, h2, h3⟩ := ps_ok hi
  unfold endN
  by_cases q : i + 1 < manyN o n
  · rw [if_pos q]
    obtain ⟨g1, g2, g3⟩ := ps_ok q
    refine ⟨?_, Nat.le_of_lt g1, g3⟩
    rcases Nat.lt_or_ge (posN o n i) (posN o n (i + 1)) with z | z
    · exact z
    · have := ct_mono (stA o) z
      omega
  · rw [if_neg q]
    refine ⟨h1, Nat.le_refl _, ?_⟩
    show manyN o n = i + 1
    omega
theorem at_s (hi : i < manyN o n) : atN o n i = posN o n i := if_pos hi
theorem at_e : atN o n (i + 1) = endN o n i := rfl
theorem at_n (hi : ¬ i < manyN o n) : atN o n i = n := if_neg hi
theorem at_0 : atN o n 0 = 0 := by
  unfold atN
  by_cases q : 0 < manyN o n
  · rw [if_pos q]
    obtain ⟨h1, h2, h3⟩ := ps_ok q
    exact kth_uq (P := stA o) (n := n) (k := 0) (by omega) (stA_0 o)
  · rw [if_neg q]
    rcases Nat.eq_zero_or_pos n with z | z
    · exact z
    · have h1 : ct (stA o) 1 = 1 := ct_t (n := 0) (stA_0 o)
      have h2 := ct_mono (stA o) (show 1 ≤ n from z)
      exact absurd (show 0 < ct (stA o) n by omega) q
theorem run_no {k : Nat} (hi : i < manyN o n) (h1 : posN o n i < k) (h2 : k < endN o n i) : stA o k = false := by
  obtain ⟨g1, g2, g3⟩ := ps_ok hi
  obtain ⟨e1, e2, e3⟩ := en_ok hi
  cases hs : stA o k with
  | false => rfl
  | true =>
    have a1 := ct_mono (stA o) (show posN o n i + 1 ≤ k from h1)
    have a2 := ct_mono (stA o) (show k + 1 ≤ endN o n i from h2)
    rw [ct_t g2] at a1
    rw [ct_t hs] at a2
    omega
theorem run_l (hi : i < manyN o n) (h : o (posN o n i) = (-1)) : ∀ d, posN o n i + d < endN o n i → o (posN o n i + d) = (-1)
  | 0, _ => h
  | d + 1, hd => by
    have ih := run_l hi h d (by omega)
    have h2 := (stA_no (run_no hi (show posN o n i < posN o n i + (d + 1) by omega) hd)).2
    rw [h2, show posN o n i + (d + 1) - 1 = posN o n i + d by omega, ih]
    exact if_pos rfl
theorem run_c (hi : i < manyN o n) (h : o (posN o n i) = nI j) (hj : j + n < 2 ^ 31) : ∀ d, posN o n i + d < endN o n i → o (posN o n i + d) = nI (j + d)
  | 0, _ => h
  | d + 1, hd => by
    have ih := run_c hi h hj d (by omega)
    have h2 := (stA_no (run_no hi (show posN o n i < posN o n i + (d + 1) by omega) hd)).2
    have e2 := (en_ok hi).2.1
    rw [h2, show posN o n i + (d + 1) - 1 = posN o n i + d by omega, ih, if_neg (z_nm1 (by omega)), nI_add]
    rfl
theorem lit_l (hi : i < manyN o n) (h : o (posN o n i) = (-1)) : ∀ d, posN o n i + d ≤ endN o n i → litN o (posN o n i + d) = litN o (posN o n i) + d
  | 0, _ => rfl
  | d + 1, hd => by
    have ih := lit_l hi h d (by omega)
    have h2 : ltA o (posN o n i + d) = true := decide_eq_true (run_l hi h d (by omega))
    have h3 : litN o (posN o n i + (d + 1)) = litN o (posN o n i + d) + 1 := ct_t h2
    omega
theorem lit_c (hi : i < manyN o n) (h : o (posN o n i) = nI j) (hj : j + n < 2 ^ 31) : ∀ d, posN o n i + d ≤ endN o n i → litN o (posN o n i + d) = litN o (posN o n i)
  | 0, _ => rfl
  | d + 1, hd => by
    have ih := lit_c hi h hj d (by omega)
    have e2 := (en_ok hi).2.1
    have h2 : ltA o (posN o n i + d) = false := decide_eq_false (by rw [run_c hi h hj d (by omega)]; exact z_nm1 (by omega))
    have h3 : litN o (posN o n i + (d + 1)) = litN o (posN o n i + d) := ct_f h2
    omega
theorem lit_next (hi : i + 1 < manyN o n) (h : o (posN o n i) = (-1)) : ¬ o (posN o n (i + 1)) = (-1) := by
  have h0 : i < manyN o n := by omega
  obtain ⟨e1, e2, e3⟩ := en_ok h0
  have ee : endN o n i = posN o n (i + 1) := if_pos hi
  obtain ⟨g1, g2, g3⟩ := ps_ok hi
  have hl := run_l h0 h (posN o n (i + 1) - 1 - posN o n i) (by omega)
  rw [show posN o n i + (posN o n (i + 1) - 1 - posN o n i) = posN o n (i + 1) - 1 by omega] at hl
  intro z
  refine stA_is g2 (by omega) ?_
  rw [hl, if_pos rfl]
  exact z
theorem tell_l {v : Nat → Nat} (h : o (posN o n i) = (-1)) : tellI o v n i 0 = nI 1 ∧ tellI o v n i 1 = (-1) ∧ tellI o v n i 2 = nI (endN o n i - posN o n i) ∧ tellI o v n i 3 = nI (wsum v (posN o n i) (endN o n i - posN o n i)) := by
  refine ⟨?_, ?_, ?_, ?_⟩
  · unfold tellI
    rw [if_pos rfl]
    exact (bT (decide_eq_true h)).symm
  · unfold tellI
    rw [if_neg (by decide), if_pos rfl]
    exact h
  · unfold tellI
    rw [if_neg (by decide), if_neg (by decide), if_pos rfl]
  · unfold tellI
    rw [if_neg (by decide), if_neg (by decide), if_neg (by decide), if_pos h]
theorem tell_c {v : Nat → Nat} (h : o (posN o n i) = nI j) (hj : j < 2 ^ 31) : tellI o v n i 0 = nI 0 ∧ tellI o v n i 1 = nI j ∧ tellI o v n i 2 = nI (endN o n i - posN o n i) := by
  refine ⟨?_, ?_, ?_⟩
  · unfold tellI
    rw [if_pos rfl]
    exact (bF (decide_eq_false (by rw [h]; exact z_nm1 hj))).symm
  · unfold tellI
    rw [if_neg (by decide), if_pos rfl]
    exact h
  · unfold tellI
    rw [if_neg (by decide), if_neg (by decide), if_pos rfl]
end IN1
theorem cpy {p : Pt} (hg : PG p) (hp : ptOk p) {i : Nat} (hi : i < manyN (rf p.2.2) p.2.1.length) (h : ¬ rf p.2.2 (posN (rf p.2.2) p.2.1.length i) = (-1)) :
    ∃ j, rf p.2.2 (posN (rf p.2.2) p.2.1.length i) = nI j ∧ j + (endN (rf p.2.2) p.2.1.length i - posN (rf p.2.2) p.2.1.length i) ≤ p.1.length ∧ stB (bb p.1) (bb p.2.1) j (posN (rf p.2.2) p.2.1.length i) (endN (rf p.2.2) p.2.1.length i - posN (rf p.2.2) p.2.1.length i) = true := by
  obtain ⟨g1, g2, g3⟩ := ps_ok hi
  obtain ⟨e1, e2, e3⟩ := en_ok hi
  have l1 := hp.1.1
  have l2 := hp.2.1.1
  rcases hg _ g1 with z | ⟨j, hj, ej, eb⟩
  · exact absurd z h
  · have key : ∀ d, posN (rf p.2.2) p.2.1.length i + d < endN (rf p.2.2) p.2.1.length i → j + d < p.1.length ∧ bv p.1 (j + d) = bv p.2.1 (posN (rf p.2.2) p.2.1.length i + d) := fun d hd => by
      have a1 := run_c hi ej (by omega) d hd
      rcases hg _ (show posN (rf p.2.2) p.2.1.length i + d < p.2.1.length by omega) with z | ⟨j2, hj2, ej2, eb2⟩
      · rw [a1] at z
        exact absurd z (z_nm1 (by omega))
      · have a3 : j2 = j + d := (nI_eq (by omega) (by omega)).mp (ej2.symm.trans a1)
        rw [a3] at hj2 eb2
        exact ⟨hj2, eb2⟩
    refine ⟨j, ej, ?_, stB_t (fun k hk => ?_)⟩
    · have := (key (endN (rf p.2.2) p.2.1.length i - posN (rf p.2.2) p.2.1.length i - 1) (by omega)).1
      omega
    · exact congrArg nI (key k (by omega)).2
/-! costs -/
theorem cost_b (o : Nat → Int32) : ∀ n, sm (fun k => if stA o k = true then wt o k else 0) n + 3 * litN o n ≤ 5 * n
  | 0 => Nat.le_refl 0
  | n + 1 => by
    have ih := cost_b o n
    have e1 : sm (fun k => if stA o k = true then wt o k else 0) (n + 1) = sm (fun k => if stA o k = true then wt o k else 0) n + (if stA o n = true then wt o n else 0) := rfl
    have e2 : litN o (n + 1) = litN o n + (if ltA o n = true then 1 else 0) := rfl
    have h : (if stA o n = true then wt o n else 0) + 3 * (if ltA o n = true then 1 else 0) ≤ 5 := by
      by_cases z : o n = (-1)
      · have h1 : wt o n = 2 := if_pos z
        have h2 : (if ltA o n = true then 1 else 0) = 1 := if_pos (decide_eq_true z)
        rw [h1, h2]
        split <;> decide
      · have h1 : wt o n = 5 := if_neg z
        have h2 : (if ltA o n = true then 1 else 0) = 0 := if_neg (fun q => z (of_decide_eq_true q))
        rw [h1, h2]
        split <;> decide
    rw [e1, e2]
    omega
theorem cost_lo (o : Nat → Int32) (n : Nat) : litN o n ≤ costN o n := Nat.le_add_right _ _
theorem lit_le (o : Nat → Int32) (n : Nat) : litN o n ≤ n := ct_le _ n
theorem cost_hi (o : Nat → Int32) (n : Nat) : costN o n + 2 * litN o n ≤ 5 * n := by
  have h := cost_b o n
  have e : costN o n = litN o n + sm (fun k => if stA o k = true then wt o k else 0) n := rfl
  omega
theorem cost_24 (o : Nat → Int32) {n : Nat} (h : n ≤ 400) : costN o n ≤ 2400 := by
  have := cost_hi o n
  omega
theorem lit_all {o : Nat → Int32} : ∀ {n : Nat}, (∀ k, k < n → o k = (-1)) → litN o n = n
  | 0, _ => rfl
  | n + 1, h => by
    have h1 : litN o (n + 1) = litN o n + 1 := ct_t (decide_eq_true (h n (Nat.lt_succ_self n)))
    rw [h1, lit_all (fun k hk => h k (by omega))]
/-! the difference's origins -/
theorem md_M {B : Nat → Option Nat → Option Nat} {M : Nat → Nat → Prop} {size : Nat} (hB : ∀ p l b, B p l = some b → M b p) {p : Nat} (h : (stS B size p).2 = 0 ∨ ∃ b p0, (stS B size p).1 = some b ∧ p + (stS B size p).2 = p0 + size ∧ (stS B size p).2 ≤ size ∧ M b p0) :
    (mdS B size p (stS B size p)).2 = 0 ∨ ∃ b p0, (mdS B size p (stS B size p)).1 = some b ∧ p + (mdS B size p (stS B size p)).2 = p0 + size ∧ (mdS B size p (stS B size p)).2 ≤ size ∧ M b p0 := by
  unfold mdS
  by_cases z : (stS B size p).2 = 0
  · rw [if_pos z]
    cases e : B p (stS B size p).1 with
    | none => exact Or.inl rfl
    | some b => exact Or.inr ⟨b, p, rfl, rfl, Nat.le_refl _, hB _ _ _ e⟩
  · rw [if_neg z]
    exact h
theorem st_M {B : Nat → Option Nat → Option Nat} {M : Nat → Nat → Prop} {size : Nat} (hB : ∀ p l b, B p l = some b → M b p) : ∀ p, (stS B size p).2 = 0 ∨ ∃ b p0, (stS B size p).1 = some b ∧ p + (stS B size p).2 = p0 + size ∧ (stS B size p).2 ≤ size ∧ M b p0
  | 0 => Or.inl rfl
  | p + 1 => by
    have e : stS B size (p + 1) = ((mdS B size p (stS B size p)).1, (mdS B size p (stS B size p)).2 - 1) := rfl
    rw [e]
    rcases md_M (size := size) hB (st_M hB p) with h | ⟨b, p0, h1, h2, h3, h4⟩
    · left
      show (mdS B size p (stS B size p)).2 - 1 = 0
      omega
    · by_cases z : (mdS B size p (stS B size p)).2 = 0
      · left
        show (mdS B size p (stS B size p)).2 - 1 = 0
        omega
      · right
        refine ⟨b, p0, h1, ?_, ?_, h4⟩
        · show p + 1 + ((mdS B size p (stS B size p)).2 - 1) = p0 + size
          omega
        · show (mdS B size p (stS B size p)).2 - 1 ≤ size
          omega
theorem dif_M {B : Nat → Option Nat → Option Nat} {M : Nat → Nat → Prop} {size : Nat} (hB : ∀ p l b, B p l = some b → M b p) (p : Nat) : difO B size p = (-1) ∨ ∃ b d, difO B size p = nI (b * size + d) ∧ d < size ∧ d ≤ p ∧ M b (p - d) := by
  unfold difO outS
  by_cases z : (mdS B size p (stS B size p)).2 = 0
  · left
    rw [if_pos z]
  · rw [if_neg z]
    rcases md_M (size := size) hB (st_M hB p) with h | ⟨b, p0, h1, h2, h3, h4⟩
    · exact absurd h z
    · right
      refine ⟨b, size - (mdS B size p (stS B size p)).2, ?_, by omega, by omega, ?_⟩
      · rw [h1]
        show nI ((b + 1) * size - (mdS B size p (stS B size p)).2) = nI (b * size + (size - (mdS B size p (stS B size p)).2))
        rw [Nat.succ_mul]
        congr 1
        omega
      · rw [show p - (size - (mdS B size p (stS B size p)).2) = p0 by omega]
        exact h4
theorem btc_M {f g : Nat → Int32} {n0 n1 place size b : Nat} {last : Option Nat} (h : btc f n0 g n1 place size last = some b) : b < n0 / size ∧ stB f g (b * size) place size = true := by
  by_cases h1 : n1 < place + size
  · rw [btc_lo h1] at h; cases h
  · cases last with
    | none =>
      rw [btc_no (Nat.le_of_not_lt h1)] at h
      exact ⟨(fsF_of h).1, (fsF_of h).2.1⟩
    | some q =>
      by_cases h2 : q + 1 < n0 / size
      · cases h3 : stB f g ((q + 1) * size) place size with
        | true =>
          rw [btc_nx (Nat.le_of_not_lt h1) h2 h3] at h
          cases h
          exact ⟨h2, h3⟩
        | false =>
          rw [btc_s2 (Nat.le_of_not_lt h1) h3] at h
          exact ⟨(fsF_of h).1, (fsF_of h).2.1⟩
      · rw [btc_s1 (Nat.le_of_not_lt h1) h2] at h
        exact ⟨(fsF_of h).1, (fsF_of h).2.1⟩
abbrev difP (xs ys : BL) (size : Nat) : Pt := (xs, ys, ((List.range ys.length).map (difO (BT (bb xs) xs.length (bb ys) ys.length size) size)))
theorem PG_dif {xs ys : BL} (hx : rowOk xs) (hy : rowOk ys) {size : Nat} (hs : 0 < size) : PG (difP xs ys size) := by
  intro k hk
  have hk : k < ys.length := hk
  have e : rf (difP xs ys size).2.2 k = difO (BT (bb xs) xs.length (bb ys) ys.length size) size k := (rf_map k hk).symm
  rw [e]
  rcases dif_M (M := fun b p => b < xs.length / size ∧ stB (bb xs) (bb ys) (b * size) p size = true) (B := BT (bb xs) xs.length (bb ys) ys.length size) (fun p l b h => btc_M h) k with h | ⟨b, d, h1, h2, h3, h4, h5⟩
  · exact Or.inl h
  · right
    have a1 : (b + 1) * size ≤ xs.length / size * size := Nat.mul_le_mul_right _ h4
    have a2 : xs.length / size * size ≤ xs.length := Nat.div_mul_le_self _ _
    have a3 : (b + 1) * size = b * size + size := Nat.succ_mul _ _
    refine ⟨b * size + d, by show b * size + d < xs.length; omega, h1, ?_⟩
    have h6 := of_decide_eq_true h5 d h2
    rw [show k - d + d = k by omega] at h6
    have b1 := hx.2 (b * size + d)
    have b2 := hy.2 k
    show bv xs (b * size + d) = bv ys k
    exact (nI_eq (by omega) (by omega)).mp h6
theorem dif_none {xs ys : BL} {size : Nat} (hs : 0 < size) (h : xs.length < size) : litN (rf (difP xs ys size).2.2) ys.length = ys.length := by
  refine lit_all (fun k hk => ?_)
  have e : rf (difP xs ys size).2.2 k = difO (BT (bb xs) xs.length (bb ys) ys.length size) size k := (rf_map k hk).symm
  rw [e]
  rcases dif_M (M := fun b p => b < xs.length / size ∧ stB (bb xs) (bb ys) (b * size) p size = true) (B := BT (bb xs) xs.length (bb ys) ys.length size) (fun p l b h => btc_M h) k with h1 | ⟨b, d, h1, h2, h3, h4, h5⟩
  · exact h1
  · rw [Nat.div_eq_of_lt h] at h4
    exact absurd h4 (Nat.not_lt_zero _)
abbrev cmpP (p q : Pt) : Pt := (p.1, q.2.1, ((List.range q.2.1.length).map (cmpO (rf p.2.2) (rf q.2.2))))
theorem PG_cmp {p q : Pt} (hp : PG p) (hq : PG q) (h : p.2.1 = q.1) (hl : q.1.length ≤ 400) : PG (cmpP p q) := by
  intro k hk
  have hk : k < q.2.1.length := hk
  have e : rf (cmpP p q).2.2 k = cmpO (rf p.2.2) (rf q.2.2) k := (rf_map k hk).symm
  rw [e]
  rcases hq k hk with z | ⟨j, hj, ej, eb⟩
  · exact Or.inl (cmp_l z).symm
  · rw [← cmp_c ej (by omega)]
    rcases hp j (by rw [h]; exact hj) with z | ⟨i, hi, ei, eb2⟩
    · exact Or.inl z
    · exact Or.inr ⟨i, hi, ei, by rw [eb2, h, eb]⟩
/-! the least way: bounds from above -/
def LQ (x y : Option Nat) : Prop := ∀ k, y = some k → ∃ k2, k2 ≤ k ∧ x = some k2
theorem LQ.rf (x : Option Nat) : LQ x x := fun k h => ⟨k, Nat.le_refl k, h⟩
theorem LQ.tr {x y z : Option Nat} (h1 : LQ x y) (h2 : LQ y z) : LQ x z := fun k h => by
  obtain ⟨k2, g1, g2⟩ := h2 k h
  obtain ⟨k3, g3, g4⟩ := h1 k2 g2
  exact ⟨k3, Nat.le_trans g3 g1, g4⟩
theorem LQ.o1 (x y : Option Nat) : LQ (om x y) x := fun k h => by
  subst h
  cases y with
  | none => exact ⟨k, Nat.le_refl k, rfl⟩
  | some c => exact ⟨min k c, Nat.min_le_left k c, rfl⟩
theorem LQ.o2 (x : Option Nat) (c : Nat) : LQ (om x (some c)) (some c) := fun k h => by
  cases h
  cases x with
  | none => exact ⟨c, Nat.le_refl c, rfl⟩
  | some a => exact ⟨min a c, Nat.min_le_right a c, rfl⟩
theorem xSt_LQ (R : Nat → Option Nat) (bi gi w i : Nat) : LQ (xSt R bi gi w i) (R i) := by
  unfold xSt
  cases hA : R bi with
  | none => exact LQ.rf _
  | some a =>
    show LQ (uo R gi (om (R gi) (some (a + w))) i) (R i)
    by_cases e : i = gi
    · rw [e, uo_self]; exact LQ.o1 _ _
    · rw [uo_ne _ _ e]; exact LQ.rf _
theorem kwI_LQ {b g wn : Nat → Nat} {R : Nat → Option Nat} (i : Nat) : ∀ j d, LQ (kwI b g wn R (j + d) i) (kwI b g wn R j i)
  | j, 0 => LQ.rf _
  | j, d + 1 => (xSt_LQ _ _ _ _ i).tr (kwI_LQ i j d)
theorem kwI_st {b g wn : Nat → Nat} {R : Nat → Option Nat} {j np a : Nat} (hj : j < np) (h : LQ (R (b j)) (some a)) : LQ (kwI b g wn R np (g j)) (some (a + wn j)) := by
  have h1 : LQ (kwI b g wn R j (b j)) (some a) := by
    have h2 := kwI_LQ (b := b) (g := g) (wn := wn) (R := R) (b j) 0 j
    rw [Nat.zero_add] at h2
    exact h2.tr h
  obtain ⟨a2, h3, h4⟩ := h1 a rfl
  have h5 : LQ (kwI b g wn R (j + 1) (g j)) (some (a + wn j)) := by
    show LQ (xSt (kwI b g wn R j) (b j) (g j) (wn j) (g j)) _
    unfold xSt
    rw [h4]
    show LQ (uo (kwI b g wn R j) (g j) (om (kwI b g wn R j (g j)) (some (a2 + wn j))) (g j)) _
    rw [uo_self]
    have h7 : LQ (some (a2 + wn j)) (some (a + wn j)) := fun k h => ⟨a2 + wn j, by cases h; omega, rfl⟩
    exact (LQ.o2 _ _).tr h7
  have h6 := kwI_LQ (b := b) (g := g) (wn := wn) (R := R) (g j) (j + 1) (np - (j + 1))
  rw [show j + 1 + (np - (j + 1)) = np by omega] at h6
  exact h6.tr h5
theorem kwO_LQ {b g wn : Nat → Nat} {z : Nat → Option Nat} {np : Nat} (i : Nat) : ∀ r d, LQ (kwO b g wn z np (r + d) i) (kwO b g wn z np r i)
  | r, 0 => LQ.rf _
  | r, d + 1 => by
    have h := kwI_LQ (b := b) (g := g) (wn := wn) (R := kwO b g wn z np (r + d)) i 0 np
    rw [Nat.zero_add] at h
    exact h.tr (kwO_LQ i r d)
theorem kwO_up {b g wn : Nat → Nat} {z : Nat → Option Nat} {np i r s : Nat} {x : Option Nat} (hr : r ≤ s) (h : LQ (kwO b g wn z np r i) x) : LQ (kwO b g wn z np s i) x := by
  have h2 := kwO_LQ (b := b) (g := g) (wn := wn) (z := z) (np := np) i r (s - r)
  rw [show r + (s - r) = s by omega] at h2
  exact h2.tr h
/-- patches j1 and j2 lead there one after the other, patch j3 at once -/
theorem lead_up {cs : Nat → ClassId} {ea : Nat} {u : XU} {σ : St} {Y : va_W} (hF : XF cs ea u σ Y) {v x w j1 j2 j3 : Nat} (hv : v < σ.2.1.length) (hx : x < σ.2.1.length) (hw : w < σ.2.1.length) (h1 : j1 < σ.2.2.1.length) (h2 : j2 < σ.2.2.1.length) (h3 : j3 < σ.2.2.1.length) (h22 : 2 ≤ σ.2.2.1.length)
    (b1 : (psN σ.2.2.1 j1).1 = vsN σ.2.1 v) (g1 : (psN σ.2.2.1 j1).2.1 = vsN σ.2.1 x) (b2 : (psN σ.2.2.1 j2).1 = vsN σ.2.1 x) (g2 : (psN σ.2.2.1 j2).2.1 = vsN σ.2.1 w) (b3 : (psN σ.2.2.1 j3).1 = vsN σ.2.1 v) (g3 : (psN σ.2.2.1 j3).2.1 = vsN σ.2.1 w)
    (wn : Nat → Nat) (hwn : ∀ j, j < σ.2.2.1.length → wn j ≤ 2400) : ∃ t, t ≤ wn j3 ∧ t ≤ wn j1 + wn j2 ∧ lwO u (fun j => nI (wn j)) σ.2.2.1.length (flN σ.2.1 v) σ.2.2.1.length (flN σ.2.1 w) = nI t := by
  obtain ⟨-, -, -, -, -, hp, -, -, hok⟩ := hF
  have h12 := hok.2.2.1.1
  have fv := (FI_flN hok.2.1.2 hv).1
  have fx := (FI_flN hok.2.1.2 hx).1
  have fw := (FI_flN hok.2.1.2 hw).1
  have e1 : xP u 5 j1 = flN σ.2.1 v := by have q := (hp j1 h1).2.1; rw [b1] at q; exact q.one fv
  have e2 : xP u 6 j1 = flN σ.2.1 x := by have q := (hp j1 h1).2.2; rw [g1] at q; exact q.one fx
  have e3 : xP u 5 j2 = flN σ.2.1 x := by have q := (hp j2 h2).2.1; rw [b2] at q; exact q.one fx
  have e4 : xP u 6 j2 = flN σ.2.1 w := by have q := (hp j2 h2).2.2; rw [g2] at q; exact q.one fw
  have e5 : xP u 5 j3 = flN σ.2.1 v := by have q := (hp j3 h3).2.1; rw [b3] at q; exact q.one fv
  have e6 : xP u 6 j3 = flN σ.2.1 w := by have q := (hp j3 h3).2.2; rw [g3] at q; exact q.one fw
  rw [lwO_o (u := u) (wt := fun j => nI (wn j)) (b := xP u 5) (g := xP u 6) (wn := wn) (np := σ.2.2.1.length) (v := flN σ.2.1 v) h12 (fun _ _ => rfl) (fun _ _ => rfl) (fun _ _ => rfl) hwn σ.2.2.1.length h12 (flN σ.2.1 w)]
  have s0 : LQ (kwO (xP u 5) (xP u 6) wn (fun i => if i = flN σ.2.1 v then some 0 else none) σ.2.2.1.length 0 (flN σ.2.1 v)) (some 0) := by
    show LQ (if flN σ.2.1 v = flN σ.2.1 v then some 0 else none) (some 0)
    rw [if_pos rfl]; exact LQ.rf _
  have s3 : LQ (kwO (xP u 5) (xP u 6) wn (fun i => if i = flN σ.2.1 v then some 0 else none) σ.2.2.1.length 1 (flN σ.2.1 w)) (some (0 + wn j3)) := by
    rw [← e6]
    exact kwI_st (b := xP u 5) (g := xP u 6) (wn := wn) h3 (by rw [e5]; exact s0)
  have s1 : LQ (kwO (xP u 5) (xP u 6) wn (fun i => if i = flN σ.2.1 v then some 0 else none) σ.2.2.1.length 1 (flN σ.2.1 x)) (some (0 + wn j1)) := by
    rw [← e2]
    exact kwI_st (b := xP u 5) (g := xP u 6) (wn := wn) h1 (by rw [e1]; exact s0)
  have s2 : LQ (kwO (xP u 5) (xP u 6) wn (fun i => if i = flN σ.2.1 v then some 0 else none) σ.2.2.1.length 2 (flN σ.2.1 w)) (some (0 + wn j1 + wn j2)) := by
    rw [← e4]
    exact kwI_st (b := xP u 5) (g := xP u 6) (wn := wn) h2 (by rw [e3]; exact s1)
  obtain ⟨t1, c1, c2⟩ := kwO_up (s := σ.2.2.1.length) (by omega) s3 _ rfl
  obtain ⟨t2, c3, c4⟩ := kwO_up (s := σ.2.2.1.length) h22 s2 _ rfl
  rw [c2] at c4
  cases c4
  rw [c2]
  exact ⟨t1, by omega, by omega, rfl⟩
theorem lead_self {cs : Nat → ClassId} {ea : Nat} {u : XU} {σ : St} {Y : va_W} (hF : XF cs ea u σ Y) {v : Nat} (wn : Nat → Nat) (hwn : ∀ j, j < σ.2.2.1.length → wn j ≤ 2400) : lwO u (fun j => nI (wn j)) σ.2.2.1.length (flN σ.2.1 v) σ.2.2.1.length (flN σ.2.1 v) = nI 0 := by
  have h12 := hF.2.2.2.2.2.2.2.2.2.2.1.1
  rw [lwO_o (u := u) (wt := fun j => nI (wn j)) (b := xP u 5) (g := xP u 6) (wn := wn) (np := σ.2.2.1.length) (v := flN σ.2.1 v) h12 (fun _ _ => rfl) (fun _ _ => rfl) (fun _ _ => rfl) hwn σ.2.2.1.length h12 (flN σ.2.1 v)]
  have s0 : LQ (kwO (xP u 5) (xP u 6) wn (fun i => if i = flN σ.2.1 v then some 0 else none) σ.2.2.1.length 0 (flN σ.2.1 v)) (some 0) := by
    show LQ (if flN σ.2.1 v = flN σ.2.1 v then some 0 else none) (some 0)
    rw [if_pos rfl]; exact LQ.rf _
  obtain ⟨t, c1, c2⟩ := kwO_up (s := σ.2.2.1.length) (Nat.zero_le _) s0 0 rfl
  rw [c2]
  exact congrArg nI (Nat.le_zero.mp c1)
/-! the number that a row's bytes are fed by -/
def nmB (v : Nat → Nat) (p : Nat) : Nat → Nat
  | 0 => 18446744073709551615
  | k + 1 => 2 ^ 8 * nmB v p k + v (p + k)
theorem nm_or {N w : Nat} (h : w < 256) : lN (N * 2 ^ 8) ||| lN w = lN (2 ^ 8 * N + w) := by
  rw [Nat.mul_comm]
  exact fb_or_sumL (k := 8) N h
theorem nm_0 (v : Nat → Nat) (p : Nat) : (-1 : Int64) = lN (nmB v p 0) := by
  show (-1 : Int64) = lN 18446744073709551615
  decide
theorem nm_div {v : Nat → Nat} {p : Nat} (hv : ∀ i, v i < 256) : ∀ (i k : Nat), i ≤ k → nmB v p k / 2 ^ (8 * i) = nmB v p (k - i)
  | 0, k, _ => by rw [Nat.mul_zero, Nat.pow_zero, Nat.div_one, Nat.sub_zero]
  | i + 1, k, h => by
    obtain ⟨m, rfl⟩ : ∃ m, k = m + 1 := ⟨k - 1, by omega⟩
    have hw := hv (p + m)
    rw [show 8 * (i + 1) = 8 + 8 * i by omega, Nat.pow_add, ← Nat.div_div_eq_div_mul, show nmB v p (m + 1) / 2 ^ 8 = nmB v p m from by show (2 ^ 8 * nmB v p m + v (p + m)) / 2 ^ 8 = _; omega, nm_div hv i m (by omega)]
    congr 1
    omega
theorem nm_mod {v : Nat → Nat} {p k : Nat} (hv : ∀ i, v i < 256) (h : 0 < k) : nmB v p k % 256 = v (p + (k - 1)) := by
  obtain ⟨m, rfl⟩ : ∃ m, k = m + 1 := ⟨k - 1, by omega⟩
  have hw := hv (p + m)
  show (2 ^ 8 * nmB v p m + v (p + m)) % 256 = _
  rw [show m + 1 - 1 = m by omega]
  omega
theorem fdB_lN (N : Nat) {i : Nat} (hi : i < 8) : fdB (lN N) i = N / 2 ^ (8 * i) % 256 := by
  unfold fdB
  have e0 : lN N = lN (N % 2 ^ 64) := wb_mod N
  have h64 : N % 2 ^ 64 < 2 ^ 64 := Nat.mod_lt _ (Nat.two_pow_pos 64)
  have hq : N % 2 ^ 64 / 2 ^ (8 * i) < 2 ^ 64 := Nat.lt_of_le_of_lt (Nat.div_le_self _ _) h64
  have e1 := wb_shr (n := N % 2 ^ 64) (k := 8 * i) h64 (by omega)
  rw [← e0] at e1
  have e2 : ((lN N).toUInt64 >>> ((nI (8 * i)).toInt64.toUInt64 &&& Int64.toUInt64 63)).toNat = N % 2 ^ 64 / 2 ^ (8 * i) := by
    have e3 := congrArg (fun z : Int64 => z.toBitVec.toNat) e1
    rw [wb_tn hq] at e3
    exact e3
  rw [e2]
  have e4 : 2 ^ 64 = 2 ^ (8 * i) * 2 ^ (64 - 8 * i) := by rw [← Nat.pow_add]; congr 1; omega
  rw [e4, Nat.mod_mul_right_div_self, Nat.mod_mod_of_dvd]
  have e5 : 2 ^ (64 - 8 * i) = 256 * 2 ^ (56 - 8 * i) := by
    rw [show 64 - 8 * i = 8 + (56 - 8 * i) by omega, Nat.pow_add]
  exact ⟨_, e5⟩
theorem fd_take {xs : BL} (hx : rowOk xs) {p n : Nat} (hn : n ≤ 8) (h : p + n ≤ xs.length) : xs.take p ++ fdL (lN (nmB (bv xs) p n)) n = xs.take (p + n) := by
  refine List.ext_getElem ?_ (fun i h1 h2 => ?_)
  · rw [List.length_append, fdL_len, List.length_take, List.length_take]; omega
  · have hi : i < p + n := by rw [List.length_take] at h2; omega
    have hl : (xs.take p).length = p := by rw [List.length_take]; omega
    rw [List.getElem_take]
    by_cases q : i < p
    · rw [List.getElem_append_left (by rw [hl]; exact q), List.getElem_take]
    · rw [List.getElem_append_right (by rw [hl]; omega)]
      have e1 : (fdL (lN (nmB (bv xs) p n)) n)[i - (xs.take p).length]'(by rw [fdL_len, hl]; omega) = fdB (lN (nmB (bv xs) p n)) (n - 1 - (i - p)) := by
        unfold fdL
        rw [List.getElem_map, List.getElem_range, hl]
      rw [e1, fdB_lN _ (by omega), nm_div hx.2 _ _ (by omega), nm_mod hx.2 (by omega)]
      rw [show p + (n - (n - 1 - (i - p)) - 1) = i by omega]
      unfold bv
      rw [List.getD_eq_getElem?_getD, List.getElem?_eq_getElem (by omega)]
      rfl
