/-! one patch more; rows that are the same; where a byte comes from -/
theorem XF.addP {cs : Nat → ClassId} {ea : Nat} {u : XU} {σ : St} {Y : va_W} {q : Pt} {mc : Int32} {v : LU} {w : Nat → Nat} (h : XF cs ea u σ Y) (hw : aP σ.2.2.1.length (w 0) (xg u 1) v)
    (hp1 : (w 0, (.inr (1, [.int (nI (w 5)), .int (nI (w 6)), .ref (w 1), .ref (w 3), .ref (w 4), .int (nI (litN (rf q.2.2) q.2.1.length)), .int (nI (costN (rf q.2.2) q.2.1.length))]) : va_E)) ∈ Y) (hp2 : (w 3, fa cs q.2.1.length (rf q.2.2)) ∈ Y) (hp3 : (w 4, fa cs (manyN (rf q.2.2) q.2.1.length) (fun i => nI (posN (rf q.2.2) q.2.1.length i))) ∈ Y) (hp4 : RM cs (w 1) (w 2) q.2.1 Y)
    (hb5 : FI σ.2.1 (w 5) q.1) (hb6 : FI σ.2.1 (w 6) q.2.1) (hx : ptOk q) (h12 : σ.2.2.1.length < 12) : XF cs ea (xuP u mc v σ.2.2.1.length w) (stP σ q) Y := by
  obtain ⟨hb, hl0, hl1, hl2, hrw, hp, hi, hh, hok⟩ := h
  have e0 : ∀ i j, j < σ.2.2.1.length → xP (xuP u mc v σ.2.2.1.length w) i j = xP u i j := fun i j hj => if_neg (by omega)
  have e1 : ∀ i, xP (xuP u mc v σ.2.2.1.length w) i σ.2.2.1.length = w i := fun i => if_pos rfl
  have hlen : (stP σ q).2.2.1.length = σ.2.2.1.length + 1 := List.length_append
  refine ⟨hb, hl0, ?_, hl2, hrw, ?_, hi, hh, ?_⟩
  · rw [hlen]; exact hl1.add hw (fun i hi => e0 0 i hi) (e1 0)
  · intro j hj
    rw [hlen] at hj
    rcases Nat.lt_succ_iff_lt_or_eq.mp hj with g1 | g1
    · rw [show psN (stP σ q).2.2.1 j = psN σ.2.2.1 j from psN_lo g1, e0 _ _ g1, e0 _ _ g1]
      refine ⟨?_, (hp j g1).2⟩
      unfold PM patE
      rw [e0 _ _ g1, e0 _ _ g1, e0 _ _ g1, e0 _ _ g1, e0 _ _ g1, e0 _ _ g1, e0 _ _ g1]
      exact (hp j g1).1
    · rw [g1, show psN (stP σ q).2.2.1 σ.2.2.1.length = q from psN_hi, e1, e1]
      refine ⟨?_, hb5, hb6⟩
      unfold PM patE
      rw [e1, e1, e1, e1, e1, e1, e1]
      exact ⟨hp1, hp2, hp3, hp4⟩
  · refine ⟨hok.1, hok.2.1, ⟨by rw [hlen]; omega, fun j hj => ?_⟩, hok.2.2.2⟩
    rw [hlen] at hj
    rcases Nat.lt_succ_iff_lt_or_eq.mp hj with g1 | g1
    · rw [show psN (stP σ q).2.2.1 j = psN σ.2.2.1 j from psN_lo g1]; exact hok.2.2.1.2 j g1
    · rw [g1, show psN (stP σ q).2.2.1 σ.2.2.1.length = q from psN_hi]; exact hx
theorem rf_map {n : Nat} {F : Nat → Int32} : ∀ i, i < n → F i = rf ((List.range n).map F) i := by
  intro i hi
  unfold rf
  rw [List.getD_eq_getElem?_getD, List.getElem?_map, List.getElem?_range hi]; rfl
theorem rf_len {n : Nat} {F : Nat → Int32} : ((List.range n).map F).length = n := by rw [List.length_map, List.length_range]
theorem eqL_of {xs ys : BL} (hx : rowOk xs) (hy : rowOk ys) (h : eqL xs ys = true) : xs = ys := by
  unfold eqL eqB at h
  rw [Bool.and_eq_true] at h
  have hn : xs.length = ys.length := eq_of_beq h.1
  have hs : ∀ k, k < xs.length → bb xs (0 + k) = bb ys (0 + k) := of_decide_eq_true h.2
  refine List.ext_getElem hn (fun i h1 h2 => ?_)
  have h3 := hs i h1
  rw [Nat.zero_add] at h3
  have h4 : bv xs i = bv ys i := (nI_eq (by have := hx.2 i; omega) (by have := hy.2 i; omega)).mp h3
  unfold bv at h4
  rw [List.getD_eq_getElem?_getD, List.getD_eq_getElem?_getD, List.getElem?_eq_getElem h1, List.getElem?_eq_getElem h2] at h4
  exact h4
theorem eqL_rf (xs : BL) : eqL xs xs = true := by
  unfold eqL eqB
  rw [Bool.and_eq_true]
  exact ⟨beq_self_eq_true _, decide_eq_true (fun _ _ => rfl)⟩
theorem eqL_iff {xs ys : BL} (hx : rowOk xs) (hy : rowOk ys) : eqL xs ys = true ↔ xs = ys := ⟨eqL_of hx hy, fun h => h ▸ eqL_rf xs⟩
theorem FI_flN {vs : List BL} {v : Nat} (hok : ∀ i, i < vs.length → rowOk (vsN vs i)) (hv : v < vs.length) : FI vs (flN vs v) (vsN vs v) ∧ flN vs v ≤ v := by
  unfold flN
  cases e : fsF (fun i => eqL (vsN vs i) (vsN vs v)) v with
  | none =>
    refine ⟨⟨hv, rfl, fun i hi h => ?_⟩, Nat.le_refl _⟩
    have h2 := fsF_no e i hi
    rw [h, eqL_rf] at h2; cases h2
  | some k =>
    obtain ⟨h1, h2, h3⟩ := fsF_of e
    refine ⟨⟨Nat.lt_trans h1 hv, eqL_of (hok k (Nat.lt_trans h1 hv)) (hok v hv) h2, fun i hi h => ?_⟩, Nat.le_of_lt h1⟩
    have h4 := h3 i hi
    rw [h, eqL_rf] at h4; cases h4
theorem FI.one {vs : List BL} {k j : Nat} {xs : BL} (h : FI vs k xs) (g : FI vs j xs) : k = j := by
  rcases Nat.lt_trichotomy k j with h1 | h1 | h1
  · exact absurd h.2.1 (g.2.2 k h1)
  · exact h1
  · exact absurd g.2.1 (h.2.2 j h1)
theorem dif_ok {B : Nat → Option Nat → Option Nat} {size N n0 : Nat} (hB : ∀ p l b, B p l = some b → b < N) (hN : N * size ≤ n0) (hs : 0 < size) (q : Nat) : difO B size q = (-1) ∨ ∃ j, j < n0 ∧ difO B size q = nI j := by
  obtain ⟨h1, h2, h3⟩ := st_ok (size := size) hB q
  have hm : ∀ b, (mdS B size q (stS B size q)).1 = some b → b < N := by
    intro b hb
    unfold mdS at hb
    by_cases z : (stS B size q).2 = 0
    · rw [if_pos z] at hb
      cases e : B q (stS B size q).1 with
      | none => rw [e] at hb; exact h1 b hb
      | some b2 => rw [e] at hb; cases hb; exact hB _ _ _ e
    · rw [if_neg z] at hb; exact h1 b hb
  unfold difO outS
  by_cases z : (mdS B size q (stS B size q)).2 = 0
  · left; rw [if_pos z]
  · rw [if_neg z]
    cases e : (mdS B size q (stS B size q)).1 with
    | none => exact Or.inl rfl
    | some b =>
      right
      have g1 : (b + 1) * size ≤ N * size := Nat.mul_le_mul_right _ (hm b e)
      have g2 : size ≤ (b + 1) * size := Nat.le_mul_of_pos_left _ (Nat.succ_pos b)
      exact ⟨_, by omega, rfl⟩

