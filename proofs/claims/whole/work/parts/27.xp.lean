/-! one patch more; rows that are the same; where a byte comes from -/
theorem XF.addP {cs : Nat → ClassId} {ea : Nat} {u : XU} {σ : St} {Y : va_W} {q : Pt} {mc : Int32} {v : LU} {w : Nat → Nat} (h : XF cs ea u σ Y) (hw : aP σ.2.2.1.length (w 0) (xg u 1) v)
    (hp1 : (w 0, (.inr (1, [.int (nI (w 5)), .int (nI (w 6)), .ref (w 1), .ref (w 3), .ref (w 4), .int (nI (litN (rf q.2.2) q.2.1.length)), .int (nI (costN (rf q.2.2) q.2.1.length))]) : va_E)) ∈ Y) (hp2 : (w 3, fa cs q.2.1.length (rf q.2.2)) ∈ Y) (hp3 : (w 4, fa cs (manyN (rf q.2.2) q.2.1.length) (fun i => nI (posN (rf q.2.2) q.2.1.length i))) ∈ Y) (hp4 : RM cs (w 1) (w 2) q.2.1 Y)
    (hb5 : FI σ.2.1 (w 5) q.1) (hb6 : FI σ.2.1 (w 6) q.2.1) (hx : ptOk q) (h12 : σ.2.2.1.length < 12) : XF cs ea (xuP u mc v σ.2.2.1.length w) (stP σ q) Y := by
  obtain ⟨hb, hl0, hl1, hl2, hrw, hp, hi, hh, hok⟩ := h
  have e0 : ∀ i j, j < σ.2.2.1.length → xP (xuP u mc v σ.2.2.1.length w) i j = xP u i j := fun i j hj => if_neg (by omega)
  have e1 : ∀ i, xP (xuP u mc v σ.2.2.1.length w) i σ.2.2.1.length = w i := fun i => if_pos rfl
  have hlen : (stP σ q).2.2.1.length = σ.2.2.1.length + 1 := List.length_append
  refine ⟨hb, hl0, ?_, hl2, hrw, ?_, hi, hh, ?_⟩
  · rw [hlen]; exact hl1.add hw (fun i hi => e0 0 i hi) (e1 0)
  · intro j hj
    rw [hlen] at hj
    rcases Nat.lt_succ_iff_lt_or_eq.mp hj with g1 | g1
    · rw [show psN (stP σ q).2.2.1 j = psN σ.2.2.1 j from psN_lo g1, e0 _ _ g1, e0 _ _ g1]
      refine ⟨?_, (hp j g1).2⟩
      unfold PM patE
      rw [e0 _ _ g1, e0 _ _ g1, e0 _ _ g1, e0 _ _ g1, e0 _ _ g1, e0 _ _ g1, e0 _ _ g1]
      exact (hp j g1).1
    · rw [g1, show psN (stP σ q).2.2.1 σ.2.2.1.length = q from psN_hi, e1, e1]
      refine ⟨?_, hb5, hb6⟩
      unfold PM patE
      rw [e1, e1, e1, e1, e1, e1, e1]
      exact ⟨hp1, hp2, hp3, hp4⟩
  · refine ⟨hok.1, hok.2.1, ⟨by rw [hlen]; omega, fun j hj => ?_⟩, hok.2.2.2⟩
    rw [hlen] at hj
    rcases Nat.lt_succ_iff_lt_or_eq.mp hj with g1 | g1
    · rw [show psN (stP σ q).2.2.1 j = psN σ.2.2.1 j from psN_lo g1]; exact hok.2.2.1.2 j g1
    · rw [g1, show psN (stP σ q).2.2.1 σ.2.2.1.length = q from psN_hi]; exact hx
theorem rf_map {n : Nat} {F : Nat → Int32} : ∀ i, i < n → F i = rf ((List.range n).map F) i := by
  intro i hi
  unfold rf
  rw [List.getD_eq_getElem?_getD, List.getElem?_map, List.getElem?_range hi]; rfl
theorem rf_len {n : Nat} {F : Nat → Int32} : ((List.range n).map F).length = n := by rw [List.length_map, List.length_range]
