/-! the history and the installation -/
abbrev stH (σ : St) (xs : BL) : St := (σ.1, σ.2.1, σ.2.2.1, σ.2.2.2.1, σ.2.2.2.2 ++ [xs])
abbrev stD (σ : St) (i : Nat) : St := (σ.1, σ.2.1, σ.2.2.1, σ.2.2.2.1, σ.2.2.2.2.eraseIdx i)
abbrev stJ (σ : St) (xs : BL) : St := (σ.1, σ.2.1, σ.2.2.1, xs, σ.2.2.2.2)
def xuD (u : XU) (mc : Int32) (i n : Nat) : XU := (u.1, fun k => if k = 2 then mc else xm u k, xe u, xc u, fun k => if k = 2 then rmF (xg u 2) i n else xg u k, fun k j => if k = 2 then (if j < i then xR u 2 j else xR u 2 (j + 1)) else if k = 3 then (if j < i then xR u 3 j else xR u 3 (j + 1)) else xR u k j, xP u)
def xuJ (u : XU) (r b : Nat) : XU := (u.1, xm u, fun k => if k = 3 then r else if k = 4 then b else xe u k, u.2.2.2)
theorem rmF_at {f : Nat → Option Nat} {i n j : Nat} (hi : i < n) (hj : j < n - 1) : rmF f i n j = if j < i then f j else f (j + 1) := by
  unfold rmF
  rw [va_up_ne _ _ (by omega)]
  by_cases h : i + 1 < n
  · rw [if_pos h]
    unfold va_cpy
    by_cases h2 : j < i
    · rw [if_neg (by omega), if_pos h2]
    · rw [if_pos (by omega), if_neg h2, show i + 1 + (j - i) = j + 1 by omega]
  · rw [if_neg h, if_pos (by omega)]
theorem vsN_er {vs : List BL} {i j : Nat} : vsN (vs.eraseIdx i) j = if j < i then vsN vs j else vsN vs (j + 1) := by
  unfold vsN
  rw [List.getD_eq_getElem?_getD, List.getElem?_eraseIdx]
  by_cases h : j < i
  · rw [if_pos h, if_pos h, List.getD_eq_getElem?_getD]
  · rw [if_neg h, if_neg h, List.getD_eq_getElem?_getD]
theorem XF.delH {cs : Nat → ClassId} {ea : Nat} {u : XU} {σ : St} {Y : va_W} {mc : Int32} {i : Nat} (h : XF cs ea u σ Y) (hi9 : i < σ.2.2.2.2.length) : XF cs ea (xuD u mc i σ.2.2.2.2.length) (stD σ i) Y := by
  obtain ⟨hb, hl0, hl1, hl2, hrw, hp, hi, hh, hok⟩ := h
  have hlen : (stD σ i).2.2.2.2.length = σ.2.2.2.2.length - 1 := List.length_eraseIdx_of_lt hi9
  refine ⟨hb, hl0, hl1, ⟨hl2.1, ?_, hl2.2.2.1, fun j hj => ?_⟩, hrw, hp, hi, fun j hj => ?_, ⟨hok.1, hok.2.1, hok.2.2.1, hok.2.2.2.1, ?_, fun j hj => ?_⟩⟩
  · rw [hlen]; exact Nat.le_trans (Nat.sub_le _ _) hl2.2.1
  · rw [hlen] at hj
    show rmF (xg u 2) i σ.2.2.2.2.length j = some (if j < i then xR u 2 j else xR u 2 (j + 1))
    rw [rmF_at hi9 hj]
    by_cases g : j < i
    · rw [if_pos g, if_pos g]; exact hl2.2.2.2 j (by omega)
    · rw [if_neg g, if_neg g]; exact hl2.2.2.2 (j + 1) (by omega)
  · rw [hlen] at hj
    show RM cs (if j < i then xR u 2 j else xR u 2 (j + 1)) (if j < i then xR u 3 j else xR u 3 (j + 1)) (vsN (σ.2.2.2.2.eraseIdx i) j) Y
    rw [vsN_er]
    by_cases g : j < i
    · rw [if_pos g, if_pos g, if_pos g]; exact hh j (by omega)
    · rw [if_neg g, if_neg g, if_neg g]; exact hh (j + 1) (by omega)
  · rw [hlen]; exact Nat.le_trans (Nat.sub_le _ _) hok.2.2.2.2.1
  · rw [hlen] at hj
    show rowOk (vsN (σ.2.2.2.2.eraseIdx i) j)
    rw [vsN_er]
    by_cases g : j < i
    · rw [if_pos g]; exact hok.2.2.2.2.2 j (by omega)
    · rw [if_neg g]; exact hok.2.2.2.2.2 (j + 1) (by omega)
theorem XF.addH {cs : Nat → ClassId} {ea : Nat} {u : XU} {σ : St} {Y : va_W} {xs : BL} {mc : Int32} {w : LU} {r b : Nat} (h : XF cs ea u σ Y) (hw : aP σ.2.2.2.2.length r (xg u 2) w) (hr : RM cs r b xs Y) (hx : rowOk xs) (h12 : σ.2.2.2.2.length < 20) : XF cs ea (xuA u 2 mc w σ.2.2.2.2.length r b) (stH σ xs) Y := by
  obtain ⟨hb, hl0, hl1, hl2, hrw, hp, hi, hh, hok⟩ := h
  have e0 : ∀ i j, j < σ.2.2.2.2.length → xR (xuA u 2 mc w σ.2.2.2.2.length r b) i j = xR u i j := fun i j hj => if_neg (by omega)
  have e1 : xR (xuA u 2 mc w σ.2.2.2.2.length r b) 2 σ.2.2.2.2.length = r := (if_pos rfl : (if σ.2.2.2.2.length = σ.2.2.2.2.length then _ else _) = _)
  have e2 : xR (xuA u 2 mc w σ.2.2.2.2.length r b) 3 σ.2.2.2.2.length = b := (if_pos rfl : (if σ.2.2.2.2.length = σ.2.2.2.2.length then _ else _) = _)
  have e3 : ∀ j, xR (xuA u 2 mc w σ.2.2.2.2.length r b) 0 j = xR u 0 j := fun j => by
    show (if j = σ.2.2.2.2.length then xR u 0 j else xR u 0 j) = _; rw [ite_self]
  have e4 : ∀ j, xR (xuA u 2 mc w σ.2.2.2.2.length r b) 1 j = xR u 1 j := fun j => by
    show (if j = σ.2.2.2.2.length then xR u 1 j else xR u 1 j) = _; rw [ite_self]
  have hlen : (stH σ xs).2.2.2.2.length = σ.2.2.2.2.length + 1 := List.length_append
  refine ⟨hb, ⟨hl0.1, hl0.2.1, hl0.2.2.1, fun i hi => by rw [e3]; exact hl0.2.2.2 i hi⟩, hl1, ?_, ?_, hp, hi, ?_, ?_⟩
  · rw [hlen]; exact hl2.add hw (fun i hi => e0 2 i hi) e1
  · intro i hi9
    rw [e3, e4]; exact hrw i hi9
  · intro i hi9
    rw [hlen] at hi9
    rcases Nat.lt_succ_iff_lt_or_eq.mp hi9 with g1 | g1
    · rw [e0 _ _ g1, e0 _ _ g1, show vsN (stH σ xs).2.2.2.2 i = vsN σ.2.2.2.2 i from vsN_lo g1]; exact hh i g1
    · rw [g1, e1, e2, show vsN (stH σ xs).2.2.2.2 σ.2.2.2.2.length = xs from vsN_hi]; exact hr
  · refine ⟨hok.1, hok.2.1, hok.2.2.1, hok.2.2.2.1, ⟨by rw [hlen]; omega, fun i hi9 => ?_⟩⟩
    rw [hlen] at hi9
    rcases Nat.lt_succ_iff_lt_or_eq.mp hi9 with g1 | g1
    · rw [show vsN (stH σ xs).2.2.2.2 i = vsN σ.2.2.2.2 i from vsN_lo g1]; exact hok.2.2.2.2.2 i g1
    · rw [g1, show vsN (stH σ xs).2.2.2.2 σ.2.2.2.2.length = xs from vsN_hi]; exact hx
theorem XF.inst {cs : Nat → ClassId} {ea : Nat} {u : XU} {σ : St} {Y : va_W} {xs : BL} {r b : Nat} (h : XF cs ea u σ Y) (hr : RM cs r b xs Y) (hx : rowOk xs) : XF cs ea (xuJ u r b) (stJ σ xs) Y :=
  ⟨h.1, h.2.1, h.2.2.1, h.2.2.2.1, h.2.2.2.2.1, h.2.2.2.2.2.1, hr, h.2.2.2.2.2.2.2.1, h.2.2.2.2.2.2.2.2.1, h.2.2.2.2.2.2.2.2.2.1, h.2.2.2.2.2.2.2.2.2.2.1, hx, h.2.2.2.2.2.2.2.2.2.2.2.2⟩

