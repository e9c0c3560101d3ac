/-! the model's cells, and what is known of them -/
/-- the buffer's contents; contents of the rows of rows (0 rows, 1 bases, 2 goals, 3 origins, 4 history); the addresses in them; what is installed -/
abbrev MU : Type := (Nat → Int32) × (Nat → Nat → Option Nat) × (Nat → Nat → Nat) × Nat
abbrev mf (w : MU) : Nat → Int32 := w.1
abbrev mg (w : MU) : Nat → Nat → Option Nat := w.2.1
abbrev mA (w : MU) : Nat → Nat → Nat := w.2.2.1
abbrev mI (w : MU) : Nat := w.2.2.2
abbrev mO (b : Nat → Nat) (w : MU) (th : Int32) (σ : St) : va_E := .inr (4, [.int th, .int (nI σ.1.length), .ref (b 1), .int (nI σ.2.1.length), .ref (b 2), .int (nI σ.2.2.1.length), .ref (b 3), .ref (b 4), .ref (b 5), .ref (mI w), .int (nI σ.2.2.2.2.length), .ref (b 6)])
def ML (cs : Nat → ClassId) (b : Nat → Nat) (w : MU) (th : Int32) (σ : St) : va_W := [(b 0, mO b w th σ), (b 1, fa cs 400 (mf w)), (b 2, qa cs 2 12 (mg w 0)), (b 3, qa cs 2 12 (mg w 1)), (b 4, qa cs 2 12 (mg w 2)), (b 5, qa cs 2 12 (mg w 3)), (b 6, qa cs 2 20 (mg w 4))]
abbrev MW (cs : Nat → ClassId) (b : Nat → Nat) (w : MU) (th : Int32) (σ : St) (Z : va_W) : va_W := ML cs b w th σ ++ Z
def MR (cs : Nat → ClassId) (w : MU) (k i : Nat) (e : va_E) (Z : va_W) : Prop := mg w k i = some (mA w k i) ∧ (mA w k i, e) ∈ Z
def MF (cs : Nat → ClassId) (w : MU) (σ : St) (Z : va_W) : Prop :=
  (∀ i, i < σ.1.length → mf w i = bb σ.1 i) ∧
  (∀ i, i < σ.2.1.length → MR cs w 0 i (ba cs (vsN σ.2.1 i)) Z) ∧
  (∀ j, j < σ.2.2.1.length → MR cs w 1 j (ba cs (psN σ.2.2.1 j).1) Z ∧ MR cs w 2 j (ba cs (psN σ.2.2.1 j).2.1) Z ∧ MR cs w 3 j (fa cs (psN σ.2.2.1 j).2.1.length (rf (psN σ.2.2.1 j).2.2)) Z) ∧
  (mI w, ba cs σ.2.2.2.1) ∈ Z ∧
  (∀ i, i < σ.2.2.2.2.length → MR cs w 4 i (ba cs (vsN σ.2.2.2.2 i)) Z) ∧ stOk σ
theorem MR.more {cs : Nat → ClassId} {w : MU} {k i : Nat} {e : va_E} {Z Z' : va_W} (hs : ∀ q ∈ Z, q ∈ Z') (h : MR cs w k i e Z) : MR cs w k i e Z' := ⟨h.1, hs _ h.2⟩
theorem MF.more {cs : Nat → ClassId} {w : MU} {σ : St} {Z Z' : va_W} (hs : ∀ q ∈ Z, q ∈ Z') (h : MF cs w σ Z) : MF cs w σ Z' :=
  ⟨h.1, fun i hi => (h.2.1 i hi).more hs, fun j hj => ⟨(h.2.2.1 j hj).1.more hs, (h.2.2.1 j hj).2.1.more hs, (h.2.2.1 j hj).2.2.more hs⟩, hs _ h.2.2.2.1, fun i hi => (h.2.2.2.2.1 i hi).more hs, h.2.2.2.2.2⟩
/-- row k of rows has r at n -/
def muS (w : MU) (k n r : Nat) : MU := (w.1, fun i => if i = k then va_up (mg w k) n (some r) else mg w i, fun i j => if i = k then (if j = n then r else mA w i j) else mA w i j, w.2.2.2)
/-- the n-th patch -/
def muP (w : MU) (n p q o : Nat) : MU := (w.1, fun i => if i = 1 then va_up (mg w 1) n (some p) else if i = 2 then va_up (mg w 2) n (some q) else if i = 3 then va_up (mg w 3) n (some o) else mg w i, fun i j => if j = n then (if i = 1 then p else if i = 2 then q else if i = 3 then o else mA w i j) else mA w i j, w.2.2.2)
def muF (w : MU) (f : Nat → Int32) : MU := (f, w.2)
def muI (w : MU) (r : Nat) : MU := (w.1, w.2.1, w.2.2.1, r)
/-- the history moved down by one -/
def shF (f : Nat → Option Nat) : Nat → (Nat → Option Nat)
  | 0 => f
  | k + 1 => va_up (shF f k) k (f (k + 1))
theorem shF_hi {f : Nat → Option Nat} : ∀ {k i : Nat}, k ≤ i → shF f k i = f i
  | 0, _, _ => rfl
  | k + 1, i, h => by
    show va_up (shF f k) k (f (k + 1)) i = f i
    rw [va_up_ne _ _ (by omega)]
    exact shF_hi (by omega)
theorem shF_lo {f : Nat → Option Nat} : ∀ {k i : Nat}, i < k → shF f k i = f (i + 1)
  | 0, _, h => absurd h (Nat.not_lt_zero _)
  | k + 1, i, h => by
    show va_up (shF f k) k (f (k + 1)) i = f (i + 1)
    by_cases e : i = k
    · rw [e]; exact va_up_self _ _ _
    · rw [va_up_ne _ _ e]; exact shF_lo (by omega)
def muH (w : MU) : MU := (w.1, fun i => if i = 4 then shF (mg w 4) 19 else mg w i, fun i j => if i = 4 then mA w 4 (j + 1) else mA w i j, w.2.2.2)
theorem MR.ne {cs : Nat → ClassId} {w : MU} {k n r i j : Nat} {e : va_E} {Z : va_W} (h : MR cs w i j e Z) (hn : i = k → j ≠ n) : MR cs (muS w k n r) i j e Z := by
  have e1 : mg (muS w k n r) i j = mg w i j := by
    show (if i = k then va_up (mg w k) n (some r) else mg w i) j = mg w i j
    by_cases g : i = k
    · rw [if_pos g, va_up_ne _ _ (hn g), g]
    · rw [if_neg g]
  have e2 : mA (muS w k n r) i j = mA w i j := by
    show (if i = k then (if j = n then r else mA w i j) else mA w i j) = mA w i j
    by_cases g : i = k
    · rw [if_pos g, if_neg (hn g)]
    · rw [if_neg g]
  unfold MR
  rw [e1, e2]; exact h
theorem MR.at {cs : Nat → ClassId} {w : MU} {k n r : Nat} {e : va_E} {Z : va_W} (h : (r, e) ∈ Z) : MR cs (muS w k n r) k n e Z := by
  have e1 : mg (muS w k n r) k n = some r := by
    show (if k = k then va_up (mg w k) n (some r) else mg w k) n = some r
    rw [if_pos rfl]; exact va_up_self _ _ _
  have e2 : mA (muS w k n r) k n = r := by
    show (if k = k then (if n = n then r else mA w k n) else mA w k n) = r
    rw [if_pos rfl, if_pos rfl]
  unfold MR
  rw [e1, e2]; exact ⟨rfl, h⟩
theorem MF.addV {cs : Nat → ClassId} {w : MU} {σ : St} {Z : va_W} {xs : BL} {r : Nat} (h : MF cs w σ Z) (hr : (r, ba cs xs) ∈ Z) (hx : rowOk xs) (h12 : σ.2.1.length < 12) : MF cs (muS w 0 σ.2.1.length r) (stV σ xs) Z := by
  obtain ⟨h1, h2, h3, h4, h5, hok⟩ := h
  have hlen : (stV σ xs).2.1.length = σ.2.1.length + 1 := List.length_append
  refine ⟨h1, fun i hi => ?_, fun j hj => ⟨(h3 j hj).1.ne (fun e => absurd e (by decide)), (h3 j hj).2.1.ne (fun e => absurd e (by decide)), (h3 j hj).2.2.ne (fun e => absurd e (by decide))⟩, h4, fun i hi => (h5 i hi).ne (fun e => absurd e (by decide)), ?_⟩
  · rw [hlen] at hi
    rcases Nat.lt_succ_iff_lt_or_eq.mp hi with g1 | g1
    · rw [show vsN (stV σ xs).2.1 i = vsN σ.2.1 i from vsN_lo g1]; exact (h2 i g1).ne (fun _ => by omega)
    · rw [g1, show vsN (stV σ xs).2.1 σ.2.1.length = xs from vsN_hi]; exact MR.at hr
  · refine ⟨hok.1, ⟨by rw [hlen]; omega, fun i hi9 => ?_⟩, hok.2.2⟩
    rw [hlen] at hi9
    rcases Nat.lt_succ_iff_lt_or_eq.mp hi9 with g1 | g1
    · rw [show vsN (stV σ xs).2.1 i = vsN σ.2.1 i from vsN_lo g1]; exact hok.2.1.2 i g1
    · rw [g1, show vsN (stV σ xs).2.1 σ.2.1.length = xs from vsN_hi]; exact hx
theorem MF.addH {cs : Nat → ClassId} {w : MU} {σ : St} {Z : va_W} (h : MF cs w σ Z) (h20 : σ.2.2.2.2.length < 20) : MF cs (muS w 4 σ.2.2.2.2.length (mI w)) (stH σ σ.2.2.2.1) Z := by
  obtain ⟨h1, h2, h3, h4, h5, hok⟩ := h
  have hlen : (stH σ σ.2.2.2.1).2.2.2.2.length = σ.2.2.2.2.length + 1 := List.length_append
  refine ⟨h1, fun i hi => (h2 i hi).ne (fun e => absurd e (by decide)), fun j hj => ⟨(h3 j hj).1.ne (fun e => absurd e (by decide)), (h3 j hj).2.1.ne (fun e => absurd e (by decide)), (h3 j hj).2.2.ne (fun e => absurd e (by decide))⟩, h4, fun i hi => ?_, ?_⟩
  · rw [hlen] at hi
    rcases Nat.lt_succ_iff_lt_or_eq.mp hi with g1 | g1
    · rw [show vsN (stH σ σ.2.2.2.1).2.2.2.2 i = vsN σ.2.2.2.2 i from vsN_lo g1]; exact (h5 i g1).ne (fun _ => by omega)
    · rw [g1, show vsN (stH σ σ.2.2.2.1).2.2.2.2 σ.2.2.2.2.length = σ.2.2.2.1 from vsN_hi]; exact MR.at h4
  · refine ⟨hok.1, hok.2.1, hok.2.2.1, hok.2.2.2.1, ⟨by rw [hlen]; omega, fun i hi9 => ?_⟩⟩
    rw [hlen] at hi9
    rcases Nat.lt_succ_iff_lt_or_eq.mp hi9 with g1 | g1
    · rw [show vsN (stH σ σ.2.2.2.1).2.2.2.2 i = vsN σ.2.2.2.2 i from vsN_lo g1]; exact hok.2.2.2.2.2 i g1
    · rw [g1, show vsN (stH σ σ.2.2.2.1).2.2.2.2 σ.2.2.2.2.length = σ.2.2.2.1 from vsN_hi]; exact hok.2.2.2.1
theorem MF.inst {cs : Nat → ClassId} {w : MU} {σ : St} {Z : va_W} {xs : BL} {r : Nat} (h : MF cs w σ Z) (hr : (r, ba cs xs) ∈ Z) (hx : rowOk xs) : MF cs (muI w r) (stJ σ xs) Z :=
  ⟨h.1, h.2.1, h.2.2.1, hr, h.2.2.2.2.1, h.2.2.2.2.2.1, h.2.2.2.2.2.2.1, h.2.2.2.2.2.2.2.1, hx, h.2.2.2.2.2.2.2.2.2⟩
theorem MF.delH0 {cs : Nat → ClassId} {w : MU} {σ : St} {Z : va_W} (h : MF cs w σ Z) (h20 : σ.2.2.2.2.length = 20) : MF cs (muH w) (stD σ 0) Z := by
  obtain ⟨h1, h2, h3, h4, h5, hok⟩ := h
  have hlen : (stD σ 0).2.2.2.2.length = σ.2.2.2.2.length - 1 := List.length_eraseIdx_of_lt (by omega)
  have hne : ∀ {k i : Nat} {e : va_E}, k ≠ 4 → MR cs w k i e Z → MR cs (muH w) k i e Z := fun {k i e} hk hm => by
    have e1 : mg (muH w) k i = mg w k i := by
      show (if k = 4 then shF (mg w 4) 19 else mg w k) i = _
      rw [if_neg hk]
    have e2 : mA (muH w) k i = mA w k i := if_neg hk
    unfold MR
    rw [e1, e2]; exact hm
  refine ⟨h1, fun i hi => hne (by decide) (h2 i hi), fun j hj => ⟨hne (by decide) (h3 j hj).1, hne (by decide) (h3 j hj).2.1, hne (by decide) (h3 j hj).2.2⟩, h4, fun i hi => ?_, hok.1, hok.2.1, hok.2.2.1, hok.2.2.2.1, ?_, fun i hi => ?_⟩
  · rw [hlen, h20] at hi
    have e1 : mg (muH w) 4 i = mg w 4 (i + 1) := by
      show (if 4 = 4 then shF (mg w 4) 19 else mg w 4) i = _
      rw [if_pos rfl]; exact shF_lo hi
    have e2 : mA (muH w) 4 i = mA w 4 (i + 1) := by
      show (if 4 = 4 then mA w 4 (i + 1) else mA w 4 i) = _
      rw [if_pos rfl]
    have e3 : vsN (stD σ 0).2.2.2.2 i = vsN σ.2.2.2.2 (i + 1) := by
      show vsN (σ.2.2.2.2.eraseIdx 0) i = _
      rw [vsN_er, if_neg (Nat.not_lt_zero i)]
    unfold MR
    rw [e1, e2, e3]; exact h5 (i + 1) (by omega)
  · rw [hlen]; omega
  · rw [hlen, h20] at hi
    show rowOk (vsN (σ.2.2.2.2.eraseIdx 0) i)
    rw [vsN_er, if_neg (Nat.not_lt_zero i)]
    exact hok.2.2.2.2.2 (i + 1) (by omega)
theorem MF.pop {cs : Nat → ClassId} {w : MU} {σ : St} {Z : va_W} (h : MF cs w σ Z) (hpos : 0 < σ.2.2.2.2.length) : MF cs w (stD σ (σ.2.2.2.2.length - 1)) Z := by
  obtain ⟨h1, h2, h3, h4, h5, hok⟩ := h
  have hlen : (stD σ (σ.2.2.2.2.length - 1)).2.2.2.2.length = σ.2.2.2.2.length - 1 := List.length_eraseIdx_of_lt (by omega)
  have e3 : ∀ i, i < σ.2.2.2.2.length - 1 → vsN (stD σ (σ.2.2.2.2.length - 1)).2.2.2.2 i = vsN σ.2.2.2.2 i := fun i hi => by
    show vsN (σ.2.2.2.2.eraseIdx (σ.2.2.2.2.length - 1)) i = _
    rw [vsN_er, if_pos hi]
  refine ⟨h1, h2, h3, h4, fun i hi => ?_, hok.1, hok.2.1, hok.2.2.1, hok.2.2.2.1, ?_, fun i hi => ?_⟩
  · rw [hlen] at hi; rw [e3 i hi]; exact h5 i (by omega)
  · rw [hlen]; have := hok.2.2.2.2.1; omega
  · rw [hlen] at hi; rw [e3 i hi]; exact hok.2.2.2.2.2 i (by omega)
theorem MF.addP {cs : Nat → ClassId} {w : MU} {σ : St} {Z : va_W} {p : Pt} {r1 r2 r3 : Nat} (h : MF cs w σ Z) (m1 : (r1, ba cs p.1) ∈ Z) (m2 : (r2, ba cs p.2.1) ∈ Z) (m3 : (r3, fa cs p.2.1.length (rf p.2.2)) ∈ Z) (hx : ptOk p) (h12 : σ.2.2.1.length < 12) : MF cs (muP w σ.2.2.1.length r1 r2 r3) (stP σ p) Z := by
  obtain ⟨h1, h2, h3, h4, h5, hok⟩ := h
  have hlen : (stP σ p).2.2.1.length = σ.2.2.1.length + 1 := List.length_append
  have hg : ∀ {k i : Nat}, (k = 1 ∨ k = 2 ∨ k = 3 → i ≠ σ.2.2.1.length) → mg (muP w σ.2.2.1.length r1 r2 r3) k i = mg w k i := fun {k i} hk => by
    show (if k = 1 then va_up (mg w 1) σ.2.2.1.length (some r1) else if k = 2 then va_up (mg w 2) σ.2.2.1.length (some r2) else if k = 3 then va_up (mg w 3) σ.2.2.1.length (some r3) else mg w k) i = _
    by_cases g1 : k = 1
    · rw [if_pos g1, va_up_ne _ _ (hk (Or.inl g1)), g1]
    · rw [if_neg g1]
      by_cases g2 : k = 2
      · rw [if_pos g2, va_up_ne _ _ (hk (Or.inr (Or.inl g2))), g2]
      · rw [if_neg g2]
        by_cases g3 : k = 3
        · rw [if_pos g3, va_up_ne _ _ (hk (Or.inr (Or.inr g3))), g3]
        · rw [if_neg g3]
  have hA : ∀ {k i : Nat}, (k = 1 ∨ k = 2 ∨ k = 3 → i ≠ σ.2.2.1.length) → mA (muP w σ.2.2.1.length r1 r2 r3) k i = mA w k i := fun {k i} hk => by
    show (if i = σ.2.2.1.length then (if k = 1 then r1 else if k = 2 then r2 else if k = 3 then r3 else mA w k i) else mA w k i) = _
    by_cases g : i = σ.2.2.1.length
    · rw [if_pos g, if_neg (fun e => hk (Or.inl e) g), if_neg (fun e => hk (Or.inr (Or.inl e)) g), if_neg (fun e => hk (Or.inr (Or.inr e)) g)]
    · rw [if_neg g]
  have hne : ∀ {k i : Nat} {e : va_E}, (k = 1 ∨ k = 2 ∨ k = 3 → i ≠ σ.2.2.1.length) → MR cs w k i e Z → MR cs (muP w σ.2.2.1.length r1 r2 r3) k i e Z := fun {k i e} hk hm => by
    unfold MR
    rw [hg hk, hA hk]; exact hm
  have hn0 : ∀ {k i : Nat}, (k = 0 ∨ k = 4) → (k = 1 ∨ k = 2 ∨ k = 3 → i ≠ σ.2.2.1.length) := fun a b => by omega
  refine ⟨h1, fun i hi => hne (hn0 (Or.inl rfl)) (h2 i hi), fun j hj => ?_, h4, fun i hi => hne (hn0 (Or.inr rfl)) (h5 i hi), hok.1, hok.2.1, ⟨by rw [hlen]; omega, fun j hj => ?_⟩, hok.2.2.2⟩
  · rw [hlen] at hj
    rcases Nat.lt_succ_iff_lt_or_eq.mp hj with g1 | g1
    · rw [show psN (stP σ p).2.2.1 j = psN σ.2.2.1 j from psN_lo g1]
      exact ⟨hne (fun _ => by omega) (h3 j g1).1, hne (fun _ => by omega) (h3 j g1).2.1, hne (fun _ => by omega) (h3 j g1).2.2⟩
    · rw [g1, show psN (stP σ p).2.2.1 σ.2.2.1.length = p from psN_hi]
      refine ⟨⟨?_, ?_⟩, ⟨?_, ?_⟩, ⟨?_, ?_⟩⟩
      · exact (va_up_self (mg w 1) σ.2.2.1.length (some r1)).trans (congrArg some (show r1 = (if σ.2.2.1.length = σ.2.2.1.length then r1 else mA w 1 σ.2.2.1.length) by rw [if_pos rfl]))
      · rw [show mA (muP w σ.2.2.1.length r1 r2 r3) 1 σ.2.2.1.length = r1 from if_pos rfl]; exact m1
      · exact (va_up_self (mg w 2) σ.2.2.1.length (some r2)).trans (congrArg some (show r2 = (if σ.2.2.1.length = σ.2.2.1.length then r2 else mA w 2 σ.2.2.1.length) by rw [if_pos rfl]))
      · rw [show mA (muP w σ.2.2.1.length r1 r2 r3) 2 σ.2.2.1.length = r2 from if_pos rfl]; exact m2
      · exact (va_up_self (mg w 3) σ.2.2.1.length (some r3)).trans (congrArg some (show r3 = (if σ.2.2.1.length = σ.2.2.1.length then r3 else mA w 3 σ.2.2.1.length) by rw [if_pos rfl]))
      · rw [show mA (muP w σ.2.2.1.length r1 r2 r3) 3 σ.2.2.1.length = r3 from if_pos rfl]; exact m3
  · rw [hlen] at hj
    rcases Nat.lt_succ_iff_lt_or_eq.mp hj with g1 | g1
    · rw [show psN (stP σ p).2.2.1 j = psN σ.2.2.1 j from psN_lo g1]; exact hok.2.2.1.2 j g1
    · rw [g1, show psN (stP σ p).2.2.1 σ.2.2.1.length = p from psN_hi]; exact hx
theorem MF.buf {cs : Nat → ClassId} {w : MU} {σ : St} {Z : va_W} {xs : BL} {f : Nat → Int32} (h : MF cs w σ Z) (hx : rowOk xs) (hb : ∀ i, i < xs.length → f i = bb xs i) : MF cs (muF w f) (stB0 σ xs) Z :=
  ⟨hb, h.2.1, h.2.2.1, h.2.2.2.1, h.2.2.2.2.1, hx, h.2.2.2.2.2.2⟩
theorem MW.grow {D : va_G} {S0 : Nat} {cs : Nat → ClassId} {b : Nat → Nat} {w : MU} {th : Int32} {σ : St} {Z G : va_W} {H : Heap} (hW : Wd D S0 (G ++ MW cs b w th σ Z) H) : Wd D S0 (MW cs b w th σ (G ++ Z)) H := hW.perm (pmG _ _ _)
theorem MW.shrink {D : va_G} {S0 : Nat} {cs : Nat → ClassId} {b : Nat → Nat} {w : MU} {th : Int32} {σ : St} {Z G : va_W} {H : Heap} (hW : Wd D S0 (MW cs b w th σ (G ++ Z)) H) : Wd D S0 (G ++ MW cs b w th σ Z) H := hW.perm (pmG _ _ _).symm
/-! which ints are numbers of things -/
theorem vI_in {v c : Nat} (h : v < c) (hc : c < 2 ^ 30) : vI (nI v) c = true := by
  unfold vI
  rw [pk_sub (show 1 ≤ c by omega), Bool.and_eq_true]
  exact ⟨decide_eq_true (nI_pos' (by omega)), decide_eq_true (nI_le (by omega) (by omega))⟩
theorem z_cl (v : Int32) {c : Nat} (hc : c < 2 ^ 31) : (∃ k, k < c ∧ v = nI k) ∨ (v < 0 ∨ nI c ≤ v) := by
  by_cases h : v < 0
  · exact Or.inr (Or.inl h)
  · obtain ⟨j, hj, rfl⟩ := nI_of h
    by_cases g : j < c
    · exact Or.inl ⟨j, g, rfl⟩
    · exact Or.inr (Or.inr (nI_le (by omega) hj))
theorem vI_no {v : Int32} {c : Nat} (h : v < 0 ∨ nI c ≤ v) (hc : c < 2 ^ 30) : vI v c = false := by
  cases e : vI v c with
  | false => rfl
  | true =>
    exfalso
    unfold vI at e
    rw [Bool.and_eq_true] at e
    have h1 : 0 ≤ v := of_decide_eq_true e.1
    have h2 : v ≤ nI c - nI 1 := of_decide_eq_true e.2
    have h0 : ¬ v < 0 := Int32.not_lt.mpr h1
    rcases h with h | h
    · exact h0 h
    · obtain ⟨j, hj, rfl⟩ := nI_of h0
      have h3 : c ≤ j := (nI_leI (by omega) hj).mp h
      by_cases hz : c = 0
      · rw [hz, show nI 0 - nI 1 = (-1 : Int32) by decide] at h2
        exact h0 (Int32.lt_of_le_of_lt h2 (by decide))
      · rw [pk_sub (show 1 ≤ c by omega)] at h2
        have h4 : j ≤ c - 1 := (nI_leI hj (by omega)).mp h2
        omega
theorem z_clB (v : Int32) (lo hi : Nat) (hh : hi < 2 ^ 31) (hl : lo < 2 ^ 31) : (∃ k, lo ≤ k ∧ k ≤ hi ∧ v = nI k) ∨ (v < nI lo ∨ nI hi < v) := by
  by_cases h : v < nI lo
  · exact Or.inr (Or.inl h)
  · have h0 : ¬ v < 0 := fun z => h (Int32.lt_of_lt_of_le z (nI_pos' hl))
    obtain ⟨j, hj, rfl⟩ := nI_of h0
    by_cases g : j ≤ hi
    · exact Or.inl ⟨j, Nat.le_of_not_lt (fun z => h (nI_lt z hl)), g, rfl⟩
    · exact Or.inr (Or.inr (nI_lt (by omega) hj))
theorem inB_in {k lo hi : Nat} (h1 : lo ≤ k) (h2 : k ≤ hi) (hh : hi < 2 ^ 31) : inB (nI k) (nI lo) (nI hi) = true := by
  unfold inB
  rw [Bool.and_eq_true]
  exact ⟨decide_eq_true (nI_le h1 (by omega)), decide_eq_true (nI_le h2 hh)⟩
theorem inB_no {v lo hi : Int32} (h : v < lo ∨ hi < v) : inB v lo hi = false := by
  unfold inB
  rcases h with h | h
  · rw [decide_eq_false (Int32.not_le.mpr h)]; rfl
  · rw [decide_eq_false (Int32.not_le.mpr h)]; exact Bool.and_false _
theorem inB_vI (v : Int32) (c : Nat) : inB v (nI 0) (nI c - nI 1) = vI v c := by
  unfold inB vI
  rw [nI_0]
