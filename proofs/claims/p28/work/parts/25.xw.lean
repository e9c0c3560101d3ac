/-! a list of the class and its array taken out of the world, and laid back -/
theorem pm0 {α : Type} (c0 c1 c2 c3 l4 l5 l6 : α) (E0 E1 E2 Y : List α) : ([c0, c1, c2, c3, l4, l5, l6] ++ ((E0 ++ (E1 ++ E2)) ++ Y)).Perm (l4 :: (E0 ++ (([c0, c1, c2, c3, l5, l6] ++ (E1 ++ E2)) ++ Y))) := by
  classical
  rw [List.perm_iff_count]
  intro x
  simp only [List.cons_append, List.nil_append, List.count_append, List.count_cons]
  ac_rfl
theorem pm1 {α : Type} (c0 c1 c2 c3 l4 l5 l6 : α) (E0 E1 E2 Y : List α) : ([c0, c1, c2, c3, l4, l5, l6] ++ ((E0 ++ (E1 ++ E2)) ++ Y)).Perm (l5 :: (E1 ++ (([c0, c1, c2, c3, l4, l6] ++ (E0 ++ E2)) ++ Y))) := by
  classical
  rw [List.perm_iff_count]
  intro x
  simp only [List.cons_append, List.nil_append, List.count_append, List.count_cons]
  ac_rfl
theorem pm2 {α : Type} (c0 c1 c2 c3 l4 l5 l6 : α) (E0 E1 E2 Y : List α) : ([c0, c1, c2, c3, l4, l5, l6] ++ ((E0 ++ (E1 ++ E2)) ++ Y)).Perm (l6 :: (E2 ++ (([c0, c1, c2, c3, l4, l5] ++ (E0 ++ E1)) ++ Y))) := by
  classical
  rw [List.perm_iff_count]
  intro x
  simp only [List.cons_append, List.nil_append, List.count_append, List.count_cons]
  ac_rfl
theorem pmG {α : Type} (G A Y : List α) : (G ++ (A ++ Y)).Perm (A ++ (G ++ Y)) := by
  rw [← List.append_assoc, ← List.append_assoc]
  exact List.Perm.append_right Y List.perm_append_comm
def XR0 (cs : Nat → ClassId) (a : Nat → Nat) (u : XU) (σ : St) : va_W := [(a 0, xO a u σ), (a 1, fa cs 400 (xF u 0)), (a 2, fa cs 200 (xF u 1)), (a 3, fa cs 12 (xF u 2)), (a 5, LO (xm u 1) (xe u 1) σ.2.2.1.length), (a 6, LO (xm u 2) (xe u 2) σ.2.2.2.2.length)] ++ (LE cs (xe u 1) (xc u 1) (xg u 1) ++ LE cs (xe u 2) (xc u 2) (xg u 2))
def XR1 (cs : Nat → ClassId) (a : Nat → Nat) (u : XU) (σ : St) : va_W := [(a 0, xO a u σ), (a 1, fa cs 400 (xF u 0)), (a 2, fa cs 200 (xF u 1)), (a 3, fa cs 12 (xF u 2)), (a 4, LO (xm u 0) (xe u 0) σ.2.1.length), (a 6, LO (xm u 2) (xe u 2) σ.2.2.2.2.length)] ++ (LE cs (xe u 0) (xc u 0) (xg u 0) ++ LE cs (xe u 2) (xc u 2) (xg u 2))
def XR2 (cs : Nat → ClassId) (a : Nat → Nat) (u : XU) (σ : St) : va_W := [(a 0, xO a u σ), (a 1, fa cs 400 (xF u 0)), (a 2, fa cs 200 (xF u 1)), (a 3, fa cs 12 (xF u 2)), (a 4, LO (xm u 0) (xe u 0) σ.2.1.length), (a 5, LO (xm u 1) (xe u 1) σ.2.2.1.length)] ++ (LE cs (xe u 0) (xc u 0) (xg u 0) ++ LE cs (xe u 1) (xc u 1) (xg u 1))
section ZX
variable {D : va_G} {S0 : Nat} {cs : Nat → ClassId} {a : Nat → Nat} {u : XU} {σ : St} {Y : va_W} {H : Heap}
theorem XW.out0 (hW : Wd D S0 (XW cs a u σ Y) H) : Wd D S0 ((a 4, LO (xm u 0) (xe u 0) σ.2.1.length) :: (LE cs (xe u 0) (xc u 0) (xg u 0) ++ (XR0 cs a u σ ++ Y))) H := hW.perm (pm0 _ _ _ _ _ _ _ _ _ _ _)
theorem XW.out1 (hW : Wd D S0 (XW cs a u σ Y) H) : Wd D S0 ((a 5, LO (xm u 1) (xe u 1) σ.2.2.1.length) :: (LE cs (xe u 1) (xc u 1) (xg u 1) ++ (XR1 cs a u σ ++ Y))) H := hW.perm (pm1 _ _ _ _ _ _ _ _ _ _ _)
theorem XW.out2 (hW : Wd D S0 (XW cs a u σ Y) H) : Wd D S0 ((a 6, LO (xm u 2) (xe u 2) σ.2.2.2.2.length) :: (LE cs (xe u 2) (xc u 2) (xg u 2) ++ (XR2 cs a u σ ++ Y))) H := hW.perm (pm2 _ _ _ _ _ _ _ _ _ _ _)
theorem XW.in0 {G : va_W} (hW : Wd D S0 ((a 4, LO (xm u 0) (xe u 0) σ.2.1.length) :: (LE cs (xe u 0) (xc u 0) (xg u 0) ++ (G ++ (XR0 cs a u σ ++ Y)))) H) : Wd D S0 (XW cs a u σ (G ++ Y)) H :=
  (hW.perm (List.Perm.cons _ (List.Perm.append_left _ (pmG _ _ _)))).perm (pm0 _ _ _ _ _ _ _ _ _ _ _).symm
theorem XW.in1 {G : va_W} (hW : Wd D S0 ((a 5, LO (xm u 1) (xe u 1) σ.2.2.1.length) :: (LE cs (xe u 1) (xc u 1) (xg u 1) ++ (G ++ (XR1 cs a u σ ++ Y)))) H) : Wd D S0 (XW cs a u σ (G ++ Y)) H :=
  (hW.perm (List.Perm.cons _ (List.Perm.append_left _ (pmG _ _ _)))).perm (pm1 _ _ _ _ _ _ _ _ _ _ _).symm
theorem XW.in2 {G : va_W} (hW : Wd D S0 ((a 6, LO (xm u 2) (xe u 2) σ.2.2.2.2.length) :: (LE cs (xe u 2) (xc u 2) (xg u 2) ++ (G ++ (XR2 cs a u σ ++ Y)))) H) : Wd D S0 (XW cs a u σ (G ++ Y)) H :=
  (hW.perm (List.Perm.cons _ (List.Perm.append_left _ (pmG _ _ _)))).perm (pm2 _ _ _ _ _ _ _ _ _ _ _).symm
end ZX
/-- list k (0 versions, 2 history) has one row more, its n-th, at r with its bytes at b -/
def xuA (u : XU) (k : Nat) (mc : Int32) (v : LU) (n r b : Nat) : XU := (u.1, fun i => if i = k then mc else xm u i, fun i => if i = k then v.1 else xe u i, fun i => if i = k then v.2.1 else xc u i, fun i => if i = k then v.2.2.1 else xg u i, fun i j => if j = n then (if i = k then r else if i = k + 1 then b else xR u i j) else xR u i j, xP u)
/-- the patches have one more, the n-th -/
def xuP (u : XU) (mc : Int32) (v : LU) (n : Nat) (w : Nat → Nat) : XU := (u.1, fun i => if i = 1 then mc else xm u i, fun i => if i = 1 then v.1 else xe u i, fun i => if i = 1 then v.2.1 else xc u i, fun i => if i = 1 then v.2.2.1 else xg u i, xR u, fun i j => if j = n then w i else xP u i j)
/-- contents of row k of numbers (0 buffer, 1 sums, 2 reached) -/
def xuF (u : XU) (k : Nat) (f : Nat → Int32) : XU := (fun i => if i = k then f else xF u i, u.2)
abbrev stV (σ : St) (xs : BL) : St := (σ.1, σ.2.1 ++ [xs], σ.2.2)
abbrev stP (σ : St) (q : Pt) : St := (σ.1, σ.2.1, σ.2.2.1 ++ [q], σ.2.2.2)
abbrev stB0 (σ : St) (xs : BL) : St := (xs, σ.2)
theorem vsN_lo {vs : List BL} {x : BL} {i : Nat} (h : i < vs.length) : vsN (vs ++ [x]) i = vsN vs i := by
  unfold vsN
  rw [List.getD_eq_getElem?_getD, List.getD_eq_getElem?_getD, List.getElem?_append_left h]
theorem vsN_hi {vs : List BL} {x : BL} : vsN (vs ++ [x]) vs.length = x := by
  unfold vsN
  rw [List.getD_eq_getElem?_getD, List.getElem?_append_right (Nat.le_refl _), Nat.sub_self]; rfl
theorem psN_lo {vs : List Pt} {x : Pt} {i : Nat} (h : i < vs.length) : psN (vs ++ [x]) i = psN vs i := by
  unfold psN
  rw [List.getD_eq_getElem?_getD, List.getD_eq_getElem?_getD, List.getElem?_append_left h]
theorem psN_hi {vs : List Pt} {x : Pt} : psN (vs ++ [x]) vs.length = x := by
  unfold psN
  rw [List.getD_eq_getElem?_getD, List.getElem?_append_right (Nat.le_refl _), Nat.sub_self]; rfl
theorem FI.more {vs : List BL} {x xs : BL} {k : Nat} (h : FI vs k xs) : FI (vs ++ [x]) k xs :=
  ⟨by rw [List.length_append]; exact Nat.lt_of_lt_of_le h.1 (Nat.le_add_right _ _), by rw [vsN_lo h.1]; exact h.2.1, fun i hi => by rw [vsN_lo (Nat.lt_trans hi h.1)]; exact h.2.2 i hi⟩
theorem LF.add {ea n v cap : Nat} {ed : Nat} {g : Nat → Option Nat} {A A' : Nat → Nat} {w : LU} (h : LF ea ed n cap g A) (hw : aP n v g w) (hA : ∀ i, i < n → A' i = A i) (hv : A' n = v) : LF ea w.1 (n + 1) w.2.1 w.2.2.1 A' := by
  refine ⟨fun h0 => ?_, hw.2.2.1, fun _ => ⟨hw.1, hw.2.1⟩, fun i hi => ?_⟩
  · have := hw.1; omega
  · rcases Nat.lt_succ_iff_lt_or_eq.mp hi with h1 | h1
    · rw [hw.2.2.2.1 i h1, hA i h1]; exact h.2.2.2 i h1
    · rw [h1, hw.2.2.2.2, hv]
/-- one version more -/
theorem XF.addV {cs : Nat → ClassId} {ea : Nat} {u : XU} {σ : St} {Y : va_W} {xs : BL} {mc : Int32} {w : LU} {r b : Nat} (h : XF cs ea u σ Y) (hw : aP σ.2.1.length r (xg u 0) w) (hr : RM cs r b xs Y) (hx : rowOk xs) (h12 : σ.2.1.length < 12) : XF cs ea (xuA u 0 mc w σ.2.1.length r b) (stV σ xs) Y := by
  obtain ⟨hb, hl0, hl1, hl2, hrw, hp, hi, hh, hok⟩ := h
  have e0 : ∀ i j, j < σ.2.1.length → xR (xuA u 0 mc w σ.2.1.length r b) i j = xR u i j := fun i j hj => if_neg (by omega)
  have e1 : xR (xuA u 0 mc w σ.2.1.length r b) 0 σ.2.1.length = r := (if_pos rfl : (if σ.2.1.length = σ.2.1.length then _ else _) = _)
  have e2 : xR (xuA u 0 mc w σ.2.1.length r b) 1 σ.2.1.length = b := (if_pos rfl : (if σ.2.1.length = σ.2.1.length then _ else _) = _)
  have e3 : ∀ j, xR (xuA u 0 mc w σ.2.1.length r b) 2 j = xR u 2 j := fun j => by
    show (if j = σ.2.1.length then xR u 2 j else xR u 2 j) = _; rw [ite_self]
  have e4 : ∀ j, xR (xuA u 0 mc w σ.2.1.length r b) 3 j = xR u 3 j := fun j => by
    show (if j = σ.2.1.length then xR u 3 j else xR u 3 j) = _; rw [ite_self]
  have hlen : (stV σ xs).2.1.length = σ.2.1.length + 1 := List.length_append
  refine ⟨hb, ?_, hl1, ?_, ?_, ?_, hi, ?_, ?_⟩
  · rw [hlen]; exact hl0.add hw (fun i hi => e0 0 i hi) e1
  · exact ⟨hl2.1, hl2.2.1, hl2.2.2.1, fun i hi => by rw [e3]; exact hl2.2.2.2 i hi⟩
  · intro i hi9
    rw [hlen] at hi9
    rcases Nat.lt_succ_iff_lt_or_eq.mp hi9 with g1 | g1
    · rw [e0 _ _ g1, e0 _ _ g1, show vsN (stV σ xs).2.1 i = vsN σ.2.1 i from vsN_lo g1]; exact hrw i g1
    · rw [g1, e1, e2, show vsN (stV σ xs).2.1 σ.2.1.length = xs from vsN_hi]; exact hr
  · exact fun j hj => ⟨(hp j hj).1, (hp j hj).2.1.more, (hp j hj).2.2.more⟩
  · intro i hi9
    rw [e3, e4]; exact hh i hi9
  · refine ⟨hok.1, ⟨by rw [hlen]; omega, fun i hi9 => ?_⟩, hok.2.2⟩
    rw [hlen] at hi9
    rcases Nat.lt_succ_iff_lt_or_eq.mp hi9 with g1 | g1
    · rw [show vsN (stV σ xs).2.1 i = vsN σ.2.1 i from vsN_lo g1]; exact hok.2.1.2 i g1
    · rw [g1, show vsN (stV σ xs).2.1 σ.2.1.length = xs from vsN_hi]; exact hx
theorem XF.buf {cs : Nat → ClassId} {ea : Nat} {u : XU} {σ : St} {Y : va_W} {xs : BL} (h : XF cs ea u σ Y) (hx : rowOk xs) (hb : ∀ i, i < xs.length → xF u 0 i = bb xs i) : XF cs ea u (stB0 σ xs) Y :=
  ⟨hb, h.2.1, h.2.2.1, h.2.2.2.1, h.2.2.2.2.1, h.2.2.2.2.2.1, h.2.2.2.2.2.2.1, h.2.2.2.2.2.2.2.1, hx, h.2.2.2.2.2.2.2.2.2⟩
theorem rowOk_nil : rowOk [] := ⟨Nat.zero_le _, fun i => by rw [bv_out (Nat.zero_le _)]; decide⟩
theorem XW.grow {D : va_G} {S0 : Nat} {cs : Nat → ClassId} {a : Nat → Nat} {u : XU} {σ : St} {Y G : va_W} {H : Heap} (hW : Wd D S0 (G ++ XW cs a u σ Y) H) : Wd D S0 (XW cs a u σ (G ++ Y)) H :=
  hW.perm ((pmG _ _ _).trans (List.Perm.append_left _ (pmG _ _ _)))
theorem XW.shrink {D : va_G} {S0 : Nat} {cs : Nat → ClassId} {a : Nat → Nat} {u : XU} {σ : St} {Y G : va_W} {H : Heap} (hW : Wd D S0 (XW cs a u σ (G ++ Y)) H) : Wd D S0 (G ++ XW cs a u σ Y) H :=
  hW.perm ((pmG _ _ _).trans (List.Perm.append_left _ (pmG _ _ _))).symm

