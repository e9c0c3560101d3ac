/-! the least way: both sides as numbers, none where there is no way -/
def om : Option Nat → Option Nat → Option Nat
  | none, b => b
  | some a, none => some a
  | some a, some b => some (min a b)
theorem om_n (a : Option Nat) : om a none = a := by cases a <;> rfl
theorem om_c (a b : Option Nat) : om a b = om b a := by cases a <;> cases b <;> simp [om, Nat.min_comm]
theorem om_a (a b c : Option Nat) : om (om a b) c = om a (om b c) := by cases a <;> cases b <;> cases c <;> simp [om, Nat.min_assoc]
def uo (R : Nat → Option Nat) (i : Nat) (x : Option Nat) : Nat → Option Nat := fun k => if k = i then x else R k
theorem uo_self (R : Nat → Option Nat) (i : Nat) (x : Option Nat) : uo R i x i = x := if_pos rfl
theorem uo_ne (R : Nat → Option Nat) {i k : Nat} (x : Option Nat) (h : k ≠ i) : uo R i x k = R k := if_neg h
def Vf (g : Nat → Nat) (L : Nat → Option Nat) (i : Nat) (z : Option Nat) : Nat → Option Nat
  | 0 => z
  | q + 1 => om (Vf g L i z q) (if g q = i then L q else none)
theorem Vf_cong {g : Nat → Nat} {L L' : Nat → Option Nat} {i : Nat} {z : Option Nat} : ∀ {n : Nat}, (∀ q, q < n → g q = i → L q = L' q) → Vf g L i z n = Vf g L' i z n
  | 0, _ => rfl
  | n + 1, h => by
    show om (Vf g L i z n) (if g n = i then L n else none) = om (Vf g L' i z n) (if g n = i then L' n else none)
    rw [Vf_cong (fun q hq hg => h q (by omega) hg)]
    by_cases e : g n = i
    · rw [if_pos e, if_pos e, h n (Nat.lt_succ_self n) e]
    · rw [if_neg e, if_neg e]
theorem Vf_ne {g : Nat → Nat} {L : Nat → Option Nat} {i p n : Nat} {z y : Option Nat} (h : g p ≠ i) : Vf g (uo L p y) i z n = Vf g L i z n :=
  Vf_cong (fun q _ hg => uo_ne L y (fun e => h (e ▸ hg)))
theorem Vf_up {g : Nat → Nat} {L : Nat → Option Nat} {i p : Nat} {z x : Option Nat} (hg : g p = i) : ∀ {n : Nat}, p < n → Vf g (uo L p (om (L p) x)) i z n = om (Vf g L i z n) x
  | 0, h => absurd h (Nat.not_lt_zero p)
  | n + 1, h => by
    show om (Vf g (uo L p (om (L p) x)) i z n) (if g n = i then uo L p (om (L p) x) n else none) = om (om (Vf g L i z n) (if g n = i then L n else none)) x
    by_cases e : p = n
    · subst e
      rw [if_pos hg, if_pos hg, uo_self, ← om_a]
      rw [Vf_cong (fun q hq _ => uo_ne L (om (L p) x) (Nat.ne_of_lt hq))]
    · rw [Vf_up hg (show p < n by omega), uo_ne L (om (L p) x) (fun k => e k.symm), om_a, om_a, om_c x]
theorem Vf_none {g : Nat → Nat} {i : Nat} {z : Option Nat} : ∀ n, Vf g (fun _ => none) i z n = z
  | 0 => rfl
  | n + 1 => by
    show om (Vf g (fun _ => none) i z n) (if g n = i then none else none) = z
    rw [ite_self, om_n, Vf_none n]
def xSt (R : Nat → Option Nat) (bi gi w : Nat) : Nat → Option Nat := match R bi with
  | none => R
  | some a => uo R gi (om (R gi) (some (a + w)))
def mSt (A : Option Nat) (L : Nat → Option Nat) (p w : Nat) : Nat → Option Nat := match A with
  | none => L
  | some a => uo L p (om (L p) (some (a + w)))
theorem st_inv {g b : Nat → Nat} {L R : Nat → Option Nat} {p w np : Nat} {z : Nat → Option Nat} (hp : p < np) (hI : ∀ i, R i = Vf g L i (z i) np) : ∀ i, xSt R (b p) (g p) w i = Vf g (mSt (Vf g L (b p) (z (b p)) np) L p w) i (z i) np := by
  intro i
  unfold xSt mSt
  rw [hI (b p)]
  cases hA : Vf g L (b p) (z (b p)) np with
  | none => exact hI i
  | some a =>
    show uo R (g p) (om (R (g p)) (some (a + w))) i = Vf g (uo L p (om (L p) (some (a + w)))) i (z i) np
    by_cases e : i = g p
    · subst e
      rw [uo_self, Vf_up rfl hp, hI]
    · rw [uo_ne _ _ e, Vf_ne (fun k => e k.symm)]
      exact hI i
def kwI (b g wn : Nat → Nat) (R : Nat → Option Nat) : Nat → (Nat → Option Nat)
  | 0 => R
  | j + 1 => xSt (kwI b g wn R j) (b j) (g j) (wn j)
def kwO (b g wn : Nat → Nat) (z : Nat → Option Nat) (np : Nat) : Nat → (Nat → Option Nat)
  | 0 => z
  | r + 1 => kwI b g wn (kwO b g wn z np r) np
def kdI (b g wn : Nat → Nat) (z : Nat → Option Nat) (np : Nat) (L : Nat → Option Nat) : Nat → (Nat → Option Nat)
  | 0 => L
  | p + 1 => mSt (Vf g (kdI b g wn z np L p) (b p) (z (b p)) np) (kdI b g wn z np L p) p (wn p)
def kdO (b g wn : Nat → Nat) (z : Nat → Option Nat) (np : Nat) : Nat → (Nat → Option Nat)
  | 0 => fun _ => none
  | r + 1 => kdI b g wn z np (kdO b g wn z np r) np
theorem kI_inv {b g wn : Nat → Nat} {z : Nat → Option Nat} {np : Nat} {R L : Nat → Option Nat} (hI : ∀ i, R i = Vf g L i (z i) np) : ∀ j, j ≤ np → ∀ i, kwI b g wn R j i = Vf g (kdI b g wn z np L j) i (z i) np
  | 0, _ => hI
  | j + 1, h => st_inv (b := b) (w := wn j) (show j < np by omega) (kI_inv hI j (by omega))
theorem kO_inv {b g wn : Nat → Nat} {z : Nat → Option Nat} {np : Nat} : ∀ r i, kwO b g wn z np r i = Vf g (kdO b g wn z np r) i (z i) np
  | 0 => fun i => (Vf_none (z := z i) np).symm
  | r + 1 => kI_inv (kO_inv r) np (Nat.le_refl np)
/-! bounds -/
def Bd (K : Nat) (R : Nat → Option Nat) : Prop := ∀ i k, R i = some k → k ≤ K
theorem om_bd {x y : Option Nat} {K k : Nat} (hx : ∀ a, x = some a → a ≤ K) (hy : ∀ a, y = some a → a ≤ K) (h : om x y = some k) : k ≤ K := by
  cases x with
  | none => exact hy k h
  | some a =>
    cases y with
    | none => exact hx k h
    | some c =>
      have h1 := hx a rfl
      have h2 : min a c = k := Option.some.inj h
      omega
theorem uo_bd {K : Nat} {R : Nat → Option Nat} {i : Nat} {x : Option Nat} (hR : Bd K R) (hx : ∀ a, x = some a → a ≤ K) : Bd K (uo R i x) := by
  intro j k h
  by_cases e : j = i
  · rw [e, uo_self] at h; exact hx k h
  · rw [uo_ne _ _ e] at h; exact hR j k h
theorem Bd.up {K K' : Nat} {R : Nat → Option Nat} (h : Bd K R) (hk : K ≤ K') : Bd K' R := fun i k e => Nat.le_trans (h i k e) hk
theorem mSt_bd {K w p : Nat} {A : Option Nat} {L : Nat → Option Nat} (hL : Bd K L) (hA : ∀ a, A = some a → a ≤ K) : Bd (K + w) (mSt A L p w) := by
  cases A with
  | none => exact hL.up (Nat.le_add_right _ _)
  | some a =>
    have ha := hA a rfl
    exact uo_bd (hL.up (Nat.le_add_right _ _)) (fun k hk => om_bd (K := K + w) (fun c hc => Nat.le_trans (hL p c hc) (Nat.le_add_right _ _)) (fun c hc => by cases hc; omega) hk)
theorem xSt_bd {K w bi gi : Nat} {R : Nat → Option Nat} (hR : Bd K R) : Bd (K + w) (xSt R bi gi w) := by
  unfold xSt
  cases hA : R bi with
  | none => exact hR.up (Nat.le_add_right _ _)
  | some a =>
    have ha := hR bi a hA
    exact uo_bd (hR.up (Nat.le_add_right _ _)) (fun k hk => om_bd (K := K + w) (fun c hc => Nat.le_trans (hR gi c hc) (Nat.le_add_right _ _)) (fun c hc => by cases hc; omega) hk)
theorem Vf_bd {g : Nat → Nat} {L : Nat → Option Nat} {i K : Nat} {z : Option Nat} (hL : Bd K L) (hz : ∀ a, z = some a → a ≤ K) : ∀ n k, Vf g L i z n = some k → k ≤ K
  | 0 => fun k h => hz k h
  | n + 1 => fun k h => om_bd (K := K) (Vf_bd hL hz n) (fun a ha => by
      by_cases e : g n = i
      · rw [if_pos e] at ha; exact hL n a ha
      · rw [if_neg e] at ha; cases ha) h
theorem kwI_bd {b g wn : Nat → Nat} {R : Nat → Option Nat} {K np : Nat} (hR : Bd K R) (hw : ∀ j, j < np → wn j ≤ 2400) : ∀ j, j ≤ np → Bd (K + j * 2400) (kwI b g wn R j)
  | 0, _ => hR.up (Nat.le_add_right _ _)
  | j + 1, h => (xSt_bd (w := wn j) (kwI_bd hR hw j (by omega))).up (by have := hw j (by omega); omega)
theorem kwO_bd {b g wn : Nat → Nat} {z : Nat → Option Nat} {np : Nat} (hz : Bd 0 z) (h12 : np ≤ 12) (hw : ∀ j, j < np → wn j ≤ 2400) : ∀ r, Bd (r * 28800) (kwO b g wn z np r)
  | 0 => hz.up (Nat.zero_le _)
  | r + 1 => (kwI_bd (kwO_bd hz h12 hw r) hw np (Nat.le_refl np)).up (by omega)
theorem kdI_bd {b g wn : Nat → Nat} {z : Nat → Option Nat} {L : Nat → Option Nat} {K np : Nat} (hz : Bd 0 z) (hL : Bd K L) (hw : ∀ j, j < np → wn j ≤ 2400) : ∀ j, j ≤ np → Bd (K + j * 2400) (kdI b g wn z np L j)
  | 0, _ => hL.up (Nat.le_add_right _ _)
  | j + 1, h => (mSt_bd (w := wn j) (kdI_bd hz hL hw j (by omega)) (Vf_bd (kdI_bd hz hL hw j (by omega)) (fun a ha => by have := hz _ a ha; omega) np)).up (by have := hw j (by omega); omega)
theorem kdO_bd {b g wn : Nat → Nat} {z : Nat → Option Nat} {np : Nat} (hz : Bd 0 z) (h12 : np ≤ 12) (hw : ∀ j, j < np → wn j ≤ 2400) : ∀ r, Bd (r * 28800) (kdO b g wn z np r)
  | 0 => fun _ _ h => by cases h
  | r + 1 => (kdI_bd hz (kdO_bd hz h12 hw r) hw np (Nat.le_refl np)).up (by omega)
/-! ints of these numbers -/
theorem oI_no {o : Option Nat} {K : Nat} (ho : ∀ a, o = some a → a ≤ K) (hK : K < 2 ^ 31) : oI o = (-1) ↔ o = none := by
  cases o with
  | none => exact ⟨fun _ => rfl, fun _ => rfl⟩
  | some a => exact ⟨fun h => absurd h (z_nm1 (by have := ho a rfl; omega)), fun h => by cases h⟩
theorem oI_up {f : Nat → Int32} {R : Nat → Option Nat} (h : ∀ i, f i = oI (R i)) (p : Nat) (x : Option Nat) : ∀ i, upd f p (oI x) i = oI (uo R p x i) := by
  intro i
  by_cases e : i = p
  · rw [e, uo_self]; exact if_pos rfl
  · rw [uo_ne _ _ e, ← h i]; exact if_neg e
theorem uo_same {R : Nat → Option Nat} {p : Nat} {x : Option Nat} (h : R p = x) (i : Nat) : uo R p x i = R i := by
  by_cases e : i = p
  · rw [e, uo_self, h]
  · exact uo_ne _ _ e
theorem rb_o {f : Nat → Int32} {R : Nat → Option Nat} {bi gi w K : Nat} (h : ∀ i, f i = oI (R i)) (hb : Bd K R) (hK : K + w < 2 ^ 31) : ∀ i, rbF f bi gi (nI w) i = oI (xSt R bi gi w i) := by
  intro i
  unfold rbF xSt
  rw [h bi, h gi]
  cases hA : R bi with
  | none => rw [if_pos (show oI none = (-1) from rfl)]; exact h i
  | some a =>
    have ha := hb bi a hA
    rw [if_neg (show ¬ oI (some a) = (-1) from z_nm1 (by omega)), show oI (some a) + nI w = oI (some (a + w)) from nI_add a w]
    show (if ¬ oI (R gi) = (-1) ∧ ¬ oI (some (a + w)) < oI (R gi) then f else upd f gi (oI (some (a + w)))) i = oI (uo R gi (om (R gi) (some (a + w))) i)
    cases hG : R gi with
    | none => rw [if_neg (fun q => q.1 rfl)]; exact oI_up h gi _ i
    | some c =>
      have hc := hb gi c hG
      by_cases q : a + w < c
      · rw [if_neg (fun z => z.2 (show nI (a + w) < nI c from nI_lt q (by omega)))]
        rw [show om (some c) (some (a + w)) = some (a + w) from congrArg some (show min c (a + w) = a + w by omega)]
        exact oI_up h gi _ i
      · rw [if_pos ⟨z_nm1 (by omega), fun z => q ((nI_ltI (by omega) (by omega)).mp z)⟩]
        rw [show om (some c) (some (a + w)) = some c from congrArg some (show min c (a + w) = c by omega), uo_same hG]
        exact h i
theorem lwI_o {u : XU} {wt f : Nat → Int32} {b g wn : Nat → Nat} {R : Nat → Option Nat} {np K : Nat} (h5 : ∀ j, j < np → xP u 5 j = b j) (h6 : ∀ j, j < np → xP u 6 j = g j) (hwt : ∀ j, j < np → wt j = nI (wn j)) (hw : ∀ j, j < np → wn j ≤ 2400) (h : ∀ i, f i = oI (R i)) (hb : Bd K R) (hK : K + np * 2400 < 2 ^ 31) : ∀ j, j ≤ np → ∀ i, lwI u wt f j i = oI (kwI b g wn R j i)
  | 0, _ => h
  | j + 1, hj => by
    intro i
    show rbF (lwI u wt f j) (xP u 5 j) (xP u 6 j) (wt j) i = oI (xSt (kwI b g wn R j) (b j) (g j) (wn j) i)
    rw [h5 j (by omega), h6 j (by omega), hwt j (by omega)]
    have h1 := hw j (by omega)
    have h2 : j * 2400 + 2400 ≤ np * 2400 := by omega
    exact rb_o (lwI_o h5 h6 hwt hw h hb hK j (by omega)) (kwI_bd hb hw j (by omega)) (by omega) i
theorem lwO_o {u : XU} {wt : Nat → Int32} {b g wn : Nat → Nat} {np v : Nat} (h12 : np ≤ 12) (h5 : ∀ j, j < np → xP u 5 j = b j) (h6 : ∀ j, j < np → xP u 6 j = g j) (hwt : ∀ j, j < np → wt j = nI (wn j)) (hw : ∀ j, j < np → wn j ≤ 2400) : ∀ r, r ≤ 12 → ∀ i, lwO u wt np v r i = oI (kwO b g wn (fun i => if i = v then some 0 else none) np r i)
  | 0, _ => by
    intro i
    show upd (fun _ => (-1)) v (nI 0) i = oI (if i = v then some 0 else none)
    by_cases e : i = v
    · rw [if_pos e, e]; exact if_pos rfl
    · rw [if_neg e]; exact if_neg e
  | r + 1, hr => by
    have hz : Bd 0 (fun i => if i = v then some 0 else none) := fun i k h => by
      dsimp only at h
      by_cases e : i = v
      · rw [if_pos e] at h; cases h; exact Nat.le_refl 0
      · rw [if_neg e] at h; cases h
    exact lwI_o h5 h6 hwt hw (lwO_o h12 h5 h6 hwt hw r (by omega)) (kwO_bd hz h12 hw r) (by omega) np (Nat.le_refl np)
/-! the model's way -/
def ldA (st : Bool) (cB : Nat → Bool) (f : Nat → Int32) : Nat → Int32
  | 0 => if st = true then nI 0 else (-1)
  | q + 1 => if ¬ ldA st cB f q = 0 ∧ ¬ f q = (-1) ∧ (ldA st cB f q = (-1) ∨ f q < ldA st cB f q) ∧ cB q = true then f q else ldA st cB f q
theorem ldA_0 {st : Bool} {cB : Nat → Bool} {f : Nat → Int32} {q : Nat} (h : ldA st cB f q = 0) : ∀ d, ldA st cB f (q + d) = 0
  | 0 => h
  | d + 1 => by
    show (if ¬ ldA st cB f (q + d) = 0 ∧ _ then _ else _) = _
    rw [if_neg (fun z => z.1 (ldA_0 h d))]
    exact ldA_0 h d
def ldP (sB : Nat → Bool) (cB : Nat → Nat → Bool) (wt : Nat → Int32) (np : Nat) (f : Nat → Int32) (p : Nat) : Nat → Int32 :=
  if ldA (sB p) (fun q => cB q p) f np = (-1) then f else if f p = (-1) ∨ ldA (sB p) (fun q => cB q p) f np + wt p < f p then upd f p (ldA (sB p) (fun q => cB q p) f np + wt p) else f
def ldR (sB : Nat → Bool) (cB : Nat → Nat → Bool) (wt : Nat → Int32) (np : Nat) (f : Nat → Int32) : Nat → (Nat → Int32)
  | 0 => f
  | p + 1 => ldP sB cB wt np (ldR sB cB wt np f p) p
def ldO (sB : Nat → Bool) (cB : Nat → Nat → Bool) (wt : Nat → Int32) (np : Nat) : Nat → (Nat → Int32)
  | 0 => fun _ => (-1)
  | r + 1 => ldR sB cB wt np (ldO sB cB wt np r) np
def ldB (eB : Nat → Bool) (f : Nat → Int32) : Nat → Int32
  | 0 => (-1)
  | p + 1 => if ¬ f p = (-1) ∧ (ldB eB f p = (-1) ∨ f p < ldB eB f p) ∧ eB p = true then f p else ldB eB f p
theorem ldA_o {st : Bool} {cB : Nat → Bool} {f : Nat → Int32} {g : Nat → Nat} {L : Nat → Option Nat} {i K : Nat} {z : Option Nat} (hz : z = if st = true then some 0 else none) (h : ∀ q, f q = oI (L q)) (hb : Bd K L) (hK : K < 2 ^ 31) : ∀ n, (∀ q, q < n → (cB q = true ↔ g q = i)) → ldA st cB f n = oI (Vf g L i z n)
  | 0, _ => by
    show (if st = true then nI 0 else (-1)) = oI z
    rw [hz]
    cases st <;> rfl
  | n + 1, hc => by
    have ih := ldA_o (z := z) hz h hb hK n (fun q hq => hc q (by omega))
    have hV : ∀ k, Vf g L i z n = some k → k ≤ K := Vf_bd hb (fun a ha => by rw [hz] at ha; cases st <;> cases ha; exact Nat.zero_le _) n
    show (if ¬ ldA st cB f n = 0 ∧ ¬ f n = (-1) ∧ (ldA st cB f n = (-1) ∨ f n < ldA st cB f n) ∧ cB n = true then f n else ldA st cB f n) = oI (om (Vf g L i z n) (if g n = i then L n else none))
    rw [ih, h n]
    by_cases e : g n = i
    · rw [if_pos e]
      have hcb := (hc n (Nat.lt_succ_self n)).mpr e
      cases hL : L n with
      | none => rw [om_n]; exact if_neg (fun q => q.2.1 rfl)
      | some k =>
        have hk := hb n k hL
        cases hA : Vf g L i z n with
        | none => rw [if_pos ⟨by decide, z_nm1 (by omega), Or.inl rfl, hcb⟩]; rfl
        | some a =>
          have ha := hV a hA
          by_cases q : k < a
          · rw [if_pos ⟨fun h0 => by have := (nI_eq (a := a) (b := 0) (by omega) (by decide)).mp (show nI a = nI 0 from h0); omega, z_nm1 (by omega), Or.inr (nI_lt q (by omega)), hcb⟩]
            exact congrArg nI (show k = min a k by omega)
          · rw [if_neg (fun w => by
              rcases w.2.2.1 with w1 | w1
              · exact z_nm1 (show a < 2 ^ 31 by omega) w1
              · exact q ((nI_ltI (by omega) (by omega)).mp w1))]
            exact congrArg nI (show a = min a k by omega)
    · rw [if_neg e, om_n, if_neg (fun w => e ((hc n (Nat.lt_succ_self n)).mp w.2.2.2))]
theorem ldB_o {eB : Nat → Bool} {f : Nat → Int32} {g : Nat → Nat} {L : Nat → Option Nat} {i K : Nat} (h : ∀ q, f q = oI (L q)) (hb : Bd K L) (hK : K < 2 ^ 31) : ∀ n, (∀ q, q < n → (eB q = true ↔ g q = i)) → ldB eB f n = oI (Vf g L i none n)
  | 0, _ => rfl
  | n + 1, hc => by
    have ih := ldB_o (eB := eB) (i := i) h hb hK n (fun q hq => hc q (by omega))
    have hV : ∀ k, Vf g L i none n = some k → k ≤ K := Vf_bd hb (fun a ha => by cases ha) n
    show (if ¬ f n = (-1) ∧ (ldB eB f n = (-1) ∨ f n < ldB eB f n) ∧ eB n = true then f n else ldB eB f n) = oI (om (Vf g L i none n) (if g n = i then L n else none))
    rw [ih, h n]
    by_cases e : g n = i
    · rw [if_pos e]
      have hcb := (hc n (Nat.lt_succ_self n)).mpr e
      cases hL : L n with
      | none => rw [om_n]; exact if_neg (fun q => q.1 rfl)
      | some k =>
        have hk := hb n k hL
        cases hA : Vf g L i none n with
        | none => rw [if_pos ⟨z_nm1 (by omega), Or.inl rfl, hcb⟩]; rfl
        | some a =>
          have ha := hV a hA
          by_cases q : k < a
          · rw [if_pos ⟨z_nm1 (by omega), Or.inr (nI_lt q (by omega)), hcb⟩]
            exact congrArg nI (show k = min a k by omega)
          · rw [if_neg (fun w => by
              rcases w.2.1 with w1 | w1
              · exact z_nm1 (show a < 2 ^ 31 by omega) w1
              · exact q ((nI_ltI (by omega) (by omega)).mp w1))]
            exact congrArg nI (show a = min a k by omega)
    · rw [if_neg e, om_n, if_neg (fun w => e ((hc n (Nat.lt_succ_self n)).mp w.2.2))]
theorem ldP_o {sB : Nat → Bool} {cB : Nat → Nat → Bool} {wt f : Nat → Int32} {b g : Nat → Nat} {L : Nat → Option Nat} {z : Nat → Option Nat} {np p w K : Nat} (hz : z (b p) = if sB p = true then some 0 else none) (hwt : wt p = nI w) (h : ∀ q, f q = oI (L q)) (hb : Bd K L) (hK : K + w < 2 ^ 31) (hc : ∀ q, q < np → (cB q p = true ↔ g q = b p)) : ∀ i, ldP sB cB wt np f p i = oI (mSt (Vf g L (b p) (z (b p)) np) L p w i) := by
  intro i
  unfold ldP
  rw [ldA_o (cB := fun q => cB q p) hz h hb (by omega) np hc, hwt, h p]
  cases hA : Vf g L (b p) (z (b p)) np with
  | none => rw [if_pos (show oI none = (-1) from rfl)]; exact h i
  | some a =>
    have ha := Vf_bd hb (fun c hc9 => by rw [hz] at hc9; cases hs : sB p <;> rw [hs] at hc9 <;> cases hc9; exact Nat.zero_le _) np a hA
    rw [if_neg (show ¬ oI (some a) = (-1) from z_nm1 (by omega)), show oI (some a) + nI w = oI (some (a + w)) from nI_add a w]
    show (if oI (L p) = (-1) ∨ oI (some (a + w)) < oI (L p) then upd f p (oI (some (a + w))) else f) i = oI (uo L p (om (L p) (some (a + w))) i)
    cases hG : L p with
    | none => rw [if_pos (Or.inl (show oI none = (-1) from rfl))]; exact oI_up h p _ i
    | some c =>
      have hc2 := hb p c hG
      by_cases q : a + w < c
      · rw [if_pos (Or.inr (show oI (some (a + w)) < oI (some c) from nI_lt q (by omega)))]
        rw [show om (some c) (some (a + w)) = some (a + w) from congrArg some (show min c (a + w) = a + w by omega)]
        exact oI_up h p _ i
      · rw [if_neg (fun (z9 : oI (some c) = (-1) ∨ oI (some (a + w)) < oI (some c)) => by
          rcases z9 with z1 | z1
          · exact z_nm1 (show c < 2 ^ 31 by omega) z1
          · exact q ((nI_ltI (by omega) (by omega)).mp z1))]
        rw [show om (some c) (some (a + w)) = some c from congrArg some (show min c (a + w) = c by omega), uo_same hG]
        exact h i
section LD
variable {sB : Nat → Bool} {cB : Nat → Nat → Bool} {wt : Nat → Int32} {b g wn : Nat → Nat} {z : Nat → Option Nat} {np : Nat}
theorem ldR_o {f : Nat → Int32} {L : Nat → Option Nat} {K : Nat} (hz0 : Bd 0 z) (hz : ∀ p, p < np → z (b p) = if sB p = true then some 0 else none) (hwt : ∀ j, j < np → wt j = nI (wn j)) (hw : ∀ j, j < np → wn j ≤ 2400) (hc : ∀ p, p < np → ∀ q, q < np → (cB q p = true ↔ g q = b p)) (h : ∀ q, f q = oI (L q)) (hb : Bd K L) (hK : K + np * 2400 < 2 ^ 31) : ∀ j, j ≤ np → ∀ i, ldR sB cB wt np f j i = oI (kdI b g wn z np L j i)
  | 0, _ => h
  | j + 1, hj => by
    have h1 := hw j (by omega)
    have h2 : j * 2400 + 2400 ≤ np * 2400 := by omega
    exact ldP_o (hz j (by omega)) (hwt j (by omega)) (ldR_o hz0 hz hwt hw hc h hb hK j (by omega)) (kdI_bd hz0 hb hw j (by omega)) (by omega) (hc j (by omega))
theorem ldO_o (h12 : np ≤ 12) (hz0 : Bd 0 z) (hz : ∀ p, p < np → z (b p) = if sB p = true then some 0 else none) (hwt : ∀ j, j < np → wt j = nI (wn j)) (hw : ∀ j, j < np → wn j ≤ 2400) (hc : ∀ p, p < np → ∀ q, q < np → (cB q p = true ↔ g q = b p)) : ∀ r, r ≤ 12 → ∀ i, ldO sB cB wt np r i = oI (kdO b g wn z np r i)
  | 0, _ => fun _ => rfl
  | r + 1, hr => ldR_o hz0 hz hwt hw hc (ldO_o h12 hz0 hz hwt hw hc r (by omega)) (kdO_bd hz0 h12 hw r) (by omega) np (Nat.le_refl np)
end LD
def leadI (ps : List Pt) (wt : Nat → Int32) (xs ys : BL) : Int32 := if eqL xs ys = true then nI 0 else ldB (fun p => eqL (psN ps p).2.1 ys) (ldO (fun p => eqL xs (psN ps p).1) (fun q p => eqL (psN ps q).2.1 (psN ps p).1) wt ps.length ps.length) ps.length
theorem Vf_0 {g : Nat → Nat} {L : Nat → Option Nat} {i : Nat} : ∀ n, Vf g L i (some 0) n = some 0
  | 0 => rfl
  | n + 1 => by
    show om (Vf g L i (some 0) n) (if g n = i then L n else none) = some 0
    rw [Vf_0 n]
    cases (if g n = i then L n else none) with
    | none => rfl
    | some k => exact congrArg some (Nat.zero_min k)
theorem lead_eq {cs : Nat → ClassId} {ea : Nat} {u : XU} {σ : St} {Y : va_W} (hF : XF cs ea u σ Y) {v w : Nat} (hv : v < σ.2.1.length) (hw : w < σ.2.1.length) (wn : Nat → Nat) (hwn : ∀ j, j < σ.2.2.1.length → wn j ≤ 2400) :
    lwO u (fun j => nI (wn j)) σ.2.2.1.length (flN σ.2.1 v) σ.2.2.1.length (flN σ.2.1 w) = leadI σ.2.2.1 (fun j => nI (wn j)) (vsN σ.2.1 v) (vsN σ.2.1 w) := by
  obtain ⟨-, -, -, -, -, hp, -, -, hok⟩ := hF
  have h12 := hok.2.2.1.1
  have fv := (FI_flN hok.2.1.2 hv).1
  have fw := (FI_flN hok.2.1.2 hw).1
  have rv := hok.2.1.2 v hv
  have rw9 := hok.2.1.2 w hw
  have hz0 : Bd 0 (fun i => if i = flN σ.2.1 v then some 0 else none) := fun i k h => by
    dsimp only at h
    by_cases e : i = flN σ.2.1 v
    · rw [if_pos e] at h; cases h; exact Nat.le_refl 0
    · rw [if_neg e] at h; cases h
  have same : ∀ {i j : Nat} {xs ys : BL}, FI σ.2.1 i xs → FI σ.2.1 j ys → rowOk xs → rowOk ys → (eqL xs ys = true ↔ i = j) := fun {i j xs ys} f1 f2 r1 r2 => by
    rw [eqL_iff r1 r2]
    exact ⟨fun e => by subst e; exact f1.one f2, fun e => by subst e; exact f1.2.1.symm.trans f2.2.1⟩
  have hO := kO_inv (b := xP u 5) (g := xP u 6) (wn := wn) (z := fun i => if i = flN σ.2.1 v then some 0 else none) (np := σ.2.2.1.length) σ.2.2.1.length (flN σ.2.1 w)
  have hL := lwO_o (u := u) (wt := fun j => nI (wn j)) (b := xP u 5) (g := xP u 6) (wn := wn) (np := σ.2.2.1.length) (v := flN σ.2.1 v) h12 (fun _ _ => rfl) (fun _ _ => rfl) (fun _ _ => rfl) hwn σ.2.2.1.length h12 (flN σ.2.1 w)
  have hM := ldO_o (sB := fun p => eqL (vsN σ.2.1 v) (psN σ.2.2.1 p).1) (cB := fun q p => eqL (psN σ.2.2.1 q).2.1 (psN σ.2.2.1 p).1) (wt := fun j => nI (wn j)) (b := xP u 5) (g := xP u 6) (wn := wn) (z := fun i => if i = flN σ.2.1 v then some 0 else none) (np := σ.2.2.1.length) h12 hz0 (fun p hp9 => by
      have q := same fv (hp p hp9).2.1 rv (hok.2.2.1.2 p hp9).1
      cases e : eqL (vsN σ.2.1 v) (psN σ.2.2.1 p).1 with
      | true => exact (if_pos (q.mp e).symm).trans (if_pos rfl).symm
      | false => exact (if_neg (fun z => by rw [q.mpr z.symm] at e; cases e)).trans (if_neg (by decide)).symm) (fun _ _ => rfl) hwn (fun p hp9 q hq9 => same (hp q hq9).2.2 (hp p hp9).2.1 (hok.2.2.1.2 q hq9).2.1 (hok.2.2.1.2 p hp9).1) σ.2.2.1.length h12
  rw [hL, hO]
  unfold leadI
  by_cases e : eqL (vsN σ.2.1 v) (vsN σ.2.1 w) = true
  · rw [if_pos e]
    show oI (Vf _ _ _ (if flN σ.2.1 w = flN σ.2.1 v then some 0 else none) _) = nI 0
    rw [if_pos ((same fv fw rv rw9).mp e).symm, Vf_0]
    rfl
  · rw [if_neg e]
    show oI (Vf _ _ _ (if flN σ.2.1 w = flN σ.2.1 v then some 0 else none) _) = _
    rw [if_neg (fun z => e ((same fv fw rv rw9).mpr z.symm))]
    exact (ldB_o hM (kdO_bd hz0 h12 hwn σ.2.2.1.length) (by omega) σ.2.2.1.length (fun q hq => same (hp q hq).2.2 fw (hok.2.2.1.2 q hq).2.1 rw9)).symm

