/-! contracts made weaker; a list's add as one contract; the class's world -/
theorem z_room {s : State} {pl : Platform} {r r' : Room} (hf : r.frames ≤ r'.frames) (hl : r.locals ≤ r'.locals) (hc : r.cells ≤ r'.cells) (hs : r.slots ≤ r'.slots) (h : s.hasRoom pl r' = true) : s.hasRoom pl r = true := by
  have h1 := State.hasRoom_stack h
  have h2 := State.hasRoom_real h
  have h3 := State.hasRoom_plain h
  unfold State.hasRoom at h
  have h4 := Bool.and_eq_true_iff.mp h
  have h5 := Bool.and_eq_true_iff.mp h4.1
  have h6 := Bool.and_eq_true_iff.mp h5.1
  have h7 := of_decide_eq_true h5.2
  have h8 := of_decide_eq_true h6.2
  exact State.hasRoom_of h3 (by omega) (by omega) (by omega) (by omega) h4.2 (by omega)
theorem z_met {l : Launch} {y : MethodName} {ws : List Cond} {rm rm' : Room} {P P' : Array Value → State → Prop} {Q Q' : Array Value → State → Outcome → State → Prop} {mc ms mc' ms' : Nat} {free : Addr → Prop} (h : Met l y ws rm P Q mc ms free)
    (hr : rm.frames ≤ rm'.frames ∧ rm.locals ≤ rm'.locals ∧ rm.cells ≤ rm'.cells ∧ rm.slots ≤ rm'.slots) (hm : mc ≤ mc' ∧ ms ≤ ms') (hp : ∀ a s, P' a s → P a s) (hq : ∀ a s o t, P' a s → Q a s o t → Q' a s o t) : Met l y ws rm' P' Q' mc' ms' free := by
  intro p e ha hcs hk s m args below hfr happ hP hK
  obtain ⟨a1, a2, a3, a4, a5, a6, a7, a8⟩ := (Spec.appliesLoose_iff hfr).mp happ
  obtain ⟨n, o, b1, b2, b3, b4, L, b5, b6⟩ := h p e ha hcs hk s m args below hfr ((Spec.appliesLoose_iff hfr).mpr ⟨a1, a2, a3, a4, a5, a6, z_room hr.1 hr.2.1 hr.2.2.1 hr.2.2.2 a7, a8⟩) (hp _ _ hP) trivial
  exact ⟨n, o, b1, b2, b3, hq _ _ _ _ hP b4, L, ⟨b5.1, b5.2.1, b5.2.2.mono hm.1 hm.2⟩, b6⟩
abbrev LO (mc : Int32) (ed n : Nat) : va_E := .inr (0, [.int mc, .ref ed, .int (nI n)])
def LE (cs : Nat → ClassId) (ed cap : Nat) (f : Nat → Option Nat) : va_W := if cap = 0 then [] else [(ed, qa cs 1 cap f)]
theorem LE_0 {cs : Nat → ClassId} {ed : Nat} {f : Nat → Option Nat} : LE cs ed 0 f = [] := rfl
theorem LE_1 {cs : Nat → ClassId} {ed cap : Nat} {f : Nat → Option Nat} (h : cap ≠ 0) : LE cs ed cap f = [(ed, qa cs 1 cap f)] := if_neg h
/-- a list's array, its length, its contents, and what has become garbage -/
abbrev LU : Type := Nat × Nat × (Nat → Option Nat) × va_W
def aP (n v : Nat) (f : Nat → Option Nat) (u : LU) : Prop := 10 ≤ u.2.1 ∧ u.2.1 ≤ 66 ∧ n + 1 ≤ u.2.1 ∧ (∀ i, i < n → u.2.2.1 i = f i) ∧ u.2.2.1 n = some v
theorem c_add (l : Launch) (D : va_G) (cs : Nat → ClassId) (S0 : Nat) (ea mi : Nat) (sa : Nat → Nat) (ws : va_W) (lo ed n cap ci : Nat) (mc : Int32) (f : Nat → Option Nat) (h0 : cap = 0 → ed = ea) (h1 : cap ≠ 0 → 10 ≤ cap ∧ cap ≤ 66) (hn : n ≤ cap) (hn2 : n ≤ 40) (hci : ci = 1 ∨ ci = 2) (hel : ∀ i, i < n → ∃ y vs, f i = some y ∧ (y, (Sum.inr (ci, vs) : va_E)) ∈ ws) (v : Nat) (vs : List Value) (hv : (v, (Sum.inr (ci, vs) : va_E)) ∈ ws) :
    Met l yJx4a65c_add_9ea2d wsJx4a65c_add_9ea2d ({ frames := 6, cells := 1, slots := 400, locals := 150 }) (zE [.ref lo, .ref v] (fun H => Wd D S0 ((lo, LO mc ed n) :: (LE cs ed cap f ++ ws)) H) D cs S0 ea mi sa)
      (va_Qi (fun _ (u : LU) => aP n v f u) (fun u t => Wd D S0 ((lo, LO (mc + nI 1) u.1 (n + 1)) :: (LE cs u.1 u.2.1 u.2.2.1 ++ (u.2.2.2 ++ ws))) t.heap) (SA S0)) 1 400 (SA S0) := by
  by_cases hc : cap = 0
  · subst hc
    have hed := h0 rfl
    have en : n = 0 := by omega
    subst hed; subst en
    refine z_met (c_Jx4a65c_add_9ea2d_B l D cs S0 ed mi sa ws lo ci mc hci v vs hv) ⟨by decide, by decide, by decide, by decide⟩ ⟨by decide, by decide⟩ (fun a s h => h) (fun a s o t _ h => ⟨?_, h.2⟩)
    obtain ⟨⟨r, u, g1, -, g3⟩, -⟩ := h
    refine ⟨r, (u, 10, va_up (fun _ => none) 0 (some v), []), g1, ⟨Nat.le_refl 10, show (10 : Nat) ≤ 66 by decide, show (0 : Nat) + 1 ≤ 10 by decide, fun i hi => absurd hi (Nat.not_lt_zero i), show va_up (fun _ => none) 0 (some v) 0 = some v from va_up_self _ _ _⟩, ?_⟩
    show Wd D S0 ((lo, LO (mc + nI 1) u (0 + 1)) :: (LE cs u 10 (va_up (fun _ => none) 0 (some v)) ++ ([] ++ ws))) t.heap
    rw [LE_1 (by decide)]
    exact g3
  · rw [LE_1 hc]
    obtain ⟨hc1, hc2⟩ := h1 hc
    rcases Nat.lt_or_ge n cap with hlt | hge
    · refine z_met (c_Jx4a65c_add_9ea2d_R l D cs S0 ea mi sa ws lo ed cap n ci mc f hlt (by omega) hci v vs hv) ⟨by decide, by decide, by decide, by decide⟩ ⟨by decide, by decide⟩ (fun a s h => h) (fun a s o t _ h => ⟨?_, h.2⟩)
      obtain ⟨⟨r, u, g1, -, g3⟩, -⟩ := h
      refine ⟨r, (ed, cap, va_up f n (some v), []), g1, ⟨hc1, hc2, hlt, fun i hi => va_up_ne _ _ (by omega), va_up_self _ _ _⟩, ?_⟩
      show Wd D S0 ((lo, LO (mc + nI 1) ed (n + 1)) :: (LE cs ed cap (va_up f n (some v)) ++ ([] ++ ws))) t.heap
      rw [LE_1 hc]
      exact g3
    · have en : n = cap := by omega
      subst en
      refine z_met (c_Jx4a65c_add_9ea2d_A l D cs S0 ea mi sa ws lo ed n ci mc f (by omega) (by omega) hci (fun i hi y hy => by
        obtain ⟨y2, vs2, k1, k2⟩ := hel i hi
        rw [k1] at hy; cases hy; exact ⟨vs2, k2⟩) v vs hv) ⟨by decide, by decide, by decide, by decide⟩ ⟨by decide, by decide⟩ (fun a s h => h) (fun a s o t _ h => ⟨?_, h.2⟩)
      obtain ⟨⟨r, u, g1, -, g3⟩, -⟩ := h
      refine ⟨r, (u, n + n / 2, va_up (va_cpy f (fun _ => none) 0 0 n) n (some v), [(ed, qa cs 1 n f)]), g1, ⟨by show 10 ≤ n + n / 2; omega, by show n + n / 2 ≤ 66; omega, by show n + 1 ≤ n + n / 2; omega, fun i hi => ?_, va_up_self _ _ _⟩, ?_⟩
      · show va_up (va_cpy f (fun _ => none) 0 0 n) n (some v) i = f i
        rw [va_up_ne _ _ (by omega)]
        unfold va_cpy
        rw [if_pos ⟨Nat.zero_le _, by omega⟩, Nat.zero_add, Nat.sub_zero]
      · show Wd D S0 ((lo, LO (mc + nI 1) u (n + 1)) :: (LE cs u (n + n / 2) (va_up (va_cpy f (fun _ => none) 0 0 n) n (some v)) ++ ([(ed, qa cs 1 n f)] ++ ws))) t.heap
        rw [LE_1 (by omega)]
        exact Wd.perm g3 (List.Perm.swap _ _ _)
/-! the class's cells, and what is known of them -/
def XL (cs : Nat → ClassId) (a : Nat → Nat) (u : XU) (σ : St) : va_W := [(a 0, xO a u σ), (a 1, fa cs 400 (xF u 0)), (a 2, fa cs 200 (xF u 1)), (a 3, fa cs 12 (xF u 2)), (a 4, LO (xm u 0) (xe u 0) σ.2.1.length), (a 5, LO (xm u 1) (xe u 1) σ.2.2.1.length), (a 6, LO (xm u 2) (xe u 2) σ.2.2.2.2.length)]
def XE (cs : Nat → ClassId) (u : XU) : va_W := LE cs (xe u 0) (xc u 0) (xg u 0) ++ (LE cs (xe u 1) (xc u 1) (xg u 1) ++ LE cs (xe u 2) (xc u 2) (xg u 2))
abbrev XW (cs : Nat → ClassId) (a : Nat → Nat) (u : XU) (σ : St) (Y : va_W) : va_W := XL cs a u σ ++ (XE cs u ++ Y)
def LF (ea ed n cap : Nat) (g : Nat → Option Nat) (A : Nat → Nat) : Prop := (cap = 0 → ed = ea) ∧ n ≤ cap ∧ (cap ≠ 0 → 10 ≤ cap ∧ cap ≤ 66) ∧ ∀ i, i < n → g i = some (A i)
def RM (cs : Nat → ClassId) (r b : Nat) (xs : BL) (Y : va_W) : Prop := (r, (.inr (2, [.ref b]) : va_E)) ∈ Y ∧ (b, ba cs xs) ∈ Y
def PM (cs : Nat → ClassId) (u : XU) (j : Nat) (p : Pt) (Y : va_W) : Prop :=
  (xP u 0 j, patE u j p) ∈ Y ∧ (xP u 3 j, fa cs p.2.1.length (rf p.2.2)) ∈ Y ∧ (xP u 4 j, fa cs (manyN (rf p.2.2) p.2.1.length) (fun i => nI (posN (rf p.2.2) p.2.1.length i))) ∈ Y ∧ RM cs (xP u 1 j) (xP u 2 j) p.2.1 Y
def XF (cs : Nat → ClassId) (ea : Nat) (u : XU) (σ : St) (Y : va_W) : Prop :=
  (∀ i, i < σ.1.length → xF u 0 i = bb σ.1 i) ∧ LF ea (xe u 0) σ.2.1.length (xc u 0) (xg u 0) (xR u 0) ∧ LF ea (xe u 1) σ.2.2.1.length (xc u 1) (xg u 1) (xP u 0) ∧ LF ea (xe u 2) σ.2.2.2.2.length (xc u 2) (xg u 2) (xR u 2) ∧
  (∀ i, i < σ.2.1.length → RM cs (xR u 0 i) (xR u 1 i) (vsN σ.2.1 i) Y) ∧ (∀ j, j < σ.2.2.1.length → PM cs u j (psN σ.2.2.1 j) Y ∧ FI σ.2.1 (xP u 5 j) (psN σ.2.2.1 j).1 ∧ FI σ.2.1 (xP u 6 j) (psN σ.2.2.1 j).2.1) ∧
  RM cs (xe u 3) (xe u 4) σ.2.2.2.1 Y ∧ (∀ i, i < σ.2.2.2.2.length → RM cs (xR u 2 i) (xR u 3 i) (vsN σ.2.2.2.2 i) Y) ∧ stOk σ
theorem RM.more {cs : Nat → ClassId} {r b : Nat} {xs : BL} {Y Y' : va_W} (hs : ∀ q ∈ Y, q ∈ Y') (h : RM cs r b xs Y) : RM cs r b xs Y' := ⟨hs _ h.1, hs _ h.2⟩
theorem PM.more {cs : Nat → ClassId} {u : XU} {j : Nat} {p : Pt} {Y Y' : va_W} (hs : ∀ q ∈ Y, q ∈ Y') (h : PM cs u j p Y) : PM cs u j p Y' := ⟨hs _ h.1, hs _ h.2.1, hs _ h.2.2.1, h.2.2.2.more hs⟩
theorem XF.more {cs : Nat → ClassId} {ea : Nat} {u : XU} {σ : St} {Y Y' : va_W} (hs : ∀ q ∈ Y, q ∈ Y') (h : XF cs ea u σ Y) : XF cs ea u σ Y' :=
  ⟨h.1, h.2.1, h.2.2.1, h.2.2.2.1, fun i hi => (h.2.2.2.2.1 i hi).more hs, fun j hj => ⟨(h.2.2.2.2.2.1 j hj).1.more hs, (h.2.2.2.2.2.1 j hj).2⟩, h.2.2.2.2.2.2.1.more hs, fun i hi => (h.2.2.2.2.2.2.2.1 i hi).more hs, h.2.2.2.2.2.2.2.2⟩
theorem RM.rh {D : va_G} {S0 : Nat} {cs : Nat → ClassId} {r b : Nat} {xs : BL} {Y ws : va_W} {H : Heap} (hW : Wd D S0 ws H) (hs : ∀ q ∈ Y, q ∈ ws) (h : RM cs r b xs Y) : RH D cs r b xs H := ⟨hW.mem (hs _ h.1), hW.mem (hs _ h.2)⟩
theorem PM.ph {D : va_G} {S0 : Nat} {cs : Nat → ClassId} {u : XU} {j : Nat} {p : Pt} {Y ws : va_W} {H : Heap} (hW : Wd D S0 ws H) (hs : ∀ q ∈ Y, q ∈ ws) (h : PM cs u j p Y) : PH D cs u j p H :=
  ⟨hW.mem (hs _ h.1), hW.mem (hs _ h.2.1), hW.mem (hs _ h.2.2.1), hW.mem (hs _ h.2.2.2.1), hW.mem (hs _ h.2.2.2.2)⟩
theorem LF.lh {D : va_G} {S0 : Nat} {cs : Nat → ClassId} {ea lo ed n cap : Nat} {mc : Int32} {g : Nat → Option Nat} {A : Nat → Nat} {ws : va_W} {H : Heap} (hW : Wd D S0 ws H) (h1 : (lo, LO mc ed n) ∈ ws) (h2 : ∀ q ∈ LE cs ed cap g, q ∈ ws) (h : LF ea ed n cap g A) : LH D cs lo mc ed n cap g A H := by
  refine ⟨hW.mem h1, fun hn => ?_, ?_, h.2.2.2⟩
  · have hc : cap ≠ 0 := by have := h.2.1; omega
    exact ⟨hW.mem (h2 _ (by rw [LE_1 hc]; exact List.mem_cons_self)), h.2.1⟩
  · by_cases hc : cap = 0
    · omega
    · exact (h.2.2.1 hc).2
theorem XW_l {cs : Nat → ClassId} {a : Nat → Nat} {u : XU} {σ : St} {Y : va_W} (k : Nat) {q : Nat × va_E} (h : (XL cs a u σ)[k]? = some q) : q ∈ XW cs a u σ Y := List.mem_append_left _ (List.mem_of_getElem? h)
theorem XW_y {cs : Nat → ClassId} {a : Nat → Nat} {u : XU} {σ : St} {Y : va_W} : ∀ q ∈ Y, q ∈ XW cs a u σ Y := fun _ h => List.mem_append_right _ (List.mem_append_right _ h)
theorem XH.of {D : va_G} {cs : Nat → ClassId} {S0 ea : Nat} {a : Nat → Nat} {u : XU} {σ : St} {Y : va_W} {H : Heap} (hW : Wd D S0 (XW cs a u σ Y) H) (h : XF cs ea u σ Y) : XH D cs a u σ H := by
  obtain ⟨hb, hl0, hl1, hl2, hr, hp, hi, hh, hok⟩ := h
  exact ⟨hW.mem (XW_l 0 rfl), hW.mem (XW_l 1 rfl), hb,
    hl0.lh hW (XW_l 4 rfl) (fun q hq => List.mem_append_right _ (List.mem_append_left _ (List.mem_append_left _ hq))),
    hl1.lh hW (XW_l 5 rfl) (fun q hq => List.mem_append_right _ (List.mem_append_left _ (List.mem_append_right _ (List.mem_append_left _ hq)))),
    hl2.lh hW (XW_l 6 rfl) (fun q hq => List.mem_append_right _ (List.mem_append_left _ (List.mem_append_right _ (List.mem_append_right _ hq)))),
    fun i hi9 => (hr i hi9).rh hW XW_y, fun j hj => ⟨(hp j hj).1.ph hW XW_y, (hp j hj).2⟩, hi.rh hW XW_y, fun i hi9 => (hh i hi9).rh hW XW_y, hok⟩

