/-! what the law stands on: rooms, contracts of one form, cells that can't be taken for others -/
abbrev RmX : Room := { frames := 9, cells := 5, slots := 1607, locals := 192 }
abbrev RmT : Room := { frames := 9, cells := 1, slots := 6, locals := 192 }
theorem z_metF {l : Launch} {y : MethodName} {ws : List Cond} {rm rm' : Room} {P P' : Array Value → State → Prop} {Q Q' : Array Value → State → Outcome → State → Prop} {mc ms mc' ms' : Nat} {free free' : Addr → Prop} (h : Met l y ws rm P Q mc ms free)
    (hr : rm.frames ≤ rm'.frames ∧ rm.locals ≤ rm'.locals ∧ rm.cells ≤ rm'.cells ∧ rm.slots ≤ rm'.slots) (hm : mc ≤ mc' ∧ ms ≤ ms') (hf : ∀ q, free q → free' q) (hp : ∀ a s, P' a s → P a s) (hq : ∀ a s o t, P' a s → Q a s o t → Q' a s o t) : Met l y ws rm' P' Q' mc' ms' free' := by
  intro p e ha hcs hk s m args below hfr happ hP hK
  obtain ⟨a1, a2, a3, a4, a5, a6, a7, a8⟩ := (Spec.appliesLoose_iff hfr).mp happ
  obtain ⟨n, o, b1, b2, b3, b4, L, b5, b6⟩ := h p e ha hcs hk s m args below hfr ((Spec.appliesLoose_iff hfr).mpr ⟨a1, a2, a3, a4, a5, a6, z_room hr.1 hr.2.1 hr.2.2.1 hr.2.2.2 a7, a8⟩) (hp _ _ hP) trivial
  exact ⟨n, o, b1, b2, b3, hq _ _ _ _ hP b4, L, ⟨b5.1, b5.2.1, b5.2.2.mono hm.1 hm.2⟩, fun q hq9 => hf _ (b6 q hq9)⟩
theorem z_vT {l : Launch} {y : MethodName} {ws : List Cond} {rm : Room} {P P' : Array Value → State → Prop} {E : String} (h : vT l y ws rm P E) (hr : rm.frames ≤ 9 ∧ rm.locals ≤ 192 ∧ rm.cells ≤ 1 ∧ rm.slots ≤ 6) (hp : ∀ a s, P' a s → P a s) : vT l y ws RmT P' E := by
  intro p e ha hcs hk s m args below hfr happ hP hK
  obtain ⟨a1, a2, a3, a4, a5, a6, a7, a8⟩ := (Spec.appliesLoose_iff hfr).mp happ
  exact h p e ha hcs hk s m args below hfr ((Spec.appliesLoose_iff hfr).mpr ⟨a1, a2, a3, a4, a5, a6, z_room (r := rm) (r' := RmT) hr.1 hr.2.1 hr.2.2.1 hr.2.2.2 a7, a8⟩) (hp _ _ hP) trivial
/-! the class's methods, one form -/
abbrev xOK (l : Launch) (D : va_G) (cs : Nat → ClassId) (S0 ea mi : Nat) (sa : Nat → Nat) (Y : va_W) (a : Nat → Nat) (u : XU) (sg : St) (y : MethodName) (ws : List Cond) (As : List Value) (R : Int32) (τ : St) : Prop :=
  Met l y ws RmX (zE As (fun H => Wd D S0 (XW cs a u sg Y) H) D cs S0 ea mi sa) (va_Qi (fun r (v : XU × va_W) => r = R ∧ XF cs ea v.1 τ (v.2 ++ Y)) (fun v t => Wd D S0 (XW cs a v.1 τ (v.2 ++ Y)) t.heap) (SA S0)) 5 1607 (SA S0)
section XO
variable {l : Launch} {D : va_G} {cs : Nat → ClassId} {S0 ea mi : Nat} {sa : Nat → Nat} {Y : va_W} {a : Nat → Nat} {u : XU} {sg : St} {y : MethodName} {ws : List Cond} {As : List Value} {R : Int32} {τ : St} {rm : Room}
theorem xOK_rd (hF : XF cs ea u sg Y) (h : Met l y ws rm (zE As (fun H => XH D cs a u sg H) D cs S0 ea mi sa) (vp_Si (fun r => r = R)) 0 0 (fun _ => False)) (hr : rm.frames ≤ 9 ∧ rm.locals ≤ 192 ∧ rm.cells ≤ 5 ∧ rm.slots ≤ 1607) : xOK l D cs S0 ea mi sa Y a u sg y ws As R sg :=
  z_metF h hr ⟨Nat.zero_le _, Nat.zero_le _⟩ (fun _ h9 => h9.elim) (fun _ _ h9 => ⟨h9.1, XH.of h9.2.1 hF, h9.2.2⟩) (fun _ _ _ _ hp hq => by
    obtain ⟨r, e1, e2, e3⟩ := hq
    exact ⟨⟨r, (u, []), e1, ⟨e2, hF⟩, by show Wd D S0 _ _; rw [e3]; exact hp.2.1⟩, by rw [e3]; exact Nat.le_refl _, fun q _ _ => by rw [e3]⟩)
theorem xOK_wr (h : Met l y ws rm (zE As (fun H => Wd D S0 (XW cs a u sg Y) H) D cs S0 ea mi sa) (va_Qi (fun r (v : XU × va_W) => r = R ∧ XF cs ea v.1 τ (v.2 ++ Y)) (fun v t => Wd D S0 (XW cs a v.1 τ (v.2 ++ Y)) t.heap) (SA S0)) rm.cells rm.slots (SA S0)) (hr : rm.frames ≤ 9 ∧ rm.locals ≤ 192 ∧ rm.cells ≤ 5 ∧ rm.slots ≤ 1607) : xOK l D cs S0 ea mi sa Y a u sg y ws As R τ :=
  z_metF h hr ⟨hr.2.2.1, hr.2.2.2⟩ (fun _ h9 => h9) (fun _ _ h9 => h9) (fun _ _ _ _ _ hq => hq)
/-- a method that writes but numbers beside the state -/
theorem xOK_un {V : Type} {U : V → XU} (hU : ∀ v, XF cs ea (U v) sg Y) (h : Met l y ws rm (zE As (fun H => Wd D S0 (XW cs a u sg Y) H) D cs S0 ea mi sa) (va_Qi (fun r (_ : V) => r = R) (fun v t => Wd D S0 (XW cs a (U v) sg Y) t.heap) (SA S0)) 0 0 (SA S0)) (hr : rm.frames ≤ 9 ∧ rm.locals ≤ 192 ∧ rm.cells ≤ 5 ∧ rm.slots ≤ 1607) : xOK l D cs S0 ea mi sa Y a u sg y ws As R sg :=
  z_metF h hr ⟨Nat.zero_le _, Nat.zero_le _⟩ (fun _ h9 => h9) (fun _ _ h9 => h9) (fun _ _ _ _ _ hq => by
    obtain ⟨⟨r, v, e1, e2, e3⟩, e4⟩ := hq
    exact ⟨⟨r, (U v, []), e1, ⟨e2, hU v⟩, e3⟩, e4⟩)
end XO
abbrev xOKd (l : Launch) (D : va_G) (cs : Nat → ClassId) (S0 ea mi : Nat) (sa : Nat → Nat) (Y : va_W) (a : Nat → Nat) (u : XU) (sg : St) (y : MethodName) (ws : List Cond) (As : List Value) (R : UInt64) (τ : St) : Prop :=
  Met l y ws RmX (zE As (fun H => Wd D S0 (XW cs a u sg Y) H) D cs S0 ea mi sa) (va_Qd (fun r (v : XU × va_W) => r = R ∧ XF cs ea v.1 τ (v.2 ++ Y)) (fun v t => Wd D S0 (XW cs a v.1 τ (v.2 ++ Y)) t.heap) (SA S0)) 5 1607 (SA S0)
theorem xOKd_rd {l : Launch} {D : va_G} {cs : Nat → ClassId} {S0 ea mi : Nat} {sa : Nat → Nat} {Y : va_W} {a : Nat → Nat} {u : XU} {sg : St} {y : MethodName} {ws : List Cond} {As : List Value} {R : UInt64} {rm : Room} (hF : XF cs ea u sg Y) (h : Met l y ws rm (zE As (fun H => XH D cs a u sg H) D cs S0 ea mi sa) (vp_Sd (fun r => r = R)) 0 0 (fun _ => False)) (hr : rm.frames ≤ 9 ∧ rm.locals ≤ 192 ∧ rm.cells ≤ 5 ∧ rm.slots ≤ 1607) : xOKd l D cs S0 ea mi sa Y a u sg y ws As R sg :=
  z_metF h hr ⟨Nat.zero_le _, Nat.zero_le _⟩ (fun _ h9 => h9.elim) (fun _ _ h9 => ⟨h9.1, XH.of h9.2.1 hF, h9.2.2⟩) (fun _ _ _ _ hp hq => by
    obtain ⟨r, e1, e2, e3⟩ := hq
    exact ⟨⟨r, (u, []), e1, ⟨e2, hF⟩, by show Wd D S0 _ _; rw [e3]; exact hp.2.1⟩, by rw [e3]; exact Nat.le_refl _, fun q _ _ => by rw [e3]⟩)
/-! not castable -/
/-! what the law asks of a helper, and of the model -/
/-! worlds -/
theorem Wd.kept {D : va_G} {S0 : Nat} {ws : va_W} {H H1 : Heap} (h : Wd D S0 ws H) (hz : H.size ≤ H1.size) (hk : ∀ q : Nat, q < H.size → H1[q]? = H[q]?) : Wd D S0 ws H1 := ⟨h.1.kept (fun k q hq => hk q.1 ((h.1 k q hq).lt)), h.2.1, Nat.le_trans h.2.2 hz⟩
section ZH
variable {D : va_G} {S0 : Nat} {cs : Nat → ClassId} {a : Nat → Nat} {u : XU} {σ : St} {Y G : va_W} {q : Nat × va_E} {H : Heap}
theorem XW.push (hW : Wd D S0 (q :: XW cs a u σ Y) H) : Wd D S0 (XW cs a u σ (q :: Y)) H := XW.grow (G := [q]) hW
theorem XW.pull (hW : Wd D S0 (XW cs a u σ (G ++ q :: Y)) H) : Wd D S0 (q :: XW cs a u σ (G ++ Y)) H := by
  have h1 : Wd D S0 (XW cs a u σ (q :: (G ++ Y))) H := hW.perm (List.Perm.append_left _ (List.Perm.append_left _ List.perm_middle))
  exact XW.shrink (G := [q]) h1
end ZH
/-- what the class's facts speak of: things, and rows of numbers that are 0 behind their end -/
def okE (cs : Nat → ClassId) (e : va_E) : Prop := (∃ fs, e = .inr (1, fs)) ∨ (∃ fs, e = .inr (2, fs)) ∨ ∃ n f, e = fa cs n f ∧ f n = nI 0
theorem bv_end (xs : BL) : bv xs xs.length = 0 := bv_out (Nat.le_refl _)
theorem okE_ba (cs : Nat → ClassId) (xs : BL) : okE cs (ba cs xs) := Or.inr (Or.inr ⟨_, _, rfl, congrArg nI (bv_end xs)⟩)
theorem okE_rf (cs : Nat → ClassId) {n : Nat} {xs : List Int32} (h : xs.length = n) : okE cs (fa cs n (rf xs)) := Or.inr (Or.inr ⟨_, _, rfl, by
  unfold rf
  rw [List.getD_eq_getElem?_getD, List.getElem?_eq_none (by omega)]
  exact nI_0.symm⟩)
theorem kth_out {P : Nat → Bool} : ∀ {n i : Nat}, ct P n ≤ i → kth P n i = 0
  | 0, _, _ => rfl
  | n + 1, i, h => by
    show (if P n = true ∧ ct P n = i then n else kth P n i) = 0
    have h2 := ct_mono P (show n ≤ n + 1 by omega)
    rw [if_neg (fun z => by rw [ct_t z.1] at h; omega)]
    exact kth_out (by omega)
theorem okE_ps (cs : Nat → ClassId) (o : Nat → Int32) (n : Nat) : okE cs (fa cs (manyN o n) (fun i => nI (posN o n i))) := Or.inr (Or.inr ⟨_, _, rfl, congrArg nI (kth_out (Nat.le_refl _))⟩)
/-- membership of what the class's facts speak of is enough -/
theorem XF.sel {cs : Nat → ClassId} {ea : Nat} {u : XU} {σ : St} {Y Y' : va_W} (hs : ∀ q ∈ Y, okE cs q.2 → q ∈ Y') (h : XF cs ea u σ Y) : XF cs ea u σ Y' := by
  have hr : ∀ {r b : Nat} {xs : BL}, RM cs r b xs Y → RM cs r b xs Y' := fun hm => ⟨hs _ hm.1 (Or.inr (Or.inl ⟨_, rfl⟩)), hs _ hm.2 (okE_ba cs _)⟩
  refine ⟨h.1, h.2.1, h.2.2.1, h.2.2.2.1, fun i hi => hr (h.2.2.2.2.1 i hi), fun j hj => ⟨?_, (h.2.2.2.2.2.1 j hj).2⟩, hr h.2.2.2.2.2.2.1, fun i hi => hr (h.2.2.2.2.2.2.2.1 i hi), h.2.2.2.2.2.2.2.2⟩
  obtain ⟨p1, p2, p3, p4⟩ := (h.2.2.2.2.2.1 j hj).1
  exact ⟨hs _ p1 (Or.inl ⟨_, rfl⟩), hs _ p2 (okE_rf cs (h.2.2.2.2.2.2.2.2.2.2.1.2 j hj).2.2.1), hs _ p3 (okE_ps cs _ _), hr p4⟩
theorem okE_qa {cs : Nat → ClassId} {k n : Nat} {f : Nat → Option Nat} : ¬ okE cs (qa cs k n f) := fun h => by
  rcases h with ⟨_, h⟩ | ⟨_, h⟩ | ⟨_, _, h, -⟩
  · cases h
  · cases h
  · have h1 := congrArg (fun e : va_E => match e with | .inl (_, _, .inl _) => true | _ => false) h
    cases h1
theorem okE_ob {cs : Nat → ClassId} {ci : Nat} {fs : List Value} (hc : ci ≠ 1 ∧ ci ≠ 2) : ¬ okE cs (.inr (ci, fs)) := fun h => by
  rcases h with ⟨_, h⟩ | ⟨_, h⟩ | ⟨_, _, h, -⟩
  · exact hc.1 (congrArg Prod.fst (Sum.inr.inj h))
  · exact hc.2 (congrArg Prod.fst (Sum.inr.inj h))
  · cases h
/-- a row of numbers with a mark behind its end -/
def mk7 (n : Nat) (f : Nat → Int32) : Nat → Int32 := fun i => if i < n then f i else nI 7
theorem okE_fa {cs : Nat → ClassId} {n : Nat} {f : Nat → Int32} : ¬ okE cs (fa cs n (mk7 n f)) := fun h => by
  rcases h with ⟨_, h⟩ | ⟨_, h⟩ | ⟨n1, f1, h, h1⟩
  · cases h
  · cases h
  · have h2 := congrArg (fun e : va_E => match e with | .inl (_, k, .inl g) => (k, g) | _ => (0, fun _ => 0)) h
    have h3 : n = n1 := congrArg Prod.fst h2
    have h4 : mk7 n f = f1 := congrArg Prod.snd h2
    rw [← h3, ← h4] at h1
    unfold mk7 at h1
    rw [if_neg (Nat.lt_irrefl n)] at h1
    exact absurd h1 (by decide)
theorem sel_drop {cs : Nat → ClassId} {G A O : va_W} (hA : ∀ q ∈ A, ¬ okE cs q.2) : ∀ q ∈ G ++ (A ++ O), okE cs q.2 → q ∈ G ++ O := fun q hq ho => by
  rcases List.mem_append.mp hq with h | h
  · exact List.mem_append_left _ h
  · rcases List.mem_append.mp h with h | h
    · exact absurd ho (hA q h)
    · exact List.mem_append_right _ h
theorem mk7_at {n i : Nat} {f : Nat → Int32} (h : i < n) : mk7 n f i = f i := if_pos h
theorem mk7_cg {n : Nat} {f : Nat → Int32} : ∀ i, i < n → f i = mk7 n f i := fun _ h => (mk7_at h).symm
/-! an exception that a helper catches; what comes into its row -/
section ZKD
variable {p : Program} {l : Launch} {e : Env} {R : Room} {s : State} {m : MethodId} {args : Array Value} {below : List Frame} {meth : Method} {c : Code} {H H0 : Heap} {locs : List Loc} {cells slots : Nat} {Q : State → Prop}
variable {cc : ByteArray} {pc S0 : Nat} {ls : Array Slot} {rest : List Value} {D : va_G} {cs : Nat → ClassId}
theorem z_cmD {Sx : Type} {post : UInt64 → Sx → Prop} {WS : Sx → va_W} {mc ms : Nat} {st0 : List Value} {aa : Array Value} (hr : va_Run p l e R s m args below meth c H locs cells slots mc ms (F0 m pc ls st0) rest (va_Qd post (fun u t => Wd D S0 (WS u) t.heap) (SA S0) aa) (SA S0)) (hS : va_S (SA S0) H0 H locs)
    (kk : ∀ (r : UInt64) (u : Sx) (H1 : Heap) (locs1 : List Loc), post r u → Wd D S0 (WS u) H1 → va_S (SA S0) H0 H1 locs1 → W p l e R s m args below meth c H1 locs1 (cells + mc) (slots + ms) Q (F0 m (pc + 3) ls (.double r :: rest))) : W p l e R s m args below meth c H locs cells slots Q (F0 m pc ls st0) :=
  va_calld hr hS (fun q _ h => h) (fun q h => h) (fun r u t H1 locs1 e1 _ hp hB _ _ hS1 => kk r u H1 locs1 hp (by rw [← e1]; exact hB) hS1)
theorem z_cmL {Sx : Type} {post : Int64 → Sx → Prop} {WS : Sx → va_W} {mc ms : Nat} {st0 : List Value} {aa : Array Value} (hr : va_Run p l e R s m args below meth c H locs cells slots mc ms (F0 m pc ls st0) rest (va_Ql post (fun u t => Wd D S0 (WS u) t.heap) (SA S0) aa) (SA S0)) (hS : va_S (SA S0) H0 H locs)
    (kk : ∀ (r : Int64) (u : Sx) (H1 : Heap) (locs1 : List Loc), post r u → Wd D S0 (WS u) H1 → va_S (SA S0) H0 H1 locs1 → W p l e R s m args below meth c H1 locs1 (cells + mc) (slots + ms) Q (F0 m (pc + 3) ls (.long r :: rest))) : W p l e R s m args below meth c H locs cells slots Q (F0 m pc ls st0) :=
  va_calll hr hS (fun q _ h => h) (fun q h => h) (fun r u t H1 locs1 e1 _ hp hB _ _ hS1 => kk r u H1 locs1 hp (by rw [← e1]; exact hB) hS1)
end ZKD
section ZK
variable {p : Program} {l : Launch} {e : Env} {R : Room} {s : State} {m : MethodId} {args : Array Value} {below : List Frame} {meth : Method} {c : Code} {H H0 : Heap} {locs : List Loc} {cells slots : Nat} {Q : State → Prop}
variable {cc : ByteArray} {pc S0 : Nat} {ls : Array Slot} {st0 rest : List Value} {D : va_G} {cs : Nat → ClassId} {a : Nat} {ws : va_W}
end ZK
