/-! the law's world -/
def LW (cs : Nat → ClassId) (a b : Nat → Nat) (ol od : Nat) (u : XU) (σc : St) (w : MU) (th : Int32) (σm : St) (f1 : Nat → Int64) (f2 : Nat → UInt64) (O : va_W) : va_W := (ol, la cs f1) :: (od, da cs f2) :: (XL cs a u σc ++ (XE cs u ++ (ML cs b w th σm ++ O)))
def mkU (u : XU) : XU := (fun i => if i = 0 then mk7 400 (xF u 0) else if i = 1 then mk7 200 (xF u 1) else mk7 12 (xF u 2), u.2)
def mkW (w : MU) : MU := muF w (mk7 400 (mf w))
theorem XF.mk {cs : Nat → ClassId} {ea : Nat} {u : XU} {σ : St} {Y : va_W} (h : XF cs ea u σ Y) : XF cs ea (mkU u) σ Y := by
  refine ⟨fun i hi => ?_, h.2⟩
  have h4 := h.2.2.2.2.2.2.2.2.1.1
  show (if 0 = 0 then mk7 400 (xF u 0) else if 0 = 1 then mk7 200 (xF u 1) else mk7 12 (xF u 2)) i = bb σ.1 i
  rw [if_pos rfl, mk7_at (by omega)]
  exact h.1 i hi
theorem MF.mk {cs : Nat → ClassId} {w : MU} {σ : St} {Z : va_W} (h : MF cs w σ Z) : MF cs (mkW w) σ Z := by
  refine ⟨fun i hi => ?_, h.2⟩
  have h4 := h.2.2.2.2.2.1.1
  show mk7 400 (mf w) i = bb σ.1 i
  rw [mk7_at (by omega)]
  exact h.1 i hi
theorem pl1 {α : Type} (q1 q2 m0 m1 : α) (X E M O : List α) : (q1 :: q2 :: (X ++ (E ++ ((m0 :: m1 :: M) ++ O)))).Perm (m1 :: q1 :: q2 :: (X ++ (E ++ (m0 :: (M ++ O))))) := by
  classical
  rw [List.perm_iff_count]
  intro x
  simp only [List.cons_append, List.nil_append, List.count_append, List.count_cons]
  ac_rfl
theorem pl2 {α : Type} (q1 q2 m0 m1 : α) (X E M O : List α) : (m1 :: q1 :: q2 :: (X ++ (E ++ (m0 :: (M ++ O))))).Perm (q1 :: (X ++ (E ++ (q2 :: ((m0 :: m1 :: M) ++ O))))) := by
  classical
  rw [List.perm_iff_count]
  intro x
  simp only [List.cons_append, List.nil_append, List.count_append, List.count_cons]
  ac_rfl
theorem pl3 {α : Type} (q1 q2 : α) (X E G M O : List α) : (q1 :: (X ++ (E ++ (G ++ (q2 :: (M ++ O)))))).Perm (q1 :: q2 :: (X ++ (E ++ (M ++ (G ++ O))))) := by
  classical
  rw [List.perm_iff_count]
  intro x
  simp only [List.cons_append, List.nil_append, List.count_append, List.count_cons]
  ac_rfl
theorem pl4 {α : Type} (q1 q2 x0 x1 x2 x3 : α) (X E M O : List α) : (q1 :: q2 :: ((x0 :: x1 :: x2 :: x3 :: X) ++ (E ++ (M ++ O)))).Perm (x1 :: x2 :: x3 :: (M ++ (q1 :: q2 :: ((x0 :: X) ++ (E ++ O))))) := by
  classical
  rw [List.perm_iff_count]
  intro x
  simp only [List.cons_append, List.nil_append, List.count_append, List.count_cons]
  ac_rfl
theorem pl5 {α : Type} (q1 q2 x0 x1 x2 x3 : α) (X E M O : List α) : (x1 :: x2 :: x3 :: (M ++ (q1 :: q2 :: ((x0 :: X) ++ (E ++ O))))).Perm (M ++ (q1 :: q2 :: ((x0 :: x1 :: x2 :: x3 :: X) ++ (E ++ O)))) := by
  classical
  rw [List.perm_iff_count]
  intro x
  simp only [List.cons_append, List.nil_append, List.count_append, List.count_cons]
  ac_rfl
theorem pl6 {α : Type} (q1 q2 : α) (X E G M O : List α) : (M ++ (G ++ (q1 :: q2 :: (X ++ (E ++ O))))).Perm (q1 :: q2 :: (X ++ (E ++ (M ++ (G ++ O))))) := by
  classical
  rw [List.perm_iff_count]
  intro x
  simp only [List.cons_append, List.nil_append, List.count_append, List.count_cons]
  ac_rfl
theorem pl7 {α : Type} (q1 q2 : α) (X E M O : List α) : (q1 :: (X ++ (E ++ (q2 :: (M ++ O))))).Perm (q2 :: (X ++ (E ++ (q1 :: (M ++ O))))) := by
  classical
  rw [List.perm_iff_count]
  intro x
  simp only [List.cons_append, List.nil_append, List.count_append, List.count_cons]
  ac_rfl
section LWS
variable {D : va_G} {S0 : Nat} {cs : Nat → ClassId} {a b : Nat → Nat} {ol od : Nat} {u : XU} {σc σm : St} {w : MU} {th : Int32} {f1 : Nat → Int64} {f2 : Nat → UInt64} {O G : va_W} {H : Heap}
/-- ready for a call of the class -/
theorem LW.cls (hW : Wd D S0 (LW cs a b ol od u σc w th σm f1 f2 O) H) : Wd D S0 ((ol, la cs f1) :: XW cs a u σc ((od, da cs f2) :: (ML cs b (mkW w) th σm ++ O))) H := by
  have h1 : Wd D S0 ((b 1, fa cs 400 (mf w)) :: (ol, la cs f1) :: (od, da cs f2) :: (XL cs a u σc ++ (XE cs u ++ ((b 0, mO b w th σm) :: ([(b 2, qa cs 2 12 (mg w 0)), (b 3, qa cs 2 12 (mg w 1)), (b 4, qa cs 2 12 (mg w 2)), (b 5, qa cs 2 12 (mg w 3)), (b 6, qa cs 2 20 (mg w 4))] ++ O))))) H := hW.perm (pl1 _ _ _ _ _ _ _ _)
  exact (Wd.cong (mk7_cg (f := mf w)) h1).perm (pl2 _ _ _ _ _ _ _ _)
theorem LW.ret (hW : Wd D S0 ((ol, la cs f1) :: XW cs a u σc (G ++ ((od, da cs f2) :: (ML cs b w th σm ++ O)))) H) : Wd D S0 (LW cs a b ol od u σc w th σm f1 f2 (G ++ O)) H := hW.perm (pl3 _ _ _ _ _ _ _)
/-- the row of one double in front -/
theorem LW.clsD (hW : Wd D S0 (LW cs a b ol od u σc w th σm f1 f2 O) H) : Wd D S0 ((od, da cs f2) :: XW cs a u σc ((ol, la cs f1) :: (ML cs b (mkW w) th σm ++ O))) H := (LW.cls hW).perm (pl7 _ _ _ _ _ _)
theorem LW.retD (hW : Wd D S0 ((od, da cs f2) :: XW cs a u σc (G ++ ((ol, la cs f1) :: (ML cs b w th σm ++ O)))) H) : Wd D S0 (LW cs a b ol od u σc w th σm f1 f2 (G ++ O)) H :=
  (hW.perm (pl3 _ _ _ _ _ _ _)).perm (List.Perm.swap _ _ _)
/-- ready for a call of the model -/
theorem LW.mdl (hW : Wd D S0 (LW cs a b ol od u σc w th σm f1 f2 O) H) : Wd D S0 (MW cs b w th σm ((ol, la cs f1) :: (od, da cs f2) :: (XL cs a (mkU u) σc ++ (XE cs u ++ O)))) H := by
  have h1 : Wd D S0 ((a 1, fa cs 400 (xF u 0)) :: (a 2, fa cs 200 (xF u 1)) :: (a 3, fa cs 12 (xF u 2)) :: (ML cs b w th σm ++ ((ol, la cs f1) :: (od, da cs f2) :: (((a 0, xO a u σc) :: [(a 4, LO (xm u 0) (xe u 0) σc.2.1.length), (a 5, LO (xm u 1) (xe u 1) σc.2.2.1.length), (a 6, LO (xm u 2) (xe u 2) σc.2.2.2.2.length)]) ++ (XE cs u ++ O))))) H := hW.perm (pl4 _ _ _ _ _ _ _ _ _ _)
  have h2 := Wd.cong (mk7_cg (f := xF u 0)) h1
  have h3 := Wd.cong (mk7_cg (f := xF u 1)) (h2.perm (List.Perm.swap _ _ _))
  have h4 := Wd.cong (mk7_cg (f := xF u 2)) (h3.perm (List.perm_middle (l₁ := [(a 2, fa cs 200 (mk7 200 (xF u 1))), (a 1, fa cs 400 (mk7 400 (xF u 0)))])))
  have h5 := h4.perm ((List.perm_append_comm (l₁ := [(a 3, fa cs 12 (mk7 12 (xF u 2))), (a 2, fa cs 200 (mk7 200 (xF u 1)))]) (l₂ := [(a 1, fa cs 400 (mk7 400 (xF u 0)))])).append_right _)
  have h6 := h5.perm (List.Perm.cons _ (List.Perm.swap _ _ _))
  exact h6.perm (pl5 _ _ _ _ _ _ _ _ _ _)
theorem LW.mret (hW : Wd D S0 (MW cs b w th σm (G ++ ((ol, la cs f1) :: (od, da cs f2) :: (XL cs a u σc ++ (XE cs u ++ O))))) H) : Wd D S0 (LW cs a b ol od u σc w th σm f1 f2 (G ++ O)) H := hW.perm (pl6 _ _ _ _ _ _ _)
end LWS
theorem ML_no {cs : Nat → ClassId} {b : Nat → Nat} {w : MU} {th : Int32} {σ : St} : ∀ q ∈ ML cs b (mkW w) th σ, ¬ okE cs q.2 :=
  List.forall_mem_cons.mpr ⟨okE_ob (by decide), List.forall_mem_cons.mpr ⟨okE_fa, List.forall_mem_cons.mpr ⟨okE_qa, List.forall_mem_cons.mpr ⟨okE_qa, List.forall_mem_cons.mpr ⟨okE_qa, List.forall_mem_cons.mpr ⟨okE_qa, List.forall_mem_cons.mpr ⟨okE_qa, fun _ h => absurd h List.not_mem_nil⟩⟩⟩⟩⟩⟩⟩
theorem XL_no {cs : Nat → ClassId} {a : Nat → Nat} {u : XU} {σ : St} : ∀ q ∈ XL cs a (mkU u) σ, ¬ okE cs q.2 :=
  List.forall_mem_cons.mpr ⟨okE_ob (by decide), List.forall_mem_cons.mpr ⟨okE_fa (f := xF u 0), List.forall_mem_cons.mpr ⟨okE_fa (f := xF u 1), List.forall_mem_cons.mpr ⟨okE_fa (f := xF u 2), List.forall_mem_cons.mpr ⟨okE_ob (by decide), List.forall_mem_cons.mpr ⟨okE_ob (by decide), List.forall_mem_cons.mpr ⟨okE_ob (by decide), fun _ h => absurd h List.not_mem_nil⟩⟩⟩⟩⟩⟩⟩
theorem LE_no {cs : Nat → ClassId} {ed cap : Nat} {f : Nat → Option Nat} : ∀ q ∈ LE cs ed cap f, ¬ okE cs q.2 := by
  by_cases h : cap = 0
  · rw [h, LE_0]; exact fun _ h => absurd h List.not_mem_nil
  · rw [LE_1 h]; exact fun q hq => by rw [List.mem_singleton.mp hq]; exact okE_qa
theorem XE_no {cs : Nat → ClassId} {u : XU} : ∀ q ∈ XE cs u, ¬ okE cs q.2 := fun q hq => by
  rcases List.mem_append.mp hq with h | h
  · exact LE_no q h
  · rcases List.mem_append.mp h with h | h
    · exact LE_no q h
    · exact LE_no q h
section LWF
variable {cs : Nat → ClassId} {a b : Nat → Nat} {ol od ea : Nat} {u u' : XU} {σ σc σm τ : St} {w w' : MU} {th : Int32} {f1 : Nat → Int64} {f2 : Nat → UInt64} {O G : va_W}
theorem XF.toL (h : XF cs ea u σ O) : XF cs ea u σ ((od, da cs f2) :: (ML cs b w th σm ++ O)) := h.more (fun _ h9 => List.mem_cons_of_mem _ (List.mem_append_right _ h9))
theorem XF.toLD (h : XF cs ea u σ O) : XF cs ea u σ ((ol, la cs f1) :: (ML cs b w th σm ++ O)) := h.more (fun _ h9 => List.mem_cons_of_mem _ (List.mem_append_right _ h9))
theorem XF.ofL (h : XF cs ea u τ (G ++ ((od, da cs f2) :: (ML cs b (mkW w) th σm ++ O)))) : XF cs ea u τ (G ++ O) := h.sel (sel_drop (A := (od, da cs f2) :: ML cs b (mkW w) th σm) (List.forall_mem_cons.mpr ⟨okE_da, ML_no⟩))
theorem XF.ofLD (h : XF cs ea u τ (G ++ ((ol, la cs f1) :: (ML cs b (mkW w) th σm ++ O)))) : XF cs ea u τ (G ++ O) := h.sel (sel_drop (A := (ol, la cs f1) :: ML cs b (mkW w) th σm) (List.forall_mem_cons.mpr ⟨okE_la, ML_no⟩))
theorem MF.toL (h : MF cs w σ O) : MF cs w σ ((ol, la cs f1) :: (od, da cs f2) :: (XL cs a u σc ++ (XE cs u' ++ O))) := h.more (fun _ h9 => List.mem_cons_of_mem _ (List.mem_cons_of_mem _ (List.mem_append_right _ (List.mem_append_right _ h9))))
theorem MF.ofL (h : MF cs w τ (G ++ ((ol, la cs f1) :: (od, da cs f2) :: (XL cs a (mkU u) σc ++ (XE cs u ++ O))))) : MF cs w τ (G ++ O) := h.sel (fun q hq ho => by
  rcases List.mem_append.mp hq with h1 | h1
  · exact List.mem_append_left _ h1
  · rcases List.mem_cons.mp h1 with h2 | h2
    · exact absurd ho (by rw [h2]; exact okE_la)
    · rcases List.mem_cons.mp h2 with h3 | h3
      · exact absurd ho (by rw [h3]; exact okE_da)
      · rcases List.mem_append.mp h3 with h4 | h4
        · exact absurd ho (XL_no q h4)
        · rcases List.mem_append.mp h4 with h5 | h5
          · exact absurd ho (XE_no q h5)
          · exact List.mem_append_right _ h5)
end LWF
/-- what holds between two calls of the law -/
def lw_I (D : va_G) (cs : Nat → ClassId) (S0 ea : Nat) (a b : Nat → Nat) (ol od : Nat) (H : Heap) : Prop := ∃ (σ : St) (u : XU) (w : MU) (th : Int32) (f1 : Nat → Int64) (f2 : Nat → UInt64) (O : va_W), Wd D S0 (LW cs a b ol od u σ w th σ f1 f2 O) H ∧ XF cs ea u σ O ∧ MF cs w σ O
/-- what stays of the start -/
def lw_E (D : va_G) (cs : Nat → ClassId) (ea mi : Nat) (sa : Nat → Nat) (s : State) : Prop := KK D cs s ∧ EV (SA s.heap.size) ea mi sa s s.heap ∧ NC s ∧ AA cs s
section LWR
variable {p : Program} {l : Launch} {e : Env} {R : Room} {s : State} {m : MethodId} {args : Array Value} {below : List Frame} {meth : Method} {c : Code} {H : Heap} {locs : List Loc} {cells slots : Nat} {Q : State → Prop}
variable {cc : ByteArray} {pc : Nat} {ls : Array Slot} {rest : List Value}
theorem z_sld (hexec : p.tables.exec = Jvm.exec) (hb : c.code = cc) {b L k : Nat} {xs : Nat → Int32} (hX : va_X b L xs s s.heap) (hbl : b < s.heap.size) (hS : va_S (SA s.heap.size) s.heap H locs) (hk : k < L) (hL : L ≤ 2048) (hdg : decode cc pc = .ok (.iaload, 1))
    (kk : W p l e R s m args below meth c H locs cells slots Q (F0 m (pc + 1) ls (.int (xs k) :: rest))) : W p l e R s m args below meth c H locs cells slots Q (F0 m pc ls (.int (nI k) :: .ref b :: rest)) :=
  va_sld hexec hb hX hbl (A := SA s.heap.size) (Nat.not_le.mpr hbl) hS (vp_in_nI hk (by omega)) hdg (by rw [nI_clamp (by omega)]; exact kk)
theorem z_slen (hexec : p.tables.exec = Jvm.exec) (hb : c.code = cc) {b L : Nat} {xs : Nat → Int32} (hX : va_X b L xs s s.heap) (hbl : b < s.heap.size) (hS : va_S (SA s.heap.size) s.heap H locs) (hdg : decode cc pc = .ok (.arraylength, 1))
    (kk : W p l e R s m args below meth c H locs cells slots Q (F0 m (pc + 1) ls (.int (nI L) :: rest))) : W p l e R s m args below meth c H locs cells slots Q (F0 m pc ls (.ref b :: rest)) :=
  va_slen hexec hb hX hbl (A := SA s.heap.size) (Nat.not_le.mpr hbl) hS hdg kk
theorem lg_same (x : Int64) : lg_cmp x x = 0 := by simp [lg_cmp]
end LWR
