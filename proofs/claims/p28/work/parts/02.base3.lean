/-! the world as one list: its cells lie apart, all of them from S0 on -/
abbrev SA (S0 : Nat) : Nat → Prop := fun q => S0 ≤ q
def Wd (D : va_G) (S0 : Nat) (ws : va_W) (H : Heap) : Prop := va_P D vwCl ws H ∧ va_D (SA S0) ws ∧ S0 ≤ H.size
theorem zd_iff {A : Nat → Prop} {ws : va_W} : va_D A ws ↔ (ws.map Prod.fst).Nodup ∧ ∀ q ∈ ws, A q.1 := by
  constructor
  · intro h
    refine ⟨List.pairwise_iff_getElem.mpr (fun i j hi hj hij he => ?_), fun q hq => ?_⟩
    · rw [List.length_map] at hi hj
      simp only [List.getElem_map] at he
      have := h.1 i j _ _ (List.getElem?_eq_getElem hi) (List.getElem?_eq_getElem hj) he
      omega
    · obtain ⟨k, hk⟩ := List.getElem?_of_mem hq
      exact h.2 k q hk
  · intro h
    refine ⟨fun i j p q hi hj he => ?_, fun k q hk => h.2 q (List.mem_of_getElem? hk)⟩
    obtain ⟨hi1, hi2⟩ := List.getElem?_eq_some_iff.mp hi
    obtain ⟨hj1, hj2⟩ := List.getElem?_eq_some_iff.mp hj
    have hn := List.pairwise_iff_getElem.mp h.1
    rcases Nat.lt_trichotomy i j with g | g | g
    · exfalso
      refine hn i j (by rw [List.length_map]; exact hi1) (by rw [List.length_map]; exact hj1) g ?_
      simp only [List.getElem_map, hi2, hj2]; exact he
    · exact g
    · exfalso
      refine hn j i (by rw [List.length_map]; exact hj1) (by rw [List.length_map]; exact hi1) g ?_
      simp only [List.getElem_map, hi2, hj2]; exact he.symm
theorem Wd.perm {D : va_G} {S0 : Nat} {ws ws' : va_W} {H : Heap} (h : Wd D S0 ws H) (hp : ws.Perm ws') : Wd D S0 ws' H := by
  refine ⟨fun k q hk => ?_, zd_iff.mpr ?_, h.2.2⟩
  · obtain ⟨i, hi⟩ := List.getElem?_of_mem (hp.mem_iff.mpr (List.mem_of_getElem? hk))
    exact h.1 i q hi
  · have h2 := zd_iff.mp h.2.1
    exact ⟨((hp.map Prod.fst).nodup_iff).mp h2.1, fun q hq => h2.2 q (hp.mem_iff.mpr hq)⟩
theorem Wd.mem {D : va_G} {S0 : Nat} {ws : va_W} {H : Heap} (h : Wd D S0 ws H) {a : Nat} {e : va_E} (hq : (a, e) ∈ ws) : At D a e H := by
  obtain ⟨k, hk⟩ := List.getElem?_of_mem hq
  exact h.1 k _ hk
/-- two things at one address are one -/
theorem Wd.one {D : va_G} {S0 : Nat} {ws : va_W} {H : Heap} (h : Wd D S0 ws H) {a : Nat} {e e' : va_E} (h1 : (a, e) ∈ ws) (h2 : (a, e') ∈ ws) : e = e' := by
  obtain ⟨i, hi⟩ := List.getElem?_of_mem h1
  obtain ⟨j, hj⟩ := List.getElem?_of_mem h2
  have := h.2.1.1 i j _ _ hi hj rfl
  subst this
  exact (Prod.mk.inj (Option.some.inj (hi.symm.trans hj))).2
theorem Wd.front {D : va_G} {S0 : Nat} {ws : va_W} {q : Nat × va_E} {H : Heap} (hP : va_P D vwCl (ws ++ [q]) H) (hD : va_D (SA S0) (ws ++ [q])) (hz : S0 ≤ H.size) : Wd D S0 (q :: ws) H :=
  Wd.perm (ws := ws ++ [q]) ⟨hP, hD, hz⟩ (List.perm_append_singleton q ws)
/-- the first thing goes behind M -/
theorem Wd.mv {D : va_G} {S0 : Nat} {M Z : va_W} {q : Nat × va_E} {H : Heap} (h : Wd D S0 (q :: (M ++ Z)) H) : Wd D S0 (M ++ q :: Z) H := h.perm List.perm_middle.symm
theorem Wd.mid {D : va_G} {S0 : Nat} {u M Z : va_W} {H : Heap} (h : Wd D S0 (u ++ (M ++ Z)) H) : Wd D S0 (M ++ (u ++ Z)) H := h.perm (by
  rw [← List.append_assoc, ← List.append_assoc]
  exact List.Perm.append_right Z List.perm_append_comm)
/-- fewer things, in the same order -/
theorem Wd.sub {D : va_G} {S0 : Nat} {ws ws' : va_W} {H : Heap} (h : Wd D S0 ws H) (hs : ws'.Sublist ws) : Wd D S0 ws' H := by
  refine ⟨fun k q hk => ?_, zd_iff.mpr ?_, h.2.2⟩
  · obtain ⟨i, hi⟩ := List.getElem?_of_mem (hs.subset (List.mem_of_getElem? hk))
    exact h.1 i q hi
  · have h2 := zd_iff.mp h.2.1
    exact ⟨List.Pairwise.sublist (hs.map Prod.fst) h2.1, fun q hq => h2.2 q (hs.subset hq)⟩
/-- a row of numbers is what its numbers say below its length -/
theorem fa_cong {cs : Nat → ClassId} {D : va_G} {a n : Nat} {f g : Nat → Int32} {H : Heap} (h : ∀ i, i < n → f i = g i) (hf : At D a (fa cs n f) H) : At D a (fa cs n g) H := by
  have e : vp_cell (cs 0) (n, .inl f) = vp_cell (cs 0) (n, .inl g) := by
    rw [vp_cell_i, vp_cell_i]
    unfold arrV
    congr 1
    apply Array.ext
    · simp
    · intro i h1 h2
      simp only [Array.size_ofFn] at h1
      simp [h i h1]
  show H[a]? = some (vp_cell (cs 0) (n, .inl g))
  rw [← e]; exact hf
theorem Wd.cong {D : va_G} {S0 : Nat} {cs : Nat → ClassId} {ws : va_W} {a n : Nat} {f g : Nat → Int32} {H : Heap} (h : ∀ i, i < n → f i = g i) (hW : Wd D S0 ((a, fa cs n f) :: ws) H) : Wd D S0 ((a, fa cs n g) :: ws) H := by
  refine ⟨fun k q hk => ?_, ?_, hW.2.2⟩
  · cases k with
    | zero => cases hk; exact fa_cong h (hW.1 0 _ rfl)
    | succ k => exact hW.1 (k + 1) q hk
  · have h2 := zd_iff.mp hW.2.1
    refine zd_iff.mpr ⟨h2.1, fun q hq => ?_⟩
    rcases List.mem_cons.mp hq with e | e
    · rw [e]; exact h2.2 (a, fa cs n f) List.mem_cons_self
    · exact h2.2 q (List.mem_cons_of_mem _ e)
section ZM
variable {p : Program} {l : Launch} {e : Env} {R : Room} {s : State} {m : MethodId} {args : Array Value} {below : List Frame} {meth : Method} {c : Code} {H H0 : Heap} {locs : List Loc} {cells slots : Nat} {Q : State → Prop}
variable {cc : ByteArray} {pc S0 : Nat} {ls : Array Slot} {rest : List Value} {D : va_G} {cs : Nat → ClassId} {a : Nat} {ws : va_W}
theorem z_put (hexec : p.tables.exec = Jvm.exec) (hb : c.code = cc) {own ref C : String} {T : u_T} {N ci index : Nat} {Ts : List Cond} (hts : ∀ w ∈ Ts, w.before args s = true) (hin : ∀ w ∈ u_ws C T N, w ∈ Ts) (ty0 : Nat → FieldType) (hty : ∀ k, k < N → parseFieldDescriptor (T k).2.2.1 = some (ty0 k)) (hnm : ∀ a, a < N → ∀ b, b < N → a ≠ b → (T a).2.1 ≠ (T b).2.1) (hown : s.vm.findClass own = some m.cls) (hK : KK D cs s) (hW : Wd D S0 ws H) (hS : va_S (SA S0) H0 H locs) (q0 : Nat) {fs : List Value} (he : ws[q0]? = some (a, .inr (ci, fs))) (hc : vwCl[ci]? = some (C, T, N)) (k : Nat) (hk : k < N) (hlink : (Cond.fieldLink own index ref (T k).2.1 (T k).2.2.1).before args s = true) (hsame : ∀ x, s.fieldFound? (T k).1 (T k).2.1 (T k).2.2.1 = some x → s.fieldFound? ref (T k).2.1 (T k).2.2.1 = some x) (hfin : (T k).2.2.2 = false) {ty : FieldType} {v : Value} (hd : parseFieldDescriptor (T k).2.2.1 = some ty) (hn : narrow ty v = v) (hfit : fits ty v = true) (hl : k < fs.length)
    (hdg : decode cc pc = .ok (.putfield index, 3)) (kk : ∀ (H1 : Heap) (locs1 : List Loc), Wd D S0 (ws.set q0 (a, .inr (ci, fs.set k v))) H1 → va_S (SA S0) H0 H1 locs1 → W p l e R s m args below meth c H1 locs1 cells slots Q (F0 m (pc + 3) ls rest)) : W p l e R s m args below meth c H locs cells slots Q (F0 m pc ls (v :: .ref a :: rest)) :=
  va_put hexec hb hts hin ty0 hty hnm hown hK hW.1 hW.2.1 hS q0 he hc k hk hlink hsame hfin hd hn hfit hl hdg (fun H1 locs1 hP hD hS1 => kk H1 locs1 ⟨hP, hD, Nat.le_trans (Nat.le_of_not_lt fun z => by
    have h9 := hD.2 q0 (a, .inr (ci, fs.set k v)) (List.getElem?_set_self (List.getElem?_eq_some_iff.mp he).1)
    have h8 := (hP q0 _ (List.getElem?_set_self (List.getElem?_eq_some_iff.mp he).1)).lt
    have h7 : S0 ≤ a := h9
    have h6 : a < H1.size := h8
    omega) (Nat.le_refl _)⟩ hS1)
theorem z_putF (hexec : p.tables.exec = Jvm.exec) (hb : c.code = cc) {own ref C : String} {T : u_T} {N ci index : Nat} {Ts : List Cond} (hts : ∀ w ∈ Ts, w.before args s = true) (hin : ∀ w ∈ u_ws C T N, w ∈ Ts) (ty0 : Nat → FieldType) (hty : ∀ k, k < N → parseFieldDescriptor (T k).2.2.1 = some (ty0 k)) (hnm : ∀ a, a < N → ∀ b, b < N → a ≠ b → (T a).2.1 ≠ (T b).2.1) (hown : s.vm.findClass own = some m.cls) (hK : KK D cs s) (hW : Wd D S0 ws H) (hS : va_S (SA S0) H0 H locs) (q0 : Nat) {fs : List Value} (he : ws[q0]? = some (a, .inr (ci, fs))) (hc : vwCl[ci]? = some (C, T, N)) (k : Nat) (hk : k < N) (hlink : (Cond.fieldLink own index ref (T k).2.1 (T k).2.2.1).before args s = true) (hsame : ∀ x, s.fieldFound? (T k).1 (T k).2.1 (T k).2.2.1 = some x → s.fieldFound? ref (T k).2.1 (T k).2.2.1 = some x) (hfin : (T k).2.2.2 = true) (hin2 : meth.name = "<init>") (hdecl : (T k).1 = own) {ty : FieldType} {v : Value} (hd : parseFieldDescriptor (T k).2.2.1 = some ty) (hn : narrow ty v = v) (hfit : fits ty v = true) (hl : k < fs.length)
    (hdg : decode cc pc = .ok (.putfield index, 3)) (kk : ∀ (H1 : Heap) (locs1 : List Loc), Wd D S0 (ws.set q0 (a, .inr (ci, fs.set k v))) H1 → va_S (SA S0) H0 H1 locs1 → W p l e R s m args below meth c H1 locs1 cells slots Q (F0 m (pc + 3) ls rest)) : W p l e R s m args below meth c H locs cells slots Q (F0 m pc ls (v :: .ref a :: rest)) :=
  va_putF hexec hb hts hin ty0 hty hnm hown hK hW.1 hW.2.1 hS q0 he hc k hk hlink hsame hfin hin2 hdecl hd hn hfit hl hdg (fun H1 locs1 hP hD hS1 => kk H1 locs1 ⟨hP, hD, Nat.le_trans (Nat.le_of_not_lt fun z => by
    have h9 := hD.2 q0 (a, .inr (ci, fs.set k v)) (List.getElem?_set_self (List.getElem?_eq_some_iff.mp he).1)
    have h8 := (hP q0 _ (List.getElem?_set_self (List.getElem?_eq_some_iff.mp he).1)).lt
    have h7 : S0 ≤ a := h9
    have h6 : a < H1.size := h8
    omega) (Nat.le_refl _)⟩ hS1)
theorem z_iast (hexec : p.tables.exec = Jvm.exec) (hb : c.code = cc) (hK : KK D cs s) (hW : Wd D S0 ws H) (hS : va_S (SA S0) H0 H locs) (q0 : Nat) {n k : Nat} {f : Nat → Int32} {x : Int32} (ha : ws[q0]? = some (a, fa cs n f)) (hk : k < n) (hn : n < 2 ^ 31) (hdg : decode cc pc = .ok (.iastore, 1))
    (kk : ∀ (H1 : Heap) (locs1 : List Loc), Wd D S0 (ws.set q0 (a, fa cs n (upd f k x))) H1 → va_S (SA S0) H0 H1 locs1 → W p l e R s m args below meth c H1 locs1 cells slots Q (F0 m (pc + 1) ls rest)) : W p l e R s m args below meth c H locs cells slots Q (F0 m pc ls (.int x :: .int (nI k) :: .ref a :: rest)) :=
  va_iast hexec hb hK hW.1 hW.2.1 hS q0 0 ha rfl (vp_in_nI hk hn) hdg (fun H1 locs1 hP hD hS1 => by
    rw [nI_clamp (by omega)] at hP hD
    refine kk H1 locs1 ⟨hP, hD, ?_⟩ hS1
    have h9 := hD.2 q0 _ (List.getElem?_set_self (List.getElem?_eq_some_iff.mp ha).1)
    have h8 := (hP q0 _ (List.getElem?_set_self (List.getElem?_eq_some_iff.mp ha).1)).lt
    have h7 : S0 ≤ a := h9
    have h6 : a < H1.size := h8
    omega)
theorem z_newa (hexec : p.tables.exec = Jvm.exec) (hb : c.code = cc) (harr : (Cond.arrayClass .int).before args s = true) (hK : KK D cs s) (hW : Wd D S0 ws H) (hS : va_S (SA S0) H0 H locs) (h0 : S0 ≤ H0.size) {n : Nat} (hn : n < 2 ^ 20) (hcells : cells + 1 ≤ R.cells) (hslots : slots + n ≤ R.slots) (hdg : decode cc pc = .ok (.newarray .int, 2))
    (kk : ∀ (q : Nat) (H1 : Heap), Wd D S0 ((q, fa cs n (fun _ => 0)) :: ws) H1 → va_S (SA S0) H0 H1 locs → W p l e R s m args below meth c H1 locs (cells + 1) (slots + n) Q (F0 m (pc + 2) ls (.ref q :: rest))) : W p l e R s m args below meth c H locs cells slots Q (F0 m pc ls (.int (nI n) :: rest)) := by
  refine va_newaK hexec hb (atype := .int) harr rfl hdg rfl (nI_pos (by omega)) (nI_clamp (by omega)) (by show n * 4 ≤ _; omega) hcells hslots (h := H.size) rfl (fun H' cA e1 e2 e3 e4 e5 => ?_)
  have hcA : cA = cs 0 := Option.some.inj (e5.symm.trans (hK.2 0 _ rfl).2)
  subst hcA
  have hk : ∀ (k : Nat) (x : Nat × va_E), ws[k]? = some x → H'[x.1]? = H[x.1]? := fun k x hx => e3 x.1 ((hW.1 k x hx).lt)
  have hP : va_P D vwCl (ws ++ [(H.size, fa cs n (fun _ => 0))]) H' := (hW.1.kept hk).app (z_one e1)
  have hD : va_D (SA S0) (ws ++ [(H.size, fa cs n (fun _ => 0))]) := hW.2.1.push hW.1 rfl hW.2.2
  exact kk H.size H' (Wd.front hP hD (by have := hW.2.2; omega)) ⟨Nat.le_trans hS.1 (by omega), fun x h1 h2 => (e3 x (Nat.lt_of_lt_of_le h1 hS.1)).trans (hS.2.1 x h1 h2), hS.2.2⟩
theorem z_new (hexec : p.tables.exec = Jvm.exec) (hb : c.code = cc) {own C : String} {T : u_T} {N ci index : Nat} {Ts : List Cond} (hts : ∀ w ∈ Ts, w.before args s = true) (hin : ∀ w ∈ u_ws C T N, w ∈ Ts) (ty : Nat → FieldType) (hty : ∀ k, k < N → parseFieldDescriptor (T k).2.2.1 = some (ty k)) (hown : s.vm.findClass own = some m.cls) (hcl : (Cond.classLink own index C).before args s = true) (hinst : (Cond.instantiable C N).before args s = true) (hini : (Cond.initialized C).before args s = true)
    (hK : KK D cs s) (hW : Wd D S0 ws H) (hS : va_S (SA S0) H0 H locs) (h0 : S0 ≤ H0.size) (hc : vwCl[ci]? = some (C, T, N)) {fs : List Value} (hfs : ∀ j, j < N → defaultValue (ty j) = vp_V fs j) (hcells : cells + 1 ≤ R.cells) (hslots : slots + N ≤ R.slots) (hdg : decode cc pc = .ok (.new index, 3))
    (kk : ∀ (q : Nat) (H1 : Heap), Wd D S0 ((q, .inr (ci, fs)) :: ws) H1 → va_S (SA S0) H0 H1 locs → W p l e R s m args below meth c H1 locs (cells + 1) (slots + N) Q (F0 m (pc + 3) ls (.ref q :: rest))) : W p l e R s m args below meth c H locs cells slots Q (F0 m pc ls rest) := by
  refine va_new (D := D) (cl := vwCl) (ws := ws) (A := SA S0) (H0 := H0) hexec hb hts hin ty hty hown hcl hinst hini hK hW.1 hW.2.1 hS (fun q h => Nat.le_trans h0 h) hc hfs hcells hslots hdg (fun q H1 hP hD hS1 => ?_)
  have hq : (q, (Sum.inr (ci, fs) : va_E)) ∈ ws ++ [(q, .inr (ci, fs))] := List.mem_append_right _ List.mem_cons_self
  obtain ⟨k9, hk9⟩ := List.getElem?_of_mem hq
  have hlt : q < H1.size := (hP k9 _ hk9).lt
  have hge : S0 ≤ q := hD.2 k9 _ hk9
  exact kk q H1 (Wd.front hP hD (by omega)) hS1
/-- a call behind which the world is another -/
theorem z_cmI {Sx : Type} {post : Int32 → Sx → Prop} {WS : Sx → va_W} {mc ms : Nat} {st0 : List Value} {aa : Array Value} (hr : va_Run p l e R s m args below meth c H locs cells slots mc ms (F0 m pc ls st0) rest (va_Qi post (fun u t => Wd D S0 (WS u) t.heap) (SA S0) aa) (SA S0)) (hS : va_S (SA S0) H0 H locs)
    (kk : ∀ (r : Int32) (u : Sx) (H1 : Heap) (locs1 : List Loc), post r u → Wd D S0 (WS u) H1 → va_S (SA S0) H0 H1 locs1 → W p l e R s m args below meth c H1 locs1 (cells + mc) (slots + ms) Q (F0 m (pc + 3) ls (.int r :: rest))) : W p l e R s m args below meth c H locs cells slots Q (F0 m pc ls st0) :=
  va_calli hr hS (fun q _ h => h) (fun q h => h) (fun r u t H1 locs1 e1 _ hp hB _ _ hS1 => kk r u H1 locs1 hp (by rw [← e1]; exact hB) hS1)
theorem z_cmV {Sx : Type} {post : Sx → Prop} {WS : Sx → va_W} {mc ms : Nat} {st0 : List Value} {aa : Array Value} (hr : va_Run p l e R s m args below meth c H locs cells slots mc ms (F0 m pc ls st0) rest (va_Qv post (fun u t => Wd D S0 (WS u) t.heap) (SA S0) aa) (SA S0)) (hS : va_S (SA S0) H0 H locs)
    (kk : ∀ (u : Sx) (H1 : Heap) (locs1 : List Loc), post u → Wd D S0 (WS u) H1 → va_S (SA S0) H0 H1 locs1 → W p l e R s m args below meth c H1 locs1 (cells + mc) (slots + ms) Q (F0 m (pc + 3) ls rest)) : W p l e R s m args below meth c H locs cells slots Q (F0 m pc ls st0) :=
  va_callv hr hS (fun q _ h => h) (fun q h => h) (fun u t H1 locs1 e1 _ hp hB _ _ hS1 => kk u H1 locs1 hp (by rw [← e1]; exact hB) hS1)
theorem z_cmR {Sx : Type} {post : Sx → Prop} {WS : Sx → Nat → va_W} {PR : Sx → Nat → Prop} {mc ms : Nat} {st0 : List Value} {aa : Array Value} (hr : va_Run p l e R s m args below meth c H locs cells slots mc ms (F0 m pc ls st0) rest (va_Qr post (fun u ra t => Wd D S0 (WS u ra) t.heap ∧ PR u ra) (SA S0) aa) (SA S0)) (hS : va_S (SA S0) H0 H locs)
    (kk : ∀ (u : Sx) (ra : Nat) (H1 : Heap) (locs1 : List Loc), post u → Wd D S0 (WS u ra) H1 → PR u ra → va_S (SA S0) H0 H1 locs1 → W p l e R s m args below meth c H1 locs1 (cells + mc) (slots + ms) Q (F0 m (pc + 3) ls (.ref ra :: rest))) : W p l e R s m args below meth c H locs cells slots Q (F0 m pc ls st0) :=
  va_callr hr hS (fun q _ h => h) (fun q h => h) (fun u ra t H1 locs1 e1 _ hp hB _ _ hS1 => kk u ra H1 locs1 hp (by rw [← e1]; exact hB.1) hB.2 hS1)
/-- a loop that writes: the heap and what was written go along -/
theorem z_loopM {σ : Type} (μ : σ → Nat) (Inv : σ → Array Slot → Heap → List Loc → Prop) (x : σ) (h : Inv x ls H locs)
    (step : ∀ (d : Nat), (∀ (y : σ) (ls : Array Slot) (H : Heap) (locs : List Loc), μ y < d → Inv y ls H locs → W p l e R s m args below meth c H locs cells slots Q (F0 m pc ls rest)) → ∀ (y : σ) (ls : Array Slot) (H : Heap) (locs : List Loc), μ y = d → Inv y ls H locs → W p l e R s m args below meth c H locs cells slots Q (F0 m pc ls rest)) : W p l e R s m args below meth c H locs cells slots Q (F0 m pc ls rest) := by
  have key : ∀ (n : Nat) (y : σ) (ls : Array Slot) (H : Heap) (locs : List Loc), μ y < n → Inv y ls H locs → W p l e R s m args below meth c H locs cells slots Q (F0 m pc ls rest) := by
    intro n
    induction n with
    | zero => intro y ls H locs hn; exact absurd hn (Nat.not_lt_zero _)
    | succ n ih => intro y ls H locs hn hI; exact step (μ y) (fun z ls H locs hz hI => ih z ls H locs (by omega) hI) y ls H locs rfl hI
  exact key (μ x + 1) x ls H locs (Nat.lt_succ_self _) h
end ZM
