/-! rows of things: made, copied, stored into -/
theorem z_cc {mi ci : Nat} {sa : Nat → Nat} {s : State} (hci : ci = 1 ∨ ci = 2) (hT : TB mi sa s) : ∃ r : vw_C, vwCl[ci]? = some r ∧ va_Nw (.castable r.1 oO) s := by
  rcases hci with e | e
  · subst e; exact ⟨_, rfl, hT.1 (RX0, oO) (by decide)⟩
  · subst e; exact ⟨_, rfl, hT.1 (RX1, oO) (by decide)⟩
section ZU
variable {p : Program} {l : Launch} {e : Env} {R : Room} {s : State} {m : MethodId} {args : Array Value} {below : List Frame} {meth : Method} {c : Code} {H H0 : Heap} {locs : List Loc} {cells slots : Nat} {Q : State → Prop}
variable {cc : ByteArray} {pc S0 index mi : Nat} {sa : Nat → Nat} {ls : Array Slot} {rest : List Value} {D : va_G} {cs : Nat → ClassId} {a : Nat} {ws : va_W} {own : String}
theorem z_oarr (hK : KK D cs s) {n : Nat} {f : Nat → Option Nat} (h : At D a (qa cs 1 n f) H) : ∃ cell : Cell, H[a]? = some cell ∧ cell.vm.isStatics = false ∧ s.vm.findClass "[Ljava/lang/Object;" = some cell.cls := by
  obtain ⟨kA, comp, h1, h2, h3, h4⟩ := (hK.2 1 _ rfl).2
  exact ⟨_, h, rfl, h4⟩
theorem z_newq (hexec : p.tables.exec = Jvm.exec) (hb : c.code = cc) (hown : s.vm.findClass own = some m.cls) (hclink : (Cond.classLink own index oO).before args s = true) (hT : TB mi sa s) (hK : KK D cs s) (hW : Wd D S0 ws H) (hS : va_S (SA S0) H0 H locs) (h0 : S0 ≤ H0.size)
    {n : Nat} (hn : n < 2 ^ 20) (hcells : cells + 1 ≤ R.cells) (hslots : slots + n ≤ R.slots) (hdg : decode cc pc = .ok (.anewarray index, 3))
    (kk : ∀ (q : Nat) (H1 : Heap), Wd D S0 ((q, qa cs 1 n (fun _ => none)) :: ws) H1 → va_S (SA S0) H0 H1 locs → W p l e R s m args below meth c H1 locs (cells + 1) (slots + n) Q (F0 m (pc + 3) ls (.ref q :: rest))) : W p l e R s m args below meth c H locs cells slots Q (F0 m pc ls (.int (nI n) :: rest)) :=
  va_newq hexec hb hown hclink hT.2.2.2.1 hK hW.1 hW.2.1 hS (fun q h => Nat.le_trans h0 h) (N' := n) (nI_pos (by omega)) (nI_clamp (by omega)) (by omega) hcells hslots hdg (fun q cA H1 hK1 hP hD hS1 => by
    obtain ⟨kA, comp, h1, h2, h3, h4⟩ := (hK.2 1 _ rfl).2
    obtain ⟨kA', comp', g1, g2, g3, g4⟩ := (hK1.2 3 _ rfl).2
    have e1 : cA = cs 1 := Option.some.inj (g4.symm.trans h4)
    subst e1
    have hq : (q, (qa cs 1 n (fun _ => none) : va_E)) ∈ ws ++ [(q, qa cs 1 n (fun _ => none))] := List.mem_append_right _ List.mem_cons_self
    obtain ⟨k9, hk9⟩ := List.getElem?_of_mem hq
    exact kk q H1 (Wd.front hP hD (z_S0 hP hD hk9)) hS1)
theorem z_astO (hexec : p.tables.exec = Jvm.exec) (hb : c.code = cc) (hT : TB mi sa s) (hK : KK D cs s) (hW : Wd D S0 ws H) (hS : va_S (SA S0) H0 H locs) (q0 : Nat) {n k v ci : Nat} {vs : List Value} {f : Nat → Option Nat} (hci : ci = 1 ∨ ci = 2) (ha : ws[q0]? = some (a, qa cs 1 n f)) (hv : (v, (Sum.inr (ci, vs) : va_E)) ∈ ws) (hk : k < n) (hn : n < 2 ^ 31) (hdg : decode cc pc = .ok (.aastore, 1))
    (kk : ∀ (H1 : Heap) (locs1 : List Loc), Wd D S0 (ws.set q0 (a, qa cs 1 n (va_up f k (some v)))) H1 → va_S (SA S0) H0 H1 locs1 → W p l e R s m args below meth c H1 locs1 cells slots Q (F0 m (pc + 1) ls rest)) : W p l e R s m args below meth c H locs cells slots Q (F0 m pc ls (.ref v :: .int (nI k) :: .ref a :: rest)) := by
  obtain ⟨r, hr, hca⟩ := z_cc hci hT
  obtain ⟨k9, hk9⟩ := List.getElem?_of_mem hv
  refine va_astqO hexec hb hK hW.1 hW.2.1 hS q0 1 k9 ci ha rfl hca hk9 hr (vp_in_nI hk hn) hdg (fun H1 locs1 hP hD hS1 => ?_)
  rw [nI_clamp (by omega)] at hP hD
  exact kk H1 locs1 ⟨hP, hD, z_S0 hP hD (z_set ha)⟩ hS1
theorem z_astN (hexec : p.tables.exec = Jvm.exec) (hb : c.code = cc) (hK : KK D cs s) (hW : Wd D S0 ws H) (hS : va_S (SA S0) H0 H locs) (q0 : Nat) {n k : Nat} {f : Nat → Option Nat} (ha : ws[q0]? = some (a, qa cs 1 n f)) (hk : k < n) (hn : n < 2 ^ 31) (hdg : decode cc pc = .ok (.aastore, 1))
    (kk : ∀ (H1 : Heap) (locs1 : List Loc), Wd D S0 (ws.set q0 (a, qa cs 1 n (va_up f k none))) H1 → va_S (SA S0) H0 H1 locs1 → W p l e R s m args below meth c H1 locs1 cells slots Q (F0 m (pc + 1) ls rest)) : W p l e R s m args below meth c H locs cells slots Q (F0 m pc ls (.null :: .int (nI k) :: .ref a :: rest)) :=
  va_astqN hexec hb hK hW.1 hW.2.1 hS q0 1 ha rfl (vp_in_nI hk hn) hdg (fun H1 locs1 hP hD hS1 => by
    rw [nI_clamp (by omega)] at hP hD
    exact kk H1 locs1 ⟨hP, hD, z_S0 hP hD (z_set ha)⟩ hS1)
/-- things copied from one row to another, or within one -/
theorem z_copyq (hexec : p.tables.exec = Jvm.exec) (hb : c.code = cc) (hml : c.maxLocals = ls.size) (hown : s.vm.findClass own = some m.cls) (hlink : (Cond.methodLink own index arraycopyName).before args s = true) (hnat : (Cond.native arraycopyName).before args s = true) (hstat : (Cond.static arraycopyName).before args s = true) (hini : (Cond.initialized "java/lang/System").before args s = true)
    (hT : TB mi sa s) (hK : KK D cs s) (hW : Wd D S0 ws H) (hS : va_S (SA S0) H0 H locs) (q0 q1 : Nat) {a0 n0 n1 sp dp k ci : Nat} {f g : Nat → Option Nat} (hci : ci = 1 ∨ ci = 2) (ha0 : ws[q0]? = some (a0, qa cs 1 n0 f)) (ha1 : ws[q1]? = some (a, qa cs 1 n1 g)) (h4 : sp + k ≤ n0) (h5 : dp + k ≤ n1) (hk0 : n0 < 2 ^ 31) (hk1 : n1 < 2 ^ 31)
    (hel : ∀ i, i < k → ∀ y, f (sp + i) = some y → ∃ vs, (y, (Sum.inr (ci, vs) : va_E)) ∈ ws)
    (hframes : 1 ≤ R.frames) (hlocals : (rest.map fun v => v.category).sum + (nativeFrameWords "java/lang/System" "arraycopy" 5 + 11) ≤ R.locals) (hdg : decode cc pc = .ok (.invokestatic index, 3))
    (kk : ∀ (H1 : Heap) (locs1 : List Loc), Wd D S0 (ws.set q1 (a, qa cs 1 n1 (va_cpy f g sp dp k))) H1 → va_S (SA S0) H0 H1 locs1 → W p l e R s m args below meth c H1 locs1 cells slots Q (F0 m (pc + 3) ls rest)) : W p l e R s m args below meth c H locs cells slots Q (F0 m pc ls (.int (nI k) :: .int (nI dp) :: .ref a :: .int (nI sp) :: .ref a0 :: rest)) := by
  obtain ⟨r, hr, hca⟩ := z_cc hci hT
  have ek : (nI k).toNatClampNeg = k := nI_clamp (by omega)
  have es : (nI sp).toNatClampNeg = sp := nI_clamp (by omega)
  have ed : (nI dp).toNatClampNeg = dp := nI_clamp (by omega)
  refine va_copyq (C := r.1) (E1 := oO) hexec hb hml hown hlink hnat hstat hini hK hW.1 hW.2.1 hS q0 q1 1 1 ha0 ha1 rfl rfl (nI_pos (by omega)) (nI_pos (by omega)) (nI_pos (by omega)) (by rw [es, ek]; exact h4) (by rw [ed, ek]; exact h5) (fun i hi y hy => ?_) (vb_asgC hca) hframes hlocals hdg (fun H1 locs1 hP hD hS1 => ?_)
  · rw [es] at hy
    rw [ek] at hi
    obtain ⟨vs, hm⟩ := hel i hi y hy
    obtain ⟨k9, hk9⟩ := List.getElem?_of_mem hm
    exact va_recv hK hW.1 hr hk9
  · rw [ek, es, ed] at hP hD
    exact kk H1 locs1 ⟨hP, hD, z_S0 hP hD (z_set ha1)⟩ hS1
end ZU
