/-! more rows over the world: copies, rows of things, answers that are things -/
theorem z_S0 {D : va_G} {S0 : Nat} {ws : va_W} {H : Heap} {k : Nat} {x : Nat × va_E} (hP : va_P D vwCl ws H) (hD : va_D (SA S0) ws) (hk : ws[k]? = some x) : S0 ≤ H.size := by
  have h9 : S0 ≤ x.1 := hD.2 k x hk
  have h8 : x.1 < H.size := (hP k x hk).lt
  omega
theorem z_set {ws : va_W} {k : Nat} {x y : Nat × va_E} (h : ws[k]? = some x) : (ws.set k y)[k]? = some y := List.getElem?_set_self (List.getElem?_eq_some_iff.mp h).1
theorem z_cpy0 {α : Type} (f g : Nat → α) (n i : Nat) (h : i < n) : va_cpy f g 0 0 n i = f i := by
  show (if 0 ≤ i ∧ i < 0 + n then f (0 + (i - 0)) else g i) = f i
  rw [if_pos ⟨by omega, by omega⟩, Nat.zero_add, Nat.sub_zero]
section ZQ
variable {p : Program} {l : Launch} {e : Env} {R : Room} {s : State} {m : MethodId} {args : Array Value} {below : List Frame} {meth : Method} {c : Code} {H H0 : Heap} {locs : List Loc} {cells slots : Nat} {Q : State → Prop}
variable {cc bytes : ByteArray} {pc S0 nL maxL index n : Nat} {ls : Array Slot} {rest st : List Value} {D : va_G} {cs : Nat → ClassId} {a b : Nat} {ws : va_W} {Ts wz : List Cond} {own C : String} {y : MethodName} {ret : Option FieldType} {rm : Room} {PH : Heap → Prop} {As : List Value}
theorem z_csRV {post : Nat → Prop} (S : CallFix p m c cc nL s args Ts own) (hM : Met l y wz rm (zP (.ref b :: As) PH D cs) (va_Sr post (fun k => .ref k)) 0 0 (fun _ => False)) (cw : CallW R s args own C index y bytes maxL ret wz rm 0 0 n) {ci N : Nat} {T : u_T} {fs : List Value} (hB : At D b (.inr (ci, fs)) H) (hc : vwCl[ci]? = some (C, T, N)) (h : PH H) (hK : KK D cs s)
    (hn : As.length = n) (hsize : ls.size = nL) (hst : st = As.reverse ++ .ref b :: rest) (hW : (rest.map fun v => v.category).sum ≤ 8) (hdg : decode cc pc = .ok (.invokevirtual index, 3)) (hf : cells ≤ R.cells ∧ slots ≤ R.slots)
    (kk : ∀ r : Nat, post r → W p l e R s m args below meth c H locs cells slots Q (F0 m (pc + 3) ls (.ref r :: rest))) : W p l e R s m args below meth c H locs cells slots Q (F0 m pc ls st) :=
  va_csr (W.runV S hM cw ⟨zP_blind, z_recv hK hB hc, zP_pre h hK⟩ rfl hn hsize hst (lv_room hW) hdg hf) kk
theorem z_csVv {post : Unit → Prop} (S : CallFix p m c cc nL s args Ts own) (hM : Met l y wz rm (zP (.ref b :: As) PH D cs) (va_Sv post) 0 0 (fun _ => False)) (cw : CallW R s args own C index y bytes maxL ret wz rm 0 0 n) {ci N : Nat} {T : u_T} {fs : List Value} (hB : At D b (.inr (ci, fs)) H) (hc : vwCl[ci]? = some (C, T, N)) (h : PH H) (hK : KK D cs s)
    (hn : As.length = n) (hsize : ls.size = nL) (hst : st = As.reverse ++ .ref b :: rest) (hW : (rest.map fun v => v.category).sum ≤ 8) (hdg : decode cc pc = .ok (.invokevirtual index, 3)) (hf : cells ≤ R.cells ∧ slots ≤ R.slots)
    (kk : W p l e R s m args below meth c H locs cells slots Q (F0 m (pc + 3) ls rest)) : W p l e R s m args below meth c H locs cells slots Q (F0 m pc ls st) :=
  va_csv (W.runV S hM cw ⟨zP_blind, z_recv hK hB hc, zP_pre h hK⟩ rfl hn hsize hst (lv_room hW) hdg hf) (fun _ => kk)
theorem z_csSv {post : Unit → Prop} (S : CallFix p m c cc nL s args Ts own) (hM : Met l y wz rm (zP As PH D cs) (va_Sv post) 0 0 (fun _ => False)) (cw : CallB R s args own index y bytes maxL ret wz rm 0 0 n ∧ (Cond.static y).before args s = true) (h : PH H) (hK : KK D cs s)
    (hn : As.length = n) (hsize : ls.size = nL) (hst : st = As.reverse ++ rest) (hW : (rest.map fun v => v.category).sum ≤ 8) (hdg : decode cc pc = .ok (.invokestatic index, 3)) (hf : cells ≤ R.cells ∧ slots ≤ R.slots)
    (kk : W p l e R s m args below meth c H locs cells slots Q (F0 m (pc + 3) ls rest)) : W p l e R s m args below meth c H locs cells slots Q (F0 m pc ls st) :=
  va_csv (W.runS S hM cw ⟨zP_blind, zP_pre h hK⟩ rfl hn hsize hst (lv_room hW) hdg hf) (fun _ => kk)
theorem z_csSl {post : Int64 → Prop} (S : CallFix p m c cc nL s args Ts own) (hM : Met l y wz rm (zP As PH D cs) (vp_Sl post) 0 0 (fun _ => False)) (cw : CallB R s args own index y bytes maxL ret wz rm 0 0 n ∧ (Cond.static y).before args s = true) (h : PH H) (hK : KK D cs s)
    (hn : As.length = n) (hsize : ls.size = nL) (hst : st = As.reverse ++ rest) (hW : (rest.map fun v => v.category).sum ≤ 8) (hdg : decode cc pc = .ok (.invokestatic index, 3)) (hf : cells ≤ R.cells ∧ slots ≤ R.slots)
    (kk : ∀ r : Int64, post r → W p l e R s m args below meth c H locs cells slots Q (F0 m (pc + 3) ls (.long r :: rest))) : W p l e R s m args below meth c H locs cells slots Q (F0 m pc ls st) :=
  vp_callSl (W.runS S hM cw ⟨zP_blind, zP_pre h hK⟩ rfl hn hsize hst (lv_room hW) hdg hf) kk
/-- numbers copied from the front of one row to the front of another -/
theorem z_copyi (hexec : p.tables.exec = Jvm.exec) (hb : c.code = cc) (hml : c.maxLocals = ls.size) (hown : s.vm.findClass own = some m.cls) (hlink : (Cond.methodLink own index arraycopyName).before args s = true) (hnat : (Cond.native arraycopyName).before args s = true) (hstat : (Cond.static arraycopyName).before args s = true) (hini : (Cond.initialized "java/lang/System").before args s = true)
    (hK : KK D cs s) (hW : Wd D S0 ws H) (hS : va_S (SA S0) H0 H locs) (q0 q1 : Nat) {a0 n0 n1 k : Nat} {f g : Nat → Int32} (ha0 : ws[q0]? = some (a0, fa cs n0 f)) (ha1 : ws[q1]? = some (a, fa cs n1 g)) (h4 : k ≤ n0) (h5 : k ≤ n1) (hk : k < 2 ^ 31)
    (hframes : 1 ≤ R.frames) (hlocals : (rest.map fun v => v.category).sum + (nativeFrameWords "java/lang/System" "arraycopy" 5 + 11) ≤ R.locals) (hdg : decode cc pc = .ok (.invokestatic index, 3))
    (kk : ∀ (H1 : Heap) (locs1 : List Loc), Wd D S0 (ws.set q1 (a, fa cs n1 (va_cpy f g 0 0 k))) H1 → va_S (SA S0) H0 H1 locs1 → W p l e R s m args below meth c H1 locs1 cells slots Q (F0 m (pc + 3) ls rest)) : W p l e R s m args below meth c H locs cells slots Q (F0 m pc ls (.int (nI k) :: .int (nI 0) :: .ref a :: .int (nI 0) :: .ref a0 :: rest)) :=
  va_copyi hexec hb hml hown hlink hnat hstat hini hK hW.1 hW.2.1 hS q0 q1 0 0 ha0 ha1 rfl rfl rfl (by decide) (by decide) (nI_pos hk) (by rw [nI_clamp hk, show (nI 0).toNatClampNeg = 0 from by decide]; omega) (by rw [nI_clamp hk, show (nI 0).toNatClampNeg = 0 from by decide]; omega) (fun _ _ => rfl) hframes hlocals hdg (fun H1 locs1 hP hD hS1 => by
    rw [nI_clamp hk, show (nI 0).toNatClampNeg = 0 from by decide] at hP hD
    exact kk H1 locs1 ⟨hP, hD, z_S0 hP hD (z_set ha1)⟩ hS1)
/-- a row of numbers, the same again -/
theorem z_clone (hexec : p.tables.exec = Jvm.exec) (hb : c.code = cc) (hml : c.maxLocals = ls.size) (hown : s.vm.findClass own = some m.cls)
    (hlink : (Cond.methodLink own index ⟨"[I", "clone", "()Ljava/lang/Object;"⟩).before args s = true) (hsame : (Cond.sameMethod "[I" "java/lang/Object" "clone" "()Ljava/lang/Object;").before args s = true)
    (hnat : (Cond.native ⟨"java/lang/Object", "clone", "()Ljava/lang/Object;"⟩).before args s = true) (hinst : (Cond.instanceMethod ⟨"java/lang/Object", "clone", "()Ljava/lang/Object;"⟩).before args s = true)
    (hsel : (Cond.selects "[I" ⟨"[I", "clone", "()Ljava/lang/Object;"⟩ ⟨"java/lang/Object", "clone", "()Ljava/lang/Object;"⟩).before args s = true) (hcl : va_Nw (.castable "[I" "java/lang/Cloneable") s)
    (hK : KK D cs s) (hW : Wd D S0 ws H) (hS : va_S (SA S0) H0 H locs) (h0 : S0 ≤ H0.size) (q0 : Nat) {k : Nat} {f : Nat → Int32} (ha : ws[q0]? = some (a, fa cs k f))
    (hframes : 1 ≤ R.frames) (hlocals : (rest.map fun v => v.category).sum + 14 ≤ R.locals) (hcells : cells + 1 ≤ R.cells) (hslots : slots + k ≤ R.slots) (hdg : decode cc pc = .ok (.invokevirtual index, 3))
    (kk : ∀ (q : Nat) (H1 : Heap), Wd D S0 ((q, fa cs k f) :: ws) H1 → va_S (SA S0) H0 H1 locs → W p l e R s m args below meth c H1 locs (cells + 1) (slots + k) Q (F0 m (pc + 3) ls (.ref q :: rest))) : W p l e R s m args below meth c H locs cells slots Q (F0 m pc ls (.ref a :: rest)) :=
  va_clone (ad := "[I") (x := (k, .inl f)) hexec hb hml hown hlink hsame hnat hinst hsel hcl hK hW.1 hW.2.1 hS (fun q h => Nat.le_trans h0 h) q0 0 ha rfl (hK.2 0 _ rfl).2 (fun i v hv => by
    have hlt := (Array.getElem?_eq_some_iff.mp hv).1
    rw [vp_cell_i, arrV_size] at hlt
    rw [vp_cell_i, arrV_read _ _ hlt] at hv
    cases hv; rfl) hframes hlocals hcells hslots hdg (fun q H1 _ hP hD hS1 => by
    have hq : (q, (fa cs k f : va_E)) ∈ ws ++ [(q, fa cs k f)] := List.mem_append_right _ List.mem_cons_self
    obtain ⟨k9, hk9⟩ := List.getElem?_of_mem hq
    exact kk q H1 (Wd.front hP hD (z_S0 hP hD hk9)) hS1)
end ZQ
