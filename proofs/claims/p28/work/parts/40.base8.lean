/-! rows of rows: made, stored into -/
def AA (cs : Nat → ClassId) (U : State) : Prop := ∃ kA : Class, U.vm.classes[cs 2]? = some kA ∧ kA.kind = .array (cs 0) (.array .int)
theorem AA.moved {cs : Nat → ClassId} {u U : State} (hvm : u.vm.Alike U.vm) (h : AA cs u) : AA cs U := by
  obtain ⟨kA, h1, h2⟩ := h
  obtain ⟨k', hk', he⟩ := hvm.2.2 _ _ h1
  exact ⟨k', hk', by rw [he]; exact h2⟩
def zM (As : List Value) (PH : Heap → Prop) (D : va_G) (cs : Nat → ClassId) : Array Value → State → Prop := fun v U => v = As.toArray ∧ PH U.heap ∧ KK D cs U ∧ AA cs U
theorem zM_blind {As : List Value} {PH : Heap → Prop} {D : va_G} {cs : Nat → ClassId} : FrameBlind (zM As PH D cs) := fun _ U g mk h => ⟨h.1, h.2.1, va_K.moved (u := U) (Vm.Alike.refl U.vm) h.2.2.1, AA.moved (u := U) (Vm.Alike.refl U.vm) h.2.2.2⟩
theorem zM_pre {As : List Value} {PH : Heap → Prop} {D : va_G} {cs : Nat → ClassId} {s : State} {H : Heap} (h : PH H) (hK : KK D cs s) (hA : AA cs s) : ∀ U : State, U.heap = H → s.WarmedH U.vm → zM As PH D cs As.toArray U := fun U hU hW => ⟨rfl, by rw [hU]; exact h, va_K.moved hW.alike hK, hA.moved hW.alike⟩
section ZY
variable {p : Program} {l : Launch} {e : Env} {R : Room} {s : State} {m : MethodId} {args : Array Value} {below : List Frame} {meth : Method} {c : Code} {H H0 : Heap} {locs : List Loc} {cells slots : Nat} {Q : State → Prop}
variable {cc : ByteArray} {pc S0 index : Nat} {ls : Array Slot} {rest : List Value} {D : va_G} {cs : Nat → ClassId} {a : Nat} {ws : va_W} {own : String}
theorem z_newA (hexec : p.tables.exec = Jvm.exec) (hb : c.code = cc) (hown : s.vm.findClass own = some m.cls) (hclink : (Cond.classLink own index "[I").before args s = true) (hover : (Cond.arrayOver (.array .int)).before args s = true) (hK : KK D cs s) (hW : Wd D S0 ws H) (hS : va_S (SA S0) H0 H locs) (h0 : S0 ≤ H0.size)
    {n : Nat} (hn : n < 2 ^ 20) (hcells : cells + 1 ≤ R.cells) (hslots : slots + n ≤ R.slots) (hdg : decode cc pc = .ok (.anewarray index, 3))
    (kk : ∀ (q : Nat) (H1 : Heap), Wd D S0 ((q, qa cs 2 n (fun _ => none)) :: ws) H1 → va_S (SA S0) H0 H1 locs → W p l e R s m args below meth c H1 locs (cells + 1) (slots + n) Q (F0 m (pc + 3) ls (.ref q :: rest))) : W p l e R s m args below meth c H locs cells slots Q (F0 m pc ls (.int (nI n) :: rest)) := by
  have en : (nI n).toNatClampNeg = n := nI_clamp (by omega)
  refine W.anewA (t := .int) hexec hb hown hclink hover rfl hdg rfl (nI_pos (by omega)) (by rw [en]; omega) hcells (by rw [en]; exact hslots) fun cA kA comp f1 f2 f3 f4 => ?_
  rw [en]
  have e1 : cA = cs 2 := Option.some.inj (f1.symm.trans (hK.2 2 _ rfl).2)
  subst e1
  generalize hH1 : H.push ({ cls := cs 2, slots := Array.replicate n .null, vm := .none } : Cell) = H1
  have z1 : H1.size = H.size + 1 := by rw [← hH1, Array.size_push]
  have e1 : H1[H.size]? = some (arrV (cs 2) n (fun _ => .null)) := by rw [← hH1, Array.getElem?_push_size, ← arrV_new]
  have o1 : ∀ q : Nat, q < H.size → H1[q]? = H[q]? := fun q hq => by rw [← hH1, Array.getElem?_push, if_neg (Nat.ne_of_lt hq)]
  have hP1 : va_P D vwCl (ws ++ [(H.size, qa cs 2 n (fun _ => none))]) H1 := (hW.1.kept (fun k x hx => o1 x.1 ((hW.1 k x hx).lt))).app (fun k x hx => by
    have hz : k < 1 := (List.getElem?_eq_some_iff.mp hx).1
    rw [show k = 0 by omega] at hx
    cases hx
    show H1[H.size]? = some (vp_cell _ _)
    rw [vp_cell_q]
    exact e1)
  have hD1 : va_D (SA S0) (ws ++ [(H.size, qa cs 2 n (fun _ => none))]) := hW.2.1.push hW.1 rfl (Nat.le_trans h0 hS.1)
  exact kk H.size H1 (Wd.front hP1 hD1 (by rw [z1]; exact Nat.le_succ_of_le hW.2.2)) ⟨Nat.le_trans hS.1 (by omega), fun x h1 h2 => (o1 x (Nat.lt_of_lt_of_le h1 hS.1)).trans (hS.2.1 x h1 h2), hS.2.2⟩
theorem z_astA (hexec : p.tables.exec = Jvm.exec) (hb : c.code = cc) (hA : AA cs s) (hK : KK D cs s) (hW : Wd D S0 ws H) (hS : va_S (SA S0) H0 H locs) (q0 : Nat) {n k v n1 : Nat} {f : Nat → Option Nat} {g : Nat → Int32} (ha : ws[q0]? = some (a, qa cs 2 n f)) (hv : (v, fa cs n1 g) ∈ ws) (hk : k < n) (hn : n < 2 ^ 31) (hdg : decode cc pc = .ok (.aastore, 1))
    (kk : ∀ (H1 : Heap) (locs1 : List Loc), Wd D S0 (ws.set q0 (a, qa cs 2 n (va_up f k (some v)))) H1 → va_S (SA S0) H0 H1 locs1 → W p l e R s m args below meth c H1 locs1 cells slots Q (F0 m (pc + 1) ls rest)) : W p l e R s m args below meth c H locs cells slots Q (F0 m pc ls (.ref v :: .int (nI k) :: .ref a :: rest)) := by
  have ek : (nI k).toNatClampNeg = k := nI_clamp (by omega)
  obtain ⟨kA, k1, k2⟩ := hA
  have hv1 : H[v]? = some (vp_cell (cs 0) (n1, .inl g)) := hW.mem hv
  have ha1 : H[a]? = some (vp_cell (cs 2) (n, .inr (.inr (.inr (.inr f))))) := hW.1 q0 _ ha
  obtain ⟨kI, i1, -⟩ := Vm.findClass_spec (hK.2 0 _ rfl).2
  refine W.aast hexec hb ha1 (fun q h => by cases h) (fun h => by cases h) k1 k2 rfl i1 ⟨nI_pos (by omega), by show _ < (arrV _ _ _).slots.size; rw [arrV_size, ek]; exact hk⟩ hv1 (fun q h => by cases h) i1 (Vm.assignable_self _ _) rfl rfl hdg fun H1 e9 z oq => ?_
  have hset : H1[a]? = some (vp_cell (cs 2) (n, .inr (.inr (.inr (.inr (va_up f k (some v))))))) := by
    rw [e9, vp_cell_q, vp_cell_q, arrV_store, ek]
    congr 2
    funext q
    by_cases hq : q = k
    · subst hq
      simp [updV, va_up, va_rf]
    · simp [updV, va_up, hq]
  have hP1 : va_P D vwCl (ws.set q0 (a, qa cs 2 n (va_up f k (some v)))) H1 := hW.1.set hW.2.1 ha hset oq
  exact kk H1 _ ⟨hP1, hW.2.1.set ha, by rw [z]; exact hW.2.2⟩ (hS.put z oq (hW.2.1.2 q0 _ ha))
end ZY
