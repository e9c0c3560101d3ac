/-! the law from its entry -/
theorem pl8 {α : Type} (x0 x1 x2 x3 : α) (X T : List α) : ((x0 :: x1 :: x2 :: x3 :: X) ++ T).Perm (x1 :: x2 :: x3 :: ((x0 :: X) ++ T)) := by
  classical
  rw [List.perm_iff_count]
  intro x
  simp only [List.cons_append, List.nil_append, List.count_append, List.count_cons]
  ac_rfl
theorem pl9 {α : Type} (q1 q2 : α) (M G X E O : List α) : (q2 :: q1 :: (M ++ (G ++ (X ++ (E ++ O))))).Perm (q1 :: q2 :: (X ++ (E ++ (M ++ (G ++ O))))) := by
  classical
  rw [List.perm_iff_count]
  intro x
  simp only [List.cons_append, List.nil_append, List.count_append, List.count_cons]
  ac_rfl
theorem XW.mark {D : va_G} {S0 : Nat} {cs : Nat → ClassId} {a : Nat → Nat} {u : XU} {σ : St} {Y : va_W} {H : Heap} (hW : Wd D S0 (XW cs a u σ Y) H) : Wd D S0 (XW cs a (mkU u) σ Y) H := by
  have h1 : Wd D S0 ((a 1, fa cs 400 (xF u 0)) :: (a 2, fa cs 200 (xF u 1)) :: (a 3, fa cs 12 (xF u 2)) :: (((a 0, xO a u σ) :: [(a 4, LO (xm u 0) (xe u 0) σ.2.1.length), (a 5, LO (xm u 1) (xe u 1) σ.2.2.1.length), (a 6, LO (xm u 2) (xe u 2) σ.2.2.2.2.length)]) ++ (XE cs u ++ Y))) H := hW.perm (pl8 _ _ _ _ _ _)
  have h2 := Wd.cong (mk7_cg (f := xF u 0)) h1
  have h3 := Wd.cong (mk7_cg (f := xF u 1)) (h2.perm (List.Perm.swap _ _ _))
  have h4 := Wd.cong (mk7_cg (f := xF u 2)) (h3.perm (List.perm_middle (l₁ := [(a 2, fa cs 200 (mk7 200 (xF u 1))), (a 1, fa cs 400 (mk7 400 (xF u 0)))])))
  have h5 := h4.perm ((List.perm_append_comm (l₁ := [(a 3, fa cs 12 (mk7 12 (xF u 2))), (a 2, fa cs 200 (mk7 200 (xF u 1)))]) (l₂ := [(a 1, fa cs 400 (mk7 400 (xF u 0)))])).append_right _)
  have h6 := h5.perm (List.Perm.cons _ (List.Perm.swap _ _ _))
  exact h6.perm (pl8 _ _ _ _ _ _).symm
theorem MF.ofX {cs : Nat → ClassId} {a : Nat → Nat} {u : XU} {σ τ : St} {w : MU} {G O : va_W} (h : MF cs w τ (G ++ (XL cs a (mkU u) σ ++ (XE cs (mkU u) ++ O)))) : MF cs w τ (G ++ O) := h.sel (fun q hq ho => by
  rcases List.mem_append.mp hq with h1 | h1
  · exact List.mem_append_left _ h1
  · rcases List.mem_append.mp h1 with h2 | h2
    · exact absurd ho (XL_no q h2)
    · rcases List.mem_append.mp h2 with h3 | h3
      · exact absurd ho (XE_no q h3)
      · exact List.mem_append_right _ h3)
section ZN9
variable {p : Program} {l : Launch} {e : Env} {R : Room} {s : State} {m : MethodId} {args : Array Value} {below : List Frame} {meth : Method} {c : Code} {H H0 : Heap} {locs : List Loc} {cells slots : Nat} {Q : State → Prop}
variable {cc : ByteArray} {pc S0 : Nat} {ls : Array Slot} {rest : List Value} {D : va_G} {cs : Nat → ClassId} {ws : va_W}
theorem z_newJ (hexec : p.tables.exec = Jvm.exec) (hb : c.code = cc) (harr : (Cond.arrayClass .long).before args s = true) (hK : KK D cs s) (hW : Wd D S0 ws H) (hS : va_S (SA S0) H0 H locs) (h0 : S0 ≤ H0.size) (hcells : cells + 1 ≤ R.cells) (hslots : slots + 1 ≤ R.slots) (hdg : decode cc pc = .ok (.newarray .long, 2))
    (kk : ∀ (q : Nat) (H1 : Heap), Wd D S0 ((q, la cs (fun _ => 0)) :: ws) H1 → va_S (SA S0) H0 H1 locs → W p l e R s m args below meth c H1 locs (cells + 1) (slots + 1) Q (F0 m (pc + 2) ls (.ref q :: rest))) : W p l e R s m args below meth c H locs cells slots Q (F0 m pc ls (.int (nI 1) :: rest)) := by
  refine va_newaK hexec hb (atype := .long) harr rfl hdg rfl (nI_pos (by omega)) (nI_clamp (by omega)) (Nat.le_of_ble_eq_true rfl) hcells hslots (h := H.size) rfl (fun H' cA e1 e2 e3 e4 e5 => ?_)
  have hcA : cA = cs 3 := Option.some.inj (e5.symm.trans (hK.2 3 _ rfl).2)
  subst hcA
  have hk : ∀ (k : Nat) (x : Nat × va_E), ws[k]? = some x → H'[x.1]? = H[x.1]? := fun k x hx => e3 x.1 ((hW.1 k x hx).lt)
  have hP : va_P D vwCl (ws ++ [(H.size, la cs (fun _ => 0))]) H' := (hW.1.kept hk).app (z_one e1)
  have hD : va_D (SA S0) (ws ++ [(H.size, la cs (fun _ => 0))]) := hW.2.1.push hW.1 rfl hW.2.2
  exact kk H.size H' (Wd.front hP hD (by have := hW.2.2; omega)) ⟨Nat.le_trans hS.1 (by omega), fun x h1 h2 => (e3 x (Nat.lt_of_lt_of_le h1 hS.1)).trans (hS.2.1 x h1 h2), hS.2.2⟩
theorem z_newD (hexec : p.tables.exec = Jvm.exec) (hb : c.code = cc) (harr : (Cond.arrayClass .double).before args s = true) (hK : KK D cs s) (hW : Wd D S0 ws H) (hS : va_S (SA S0) H0 H locs) (h0 : S0 ≤ H0.size) (hcells : cells + 1 ≤ R.cells) (hslots : slots + 1 ≤ R.slots) (hdg : decode cc pc = .ok (.newarray .double, 2))
    (kk : ∀ (q : Nat) (H1 : Heap) (g : Nat → UInt64), Wd D S0 ((q, da cs g) :: ws) H1 → va_S (SA S0) H0 H1 locs → W p l e R s m args below meth c H1 locs (cells + 1) (slots + 1) Q (F0 m (pc + 2) ls (.ref q :: rest))) : W p l e R s m args below meth c H locs cells slots Q (F0 m pc ls (.int (nI 1) :: rest)) := by
  refine va_newaK hexec hb (atype := .double) harr rfl hdg rfl (nI_pos (by omega)) (nI_clamp (by omega)) (Nat.le_of_ble_eq_true rfl) hcells hslots (h := H.size) rfl (fun H' cA e1 e2 e3 e4 e5 => ?_)
  have hcA : cA = cs 4 := Option.some.inj (e5.symm.trans (hK.2 4 _ rfl).2)
  subst hcA
  obtain ⟨z9, hz9⟩ : ∃ z : UInt64, defaultValue (newarray.typeOf .double) = .double z := ⟨_, rfl⟩
  rw [hz9] at e1
  have hk : ∀ (k : Nat) (x : Nat × va_E), ws[k]? = some x → H'[x.1]? = H[x.1]? := fun k x hx => e3 x.1 ((hW.1 k x hx).lt)
  have hP : va_P D vwCl (ws ++ [(H.size, da cs (fun _ => z9))]) H' := (hW.1.kept hk).app (z_one e1)
  have hD : va_D (SA S0) (ws ++ [(H.size, da cs (fun _ => z9))]) := hW.2.1.push hW.1 rfl hW.2.2
  exact kk H.size H' _ (Wd.front hP hD (by have := hW.2.2; omega)) ⟨Nat.le_trans hS.1 (by omega), fun x h1 h2 => (e3 x (Nat.lt_of_lt_of_le h1 hS.1)).trans (hS.2.1 x h1 h2), hS.2.2⟩
end ZN9

set_option maxHeartbeats 4000000 in
set_option maxRecDepth 100000 in
/-- the law, from its entry -/
theorem whole_start {p : Program} {e : Env} {s : State} {m : MethodId} {below : List Frame} {meth : Method} {c : Code} (l : Launch) (hflags : l.flags = flags0) {b L : Nat} {xs : Nat → Int32} (hL : L ≤ 2048) (C0 : lw_At p s m meth c b L xs) : W p l e room_1 s m #[Value.ref b] below meth c s.heap [] 0 0 (lw_Z below #[Value.ref b] s) (entryFrame m ([Value.ref b] : List Value).toArray 9) := by
  obtain ⟨D, cs, ea, mi, sa, E0, hO⟩ := lw_env C0
  obtain ⟨hK, hE, hN, hA9⟩ := id E0
  obtain ⟨hx, hb, hr, hml, hown, hts0, hX, hbl, hlocks, hgv⟩ := id C0
  have hfl : l.stackTraces = false := by
    unfold Launch.stackTraces
    rw [hflags]
    decide +kernel
  have hb : c.code = cL_law := hb
  have hown : s.vm.findClass RL = some m.cls := hown
  have hts : ∀ w ∈ wsL_law, w.before #[Value.ref b] s = true := fun w h => hts0 w (wsL_law_in w h)
  have hRc : room_1.cells = 601024 := rfl
  have hRs : room_1.slots = 7293034 := rfl
  have hS0 : s.heap.size ≤ s.heap.size := Nat.le_refl _
  have hS : va_S (SA s.heap.size) s.heap s.heap [] := va_S.rf
  have hW : Wd D s.heap.size [] s.heap := ⟨fun k q h => by simp at h, ⟨fun i j p q h => by simp at h, fun k q h => by simp at h⟩, Nat.le_refl _⟩
  have hl := lv_entry ([.ref b]) (n := 9) (Nat.le_of_ble_eq_true rfl)
  rw [lg_entry_eq]
  generalize (lg_sl ([.ref b]) ++ List.replicate (9 - (lg_sl ([.ref b])).length) Slot.unset).toArray = ls at hl ⊢
  have hl : lv_has ls 9 [(0, .ref b)] := hl
  refine z_new (ci := 3) (fs := [.null, .int 0, .null, .null, .null, .null, .null, .null]) (C := RX2) (T := TX2) (N := 8) hx hb hts0 inX2 tyX2 tyX2_ok hown (hts (.classLink RL 8 RX2) (by decide +kernel)) (hts0 (.instantiable RX2 8) (by decide +kernel)) (hts0 (.initialized RX2) (by decide +kernel)) hK hW hS hS0 rfl (fun j hj => by rcases (show j = 0 ∨ j = 1 ∨ j = 2 ∨ j = 3 ∨ j = 4 ∨ j = 5 ∨ j = 6 ∨ j = 7 by omega) with rfl | rfl | rfl | rfl | rfl | rfl | rfl | rfl <;> rfl) (by rw [hRc]; omega) (by rw [hRs]; omega) dL_law_0 (fun q0 H hW hS => ?_)
  refine lv_dup hx hb dL_law_3 rfl ?_
  refine z_cmV (va_runI (As := []) (rest := [.ref q0]) ⟨hx, hb, hml, hown, hts⟩ (c_X2_init l D cs s.heap.size ea mi sa [] q0) (cwI 0 hts gL_law_X2_init rfl rfl rfl (hts (.initialized RX2) (by decide +kernel)) (hts (.methodLink RL 86 yX2_init) (by decide +kernel)) (hts (.instanceMethod yX2_init) (by decide +kernel)) rfl (by decide +kernel) ⟨Nat.le_of_ble_eq_true rfl, Nat.le_of_ble_eq_true rfl⟩) ⟨zE_blind, (zE_pre hW hK hE hS)⟩ rfl rfl hl.1 rfl (lv_room (Nat.le_of_ble_eq_true rfl)) dL_law_4 ⟨by rw [hRc]; omega, by rw [hRs]; omega⟩) hS (fun v H locs hu hW2 hS => ?_)
  obtain ⟨hu1, hXF⟩ := hu
  subst hu1
  have hW := XW.mark hW2
  refine lv_astore_n (lv' := [(1, .ref (v.1 0)), (0, .ref b)]) hx hb dL_law_7 rfl hl (by decide) rfl (fun ls hl => ?_)
  refine z_new (ci := 4) (fs := [.int 0, .int 0, .null, .int 0, .null, .int 0, .null, .null, .null, .null, .int 0, .null]) (C := RX3) (T := TX3) (N := 12) hx hb hts0 inX3 tyX3 tyX3_ok hown (hts (.classLink RL 87 RX3) (by decide +kernel)) (hts0 (.instantiable RX3 12) (by decide +kernel)) (hts0 (.initialized RX3) (by decide +kernel)) hK hW hS hS0 rfl (fun j hj => by rcases (show j = 0 ∨ j = 1 ∨ j = 2 ∨ j = 3 ∨ j = 4 ∨ j = 5 ∨ j = 6 ∨ j = 7 ∨ j = 8 ∨ j = 9 ∨ j = 10 ∨ j = 11 by omega) with rfl | rfl | rfl | rfl | rfl | rfl | rfl | rfl | rfl | rfl | rfl | rfl <;> rfl) (by rw [hRc]; omega) (by rw [hRs]; omega) dL_law_8 (fun q8 H hW hS => ?_)
  refine lv_dup hx hb dL_law_11 rfl ?_
  refine z_cmV (va_runI (As := []) (rest := [.ref q8]) ⟨hx, hb, hml, hown, hts⟩ (c_X3_init l D cs s.heap.size (XW cs v.1 (mkU v.2.1) st0 (v.2.2 ++ [])) q8) (cwI 0 hts gL_law_X3_init rfl rfl rfl (hts (.initialized RX3) (by decide +kernel)) (hts (.methodLink RL 89 yX3_init) (by decide +kernel)) (hts (.instanceMethod yX3_init) (by decide +kernel)) rfl (by decide +kernel) ⟨Nat.le_of_ble_eq_true rfl, Nat.le_of_ble_eq_true rfl⟩) ⟨zW_blind, (zW_pre hW hK hO)⟩ rfl rfl hl.1 rfl (lv_room (Nat.le_of_ble_eq_true rfl)) dL_law_12 ⟨by rw [hRc]; omega, by rw [hRs]; omega⟩) hS (fun v2 H locs hu hW3 hS => ?_)
  obtain ⟨hu1, hMF⟩ := hu
  subst hu1
  have hW := hW3
  refine lv_astore_n (lv' := [(2, .ref (v2.1 0)), (1, .ref (v.1 0)), (0, .ref b)]) hx hb dL_law_15 rfl hl (by decide) rfl (fun ls hl => ?_)
  refine lv_iconst (v := nI 1) hx hb dL_law_16 (by decide) ?_
  refine z_newJ hx hb (hts (.arrayClass .long) (by decide +kernel)) hK hW hS hS0 (by rw [hRc]; omega) (by rw [hRs]; omega) dL_law_17 (fun q17 H hW hS => ?_)
  refine lv_astore_n (lv' := [(3, .ref q17), (2, .ref (v2.1 0)), (1, .ref (v.1 0)), (0, .ref b)]) hx hb dL_law_19 rfl hl (by decide) rfl (fun ls hl => ?_)
  refine lv_iconst (v := nI 1) hx hb dL_law_20 (by decide) ?_
  refine z_newD hx hb (hts (.arrayClass .double) (by decide +kernel)) hK hW hS hS0 (by rw [hRc]; omega) (by rw [hRs]; omega) dL_law_21 (fun q21 H g9 hW hS => ?_)
  refine lv_astore (lv' := [(4, .ref q21), (3, .ref q17), (2, .ref (v2.1 0)), (1, .ref (v.1 0)), (0, .ref b)]) hx hb dL_law_23 hl (by decide) rfl (fun ls hl => ?_)
  refine lv_iconst (v := nI 0) hx hb dL_law_25 (by decide) ?_
  refine lv_istore (lv' := [(5, .int (nI 0)), (4, .ref q21), (3, .ref q17), (2, .ref (v2.1 0)), (1, .ref (v.1 0)), (0, .ref b)]) hx hb dL_law_26 hl (by decide) rfl (fun ls hl => ?_)
  have hW : Wd D s.heap.size (LW cs v.1 v2.1 q17 q21 (mkU v.2.1) st0 v2.2.1 0 st0 (fun _ => 0) g9 (v2.2.2 ++ (v.2.2 ++ []))) H := hW.perm (pl9 _ _ _ _ _ _ _)
  have hI : lw_I D cs s.heap.size ea v.1 v2.1 q17 q21 H := ⟨st0, mkU v.2.1, v2.2.1, 0, fun _ => 0, g9, _, hW, hXF.mk.more (fun q9 h9 => List.mem_append_right _ h9), hMF.ofX⟩
  refine W.widen (k := 40 + 6 * 0) (n := 3000 + 2007 * 0) (by omega) (by omega) ?_
  exact law_loop hfl hL C0 E0 (L + 1) 0 H locs ls (by omega) (by omega) hI hS (lv_sub hl [5, 4, 3, 2, 1, 0] rfl)
