/-! the model's public methods: the readers -/
set_option maxHeartbeats 4000000 in
set_option maxRecDepth 100000 in
theorem c_X3_versions (l : Launch) (D : va_G) (cs : Nat → ClassId) (S0 : Nat) (Z : va_W) (b : Nat → Nat) (w : MU) (sg : St) (hF : MF cs w sg Z) (th : Int32)  : Met l yX3_versions wsX3_versions ({ frames := 0, cells := 0, slots := 0, locals := 0 }) (zM [.ref (b 0)] (fun H => Wd D S0 (MW cs b w (th) sg Z) H) D cs) (va_Qi (fun r (v : MU × va_W) => ((0 : Nat) = 0 → r = nI sg.2.1.length) ∧ MF cs v.1 sg (v.2 ++ Z)) (fun v t => Wd D S0 (MW cs b v.1 (nI 0) sg (v.2 ++ Z)) t.heap) (SA S0)) 0 0 (SA S0) := by
  refine Met.ofW (cc := cX3_versions) (maxL := 1) (ret := (some .int)) (by decide) rfl ?_
  intro p e s m args below meth c s₁ B hml hv
  obtain ⟨rfl, hW, hK, hA9⟩ := hv
  have hx := B.exec
  have hb := B.bytes
  have hr := B.returns
  have hts := atoms_spec (ws := wsX3_versions) B.pre
  have hown : s.vm.findClass RX3 = some m.cls := findClass_of_methodNamed B.named
  have hlocks := B.notSynchronized
  have hRc : (headSpec wsX3_versions ({ frames := 0, cells := 0, slots := 0, locals := 0 })).room.cells = 0 := rfl
  have hRs : (headSpec wsX3_versions ({ frames := 0, cells := 0, slots := 0, locals := 0 })).room.slots = 0 := rfl
  have fl33 := hts (.fieldLink RX3 33 "DeltaUpdaterModel" "thrown" "I") (by decide +kernel)
  have fl37 := hts (.fieldLink RX3 37 "DeltaUpdaterModel" "versions" "I") (by decide +kernel)
  have in4 : ∀ w ∈ u_ws RX3 TX3 12, w ∈ wsX3_versions := by decide +kernel
  have hW : Wd D S0 (MW cs b w (th) sg Z) s.heap := hW
  have hS0 : S0 ≤ s.heap.size := hW.2.2
  have hS : va_S (SA S0) s.heap s.heap [] := va_S.rf
  have hl := lv_entry ([.ref (b 0)]) (n := 1) (Nat.le_of_ble_eq_true rfl)
  rw [lg_entry_eq]
  generalize (lg_sl ([.ref (b 0)]) ++ List.replicate (1 - (lg_sl ([.ref (b 0)])).length) Slot.unset).toArray = ls at hl ⊢
  have hl : lv_has ls 1 [(0, .ref (b 0))] := hl
  have hok := hF.2.2.2.2.2
  have hbl := hok.1.1
  have hnv := hok.2.1.1
  have hnp := hok.2.2.1.1
  have hnh := hok.2.2.2.2.1
  refine lv_aload_n hx hb dX3_versions_0 rfl (lv_at hl 0 rfl) ?_
  refine lv_iconst (v := nI 0) hx hb dX3_versions_1 (by decide) ?_
  refine z_put (ty := .int) (ci := 4) (v := .int (nI 0)) (C := RX3) (T := TX3) (N := 12) hx hb hts in4 tyX3 tyX3_ok nmX3 hown hK hW hS 0 rfl rfl 0 (by decide) fl33 (fun _ h9 => h9) rfl (by decide +kernel) rfl rfl (Nat.le_of_ble_eq_true rfl) dX3_versions_2 (fun H locs hW hS => ?_)
  have hW : Wd D S0 (((b 0), .inr (4, [.int (nI 0), .int (nI sg.1.length), .ref (b 1), .int (nI sg.2.1.length), .ref (b 2), .int (nI sg.2.2.1.length), .ref (b 3), .ref (b 4), .ref (b 5), .ref (mI w), .int (nI sg.2.2.2.2.length), .ref (b 6)])) :: ((b 1), fa cs 400 (mf w)) :: ((b 2), qa cs 2 12 (mg w 0)) :: ((b 3), qa cs 2 12 (mg w 1)) :: ((b 4), qa cs 2 12 (mg w 2)) :: ((b 5), qa cs 2 12 (mg w 3)) :: ((b 6), qa cs 2 20 (mg w 4)) :: Z) H := hW
  refine lv_aload_n hx hb dX3_versions_5 rfl (lv_at hl 0 rfl) ?_
  refine z_get (ci := 4) (v := .int (nI sg.2.1.length)) (C := RX3) (T := TX3) (N := 12) hx hb hts in4 hown hK (hW.1 0 _ rfl) rfl 3 (by decide) fl37 (fun _ h9 => h9) rfl dX3_versions_6 ?_
  refine W.widen (k := 0) (n := 0) (by omega) (by omega) ?_
  exact W.iret (v := nI sg.2.1.length) hx hb hr (fun t ht hW9 => ⟨⟨_, (w, []), rfl, ⟨fun _ => rfl, hF⟩, (by show Wd D S0 _ _; rw [ht]; exact hW)⟩, hS.F ht⟩) (fun q9 h9 => hS.2.2 q9 h9) dX3_versions_9

set_option maxHeartbeats 4000000 in
set_option maxRecDepth 100000 in
theorem c_X3_patches (l : Launch) (D : va_G) (cs : Nat → ClassId) (S0 : Nat) (Z : va_W) (b : Nat → Nat) (w : MU) (sg : St) (hF : MF cs w sg Z) (th : Int32)  : Met l yX3_patches wsX3_patches ({ frames := 0, cells := 0, slots := 0, locals := 0 }) (zM [.ref (b 0)] (fun H => Wd D S0 (MW cs b w (th) sg Z) H) D cs) (va_Qi (fun r (v : MU × va_W) => ((0 : Nat) = 0 → r = nI sg.2.2.1.length) ∧ MF cs v.1 sg (v.2 ++ Z)) (fun v t => Wd D S0 (MW cs b v.1 (nI 0) sg (v.2 ++ Z)) t.heap) (SA S0)) 0 0 (SA S0) := by
  refine Met.ofW (cc := cX3_patches) (maxL := 1) (ret := (some .int)) (by decide) rfl ?_
  intro p e s m args below meth c s₁ B hml hv
  obtain ⟨rfl, hW, hK, hA9⟩ := hv
  have hx := B.exec
  have hb := B.bytes
  have hr := B.returns
  have hts := atoms_spec (ws := wsX3_patches) B.pre
  have hown : s.vm.findClass RX3 = some m.cls := findClass_of_methodNamed B.named
  have hlocks := B.notSynchronized
  have hRc : (headSpec wsX3_patches ({ frames := 0, cells := 0, slots := 0, locals := 0 })).room.cells = 0 := rfl
  have hRs : (headSpec wsX3_patches ({ frames := 0, cells := 0, slots := 0, locals := 0 })).room.slots = 0 := rfl
  have fl33 := hts (.fieldLink RX3 33 "DeltaUpdaterModel" "thrown" "I") (by decide +kernel)
  have fl44 := hts (.fieldLink RX3 44 "DeltaUpdaterModel" "patches" "I") (by decide +kernel)
  have in4 : ∀ w ∈ u_ws RX3 TX3 12, w ∈ wsX3_patches := by decide +kernel
  have hW : Wd D S0 (MW cs b w (th) sg Z) s.heap := hW
  have hS0 : S0 ≤ s.heap.size := hW.2.2
  have hS : va_S (SA S0) s.heap s.heap [] := va_S.rf
  have hl := lv_entry ([.ref (b 0)]) (n := 1) (Nat.le_of_ble_eq_true rfl)
  rw [lg_entry_eq]
  generalize (lg_sl ([.ref (b 0)]) ++ List.replicate (1 - (lg_sl ([.ref (b 0)])).length) Slot.unset).toArray = ls at hl ⊢
  have hl : lv_has ls 1 [(0, .ref (b 0))] := hl
  have hok := hF.2.2.2.2.2
  have hbl := hok.1.1
  have hnv := hok.2.1.1
  have hnp := hok.2.2.1.1
  have hnh := hok.2.2.2.2.1
  refine lv_aload_n hx hb dX3_patches_0 rfl (lv_at hl 0 rfl) ?_
  refine lv_iconst (v := nI 0) hx hb dX3_patches_1 (by decide) ?_
  refine z_put (ty := .int) (ci := 4) (v := .int (nI 0)) (C := RX3) (T := TX3) (N := 12) hx hb hts in4 tyX3 tyX3_ok nmX3 hown hK hW hS 0 rfl rfl 0 (by decide) fl33 (fun _ h9 => h9) rfl (by decide +kernel) rfl rfl (Nat.le_of_ble_eq_true rfl) dX3_patches_2 (fun H locs hW hS => ?_)
  have hW : Wd D S0 (((b 0), .inr (4, [.int (nI 0), .int (nI sg.1.length), .ref (b 1), .int (nI sg.2.1.length), .ref (b 2), .int (nI sg.2.2.1.length), .ref (b 3), .ref (b 4), .ref (b 5), .ref (mI w), .int (nI sg.2.2.2.2.length), .ref (b 6)])) :: ((b 1), fa cs 400 (mf w)) :: ((b 2), qa cs 2 12 (mg w 0)) :: ((b 3), qa cs 2 12 (mg w 1)) :: ((b 4), qa cs 2 12 (mg w 2)) :: ((b 5), qa cs 2 12 (mg w 3)) :: ((b 6), qa cs 2 20 (mg w 4)) :: Z) H := hW
  refine lv_aload_n hx hb dX3_patches_5 rfl (lv_at hl 0 rfl) ?_
  refine z_get (ci := 4) (v := .int (nI sg.2.2.1.length)) (C := RX3) (T := TX3) (N := 12) hx hb hts in4 hown hK (hW.1 0 _ rfl) rfl 5 (by decide) fl44 (fun _ h9 => h9) rfl dX3_patches_6 ?_
  refine W.widen (k := 0) (n := 0) (by omega) (by omega) ?_
  exact W.iret (v := nI sg.2.2.1.length) hx hb hr (fun t ht hW9 => ⟨⟨_, (w, []), rfl, ⟨fun _ => rfl, hF⟩, (by show Wd D S0 _ _; rw [ht]; exact hW)⟩, hS.F ht⟩) (fun q9 h9 => hS.2.2 q9 h9) dX3_patches_9

set_option maxHeartbeats 4000000 in
set_option maxRecDepth 100000 in
theorem c_X3_installedLength (l : Launch) (D : va_G) (cs : Nat → ClassId) (S0 : Nat) (Z : va_W) (b : Nat → Nat) (w : MU) (sg : St) (hF : MF cs w sg Z) (th : Int32)  : Met l yX3_installedLength wsX3_installedLength ({ frames := 0, cells := 0, slots := 0, locals := 0 }) (zM [.ref (b 0)] (fun H => Wd D S0 (MW cs b w (th) sg Z) H) D cs) (va_Qi (fun r (v : MU × va_W) => ((0 : Nat) = 0 → r = nI sg.2.2.2.1.length) ∧ MF cs v.1 sg (v.2 ++ Z)) (fun v t => Wd D S0 (MW cs b v.1 (nI 0) sg (v.2 ++ Z)) t.heap) (SA S0)) 0 0 (SA S0) := by
  refine Met.ofW (cc := cX3_installedLength) (maxL := 1) (ret := (some .int)) (by decide) rfl ?_
  intro p e s m args below meth c s₁ B hml hv
  obtain ⟨rfl, hW, hK, hA9⟩ := hv
  have hx := B.exec
  have hb := B.bytes
  have hr := B.returns
  have hts := atoms_spec (ws := wsX3_installedLength) B.pre
  have hown : s.vm.findClass RX3 = some m.cls := findClass_of_methodNamed B.named
  have hlocks := B.notSynchronized
  have hRc : (headSpec wsX3_installedLength ({ frames := 0, cells := 0, slots := 0, locals := 0 })).room.cells = 0 := rfl
  have hRs : (headSpec wsX3_installedLength ({ frames := 0, cells := 0, slots := 0, locals := 0 })).room.slots = 0 := rfl
  have fl27 := hts (.fieldLink RX3 27 "DeltaUpdaterModel" "installed" "[I") (by decide +kernel)
  have fl33 := hts (.fieldLink RX3 33 "DeltaUpdaterModel" "thrown" "I") (by decide +kernel)
  have in4 : ∀ w ∈ u_ws RX3 TX3 12, w ∈ wsX3_installedLength := by decide +kernel
  have hW : Wd D S0 (MW cs b w (th) sg Z) s.heap := hW
  have hS0 : S0 ≤ s.heap.size := hW.2.2
  have hS : va_S (SA S0) s.heap s.heap [] := va_S.rf
  have hl := lv_entry ([.ref (b 0)]) (n := 1) (Nat.le_of_ble_eq_true rfl)
  rw [lg_entry_eq]
  generalize (lg_sl ([.ref (b 0)]) ++ List.replicate (1 - (lg_sl ([.ref (b 0)])).length) Slot.unset).toArray = ls at hl ⊢
  have hl : lv_has ls 1 [(0, .ref (b 0))] := hl
  have hok := hF.2.2.2.2.2
  have hbl := hok.1.1
  have hnv := hok.2.1.1
  have hnp := hok.2.2.1.1
  have hnh := hok.2.2.2.2.1
  refine lv_aload_n hx hb dX3_installedLength_0 rfl (lv_at hl 0 rfl) ?_
  refine lv_iconst (v := nI 0) hx hb dX3_installedLength_1 (by decide) ?_
  refine z_put (ty := .int) (ci := 4) (v := .int (nI 0)) (C := RX3) (T := TX3) (N := 12) hx hb hts in4 tyX3 tyX3_ok nmX3 hown hK hW hS 0 rfl rfl 0 (by decide) fl33 (fun _ h9 => h9) rfl (by decide +kernel) rfl rfl (Nat.le_of_ble_eq_true rfl) dX3_installedLength_2 (fun H locs hW hS => ?_)
  have hW : Wd D S0 (((b 0), .inr (4, [.int (nI 0), .int (nI sg.1.length), .ref (b 1), .int (nI sg.2.1.length), .ref (b 2), .int (nI sg.2.2.1.length), .ref (b 3), .ref (b 4), .ref (b 5), .ref (mI w), .int (nI sg.2.2.2.2.length), .ref (b 6)])) :: ((b 1), fa cs 400 (mf w)) :: ((b 2), qa cs 2 12 (mg w 0)) :: ((b 3), qa cs 2 12 (mg w 1)) :: ((b 4), qa cs 2 12 (mg w 2)) :: ((b 5), qa cs 2 12 (mg w 3)) :: ((b 6), qa cs 2 20 (mg w 4)) :: Z) H := hW
  refine lv_aload_n hx hb dX3_installedLength_5 rfl (lv_at hl 0 rfl) ?_
  refine z_get (ci := 4) (v := .ref (mI w)) (C := RX3) (T := TX3) (N := 12) hx hb hts in4 hown hK (hW.1 0 _ rfl) rfl 9 (by decide) fl27 (fun _ h9 => h9) rfl dX3_installedLength_6 ?_
  refine z_alen (n := sg.2.2.2.1.length) hx hb hK (hW.mem (List.mem_cons_of_mem _ (List.mem_cons_of_mem _ (List.mem_cons_of_mem _ (List.mem_cons_of_mem _ (List.mem_cons_of_mem _ (List.mem_cons_of_mem _ (List.mem_cons_of_mem _ hF.2.2.2.1)))))))) dX3_installedLength_9 ?_
  refine W.widen (k := 0) (n := 0) (by omega) (by omega) ?_
  exact W.iret (v := nI sg.2.2.2.1.length) hx hb hr (fun t ht hW9 => ⟨⟨_, (w, []), rfl, ⟨fun _ => rfl, hF⟩, (by show Wd D S0 _ _; rw [ht]; exact hW)⟩, hS.F ht⟩) (fun q9 h9 => hS.2.2 q9 h9) dX3_installedLength_10

set_option maxHeartbeats 4000000 in
set_option maxRecDepth 100000 in
theorem c_X3_length_a (l : Launch) (D : va_G) (cs : Nat → ClassId) (S0 : Nat) (Z : va_W) (b : Nat → Nat) (w : MU) (sg : St) (hF : MF cs w sg Z) (th : Int32) (v : Int32) (hv : vI v sg.2.1.length = false)  : Met l yX3_length wsX3_length ({ frames := 2, cells := 0, slots := 0, locals := 43 }) (zM [.ref (b 0), .int v] (fun H => Wd D S0 (MW cs b w (th) sg Z) H) D cs) (va_Qi (fun r (v : MU × va_W) => ((1 : Nat) = 0 → r = nI 0) ∧ MF cs v.1 sg (v.2 ++ Z)) (fun v t => Wd D S0 (MW cs b v.1 (nI 1) sg (v.2 ++ Z)) t.heap) (SA S0)) 0 0 (SA S0) := by
  refine Met.ofW (cc := cX3_length) (maxL := 2) (ret := (some .int)) (by decide) rfl ?_
  intro p e s m args below meth c s₁ B hml hv
  obtain ⟨rfl, hW, hK, hA9⟩ := hv
  have hx := B.exec
  have hb := B.bytes
  have hr := B.returns
  have hts := atoms_spec (ws := wsX3_length) B.pre
  have hown : s.vm.findClass RX3 = some m.cls := findClass_of_methodNamed B.named
  have hlocks := B.notSynchronized
  have hRc : (headSpec wsX3_length ({ frames := 2, cells := 0, slots := 0, locals := 43 })).room.cells = 0 := rfl
  have hRs : (headSpec wsX3_length ({ frames := 2, cells := 0, slots := 0, locals := 43 })).room.slots = 0 := rfl
  have fl33 := hts (.fieldLink RX3 33 "DeltaUpdaterModel" "thrown" "I") (by decide +kernel)
  have in4 : ∀ w ∈ u_ws RX3 TX3 12, w ∈ wsX3_length := by decide +kernel
  have hW : Wd D S0 (MW cs b w (th) sg Z) s.heap := hW
  have hS0 : S0 ≤ s.heap.size := hW.2.2
  have hS : va_S (SA S0) s.heap s.heap [] := va_S.rf
  have hl := lv_entry ([.ref (b 0), .int v]) (n := 2) (Nat.le_of_ble_eq_true rfl)
  rw [lg_entry_eq]
  generalize (lg_sl ([.ref (b 0), .int v]) ++ List.replicate (2 - (lg_sl ([.ref (b 0), .int v])).length) Slot.unset).toArray = ls at hl ⊢
  have hl : lv_has ls 2 [(0, .ref (b 0)), (1, .int v)] := hl
  have hok := hF.2.2.2.2.2
  have hbl := hok.1.1
  have hnv := hok.2.1.1
  have hnp := hok.2.2.1.1
  have hnh := hok.2.2.2.2.1
  refine lv_aload_n hx hb dX3_length_0 rfl (lv_at hl 0 rfl) ?_
  refine lv_iconst (v := nI 0) hx hb dX3_length_1 (by decide) ?_
  refine z_put (ty := .int) (ci := 4) (v := .int (nI 0)) (C := RX3) (T := TX3) (N := 12) hx hb hts in4 tyX3 tyX3_ok nmX3 hown hK hW hS 0 rfl rfl 0 (by decide) fl33 (fun _ h9 => h9) rfl (by decide +kernel) rfl rfl (Nat.le_of_ble_eq_true rfl) dX3_length_2 (fun H locs hW hS => ?_)
  have hW : Wd D S0 (((b 0), .inr (4, [.int (nI 0), .int (nI sg.1.length), .ref (b 1), .int (nI sg.2.1.length), .ref (b 2), .int (nI sg.2.2.1.length), .ref (b 3), .ref (b 4), .ref (b 5), .ref (mI w), .int (nI sg.2.2.2.2.length), .ref (b 6)])) :: ((b 1), fa cs 400 (mf w)) :: ((b 2), qa cs 2 12 (mg w 0)) :: ((b 3), qa cs 2 12 (mg w 1)) :: ((b 4), qa cs 2 12 (mg w 2)) :: ((b 5), qa cs 2 12 (mg w 3)) :: ((b 6), qa cs 2 20 (mg w 4)) :: Z) H := hW
  refine lv_aload_n hx hb dX3_length_5 rfl (lv_at hl 0 rfl) ?_
  refine lv_iload_n hx hb dX3_length_6 rfl (lv_at hl 1 rfl) ?_
  refine z_csV (As := [.int v]) (rest := []) ⟨hx, hb, hml, hown, hts⟩ (c_X3_isVersion l D cs (b 0) [.int (nI 0), .int (nI sg.1.length), .ref (b 1), .int (nI sg.2.1.length), .ref (b 2), .int (nI sg.2.2.1.length), .ref (b 3), .ref (b 4), .ref (b 5), .ref (mI w), .int (nI sg.2.2.2.2.length), .ref (b 6)] v sg.2.1.length rfl) (cwV 1 hts gX3_length_X3_isVersion rfl rfl rfl (by decide +kernel) ⟨Nat.le_of_ble_eq_true rfl, Nat.le_of_ble_eq_true rfl⟩) (hW.1 0 _ rfl) rfl (hW.1 0 _ rfl) hK rfl hl.1 rfl (Nat.le_of_ble_eq_true rfl) dX3_length_7 ⟨(by rw [hRc]; omega), (by rw [hRs]; omega)⟩ (fun r hq9 => ?_)
  have hq9 : r = bI (vI v sg.2.1.length) := hq9
  subst hq9
  refine z_ifb_eq (tgt := 23) hx hb dX3_length_10 (by decide) (fun _ => ?_) (fun h9 => absurd (h9.symm.trans hv) (by decide))
  refine lv_aload_n hx hb dX3_length_23 rfl (lv_at hl 0 rfl) ?_
  refine lv_iconst (v := nI 1) hx hb dX3_length_24 (by decide) ?_
  refine z_cmI (va_runV (As := [.int (nI 1)]) (rest := []) ⟨hx, hb, hml, hown, hts⟩ (c_X3_fail l D cs S0 Z b w (nI 0) (nI 1) sg) (cwV 1 hts gX3_length_X3_fail rfl rfl rfl (by decide +kernel) ⟨Nat.le_of_ble_eq_true rfl, Nat.le_of_ble_eq_true rfl⟩) ⟨zP_blind, z_recv hK (hW.1 0 _ rfl) rfl, (zP_pre hW hK)⟩ rfl rfl hl.1 rfl (lv_room (Nat.le_of_ble_eq_true rfl)) dX3_length_25 ⟨(by rw [hRc]; omega), (by rw [hRs]; omega)⟩) hS (fun r u8 H locs hu hW hS => ?_)
  rw [hu]
  have hW : Wd D S0 (((b 0), .inr (4, [.int (nI 1), .int (nI sg.1.length), .ref (b 1), .int (nI sg.2.1.length), .ref (b 2), .int (nI sg.2.2.1.length), .ref (b 3), .ref (b 4), .ref (b 5), .ref (mI w), .int (nI sg.2.2.2.2.length), .ref (b 6)])) :: ((b 1), fa cs 400 (mf w)) :: ((b 2), qa cs 2 12 (mg w 0)) :: ((b 3), qa cs 2 12 (mg w 1)) :: ((b 4), qa cs 2 12 (mg w 2)) :: ((b 5), qa cs 2 12 (mg w 3)) :: ((b 6), qa cs 2 20 (mg w 4)) :: Z) H := hW
  refine W.widen (k := 0) (n := 0) (by omega) (by omega) ?_
  exact W.iret (v := nI 0) hx hb hr (fun t ht hW9 => ⟨⟨_, (w, []), rfl, ⟨fun h9 => absurd h9 (by decide), hF⟩, (by show Wd D S0 _ _; rw [ht]; exact hW)⟩, hS.F ht⟩) (fun q9 h9 => hS.2.2 q9 h9) dX3_length_28

set_option maxHeartbeats 4000000 in
set_option maxRecDepth 100000 in
theorem c_X3_length (l : Launch) (D : va_G) (cs : Nat → ClassId) (S0 : Nat) (Z : va_W) (b : Nat → Nat) (w : MU) (sg : St) (hF : MF cs w sg Z) (th : Int32) (v9 : Nat) (hv9 : v9 < sg.2.1.length)  : Met l yX3_length wsX3_length ({ frames := 2, cells := 0, slots := 0, locals := 43 }) (zM [.ref (b 0), .int (nI v9)] (fun H => Wd D S0 (MW cs b w (th) sg Z) H) D cs) (va_Qi (fun r (v : MU × va_W) => ((0 : Nat) = 0 → r = nI (vsN sg.2.1 v9).length) ∧ MF cs v.1 sg (v.2 ++ Z)) (fun v t => Wd D S0 (MW cs b v.1 (nI 0) sg (v.2 ++ Z)) t.heap) (SA S0)) 0 0 (SA S0) := by
  refine Met.ofW (cc := cX3_length) (maxL := 2) (ret := (some .int)) (by decide) rfl ?_
  intro p e s m args below meth c s₁ B hml hv
  obtain ⟨rfl, hW, hK, hA9⟩ := hv
  have hx := B.exec
  have hb := B.bytes
  have hr := B.returns
  have hts := atoms_spec (ws := wsX3_length) B.pre
  have hown : s.vm.findClass RX3 = some m.cls := findClass_of_methodNamed B.named
  have hlocks := B.notSynchronized
  have hRc : (headSpec wsX3_length ({ frames := 2, cells := 0, slots := 0, locals := 43 })).room.cells = 0 := rfl
  have hRs : (headSpec wsX3_length ({ frames := 2, cells := 0, slots := 0, locals := 43 })).room.slots = 0 := rfl
  have fl14 := hts (.fieldLink RX3 14 "DeltaUpdaterModel" "rows" "[[I") (by decide +kernel)
  have fl33 := hts (.fieldLink RX3 33 "DeltaUpdaterModel" "thrown" "I") (by decide +kernel)
  have in4 : ∀ w ∈ u_ws RX3 TX3 12, w ∈ wsX3_length := by decide +kernel
  have hW : Wd D S0 (MW cs b w (th) sg Z) s.heap := hW
  have hS0 : S0 ≤ s.heap.size := hW.2.2
  have hS : va_S (SA S0) s.heap s.heap [] := va_S.rf
  have hl := lv_entry ([.ref (b 0), .int (nI v9)]) (n := 2) (Nat.le_of_ble_eq_true rfl)
  rw [lg_entry_eq]
  generalize (lg_sl ([.ref (b 0), .int (nI v9)]) ++ List.replicate (2 - (lg_sl ([.ref (b 0), .int (nI v9)])).length) Slot.unset).toArray = ls at hl ⊢
  have hl : lv_has ls 2 [(0, .ref (b 0)), (1, .int (nI v9))] := hl
  have hok := hF.2.2.2.2.2
  have hbl := hok.1.1
  have hnv := hok.2.1.1
  have hnp := hok.2.2.1.1
  have hnh := hok.2.2.2.2.1
  have hvi := vI_in hv9 (show sg.2.1.length < 2 ^ 30 by omega)
  refine lv_aload_n hx hb dX3_length_0 rfl (lv_at hl 0 rfl) ?_
  refine lv_iconst (v := nI 0) hx hb dX3_length_1 (by decide) ?_
  refine z_put (ty := .int) (ci := 4) (v := .int (nI 0)) (C := RX3) (T := TX3) (N := 12) hx hb hts in4 tyX3 tyX3_ok nmX3 hown hK hW hS 0 rfl rfl 0 (by decide) fl33 (fun _ h9 => h9) rfl (by decide +kernel) rfl rfl (Nat.le_of_ble_eq_true rfl) dX3_length_2 (fun H locs hW hS => ?_)
  have hW : Wd D S0 (((b 0), .inr (4, [.int (nI 0), .int (nI sg.1.length), .ref (b 1), .int (nI sg.2.1.length), .ref (b 2), .int (nI sg.2.2.1.length), .ref (b 3), .ref (b 4), .ref (b 5), .ref (mI w), .int (nI sg.2.2.2.2.length), .ref (b 6)])) :: ((b 1), fa cs 400 (mf w)) :: ((b 2), qa cs 2 12 (mg w 0)) :: ((b 3), qa cs 2 12 (mg w 1)) :: ((b 4), qa cs 2 12 (mg w 2)) :: ((b 5), qa cs 2 12 (mg w 3)) :: ((b 6), qa cs 2 20 (mg w 4)) :: Z) H := hW
  refine lv_aload_n hx hb dX3_length_5 rfl (lv_at hl 0 rfl) ?_
  refine lv_iload_n hx hb dX3_length_6 rfl (lv_at hl 1 rfl) ?_
  refine z_csV (As := [.int (nI v9)]) (rest := []) ⟨hx, hb, hml, hown, hts⟩ (c_X3_isVersion l D cs (b 0) [.int (nI 0), .int (nI sg.1.length), .ref (b 1), .int (nI sg.2.1.length), .ref (b 2), .int (nI sg.2.2.1.length), .ref (b 3), .ref (b 4), .ref (b 5), .ref (mI w), .int (nI sg.2.2.2.2.length), .ref (b 6)] (nI v9) sg.2.1.length rfl) (cwV 1 hts gX3_length_X3_isVersion rfl rfl rfl (by decide +kernel) ⟨Nat.le_of_ble_eq_true rfl, Nat.le_of_ble_eq_true rfl⟩) (hW.1 0 _ rfl) rfl (hW.1 0 _ rfl) hK rfl hl.1 rfl (Nat.le_of_ble_eq_true rfl) dX3_length_7 ⟨(by rw [hRc]; omega), (by rw [hRs]; omega)⟩ (fun r hq9 => ?_)
  have hq9 : r = bI (vI (nI v9) sg.2.1.length) := hq9
  subst hq9
  refine z_ifb_eq (tgt := 23) hx hb dX3_length_10 (by decide) (fun h9 => absurd (h9.symm.trans hvi) (by decide)) (fun _ => ?_)
  refine lv_aload_n hx hb dX3_length_13 rfl (lv_at hl 0 rfl) ?_
  refine z_get (ci := 4) (v := .ref (b 2)) (C := RX3) (T := TX3) (N := 12) hx hb hts in4 hown hK (hW.1 0 _ rfl) rfl 4 (by decide) fl14 (fun _ h9 => h9) rfl dX3_length_14 ?_
  refine lv_iload_n hx hb dX3_length_17 rfl (lv_at hl 1 rfl) ?_
  refine z_aald (k := v9) (y := (mA w 0 v9)) (t0 := 2) hx hb hK (hW.1 2 _ rfl) rfl rfl (by omega) (by omega) (hF.2.1 v9 hv9).1 dX3_length_18 ?_
  refine z_alen (n := ((vsN sg.2.1 v9).length)) hx hb hK (hW.mem (List.mem_cons_of_mem _ (List.mem_cons_of_mem _ (List.mem_cons_of_mem _ (List.mem_cons_of_mem _ (List.mem_cons_of_mem _ (List.mem_cons_of_mem _ (List.mem_cons_of_mem _ (hF.2.1 v9 hv9).2)))))))) dX3_length_19 ?_
  refine lv_goto (tgt := 28) hx hb dX3_length_20 (by decide) ?_
  refine W.widen (k := 0) (n := 0) (by omega) (by omega) ?_
  exact W.iret (v := nI ((vsN sg.2.1 v9).length)) hx hb hr (fun t ht hW9 => ⟨⟨_, (w, []), rfl, ⟨fun _ => rfl, hF⟩, (by show Wd D S0 _ _; rw [ht]; exact hW)⟩, hS.F ht⟩) (fun q9 h9 => hS.2.2 q9 h9) dX3_length_28

set_option maxHeartbeats 4000000 in
set_option maxRecDepth 100000 in
theorem c_X3_byteAt_a (l : Launch) (D : va_G) (cs : Nat → ClassId) (S0 : Nat) (Z : va_W) (b : Nat → Nat) (w : MU) (sg : St) (hF : MF cs w sg Z) (th : Int32) (v : Int32) (hv : vI v sg.2.1.length = false) (w9i : Int32)  : Met l yX3_byteAt wsX3_byteAt ({ frames := 2, cells := 0, slots := 0, locals := 43 }) (zM [.ref (b 0), .int v, .int w9i] (fun H => Wd D S0 (MW cs b w (th) sg Z) H) D cs) (va_Qi (fun r (v : MU × va_W) => ((1 : Nat) = 0 → r = nI 0) ∧ MF cs v.1 sg (v.2 ++ Z)) (fun v t => Wd D S0 (MW cs b v.1 (nI 1) sg (v.2 ++ Z)) t.heap) (SA S0)) 0 0 (SA S0) := by
  refine Met.ofW (cc := cX3_byteAt) (maxL := 3) (ret := (some .int)) (by decide) rfl ?_
  intro p e s m args below meth c s₁ B hml hv
  obtain ⟨rfl, hW, hK, hA9⟩ := hv
  have hx := B.exec
  have hb := B.bytes
  have hr := B.returns
  have hts := atoms_spec (ws := wsX3_byteAt) B.pre
  have hown : s.vm.findClass RX3 = some m.cls := findClass_of_methodNamed B.named
  have hlocks := B.notSynchronized
  have hRc : (headSpec wsX3_byteAt ({ frames := 2, cells := 0, slots := 0, locals := 43 })).room.cells = 0 := rfl
  have hRs : (headSpec wsX3_byteAt ({ frames := 2, cells := 0, slots := 0, locals := 43 })).room.slots = 0 := rfl
  have fl33 := hts (.fieldLink RX3 33 "DeltaUpdaterModel" "thrown" "I") (by decide +kernel)
  have in4 : ∀ w ∈ u_ws RX3 TX3 12, w ∈ wsX3_byteAt := by decide +kernel
  have hW : Wd D S0 (MW cs b w (th) sg Z) s.heap := hW
  have hS0 : S0 ≤ s.heap.size := hW.2.2
  have hS : va_S (SA S0) s.heap s.heap [] := va_S.rf
  have hl := lv_entry ([.ref (b 0), .int v, .int w9i]) (n := 3) (Nat.le_of_ble_eq_true rfl)
  rw [lg_entry_eq]
  generalize (lg_sl ([.ref (b 0), .int v, .int w9i]) ++ List.replicate (3 - (lg_sl ([.ref (b 0), .int v, .int w9i])).length) Slot.unset).toArray = ls at hl ⊢
  have hl : lv_has ls 3 [(0, .ref (b 0)), (1, .int v), (2, .int w9i)] := hl
  have hok := hF.2.2.2.2.2
  have hbl := hok.1.1
  have hnv := hok.2.1.1
  have hnp := hok.2.2.1.1
  have hnh := hok.2.2.2.2.1
  refine lv_aload_n hx hb dX3_byteAt_0 rfl (lv_at hl 0 rfl) ?_
  refine lv_iconst (v := nI 0) hx hb dX3_byteAt_1 (by decide) ?_
  refine z_put (ty := .int) (ci := 4) (v := .int (nI 0)) (C := RX3) (T := TX3) (N := 12) hx hb hts in4 tyX3 tyX3_ok nmX3 hown hK hW hS 0 rfl rfl 0 (by decide) fl33 (fun _ h9 => h9) rfl (by decide +kernel) rfl rfl (Nat.le_of_ble_eq_true rfl) dX3_byteAt_2 (fun H locs hW hS => ?_)
  have hW : Wd D S0 (((b 0), .inr (4, [.int (nI 0), .int (nI sg.1.length), .ref (b 1), .int (nI sg.2.1.length), .ref (b 2), .int (nI sg.2.2.1.length), .ref (b 3), .ref (b 4), .ref (b 5), .ref (mI w), .int (nI sg.2.2.2.2.length), .ref (b 6)])) :: ((b 1), fa cs 400 (mf w)) :: ((b 2), qa cs 2 12 (mg w 0)) :: ((b 3), qa cs 2 12 (mg w 1)) :: ((b 4), qa cs 2 12 (mg w 2)) :: ((b 5), qa cs 2 12 (mg w 3)) :: ((b 6), qa cs 2 20 (mg w 4)) :: Z) H := hW
  refine lv_aload_n hx hb dX3_byteAt_5 rfl (lv_at hl 0 rfl) ?_
  refine lv_iload_n hx hb dX3_byteAt_6 rfl (lv_at hl 1 rfl) ?_
  refine z_csV (As := [.int v]) (rest := []) ⟨hx, hb, hml, hown, hts⟩ (c_X3_isVersion l D cs (b 0) [.int (nI 0), .int (nI sg.1.length), .ref (b 1), .int (nI sg.2.1.length), .ref (b 2), .int (nI sg.2.2.1.length), .ref (b 3), .ref (b 4), .ref (b 5), .ref (mI w), .int (nI sg.2.2.2.2.length), .ref (b 6)] v sg.2.1.length rfl) (cwV 1 hts gX3_byteAt_X3_isVersion rfl rfl rfl (by decide +kernel) ⟨Nat.le_of_ble_eq_true rfl, Nat.le_of_ble_eq_true rfl⟩) (hW.1 0 _ rfl) rfl (hW.1 0 _ rfl) hK rfl hl.1 rfl (Nat.le_of_ble_eq_true rfl) dX3_byteAt_7 ⟨(by rw [hRc]; omega), (by rw [hRs]; omega)⟩ (fun r hq9 => ?_)
  have hq9 : r = bI (vI v sg.2.1.length) := hq9
  subst hq9
  refine z_ifb_eq (tgt := 41) hx hb dX3_byteAt_10 (by decide) (fun _ => ?_) (fun h9 => absurd (h9.symm.trans hv) (by decide))
  refine lv_aload_n hx hb dX3_byteAt_41 rfl (lv_at hl 0 rfl) ?_
  refine lv_iconst (v := nI 1) hx hb dX3_byteAt_42 (by decide) ?_
  refine z_cmI (va_runV (As := [.int (nI 1)]) (rest := []) ⟨hx, hb, hml, hown, hts⟩ (c_X3_fail l D cs S0 Z b w (nI 0) (nI 1) sg) (cwV 1 hts gX3_byteAt_X3_fail rfl rfl rfl (by decide +kernel) ⟨Nat.le_of_ble_eq_true rfl, Nat.le_of_ble_eq_true rfl⟩) ⟨zP_blind, z_recv hK (hW.1 0 _ rfl) rfl, (zP_pre hW hK)⟩ rfl rfl hl.1 rfl (lv_room (Nat.le_of_ble_eq_true rfl)) dX3_byteAt_43 ⟨(by rw [hRc]; omega), (by rw [hRs]; omega)⟩) hS (fun r u8 H locs hu hW hS => ?_)
  rw [hu]
  have hW : Wd D S0 (((b 0), .inr (4, [.int (nI 1), .int (nI sg.1.length), .ref (b 1), .int (nI sg.2.1.length), .ref (b 2), .int (nI sg.2.2.1.length), .ref (b 3), .ref (b 4), .ref (b 5), .ref (mI w), .int (nI sg.2.2.2.2.length), .ref (b 6)])) :: ((b 1), fa cs 400 (mf w)) :: ((b 2), qa cs 2 12 (mg w 0)) :: ((b 3), qa cs 2 12 (mg w 1)) :: ((b 4), qa cs 2 12 (mg w 2)) :: ((b 5), qa cs 2 12 (mg w 3)) :: ((b 6), qa cs 2 20 (mg w 4)) :: Z) H := hW
  refine W.widen (k := 0) (n := 0) (by omega) (by omega) ?_
  exact W.iret (v := nI 0) hx hb hr (fun t ht hW9 => ⟨⟨_, (w, []), rfl, ⟨fun h9 => absurd h9 (by decide), hF⟩, (by show Wd D S0 _ _; rw [ht]; exact hW)⟩, hS.F ht⟩) (fun q9 h9 => hS.2.2 q9 h9) dX3_byteAt_46

set_option maxHeartbeats 4000000 in
set_option maxRecDepth 100000 in
theorem c_X3_byteAt_b (l : Launch) (D : va_G) (cs : Nat → ClassId) (S0 : Nat) (Z : va_W) (b : Nat → Nat) (w : MU) (sg : St) (hF : MF cs w sg Z) (th : Int32) (v9 : Nat) (hv9 : v9 < sg.2.1.length) (z : Int32) (hz : inB z (nI 0) (nI (vsN sg.2.1 v9).length - nI 1) = false)  : Met l yX3_byteAt wsX3_byteAt ({ frames := 2, cells := 0, slots := 0, locals := 43 }) (zM [.ref (b 0), .int (nI v9), .int z] (fun H => Wd D S0 (MW cs b w (th) sg Z) H) D cs) (va_Qi (fun r (v : MU × va_W) => ((1 : Nat) = 0 → r = nI 0) ∧ MF cs v.1 sg (v.2 ++ Z)) (fun v t => Wd D S0 (MW cs b v.1 (nI 1) sg (v.2 ++ Z)) t.heap) (SA S0)) 0 0 (SA S0) := by
  refine Met.ofW (cc := cX3_byteAt) (maxL := 3) (ret := (some .int)) (by decide) rfl ?_
  intro p e s m args below meth c s₁ B hml hv
  obtain ⟨rfl, hW, hK, hA9⟩ := hv
  have hx := B.exec
  have hb := B.bytes
  have hr := B.returns
  have hts := atoms_spec (ws := wsX3_byteAt) B.pre
  have hown : s.vm.findClass RX3 = some m.cls := findClass_of_methodNamed B.named
  have hlocks := B.notSynchronized
  have hRc : (headSpec wsX3_byteAt ({ frames := 2, cells := 0, slots := 0, locals := 43 })).room.cells = 0 := rfl
  have hRs : (headSpec wsX3_byteAt ({ frames := 2, cells := 0, slots := 0, locals := 43 })).room.slots = 0 := rfl
  have fl14 := hts (.fieldLink RX3 14 "DeltaUpdaterModel" "rows" "[[I") (by decide +kernel)
  have fl33 := hts (.fieldLink RX3 33 "DeltaUpdaterModel" "thrown" "I") (by decide +kernel)
  have in4 : ∀ w ∈ u_ws RX3 TX3 12, w ∈ wsX3_byteAt := by decide +kernel
  have hW : Wd D S0 (MW cs b w (th) sg Z) s.heap := hW
  have hS0 : S0 ≤ s.heap.size := hW.2.2
  have hS : va_S (SA S0) s.heap s.heap [] := va_S.rf
  have hl := lv_entry ([.ref (b 0), .int (nI v9), .int z]) (n := 3) (Nat.le_of_ble_eq_true rfl)
  rw [lg_entry_eq]
  generalize (lg_sl ([.ref (b 0), .int (nI v9), .int z]) ++ List.replicate (3 - (lg_sl ([.ref (b 0), .int (nI v9), .int z])).length) Slot.unset).toArray = ls at hl ⊢
  have hl : lv_has ls 3 [(0, .ref (b 0)), (1, .int (nI v9)), (2, .int z)] := hl
  have hok := hF.2.2.2.2.2
  have hbl := hok.1.1
  have hnv := hok.2.1.1
  have hnp := hok.2.2.1.1
  have hnh := hok.2.2.2.2.1
  have hvi := vI_in hv9 (show sg.2.1.length < 2 ^ 30 by omega)
  refine lv_aload_n hx hb dX3_byteAt_0 rfl (lv_at hl 0 rfl) ?_
  refine lv_iconst (v := nI 0) hx hb dX3_byteAt_1 (by decide) ?_
  refine z_put (ty := .int) (ci := 4) (v := .int (nI 0)) (C := RX3) (T := TX3) (N := 12) hx hb hts in4 tyX3 tyX3_ok nmX3 hown hK hW hS 0 rfl rfl 0 (by decide) fl33 (fun _ h9 => h9) rfl (by decide +kernel) rfl rfl (Nat.le_of_ble_eq_true rfl) dX3_byteAt_2 (fun H locs hW hS => ?_)
  have hW : Wd D S0 (((b 0), .inr (4, [.int (nI 0), .int (nI sg.1.length), .ref (b 1), .int (nI sg.2.1.length), .ref (b 2), .int (nI sg.2.2.1.length), .ref (b 3), .ref (b 4), .ref (b 5), .ref (mI w), .int (nI sg.2.2.2.2.length), .ref (b 6)])) :: ((b 1), fa cs 400 (mf w)) :: ((b 2), qa cs 2 12 (mg w 0)) :: ((b 3), qa cs 2 12 (mg w 1)) :: ((b 4), qa cs 2 12 (mg w 2)) :: ((b 5), qa cs 2 12 (mg w 3)) :: ((b 6), qa cs 2 20 (mg w 4)) :: Z) H := hW
  refine lv_aload_n hx hb dX3_byteAt_5 rfl (lv_at hl 0 rfl) ?_
  refine lv_iload_n hx hb dX3_byteAt_6 rfl (lv_at hl 1 rfl) ?_
  refine z_csV (As := [.int (nI v9)]) (rest := []) ⟨hx, hb, hml, hown, hts⟩ (c_X3_isVersion l D cs (b 0) [.int (nI 0), .int (nI sg.1.length), .ref (b 1), .int (nI sg.2.1.length), .ref (b 2), .int (nI sg.2.2.1.length), .ref (b 3), .ref (b 4), .ref (b 5), .ref (mI w), .int (nI sg.2.2.2.2.length), .ref (b 6)] (nI v9) sg.2.1.length rfl) (cwV 1 hts gX3_byteAt_X3_isVersion rfl rfl rfl (by decide +kernel) ⟨Nat.le_of_ble_eq_true rfl, Nat.le_of_ble_eq_true rfl⟩) (hW.1 0 _ rfl) rfl (hW.1 0 _ rfl) hK rfl hl.1 rfl (Nat.le_of_ble_eq_true rfl) dX3_byteAt_7 ⟨(by rw [hRc]; omega), (by rw [hRs]; omega)⟩ (fun r hq9 => ?_)
  have hq9 : r = bI (vI (nI v9) sg.2.1.length) := hq9
  subst hq9
  refine z_ifb_eq (tgt := 41) hx hb dX3_byteAt_10 (by decide) (fun h9 => absurd (h9.symm.trans hvi) (by decide)) (fun _ => ?_)
  refine lv_iload_n hx hb dX3_byteAt_13 rfl (lv_at hl 2 rfl) ?_
  refine lv_iconst (v := nI 0) hx hb dX3_byteAt_14 (by decide) ?_
  refine lv_aload_n hx hb dX3_byteAt_15 rfl (lv_at hl 0 rfl) ?_
  refine z_get (ci := 4) (v := .ref (b 2)) (C := RX3) (T := TX3) (N := 12) hx hb hts in4 hown hK (hW.1 0 _ rfl) rfl 4 (by decide) fl14 (fun _ h9 => h9) rfl dX3_byteAt_16 ?_
  refine lv_iload_n hx hb dX3_byteAt_19 rfl (lv_at hl 1 rfl) ?_
  refine z_aald (k := v9) (y := (mA w 0 v9)) (t0 := 2) hx hb hK (hW.1 2 _ rfl) rfl rfl (by omega) (by omega) (hF.2.1 v9 hv9).1 dX3_byteAt_20 ?_
  refine z_alen (n := ((vsN sg.2.1 v9).length)) hx hb hK (hW.mem (List.mem_cons_of_mem _ (List.mem_cons_of_mem _ (List.mem_cons_of_mem _ (List.mem_cons_of_mem _ (List.mem_cons_of_mem _ (List.mem_cons_of_mem _ (List.mem_cons_of_mem _ (hF.2.1 v9 hv9).2)))))))) dX3_byteAt_21 ?_
  refine lv_iconst (v := nI 1) hx hb dX3_byteAt_22 (by decide) ?_
  refine lv_isub hx hb dX3_byteAt_23 ?_
  refine z_csS (As := [.int z, .int (nI 0), .int ((nI ((vsN sg.2.1 v9).length)) - (nI 1))]) (rest := []) ⟨hx, hb, hml, hown, hts⟩ (c_X3_isIn l D cs z (nI 0) ((nI ((vsN sg.2.1 v9).length)) - (nI 1))) (va_cwS 3 hts gX3_byteAt_X3_isIn rfl rfl rfl (by decide +kernel) ⟨Nat.le_of_ble_eq_true rfl, Nat.le_of_ble_eq_true rfl⟩) trivial hK rfl hl.1 rfl (Nat.le_of_ble_eq_true rfl) dX3_byteAt_24 ⟨(by rw [hRc]; omega), (by rw [hRs]; omega)⟩ (fun r hq9 => ?_)
  have hq9 : r = bI (inB z (nI 0) ((nI ((vsN sg.2.1 v9).length)) - (nI 1))) := hq9
  subst hq9
  refine z_ifb_eq (tgt := 41) hx hb dX3_byteAt_27 (by decide) (fun _ => ?_) (fun h9 => absurd (h9.symm.trans hz) (by decide))
  refine lv_aload_n hx hb dX3_byteAt_41 rfl (lv_at hl 0 rfl) ?_
  refine lv_iconst (v := nI 1) hx hb dX3_byteAt_42 (by decide) ?_
  refine z_cmI (va_runV (As := [.int (nI 1)]) (rest := []) ⟨hx, hb, hml, hown, hts⟩ (c_X3_fail l D cs S0 Z b w (nI 0) (nI 1) sg) (cwV 1 hts gX3_byteAt_X3_fail rfl rfl rfl (by decide +kernel) ⟨Nat.le_of_ble_eq_true rfl, Nat.le_of_ble_eq_true rfl⟩) ⟨zP_blind, z_recv hK (hW.1 0 _ rfl) rfl, (zP_pre hW hK)⟩ rfl rfl hl.1 rfl (lv_room (Nat.le_of_ble_eq_true rfl)) dX3_byteAt_43 ⟨(by rw [hRc]; omega), (by rw [hRs]; omega)⟩) hS (fun r u8 H locs hu hW hS => ?_)
  rw [hu]
  have hW : Wd D S0 (((b 0), .inr (4, [.int (nI 1), .int (nI sg.1.length), .ref (b 1), .int (nI sg.2.1.length), .ref (b 2), .int (nI sg.2.2.1.length), .ref (b 3), .ref (b 4), .ref (b 5), .ref (mI w), .int (nI sg.2.2.2.2.length), .ref (b 6)])) :: ((b 1), fa cs 400 (mf w)) :: ((b 2), qa cs 2 12 (mg w 0)) :: ((b 3), qa cs 2 12 (mg w 1)) :: ((b 4), qa cs 2 12 (mg w 2)) :: ((b 5), qa cs 2 12 (mg w 3)) :: ((b 6), qa cs 2 20 (mg w 4)) :: Z) H := hW
  refine W.widen (k := 0) (n := 0) (by omega) (by omega) ?_
  exact W.iret (v := nI 0) hx hb hr (fun t ht hW9 => ⟨⟨_, (w, []), rfl, ⟨fun h9 => absurd h9 (by decide), hF⟩, (by show Wd D S0 _ _; rw [ht]; exact hW)⟩, hS.F ht⟩) (fun q9 h9 => hS.2.2 q9 h9) dX3_byteAt_46

set_option maxHeartbeats 4000000 in
set_option maxRecDepth 100000 in
theorem c_X3_byteAt (l : Launch) (D : va_G) (cs : Nat → ClassId) (S0 : Nat) (Z : va_W) (b : Nat → Nat) (w : MU) (sg : St) (hF : MF cs w sg Z) (th : Int32) (v9 : Nat) (hv9 : v9 < sg.2.1.length) (k9 : Nat) (hk9 : k9 < (vsN sg.2.1 v9).length)  : Met l yX3_byteAt wsX3_byteAt ({ frames := 2, cells := 0, slots := 0, locals := 43 }) (zM [.ref (b 0), .int (nI v9), .int (nI k9)] (fun H => Wd D S0 (MW cs b w (th) sg Z) H) D cs) (va_Qi (fun r (v : MU × va_W) => ((0 : Nat) = 0 → r = nI (bv (vsN sg.2.1 v9) k9)) ∧ MF cs v.1 sg (v.2 ++ Z)) (fun v t => Wd D S0 (MW cs b v.1 (nI 0) sg (v.2 ++ Z)) t.heap) (SA S0)) 0 0 (SA S0) := by
  refine Met.ofW (cc := cX3_byteAt) (maxL := 3) (ret := (some .int)) (by decide) rfl ?_
  intro p e s m args below meth c s₁ B hml hv
  obtain ⟨rfl, hW, hK, hA9⟩ := hv
  have hx := B.exec
  have hb := B.bytes
  have hr := B.returns
  have hts := atoms_spec (ws := wsX3_byteAt) B.pre
  have hown : s.vm.findClass RX3 = some m.cls := findClass_of_methodNamed B.named
  have hlocks := B.notSynchronized
  have hRc : (headSpec wsX3_byteAt ({ frames := 2, cells := 0, slots := 0, locals := 43 })).room.cells = 0 := rfl
  have hRs : (headSpec wsX3_byteAt ({ frames := 2, cells := 0, slots := 0, locals := 43 })).room.slots = 0 := rfl
  have fl14 := hts (.fieldLink RX3 14 "DeltaUpdaterModel" "rows" "[[I") (by decide +kernel)
  have fl33 := hts (.fieldLink RX3 33 "DeltaUpdaterModel" "thrown" "I") (by decide +kernel)
  have in4 : ∀ w ∈ u_ws RX3 TX3 12, w ∈ wsX3_byteAt := by decide +kernel
  have hW : Wd D S0 (MW cs b w (th) sg Z) s.heap := hW
  have hS0 : S0 ≤ s.heap.size := hW.2.2
  have hS : va_S (SA S0) s.heap s.heap [] := va_S.rf
  have hl := lv_entry ([.ref (b 0), .int (nI v9), .int (nI k9)]) (n := 3) (Nat.le_of_ble_eq_true rfl)
  rw [lg_entry_eq]
  generalize (lg_sl ([.ref (b 0), .int (nI v9), .int (nI k9)]) ++ List.replicate (3 - (lg_sl ([.ref (b 0), .int (nI v9), .int (nI k9)])).length) Slot.unset).toArray = ls at hl ⊢
  have hl : lv_has ls 3 [(0, .ref (b 0)), (1, .int (nI v9)), (2, .int (nI k9))] := hl
  have hok := hF.2.2.2.2.2
  have hbl := hok.1.1
  have hnv := hok.2.1.1
  have hnp := hok.2.2.1.1
  have hnh := hok.2.2.2.2.1
  have hvi := vI_in hv9 (show sg.2.1.length < 2 ^ 30 by omega)
  have hln := (hok.2.1.2 v9 hv9).1
  have hkb : inB (nI k9) (nI 0) (nI (vsN sg.2.1 v9).length - nI 1) = true := (inB_vI _ _).trans (vI_in hk9 (by omega))
  refine lv_aload_n hx hb dX3_byteAt_0 rfl (lv_at hl 0 rfl) ?_
  refine lv_iconst (v := nI 0) hx hb dX3_byteAt_1 (by decide) ?_
  refine z_put (ty := .int) (ci := 4) (v := .int (nI 0)) (C := RX3) (T := TX3) (N := 12) hx hb hts in4 tyX3 tyX3_ok nmX3 hown hK hW hS 0 rfl rfl 0 (by decide) fl33 (fun _ h9 => h9) rfl (by decide +kernel) rfl rfl (Nat.le_of_ble_eq_true rfl) dX3_byteAt_2 (fun H locs hW hS => ?_)
  have hW : Wd D S0 (((b 0), .inr (4, [.int (nI 0), .int (nI sg.1.length), .ref (b 1), .int (nI sg.2.1.length), .ref (b 2), .int (nI sg.2.2.1.length), .ref (b 3), .ref (b 4), .ref (b 5), .ref (mI w), .int (nI sg.2.2.2.2.length), .ref (b 6)])) :: ((b 1), fa cs 400 (mf w)) :: ((b 2), qa cs 2 12 (mg w 0)) :: ((b 3), qa cs 2 12 (mg w 1)) :: ((b 4), qa cs 2 12 (mg w 2)) :: ((b 5), qa cs 2 12 (mg w 3)) :: ((b 6), qa cs 2 20 (mg w 4)) :: Z) H := hW
  refine lv_aload_n hx hb dX3_byteAt_5 rfl (lv_at hl 0 rfl) ?_
  refine lv_iload_n hx hb dX3_byteAt_6 rfl (lv_at hl 1 rfl) ?_
  refine z_csV (As := [.int (nI v9)]) (rest := []) ⟨hx, hb, hml, hown, hts⟩ (c_X3_isVersion l D cs (b 0) [.int (nI 0), .int (nI sg.1.length), .ref (b 1), .int (nI sg.2.1.length), .ref (b 2), .int (nI sg.2.2.1.length), .ref (b 3), .ref (b 4), .ref (b 5), .ref (mI w), .int (nI sg.2.2.2.2.length), .ref (b 6)] (nI v9) sg.2.1.length rfl) (cwV 1 hts gX3_byteAt_X3_isVersion rfl rfl rfl (by decide +kernel) ⟨Nat.le_of_ble_eq_true rfl, Nat.le_of_ble_eq_true rfl⟩) (hW.1 0 _ rfl) rfl (hW.1 0 _ rfl) hK rfl hl.1 rfl (Nat.le_of_ble_eq_true rfl) dX3_byteAt_7 ⟨(by rw [hRc]; omega), (by rw [hRs]; omega)⟩ (fun r hq9 => ?_)
  have hq9 : r = bI (vI (nI v9) sg.2.1.length) := hq9
  subst hq9
  refine z_ifb_eq (tgt := 41) hx hb dX3_byteAt_10 (by decide) (fun h9 => absurd (h9.symm.trans hvi) (by decide)) (fun _ => ?_)
  refine lv_iload_n hx hb dX3_byteAt_13 rfl (lv_at hl 2 rfl) ?_
  refine lv_iconst (v := nI 0) hx hb dX3_byteAt_14 (by decide) ?_
  refine lv_aload_n hx hb dX3_byteAt_15 rfl (lv_at hl 0 rfl) ?_
  refine z_get (ci := 4) (v := .ref (b 2)) (C := RX3) (T := TX3) (N := 12) hx hb hts in4 hown hK (hW.1 0 _ rfl) rfl 4 (by decide) fl14 (fun _ h9 => h9) rfl dX3_byteAt_16 ?_
  refine lv_iload_n hx hb dX3_byteAt_19 rfl (lv_at hl 1 rfl) ?_
  refine z_aald (k := v9) (y := (mA w 0 v9)) (t0 := 2) hx hb hK (hW.1 2 _ rfl) rfl rfl (by omega) (by omega) (hF.2.1 v9 hv9).1 dX3_byteAt_20 ?_
  refine z_alen (n := ((vsN sg.2.1 v9).length)) hx hb hK (hW.mem (List.mem_cons_of_mem _ (List.mem_cons_of_mem _ (List.mem_cons_of_mem _ (List.mem_cons_of_mem _ (List.mem_cons_of_mem _ (List.mem_cons_of_mem _ (List.mem_cons_of_mem _ (hF.2.1 v9 hv9).2)))))))) dX3_byteAt_21 ?_
  refine lv_iconst (v := nI 1) hx hb dX3_byteAt_22 (by decide) ?_
  refine lv_isub hx hb dX3_byteAt_23 ?_
  refine z_csS (As := [.int (nI k9), .int (nI 0), .int ((nI ((vsN sg.2.1 v9).length)) - (nI 1))]) (rest := []) ⟨hx, hb, hml, hown, hts⟩ (c_X3_isIn l D cs (nI k9) (nI 0) ((nI ((vsN sg.2.1 v9).length)) - (nI 1))) (va_cwS 3 hts gX3_byteAt_X3_isIn rfl rfl rfl (by decide +kernel) ⟨Nat.le_of_ble_eq_true rfl, Nat.le_of_ble_eq_true rfl⟩) trivial hK rfl hl.1 rfl (Nat.le_of_ble_eq_true rfl) dX3_byteAt_24 ⟨(by rw [hRc]; omega), (by rw [hRs]; omega)⟩ (fun r hq9 => ?_)
  have hq9 : r = bI (inB (nI k9) (nI 0) ((nI ((vsN sg.2.1 v9).length)) - (nI 1))) := hq9
  subst hq9
  refine z_ifb_eq (tgt := 41) hx hb dX3_byteAt_27 (by decide) (fun h9 => absurd (h9.symm.trans hkb) (by decide)) (fun _ => ?_)
  refine lv_aload_n hx hb dX3_byteAt_30 rfl (lv_at hl 0 rfl) ?_
  refine z_get (ci := 4) (v := .ref (b 2)) (C := RX3) (T := TX3) (N := 12) hx hb hts in4 hown hK (hW.1 0 _ rfl) rfl 4 (by decide) fl14 (fun _ h9 => h9) rfl dX3_byteAt_31 ?_
  refine lv_iload_n hx hb dX3_byteAt_34 rfl (lv_at hl 1 rfl) ?_
  refine z_aald (k := v9) (y := (mA w 0 v9)) (t0 := 2) hx hb hK (hW.1 2 _ rfl) rfl rfl (by omega) (by omega) (hF.2.1 v9 hv9).1 dX3_byteAt_35 ?_
  refine lv_iload_n hx hb dX3_byteAt_36 rfl (lv_at hl 2 rfl) ?_
  refine z_iald (k := k9) (f := fun i => nI ((bv (vsN sg.2.1 v9)) i)) hx hb hK (hW.mem (List.mem_cons_of_mem _ (List.mem_cons_of_mem _ (List.mem_cons_of_mem _ (List.mem_cons_of_mem _ (List.mem_cons_of_mem _ (List.mem_cons_of_mem _ (List.mem_cons_of_mem _ (hF.2.1 v9 hv9).2)))))))) (by omega) (by omega) dX3_byteAt_37 ?_
  refine zti (y := nI ((bv (vsN sg.2.1 v9)) k9)) rfl ?_
  refine lv_goto (tgt := 46) hx hb dX3_byteAt_38 (by decide) ?_
  refine W.widen (k := 0) (n := 0) (by omega) (by omega) ?_
  exact W.iret (v := nI ((bv (vsN sg.2.1 v9)) k9)) hx hb hr (fun t ht hW9 => ⟨⟨_, (w, []), rfl, ⟨fun _ => rfl, hF⟩, (by show Wd D S0 _ _; rw [ht]; exact hW)⟩, hS.F ht⟩) (fun q9 h9 => hS.2.2 q9 h9) dX3_byteAt_46

set_option maxHeartbeats 4000000 in
set_option maxRecDepth 100000 in
theorem c_X3_areSame_a (l : Launch) (D : va_G) (cs : Nat → ClassId) (S0 : Nat) (Z : va_W) (b : Nat → Nat) (w : MU) (sg : St) (hF : MF cs w sg Z) (th : Int32) (v : Int32) (hv : vI v sg.2.1.length = false) (w9i : Int32)  : Met l yX3_areSame wsX3_areSame ({ frames := 2, cells := 0, slots := 0, locals := 43 }) (zM [.ref (b 0), .int v, .int w9i] (fun H => Wd D S0 (MW cs b w (th) sg Z) H) D cs) (va_Qi (fun r (v : MU × va_W) => ((1 : Nat) = 0 → r = bI false) ∧ MF cs v.1 sg (v.2 ++ Z)) (fun v t => Wd D S0 (MW cs b v.1 (nI 1) sg (v.2 ++ Z)) t.heap) (SA S0)) 0 0 (SA S0) := by
  refine Met.ofW (cc := cX3_areSame) (maxL := 3) (ret := (some .boolean)) (by decide) rfl ?_
  intro p e s m args below meth c s₁ B hml hv
  obtain ⟨rfl, hW, hK, hA9⟩ := hv
  have hx := B.exec
  have hb := B.bytes
  have hr := B.returns
  have hts := atoms_spec (ws := wsX3_areSame) B.pre
  have hown : s.vm.findClass RX3 = some m.cls := findClass_of_methodNamed B.named
  have hlocks := B.notSynchronized
  have hRc : (headSpec wsX3_areSame ({ frames := 2, cells := 0, slots := 0, locals := 43 })).room.cells = 0 := rfl
  have hRs : (headSpec wsX3_areSame ({ frames := 2, cells := 0, slots := 0, locals := 43 })).room.slots = 0 := rfl
  have fl33 := hts (.fieldLink RX3 33 "DeltaUpdaterModel" "thrown" "I") (by decide +kernel)
  have in4 : ∀ w ∈ u_ws RX3 TX3 12, w ∈ wsX3_areSame := by decide +kernel
  have hW : Wd D S0 (MW cs b w (th) sg Z) s.heap := hW
  have hS0 : S0 ≤ s.heap.size := hW.2.2
  have hS : va_S (SA S0) s.heap s.heap [] := va_S.rf
  have hl := lv_entry ([.ref (b 0), .int v, .int w9i]) (n := 3) (Nat.le_of_ble_eq_true rfl)
  rw [lg_entry_eq]
  generalize (lg_sl ([.ref (b 0), .int v, .int w9i]) ++ List.replicate (3 - (lg_sl ([.ref (b 0), .int v, .int w9i])).length) Slot.unset).toArray = ls at hl ⊢
  have hl : lv_has ls 3 [(0, .ref (b 0)), (1, .int v), (2, .int w9i)] := hl
  have hok := hF.2.2.2.2.2
  have hbl := hok.1.1
  have hnv := hok.2.1.1
  have hnp := hok.2.2.1.1
  have hnh := hok.2.2.2.2.1
  refine lv_aload_n hx hb dX3_areSame_0 rfl (lv_at hl 0 rfl) ?_
  refine lv_aload_n hx hb dX3_areSame_1 rfl (lv_at hl 0 rfl) ?_
  refine lv_iload_n hx hb dX3_areSame_2 rfl (lv_at hl 1 rfl) ?_
  refine z_csV (As := [.int v]) (rest := [.ref (b 0)]) ⟨hx, hb, hml, hown, hts⟩ (c_X3_isVersion l D cs (b 0) [.int th, .int (nI sg.1.length), .ref (b 1), .int (nI sg.2.1.length), .ref (b 2), .int (nI sg.2.2.1.length), .ref (b 3), .ref (b 4), .ref (b 5), .ref (mI w), .int (nI sg.2.2.2.2.length), .ref (b 6)] v sg.2.1.length rfl) (cwV 1 hts gX3_areSame_X3_isVersion rfl rfl rfl (by decide +kernel) ⟨Nat.le_of_ble_eq_true rfl, Nat.le_of_ble_eq_true rfl⟩) (hW.1 0 _ rfl) rfl (hW.1 0 _ rfl) hK rfl hl.1 rfl (Nat.le_of_ble_eq_true rfl) dX3_areSame_3 ⟨(by rw [hRc]; omega), (by rw [hRs]; omega)⟩ (fun r hq9 => ?_)
  have hq9 : r = bI (vI v sg.2.1.length) := hq9
  subst hq9
  refine z_ifb_eq (tgt := 21) hx hb dX3_areSame_6 (by decide) (fun _ => ?_) (fun h9 => absurd (h9.symm.trans hv) (by decide))
  refine lv_iconst (v := nI 1) hx hb dX3_areSame_21 (by decide) ?_
  refine z_put (ty := .int) (ci := 4) (v := .int (nI 1)) (C := RX3) (T := TX3) (N := 12) hx hb hts in4 tyX3 tyX3_ok nmX3 hown hK hW hS 0 rfl rfl 0 (by decide) fl33 (fun _ h9 => h9) rfl (by decide +kernel) rfl rfl (Nat.le_of_ble_eq_true rfl) dX3_areSame_22 (fun H locs hW hS => ?_)
  have hW : Wd D S0 (((b 0), .inr (4, [.int (nI 1), .int (nI sg.1.length), .ref (b 1), .int (nI sg.2.1.length), .ref (b 2), .int (nI sg.2.2.1.length), .ref (b 3), .ref (b 4), .ref (b 5), .ref (mI w), .int (nI sg.2.2.2.2.length), .ref (b 6)])) :: ((b 1), fa cs 400 (mf w)) :: ((b 2), qa cs 2 12 (mg w 0)) :: ((b 3), qa cs 2 12 (mg w 1)) :: ((b 4), qa cs 2 12 (mg w 2)) :: ((b 5), qa cs 2 12 (mg w 3)) :: ((b 6), qa cs 2 20 (mg w 4)) :: Z) H := hW
  refine lv_aload_n hx hb dX3_areSame_25 rfl (lv_at hl 0 rfl) ?_
  refine z_get (ci := 4) (v := .int (nI 1)) (C := RX3) (T := TX3) (N := 12) hx hb hts in4 hown hK (hW.1 0 _ rfl) rfl 0 (by decide) fl33 (fun _ h9 => h9) rfl dX3_areSame_26 ?_
  refine lv_if_ne (tgt := 54) hx hb dX3_areSame_29 (by decide) (fun _ => ?_) (fun h9 => absurd h9 (by decide))
  refine lv_iconst (v := nI 0) hx hb dX3_areSame_54 (by decide) ?_
  refine W.widen (k := 0) (n := 0) (by omega) (by omega) ?_
  exact W.zret (v := nI 0) hx hb hr rfl (fun t ht hW9 => ⟨⟨_, (w, []), rfl, ⟨fun h9 => absurd h9 (by decide), hF⟩, (by show Wd D S0 _ _; rw [ht]; exact hW)⟩, hS.F ht⟩) (fun q9 h9 => hS.2.2 q9 h9) dX3_areSame_55

set_option maxHeartbeats 4000000 in
set_option maxRecDepth 100000 in
theorem c_X3_areSame_b (l : Launch) (D : va_G) (cs : Nat → ClassId) (S0 : Nat) (Z : va_W) (b : Nat → Nat) (w : MU) (sg : St) (hF : MF cs w sg Z) (th : Int32) (v9 : Nat) (hv9 : v9 < sg.2.1.length) (v : Int32) (hv : vI v sg.2.1.length = false)  : Met l yX3_areSame wsX3_areSame ({ frames := 2, cells := 0, slots := 0, locals := 43 }) (zM [.ref (b 0), .int (nI v9), .int v] (fun H => Wd D S0 (MW cs b w (th) sg Z) H) D cs) (va_Qi (fun r (v : MU × va_W) => ((1 : Nat) = 0 → r = bI false) ∧ MF cs v.1 sg (v.2 ++ Z)) (fun v t => Wd D S0 (MW cs b v.1 (nI 1) sg (v.2 ++ Z)) t.heap) (SA S0)) 0 0 (SA S0) := by
  refine Met.ofW (cc := cX3_areSame) (maxL := 3) (ret := (some .boolean)) (by decide) rfl ?_
  intro p e s m args below meth c s₁ B hml hv
  obtain ⟨rfl, hW, hK, hA9⟩ := hv
  have hx := B.exec
  have hb := B.bytes
  have hr := B.returns
  have hts := atoms_spec (ws := wsX3_areSame) B.pre
  have hown : s.vm.findClass RX3 = some m.cls := findClass_of_methodNamed B.named
  have hlocks := B.notSynchronized
  have hRc : (headSpec wsX3_areSame ({ frames := 2, cells := 0, slots := 0, locals := 43 })).room.cells = 0 := rfl
  have hRs : (headSpec wsX3_areSame ({ frames := 2, cells := 0, slots := 0, locals := 43 })).room.slots = 0 := rfl
  have fl33 := hts (.fieldLink RX3 33 "DeltaUpdaterModel" "thrown" "I") (by decide +kernel)
  have in4 : ∀ w ∈ u_ws RX3 TX3 12, w ∈ wsX3_areSame := by decide +kernel
  have hW : Wd D S0 (MW cs b w (th) sg Z) s.heap := hW
  have hS0 : S0 ≤ s.heap.size := hW.2.2
  have hS : va_S (SA S0) s.heap s.heap [] := va_S.rf
  have hl := lv_entry ([.ref (b 0), .int (nI v9), .int v]) (n := 3) (Nat.le_of_ble_eq_true rfl)
  rw [lg_entry_eq]
  generalize (lg_sl ([.ref (b 0), .int (nI v9), .int v]) ++ List.replicate (3 - (lg_sl ([.ref (b 0), .int (nI v9), .int v])).length) Slot.unset).toArray = ls at hl ⊢
  have hl : lv_has ls 3 [(0, .ref (b 0)), (1, .int (nI v9)), (2, .int v)] := hl
  have hok := hF.2.2.2.2.2
  have hbl := hok.1.1
  have hnv := hok.2.1.1
  have hnp := hok.2.2.1.1
  have hnh := hok.2.2.2.2.1
  have hvi := vI_in hv9 (show sg.2.1.length < 2 ^ 30 by omega)
  refine lv_aload_n hx hb dX3_areSame_0 rfl (lv_at hl 0 rfl) ?_
  refine lv_aload_n hx hb dX3_areSame_1 rfl (lv_at hl 0 rfl) ?_
  refine lv_iload_n hx hb dX3_areSame_2 rfl (lv_at hl 1 rfl) ?_
  refine z_csV (As := [.int (nI v9)]) (rest := [.ref (b 0)]) ⟨hx, hb, hml, hown, hts⟩ (c_X3_isVersion l D cs (b 0) [.int th, .int (nI sg.1.length), .ref (b 1), .int (nI sg.2.1.length), .ref (b 2), .int (nI sg.2.2.1.length), .ref (b 3), .ref (b 4), .ref (b 5), .ref (mI w), .int (nI sg.2.2.2.2.length), .ref (b 6)] (nI v9) sg.2.1.length rfl) (cwV 1 hts gX3_areSame_X3_isVersion rfl rfl rfl (by decide +kernel) ⟨Nat.le_of_ble_eq_true rfl, Nat.le_of_ble_eq_true rfl⟩) (hW.1 0 _ rfl) rfl (hW.1 0 _ rfl) hK rfl hl.1 rfl (Nat.le_of_ble_eq_true rfl) dX3_areSame_3 ⟨(by rw [hRc]; omega), (by rw [hRs]; omega)⟩ (fun r hq9 => ?_)
  have hq9 : r = bI (vI (nI v9) sg.2.1.length) := hq9
  subst hq9
  refine z_ifb_eq (tgt := 21) hx hb dX3_areSame_6 (by decide) (fun h9 => absurd (h9.symm.trans hvi) (by decide)) (fun _ => ?_)
  refine lv_aload_n hx hb dX3_areSame_9 rfl (lv_at hl 0 rfl) ?_
  refine lv_iload_n hx hb dX3_areSame_10 rfl (lv_at hl 2 rfl) ?_
  refine z_csV (As := [.int v]) (rest := [.ref (b 0)]) ⟨hx, hb, hml, hown, hts⟩ (c_X3_isVersion l D cs (b 0) [.int th, .int (nI sg.1.length), .ref (b 1), .int (nI sg.2.1.length), .ref (b 2), .int (nI sg.2.2.1.length), .ref (b 3), .ref (b 4), .ref (b 5), .ref (mI w), .int (nI sg.2.2.2.2.length), .ref (b 6)] v sg.2.1.length rfl) (cwV 1 hts gX3_areSame_X3_isVersion rfl rfl rfl (by decide +kernel) ⟨Nat.le_of_ble_eq_true rfl, Nat.le_of_ble_eq_true rfl⟩) (hW.1 0 _ rfl) rfl (hW.1 0 _ rfl) hK rfl hl.1 rfl (Nat.le_of_ble_eq_true rfl) dX3_areSame_11 ⟨(by rw [hRc]; omega), (by rw [hRs]; omega)⟩ (fun r hq9 => ?_)
  have hq9 : r = bI (vI v sg.2.1.length) := hq9
  subst hq9
  refine z_ifb_eq (tgt := 21) hx hb dX3_areSame_14 (by decide) (fun _ => ?_) (fun h9 => absurd (h9.symm.trans hv) (by decide))
  refine lv_iconst (v := nI 1) hx hb dX3_areSame_21 (by decide) ?_
  refine z_put (ty := .int) (ci := 4) (v := .int (nI 1)) (C := RX3) (T := TX3) (N := 12) hx hb hts in4 tyX3 tyX3_ok nmX3 hown hK hW hS 0 rfl rfl 0 (by decide) fl33 (fun _ h9 => h9) rfl (by decide +kernel) rfl rfl (Nat.le_of_ble_eq_true rfl) dX3_areSame_22 (fun H locs hW hS => ?_)
  have hW : Wd D S0 (((b 0), .inr (4, [.int (nI 1), .int (nI sg.1.length), .ref (b 1), .int (nI sg.2.1.length), .ref (b 2), .int (nI sg.2.2.1.length), .ref (b 3), .ref (b 4), .ref (b 5), .ref (mI w), .int (nI sg.2.2.2.2.length), .ref (b 6)])) :: ((b 1), fa cs 400 (mf w)) :: ((b 2), qa cs 2 12 (mg w 0)) :: ((b 3), qa cs 2 12 (mg w 1)) :: ((b 4), qa cs 2 12 (mg w 2)) :: ((b 5), qa cs 2 12 (mg w 3)) :: ((b 6), qa cs 2 20 (mg w 4)) :: Z) H := hW
  refine lv_aload_n hx hb dX3_areSame_25 rfl (lv_at hl 0 rfl) ?_
  refine z_get (ci := 4) (v := .int (nI 1)) (C := RX3) (T := TX3) (N := 12) hx hb hts in4 hown hK (hW.1 0 _ rfl) rfl 0 (by decide) fl33 (fun _ h9 => h9) rfl dX3_areSame_26 ?_
  refine lv_if_ne (tgt := 54) hx hb dX3_areSame_29 (by decide) (fun _ => ?_) (fun h9 => absurd h9 (by decide))
  refine lv_iconst (v := nI 0) hx hb dX3_areSame_54 (by decide) ?_
  refine W.widen (k := 0) (n := 0) (by omega) (by omega) ?_
  exact W.zret (v := nI 0) hx hb hr rfl (fun t ht hW9 => ⟨⟨_, (w, []), rfl, ⟨fun h9 => absurd h9 (by decide), hF⟩, (by show Wd D S0 _ _; rw [ht]; exact hW)⟩, hS.F ht⟩) (fun q9 h9 => hS.2.2 q9 h9) dX3_areSame_55

set_option maxHeartbeats 4000000 in
set_option maxRecDepth 100000 in
theorem c_X3_areSame (l : Launch) (D : va_G) (cs : Nat → ClassId) (S0 : Nat) (Z : va_W) (b : Nat → Nat) (w : MU) (sg : St) (hF : MF cs w sg Z) (th : Int32) (v9 : Nat) (hv9 : v9 < sg.2.1.length) (w9 : Nat) (hw9 : w9 < sg.2.1.length)  : Met l yX3_areSame wsX3_areSame ({ frames := 2, cells := 0, slots := 0, locals := 43 }) (zM [.ref (b 0), .int (nI v9), .int (nI w9)] (fun H => Wd D S0 (MW cs b w (th) sg Z) H) D cs) (va_Qi (fun r (v : MU × va_W) => ((0 : Nat) = 0 → r = bI (eqL (vsN sg.2.1 v9) (vsN sg.2.1 w9))) ∧ MF cs v.1 sg (v.2 ++ Z)) (fun v t => Wd D S0 (MW cs b v.1 (nI 0) sg (v.2 ++ Z)) t.heap) (SA S0)) 0 0 (SA S0) := by
  refine Met.ofW (cc := cX3_areSame) (maxL := 3) (ret := (some .boolean)) (by decide) rfl ?_
  intro p e s m args below meth c s₁ B hml hv
  obtain ⟨rfl, hW, hK, hA9⟩ := hv
  have hx := B.exec
  have hb := B.bytes
  have hr := B.returns
  have hts := atoms_spec (ws := wsX3_areSame) B.pre
  have hown : s.vm.findClass RX3 = some m.cls := findClass_of_methodNamed B.named
  have hlocks := B.notSynchronized
  have hRc : (headSpec wsX3_areSame ({ frames := 2, cells := 0, slots := 0, locals := 43 })).room.cells = 0 := rfl
  have hRs : (headSpec wsX3_areSame ({ frames := 2, cells := 0, slots := 0, locals := 43 })).room.slots = 0 := rfl
  have fl14 := hts (.fieldLink RX3 14 "DeltaUpdaterModel" "rows" "[[I") (by decide +kernel)
  have fl33 := hts (.fieldLink RX3 33 "DeltaUpdaterModel" "thrown" "I") (by decide +kernel)
  have in4 : ∀ w ∈ u_ws RX3 TX3 12, w ∈ wsX3_areSame := by decide +kernel
  have hW : Wd D S0 (MW cs b w (th) sg Z) s.heap := hW
  have hS0 : S0 ≤ s.heap.size := hW.2.2
  have hS : va_S (SA S0) s.heap s.heap [] := va_S.rf
  have hl := lv_entry ([.ref (b 0), .int (nI v9), .int (nI w9)]) (n := 3) (Nat.le_of_ble_eq_true rfl)
  rw [lg_entry_eq]
  generalize (lg_sl ([.ref (b 0), .int (nI v9), .int (nI w9)]) ++ List.replicate (3 - (lg_sl ([.ref (b 0), .int (nI v9), .int (nI w9)])).length) Slot.unset).toArray = ls at hl ⊢
  have hl : lv_has ls 3 [(0, .ref (b 0)), (1, .int (nI v9)), (2, .int (nI w9))] := hl
  have hok := hF.2.2.2.2.2
  have hbl := hok.1.1
  have hnv := hok.2.1.1
  have hnp := hok.2.2.1.1
  have hnh := hok.2.2.2.2.1
  have hvi := vI_in hv9 (show sg.2.1.length < 2 ^ 30 by omega)
  have hwi := vI_in hw9 (show sg.2.1.length < 2 ^ 30 by omega)
  refine lv_aload_n hx hb dX3_areSame_0 rfl (lv_at hl 0 rfl) ?_
  refine lv_aload_n hx hb dX3_areSame_1 rfl (lv_at hl 0 rfl) ?_
  refine lv_iload_n hx hb dX3_areSame_2 rfl (lv_at hl 1 rfl) ?_
  refine z_csV (As := [.int (nI v9)]) (rest := [.ref (b 0)]) ⟨hx, hb, hml, hown, hts⟩ (c_X3_isVersion l D cs (b 0) [.int th, .int (nI sg.1.length), .ref (b 1), .int (nI sg.2.1.length), .ref (b 2), .int (nI sg.2.2.1.length), .ref (b 3), .ref (b 4), .ref (b 5), .ref (mI w), .int (nI sg.2.2.2.2.length), .ref (b 6)] (nI v9) sg.2.1.length rfl) (cwV 1 hts gX3_areSame_X3_isVersion rfl rfl rfl (by decide +kernel) ⟨Nat.le_of_ble_eq_true rfl, Nat.le_of_ble_eq_true rfl⟩) (hW.1 0 _ rfl) rfl (hW.1 0 _ rfl) hK rfl hl.1 rfl (Nat.le_of_ble_eq_true rfl) dX3_areSame_3 ⟨(by rw [hRc]; omega), (by rw [hRs]; omega)⟩ (fun r hq9 => ?_)
  have hq9 : r = bI (vI (nI v9) sg.2.1.length) := hq9
  subst hq9
  refine z_ifb_eq (tgt := 21) hx hb dX3_areSame_6 (by decide) (fun h9 => absurd (h9.symm.trans hvi) (by decide)) (fun _ => ?_)
  refine lv_aload_n hx hb dX3_areSame_9 rfl (lv_at hl 0 rfl) ?_
  refine lv_iload_n hx hb dX3_areSame_10 rfl (lv_at hl 2 rfl) ?_
  refine z_csV (As := [.int (nI w9)]) (rest := [.ref (b 0)]) ⟨hx, hb, hml, hown, hts⟩ (c_X3_isVersion l D cs (b 0) [.int th, .int (nI sg.1.length), .ref (b 1), .int (nI sg.2.1.length), .ref (b 2), .int (nI sg.2.2.1.length), .ref (b 3), .ref (b 4), .ref (b 5), .ref (mI w), .int (nI sg.2.2.2.2.length), .ref (b 6)] (nI w9) sg.2.1.length rfl) (cwV 1 hts gX3_areSame_X3_isVersion rfl rfl rfl (by decide +kernel) ⟨Nat.le_of_ble_eq_true rfl, Nat.le_of_ble_eq_true rfl⟩) (hW.1 0 _ rfl) rfl (hW.1 0 _ rfl) hK rfl hl.1 rfl (Nat.le_of_ble_eq_true rfl) dX3_areSame_11 ⟨(by rw [hRc]; omega), (by rw [hRs]; omega)⟩ (fun r hq9 => ?_)
  have hq9 : r = bI (vI (nI w9) sg.2.1.length) := hq9
  subst hq9
  refine z_ifb_eq (tgt := 21) hx hb dX3_areSame_14 (by decide) (fun h9 => absurd (h9.symm.trans hwi) (by decide)) (fun _ => ?_)
  refine lv_iconst (v := nI 0) hx hb dX3_areSame_17 (by decide) ?_
  refine lv_goto (tgt := 22) hx hb dX3_areSame_18 (by decide) ?_
  refine z_put (ty := .int) (ci := 4) (v := .int (nI 0)) (C := RX3) (T := TX3) (N := 12) hx hb hts in4 tyX3 tyX3_ok nmX3 hown hK hW hS 0 rfl rfl 0 (by decide) fl33 (fun _ h9 => h9) rfl (by decide +kernel) rfl rfl (Nat.le_of_ble_eq_true rfl) dX3_areSame_22 (fun H locs hW hS => ?_)
  have hW : Wd D S0 (((b 0), .inr (4, [.int (nI 0), .int (nI sg.1.length), .ref (b 1), .int (nI sg.2.1.length), .ref (b 2), .int (nI sg.2.2.1.length), .ref (b 3), .ref (b 4), .ref (b 5), .ref (mI w), .int (nI sg.2.2.2.2.length), .ref (b 6)])) :: ((b 1), fa cs 400 (mf w)) :: ((b 2), qa cs 2 12 (mg w 0)) :: ((b 3), qa cs 2 12 (mg w 1)) :: ((b 4), qa cs 2 12 (mg w 2)) :: ((b 5), qa cs 2 12 (mg w 3)) :: ((b 6), qa cs 2 20 (mg w 4)) :: Z) H := hW
  refine lv_aload_n hx hb dX3_areSame_25 rfl (lv_at hl 0 rfl) ?_
  refine z_get (ci := 4) (v := .int (nI 0)) (C := RX3) (T := TX3) (N := 12) hx hb hts in4 hown hK (hW.1 0 _ rfl) rfl 0 (by decide) fl33 (fun _ h9 => h9) rfl dX3_areSame_26 ?_
  refine lv_if_ne (tgt := 54) hx hb dX3_areSame_29 (by decide) (fun h9 => absurd (by decide) h9) (fun _ => ?_)
  refine lv_aload_n hx hb dX3_areSame_32 rfl (lv_at hl 0 rfl) ?_
  refine z_get (ci := 4) (v := .ref (b 2)) (C := RX3) (T := TX3) (N := 12) hx hb hts in4 hown hK (hW.1 0 _ rfl) rfl 4 (by decide) fl14 (fun _ h9 => h9) rfl dX3_areSame_33 ?_
  refine lv_iload_n hx hb dX3_areSame_36 rfl (lv_at hl 1 rfl) ?_
  refine z_aald (k := v9) (y := (mA w 0 v9)) (t0 := 2) hx hb hK (hW.1 2 _ rfl) rfl rfl (by omega) (by omega) (hF.2.1 v9 hv9).1 dX3_areSame_37 ?_
  refine lv_aload_n hx hb dX3_areSame_38 rfl (lv_at hl 0 rfl) ?_
  refine z_get (ci := 4) (v := .ref (b 2)) (C := RX3) (T := TX3) (N := 12) hx hb hts in4 hown hK (hW.1 0 _ rfl) rfl 4 (by decide) fl14 (fun _ h9 => h9) rfl dX3_areSame_39 ?_
  refine lv_iload_n hx hb dX3_areSame_42 rfl (lv_at hl 2 rfl) ?_
  refine z_aald (k := w9) (y := (mA w 0 w9)) (t0 := 2) hx hb hK (hW.1 2 _ rfl) rfl rfl (by omega) (by omega) (hF.2.1 w9 hw9).1 dX3_areSame_43 ?_
  refine z_csS (As := [.ref (mA w 0 v9), .ref (mA w 0 w9)]) (rest := []) ⟨hx, hb, hml, hown, hts⟩ (c_X3_are l D cs (mA w 0 v9) (mA w 0 w9) ((vsN sg.2.1 v9).length) ((vsN sg.2.1 w9).length) (bb (vsN sg.2.1 v9)) (bb (vsN sg.2.1 w9)) (by have := (hok.2.1.2 v9 hv9).1; omega) (by have := (hok.2.1.2 w9 hw9).1; omega)) (va_cwS 2 hts gX3_areSame_X3_are rfl rfl rfl (by decide +kernel) ⟨Nat.le_of_ble_eq_true rfl, Nat.le_of_ble_eq_true rfl⟩) ⟨(hW.mem (List.mem_cons_of_mem _ (List.mem_cons_of_mem _ (List.mem_cons_of_mem _ (List.mem_cons_of_mem _ (List.mem_cons_of_mem _ (List.mem_cons_of_mem _ (List.mem_cons_of_mem _ (hF.2.1 v9 hv9).2)))))))), (hW.mem (List.mem_cons_of_mem _ (List.mem_cons_of_mem _ (List.mem_cons_of_mem _ (List.mem_cons_of_mem _ (List.mem_cons_of_mem _ (List.mem_cons_of_mem _ (List.mem_cons_of_mem _ (hF.2.1 w9 hw9).2))))))))⟩ hK rfl hl.1 rfl (Nat.le_of_ble_eq_true rfl) dX3_areSame_44 ⟨(by rw [hRc]; omega), (by rw [hRs]; omega)⟩ (fun r hq9 => ?_)
  have hq9 : r = bI (eqL (vsN sg.2.1 v9) (vsN sg.2.1 w9)) := hq9
  subst hq9
  refine z_ifb_eq (tgt := 54) hx hb dX3_areSame_47 (by decide) (fun hc47 => ?_) (fun hc47 => ?_)
  · skip
    have hc47 : (eqL (vsN sg.2.1 v9) (vsN sg.2.1 w9)) = false := hc47
    refine lv_iconst (v := nI 0) hx hb dX3_areSame_54 (by decide) ?_
    refine W.widen (k := 0) (n := 0) (by omega) (by omega) ?_
    exact W.zret (v := nI 0) hx hb hr rfl (fun t ht hW9 => ⟨⟨_, (w, []), rfl, ⟨fun _ => bF hc47, hF⟩, (by show Wd D S0 _ _; rw [ht]; exact hW)⟩, hS.F ht⟩) (fun q9 h9 => hS.2.2 q9 h9) dX3_areSame_55
  · skip
    have hc47 : (eqL (vsN sg.2.1 v9) (vsN sg.2.1 w9)) = true := hc47
    refine lv_iconst (v := nI 1) hx hb dX3_areSame_50 (by decide) ?_
    refine lv_goto (tgt := 55) hx hb dX3_areSame_51 (by decide) ?_
    refine W.widen (k := 0) (n := 0) (by omega) (by omega) ?_
    exact W.zret (v := nI 1) hx hb hr rfl (fun t ht hW9 => ⟨⟨_, (w, []), rfl, ⟨fun _ => bT hc47, hF⟩, (by show Wd D S0 _ _; rw [ht]; exact hW)⟩, hS.F ht⟩) (fun q9 h9 => hS.2.2 q9 h9) dX3_areSame_55

set_option maxHeartbeats 4000000 in
set_option maxRecDepth 100000 in
theorem c_X3_isInstalled_a (l : Launch) (D : va_G) (cs : Nat → ClassId) (S0 : Nat) (Z : va_W) (b : Nat → Nat) (w : MU) (sg : St) (hF : MF cs w sg Z) (th : Int32) (v : Int32) (hv : vI v sg.2.1.length = false)  : Met l yX3_isInstalled wsX3_isInstalled ({ frames := 2, cells := 0, slots := 0, locals := 43 }) (zM [.ref (b 0), .int v] (fun H => Wd D S0 (MW cs b w (th) sg Z) H) D cs) (va_Qi (fun r (v : MU × va_W) => ((1 : Nat) = 0 → r = bI false) ∧ MF cs v.1 sg (v.2 ++ Z)) (fun v t => Wd D S0 (MW cs b v.1 (nI 1) sg (v.2 ++ Z)) t.heap) (SA S0)) 0 0 (SA S0) := by
  refine Met.ofW (cc := cX3_isInstalled) (maxL := 2) (ret := (some .boolean)) (by decide) rfl ?_
  intro p e s m args below meth c s₁ B hml hv
  obtain ⟨rfl, hW, hK, hA9⟩ := hv
  have hx := B.exec
  have hb := B.bytes
  have hr := B.returns
  have hts := atoms_spec (ws := wsX3_isInstalled) B.pre
  have hown : s.vm.findClass RX3 = some m.cls := findClass_of_methodNamed B.named
  have hlocks := B.notSynchronized
  have hRc : (headSpec wsX3_isInstalled ({ frames := 2, cells := 0, slots := 0, locals := 43 })).room.cells = 0 := rfl
  have hRs : (headSpec wsX3_isInstalled ({ frames := 2, cells := 0, slots := 0, locals := 43 })).room.slots = 0 := rfl
  have fl33 := hts (.fieldLink RX3 33 "DeltaUpdaterModel" "thrown" "I") (by decide +kernel)
  have in4 : ∀ w ∈ u_ws RX3 TX3 12, w ∈ wsX3_isInstalled := by decide +kernel
  have hW : Wd D S0 (MW cs b w (th) sg Z) s.heap := hW
  have hS0 : S0 ≤ s.heap.size := hW.2.2
  have hS : va_S (SA S0) s.heap s.heap [] := va_S.rf
  have hl := lv_entry ([.ref (b 0), .int v]) (n := 2) (Nat.le_of_ble_eq_true rfl)
  rw [lg_entry_eq]
  generalize (lg_sl ([.ref (b 0), .int v]) ++ List.replicate (2 - (lg_sl ([.ref (b 0), .int v])).length) Slot.unset).toArray = ls at hl ⊢
  have hl : lv_has ls 2 [(0, .ref (b 0)), (1, .int v)] := hl
  have hok := hF.2.2.2.2.2
  have hbl := hok.1.1
  have hnv := hok.2.1.1
  have hnp := hok.2.2.1.1
  have hnh := hok.2.2.2.2.1
  refine lv_aload_n hx hb dX3_isInstalled_0 rfl (lv_at hl 0 rfl) ?_
  refine lv_aload_n hx hb dX3_isInstalled_1 rfl (lv_at hl 0 rfl) ?_
  refine lv_iload_n hx hb dX3_isInstalled_2 rfl (lv_at hl 1 rfl) ?_
  refine z_csV (As := [.int v]) (rest := [.ref (b 0)]) ⟨hx, hb, hml, hown, hts⟩ (c_X3_isVersion l D cs (b 0) [.int th, .int (nI sg.1.length), .ref (b 1), .int (nI sg.2.1.length), .ref (b 2), .int (nI sg.2.2.1.length), .ref (b 3), .ref (b 4), .ref (b 5), .ref (mI w), .int (nI sg.2.2.2.2.length), .ref (b 6)] v sg.2.1.length rfl) (cwV 1 hts gX3_isInstalled_X3_isVersion rfl rfl rfl (by decide +kernel) ⟨Nat.le_of_ble_eq_true rfl, Nat.le_of_ble_eq_true rfl⟩) (hW.1 0 _ rfl) rfl (hW.1 0 _ rfl) hK rfl hl.1 rfl (Nat.le_of_ble_eq_true rfl) dX3_isInstalled_3 ⟨(by rw [hRc]; omega), (by rw [hRs]; omega)⟩ (fun r hq9 => ?_)
  have hq9 : r = bI (vI v sg.2.1.length) := hq9
  subst hq9
  refine z_ifb_eq (tgt := 13) hx hb dX3_isInstalled_6 (by decide) (fun _ => ?_) (fun h9 => absurd (h9.symm.trans hv) (by decide))
  refine lv_iconst (v := nI 1) hx hb dX3_isInstalled_13 (by decide) ?_
  refine z_put (ty := .int) (ci := 4) (v := .int (nI 1)) (C := RX3) (T := TX3) (N := 12) hx hb hts in4 tyX3 tyX3_ok nmX3 hown hK hW hS 0 rfl rfl 0 (by decide) fl33 (fun _ h9 => h9) rfl (by decide +kernel) rfl rfl (Nat.le_of_ble_eq_true rfl) dX3_isInstalled_14 (fun H locs hW hS => ?_)
  have hW : Wd D S0 (((b 0), .inr (4, [.int (nI 1), .int (nI sg.1.length), .ref (b 1), .int (nI sg.2.1.length), .ref (b 2), .int (nI sg.2.2.1.length), .ref (b 3), .ref (b 4), .ref (b 5), .ref (mI w), .int (nI sg.2.2.2.2.length), .ref (b 6)])) :: ((b 1), fa cs 400 (mf w)) :: ((b 2), qa cs 2 12 (mg w 0)) :: ((b 3), qa cs 2 12 (mg w 1)) :: ((b 4), qa cs 2 12 (mg w 2)) :: ((b 5), qa cs 2 12 (mg w 3)) :: ((b 6), qa cs 2 20 (mg w 4)) :: Z) H := hW
  refine lv_aload_n hx hb dX3_isInstalled_17 rfl (lv_at hl 0 rfl) ?_
  refine z_get (ci := 4) (v := .int (nI 1)) (C := RX3) (T := TX3) (N := 12) hx hb hts in4 hown hK (hW.1 0 _ rfl) rfl 0 (by decide) fl33 (fun _ h9 => h9) rfl dX3_isInstalled_18 ?_
  refine lv_if_ne (tgt := 44) hx hb dX3_isInstalled_21 (by decide) (fun _ => ?_) (fun h9 => absurd h9 (by decide))
  refine lv_iconst (v := nI 0) hx hb dX3_isInstalled_44 (by decide) ?_
  refine W.widen (k := 0) (n := 0) (by omega) (by omega) ?_
  exact W.zret (v := nI 0) hx hb hr rfl (fun t ht hW9 => ⟨⟨_, (w, []), rfl, ⟨fun h9 => absurd h9 (by decide), hF⟩, (by show Wd D S0 _ _; rw [ht]; exact hW)⟩, hS.F ht⟩) (fun q9 h9 => hS.2.2 q9 h9) dX3_isInstalled_45

set_option maxHeartbeats 4000000 in
set_option maxRecDepth 100000 in
theorem c_X3_isInstalled (l : Launch) (D : va_G) (cs : Nat → ClassId) (S0 : Nat) (Z : va_W) (b : Nat → Nat) (w : MU) (sg : St) (hF : MF cs w sg Z) (th : Int32) (v9 : Nat) (hv9 : v9 < sg.2.1.length)  : Met l yX3_isInstalled wsX3_isInstalled ({ frames := 2, cells := 0, slots := 0, locals := 43 }) (zM [.ref (b 0), .int (nI v9)] (fun H => Wd D S0 (MW cs b w (th) sg Z) H) D cs) (va_Qi (fun r (v : MU × va_W) => ((0 : Nat) = 0 → r = bI (eqL sg.2.2.2.1 (vsN sg.2.1 v9))) ∧ MF cs v.1 sg (v.2 ++ Z)) (fun v t => Wd D S0 (MW cs b v.1 (nI 0) sg (v.2 ++ Z)) t.heap) (SA S0)) 0 0 (SA S0) := by
  refine Met.ofW (cc := cX3_isInstalled) (maxL := 2) (ret := (some .boolean)) (by decide) rfl ?_
  intro p e s m args below meth c s₁ B hml hv
  obtain ⟨rfl, hW, hK, hA9⟩ := hv
  have hx := B.exec
  have hb := B.bytes
  have hr := B.returns
  have hts := atoms_spec (ws := wsX3_isInstalled) B.pre
  have hown : s.vm.findClass RX3 = some m.cls := findClass_of_methodNamed B.named
  have hlocks := B.notSynchronized
  have hRc : (headSpec wsX3_isInstalled ({ frames := 2, cells := 0, slots := 0, locals := 43 })).room.cells = 0 := rfl
  have hRs : (headSpec wsX3_isInstalled ({ frames := 2, cells := 0, slots := 0, locals := 43 })).room.slots = 0 := rfl
  have fl14 := hts (.fieldLink RX3 14 "DeltaUpdaterModel" "rows" "[[I") (by decide +kernel)
  have fl27 := hts (.fieldLink RX3 27 "DeltaUpdaterModel" "installed" "[I") (by decide +kernel)
  have fl33 := hts (.fieldLink RX3 33 "DeltaUpdaterModel" "thrown" "I") (by decide +kernel)
  have in4 : ∀ w ∈ u_ws RX3 TX3 12, w ∈ wsX3_isInstalled := by decide +kernel
  have hW : Wd D S0 (MW cs b w (th) sg Z) s.heap := hW
  have hS0 : S0 ≤ s.heap.size := hW.2.2
  have hS : va_S (SA S0) s.heap s.heap [] := va_S.rf
  have hl := lv_entry ([.ref (b 0), .int (nI v9)]) (n := 2) (Nat.le_of_ble_eq_true rfl)
  rw [lg_entry_eq]
  generalize (lg_sl ([.ref (b 0), .int (nI v9)]) ++ List.replicate (2 - (lg_sl ([.ref (b 0), .int (nI v9)])).length) Slot.unset).toArray = ls at hl ⊢
  have hl : lv_has ls 2 [(0, .ref (b 0)), (1, .int (nI v9))] := hl
  have hok := hF.2.2.2.2.2
  have hbl := hok.1.1
  have hnv := hok.2.1.1
  have hnp := hok.2.2.1.1
  have hnh := hok.2.2.2.2.1
  have hvi := vI_in hv9 (show sg.2.1.length < 2 ^ 30 by omega)
  refine lv_aload_n hx hb dX3_isInstalled_0 rfl (lv_at hl 0 rfl) ?_
  refine lv_aload_n hx hb dX3_isInstalled_1 rfl (lv_at hl 0 rfl) ?_
  refine lv_iload_n hx hb dX3_isInstalled_2 rfl (lv_at hl 1 rfl) ?_
  refine z_csV (As := [.int (nI v9)]) (rest := [.ref (b 0)]) ⟨hx, hb, hml, hown, hts⟩ (c_X3_isVersion l D cs (b 0) [.int th, .int (nI sg.1.length), .ref (b 1), .int (nI sg.2.1.length), .ref (b 2), .int (nI sg.2.2.1.length), .ref (b 3), .ref (b 4), .ref (b 5), .ref (mI w), .int (nI sg.2.2.2.2.length), .ref (b 6)] (nI v9) sg.2.1.length rfl) (cwV 1 hts gX3_isInstalled_X3_isVersion rfl rfl rfl (by decide +kernel) ⟨Nat.le_of_ble_eq_true rfl, Nat.le_of_ble_eq_true rfl⟩) (hW.1 0 _ rfl) rfl (hW.1 0 _ rfl) hK rfl hl.1 rfl (Nat.le_of_ble_eq_true rfl) dX3_isInstalled_3 ⟨(by rw [hRc]; omega), (by rw [hRs]; omega)⟩ (fun r hq9 => ?_)
  have hq9 : r = bI (vI (nI v9) sg.2.1.length) := hq9
  subst hq9
  refine z_ifb_eq (tgt := 13) hx hb dX3_isInstalled_6 (by decide) (fun h9 => absurd (h9.symm.trans hvi) (by decide)) (fun _ => ?_)
  refine lv_iconst (v := nI 0) hx hb dX3_isInstalled_9 (by decide) ?_
  refine lv_goto (tgt := 14) hx hb dX3_isInstalled_10 (by decide) ?_
  refine z_put (ty := .int) (ci := 4) (v := .int (nI 0)) (C := RX3) (T := TX3) (N := 12) hx hb hts in4 tyX3 tyX3_ok nmX3 hown hK hW hS 0 rfl rfl 0 (by decide) fl33 (fun _ h9 => h9) rfl (by decide +kernel) rfl rfl (Nat.le_of_ble_eq_true rfl) dX3_isInstalled_14 (fun H locs hW hS => ?_)
  have hW : Wd D S0 (((b 0), .inr (4, [.int (nI 0), .int (nI sg.1.length), .ref (b 1), .int (nI sg.2.1.length), .ref (b 2), .int (nI sg.2.2.1.length), .ref (b 3), .ref (b 4), .ref (b 5), .ref (mI w), .int (nI sg.2.2.2.2.length), .ref (b 6)])) :: ((b 1), fa cs 400 (mf w)) :: ((b 2), qa cs 2 12 (mg w 0)) :: ((b 3), qa cs 2 12 (mg w 1)) :: ((b 4), qa cs 2 12 (mg w 2)) :: ((b 5), qa cs 2 12 (mg w 3)) :: ((b 6), qa cs 2 20 (mg w 4)) :: Z) H := hW
  refine lv_aload_n hx hb dX3_isInstalled_17 rfl (lv_at hl 0 rfl) ?_
  refine z_get (ci := 4) (v := .int (nI 0)) (C := RX3) (T := TX3) (N := 12) hx hb hts in4 hown hK (hW.1 0 _ rfl) rfl 0 (by decide) fl33 (fun _ h9 => h9) rfl dX3_isInstalled_18 ?_
  refine lv_if_ne (tgt := 44) hx hb dX3_isInstalled_21 (by decide) (fun h9 => absurd (by decide) h9) (fun _ => ?_)
  refine lv_aload_n hx hb dX3_isInstalled_24 rfl (lv_at hl 0 rfl) ?_
  refine z_get (ci := 4) (v := .ref (mI w)) (C := RX3) (T := TX3) (N := 12) hx hb hts in4 hown hK (hW.1 0 _ rfl) rfl 9 (by decide) fl27 (fun _ h9 => h9) rfl dX3_isInstalled_25 ?_
  refine lv_aload_n hx hb dX3_isInstalled_28 rfl (lv_at hl 0 rfl) ?_
  refine z_get (ci := 4) (v := .ref (b 2)) (C := RX3) (T := TX3) (N := 12) hx hb hts in4 hown hK (hW.1 0 _ rfl) rfl 4 (by decide) fl14 (fun _ h9 => h9) rfl dX3_isInstalled_29 ?_
  refine lv_iload_n hx hb dX3_isInstalled_32 rfl (lv_at hl 1 rfl) ?_
  refine z_aald (k := v9) (y := (mA w 0 v9)) (t0 := 2) hx hb hK (hW.1 2 _ rfl) rfl rfl (by omega) (by omega) (hF.2.1 v9 hv9).1 dX3_isInstalled_33 ?_
  refine z_csS (As := [.ref (mI w), .ref (mA w 0 v9)]) (rest := []) ⟨hx, hb, hml, hown, hts⟩ (c_X3_are l D cs (mI w) (mA w 0 v9) sg.2.2.2.1.length ((vsN sg.2.1 v9).length) (bb sg.2.2.2.1) (bb (vsN sg.2.1 v9)) (by have := hok.2.2.2.1.1; omega) (by have := (hok.2.1.2 v9 hv9).1; omega)) (va_cwS 2 hts gX3_isInstalled_X3_are rfl rfl rfl (by decide +kernel) ⟨Nat.le_of_ble_eq_true rfl, Nat.le_of_ble_eq_true rfl⟩) ⟨(hW.mem (List.mem_cons_of_mem _ (List.mem_cons_of_mem _ (List.mem_cons_of_mem _ (List.mem_cons_of_mem _ (List.mem_cons_of_mem _ (List.mem_cons_of_mem _ (List.mem_cons_of_mem _ hF.2.2.2.1)))))))), (hW.mem (List.mem_cons_of_mem _ (List.mem_cons_of_mem _ (List.mem_cons_of_mem _ (List.mem_cons_of_mem _ (List.mem_cons_of_mem _ (List.mem_cons_of_mem _ (List.mem_cons_of_mem _ (hF.2.1 v9 hv9).2))))))))⟩ hK rfl hl.1 rfl (Nat.le_of_ble_eq_true rfl) dX3_isInstalled_34 ⟨(by rw [hRc]; omega), (by rw [hRs]; omega)⟩ (fun r hq9 => ?_)
  have hq9 : r = bI (eqL sg.2.2.2.1 (vsN sg.2.1 v9)) := hq9
  subst hq9
  refine z_ifb_eq (tgt := 44) hx hb dX3_isInstalled_37 (by decide) (fun hc37 => ?_) (fun hc37 => ?_)
  · skip
    have hc37 : (eqL sg.2.2.2.1 (vsN sg.2.1 v9)) = false := hc37
    refine lv_iconst (v := nI 0) hx hb dX3_isInstalled_44 (by decide) ?_
    refine W.widen (k := 0) (n := 0) (by omega) (by omega) ?_
    exact W.zret (v := nI 0) hx hb hr rfl (fun t ht hW9 => ⟨⟨_, (w, []), rfl, ⟨fun _ => bF hc37, hF⟩, (by show Wd D S0 _ _; rw [ht]; exact hW)⟩, hS.F ht⟩) (fun q9 h9 => hS.2.2 q9 h9) dX3_isInstalled_45
  · skip
    have hc37 : (eqL sg.2.2.2.1 (vsN sg.2.1 v9)) = true := hc37
    refine lv_iconst (v := nI 1) hx hb dX3_isInstalled_40 (by decide) ?_
    refine lv_goto (tgt := 45) hx hb dX3_isInstalled_41 (by decide) ?_
    refine W.widen (k := 0) (n := 0) (by omega) (by omega) ?_
    exact W.zret (v := nI 1) hx hb hr rfl (fun t ht hW9 => ⟨⟨_, (w, []), rfl, ⟨fun _ => bT hc37, hF⟩, (by show Wd D S0 _ _; rw [ht]; exact hW)⟩, hS.F ht⟩) (fun q9 h9 => hS.2.2 q9 h9) dX3_isInstalled_45

set_option maxHeartbeats 4000000 in
set_option maxRecDepth 100000 in
theorem c_X3_weakSum_a (l : Launch) (D : va_G) (cs : Nat → ClassId) (S0 : Nat) (Z : va_W) (b : Nat → Nat) (w : MU) (sg : St) (hF : MF cs w sg Z) (th : Int32) (v : Int32) (hv : vI v sg.2.1.length = false) (w9i z : Int32)  : Met l yX3_weakSum wsX3_weakSum ({ frames := 2, cells := 0, slots := 0, locals := 43 }) (zM [.ref (b 0), .int v, .int w9i, .int z] (fun H => Wd D S0 (MW cs b w (th) sg Z) H) D cs) (va_Qi (fun r (v : MU × va_W) => ((1 : Nat) = 0 → r = nI 0) ∧ MF cs v.1 sg (v.2 ++ Z)) (fun v t => Wd D S0 (MW cs b v.1 (nI 1) sg (v.2 ++ Z)) t.heap) (SA S0)) 0 0 (SA S0) := by
  refine Met.ofW (cc := cX3_weakSum) (maxL := 4) (ret := (some .int)) (by decide) rfl ?_
  intro p e s m args below meth c s₁ B hml hv
  obtain ⟨rfl, hW, hK, hA9⟩ := hv
  have hx := B.exec
  have hb := B.bytes
  have hr := B.returns
  have hts := atoms_spec (ws := wsX3_weakSum) B.pre
  have hown : s.vm.findClass RX3 = some m.cls := findClass_of_methodNamed B.named
  have hlocks := B.notSynchronized
  have hRc : (headSpec wsX3_weakSum ({ frames := 2, cells := 0, slots := 0, locals := 43 })).room.cells = 0 := rfl
  have hRs : (headSpec wsX3_weakSum ({ frames := 2, cells := 0, slots := 0, locals := 43 })).room.slots = 0 := rfl
  have fl33 := hts (.fieldLink RX3 33 "DeltaUpdaterModel" "thrown" "I") (by decide +kernel)
  have in4 : ∀ w ∈ u_ws RX3 TX3 12, w ∈ wsX3_weakSum := by decide +kernel
  have hW : Wd D S0 (MW cs b w (th) sg Z) s.heap := hW
  have hS0 : S0 ≤ s.heap.size := hW.2.2
  have hS : va_S (SA S0) s.heap s.heap [] := va_S.rf
  have hl := lv_entry ([.ref (b 0), .int v, .int w9i, .int z]) (n := 4) (Nat.le_of_ble_eq_true rfl)
  rw [lg_entry_eq]
  generalize (lg_sl ([.ref (b 0), .int v, .int w9i, .int z]) ++ List.replicate (4 - (lg_sl ([.ref (b 0), .int v, .int w9i, .int z])).length) Slot.unset).toArray = ls at hl ⊢
  have hl : lv_has ls 4 [(0, .ref (b 0)), (1, .int v), (2, .int w9i), (3, .int z)] := hl
  have hok := hF.2.2.2.2.2
  have hbl := hok.1.1
  have hnv := hok.2.1.1
  have hnp := hok.2.2.1.1
  have hnh := hok.2.2.2.2.1
  refine lv_aload_n hx hb dX3_weakSum_0 rfl (lv_at hl 0 rfl) ?_
  refine lv_iconst (v := nI 0) hx hb dX3_weakSum_1 (by decide) ?_
  refine z_put (ty := .int) (ci := 4) (v := .int (nI 0)) (C := RX3) (T := TX3) (N := 12) hx hb hts in4 tyX3 tyX3_ok nmX3 hown hK hW hS 0 rfl rfl 0 (by decide) fl33 (fun _ h9 => h9) rfl (by decide +kernel) rfl rfl (Nat.le_of_ble_eq_true rfl) dX3_weakSum_2 (fun H locs hW hS => ?_)
  have hW : Wd D S0 (((b 0), .inr (4, [.int (nI 0), .int (nI sg.1.length), .ref (b 1), .int (nI sg.2.1.length), .ref (b 2), .int (nI sg.2.2.1.length), .ref (b 3), .ref (b 4), .ref (b 5), .ref (mI w), .int (nI sg.2.2.2.2.length), .ref (b 6)])) :: ((b 1), fa cs 400 (mf w)) :: ((b 2), qa cs 2 12 (mg w 0)) :: ((b 3), qa cs 2 12 (mg w 1)) :: ((b 4), qa cs 2 12 (mg w 2)) :: ((b 5), qa cs 2 12 (mg w 3)) :: ((b 6), qa cs 2 20 (mg w 4)) :: Z) H := hW
  refine lv_aload_n hx hb dX3_weakSum_5 rfl (lv_at hl 0 rfl) ?_
  refine lv_iload_n hx hb dX3_weakSum_6 rfl (lv_at hl 1 rfl) ?_
  refine z_csV (As := [.int v]) (rest := []) ⟨hx, hb, hml, hown, hts⟩ (c_X3_isVersion l D cs (b 0) [.int (nI 0), .int (nI sg.1.length), .ref (b 1), .int (nI sg.2.1.length), .ref (b 2), .int (nI sg.2.2.1.length), .ref (b 3), .ref (b 4), .ref (b 5), .ref (mI w), .int (nI sg.2.2.2.2.length), .ref (b 6)] v sg.2.1.length rfl) (cwV 1 hts gX3_weakSum_X3_isVersion rfl rfl rfl (by decide +kernel) ⟨Nat.le_of_ble_eq_true rfl, Nat.le_of_ble_eq_true rfl⟩) (hW.1 0 _ rfl) rfl (hW.1 0 _ rfl) hK rfl hl.1 rfl (Nat.le_of_ble_eq_true rfl) dX3_weakSum_7 ⟨(by rw [hRc]; omega), (by rw [hRs]; omega)⟩ (fun r hq9 => ?_)
  have hq9 : r = bI (vI v sg.2.1.length) := hq9
  subst hq9
  refine z_ifb_ne (tgt := 19) hx hb dX3_weakSum_10 (by decide) (fun h9 => absurd (h9.symm.trans hv) (by decide)) (fun _ => ?_)
  refine lv_aload_n hx hb dX3_weakSum_13 rfl (lv_at hl 0 rfl) ?_
  refine lv_iconst (v := nI 1) hx hb dX3_weakSum_14 (by decide) ?_
  refine z_cmI (va_runV (As := [.int (nI 1)]) (rest := []) ⟨hx, hb, hml, hown, hts⟩ (c_X3_fail l D cs S0 Z b w (nI 0) (nI 1) sg) (cwV 1 hts gX3_weakSum_X3_fail rfl rfl rfl (by decide +kernel) ⟨Nat.le_of_ble_eq_true rfl, Nat.le_of_ble_eq_true rfl⟩) ⟨zP_blind, z_recv hK (hW.1 0 _ rfl) rfl, (zP_pre hW hK)⟩ rfl rfl hl.1 rfl (lv_room (Nat.le_of_ble_eq_true rfl)) dX3_weakSum_15 ⟨(by rw [hRc]; omega), (by rw [hRs]; omega)⟩) hS (fun r u8 H locs hu hW hS => ?_)
  rw [hu]
  have hW : Wd D S0 (((b 0), .inr (4, [.int (nI 1), .int (nI sg.1.length), .ref (b 1), .int (nI sg.2.1.length), .ref (b 2), .int (nI sg.2.2.1.length), .ref (b 3), .ref (b 4), .ref (b 5), .ref (mI w), .int (nI sg.2.2.2.2.length), .ref (b 6)])) :: ((b 1), fa cs 400 (mf w)) :: ((b 2), qa cs 2 12 (mg w 0)) :: ((b 3), qa cs 2 12 (mg w 1)) :: ((b 4), qa cs 2 12 (mg w 2)) :: ((b 5), qa cs 2 12 (mg w 3)) :: ((b 6), qa cs 2 20 (mg w 4)) :: Z) H := hW
  refine W.widen (k := 0) (n := 0) (by omega) (by omega) ?_
  exact W.iret (v := nI 0) hx hb hr (fun t ht hW9 => ⟨⟨_, (w, []), rfl, ⟨fun h9 => absurd h9 (by decide), hF⟩, (by show Wd D S0 _ _; rw [ht]; exact hW)⟩, hS.F ht⟩) (fun q9 h9 => hS.2.2 q9 h9) dX3_weakSum_18

set_option maxHeartbeats 4000000 in
set_option maxRecDepth 100000 in
theorem c_X3_weakSum_b (l : Launch) (D : va_G) (cs : Nat → ClassId) (S0 : Nat) (Z : va_W) (b : Nat → Nat) (w : MU) (sg : St) (hF : MF cs w sg Z) (th : Int32) (v9 : Nat) (hv9 : v9 < sg.2.1.length) (y9i z : Int32) (hz : inB z (nI 1) (nI 32) = false)  : Met l yX3_weakSum wsX3_weakSum ({ frames := 2, cells := 0, slots := 0, locals := 43 }) (zM [.ref (b 0), .int (nI v9), .int y9i, .int z] (fun H => Wd D S0 (MW cs b w (th) sg Z) H) D cs) (va_Qi (fun r (v : MU × va_W) => ((2 : Nat) = 0 → r = nI 0) ∧ MF cs v.1 sg (v.2 ++ Z)) (fun v t => Wd D S0 (MW cs b v.1 (nI 2) sg (v.2 ++ Z)) t.heap) (SA S0)) 0 0 (SA S0) := by
  refine Met.ofW (cc := cX3_weakSum) (maxL := 4) (ret := (some .int)) (by decide) rfl ?_
  intro p e s m args below meth c s₁ B hml hv
  obtain ⟨rfl, hW, hK, hA9⟩ := hv
  have hx := B.exec
  have hb := B.bytes
  have hr := B.returns
  have hts := atoms_spec (ws := wsX3_weakSum) B.pre
  have hown : s.vm.findClass RX3 = some m.cls := findClass_of_methodNamed B.named
  have hlocks := B.notSynchronized
  have hRc : (headSpec wsX3_weakSum ({ frames := 2, cells := 0, slots := 0, locals := 43 })).room.cells = 0 := rfl
  have hRs : (headSpec wsX3_weakSum ({ frames := 2, cells := 0, slots := 0, locals := 43 })).room.slots = 0 := rfl
  have fl33 := hts (.fieldLink RX3 33 "DeltaUpdaterModel" "thrown" "I") (by decide +kernel)
  have in4 : ∀ w ∈ u_ws RX3 TX3 12, w ∈ wsX3_weakSum := by decide +kernel
  have hW : Wd D S0 (MW cs b w (th) sg Z) s.heap := hW
  have hS0 : S0 ≤ s.heap.size := hW.2.2
  have hS : va_S (SA S0) s.heap s.heap [] := va_S.rf
  have hl := lv_entry ([.ref (b 0), .int (nI v9), .int y9i, .int z]) (n := 4) (Nat.le_of_ble_eq_true rfl)
  rw [lg_entry_eq]
  generalize (lg_sl ([.ref (b 0), .int (nI v9), .int y9i, .int z]) ++ List.replicate (4 - (lg_sl ([.ref (b 0), .int (nI v9), .int y9i, .int z])).length) Slot.unset).toArray = ls at hl ⊢
  have hl : lv_has ls 4 [(0, .ref (b 0)), (1, .int (nI v9)), (2, .int y9i), (3, .int z)] := hl
  have hok := hF.2.2.2.2.2
  have hbl := hok.1.1
  have hnv := hok.2.1.1
  have hnp := hok.2.2.1.1
  have hnh := hok.2.2.2.2.1
  have hvi := vI_in hv9 (show sg.2.1.length < 2 ^ 30 by omega)
  refine lv_aload_n hx hb dX3_weakSum_0 rfl (lv_at hl 0 rfl) ?_
  refine lv_iconst (v := nI 0) hx hb dX3_weakSum_1 (by decide) ?_
  refine z_put (ty := .int) (ci := 4) (v := .int (nI 0)) (C := RX3) (T := TX3) (N := 12) hx hb hts in4 tyX3 tyX3_ok nmX3 hown hK hW hS 0 rfl rfl 0 (by decide) fl33 (fun _ h9 => h9) rfl (by decide +kernel) rfl rfl (Nat.le_of_ble_eq_true rfl) dX3_weakSum_2 (fun H locs hW hS => ?_)
  have hW : Wd D S0 (((b 0), .inr (4, [.int (nI 0), .int (nI sg.1.length), .ref (b 1), .int (nI sg.2.1.length), .ref (b 2), .int (nI sg.2.2.1.length), .ref (b 3), .ref (b 4), .ref (b 5), .ref (mI w), .int (nI sg.2.2.2.2.length), .ref (b 6)])) :: ((b 1), fa cs 400 (mf w)) :: ((b 2), qa cs 2 12 (mg w 0)) :: ((b 3), qa cs 2 12 (mg w 1)) :: ((b 4), qa cs 2 12 (mg w 2)) :: ((b 5), qa cs 2 12 (mg w 3)) :: ((b 6), qa cs 2 20 (mg w 4)) :: Z) H := hW
  refine lv_aload_n hx hb dX3_weakSum_5 rfl (lv_at hl 0 rfl) ?_
  refine lv_iload_n hx hb dX3_weakSum_6 rfl (lv_at hl 1 rfl) ?_
  refine z_csV (As := [.int (nI v9)]) (rest := []) ⟨hx, hb, hml, hown, hts⟩ (c_X3_isVersion l D cs (b 0) [.int (nI 0), .int (nI sg.1.length), .ref (b 1), .int (nI sg.2.1.length), .ref (b 2), .int (nI sg.2.2.1.length), .ref (b 3), .ref (b 4), .ref (b 5), .ref (mI w), .int (nI sg.2.2.2.2.length), .ref (b 6)] (nI v9) sg.2.1.length rfl) (cwV 1 hts gX3_weakSum_X3_isVersion rfl rfl rfl (by decide +kernel) ⟨Nat.le_of_ble_eq_true rfl, Nat.le_of_ble_eq_true rfl⟩) (hW.1 0 _ rfl) rfl (hW.1 0 _ rfl) hK rfl hl.1 rfl (Nat.le_of_ble_eq_true rfl) dX3_weakSum_7 ⟨(by rw [hRc]; omega), (by rw [hRs]; omega)⟩ (fun r hq9 => ?_)
  have hq9 : r = bI (vI (nI v9) sg.2.1.length) := hq9
  subst hq9
  refine z_ifb_ne (tgt := 19) hx hb dX3_weakSum_10 (by decide) (fun _ => ?_) (fun h9 => absurd (h9.symm.trans hvi) (by decide))
  refine lv_iload_n hx hb dX3_weakSum_19 rfl (lv_at hl 3 rfl) ?_
  refine lv_iconst (v := nI 1) hx hb dX3_weakSum_20 (by decide) ?_
  refine lv_bipush (v := nI 32) hx hb dX3_weakSum_21 (by decide) ?_
  refine z_csS (As := [.int z, .int (nI 1), .int (nI 32)]) (rest := []) ⟨hx, hb, hml, hown, hts⟩ (c_X3_isIn l D cs z (nI 1) (nI 32)) (va_cwS 3 hts gX3_weakSum_X3_isIn rfl rfl rfl (by decide +kernel) ⟨Nat.le_of_ble_eq_true rfl, Nat.le_of_ble_eq_true rfl⟩) trivial hK rfl hl.1 rfl (Nat.le_of_ble_eq_true rfl) dX3_weakSum_23 ⟨(by rw [hRc]; omega), (by rw [hRs]; omega)⟩ (fun r hq9 => ?_)
  have hq9 : r = bI (inB z (nI 1) (nI 32)) := hq9
  subst hq9
  refine z_ifb_eq (tgt := 46) hx hb dX3_weakSum_26 (by decide) (fun _ => ?_) (fun h9 => absurd (h9.symm.trans hz) (by decide))
  refine lv_aload_n hx hb dX3_weakSum_46 rfl (lv_at hl 0 rfl) ?_
  refine lv_iconst (v := nI 2) hx hb dX3_weakSum_47 (by decide) ?_
  refine z_cmI (va_runV (As := [.int (nI 2)]) (rest := []) ⟨hx, hb, hml, hown, hts⟩ (c_X3_fail l D cs S0 Z b w (nI 0) (nI 2) sg) (cwV 1 hts gX3_weakSum_X3_fail rfl rfl rfl (by decide +kernel) ⟨Nat.le_of_ble_eq_true rfl, Nat.le_of_ble_eq_true rfl⟩) ⟨zP_blind, z_recv hK (hW.1 0 _ rfl) rfl, (zP_pre hW hK)⟩ rfl rfl hl.1 rfl (lv_room (Nat.le_of_ble_eq_true rfl)) dX3_weakSum_48 ⟨(by rw [hRc]; omega), (by rw [hRs]; omega)⟩) hS (fun r u8 H locs hu hW hS => ?_)
  rw [hu]
  have hW : Wd D S0 (((b 0), .inr (4, [.int (nI 2), .int (nI sg.1.length), .ref (b 1), .int (nI sg.2.1.length), .ref (b 2), .int (nI sg.2.2.1.length), .ref (b 3), .ref (b 4), .ref (b 5), .ref (mI w), .int (nI sg.2.2.2.2.length), .ref (b 6)])) :: ((b 1), fa cs 400 (mf w)) :: ((b 2), qa cs 2 12 (mg w 0)) :: ((b 3), qa cs 2 12 (mg w 1)) :: ((b 4), qa cs 2 12 (mg w 2)) :: ((b 5), qa cs 2 12 (mg w 3)) :: ((b 6), qa cs 2 20 (mg w 4)) :: Z) H := hW
  refine W.widen (k := 0) (n := 0) (by omega) (by omega) ?_
  exact W.iret (v := nI 0) hx hb hr (fun t ht hW9 => ⟨⟨_, (w, []), rfl, ⟨fun h9 => absurd h9 (by decide), hF⟩, (by show Wd D S0 _ _; rw [ht]; exact hW)⟩, hS.F ht⟩) (fun q9 h9 => hS.2.2 q9 h9) dX3_weakSum_51

set_option maxHeartbeats 4000000 in
set_option maxRecDepth 100000 in
theorem c_X3_weakSum_c (l : Launch) (D : va_G) (cs : Nat → ClassId) (S0 : Nat) (Z : va_W) (b : Nat → Nat) (w : MU) (sg : St) (hF : MF cs w sg Z) (th : Int32) (v9 : Nat) (hv9 : v9 < sg.2.1.length) (n9 : Nat) (hn1 : 1 ≤ n9) (hn2 : n9 ≤ 32) (z : Int32) (hw : z < 0 ∨ nI (vsN sg.2.1 v9).length - nI n9 < z)  : Met l yX3_weakSum wsX3_weakSum ({ frames := 2, cells := 0, slots := 0, locals := 43 }) (zM [.ref (b 0), .int (nI v9), .int z, .int (nI n9)] (fun H => Wd D S0 (MW cs b w (th) sg Z) H) D cs) (va_Qi (fun r (v : MU × va_W) => ((2 : Nat) = 0 → r = nI 0) ∧ MF cs v.1 sg (v.2 ++ Z)) (fun v t => Wd D S0 (MW cs b v.1 (nI 2) sg (v.2 ++ Z)) t.heap) (SA S0)) 0 0 (SA S0) := by
  refine Met.ofW (cc := cX3_weakSum) (maxL := 4) (ret := (some .int)) (by decide) rfl ?_
  intro p e s m args below meth c s₁ B hml hv
  obtain ⟨rfl, hW, hK, hA9⟩ := hv
  have hx := B.exec
  have hb := B.bytes
  have hr := B.returns
  have hts := atoms_spec (ws := wsX3_weakSum) B.pre
  have hown : s.vm.findClass RX3 = some m.cls := findClass_of_methodNamed B.named
  have hlocks := B.notSynchronized
  have hRc : (headSpec wsX3_weakSum ({ frames := 2, cells := 0, slots := 0, locals := 43 })).room.cells = 0 := rfl
  have hRs : (headSpec wsX3_weakSum ({ frames := 2, cells := 0, slots := 0, locals := 43 })).room.slots = 0 := rfl
  have fl14 := hts (.fieldLink RX3 14 "DeltaUpdaterModel" "rows" "[[I") (by decide +kernel)
  have fl33 := hts (.fieldLink RX3 33 "DeltaUpdaterModel" "thrown" "I") (by decide +kernel)
  have in4 : ∀ w ∈ u_ws RX3 TX3 12, w ∈ wsX3_weakSum := by decide +kernel
  have hW : Wd D S0 (MW cs b w (th) sg Z) s.heap := hW
  have hS0 : S0 ≤ s.heap.size := hW.2.2
  have hS : va_S (SA S0) s.heap s.heap [] := va_S.rf
  have hl := lv_entry ([.ref (b 0), .int (nI v9), .int z, .int (nI n9)]) (n := 4) (Nat.le_of_ble_eq_true rfl)
  rw [lg_entry_eq]
  generalize (lg_sl ([.ref (b 0), .int (nI v9), .int z, .int (nI n9)]) ++ List.replicate (4 - (lg_sl ([.ref (b 0), .int (nI v9), .int z, .int (nI n9)])).length) Slot.unset).toArray = ls at hl ⊢
  have hl : lv_has ls 4 [(0, .ref (b 0)), (1, .int (nI v9)), (2, .int z), (3, .int (nI n9))] := hl
  have hok := hF.2.2.2.2.2
  have hbl := hok.1.1
  have hnv := hok.2.1.1
  have hnp := hok.2.2.1.1
  have hnh := hok.2.2.2.2.1
  have hvi := vI_in hv9 (show sg.2.1.length < 2 ^ 30 by omega)
  have hnb : inB (nI n9) (nI 1) (nI 32) = true := inB_in hn1 hn2 (by decide)
  have hln := (hok.2.1.2 v9 hv9).1
  refine lv_aload_n hx hb dX3_weakSum_0 rfl (lv_at hl 0 rfl) ?_
  refine lv_iconst (v := nI 0) hx hb dX3_weakSum_1 (by decide) ?_
  refine z_put (ty := .int) (ci := 4) (v := .int (nI 0)) (C := RX3) (T := TX3) (N := 12) hx hb hts in4 tyX3 tyX3_ok nmX3 hown hK hW hS 0 rfl rfl 0 (by decide) fl33 (fun _ h9 => h9) rfl (by decide +kernel) rfl rfl (Nat.le_of_ble_eq_true rfl) dX3_weakSum_2 (fun H locs hW hS => ?_)
  have hW : Wd D S0 (((b 0), .inr (4, [.int (nI 0), .int (nI sg.1.length), .ref (b 1), .int (nI sg.2.1.length), .ref (b 2), .int (nI sg.2.2.1.length), .ref (b 3), .ref (b 4), .ref (b 5), .ref (mI w), .int (nI sg.2.2.2.2.length), .ref (b 6)])) :: ((b 1), fa cs 400 (mf w)) :: ((b 2), qa cs 2 12 (mg w 0)) :: ((b 3), qa cs 2 12 (mg w 1)) :: ((b 4), qa cs 2 12 (mg w 2)) :: ((b 5), qa cs 2 12 (mg w 3)) :: ((b 6), qa cs 2 20 (mg w 4)) :: Z) H := hW
  refine lv_aload_n hx hb dX3_weakSum_5 rfl (lv_at hl 0 rfl) ?_
  refine lv_iload_n hx hb dX3_weakSum_6 rfl (lv_at hl 1 rfl) ?_
  refine z_csV (As := [.int (nI v9)]) (rest := []) ⟨hx, hb, hml, hown, hts⟩ (c_X3_isVersion l D cs (b 0) [.int (nI 0), .int (nI sg.1.length), .ref (b 1), .int (nI sg.2.1.length), .ref (b 2), .int (nI sg.2.2.1.length), .ref (b 3), .ref (b 4), .ref (b 5), .ref (mI w), .int (nI sg.2.2.2.2.length), .ref (b 6)] (nI v9) sg.2.1.length rfl) (cwV 1 hts gX3_weakSum_X3_isVersion rfl rfl rfl (by decide +kernel) ⟨Nat.le_of_ble_eq_true rfl, Nat.le_of_ble_eq_true rfl⟩) (hW.1 0 _ rfl) rfl (hW.1 0 _ rfl) hK rfl hl.1 rfl (Nat.le_of_ble_eq_true rfl) dX3_weakSum_7 ⟨(by rw [hRc]; omega), (by rw [hRs]; omega)⟩ (fun r hq9 => ?_)
  have hq9 : r = bI (vI (nI v9) sg.2.1.length) := hq9
  subst hq9
  refine z_ifb_ne (tgt := 19) hx hb dX3_weakSum_10 (by decide) (fun _ => ?_) (fun h9 => absurd (h9.symm.trans hvi) (by decide))
  refine lv_iload_n hx hb dX3_weakSum_19 rfl (lv_at hl 3 rfl) ?_
  refine lv_iconst (v := nI 1) hx hb dX3_weakSum_20 (by decide) ?_
  refine lv_bipush (v := nI 32) hx hb dX3_weakSum_21 (by decide) ?_
  refine z_csS (As := [.int (nI n9), .int (nI 1), .int (nI 32)]) (rest := []) ⟨hx, hb, hml, hown, hts⟩ (c_X3_isIn l D cs (nI n9) (nI 1) (nI 32)) (va_cwS 3 hts gX3_weakSum_X3_isIn rfl rfl rfl (by decide +kernel) ⟨Nat.le_of_ble_eq_true rfl, Nat.le_of_ble_eq_true rfl⟩) trivial hK rfl hl.1 rfl (Nat.le_of_ble_eq_true rfl) dX3_weakSum_23 ⟨(by rw [hRc]; omega), (by rw [hRs]; omega)⟩ (fun r hq9 => ?_)
  have hq9 : r = bI (inB (nI n9) (nI 1) (nI 32)) := hq9
  subst hq9
  refine z_ifb_eq (tgt := 46) hx hb dX3_weakSum_26 (by decide) (fun h9 => absurd (h9.symm.trans hnb) (by decide)) (fun _ => ?_)
  refine lv_iload_n hx hb dX3_weakSum_29 rfl (lv_at hl 2 rfl) ?_
  refine lv_if_lt (tgt := 46) hx hb dX3_weakSum_30 (by decide) (fun hc30 => ?_) (fun hc30 => ?_)
  · skip
    have hc30 : z < 0 := hc30
    refine lv_aload_n hx hb dX3_weakSum_46 rfl (lv_at hl 0 rfl) ?_
    refine lv_iconst (v := nI 2) hx hb dX3_weakSum_47 (by decide) ?_
    refine z_cmI (va_runV (As := [.int (nI 2)]) (rest := []) ⟨hx, hb, hml, hown, hts⟩ (c_X3_fail l D cs S0 Z b w (nI 0) (nI 2) sg) (cwV 1 hts gX3_weakSum_X3_fail rfl rfl rfl (by decide +kernel) ⟨Nat.le_of_ble_eq_true rfl, Nat.le_of_ble_eq_true rfl⟩) ⟨zP_blind, z_recv hK (hW.1 0 _ rfl) rfl, (zP_pre hW hK)⟩ rfl rfl hl.1 rfl (lv_room (Nat.le_of_ble_eq_true rfl)) dX3_weakSum_48 ⟨(by rw [hRc]; omega), (by rw [hRs]; omega)⟩) hS (fun r u8 H locs hu hW hS => ?_)
    rw [hu]
    have hW : Wd D S0 (((b 0), .inr (4, [.int (nI 2), .int (nI sg.1.length), .ref (b 1), .int (nI sg.2.1.length), .ref (b 2), .int (nI sg.2.2.1.length), .ref (b 3), .ref (b 4), .ref (b 5), .ref (mI w), .int (nI sg.2.2.2.2.length), .ref (b 6)])) :: ((b 1), fa cs 400 (mf w)) :: ((b 2), qa cs 2 12 (mg w 0)) :: ((b 3), qa cs 2 12 (mg w 1)) :: ((b 4), qa cs 2 12 (mg w 2)) :: ((b 5), qa cs 2 12 (mg w 3)) :: ((b 6), qa cs 2 20 (mg w 4)) :: Z) H := hW
    refine W.widen (k := 0) (n := 0) (by omega) (by omega) ?_
    exact W.iret (v := nI 0) hx hb hr (fun t ht hW9 => ⟨⟨_, (w, []), rfl, ⟨fun h9 => absurd h9 (by decide), hF⟩, (by show Wd D S0 _ _; rw [ht]; exact hW)⟩, hS.F ht⟩) (fun q9 h9 => hS.2.2 q9 h9) dX3_weakSum_51
  · skip
    have hc30 : ¬ z < 0 := hc30
    refine lv_iload_n hx hb dX3_weakSum_33 rfl (lv_at hl 2 rfl) ?_
    refine lv_aload_n hx hb dX3_weakSum_34 rfl (lv_at hl 0 rfl) ?_
    refine z_get (ci := 4) (v := .ref (b 2)) (C := RX3) (T := TX3) (N := 12) hx hb hts in4 hown hK (hW.1 0 _ rfl) rfl 4 (by decide) fl14 (fun _ h9 => h9) rfl dX3_weakSum_35 ?_
    refine lv_iload_n hx hb dX3_weakSum_38 rfl (lv_at hl 1 rfl) ?_
    refine z_aald (k := v9) (y := (mA w 0 v9)) (t0 := 2) hx hb hK (hW.1 2 _ rfl) rfl rfl (by omega) (by omega) (hF.2.1 v9 hv9).1 dX3_weakSum_39 ?_
    refine z_alen (n := ((vsN sg.2.1 v9).length)) hx hb hK (hW.mem (List.mem_cons_of_mem _ (List.mem_cons_of_mem _ (List.mem_cons_of_mem _ (List.mem_cons_of_mem _ (List.mem_cons_of_mem _ (List.mem_cons_of_mem _ (List.mem_cons_of_mem _ (hF.2.1 v9 hv9).2)))))))) dX3_weakSum_40 ?_
    refine lv_iload_n hx hb dX3_weakSum_41 rfl (lv_at hl 3 rfl) ?_
    refine lv_isub hx hb dX3_weakSum_42 ?_
    refine lv_icmp_le (tgt := 52) hx hb dX3_weakSum_43 (by decide) (fun hc43 => ?_) (fun hc43 => ?_)
    · skip
      have hc43 : z ≤ ((nI ((vsN sg.2.1 v9).length)) - (nI n9)) := hc43
      rcases hw with h9 | h9
      · exact absurd h9 hc30
      · exact absurd hc43 (Int32.not_le.mpr h9)
    · skip
      have hc43 : ¬ z ≤ ((nI ((vsN sg.2.1 v9).length)) - (nI n9)) := hc43
      refine lv_aload_n hx hb dX3_weakSum_46 rfl (lv_at hl 0 rfl) ?_
      refine lv_iconst (v := nI 2) hx hb dX3_weakSum_47 (by decide) ?_
      refine z_cmI (va_runV (As := [.int (nI 2)]) (rest := []) ⟨hx, hb, hml, hown, hts⟩ (c_X3_fail l D cs S0 Z b w (nI 0) (nI 2) sg) (cwV 1 hts gX3_weakSum_X3_fail rfl rfl rfl (by decide +kernel) ⟨Nat.le_of_ble_eq_true rfl, Nat.le_of_ble_eq_true rfl⟩) ⟨zP_blind, z_recv hK (hW.1 0 _ rfl) rfl, (zP_pre hW hK)⟩ rfl rfl hl.1 rfl (lv_room (Nat.le_of_ble_eq_true rfl)) dX3_weakSum_48 ⟨(by rw [hRc]; omega), (by rw [hRs]; omega)⟩) hS (fun r u8 H locs hu hW hS => ?_)
      rw [hu]
      have hW : Wd D S0 (((b 0), .inr (4, [.int (nI 2), .int (nI sg.1.length), .ref (b 1), .int (nI sg.2.1.length), .ref (b 2), .int (nI sg.2.2.1.length), .ref (b 3), .ref (b 4), .ref (b 5), .ref (mI w), .int (nI sg.2.2.2.2.length), .ref (b 6)])) :: ((b 1), fa cs 400 (mf w)) :: ((b 2), qa cs 2 12 (mg w 0)) :: ((b 3), qa cs 2 12 (mg w 1)) :: ((b 4), qa cs 2 12 (mg w 2)) :: ((b 5), qa cs 2 12 (mg w 3)) :: ((b 6), qa cs 2 20 (mg w 4)) :: Z) H := hW
      refine W.widen (k := 0) (n := 0) (by omega) (by omega) ?_
      exact W.iret (v := nI 0) hx hb hr (fun t ht hW9 => ⟨⟨_, (w, []), rfl, ⟨fun h9 => absurd h9 (by decide), hF⟩, (by show Wd D S0 _ _; rw [ht]; exact hW)⟩, hS.F ht⟩) (fun q9 h9 => hS.2.2 q9 h9) dX3_weakSum_51

set_option maxHeartbeats 4000000 in
set_option maxRecDepth 100000 in
theorem c_X3_weakSum (l : Launch) (D : va_G) (cs : Nat → ClassId) (S0 : Nat) (Z : va_W) (b : Nat → Nat) (w : MU) (sg : St) (hF : MF cs w sg Z) (th : Int32) (v9 : Nat) (hv9 : v9 < sg.2.1.length) (n9 : Nat) (hn1 : 1 ≤ n9) (hn2 : n9 ≤ 32) (k9 : Nat) (hkn : k9 + n9 ≤ (vsN sg.2.1 v9).length)  : Met l yX3_weakSum wsX3_weakSum ({ frames := 2, cells := 0, slots := 0, locals := 43 }) (zM [.ref (b 0), .int (nI v9), .int (nI k9), .int (nI n9)] (fun H => Wd D S0 (MW cs b w (th) sg Z) H) D cs) (va_Qi (fun r (v : MU × va_W) => ((0 : Nat) = 0 → r = nI (wsum (bv (vsN sg.2.1 v9)) k9 n9)) ∧ MF cs v.1 sg (v.2 ++ Z)) (fun v t => Wd D S0 (MW cs b v.1 (nI 0) sg (v.2 ++ Z)) t.heap) (SA S0)) 0 0 (SA S0) := by
  refine Met.ofW (cc := cX3_weakSum) (maxL := 4) (ret := (some .int)) (by decide) rfl ?_
  intro p e s m args below meth c s₁ B hml hv
  obtain ⟨rfl, hW, hK, hA9⟩ := hv
  have hx := B.exec
  have hb := B.bytes
  have hr := B.returns
  have hts := atoms_spec (ws := wsX3_weakSum) B.pre
  have hown : s.vm.findClass RX3 = some m.cls := findClass_of_methodNamed B.named
  have hlocks := B.notSynchronized
  have hRc : (headSpec wsX3_weakSum ({ frames := 2, cells := 0, slots := 0, locals := 43 })).room.cells = 0 := rfl
  have hRs : (headSpec wsX3_weakSum ({ frames := 2, cells := 0, slots := 0, locals := 43 })).room.slots = 0 := rfl
  have fl14 := hts (.fieldLink RX3 14 "DeltaUpdaterModel" "rows" "[[I") (by decide +kernel)
  have fl33 := hts (.fieldLink RX3 33 "DeltaUpdaterModel" "thrown" "I") (by decide +kernel)
  have in4 : ∀ w ∈ u_ws RX3 TX3 12, w ∈ wsX3_weakSum := by decide +kernel
  have hW : Wd D S0 (MW cs b w (th) sg Z) s.heap := hW
  have hS0 : S0 ≤ s.heap.size := hW.2.2
  have hS : va_S (SA S0) s.heap s.heap [] := va_S.rf
  have hl := lv_entry ([.ref (b 0), .int (nI v9), .int (nI k9), .int (nI n9)]) (n := 4) (Nat.le_of_ble_eq_true rfl)
  rw [lg_entry_eq]
  generalize (lg_sl ([.ref (b 0), .int (nI v9), .int (nI k9), .int (nI n9)]) ++ List.replicate (4 - (lg_sl ([.ref (b 0), .int (nI v9), .int (nI k9), .int (nI n9)])).length) Slot.unset).toArray = ls at hl ⊢
  have hl : lv_has ls 4 [(0, .ref (b 0)), (1, .int (nI v9)), (2, .int (nI k9)), (3, .int (nI n9))] := hl
  have hok := hF.2.2.2.2.2
  have hbl := hok.1.1
  have hnv := hok.2.1.1
  have hnp := hok.2.2.1.1
  have hnh := hok.2.2.2.2.1
  have hvi := vI_in hv9 (show sg.2.1.length < 2 ^ 30 by omega)
  have hnb : inB (nI n9) (nI 1) (nI 32) = true := inB_in hn1 hn2 (by decide)
  have hln := (hok.2.1.2 v9 hv9).1
  refine lv_aload_n hx hb dX3_weakSum_0 rfl (lv_at hl 0 rfl) ?_
  refine lv_iconst (v := nI 0) hx hb dX3_weakSum_1 (by decide) ?_
  refine z_put (ty := .int) (ci := 4) (v := .int (nI 0)) (C := RX3) (T := TX3) (N := 12) hx hb hts in4 tyX3 tyX3_ok nmX3 hown hK hW hS 0 rfl rfl 0 (by decide) fl33 (fun _ h9 => h9) rfl (by decide +kernel) rfl rfl (Nat.le_of_ble_eq_true rfl) dX3_weakSum_2 (fun H locs hW hS => ?_)
  have hW : Wd D S0 (((b 0), .inr (4, [.int (nI 0), .int (nI sg.1.length), .ref (b 1), .int (nI sg.2.1.length), .ref (b 2), .int (nI sg.2.2.1.length), .ref (b 3), .ref (b 4), .ref (b 5), .ref (mI w), .int (nI sg.2.2.2.2.length), .ref (b 6)])) :: ((b 1), fa cs 400 (mf w)) :: ((b 2), qa cs 2 12 (mg w 0)) :: ((b 3), qa cs 2 12 (mg w 1)) :: ((b 4), qa cs 2 12 (mg w 2)) :: ((b 5), qa cs 2 12 (mg w 3)) :: ((b 6), qa cs 2 20 (mg w 4)) :: Z) H := hW
  refine lv_aload_n hx hb dX3_weakSum_5 rfl (lv_at hl 0 rfl) ?_
  refine lv_iload_n hx hb dX3_weakSum_6 rfl (lv_at hl 1 rfl) ?_
  refine z_csV (As := [.int (nI v9)]) (rest := []) ⟨hx, hb, hml, hown, hts⟩ (c_X3_isVersion l D cs (b 0) [.int (nI 0), .int (nI sg.1.length), .ref (b 1), .int (nI sg.2.1.length), .ref (b 2), .int (nI sg.2.2.1.length), .ref (b 3), .ref (b 4), .ref (b 5), .ref (mI w), .int (nI sg.2.2.2.2.length), .ref (b 6)] (nI v9) sg.2.1.length rfl) (cwV 1 hts gX3_weakSum_X3_isVersion rfl rfl rfl (by decide +kernel) ⟨Nat.le_of_ble_eq_true rfl, Nat.le_of_ble_eq_true rfl⟩) (hW.1 0 _ rfl) rfl (hW.1 0 _ rfl) hK rfl hl.1 rfl (Nat.le_of_ble_eq_true rfl) dX3_weakSum_7 ⟨(by rw [hRc]; omega), (by rw [hRs]; omega)⟩ (fun r hq9 => ?_)
  have hq9 : r = bI (vI (nI v9) sg.2.1.length) := hq9
  subst hq9
  refine z_ifb_ne (tgt := 19) hx hb dX3_weakSum_10 (by decide) (fun _ => ?_) (fun h9 => absurd (h9.symm.trans hvi) (by decide))
  refine lv_iload_n hx hb dX3_weakSum_19 rfl (lv_at hl 3 rfl) ?_
  refine lv_iconst (v := nI 1) hx hb dX3_weakSum_20 (by decide) ?_
  refine lv_bipush (v := nI 32) hx hb dX3_weakSum_21 (by decide) ?_
  refine z_csS (As := [.int (nI n9), .int (nI 1), .int (nI 32)]) (rest := []) ⟨hx, hb, hml, hown, hts⟩ (c_X3_isIn l D cs (nI n9) (nI 1) (nI 32)) (va_cwS 3 hts gX3_weakSum_X3_isIn rfl rfl rfl (by decide +kernel) ⟨Nat.le_of_ble_eq_true rfl, Nat.le_of_ble_eq_true rfl⟩) trivial hK rfl hl.1 rfl (Nat.le_of_ble_eq_true rfl) dX3_weakSum_23 ⟨(by rw [hRc]; omega), (by rw [hRs]; omega)⟩ (fun r hq9 => ?_)
  have hq9 : r = bI (inB (nI n9) (nI 1) (nI 32)) := hq9
  subst hq9
  refine z_ifb_eq (tgt := 46) hx hb dX3_weakSum_26 (by decide) (fun h9 => absurd (h9.symm.trans hnb) (by decide)) (fun _ => ?_)
  refine lv_iload_n hx hb dX3_weakSum_29 rfl (lv_at hl 2 rfl) ?_
  refine z_ifn_lt (tgt := 46) hx hb (by omega) dX3_weakSum_30 (by decide) ?_
  refine lv_iload_n hx hb dX3_weakSum_33 rfl (lv_at hl 2 rfl) ?_
  refine lv_aload_n hx hb dX3_weakSum_34 rfl (lv_at hl 0 rfl) ?_
  refine z_get (ci := 4) (v := .ref (b 2)) (C := RX3) (T := TX3) (N := 12) hx hb hts in4 hown hK (hW.1 0 _ rfl) rfl 4 (by decide) fl14 (fun _ h9 => h9) rfl dX3_weakSum_35 ?_
  refine lv_iload_n hx hb dX3_weakSum_38 rfl (lv_at hl 1 rfl) ?_
  refine z_aald (k := v9) (y := (mA w 0 v9)) (t0 := 2) hx hb hK (hW.1 2 _ rfl) rfl rfl (by omega) (by omega) (hF.2.1 v9 hv9).1 dX3_weakSum_39 ?_
  refine z_alen (n := ((vsN sg.2.1 v9).length)) hx hb hK (hW.mem (List.mem_cons_of_mem _ (List.mem_cons_of_mem _ (List.mem_cons_of_mem _ (List.mem_cons_of_mem _ (List.mem_cons_of_mem _ (List.mem_cons_of_mem _ (List.mem_cons_of_mem _ (hF.2.1 v9 hv9).2)))))))) dX3_weakSum_40 ?_
  refine lv_iload_n hx hb dX3_weakSum_41 rfl (lv_at hl 3 rfl) ?_
  refine lv_isub hx hb dX3_weakSum_42 ?_
  refine zti (pk_sub (by omega)) (y := nI (((vsN sg.2.1 v9).length) - n9)) ?_
  refine z_icmp_le (tgt := 52) hx hb (by omega) (by omega) dX3_weakSum_43 (by decide) (fun hc43 => ?_) (fun hc43 => ?_)
  · skip
    have hc43 : k9 ≤ ((vsN sg.2.1 v9).length) - n9 := hc43
    refine lv_aload_n hx hb dX3_weakSum_52 rfl (lv_at hl 0 rfl) ?_
    refine z_get (ci := 4) (v := .ref (b 2)) (C := RX3) (T := TX3) (N := 12) hx hb hts in4 hown hK (hW.1 0 _ rfl) rfl 4 (by decide) fl14 (fun _ h9 => h9) rfl dX3_weakSum_53 ?_
    refine lv_iload_n hx hb dX3_weakSum_56 rfl (lv_at hl 1 rfl) ?_
    refine z_aald (k := v9) (y := (mA w 0 v9)) (t0 := 2) hx hb hK (hW.1 2 _ rfl) rfl rfl (by omega) (by omega) (hF.2.1 v9 hv9).1 dX3_weakSum_57 ?_
    refine lv_iload_n hx hb dX3_weakSum_58 rfl (lv_at hl 2 rfl) ?_
    refine lv_iload_n hx hb dX3_weakSum_59 rfl (lv_at hl 3 rfl) ?_
    refine z_csS (As := [.ref (mA w 0 v9), .int (nI k9), .int (nI n9)]) (rest := []) ⟨hx, hb, hml, hown, hts⟩ (c_X3_sumOf l D cs (mA w 0 v9) (vsN sg.2.1 v9).length (bv (vsN sg.2.1 v9)) (hok.2.1.2 v9 hv9).2 k9 n9 hkn (by omega) (by omega)) (va_cwS 3 hts gX3_weakSum_X3_sumOf rfl rfl rfl (by decide +kernel) ⟨Nat.le_of_ble_eq_true rfl, Nat.le_of_ble_eq_true rfl⟩) (hW.mem (List.mem_cons_of_mem _ (List.mem_cons_of_mem _ (List.mem_cons_of_mem _ (List.mem_cons_of_mem _ (List.mem_cons_of_mem _ (List.mem_cons_of_mem _ (List.mem_cons_of_mem _ (hF.2.1 v9 hv9).2)))))))) hK rfl hl.1 rfl (Nat.le_of_ble_eq_true rfl) dX3_weakSum_60 ⟨(by rw [hRc]; omega), (by rw [hRs]; omega)⟩ (fun r hq9 => ?_)
    have hq9 : r = nI (wsum (bv (vsN sg.2.1 v9)) k9 n9) := hq9
    subst hq9
    refine W.widen (k := 0) (n := 0) (by omega) (by omega) ?_
    exact W.iret (v := nI (wsum (bv (vsN sg.2.1 v9)) k9 n9)) hx hb hr (fun t ht hW9 => ⟨⟨_, (w, []), rfl, ⟨fun _ => rfl, hF⟩, (by show Wd D S0 _ _; rw [ht]; exact hW)⟩, hS.F ht⟩) (fun q9 h9 => hS.2.2 q9 h9) dX3_weakSum_63
  · skip
    have hc43 : ((vsN sg.2.1 v9).length) - n9 < k9 := hc43
    omega

set_option maxHeartbeats 4000000 in
set_option maxRecDepth 100000 in
theorem c_X3_differentBlocks_a (l : Launch) (D : va_G) (cs : Nat → ClassId) (S0 : Nat) (Z : va_W) (b : Nat → Nat) (w : MU) (sg : St) (hF : MF cs w sg Z) (th : Int32) (v : Int32) (hv : vI v sg.2.1.length = false) (w9i : Int32)  : Met l yX3_differentBlocks wsX3_differentBlocks ({ frames := 2, cells := 0, slots := 0, locals := 43 }) (zM [.ref (b 0), .int v, .int w9i] (fun H => Wd D S0 (MW cs b w (th) sg Z) H) D cs) (va_Qi (fun r (v : MU × va_W) => ((1 : Nat) = 0 → r = nI 0) ∧ MF cs v.1 sg (v.2 ++ Z)) (fun v t => Wd D S0 (MW cs b v.1 (nI 1) sg (v.2 ++ Z)) t.heap) (SA S0)) 0 0 (SA S0) := by
  refine Met.ofW (cc := cX3_differentBlocks) (maxL := 6) (ret := (some .int)) (by decide) rfl ?_
  intro p e s m args below meth c s₁ B hml hv
  obtain ⟨rfl, hW, hK, hA9⟩ := hv
  have hx := B.exec
  have hb := B.bytes
  have hr := B.returns
  have hts := atoms_spec (ws := wsX3_differentBlocks) B.pre
  have hown : s.vm.findClass RX3 = some m.cls := findClass_of_methodNamed B.named
  have hlocks := B.notSynchronized
  have hRc : (headSpec wsX3_differentBlocks ({ frames := 2, cells := 0, slots := 0, locals := 43 })).room.cells = 0 := rfl
  have hRs : (headSpec wsX3_differentBlocks ({ frames := 2, cells := 0, slots := 0, locals := 43 })).room.slots = 0 := rfl
  have fl33 := hts (.fieldLink RX3 33 "DeltaUpdaterModel" "thrown" "I") (by decide +kernel)
  have in4 : ∀ w ∈ u_ws RX3 TX3 12, w ∈ wsX3_differentBlocks := by decide +kernel
  have hW : Wd D S0 (MW cs b w (th) sg Z) s.heap := hW
  have hS0 : S0 ≤ s.heap.size := hW.2.2
  have hS : va_S (SA S0) s.heap s.heap [] := va_S.rf
  have hl := lv_entry ([.ref (b 0), .int v, .int w9i]) (n := 6) (Nat.le_of_ble_eq_true rfl)
  rw [lg_entry_eq]
  generalize (lg_sl ([.ref (b 0), .int v, .int w9i]) ++ List.replicate (6 - (lg_sl ([.ref (b 0), .int v, .int w9i])).length) Slot.unset).toArray = ls at hl ⊢
  have hl : lv_has ls 6 [(0, .ref (b 0)), (1, .int v), (2, .int w9i)] := hl
  have hok := hF.2.2.2.2.2
  have hbl := hok.1.1
  have hnv := hok.2.1.1
  have hnp := hok.2.2.1.1
  have hnh := hok.2.2.2.2.1
  refine lv_aload_n hx hb dX3_differentBlocks_0 rfl (lv_at hl 0 rfl) ?_
  refine lv_iconst (v := nI 0) hx hb dX3_differentBlocks_1 (by decide) ?_
  refine z_put (ty := .int) (ci := 4) (v := .int (nI 0)) (C := RX3) (T := TX3) (N := 12) hx hb hts in4 tyX3 tyX3_ok nmX3 hown hK hW hS 0 rfl rfl 0 (by decide) fl33 (fun _ h9 => h9) rfl (by decide +kernel) rfl rfl (Nat.le_of_ble_eq_true rfl) dX3_differentBlocks_2 (fun H locs hW hS => ?_)
  have hW : Wd D S0 (((b 0), .inr (4, [.int (nI 0), .int (nI sg.1.length), .ref (b 1), .int (nI sg.2.1.length), .ref (b 2), .int (nI sg.2.2.1.length), .ref (b 3), .ref (b 4), .ref (b 5), .ref (mI w), .int (nI sg.2.2.2.2.length), .ref (b 6)])) :: ((b 1), fa cs 400 (mf w)) :: ((b 2), qa cs 2 12 (mg w 0)) :: ((b 3), qa cs 2 12 (mg w 1)) :: ((b 4), qa cs 2 12 (mg w 2)) :: ((b 5), qa cs 2 12 (mg w 3)) :: ((b 6), qa cs 2 20 (mg w 4)) :: Z) H := hW
  refine lv_aload_n hx hb dX3_differentBlocks_5 rfl (lv_at hl 0 rfl) ?_
  refine lv_iload_n hx hb dX3_differentBlocks_6 rfl (lv_at hl 1 rfl) ?_
  refine z_csV (As := [.int v]) (rest := []) ⟨hx, hb, hml, hown, hts⟩ (c_X3_isVersion l D cs (b 0) [.int (nI 0), .int (nI sg.1.length), .ref (b 1), .int (nI sg.2.1.length), .ref (b 2), .int (nI sg.2.2.1.length), .ref (b 3), .ref (b 4), .ref (b 5), .ref (mI w), .int (nI sg.2.2.2.2.length), .ref (b 6)] v sg.2.1.length rfl) (cwV 1 hts gX3_differentBlocks_X3_isVersion rfl rfl rfl (by decide +kernel) ⟨Nat.le_of_ble_eq_true rfl, Nat.le_of_ble_eq_true rfl⟩) (hW.1 0 _ rfl) rfl (hW.1 0 _ rfl) hK rfl hl.1 rfl (Nat.le_of_ble_eq_true rfl) dX3_differentBlocks_7 ⟨(by rw [hRc]; omega), (by rw [hRs]; omega)⟩ (fun r hq9 => ?_)
  have hq9 : r = bI (vI v sg.2.1.length) := hq9
  subst hq9
  refine z_ifb_ne (tgt := 19) hx hb dX3_differentBlocks_10 (by decide) (fun h9 => absurd (h9.symm.trans hv) (by decide)) (fun _ => ?_)
  refine lv_aload_n hx hb dX3_differentBlocks_13 rfl (lv_at hl 0 rfl) ?_
  refine lv_iconst (v := nI 1) hx hb dX3_differentBlocks_14 (by decide) ?_
  refine z_cmI (va_runV (As := [.int (nI 1)]) (rest := []) ⟨hx, hb, hml, hown, hts⟩ (c_X3_fail l D cs S0 Z b w (nI 0) (nI 1) sg) (cwV 1 hts gX3_differentBlocks_X3_fail rfl rfl rfl (by decide +kernel) ⟨Nat.le_of_ble_eq_true rfl, Nat.le_of_ble_eq_true rfl⟩) ⟨zP_blind, z_recv hK (hW.1 0 _ rfl) rfl, (zP_pre hW hK)⟩ rfl rfl hl.1 rfl (lv_room (Nat.le_of_ble_eq_true rfl)) dX3_differentBlocks_15 ⟨(by rw [hRc]; omega), (by rw [hRs]; omega)⟩) hS (fun r u8 H locs hu hW hS => ?_)
  rw [hu]
  have hW : Wd D S0 (((b 0), .inr (4, [.int (nI 1), .int (nI sg.1.length), .ref (b 1), .int (nI sg.2.1.length), .ref (b 2), .int (nI sg.2.2.1.length), .ref (b 3), .ref (b 4), .ref (b 5), .ref (mI w), .int (nI sg.2.2.2.2.length), .ref (b 6)])) :: ((b 1), fa cs 400 (mf w)) :: ((b 2), qa cs 2 12 (mg w 0)) :: ((b 3), qa cs 2 12 (mg w 1)) :: ((b 4), qa cs 2 12 (mg w 2)) :: ((b 5), qa cs 2 12 (mg w 3)) :: ((b 6), qa cs 2 20 (mg w 4)) :: Z) H := hW
  refine W.widen (k := 0) (n := 0) (by omega) (by omega) ?_
  exact W.iret (v := nI 0) hx hb hr (fun t ht hW9 => ⟨⟨_, (w, []), rfl, ⟨fun h9 => absurd h9 (by decide), hF⟩, (by show Wd D S0 _ _; rw [ht]; exact hW)⟩, hS.F ht⟩) (fun q9 h9 => hS.2.2 q9 h9) dX3_differentBlocks_18

set_option maxHeartbeats 4000000 in
set_option maxRecDepth 100000 in
theorem c_X3_differentBlocks_b (l : Launch) (D : va_G) (cs : Nat → ClassId) (S0 : Nat) (Z : va_W) (b : Nat → Nat) (w : MU) (sg : St) (hF : MF cs w sg Z) (th : Int32) (v9 : Nat) (hv9 : v9 < sg.2.1.length) (z : Int32) (hz : inB z (nI 2) (nI 32) = false)  : Met l yX3_differentBlocks wsX3_differentBlocks ({ frames := 2, cells := 0, slots := 0, locals := 43 }) (zM [.ref (b 0), .int (nI v9), .int z] (fun H => Wd D S0 (MW cs b w (th) sg Z) H) D cs) (va_Qi (fun r (v : MU × va_W) => ((2 : Nat) = 0 → r = nI 0) ∧ MF cs v.1 sg (v.2 ++ Z)) (fun v t => Wd D S0 (MW cs b v.1 (nI 2) sg (v.2 ++ Z)) t.heap) (SA S0)) 0 0 (SA S0) := by
  refine Met.ofW (cc := cX3_differentBlocks) (maxL := 6) (ret := (some .int)) (by decide) rfl ?_
  intro p e s m args below meth c s₁ B hml hv
  obtain ⟨rfl, hW, hK, hA9⟩ := hv
  have hx := B.exec
  have hb := B.bytes
  have hr := B.returns
  have hts := atoms_spec (ws := wsX3_differentBlocks) B.pre
  have hown : s.vm.findClass RX3 = some m.cls := findClass_of_methodNamed B.named
  have hlocks := B.notSynchronized
  have hRc : (headSpec wsX3_differentBlocks ({ frames := 2, cells := 0, slots := 0, locals := 43 })).room.cells = 0 := rfl
  have hRs : (headSpec wsX3_differentBlocks ({ frames := 2, cells := 0, slots := 0, locals := 43 })).room.slots = 0 := rfl
  have fl33 := hts (.fieldLink RX3 33 "DeltaUpdaterModel" "thrown" "I") (by decide +kernel)
  have in4 : ∀ w ∈ u_ws RX3 TX3 12, w ∈ wsX3_differentBlocks := by decide +kernel
  have hW : Wd D S0 (MW cs b w (th) sg Z) s.heap := hW
  have hS0 : S0 ≤ s.heap.size := hW.2.2
  have hS : va_S (SA S0) s.heap s.heap [] := va_S.rf
  have hl := lv_entry ([.ref (b 0), .int (nI v9), .int z]) (n := 6) (Nat.le_of_ble_eq_true rfl)
  rw [lg_entry_eq]
  generalize (lg_sl ([.ref (b 0), .int (nI v9), .int z]) ++ List.replicate (6 - (lg_sl ([.ref (b 0), .int (nI v9), .int z])).length) Slot.unset).toArray = ls at hl ⊢
  have hl : lv_has ls 6 [(0, .ref (b 0)), (1, .int (nI v9)), (2, .int z)] := hl
  have hok := hF.2.2.2.2.2
  have hbl := hok.1.1
  have hnv := hok.2.1.1
  have hnp := hok.2.2.1.1
  have hnh := hok.2.2.2.2.1
  have hvi := vI_in hv9 (show sg.2.1.length < 2 ^ 30 by omega)
  refine lv_aload_n hx hb dX3_differentBlocks_0 rfl (lv_at hl 0 rfl) ?_
  refine lv_iconst (v := nI 0) hx hb dX3_differentBlocks_1 (by decide) ?_
  refine z_put (ty := .int) (ci := 4) (v := .int (nI 0)) (C := RX3) (T := TX3) (N := 12) hx hb hts in4 tyX3 tyX3_ok nmX3 hown hK hW hS 0 rfl rfl 0 (by decide) fl33 (fun _ h9 => h9) rfl (by decide +kernel) rfl rfl (Nat.le_of_ble_eq_true rfl) dX3_differentBlocks_2 (fun H locs hW hS => ?_)
  have hW : Wd D S0 (((b 0), .inr (4, [.int (nI 0), .int (nI sg.1.length), .ref (b 1), .int (nI sg.2.1.length), .ref (b 2), .int (nI sg.2.2.1.length), .ref (b 3), .ref (b 4), .ref (b 5), .ref (mI w), .int (nI sg.2.2.2.2.length), .ref (b 6)])) :: ((b 1), fa cs 400 (mf w)) :: ((b 2), qa cs 2 12 (mg w 0)) :: ((b 3), qa cs 2 12 (mg w 1)) :: ((b 4), qa cs 2 12 (mg w 2)) :: ((b 5), qa cs 2 12 (mg w 3)) :: ((b 6), qa cs 2 20 (mg w 4)) :: Z) H := hW
  refine lv_aload_n hx hb dX3_differentBlocks_5 rfl (lv_at hl 0 rfl) ?_
  refine lv_iload_n hx hb dX3_differentBlocks_6 rfl (lv_at hl 1 rfl) ?_
  refine z_csV (As := [.int (nI v9)]) (rest := []) ⟨hx, hb, hml, hown, hts⟩ (c_X3_isVersion l D cs (b 0) [.int (nI 0), .int (nI sg.1.length), .ref (b 1), .int (nI sg.2.1.length), .ref (b 2), .int (nI sg.2.2.1.length), .ref (b 3), .ref (b 4), .ref (b 5), .ref (mI w), .int (nI sg.2.2.2.2.length), .ref (b 6)] (nI v9) sg.2.1.length rfl) (cwV 1 hts gX3_differentBlocks_X3_isVersion rfl rfl rfl (by decide +kernel) ⟨Nat.le_of_ble_eq_true rfl, Nat.le_of_ble_eq_true rfl⟩) (hW.1 0 _ rfl) rfl (hW.1 0 _ rfl) hK rfl hl.1 rfl (Nat.le_of_ble_eq_true rfl) dX3_differentBlocks_7 ⟨(by rw [hRc]; omega), (by rw [hRs]; omega)⟩ (fun r hq9 => ?_)
  have hq9 : r = bI (vI (nI v9) sg.2.1.length) := hq9
  subst hq9
  refine z_ifb_ne (tgt := 19) hx hb dX3_differentBlocks_10 (by decide) (fun _ => ?_) (fun h9 => absurd (h9.symm.trans hvi) (by decide))
  refine lv_iload_n hx hb dX3_differentBlocks_19 rfl (lv_at hl 2 rfl) ?_
  refine z_csS (As := [.int z]) (rest := []) ⟨hx, hb, hml, hown, hts⟩ (c_X3_isSize l D cs z) (va_cwS 1 hts gX3_differentBlocks_X3_isSize rfl rfl rfl (by decide +kernel) ⟨Nat.le_of_ble_eq_true rfl, Nat.le_of_ble_eq_true rfl⟩) trivial hK rfl hl.1 rfl (Nat.le_of_ble_eq_true rfl) dX3_differentBlocks_20 ⟨(by rw [hRc]; omega), (by rw [hRs]; omega)⟩ (fun r hq9 => ?_)
  have hq9 : r = bI (inB z (nI 2) (nI 32)) := hq9
  subst hq9
  refine z_ifb_ne (tgt := 32) hx hb dX3_differentBlocks_23 (by decide) (fun h9 => absurd (h9.symm.trans hz) (by decide)) (fun _ => ?_)
  refine lv_aload_n hx hb dX3_differentBlocks_26 rfl (lv_at hl 0 rfl) ?_
  refine lv_iconst (v := nI 2) hx hb dX3_differentBlocks_27 (by decide) ?_
  refine z_cmI (va_runV (As := [.int (nI 2)]) (rest := []) ⟨hx, hb, hml, hown, hts⟩ (c_X3_fail l D cs S0 Z b w (nI 0) (nI 2) sg) (cwV 1 hts gX3_differentBlocks_X3_fail rfl rfl rfl (by decide +kernel) ⟨Nat.le_of_ble_eq_true rfl, Nat.le_of_ble_eq_true rfl⟩) ⟨zP_blind, z_recv hK (hW.1 0 _ rfl) rfl, (zP_pre hW hK)⟩ rfl rfl hl.1 rfl (lv_room (Nat.le_of_ble_eq_true rfl)) dX3_differentBlocks_28 ⟨(by rw [hRc]; omega), (by rw [hRs]; omega)⟩) hS (fun r u8 H locs hu hW hS => ?_)
  rw [hu]
  have hW : Wd D S0 (((b 0), .inr (4, [.int (nI 2), .int (nI sg.1.length), .ref (b 1), .int (nI sg.2.1.length), .ref (b 2), .int (nI sg.2.2.1.length), .ref (b 3), .ref (b 4), .ref (b 5), .ref (mI w), .int (nI sg.2.2.2.2.length), .ref (b 6)])) :: ((b 1), fa cs 400 (mf w)) :: ((b 2), qa cs 2 12 (mg w 0)) :: ((b 3), qa cs 2 12 (mg w 1)) :: ((b 4), qa cs 2 12 (mg w 2)) :: ((b 5), qa cs 2 12 (mg w 3)) :: ((b 6), qa cs 2 20 (mg w 4)) :: Z) H := hW
  refine W.widen (k := 0) (n := 0) (by omega) (by omega) ?_
  exact W.iret (v := nI 0) hx hb hr (fun t ht hW9 => ⟨⟨_, (w, []), rfl, ⟨fun h9 => absurd h9 (by decide), hF⟩, (by show Wd D S0 _ _; rw [ht]; exact hW)⟩, hS.F ht⟩) (fun q9 h9 => hS.2.2 q9 h9) dX3_differentBlocks_31

set_option maxHeartbeats 4000000 in
set_option maxRecDepth 100000 in
theorem c_X3_collisions_a (l : Launch) (D : va_G) (cs : Nat → ClassId) (S0 : Nat) (Z : va_W) (b : Nat → Nat) (w : MU) (sg : St) (hF : MF cs w sg Z) (th : Int32) (v : Int32) (hv : vI v sg.2.1.length = false) (w9i : Int32)  : Met l yX3_collisions wsX3_collisions ({ frames := 2, cells := 0, slots := 0, locals := 43 }) (zM [.ref (b 0), .int v, .int w9i] (fun H => Wd D S0 (MW cs b w (th) sg Z) H) D cs) (va_Qi (fun r (v : MU × va_W) => ((1 : Nat) = 0 → r = nI 0) ∧ MF cs v.1 sg (v.2 ++ Z)) (fun v t => Wd D S0 (MW cs b v.1 (nI 1) sg (v.2 ++ Z)) t.heap) (SA S0)) 0 0 (SA S0) := by
  refine Met.ofW (cc := cX3_collisions) (maxL := 9) (ret := (some .int)) (by decide) rfl ?_
  intro p e s m args below meth c s₁ B hml hv
  obtain ⟨rfl, hW, hK, hA9⟩ := hv
  have hx := B.exec
  have hb := B.bytes
  have hr := B.returns
  have hts := atoms_spec (ws := wsX3_collisions) B.pre
  have hown : s.vm.findClass RX3 = some m.cls := findClass_of_methodNamed B.named
  have hlocks := B.notSynchronized
  have hRc : (headSpec wsX3_collisions ({ frames := 2, cells := 0, slots := 0, locals := 43 })).room.cells = 0 := rfl
  have hRs : (headSpec wsX3_collisions ({ frames := 2, cells := 0, slots := 0, locals := 43 })).room.slots = 0 := rfl
  have fl33 := hts (.fieldLink RX3 33 "DeltaUpdaterModel" "thrown" "I") (by decide +kernel)
  have in4 : ∀ w ∈ u_ws RX3 TX3 12, w ∈ wsX3_collisions := by decide +kernel
  have hW : Wd D S0 (MW cs b w (th) sg Z) s.heap := hW
  have hS0 : S0 ≤ s.heap.size := hW.2.2
  have hS : va_S (SA S0) s.heap s.heap [] := va_S.rf
  have hl := lv_entry ([.ref (b 0), .int v, .int w9i]) (n := 9) (Nat.le_of_ble_eq_true rfl)
  rw [lg_entry_eq]
  generalize (lg_sl ([.ref (b 0), .int v, .int w9i]) ++ List.replicate (9 - (lg_sl ([.ref (b 0), .int v, .int w9i])).length) Slot.unset).toArray = ls at hl ⊢
  have hl : lv_has ls 9 [(0, .ref (b 0)), (1, .int v), (2, .int w9i)] := hl
  have hok := hF.2.2.2.2.2
  have hbl := hok.1.1
  have hnv := hok.2.1.1
  have hnp := hok.2.2.1.1
  have hnh := hok.2.2.2.2.1
  refine lv_aload_n hx hb dX3_collisions_0 rfl (lv_at hl 0 rfl) ?_
  refine lv_iconst (v := nI 0) hx hb dX3_collisions_1 (by decide) ?_
  refine z_put (ty := .int) (ci := 4) (v := .int (nI 0)) (C := RX3) (T := TX3) (N := 12) hx hb hts in4 tyX3 tyX3_ok nmX3 hown hK hW hS 0 rfl rfl 0 (by decide) fl33 (fun _ h9 => h9) rfl (by decide +kernel) rfl rfl (Nat.le_of_ble_eq_true rfl) dX3_collisions_2 (fun H locs hW hS => ?_)
  have hW : Wd D S0 (((b 0), .inr (4, [.int (nI 0), .int (nI sg.1.length), .ref (b 1), .int (nI sg.2.1.length), .ref (b 2), .int (nI sg.2.2.1.length), .ref (b 3), .ref (b 4), .ref (b 5), .ref (mI w), .int (nI sg.2.2.2.2.length), .ref (b 6)])) :: ((b 1), fa cs 400 (mf w)) :: ((b 2), qa cs 2 12 (mg w 0)) :: ((b 3), qa cs 2 12 (mg w 1)) :: ((b 4), qa cs 2 12 (mg w 2)) :: ((b 5), qa cs 2 12 (mg w 3)) :: ((b 6), qa cs 2 20 (mg w 4)) :: Z) H := hW
  refine lv_aload_n hx hb dX3_collisions_5 rfl (lv_at hl 0 rfl) ?_
  refine lv_iload_n hx hb dX3_collisions_6 rfl (lv_at hl 1 rfl) ?_
  refine z_csV (As := [.int v]) (rest := []) ⟨hx, hb, hml, hown, hts⟩ (c_X3_isVersion l D cs (b 0) [.int (nI 0), .int (nI sg.1.length), .ref (b 1), .int (nI sg.2.1.length), .ref (b 2), .int (nI sg.2.2.1.length), .ref (b 3), .ref (b 4), .ref (b 5), .ref (mI w), .int (nI sg.2.2.2.2.length), .ref (b 6)] v sg.2.1.length rfl) (cwV 1 hts gX3_collisions_X3_isVersion rfl rfl rfl (by decide +kernel) ⟨Nat.le_of_ble_eq_true rfl, Nat.le_of_ble_eq_true rfl⟩) (hW.1 0 _ rfl) rfl (hW.1 0 _ rfl) hK rfl hl.1 rfl (Nat.le_of_ble_eq_true rfl) dX3_collisions_7 ⟨(by rw [hRc]; omega), (by rw [hRs]; omega)⟩ (fun r hq9 => ?_)
  have hq9 : r = bI (vI v sg.2.1.length) := hq9
  subst hq9
  refine z_ifb_ne (tgt := 19) hx hb dX3_collisions_10 (by decide) (fun h9 => absurd (h9.symm.trans hv) (by decide)) (fun _ => ?_)
  refine lv_aload_n hx hb dX3_collisions_13 rfl (lv_at hl 0 rfl) ?_
  refine lv_iconst (v := nI 1) hx hb dX3_collisions_14 (by decide) ?_
  refine z_cmI (va_runV (As := [.int (nI 1)]) (rest := []) ⟨hx, hb, hml, hown, hts⟩ (c_X3_fail l D cs S0 Z b w (nI 0) (nI 1) sg) (cwV 1 hts gX3_collisions_X3_fail rfl rfl rfl (by decide +kernel) ⟨Nat.le_of_ble_eq_true rfl, Nat.le_of_ble_eq_true rfl⟩) ⟨zP_blind, z_recv hK (hW.1 0 _ rfl) rfl, (zP_pre hW hK)⟩ rfl rfl hl.1 rfl (lv_room (Nat.le_of_ble_eq_true rfl)) dX3_collisions_15 ⟨(by rw [hRc]; omega), (by rw [hRs]; omega)⟩) hS (fun r u8 H locs hu hW hS => ?_)
  rw [hu]
  have hW : Wd D S0 (((b 0), .inr (4, [.int (nI 1), .int (nI sg.1.length), .ref (b 1), .int (nI sg.2.1.length), .ref (b 2), .int (nI sg.2.2.1.length), .ref (b 3), .ref (b 4), .ref (b 5), .ref (mI w), .int (nI sg.2.2.2.2.length), .ref (b 6)])) :: ((b 1), fa cs 400 (mf w)) :: ((b 2), qa cs 2 12 (mg w 0)) :: ((b 3), qa cs 2 12 (mg w 1)) :: ((b 4), qa cs 2 12 (mg w 2)) :: ((b 5), qa cs 2 12 (mg w 3)) :: ((b 6), qa cs 2 20 (mg w 4)) :: Z) H := hW
  refine W.widen (k := 0) (n := 0) (by omega) (by omega) ?_
  exact W.iret (v := nI 0) hx hb hr (fun t ht hW9 => ⟨⟨_, (w, []), rfl, ⟨fun h9 => absurd h9 (by decide), hF⟩, (by show Wd D S0 _ _; rw [ht]; exact hW)⟩, hS.F ht⟩) (fun q9 h9 => hS.2.2 q9 h9) dX3_collisions_18

set_option maxHeartbeats 4000000 in
set_option maxRecDepth 100000 in
theorem c_X3_collisions_b (l : Launch) (D : va_G) (cs : Nat → ClassId) (S0 : Nat) (Z : va_W) (b : Nat → Nat) (w : MU) (sg : St) (hF : MF cs w sg Z) (th : Int32) (v9 : Nat) (hv9 : v9 < sg.2.1.length) (z : Int32) (hz : inB z (nI 2) (nI 32) = false)  : Met l yX3_collisions wsX3_collisions ({ frames := 2, cells := 0, slots := 0, locals := 43 }) (zM [.ref (b 0), .int (nI v9), .int z] (fun H => Wd D S0 (MW cs b w (th) sg Z) H) D cs) (va_Qi (fun r (v : MU × va_W) => ((2 : Nat) = 0 → r = nI 0) ∧ MF cs v.1 sg (v.2 ++ Z)) (fun v t => Wd D S0 (MW cs b v.1 (nI 2) sg (v.2 ++ Z)) t.heap) (SA S0)) 0 0 (SA S0) := by
  refine Met.ofW (cc := cX3_collisions) (maxL := 9) (ret := (some .int)) (by decide) rfl ?_
  intro p e s m args below meth c s₁ B hml hv
  obtain ⟨rfl, hW, hK, hA9⟩ := hv
  have hx := B.exec
  have hb := B.bytes
  have hr := B.returns
  have hts := atoms_spec (ws := wsX3_collisions) B.pre
  have hown : s.vm.findClass RX3 = some m.cls := findClass_of_methodNamed B.named
  have hlocks := B.notSynchronized
  have hRc : (headSpec wsX3_collisions ({ frames := 2, cells := 0, slots := 0, locals := 43 })).room.cells = 0 := rfl
  have hRs : (headSpec wsX3_collisions ({ frames := 2, cells := 0, slots := 0, locals := 43 })).room.slots = 0 := rfl
  have fl33 := hts (.fieldLink RX3 33 "DeltaUpdaterModel" "thrown" "I") (by decide +kernel)
  have in4 : ∀ w ∈ u_ws RX3 TX3 12, w ∈ wsX3_collisions := by decide +kernel
  have hW : Wd D S0 (MW cs b w (th) sg Z) s.heap := hW
  have hS0 : S0 ≤ s.heap.size := hW.2.2
  have hS : va_S (SA S0) s.heap s.heap [] := va_S.rf
  have hl := lv_entry ([.ref (b 0), .int (nI v9), .int z]) (n := 9) (Nat.le_of_ble_eq_true rfl)
  rw [lg_entry_eq]
  generalize (lg_sl ([.ref (b 0), .int (nI v9), .int z]) ++ List.replicate (9 - (lg_sl ([.ref (b 0), .int (nI v9), .int z])).length) Slot.unset).toArray = ls at hl ⊢
  have hl : lv_has ls 9 [(0, .ref (b 0)), (1, .int (nI v9)), (2, .int z)] := hl
  have hok := hF.2.2.2.2.2
  have hbl := hok.1.1
  have hnv := hok.2.1.1
  have hnp := hok.2.2.1.1
  have hnh := hok.2.2.2.2.1
  have hvi := vI_in hv9 (show sg.2.1.length < 2 ^ 30 by omega)
  refine lv_aload_n hx hb dX3_collisions_0 rfl (lv_at hl 0 rfl) ?_
  refine lv_iconst (v := nI 0) hx hb dX3_collisions_1 (by decide) ?_
  refine z_put (ty := .int) (ci := 4) (v := .int (nI 0)) (C := RX3) (T := TX3) (N := 12) hx hb hts in4 tyX3 tyX3_ok nmX3 hown hK hW hS 0 rfl rfl 0 (by decide) fl33 (fun _ h9 => h9) rfl (by decide +kernel) rfl rfl (Nat.le_of_ble_eq_true rfl) dX3_collisions_2 (fun H locs hW hS => ?_)
  have hW : Wd D S0 (((b 0), .inr (4, [.int (nI 0), .int (nI sg.1.length), .ref (b 1), .int (nI sg.2.1.length), .ref (b 2), .int (nI sg.2.2.1.length), .ref (b 3), .ref (b 4), .ref (b 5), .ref (mI w), .int (nI sg.2.2.2.2.length), .ref (b 6)])) :: ((b 1), fa cs 400 (mf w)) :: ((b 2), qa cs 2 12 (mg w 0)) :: ((b 3), qa cs 2 12 (mg w 1)) :: ((b 4), qa cs 2 12 (mg w 2)) :: ((b 5), qa cs 2 12 (mg w 3)) :: ((b 6), qa cs 2 20 (mg w 4)) :: Z) H := hW
  refine lv_aload_n hx hb dX3_collisions_5 rfl (lv_at hl 0 rfl) ?_
  refine lv_iload_n hx hb dX3_collisions_6 rfl (lv_at hl 1 rfl) ?_
  refine z_csV (As := [.int (nI v9)]) (rest := []) ⟨hx, hb, hml, hown, hts⟩ (c_X3_isVersion l D cs (b 0) [.int (nI 0), .int (nI sg.1.length), .ref (b 1), .int (nI sg.2.1.length), .ref (b 2), .int (nI sg.2.2.1.length), .ref (b 3), .ref (b 4), .ref (b 5), .ref (mI w), .int (nI sg.2.2.2.2.length), .ref (b 6)] (nI v9) sg.2.1.length rfl) (cwV 1 hts gX3_collisions_X3_isVersion rfl rfl rfl (by decide +kernel) ⟨Nat.le_of_ble_eq_true rfl, Nat.le_of_ble_eq_true rfl⟩) (hW.1 0 _ rfl) rfl (hW.1 0 _ rfl) hK rfl hl.1 rfl (Nat.le_of_ble_eq_true rfl) dX3_collisions_7 ⟨(by rw [hRc]; omega), (by rw [hRs]; omega)⟩ (fun r hq9 => ?_)
  have hq9 : r = bI (vI (nI v9) sg.2.1.length) := hq9
  subst hq9
  refine z_ifb_ne (tgt := 19) hx hb dX3_collisions_10 (by decide) (fun _ => ?_) (fun h9 => absurd (h9.symm.trans hvi) (by decide))
  refine lv_iload_n hx hb dX3_collisions_19 rfl (lv_at hl 2 rfl) ?_
  refine z_csS (As := [.int z]) (rest := []) ⟨hx, hb, hml, hown, hts⟩ (c_X3_isSize l D cs z) (va_cwS 1 hts gX3_collisions_X3_isSize rfl rfl rfl (by decide +kernel) ⟨Nat.le_of_ble_eq_true rfl, Nat.le_of_ble_eq_true rfl⟩) trivial hK rfl hl.1 rfl (Nat.le_of_ble_eq_true rfl) dX3_collisions_20 ⟨(by rw [hRc]; omega), (by rw [hRs]; omega)⟩ (fun r hq9 => ?_)
  have hq9 : r = bI (inB z (nI 2) (nI 32)) := hq9
  subst hq9
  refine z_ifb_ne (tgt := 32) hx hb dX3_collisions_23 (by decide) (fun h9 => absurd (h9.symm.trans hz) (by decide)) (fun _ => ?_)
  refine lv_aload_n hx hb dX3_collisions_26 rfl (lv_at hl 0 rfl) ?_
  refine lv_iconst (v := nI 2) hx hb dX3_collisions_27 (by decide) ?_
  refine z_cmI (va_runV (As := [.int (nI 2)]) (rest := []) ⟨hx, hb, hml, hown, hts⟩ (c_X3_fail l D cs S0 Z b w (nI 0) (nI 2) sg) (cwV 1 hts gX3_collisions_X3_fail rfl rfl rfl (by decide +kernel) ⟨Nat.le_of_ble_eq_true rfl, Nat.le_of_ble_eq_true rfl⟩) ⟨zP_blind, z_recv hK (hW.1 0 _ rfl) rfl, (zP_pre hW hK)⟩ rfl rfl hl.1 rfl (lv_room (Nat.le_of_ble_eq_true rfl)) dX3_collisions_28 ⟨(by rw [hRc]; omega), (by rw [hRs]; omega)⟩) hS (fun r u8 H locs hu hW hS => ?_)
  rw [hu]
  have hW : Wd D S0 (((b 0), .inr (4, [.int (nI 2), .int (nI sg.1.length), .ref (b 1), .int (nI sg.2.1.length), .ref (b 2), .int (nI sg.2.2.1.length), .ref (b 3), .ref (b 4), .ref (b 5), .ref (mI w), .int (nI sg.2.2.2.2.length), .ref (b 6)])) :: ((b 1), fa cs 400 (mf w)) :: ((b 2), qa cs 2 12 (mg w 0)) :: ((b 3), qa cs 2 12 (mg w 1)) :: ((b 4), qa cs 2 12 (mg w 2)) :: ((b 5), qa cs 2 12 (mg w 3)) :: ((b 6), qa cs 2 20 (mg w 4)) :: Z) H := hW
  refine W.widen (k := 0) (n := 0) (by omega) (by omega) ?_
  exact W.iret (v := nI 0) hx hb hr (fun t ht hW9 => ⟨⟨_, (w, []), rfl, ⟨fun h9 => absurd h9 (by decide), hF⟩, (by show Wd D S0 _ _; rw [ht]; exact hW)⟩, hS.F ht⟩) (fun q9 h9 => hS.2.2 q9 h9) dX3_collisions_31

set_option maxHeartbeats 4000000 in
set_option maxRecDepth 100000 in
theorem c_X3_differentBlocks (l : Launch) (D : va_G) (cs : Nat → ClassId) (S0 : Nat) (Z : va_W) (b : Nat → Nat) (w : MU) (sg : St) (hF : MF cs w sg Z) (th : Int32) (v9 : Nat) (hv9 : v9 < sg.2.1.length) (size : Nat) (h2 : 2 ≤ size) (h3 : size ≤ 32)  : Met l yX3_differentBlocks wsX3_differentBlocks ({ frames := 2, cells := 0, slots := 0, locals := 51 }) (zM [.ref (b 0), .int (nI v9), .int (nI size)] (fun H => Wd D S0 (MW cs b w (th) sg Z) H) D cs) (va_Qi (fun r (v : MU × va_W) => ((0 : Nat) = 0 → r = nI (dbN (bb (vsN sg.2.1 v9)) (vsN sg.2.1 v9).length size)) ∧ MF cs v.1 sg (v.2 ++ Z)) (fun v t => Wd D S0 (MW cs b v.1 (nI 0) sg (v.2 ++ Z)) t.heap) (SA S0)) 0 0 (SA S0) := by
  refine Met.ofW (cc := cX3_differentBlocks) (maxL := 6) (ret := (some .int)) (by decide) rfl ?_
  intro p e s m args below meth c s₁ B hml hv
  obtain ⟨rfl, hW, hK, hA9⟩ := hv
  have hx := B.exec
  have hb := B.bytes
  have hr := B.returns
  have hts := atoms_spec (ws := wsX3_differentBlocks) B.pre
  have hown : s.vm.findClass RX3 = some m.cls := findClass_of_methodNamed B.named
  have hlocks := B.notSynchronized
  have hRc : (headSpec wsX3_differentBlocks ({ frames := 2, cells := 0, slots := 0, locals := 51 })).room.cells = 0 := rfl
  have hRs : (headSpec wsX3_differentBlocks ({ frames := 2, cells := 0, slots := 0, locals := 51 })).room.slots = 0 := rfl
  have fl14 := hts (.fieldLink RX3 14 "DeltaUpdaterModel" "rows" "[[I") (by decide +kernel)
  have fl33 := hts (.fieldLink RX3 33 "DeltaUpdaterModel" "thrown" "I") (by decide +kernel)
  have in4 : ∀ w ∈ u_ws RX3 TX3 12, w ∈ wsX3_differentBlocks := by decide +kernel
  have hW : Wd D S0 (MW cs b w (th) sg Z) s.heap := hW
  have hS0 : S0 ≤ s.heap.size := hW.2.2
  have hS : va_S (SA S0) s.heap s.heap [] := va_S.rf
  have hl := lv_entry ([.ref (b 0), .int (nI v9), .int (nI size)]) (n := 6) (Nat.le_of_ble_eq_true rfl)
  rw [lg_entry_eq]
  generalize (lg_sl ([.ref (b 0), .int (nI v9), .int (nI size)]) ++ List.replicate (6 - (lg_sl ([.ref (b 0), .int (nI v9), .int (nI size)])).length) Slot.unset).toArray = ls at hl ⊢
  have hl : lv_has ls 6 [(0, .ref (b 0)), (1, .int (nI v9)), (2, .int (nI size))] := hl
  have hok := hF.2.2.2.2.2
  have hbl := hok.1.1
  have hnv := hok.2.1.1
  have hnp := hok.2.2.1.1
  have hnh := hok.2.2.2.2.1
  have hvi := vI_in hv9 (show sg.2.1.length < 2 ^ 30 by omega)
  have hsb : inB (nI size) (nI 2) (nI 32) = true := inB_in h2 h3 (by decide)
  have hln := (hok.2.1.2 v9 hv9).1
  have hdv := Nat.div_le_self (vsN sg.2.1 v9).length size
  have hdv2 : (vsN sg.2.1 v9).length / size ≤ 200 := by
    have g1 : (vsN sg.2.1 v9).length / size ≤ (vsN sg.2.1 v9).length / 2 := Nat.div_le_div_left h2 (by decide)
    omega
  refine lv_aload_n hx hb dX3_differentBlocks_0 rfl (lv_at hl 0 rfl) ?_
  refine lv_iconst (v := nI 0) hx hb dX3_differentBlocks_1 (by decide) ?_
  refine z_put (ty := .int) (ci := 4) (v := .int (nI 0)) (C := RX3) (T := TX3) (N := 12) hx hb hts in4 tyX3 tyX3_ok nmX3 hown hK hW hS 0 rfl rfl 0 (by decide) fl33 (fun _ h9 => h9) rfl (by decide +kernel) rfl rfl (Nat.le_of_ble_eq_true rfl) dX3_differentBlocks_2 (fun H locs hW hS => ?_)
  have hW : Wd D S0 (((b 0), .inr (4, [.int (nI 0), .int (nI sg.1.length), .ref (b 1), .int (nI sg.2.1.length), .ref (b 2), .int (nI sg.2.2.1.length), .ref (b 3), .ref (b 4), .ref (b 5), .ref (mI w), .int (nI sg.2.2.2.2.length), .ref (b 6)])) :: ((b 1), fa cs 400 (mf w)) :: ((b 2), qa cs 2 12 (mg w 0)) :: ((b 3), qa cs 2 12 (mg w 1)) :: ((b 4), qa cs 2 12 (mg w 2)) :: ((b 5), qa cs 2 12 (mg w 3)) :: ((b 6), qa cs 2 20 (mg w 4)) :: Z) H := hW
  refine lv_aload_n hx hb dX3_differentBlocks_5 rfl (lv_at hl 0 rfl) ?_
  refine lv_iload_n hx hb dX3_differentBlocks_6 rfl (lv_at hl 1 rfl) ?_
  refine z_csV (As := [.int (nI v9)]) (rest := []) ⟨hx, hb, hml, hown, hts⟩ (c_X3_isVersion l D cs (b 0) [.int (nI 0), .int (nI sg.1.length), .ref (b 1), .int (nI sg.2.1.length), .ref (b 2), .int (nI sg.2.2.1.length), .ref (b 3), .ref (b 4), .ref (b 5), .ref (mI w), .int (nI sg.2.2.2.2.length), .ref (b 6)] (nI v9) sg.2.1.length rfl) (cwV 1 hts gX3_differentBlocks_X3_isVersion rfl rfl rfl (by decide +kernel) ⟨Nat.le_of_ble_eq_true rfl, Nat.le_of_ble_eq_true rfl⟩) (hW.1 0 _ rfl) rfl (hW.1 0 _ rfl) hK rfl hl.1 rfl (Nat.le_of_ble_eq_true rfl) dX3_differentBlocks_7 ⟨(by rw [hRc]; omega), (by rw [hRs]; omega)⟩ (fun r hq9 => ?_)
  have hq9 : r = bI (vI (nI v9) sg.2.1.length) := hq9
  subst hq9
  refine z_ifb_ne (tgt := 19) hx hb dX3_differentBlocks_10 (by decide) (fun _ => ?_) (fun h9 => absurd (h9.symm.trans hvi) (by decide))
  refine lv_iload_n hx hb dX3_differentBlocks_19 rfl (lv_at hl 2 rfl) ?_
  refine z_csS (As := [.int (nI size)]) (rest := []) ⟨hx, hb, hml, hown, hts⟩ (c_X3_isSize l D cs (nI size)) (va_cwS 1 hts gX3_differentBlocks_X3_isSize rfl rfl rfl (by decide +kernel) ⟨Nat.le_of_ble_eq_true rfl, Nat.le_of_ble_eq_true rfl⟩) trivial hK rfl hl.1 rfl (Nat.le_of_ble_eq_true rfl) dX3_differentBlocks_20 ⟨(by rw [hRc]; omega), (by rw [hRs]; omega)⟩ (fun r hq9 => ?_)
  have hq9 : r = bI (inB (nI size) (nI 2) (nI 32)) := hq9
  subst hq9
  refine z_ifb_ne (tgt := 32) hx hb dX3_differentBlocks_23 (by decide) (fun _ => ?_) (fun h9 => absurd (h9.symm.trans hsb) (by decide))
  refine lv_aload_n hx hb dX3_differentBlocks_32 rfl (lv_at hl 0 rfl) ?_
  refine z_get (ci := 4) (v := .ref (b 2)) (C := RX3) (T := TX3) (N := 12) hx hb hts in4 hown hK (hW.1 0 _ rfl) rfl 4 (by decide) fl14 (fun _ h9 => h9) rfl dX3_differentBlocks_33 ?_
  refine lv_iload_n hx hb dX3_differentBlocks_36 rfl (lv_at hl 1 rfl) ?_
  refine z_aald (k := v9) (y := (mA w 0 v9)) (t0 := 2) hx hb hK (hW.1 2 _ rfl) rfl rfl (by omega) (by omega) (hF.2.1 v9 hv9).1 dX3_differentBlocks_37 ?_
  refine lv_astore_n (lv' := [(3, .ref (mA w 0 v9)), (0, .ref (b 0)), (1, .int (nI v9)), (2, .int (nI size))]) hx hb dX3_differentBlocks_38 rfl hl (by decide) rfl (fun ls hl => ?_)
  refine lv_iconst (v := nI 0) hx hb dX3_differentBlocks_39 (by decide) ?_
  refine lv_istore (lv' := [(4, .int (nI 0)), (3, .ref (mA w 0 v9)), (0, .ref (b 0)), (1, .int (nI v9)), (2, .int (nI size))]) hx hb dX3_differentBlocks_40 hl (by decide) rfl (fun ls hl => ?_)
  refine lv_iconst (v := nI 0) hx hb dX3_differentBlocks_42 (by decide) ?_
  refine lv_istore (lv' := [(5, .int (nI 0)), (4, .int (nI 0)), (3, .ref (mA w 0 v9)), (0, .ref (b 0)), (1, .int (nI v9)), (2, .int (nI size))]) hx hb dX3_differentBlocks_43 hl (by decide) rfl (fun ls hl => ?_)
  refine z_loopM (σ := Nat) (fun q9 => (vsN sg.2.1 v9).length / size - q9) (fun q9 ls H locs => lv_has ls 6 [(5, .int (nI q9)), (4, .int (nI (ct (fun q8 => decide (oI (fsF (fun z => stB (bb (vsN sg.2.1 v9)) (bb (vsN sg.2.1 v9)) (z * size) (q8 * size) size) ((vsN sg.2.1 v9).length / size)) = nI q8)) q9))), (0, .ref (b 0)), (1, .int (nI v9)), (2, .int (nI size)), (3, .ref (mA w 0 v9))] ∧ Wd D S0 (((b 0), .inr (4, [.int (nI 0), .int (nI sg.1.length), .ref (b 1), .int (nI sg.2.1.length), .ref (b 2), .int (nI sg.2.2.1.length), .ref (b 3), .ref (b 4), .ref (b 5), .ref (mI w), .int (nI sg.2.2.2.2.length), .ref (b 6)])) :: ((b 1), fa cs 400 (mf w)) :: ((b 2), qa cs 2 12 (mg w 0)) :: ((b 3), qa cs 2 12 (mg w 1)) :: ((b 4), qa cs 2 12 (mg w 2)) :: ((b 5), qa cs 2 12 (mg w 3)) :: ((b 6), qa cs 2 20 (mg w 4)) :: Z) H ∧ va_S (SA S0) s.heap H locs ∧ (q9 ≤ (vsN sg.2.1 v9).length / size)) 0 ⟨lv_sub hl [0, 1, 3, 4, 5, 2] rfl, hW, hS, (show 0 ≤ (vsN sg.2.1 v9).length / size from Nat.zero_le _)⟩ (fun dd45 ih45 y9 ls H locs hd9 hI9 => ?_)
  obtain ⟨k, rfl⟩ : ∃ z, z = y9 := ⟨_, rfl⟩
  have hd45 : (vsN sg.2.1 v9).length / size - k = dd45 := hd9
  have hI9 : lv_has ls 6 [(5, .int (nI k)), (4, .int (nI (ct (fun q8 => decide (oI (fsF (fun z => stB (bb (vsN sg.2.1 v9)) (bb (vsN sg.2.1 v9)) (z * size) (q8 * size) size) ((vsN sg.2.1 v9).length / size)) = nI q8)) k))), (0, .ref (b 0)), (1, .int (nI v9)), (2, .int (nI size)), (3, .ref (mA w 0 v9))] ∧ Wd D S0 (((b 0), .inr (4, [.int (nI 0), .int (nI sg.1.length), .ref (b 1), .int (nI sg.2.1.length), .ref (b 2), .int (nI sg.2.2.1.length), .ref (b 3), .ref (b 4), .ref (b 5), .ref (mI w), .int (nI sg.2.2.2.2.length), .ref (b 6)])) :: ((b 1), fa cs 400 (mf w)) :: ((b 2), qa cs 2 12 (mg w 0)) :: ((b 3), qa cs 2 12 (mg w 1)) :: ((b 4), qa cs 2 12 (mg w 2)) :: ((b 5), qa cs 2 12 (mg w 3)) :: ((b 6), qa cs 2 20 (mg w 4)) :: Z) H ∧ va_S (SA S0) s.heap H locs ∧ (k ≤ (vsN sg.2.1 v9).length / size) := hI9
  obtain ⟨hl, hW, hS, hk⟩ := hI9
  refine lv_iload hx hb dX3_differentBlocks_45 (lv_at hl 0 rfl) ?_
  refine lv_aload_n hx hb dX3_differentBlocks_47 rfl (lv_at hl 5 rfl) ?_
  refine z_alen (n := ((vsN sg.2.1 v9).length)) hx hb hK (hW.mem (List.mem_cons_of_mem _ (List.mem_cons_of_mem _ (List.mem_cons_of_mem _ (List.mem_cons_of_mem _ (List.mem_cons_of_mem _ (List.mem_cons_of_mem _ (List.mem_cons_of_mem _ (hF.2.1 v9 hv9).2)))))))) dX3_differentBlocks_48 ?_
  refine lv_iload_n hx hb dX3_differentBlocks_49 rfl (lv_at hl 4 rfl) ?_
  refine lv_idiv hx hb dX3_differentBlocks_50 (nI_ne0 (by omega) (by omega)) ?_
  refine zti (pk_div (by omega) (by omega) (by omega)) (y := nI (((vsN sg.2.1 v9).length) / size)) ?_
  refine z_icmp_ge (tgt := 86) hx hb (by omega) (by omega) dX3_differentBlocks_51 (by decide) (fun hc51 => ?_) (fun hc51 => ?_)
  · skip
    have hc51 : ((vsN sg.2.1 v9).length) / size ≤ k := hc51
    have e9 : k = (vsN sg.2.1 v9).length / size := by omega
    rw [e9] at hl
    refine lv_iload hx hb dX3_differentBlocks_86 (lv_at hl 1 rfl) ?_
    refine W.widen (k := 0) (n := 0) (by omega) (by omega) ?_
    exact W.iret (v := nI (ct (fun q8 => decide (oI (fsF (fun z => stB (bb (vsN sg.2.1 v9)) (bb (vsN sg.2.1 v9)) (z * size) (q8 * size) size) ((vsN sg.2.1 v9).length / size)) = nI q8)) ((vsN sg.2.1 v9).length / size))) hx hb hr (fun t ht hW9 => ⟨⟨_, (w, []), rfl, ⟨fun _ => rfl, hF⟩, (by show Wd D S0 _ _; rw [ht]; exact hW)⟩, hS.F ht⟩) (fun q9 h9 => hS.2.2 q9 h9) dX3_differentBlocks_88
  · skip
    have hc51 : k < ((vsN sg.2.1 v9).length) / size := hc51
    refine lv_iload hx hb dX3_differentBlocks_54 (lv_at hl 1 rfl) ?_
    refine lv_aload_n hx hb dX3_differentBlocks_56 rfl (lv_at hl 5 rfl) ?_
    refine lv_iload_n hx hb dX3_differentBlocks_57 rfl (lv_at hl 4 rfl) ?_
    refine lv_aload_n hx hb dX3_differentBlocks_58 rfl (lv_at hl 5 rfl) ?_
    refine lv_iload hx hb dX3_differentBlocks_59 (lv_at hl 0 rfl) ?_
    refine lv_iload_n hx hb dX3_differentBlocks_61 rfl (lv_at hl 4 rfl) ?_
    refine lv_imul hx hb dX3_differentBlocks_62 ?_
    refine zti (pk_mul _ _) (y := nI (k * size)) ?_
    refine lv_iconst (v := nI 0) hx hb dX3_differentBlocks_63 (by decide) ?_
    have hkb := z_blk hc51
    refine z_csS (As := [.ref (mA w 0 v9), .int (nI size), .ref (mA w 0 v9), .int (nI (k * size)), .int (nI 0)]) (rest := [.int (nI (ct (fun q8 => decide (oI (fsF (fun z => stB (bb (vsN sg.2.1 v9)) (bb (vsN sg.2.1 v9)) (z * size) (q8 * size) size) ((vsN sg.2.1 v9).length / size)) = nI q8)) k))]) ⟨hx, hb, hml, hown, hts⟩ (c_X3_blockLike l D cs (mA w 0 v9) (mA w 0 v9) (vsN sg.2.1 v9).length (vsN sg.2.1 v9).length (bb (vsN sg.2.1 v9)) (bb (vsN sg.2.1 v9)) (k * size) size h2 (by omega) hkb (by omega) (by omega)) (va_cwS 5 hts gX3_differentBlocks_X3_blockLike rfl rfl rfl (by decide +kernel) ⟨Nat.le_of_ble_eq_true rfl, Nat.le_of_ble_eq_true rfl⟩) ⟨(hW.mem (List.mem_cons_of_mem _ (List.mem_cons_of_mem _ (List.mem_cons_of_mem _ (List.mem_cons_of_mem _ (List.mem_cons_of_mem _ (List.mem_cons_of_mem _ (List.mem_cons_of_mem _ (hF.2.1 v9 hv9).2)))))))), (hW.mem (List.mem_cons_of_mem _ (List.mem_cons_of_mem _ (List.mem_cons_of_mem _ (List.mem_cons_of_mem _ (List.mem_cons_of_mem _ (List.mem_cons_of_mem _ (List.mem_cons_of_mem _ (hF.2.1 v9 hv9).2))))))))⟩ hK rfl hl.1 rfl (Nat.le_of_ble_eq_true rfl) dX3_differentBlocks_64 ⟨(by rw [hRc]; omega), (by rw [hRs]; omega)⟩ (fun r hq9 => ?_)
    have hq9 : r = oI (fsF (fun z => stB (bb (vsN sg.2.1 v9)) (bb (vsN sg.2.1 v9)) (z * size) (k * size) size) ((vsN sg.2.1 v9).length / size)) := hq9
    subst hq9
    refine lv_iload hx hb dX3_differentBlocks_67 (lv_at hl 0 rfl) ?_
    refine lv_icmp_ne (tgt := 76) hx hb dX3_differentBlocks_69 (by decide) (fun hc69 => ?_) (fun hc69 => ?_)
    · skip
      have hc69 : ¬ (oI (fsF (fun z => stB (bb (vsN sg.2.1 v9)) (bb (vsN sg.2.1 v9)) (z * size) (k * size) size) ((vsN sg.2.1 v9).length / size))) = (nI k) := hc69
      refine lv_iconst (v := nI 0) hx hb dX3_differentBlocks_76 (by decide) ?_
      refine lv_iadd hx hb dX3_differentBlocks_77 ?_
      refine zti (nI_add _ _) (y := nI (ct (fun q8 => decide (oI (fsF (fun z => stB (bb (vsN sg.2.1 v9)) (bb (vsN sg.2.1 v9)) (z * size) (q8 * size) size) ((vsN sg.2.1 v9).length / size)) = nI q8)) k + 0)) ?_
      refine lv_istore (lv' := [(4, .int (nI (ct (fun q8 => decide (oI (fsF (fun z => stB (bb (vsN sg.2.1 v9)) (bb (vsN sg.2.1 v9)) (z * size) (q8 * size) size) ((vsN sg.2.1 v9).length / size)) = nI q8)) k + 0))), (5, .int (nI k)), (0, .ref (b 0)), (1, .int (nI v9)), (2, .int (nI size)), (3, .ref (mA w 0 v9))]) hx hb dX3_differentBlocks_78 hl (by decide) rfl (fun ls hl => ?_)
      have e9 : ct (fun q8 => decide (oI (fsF (fun z => stB (bb (vsN sg.2.1 v9)) (bb (vsN sg.2.1 v9)) (z * size) (q8 * size) size) ((vsN sg.2.1 v9).length / size)) = nI q8)) (k + 1) = ct (fun q8 => decide (oI (fsF (fun z => stB (bb (vsN sg.2.1 v9)) (bb (vsN sg.2.1 v9)) (z * size) (q8 * size) size) ((vsN sg.2.1 v9).length / size)) = nI q8)) k + 0 := ct_f (decide_eq_false hc69)
      rw [← e9] at hl
      have hl : lv_has ls 6 [(4, .int (nI (ct (fun q8 => decide (oI (fsF (fun z => stB (bb (vsN sg.2.1 v9)) (bb (vsN sg.2.1 v9)) (z * size) (q8 * size) size) ((vsN sg.2.1 v9).length / size)) = nI q8)) (k + 1)))), (5, .int (nI k)), (0, .ref (b 0)), (1, .int (nI v9)), (2, .int (nI size)), (3, .ref (mA w 0 v9))] := hl
      refine lv_iinc (v := nI (k + 1)) (lv' := [(5, .int (nI (k + 1))), (4, .int (nI (ct (fun q8 => decide (oI (fsF (fun z => stB (bb (vsN sg.2.1 v9)) (bb (vsN sg.2.1 v9)) (z * size) (q8 * size) size) ((vsN sg.2.1 v9).length / size)) = nI q8)) (k + 1)))), (0, .ref (b 0)), (1, .int (nI v9)), (2, .int (nI size)), (3, .ref (mA w 0 v9))]) hx hb dX3_differentBlocks_80 hl (k := 1) rfl (z_inc _) (by decide) rfl (fun ls hl => ?_)
      refine lv_goto (tgt := 45) hx hb dX3_differentBlocks_83 (by decide) ?_
      exact ih45 (k + 1) ls H locs (show (vsN sg.2.1 v9).length / size - (k + 1) < dd45 by omega) ⟨lv_sub hl [0, 1, 2, 3, 4, 5] rfl, hW, hS, (show (k + 1) ≤ (vsN sg.2.1 v9).length / size from by omega)⟩
    · skip
      have hc69 : (oI (fsF (fun z => stB (bb (vsN sg.2.1 v9)) (bb (vsN sg.2.1 v9)) (z * size) (k * size) size) ((vsN sg.2.1 v9).length / size))) = (nI k) := hc69
      refine lv_iconst (v := nI 1) hx hb dX3_differentBlocks_72 (by decide) ?_
      refine lv_goto (tgt := 77) hx hb dX3_differentBlocks_73 (by decide) ?_
      refine lv_iadd hx hb dX3_differentBlocks_77 ?_
      refine zti (nI_add _ _) (y := nI (ct (fun q8 => decide (oI (fsF (fun z => stB (bb (vsN sg.2.1 v9)) (bb (vsN sg.2.1 v9)) (z * size) (q8 * size) size) ((vsN sg.2.1 v9).length / size)) = nI q8)) k + 1)) ?_
      refine lv_istore (lv' := [(4, .int (nI (ct (fun q8 => decide (oI (fsF (fun z => stB (bb (vsN sg.2.1 v9)) (bb (vsN sg.2.1 v9)) (z * size) (q8 * size) size) ((vsN sg.2.1 v9).length / size)) = nI q8)) k + 1))), (5, .int (nI k)), (0, .ref (b 0)), (1, .int (nI v9)), (2, .int (nI size)), (3, .ref (mA w 0 v9))]) hx hb dX3_differentBlocks_78 hl (by decide) rfl (fun ls hl => ?_)
      have e9 : ct (fun q8 => decide (oI (fsF (fun z => stB (bb (vsN sg.2.1 v9)) (bb (vsN sg.2.1 v9)) (z * size) (q8 * size) size) ((vsN sg.2.1 v9).length / size)) = nI q8)) (k + 1) = ct (fun q8 => decide (oI (fsF (fun z => stB (bb (vsN sg.2.1 v9)) (bb (vsN sg.2.1 v9)) (z * size) (q8 * size) size) ((vsN sg.2.1 v9).length / size)) = nI q8)) k + 1 := ct_t (decide_eq_true hc69)
      rw [← e9] at hl
      have hl : lv_has ls 6 [(4, .int (nI (ct (fun q8 => decide (oI (fsF (fun z => stB (bb (vsN sg.2.1 v9)) (bb (vsN sg.2.1 v9)) (z * size) (q8 * size) size) ((vsN sg.2.1 v9).length / size)) = nI q8)) (k + 1)))), (5, .int (nI k)), (0, .ref (b 0)), (1, .int (nI v9)), (2, .int (nI size)), (3, .ref (mA w 0 v9))] := hl
      refine lv_iinc (v := nI (k + 1)) (lv' := [(5, .int (nI (k + 1))), (4, .int (nI (ct (fun q8 => decide (oI (fsF (fun z => stB (bb (vsN sg.2.1 v9)) (bb (vsN sg.2.1 v9)) (z * size) (q8 * size) size) ((vsN sg.2.1 v9).length / size)) = nI q8)) (k + 1)))), (0, .ref (b 0)), (1, .int (nI v9)), (2, .int (nI size)), (3, .ref (mA w 0 v9))]) hx hb dX3_differentBlocks_80 hl (k := 1) rfl (z_inc _) (by decide) rfl (fun ls hl => ?_)
      refine lv_goto (tgt := 45) hx hb dX3_differentBlocks_83 (by decide) ?_
      exact ih45 (k + 1) ls H locs (show (vsN sg.2.1 v9).length / size - (k + 1) < dd45 by omega) ⟨lv_sub hl [0, 1, 2, 3, 4, 5] rfl, hW, hS, (show (k + 1) ≤ (vsN sg.2.1 v9).length / size from by omega)⟩

set_option maxHeartbeats 4000000 in
set_option maxRecDepth 100000 in
theorem c_X3_collisions (l : Launch) (D : va_G) (cs : Nat → ClassId) (S0 : Nat) (Z : va_W) (b : Nat → Nat) (w : MU) (sg : St) (hF : MF cs w sg Z) (th : Int32) (v9 : Nat) (hv9 : v9 < sg.2.1.length) (size : Nat) (h2 : 2 ≤ size) (h3 : size ≤ 32)  : Met l yX3_collisions wsX3_collisions ({ frames := 2, cells := 1, slots := 200, locals := 43 }) (zM [.ref (b 0), .int (nI v9), .int (nI size)] (fun H => Wd D S0 (MW cs b w (th) sg Z) H) D cs) (va_Qi (fun r (v : MU × va_W) => ((0 : Nat) = 0 → r = nI (colN (vsN sg.2.1 v9) size ((vsN sg.2.1 v9).length / size))) ∧ MF cs v.1 sg (v.2 ++ Z)) (fun v t => Wd D S0 (MW cs b v.1 (nI 0) sg (v.2 ++ Z)) t.heap) (SA S0)) 1 200 (SA S0) := by
  refine Met.ofW (cc := cX3_collisions) (maxL := 9) (ret := (some .int)) (by decide) rfl ?_
  intro p e s m args below meth c s₁ B hml hv
  obtain ⟨rfl, hW, hK, hA9⟩ := hv
  have hx := B.exec
  have hb := B.bytes
  have hr := B.returns
  have hts := atoms_spec (ws := wsX3_collisions) B.pre
  have hown : s.vm.findClass RX3 = some m.cls := findClass_of_methodNamed B.named
  have hlocks := B.notSynchronized
  have hRc : (headSpec wsX3_collisions ({ frames := 2, cells := 1, slots := 200, locals := 43 })).room.cells = 1 := rfl
  have hRs : (headSpec wsX3_collisions ({ frames := 2, cells := 1, slots := 200, locals := 43 })).room.slots = 200 := rfl
  have fl14 := hts (.fieldLink RX3 14 "DeltaUpdaterModel" "rows" "[[I") (by decide +kernel)
  have fl33 := hts (.fieldLink RX3 33 "DeltaUpdaterModel" "thrown" "I") (by decide +kernel)
  have in4 : ∀ w ∈ u_ws RX3 TX3 12, w ∈ wsX3_collisions := by decide +kernel
  have hW : Wd D S0 (MW cs b w (th) sg Z) s.heap := hW
  have hS0 : S0 ≤ s.heap.size := hW.2.2
  have hS : va_S (SA S0) s.heap s.heap [] := va_S.rf
  have hl := lv_entry ([.ref (b 0), .int (nI v9), .int (nI size)]) (n := 9) (Nat.le_of_ble_eq_true rfl)
  rw [lg_entry_eq]
  generalize (lg_sl ([.ref (b 0), .int (nI v9), .int (nI size)]) ++ List.replicate (9 - (lg_sl ([.ref (b 0), .int (nI v9), .int (nI size)])).length) Slot.unset).toArray = ls at hl ⊢
  have hl : lv_has ls 9 [(0, .ref (b 0)), (1, .int (nI v9)), (2, .int (nI size))] := hl
  have hok := hF.2.2.2.2.2
  have hbl := hok.1.1
  have hnv := hok.2.1.1
  have hnp := hok.2.2.1.1
  have hnh := hok.2.2.2.2.1
  have hvi := vI_in hv9 (show sg.2.1.length < 2 ^ 30 by omega)
  have hsb : inB (nI size) (nI 2) (nI 32) = true := inB_in h2 h3 (by decide)
  have hln := (hok.2.1.2 v9 hv9).1
  have hdv := Nat.div_le_self (vsN sg.2.1 v9).length size
  have hdv2 : (vsN sg.2.1 v9).length / size ≤ 200 := by
    have g1 : (vsN sg.2.1 v9).length / size ≤ (vsN sg.2.1 v9).length / 2 := Nat.div_le_div_left h2 (by decide)
    omega
  refine lv_aload_n hx hb dX3_collisions_0 rfl (lv_at hl 0 rfl) ?_
  refine lv_iconst (v := nI 0) hx hb dX3_collisions_1 (by decide) ?_
  refine z_put (ty := .int) (ci := 4) (v := .int (nI 0)) (C := RX3) (T := TX3) (N := 12) hx hb hts in4 tyX3 tyX3_ok nmX3 hown hK hW hS 0 rfl rfl 0 (by decide) fl33 (fun _ h9 => h9) rfl (by decide +kernel) rfl rfl (Nat.le_of_ble_eq_true rfl) dX3_collisions_2 (fun H locs hW hS => ?_)
  have hW : Wd D S0 (((b 0), .inr (4, [.int (nI 0), .int (nI sg.1.length), .ref (b 1), .int (nI sg.2.1.length), .ref (b 2), .int (nI sg.2.2.1.length), .ref (b 3), .ref (b 4), .ref (b 5), .ref (mI w), .int (nI sg.2.2.2.2.length), .ref (b 6)])) :: ((b 1), fa cs 400 (mf w)) :: ((b 2), qa cs 2 12 (mg w 0)) :: ((b 3), qa cs 2 12 (mg w 1)) :: ((b 4), qa cs 2 12 (mg w 2)) :: ((b 5), qa cs 2 12 (mg w 3)) :: ((b 6), qa cs 2 20 (mg w 4)) :: Z) H := hW
  refine lv_aload_n hx hb dX3_collisions_5 rfl (lv_at hl 0 rfl) ?_
  refine lv_iload_n hx hb dX3_collisions_6 rfl (lv_at hl 1 rfl) ?_
  refine z_csV (As := [.int (nI v9)]) (rest := []) ⟨hx, hb, hml, hown, hts⟩ (c_X3_isVersion l D cs (b 0) [.int (nI 0), .int (nI sg.1.length), .ref (b 1), .int (nI sg.2.1.length), .ref (b 2), .int (nI sg.2.2.1.length), .ref (b 3), .ref (b 4), .ref (b 5), .ref (mI w), .int (nI sg.2.2.2.2.length), .ref (b 6)] (nI v9) sg.2.1.length rfl) (cwV 1 hts gX3_collisions_X3_isVersion rfl rfl rfl (by decide +kernel) ⟨Nat.le_of_ble_eq_true rfl, Nat.le_of_ble_eq_true rfl⟩) (hW.1 0 _ rfl) rfl (hW.1 0 _ rfl) hK rfl hl.1 rfl (Nat.le_of_ble_eq_true rfl) dX3_collisions_7 ⟨(by rw [hRc]; omega), (by rw [hRs]; omega)⟩ (fun r hq9 => ?_)
  have hq9 : r = bI (vI (nI v9) sg.2.1.length) := hq9
  subst hq9
  refine z_ifb_ne (tgt := 19) hx hb dX3_collisions_10 (by decide) (fun _ => ?_) (fun h9 => absurd (h9.symm.trans hvi) (by decide))
  refine lv_iload_n hx hb dX3_collisions_19 rfl (lv_at hl 2 rfl) ?_
  refine z_csS (As := [.int (nI size)]) (rest := []) ⟨hx, hb, hml, hown, hts⟩ (c_X3_isSize l D cs (nI size)) (va_cwS 1 hts gX3_collisions_X3_isSize rfl rfl rfl (by decide +kernel) ⟨Nat.le_of_ble_eq_true rfl, Nat.le_of_ble_eq_true rfl⟩) trivial hK rfl hl.1 rfl (Nat.le_of_ble_eq_true rfl) dX3_collisions_20 ⟨(by rw [hRc]; omega), (by rw [hRs]; omega)⟩ (fun r hq9 => ?_)
  have hq9 : r = bI (inB (nI size) (nI 2) (nI 32)) := hq9
  subst hq9
  refine z_ifb_ne (tgt := 32) hx hb dX3_collisions_23 (by decide) (fun _ => ?_) (fun h9 => absurd (h9.symm.trans hsb) (by decide))
  refine lv_aload_n hx hb dX3_collisions_32 rfl (lv_at hl 0 rfl) ?_
  refine z_get (ci := 4) (v := .ref (b 2)) (C := RX3) (T := TX3) (N := 12) hx hb hts in4 hown hK (hW.1 0 _ rfl) rfl 4 (by decide) fl14 (fun _ h9 => h9) rfl dX3_collisions_33 ?_
  refine lv_iload_n hx hb dX3_collisions_36 rfl (lv_at hl 1 rfl) ?_
  refine z_aald (k := v9) (y := (mA w 0 v9)) (t0 := 2) hx hb hK (hW.1 2 _ rfl) rfl rfl (by omega) (by omega) (hF.2.1 v9 hv9).1 dX3_collisions_37 ?_
  refine lv_astore_n (lv' := [(3, .ref (mA w 0 v9)), (0, .ref (b 0)), (1, .int (nI v9)), (2, .int (nI size))]) hx hb dX3_collisions_38 rfl hl (by decide) rfl (fun ls hl => ?_)
  refine lv_aload_n hx hb dX3_collisions_39 rfl (lv_at hl 0 rfl) ?_
  refine z_alen (n := ((vsN sg.2.1 v9).length)) hx hb hK (hW.mem (List.mem_cons_of_mem _ (List.mem_cons_of_mem _ (List.mem_cons_of_mem _ (List.mem_cons_of_mem _ (List.mem_cons_of_mem _ (List.mem_cons_of_mem _ (List.mem_cons_of_mem _ (hF.2.1 v9 hv9).2)))))))) dX3_collisions_40 ?_
  refine lv_iload_n hx hb dX3_collisions_41 rfl (lv_at hl 3 rfl) ?_
  refine lv_idiv hx hb dX3_collisions_42 (nI_ne0 (by omega) (by omega)) ?_
  refine zti (pk_div (by omega) (by omega) (by omega)) (y := nI (((vsN sg.2.1 v9).length) / size)) ?_
  refine lv_istore (lv' := [(4, .int (nI (((vsN sg.2.1 v9).length) / size))), (3, .ref (mA w 0 v9)), (0, .ref (b 0)), (1, .int (nI v9)), (2, .int (nI size))]) hx hb dX3_collisions_43 hl (by decide) rfl (fun ls hl => ?_)
  refine lv_iload hx hb dX3_collisions_45 (lv_at hl 0 rfl) ?_
  refine z_newa (n := (((vsN sg.2.1 v9).length) / size)) hx hb (hts (.arrayClass .int) (by decide +kernel)) hK hW hS hS0 (by omega) (by rw [hRc]; omega) (by rw [hRs]; omega) dX3_collisions_47 (fun q47 H hW hS => ?_)
  have hW := Wd.mv (M := [((b 0), .inr (4, [.int (nI 0), .int (nI sg.1.length), .ref (b 1), .int (nI sg.2.1.length), .ref (b 2), .int (nI sg.2.2.1.length), .ref (b 3), .ref (b 4), .ref (b 5), .ref (mI w), .int (nI sg.2.2.2.2.length), .ref (b 6)])), ((b 1), fa cs 400 (mf w)), ((b 2), qa cs 2 12 (mg w 0)), ((b 3), qa cs 2 12 (mg w 1)), ((b 4), qa cs 2 12 (mg w 2)), ((b 5), qa cs 2 12 (mg w 3)), ((b 6), qa cs 2 20 (mg w 4))]) hW
  have hW : Wd D S0 (((b 0), .inr (4, [.int (nI 0), .int (nI sg.1.length), .ref (b 1), .int (nI sg.2.1.length), .ref (b 2), .int (nI sg.2.2.1.length), .ref (b 3), .ref (b 4), .ref (b 5), .ref (mI w), .int (nI sg.2.2.2.2.length), .ref (b 6)])) :: ((b 1), fa cs 400 (mf w)) :: ((b 2), qa cs 2 12 (mg w 0)) :: ((b 3), qa cs 2 12 (mg w 1)) :: ((b 4), qa cs 2 12 (mg w 2)) :: ((b 5), qa cs 2 12 (mg w 3)) :: ((b 6), qa cs 2 20 (mg w 4)) :: (q47, fa cs (((vsN sg.2.1 v9).length) / size) (fun _ => 0)) :: Z) H := hW
  refine lv_astore (lv' := [(5, .ref q47), (4, .int (nI (((vsN sg.2.1 v9).length) / size))), (3, .ref (mA w 0 v9)), (0, .ref (b 0)), (1, .int (nI v9)), (2, .int (nI size))]) hx hb dX3_collisions_49 hl (by decide) rfl (fun ls hl => ?_)
  refine lv_iconst (v := nI 0) hx hb dX3_collisions_51 (by decide) ?_
  refine lv_istore (lv' := [(6, .int (nI 0)), (5, .ref q47), (4, .int (nI (((vsN sg.2.1 v9).length) / size))), (3, .ref (mA w 0 v9)), (0, .ref (b 0)), (1, .int (nI v9)), (2, .int (nI size))]) hx hb dX3_collisions_52 hl (by decide) rfl (fun ls hl => ?_)
  refine lv_iconst (v := nI 0) hx hb dX3_collisions_54 (by decide) ?_
  refine lv_istore (lv' := [(7, .int (nI 0)), (6, .int (nI 0)), (5, .ref q47), (4, .int (nI (((vsN sg.2.1 v9).length) / size))), (3, .ref (mA w 0 v9)), (0, .ref (b 0)), (1, .int (nI v9)), (2, .int (nI size))]) hx hb dX3_collisions_55 hl (by decide) rfl (fun ls hl => ?_)
  refine z_loopM (σ := Nat × (Nat → Int32)) (fun q9 => (vsN sg.2.1 v9).length / size - q9.1) (fun q9 ls H locs => lv_has ls 9 [(7, .int (nI q9.1)), (6, .int (nI (colN (vsN sg.2.1 v9) size q9.1))), (0, .ref (b 0)), (1, .int (nI v9)), (2, .int (nI size)), (3, .ref (mA w 0 v9)), (4, .int (nI ((vsN sg.2.1 v9).length / size))), (5, .ref q47)] ∧ Wd D S0 (((b 0), .inr (4, [.int (nI 0), .int (nI sg.1.length), .ref (b 1), .int (nI sg.2.1.length), .ref (b 2), .int (nI sg.2.2.1.length), .ref (b 3), .ref (b 4), .ref (b 5), .ref (mI w), .int (nI sg.2.2.2.2.length), .ref (b 6)])) :: ((b 1), fa cs 400 (mf w)) :: ((b 2), qa cs 2 12 (mg w 0)) :: ((b 3), qa cs 2 12 (mg w 1)) :: ((b 4), qa cs 2 12 (mg w 2)) :: ((b 5), qa cs 2 12 (mg w 3)) :: ((b 6), qa cs 2 20 (mg w 4)) :: (q47, fa cs ((vsN sg.2.1 v9).length / size) q9.2) :: Z) H ∧ va_S (SA S0) s.heap H locs ∧ (q9.1 ≤ (vsN sg.2.1 v9).length / size) ∧ (∀ z, z < q9.1 → q9.2 z = (fun z => nI (wsum (bv (vsN sg.2.1 v9)) (z * size) size)) z)) (0, (fun _ => 0)) ⟨lv_sub hl [0, 1, 5, 6, 7, 4, 3, 2] rfl, hW, hS, (show 0 ≤ (vsN sg.2.1 v9).length / size from Nat.zero_le _), (show ∀ z, z < 0 → (fun _ => 0) z = (fun z => nI (wsum (bv (vsN sg.2.1 v9)) (z * size) size)) z from fun i hi => absurd hi (Nat.not_lt_zero i))⟩ (fun dd57 ih57 y9 ls H locs hd9 hI9 => ?_)
  obtain ⟨k, g8⟩ := y9
  have hd57 : (vsN sg.2.1 v9).length / size - k = dd57 := hd9
  have hI9 : lv_has ls 9 [(7, .int (nI k)), (6, .int (nI (colN (vsN sg.2.1 v9) size k))), (0, .ref (b 0)), (1, .int (nI v9)), (2, .int (nI size)), (3, .ref (mA w 0 v9)), (4, .int (nI ((vsN sg.2.1 v9).length / size))), (5, .ref q47)] ∧ Wd D S0 (((b 0), .inr (4, [.int (nI 0), .int (nI sg.1.length), .ref (b 1), .int (nI sg.2.1.length), .ref (b 2), .int (nI sg.2.2.1.length), .ref (b 3), .ref (b 4), .ref (b 5), .ref (mI w), .int (nI sg.2.2.2.2.length), .ref (b 6)])) :: ((b 1), fa cs 400 (mf w)) :: ((b 2), qa cs 2 12 (mg w 0)) :: ((b 3), qa cs 2 12 (mg w 1)) :: ((b 4), qa cs 2 12 (mg w 2)) :: ((b 5), qa cs 2 12 (mg w 3)) :: ((b 6), qa cs 2 20 (mg w 4)) :: (q47, fa cs ((vsN sg.2.1 v9).length / size) g8) :: Z) H ∧ va_S (SA S0) s.heap H locs ∧ (k ≤ (vsN sg.2.1 v9).length / size) ∧ (∀ z, z < k → g8 z = (fun z => nI (wsum (bv (vsN sg.2.1 v9)) (z * size) size)) z) := hI9
  obtain ⟨hl, hW, hS, hk, hg⟩ := hI9
  refine lv_iload hx hb dX3_collisions_57 (lv_at hl 0 rfl) ?_
  refine lv_iload hx hb dX3_collisions_59 (lv_at hl 6 rfl) ?_
  refine z_icmp_ge (tgt := 140) hx hb (by omega) (by omega) dX3_collisions_61 (by decide) (fun hc61 => ?_) (fun hc61 => ?_)
  · skip
    have hc61 : (vsN sg.2.1 v9).length / size ≤ k := hc61
    have e9 : k = (vsN sg.2.1 v9).length / size := by omega
    rw [e9] at hl
    refine lv_iload hx hb dX3_collisions_140 (lv_at hl 1 rfl) ?_
    refine W.widen (k := 1) (n := 200) (by omega) (by omega) ?_
    exact W.iret (v := nI (colN (vsN sg.2.1 v9) size ((vsN sg.2.1 v9).length / size))) hx hb hr (fun t ht hW9 => ⟨⟨_, (w, [(q47, fa cs ((vsN sg.2.1 v9).length / size) g8)]), rfl, ⟨fun _ => rfl, hF.more (fun q hq => List.mem_cons_of_mem _ hq)⟩, (by show Wd D S0 _ _; rw [ht]; exact hW)⟩, hS.F ht⟩) (fun q9 h9 => hS.2.2 q9 h9) dX3_collisions_142
  · skip
    have hc61 : k < (vsN sg.2.1 v9).length / size := hc61
    refine lv_aload hx hb dX3_collisions_64 (lv_at hl 7 rfl) ?_
    refine lv_iload hx hb dX3_collisions_66 (lv_at hl 0 rfl) ?_
    refine lv_aload_n hx hb dX3_collisions_68 rfl (lv_at hl 5 rfl) ?_
    refine lv_iload hx hb dX3_collisions_69 (lv_at hl 0 rfl) ?_
    refine lv_iload_n hx hb dX3_collisions_71 rfl (lv_at hl 4 rfl) ?_
    refine lv_imul hx hb dX3_collisions_72 ?_
    refine zti (pk_mul _ _) (y := nI (k * size)) ?_
    refine lv_iload_n hx hb dX3_collisions_73 rfl (lv_at hl 4 rfl) ?_
    have hkb := z_blk hc61
    refine z_csS (As := [.ref (mA w 0 v9), .int (nI (k * size)), .int (nI size)]) (rest := [.int (nI k), .ref q47]) ⟨hx, hb, hml, hown, hts⟩ (c_X3_sumOf l D cs (mA w 0 v9) (vsN sg.2.1 v9).length (bv (vsN sg.2.1 v9)) (hok.2.1.2 v9 hv9).2 (k * size) size hkb (by omega) (by omega)) (va_cwS 3 hts gX3_collisions_X3_sumOf rfl rfl rfl (by decide +kernel) ⟨Nat.le_of_ble_eq_true rfl, Nat.le_of_ble_eq_true rfl⟩) (hW.mem (List.mem_cons_of_mem _ (List.mem_cons_of_mem _ (List.mem_cons_of_mem _ (List.mem_cons_of_mem _ (List.mem_cons_of_mem _ (List.mem_cons_of_mem _ (List.mem_cons_of_mem _ (List.mem_cons_of_mem _ (hF.2.1 v9 hv9).2))))))))) hK rfl hl.1 rfl (Nat.le_of_ble_eq_true rfl) dX3_collisions_74 ⟨(by rw [hRc]; omega), (by rw [hRs]; omega)⟩ (fun r hq9 => ?_)
    have hq9 : r = nI (wsum (bv (vsN sg.2.1 v9)) (k * size) size) := hq9
    subst hq9
    refine z_iast (k := k) (x := nI (wsum (bv (vsN sg.2.1 v9)) (k * size) size)) (n := ((vsN sg.2.1 v9).length / size)) (f := g8) hx hb hK hW hS 7 rfl (by omega) (by omega) dX3_collisions_77 (fun H locs hW hS => ?_)
    have hW : Wd D S0 (((b 0), .inr (4, [.int (nI 0), .int (nI sg.1.length), .ref (b 1), .int (nI sg.2.1.length), .ref (b 2), .int (nI sg.2.2.1.length), .ref (b 3), .ref (b 4), .ref (b 5), .ref (mI w), .int (nI sg.2.2.2.2.length), .ref (b 6)])) :: ((b 1), fa cs 400 (mf w)) :: ((b 2), qa cs 2 12 (mg w 0)) :: ((b 3), qa cs 2 12 (mg w 1)) :: ((b 4), qa cs 2 12 (mg w 2)) :: ((b 5), qa cs 2 12 (mg w 3)) :: ((b 6), qa cs 2 20 (mg w 4)) :: (q47, fa cs ((vsN sg.2.1 v9).length / size) (upd g8 k (nI (wsum (bv (vsN sg.2.1 v9)) (k * size) size)))) :: Z) H := hW
    refine lv_iconst (v := nI 0) hx hb dX3_collisions_78 (by decide) ?_
    refine lv_istore (lv' := [(8, .int (nI 0)), (7, .int (nI k)), (6, .int (nI (colN (vsN sg.2.1 v9) size k))), (0, .ref (b 0)), (1, .int (nI v9)), (2, .int (nI size)), (3, .ref (mA w 0 v9)), (4, .int (nI ((vsN sg.2.1 v9).length / size))), (5, .ref q47)]) hx hb dX3_collisions_79 hl (by decide) rfl (fun ls hl => ?_)
    have hg2 : ∀ z, z < k + 1 → (upd g8 k (nI (wsum (bv (vsN sg.2.1 v9)) (k * size) size))) z = (fun z => nI (wsum (bv (vsN sg.2.1 v9)) (z * size) size)) z := upd_ok hg rfl
    refine z_loopM (σ := Nat) (fun q9 => k - q9) (fun q9 ls H locs => lv_has ls 9 [(8, .int (nI q9)), (7, .int (nI k)), (6, .int (nI ((colN (vsN sg.2.1 v9) size k) + ct (colP (vsN sg.2.1 v9) size k) q9))), (0, .ref (b 0)), (1, .int (nI v9)), (2, .int (nI size)), (3, .ref (mA w 0 v9)), (4, .int (nI ((vsN sg.2.1 v9).length / size))), (5, .ref q47)] ∧ Wd D S0 (((b 0), .inr (4, [.int (nI 0), .int (nI sg.1.length), .ref (b 1), .int (nI sg.2.1.length), .ref (b 2), .int (nI sg.2.2.1.length), .ref (b 3), .ref (b 4), .ref (b 5), .ref (mI w), .int (nI sg.2.2.2.2.length), .ref (b 6)])) :: ((b 1), fa cs 400 (mf w)) :: ((b 2), qa cs 2 12 (mg w 0)) :: ((b 3), qa cs 2 12 (mg w 1)) :: ((b 4), qa cs 2 12 (mg w 2)) :: ((b 5), qa cs 2 12 (mg w 3)) :: ((b 6), qa cs 2 20 (mg w 4)) :: (q47, fa cs ((vsN sg.2.1 v9).length / size) (upd g8 k (nI (wsum (bv (vsN sg.2.1 v9)) (k * size) size)))) :: Z) H ∧ va_S (SA S0) s.heap H locs ∧ (q9 ≤ k)) 0 ⟨lv_sub hl [0, 1, 2, 3, 4, 5, 6, 7, 8] rfl, hW, hS, (show 0 ≤ k from Nat.zero_le _)⟩ (fun dd81 ih81 y9 ls H locs hd9 hI9 => ?_)
    obtain ⟨jq, rfl⟩ : ∃ z, z = y9 := ⟨_, rfl⟩
    have hd81 : k - jq = dd81 := hd9
    have hI9 : lv_has ls 9 [(8, .int (nI jq)), (7, .int (nI k)), (6, .int (nI ((colN (vsN sg.2.1 v9) size k) + ct (colP (vsN sg.2.1 v9) size k) jq))), (0, .ref (b 0)), (1, .int (nI v9)), (2, .int (nI size)), (3, .ref (mA w 0 v9)), (4, .int (nI ((vsN sg.2.1 v9).length / size))), (5, .ref q47)] ∧ Wd D S0 (((b 0), .inr (4, [.int (nI 0), .int (nI sg.1.length), .ref (b 1), .int (nI sg.2.1.length), .ref (b 2), .int (nI sg.2.2.1.length), .ref (b 3), .ref (b 4), .ref (b 5), .ref (mI w), .int (nI sg.2.2.2.2.length), .ref (b 6)])) :: ((b 1), fa cs 400 (mf w)) :: ((b 2), qa cs 2 12 (mg w 0)) :: ((b 3), qa cs 2 12 (mg w 1)) :: ((b 4), qa cs 2 12 (mg w 2)) :: ((b 5), qa cs 2 12 (mg w 3)) :: ((b 6), qa cs 2 20 (mg w 4)) :: (q47, fa cs ((vsN sg.2.1 v9).length / size) (upd g8 k (nI (wsum (bv (vsN sg.2.1 v9)) (k * size) size)))) :: Z) H ∧ va_S (SA S0) s.heap H locs ∧ (jq ≤ k) := hI9
    obtain ⟨hl, hW, hS, hj9⟩ := hI9
    refine lv_iload hx hb dX3_collisions_81 (lv_at hl 0 rfl) ?_
    refine lv_iload hx hb dX3_collisions_83 (lv_at hl 1 rfl) ?_
    refine z_icmp_ge (tgt := 134) hx hb (by omega) (by omega) dX3_collisions_85 (by decide) (fun hc85 => ?_) (fun hc85 => ?_)
    · skip
      have hc85 : k ≤ jq := hc85
      have e9 : jq = k := by omega
      rw [e9] at hl
      refine lv_iinc (v := nI (k + 1)) (lv' := [(7, .int (nI (k + 1))), (8, .int (nI k)), (6, .int (nI ((colN (vsN sg.2.1 v9) size k) + ct (colP (vsN sg.2.1 v9) size k) k))), (0, .ref (b 0)), (1, .int (nI v9)), (2, .int (nI size)), (3, .ref (mA w 0 v9)), (4, .int (nI ((vsN sg.2.1 v9).length / size))), (5, .ref q47)]) hx hb dX3_collisions_134 hl (k := 1) rfl (z_inc _) (by decide) rfl (fun ls hl => ?_)
      refine lv_goto (tgt := 57) hx hb dX3_collisions_137 (by decide) ?_
      exact ih57 ((k + 1), (upd g8 k (nI (wsum (bv (vsN sg.2.1 v9)) (k * size) size)))) ls H locs (show (vsN sg.2.1 v9).length / size - (k + 1) < dd57 by omega) ⟨lv_sub hl [0, 2, 3, 4, 5, 6, 7, 8] rfl, hW, hS, (show (k + 1) ≤ (vsN sg.2.1 v9).length / size from by omega), (show ∀ z, z < (k + 1) → (upd g8 k (nI (wsum (bv (vsN sg.2.1 v9)) (k * size) size))) z = (fun z => nI (wsum (bv (vsN sg.2.1 v9)) (z * size) size)) z from hg2)⟩
    · skip
      have hc85 : jq < k := hc85
      refine lv_iload hx hb dX3_collisions_88 (lv_at hl 2 rfl) ?_
      refine lv_aload hx hb dX3_collisions_90 (lv_at hl 8 rfl) ?_
      refine lv_iload hx hb dX3_collisions_92 (lv_at hl 0 rfl) ?_
      refine z_iald (k := jq) (f := (upd g8 k (nI (wsum (bv (vsN sg.2.1 v9)) (k * size) size)))) hx hb hK (hW.1 7 _ rfl) (by omega) (by omega) dX3_collisions_94 ?_
      refine zti (hg2 jq (by omega)) (y := nI (wsum (bv (vsN sg.2.1 v9)) (jq * size) size)) ?_
      refine lv_aload hx hb dX3_collisions_95 (lv_at hl 8 rfl) ?_
      refine lv_iload hx hb dX3_collisions_97 (lv_at hl 1 rfl) ?_
      refine z_iald (k := k) (f := (upd g8 k (nI (wsum (bv (vsN sg.2.1 v9)) (k * size) size)))) hx hb hK (hW.1 7 _ rfl) (by omega) (by omega) dX3_collisions_99 ?_
      refine zti (hg2 k (by omega)) (y := nI (wsum (bv (vsN sg.2.1 v9)) (k * size) size)) ?_
      refine lv_icmp_ne (tgt := 124) hx hb dX3_collisions_100 (by decide) (fun hc100 => ?_) (fun hc100 => ?_)
      · skip
        have hc100 : ¬ (nI (wsum (bv (vsN sg.2.1 v9)) (jq * size) size)) = (nI (wsum (bv (vsN sg.2.1 v9)) (k * size) size)) := hc100
        refine lv_iconst (v := nI 0) hx hb dX3_collisions_124 (by decide) ?_
        refine lv_iadd hx hb dX3_collisions_125 ?_
        refine zti (nI_add _ _) (y := nI ((colN (vsN sg.2.1 v9) size k) + ct (colP (vsN sg.2.1 v9) size k) jq + 0)) ?_
        refine lv_istore (lv' := [(6, .int (nI ((colN (vsN sg.2.1 v9) size k) + ct (colP (vsN sg.2.1 v9) size k) jq + 0))), (8, .int (nI jq)), (7, .int (nI k)), (0, .ref (b 0)), (1, .int (nI v9)), (2, .int (nI size)), (3, .ref (mA w 0 v9)), (4, .int (nI ((vsN sg.2.1 v9).length / size))), (5, .ref q47)]) hx hb dX3_collisions_126 hl (by decide) rfl (fun ls hl => ?_)
        have e9 : ct (colP (vsN sg.2.1 v9) size k) (jq + 1) = ct (colP (vsN sg.2.1 v9) size k) jq + 0 := ct_f (colP_f1 hc100)
        rw [show (colN (vsN sg.2.1 v9) size k) + ct (colP (vsN sg.2.1 v9) size k) jq + 0 = (colN (vsN sg.2.1 v9) size k) + ct (colP (vsN sg.2.1 v9) size k) (jq + 1) by rw [e9]; omega] at hl
        have hl : lv_has ls 9 [(6, .int (nI ((colN (vsN sg.2.1 v9) size k) + ct (colP (vsN sg.2.1 v9) size k) (jq + 1)))), (8, .int (nI jq)), (7, .int (nI k)), (0, .ref (b 0)), (1, .int (nI v9)), (2, .int (nI size)), (3, .ref (mA w 0 v9)), (4, .int (nI ((vsN sg.2.1 v9).length / size))), (5, .ref q47)] := hl
        refine lv_iinc (v := nI (jq + 1)) (lv' := [(8, .int (nI (jq + 1))), (6, .int (nI ((colN (vsN sg.2.1 v9) size k) + ct (colP (vsN sg.2.1 v9) size k) (jq + 1)))), (7, .int (nI k)), (0, .ref (b 0)), (1, .int (nI v9)), (2, .int (nI size)), (3, .ref (mA w 0 v9)), (4, .int (nI ((vsN sg.2.1 v9).length / size))), (5, .ref q47)]) hx hb dX3_collisions_128 hl (k := 1) rfl (z_inc _) (by decide) rfl (fun ls hl => ?_)
        refine lv_goto (tgt := 81) hx hb dX3_collisions_131 (by decide) ?_
        exact ih81 (jq + 1) ls H locs (show k - (jq + 1) < dd81 by omega) ⟨lv_sub hl [0, 2, 1, 3, 4, 5, 6, 7, 8] rfl, hW, hS, (show (jq + 1) ≤ k from by omega)⟩
      · skip
        have hc100 : (nI (wsum (bv (vsN sg.2.1 v9)) (jq * size) size)) = (nI (wsum (bv (vsN sg.2.1 v9)) (k * size) size)) := hc100
        refine lv_aload_n hx hb dX3_collisions_103 rfl (lv_at hl 6 rfl) ?_
        refine lv_iload hx hb dX3_collisions_104 (lv_at hl 0 rfl) ?_
        refine lv_iload_n hx hb dX3_collisions_106 rfl (lv_at hl 5 rfl) ?_
        refine lv_imul hx hb dX3_collisions_107 ?_
        refine zti (pk_mul _ _) (y := nI (jq * size)) ?_
        refine lv_aload_n hx hb dX3_collisions_108 rfl (lv_at hl 6 rfl) ?_
        refine lv_iload hx hb dX3_collisions_109 (lv_at hl 1 rfl) ?_
        refine lv_iload_n hx hb dX3_collisions_111 rfl (lv_at hl 5 rfl) ?_
        refine lv_imul hx hb dX3_collisions_112 ?_
        refine zti (pk_mul _ _) (y := nI (k * size)) ?_
        refine lv_iload_n hx hb dX3_collisions_113 rfl (lv_at hl 5 rfl) ?_
        refine z_csS (As := [.ref (mA w 0 v9), .int (nI (jq * size)), .ref (mA w 0 v9), .int (nI (k * size)), .int (nI size)]) (rest := [.int (nI ((colN (vsN sg.2.1 v9) size k) + ct (colP (vsN sg.2.1 v9) size k) jq))]) ⟨hx, hb, hml, hown, hts⟩ (c_X3_isLike l D cs (mA w 0 v9) (mA w 0 v9) (vsN sg.2.1 v9).length (vsN sg.2.1 v9).length (bb (vsN sg.2.1 v9)) (bb (vsN sg.2.1 v9)) (jq * size) (k * size) size (z_blk (show jq < (vsN sg.2.1 v9).length / size by omega)) hkb (by omega) (by omega)) (va_cwS 5 hts gX3_collisions_X3_isLike rfl rfl rfl (by decide +kernel) ⟨Nat.le_of_ble_eq_true rfl, Nat.le_of_ble_eq_true rfl⟩) ⟨(hW.mem (List.mem_cons_of_mem _ (List.mem_cons_of_mem _ (List.mem_cons_of_mem _ (List.mem_cons_of_mem _ (List.mem_cons_of_mem _ (List.mem_cons_of_mem _ (List.mem_cons_of_mem _ (List.mem_cons_of_mem _ (hF.2.1 v9 hv9).2))))))))), (hW.mem (List.mem_cons_of_mem _ (List.mem_cons_of_mem _ (List.mem_cons_of_mem _ (List.mem_cons_of_mem _ (List.mem_cons_of_mem _ (List.mem_cons_of_mem _ (List.mem_cons_of_mem _ (List.mem_cons_of_mem _ (hF.2.1 v9 hv9).2)))))))))⟩ hK rfl hl.1 rfl (Nat.le_of_ble_eq_true rfl) dX3_collisions_114 ⟨(by rw [hRc]; omega), (by rw [hRs]; omega)⟩ (fun r hq9 => ?_)
        have hq9 : r = bI (stB (bb (vsN sg.2.1 v9)) (bb (vsN sg.2.1 v9)) (jq * size) (k * size) size) := hq9
        subst hq9
        refine z_ifb_ne (tgt := 124) hx hb dX3_collisions_117 (by decide) (fun hc117 => ?_) (fun hc117 => ?_)
        · skip
          have hc117 : (stB (bb (vsN sg.2.1 v9)) (bb (vsN sg.2.1 v9)) (jq * size) (k * size) size) = true := hc117
          refine lv_iconst (v := nI 0) hx hb dX3_collisions_124 (by decide) ?_
          refine lv_iadd hx hb dX3_collisions_125 ?_
          refine zti (nI_add _ _) (y := nI ((colN (vsN sg.2.1 v9) size k) + ct (colP (vsN sg.2.1 v9) size k) jq + 0)) ?_
          refine lv_istore (lv' := [(6, .int (nI ((colN (vsN sg.2.1 v9) size k) + ct (colP (vsN sg.2.1 v9) size k) jq + 0))), (8, .int (nI jq)), (7, .int (nI k)), (0, .ref (b 0)), (1, .int (nI v9)), (2, .int (nI size)), (3, .ref (mA w 0 v9)), (4, .int (nI ((vsN sg.2.1 v9).length / size))), (5, .ref q47)]) hx hb dX3_collisions_126 hl (by decide) rfl (fun ls hl => ?_)
          have e9 : ct (colP (vsN sg.2.1 v9) size k) (jq + 1) = ct (colP (vsN sg.2.1 v9) size k) jq + 0 := ct_f (colP_f2 hc117)
          rw [show (colN (vsN sg.2.1 v9) size k) + ct (colP (vsN sg.2.1 v9) size k) jq + 0 = (colN (vsN sg.2.1 v9) size k) + ct (colP (vsN sg.2.1 v9) size k) (jq + 1) by rw [e9]; omega] at hl
          have hl : lv_has ls 9 [(6, .int (nI ((colN (vsN sg.2.1 v9) size k) + ct (colP (vsN sg.2.1 v9) size k) (jq + 1)))), (8, .int (nI jq)), (7, .int (nI k)), (0, .ref (b 0)), (1, .int (nI v9)), (2, .int (nI size)), (3, .ref (mA w 0 v9)), (4, .int (nI ((vsN sg.2.1 v9).length / size))), (5, .ref q47)] := hl
          refine lv_iinc (v := nI (jq + 1)) (lv' := [(8, .int (nI (jq + 1))), (6, .int (nI ((colN (vsN sg.2.1 v9) size k) + ct (colP (vsN sg.2.1 v9) size k) (jq + 1)))), (7, .int (nI k)), (0, .ref (b 0)), (1, .int (nI v9)), (2, .int (nI size)), (3, .ref (mA w 0 v9)), (4, .int (nI ((vsN sg.2.1 v9).length / size))), (5, .ref q47)]) hx hb dX3_collisions_128 hl (k := 1) rfl (z_inc _) (by decide) rfl (fun ls hl => ?_)
          refine lv_goto (tgt := 81) hx hb dX3_collisions_131 (by decide) ?_
          exact ih81 (jq + 1) ls H locs (show k - (jq + 1) < dd81 by omega) ⟨lv_sub hl [0, 2, 1, 3, 4, 5, 6, 7, 8] rfl, hW, hS, (show (jq + 1) ≤ k from by omega)⟩
        · skip
          have hc117 : (stB (bb (vsN sg.2.1 v9)) (bb (vsN sg.2.1 v9)) (jq * size) (k * size) size) = false := hc117
          refine lv_iconst (v := nI 1) hx hb dX3_collisions_120 (by decide) ?_
          refine lv_goto (tgt := 125) hx hb dX3_collisions_121 (by decide) ?_
          refine lv_iadd hx hb dX3_collisions_125 ?_
          refine zti (nI_add _ _) (y := nI ((colN (vsN sg.2.1 v9) size k) + ct (colP (vsN sg.2.1 v9) size k) jq + 1)) ?_
          refine lv_istore (lv' := [(6, .int (nI ((colN (vsN sg.2.1 v9) size k) + ct (colP (vsN sg.2.1 v9) size k) jq + 1))), (8, .int (nI jq)), (7, .int (nI k)), (0, .ref (b 0)), (1, .int (nI v9)), (2, .int (nI size)), (3, .ref (mA w 0 v9)), (4, .int (nI ((vsN sg.2.1 v9).length / size))), (5, .ref q47)]) hx hb dX3_collisions_126 hl (by decide) rfl (fun ls hl => ?_)
          have e9 : ct (colP (vsN sg.2.1 v9) size k) (jq + 1) = ct (colP (vsN sg.2.1 v9) size k) jq + 1 := ct_t (colP_t hc100 hc117)
          rw [show (colN (vsN sg.2.1 v9) size k) + ct (colP (vsN sg.2.1 v9) size k) jq + 1 = (colN (vsN sg.2.1 v9) size k) + ct (colP (vsN sg.2.1 v9) size k) (jq + 1) by rw [e9]; omega] at hl
          have hl : lv_has ls 9 [(6, .int (nI ((colN (vsN sg.2.1 v9) size k) + ct (colP (vsN sg.2.1 v9) size k) (jq + 1)))), (8, .int (nI jq)), (7, .int (nI k)), (0, .ref (b 0)), (1, .int (nI v9)), (2, .int (nI size)), (3, .ref (mA w 0 v9)), (4, .int (nI ((vsN sg.2.1 v9).length / size))), (5, .ref q47)] := hl
          refine lv_iinc (v := nI (jq + 1)) (lv' := [(8, .int (nI (jq + 1))), (6, .int (nI ((colN (vsN sg.2.1 v9) size k) + ct (colP (vsN sg.2.1 v9) size k) (jq + 1)))), (7, .int (nI k)), (0, .ref (b 0)), (1, .int (nI v9)), (2, .int (nI size)), (3, .ref (mA w 0 v9)), (4, .int (nI ((vsN sg.2.1 v9).length / size))), (5, .ref q47)]) hx hb dX3_collisions_128 hl (k := 1) rfl (z_inc _) (by decide) rfl (fun ls hl => ?_)
          refine lv_goto (tgt := 81) hx hb dX3_collisions_131 (by decide) ?_
          exact ih81 (jq + 1) ls H locs (show k - (jq + 1) < dd81 by omega) ⟨lv_sub hl [0, 2, 1, 3, 4, 5, 6, 7, 8] rfl, hW, hS, (show (jq + 1) ≤ k from by omega)⟩
