/-! the model: fail, keep, add, install -/
set_option maxHeartbeats 4000000 in
set_option maxRecDepth 100000 in
theorem c_X3_fail (l : Launch) (D : va_G) (cs : Nat → ClassId) (S0 : Nat) (Z : va_W) (b : Nat → Nat) (w : MU) (th k9 : Int32) (sg : St) : Met l yX3_fail wsX3_fail ({ frames := 0, cells := 0, slots := 0, locals := 0 }) (zP [.ref (b 0), .int k9] (fun H => Wd D S0 (MW cs b w th sg Z) H) D cs) (va_Qi (fun r (_ : Unit) => r = nI 0) (fun _ t => Wd D S0 (MW cs b w k9 sg Z) t.heap) (SA S0)) 0 0 (SA S0) := by
  refine Met.ofW (cc := cX3_fail) (maxL := 2) (ret := (some .int)) (by decide) rfl ?_
  intro p e s m args below meth c s₁ B hml hv
  obtain ⟨rfl, hW, hK⟩ := hv
  have hx := B.exec
  have hb := B.bytes
  have hr := B.returns
  have hts := atoms_spec (ws := wsX3_fail) B.pre
  have hown : s.vm.findClass RX3 = some m.cls := findClass_of_methodNamed B.named
  have hlocks := B.notSynchronized
  have hRc : (headSpec wsX3_fail ({ frames := 0, cells := 0, slots := 0, locals := 0 })).room.cells = 0 := rfl
  have hRs : (headSpec wsX3_fail ({ frames := 0, cells := 0, slots := 0, locals := 0 })).room.slots = 0 := rfl
  have fl33 := hts (.fieldLink RX3 33 "DeltaUpdaterModel" "thrown" "I") (by decide +kernel)
  have in4 : ∀ w ∈ u_ws RX3 TX3 12, w ∈ wsX3_fail := by decide +kernel
  have hW : Wd D S0 (MW cs b w th sg Z) s.heap := hW
  have hS0 : S0 ≤ s.heap.size := hW.2.2
  have hS : va_S (SA S0) s.heap s.heap [] := va_S.rf
  have hl := lv_entry ([.ref (b 0), .int k9]) (n := 2) (Nat.le_of_ble_eq_true rfl)
  rw [lg_entry_eq]
  generalize (lg_sl ([.ref (b 0), .int k9]) ++ List.replicate (2 - (lg_sl ([.ref (b 0), .int k9])).length) Slot.unset).toArray = ls at hl ⊢
  have hl : lv_has ls 2 [(0, .ref (b 0)), (1, .int k9)] := hl
  refine lv_aload_n hx hb dX3_fail_0 rfl (lv_at hl 0 rfl) ?_
  refine lv_iload_n hx hb dX3_fail_1 rfl (lv_at hl 1 rfl) ?_
  refine z_put (ty := .int) (ci := 4) (v := .int k9) (C := RX3) (T := TX3) (N := 12) hx hb hts in4 tyX3 tyX3_ok nmX3 hown hK hW hS 0 rfl rfl 0 (by decide) fl33 (fun _ h9 => h9) rfl (by decide +kernel) rfl rfl (Nat.le_of_ble_eq_true rfl) dX3_fail_2 (fun H locs hW hS => ?_)
  have hW : Wd D S0 (((b 0), .inr (4, [.int k9, .int (nI sg.1.length), .ref (b 1), .int (nI sg.2.1.length), .ref (b 2), .int (nI sg.2.2.1.length), .ref (b 3), .ref (b 4), .ref (b 5), .ref (mI w), .int (nI sg.2.2.2.2.length), .ref (b 6)])) :: ((b 1), fa cs 400 (mf w)) :: ((b 2), qa cs 2 12 (mg w 0)) :: ((b 3), qa cs 2 12 (mg w 1)) :: ((b 4), qa cs 2 12 (mg w 2)) :: ((b 5), qa cs 2 12 (mg w 3)) :: ((b 6), qa cs 2 20 (mg w 4)) :: Z) H := hW
  refine lv_iconst (v := nI 0) hx hb dX3_fail_5 (by decide) ?_
  refine W.widen (k := 0) (n := 0) (by omega) (by omega) ?_
  exact W.iret (v := nI 0) hx hb hr (fun t ht hW9 => ⟨⟨_, (), rfl, rfl, (by show Wd D S0 _ _; rw [ht]; exact hW)⟩, hS.F ht⟩) (fun q9 h9 => hS.2.2 q9 h9) dX3_fail_6

set_option maxHeartbeats 4000000 in
set_option maxRecDepth 100000 in
theorem c_X3_keep (l : Launch) (D : va_G) (cs : Nat → ClassId) (S0 : Nat) (Z : va_W) (b : Nat → Nat) (w : MU) (sg : St) (hF : MF cs w sg Z) (th : Int32) (r9 : Nat) (xs : BL) (hr9 : (r9, ba cs xs) ∈ Z) (hx9 : rowOk xs) (hroom : sg.2.1.length < 12) : Met l yX3_keep wsX3_keep ({ frames := 0, cells := 0, slots := 0, locals := 0 }) (zM [.ref (b 0), .ref r9] (fun H => Wd D S0 (MW cs b w (th) sg Z) H) D cs) (va_Qi (fun r (v : MU × va_W) => r = nI sg.2.1.length ∧ MF cs v.1 (stV sg xs) (v.2 ++ Z)) (fun v t => Wd D S0 (MW cs b v.1 th (stV sg xs) (v.2 ++ Z)) t.heap) (SA S0)) 0 0 (SA S0) := by
  refine Met.ofW (cc := cX3_keep) (maxL := 2) (ret := (some .int)) (by decide) rfl ?_
  intro p e s m args below meth c s₁ B hml hv
  obtain ⟨rfl, hW, hK, hA9⟩ := hv
  have hx := B.exec
  have hb := B.bytes
  have hr := B.returns
  have hts := atoms_spec (ws := wsX3_keep) B.pre
  have hown : s.vm.findClass RX3 = some m.cls := findClass_of_methodNamed B.named
  have hlocks := B.notSynchronized
  have hRc : (headSpec wsX3_keep ({ frames := 0, cells := 0, slots := 0, locals := 0 })).room.cells = 0 := rfl
  have hRs : (headSpec wsX3_keep ({ frames := 0, cells := 0, slots := 0, locals := 0 })).room.slots = 0 := rfl
  have fl14 := hts (.fieldLink RX3 14 "DeltaUpdaterModel" "rows" "[[I") (by decide +kernel)
  have fl37 := hts (.fieldLink RX3 37 "DeltaUpdaterModel" "versions" "I") (by decide +kernel)
  have in4 : ∀ w ∈ u_ws RX3 TX3 12, w ∈ wsX3_keep := by decide +kernel
  have hW : Wd D S0 (MW cs b w (th) sg Z) s.heap := hW
  have hS0 : S0 ≤ s.heap.size := hW.2.2
  have hS : va_S (SA S0) s.heap s.heap [] := va_S.rf
  have hl := lv_entry ([.ref (b 0), .ref r9]) (n := 2) (Nat.le_of_ble_eq_true rfl)
  rw [lg_entry_eq]
  generalize (lg_sl ([.ref (b 0), .ref r9]) ++ List.replicate (2 - (lg_sl ([.ref (b 0), .ref r9])).length) Slot.unset).toArray = ls at hl ⊢
  have hl : lv_has ls 2 [(0, .ref (b 0)), (1, .ref r9)] := hl
  have hok := hF.2.2.2.2.2
  have hbl := hok.1.1
  have hnv := hok.2.1.1
  have hnp := hok.2.2.1.1
  have hnh := hok.2.2.2.2.1
  refine lv_aload_n hx hb dX3_keep_0 rfl (lv_at hl 0 rfl) ?_
  refine z_get (ci := 4) (v := .ref (b 2)) (C := RX3) (T := TX3) (N := 12) hx hb hts in4 hown hK (hW.1 0 _ rfl) rfl 4 (by decide) fl14 (fun _ h9 => h9) rfl dX3_keep_1 ?_
  refine lv_aload_n hx hb dX3_keep_4 rfl (lv_at hl 0 rfl) ?_
  refine z_get (ci := 4) (v := .int (nI sg.2.1.length)) (C := RX3) (T := TX3) (N := 12) hx hb hts in4 hown hK (hW.1 0 _ rfl) rfl 3 (by decide) fl37 (fun _ h9 => h9) rfl dX3_keep_5 ?_
  refine lv_aload_n hx hb dX3_keep_8 rfl (lv_at hl 1 rfl) ?_
  refine z_astA (k := sg.2.1.length) (v := r9) (n := 12) (n1 := xs.length) (g := (fun i => nI ((bv xs) i))) (f := (mg w 0)) hx hb hA9 hK hW hS 2 rfl (List.mem_cons_of_mem _ (List.mem_cons_of_mem _ (List.mem_cons_of_mem _ (List.mem_cons_of_mem _ (List.mem_cons_of_mem _ (List.mem_cons_of_mem _ (List.mem_cons_of_mem _ hr9))))))) (by omega) (by omega) dX3_keep_9 (fun H locs hW hS => ?_)
  have hW : Wd D S0 (((b 0), .inr (4, [.int th, .int (nI sg.1.length), .ref (b 1), .int (nI sg.2.1.length), .ref (b 2), .int (nI sg.2.2.1.length), .ref (b 3), .ref (b 4), .ref (b 5), .ref (mI w), .int (nI sg.2.2.2.2.length), .ref (b 6)])) :: ((b 1), fa cs 400 (mf w)) :: ((b 2), qa cs 2 12 (va_up (mg w 0) sg.2.1.length (some r9))) :: ((b 3), qa cs 2 12 (mg w 1)) :: ((b 4), qa cs 2 12 (mg w 2)) :: ((b 5), qa cs 2 12 (mg w 3)) :: ((b 6), qa cs 2 20 (mg w 4)) :: Z) H := hW
  refine lv_aload_n hx hb dX3_keep_10 rfl (lv_at hl 0 rfl) ?_
  refine lv_dup hx hb dX3_keep_11 rfl ?_
  refine z_get (ci := 4) (v := .int (nI sg.2.1.length)) (C := RX3) (T := TX3) (N := 12) hx hb hts in4 hown hK (hW.1 0 _ rfl) rfl 3 (by decide) fl37 (fun _ h9 => h9) rfl dX3_keep_12 ?_
  refine lv_iconst (v := nI 1) hx hb dX3_keep_15 (by decide) ?_
  refine lv_iadd hx hb dX3_keep_16 ?_
  refine zti (nI_add _ _) (y := nI (sg.2.1.length + 1)) ?_
  refine z_put (ty := .int) (ci := 4) (v := .int (nI (sg.2.1.length + 1))) (C := RX3) (T := TX3) (N := 12) hx hb hts in4 tyX3 tyX3_ok nmX3 hown hK hW hS 0 rfl rfl 3 (by decide) fl37 (fun _ h9 => h9) rfl (by decide +kernel) rfl rfl (Nat.le_of_ble_eq_true rfl) dX3_keep_17 (fun H locs hW hS => ?_)
  have hW : Wd D S0 (((b 0), .inr (4, [.int th, .int (nI sg.1.length), .ref (b 1), .int (nI (sg.2.1.length + 1)), .ref (b 2), .int (nI sg.2.2.1.length), .ref (b 3), .ref (b 4), .ref (b 5), .ref (mI w), .int (nI sg.2.2.2.2.length), .ref (b 6)])) :: ((b 1), fa cs 400 (mf w)) :: ((b 2), qa cs 2 12 (va_up (mg w 0) sg.2.1.length (some r9))) :: ((b 3), qa cs 2 12 (mg w 1)) :: ((b 4), qa cs 2 12 (mg w 2)) :: ((b 5), qa cs 2 12 (mg w 3)) :: ((b 6), qa cs 2 20 (mg w 4)) :: Z) H := hW
  refine lv_aload_n hx hb dX3_keep_20 rfl (lv_at hl 0 rfl) ?_
  refine z_get (ci := 4) (v := .int (nI (sg.2.1.length + 1))) (C := RX3) (T := TX3) (N := 12) hx hb hts in4 hown hK (hW.1 0 _ rfl) rfl 3 (by decide) fl37 (fun _ h9 => h9) rfl dX3_keep_21 ?_
  refine lv_iconst (v := nI 1) hx hb dX3_keep_24 (by decide) ?_
  refine lv_isub hx hb dX3_keep_25 ?_
  refine zti (pk_sub (by omega)) (y := nI ((sg.2.1.length + 1) - 1)) ?_
  have hlen : (stV sg xs).2.1.length = sg.2.1.length + 1 := List.length_append
  rw [← hlen] at hW
  have hW : Wd D S0 (MW cs b (muS w 0 sg.2.1.length r9) th (stV sg xs) ([] ++ Z)) H := hW
  refine W.widen (k := 0) (n := 0) (by omega) (by omega) ?_
  exact W.iret (v := nI ((sg.2.1.length + 1) - 1)) hx hb hr (fun t ht hW9 => ⟨⟨_, (muS w 0 sg.2.1.length r9, []), rfl, ⟨congrArg nI (by omega), hF.addV hr9 hx9 hroom⟩, (by show Wd D S0 _ _; rw [ht]; exact hW)⟩, hS.F ht⟩) (fun q9 h9 => hS.2.2 q9 h9) dX3_keep_26

set_option maxHeartbeats 4000000 in
set_option maxRecDepth 100000 in
theorem c_X3_add (l : Launch) (D : va_G) (cs : Nat → ClassId) (S0 : Nat) (Z : va_W) (b : Nat → Nat) (w : MU) (sg : St) (hF : MF cs w sg Z) (th : Int32) (r1 r2 r3 : Nat) (p9 : Pt) (m1 : (r1, ba cs p9.1) ∈ Z) (m2 : (r2, ba cs p9.2.1) ∈ Z) (m3 : (r3, fa cs p9.2.1.length (rf p9.2.2)) ∈ Z) (hx9 : ptOk p9) (hroom : sg.2.2.1.length < 12) : Met l yX3_add wsX3_add ({ frames := 0, cells := 0, slots := 0, locals := 0 }) (zM [.ref (b 0), .ref r1, .ref r2, .ref r3] (fun H => Wd D S0 (MW cs b w (th) sg Z) H) D cs) (va_Qi (fun r (v : MU × va_W) => r = nI sg.2.2.1.length ∧ MF cs v.1 (stP sg p9) (v.2 ++ Z)) (fun v t => Wd D S0 (MW cs b v.1 th (stP sg p9) (v.2 ++ Z)) t.heap) (SA S0)) 0 0 (SA S0) := by
  refine Met.ofW (cc := cX3_add) (maxL := 4) (ret := (some .int)) (by decide) rfl ?_
  intro p e s m args below meth c s₁ B hml hv
  obtain ⟨rfl, hW, hK, hA9⟩ := hv
  have hx := B.exec
  have hb := B.bytes
  have hr := B.returns
  have hts := atoms_spec (ws := wsX3_add) B.pre
  have hown : s.vm.findClass RX3 = some m.cls := findClass_of_methodNamed B.named
  have hlocks := B.notSynchronized
  have hRc : (headSpec wsX3_add ({ frames := 0, cells := 0, slots := 0, locals := 0 })).room.cells = 0 := rfl
  have hRs : (headSpec wsX3_add ({ frames := 0, cells := 0, slots := 0, locals := 0 })).room.slots = 0 := rfl
  have fl18 := hts (.fieldLink RX3 18 "DeltaUpdaterModel" "bases" "[[I") (by decide +kernel)
  have fl21 := hts (.fieldLink RX3 21 "DeltaUpdaterModel" "goals" "[[I") (by decide +kernel)
  have fl24 := hts (.fieldLink RX3 24 "DeltaUpdaterModel" "origins" "[[I") (by decide +kernel)
  have fl44 := hts (.fieldLink RX3 44 "DeltaUpdaterModel" "patches" "I") (by decide +kernel)
  have in4 : ∀ w ∈ u_ws RX3 TX3 12, w ∈ wsX3_add := by decide +kernel
  have hW : Wd D S0 (MW cs b w (th) sg Z) s.heap := hW
  have hS0 : S0 ≤ s.heap.size := hW.2.2
  have hS : va_S (SA S0) s.heap s.heap [] := va_S.rf
  have hl := lv_entry ([.ref (b 0), .ref r1, .ref r2, .ref r3]) (n := 4) (Nat.le_of_ble_eq_true rfl)
  rw [lg_entry_eq]
  generalize (lg_sl ([.ref (b 0), .ref r1, .ref r2, .ref r3]) ++ List.replicate (4 - (lg_sl ([.ref (b 0), .ref r1, .ref r2, .ref r3])).length) Slot.unset).toArray = ls at hl ⊢
  have hl : lv_has ls 4 [(0, .ref (b 0)), (1, .ref r1), (2, .ref r2), (3, .ref r3)] := hl
  have hok := hF.2.2.2.2.2
  have hbl := hok.1.1
  have hnv := hok.2.1.1
  have hnp := hok.2.2.1.1
  have hnh := hok.2.2.2.2.1
  refine lv_aload_n hx hb dX3_add_0 rfl (lv_at hl 0 rfl) ?_
  refine z_get (ci := 4) (v := .ref (b 3)) (C := RX3) (T := TX3) (N := 12) hx hb hts in4 hown hK (hW.1 0 _ rfl) rfl 6 (by decide) fl18 (fun _ h9 => h9) rfl dX3_add_1 ?_
  refine lv_aload_n hx hb dX3_add_4 rfl (lv_at hl 0 rfl) ?_
  refine z_get (ci := 4) (v := .int (nI sg.2.2.1.length)) (C := RX3) (T := TX3) (N := 12) hx hb hts in4 hown hK (hW.1 0 _ rfl) rfl 5 (by decide) fl44 (fun _ h9 => h9) rfl dX3_add_5 ?_
  refine lv_aload_n hx hb dX3_add_8 rfl (lv_at hl 1 rfl) ?_
  refine z_astA (k := sg.2.2.1.length) (v := r1) (n := 12) (n1 := p9.1.length) (g := (fun i => nI ((bv p9.1) i))) (f := (mg w 1)) hx hb hA9 hK hW hS 3 rfl (List.mem_cons_of_mem _ (List.mem_cons_of_mem _ (List.mem_cons_of_mem _ (List.mem_cons_of_mem _ (List.mem_cons_of_mem _ (List.mem_cons_of_mem _ (List.mem_cons_of_mem _ m1))))))) (by omega) (by omega) dX3_add_9 (fun H locs hW hS => ?_)
  have hW : Wd D S0 (((b 0), .inr (4, [.int th, .int (nI sg.1.length), .ref (b 1), .int (nI sg.2.1.length), .ref (b 2), .int (nI sg.2.2.1.length), .ref (b 3), .ref (b 4), .ref (b 5), .ref (mI w), .int (nI sg.2.2.2.2.length), .ref (b 6)])) :: ((b 1), fa cs 400 (mf w)) :: ((b 2), qa cs 2 12 (mg w 0)) :: ((b 3), qa cs 2 12 (va_up (mg w 1) sg.2.2.1.length (some r1))) :: ((b 4), qa cs 2 12 (mg w 2)) :: ((b 5), qa cs 2 12 (mg w 3)) :: ((b 6), qa cs 2 20 (mg w 4)) :: Z) H := hW
  refine lv_aload_n hx hb dX3_add_10 rfl (lv_at hl 0 rfl) ?_
  refine z_get (ci := 4) (v := .ref (b 4)) (C := RX3) (T := TX3) (N := 12) hx hb hts in4 hown hK (hW.1 0 _ rfl) rfl 7 (by decide) fl21 (fun _ h9 => h9) rfl dX3_add_11 ?_
  refine lv_aload_n hx hb dX3_add_14 rfl (lv_at hl 0 rfl) ?_
  refine z_get (ci := 4) (v := .int (nI sg.2.2.1.length)) (C := RX3) (T := TX3) (N := 12) hx hb hts in4 hown hK (hW.1 0 _ rfl) rfl 5 (by decide) fl44 (fun _ h9 => h9) rfl dX3_add_15 ?_
  refine lv_aload_n hx hb dX3_add_18 rfl (lv_at hl 2 rfl) ?_
  refine z_astA (k := sg.2.2.1.length) (v := r2) (n := 12) (n1 := p9.2.1.length) (g := (fun i => nI ((bv p9.2.1) i))) (f := (mg w 2)) hx hb hA9 hK hW hS 4 rfl (List.mem_cons_of_mem _ (List.mem_cons_of_mem _ (List.mem_cons_of_mem _ (List.mem_cons_of_mem _ (List.mem_cons_of_mem _ (List.mem_cons_of_mem _ (List.mem_cons_of_mem _ m2))))))) (by omega) (by omega) dX3_add_19 (fun H locs hW hS => ?_)
  have hW : Wd D S0 (((b 0), .inr (4, [.int th, .int (nI sg.1.length), .ref (b 1), .int (nI sg.2.1.length), .ref (b 2), .int (nI sg.2.2.1.length), .ref (b 3), .ref (b 4), .ref (b 5), .ref (mI w), .int (nI sg.2.2.2.2.length), .ref (b 6)])) :: ((b 1), fa cs 400 (mf w)) :: ((b 2), qa cs 2 12 (mg w 0)) :: ((b 3), qa cs 2 12 (va_up (mg w 1) sg.2.2.1.length (some r1))) :: ((b 4), qa cs 2 12 (va_up (mg w 2) sg.2.2.1.length (some r2))) :: ((b 5), qa cs 2 12 (mg w 3)) :: ((b 6), qa cs 2 20 (mg w 4)) :: Z) H := hW
  refine lv_aload_n hx hb dX3_add_20 rfl (lv_at hl 0 rfl) ?_
  refine z_get (ci := 4) (v := .ref (b 5)) (C := RX3) (T := TX3) (N := 12) hx hb hts in4 hown hK (hW.1 0 _ rfl) rfl 8 (by decide) fl24 (fun _ h9 => h9) rfl dX3_add_21 ?_
  refine lv_aload_n hx hb dX3_add_24 rfl (lv_at hl 0 rfl) ?_
  refine z_get (ci := 4) (v := .int (nI sg.2.2.1.length)) (C := RX3) (T := TX3) (N := 12) hx hb hts in4 hown hK (hW.1 0 _ rfl) rfl 5 (by decide) fl44 (fun _ h9 => h9) rfl dX3_add_25 ?_
  refine lv_aload_n hx hb dX3_add_28 rfl (lv_at hl 3 rfl) ?_
  refine z_astA (k := sg.2.2.1.length) (v := r3) (n := 12) (n1 := p9.2.1.length) (g := (rf p9.2.2)) (f := (mg w 3)) hx hb hA9 hK hW hS 5 rfl (List.mem_cons_of_mem _ (List.mem_cons_of_mem _ (List.mem_cons_of_mem _ (List.mem_cons_of_mem _ (List.mem_cons_of_mem _ (List.mem_cons_of_mem _ (List.mem_cons_of_mem _ m3))))))) (by omega) (by omega) dX3_add_29 (fun H locs hW hS => ?_)
  have hW : Wd D S0 (((b 0), .inr (4, [.int th, .int (nI sg.1.length), .ref (b 1), .int (nI sg.2.1.length), .ref (b 2), .int (nI sg.2.2.1.length), .ref (b 3), .ref (b 4), .ref (b 5), .ref (mI w), .int (nI sg.2.2.2.2.length), .ref (b 6)])) :: ((b 1), fa cs 400 (mf w)) :: ((b 2), qa cs 2 12 (mg w 0)) :: ((b 3), qa cs 2 12 (va_up (mg w 1) sg.2.2.1.length (some r1))) :: ((b 4), qa cs 2 12 (va_up (mg w 2) sg.2.2.1.length (some r2))) :: ((b 5), qa cs 2 12 (va_up (mg w 3) sg.2.2.1.length (some r3))) :: ((b 6), qa cs 2 20 (mg w 4)) :: Z) H := hW
  refine lv_aload_n hx hb dX3_add_30 rfl (lv_at hl 0 rfl) ?_
  refine lv_dup hx hb dX3_add_31 rfl ?_
  refine z_get (ci := 4) (v := .int (nI sg.2.2.1.length)) (C := RX3) (T := TX3) (N := 12) hx hb hts in4 hown hK (hW.1 0 _ rfl) rfl 5 (by decide) fl44 (fun _ h9 => h9) rfl dX3_add_32 ?_
  refine lv_iconst (v := nI 1) hx hb dX3_add_35 (by decide) ?_
  refine lv_iadd hx hb dX3_add_36 ?_
  refine zti (nI_add _ _) (y := nI (sg.2.2.1.length + 1)) ?_
  refine z_put (ty := .int) (ci := 4) (v := .int (nI (sg.2.2.1.length + 1))) (C := RX3) (T := TX3) (N := 12) hx hb hts in4 tyX3 tyX3_ok nmX3 hown hK hW hS 0 rfl rfl 5 (by decide) fl44 (fun _ h9 => h9) rfl (by decide +kernel) rfl rfl (Nat.le_of_ble_eq_true rfl) dX3_add_37 (fun H locs hW hS => ?_)
  have hW : Wd D S0 (((b 0), .inr (4, [.int th, .int (nI sg.1.length), .ref (b 1), .int (nI sg.2.1.length), .ref (b 2), .int (nI (sg.2.2.1.length + 1)), .ref (b 3), .ref (b 4), .ref (b 5), .ref (mI w), .int (nI sg.2.2.2.2.length), .ref (b 6)])) :: ((b 1), fa cs 400 (mf w)) :: ((b 2), qa cs 2 12 (mg w 0)) :: ((b 3), qa cs 2 12 (va_up (mg w 1) sg.2.2.1.length (some r1))) :: ((b 4), qa cs 2 12 (va_up (mg w 2) sg.2.2.1.length (some r2))) :: ((b 5), qa cs 2 12 (va_up (mg w 3) sg.2.2.1.length (some r3))) :: ((b 6), qa cs 2 20 (mg w 4)) :: Z) H := hW
  refine lv_aload_n hx hb dX3_add_40 rfl (lv_at hl 0 rfl) ?_
  refine z_get (ci := 4) (v := .int (nI (sg.2.2.1.length + 1))) (C := RX3) (T := TX3) (N := 12) hx hb hts in4 hown hK (hW.1 0 _ rfl) rfl 5 (by decide) fl44 (fun _ h9 => h9) rfl dX3_add_41 ?_
  refine lv_iconst (v := nI 1) hx hb dX3_add_44 (by decide) ?_
  refine lv_isub hx hb dX3_add_45 ?_
  refine zti (pk_sub (by omega)) (y := nI ((sg.2.2.1.length + 1) - 1)) ?_
  have hlen : (stP sg p9).2.2.1.length = sg.2.2.1.length + 1 := List.length_append
  rw [← hlen] at hW
  have hW : Wd D S0 (MW cs b (muP w sg.2.2.1.length r1 r2 r3) th (stP sg p9) ([] ++ Z)) H := hW
  refine W.widen (k := 0) (n := 0) (by omega) (by omega) ?_
  exact W.iret (v := nI ((sg.2.2.1.length + 1) - 1)) hx hb hr (fun t ht hW9 => ⟨⟨_, (muP w sg.2.2.1.length r1 r2 r3, []), rfl, ⟨congrArg nI (by omega), hF.addP m1 m2 m3 hx9 hroom⟩, (by show Wd D S0 _ _; rw [ht]; exact hW)⟩, hS.F ht⟩) (fun q9 h9 => hS.2.2 q9 h9) dX3_add_46

set_option maxHeartbeats 4000000 in
set_option maxRecDepth 100000 in
theorem c_X3_install_a (l : Launch) (D : va_G) (cs : Nat → ClassId) (S0 : Nat) (Z : va_W) (b : Nat → Nat) (w : MU) (sg : St) (hF : MF cs w sg Z) (th : Int32) (r9 : Nat) (xs : BL) (hr9 : (r9, ba cs xs) ∈ Z) (hx9 : rowOk xs) (hlt : sg.2.2.2.2.length < 20) : Met l yX3_install wsX3_install ({ frames := 0, cells := 0, slots := 0, locals := 0 }) (zM [.ref (b 0), .ref r9] (fun H => Wd D S0 (MW cs b w (th) sg Z) H) D cs) (va_Qi (fun r (v : MU × va_W) => r = nI (stH sg sg.2.2.2.1).2.2.2.2.length ∧ MF cs v.1 (stJ (stH sg sg.2.2.2.1) xs) (v.2 ++ Z)) (fun v t => Wd D S0 (MW cs b v.1 th (stJ (stH sg sg.2.2.2.1) xs) (v.2 ++ Z)) t.heap) (SA S0)) 0 0 (SA S0) := by
  refine Met.ofW (cc := cX3_install) (maxL := 3) (ret := (some .int)) (by decide) rfl ?_
  intro p e s m args below meth c s₁ B hml hv
  obtain ⟨rfl, hW, hK, hA9⟩ := hv
  have hx := B.exec
  have hb := B.bytes
  have hr := B.returns
  have hts := atoms_spec (ws := wsX3_install) B.pre
  have hown : s.vm.findClass RX3 = some m.cls := findClass_of_methodNamed B.named
  have hlocks := B.notSynchronized
  have hRc : (headSpec wsX3_install ({ frames := 0, cells := 0, slots := 0, locals := 0 })).room.cells = 0 := rfl
  have hRs : (headSpec wsX3_install ({ frames := 0, cells := 0, slots := 0, locals := 0 })).room.slots = 0 := rfl
  have fl117 := hts (.fieldLink RX3 117 "DeltaUpdaterModel" "remembered" "I") (by decide +kernel)
  have fl27 := hts (.fieldLink RX3 27 "DeltaUpdaterModel" "installed" "[I") (by decide +kernel)
  have fl30 := hts (.fieldLink RX3 30 "DeltaUpdaterModel" "history" "[[I") (by decide +kernel)
  have in4 : ∀ w ∈ u_ws RX3 TX3 12, w ∈ wsX3_install := by decide +kernel
  have hW : Wd D S0 (MW cs b w (th) sg Z) s.heap := hW
  have hS0 : S0 ≤ s.heap.size := hW.2.2
  have hS : va_S (SA S0) s.heap s.heap [] := va_S.rf
  have hl := lv_entry ([.ref (b 0), .ref r9]) (n := 3) (Nat.le_of_ble_eq_true rfl)
  rw [lg_entry_eq]
  generalize (lg_sl ([.ref (b 0), .ref r9]) ++ List.replicate (3 - (lg_sl ([.ref (b 0), .ref r9])).length) Slot.unset).toArray = ls at hl ⊢
  have hl : lv_has ls 3 [(0, .ref (b 0)), (1, .ref r9)] := hl
  have hok := hF.2.2.2.2.2
  have hbl := hok.1.1
  have hnv := hok.2.1.1
  have hnp := hok.2.2.1.1
  have hnh := hok.2.2.2.2.1
  refine lv_aload_n hx hb dX3_install_0 rfl (lv_at hl 0 rfl) ?_
  refine z_get (ci := 4) (v := .int (nI sg.2.2.2.2.length)) (C := RX3) (T := TX3) (N := 12) hx hb hts in4 hown hK (hW.1 0 _ rfl) rfl 10 (by decide) fl117 (fun _ h9 => h9) rfl dX3_install_1 ?_
  refine lv_bipush (v := nI 20) hx hb dX3_install_4 (by decide) ?_
  refine z_icmp_ne (tgt := 47) hx hb (by omega) (by omega) dX3_install_6 (by decide) (fun hc6 => ?_) (fun hc6 => ?_)
  · skip
    have hc6 : ¬ sg.2.2.2.2.length = 20 := hc6
    refine lv_aload_n hx hb dX3_install_47 rfl (lv_at hl 0 rfl) ?_
    refine z_get (ci := 4) (v := .ref (b 6)) (C := RX3) (T := TX3) (N := 12) hx hb hts in4 hown hK (hW.1 0 _ rfl) rfl 11 (by decide) fl30 (fun _ h9 => h9) rfl dX3_install_48 ?_
    refine lv_aload_n hx hb dX3_install_51 rfl (lv_at hl 0 rfl) ?_
    refine z_get (ci := 4) (v := .int (nI sg.2.2.2.2.length)) (C := RX3) (T := TX3) (N := 12) hx hb hts in4 hown hK (hW.1 0 _ rfl) rfl 10 (by decide) fl117 (fun _ h9 => h9) rfl dX3_install_52 ?_
    refine lv_aload_n hx hb dX3_install_55 rfl (lv_at hl 0 rfl) ?_
    refine z_get (ci := 4) (v := .ref (mI w)) (C := RX3) (T := TX3) (N := 12) hx hb hts in4 hown hK (hW.1 0 _ rfl) rfl 9 (by decide) fl27 (fun _ h9 => h9) rfl dX3_install_56 ?_
    refine z_astA (k := sg.2.2.2.2.length) (v := (mI w)) (n := 20) (n1 := sg.2.2.2.1.length) (g := (fun i => nI ((bv sg.2.2.2.1) i))) (f := (mg w 4)) hx hb hA9 hK hW hS 6 rfl (List.mem_cons_of_mem _ (List.mem_cons_of_mem _ (List.mem_cons_of_mem _ (List.mem_cons_of_mem _ (List.mem_cons_of_mem _ (List.mem_cons_of_mem _ (List.mem_cons_of_mem _ hF.2.2.2.1))))))) (by omega) (by omega) dX3_install_59 (fun H locs hW hS => ?_)
    have hW : Wd D S0 (((b 0), .inr (4, [.int th, .int (nI sg.1.length), .ref (b 1), .int (nI sg.2.1.length), .ref (b 2), .int (nI sg.2.2.1.length), .ref (b 3), .ref (b 4), .ref (b 5), .ref (mI w), .int (nI sg.2.2.2.2.length), .ref (b 6)])) :: ((b 1), fa cs 400 (mf w)) :: ((b 2), qa cs 2 12 (mg w 0)) :: ((b 3), qa cs 2 12 (mg w 1)) :: ((b 4), qa cs 2 12 (mg w 2)) :: ((b 5), qa cs 2 12 (mg w 3)) :: ((b 6), qa cs 2 20 (va_up (mg w 4) sg.2.2.2.2.length (some (mI w)))) :: Z) H := hW
    refine lv_aload_n hx hb dX3_install_60 rfl (lv_at hl 0 rfl) ?_
    refine lv_dup hx hb dX3_install_61 rfl ?_
    refine z_get (ci := 4) (v := .int (nI sg.2.2.2.2.length)) (C := RX3) (T := TX3) (N := 12) hx hb hts in4 hown hK (hW.1 0 _ rfl) rfl 10 (by decide) fl117 (fun _ h9 => h9) rfl dX3_install_62 ?_
    refine lv_iconst (v := nI 1) hx hb dX3_install_65 (by decide) ?_
    refine lv_iadd hx hb dX3_install_66 ?_
    refine zti (nI_add _ _) (y := nI (sg.2.2.2.2.length + 1)) ?_
    refine z_put (ty := .int) (ci := 4) (v := .int (nI (sg.2.2.2.2.length + 1))) (C := RX3) (T := TX3) (N := 12) hx hb hts in4 tyX3 tyX3_ok nmX3 hown hK hW hS 0 rfl rfl 10 (by decide) fl117 (fun _ h9 => h9) rfl (by decide +kernel) rfl rfl (Nat.le_of_ble_eq_true rfl) dX3_install_67 (fun H locs hW hS => ?_)
    have hW : Wd D S0 (((b 0), .inr (4, [.int th, .int (nI sg.1.length), .ref (b 1), .int (nI sg.2.1.length), .ref (b 2), .int (nI sg.2.2.1.length), .ref (b 3), .ref (b 4), .ref (b 5), .ref (mI w), .int (nI (sg.2.2.2.2.length + 1)), .ref (b 6)])) :: ((b 1), fa cs 400 (mf w)) :: ((b 2), qa cs 2 12 (mg w 0)) :: ((b 3), qa cs 2 12 (mg w 1)) :: ((b 4), qa cs 2 12 (mg w 2)) :: ((b 5), qa cs 2 12 (mg w 3)) :: ((b 6), qa cs 2 20 (va_up (mg w 4) sg.2.2.2.2.length (some (mI w)))) :: Z) H := hW
    refine lv_aload_n hx hb dX3_install_70 rfl (lv_at hl 0 rfl) ?_
    refine lv_aload_n hx hb dX3_install_71 rfl (lv_at hl 1 rfl) ?_
    refine z_put (ty := (.array .int)) (ci := 4) (v := .ref r9) (C := RX3) (T := TX3) (N := 12) hx hb hts in4 tyX3 tyX3_ok nmX3 hown hK hW hS 0 rfl rfl 9 (by decide) fl27 (fun _ h9 => h9) rfl (by decide +kernel) rfl rfl (Nat.le_of_ble_eq_true rfl) dX3_install_72 (fun H locs hW hS => ?_)
    have hW : Wd D S0 (((b 0), .inr (4, [.int th, .int (nI sg.1.length), .ref (b 1), .int (nI sg.2.1.length), .ref (b 2), .int (nI sg.2.2.1.length), .ref (b 3), .ref (b 4), .ref (b 5), .ref r9, .int (nI (sg.2.2.2.2.length + 1)), .ref (b 6)])) :: ((b 1), fa cs 400 (mf w)) :: ((b 2), qa cs 2 12 (mg w 0)) :: ((b 3), qa cs 2 12 (mg w 1)) :: ((b 4), qa cs 2 12 (mg w 2)) :: ((b 5), qa cs 2 12 (mg w 3)) :: ((b 6), qa cs 2 20 (va_up (mg w 4) sg.2.2.2.2.length (some (mI w)))) :: Z) H := hW
    refine lv_aload_n hx hb dX3_install_75 rfl (lv_at hl 0 rfl) ?_
    refine z_get (ci := 4) (v := .int (nI (sg.2.2.2.2.length + 1))) (C := RX3) (T := TX3) (N := 12) hx hb hts in4 hown hK (hW.1 0 _ rfl) rfl 10 (by decide) fl117 (fun _ h9 => h9) rfl dX3_install_76 ?_
    have hlen : (stH sg sg.2.2.2.1).2.2.2.2.length = sg.2.2.2.2.length + 1 := List.length_append
    rw [← hlen] at hW
    have hW : Wd D S0 (MW cs b (muI (muS w 4 sg.2.2.2.2.length (mI w)) r9) th (stJ (stH sg sg.2.2.2.1) xs) ([] ++ Z)) H := hW
    refine W.widen (k := 0) (n := 0) (by omega) (by omega) ?_
    exact W.iret (v := nI (sg.2.2.2.2.length + 1)) hx hb hr (fun t ht hW9 => ⟨⟨_, (muI (muS w 4 sg.2.2.2.2.length (mI w)) r9, []), rfl, ⟨congrArg nI hlen.symm, (hF.addH (by omega)).inst hr9 hx9⟩, (by show Wd D S0 _ _; rw [ht]; exact hW)⟩, hS.F ht⟩) (fun q9 h9 => hS.2.2 q9 h9) dX3_install_79
  · skip
    have hc6 : sg.2.2.2.2.length = 20 := hc6
    omega

set_option maxHeartbeats 4000000 in
set_option maxRecDepth 100000 in
theorem c_X3_install_b (l : Launch) (D : va_G) (cs : Nat → ClassId) (S0 : Nat) (Z : va_W) (b : Nat → Nat) (w : MU) (sg : St) (hF : MF cs w sg Z) (th : Int32) (r9 : Nat) (xs : BL) (hr9 : (r9, ba cs xs) ∈ Z) (hx9 : rowOk xs) (h20 : sg.2.2.2.2.length = 20) : Met l yX3_install wsX3_install ({ frames := 0, cells := 0, slots := 0, locals := 0 }) (zM [.ref (b 0), .ref r9] (fun H => Wd D S0 (MW cs b w (th) sg Z) H) D cs) (va_Qi (fun r (v : MU × va_W) => r = nI (stH (stD sg 0) sg.2.2.2.1).2.2.2.2.length ∧ MF cs v.1 (stJ (stH (stD sg 0) sg.2.2.2.1) xs) (v.2 ++ Z)) (fun v t => Wd D S0 (MW cs b v.1 th (stJ (stH (stD sg 0) sg.2.2.2.1) xs) (v.2 ++ Z)) t.heap) (SA S0)) 0 0 (SA S0) := by
  refine Met.ofW (cc := cX3_install) (maxL := 3) (ret := (some .int)) (by decide) rfl ?_
  intro p e s m args below meth c s₁ B hml hv
  obtain ⟨rfl, hW, hK, hA9⟩ := hv
  have hx := B.exec
  have hb := B.bytes
  have hr := B.returns
  have hts := atoms_spec (ws := wsX3_install) B.pre
  have hown : s.vm.findClass RX3 = some m.cls := findClass_of_methodNamed B.named
  have hlocks := B.notSynchronized
  have hRc : (headSpec wsX3_install ({ frames := 0, cells := 0, slots := 0, locals := 0 })).room.cells = 0 := rfl
  have hRs : (headSpec wsX3_install ({ frames := 0, cells := 0, slots := 0, locals := 0 })).room.slots = 0 := rfl
  have fl117 := hts (.fieldLink RX3 117 "DeltaUpdaterModel" "remembered" "I") (by decide +kernel)
  have fl27 := hts (.fieldLink RX3 27 "DeltaUpdaterModel" "installed" "[I") (by decide +kernel)
  have fl30 := hts (.fieldLink RX3 30 "DeltaUpdaterModel" "history" "[[I") (by decide +kernel)
  have in4 : ∀ w ∈ u_ws RX3 TX3 12, w ∈ wsX3_install := by decide +kernel
  have hW : Wd D S0 (MW cs b w (th) sg Z) s.heap := hW
  have hS0 : S0 ≤ s.heap.size := hW.2.2
  have hS : va_S (SA S0) s.heap s.heap [] := va_S.rf
  have hl := lv_entry ([.ref (b 0), .ref r9]) (n := 3) (Nat.le_of_ble_eq_true rfl)
  rw [lg_entry_eq]
  generalize (lg_sl ([.ref (b 0), .ref r9]) ++ List.replicate (3 - (lg_sl ([.ref (b 0), .ref r9])).length) Slot.unset).toArray = ls at hl ⊢
  have hl : lv_has ls 3 [(0, .ref (b 0)), (1, .ref r9)] := hl
  have hok := hF.2.2.2.2.2
  have hbl := hok.1.1
  have hnv := hok.2.1.1
  have hnp := hok.2.2.1.1
  have hnh := hok.2.2.2.2.1
  refine lv_aload_n hx hb dX3_install_0 rfl (lv_at hl 0 rfl) ?_
  refine z_get (ci := 4) (v := .int (nI sg.2.2.2.2.length)) (C := RX3) (T := TX3) (N := 12) hx hb hts in4 hown hK (hW.1 0 _ rfl) rfl 10 (by decide) fl117 (fun _ h9 => h9) rfl dX3_install_1 ?_
  refine lv_bipush (v := nI 20) hx hb dX3_install_4 (by decide) ?_
  refine z_icmp_ne (tgt := 47) hx hb (by omega) (by omega) dX3_install_6 (by decide) (fun hc6 => ?_) (fun hc6 => ?_)
  · skip
    have hc6 : ¬ sg.2.2.2.2.length = 20 := hc6
    omega
  · skip
    have hc6 : sg.2.2.2.2.length = 20 := hc6
    refine lv_iconst (v := nI 1) hx hb dX3_install_9 (by decide) ?_
    refine lv_istore_n (lv' := [(2, .int (nI 1)), (0, .ref (b 0)), (1, .ref r9)]) hx hb dX3_install_10 rfl hl (by decide) rfl (fun ls hl => ?_)
    have hW : Wd D S0 (((b 0), .inr (4, [.int th, .int (nI sg.1.length), .ref (b 1), .int (nI sg.2.1.length), .ref (b 2), .int (nI sg.2.2.1.length), .ref (b 3), .ref (b 4), .ref (b 5), .ref (mI w), .int (nI sg.2.2.2.2.length), .ref (b 6)])) :: ((b 1), fa cs 400 (mf w)) :: ((b 2), qa cs 2 12 (mg w 0)) :: ((b 3), qa cs 2 12 (mg w 1)) :: ((b 4), qa cs 2 12 (mg w 2)) :: ((b 5), qa cs 2 12 (mg w 3)) :: ((b 6), qa cs 2 20 (shF (mg w 4) (1 - 1))) :: Z) _ := hW
    refine z_loopM (σ := Nat) (fun q9 => 20 - q9) (fun q9 ls H locs => lv_has ls 3 [(2, .int (nI q9)), (0, .ref (b 0)), (1, .ref r9)] ∧ Wd D S0 (((b 0), .inr (4, [.int th, .int (nI sg.1.length), .ref (b 1), .int (nI sg.2.1.length), .ref (b 2), .int (nI sg.2.2.1.length), .ref (b 3), .ref (b 4), .ref (b 5), .ref (mI w), .int (nI sg.2.2.2.2.length), .ref (b 6)])) :: ((b 1), fa cs 400 (mf w)) :: ((b 2), qa cs 2 12 (mg w 0)) :: ((b 3), qa cs 2 12 (mg w 1)) :: ((b 4), qa cs 2 12 (mg w 2)) :: ((b 5), qa cs 2 12 (mg w 3)) :: ((b 6), qa cs 2 20 (shF (mg w 4) (q9 - 1))) :: Z) H ∧ va_S (SA S0) s.heap H locs ∧ (1 ≤ q9 ∧ q9 ≤ 20)) 1 ⟨lv_sub hl [0, 1, 2] rfl, hW, hS, (show 1 ≤ 1 ∧ 1 ≤ 20 from by omega)⟩ (fun dd11 ih11 y9 ls H locs hd9 hI9 => ?_)
    obtain ⟨k, rfl⟩ : ∃ z, z = y9 := ⟨_, rfl⟩
    have hd11 : 20 - k = dd11 := hd9
    have hI9 : lv_has ls 3 [(2, .int (nI k)), (0, .ref (b 0)), (1, .ref r9)] ∧ Wd D S0 (((b 0), .inr (4, [.int th, .int (nI sg.1.length), .ref (b 1), .int (nI sg.2.1.length), .ref (b 2), .int (nI sg.2.2.1.length), .ref (b 3), .ref (b 4), .ref (b 5), .ref (mI w), .int (nI sg.2.2.2.2.length), .ref (b 6)])) :: ((b 1), fa cs 400 (mf w)) :: ((b 2), qa cs 2 12 (mg w 0)) :: ((b 3), qa cs 2 12 (mg w 1)) :: ((b 4), qa cs 2 12 (mg w 2)) :: ((b 5), qa cs 2 12 (mg w 3)) :: ((b 6), qa cs 2 20 (shF (mg w 4) (k - 1))) :: Z) H ∧ va_S (SA S0) s.heap H locs ∧ (1 ≤ k ∧ k ≤ 20) := hI9
    obtain ⟨hl, hW, hS, hk⟩ := hI9
    refine lv_iload_n hx hb dX3_install_11 rfl (lv_at hl 0 rfl) ?_
    refine lv_bipush (v := nI 20) hx hb dX3_install_12 (by decide) ?_
    refine z_icmp_ge (tgt := 37) hx hb (by omega) (by omega) dX3_install_14 (by decide) (fun hc14 => ?_) (fun hc14 => ?_)
    · skip
      have hc14 : 20 ≤ k := hc14
      have e9 : k = 20 := by omega
      rw [e9] at hW
      have hFd : MF cs (muH w) (stD sg 0) Z := hF.delH0 h20
      refine lv_aload_n hx hb dX3_install_37 rfl (lv_at hl 1 rfl) ?_
      refine lv_dup hx hb dX3_install_38 rfl ?_
      refine z_get (ci := 4) (v := .int (nI sg.2.2.2.2.length)) (C := RX3) (T := TX3) (N := 12) hx hb hts in4 hown hK (hW.1 0 _ rfl) rfl 10 (by decide) fl117 (fun _ h9 => h9) rfl dX3_install_39 ?_
      refine lv_iconst (v := nI 1) hx hb dX3_install_42 (by decide) ?_
      refine lv_isub hx hb dX3_install_43 ?_
      refine zti (pk_sub (by omega)) (y := nI (sg.2.2.2.2.length - 1)) ?_
      refine z_put (ty := .int) (ci := 4) (v := .int (nI (sg.2.2.2.2.length - 1))) (C := RX3) (T := TX3) (N := 12) hx hb hts in4 tyX3 tyX3_ok nmX3 hown hK hW hS 0 rfl rfl 10 (by decide) fl117 (fun _ h9 => h9) rfl (by decide +kernel) rfl rfl (Nat.le_of_ble_eq_true rfl) dX3_install_44 (fun H locs hW hS => ?_)
      have hW : Wd D S0 (((b 0), .inr (4, [.int th, .int (nI sg.1.length), .ref (b 1), .int (nI sg.2.1.length), .ref (b 2), .int (nI sg.2.2.1.length), .ref (b 3), .ref (b 4), .ref (b 5), .ref (mI w), .int (nI (sg.2.2.2.2.length - 1)), .ref (b 6)])) :: ((b 1), fa cs 400 (mf w)) :: ((b 2), qa cs 2 12 (mg w 0)) :: ((b 3), qa cs 2 12 (mg w 1)) :: ((b 4), qa cs 2 12 (mg w 2)) :: ((b 5), qa cs 2 12 (mg w 3)) :: ((b 6), qa cs 2 20 (shF (mg w 4) (20 - 1))) :: Z) H := hW
      have hlenD : (stD sg 0).2.2.2.2.length = sg.2.2.2.2.length - 1 := List.length_eraseIdx_of_lt (by omega)
      rw [← hlenD] at hW
      have hW : Wd D S0 (((b 0), .inr (4, [.int th, .int (nI sg.1.length), .ref (b 1), .int (nI sg.2.1.length), .ref (b 2), .int (nI sg.2.2.1.length), .ref (b 3), .ref (b 4), .ref (b 5), .ref (mI w), .int (nI ((stD sg 0).2.2.2.2.length)), .ref (b 6)])) :: ((b 1), fa cs 400 (mf w)) :: ((b 2), qa cs 2 12 (mg w 0)) :: ((b 3), qa cs 2 12 (mg w 1)) :: ((b 4), qa cs 2 12 (mg w 2)) :: ((b 5), qa cs 2 12 (mg w 3)) :: ((b 6), qa cs 2 20 (mg (muH w) 4)) :: Z) H := hW
      refine lv_aload_n hx hb dX3_install_47 rfl (lv_at hl 1 rfl) ?_
      refine z_get (ci := 4) (v := .ref (b 6)) (C := RX3) (T := TX3) (N := 12) hx hb hts in4 hown hK (hW.1 0 _ rfl) rfl 11 (by decide) fl30 (fun _ h9 => h9) rfl dX3_install_48 ?_
      refine lv_aload_n hx hb dX3_install_51 rfl (lv_at hl 1 rfl) ?_
      refine z_get (ci := 4) (v := .int (nI ((stD sg 0).2.2.2.2.length))) (C := RX3) (T := TX3) (N := 12) hx hb hts in4 hown hK (hW.1 0 _ rfl) rfl 10 (by decide) fl117 (fun _ h9 => h9) rfl dX3_install_52 ?_
      refine lv_aload_n hx hb dX3_install_55 rfl (lv_at hl 1 rfl) ?_
      refine z_get (ci := 4) (v := .ref (mI w)) (C := RX3) (T := TX3) (N := 12) hx hb hts in4 hown hK (hW.1 0 _ rfl) rfl 9 (by decide) fl27 (fun _ h9 => h9) rfl dX3_install_56 ?_
      refine z_astA (k := ((stD sg 0).2.2.2.2.length)) (v := (mI w)) (n := 20) (n1 := sg.2.2.2.1.length) (g := (fun i => nI ((bv sg.2.2.2.1) i))) (f := (mg (muH w) 4)) hx hb hA9 hK hW hS 6 rfl (List.mem_cons_of_mem _ (List.mem_cons_of_mem _ (List.mem_cons_of_mem _ (List.mem_cons_of_mem _ (List.mem_cons_of_mem _ (List.mem_cons_of_mem _ (List.mem_cons_of_mem _ hF.2.2.2.1))))))) (by omega) (by omega) dX3_install_59 (fun H locs hW hS => ?_)
      have hW : Wd D S0 (((b 0), .inr (4, [.int th, .int (nI sg.1.length), .ref (b 1), .int (nI sg.2.1.length), .ref (b 2), .int (nI sg.2.2.1.length), .ref (b 3), .ref (b 4), .ref (b 5), .ref (mI w), .int (nI ((stD sg 0).2.2.2.2.length)), .ref (b 6)])) :: ((b 1), fa cs 400 (mf w)) :: ((b 2), qa cs 2 12 (mg w 0)) :: ((b 3), qa cs 2 12 (mg w 1)) :: ((b 4), qa cs 2 12 (mg w 2)) :: ((b 5), qa cs 2 12 (mg w 3)) :: ((b 6), qa cs 2 20 (va_up (mg (muH w) 4) ((stD sg 0).2.2.2.2.length) (some (mI w)))) :: Z) H := hW
      refine lv_aload_n hx hb dX3_install_60 rfl (lv_at hl 1 rfl) ?_
      refine lv_dup hx hb dX3_install_61 rfl ?_
      refine z_get (ci := 4) (v := .int (nI ((stD sg 0).2.2.2.2.length))) (C := RX3) (T := TX3) (N := 12) hx hb hts in4 hown hK (hW.1 0 _ rfl) rfl 10 (by decide) fl117 (fun _ h9 => h9) rfl dX3_install_62 ?_
      refine lv_iconst (v := nI 1) hx hb dX3_install_65 (by decide) ?_
      refine lv_iadd hx hb dX3_install_66 ?_
      refine zti (nI_add _ _) (y := nI ((stD sg 0).2.2.2.2.length + 1)) ?_
      refine z_put (ty := .int) (ci := 4) (v := .int (nI ((stD sg 0).2.2.2.2.length + 1))) (C := RX3) (T := TX3) (N := 12) hx hb hts in4 tyX3 tyX3_ok nmX3 hown hK hW hS 0 rfl rfl 10 (by decide) fl117 (fun _ h9 => h9) rfl (by decide +kernel) rfl rfl (Nat.le_of_ble_eq_true rfl) dX3_install_67 (fun H locs hW hS => ?_)
      have hW : Wd D S0 (((b 0), .inr (4, [.int th, .int (nI sg.1.length), .ref (b 1), .int (nI sg.2.1.length), .ref (b 2), .int (nI sg.2.2.1.length), .ref (b 3), .ref (b 4), .ref (b 5), .ref (mI w), .int (nI ((stD sg 0).2.2.2.2.length + 1)), .ref (b 6)])) :: ((b 1), fa cs 400 (mf w)) :: ((b 2), qa cs 2 12 (mg w 0)) :: ((b 3), qa cs 2 12 (mg w 1)) :: ((b 4), qa cs 2 12 (mg w 2)) :: ((b 5), qa cs 2 12 (mg w 3)) :: ((b 6), qa cs 2 20 (va_up (mg (muH w) 4) ((stD sg 0).2.2.2.2.length) (some (mI w)))) :: Z) H := hW
      refine lv_aload_n hx hb dX3_install_70 rfl (lv_at hl 1 rfl) ?_
      refine lv_aload_n hx hb dX3_install_71 rfl (lv_at hl 2 rfl) ?_
      refine z_put (ty := (.array .int)) (ci := 4) (v := .ref r9) (C := RX3) (T := TX3) (N := 12) hx hb hts in4 tyX3 tyX3_ok nmX3 hown hK hW hS 0 rfl rfl 9 (by decide) fl27 (fun _ h9 => h9) rfl (by decide +kernel) rfl rfl (Nat.le_of_ble_eq_true rfl) dX3_install_72 (fun H locs hW hS => ?_)
      have hW : Wd D S0 (((b 0), .inr (4, [.int th, .int (nI sg.1.length), .ref (b 1), .int (nI sg.2.1.length), .ref (b 2), .int (nI sg.2.2.1.length), .ref (b 3), .ref (b 4), .ref (b 5), .ref r9, .int (nI ((stD sg 0).2.2.2.2.length + 1)), .ref (b 6)])) :: ((b 1), fa cs 400 (mf w)) :: ((b 2), qa cs 2 12 (mg w 0)) :: ((b 3), qa cs 2 12 (mg w 1)) :: ((b 4), qa cs 2 12 (mg w 2)) :: ((b 5), qa cs 2 12 (mg w 3)) :: ((b 6), qa cs 2 20 (va_up (mg (muH w) 4) ((stD sg 0).2.2.2.2.length) (some (mI w)))) :: Z) H := hW
      refine lv_aload_n hx hb dX3_install_75 rfl (lv_at hl 1 rfl) ?_
      refine z_get (ci := 4) (v := .int (nI ((stD sg 0).2.2.2.2.length + 1))) (C := RX3) (T := TX3) (N := 12) hx hb hts in4 hown hK (hW.1 0 _ rfl) rfl 10 (by decide) fl117 (fun _ h9 => h9) rfl dX3_install_76 ?_
      have hlen : (stH (stD sg 0) (stD sg 0).2.2.2.1).2.2.2.2.length = (stD sg 0).2.2.2.2.length + 1 := List.length_append
      rw [← hlen] at hW
      have hW : Wd D S0 (MW cs b (muI (muS (muH w) 4 (stD sg 0).2.2.2.2.length (mI w)) r9) th (stJ (stH (stD sg 0) sg.2.2.2.1) xs) ([] ++ Z)) H := hW
      refine W.widen (k := 0) (n := 0) (by omega) (by omega) ?_
      exact W.iret (v := nI ((stD sg 0).2.2.2.2.length + 1)) hx hb hr (fun t ht hW9 => ⟨⟨_, (muI (muS (muH w) 4 (stD sg 0).2.2.2.2.length (mI w)) r9, []), rfl, ⟨congrArg nI hlen.symm, (hFd.addH (by omega)).inst hr9 hx9⟩, (by show Wd D S0 _ _; rw [ht]; exact hW)⟩, hS.F ht⟩) (fun q9 h9 => hS.2.2 q9 h9) dX3_install_79
    · skip
      have hc14 : k < 20 := hc14
      refine lv_aload_n hx hb dX3_install_17 rfl (lv_at hl 1 rfl) ?_
      refine z_get (ci := 4) (v := .ref (b 6)) (C := RX3) (T := TX3) (N := 12) hx hb hts in4 hown hK (hW.1 0 _ rfl) rfl 11 (by decide) fl30 (fun _ h9 => h9) rfl dX3_install_18 ?_
      refine lv_iload_n hx hb dX3_install_21 rfl (lv_at hl 0 rfl) ?_
      refine lv_iconst (v := nI 1) hx hb dX3_install_22 (by decide) ?_
      refine lv_isub hx hb dX3_install_23 ?_
      refine zti (pk_sub (by omega)) (y := nI (k - 1)) ?_
      refine lv_aload_n hx hb dX3_install_24 rfl (lv_at hl 1 rfl) ?_
      refine z_get (ci := 4) (v := .ref (b 6)) (C := RX3) (T := TX3) (N := 12) hx hb hts in4 hown hK (hW.1 0 _ rfl) rfl 11 (by decide) fl30 (fun _ h9 => h9) rfl dX3_install_25 ?_
      refine lv_iload_n hx hb dX3_install_28 rfl (lv_at hl 0 rfl) ?_
      refine z_aald (k := k) (y := (mA w 4 k)) (t0 := 2) hx hb hK (hW.1 6 _ rfl) rfl rfl (by omega) (by omega) ((shF_hi (by omega)).trans (hF.2.2.2.2.1 k (by omega)).1) dX3_install_29 ?_
      refine z_astA (k := (k - 1)) (v := (mA w 4 k)) (n := 20) (n1 := ((vsN sg.2.2.2.2 k).length)) (g := (fun i => nI ((bv (vsN sg.2.2.2.2 k)) i))) (f := (shF (mg w 4) (k - 1))) hx hb hA9 hK hW hS 6 rfl (List.mem_cons_of_mem _ (List.mem_cons_of_mem _ (List.mem_cons_of_mem _ (List.mem_cons_of_mem _ (List.mem_cons_of_mem _ (List.mem_cons_of_mem _ (List.mem_cons_of_mem _ (hF.2.2.2.2.1 k (by omega)).2))))))) (by omega) (by omega) dX3_install_30 (fun H locs hW hS => ?_)
      have hW : Wd D S0 (((b 0), .inr (4, [.int th, .int (nI sg.1.length), .ref (b 1), .int (nI sg.2.1.length), .ref (b 2), .int (nI sg.2.2.1.length), .ref (b 3), .ref (b 4), .ref (b 5), .ref (mI w), .int (nI sg.2.2.2.2.length), .ref (b 6)])) :: ((b 1), fa cs 400 (mf w)) :: ((b 2), qa cs 2 12 (mg w 0)) :: ((b 3), qa cs 2 12 (mg w 1)) :: ((b 4), qa cs 2 12 (mg w 2)) :: ((b 5), qa cs 2 12 (mg w 3)) :: ((b 6), qa cs 2 20 (va_up (shF (mg w 4) (k - 1)) (k - 1) (some (mA w 4 k)))) :: Z) H := hW
      have e9 : va_up (shF (mg w 4) (k - 1)) (k - 1) (some (mA w 4 k)) = shF (mg w 4) (k + 1 - 1) := by
        rw [show k + 1 - 1 = (k - 1) + 1 by omega]
        show _ = va_up (shF (mg w 4) (k - 1)) (k - 1) (mg w 4 (k - 1 + 1))
        rw [show k - 1 + 1 = k by omega, (hF.2.2.2.2.1 k (by omega)).1]
      rw [e9] at hW
      refine lv_iinc (v := nI (k + 1)) (lv' := [(2, .int (nI (k + 1))), (0, .ref (b 0)), (1, .ref r9)]) hx hb dX3_install_31 hl (k := 0) rfl (z_inc _) (by decide) rfl (fun ls hl => ?_)
      refine lv_goto (tgt := 11) hx hb dX3_install_34 (by decide) ?_
      exact ih11 (k + 1) ls H locs (show 20 - (k + 1) < dd11 by omega) ⟨lv_sub hl [0, 1, 2] rfl, hW, hS, (show 1 ≤ (k + 1) ∧ (k + 1) ≤ 20 from by omega)⟩

theorem c_X3_install (l : Launch) (D : va_G) (cs : Nat → ClassId) (S0 : Nat) (Z : va_W) (b : Nat → Nat) (w : MU) (sg : St) (hF : MF cs w sg Z) (th : Int32) (r9 : Nat) (xs : BL) (hr9 : (r9, ba cs xs) ∈ Z) (hx9 : rowOk xs) : Met l yX3_install wsX3_install ({ frames := 0, cells := 0, slots := 0, locals := 0 }) (zM [.ref (b 0), .ref r9] (fun H => Wd D S0 (MW cs b w th sg Z) H) D cs)
    (va_Qi (fun r (v : MU × va_W) => r = nI (stI sg xs).2.2.2.2.length ∧ MF cs v.1 (stI sg xs) (v.2 ++ Z)) (fun v t => Wd D S0 (MW cs b v.1 th (stI sg xs) (v.2 ++ Z)) t.heap) (SA S0)) 0 0 (SA S0) := by
  unfold stI hisA
  by_cases h : sg.2.2.2.2.length < 20
  · rw [if_pos h]
    exact c_X3_install_a l D cs S0 Z b w sg hF th r9 xs hr9 hx9 h
  · rw [if_neg h]
    exact c_X3_install_b l D cs S0 Z b w sg hF th r9 xs hr9 hx9 (by have := hF.2.2.2.2.2.2.2.2.2.1; omega)
