/-! steps, leastCost -/
set_option maxHeartbeats 4000000 in
set_option maxRecDepth 100000 in
theorem c_X2_steps (l : Launch) (D : va_G) (cs : Nat → ClassId) (S0 : Nat) (ea mi : Nat) (sa : Nat → Nat) (Y : va_W) (a : Nat → Nat) (u : XU) (sg : St) (hF : XF cs ea u sg Y) (v9 w9 : Nat) (hv9 : v9 < sg.2.1.length) (hw9 : w9 < sg.2.1.length) : Met l yX2_steps wsX2_steps ({ frames := 6, cells := 0, slots := 0, locals := 136 }) (zE [.ref (a 0), .int (nI v9), .int (nI w9)] (fun H => Wd D S0 (XW cs a u sg Y) H) D cs S0 ea mi sa) (va_Qi (fun r (_ : Unit) => r = (lwO u (fun _ => nI 1) sg.2.2.1.length (flN sg.2.1 v9) sg.2.2.1.length) (flN sg.2.1 w9)) (fun _ t => Wd D S0 (XW cs a (xuF u 2 (lwO u (fun _ => nI 1) sg.2.2.1.length (flN sg.2.1 v9) sg.2.2.1.length)) sg Y) t.heap) (SA S0)) 0 0 (SA S0) := by
  refine Met.ofW (cc := cX2_steps) (maxL := 3) (ret := (some .int)) (by decide) rfl ?_
  intro p e s m args below meth c s₁ B hml hv
  obtain ⟨rfl, hW, hK, hE⟩ := hv
  have hx := B.exec
  have hb := B.bytes
  have hr := B.returns
  have hts := atoms_spec (ws := wsX2_steps) B.pre
  have hown : s.vm.findClass RX2 = some m.cls := findClass_of_methodNamed B.named
  have hlocks := B.notSynchronized
  have hRc : (headSpec wsX2_steps ({ frames := 6, cells := 0, slots := 0, locals := 136 })).room.cells = 0 := rfl
  have hRs : (headSpec wsX2_steps ({ frames := 6, cells := 0, slots := 0, locals := 136 })).room.slots = 0 := rfl
  have hW : Wd D S0 (XW cs a u sg Y) s.heap := hW
  have hS0 : S0 ≤ s.heap.size := hW.2.2
  have hS : va_S (SA S0) s.heap s.heap [] := va_S.rf
  have hl := lv_entry ([.ref (a 0), .int (nI v9), .int (nI w9)]) (n := 3) (Nat.le_of_ble_eq_true rfl)
  rw [lg_entry_eq]
  generalize (lg_sl ([.ref (a 0), .int (nI v9), .int (nI w9)]) ++ List.replicate (3 - (lg_sl ([.ref (a 0), .int (nI v9), .int (nI w9)])).length) Slot.unset).toArray = ls at hl ⊢
  have hl : lv_has ls 3 [(0, .ref (a 0)), (1, .int (nI v9)), (2, .int (nI w9))] := hl
  obtain ⟨fbf, fl0, fl1, fl2, frw, fpt, fin, fhi, hok⟩ := id hF
  obtain ⟨hx0, hbf, hbc, hls, hlm, hlh, hrw, hpt, hin, hhr, -⟩ := XH.of (Y := Y) hW hF
  have hbl := hok.1.1
  have hnv := hok.2.1.1
  have hnp := hok.2.2.1.1
  have hnh := hok.2.2.2.2.1
  refine lv_aload_n hx hb dX2_steps_0 rfl (lv_at hl 0 rfl) ?_
  refine lv_iload_n hx hb dX2_steps_1 rfl (lv_at hl 1 rfl) ?_
  refine lv_iload_n hx hb dX2_steps_2 rfl (lv_at hl 2 rfl) ?_
  refine lv_iconst (v := nI 0) hx hb dX2_steps_3 (by decide) ?_
  refine z_cmI (va_runV (As := [.int (nI v9), .int (nI w9), .int (nI 0)]) (rest := []) ⟨hx, hb, hml, hown, hts⟩ (c_X2_leastWay_s l D cs S0 ea mi sa Y a u sg hF v9 w9 hv9 hw9) (cwV 3 hts gX2_steps_X2_leastWay rfl rfl rfl (by decide +kernel) ⟨Nat.le_of_ble_eq_true rfl, Nat.le_of_ble_eq_true rfl⟩) ⟨zE_blind, z_recv hK (hW.1 0 _ rfl) rfl, (zE_pre hW hK hE hS)⟩ rfl rfl hl.1 rfl (lv_room (Nat.le_of_ble_eq_true rfl)) dX2_steps_4 ⟨(by rw [hRc]; omega), (by rw [hRs]; omega)⟩) hS (fun r u7 H locs hu hW hS => ?_)
  rw [hu]
  have hW : Wd D S0 (((a 0), .inr (3, [.ref (a 1), .int (nI sg.1.length), .ref (a 4), .ref (a 5), .ref (xe u 3), .ref (a 6), .ref (a 2), .ref (a 3)])) :: ((a 1), fa cs 400 (xF u 0)) :: ((a 2), fa cs 200 (xF u 1)) :: ((a 3), fa cs 12 (lwO u (fun _ => nI 1) sg.2.2.1.length (flN sg.2.1 v9) sg.2.2.1.length)) :: ((a 4), .inr (0, [.int (xm u 0), .ref (xe u 0), .int (nI sg.2.1.length)])) :: ((a 5), .inr (0, [.int (xm u 1), .ref (xe u 1), .int (nI sg.2.2.1.length)])) :: ((a 6), .inr (0, [.int (xm u 2), .ref (xe u 2), .int (nI sg.2.2.2.2.length)])) :: (XE cs u ++ Y)) H := hW
  refine W.widen (k := 0) (n := 0) (by omega) (by omega) ?_
  exact W.iret (v := (lwO u (fun _ => nI 1) sg.2.2.1.length (flN sg.2.1 v9) sg.2.2.1.length) (flN sg.2.1 w9)) hx hb hr (fun t ht hW9 => ⟨⟨_, (), rfl, rfl, (by show Wd D S0 _ _; rw [ht]; exact hW)⟩, hS.F ht⟩) (fun q9 h9 => hS.2.2 q9 h9) dX2_steps_7

set_option maxHeartbeats 4000000 in
set_option maxRecDepth 100000 in
theorem c_X2_leastCost (l : Launch) (D : va_G) (cs : Nat → ClassId) (S0 : Nat) (ea mi : Nat) (sa : Nat → Nat) (Y : va_W) (a : Nat → Nat) (u : XU) (sg : St) (hF : XF cs ea u sg Y) (v9 w9 : Nat) (hv9 : v9 < sg.2.1.length) (hw9 : w9 < sg.2.1.length) : Met l yX2_leastCost wsX2_leastCost ({ frames := 6, cells := 0, slots := 0, locals := 136 }) (zE [.ref (a 0), .int (nI v9), .int (nI w9)] (fun H => Wd D S0 (XW cs a u sg Y) H) D cs S0 ea mi sa) (va_Qi (fun r (_ : Unit) => r = (lwO u (fun j => nI (costN (rf (psN sg.2.2.1 j).2.2) (psN sg.2.2.1 j).2.1.length)) sg.2.2.1.length (flN sg.2.1 v9) sg.2.2.1.length) (flN sg.2.1 w9)) (fun _ t => Wd D S0 (XW cs a (xuF u 2 (lwO u (fun j => nI (costN (rf (psN sg.2.2.1 j).2.2) (psN sg.2.2.1 j).2.1.length)) sg.2.2.1.length (flN sg.2.1 v9) sg.2.2.1.length)) sg Y) t.heap) (SA S0)) 0 0 (SA S0) := by
  refine Met.ofW (cc := cX2_leastCost) (maxL := 3) (ret := (some .int)) (by decide) rfl ?_
  intro p e s m args below meth c s₁ B hml hv
  obtain ⟨rfl, hW, hK, hE⟩ := hv
  have hx := B.exec
  have hb := B.bytes
  have hr := B.returns
  have hts := atoms_spec (ws := wsX2_leastCost) B.pre
  have hown : s.vm.findClass RX2 = some m.cls := findClass_of_methodNamed B.named
  have hlocks := B.notSynchronized
  have hRc : (headSpec wsX2_leastCost ({ frames := 6, cells := 0, slots := 0, locals := 136 })).room.cells = 0 := rfl
  have hRs : (headSpec wsX2_leastCost ({ frames := 6, cells := 0, slots := 0, locals := 136 })).room.slots = 0 := rfl
  have hW : Wd D S0 (XW cs a u sg Y) s.heap := hW
  have hS0 : S0 ≤ s.heap.size := hW.2.2
  have hS : va_S (SA S0) s.heap s.heap [] := va_S.rf
  have hl := lv_entry ([.ref (a 0), .int (nI v9), .int (nI w9)]) (n := 3) (Nat.le_of_ble_eq_true rfl)
  rw [lg_entry_eq]
  generalize (lg_sl ([.ref (a 0), .int (nI v9), .int (nI w9)]) ++ List.replicate (3 - (lg_sl ([.ref (a 0), .int (nI v9), .int (nI w9)])).length) Slot.unset).toArray = ls at hl ⊢
  have hl : lv_has ls 3 [(0, .ref (a 0)), (1, .int (nI v9)), (2, .int (nI w9))] := hl
  obtain ⟨fbf, fl0, fl1, fl2, frw, fpt, fin, fhi, hok⟩ := id hF
  obtain ⟨hx0, hbf, hbc, hls, hlm, hlh, hrw, hpt, hin, hhr, -⟩ := XH.of (Y := Y) hW hF
  have hbl := hok.1.1
  have hnv := hok.2.1.1
  have hnp := hok.2.2.1.1
  have hnh := hok.2.2.2.2.1
  refine lv_aload_n hx hb dX2_leastCost_0 rfl (lv_at hl 0 rfl) ?_
  refine lv_iload_n hx hb dX2_leastCost_1 rfl (lv_at hl 1 rfl) ?_
  refine lv_iload_n hx hb dX2_leastCost_2 rfl (lv_at hl 2 rfl) ?_
  refine lv_iconst (v := nI 1) hx hb dX2_leastCost_3 (by decide) ?_
  refine z_cmI (va_runV (As := [.int (nI v9), .int (nI w9), .int (nI 1)]) (rest := []) ⟨hx, hb, hml, hown, hts⟩ (c_X2_leastWay_c l D cs S0 ea mi sa Y a u sg hF v9 w9 hv9 hw9) (cwV 3 hts gX2_leastCost_X2_leastWay rfl rfl rfl (by decide +kernel) ⟨Nat.le_of_ble_eq_true rfl, Nat.le_of_ble_eq_true rfl⟩) ⟨zE_blind, z_recv hK (hW.1 0 _ rfl) rfl, (zE_pre hW hK hE hS)⟩ rfl rfl hl.1 rfl (lv_room (Nat.le_of_ble_eq_true rfl)) dX2_leastCost_4 ⟨(by rw [hRc]; omega), (by rw [hRs]; omega)⟩) hS (fun r u7 H locs hu hW hS => ?_)
  rw [hu]
  have hW : Wd D S0 (((a 0), .inr (3, [.ref (a 1), .int (nI sg.1.length), .ref (a 4), .ref (a 5), .ref (xe u 3), .ref (a 6), .ref (a 2), .ref (a 3)])) :: ((a 1), fa cs 400 (xF u 0)) :: ((a 2), fa cs 200 (xF u 1)) :: ((a 3), fa cs 12 (lwO u (fun j => nI (costN (rf (psN sg.2.2.1 j).2.2) (psN sg.2.2.1 j).2.1.length)) sg.2.2.1.length (flN sg.2.1 v9) sg.2.2.1.length)) :: ((a 4), .inr (0, [.int (xm u 0), .ref (xe u 0), .int (nI sg.2.1.length)])) :: ((a 5), .inr (0, [.int (xm u 1), .ref (xe u 1), .int (nI sg.2.2.1.length)])) :: ((a 6), .inr (0, [.int (xm u 2), .ref (xe u 2), .int (nI sg.2.2.2.2.length)])) :: (XE cs u ++ Y)) H := hW
  refine W.widen (k := 0) (n := 0) (by omega) (by omega) ?_
  exact W.iret (v := (lwO u (fun j => nI (costN (rf (psN sg.2.2.1 j).2.2) (psN sg.2.2.1 j).2.1.length)) sg.2.2.1.length (flN sg.2.1 v9) sg.2.2.1.length) (flN sg.2.1 w9)) hx hb hr (fun t ht hW9 => ⟨⟨_, (), rfl, rfl, (by show Wd D S0 _ _; rw [ht]; exact hW)⟩, hS.F ht⟩) (fun q9 h9 => hS.2.2 q9 h9) dX2_leastCost_7

