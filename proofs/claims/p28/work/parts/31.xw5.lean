/-! installVersion, installPatch, rollBack -/
set_option maxHeartbeats 4000000 in
set_option maxRecDepth 100000 in
theorem c_X2_installVersion (l : Launch) (D : va_G) (cs : Nat → ClassId) (S0 : Nat) (ea mi : Nat) (sa : Nat → Nat) (Y : va_W) (a : Nat → Nat) (u : XU) (sg : St) (hF : XF cs ea u sg Y) (v9 : Nat) (hv9 : v9 < sg.2.1.length) : Met l yX2_installVersion wsX2_installVersion ({ frames := 8, cells := 1, slots := 400, locals := 192 }) (zE [.ref (a 0), .int (nI v9)] (fun H => Wd D S0 (XW cs a u sg Y) H) D cs S0 ea mi sa) (va_Qi (fun r (v : XU × va_W) => r = nI (stI sg (vsN sg.2.1 v9)).2.2.2.2.length ∧ XF cs ea v.1 (stI sg (vsN sg.2.1 v9)) (v.2 ++ Y)) (fun v t => Wd D S0 (XW cs a v.1 (stI sg (vsN sg.2.1 v9)) (v.2 ++ Y)) t.heap) (SA S0)) 1 400 (SA S0) := by
  refine Met.ofW (cc := cX2_installVersion) (maxL := 2) (ret := (some .int)) (by decide) rfl ?_
  intro p e s m args below meth c s₁ B hml hv
  obtain ⟨rfl, hW, hK, hE⟩ := hv
  have hx := B.exec
  have hb := B.bytes
  have hr := B.returns
  have hts := atoms_spec (ws := wsX2_installVersion) B.pre
  have hown : s.vm.findClass RX2 = some m.cls := findClass_of_methodNamed B.named
  have hlocks := B.notSynchronized
  have hRc : (headSpec wsX2_installVersion ({ frames := 8, cells := 1, slots := 400, locals := 192 })).room.cells = 1 := rfl
  have hRs : (headSpec wsX2_installVersion ({ frames := 8, cells := 1, slots := 400, locals := 192 })).room.slots = 400 := rfl
  have hW : Wd D S0 (XW cs a u sg Y) s.heap := hW
  have hS0 : S0 ≤ s.heap.size := hW.2.2
  have hS : va_S (SA S0) s.heap s.heap [] := va_S.rf
  have hl := lv_entry ([.ref (a 0), .int (nI v9)]) (n := 2) (Nat.le_of_ble_eq_true rfl)
  rw [lg_entry_eq]
  generalize (lg_sl ([.ref (a 0), .int (nI v9)]) ++ List.replicate (2 - (lg_sl ([.ref (a 0), .int (nI v9)])).length) Slot.unset).toArray = ls at hl ⊢
  have hl : lv_has ls 2 [(0, .ref (a 0)), (1, .int (nI v9))] := hl
  obtain ⟨fbf, fl0, fl1, fl2, frw, fpt, fin, fhi, hok⟩ := id hF
  obtain ⟨hx0, hbf, hbc, hls, hlm, hlh, hrw, hpt, hin, hhr, -⟩ := XH.of (Y := Y) hW hF
  have hbl := hok.1.1
  have hnv := hok.2.1.1
  have hnp := hok.2.2.1.1
  have hnh := hok.2.2.2.2.1
  refine lv_aload_n hx hb dX2_installVersion_0 rfl (lv_at hl 0 rfl) ?_
  refine lv_aload_n hx hb dX2_installVersion_1 rfl (lv_at hl 0 rfl) ?_
  refine lv_iload_n hx hb dX2_installVersion_2 rfl (lv_at hl 1 rfl) ?_
  refine z_ceRV (As := [.int (nI v9)]) (rest := [.ref (a 0)]) ⟨hx, hb, hml, hown, hts⟩ (c_X2_rowOf l D cs S0 ea mi sa a u sg v9 hv9) (cwV 1 hts gX2_installVersion_X2_rowOf rfl rfl rfl (by decide +kernel) ⟨Nat.le_of_ble_eq_true rfl, Nat.le_of_ble_eq_true rfl⟩) (hW.1 0 _ rfl) rfl ⟨hx0, hbf, hbc, hls, hlm, hlh, hrw, hpt, hin, hhr, hok⟩ hK hE hS rfl hl.1 rfl (Nat.le_of_ble_eq_true rfl) dX2_installVersion_3 ⟨(by rw [hRc]; omega), (by rw [hRs]; omega)⟩ (fun r hq9 => ?_)
  have hq9 : r = (xR u 0 v9) := hq9
  subst hq9
  refine z_cmI (va_runV (As := [.ref (xR u 0 v9)]) (rest := []) ⟨hx, hb, hml, hown, hts⟩ (c_X2_install l D cs S0 ea mi sa Y a u sg hF (xR u 0 v9) (xR u 1 v9) (vsN sg.2.1 v9) (frw v9 hv9) (hok.2.1.2 v9 hv9)) (cwV 1 hts gX2_installVersion_X2_install rfl rfl rfl (by decide +kernel) ⟨Nat.le_of_ble_eq_true rfl, Nat.le_of_ble_eq_true rfl⟩) ⟨zE_blind, z_recv hK (hW.1 0 _ rfl) rfl, (zE_pre hW hK hE hS)⟩ rfl rfl hl.1 rfl (lv_room (Nat.le_of_ble_eq_true rfl)) dX2_installVersion_6 ⟨(by rw [hRc]; omega), (by rw [hRs]; omega)⟩) hS (fun r u8 H locs hu hW hS => ?_)
  obtain ⟨hr8, hF8⟩ := hu
  rw [hr8]
  have hW : Wd D S0 (((a 0), .inr (3, [.ref (a 1), .int (nI ((stI sg (vsN sg.2.1 v9)).1.length)), .ref (a 4), .ref (a 5), .ref (xe u8.1 3), .ref (a 6), .ref (a 2), .ref (a 3)])) :: ((a 1), fa cs 400 (xF u8.1 0)) :: ((a 2), fa cs 200 (xF u8.1 1)) :: ((a 3), fa cs 12 (xF u8.1 2)) :: ((a 4), .inr (0, [.int (xm u8.1 0), .ref (xe u8.1 0), .int (nI ((stI sg (vsN sg.2.1 v9)).2.1.length))])) :: ((a 5), .inr (0, [.int (xm u8.1 1), .ref (xe u8.1 1), .int (nI ((stI sg (vsN sg.2.1 v9)).2.2.1.length))])) :: ((a 6), .inr (0, [.int (xm u8.1 2), .ref (xe u8.1 2), .int (nI ((stI sg (vsN sg.2.1 v9)).2.2.2.2.length))])) :: (XE cs u8.1 ++ (u8.2 ++ Y))) H := hW
  refine W.widen (k := 1) (n := 400) (by omega) (by omega) ?_
  exact W.iret (v := nI ((stI sg (vsN sg.2.1 v9)).2.2.2.2.length)) hx hb hr (fun t ht hW9 => ⟨⟨_, u8, rfl, ⟨rfl, hF8⟩, (by show Wd D S0 _ _; rw [ht]; exact hW)⟩, hS.F ht⟩) (fun q9 h9 => hS.2.2 q9 h9) dX2_installVersion_9

set_option maxHeartbeats 4000000 in
set_option maxRecDepth 100000 in
theorem c_X2_installPatch (l : Launch) (D : va_G) (cs : Nat → ClassId) (S0 : Nat) (ea mi : Nat) (sa : Nat → Nat) (Y : va_W) (a : Nat → Nat) (u : XU) (sg : St) (hF : XF cs ea u sg Y) (j9 : Nat) (hj : j9 < sg.2.2.1.length) (hee : eqL sg.2.2.2.1 (psN sg.2.2.1 j9).1 = true) : Met l yX2_installPatch wsX2_installPatch ({ frames := 8, cells := 1, slots := 400, locals := 192 }) (zE [.ref (a 0), .int (nI j9)] (fun H => Wd D S0 (XW cs a u sg Y) H) D cs S0 ea mi sa) (va_Qi (fun r (v : XU × va_W) => r = nI (stI sg (psN sg.2.2.1 j9).2.1).2.2.2.2.length ∧ XF cs ea v.1 (stI sg (psN sg.2.2.1 j9).2.1) (v.2 ++ Y)) (fun v t => Wd D S0 (XW cs a v.1 (stI sg (psN sg.2.2.1 j9).2.1) (v.2 ++ Y)) t.heap) (SA S0)) 1 400 (SA S0) := by
  refine Met.ofW (cc := cX2_installPatch) (maxL := 3) (ret := (some .int)) (by decide) rfl ?_
  intro p e s m args below meth c s₁ B hml hv
  obtain ⟨rfl, hW, hK, hE⟩ := hv
  have hx := B.exec
  have hb := B.bytes
  have hr := B.returns
  have hts := atoms_spec (ws := wsX2_installPatch) B.pre
  have hown : s.vm.findClass RX2 = some m.cls := findClass_of_methodNamed B.named
  have hlocks := B.notSynchronized
  have hRc : (headSpec wsX2_installPatch ({ frames := 8, cells := 1, slots := 400, locals := 192 })).room.cells = 1 := rfl
  have hRs : (headSpec wsX2_installPatch ({ frames := 8, cells := 1, slots := 400, locals := 192 })).room.slots = 400 := rfl
  have fl127 := hts (.fieldLink RX2 127 "DeltaUpdater$Patch" "base" "I") (by decide +kernel)
  have fl139 := hts (.fieldLink RX2 139 "DeltaUpdater$Patch" "goalRow" "LDeltaUpdater$Row;") (by decide +kernel)
  have fl32 := hts (.fieldLink RX2 32 "DeltaUpdater" "installed" "LDeltaUpdater$Row;") (by decide +kernel)
  have in1 : ∀ w ∈ u_ws RX0 TX0 7, w ∈ wsX2_installPatch := by decide +kernel
  have in3 : ∀ w ∈ u_ws RX2 TX2 8, w ∈ wsX2_installPatch := by decide +kernel
  have hW : Wd D S0 (XW cs a u sg Y) s.heap := hW
  have hS0 : S0 ≤ s.heap.size := hW.2.2
  have hS : va_S (SA S0) s.heap s.heap [] := va_S.rf
  have hl := lv_entry ([.ref (a 0), .int (nI j9)]) (n := 3) (Nat.le_of_ble_eq_true rfl)
  rw [lg_entry_eq]
  generalize (lg_sl ([.ref (a 0), .int (nI j9)]) ++ List.replicate (3 - (lg_sl ([.ref (a 0), .int (nI j9)])).length) Slot.unset).toArray = ls at hl ⊢
  have hl : lv_has ls 3 [(0, .ref (a 0)), (1, .int (nI j9))] := hl
  obtain ⟨fbf, fl0, fl1, fl2, frw, fpt, fin, fhi, hok⟩ := id hF
  obtain ⟨hx0, hbf, hbc, hls, hlm, hlh, hrw, hpt, hin, hhr, -⟩ := XH.of (Y := Y) hW hF
  have hbl := hok.1.1
  have hnv := hok.2.1.1
  have hnp := hok.2.2.1.1
  have hnh := hok.2.2.2.2.1
  have hb5 := (fpt j9 hj).2.1.1
  have hbe := (fpt j9 hj).2.1.2.1
  have hinl := hok.2.2.2.1.1
  refine lv_aload_n hx hb dX2_installPatch_0 rfl (lv_at hl 0 rfl) ?_
  refine lv_iload_n hx hb dX2_installPatch_1 rfl (lv_at hl 1 rfl) ?_
  refine z_ceRV (As := [.int (nI j9)]) (rest := []) ⟨hx, hb, hml, hown, hts⟩ (c_X2_patchOf l D cs S0 ea mi sa a u sg j9 hj) (cwV 1 hts gX2_installPatch_X2_patchOf rfl rfl rfl (by decide +kernel) ⟨Nat.le_of_ble_eq_true rfl, Nat.le_of_ble_eq_true rfl⟩) (hW.1 0 _ rfl) rfl ⟨hx0, hbf, hbc, hls, hlm, hlh, hrw, hpt, hin, hhr, hok⟩ hK hE hS rfl hl.1 rfl (Nat.le_of_ble_eq_true rfl) dX2_installPatch_2 ⟨(by rw [hRc]; omega), (by rw [hRs]; omega)⟩ (fun r hq9 => ?_)
  have hq9 : r = (xP u 0 j9) := hq9
  subst hq9
  refine lv_astore_n (lv' := [(2, .ref (xP u 0 j9)), (0, .ref (a 0)), (1, .int (nI j9))]) hx hb dX2_installPatch_5 rfl hl (by decide) rfl (fun ls hl => ?_)
  refine lv_aload_n hx hb dX2_installPatch_6 rfl (lv_at hl 1 rfl) ?_
  refine z_get (ci := 3) (v := .ref (xe u 3)) (C := RX2) (T := TX2) (N := 8) hx hb hts in3 hown hK (hW.1 0 _ rfl) rfl 4 (by decide) fl32 (fun _ h9 => h9) rfl dX2_installPatch_7 ?_
  refine lv_aload_n hx hb dX2_installPatch_10 rfl (lv_at hl 1 rfl) ?_
  refine lv_aload_n hx hb dX2_installPatch_11 rfl (lv_at hl 0 rfl) ?_
  refine z_get (ci := 1) (v := .int (nI (xP u 5 j9))) (C := RX0) (T := TX0) (N := 7) hx hb hts in1 hown hK (hpt j9 (by omega)).1.1 rfl 0 (by decide) fl127 (fun _ h9 => h9) rfl dX2_installPatch_12 ?_
  refine z_ceRV (As := [.int (nI (xP u 5 j9))]) (rest := [.ref (xe u 3)]) ⟨hx, hb, hml, hown, hts⟩ (c_X2_rowOf l D cs S0 ea mi sa a u sg (xP u 5 j9) hb5) (cwV 1 hts gX2_installPatch_X2_rowOf rfl rfl rfl (by decide +kernel) ⟨Nat.le_of_ble_eq_true rfl, Nat.le_of_ble_eq_true rfl⟩) (hW.1 0 _ rfl) rfl ⟨hx0, hbf, hbc, hls, hlm, hlh, hrw, hpt, hin, hhr, hok⟩ hK hE hS rfl hl.1 rfl (Nat.le_of_ble_eq_true rfl) dX2_installPatch_15 ⟨(by rw [hRc]; omega), (by rw [hRs]; omega)⟩ (fun r hq9 => ?_)
  have hq9 : r = (xR u 0 (xP u 5 j9)) := hq9
  subst hq9
  refine z_csV (As := [.ref (xR u 0 (xP u 5 j9))]) (rest := []) ⟨hx, hb, hml, hown, hts⟩ (c_X1_hasBytesOf l D cs (xe u 3) (xe u 4) (xR u 0 (xP u 5 j9)) (xR u 1 (xP u 5 j9)) sg.2.2.2.1.length (vsN sg.2.1 (xP u 5 j9)).length (bb sg.2.2.2.1) (bb (vsN sg.2.1 (xP u 5 j9))) (by omega) (by have := (hok.2.1.2 (xP u 5 j9) (by omega)).1; omega)) (cwV 1 hts gX2_installPatch_X1_hasBytesOf rfl rfl rfl (by decide +kernel) ⟨Nat.le_of_ble_eq_true rfl, Nat.le_of_ble_eq_true rfl⟩) hin.1 rfl ⟨hin.1, hin.2, (hrw (xP u 5 j9) (by omega)).1, (hrw (xP u 5 j9) (by omega)).2⟩ hK rfl hl.1 rfl (Nat.le_of_ble_eq_true rfl) dX2_installPatch_18 ⟨(by rw [hRc]; omega), (by rw [hRs]; omega)⟩ (fun r hq9 => ?_)
  have hq9 : r = bI (eqL sg.2.2.2.1 (vsN sg.2.1 (xP u 5 j9))) := hq9
  subst hq9
  refine z_ifb_ne (tgt := 34) hx hb dX2_installPatch_21 (by decide) (fun hc21 => ?_) (fun hc21 => ?_)
  · skip
    have hc21 : (eqL sg.2.2.2.1 (vsN sg.2.1 (xP u 5 j9))) = true := hc21
    refine lv_aload_n hx hb dX2_installPatch_34 rfl (lv_at hl 1 rfl) ?_
    refine lv_aload_n hx hb dX2_installPatch_35 rfl (lv_at hl 0 rfl) ?_
    refine z_get (ci := 1) (v := .ref (xP u 1 j9)) (C := RX0) (T := TX0) (N := 7) hx hb hts in1 hown hK (hpt j9 (by omega)).1.1 rfl 2 (by decide) fl139 (fun _ h9 => h9) rfl dX2_installPatch_36 ?_
    refine z_cmI (va_runV (As := [.ref (xP u 1 j9)]) (rest := []) ⟨hx, hb, hml, hown, hts⟩ (c_X2_install l D cs S0 ea mi sa Y a u sg hF (xP u 1 j9) (xP u 2 j9) (psN sg.2.2.1 j9).2.1 ((fpt j9 hj).1.2.2.2) ((hok.2.2.1.2 j9 hj).2.1)) (cwV 1 hts gX2_installPatch_X2_install rfl rfl rfl (by decide +kernel) ⟨Nat.le_of_ble_eq_true rfl, Nat.le_of_ble_eq_true rfl⟩) ⟨zE_blind, z_recv hK (hW.1 0 _ rfl) rfl, (zE_pre hW hK hE hS)⟩ rfl rfl hl.1 rfl (lv_room (Nat.le_of_ble_eq_true rfl)) dX2_installPatch_39 ⟨(by rw [hRc]; omega), (by rw [hRs]; omega)⟩) hS (fun r u8 H locs hu hW hS => ?_)
    obtain ⟨hr8, hF8⟩ := hu
    rw [hr8]
    have hW : Wd D S0 (((a 0), .inr (3, [.ref (a 1), .int (nI ((stI sg (psN sg.2.2.1 j9).2.1).1.length)), .ref (a 4), .ref (a 5), .ref (xe u8.1 3), .ref (a 6), .ref (a 2), .ref (a 3)])) :: ((a 1), fa cs 400 (xF u8.1 0)) :: ((a 2), fa cs 200 (xF u8.1 1)) :: ((a 3), fa cs 12 (xF u8.1 2)) :: ((a 4), .inr (0, [.int (xm u8.1 0), .ref (xe u8.1 0), .int (nI ((stI sg (psN sg.2.2.1 j9).2.1).2.1.length))])) :: ((a 5), .inr (0, [.int (xm u8.1 1), .ref (xe u8.1 1), .int (nI ((stI sg (psN sg.2.2.1 j9).2.1).2.2.1.length))])) :: ((a 6), .inr (0, [.int (xm u8.1 2), .ref (xe u8.1 2), .int (nI ((stI sg (psN sg.2.2.1 j9).2.1).2.2.2.2.length))])) :: (XE cs u8.1 ++ (u8.2 ++ Y))) H := hW
    refine W.widen (k := 1) (n := 400) (by omega) (by omega) ?_
    exact W.iret (v := nI ((stI sg (psN sg.2.2.1 j9).2.1).2.2.2.2.length)) hx hb hr (fun t ht hW9 => ⟨⟨_, u8, rfl, ⟨rfl, hF8⟩, (by show Wd D S0 _ _; rw [ht]; exact hW)⟩, hS.F ht⟩) (fun q9 h9 => hS.2.2 q9 h9) dX2_installPatch_42
  · skip
    have hc21 : (eqL sg.2.2.2.1 (vsN sg.2.1 (xP u 5 j9))) = false := hc21
    rw [hbe] at hc21; exact absurd (hc21.symm.trans hee) (by decide)

set_option maxHeartbeats 4000000 in
set_option maxRecDepth 100000 in
theorem c_X2_rollBack (l : Launch) (D : va_G) (cs : Nat → ClassId) (S0 : Nat) (ea mi : Nat) (sa : Nat → Nat) (Y : va_W) (a : Nat → Nat) (u : XU) (sg : St) (hF : XF cs ea u sg Y) (hpos : 0 < sg.2.2.2.2.length) : Met l yX2_rollBack wsX2_rollBack ({ frames := 3, cells := 0, slots := 0, locals := 86 }) (zE [.ref (a 0)] (fun H => Wd D S0 (XW cs a u sg Y) H) D cs S0 ea mi sa) (va_Qi (fun r (v : XU × va_W) => r = nI (sg.2.2.2.2.length - 1) ∧ XF cs ea v.1 (stD (stJ sg (vsN sg.2.2.2.2 (sg.2.2.2.2.length - 1))) (sg.2.2.2.2.length - 1)) (v.2 ++ Y)) (fun v t => Wd D S0 (XW cs a v.1 (stD (stJ sg (vsN sg.2.2.2.2 (sg.2.2.2.2.length - 1))) (sg.2.2.2.2.length - 1)) (v.2 ++ Y)) t.heap) (SA S0)) 0 0 (SA S0) := by
  refine Met.ofW (cc := cX2_rollBack) (maxL := 2) (ret := (some .int)) (by decide) rfl ?_
  intro p e s m args below meth c s₁ B hml hv
  obtain ⟨rfl, hW, hK, hE⟩ := hv
  have hx := B.exec
  have hb := B.bytes
  have hr := B.returns
  have hts := atoms_spec (ws := wsX2_rollBack) B.pre
  have hown : s.vm.findClass RX2 = some m.cls := findClass_of_methodNamed B.named
  have hlocks := B.notSynchronized
  have hRc : (headSpec wsX2_rollBack ({ frames := 3, cells := 0, slots := 0, locals := 86 })).room.cells = 0 := rfl
  have hRs : (headSpec wsX2_rollBack ({ frames := 3, cells := 0, slots := 0, locals := 86 })).room.slots = 0 := rfl
  have fl32 := hts (.fieldLink RX2 32 "DeltaUpdater" "installed" "LDeltaUpdater$Row;") (by decide +kernel)
  have fl36 := hts (.fieldLink RX2 36 "DeltaUpdater" "history" "Ljava/util/ArrayList;") (by decide +kernel)
  have in3 : ∀ w ∈ u_ws RX2 TX2 8, w ∈ wsX2_rollBack := by decide +kernel
  have hW : Wd D S0 (XW cs a u sg Y) s.heap := hW
  have hS0 : S0 ≤ s.heap.size := hW.2.2
  have hS : va_S (SA S0) s.heap s.heap [] := va_S.rf
  have hl := lv_entry ([.ref (a 0)]) (n := 2) (Nat.le_of_ble_eq_true rfl)
  rw [lg_entry_eq]
  generalize (lg_sl ([.ref (a 0)]) ++ List.replicate (2 - (lg_sl ([.ref (a 0)])).length) Slot.unset).toArray = ls at hl ⊢
  have hl : lv_has ls 2 [(0, .ref (a 0))] := hl
  obtain ⟨fbf, fl0, fl1, fl2, frw, fpt, fin, fhi, hok⟩ := id hF
  obtain ⟨hx0, hbf, hbc, hls, hlm, hlh, hrw, hpt, hin, hhr, -⟩ := XH.of (Y := Y) hW hF
  have hbl := hok.1.1
  have hnv := hok.2.1.1
  have hnp := hok.2.2.1.1
  have hnh := hok.2.2.2.2.1
  have hok4 := hok.2.1.1
  have hok5 := hok.2.2.1.1
  have hok6 := hok.2.2.2.2.1
  refine lv_aload_n hx hb dX2_rollBack_0 rfl (lv_at hl 0 rfl) ?_
  refine z_get (ci := 3) (v := .ref (a 6)) (C := RX2) (T := TX2) (N := 8) hx hb hts in3 hown hK (hW.1 0 _ rfl) rfl 5 (by decide) fl36 (fun _ h9 => h9) rfl dX2_rollBack_1 ?_
  refine z_csV (As := []) (rest := []) ⟨hx, hb, hml, hown, hts⟩ (c_Jx4a65c_size_8abf5 l D cs (a 6) (xe u 2) sg.2.2.2.2.length (xm u 2)) (cwV 0 hts gX2_rollBack_Jx4a65c_size_8abf5 rfl rfl rfl (by decide +kernel) ⟨Nat.le_of_ble_eq_true rfl, Nat.le_of_ble_eq_true rfl⟩) (hW.1 6 _ rfl) rfl (hW.1 6 _ rfl) hK rfl hl.1 rfl (Nat.le_of_ble_eq_true rfl) dX2_rollBack_4 ⟨(by rw [hRc]; omega), (by rw [hRs]; omega)⟩ (fun r hq9 => ?_)
  have hq9 : r = nI sg.2.2.2.2.length := hq9
  subst hq9
  refine lv_iconst (v := nI 1) hx hb dX2_rollBack_7 (by decide) ?_
  refine lv_isub hx hb dX2_rollBack_8 ?_
  refine zti (pk_sub (by omega)) (y := nI (sg.2.2.2.2.length - 1)) ?_
  refine lv_istore_n (lv' := [(1, .int (nI (sg.2.2.2.2.length - 1))), (0, .ref (a 0))]) hx hb dX2_rollBack_9 rfl hl (by decide) rfl (fun ls hl => ?_)
  refine lv_iload_n hx hb dX2_rollBack_10 rfl (lv_at hl 0 rfl) ?_
  refine z_ifn_ge (tgt := 24) hx hb (by omega) dX2_rollBack_11 (by decide) ?_
  refine lv_aload_n hx hb dX2_rollBack_24 rfl (lv_at hl 1 rfl) ?_
  refine lv_aload_n hx hb dX2_rollBack_25 rfl (lv_at hl 1 rfl) ?_
  refine z_get (ci := 3) (v := .ref (a 6)) (C := RX2) (T := TX2) (N := 8) hx hb hts in3 hown hK (hW.1 0 _ rfl) rfl 5 (by decide) fl36 (fun _ h9 => h9) rfl dX2_rollBack_26 ?_
  refine lv_iload_n hx hb dX2_rollBack_29 rfl (lv_at hl 0 rfl) ?_
  refine z_csRV (As := [.int (nI (sg.2.2.2.2.length - 1))]) (rest := [.ref (a 0)]) ⟨hx, hb, hml, hown, hts⟩ (c_Jx4a65c_get_915e3 l D cs (a 6) (xe u 2) sg.2.2.2.2.length (xc u 2) ((xR u 2) (sg.2.2.2.2.length - 1)) (sg.2.2.2.2.length - 1) (xm u 2) (xg u 2) (by omega) (hlh.2.1 (by omega)).2 (by have := hlh.2.2.1; omega) (hlh.2.2.2 (sg.2.2.2.2.length - 1) (by omega))) (cwV 1 hts gX2_rollBack_Jx4a65c_get_915e3 rfl rfl rfl (by decide +kernel) ⟨Nat.le_of_ble_eq_true rfl, Nat.le_of_ble_eq_true rfl⟩) (hW.1 6 _ rfl) rfl ⟨hlh.1, (hlh.2.1 (by omega)).1⟩ hK rfl hl.1 rfl (Nat.le_of_ble_eq_true rfl) dX2_rollBack_30 ⟨(by rw [hRc]; omega), (by rw [hRs]; omega)⟩ (fun r hq9 => ?_)
  have hq9 : r = (xR u 2 (sg.2.2.2.2.length - 1)) := hq9
  subst hq9
  refine va_castY (C := RX1) (nm := RX1) hx hb hown (hts (.classLink RX2 27 RX1) (by decide +kernel)) (hE.2.2.2.2.1 (RX1, RX1) (by decide)) (z_recv hK (hhr (sg.2.2.2.2.length - 1) (by omega)).1 rfl) dX2_rollBack_33 ?_
  refine z_put (ty := (.object "DeltaUpdater$Row")) (ci := 3) (v := .ref (xR u 2 (sg.2.2.2.2.length - 1))) (C := RX2) (T := TX2) (N := 8) hx hb hts in3 tyX2 tyX2_ok nmX2 hown hK hW hS 0 rfl rfl 4 (by decide) fl32 (fun _ h9 => h9) rfl (by decide +kernel) rfl rfl (Nat.le_of_ble_eq_true rfl) dX2_rollBack_36 (fun H locs hW hS => ?_)
  have hW : Wd D S0 (((a 0), .inr (3, [.ref (a 1), .int (nI sg.1.length), .ref (a 4), .ref (a 5), .ref (xR u 2 (sg.2.2.2.2.length - 1)), .ref (a 6), .ref (a 2), .ref (a 3)])) :: ((a 1), fa cs 400 (xF u 0)) :: ((a 2), fa cs 200 (xF u 1)) :: ((a 3), fa cs 12 (xF u 2)) :: ((a 4), .inr (0, [.int (xm u 0), .ref (xe u 0), .int (nI sg.2.1.length)])) :: ((a 5), .inr (0, [.int (xm u 1), .ref (xe u 1), .int (nI sg.2.2.1.length)])) :: ((a 6), .inr (0, [.int (xm u 2), .ref (xe u 2), .int (nI sg.2.2.2.2.length)])) :: (XE cs u ++ Y)) H := hW
  refine lv_aload_n hx hb dX2_rollBack_39 rfl (lv_at hl 1 rfl) ?_
  refine z_get (ci := 3) (v := .ref (a 6)) (C := RX2) (T := TX2) (N := 8) hx hb hts in3 hown hK (hW.1 0 _ rfl) rfl 5 (by decide) fl36 (fun _ h9 => h9) rfl dX2_rollBack_40 ?_
  refine lv_iload_n hx hb dX2_rollBack_43 rfl (lv_at hl 0 rfl) ?_
  have hW := XW.out2 (u := (xuJ u (xR u 2 (sg.2.2.2.2.length - 1)) (xR u 3 (sg.2.2.2.2.length - 1)))) (σ := (stJ sg (vsN sg.2.2.2.2 (sg.2.2.2.2.length - 1)))) (Y := Y) hW
  have hcap : xc u 2 ≠ 0 := by have := fl2.2.1; omega
  have hW : Wd D S0 ((a 6, LO (xm u 2) (xe u 2) sg.2.2.2.2.length) :: (LE cs (xe u 2) (xc u 2) (xg u 2) ++ (XR2 cs a (xuJ u (xR u 2 (sg.2.2.2.2.length - 1)) (xR u 3 (sg.2.2.2.2.length - 1))) (stJ sg (vsN sg.2.2.2.2 (sg.2.2.2.2.length - 1))) ++ Y))) _ := hW
  rw [LE_1 hcap] at hW
  refine z_cmR (va_runV (As := [.int (nI (sg.2.2.2.2.length - 1))]) (rest := []) ⟨hx, hb, hml, hown, hts⟩ (c_Jx4a65c_remove_915e3 l D cs S0 ea mi sa (XR2 cs a (xuJ u (xR u 2 (sg.2.2.2.2.length - 1)) (xR u 3 (sg.2.2.2.2.length - 1))) (stJ sg (vsN sg.2.2.2.2 (sg.2.2.2.2.length - 1))) ++ Y) (a 6) (xe u 2) (xc u 2) sg.2.2.2.2.length 2 (sg.2.2.2.2.length - 1) (xm u 2) (xg u 2) (by omega) fl2.2.1 (by have := (fl2.2.2.1 hcap).2; omega) (Or.inr rfl) (fun i hi y hy => by
        rw [fl2.2.2.2 i hi] at hy; cases hy; exact ⟨_, List.mem_append_right _ (fhi i hi).1⟩) (xR u 2 (sg.2.2.2.2.length - 1)) (fl2.2.2.2 _ (by omega))) (cwV 1 hts gX2_rollBack_Jx4a65c_remove_915e3 rfl rfl rfl (by decide +kernel) ⟨Nat.le_of_ble_eq_true rfl, Nat.le_of_ble_eq_true rfl⟩) ⟨zE_blind, z_recv hK (hW.1 0 _ rfl) rfl, (zE_pre hW hK hE hS)⟩ rfl rfl hl.1 rfl (lv_room (Nat.le_of_ble_eq_true rfl)) dX2_rollBack_44 ⟨(by rw [hRc]; omega), (by rw [hRs]; omega)⟩) hS (fun u7 ra H locs hu hW hpr hS => ?_)
  have hlenD : (stD (stJ sg (vsN sg.2.2.2.2 (sg.2.2.2.2.length - 1))) (sg.2.2.2.2.length - 1)).2.2.2.2.length = sg.2.2.2.2.length - 1 := List.length_eraseIdx_of_lt (show (sg.2.2.2.2.length - 1) < sg.2.2.2.2.length by omega)
  have hW : Wd D S0 ((a 6, LO (xm u 2 + nI 1) (xe u 2) (stD (stJ sg (vsN sg.2.2.2.2 (sg.2.2.2.2.length - 1))) (sg.2.2.2.2.length - 1)).2.2.2.2.length) :: (LE cs (xe u 2) (xc u 2) (rmF (xg u 2) (sg.2.2.2.2.length - 1) sg.2.2.2.2.length) ++ ([] ++ (XR2 cs a (xuJ u (xR u 2 (sg.2.2.2.2.length - 1)) (xR u 3 (sg.2.2.2.2.length - 1))) (stJ sg (vsN sg.2.2.2.2 (sg.2.2.2.2.length - 1))) ++ Y)))) H := by
    rw [LE_1 hcap, hlenD]; exact hW
  have hW := XW.in2 (u := (xuD (xuJ u (xR u 2 (sg.2.2.2.2.length - 1)) (xR u 3 (sg.2.2.2.2.length - 1))) (xm u 2 + nI 1) (sg.2.2.2.2.length - 1) (stJ sg (vsN sg.2.2.2.2 (sg.2.2.2.2.length - 1))).2.2.2.2.length)) (σ := stD (stJ sg (vsN sg.2.2.2.2 (sg.2.2.2.2.length - 1))) (sg.2.2.2.2.length - 1)) (G := []) hW
  have hFd : XF cs ea (xuD (xuJ u (xR u 2 (sg.2.2.2.2.length - 1)) (xR u 3 (sg.2.2.2.2.length - 1))) (xm u 2 + nI 1) (sg.2.2.2.2.length - 1) (stJ sg (vsN sg.2.2.2.2 (sg.2.2.2.2.length - 1))).2.2.2.2.length) (stD (stJ sg (vsN sg.2.2.2.2 (sg.2.2.2.2.length - 1))) (sg.2.2.2.2.length - 1)) Y := (hF.inst (fhi (sg.2.2.2.2.length - 1) (by omega)) (hok.2.2.2.2.2 (sg.2.2.2.2.length - 1) (by omega))).delH (show (sg.2.2.2.2.length - 1) < sg.2.2.2.2.length by omega)
  have hW : Wd D S0 (((a 0), .inr (3, [.ref (a 1), .int (nI sg.1.length), .ref (a 4), .ref (a 5), .ref (xe (xuJ u (xR u 2 (sg.2.2.2.2.length - 1)) (xR u 3 (sg.2.2.2.2.length - 1))) 3), .ref (a 6), .ref (a 2), .ref (a 3)])) :: ((a 1), fa cs 400 (xF (xuD (xuJ u (xR u 2 (sg.2.2.2.2.length - 1)) (xR u 3 (sg.2.2.2.2.length - 1))) (xm u 2 + nI 1) (sg.2.2.2.2.length - 1) (stJ sg (vsN sg.2.2.2.2 (sg.2.2.2.2.length - 1))).2.2.2.2.length) 0)) :: ((a 2), fa cs 200 (xF (xuD (xuJ u (xR u 2 (sg.2.2.2.2.length - 1)) (xR u 3 (sg.2.2.2.2.length - 1))) (xm u 2 + nI 1) (sg.2.2.2.2.length - 1) (stJ sg (vsN sg.2.2.2.2 (sg.2.2.2.2.length - 1))).2.2.2.2.length) 1)) :: ((a 3), fa cs 12 (xF (xuD (xuJ u (xR u 2 (sg.2.2.2.2.length - 1)) (xR u 3 (sg.2.2.2.2.length - 1))) (xm u 2 + nI 1) (sg.2.2.2.2.length - 1) (stJ sg (vsN sg.2.2.2.2 (sg.2.2.2.2.length - 1))).2.2.2.2.length) 2)) :: ((a 4), .inr (0, [.int (xm (xuD (xuJ u (xR u 2 (sg.2.2.2.2.length - 1)) (xR u 3 (sg.2.2.2.2.length - 1))) (xm u 2 + nI 1) (sg.2.2.2.2.length - 1) (stJ sg (vsN sg.2.2.2.2 (sg.2.2.2.2.length - 1))).2.2.2.2.length) 0), .ref (xe (xuD (xuJ u (xR u 2 (sg.2.2.2.2.length - 1)) (xR u 3 (sg.2.2.2.2.length - 1))) (xm u 2 + nI 1) (sg.2.2.2.2.length - 1) (stJ sg (vsN sg.2.2.2.2 (sg.2.2.2.2.length - 1))).2.2.2.2.length) 0), .int (nI sg.2.1.length)])) :: ((a 5), .inr (0, [.int (xm (xuD (xuJ u (xR u 2 (sg.2.2.2.2.length - 1)) (xR u 3 (sg.2.2.2.2.length - 1))) (xm u 2 + nI 1) (sg.2.2.2.2.length - 1) (stJ sg (vsN sg.2.2.2.2 (sg.2.2.2.2.length - 1))).2.2.2.2.length) 1), .ref (xe (xuD (xuJ u (xR u 2 (sg.2.2.2.2.length - 1)) (xR u 3 (sg.2.2.2.2.length - 1))) (xm u 2 + nI 1) (sg.2.2.2.2.length - 1) (stJ sg (vsN sg.2.2.2.2 (sg.2.2.2.2.length - 1))).2.2.2.2.length) 1), .int (nI sg.2.2.1.length)])) :: ((a 6), .inr (0, [.int (xm u 2 + nI 1), .ref (xe u 2), .int (nI ((stD (stJ sg (vsN sg.2.2.2.2 (sg.2.2.2.2.length - 1))) (sg.2.2.2.2.length - 1)).2.2.2.2.length))])) :: (XE cs (xuD (xuJ u (xR u 2 (sg.2.2.2.2.length - 1)) (xR u 3 (sg.2.2.2.2.length - 1))) (xm u 2 + nI 1) (sg.2.2.2.2.length - 1) (stJ sg (vsN sg.2.2.2.2 (sg.2.2.2.2.length - 1))).2.2.2.2.length) ++ Y)) H := hW
  refine lv_pop hx hb dX2_rollBack_47 rfl ?_
  refine lv_iload_n hx hb dX2_rollBack_48 rfl (lv_at hl 0 rfl) ?_
  refine W.widen (k := 0) (n := 0) (by omega) (by omega) ?_
  exact W.iret (v := nI (sg.2.2.2.2.length - 1)) hx hb hr (fun t ht hW9 => ⟨⟨_, ((xuD (xuJ u (xR u 2 (sg.2.2.2.2.length - 1)) (xR u 3 (sg.2.2.2.2.length - 1))) (xm u 2 + nI 1) (sg.2.2.2.2.length - 1) (stJ sg (vsN sg.2.2.2.2 (sg.2.2.2.2.length - 1))).2.2.2.2.length), []), rfl, ⟨rfl, hFd⟩, (by show Wd D S0 _ _; rw [ht]; exact hW)⟩, hS.F ht⟩) (fun q9 h9 => hS.2.2 q9 h9) dX2_rollBack_49

