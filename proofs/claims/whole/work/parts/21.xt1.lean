/-! the class's throws -/
set_option maxHeartbeats 4000000 in
set_option maxRecDepth 100000 in
theorem t_X2_rowOf (l : Launch) (hl9 : l.stackTraces = false) (D : va_G) (cs : Nat → ClassId) (S0 ea mi : Nat) (sa : Nat → Nat) (a : Nat → Nat) (u : XU) (sg : St) (v : Int32) (hv : v < 0 ∨ nI sg.2.1.length ≤ v) : vT l yX2_rowOf wsX2_rowOf ({ frames := 6, cells := 1, slots := 6, locals := 95 }) (zE [.ref (a 0), .int v] (fun H => XH D cs a u sg H) D cs S0 ea mi sa) eIO := by
  refine vx_ofW (cc := cX2_rowOf) (maxL := 2) (ret := (some (.object "DeltaUpdater$Row"))) (by decide) rfl ?_
  intro p e s m args below meth c s₁ B hml hout hv9
  obtain ⟨rfl, hPH, hK, hE⟩ := hv9
  have hx := B.exec
  have hb := B.bytes
  have hr := B.returns
  have hts := atoms_spec (ws := wsX2_rowOf) B.pre
  have hown : s.vm.findClass RX2 = some m.cls := findClass_of_methodNamed B.named
  have hlocks := B.notSynchronized
  have at_IO : ∀ w ∈ (vx_atS RX2 79 eIO eNm).filter goodWord, w.before _ s = true := fun w hw => hts w ((show ∀ w ∈ (vx_atS RX2 79 eIO eNm).filter goodWord, w ∈ wsX2_rowOf by decide +kernel) w hw)
  have fl20 := hts (.fieldLink RX2 20 "DeltaUpdater" "stored" "Ljava/util/ArrayList;") (by decide +kernel)
  have in3 : ∀ w ∈ u_ws RX2 TX2 8, w ∈ wsX2_rowOf := by decide +kernel
  have hPH : XH D cs a u sg s.heap := hPH
  obtain ⟨hx0, hbf, hbc, hls, hlm, hlh, hrw, hpt, hin, hhr, hok⟩ := hPH
  have hl := lv_entry ([.ref (a 0), .int v]) (n := 2) (Nat.le_of_ble_eq_true rfl)
  rw [lg_entry_eq]
  generalize (lg_sl ([.ref (a 0), .int v]) ++ List.replicate (2 - (lg_sl ([.ref (a 0), .int v])).length) Slot.unset).toArray = ls at hl ⊢
  have hl : lv_has ls 2 [(0, .ref (a 0)), (1, .int v)] := hl
  have hok4 := hok.2.1.1
  have hok5 := hok.2.2.1.1
  have hok6 := hok.2.2.2.2.1
  refine lv_iload_n hx hb dX2_rowOf_0 rfl (lv_at hl 1 rfl) ?_
  refine lv_if_lt (tgt := 15) hx hb dX2_rowOf_1 (by decide) (fun hc1 => ?_) (fun hc1 => ?_)
  · skip
    have hc1 : v < 0 := hc1
    exact z_throw (cls := eIO) (text := "no such version") hx hb hl9 hown (by decide +kernel) (hts (.classLink RX2 75 eIO) (by decide +kernel)) (hts (.initialized eIO) (by decide +kernel)) at_IO ng_IO ot_IO (by decide) (by decide) hE (hl.1.trans hml.symm) dX2_rowOf_15 dX2_rowOf_18 dX2_rowOf_19 dX2_rowOf_21 dX2_rowOf_24 hout (Nat.le_of_ble_eq_true rfl) (Nat.le_of_ble_eq_true rfl) (Nat.le_of_ble_eq_true rfl) (Nat.le_of_ble_eq_true rfl) hlocks (Nat.le_refl _) (Nat.le_refl _)
  · skip
    have hc1 : ¬ v < 0 := hc1
    refine lv_iload_n hx hb dX2_rowOf_4 rfl (lv_at hl 1 rfl) ?_
    refine lv_aload_n hx hb dX2_rowOf_5 rfl (lv_at hl 0 rfl) ?_
    refine z_get (ci := 3) (v := .ref (a 4)) (C := RX2) (T := TX2) (N := 8) hx hb hts in3 hown hK hx0 rfl 2 (by decide) fl20 (fun _ h9 => h9) rfl dX2_rowOf_6 ?_
    refine z_csV (As := []) (rest := [.int v]) ⟨hx, hb, hml, hown, hts⟩ (c_Jx4a65c_size_8abf5 l D cs (a 4) (xe u 0) sg.2.1.length (xm u 0)) (cwV 0 hts gX2_rowOf_Jx4a65c_size_8abf5 rfl rfl rfl (by decide +kernel) ⟨Nat.le_of_ble_eq_true rfl, Nat.le_of_ble_eq_true rfl⟩) hls.1 rfl hls.1 hK rfl hl.1 rfl (Nat.le_of_ble_eq_true rfl) dX2_rowOf_9 ⟨Nat.zero_le _, Nat.zero_le _⟩ (fun r hq9 => ?_)
    have hq9 : r = nI sg.2.1.length := hq9
    subst hq9
    refine lv_icmp_lt (tgt := 25) hx hb dX2_rowOf_12 (by decide) (fun hc12 => ?_) (fun hc12 => ?_)
    · skip
      have hc12 : v < (nI sg.2.1.length) := hc12
      exact absurd (hv.resolve_left hc1) (Int32.not_le.mpr hc12)
    · skip
      have hc12 : ¬ v < (nI sg.2.1.length) := hc12
      exact z_throw (cls := eIO) (text := "no such version") hx hb hl9 hown (by decide +kernel) (hts (.classLink RX2 75 eIO) (by decide +kernel)) (hts (.initialized eIO) (by decide +kernel)) at_IO ng_IO ot_IO (by decide) (by decide) hE (hl.1.trans hml.symm) dX2_rowOf_15 dX2_rowOf_18 dX2_rowOf_19 dX2_rowOf_21 dX2_rowOf_24 hout (Nat.le_of_ble_eq_true rfl) (Nat.le_of_ble_eq_true rfl) (Nat.le_of_ble_eq_true rfl) (Nat.le_of_ble_eq_true rfl) hlocks (Nat.le_refl _) (Nat.le_refl _)

set_option maxHeartbeats 4000000 in
set_option maxRecDepth 100000 in
theorem t_X2_patchOf (l : Launch) (hl9 : l.stackTraces = false) (D : va_G) (cs : Nat → ClassId) (S0 ea mi : Nat) (sa : Nat → Nat) (a : Nat → Nat) (u : XU) (sg : St) (v : Int32) (hv : v < 0 ∨ nI sg.2.2.1.length ≤ v) : vT l yX2_patchOf wsX2_patchOf ({ frames := 6, cells := 1, slots := 6, locals := 95 }) (zE [.ref (a 0), .int v] (fun H => XH D cs a u sg H) D cs S0 ea mi sa) eIO := by
  refine vx_ofW (cc := cX2_patchOf) (maxL := 2) (ret := (some (.object "DeltaUpdater$Patch"))) (by decide) rfl ?_
  intro p e s m args below meth c s₁ B hml hout hv9
  obtain ⟨rfl, hPH, hK, hE⟩ := hv9
  have hx := B.exec
  have hb := B.bytes
  have hr := B.returns
  have hts := atoms_spec (ws := wsX2_patchOf) B.pre
  have hown : s.vm.findClass RX2 = some m.cls := findClass_of_methodNamed B.named
  have hlocks := B.notSynchronized
  have at_IO : ∀ w ∈ (vx_atS RX2 79 eIO eNm).filter goodWord, w.before _ s = true := fun w hw => hts w ((show ∀ w ∈ (vx_atS RX2 79 eIO eNm).filter goodWord, w ∈ wsX2_patchOf by decide +kernel) w hw)
  have fl24 := hts (.fieldLink RX2 24 "DeltaUpdater" "made" "Ljava/util/ArrayList;") (by decide +kernel)
  have in3 : ∀ w ∈ u_ws RX2 TX2 8, w ∈ wsX2_patchOf := by decide +kernel
  have hPH : XH D cs a u sg s.heap := hPH
  obtain ⟨hx0, hbf, hbc, hls, hlm, hlh, hrw, hpt, hin, hhr, hok⟩ := hPH
  have hl := lv_entry ([.ref (a 0), .int v]) (n := 2) (Nat.le_of_ble_eq_true rfl)
  rw [lg_entry_eq]
  generalize (lg_sl ([.ref (a 0), .int v]) ++ List.replicate (2 - (lg_sl ([.ref (a 0), .int v])).length) Slot.unset).toArray = ls at hl ⊢
  have hl : lv_has ls 2 [(0, .ref (a 0)), (1, .int v)] := hl
  have hok4 := hok.2.1.1
  have hok5 := hok.2.2.1.1
  have hok6 := hok.2.2.2.2.1
  refine lv_iload_n hx hb dX2_patchOf_0 rfl (lv_at hl 1 rfl) ?_
  refine lv_if_lt (tgt := 15) hx hb dX2_patchOf_1 (by decide) (fun hc1 => ?_) (fun hc1 => ?_)
  · skip
    have hc1 : v < 0 := hc1
    exact z_throw (cls := eIO) (text := "no such patch") hx hb hl9 hown (by decide +kernel) (hts (.classLink RX2 75 eIO) (by decide +kernel)) (hts (.initialized eIO) (by decide +kernel)) at_IO ng_IO ot_IO (by decide) (by decide) hE (hl.1.trans hml.symm) dX2_patchOf_15 dX2_patchOf_18 dX2_patchOf_19 dX2_patchOf_21 dX2_patchOf_24 hout (Nat.le_of_ble_eq_true rfl) (Nat.le_of_ble_eq_true rfl) (Nat.le_of_ble_eq_true rfl) (Nat.le_of_ble_eq_true rfl) hlocks (Nat.le_refl _) (Nat.le_refl _)
  · skip
    have hc1 : ¬ v < 0 := hc1
    refine lv_iload_n hx hb dX2_patchOf_4 rfl (lv_at hl 1 rfl) ?_
    refine lv_aload_n hx hb dX2_patchOf_5 rfl (lv_at hl 0 rfl) ?_
    refine z_get (ci := 3) (v := .ref (a 5)) (C := RX2) (T := TX2) (N := 8) hx hb hts in3 hown hK hx0 rfl 3 (by decide) fl24 (fun _ h9 => h9) rfl dX2_patchOf_6 ?_
    refine z_csV (As := []) (rest := [.int v]) ⟨hx, hb, hml, hown, hts⟩ (c_Jx4a65c_size_8abf5 l D cs (a 5) (xe u 1) sg.2.2.1.length (xm u 1)) (cwV 0 hts gX2_patchOf_Jx4a65c_size_8abf5 rfl rfl rfl (by decide +kernel) ⟨Nat.le_of_ble_eq_true rfl, Nat.le_of_ble_eq_true rfl⟩) hlm.1 rfl hlm.1 hK rfl hl.1 rfl (Nat.le_of_ble_eq_true rfl) dX2_patchOf_9 ⟨Nat.zero_le _, Nat.zero_le _⟩ (fun r hq9 => ?_)
    have hq9 : r = nI sg.2.2.1.length := hq9
    subst hq9
    refine lv_icmp_lt (tgt := 25) hx hb dX2_patchOf_12 (by decide) (fun hc12 => ?_) (fun hc12 => ?_)
    · skip
      have hc12 : v < (nI sg.2.2.1.length) := hc12
      exact absurd (hv.resolve_left hc1) (Int32.not_le.mpr hc12)
    · skip
      have hc12 : ¬ v < (nI sg.2.2.1.length) := hc12
      exact z_throw (cls := eIO) (text := "no such patch") hx hb hl9 hown (by decide +kernel) (hts (.classLink RX2 75 eIO) (by decide +kernel)) (hts (.initialized eIO) (by decide +kernel)) at_IO ng_IO ot_IO (by decide) (by decide) hE (hl.1.trans hml.symm) dX2_patchOf_15 dX2_patchOf_18 dX2_patchOf_19 dX2_patchOf_21 dX2_patchOf_24 hout (Nat.le_of_ble_eq_true rfl) (Nat.le_of_ble_eq_true rfl) (Nat.le_of_ble_eq_true rfl) (Nat.le_of_ble_eq_true rfl) hlocks (Nat.le_refl _) (Nat.le_refl _)

set_option maxHeartbeats 4000000 in
set_option maxRecDepth 100000 in
theorem t_X2_checkSize (l : Launch) (hl9 : l.stackTraces = false) (D : va_G) (cs : Nat → ClassId) (S0 ea mi : Nat) (sa : Nat → Nat) (a : Nat → Nat) (u : XU) (sg : St) (z : Int32) (hz : z < nI 2 ∨ nI 32 < z) : vT l yX2_checkSize wsX2_checkSize ({ frames := 6, cells := 1, slots := 6, locals := 95 }) (zE [.int z] (fun H => XH D cs a u sg H) D cs S0 ea mi sa) eIA := by
  refine vx_ofW (cc := cX2_checkSize) (maxL := 1) (ret := none) (by decide) rfl ?_
  intro p e s m args below meth c s₁ B hml hout hv9
  obtain ⟨rfl, hPH, hK, hE⟩ := hv9
  have hx := B.exec
  have hb := B.bytes
  have hr := B.returns
  have hts := atoms_spec (ws := wsX2_checkSize) B.pre
  have hown : s.vm.findClass RX2 = some m.cls := findClass_of_methodNamed B.named
  have hlocks := B.notSynchronized
  have at_IA : ∀ w ∈ (vx_atS RX2 49 eIA eNm).filter goodWord, w.before _ s = true := fun w hw => hts w ((show ∀ w ∈ (vx_atS RX2 49 eIA eNm).filter goodWord, w ∈ wsX2_checkSize by decide +kernel) w hw)
  have hPH : XH D cs a u sg s.heap := hPH
  obtain ⟨hx0, hbf, hbc, hls, hlm, hlh, hrw, hpt, hin, hhr, hok⟩ := hPH
  have hl := lv_entry ([.int z]) (n := 1) (Nat.le_of_ble_eq_true rfl)
  rw [lg_entry_eq]
  generalize (lg_sl ([.int z]) ++ List.replicate (1 - (lg_sl ([.int z])).length) Slot.unset).toArray = ls at hl ⊢
  have hl : lv_has ls 1 [(0, .int z)] := hl
  have hok4 := hok.2.1.1
  have hok5 := hok.2.2.1.1
  have hok6 := hok.2.2.2.2.1
  refine lv_iload_n hx hb dX2_checkSize_0 rfl (lv_at hl 0 rfl) ?_
  refine lv_iconst (v := nI 2) hx hb dX2_checkSize_1 (by decide) ?_
  refine lv_icmp_lt (tgt := 11) hx hb dX2_checkSize_2 (by decide) (fun hc2 => ?_) (fun hc2 => ?_)
  · skip
    have hc2 : z < (nI 2) := hc2
    exact z_throw (cls := eIA) (text := "size is not 2 to 32") hx hb hl9 hown (by decide +kernel) (hts (.classLink RX2 45 eIA) (by decide +kernel)) (hts (.initialized eIA) (by decide +kernel)) at_IA ng_IA ot_IA (by decide) (by decide) hE (hl.1.trans hml.symm) dX2_checkSize_11 dX2_checkSize_14 dX2_checkSize_15 dX2_checkSize_17 dX2_checkSize_20 hout (Nat.le_of_ble_eq_true rfl) (Nat.le_of_ble_eq_true rfl) (Nat.le_of_ble_eq_true rfl) (Nat.le_of_ble_eq_true rfl) hlocks (Nat.le_refl _) (Nat.le_refl _)
  · skip
    have hc2 : ¬ z < (nI 2) := hc2
    refine lv_iload_n hx hb dX2_checkSize_5 rfl (lv_at hl 0 rfl) ?_
    refine lv_bipush (v := nI 32) hx hb dX2_checkSize_6 (by decide) ?_
    refine lv_icmp_le (tgt := 21) hx hb dX2_checkSize_8 (by decide) (fun hc8 => ?_) (fun hc8 => ?_)
    · skip
      have hc8 : z ≤ (nI 32) := hc8
      exact absurd (hz.resolve_left hc2) (Int32.not_lt.mpr hc8)
    · skip
      have hc8 : ¬ z ≤ (nI 32) := hc8
      exact z_throw (cls := eIA) (text := "size is not 2 to 32") hx hb hl9 hown (by decide +kernel) (hts (.classLink RX2 45 eIA) (by decide +kernel)) (hts (.initialized eIA) (by decide +kernel)) at_IA ng_IA ot_IA (by decide) (by decide) hE (hl.1.trans hml.symm) dX2_checkSize_11 dX2_checkSize_14 dX2_checkSize_15 dX2_checkSize_17 dX2_checkSize_20 hout (Nat.le_of_ble_eq_true rfl) (Nat.le_of_ble_eq_true rfl) (Nat.le_of_ble_eq_true rfl) (Nat.le_of_ble_eq_true rfl) hlocks (Nat.le_refl _) (Nat.le_refl _)

set_option maxHeartbeats 4000000 in
set_option maxRecDepth 100000 in
theorem t_X2_checkRoomForVersion (l : Launch) (hl9 : l.stackTraces = false) (D : va_G) (cs : Nat → ClassId) (S0 ea mi : Nat) (sa : Nat → Nat) (a : Nat → Nat) (u : XU) (sg : St) (hfull : 12 ≤ sg.2.1.length) : vT l yX2_checkRoomForVersion wsX2_checkRoomForVersion ({ frames := 6, cells := 1, slots := 6, locals := 95 }) (zE [.ref (a 0)] (fun H => XH D cs a u sg H) D cs S0 ea mi sa) eIS := by
  refine vx_ofW (cc := cX2_checkRoomForVersion) (maxL := 1) (ret := none) (by decide) rfl ?_
  intro p e s m args below meth c s₁ B hml hout hv9
  obtain ⟨rfl, hPH, hK, hE⟩ := hv9
  have hx := B.exec
  have hb := B.bytes
  have hr := B.returns
  have hts := atoms_spec (ws := wsX2_checkRoomForVersion) B.pre
  have hown : s.vm.findClass RX2 = some m.cls := findClass_of_methodNamed B.named
  have hlocks := B.notSynchronized
  have at_IS : ∀ w ∈ (vx_atS RX2 56 eIS eNm).filter goodWord, w.before _ s = true := fun w hw => hts w ((show ∀ w ∈ (vx_atS RX2 56 eIS eNm).filter goodWord, w ∈ wsX2_checkRoomForVersion by decide +kernel) w hw)
  have fl20 := hts (.fieldLink RX2 20 "DeltaUpdater" "stored" "Ljava/util/ArrayList;") (by decide +kernel)
  have in3 : ∀ w ∈ u_ws RX2 TX2 8, w ∈ wsX2_checkRoomForVersion := by decide +kernel
  have hPH : XH D cs a u sg s.heap := hPH
  obtain ⟨hx0, hbf, hbc, hls, hlm, hlh, hrw, hpt, hin, hhr, hok⟩ := hPH
  have hl := lv_entry ([.ref (a 0)]) (n := 1) (Nat.le_of_ble_eq_true rfl)
  rw [lg_entry_eq]
  generalize (lg_sl ([.ref (a 0)]) ++ List.replicate (1 - (lg_sl ([.ref (a 0)])).length) Slot.unset).toArray = ls at hl ⊢
  have hl : lv_has ls 1 [(0, .ref (a 0))] := hl
  have hok4 := hok.2.1.1
  have hok5 := hok.2.2.1.1
  have hok6 := hok.2.2.2.2.1
  refine lv_aload_n hx hb dX2_checkRoomForVersion_0 rfl (lv_at hl 0 rfl) ?_
  refine z_get (ci := 3) (v := .ref (a 4)) (C := RX2) (T := TX2) (N := 8) hx hb hts in3 hown hK hx0 rfl 2 (by decide) fl20 (fun _ h9 => h9) rfl dX2_checkRoomForVersion_1 ?_
  refine z_csV (As := []) (rest := []) ⟨hx, hb, hml, hown, hts⟩ (c_Jx4a65c_size_8abf5 l D cs (a 4) (xe u 0) sg.2.1.length (xm u 0)) (cwV 0 hts gX2_checkRoomForVersion_Jx4a65c_size_8abf5 rfl rfl rfl (by decide +kernel) ⟨Nat.le_of_ble_eq_true rfl, Nat.le_of_ble_eq_true rfl⟩) hls.1 rfl hls.1 hK rfl hl.1 rfl (Nat.le_of_ble_eq_true rfl) dX2_checkRoomForVersion_4 ⟨Nat.zero_le _, Nat.zero_le _⟩ (fun r hq9 => ?_)
  have hq9 : r = nI sg.2.1.length := hq9
  subst hq9
  refine lv_bipush (v := nI 12) hx hb dX2_checkRoomForVersion_7 (by decide) ?_
  refine z_icmp_lt (tgt := 22) hx hb (by omega) (by omega) dX2_checkRoomForVersion_9 (by decide) (fun hc9 => ?_) (fun hc9 => ?_)
  · skip
    have hc9 : sg.2.1.length < 12 := hc9
    omega
  · skip
    have hc9 : 12 ≤ sg.2.1.length := hc9
    exact z_throw (cls := eIS) (text := "there are 12 versions") hx hb hl9 hown (by decide +kernel) (hts (.classLink RX2 52 eIS) (by decide +kernel)) (hts (.initialized eIS) (by decide +kernel)) at_IS ng_IS ot_IS (by decide) (by decide) hE (hl.1.trans hml.symm) dX2_checkRoomForVersion_12 dX2_checkRoomForVersion_15 dX2_checkRoomForVersion_16 dX2_checkRoomForVersion_18 dX2_checkRoomForVersion_21 hout (Nat.le_of_ble_eq_true rfl) (Nat.le_of_ble_eq_true rfl) (Nat.le_of_ble_eq_true rfl) (Nat.le_of_ble_eq_true rfl) hlocks (Nat.le_refl _) (Nat.le_refl _)

set_option maxHeartbeats 4000000 in
set_option maxRecDepth 100000 in
theorem t_X2_checkRoomForPatch (l : Launch) (hl9 : l.stackTraces = false) (D : va_G) (cs : Nat → ClassId) (S0 ea mi : Nat) (sa : Nat → Nat) (a : Nat → Nat) (u : XU) (sg : St) (hfull : 12 ≤ sg.2.2.1.length) : vT l yX2_checkRoomForPatch wsX2_checkRoomForPatch ({ frames := 6, cells := 1, slots := 6, locals := 95 }) (zE [.ref (a 0)] (fun H => XH D cs a u sg H) D cs S0 ea mi sa) eIS := by
  refine vx_ofW (cc := cX2_checkRoomForPatch) (maxL := 1) (ret := none) (by decide) rfl ?_
  intro p e s m args below meth c s₁ B hml hout hv9
  obtain ⟨rfl, hPH, hK, hE⟩ := hv9
  have hx := B.exec
  have hb := B.bytes
  have hr := B.returns
  have hts := atoms_spec (ws := wsX2_checkRoomForPatch) B.pre
  have hown : s.vm.findClass RX2 = some m.cls := findClass_of_methodNamed B.named
  have hlocks := B.notSynchronized
  have at_IS : ∀ w ∈ (vx_atS RX2 56 eIS eNm).filter goodWord, w.before _ s = true := fun w hw => hts w ((show ∀ w ∈ (vx_atS RX2 56 eIS eNm).filter goodWord, w ∈ wsX2_checkRoomForPatch by decide +kernel) w hw)
  have fl24 := hts (.fieldLink RX2 24 "DeltaUpdater" "made" "Ljava/util/ArrayList;") (by decide +kernel)
  have in3 : ∀ w ∈ u_ws RX2 TX2 8, w ∈ wsX2_checkRoomForPatch := by decide +kernel
  have hPH : XH D cs a u sg s.heap := hPH
  obtain ⟨hx0, hbf, hbc, hls, hlm, hlh, hrw, hpt, hin, hhr, hok⟩ := hPH
  have hl := lv_entry ([.ref (a 0)]) (n := 1) (Nat.le_of_ble_eq_true rfl)
  rw [lg_entry_eq]
  generalize (lg_sl ([.ref (a 0)]) ++ List.replicate (1 - (lg_sl ([.ref (a 0)])).length) Slot.unset).toArray = ls at hl ⊢
  have hl : lv_has ls 1 [(0, .ref (a 0))] := hl
  have hok4 := hok.2.1.1
  have hok5 := hok.2.2.1.1
  have hok6 := hok.2.2.2.2.1
  refine lv_aload_n hx hb dX2_checkRoomForPatch_0 rfl (lv_at hl 0 rfl) ?_
  refine z_get (ci := 3) (v := .ref (a 5)) (C := RX2) (T := TX2) (N := 8) hx hb hts in3 hown hK hx0 rfl 3 (by decide) fl24 (fun _ h9 => h9) rfl dX2_checkRoomForPatch_1 ?_
  refine z_csV (As := []) (rest := []) ⟨hx, hb, hml, hown, hts⟩ (c_Jx4a65c_size_8abf5 l D cs (a 5) (xe u 1) sg.2.2.1.length (xm u 1)) (cwV 0 hts gX2_checkRoomForPatch_Jx4a65c_size_8abf5 rfl rfl rfl (by decide +kernel) ⟨Nat.le_of_ble_eq_true rfl, Nat.le_of_ble_eq_true rfl⟩) hlm.1 rfl hlm.1 hK rfl hl.1 rfl (Nat.le_of_ble_eq_true rfl) dX2_checkRoomForPatch_4 ⟨Nat.zero_le _, Nat.zero_le _⟩ (fun r hq9 => ?_)
  have hq9 : r = nI sg.2.2.1.length := hq9
  subst hq9
  refine lv_bipush (v := nI 12) hx hb dX2_checkRoomForPatch_7 (by decide) ?_
  refine z_icmp_lt (tgt := 22) hx hb (by omega) (by omega) dX2_checkRoomForPatch_9 (by decide) (fun hc9 => ?_) (fun hc9 => ?_)
  · skip
    have hc9 : sg.2.2.1.length < 12 := hc9
    omega
  · skip
    have hc9 : 12 ≤ sg.2.2.1.length := hc9
    exact z_throw (cls := eIS) (text := "there are 12 patches") hx hb hl9 hown (by decide +kernel) (hts (.classLink RX2 52 eIS) (by decide +kernel)) (hts (.initialized eIS) (by decide +kernel)) at_IS ng_IS ot_IS (by decide) (by decide) hE (hl.1.trans hml.symm) dX2_checkRoomForPatch_12 dX2_checkRoomForPatch_15 dX2_checkRoomForPatch_16 dX2_checkRoomForPatch_18 dX2_checkRoomForPatch_21 hout (Nat.le_of_ble_eq_true rfl) (Nat.le_of_ble_eq_true rfl) (Nat.le_of_ble_eq_true rfl) (Nat.le_of_ble_eq_true rfl) hlocks (Nat.le_refl _) (Nat.le_refl _)

set_option maxHeartbeats 4000000 in
set_option maxRecDepth 100000 in
theorem t_X2_length_a (l : Launch) (hl9 : l.stackTraces = false) (D : va_G) (cs : Nat → ClassId) (S0 ea mi : Nat) (sa : Nat → Nat) (a : Nat → Nat) (u : XU) (sg : St) (v : Int32) (hv : v < 0 ∨ nI sg.2.1.length ≤ v) : vT l yX2_length wsX2_length ({ frames := 7, cells := 1, slots := 6, locals := 116 }) (zE [.ref (a 0), .int v] (fun H => XH D cs a u sg H) D cs S0 ea mi sa) eIO := by
  refine vx_ofW (cc := cX2_length) (maxL := 2) (ret := (some .int)) (by decide) rfl ?_
  intro p e s m args below meth c s₁ B hml hout hv9
  obtain ⟨rfl, hPH, hK, hE⟩ := hv9
  have hx := B.exec
  have hb := B.bytes
  have hr := B.returns
  have hts := atoms_spec (ws := wsX2_length) B.pre
  have hown : s.vm.findClass RX2 = some m.cls := findClass_of_methodNamed B.named
  have hlocks := B.notSynchronized
  have hPH : XH D cs a u sg s.heap := hPH
  obtain ⟨hx0, hbf, hbc, hls, hlm, hlh, hrw, hpt, hin, hhr, hok⟩ := hPH
  have hl := lv_entry ([.ref (a 0), .int v]) (n := 2) (Nat.le_of_ble_eq_true rfl)
  rw [lg_entry_eq]
  generalize (lg_sl ([.ref (a 0), .int v]) ++ List.replicate (2 - (lg_sl ([.ref (a 0), .int v])).length) Slot.unset).toArray = ls at hl ⊢
  have hl : lv_has ls 2 [(0, .ref (a 0)), (1, .int v)] := hl
  have hok4 := hok.2.1.1
  have hok5 := hok.2.2.1.1
  have hok6 := hok.2.2.2.2.1
  refine lv_aload_n hx hb dX2_length_0 rfl (lv_at hl 0 rfl) ?_
  refine lv_iload_n hx hb dX2_length_1 rfl (lv_at hl 1 rfl) ?_
  exact z_thr (vx_runV (As := [.int v]) (rest := []) ⟨hx, hb, hml, hown, hts⟩ (t_X2_rowOf l hl9 D cs S0 ea mi sa a u sg v hv) (cwV 1 hts gX2_length_X2_rowOf rfl rfl rfl (by decide +kernel) ⟨Nat.le_of_ble_eq_true rfl, Nat.le_of_ble_eq_true rfl⟩) ⟨zE_blind, z_recv hK hx0 rfl, zE_pre ⟨hx0, hbf, hbc, hls, hlm, hlh, hrw, hpt, hin, hhr, hok⟩ hK hE va_S.rf⟩ rfl rfl hl.1 rfl (lv_room (Nat.le_of_ble_eq_true rfl)) dX2_length_2 ⟨Nat.le_of_ble_eq_true rfl, Nat.le_of_ble_eq_true rfl⟩) hout hlocks (Nat.le_refl _) (Nat.le_refl _)

set_option maxHeartbeats 4000000 in
set_option maxRecDepth 100000 in
theorem t_X2_byteAt_a (l : Launch) (hl9 : l.stackTraces = false) (D : va_G) (cs : Nat → ClassId) (S0 ea mi : Nat) (sa : Nat → Nat) (a : Nat → Nat) (u : XU) (sg : St) (v : Int32) (hv : v < 0 ∨ nI sg.2.1.length ≤ v) (w : Int32) : vT l yX2_byteAt wsX2_byteAt ({ frames := 7, cells := 1, slots := 6, locals := 116 }) (zE [.ref (a 0), .int v, .int w] (fun H => XH D cs a u sg H) D cs S0 ea mi sa) eIO := by
  refine vx_ofW (cc := cX2_byteAt) (maxL := 4) (ret := (some .int)) (by decide) rfl ?_
  intro p e s m args below meth c s₁ B hml hout hv9
  obtain ⟨rfl, hPH, hK, hE⟩ := hv9
  have hx := B.exec
  have hb := B.bytes
  have hr := B.returns
  have hts := atoms_spec (ws := wsX2_byteAt) B.pre
  have hown : s.vm.findClass RX2 = some m.cls := findClass_of_methodNamed B.named
  have hlocks := B.notSynchronized
  have hPH : XH D cs a u sg s.heap := hPH
  obtain ⟨hx0, hbf, hbc, hls, hlm, hlh, hrw, hpt, hin, hhr, hok⟩ := hPH
  have hl := lv_entry ([.ref (a 0), .int v, .int w]) (n := 4) (Nat.le_of_ble_eq_true rfl)
  rw [lg_entry_eq]
  generalize (lg_sl ([.ref (a 0), .int v, .int w]) ++ List.replicate (4 - (lg_sl ([.ref (a 0), .int v, .int w])).length) Slot.unset).toArray = ls at hl ⊢
  have hl : lv_has ls 4 [(0, .ref (a 0)), (1, .int v), (2, .int w)] := hl
  have hok4 := hok.2.1.1
  have hok5 := hok.2.2.1.1
  have hok6 := hok.2.2.2.2.1
  refine lv_aload_n hx hb dX2_byteAt_0 rfl (lv_at hl 0 rfl) ?_
  refine lv_iload_n hx hb dX2_byteAt_1 rfl (lv_at hl 1 rfl) ?_
  exact z_thr (vx_runV (As := [.int v]) (rest := []) ⟨hx, hb, hml, hown, hts⟩ (t_X2_rowOf l hl9 D cs S0 ea mi sa a u sg v hv) (cwV 1 hts gX2_byteAt_X2_rowOf rfl rfl rfl (by decide +kernel) ⟨Nat.le_of_ble_eq_true rfl, Nat.le_of_ble_eq_true rfl⟩) ⟨zE_blind, z_recv hK hx0 rfl, zE_pre ⟨hx0, hbf, hbc, hls, hlm, hlh, hrw, hpt, hin, hhr, hok⟩ hK hE va_S.rf⟩ rfl rfl hl.1 rfl (lv_room (Nat.le_of_ble_eq_true rfl)) dX2_byteAt_2 ⟨Nat.le_of_ble_eq_true rfl, Nat.le_of_ble_eq_true rfl⟩) hout hlocks (Nat.le_refl _) (Nat.le_refl _)

set_option maxHeartbeats 4000000 in
set_option maxRecDepth 100000 in
theorem t_X2_areSame_a (l : Launch) (hl9 : l.stackTraces = false) (D : va_G) (cs : Nat → ClassId) (S0 ea mi : Nat) (sa : Nat → Nat) (a : Nat → Nat) (u : XU) (sg : St) (v : Int32) (hv : v < 0 ∨ nI sg.2.1.length ≤ v) (w : Int32) : vT l yX2_areSame wsX2_areSame ({ frames := 7, cells := 1, slots := 6, locals := 116 }) (zE [.ref (a 0), .int v, .int w] (fun H => XH D cs a u sg H) D cs S0 ea mi sa) eIO := by
  refine vx_ofW (cc := cX2_areSame) (maxL := 3) (ret := (some .boolean)) (by decide) rfl ?_
  intro p e s m args below meth c s₁ B hml hout hv9
  obtain ⟨rfl, hPH, hK, hE⟩ := hv9
  have hx := B.exec
  have hb := B.bytes
  have hr := B.returns
  have hts := atoms_spec (ws := wsX2_areSame) B.pre
  have hown : s.vm.findClass RX2 = some m.cls := findClass_of_methodNamed B.named
  have hlocks := B.notSynchronized
  have hPH : XH D cs a u sg s.heap := hPH
  obtain ⟨hx0, hbf, hbc, hls, hlm, hlh, hrw, hpt, hin, hhr, hok⟩ := hPH
  have hl := lv_entry ([.ref (a 0), .int v, .int w]) (n := 3) (Nat.le_of_ble_eq_true rfl)
  rw [lg_entry_eq]
  generalize (lg_sl ([.ref (a 0), .int v, .int w]) ++ List.replicate (3 - (lg_sl ([.ref (a 0), .int v, .int w])).length) Slot.unset).toArray = ls at hl ⊢
  have hl : lv_has ls 3 [(0, .ref (a 0)), (1, .int v), (2, .int w)] := hl
  have hok4 := hok.2.1.1
  have hok5 := hok.2.2.1.1
  have hok6 := hok.2.2.2.2.1
  refine lv_aload_n hx hb dX2_areSame_0 rfl (lv_at hl 0 rfl) ?_
  refine lv_iload_n hx hb dX2_areSame_1 rfl (lv_at hl 1 rfl) ?_
  exact z_thr (vx_runV (As := [.int v]) (rest := []) ⟨hx, hb, hml, hown, hts⟩ (t_X2_rowOf l hl9 D cs S0 ea mi sa a u sg v hv) (cwV 1 hts gX2_areSame_X2_rowOf rfl rfl rfl (by decide +kernel) ⟨Nat.le_of_ble_eq_true rfl, Nat.le_of_ble_eq_true rfl⟩) ⟨zE_blind, z_recv hK hx0 rfl, zE_pre ⟨hx0, hbf, hbc, hls, hlm, hlh, hrw, hpt, hin, hhr, hok⟩ hK hE va_S.rf⟩ rfl rfl hl.1 rfl (lv_room (Nat.le_of_ble_eq_true rfl)) dX2_areSame_2 ⟨Nat.le_of_ble_eq_true rfl, Nat.le_of_ble_eq_true rfl⟩) hout hlocks (Nat.le_refl _) (Nat.le_refl _)

set_option maxHeartbeats 4000000 in
set_option maxRecDepth 100000 in
theorem t_X2_weakSum_a (l : Launch) (hl9 : l.stackTraces = false) (D : va_G) (cs : Nat → ClassId) (S0 ea mi : Nat) (sa : Nat → Nat) (a : Nat → Nat) (u : XU) (sg : St) (v : Int32) (hv : v < 0 ∨ nI sg.2.1.length ≤ v) (w : Int32) (z : Int32) : vT l yX2_weakSum wsX2_weakSum ({ frames := 7, cells := 1, slots := 6, locals := 116 }) (zE [.ref (a 0), .int v, .int w, .int z] (fun H => XH D cs a u sg H) D cs S0 ea mi sa) eIO := by
  refine vx_ofW (cc := cX2_weakSum) (maxL := 5) (ret := (some .int)) (by decide) rfl ?_
  intro p e s m args below meth c s₁ B hml hout hv9
  obtain ⟨rfl, hPH, hK, hE⟩ := hv9
  have hx := B.exec
  have hb := B.bytes
  have hr := B.returns
  have hts := atoms_spec (ws := wsX2_weakSum) B.pre
  have hown : s.vm.findClass RX2 = some m.cls := findClass_of_methodNamed B.named
  have hlocks := B.notSynchronized
  have hPH : XH D cs a u sg s.heap := hPH
  obtain ⟨hx0, hbf, hbc, hls, hlm, hlh, hrw, hpt, hin, hhr, hok⟩ := hPH
  have hl := lv_entry ([.ref (a 0), .int v, .int w, .int z]) (n := 5) (Nat.le_of_ble_eq_true rfl)
  rw [lg_entry_eq]
  generalize (lg_sl ([.ref (a 0), .int v, .int w, .int z]) ++ List.replicate (5 - (lg_sl ([.ref (a 0), .int v, .int w, .int z])).length) Slot.unset).toArray = ls at hl ⊢
  have hl : lv_has ls 5 [(0, .ref (a 0)), (1, .int v), (2, .int w), (3, .int z)] := hl
  have hok4 := hok.2.1.1
  have hok5 := hok.2.2.1.1
  have hok6 := hok.2.2.2.2.1
  refine lv_aload_n hx hb dX2_weakSum_0 rfl (lv_at hl 0 rfl) ?_
  refine lv_iload_n hx hb dX2_weakSum_1 rfl (lv_at hl 1 rfl) ?_
  exact z_thr (vx_runV (As := [.int v]) (rest := []) ⟨hx, hb, hml, hown, hts⟩ (t_X2_rowOf l hl9 D cs S0 ea mi sa a u sg v hv) (cwV 1 hts gX2_weakSum_X2_rowOf rfl rfl rfl (by decide +kernel) ⟨Nat.le_of_ble_eq_true rfl, Nat.le_of_ble_eq_true rfl⟩) ⟨zE_blind, z_recv hK hx0 rfl, zE_pre ⟨hx0, hbf, hbc, hls, hlm, hlh, hrw, hpt, hin, hhr, hok⟩ hK hE va_S.rf⟩ rfl rfl hl.1 rfl (lv_room (Nat.le_of_ble_eq_true rfl)) dX2_weakSum_2 ⟨Nat.le_of_ble_eq_true rfl, Nat.le_of_ble_eq_true rfl⟩) hout hlocks (Nat.le_refl _) (Nat.le_refl _)

set_option maxHeartbeats 4000000 in
set_option maxRecDepth 100000 in
theorem t_X2_collisions_a (l : Launch) (hl9 : l.stackTraces = false) (D : va_G) (cs : Nat → ClassId) (S0 ea mi : Nat) (sa : Nat → Nat) (a : Nat → Nat) (u : XU) (sg : St) (v : Int32) (hv : v < 0 ∨ nI sg.2.1.length ≤ v) (w : Int32) : vT l yX2_collisions wsX2_collisions ({ frames := 7, cells := 1, slots := 6, locals := 116 }) (zE [.ref (a 0), .int v, .int w] (fun H => XH D cs a u sg H) D cs S0 ea mi sa) eIO := by
  refine vx_ofW (cc := cX2_collisions) (maxL := 8) (ret := (some .int)) (by decide) rfl ?_
  intro p e s m args below meth c s₁ B hml hout hv9
  obtain ⟨rfl, hPH, hK, hE⟩ := hv9
  have hx := B.exec
  have hb := B.bytes
  have hr := B.returns
  have hts := atoms_spec (ws := wsX2_collisions) B.pre
  have hown : s.vm.findClass RX2 = some m.cls := findClass_of_methodNamed B.named
  have hlocks := B.notSynchronized
  have hPH : XH D cs a u sg s.heap := hPH
  obtain ⟨hx0, hbf, hbc, hls, hlm, hlh, hrw, hpt, hin, hhr, hok⟩ := hPH
  have hl := lv_entry ([.ref (a 0), .int v, .int w]) (n := 8) (Nat.le_of_ble_eq_true rfl)
  rw [lg_entry_eq]
  generalize (lg_sl ([.ref (a 0), .int v, .int w]) ++ List.replicate (8 - (lg_sl ([.ref (a 0), .int v, .int w])).length) Slot.unset).toArray = ls at hl ⊢
  have hl : lv_has ls 8 [(0, .ref (a 0)), (1, .int v), (2, .int w)] := hl
  have hok4 := hok.2.1.1
  have hok5 := hok.2.2.1.1
  have hok6 := hok.2.2.2.2.1
  refine lv_aload_n hx hb dX2_collisions_0 rfl (lv_at hl 0 rfl) ?_
  refine lv_iload_n hx hb dX2_collisions_1 rfl (lv_at hl 1 rfl) ?_
  exact z_thr (vx_runV (As := [.int v]) (rest := []) ⟨hx, hb, hml, hown, hts⟩ (t_X2_rowOf l hl9 D cs S0 ea mi sa a u sg v hv) (cwV 1 hts gX2_collisions_X2_rowOf rfl rfl rfl (by decide +kernel) ⟨Nat.le_of_ble_eq_true rfl, Nat.le_of_ble_eq_true rfl⟩) ⟨zE_blind, z_recv hK hx0 rfl, zE_pre ⟨hx0, hbf, hbc, hls, hlm, hlh, hrw, hpt, hin, hhr, hok⟩ hK hE va_S.rf⟩ rfl rfl hl.1 rfl (lv_room (Nat.le_of_ble_eq_true rfl)) dX2_collisions_2 ⟨Nat.le_of_ble_eq_true rfl, Nat.le_of_ble_eq_true rfl⟩) hout hlocks (Nat.le_refl _) (Nat.le_refl _)

set_option maxHeartbeats 4000000 in
set_option maxRecDepth 100000 in
theorem t_X2_differentBlocks_a (l : Launch) (hl9 : l.stackTraces = false) (D : va_G) (cs : Nat → ClassId) (S0 ea mi : Nat) (sa : Nat → Nat) (a : Nat → Nat) (u : XU) (sg : St) (v : Int32) (hv : v < 0 ∨ nI sg.2.1.length ≤ v) (w : Int32) : vT l yX2_differentBlocks wsX2_differentBlocks ({ frames := 7, cells := 1, slots := 6, locals := 116 }) (zE [.ref (a 0), .int v, .int w] (fun H => XH D cs a u sg H) D cs S0 ea mi sa) eIO := by
  refine vx_ofW (cc := cX2_differentBlocks) (maxL := 7) (ret := (some .int)) (by decide) rfl ?_
  intro p e s m args below meth c s₁ B hml hout hv9
  obtain ⟨rfl, hPH, hK, hE⟩ := hv9
  have hx := B.exec
  have hb := B.bytes
  have hr := B.returns
  have hts := atoms_spec (ws := wsX2_differentBlocks) B.pre
  have hown : s.vm.findClass RX2 = some m.cls := findClass_of_methodNamed B.named
  have hlocks := B.notSynchronized
  have hPH : XH D cs a u sg s.heap := hPH
  obtain ⟨hx0, hbf, hbc, hls, hlm, hlh, hrw, hpt, hin, hhr, hok⟩ := hPH
  have hl := lv_entry ([.ref (a 0), .int v, .int w]) (n := 7) (Nat.le_of_ble_eq_true rfl)
  rw [lg_entry_eq]
  generalize (lg_sl ([.ref (a 0), .int v, .int w]) ++ List.replicate (7 - (lg_sl ([.ref (a 0), .int v, .int w])).length) Slot.unset).toArray = ls at hl ⊢
  have hl : lv_has ls 7 [(0, .ref (a 0)), (1, .int v), (2, .int w)] := hl
  have hok4 := hok.2.1.1
  have hok5 := hok.2.2.1.1
  have hok6 := hok.2.2.2.2.1
  refine lv_aload_n hx hb dX2_differentBlocks_0 rfl (lv_at hl 0 rfl) ?_
  refine lv_iload_n hx hb dX2_differentBlocks_1 rfl (lv_at hl 1 rfl) ?_
  exact z_thr (vx_runV (As := [.int v]) (rest := []) ⟨hx, hb, hml, hown, hts⟩ (t_X2_rowOf l hl9 D cs S0 ea mi sa a u sg v hv) (cwV 1 hts gX2_differentBlocks_X2_rowOf rfl rfl rfl (by decide +kernel) ⟨Nat.le_of_ble_eq_true rfl, Nat.le_of_ble_eq_true rfl⟩) ⟨zE_blind, z_recv hK hx0 rfl, zE_pre ⟨hx0, hbf, hbc, hls, hlm, hlh, hrw, hpt, hin, hhr, hok⟩ hK hE va_S.rf⟩ rfl rfl hl.1 rfl (lv_room (Nat.le_of_ble_eq_true rfl)) dX2_differentBlocks_2 ⟨Nat.le_of_ble_eq_true rfl, Nat.le_of_ble_eq_true rfl⟩) hout hlocks (Nat.le_refl _) (Nat.le_refl _)

set_option maxHeartbeats 4000000 in
set_option maxRecDepth 100000 in
theorem t_X2_difference_a (l : Launch) (hl9 : l.stackTraces = false) (D : va_G) (cs : Nat → ClassId) (S0 ea mi : Nat) (sa : Nat → Nat) (a : Nat → Nat) (u : XU) (sg : St) (v : Int32) (hv : v < 0 ∨ nI sg.2.1.length ≤ v) (w : Int32) (z : Int32) : vT l yX2_difference wsX2_difference ({ frames := 7, cells := 1, slots := 6, locals := 116 }) (zE [.ref (a 0), .int v, .int w, .int z] (fun H => XH D cs a u sg H) D cs S0 ea mi sa) eIO := by
  refine vx_ofW (cc := cX2_difference) (maxL := 7) (ret := (some .int)) (by decide) rfl ?_
  intro p e s m args below meth c s₁ B hml hout hv9
  obtain ⟨rfl, hPH, hK, hE⟩ := hv9
  have hx := B.exec
  have hb := B.bytes
  have hr := B.returns
  have hts := atoms_spec (ws := wsX2_difference) B.pre
  have hown : s.vm.findClass RX2 = some m.cls := findClass_of_methodNamed B.named
  have hlocks := B.notSynchronized
  have hPH : XH D cs a u sg s.heap := hPH
  obtain ⟨hx0, hbf, hbc, hls, hlm, hlh, hrw, hpt, hin, hhr, hok⟩ := hPH
  have hl := lv_entry ([.ref (a 0), .int v, .int w, .int z]) (n := 7) (Nat.le_of_ble_eq_true rfl)
  rw [lg_entry_eq]
  generalize (lg_sl ([.ref (a 0), .int v, .int w, .int z]) ++ List.replicate (7 - (lg_sl ([.ref (a 0), .int v, .int w, .int z])).length) Slot.unset).toArray = ls at hl ⊢
  have hl : lv_has ls 7 [(0, .ref (a 0)), (1, .int v), (2, .int w), (3, .int z)] := hl
  have hok4 := hok.2.1.1
  have hok5 := hok.2.2.1.1
  have hok6 := hok.2.2.2.2.1
  refine lv_aload_n hx hb dX2_difference_0 rfl (lv_at hl 0 rfl) ?_
  refine lv_iload_n hx hb dX2_difference_1 rfl (lv_at hl 1 rfl) ?_
  exact z_thr (vx_runV (As := [.int v]) (rest := []) ⟨hx, hb, hml, hown, hts⟩ (t_X2_rowOf l hl9 D cs S0 ea mi sa a u sg v hv) (cwV 1 hts gX2_difference_X2_rowOf rfl rfl rfl (by decide +kernel) ⟨Nat.le_of_ble_eq_true rfl, Nat.le_of_ble_eq_true rfl⟩) ⟨zE_blind, z_recv hK hx0 rfl, zE_pre ⟨hx0, hbf, hbc, hls, hlm, hlh, hrw, hpt, hin, hhr, hok⟩ hK hE va_S.rf⟩ rfl rfl hl.1 rfl (lv_room (Nat.le_of_ble_eq_true rfl)) dX2_difference_2 ⟨Nat.le_of_ble_eq_true rfl, Nat.le_of_ble_eq_true rfl⟩) hout hlocks (Nat.le_refl _) (Nat.le_refl _)

set_option maxHeartbeats 4000000 in
set_option maxRecDepth 100000 in
theorem t_X2_isInstalled_a (l : Launch) (hl9 : l.stackTraces = false) (D : va_G) (cs : Nat → ClassId) (S0 ea mi : Nat) (sa : Nat → Nat) (a : Nat → Nat) (u : XU) (sg : St) (v : Int32) (hv : v < 0 ∨ nI sg.2.1.length ≤ v) : vT l yX2_isInstalled wsX2_isInstalled ({ frames := 7, cells := 1, slots := 6, locals := 116 }) (zE [.ref (a 0), .int v] (fun H => XH D cs a u sg H) D cs S0 ea mi sa) eIO := by
  refine vx_ofW (cc := cX2_isInstalled) (maxL := 2) (ret := (some .boolean)) (by decide) rfl ?_
  intro p e s m args below meth c s₁ B hml hout hv9
  obtain ⟨rfl, hPH, hK, hE⟩ := hv9
  have hx := B.exec
  have hb := B.bytes
  have hr := B.returns
  have hts := atoms_spec (ws := wsX2_isInstalled) B.pre
  have hown : s.vm.findClass RX2 = some m.cls := findClass_of_methodNamed B.named
  have hlocks := B.notSynchronized
  have hPH : XH D cs a u sg s.heap := hPH
  obtain ⟨hx0, hbf, hbc, hls, hlm, hlh, hrw, hpt, hin, hhr, hok⟩ := hPH
  have hl := lv_entry ([.ref (a 0), .int v]) (n := 2) (Nat.le_of_ble_eq_true rfl)
  rw [lg_entry_eq]
  generalize (lg_sl ([.ref (a 0), .int v]) ++ List.replicate (2 - (lg_sl ([.ref (a 0), .int v])).length) Slot.unset).toArray = ls at hl ⊢
  have hl : lv_has ls 2 [(0, .ref (a 0)), (1, .int v)] := hl
  have hok4 := hok.2.1.1
  have hok5 := hok.2.2.1.1
  have hok6 := hok.2.2.2.2.1
  refine lv_aload_n hx hb dX2_isInstalled_0 rfl (lv_at hl 0 rfl) ?_
  refine lv_iload_n hx hb dX2_isInstalled_1 rfl (lv_at hl 1 rfl) ?_
  exact z_thr (vx_runV (As := [.int v]) (rest := []) ⟨hx, hb, hml, hown, hts⟩ (t_X2_rowOf l hl9 D cs S0 ea mi sa a u sg v hv) (cwV 1 hts gX2_isInstalled_X2_rowOf rfl rfl rfl (by decide +kernel) ⟨Nat.le_of_ble_eq_true rfl, Nat.le_of_ble_eq_true rfl⟩) ⟨zE_blind, z_recv hK hx0 rfl, zE_pre ⟨hx0, hbf, hbc, hls, hlm, hlh, hrw, hpt, hin, hhr, hok⟩ hK hE va_S.rf⟩ rfl rfl hl.1 rfl (lv_room (Nat.le_of_ble_eq_true rfl)) dX2_isInstalled_2 ⟨Nat.le_of_ble_eq_true rfl, Nat.le_of_ble_eq_true rfl⟩) hout hlocks (Nat.le_refl _) (Nat.le_refl _)

set_option maxHeartbeats 4000000 in
set_option maxRecDepth 100000 in
theorem t_X2_instructions_a (l : Launch) (hl9 : l.stackTraces = false) (D : va_G) (cs : Nat → ClassId) (S0 ea mi : Nat) (sa : Nat → Nat) (a : Nat → Nat) (u : XU) (sg : St) (v : Int32) (hv : v < 0 ∨ nI sg.2.2.1.length ≤ v) : vT l yX2_instructions wsX2_instructions ({ frames := 7, cells := 1, slots := 6, locals := 116 }) (zE [.ref (a 0), .int v] (fun H => XH D cs a u sg H) D cs S0 ea mi sa) eIO := by
  refine vx_ofW (cc := cX2_instructions) (maxL := 2) (ret := (some .int)) (by decide) rfl ?_
  intro p e s m args below meth c s₁ B hml hout hv9
  obtain ⟨rfl, hPH, hK, hE⟩ := hv9
  have hx := B.exec
  have hb := B.bytes
  have hr := B.returns
  have hts := atoms_spec (ws := wsX2_instructions) B.pre
  have hown : s.vm.findClass RX2 = some m.cls := findClass_of_methodNamed B.named
  have hlocks := B.notSynchronized
  have hPH : XH D cs a u sg s.heap := hPH
  obtain ⟨hx0, hbf, hbc, hls, hlm, hlh, hrw, hpt, hin, hhr, hok⟩ := hPH
  have hl := lv_entry ([.ref (a 0), .int v]) (n := 2) (Nat.le_of_ble_eq_true rfl)
  rw [lg_entry_eq]
  generalize (lg_sl ([.ref (a 0), .int v]) ++ List.replicate (2 - (lg_sl ([.ref (a 0), .int v])).length) Slot.unset).toArray = ls at hl ⊢
  have hl : lv_has ls 2 [(0, .ref (a 0)), (1, .int v)] := hl
  have hok4 := hok.2.1.1
  have hok5 := hok.2.2.1.1
  have hok6 := hok.2.2.2.2.1
  refine lv_aload_n hx hb dX2_instructions_0 rfl (lv_at hl 0 rfl) ?_
  refine lv_iload_n hx hb dX2_instructions_1 rfl (lv_at hl 1 rfl) ?_
  exact z_thr (vx_runV (As := [.int v]) (rest := []) ⟨hx, hb, hml, hown, hts⟩ (t_X2_patchOf l hl9 D cs S0 ea mi sa a u sg v hv) (cwV 1 hts gX2_instructions_X2_patchOf rfl rfl rfl (by decide +kernel) ⟨Nat.le_of_ble_eq_true rfl, Nat.le_of_ble_eq_true rfl⟩) ⟨zE_blind, z_recv hK hx0 rfl, zE_pre ⟨hx0, hbf, hbc, hls, hlm, hlh, hrw, hpt, hin, hhr, hok⟩ hK hE va_S.rf⟩ rfl rfl hl.1 rfl (lv_room (Nat.le_of_ble_eq_true rfl)) dX2_instructions_2 ⟨Nat.le_of_ble_eq_true rfl, Nat.le_of_ble_eq_true rfl⟩) hout hlocks (Nat.le_refl _) (Nat.le_refl _)

set_option maxHeartbeats 4000000 in
set_option maxRecDepth 100000 in
theorem t_X2_instruction_a (l : Launch) (hl9 : l.stackTraces = false) (D : va_G) (cs : Nat → ClassId) (S0 ea mi : Nat) (sa : Nat → Nat) (a : Nat → Nat) (u : XU) (sg : St) (v : Int32) (hv : v < 0 ∨ nI sg.2.2.1.length ≤ v) (w : Int32) (z : Int32) : vT l yX2_instruction wsX2_instruction ({ frames := 7, cells := 1, slots := 6, locals := 116 }) (zE [.ref (a 0), .int v, .int w, .int z] (fun H => XH D cs a u sg H) D cs S0 ea mi sa) eIO := by
  refine vx_ofW (cc := cX2_instruction) (maxL := 5) (ret := (some .int)) (by decide) rfl ?_
  intro p e s m args below meth c s₁ B hml hout hv9
  obtain ⟨rfl, hPH, hK, hE⟩ := hv9
  have hx := B.exec
  have hb := B.bytes
  have hr := B.returns
  have hts := atoms_spec (ws := wsX2_instruction) B.pre
  have hown : s.vm.findClass RX2 = some m.cls := findClass_of_methodNamed B.named
  have hlocks := B.notSynchronized
  have hPH : XH D cs a u sg s.heap := hPH
  obtain ⟨hx0, hbf, hbc, hls, hlm, hlh, hrw, hpt, hin, hhr, hok⟩ := hPH
  have hl := lv_entry ([.ref (a 0), .int v, .int w, .int z]) (n := 5) (Nat.le_of_ble_eq_true rfl)
  rw [lg_entry_eq]
  generalize (lg_sl ([.ref (a 0), .int v, .int w, .int z]) ++ List.replicate (5 - (lg_sl ([.ref (a 0), .int v, .int w, .int z])).length) Slot.unset).toArray = ls at hl ⊢
  have hl : lv_has ls 5 [(0, .ref (a 0)), (1, .int v), (2, .int w), (3, .int z)] := hl
  have hok4 := hok.2.1.1
  have hok5 := hok.2.2.1.1
  have hok6 := hok.2.2.2.2.1
  refine lv_aload_n hx hb dX2_instruction_0 rfl (lv_at hl 0 rfl) ?_
  refine lv_iload_n hx hb dX2_instruction_1 rfl (lv_at hl 1 rfl) ?_
  exact z_thr (vx_runV (As := [.int v]) (rest := []) ⟨hx, hb, hml, hown, hts⟩ (t_X2_patchOf l hl9 D cs S0 ea mi sa a u sg v hv) (cwV 1 hts gX2_instruction_X2_patchOf rfl rfl rfl (by decide +kernel) ⟨Nat.le_of_ble_eq_true rfl, Nat.le_of_ble_eq_true rfl⟩) ⟨zE_blind, z_recv hK hx0 rfl, zE_pre ⟨hx0, hbf, hbc, hls, hlm, hlh, hrw, hpt, hin, hhr, hok⟩ hK hE va_S.rf⟩ rfl rfl hl.1 rfl (lv_room (Nat.le_of_ble_eq_true rfl)) dX2_instruction_2 ⟨Nat.le_of_ble_eq_true rfl, Nat.le_of_ble_eq_true rfl⟩) hout hlocks (Nat.le_refl _) (Nat.le_refl _)

set_option maxHeartbeats 4000000 in
set_option maxRecDepth 100000 in
theorem t_X2_cost_a (l : Launch) (hl9 : l.stackTraces = false) (D : va_G) (cs : Nat → ClassId) (S0 ea mi : Nat) (sa : Nat → Nat) (a : Nat → Nat) (u : XU) (sg : St) (v : Int32) (hv : v < 0 ∨ nI sg.2.2.1.length ≤ v) : vT l yX2_cost wsX2_cost ({ frames := 7, cells := 1, slots := 6, locals := 116 }) (zE [.ref (a 0), .int v] (fun H => XH D cs a u sg H) D cs S0 ea mi sa) eIO := by
  refine vx_ofW (cc := cX2_cost) (maxL := 2) (ret := (some .int)) (by decide) rfl ?_
  intro p e s m args below meth c s₁ B hml hout hv9
  obtain ⟨rfl, hPH, hK, hE⟩ := hv9
  have hx := B.exec
  have hb := B.bytes
  have hr := B.returns
  have hts := atoms_spec (ws := wsX2_cost) B.pre
  have hown : s.vm.findClass RX2 = some m.cls := findClass_of_methodNamed B.named
  have hlocks := B.notSynchronized
  have hPH : XH D cs a u sg s.heap := hPH
  obtain ⟨hx0, hbf, hbc, hls, hlm, hlh, hrw, hpt, hin, hhr, hok⟩ := hPH
  have hl := lv_entry ([.ref (a 0), .int v]) (n := 2) (Nat.le_of_ble_eq_true rfl)
  rw [lg_entry_eq]
  generalize (lg_sl ([.ref (a 0), .int v]) ++ List.replicate (2 - (lg_sl ([.ref (a 0), .int v])).length) Slot.unset).toArray = ls at hl ⊢
  have hl : lv_has ls 2 [(0, .ref (a 0)), (1, .int v)] := hl
  have hok4 := hok.2.1.1
  have hok5 := hok.2.2.1.1
  have hok6 := hok.2.2.2.2.1
  refine lv_aload_n hx hb dX2_cost_0 rfl (lv_at hl 0 rfl) ?_
  refine lv_iload_n hx hb dX2_cost_1 rfl (lv_at hl 1 rfl) ?_
  exact z_thr (vx_runV (As := [.int v]) (rest := []) ⟨hx, hb, hml, hown, hts⟩ (t_X2_patchOf l hl9 D cs S0 ea mi sa a u sg v hv) (cwV 1 hts gX2_cost_X2_patchOf rfl rfl rfl (by decide +kernel) ⟨Nat.le_of_ble_eq_true rfl, Nat.le_of_ble_eq_true rfl⟩) ⟨zE_blind, z_recv hK hx0 rfl, zE_pre ⟨hx0, hbf, hbc, hls, hlm, hlh, hrw, hpt, hin, hhr, hok⟩ hK hE va_S.rf⟩ rfl rfl hl.1 rfl (lv_room (Nat.le_of_ble_eq_true rfl)) dX2_cost_2 ⟨Nat.le_of_ble_eq_true rfl, Nat.le_of_ble_eq_true rfl⟩) hout hlocks (Nat.le_refl _) (Nat.le_refl _)

set_option maxHeartbeats 4000000 in
set_option maxRecDepth 100000 in
theorem t_X2_newness_a (l : Launch) (hl9 : l.stackTraces = false) (D : va_G) (cs : Nat → ClassId) (S0 ea mi : Nat) (sa : Nat → Nat) (a : Nat → Nat) (u : XU) (sg : St) (v : Int32) (hv : v < 0 ∨ nI sg.2.2.1.length ≤ v) : vT l yX2_newness wsX2_newness ({ frames := 7, cells := 1, slots := 6, locals := 116 }) (zE [.ref (a 0), .int v] (fun H => XH D cs a u sg H) D cs S0 ea mi sa) eIO := by
  refine vx_ofW (cc := cX2_newness) (maxL := 4) (ret := (some .double)) (by decide) rfl ?_
  intro p e s m args below meth c s₁ B hml hout hv9
  obtain ⟨rfl, hPH, hK, hE⟩ := hv9
  have hx := B.exec
  have hb := B.bytes
  have hr := B.returns
  have hts := atoms_spec (ws := wsX2_newness) B.pre
  have hown : s.vm.findClass RX2 = some m.cls := findClass_of_methodNamed B.named
  have hlocks := B.notSynchronized
  have hPH : XH D cs a u sg s.heap := hPH
  obtain ⟨hx0, hbf, hbc, hls, hlm, hlh, hrw, hpt, hin, hhr, hok⟩ := hPH
  have hl := lv_entry ([.ref (a 0), .int v]) (n := 4) (Nat.le_of_ble_eq_true rfl)
  rw [lg_entry_eq]
  generalize (lg_sl ([.ref (a 0), .int v]) ++ List.replicate (4 - (lg_sl ([.ref (a 0), .int v])).length) Slot.unset).toArray = ls at hl ⊢
  have hl : lv_has ls 4 [(0, .ref (a 0)), (1, .int v)] := hl
  have hok4 := hok.2.1.1
  have hok5 := hok.2.2.1.1
  have hok6 := hok.2.2.2.2.1
  refine lv_aload_n hx hb dX2_newness_0 rfl (lv_at hl 0 rfl) ?_
  refine lv_iload_n hx hb dX2_newness_1 rfl (lv_at hl 1 rfl) ?_
  exact z_thr (vx_runV (As := [.int v]) (rest := []) ⟨hx, hb, hml, hown, hts⟩ (t_X2_patchOf l hl9 D cs S0 ea mi sa a u sg v hv) (cwV 1 hts gX2_newness_X2_patchOf rfl rfl rfl (by decide +kernel) ⟨Nat.le_of_ble_eq_true rfl, Nat.le_of_ble_eq_true rfl⟩) ⟨zE_blind, z_recv hK hx0 rfl, zE_pre ⟨hx0, hbf, hbc, hls, hlm, hlh, hrw, hpt, hin, hhr, hok⟩ hK hE va_S.rf⟩ rfl rfl hl.1 rfl (lv_room (Nat.le_of_ble_eq_true rfl)) dX2_newness_2 ⟨Nat.le_of_ble_eq_true rfl, Nat.le_of_ble_eq_true rfl⟩) hout hlocks (Nat.le_refl _) (Nat.le_refl _)

set_option maxHeartbeats 4000000 in
set_option maxRecDepth 100000 in
theorem t_X2_compose_a (l : Launch) (hl9 : l.stackTraces = false) (D : va_G) (cs : Nat → ClassId) (S0 ea mi : Nat) (sa : Nat → Nat) (a : Nat → Nat) (u : XU) (sg : St) (v : Int32) (hv : v < 0 ∨ nI sg.2.2.1.length ≤ v) (w : Int32) : vT l yX2_compose wsX2_compose ({ frames := 7, cells := 1, slots := 6, locals := 116 }) (zE [.ref (a 0), .int v, .int w] (fun H => XH D cs a u sg H) D cs S0 ea mi sa) eIO := by
  refine vx_ofW (cc := cX2_compose) (maxL := 6) (ret := (some .int)) (by decide) rfl ?_
  intro p e s m args below meth c s₁ B hml hout hv9
  obtain ⟨rfl, hPH, hK, hE⟩ := hv9
  have hx := B.exec
  have hb := B.bytes
  have hr := B.returns
  have hts := atoms_spec (ws := wsX2_compose) B.pre
  have hown : s.vm.findClass RX2 = some m.cls := findClass_of_methodNamed B.named
  have hlocks := B.notSynchronized
  have hPH : XH D cs a u sg s.heap := hPH
  obtain ⟨hx0, hbf, hbc, hls, hlm, hlh, hrw, hpt, hin, hhr, hok⟩ := hPH
  have hl := lv_entry ([.ref (a 0), .int v, .int w]) (n := 6) (Nat.le_of_ble_eq_true rfl)
  rw [lg_entry_eq]
  generalize (lg_sl ([.ref (a 0), .int v, .int w]) ++ List.replicate (6 - (lg_sl ([.ref (a 0), .int v, .int w])).length) Slot.unset).toArray = ls at hl ⊢
  have hl : lv_has ls 6 [(0, .ref (a 0)), (1, .int v), (2, .int w)] := hl
  have hok4 := hok.2.1.1
  have hok5 := hok.2.2.1.1
  have hok6 := hok.2.2.2.2.1
  refine lv_aload_n hx hb dX2_compose_0 rfl (lv_at hl 0 rfl) ?_
  refine lv_iload_n hx hb dX2_compose_1 rfl (lv_at hl 1 rfl) ?_
  exact z_thr (vx_runV (As := [.int v]) (rest := []) ⟨hx, hb, hml, hown, hts⟩ (t_X2_patchOf l hl9 D cs S0 ea mi sa a u sg v hv) (cwV 1 hts gX2_compose_X2_patchOf rfl rfl rfl (by decide +kernel) ⟨Nat.le_of_ble_eq_true rfl, Nat.le_of_ble_eq_true rfl⟩) ⟨zE_blind, z_recv hK hx0 rfl, zE_pre ⟨hx0, hbf, hbc, hls, hlm, hlh, hrw, hpt, hin, hhr, hok⟩ hK hE va_S.rf⟩ rfl rfl hl.1 rfl (lv_room (Nat.le_of_ble_eq_true rfl)) dX2_compose_2 ⟨Nat.le_of_ble_eq_true rfl, Nat.le_of_ble_eq_true rfl⟩) hout hlocks (Nat.le_refl _) (Nat.le_refl _)

set_option maxHeartbeats 4000000 in
set_option maxRecDepth 100000 in
theorem t_X2_apply_a (l : Launch) (hl9 : l.stackTraces = false) (D : va_G) (cs : Nat → ClassId) (S0 ea mi : Nat) (sa : Nat → Nat) (a : Nat → Nat) (u : XU) (sg : St) (v : Int32) (hv : v < 0 ∨ nI sg.2.2.1.length ≤ v) (w : Int32) : vT l yX2_apply wsX2_apply ({ frames := 7, cells := 1, slots := 6, locals := 116 }) (zE [.ref (a 0), .int v, .int w] (fun H => XH D cs a u sg H) D cs S0 ea mi sa) eIO := by
  refine vx_ofW (cc := cX2_apply) (maxL := 5) (ret := (some .int)) (by decide) rfl ?_
  intro p e s m args below meth c s₁ B hml hout hv9
  obtain ⟨rfl, hPH, hK, hE⟩ := hv9
  have hx := B.exec
  have hb := B.bytes
  have hr := B.returns
  have hts := atoms_spec (ws := wsX2_apply) B.pre
  have hown : s.vm.findClass RX2 = some m.cls := findClass_of_methodNamed B.named
  have hlocks := B.notSynchronized
  have hPH : XH D cs a u sg s.heap := hPH
  obtain ⟨hx0, hbf, hbc, hls, hlm, hlh, hrw, hpt, hin, hhr, hok⟩ := hPH
  have hl := lv_entry ([.ref (a 0), .int v, .int w]) (n := 5) (Nat.le_of_ble_eq_true rfl)
  rw [lg_entry_eq]
  generalize (lg_sl ([.ref (a 0), .int v, .int w]) ++ List.replicate (5 - (lg_sl ([.ref (a 0), .int v, .int w])).length) Slot.unset).toArray = ls at hl ⊢
  have hl : lv_has ls 5 [(0, .ref (a 0)), (1, .int v), (2, .int w)] := hl
  have hok4 := hok.2.1.1
  have hok5 := hok.2.2.1.1
  have hok6 := hok.2.2.2.2.1
  refine lv_aload_n hx hb dX2_apply_0 rfl (lv_at hl 0 rfl) ?_
  refine lv_iload_n hx hb dX2_apply_1 rfl (lv_at hl 1 rfl) ?_
  exact z_thr (vx_runV (As := [.int v]) (rest := []) ⟨hx, hb, hml, hown, hts⟩ (t_X2_patchOf l hl9 D cs S0 ea mi sa a u sg v hv) (cwV 1 hts gX2_apply_X2_patchOf rfl rfl rfl (by decide +kernel) ⟨Nat.le_of_ble_eq_true rfl, Nat.le_of_ble_eq_true rfl⟩) ⟨zE_blind, z_recv hK hx0 rfl, zE_pre ⟨hx0, hbf, hbc, hls, hlm, hlh, hrw, hpt, hin, hhr, hok⟩ hK hE va_S.rf⟩ rfl rfl hl.1 rfl (lv_room (Nat.le_of_ble_eq_true rfl)) dX2_apply_2 ⟨Nat.le_of_ble_eq_true rfl, Nat.le_of_ble_eq_true rfl⟩) hout hlocks (Nat.le_refl _) (Nat.le_refl _)

set_option maxHeartbeats 4000000 in
set_option maxRecDepth 100000 in
theorem t_X2_installPatch_a (l : Launch) (hl9 : l.stackTraces = false) (D : va_G) (cs : Nat → ClassId) (S0 ea mi : Nat) (sa : Nat → Nat) (a : Nat → Nat) (u : XU) (sg : St) (v : Int32) (hv : v < 0 ∨ nI sg.2.2.1.length ≤ v) : vT l yX2_installPatch wsX2_installPatch ({ frames := 7, cells := 1, slots := 6, locals := 116 }) (zE [.ref (a 0), .int v] (fun H => XH D cs a u sg H) D cs S0 ea mi sa) eIO := by
  refine vx_ofW (cc := cX2_installPatch) (maxL := 3) (ret := (some .int)) (by decide) rfl ?_
  intro p e s m args below meth c s₁ B hml hout hv9
  obtain ⟨rfl, hPH, hK, hE⟩ := hv9
  have hx := B.exec
  have hb := B.bytes
  have hr := B.returns
  have hts := atoms_spec (ws := wsX2_installPatch) B.pre
  have hown : s.vm.findClass RX2 = some m.cls := findClass_of_methodNamed B.named
  have hlocks := B.notSynchronized
  have hPH : XH D cs a u sg s.heap := hPH
  obtain ⟨hx0, hbf, hbc, hls, hlm, hlh, hrw, hpt, hin, hhr, hok⟩ := hPH
  have hl := lv_entry ([.ref (a 0), .int v]) (n := 3) (Nat.le_of_ble_eq_true rfl)
  rw [lg_entry_eq]
  generalize (lg_sl ([.ref (a 0), .int v]) ++ List.replicate (3 - (lg_sl ([.ref (a 0), .int v])).length) Slot.unset).toArray = ls at hl ⊢
  have hl : lv_has ls 3 [(0, .ref (a 0)), (1, .int v)] := hl
  have hok4 := hok.2.1.1
  have hok5 := hok.2.2.1.1
  have hok6 := hok.2.2.2.2.1
  refine lv_aload_n hx hb dX2_installPatch_0 rfl (lv_at hl 0 rfl) ?_
  refine lv_iload_n hx hb dX2_installPatch_1 rfl (lv_at hl 1 rfl) ?_
  exact z_thr (vx_runV (As := [.int v]) (rest := []) ⟨hx, hb, hml, hown, hts⟩ (t_X2_patchOf l hl9 D cs S0 ea mi sa a u sg v hv) (cwV 1 hts gX2_installPatch_X2_patchOf rfl rfl rfl (by decide +kernel) ⟨Nat.le_of_ble_eq_true rfl, Nat.le_of_ble_eq_true rfl⟩) ⟨zE_blind, z_recv hK hx0 rfl, zE_pre ⟨hx0, hbf, hbc, hls, hlm, hlh, hrw, hpt, hin, hhr, hok⟩ hK hE va_S.rf⟩ rfl rfl hl.1 rfl (lv_room (Nat.le_of_ble_eq_true rfl)) dX2_installPatch_2 ⟨Nat.le_of_ble_eq_true rfl, Nat.le_of_ble_eq_true rfl⟩) hout hlocks (Nat.le_refl _) (Nat.le_refl _)

set_option maxHeartbeats 4000000 in
set_option maxRecDepth 100000 in
theorem t_X2_installVersion_a (l : Launch) (hl9 : l.stackTraces = false) (D : va_G) (cs : Nat → ClassId) (S0 ea mi : Nat) (sa : Nat → Nat) (a : Nat → Nat) (u : XU) (sg : St) (v : Int32) (hv : v < 0 ∨ nI sg.2.1.length ≤ v) : vT l yX2_installVersion wsX2_installVersion ({ frames := 7, cells := 1, slots := 6, locals := 116 }) (zE [.ref (a 0), .int v] (fun H => XH D cs a u sg H) D cs S0 ea mi sa) eIO := by
  refine vx_ofW (cc := cX2_installVersion) (maxL := 2) (ret := (some .int)) (by decide) rfl ?_
  intro p e s m args below meth c s₁ B hml hout hv9
  obtain ⟨rfl, hPH, hK, hE⟩ := hv9
  have hx := B.exec
  have hb := B.bytes
  have hr := B.returns
  have hts := atoms_spec (ws := wsX2_installVersion) B.pre
  have hown : s.vm.findClass RX2 = some m.cls := findClass_of_methodNamed B.named
  have hlocks := B.notSynchronized
  have hPH : XH D cs a u sg s.heap := hPH
  obtain ⟨hx0, hbf, hbc, hls, hlm, hlh, hrw, hpt, hin, hhr, hok⟩ := hPH
  have hl := lv_entry ([.ref (a 0), .int v]) (n := 2) (Nat.le_of_ble_eq_true rfl)
  rw [lg_entry_eq]
  generalize (lg_sl ([.ref (a 0), .int v]) ++ List.replicate (2 - (lg_sl ([.ref (a 0), .int v])).length) Slot.unset).toArray = ls at hl ⊢
  have hl : lv_has ls 2 [(0, .ref (a 0)), (1, .int v)] := hl
  have hok4 := hok.2.1.1
  have hok5 := hok.2.2.1.1
  have hok6 := hok.2.2.2.2.1
  refine lv_aload_n hx hb dX2_installVersion_0 rfl (lv_at hl 0 rfl) ?_
  refine lv_aload_n hx hb dX2_installVersion_1 rfl (lv_at hl 0 rfl) ?_
  refine lv_iload_n hx hb dX2_installVersion_2 rfl (lv_at hl 1 rfl) ?_
  exact z_thr (vx_runV (As := [.int v]) (rest := [.ref (a 0)]) ⟨hx, hb, hml, hown, hts⟩ (t_X2_rowOf l hl9 D cs S0 ea mi sa a u sg v hv) (cwV 1 hts gX2_installVersion_X2_rowOf rfl rfl rfl (by decide +kernel) ⟨Nat.le_of_ble_eq_true rfl, Nat.le_of_ble_eq_true rfl⟩) ⟨zE_blind, z_recv hK hx0 rfl, zE_pre ⟨hx0, hbf, hbc, hls, hlm, hlh, hrw, hpt, hin, hhr, hok⟩ hK hE va_S.rf⟩ rfl rfl hl.1 rfl (lv_room (Nat.le_of_ble_eq_true rfl)) dX2_installVersion_3 ⟨Nat.le_of_ble_eq_true rfl, Nat.le_of_ble_eq_true rfl⟩) hout hlocks (Nat.le_refl _) (Nat.le_refl _)

set_option maxHeartbeats 4000000 in
set_option maxRecDepth 100000 in
theorem t_X2_byteAt_b (l : Launch) (hl9 : l.stackTraces = false) (D : va_G) (cs : Nat → ClassId) (S0 ea mi : Nat) (sa : Nat → Nat) (a : Nat → Nat) (u : XU) (sg : St) (v9 : Nat) (hv9 : v9 < sg.2.1.length) (w : Int32) (hw : w < 0 ∨ nI (vsN sg.2.1 v9).length ≤ w) : vT l yX2_byteAt wsX2_byteAt ({ frames := 6, cells := 1, slots := 6, locals := 95 }) (zE [.ref (a 0), .int (nI v9), .int w] (fun H => XH D cs a u sg H) D cs S0 ea mi sa) eIO := by
  refine vx_ofW (cc := cX2_byteAt) (maxL := 4) (ret := (some .int)) (by decide) rfl ?_
  intro p e s m args below meth c s₁ B hml hout hv9
  obtain ⟨rfl, hPH, hK, hE⟩ := hv9
  have hx := B.exec
  have hb := B.bytes
  have hr := B.returns
  have hts := atoms_spec (ws := wsX2_byteAt) B.pre
  have hown : s.vm.findClass RX2 = some m.cls := findClass_of_methodNamed B.named
  have hlocks := B.notSynchronized
  have at_IO : ∀ w ∈ (vx_atS RX2 79 eIO eNm).filter goodWord, w.before _ s = true := fun w hw => hts w ((show ∀ w ∈ (vx_atS RX2 79 eIO eNm).filter goodWord, w ∈ wsX2_byteAt by decide +kernel) w hw)
  have fl72 := hts (.fieldLink RX2 72 "DeltaUpdater$Row" "bytes" "[I") (by decide +kernel)
  have in2 : ∀ w ∈ u_ws RX1 TX1 1, w ∈ wsX2_byteAt := by decide +kernel
  have hPH : XH D cs a u sg s.heap := hPH
  obtain ⟨hx0, hbf, hbc, hls, hlm, hlh, hrw, hpt, hin, hhr, hok⟩ := hPH
  have hl := lv_entry ([.ref (a 0), .int (nI v9), .int w]) (n := 4) (Nat.le_of_ble_eq_true rfl)
  rw [lg_entry_eq]
  generalize (lg_sl ([.ref (a 0), .int (nI v9), .int w]) ++ List.replicate (4 - (lg_sl ([.ref (a 0), .int (nI v9), .int w])).length) Slot.unset).toArray = ls at hl ⊢
  have hl : lv_has ls 4 [(0, .ref (a 0)), (1, .int (nI v9)), (2, .int w)] := hl
  have hok4 := hok.2.1.1
  have hok5 := hok.2.2.1.1
  have hok6 := hok.2.2.2.2.1
  have hlen := (hok.2.1.2 v9 hv9).1
  refine lv_aload_n hx hb dX2_byteAt_0 rfl (lv_at hl 0 rfl) ?_
  refine lv_iload_n hx hb dX2_byteAt_1 rfl (lv_at hl 1 rfl) ?_
  refine z_ceRV (As := [.int (nI v9)]) (rest := []) ⟨hx, hb, hml, hown, hts⟩ (c_X2_rowOf l D cs S0 ea mi sa a u sg v9 hv9) (cwV 1 hts gX2_byteAt_X2_rowOf rfl rfl rfl (by decide +kernel) ⟨Nat.le_of_ble_eq_true rfl, Nat.le_of_ble_eq_true rfl⟩) hx0 rfl ⟨hx0, hbf, hbc, hls, hlm, hlh, hrw, hpt, hin, hhr, hok⟩ hK hE va_S.rf rfl hl.1 rfl (Nat.le_of_ble_eq_true rfl) dX2_byteAt_2 ⟨Nat.zero_le _, Nat.zero_le _⟩ (fun r hq9 => ?_)
  have hq9 : r = (xR u 0 v9) := hq9
  subst hq9
  refine lv_astore_n (lv' := [(3, .ref (xR u 0 v9)), (0, .ref (a 0)), (1, .int (nI v9)), (2, .int w)]) hx hb dX2_byteAt_5 rfl hl (by decide) rfl (fun ls hl => ?_)
  refine lv_iload_n hx hb dX2_byteAt_6 rfl (lv_at hl 3 rfl) ?_
  refine lv_if_lt (tgt := 19) hx hb dX2_byteAt_7 (by decide) (fun hc7 => ?_) (fun hc7 => ?_)
  · skip
    have hc7 : w < 0 := hc7
    exact z_throw (cls := eIO) (text := "no such place") hx hb hl9 hown (by decide +kernel) (hts (.classLink RX2 75 eIO) (by decide +kernel)) (hts (.initialized eIO) (by decide +kernel)) at_IO ng_IO ot_IO (by decide) (by decide) hE (hl.1.trans hml.symm) dX2_byteAt_19 dX2_byteAt_22 dX2_byteAt_23 dX2_byteAt_25 dX2_byteAt_28 hout (Nat.le_of_ble_eq_true rfl) (Nat.le_of_ble_eq_true rfl) (Nat.le_of_ble_eq_true rfl) (Nat.le_of_ble_eq_true rfl) hlocks (Nat.le_refl _) (Nat.le_refl _)
  · skip
    have hc7 : ¬ w < 0 := hc7
    refine lv_iload_n hx hb dX2_byteAt_10 rfl (lv_at hl 3 rfl) ?_
    refine lv_aload_n hx hb dX2_byteAt_11 rfl (lv_at hl 0 rfl) ?_
    refine z_get (ci := 2) (v := .ref (xR u 1 v9)) (C := RX1) (T := TX1) (N := 1) hx hb hts in2 hown hK (hrw v9 (by omega)).1 rfl 0 (by decide) fl72 (fun _ h9 => h9) rfl dX2_byteAt_12 ?_
    refine z_alen (n := ((vsN sg.2.1 v9).length)) hx hb hK (hrw v9 (by omega)).2 dX2_byteAt_15 ?_
    refine lv_icmp_lt (tgt := 29) hx hb dX2_byteAt_16 (by decide) (fun hc16 => ?_) (fun hc16 => ?_)
    · skip
      have hc16 : w < (nI ((vsN sg.2.1 v9).length)) := hc16
      exact absurd (hw.resolve_left hc7) (Int32.not_le.mpr hc16)
    · skip
      have hc16 : ¬ w < (nI ((vsN sg.2.1 v9).length)) := hc16
      exact z_throw (cls := eIO) (text := "no such place") hx hb hl9 hown (by decide +kernel) (hts (.classLink RX2 75 eIO) (by decide +kernel)) (hts (.initialized eIO) (by decide +kernel)) at_IO ng_IO ot_IO (by decide) (by decide) hE (hl.1.trans hml.symm) dX2_byteAt_19 dX2_byteAt_22 dX2_byteAt_23 dX2_byteAt_25 dX2_byteAt_28 hout (Nat.le_of_ble_eq_true rfl) (Nat.le_of_ble_eq_true rfl) (Nat.le_of_ble_eq_true rfl) (Nat.le_of_ble_eq_true rfl) hlocks (Nat.le_refl _) (Nat.le_refl _)

set_option maxHeartbeats 4000000 in
set_option maxRecDepth 100000 in
theorem t_X2_areSame_b (l : Launch) (hl9 : l.stackTraces = false) (D : va_G) (cs : Nat → ClassId) (S0 ea mi : Nat) (sa : Nat → Nat) (a : Nat → Nat) (u : XU) (sg : St) (v9 : Nat) (hv9 : v9 < sg.2.1.length) (v : Int32) (hv : v < 0 ∨ nI sg.2.1.length ≤ v) : vT l yX2_areSame wsX2_areSame ({ frames := 7, cells := 1, slots := 6, locals := 116 }) (zE [.ref (a 0), .int (nI v9), .int v] (fun H => XH D cs a u sg H) D cs S0 ea mi sa) eIO := by
  refine vx_ofW (cc := cX2_areSame) (maxL := 3) (ret := (some .boolean)) (by decide) rfl ?_
  intro p e s m args below meth c s₁ B hml hout hv9
  obtain ⟨rfl, hPH, hK, hE⟩ := hv9
  have hx := B.exec
  have hb := B.bytes
  have hr := B.returns
  have hts := atoms_spec (ws := wsX2_areSame) B.pre
  have hown : s.vm.findClass RX2 = some m.cls := findClass_of_methodNamed B.named
  have hlocks := B.notSynchronized
  have hPH : XH D cs a u sg s.heap := hPH
  obtain ⟨hx0, hbf, hbc, hls, hlm, hlh, hrw, hpt, hin, hhr, hok⟩ := hPH
  have hl := lv_entry ([.ref (a 0), .int (nI v9), .int v]) (n := 3) (Nat.le_of_ble_eq_true rfl)
  rw [lg_entry_eq]
  generalize (lg_sl ([.ref (a 0), .int (nI v9), .int v]) ++ List.replicate (3 - (lg_sl ([.ref (a 0), .int (nI v9), .int v])).length) Slot.unset).toArray = ls at hl ⊢
  have hl : lv_has ls 3 [(0, .ref (a 0)), (1, .int (nI v9)), (2, .int v)] := hl
  have hok4 := hok.2.1.1
  have hok5 := hok.2.2.1.1
  have hok6 := hok.2.2.2.2.1
  refine lv_aload_n hx hb dX2_areSame_0 rfl (lv_at hl 0 rfl) ?_
  refine lv_iload_n hx hb dX2_areSame_1 rfl (lv_at hl 1 rfl) ?_
  refine z_ceRV (As := [.int (nI v9)]) (rest := []) ⟨hx, hb, hml, hown, hts⟩ (c_X2_rowOf l D cs S0 ea mi sa a u sg v9 hv9) (cwV 1 hts gX2_areSame_X2_rowOf rfl rfl rfl (by decide +kernel) ⟨Nat.le_of_ble_eq_true rfl, Nat.le_of_ble_eq_true rfl⟩) hx0 rfl ⟨hx0, hbf, hbc, hls, hlm, hlh, hrw, hpt, hin, hhr, hok⟩ hK hE va_S.rf rfl hl.1 rfl (Nat.le_of_ble_eq_true rfl) dX2_areSame_2 ⟨Nat.zero_le _, Nat.zero_le _⟩ (fun r hq9 => ?_)
  have hq9 : r = (xR u 0 v9) := hq9
  subst hq9
  refine lv_aload_n hx hb dX2_areSame_5 rfl (lv_at hl 0 rfl) ?_
  refine lv_iload_n hx hb dX2_areSame_6 rfl (lv_at hl 2 rfl) ?_
  exact z_thr (vx_runV (As := [.int v]) (rest := [.ref (xR u 0 v9)]) ⟨hx, hb, hml, hown, hts⟩ (t_X2_rowOf l hl9 D cs S0 ea mi sa a u sg v hv) (cwV 1 hts gX2_areSame_X2_rowOf rfl rfl rfl (by decide +kernel) ⟨Nat.le_of_ble_eq_true rfl, Nat.le_of_ble_eq_true rfl⟩) ⟨zE_blind, z_recv hK hx0 rfl, zE_pre ⟨hx0, hbf, hbc, hls, hlm, hlh, hrw, hpt, hin, hhr, hok⟩ hK hE va_S.rf⟩ rfl rfl hl.1 rfl (lv_room (Nat.le_of_ble_eq_true rfl)) dX2_areSame_7 ⟨Nat.le_of_ble_eq_true rfl, Nat.le_of_ble_eq_true rfl⟩) hout hlocks (Nat.le_refl _) (Nat.le_refl _)

set_option maxHeartbeats 4000000 in
set_option maxRecDepth 100000 in
theorem t_X2_weakSum_b (l : Launch) (hl9 : l.stackTraces = false) (D : va_G) (cs : Nat → ClassId) (S0 ea mi : Nat) (sa : Nat → Nat) (a : Nat → Nat) (u : XU) (sg : St) (v9 : Nat) (hv9 : v9 < sg.2.1.length) (w z : Int32) (hz : z < nI 1 ∨ nI 32 < z) : vT l yX2_weakSum wsX2_weakSum ({ frames := 6, cells := 1, slots := 6, locals := 95 }) (zE [.ref (a 0), .int (nI v9), .int w, .int z] (fun H => XH D cs a u sg H) D cs S0 ea mi sa) eIA := by
  refine vx_ofW (cc := cX2_weakSum) (maxL := 5) (ret := (some .int)) (by decide) rfl ?_
  intro p e s m args below meth c s₁ B hml hout hv9
  obtain ⟨rfl, hPH, hK, hE⟩ := hv9
  have hx := B.exec
  have hb := B.bytes
  have hr := B.returns
  have hts := atoms_spec (ws := wsX2_weakSum) B.pre
  have hown : s.vm.findClass RX2 = some m.cls := findClass_of_methodNamed B.named
  have hlocks := B.notSynchronized
  have at_IA : ∀ w ∈ (vx_atS RX2 49 eIA eNm).filter goodWord, w.before _ s = true := fun w hw => hts w ((show ∀ w ∈ (vx_atS RX2 49 eIA eNm).filter goodWord, w ∈ wsX2_weakSum by decide +kernel) w hw)
  have hPH : XH D cs a u sg s.heap := hPH
  obtain ⟨hx0, hbf, hbc, hls, hlm, hlh, hrw, hpt, hin, hhr, hok⟩ := hPH
  have hl := lv_entry ([.ref (a 0), .int (nI v9), .int w, .int z]) (n := 5) (Nat.le_of_ble_eq_true rfl)
  rw [lg_entry_eq]
  generalize (lg_sl ([.ref (a 0), .int (nI v9), .int w, .int z]) ++ List.replicate (5 - (lg_sl ([.ref (a 0), .int (nI v9), .int w, .int z])).length) Slot.unset).toArray = ls at hl ⊢
  have hl : lv_has ls 5 [(0, .ref (a 0)), (1, .int (nI v9)), (2, .int w), (3, .int z)] := hl
  have hok4 := hok.2.1.1
  have hok5 := hok.2.2.1.1
  have hok6 := hok.2.2.2.2.1
  refine lv_aload_n hx hb dX2_weakSum_0 rfl (lv_at hl 0 rfl) ?_
  refine lv_iload_n hx hb dX2_weakSum_1 rfl (lv_at hl 1 rfl) ?_
  refine z_ceRV (As := [.int (nI v9)]) (rest := []) ⟨hx, hb, hml, hown, hts⟩ (c_X2_rowOf l D cs S0 ea mi sa a u sg v9 hv9) (cwV 1 hts gX2_weakSum_X2_rowOf rfl rfl rfl (by decide +kernel) ⟨Nat.le_of_ble_eq_true rfl, Nat.le_of_ble_eq_true rfl⟩) hx0 rfl ⟨hx0, hbf, hbc, hls, hlm, hlh, hrw, hpt, hin, hhr, hok⟩ hK hE va_S.rf rfl hl.1 rfl (Nat.le_of_ble_eq_true rfl) dX2_weakSum_2 ⟨Nat.zero_le _, Nat.zero_le _⟩ (fun r hq9 => ?_)
  have hq9 : r = (xR u 0 v9) := hq9
  subst hq9
  refine lv_astore (lv' := [(4, .ref (xR u 0 v9)), (0, .ref (a 0)), (1, .int (nI v9)), (2, .int w), (3, .int z)]) hx hb dX2_weakSum_5 hl (by decide) rfl (fun ls hl => ?_)
  refine lv_iload_n hx hb dX2_weakSum_7 rfl (lv_at hl 4 rfl) ?_
  refine lv_iconst (v := nI 1) hx hb dX2_weakSum_8 (by decide) ?_
  refine lv_icmp_lt (tgt := 18) hx hb dX2_weakSum_9 (by decide) (fun hc9 => ?_) (fun hc9 => ?_)
  · skip
    have hc9 : z < (nI 1) := hc9
    exact z_throw (cls := eIA) (text := "n is not 1 to 32") hx hb hl9 hown (by decide +kernel) (hts (.classLink RX2 45 eIA) (by decide +kernel)) (hts (.initialized eIA) (by decide +kernel)) at_IA ng_IA ot_IA (by decide) (by decide) hE (hl.1.trans hml.symm) dX2_weakSum_18 dX2_weakSum_21 dX2_weakSum_22 dX2_weakSum_24 dX2_weakSum_27 hout (Nat.le_of_ble_eq_true rfl) (Nat.le_of_ble_eq_true rfl) (Nat.le_of_ble_eq_true rfl) (Nat.le_of_ble_eq_true rfl) hlocks (Nat.le_refl _) (Nat.le_refl _)
  · skip
    have hc9 : ¬ z < (nI 1) := hc9
    refine lv_iload_n hx hb dX2_weakSum_12 rfl (lv_at hl 4 rfl) ?_
    refine lv_bipush (v := nI 32) hx hb dX2_weakSum_13 (by decide) ?_
    refine lv_icmp_le (tgt := 28) hx hb dX2_weakSum_15 (by decide) (fun hc15 => ?_) (fun hc15 => ?_)
    · skip
      have hc15 : z ≤ (nI 32) := hc15
      exact absurd (hz.resolve_left hc9) (Int32.not_lt.mpr hc15)
    · skip
      have hc15 : ¬ z ≤ (nI 32) := hc15
      exact z_throw (cls := eIA) (text := "n is not 1 to 32") hx hb hl9 hown (by decide +kernel) (hts (.classLink RX2 45 eIA) (by decide +kernel)) (hts (.initialized eIA) (by decide +kernel)) at_IA ng_IA ot_IA (by decide) (by decide) hE (hl.1.trans hml.symm) dX2_weakSum_18 dX2_weakSum_21 dX2_weakSum_22 dX2_weakSum_24 dX2_weakSum_27 hout (Nat.le_of_ble_eq_true rfl) (Nat.le_of_ble_eq_true rfl) (Nat.le_of_ble_eq_true rfl) (Nat.le_of_ble_eq_true rfl) hlocks (Nat.le_refl _) (Nat.le_refl _)

set_option maxHeartbeats 4000000 in
set_option maxRecDepth 100000 in
theorem t_X2_weakSum_c (l : Launch) (hl9 : l.stackTraces = false) (D : va_G) (cs : Nat → ClassId) (S0 ea mi : Nat) (sa : Nat → Nat) (a : Nat → Nat) (u : XU) (sg : St) (v9 : Nat) (hv9 : v9 < sg.2.1.length) (n9 : Nat) (hn1 : 1 ≤ n9) (hn2 : n9 ≤ 32) (w : Int32) (hw : w < 0 ∨ nI (vsN sg.2.1 v9).length - nI n9 < w) : vT l yX2_weakSum wsX2_weakSum ({ frames := 6, cells := 1, slots := 6, locals := 95 }) (zE [.ref (a 0), .int (nI v9), .int w, .int (nI n9)] (fun H => XH D cs a u sg H) D cs S0 ea mi sa) eIA := by
  refine vx_ofW (cc := cX2_weakSum) (maxL := 5) (ret := (some .int)) (by decide) rfl ?_
  intro p e s m args below meth c s₁ B hml hout hv9
  obtain ⟨rfl, hPH, hK, hE⟩ := hv9
  have hx := B.exec
  have hb := B.bytes
  have hr := B.returns
  have hts := atoms_spec (ws := wsX2_weakSum) B.pre
  have hown : s.vm.findClass RX2 = some m.cls := findClass_of_methodNamed B.named
  have hlocks := B.notSynchronized
  have at_IA : ∀ w ∈ (vx_atS RX2 49 eIA eNm).filter goodWord, w.before _ s = true := fun w hw => hts w ((show ∀ w ∈ (vx_atS RX2 49 eIA eNm).filter goodWord, w ∈ wsX2_weakSum by decide +kernel) w hw)
  have fl72 := hts (.fieldLink RX2 72 "DeltaUpdater$Row" "bytes" "[I") (by decide +kernel)
  have in2 : ∀ w ∈ u_ws RX1 TX1 1, w ∈ wsX2_weakSum := by decide +kernel
  have hPH : XH D cs a u sg s.heap := hPH
  obtain ⟨hx0, hbf, hbc, hls, hlm, hlh, hrw, hpt, hin, hhr, hok⟩ := hPH
  have hl := lv_entry ([.ref (a 0), .int (nI v9), .int w, .int (nI n9)]) (n := 5) (Nat.le_of_ble_eq_true rfl)
  rw [lg_entry_eq]
  generalize (lg_sl ([.ref (a 0), .int (nI v9), .int w, .int (nI n9)]) ++ List.replicate (5 - (lg_sl ([.ref (a 0), .int (nI v9), .int w, .int (nI n9)])).length) Slot.unset).toArray = ls at hl ⊢
  have hl : lv_has ls 5 [(0, .ref (a 0)), (1, .int (nI v9)), (2, .int w), (3, .int (nI n9))] := hl
  have hok4 := hok.2.1.1
  have hok5 := hok.2.2.1.1
  have hok6 := hok.2.2.2.2.1
  have hlen := (hok.2.1.2 v9 hv9).1
  refine lv_aload_n hx hb dX2_weakSum_0 rfl (lv_at hl 0 rfl) ?_
  refine lv_iload_n hx hb dX2_weakSum_1 rfl (lv_at hl 1 rfl) ?_
  refine z_ceRV (As := [.int (nI v9)]) (rest := []) ⟨hx, hb, hml, hown, hts⟩ (c_X2_rowOf l D cs S0 ea mi sa a u sg v9 hv9) (cwV 1 hts gX2_weakSum_X2_rowOf rfl rfl rfl (by decide +kernel) ⟨Nat.le_of_ble_eq_true rfl, Nat.le_of_ble_eq_true rfl⟩) hx0 rfl ⟨hx0, hbf, hbc, hls, hlm, hlh, hrw, hpt, hin, hhr, hok⟩ hK hE va_S.rf rfl hl.1 rfl (Nat.le_of_ble_eq_true rfl) dX2_weakSum_2 ⟨Nat.zero_le _, Nat.zero_le _⟩ (fun r hq9 => ?_)
  have hq9 : r = (xR u 0 v9) := hq9
  subst hq9
  refine lv_astore (lv' := [(4, .ref (xR u 0 v9)), (0, .ref (a 0)), (1, .int (nI v9)), (2, .int w), (3, .int (nI n9))]) hx hb dX2_weakSum_5 hl (by decide) rfl (fun ls hl => ?_)
  refine lv_iload_n hx hb dX2_weakSum_7 rfl (lv_at hl 4 rfl) ?_
  refine lv_iconst (v := nI 1) hx hb dX2_weakSum_8 (by decide) ?_
  refine z_icmp_lt (tgt := 18) hx hb (by omega) (by omega) dX2_weakSum_9 (by decide) (fun hc9 => ?_) (fun hc9 => ?_)
  · skip
    have hc9 : n9 < 1 := hc9
    omega
  · skip
    have hc9 : 1 ≤ n9 := hc9
    refine lv_iload_n hx hb dX2_weakSum_12 rfl (lv_at hl 4 rfl) ?_
    refine lv_bipush (v := nI 32) hx hb dX2_weakSum_13 (by decide) ?_
    refine z_icmp_le (tgt := 28) hx hb (by omega) (by omega) dX2_weakSum_15 (by decide) (fun hc15 => ?_) (fun hc15 => ?_)
    · skip
      have hc15 : n9 ≤ 32 := hc15
      refine lv_iload_n hx hb dX2_weakSum_28 rfl (lv_at hl 3 rfl) ?_
      refine lv_if_lt (tgt := 44) hx hb dX2_weakSum_29 (by decide) (fun hc29 => ?_) (fun hc29 => ?_)
      · skip
        have hc29 : w < 0 := hc29
        exact z_throw (cls := eIA) (text := "there are no n bytes from the place on") hx hb hl9 hown (by decide +kernel) (hts (.classLink RX2 45 eIA) (by decide +kernel)) (hts (.initialized eIA) (by decide +kernel)) at_IA ng_IA ot_IA (by decide) (by decide) hE (hl.1.trans hml.symm) dX2_weakSum_44 dX2_weakSum_47 dX2_weakSum_48 dX2_weakSum_50 dX2_weakSum_53 hout (Nat.le_of_ble_eq_true rfl) (Nat.le_of_ble_eq_true rfl) (Nat.le_of_ble_eq_true rfl) (Nat.le_of_ble_eq_true rfl) hlocks (Nat.le_refl _) (Nat.le_refl _)
      · skip
        have hc29 : ¬ w < 0 := hc29
        refine lv_iload_n hx hb dX2_weakSum_32 rfl (lv_at hl 3 rfl) ?_
        refine lv_aload hx hb dX2_weakSum_33 (lv_at hl 0 rfl) ?_
        refine z_get (ci := 2) (v := .ref (xR u 1 v9)) (C := RX1) (T := TX1) (N := 1) hx hb hts in2 hown hK (hrw v9 (by omega)).1 rfl 0 (by decide) fl72 (fun _ h9 => h9) rfl dX2_weakSum_35 ?_
        refine z_alen (n := ((vsN sg.2.1 v9).length)) hx hb hK (hrw v9 (by omega)).2 dX2_weakSum_38 ?_
        refine lv_iload_n hx hb dX2_weakSum_39 rfl (lv_at hl 4 rfl) ?_
        refine lv_isub hx hb dX2_weakSum_40 ?_
        refine lv_icmp_le (tgt := 54) hx hb dX2_weakSum_41 (by decide) (fun hc41 => ?_) (fun hc41 => ?_)
        · skip
          have hc41 : w ≤ ((nI ((vsN sg.2.1 v9).length)) - (nI n9)) := hc41
          exact absurd (hw.resolve_left hc29) (Int32.not_lt.mpr hc41)
        · skip
          have hc41 : ¬ w ≤ ((nI ((vsN sg.2.1 v9).length)) - (nI n9)) := hc41
          exact z_throw (cls := eIA) (text := "there are no n bytes from the place on") hx hb hl9 hown (by decide +kernel) (hts (.classLink RX2 45 eIA) (by decide +kernel)) (hts (.initialized eIA) (by decide +kernel)) at_IA ng_IA ot_IA (by decide) (by decide) hE (hl.1.trans hml.symm) dX2_weakSum_44 dX2_weakSum_47 dX2_weakSum_48 dX2_weakSum_50 dX2_weakSum_53 hout (Nat.le_of_ble_eq_true rfl) (Nat.le_of_ble_eq_true rfl) (Nat.le_of_ble_eq_true rfl) (Nat.le_of_ble_eq_true rfl) hlocks (Nat.le_refl _) (Nat.le_refl _)
    · skip
      have hc15 : 32 < n9 := hc15
      omega

set_option maxHeartbeats 4000000 in
set_option maxRecDepth 100000 in
theorem t_X2_collisions_b (l : Launch) (hl9 : l.stackTraces = false) (D : va_G) (cs : Nat → ClassId) (S0 ea mi : Nat) (sa : Nat → Nat) (a : Nat → Nat) (u : XU) (sg : St) (v9 : Nat) (hv9 : v9 < sg.2.1.length) (z : Int32) (hz : z < nI 2 ∨ nI 32 < z) : vT l yX2_collisions wsX2_collisions ({ frames := 7, cells := 1, slots := 6, locals := 115 }) (zE [.ref (a 0), .int (nI v9), .int z] (fun H => XH D cs a u sg H) D cs S0 ea mi sa) eIA := by
  refine vx_ofW (cc := cX2_collisions) (maxL := 8) (ret := (some .int)) (by decide) rfl ?_
  intro p e s m args below meth c s₁ B hml hout hv9
  obtain ⟨rfl, hPH, hK, hE⟩ := hv9
  have hx := B.exec
  have hb := B.bytes
  have hr := B.returns
  have hts := atoms_spec (ws := wsX2_collisions) B.pre
  have hown : s.vm.findClass RX2 = some m.cls := findClass_of_methodNamed B.named
  have hlocks := B.notSynchronized
  have hPH : XH D cs a u sg s.heap := hPH
  obtain ⟨hx0, hbf, hbc, hls, hlm, hlh, hrw, hpt, hin, hhr, hok⟩ := hPH
  have hl := lv_entry ([.ref (a 0), .int (nI v9), .int z]) (n := 8) (Nat.le_of_ble_eq_true rfl)
  rw [lg_entry_eq]
  generalize (lg_sl ([.ref (a 0), .int (nI v9), .int z]) ++ List.replicate (8 - (lg_sl ([.ref (a 0), .int (nI v9), .int z])).length) Slot.unset).toArray = ls at hl ⊢
  have hl : lv_has ls 8 [(0, .ref (a 0)), (1, .int (nI v9)), (2, .int z)] := hl
  have hok4 := hok.2.1.1
  have hok5 := hok.2.2.1.1
  have hok6 := hok.2.2.2.2.1
  refine lv_aload_n hx hb dX2_collisions_0 rfl (lv_at hl 0 rfl) ?_
  refine lv_iload_n hx hb dX2_collisions_1 rfl (lv_at hl 1 rfl) ?_
  refine z_ceRV (As := [.int (nI v9)]) (rest := []) ⟨hx, hb, hml, hown, hts⟩ (c_X2_rowOf l D cs S0 ea mi sa a u sg v9 hv9) (cwV 1 hts gX2_collisions_X2_rowOf rfl rfl rfl (by decide +kernel) ⟨Nat.le_of_ble_eq_true rfl, Nat.le_of_ble_eq_true rfl⟩) hx0 rfl ⟨hx0, hbf, hbc, hls, hlm, hlh, hrw, hpt, hin, hhr, hok⟩ hK hE va_S.rf rfl hl.1 rfl (Nat.le_of_ble_eq_true rfl) dX2_collisions_2 ⟨Nat.zero_le _, Nat.zero_le _⟩ (fun r hq9 => ?_)
  have hq9 : r = (xR u 0 v9) := hq9
  subst hq9
  refine lv_astore_n (lv' := [(3, .ref (xR u 0 v9)), (0, .ref (a 0)), (1, .int (nI v9)), (2, .int z)]) hx hb dX2_collisions_5 rfl hl (by decide) rfl (fun ls hl => ?_)
  refine lv_iload_n hx hb dX2_collisions_6 rfl (lv_at hl 3 rfl) ?_
  exact z_thr (vx_runS (As := [.int z]) (rest := []) ⟨hx, hb, hml, hown, hts⟩ (t_X2_checkSize l hl9 D cs S0 ea mi sa a u sg z hz) (va_cwS 1 hts gX2_collisions_X2_checkSize rfl rfl rfl (by decide +kernel) ⟨Nat.le_of_ble_eq_true rfl, Nat.le_of_ble_eq_true rfl⟩) ⟨zE_blind, zE_pre ⟨hx0, hbf, hbc, hls, hlm, hlh, hrw, hpt, hin, hhr, hok⟩ hK hE va_S.rf⟩ rfl rfl hl.1 rfl (lv_room (Nat.le_of_ble_eq_true rfl)) dX2_collisions_7 ⟨Nat.le_of_ble_eq_true rfl, Nat.le_of_ble_eq_true rfl⟩) hout hlocks (Nat.le_refl _) (Nat.le_refl _)

set_option maxHeartbeats 4000000 in
set_option maxRecDepth 100000 in
theorem t_X2_differentBlocks_b (l : Launch) (hl9 : l.stackTraces = false) (D : va_G) (cs : Nat → ClassId) (S0 ea mi : Nat) (sa : Nat → Nat) (a : Nat → Nat) (u : XU) (sg : St) (v9 : Nat) (hv9 : v9 < sg.2.1.length) (z : Int32) (hz : z < nI 2 ∨ nI 32 < z) : vT l yX2_differentBlocks wsX2_differentBlocks ({ frames := 7, cells := 1, slots := 6, locals := 115 }) (zE [.ref (a 0), .int (nI v9), .int z] (fun H => XH D cs a u sg H) D cs S0 ea mi sa) eIA := by
  refine vx_ofW (cc := cX2_differentBlocks) (maxL := 7) (ret := (some .int)) (by decide) rfl ?_
  intro p e s m args below meth c s₁ B hml hout hv9
  obtain ⟨rfl, hPH, hK, hE⟩ := hv9
  have hx := B.exec
  have hb := B.bytes
  have hr := B.returns
  have hts := atoms_spec (ws := wsX2_differentBlocks) B.pre
  have hown : s.vm.findClass RX2 = some m.cls := findClass_of_methodNamed B.named
  have hlocks := B.notSynchronized
  have hPH : XH D cs a u sg s.heap := hPH
  obtain ⟨hx0, hbf, hbc, hls, hlm, hlh, hrw, hpt, hin, hhr, hok⟩ := hPH
  have hl := lv_entry ([.ref (a 0), .int (nI v9), .int z]) (n := 7) (Nat.le_of_ble_eq_true rfl)
  rw [lg_entry_eq]
  generalize (lg_sl ([.ref (a 0), .int (nI v9), .int z]) ++ List.replicate (7 - (lg_sl ([.ref (a 0), .int (nI v9), .int z])).length) Slot.unset).toArray = ls at hl ⊢
  have hl : lv_has ls 7 [(0, .ref (a 0)), (1, .int (nI v9)), (2, .int z)] := hl
  have hok4 := hok.2.1.1
  have hok5 := hok.2.2.1.1
  have hok6 := hok.2.2.2.2.1
  refine lv_aload_n hx hb dX2_differentBlocks_0 rfl (lv_at hl 0 rfl) ?_
  refine lv_iload_n hx hb dX2_differentBlocks_1 rfl (lv_at hl 1 rfl) ?_
  refine z_ceRV (As := [.int (nI v9)]) (rest := []) ⟨hx, hb, hml, hown, hts⟩ (c_X2_rowOf l D cs S0 ea mi sa a u sg v9 hv9) (cwV 1 hts gX2_differentBlocks_X2_rowOf rfl rfl rfl (by decide +kernel) ⟨Nat.le_of_ble_eq_true rfl, Nat.le_of_ble_eq_true rfl⟩) hx0 rfl ⟨hx0, hbf, hbc, hls, hlm, hlh, hrw, hpt, hin, hhr, hok⟩ hK hE va_S.rf rfl hl.1 rfl (Nat.le_of_ble_eq_true rfl) dX2_differentBlocks_2 ⟨Nat.zero_le _, Nat.zero_le _⟩ (fun r hq9 => ?_)
  have hq9 : r = (xR u 0 v9) := hq9
  subst hq9
  refine lv_astore_n (lv' := [(3, .ref (xR u 0 v9)), (0, .ref (a 0)), (1, .int (nI v9)), (2, .int z)]) hx hb dX2_differentBlocks_5 rfl hl (by decide) rfl (fun ls hl => ?_)
  refine lv_iload_n hx hb dX2_differentBlocks_6 rfl (lv_at hl 3 rfl) ?_
  exact z_thr (vx_runS (As := [.int z]) (rest := []) ⟨hx, hb, hml, hown, hts⟩ (t_X2_checkSize l hl9 D cs S0 ea mi sa a u sg z hz) (va_cwS 1 hts gX2_differentBlocks_X2_checkSize rfl rfl rfl (by decide +kernel) ⟨Nat.le_of_ble_eq_true rfl, Nat.le_of_ble_eq_true rfl⟩) ⟨zE_blind, zE_pre ⟨hx0, hbf, hbc, hls, hlm, hlh, hrw, hpt, hin, hhr, hok⟩ hK hE va_S.rf⟩ rfl rfl hl.1 rfl (lv_room (Nat.le_of_ble_eq_true rfl)) dX2_differentBlocks_7 ⟨Nat.le_of_ble_eq_true rfl, Nat.le_of_ble_eq_true rfl⟩) hout hlocks (Nat.le_refl _) (Nat.le_refl _)
