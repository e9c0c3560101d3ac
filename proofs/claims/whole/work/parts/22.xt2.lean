/-! the class's throws, second part -/
set_option maxHeartbeats 4000000 in
set_option maxRecDepth 100000 in
theorem t_X2_feed_a (l : Launch) (hl9 : l.stackTraces = false) (D : va_G) (cs : Nat → ClassId) (S0 ea mi : Nat) (sa : Nat → Nat) (a : Nat → Nat) (u : XU) (sg : St) (w : Int64) (z : Int32) (hz : z < nI 1 ∨ nI 8 < z) : vT l yX2_feed wsX2_feed ({ frames := 6, cells := 1, slots := 6, locals := 95 }) (zE [.ref (a 0), .long w, .int z] (fun H => XH D cs a u sg H) D cs S0 ea mi sa) eIA := by
  refine vx_ofW (cc := cX2_feed) (maxL := 5) (ret := (some .int)) (by decide) rfl ?_
  intro p e s m args below meth c s₁ B hml hout hv9
  obtain ⟨rfl, hPH, hK, hE⟩ := hv9
  have hx := B.exec
  have hb := B.bytes
  have hr := B.returns
  have hts := atoms_spec (ws := wsX2_feed) B.pre
  have hown : s.vm.findClass RX2 = some m.cls := findClass_of_methodNamed B.named
  have hlocks := B.notSynchronized
  have at_IA : ∀ w ∈ (vx_atS RX2 49 eIA eNm).filter goodWord, w.before _ s = true := fun w hw => hts w ((show ∀ w ∈ (vx_atS RX2 49 eIA eNm).filter goodWord, w ∈ wsX2_feed by decide +kernel) w hw)
  have hPH : XH D cs a u sg s.heap := hPH
  obtain ⟨hx0, hbf, hbc, hls, hlm, hlh, hrw, hpt, hin, hhr, hok⟩ := hPH
  have hl := lv_entry ([.ref (a 0), .long w, .int z]) (n := 5) (Nat.le_of_ble_eq_true rfl)
  rw [lg_entry_eq]
  generalize (lg_sl ([.ref (a 0), .long w, .int z]) ++ List.replicate (5 - (lg_sl ([.ref (a 0), .long w, .int z])).length) Slot.unset).toArray = ls at hl ⊢
  have hl : lv_has ls 5 [(0, .ref (a 0)), (1, .long w), (3, .int z)] := hl
  have hok4 := hok.2.1.1
  have hok5 := hok.2.2.1.1
  have hok6 := hok.2.2.2.2.1
  refine lv_iload_n hx hb dX2_feed_0 rfl (lv_at hl 2 rfl) ?_
  refine lv_iconst (v := nI 1) hx hb dX2_feed_1 (by decide) ?_
  refine lv_icmp_lt (tgt := 11) hx hb dX2_feed_2 (by decide) (fun hc2 => ?_) (fun hc2 => ?_)
  · skip
    have hc2 : z < (nI 1) := hc2
    exact z_throw (cls := eIA) (text := "n is not 1 to 8") hx hb hl9 hown (by decide +kernel) (hts (.classLink RX2 45 eIA) (by decide +kernel)) (hts (.initialized eIA) (by decide +kernel)) at_IA ng_IA ot_IA (by decide) (by decide) hE (hl.1.trans hml.symm) dX2_feed_11 dX2_feed_14 dX2_feed_15 dX2_feed_17 dX2_feed_20 hout (Nat.le_of_ble_eq_true rfl) (Nat.le_of_ble_eq_true rfl) (Nat.le_of_ble_eq_true rfl) (Nat.le_of_ble_eq_true rfl) hlocks (Nat.le_refl _) (Nat.le_refl _)
  · skip
    have hc2 : ¬ z < (nI 1) := hc2
    refine lv_iload_n hx hb dX2_feed_5 rfl (lv_at hl 2 rfl) ?_
    refine lv_bipush (v := nI 8) hx hb dX2_feed_6 (by decide) ?_
    refine lv_icmp_le (tgt := 21) hx hb dX2_feed_8 (by decide) (fun hc8 => ?_) (fun hc8 => ?_)
    · skip
      have hc8 : z ≤ (nI 8) := hc8
      exact absurd (hz.resolve_left hc2) (Int32.not_lt.mpr hc8)
    · skip
      have hc8 : ¬ z ≤ (nI 8) := hc8
      exact z_throw (cls := eIA) (text := "n is not 1 to 8") hx hb hl9 hown (by decide +kernel) (hts (.classLink RX2 45 eIA) (by decide +kernel)) (hts (.initialized eIA) (by decide +kernel)) at_IA ng_IA ot_IA (by decide) (by decide) hE (hl.1.trans hml.symm) dX2_feed_11 dX2_feed_14 dX2_feed_15 dX2_feed_17 dX2_feed_20 hout (Nat.le_of_ble_eq_true rfl) (Nat.le_of_ble_eq_true rfl) (Nat.le_of_ble_eq_true rfl) (Nat.le_of_ble_eq_true rfl) hlocks (Nat.le_refl _) (Nat.le_refl _)

set_option maxHeartbeats 4000000 in
set_option maxRecDepth 100000 in
theorem t_X2_feed_b (l : Launch) (hl9 : l.stackTraces = false) (D : va_G) (cs : Nat → ClassId) (S0 ea mi : Nat) (sa : Nat → Nat) (a : Nat → Nat) (u : XU) (sg : St) (w : Int64) (n9 : Nat) (h1 : 1 ≤ n9) (h2 : n9 ≤ 8) (hfull : 400 < sg.1.length + n9) : vT l yX2_feed wsX2_feed ({ frames := 6, cells := 1, slots := 6, locals := 95 }) (zE [.ref (a 0), .long w, .int (nI n9)] (fun H => XH D cs a u sg H) D cs S0 ea mi sa) eIS := by
  refine vx_ofW (cc := cX2_feed) (maxL := 5) (ret := (some .int)) (by decide) rfl ?_
  intro p e s m args below meth c s₁ B hml hout hv9
  obtain ⟨rfl, hPH, hK, hE⟩ := hv9
  have hx := B.exec
  have hb := B.bytes
  have hr := B.returns
  have hts := atoms_spec (ws := wsX2_feed) B.pre
  have hown : s.vm.findClass RX2 = some m.cls := findClass_of_methodNamed B.named
  have hlocks := B.notSynchronized
  have at_IS : ∀ w ∈ (vx_atS RX2 56 eIS eNm).filter goodWord, w.before _ s = true := fun w hw => hts w ((show ∀ w ∈ (vx_atS RX2 56 eIS eNm).filter goodWord, w ∈ wsX2_feed by decide +kernel) w hw)
  have fl13 := hts (.fieldLink RX2 13 "DeltaUpdater" "buffered" "I") (by decide +kernel)
  have in3 : ∀ w ∈ u_ws RX2 TX2 8, w ∈ wsX2_feed := by decide +kernel
  have hPH : XH D cs a u sg s.heap := hPH
  obtain ⟨hx0, hbf, hbc, hls, hlm, hlh, hrw, hpt, hin, hhr, hok⟩ := hPH
  have hl := lv_entry ([.ref (a 0), .long w, .int (nI n9)]) (n := 5) (Nat.le_of_ble_eq_true rfl)
  rw [lg_entry_eq]
  generalize (lg_sl ([.ref (a 0), .long w, .int (nI n9)]) ++ List.replicate (5 - (lg_sl ([.ref (a 0), .long w, .int (nI n9)])).length) Slot.unset).toArray = ls at hl ⊢
  have hl : lv_has ls 5 [(0, .ref (a 0)), (1, .long w), (3, .int (nI n9))] := hl
  have hok4 := hok.2.1.1
  have hok5 := hok.2.2.1.1
  have hok6 := hok.2.2.2.2.1
  have hbl := hok.1.1
  refine lv_iload_n hx hb dX2_feed_0 rfl (lv_at hl 2 rfl) ?_
  refine lv_iconst (v := nI 1) hx hb dX2_feed_1 (by decide) ?_
  refine z_icmp_lt (tgt := 11) hx hb (by omega) (by omega) dX2_feed_2 (by decide) (fun hc2 => ?_) (fun hc2 => ?_)
  · skip
    have hc2 : n9 < 1 := hc2
    omega
  · skip
    have hc2 : 1 ≤ n9 := hc2
    refine lv_iload_n hx hb dX2_feed_5 rfl (lv_at hl 2 rfl) ?_
    refine lv_bipush (v := nI 8) hx hb dX2_feed_6 (by decide) ?_
    refine z_icmp_le (tgt := 21) hx hb (by omega) (by omega) dX2_feed_8 (by decide) (fun hc8 => ?_) (fun hc8 => ?_)
    · skip
      have hc8 : n9 ≤ 8 := hc8
      refine lv_aload_n hx hb dX2_feed_21 rfl (lv_at hl 0 rfl) ?_
      refine z_get (ci := 3) (v := .int (nI sg.1.length)) (C := RX2) (T := TX2) (N := 8) hx hb hts in3 hown hK hx0 rfl 1 (by decide) fl13 (fun _ h9 => h9) rfl dX2_feed_22 ?_
      refine lv_iload_n hx hb dX2_feed_25 rfl (lv_at hl 2 rfl) ?_
      refine lv_iadd hx hb dX2_feed_26 ?_
      refine zti (nI_add _ _) (y := nI (sg.1.length + n9)) ?_
      refine lv_sipush (v := nI 400) hx hb dX2_feed_27 (by decide) ?_
      refine z_icmp_le (tgt := 43) hx hb (by omega) (by omega) dX2_feed_30 (by decide) (fun hc30 => ?_) (fun hc30 => ?_)
      · skip
        have hc30 : sg.1.length + n9 ≤ 400 := hc30
        omega
      · skip
        have hc30 : 400 < sg.1.length + n9 := hc30
        exact z_throw (cls := eIS) (text := "the buffer would have too many bytes") hx hb hl9 hown (by decide +kernel) (hts (.classLink RX2 52 eIS) (by decide +kernel)) (hts (.initialized eIS) (by decide +kernel)) at_IS ng_IS ot_IS (by decide) (by decide) hE (hl.1.trans hml.symm) dX2_feed_33 dX2_feed_36 dX2_feed_37 dX2_feed_39 dX2_feed_42 hout (Nat.le_of_ble_eq_true rfl) (Nat.le_of_ble_eq_true rfl) (Nat.le_of_ble_eq_true rfl) (Nat.le_of_ble_eq_true rfl) hlocks (Nat.le_refl _) (Nat.le_refl _)
    · skip
      have hc8 : 8 < n9 := hc8
      omega

set_option maxHeartbeats 4000000 in
set_option maxRecDepth 100000 in
theorem t_X2_store (l : Launch) (hl9 : l.stackTraces = false) (D : va_G) (cs : Nat → ClassId) (S0 ea mi : Nat) (sa : Nat → Nat) (a : Nat → Nat) (u : XU) (sg : St) (hfull : 12 ≤ sg.2.1.length) : vT l yX2_store wsX2_store ({ frames := 7, cells := 1, slots := 6, locals := 115 }) (zE [.ref (a 0)] (fun H => XH D cs a u sg H) D cs S0 ea mi sa) eIS := by
  refine vx_ofW (cc := cX2_store) (maxL := 1) (ret := (some .int)) (by decide) rfl ?_
  intro p e s m args below meth c s₁ B hml hout hv9
  obtain ⟨rfl, hPH, hK, hE⟩ := hv9
  have hx := B.exec
  have hb := B.bytes
  have hr := B.returns
  have hts := atoms_spec (ws := wsX2_store) B.pre
  have hown : s.vm.findClass RX2 = some m.cls := findClass_of_methodNamed B.named
  have hlocks := B.notSynchronized
  have hPH : XH D cs a u sg s.heap := hPH
  obtain ⟨hx0, hbf, hbc, hls, hlm, hlh, hrw, hpt, hin, hhr, hok⟩ := hPH
  have hl := lv_entry ([.ref (a 0)]) (n := 1) (Nat.le_of_ble_eq_true rfl)
  rw [lg_entry_eq]
  generalize (lg_sl ([.ref (a 0)]) ++ List.replicate (1 - (lg_sl ([.ref (a 0)])).length) Slot.unset).toArray = ls at hl ⊢
  have hl : lv_has ls 1 [(0, .ref (a 0))] := hl
  have hok4 := hok.2.1.1
  have hok5 := hok.2.2.1.1
  have hok6 := hok.2.2.2.2.1
  refine lv_aload_n hx hb dX2_store_0 rfl (lv_at hl 0 rfl) ?_
  exact z_thr (vx_runV (As := []) (rest := []) ⟨hx, hb, hml, hown, hts⟩ (t_X2_checkRoomForVersion l hl9 D cs S0 ea mi sa a u sg hfull) (cwV 0 hts gX2_store_X2_checkRoomForVersion rfl rfl rfl (by decide +kernel) ⟨Nat.le_of_ble_eq_true rfl, Nat.le_of_ble_eq_true rfl⟩) ⟨zE_blind, z_recv hK hx0 rfl, zE_pre ⟨hx0, hbf, hbc, hls, hlm, hlh, hrw, hpt, hin, hhr, hok⟩ hK hE va_S.rf⟩ rfl rfl hl.1 rfl (lv_room (Nat.le_of_ble_eq_true rfl)) dX2_store_1 ⟨Nat.le_of_ble_eq_true rfl, Nat.le_of_ble_eq_true rfl⟩) hout hlocks (Nat.le_refl _) (Nat.le_refl _)

set_option maxHeartbeats 4000000 in
set_option maxRecDepth 100000 in
theorem t_X2_difference_b (l : Launch) (hl9 : l.stackTraces = false) (D : va_G) (cs : Nat → ClassId) (S0 ea mi : Nat) (sa : Nat → Nat) (a : Nat → Nat) (u : XU) (sg : St) (v9 : Nat) (hv9 : v9 < sg.2.1.length) (v : Int32) (hv : v < 0 ∨ nI sg.2.1.length ≤ v) (z : Int32) : vT l yX2_difference wsX2_difference ({ frames := 7, cells := 1, slots := 6, locals := 116 }) (zE [.ref (a 0), .int (nI v9), .int v, .int z] (fun H => XH D cs a u sg H) D cs S0 ea mi sa) eIO := by
  refine vx_ofW (cc := cX2_difference) (maxL := 7) (ret := (some .int)) (by decide) rfl ?_
  intro p e s m args below meth c s₁ B hml hout hv9
  obtain ⟨rfl, hPH, hK, hE⟩ := hv9
  have hx := B.exec
  have hb := B.bytes
  have hr := B.returns
  have hts := atoms_spec (ws := wsX2_difference) B.pre
  have hown : s.vm.findClass RX2 = some m.cls := findClass_of_methodNamed B.named
  have hlocks := B.notSynchronized
  have hPH : XH D cs a u sg s.heap := hPH
  obtain ⟨hx0, hbf, hbc, hls, hlm, hlh, hrw, hpt, hin, hhr, hok⟩ := hPH
  have hl := lv_entry ([.ref (a 0), .int (nI v9), .int v, .int z]) (n := 7) (Nat.le_of_ble_eq_true rfl)
  rw [lg_entry_eq]
  generalize (lg_sl ([.ref (a 0), .int (nI v9), .int v, .int z]) ++ List.replicate (7 - (lg_sl ([.ref (a 0), .int (nI v9), .int v, .int z])).length) Slot.unset).toArray = ls at hl ⊢
  have hl : lv_has ls 7 [(0, .ref (a 0)), (1, .int (nI v9)), (2, .int v), (3, .int z)] := hl
  have hok4 := hok.2.1.1
  have hok5 := hok.2.2.1.1
  have hok6 := hok.2.2.2.2.1
  refine lv_aload_n hx hb dX2_difference_0 rfl (lv_at hl 0 rfl) ?_
  refine lv_iload_n hx hb dX2_difference_1 rfl (lv_at hl 1 rfl) ?_
  refine z_ceRV (As := [.int (nI v9)]) (rest := []) ⟨hx, hb, hml, hown, hts⟩ (c_X2_rowOf l D cs S0 ea mi sa a u sg v9 hv9) (cwV 1 hts gX2_difference_X2_rowOf rfl rfl rfl (by decide +kernel) ⟨Nat.le_of_ble_eq_true rfl, Nat.le_of_ble_eq_true rfl⟩) hx0 rfl ⟨hx0, hbf, hbc, hls, hlm, hlh, hrw, hpt, hin, hhr, hok⟩ hK hE va_S.rf rfl hl.1 rfl (Nat.le_of_ble_eq_true rfl) dX2_difference_2 ⟨Nat.zero_le _, Nat.zero_le _⟩ (fun r hq9 => ?_)
  have hq9 : r = (xR u 0 v9) := hq9
  subst hq9
  refine lv_astore (lv' := [(4, .ref (xR u 0 v9)), (0, .ref (a 0)), (1, .int (nI v9)), (2, .int v), (3, .int z)]) hx hb dX2_difference_5 hl (by decide) rfl (fun ls hl => ?_)
  refine lv_aload_n hx hb dX2_difference_7 rfl (lv_at hl 1 rfl) ?_
  refine lv_iload_n hx hb dX2_difference_8 rfl (lv_at hl 3 rfl) ?_
  exact z_thr (vx_runV (As := [.int v]) (rest := []) ⟨hx, hb, hml, hown, hts⟩ (t_X2_rowOf l hl9 D cs S0 ea mi sa a u sg v hv) (cwV 1 hts gX2_difference_X2_rowOf rfl rfl rfl (by decide +kernel) ⟨Nat.le_of_ble_eq_true rfl, Nat.le_of_ble_eq_true rfl⟩) ⟨zE_blind, z_recv hK hx0 rfl, zE_pre ⟨hx0, hbf, hbc, hls, hlm, hlh, hrw, hpt, hin, hhr, hok⟩ hK hE va_S.rf⟩ rfl rfl hl.1 rfl (lv_room (Nat.le_of_ble_eq_true rfl)) dX2_difference_9 ⟨Nat.le_of_ble_eq_true rfl, Nat.le_of_ble_eq_true rfl⟩) hout hlocks (Nat.le_refl _) (Nat.le_refl _)

set_option maxHeartbeats 4000000 in
set_option maxRecDepth 100000 in
theorem t_X2_difference_c (l : Launch) (hl9 : l.stackTraces = false) (D : va_G) (cs : Nat → ClassId) (S0 ea mi : Nat) (sa : Nat → Nat) (a : Nat → Nat) (u : XU) (sg : St) (v9 : Nat) (hv9 : v9 < sg.2.1.length) (w9 : Nat) (hw9 : w9 < sg.2.1.length) (z : Int32) (hz : z < nI 2 ∨ nI 32 < z) : vT l yX2_difference wsX2_difference ({ frames := 7, cells := 1, slots := 6, locals := 115 }) (zE [.ref (a 0), .int (nI v9), .int (nI w9), .int z] (fun H => XH D cs a u sg H) D cs S0 ea mi sa) eIA := by
  refine vx_ofW (cc := cX2_difference) (maxL := 7) (ret := (some .int)) (by decide) rfl ?_
  intro p e s m args below meth c s₁ B hml hout hv9
  obtain ⟨rfl, hPH, hK, hE⟩ := hv9
  have hx := B.exec
  have hb := B.bytes
  have hr := B.returns
  have hts := atoms_spec (ws := wsX2_difference) B.pre
  have hown : s.vm.findClass RX2 = some m.cls := findClass_of_methodNamed B.named
  have hlocks := B.notSynchronized
  have hPH : XH D cs a u sg s.heap := hPH
  obtain ⟨hx0, hbf, hbc, hls, hlm, hlh, hrw, hpt, hin, hhr, hok⟩ := hPH
  have hl := lv_entry ([.ref (a 0), .int (nI v9), .int (nI w9), .int z]) (n := 7) (Nat.le_of_ble_eq_true rfl)
  rw [lg_entry_eq]
  generalize (lg_sl ([.ref (a 0), .int (nI v9), .int (nI w9), .int z]) ++ List.replicate (7 - (lg_sl ([.ref (a 0), .int (nI v9), .int (nI w9), .int z])).length) Slot.unset).toArray = ls at hl ⊢
  have hl : lv_has ls 7 [(0, .ref (a 0)), (1, .int (nI v9)), (2, .int (nI w9)), (3, .int z)] := hl
  have hok4 := hok.2.1.1
  have hok5 := hok.2.2.1.1
  have hok6 := hok.2.2.2.2.1
  refine lv_aload_n hx hb dX2_difference_0 rfl (lv_at hl 0 rfl) ?_
  refine lv_iload_n hx hb dX2_difference_1 rfl (lv_at hl 1 rfl) ?_
  refine z_ceRV (As := [.int (nI v9)]) (rest := []) ⟨hx, hb, hml, hown, hts⟩ (c_X2_rowOf l D cs S0 ea mi sa a u sg v9 hv9) (cwV 1 hts gX2_difference_X2_rowOf rfl rfl rfl (by decide +kernel) ⟨Nat.le_of_ble_eq_true rfl, Nat.le_of_ble_eq_true rfl⟩) hx0 rfl ⟨hx0, hbf, hbc, hls, hlm, hlh, hrw, hpt, hin, hhr, hok⟩ hK hE va_S.rf rfl hl.1 rfl (Nat.le_of_ble_eq_true rfl) dX2_difference_2 ⟨Nat.zero_le _, Nat.zero_le _⟩ (fun r hq9 => ?_)
  have hq9 : r = (xR u 0 v9) := hq9
  subst hq9
  refine lv_astore (lv' := [(4, .ref (xR u 0 v9)), (0, .ref (a 0)), (1, .int (nI v9)), (2, .int (nI w9)), (3, .int z)]) hx hb dX2_difference_5 hl (by decide) rfl (fun ls hl => ?_)
  refine lv_aload_n hx hb dX2_difference_7 rfl (lv_at hl 1 rfl) ?_
  refine lv_iload_n hx hb dX2_difference_8 rfl (lv_at hl 3 rfl) ?_
  refine z_ceRV (As := [.int (nI w9)]) (rest := []) ⟨hx, hb, hml, hown, hts⟩ (c_X2_rowOf l D cs S0 ea mi sa a u sg w9 hw9) (cwV 1 hts gX2_difference_X2_rowOf rfl rfl rfl (by decide +kernel) ⟨Nat.le_of_ble_eq_true rfl, Nat.le_of_ble_eq_true rfl⟩) hx0 rfl ⟨hx0, hbf, hbc, hls, hlm, hlh, hrw, hpt, hin, hhr, hok⟩ hK hE va_S.rf rfl hl.1 rfl (Nat.le_of_ble_eq_true rfl) dX2_difference_9 ⟨Nat.zero_le _, Nat.zero_le _⟩ (fun r hq9 => ?_)
  have hq9 : r = (xR u 0 w9) := hq9
  subst hq9
  refine lv_astore (lv' := [(5, .ref (xR u 0 w9)), (4, .ref (xR u 0 v9)), (0, .ref (a 0)), (1, .int (nI v9)), (2, .int (nI w9)), (3, .int z)]) hx hb dX2_difference_12 hl (by decide) rfl (fun ls hl => ?_)
  refine lv_iload_n hx hb dX2_difference_14 rfl (lv_at hl 5 rfl) ?_
  exact z_thr (vx_runS (As := [.int z]) (rest := []) ⟨hx, hb, hml, hown, hts⟩ (t_X2_checkSize l hl9 D cs S0 ea mi sa a u sg z hz) (va_cwS 1 hts gX2_difference_X2_checkSize rfl rfl rfl (by decide +kernel) ⟨Nat.le_of_ble_eq_true rfl, Nat.le_of_ble_eq_true rfl⟩) ⟨zE_blind, zE_pre ⟨hx0, hbf, hbc, hls, hlm, hlh, hrw, hpt, hin, hhr, hok⟩ hK hE va_S.rf⟩ rfl rfl hl.1 rfl (lv_room (Nat.le_of_ble_eq_true rfl)) dX2_difference_15 ⟨Nat.le_of_ble_eq_true rfl, Nat.le_of_ble_eq_true rfl⟩) hout hlocks (Nat.le_refl _) (Nat.le_refl _)

set_option maxHeartbeats 4000000 in
set_option maxRecDepth 100000 in
theorem t_X2_difference_d (l : Launch) (hl9 : l.stackTraces = false) (D : va_G) (cs : Nat → ClassId) (S0 ea mi : Nat) (sa : Nat → Nat) (a : Nat → Nat) (u : XU) (sg : St) (v9 : Nat) (hv9 : v9 < sg.2.1.length) (w9 : Nat) (hw9 : w9 < sg.2.1.length) (size : Nat) (h2 : 2 ≤ size) (h3 : size ≤ 32) (hfull : 12 ≤ sg.2.2.1.length) : vT l yX2_difference wsX2_difference ({ frames := 7, cells := 1, slots := 6, locals := 115 }) (zE [.ref (a 0), .int (nI v9), .int (nI w9), .int (nI size)] (fun H => XH D cs a u sg H) D cs S0 ea mi sa) eIS := by
  refine vx_ofW (cc := cX2_difference) (maxL := 7) (ret := (some .int)) (by decide) rfl ?_
  intro p e s m args below meth c s₁ B hml hout hv9
  obtain ⟨rfl, hPH, hK, hE⟩ := hv9
  have hx := B.exec
  have hb := B.bytes
  have hr := B.returns
  have hts := atoms_spec (ws := wsX2_difference) B.pre
  have hown : s.vm.findClass RX2 = some m.cls := findClass_of_methodNamed B.named
  have hlocks := B.notSynchronized
  have hPH : XH D cs a u sg s.heap := hPH
  obtain ⟨hx0, hbf, hbc, hls, hlm, hlh, hrw, hpt, hin, hhr, hok⟩ := hPH
  have hl := lv_entry ([.ref (a 0), .int (nI v9), .int (nI w9), .int (nI size)]) (n := 7) (Nat.le_of_ble_eq_true rfl)
  rw [lg_entry_eq]
  generalize (lg_sl ([.ref (a 0), .int (nI v9), .int (nI w9), .int (nI size)]) ++ List.replicate (7 - (lg_sl ([.ref (a 0), .int (nI v9), .int (nI w9), .int (nI size)])).length) Slot.unset).toArray = ls at hl ⊢
  have hl : lv_has ls 7 [(0, .ref (a 0)), (1, .int (nI v9)), (2, .int (nI w9)), (3, .int (nI size))] := hl
  have hok4 := hok.2.1.1
  have hok5 := hok.2.2.1.1
  have hok6 := hok.2.2.2.2.1
  refine lv_aload_n hx hb dX2_difference_0 rfl (lv_at hl 0 rfl) ?_
  refine lv_iload_n hx hb dX2_difference_1 rfl (lv_at hl 1 rfl) ?_
  refine z_ceRV (As := [.int (nI v9)]) (rest := []) ⟨hx, hb, hml, hown, hts⟩ (c_X2_rowOf l D cs S0 ea mi sa a u sg v9 hv9) (cwV 1 hts gX2_difference_X2_rowOf rfl rfl rfl (by decide +kernel) ⟨Nat.le_of_ble_eq_true rfl, Nat.le_of_ble_eq_true rfl⟩) hx0 rfl ⟨hx0, hbf, hbc, hls, hlm, hlh, hrw, hpt, hin, hhr, hok⟩ hK hE va_S.rf rfl hl.1 rfl (Nat.le_of_ble_eq_true rfl) dX2_difference_2 ⟨Nat.zero_le _, Nat.zero_le _⟩ (fun r hq9 => ?_)
  have hq9 : r = (xR u 0 v9) := hq9
  subst hq9
  refine lv_astore (lv' := [(4, .ref (xR u 0 v9)), (0, .ref (a 0)), (1, .int (nI v9)), (2, .int (nI w9)), (3, .int (nI size))]) hx hb dX2_difference_5 hl (by decide) rfl (fun ls hl => ?_)
  refine lv_aload_n hx hb dX2_difference_7 rfl (lv_at hl 1 rfl) ?_
  refine lv_iload_n hx hb dX2_difference_8 rfl (lv_at hl 3 rfl) ?_
  refine z_ceRV (As := [.int (nI w9)]) (rest := []) ⟨hx, hb, hml, hown, hts⟩ (c_X2_rowOf l D cs S0 ea mi sa a u sg w9 hw9) (cwV 1 hts gX2_difference_X2_rowOf rfl rfl rfl (by decide +kernel) ⟨Nat.le_of_ble_eq_true rfl, Nat.le_of_ble_eq_true rfl⟩) hx0 rfl ⟨hx0, hbf, hbc, hls, hlm, hlh, hrw, hpt, hin, hhr, hok⟩ hK hE va_S.rf rfl hl.1 rfl (Nat.le_of_ble_eq_true rfl) dX2_difference_9 ⟨Nat.zero_le _, Nat.zero_le _⟩ (fun r hq9 => ?_)
  have hq9 : r = (xR u 0 w9) := hq9
  subst hq9
  refine lv_astore (lv' := [(5, .ref (xR u 0 w9)), (4, .ref (xR u 0 v9)), (0, .ref (a 0)), (1, .int (nI v9)), (2, .int (nI w9)), (3, .int (nI size))]) hx hb dX2_difference_12 hl (by decide) rfl (fun ls hl => ?_)
  refine lv_iload_n hx hb dX2_difference_14 rfl (lv_at hl 5 rfl) ?_
  refine z_csSv (As := [.int (nI size)]) (rest := []) ⟨hx, hb, hml, hown, hts⟩ (c_X2_checkSize l D cs size h2 h3) (va_cwS 1 hts gX2_difference_X2_checkSize rfl rfl rfl (by decide +kernel) ⟨Nat.le_of_ble_eq_true rfl, Nat.le_of_ble_eq_true rfl⟩) trivial hK rfl hl.1 rfl (Nat.le_of_ble_eq_true rfl) dX2_difference_15 ⟨Nat.zero_le _, Nat.zero_le _⟩ ?_
  refine lv_aload_n hx hb dX2_difference_18 rfl (lv_at hl 2 rfl) ?_
  exact z_thr (vx_runV (As := []) (rest := []) ⟨hx, hb, hml, hown, hts⟩ (t_X2_checkRoomForPatch l hl9 D cs S0 ea mi sa a u sg hfull) (cwV 0 hts gX2_difference_X2_checkRoomForPatch rfl rfl rfl (by decide +kernel) ⟨Nat.le_of_ble_eq_true rfl, Nat.le_of_ble_eq_true rfl⟩) ⟨zE_blind, z_recv hK hx0 rfl, zE_pre ⟨hx0, hbf, hbc, hls, hlm, hlh, hrw, hpt, hin, hhr, hok⟩ hK hE va_S.rf⟩ rfl rfl hl.1 rfl (lv_room (Nat.le_of_ble_eq_true rfl)) dX2_difference_19 ⟨Nat.le_of_ble_eq_true rfl, Nat.le_of_ble_eq_true rfl⟩) hout hlocks (Nat.le_refl _) (Nat.le_refl _)

set_option maxHeartbeats 4000000 in
set_option maxRecDepth 100000 in
theorem t_X2_compose_b (l : Launch) (hl9 : l.stackTraces = false) (D : va_G) (cs : Nat → ClassId) (S0 ea mi : Nat) (sa : Nat → Nat) (a : Nat → Nat) (u : XU) (sg : St) (j9 : Nat) (hj : j9 < sg.2.2.1.length) (v : Int32) (hv : v < 0 ∨ nI sg.2.2.1.length ≤ v) : vT l yX2_compose wsX2_compose ({ frames := 7, cells := 1, slots := 6, locals := 116 }) (zE [.ref (a 0), .int (nI j9), .int v] (fun H => XH D cs a u sg H) D cs S0 ea mi sa) eIO := by
  refine vx_ofW (cc := cX2_compose) (maxL := 6) (ret := (some .int)) (by decide) rfl ?_
  intro p e s m args below meth c s₁ B hml hout hv9
  obtain ⟨rfl, hPH, hK, hE⟩ := hv9
  have hx := B.exec
  have hb := B.bytes
  have hr := B.returns
  have hts := atoms_spec (ws := wsX2_compose) B.pre
  have hown : s.vm.findClass RX2 = some m.cls := findClass_of_methodNamed B.named
  have hlocks := B.notSynchronized
  have hPH : XH D cs a u sg s.heap := hPH
  obtain ⟨hx0, hbf, hbc, hls, hlm, hlh, hrw, hpt, hin, hhr, hok⟩ := hPH
  have hl := lv_entry ([.ref (a 0), .int (nI j9), .int v]) (n := 6) (Nat.le_of_ble_eq_true rfl)
  rw [lg_entry_eq]
  generalize (lg_sl ([.ref (a 0), .int (nI j9), .int v]) ++ List.replicate (6 - (lg_sl ([.ref (a 0), .int (nI j9), .int v])).length) Slot.unset).toArray = ls at hl ⊢
  have hl : lv_has ls 6 [(0, .ref (a 0)), (1, .int (nI j9)), (2, .int v)] := hl
  have hok4 := hok.2.1.1
  have hok5 := hok.2.2.1.1
  have hok6 := hok.2.2.2.2.1
  refine lv_aload_n hx hb dX2_compose_0 rfl (lv_at hl 0 rfl) ?_
  refine lv_iload_n hx hb dX2_compose_1 rfl (lv_at hl 1 rfl) ?_
  refine z_ceRV (As := [.int (nI j9)]) (rest := []) ⟨hx, hb, hml, hown, hts⟩ (c_X2_patchOf l D cs S0 ea mi sa a u sg j9 hj) (cwV 1 hts gX2_compose_X2_patchOf rfl rfl rfl (by decide +kernel) ⟨Nat.le_of_ble_eq_true rfl, Nat.le_of_ble_eq_true rfl⟩) hx0 rfl ⟨hx0, hbf, hbc, hls, hlm, hlh, hrw, hpt, hin, hhr, hok⟩ hK hE va_S.rf rfl hl.1 rfl (Nat.le_of_ble_eq_true rfl) dX2_compose_2 ⟨Nat.zero_le _, Nat.zero_le _⟩ (fun r hq9 => ?_)
  have hq9 : r = (xP u 0 j9) := hq9
  subst hq9
  refine lv_astore_n (lv' := [(3, .ref (xP u 0 j9)), (0, .ref (a 0)), (1, .int (nI j9)), (2, .int v)]) hx hb dX2_compose_5 rfl hl (by decide) rfl (fun ls hl => ?_)
  refine lv_aload_n hx hb dX2_compose_6 rfl (lv_at hl 1 rfl) ?_
  refine lv_iload_n hx hb dX2_compose_7 rfl (lv_at hl 3 rfl) ?_
  exact z_thr (vx_runV (As := [.int v]) (rest := []) ⟨hx, hb, hml, hown, hts⟩ (t_X2_patchOf l hl9 D cs S0 ea mi sa a u sg v hv) (cwV 1 hts gX2_compose_X2_patchOf rfl rfl rfl (by decide +kernel) ⟨Nat.le_of_ble_eq_true rfl, Nat.le_of_ble_eq_true rfl⟩) ⟨zE_blind, z_recv hK hx0 rfl, zE_pre ⟨hx0, hbf, hbc, hls, hlm, hlh, hrw, hpt, hin, hhr, hok⟩ hK hE va_S.rf⟩ rfl rfl hl.1 rfl (lv_room (Nat.le_of_ble_eq_true rfl)) dX2_compose_8 ⟨Nat.le_of_ble_eq_true rfl, Nat.le_of_ble_eq_true rfl⟩) hout hlocks (Nat.le_refl _) (Nat.le_refl _)

set_option maxHeartbeats 4000000 in
set_option maxRecDepth 100000 in
theorem t_X2_compose_c (l : Launch) (hl9 : l.stackTraces = false) (D : va_G) (cs : Nat → ClassId) (S0 ea mi : Nat) (sa : Nat → Nat) (a : Nat → Nat) (u : XU) (sg : St) (j9 : Nat) (hj : j9 < sg.2.2.1.length) (k9 : Nat) (hk : k9 < sg.2.2.1.length) (hne : xP u 6 j9 ≠ xP u 5 k9) : vT l yX2_compose wsX2_compose ({ frames := 6, cells := 1, slots := 6, locals := 95 }) (zE [.ref (a 0), .int (nI j9), .int (nI k9)] (fun H => XH D cs a u sg H) D cs S0 ea mi sa) eIA := by
  refine vx_ofW (cc := cX2_compose) (maxL := 6) (ret := (some .int)) (by decide) rfl ?_
  intro p e s m args below meth c s₁ B hml hout hv9
  obtain ⟨rfl, hPH, hK, hE⟩ := hv9
  have hx := B.exec
  have hb := B.bytes
  have hr := B.returns
  have hts := atoms_spec (ws := wsX2_compose) B.pre
  have hown : s.vm.findClass RX2 = some m.cls := findClass_of_methodNamed B.named
  have hlocks := B.notSynchronized
  have at_IA : ∀ w ∈ (vx_atS RX2 49 eIA eNm).filter goodWord, w.before _ s = true := fun w hw => hts w ((show ∀ w ∈ (vx_atS RX2 49 eIA eNm).filter goodWord, w ∈ wsX2_compose by decide +kernel) w hw)
  have fl124 := hts (.fieldLink RX2 124 "DeltaUpdater$Patch" "goal" "I") (by decide +kernel)
  have fl127 := hts (.fieldLink RX2 127 "DeltaUpdater$Patch" "base" "I") (by decide +kernel)
  have in1 : ∀ w ∈ u_ws RX0 TX0 7, w ∈ wsX2_compose := by decide +kernel
  have hPH : XH D cs a u sg s.heap := hPH
  obtain ⟨hx0, hbf, hbc, hls, hlm, hlh, hrw, hpt, hin, hhr, hok⟩ := hPH
  have hl := lv_entry ([.ref (a 0), .int (nI j9), .int (nI k9)]) (n := 6) (Nat.le_of_ble_eq_true rfl)
  rw [lg_entry_eq]
  generalize (lg_sl ([.ref (a 0), .int (nI j9), .int (nI k9)]) ++ List.replicate (6 - (lg_sl ([.ref (a 0), .int (nI j9), .int (nI k9)])).length) Slot.unset).toArray = ls at hl ⊢
  have hl : lv_has ls 6 [(0, .ref (a 0)), (1, .int (nI j9)), (2, .int (nI k9))] := hl
  have hok4 := hok.2.1.1
  have hok5 := hok.2.2.1.1
  have hok6 := hok.2.2.2.2.1
  have hgj := (hpt j9 hj).2.2.1
  have hbk := (hpt k9 hk).2.1.1
  refine lv_aload_n hx hb dX2_compose_0 rfl (lv_at hl 0 rfl) ?_
  refine lv_iload_n hx hb dX2_compose_1 rfl (lv_at hl 1 rfl) ?_
  refine z_ceRV (As := [.int (nI j9)]) (rest := []) ⟨hx, hb, hml, hown, hts⟩ (c_X2_patchOf l D cs S0 ea mi sa a u sg j9 hj) (cwV 1 hts gX2_compose_X2_patchOf rfl rfl rfl (by decide +kernel) ⟨Nat.le_of_ble_eq_true rfl, Nat.le_of_ble_eq_true rfl⟩) hx0 rfl ⟨hx0, hbf, hbc, hls, hlm, hlh, hrw, hpt, hin, hhr, hok⟩ hK hE va_S.rf rfl hl.1 rfl (Nat.le_of_ble_eq_true rfl) dX2_compose_2 ⟨Nat.zero_le _, Nat.zero_le _⟩ (fun r hq9 => ?_)
  have hq9 : r = (xP u 0 j9) := hq9
  subst hq9
  refine lv_astore_n (lv' := [(3, .ref (xP u 0 j9)), (0, .ref (a 0)), (1, .int (nI j9)), (2, .int (nI k9))]) hx hb dX2_compose_5 rfl hl (by decide) rfl (fun ls hl => ?_)
  refine lv_aload_n hx hb dX2_compose_6 rfl (lv_at hl 1 rfl) ?_
  refine lv_iload_n hx hb dX2_compose_7 rfl (lv_at hl 3 rfl) ?_
  refine z_ceRV (As := [.int (nI k9)]) (rest := []) ⟨hx, hb, hml, hown, hts⟩ (c_X2_patchOf l D cs S0 ea mi sa a u sg k9 hk) (cwV 1 hts gX2_compose_X2_patchOf rfl rfl rfl (by decide +kernel) ⟨Nat.le_of_ble_eq_true rfl, Nat.le_of_ble_eq_true rfl⟩) hx0 rfl ⟨hx0, hbf, hbc, hls, hlm, hlh, hrw, hpt, hin, hhr, hok⟩ hK hE va_S.rf rfl hl.1 rfl (Nat.le_of_ble_eq_true rfl) dX2_compose_8 ⟨Nat.zero_le _, Nat.zero_le _⟩ (fun r hq9 => ?_)
  have hq9 : r = (xP u 0 k9) := hq9
  subst hq9
  refine lv_astore (lv' := [(4, .ref (xP u 0 k9)), (3, .ref (xP u 0 j9)), (0, .ref (a 0)), (1, .int (nI j9)), (2, .int (nI k9))]) hx hb dX2_compose_11 hl (by decide) rfl (fun ls hl => ?_)
  refine lv_aload_n hx hb dX2_compose_13 rfl (lv_at hl 1 rfl) ?_
  refine z_get (ci := 1) (v := .int (nI (xP u 6 j9))) (C := RX0) (T := TX0) (N := 7) hx hb hts in1 hown hK (hpt j9 (by omega)).1.1 rfl 1 (by decide) fl124 (fun _ h9 => h9) rfl dX2_compose_14 ?_
  refine lv_aload hx hb dX2_compose_17 (lv_at hl 0 rfl) ?_
  refine z_get (ci := 1) (v := .int (nI (xP u 5 k9))) (C := RX0) (T := TX0) (N := 7) hx hb hts in1 hown hK (hpt k9 (by omega)).1.1 rfl 0 (by decide) fl127 (fun _ h9 => h9) rfl dX2_compose_19 ?_
  refine z_icmp_eq (tgt := 35) hx hb (by omega) (by omega) dX2_compose_22 (by decide) (fun hc22 => ?_) (fun hc22 => ?_)
  · skip
    have hc22 : (xP u 6 j9) = (xP u 5 k9) := hc22
    omega
  · skip
    have hc22 : ¬ (xP u 6 j9) = (xP u 5 k9) := hc22
    exact z_throw (cls := eIA) (text := "the patches cannot be composed") hx hb hl9 hown (by decide +kernel) (hts (.classLink RX2 45 eIA) (by decide +kernel)) (hts (.initialized eIA) (by decide +kernel)) at_IA ng_IA ot_IA (by decide) (by decide) hE (hl.1.trans hml.symm) dX2_compose_25 dX2_compose_28 dX2_compose_29 dX2_compose_31 dX2_compose_34 hout (Nat.le_of_ble_eq_true rfl) (Nat.le_of_ble_eq_true rfl) (Nat.le_of_ble_eq_true rfl) (Nat.le_of_ble_eq_true rfl) hlocks (Nat.le_refl _) (Nat.le_refl _)

set_option maxHeartbeats 4000000 in
set_option maxRecDepth 100000 in
theorem t_X2_compose_d (l : Launch) (hl9 : l.stackTraces = false) (D : va_G) (cs : Nat → ClassId) (S0 ea mi : Nat) (sa : Nat → Nat) (a : Nat → Nat) (u : XU) (sg : St) (j9 : Nat) (hj : j9 < sg.2.2.1.length) (k9 : Nat) (hk : k9 < sg.2.2.1.length) (hee : xP u 6 j9 = xP u 5 k9) (hfull : 12 ≤ sg.2.2.1.length) : vT l yX2_compose wsX2_compose ({ frames := 7, cells := 1, slots := 6, locals := 115 }) (zE [.ref (a 0), .int (nI j9), .int (nI k9)] (fun H => XH D cs a u sg H) D cs S0 ea mi sa) eIS := by
  refine vx_ofW (cc := cX2_compose) (maxL := 6) (ret := (some .int)) (by decide) rfl ?_
  intro p e s m args below meth c s₁ B hml hout hv9
  obtain ⟨rfl, hPH, hK, hE⟩ := hv9
  have hx := B.exec
  have hb := B.bytes
  have hr := B.returns
  have hts := atoms_spec (ws := wsX2_compose) B.pre
  have hown : s.vm.findClass RX2 = some m.cls := findClass_of_methodNamed B.named
  have hlocks := B.notSynchronized
  have fl124 := hts (.fieldLink RX2 124 "DeltaUpdater$Patch" "goal" "I") (by decide +kernel)
  have fl127 := hts (.fieldLink RX2 127 "DeltaUpdater$Patch" "base" "I") (by decide +kernel)
  have in1 : ∀ w ∈ u_ws RX0 TX0 7, w ∈ wsX2_compose := by decide +kernel
  have hPH : XH D cs a u sg s.heap := hPH
  obtain ⟨hx0, hbf, hbc, hls, hlm, hlh, hrw, hpt, hin, hhr, hok⟩ := hPH
  have hl := lv_entry ([.ref (a 0), .int (nI j9), .int (nI k9)]) (n := 6) (Nat.le_of_ble_eq_true rfl)
  rw [lg_entry_eq]
  generalize (lg_sl ([.ref (a 0), .int (nI j9), .int (nI k9)]) ++ List.replicate (6 - (lg_sl ([.ref (a 0), .int (nI j9), .int (nI k9)])).length) Slot.unset).toArray = ls at hl ⊢
  have hl : lv_has ls 6 [(0, .ref (a 0)), (1, .int (nI j9)), (2, .int (nI k9))] := hl
  have hok4 := hok.2.1.1
  have hok5 := hok.2.2.1.1
  have hok6 := hok.2.2.2.2.1
  have hgj := (hpt j9 hj).2.2.1
  have hbk := (hpt k9 hk).2.1.1
  refine lv_aload_n hx hb dX2_compose_0 rfl (lv_at hl 0 rfl) ?_
  refine lv_iload_n hx hb dX2_compose_1 rfl (lv_at hl 1 rfl) ?_
  refine z_ceRV (As := [.int (nI j9)]) (rest := []) ⟨hx, hb, hml, hown, hts⟩ (c_X2_patchOf l D cs S0 ea mi sa a u sg j9 hj) (cwV 1 hts gX2_compose_X2_patchOf rfl rfl rfl (by decide +kernel) ⟨Nat.le_of_ble_eq_true rfl, Nat.le_of_ble_eq_true rfl⟩) hx0 rfl ⟨hx0, hbf, hbc, hls, hlm, hlh, hrw, hpt, hin, hhr, hok⟩ hK hE va_S.rf rfl hl.1 rfl (Nat.le_of_ble_eq_true rfl) dX2_compose_2 ⟨Nat.zero_le _, Nat.zero_le _⟩ (fun r hq9 => ?_)
  have hq9 : r = (xP u 0 j9) := hq9
  subst hq9
  refine lv_astore_n (lv' := [(3, .ref (xP u 0 j9)), (0, .ref (a 0)), (1, .int (nI j9)), (2, .int (nI k9))]) hx hb dX2_compose_5 rfl hl (by decide) rfl (fun ls hl => ?_)
  refine lv_aload_n hx hb dX2_compose_6 rfl (lv_at hl 1 rfl) ?_
  refine lv_iload_n hx hb dX2_compose_7 rfl (lv_at hl 3 rfl) ?_
  refine z_ceRV (As := [.int (nI k9)]) (rest := []) ⟨hx, hb, hml, hown, hts⟩ (c_X2_patchOf l D cs S0 ea mi sa a u sg k9 hk) (cwV 1 hts gX2_compose_X2_patchOf rfl rfl rfl (by decide +kernel) ⟨Nat.le_of_ble_eq_true rfl, Nat.le_of_ble_eq_true rfl⟩) hx0 rfl ⟨hx0, hbf, hbc, hls, hlm, hlh, hrw, hpt, hin, hhr, hok⟩ hK hE va_S.rf rfl hl.1 rfl (Nat.le_of_ble_eq_true rfl) dX2_compose_8 ⟨Nat.zero_le _, Nat.zero_le _⟩ (fun r hq9 => ?_)
  have hq9 : r = (xP u 0 k9) := hq9
  subst hq9
  refine lv_astore (lv' := [(4, .ref (xP u 0 k9)), (3, .ref (xP u 0 j9)), (0, .ref (a 0)), (1, .int (nI j9)), (2, .int (nI k9))]) hx hb dX2_compose_11 hl (by decide) rfl (fun ls hl => ?_)
  refine lv_aload_n hx hb dX2_compose_13 rfl (lv_at hl 1 rfl) ?_
  refine z_get (ci := 1) (v := .int (nI (xP u 6 j9))) (C := RX0) (T := TX0) (N := 7) hx hb hts in1 hown hK (hpt j9 (by omega)).1.1 rfl 1 (by decide) fl124 (fun _ h9 => h9) rfl dX2_compose_14 ?_
  refine lv_aload hx hb dX2_compose_17 (lv_at hl 0 rfl) ?_
  refine z_get (ci := 1) (v := .int (nI (xP u 5 k9))) (C := RX0) (T := TX0) (N := 7) hx hb hts in1 hown hK (hpt k9 (by omega)).1.1 rfl 0 (by decide) fl127 (fun _ h9 => h9) rfl dX2_compose_19 ?_
  refine z_icmp_eq (tgt := 35) hx hb (by omega) (by omega) dX2_compose_22 (by decide) (fun hc22 => ?_) (fun hc22 => ?_)
  · skip
    have hc22 : (xP u 6 j9) = (xP u 5 k9) := hc22
    refine lv_aload_n hx hb dX2_compose_35 rfl (lv_at hl 2 rfl) ?_
    exact z_thr (vx_runV (As := []) (rest := []) ⟨hx, hb, hml, hown, hts⟩ (t_X2_checkRoomForPatch l hl9 D cs S0 ea mi sa a u sg hfull) (cwV 0 hts gX2_compose_X2_checkRoomForPatch rfl rfl rfl (by decide +kernel) ⟨Nat.le_of_ble_eq_true rfl, Nat.le_of_ble_eq_true rfl⟩) ⟨zE_blind, z_recv hK hx0 rfl, zE_pre ⟨hx0, hbf, hbc, hls, hlm, hlh, hrw, hpt, hin, hhr, hok⟩ hK hE va_S.rf⟩ rfl rfl hl.1 rfl (lv_room (Nat.le_of_ble_eq_true rfl)) dX2_compose_36 ⟨Nat.le_of_ble_eq_true rfl, Nat.le_of_ble_eq_true rfl⟩) hout hlocks (Nat.le_refl _) (Nat.le_refl _)
  · skip
    have hc22 : ¬ (xP u 6 j9) = (xP u 5 k9) := hc22
    omega

set_option maxHeartbeats 4000000 in
set_option maxRecDepth 100000 in
theorem t_X2_instruction_b (l : Launch) (hl9 : l.stackTraces = false) (D : va_G) (cs : Nat → ClassId) (S0 ea mi : Nat) (sa : Nat → Nat) (a : Nat → Nat) (u : XU) (sg : St) (j9 : Nat) (hj : j9 < sg.2.2.1.length) (i w : Int32) (hi : i < 0 ∨ nI (manyN (rf (psN sg.2.2.1 j9).2.2) (psN sg.2.2.1 j9).2.1.length) ≤ i) : vT l yX2_instruction wsX2_instruction ({ frames := 6, cells := 1, slots := 6, locals := 95 }) (zE [.ref (a 0), .int (nI j9), .int i, .int w] (fun H => XH D cs a u sg H) D cs S0 ea mi sa) eIO := by
  refine vx_ofW (cc := cX2_instruction) (maxL := 5) (ret := (some .int)) (by decide) rfl ?_
  intro p e s m args below meth c s₁ B hml hout hv9
  obtain ⟨rfl, hPH, hK, hE⟩ := hv9
  have hx := B.exec
  have hb := B.bytes
  have hr := B.returns
  have hts := atoms_spec (ws := wsX2_instruction) B.pre
  have hown : s.vm.findClass RX2 = some m.cls := findClass_of_methodNamed B.named
  have hlocks := B.notSynchronized
  have at_IO : ∀ w ∈ (vx_atS RX2 79 eIO eNm).filter goodWord, w.before _ s = true := fun w hw => hts w ((show ∀ w ∈ (vx_atS RX2 79 eIO eNm).filter goodWord, w ∈ wsX2_instruction by decide +kernel) w hw)
  have fl142 := hts (.fieldLink RX2 142 "DeltaUpdater$Patch" "starts" "[I") (by decide +kernel)
  have in1 : ∀ w ∈ u_ws RX0 TX0 7, w ∈ wsX2_instruction := by decide +kernel
  have hPH : XH D cs a u sg s.heap := hPH
  obtain ⟨hx0, hbf, hbc, hls, hlm, hlh, hrw, hpt, hin, hhr, hok⟩ := hPH
  have hl := lv_entry ([.ref (a 0), .int (nI j9), .int i, .int w]) (n := 5) (Nat.le_of_ble_eq_true rfl)
  rw [lg_entry_eq]
  generalize (lg_sl ([.ref (a 0), .int (nI j9), .int i, .int w]) ++ List.replicate (5 - (lg_sl ([.ref (a 0), .int (nI j9), .int i, .int w])).length) Slot.unset).toArray = ls at hl ⊢
  have hl : lv_has ls 5 [(0, .ref (a 0)), (1, .int (nI j9)), (2, .int i), (3, .int w)] := hl
  have hok4 := hok.2.1.1
  have hok5 := hok.2.2.1.1
  have hok6 := hok.2.2.2.2.1
  have hpo := hok.2.2.1.2 j9 hj
  have hpl := hpo.2.1.1
  have hmn : manyN (rf (psN sg.2.2.1 j9).2.2) (psN sg.2.2.1 j9).2.1.length ≤ (psN sg.2.2.1 j9).2.1.length := ct_le _ _
  refine lv_aload_n hx hb dX2_instruction_0 rfl (lv_at hl 0 rfl) ?_
  refine lv_iload_n hx hb dX2_instruction_1 rfl (lv_at hl 1 rfl) ?_
  refine z_ceRV (As := [.int (nI j9)]) (rest := []) ⟨hx, hb, hml, hown, hts⟩ (c_X2_patchOf l D cs S0 ea mi sa a u sg j9 hj) (cwV 1 hts gX2_instruction_X2_patchOf rfl rfl rfl (by decide +kernel) ⟨Nat.le_of_ble_eq_true rfl, Nat.le_of_ble_eq_true rfl⟩) hx0 rfl ⟨hx0, hbf, hbc, hls, hlm, hlh, hrw, hpt, hin, hhr, hok⟩ hK hE va_S.rf rfl hl.1 rfl (Nat.le_of_ble_eq_true rfl) dX2_instruction_2 ⟨Nat.zero_le _, Nat.zero_le _⟩ (fun r hq9 => ?_)
  have hq9 : r = (xP u 0 j9) := hq9
  subst hq9
  refine lv_astore (lv' := [(4, .ref (xP u 0 j9)), (0, .ref (a 0)), (1, .int (nI j9)), (2, .int i), (3, .int w)]) hx hb dX2_instruction_5 hl (by decide) rfl (fun ls hl => ?_)
  refine lv_iload_n hx hb dX2_instruction_7 rfl (lv_at hl 3 rfl) ?_
  refine lv_if_lt (tgt := 21) hx hb dX2_instruction_8 (by decide) (fun hc8 => ?_) (fun hc8 => ?_)
  · skip
    have hc8 : i < 0 := hc8
    exact z_throw (cls := eIO) (text := "no such instruction") hx hb hl9 hown (by decide +kernel) (hts (.classLink RX2 75 eIO) (by decide +kernel)) (hts (.initialized eIO) (by decide +kernel)) at_IO ng_IO ot_IO (by decide) (by decide) hE (hl.1.trans hml.symm) dX2_instruction_21 dX2_instruction_24 dX2_instruction_25 dX2_instruction_27 dX2_instruction_30 hout (Nat.le_of_ble_eq_true rfl) (Nat.le_of_ble_eq_true rfl) (Nat.le_of_ble_eq_true rfl) (Nat.le_of_ble_eq_true rfl) hlocks (Nat.le_refl _) (Nat.le_refl _)
  · skip
    have hc8 : ¬ i < 0 := hc8
    refine lv_iload_n hx hb dX2_instruction_11 rfl (lv_at hl 3 rfl) ?_
    refine lv_aload hx hb dX2_instruction_12 (lv_at hl 0 rfl) ?_
    refine z_get (ci := 1) (v := .ref (xP u 4 j9)) (C := RX0) (T := TX0) (N := 7) hx hb hts in1 hown hK (hpt j9 (by omega)).1.1 rfl 4 (by decide) fl142 (fun _ h9 => h9) rfl dX2_instruction_14 ?_
    refine z_alen (n := (manyN (rf (psN sg.2.2.1 j9).2.2) (psN sg.2.2.1 j9).2.1.length)) hx hb hK (hpt j9 (by omega)).1.2.2.1 dX2_instruction_17 ?_
    refine lv_icmp_lt (tgt := 31) hx hb dX2_instruction_18 (by decide) (fun hc18 => ?_) (fun hc18 => ?_)
    · skip
      have hc18 : i < (nI (manyN (rf (psN sg.2.2.1 j9).2.2) (psN sg.2.2.1 j9).2.1.length)) := hc18
      exact absurd (hi.resolve_left hc8) (Int32.not_le.mpr hc18)
    · skip
      have hc18 : ¬ i < (nI (manyN (rf (psN sg.2.2.1 j9).2.2) (psN sg.2.2.1 j9).2.1.length)) := hc18
      exact z_throw (cls := eIO) (text := "no such instruction") hx hb hl9 hown (by decide +kernel) (hts (.classLink RX2 75 eIO) (by decide +kernel)) (hts (.initialized eIO) (by decide +kernel)) at_IO ng_IO ot_IO (by decide) (by decide) hE (hl.1.trans hml.symm) dX2_instruction_21 dX2_instruction_24 dX2_instruction_25 dX2_instruction_27 dX2_instruction_30 hout (Nat.le_of_ble_eq_true rfl) (Nat.le_of_ble_eq_true rfl) (Nat.le_of_ble_eq_true rfl) (Nat.le_of_ble_eq_true rfl) hlocks (Nat.le_refl _) (Nat.le_refl _)

set_option maxHeartbeats 4000000 in
set_option maxRecDepth 100000 in
theorem t_X2_instruction_c (l : Launch) (hl9 : l.stackTraces = false) (D : va_G) (cs : Nat → ClassId) (S0 ea mi : Nat) (sa : Nat → Nat) (a : Nat → Nat) (u : XU) (sg : St) (j9 : Nat) (hj : j9 < sg.2.2.1.length) (i9 : Nat) (w : Int32) (hi : i9 < manyN (rf (psN sg.2.2.1 j9).2.2) (psN sg.2.2.1 j9).2.1.length) (hw : w < 0 ∨ nI 3 < w) : vT l yX2_instruction wsX2_instruction ({ frames := 6, cells := 1, slots := 6, locals := 95 }) (zE [.ref (a 0), .int (nI j9), .int (nI i9), .int w] (fun H => XH D cs a u sg H) D cs S0 ea mi sa) eIO := by
  refine vx_ofW (cc := cX2_instruction) (maxL := 5) (ret := (some .int)) (by decide) rfl ?_
  intro p e s m args below meth c s₁ B hml hout hv9
  obtain ⟨rfl, hPH, hK, hE⟩ := hv9
  have hx := B.exec
  have hb := B.bytes
  have hr := B.returns
  have hts := atoms_spec (ws := wsX2_instruction) B.pre
  have hown : s.vm.findClass RX2 = some m.cls := findClass_of_methodNamed B.named
  have hlocks := B.notSynchronized
  have at_IO : ∀ w ∈ (vx_atS RX2 79 eIO eNm).filter goodWord, w.before _ s = true := fun w hw => hts w ((show ∀ w ∈ (vx_atS RX2 79 eIO eNm).filter goodWord, w ∈ wsX2_instruction by decide +kernel) w hw)
  have fl142 := hts (.fieldLink RX2 142 "DeltaUpdater$Patch" "starts" "[I") (by decide +kernel)
  have in1 : ∀ w ∈ u_ws RX0 TX0 7, w ∈ wsX2_instruction := by decide +kernel
  have hPH : XH D cs a u sg s.heap := hPH
  obtain ⟨hx0, hbf, hbc, hls, hlm, hlh, hrw, hpt, hin, hhr, hok⟩ := hPH
  have hl := lv_entry ([.ref (a 0), .int (nI j9), .int (nI i9), .int w]) (n := 5) (Nat.le_of_ble_eq_true rfl)
  rw [lg_entry_eq]
  generalize (lg_sl ([.ref (a 0), .int (nI j9), .int (nI i9), .int w]) ++ List.replicate (5 - (lg_sl ([.ref (a 0), .int (nI j9), .int (nI i9), .int w])).length) Slot.unset).toArray = ls at hl ⊢
  have hl : lv_has ls 5 [(0, .ref (a 0)), (1, .int (nI j9)), (2, .int (nI i9)), (3, .int w)] := hl
  have hok4 := hok.2.1.1
  have hok5 := hok.2.2.1.1
  have hok6 := hok.2.2.2.2.1
  have hpo := hok.2.2.1.2 j9 hj
  have hpl := hpo.2.1.1
  have hmn : manyN (rf (psN sg.2.2.1 j9).2.2) (psN sg.2.2.1 j9).2.1.length ≤ (psN sg.2.2.1 j9).2.1.length := ct_le _ _
  refine lv_aload_n hx hb dX2_instruction_0 rfl (lv_at hl 0 rfl) ?_
  refine lv_iload_n hx hb dX2_instruction_1 rfl (lv_at hl 1 rfl) ?_
  refine z_ceRV (As := [.int (nI j9)]) (rest := []) ⟨hx, hb, hml, hown, hts⟩ (c_X2_patchOf l D cs S0 ea mi sa a u sg j9 hj) (cwV 1 hts gX2_instruction_X2_patchOf rfl rfl rfl (by decide +kernel) ⟨Nat.le_of_ble_eq_true rfl, Nat.le_of_ble_eq_true rfl⟩) hx0 rfl ⟨hx0, hbf, hbc, hls, hlm, hlh, hrw, hpt, hin, hhr, hok⟩ hK hE va_S.rf rfl hl.1 rfl (Nat.le_of_ble_eq_true rfl) dX2_instruction_2 ⟨Nat.zero_le _, Nat.zero_le _⟩ (fun r hq9 => ?_)
  have hq9 : r = (xP u 0 j9) := hq9
  subst hq9
  refine lv_astore (lv' := [(4, .ref (xP u 0 j9)), (0, .ref (a 0)), (1, .int (nI j9)), (2, .int (nI i9)), (3, .int w)]) hx hb dX2_instruction_5 hl (by decide) rfl (fun ls hl => ?_)
  refine lv_iload_n hx hb dX2_instruction_7 rfl (lv_at hl 3 rfl) ?_
  refine z_ifn_lt (tgt := 21) hx hb (by omega) dX2_instruction_8 (by decide) ?_
  refine lv_iload_n hx hb dX2_instruction_11 rfl (lv_at hl 3 rfl) ?_
  refine lv_aload hx hb dX2_instruction_12 (lv_at hl 0 rfl) ?_
  refine z_get (ci := 1) (v := .ref (xP u 4 j9)) (C := RX0) (T := TX0) (N := 7) hx hb hts in1 hown hK (hpt j9 (by omega)).1.1 rfl 4 (by decide) fl142 (fun _ h9 => h9) rfl dX2_instruction_14 ?_
  refine z_alen (n := (manyN (rf (psN sg.2.2.1 j9).2.2) (psN sg.2.2.1 j9).2.1.length)) hx hb hK (hpt j9 (by omega)).1.2.2.1 dX2_instruction_17 ?_
  refine z_icmp_lt (tgt := 31) hx hb (by omega) (by omega) dX2_instruction_18 (by decide) (fun hc18 => ?_) (fun hc18 => ?_)
  · skip
    have hc18 : i9 < (manyN (rf (psN sg.2.2.1 j9).2.2) (psN sg.2.2.1 j9).2.1.length) := hc18
    refine lv_iload_n hx hb dX2_instruction_31 rfl (lv_at hl 4 rfl) ?_
    refine lv_if_lt (tgt := 40) hx hb dX2_instruction_32 (by decide) (fun hc32 => ?_) (fun hc32 => ?_)
    · skip
      have hc32 : w < 0 := hc32
      exact z_throw (cls := eIO) (text := "what is not 0 to 3") hx hb hl9 hown (by decide +kernel) (hts (.classLink RX2 75 eIO) (by decide +kernel)) (hts (.initialized eIO) (by decide +kernel)) at_IO ng_IO ot_IO (by decide) (by decide) hE (hl.1.trans hml.symm) dX2_instruction_40 dX2_instruction_43 dX2_instruction_44 dX2_instruction_46 dX2_instruction_49 hout (Nat.le_of_ble_eq_true rfl) (Nat.le_of_ble_eq_true rfl) (Nat.le_of_ble_eq_true rfl) (Nat.le_of_ble_eq_true rfl) hlocks (Nat.le_refl _) (Nat.le_refl _)
    · skip
      have hc32 : ¬ w < 0 := hc32
      refine lv_iload_n hx hb dX2_instruction_35 rfl (lv_at hl 4 rfl) ?_
      refine lv_iconst (v := nI 3) hx hb dX2_instruction_36 (by decide) ?_
      refine lv_icmp_le (tgt := 50) hx hb dX2_instruction_37 (by decide) (fun hc37 => ?_) (fun hc37 => ?_)
      · skip
        have hc37 : w ≤ (nI 3) := hc37
        exact absurd (hw.resolve_left hc32) (Int32.not_lt.mpr hc37)
      · skip
        have hc37 : ¬ w ≤ (nI 3) := hc37
        exact z_throw (cls := eIO) (text := "what is not 0 to 3") hx hb hl9 hown (by decide +kernel) (hts (.classLink RX2 75 eIO) (by decide +kernel)) (hts (.initialized eIO) (by decide +kernel)) at_IO ng_IO ot_IO (by decide) (by decide) hE (hl.1.trans hml.symm) dX2_instruction_40 dX2_instruction_43 dX2_instruction_44 dX2_instruction_46 dX2_instruction_49 hout (Nat.le_of_ble_eq_true rfl) (Nat.le_of_ble_eq_true rfl) (Nat.le_of_ble_eq_true rfl) (Nat.le_of_ble_eq_true rfl) hlocks (Nat.le_refl _) (Nat.le_refl _)
  · skip
    have hc18 : (manyN (rf (psN sg.2.2.1 j9).2.2) (psN sg.2.2.1 j9).2.1.length) ≤ i9 := hc18
    omega

set_option maxHeartbeats 4000000 in
set_option maxRecDepth 100000 in
theorem t_X2_apply_b (l : Launch) (hl9 : l.stackTraces = false) (D : va_G) (cs : Nat → ClassId) (S0 ea mi : Nat) (sa : Nat → Nat) (a : Nat → Nat) (u : XU) (sg : St) (j9 : Nat) (hj : j9 < sg.2.2.1.length) (v : Int32) (hv : v < 0 ∨ nI sg.2.1.length ≤ v) : vT l yX2_apply wsX2_apply ({ frames := 7, cells := 1, slots := 6, locals := 116 }) (zE [.ref (a 0), .int (nI j9), .int v] (fun H => XH D cs a u sg H) D cs S0 ea mi sa) eIO := by
  refine vx_ofW (cc := cX2_apply) (maxL := 5) (ret := (some .int)) (by decide) rfl ?_
  intro p e s m args below meth c s₁ B hml hout hv9
  obtain ⟨rfl, hPH, hK, hE⟩ := hv9
  have hx := B.exec
  have hb := B.bytes
  have hr := B.returns
  have hts := atoms_spec (ws := wsX2_apply) B.pre
  have hown : s.vm.findClass RX2 = some m.cls := findClass_of_methodNamed B.named
  have hlocks := B.notSynchronized
  have hPH : XH D cs a u sg s.heap := hPH
  obtain ⟨hx0, hbf, hbc, hls, hlm, hlh, hrw, hpt, hin, hhr, hok⟩ := hPH
  have hl := lv_entry ([.ref (a 0), .int (nI j9), .int v]) (n := 5) (Nat.le_of_ble_eq_true rfl)
  rw [lg_entry_eq]
  generalize (lg_sl ([.ref (a 0), .int (nI j9), .int v]) ++ List.replicate (5 - (lg_sl ([.ref (a 0), .int (nI j9), .int v])).length) Slot.unset).toArray = ls at hl ⊢
  have hl : lv_has ls 5 [(0, .ref (a 0)), (1, .int (nI j9)), (2, .int v)] := hl
  have hok4 := hok.2.1.1
  have hok5 := hok.2.2.1.1
  have hok6 := hok.2.2.2.2.1
  refine lv_aload_n hx hb dX2_apply_0 rfl (lv_at hl 0 rfl) ?_
  refine lv_iload_n hx hb dX2_apply_1 rfl (lv_at hl 1 rfl) ?_
  refine z_ceRV (As := [.int (nI j9)]) (rest := []) ⟨hx, hb, hml, hown, hts⟩ (c_X2_patchOf l D cs S0 ea mi sa a u sg j9 hj) (cwV 1 hts gX2_apply_X2_patchOf rfl rfl rfl (by decide +kernel) ⟨Nat.le_of_ble_eq_true rfl, Nat.le_of_ble_eq_true rfl⟩) hx0 rfl ⟨hx0, hbf, hbc, hls, hlm, hlh, hrw, hpt, hin, hhr, hok⟩ hK hE va_S.rf rfl hl.1 rfl (Nat.le_of_ble_eq_true rfl) dX2_apply_2 ⟨Nat.zero_le _, Nat.zero_le _⟩ (fun r hq9 => ?_)
  have hq9 : r = (xP u 0 j9) := hq9
  subst hq9
  refine lv_astore_n (lv' := [(3, .ref (xP u 0 j9)), (0, .ref (a 0)), (1, .int (nI j9)), (2, .int v)]) hx hb dX2_apply_5 rfl hl (by decide) rfl (fun ls hl => ?_)
  refine lv_aload_n hx hb dX2_apply_6 rfl (lv_at hl 1 rfl) ?_
  refine lv_iload_n hx hb dX2_apply_7 rfl (lv_at hl 3 rfl) ?_
  exact z_thr (vx_runV (As := [.int v]) (rest := []) ⟨hx, hb, hml, hown, hts⟩ (t_X2_rowOf l hl9 D cs S0 ea mi sa a u sg v hv) (cwV 1 hts gX2_apply_X2_rowOf rfl rfl rfl (by decide +kernel) ⟨Nat.le_of_ble_eq_true rfl, Nat.le_of_ble_eq_true rfl⟩) ⟨zE_blind, z_recv hK hx0 rfl, zE_pre ⟨hx0, hbf, hbc, hls, hlm, hlh, hrw, hpt, hin, hhr, hok⟩ hK hE va_S.rf⟩ rfl rfl hl.1 rfl (lv_room (Nat.le_of_ble_eq_true rfl)) dX2_apply_8 ⟨Nat.le_of_ble_eq_true rfl, Nat.le_of_ble_eq_true rfl⟩) hout hlocks (Nat.le_refl _) (Nat.le_refl _)

set_option maxHeartbeats 4000000 in
set_option maxRecDepth 100000 in
theorem t_X2_apply_c (l : Launch) (hl9 : l.stackTraces = false) (D : va_G) (cs : Nat → ClassId) (S0 ea mi : Nat) (sa : Nat → Nat) (a : Nat → Nat) (u : XU) (sg : St) (j9 : Nat) (hj : j9 < sg.2.2.1.length) (v9 : Nat) (hv9 : v9 < sg.2.1.length) (hne : eqL (vsN sg.2.1 v9) (psN sg.2.2.1 j9).1 = false) : vT l yX2_apply wsX2_apply ({ frames := 6, cells := 1, slots := 6, locals := 95 }) (zE [.ref (a 0), .int (nI j9), .int (nI v9)] (fun H => XH D cs a u sg H) D cs S0 ea mi sa) eIA := by
  refine vx_ofW (cc := cX2_apply) (maxL := 5) (ret := (some .int)) (by decide) rfl ?_
  intro p e s m args below meth c s₁ B hml hout hv9
  obtain ⟨rfl, hPH, hK, hE⟩ := hv9
  have hx := B.exec
  have hb := B.bytes
  have hr := B.returns
  have hts := atoms_spec (ws := wsX2_apply) B.pre
  have hown : s.vm.findClass RX2 = some m.cls := findClass_of_methodNamed B.named
  have hlocks := B.notSynchronized
  have at_IA : ∀ w ∈ (vx_atS RX2 49 eIA eNm).filter goodWord, w.before _ s = true := fun w hw => hts w ((show ∀ w ∈ (vx_atS RX2 49 eIA eNm).filter goodWord, w ∈ wsX2_apply by decide +kernel) w hw)
  have fl127 := hts (.fieldLink RX2 127 "DeltaUpdater$Patch" "base" "I") (by decide +kernel)
  have in1 : ∀ w ∈ u_ws RX0 TX0 7, w ∈ wsX2_apply := by decide +kernel
  have hPH : XH D cs a u sg s.heap := hPH
  obtain ⟨hx0, hbf, hbc, hls, hlm, hlh, hrw, hpt, hin, hhr, hok⟩ := hPH
  have hl := lv_entry ([.ref (a 0), .int (nI j9), .int (nI v9)]) (n := 5) (Nat.le_of_ble_eq_true rfl)
  rw [lg_entry_eq]
  generalize (lg_sl ([.ref (a 0), .int (nI j9), .int (nI v9)]) ++ List.replicate (5 - (lg_sl ([.ref (a 0), .int (nI j9), .int (nI v9)])).length) Slot.unset).toArray = ls at hl ⊢
  have hl : lv_has ls 5 [(0, .ref (a 0)), (1, .int (nI j9)), (2, .int (nI v9))] := hl
  have hok4 := hok.2.1.1
  have hok5 := hok.2.2.1.1
  have hok6 := hok.2.2.2.2.1
  have hb5 := (hpt j9 hj).2.1.1
  have hbe := (hpt j9 hj).2.1.2.1
  refine lv_aload_n hx hb dX2_apply_0 rfl (lv_at hl 0 rfl) ?_
  refine lv_iload_n hx hb dX2_apply_1 rfl (lv_at hl 1 rfl) ?_
  refine z_ceRV (As := [.int (nI j9)]) (rest := []) ⟨hx, hb, hml, hown, hts⟩ (c_X2_patchOf l D cs S0 ea mi sa a u sg j9 hj) (cwV 1 hts gX2_apply_X2_patchOf rfl rfl rfl (by decide +kernel) ⟨Nat.le_of_ble_eq_true rfl, Nat.le_of_ble_eq_true rfl⟩) hx0 rfl ⟨hx0, hbf, hbc, hls, hlm, hlh, hrw, hpt, hin, hhr, hok⟩ hK hE va_S.rf rfl hl.1 rfl (Nat.le_of_ble_eq_true rfl) dX2_apply_2 ⟨Nat.zero_le _, Nat.zero_le _⟩ (fun r hq9 => ?_)
  have hq9 : r = (xP u 0 j9) := hq9
  subst hq9
  refine lv_astore_n (lv' := [(3, .ref (xP u 0 j9)), (0, .ref (a 0)), (1, .int (nI j9)), (2, .int (nI v9))]) hx hb dX2_apply_5 rfl hl (by decide) rfl (fun ls hl => ?_)
  refine lv_aload_n hx hb dX2_apply_6 rfl (lv_at hl 1 rfl) ?_
  refine lv_iload_n hx hb dX2_apply_7 rfl (lv_at hl 3 rfl) ?_
  refine z_ceRV (As := [.int (nI v9)]) (rest := []) ⟨hx, hb, hml, hown, hts⟩ (c_X2_rowOf l D cs S0 ea mi sa a u sg v9 hv9) (cwV 1 hts gX2_apply_X2_rowOf rfl rfl rfl (by decide +kernel) ⟨Nat.le_of_ble_eq_true rfl, Nat.le_of_ble_eq_true rfl⟩) hx0 rfl ⟨hx0, hbf, hbc, hls, hlm, hlh, hrw, hpt, hin, hhr, hok⟩ hK hE va_S.rf rfl hl.1 rfl (Nat.le_of_ble_eq_true rfl) dX2_apply_8 ⟨Nat.zero_le _, Nat.zero_le _⟩ (fun r hq9 => ?_)
  have hq9 : r = (xR u 0 v9) := hq9
  subst hq9
  refine lv_astore (lv' := [(4, .ref (xR u 0 v9)), (3, .ref (xP u 0 j9)), (0, .ref (a 0)), (1, .int (nI j9)), (2, .int (nI v9))]) hx hb dX2_apply_11 hl (by decide) rfl (fun ls hl => ?_)
  refine lv_aload hx hb dX2_apply_13 (lv_at hl 0 rfl) ?_
  refine lv_aload_n hx hb dX2_apply_15 rfl (lv_at hl 2 rfl) ?_
  refine lv_aload_n hx hb dX2_apply_16 rfl (lv_at hl 1 rfl) ?_
  refine z_get (ci := 1) (v := .int (nI (xP u 5 j9))) (C := RX0) (T := TX0) (N := 7) hx hb hts in1 hown hK (hpt j9 (by omega)).1.1 rfl 0 (by decide) fl127 (fun _ h9 => h9) rfl dX2_apply_17 ?_
  refine z_ceRV (As := [.int (nI (xP u 5 j9))]) (rest := [.ref (xR u 0 v9)]) ⟨hx, hb, hml, hown, hts⟩ (c_X2_rowOf l D cs S0 ea mi sa a u sg (xP u 5 j9) hb5) (cwV 1 hts gX2_apply_X2_rowOf rfl rfl rfl (by decide +kernel) ⟨Nat.le_of_ble_eq_true rfl, Nat.le_of_ble_eq_true rfl⟩) hx0 rfl ⟨hx0, hbf, hbc, hls, hlm, hlh, hrw, hpt, hin, hhr, hok⟩ hK hE va_S.rf rfl hl.1 rfl (Nat.le_of_ble_eq_true rfl) dX2_apply_20 ⟨Nat.zero_le _, Nat.zero_le _⟩ (fun r hq9 => ?_)
  have hq9 : r = (xR u 0 (xP u 5 j9)) := hq9
  subst hq9
  refine z_csV (As := [.ref (xR u 0 (xP u 5 j9))]) (rest := []) ⟨hx, hb, hml, hown, hts⟩ (c_X1_hasBytesOf l D cs (xR u 0 v9) (xR u 1 v9) (xR u 0 (xP u 5 j9)) (xR u 1 (xP u 5 j9)) (vsN sg.2.1 v9).length (vsN sg.2.1 (xP u 5 j9)).length (bb (vsN sg.2.1 v9)) (bb (vsN sg.2.1 (xP u 5 j9))) (by have := (hok.2.1.2 v9 (by omega)).1; omega) (by have := (hok.2.1.2 (xP u 5 j9) (by omega)).1; omega)) (cwV 1 hts gX2_apply_X1_hasBytesOf rfl rfl rfl (by decide +kernel) ⟨Nat.le_of_ble_eq_true rfl, Nat.le_of_ble_eq_true rfl⟩) (hrw v9 (by omega)).1 rfl ⟨(hrw v9 (by omega)).1, (hrw v9 (by omega)).2, (hrw (xP u 5 j9) (by omega)).1, (hrw (xP u 5 j9) (by omega)).2⟩ hK rfl hl.1 rfl (Nat.le_of_ble_eq_true rfl) dX2_apply_23 ⟨Nat.zero_le _, Nat.zero_le _⟩ (fun r hq9 => ?_)
  have hq9 : r = bI (eqL (vsN sg.2.1 v9) (vsN sg.2.1 (xP u 5 j9))) := hq9
  subst hq9
  refine z_ifb_ne (tgt := 39) hx hb dX2_apply_26 (by decide) (fun hc26 => ?_) (fun hc26 => ?_)
  · skip
    have hc26 : (eqL (vsN sg.2.1 v9) (vsN sg.2.1 (xP u 5 j9))) = true := hc26
    rw [hbe] at hc26; exact absurd (hc26.symm.trans hne) (by decide)
  · skip
    have hc26 : (eqL (vsN sg.2.1 v9) (vsN sg.2.1 (xP u 5 j9))) = false := hc26
    exact z_throw (cls := eIA) (text := "the version does not have the bytes of the base") hx hb hl9 hown (by decide +kernel) (hts (.classLink RX2 45 eIA) (by decide +kernel)) (hts (.initialized eIA) (by decide +kernel)) at_IA ng_IA ot_IA (by decide) (by decide) hE (hl.1.trans hml.symm) dX2_apply_29 dX2_apply_32 dX2_apply_33 dX2_apply_35 dX2_apply_38 hout (Nat.le_of_ble_eq_true rfl) (Nat.le_of_ble_eq_true rfl) (Nat.le_of_ble_eq_true rfl) (Nat.le_of_ble_eq_true rfl) hlocks (Nat.le_refl _) (Nat.le_refl _)

set_option maxHeartbeats 4000000 in
set_option maxRecDepth 100000 in
theorem t_X2_apply_d (l : Launch) (hl9 : l.stackTraces = false) (D : va_G) (cs : Nat → ClassId) (S0 ea mi : Nat) (sa : Nat → Nat) (a : Nat → Nat) (u : XU) (sg : St) (j9 : Nat) (hj : j9 < sg.2.2.1.length) (v9 : Nat) (hv9 : v9 < sg.2.1.length) (hee : eqL (vsN sg.2.1 v9) (psN sg.2.2.1 j9).1 = true) (hfull : 12 ≤ sg.2.1.length) : vT l yX2_apply wsX2_apply ({ frames := 7, cells := 1, slots := 6, locals := 115 }) (zE [.ref (a 0), .int (nI j9), .int (nI v9)] (fun H => XH D cs a u sg H) D cs S0 ea mi sa) eIS := by
  refine vx_ofW (cc := cX2_apply) (maxL := 5) (ret := (some .int)) (by decide) rfl ?_
  intro p e s m args below meth c s₁ B hml hout hv9
  obtain ⟨rfl, hPH, hK, hE⟩ := hv9
  have hx := B.exec
  have hb := B.bytes
  have hr := B.returns
  have hts := atoms_spec (ws := wsX2_apply) B.pre
  have hown : s.vm.findClass RX2 = some m.cls := findClass_of_methodNamed B.named
  have hlocks := B.notSynchronized
  have fl127 := hts (.fieldLink RX2 127 "DeltaUpdater$Patch" "base" "I") (by decide +kernel)
  have in1 : ∀ w ∈ u_ws RX0 TX0 7, w ∈ wsX2_apply := by decide +kernel
  have hPH : XH D cs a u sg s.heap := hPH
  obtain ⟨hx0, hbf, hbc, hls, hlm, hlh, hrw, hpt, hin, hhr, hok⟩ := hPH
  have hl := lv_entry ([.ref (a 0), .int (nI j9), .int (nI v9)]) (n := 5) (Nat.le_of_ble_eq_true rfl)
  rw [lg_entry_eq]
  generalize (lg_sl ([.ref (a 0), .int (nI j9), .int (nI v9)]) ++ List.replicate (5 - (lg_sl ([.ref (a 0), .int (nI j9), .int (nI v9)])).length) Slot.unset).toArray = ls at hl ⊢
  have hl : lv_has ls 5 [(0, .ref (a 0)), (1, .int (nI j9)), (2, .int (nI v9))] := hl
  have hok4 := hok.2.1.1
  have hok5 := hok.2.2.1.1
  have hok6 := hok.2.2.2.2.1
  have hb5 := (hpt j9 hj).2.1.1
  have hbe := (hpt j9 hj).2.1.2.1
  refine lv_aload_n hx hb dX2_apply_0 rfl (lv_at hl 0 rfl) ?_
  refine lv_iload_n hx hb dX2_apply_1 rfl (lv_at hl 1 rfl) ?_
  refine z_ceRV (As := [.int (nI j9)]) (rest := []) ⟨hx, hb, hml, hown, hts⟩ (c_X2_patchOf l D cs S0 ea mi sa a u sg j9 hj) (cwV 1 hts gX2_apply_X2_patchOf rfl rfl rfl (by decide +kernel) ⟨Nat.le_of_ble_eq_true rfl, Nat.le_of_ble_eq_true rfl⟩) hx0 rfl ⟨hx0, hbf, hbc, hls, hlm, hlh, hrw, hpt, hin, hhr, hok⟩ hK hE va_S.rf rfl hl.1 rfl (Nat.le_of_ble_eq_true rfl) dX2_apply_2 ⟨Nat.zero_le _, Nat.zero_le _⟩ (fun r hq9 => ?_)
  have hq9 : r = (xP u 0 j9) := hq9
  subst hq9
  refine lv_astore_n (lv' := [(3, .ref (xP u 0 j9)), (0, .ref (a 0)), (1, .int (nI j9)), (2, .int (nI v9))]) hx hb dX2_apply_5 rfl hl (by decide) rfl (fun ls hl => ?_)
  refine lv_aload_n hx hb dX2_apply_6 rfl (lv_at hl 1 rfl) ?_
  refine lv_iload_n hx hb dX2_apply_7 rfl (lv_at hl 3 rfl) ?_
  refine z_ceRV (As := [.int (nI v9)]) (rest := []) ⟨hx, hb, hml, hown, hts⟩ (c_X2_rowOf l D cs S0 ea mi sa a u sg v9 hv9) (cwV 1 hts gX2_apply_X2_rowOf rfl rfl rfl (by decide +kernel) ⟨Nat.le_of_ble_eq_true rfl, Nat.le_of_ble_eq_true rfl⟩) hx0 rfl ⟨hx0, hbf, hbc, hls, hlm, hlh, hrw, hpt, hin, hhr, hok⟩ hK hE va_S.rf rfl hl.1 rfl (Nat.le_of_ble_eq_true rfl) dX2_apply_8 ⟨Nat.zero_le _, Nat.zero_le _⟩ (fun r hq9 => ?_)
  have hq9 : r = (xR u 0 v9) := hq9
  subst hq9
  refine lv_astore (lv' := [(4, .ref (xR u 0 v9)), (3, .ref (xP u 0 j9)), (0, .ref (a 0)), (1, .int (nI j9)), (2, .int (nI v9))]) hx hb dX2_apply_11 hl (by decide) rfl (fun ls hl => ?_)
  refine lv_aload hx hb dX2_apply_13 (lv_at hl 0 rfl) ?_
  refine lv_aload_n hx hb dX2_apply_15 rfl (lv_at hl 2 rfl) ?_
  refine lv_aload_n hx hb dX2_apply_16 rfl (lv_at hl 1 rfl) ?_
  refine z_get (ci := 1) (v := .int (nI (xP u 5 j9))) (C := RX0) (T := TX0) (N := 7) hx hb hts in1 hown hK (hpt j9 (by omega)).1.1 rfl 0 (by decide) fl127 (fun _ h9 => h9) rfl dX2_apply_17 ?_
  refine z_ceRV (As := [.int (nI (xP u 5 j9))]) (rest := [.ref (xR u 0 v9)]) ⟨hx, hb, hml, hown, hts⟩ (c_X2_rowOf l D cs S0 ea mi sa a u sg (xP u 5 j9) hb5) (cwV 1 hts gX2_apply_X2_rowOf rfl rfl rfl (by decide +kernel) ⟨Nat.le_of_ble_eq_true rfl, Nat.le_of_ble_eq_true rfl⟩) hx0 rfl ⟨hx0, hbf, hbc, hls, hlm, hlh, hrw, hpt, hin, hhr, hok⟩ hK hE va_S.rf rfl hl.1 rfl (Nat.le_of_ble_eq_true rfl) dX2_apply_20 ⟨Nat.zero_le _, Nat.zero_le _⟩ (fun r hq9 => ?_)
  have hq9 : r = (xR u 0 (xP u 5 j9)) := hq9
  subst hq9
  refine z_csV (As := [.ref (xR u 0 (xP u 5 j9))]) (rest := []) ⟨hx, hb, hml, hown, hts⟩ (c_X1_hasBytesOf l D cs (xR u 0 v9) (xR u 1 v9) (xR u 0 (xP u 5 j9)) (xR u 1 (xP u 5 j9)) (vsN sg.2.1 v9).length (vsN sg.2.1 (xP u 5 j9)).length (bb (vsN sg.2.1 v9)) (bb (vsN sg.2.1 (xP u 5 j9))) (by have := (hok.2.1.2 v9 (by omega)).1; omega) (by have := (hok.2.1.2 (xP u 5 j9) (by omega)).1; omega)) (cwV 1 hts gX2_apply_X1_hasBytesOf rfl rfl rfl (by decide +kernel) ⟨Nat.le_of_ble_eq_true rfl, Nat.le_of_ble_eq_true rfl⟩) (hrw v9 (by omega)).1 rfl ⟨(hrw v9 (by omega)).1, (hrw v9 (by omega)).2, (hrw (xP u 5 j9) (by omega)).1, (hrw (xP u 5 j9) (by omega)).2⟩ hK rfl hl.1 rfl (Nat.le_of_ble_eq_true rfl) dX2_apply_23 ⟨Nat.zero_le _, Nat.zero_le _⟩ (fun r hq9 => ?_)
  have hq9 : r = bI (eqL (vsN sg.2.1 v9) (vsN sg.2.1 (xP u 5 j9))) := hq9
  subst hq9
  refine z_ifb_ne (tgt := 39) hx hb dX2_apply_26 (by decide) (fun hc26 => ?_) (fun hc26 => ?_)
  · skip
    have hc26 : (eqL (vsN sg.2.1 v9) (vsN sg.2.1 (xP u 5 j9))) = true := hc26
    refine lv_aload_n hx hb dX2_apply_39 rfl (lv_at hl 2 rfl) ?_
    exact z_thr (vx_runV (As := []) (rest := []) ⟨hx, hb, hml, hown, hts⟩ (t_X2_checkRoomForVersion l hl9 D cs S0 ea mi sa a u sg hfull) (cwV 0 hts gX2_apply_X2_checkRoomForVersion rfl rfl rfl (by decide +kernel) ⟨Nat.le_of_ble_eq_true rfl, Nat.le_of_ble_eq_true rfl⟩) ⟨zE_blind, z_recv hK hx0 rfl, zE_pre ⟨hx0, hbf, hbc, hls, hlm, hlh, hrw, hpt, hin, hhr, hok⟩ hK hE va_S.rf⟩ rfl rfl hl.1 rfl (lv_room (Nat.le_of_ble_eq_true rfl)) dX2_apply_40 ⟨Nat.le_of_ble_eq_true rfl, Nat.le_of_ble_eq_true rfl⟩) hout hlocks (Nat.le_refl _) (Nat.le_refl _)
  · skip
    have hc26 : (eqL (vsN sg.2.1 v9) (vsN sg.2.1 (xP u 5 j9))) = false := hc26
    rw [hbe] at hc26; exact absurd (hc26.symm.trans hee) (by decide)

set_option maxHeartbeats 4000000 in
set_option maxRecDepth 100000 in
theorem t_X2_firstLike (l : Launch) (hl9 : l.stackTraces = false) (D : va_G) (cs : Nat → ClassId) (S0 ea mi : Nat) (sa : Nat → Nat) (a : Nat → Nat) (u : XU) (sg : St) (v : Int32) (hv : v < 0 ∨ nI sg.2.1.length ≤ v) : vT l yX2_firstLike wsX2_firstLike ({ frames := 7, cells := 1, slots := 6, locals := 116 }) (zE [.ref (a 0), .int v] (fun H => XH D cs a u sg H) D cs S0 ea mi sa) eIO := by
  refine vx_ofW (cc := cX2_firstLike) (maxL := 4) (ret := (some .int)) (by decide) rfl ?_
  intro p e s m args below meth c s₁ B hml hout hv9
  obtain ⟨rfl, hPH, hK, hE⟩ := hv9
  have hx := B.exec
  have hb := B.bytes
  have hr := B.returns
  have hts := atoms_spec (ws := wsX2_firstLike) B.pre
  have hown : s.vm.findClass RX2 = some m.cls := findClass_of_methodNamed B.named
  have hlocks := B.notSynchronized
  have hPH : XH D cs a u sg s.heap := hPH
  obtain ⟨hx0, hbf, hbc, hls, hlm, hlh, hrw, hpt, hin, hhr, hok⟩ := hPH
  have hl := lv_entry ([.ref (a 0), .int v]) (n := 4) (Nat.le_of_ble_eq_true rfl)
  rw [lg_entry_eq]
  generalize (lg_sl ([.ref (a 0), .int v]) ++ List.replicate (4 - (lg_sl ([.ref (a 0), .int v])).length) Slot.unset).toArray = ls at hl ⊢
  have hl : lv_has ls 4 [(0, .ref (a 0)), (1, .int v)] := hl
  have hok4 := hok.2.1.1
  have hok5 := hok.2.2.1.1
  have hok6 := hok.2.2.2.2.1
  refine lv_aload_n hx hb dX2_firstLike_0 rfl (lv_at hl 0 rfl) ?_
  refine lv_iload_n hx hb dX2_firstLike_1 rfl (lv_at hl 1 rfl) ?_
  exact z_thr (vx_runV (As := [.int v]) (rest := []) ⟨hx, hb, hml, hown, hts⟩ (t_X2_rowOf l hl9 D cs S0 ea mi sa a u sg v hv) (cwV 1 hts gX2_firstLike_X2_rowOf rfl rfl rfl (by decide +kernel) ⟨Nat.le_of_ble_eq_true rfl, Nat.le_of_ble_eq_true rfl⟩) ⟨zE_blind, z_recv hK hx0 rfl, zE_pre ⟨hx0, hbf, hbc, hls, hlm, hlh, hrw, hpt, hin, hhr, hok⟩ hK hE va_S.rf⟩ rfl rfl hl.1 rfl (lv_room (Nat.le_of_ble_eq_true rfl)) dX2_firstLike_2 ⟨Nat.le_of_ble_eq_true rfl, Nat.le_of_ble_eq_true rfl⟩) hout hlocks (Nat.le_refl _) (Nat.le_refl _)

set_option maxHeartbeats 4000000 in
set_option maxRecDepth 100000 in
theorem t_X2_leastWay_a (l : Launch) (hl9 : l.stackTraces = false) (D : va_G) (cs : Nat → ClassId) (S0 ea mi : Nat) (sa : Nat → Nat) (a : Nat → Nat) (u : XU) (sg : St) (v : Int32) (hv : v < 0 ∨ nI sg.2.1.length ≤ v) (w z : Int32) : vT l yX2_leastWay wsX2_leastWay ({ frames := 8, cells := 1, slots := 6, locals := 139 }) (zE [.ref (a 0), .int v, .int w, .int z] (fun H => XH D cs a u sg H) D cs S0 ea mi sa) eIO := by
  refine vx_ofW (cc := cX2_leastWay) (maxL := 9) (ret := (some .int)) (by decide) rfl ?_
  intro p e s m args below meth c s₁ B hml hout hv9
  obtain ⟨rfl, hPH, hK, hE⟩ := hv9
  have hx := B.exec
  have hb := B.bytes
  have hr := B.returns
  have hts := atoms_spec (ws := wsX2_leastWay) B.pre
  have hown : s.vm.findClass RX2 = some m.cls := findClass_of_methodNamed B.named
  have hlocks := B.notSynchronized
  have hPH : XH D cs a u sg s.heap := hPH
  obtain ⟨hx0, hbf, hbc, hls, hlm, hlh, hrw, hpt, hin, hhr, hok⟩ := hPH
  have hl := lv_entry ([.ref (a 0), .int v, .int w, .int z]) (n := 9) (Nat.le_of_ble_eq_true rfl)
  rw [lg_entry_eq]
  generalize (lg_sl ([.ref (a 0), .int v, .int w, .int z]) ++ List.replicate (9 - (lg_sl ([.ref (a 0), .int v, .int w, .int z])).length) Slot.unset).toArray = ls at hl ⊢
  have hl : lv_has ls 9 [(0, .ref (a 0)), (1, .int v), (2, .int w), (3, .int z)] := hl
  have hok4 := hok.2.1.1
  have hok5 := hok.2.2.1.1
  have hok6 := hok.2.2.2.2.1
  refine lv_aload_n hx hb dX2_leastWay_0 rfl (lv_at hl 0 rfl) ?_
  refine lv_iload_n hx hb dX2_leastWay_1 rfl (lv_at hl 1 rfl) ?_
  exact z_thr (vx_runV (As := [.int v]) (rest := []) ⟨hx, hb, hml, hown, hts⟩ (t_X2_firstLike l hl9 D cs S0 ea mi sa a u sg v hv) (cwV 1 hts gX2_leastWay_X2_firstLike rfl rfl rfl (by decide +kernel) ⟨Nat.le_of_ble_eq_true rfl, Nat.le_of_ble_eq_true rfl⟩) ⟨zE_blind, z_recv hK hx0 rfl, zE_pre ⟨hx0, hbf, hbc, hls, hlm, hlh, hrw, hpt, hin, hhr, hok⟩ hK hE va_S.rf⟩ rfl rfl hl.1 rfl (lv_room (Nat.le_of_ble_eq_true rfl)) dX2_leastWay_2 ⟨Nat.le_of_ble_eq_true rfl, Nat.le_of_ble_eq_true rfl⟩) hout hlocks (Nat.le_refl _) (Nat.le_refl _)

set_option maxHeartbeats 4000000 in
set_option maxRecDepth 100000 in
theorem t_X2_leastWay_b (l : Launch) (hl9 : l.stackTraces = false) (D : va_G) (cs : Nat → ClassId) (S0 ea mi : Nat) (sa : Nat → Nat) (a : Nat → Nat) (u : XU) (sg : St) (v9 : Nat) (hv9 : v9 < sg.2.1.length) (v : Int32) (hv : v < 0 ∨ nI sg.2.1.length ≤ v) (z : Int32) : vT l yX2_leastWay wsX2_leastWay ({ frames := 8, cells := 1, slots := 6, locals := 139 }) (zE [.ref (a 0), .int (nI v9), .int v, .int z] (fun H => XH D cs a u sg H) D cs S0 ea mi sa) eIO := by
  refine vx_ofW (cc := cX2_leastWay) (maxL := 9) (ret := (some .int)) (by decide) rfl ?_
  intro p e s m args below meth c s₁ B hml hout hv9
  obtain ⟨rfl, hPH, hK, hE⟩ := hv9
  have hx := B.exec
  have hb := B.bytes
  have hr := B.returns
  have hts := atoms_spec (ws := wsX2_leastWay) B.pre
  have hown : s.vm.findClass RX2 = some m.cls := findClass_of_methodNamed B.named
  have hlocks := B.notSynchronized
  have hPH : XH D cs a u sg s.heap := hPH
  obtain ⟨hx0, hbf, hbc, hls, hlm, hlh, hrw, hpt, hin, hhr, hok⟩ := hPH
  have hl := lv_entry ([.ref (a 0), .int (nI v9), .int v, .int z]) (n := 9) (Nat.le_of_ble_eq_true rfl)
  rw [lg_entry_eq]
  generalize (lg_sl ([.ref (a 0), .int (nI v9), .int v, .int z]) ++ List.replicate (9 - (lg_sl ([.ref (a 0), .int (nI v9), .int v, .int z])).length) Slot.unset).toArray = ls at hl ⊢
  have hl : lv_has ls 9 [(0, .ref (a 0)), (1, .int (nI v9)), (2, .int v), (3, .int z)] := hl
  have hok4 := hok.2.1.1
  have hok5 := hok.2.2.1.1
  have hok6 := hok.2.2.2.2.1
  refine lv_aload_n hx hb dX2_leastWay_0 rfl (lv_at hl 0 rfl) ?_
  refine lv_iload_n hx hb dX2_leastWay_1 rfl (lv_at hl 1 rfl) ?_
  refine z_ceV (As := [.int (nI v9)]) (rest := []) ⟨hx, hb, hml, hown, hts⟩ (c_X2_firstLike l D cs S0 ea mi sa a u sg v9 hv9) (cwV 1 hts gX2_leastWay_X2_firstLike rfl rfl rfl (by decide +kernel) ⟨Nat.le_of_ble_eq_true rfl, Nat.le_of_ble_eq_true rfl⟩) hx0 rfl ⟨hx0, hbf, hbc, hls, hlm, hlh, hrw, hpt, hin, hhr, hok⟩ hK hE va_S.rf rfl hl.1 rfl (Nat.le_of_ble_eq_true rfl) dX2_leastWay_2 ⟨Nat.zero_le _, Nat.zero_le _⟩ (fun r hq9 => ?_)
  have hq9 : r = nI (flN sg.2.1 v9) := hq9
  subst hq9
  refine lv_istore (lv' := [(4, .int (nI (flN sg.2.1 v9))), (0, .ref (a 0)), (1, .int (nI v9)), (2, .int v), (3, .int z)]) hx hb dX2_leastWay_5 hl (by decide) rfl (fun ls hl => ?_)
  refine lv_aload_n hx hb dX2_leastWay_7 rfl (lv_at hl 1 rfl) ?_
  refine lv_iload_n hx hb dX2_leastWay_8 rfl (lv_at hl 3 rfl) ?_
  exact z_thr (vx_runV (As := [.int v]) (rest := []) ⟨hx, hb, hml, hown, hts⟩ (t_X2_firstLike l hl9 D cs S0 ea mi sa a u sg v hv) (cwV 1 hts gX2_leastWay_X2_firstLike rfl rfl rfl (by decide +kernel) ⟨Nat.le_of_ble_eq_true rfl, Nat.le_of_ble_eq_true rfl⟩) ⟨zE_blind, z_recv hK hx0 rfl, zE_pre ⟨hx0, hbf, hbc, hls, hlm, hlh, hrw, hpt, hin, hhr, hok⟩ hK hE va_S.rf⟩ rfl rfl hl.1 rfl (lv_room (Nat.le_of_ble_eq_true rfl)) dX2_leastWay_9 ⟨Nat.le_of_ble_eq_true rfl, Nat.le_of_ble_eq_true rfl⟩) hout hlocks (Nat.le_refl _) (Nat.le_refl _)

set_option maxHeartbeats 4000000 in
set_option maxRecDepth 100000 in
theorem t_X2_steps_a (l : Launch) (hl9 : l.stackTraces = false) (D : va_G) (cs : Nat → ClassId) (S0 ea mi : Nat) (sa : Nat → Nat) (a : Nat → Nat) (u : XU) (sg : St) (v : Int32) (hv : v < 0 ∨ nI sg.2.1.length ≤ v) (w : Int32) : vT l yX2_steps wsX2_steps ({ frames := 9, cells := 1, slots := 6, locals := 167 }) (zE [.ref (a 0), .int v, .int w] (fun H => XH D cs a u sg H) D cs S0 ea mi sa) eIO := by
  refine vx_ofW (cc := cX2_steps) (maxL := 3) (ret := (some .int)) (by decide) rfl ?_
  intro p e s m args below meth c s₁ B hml hout hv9
  obtain ⟨rfl, hPH, hK, hE⟩ := hv9
  have hx := B.exec
  have hb := B.bytes
  have hr := B.returns
  have hts := atoms_spec (ws := wsX2_steps) B.pre
  have hown : s.vm.findClass RX2 = some m.cls := findClass_of_methodNamed B.named
  have hlocks := B.notSynchronized
  have hPH : XH D cs a u sg s.heap := hPH
  obtain ⟨hx0, hbf, hbc, hls, hlm, hlh, hrw, hpt, hin, hhr, hok⟩ := hPH
  have hl := lv_entry ([.ref (a 0), .int v, .int w]) (n := 3) (Nat.le_of_ble_eq_true rfl)
  rw [lg_entry_eq]
  generalize (lg_sl ([.ref (a 0), .int v, .int w]) ++ List.replicate (3 - (lg_sl ([.ref (a 0), .int v, .int w])).length) Slot.unset).toArray = ls at hl ⊢
  have hl : lv_has ls 3 [(0, .ref (a 0)), (1, .int v), (2, .int w)] := hl
  have hok4 := hok.2.1.1
  have hok5 := hok.2.2.1.1
  have hok6 := hok.2.2.2.2.1
  refine lv_aload_n hx hb dX2_steps_0 rfl (lv_at hl 0 rfl) ?_
  refine lv_iload_n hx hb dX2_steps_1 rfl (lv_at hl 1 rfl) ?_
  refine lv_iload_n hx hb dX2_steps_2 rfl (lv_at hl 2 rfl) ?_
  refine lv_iconst (v := nI 0) hx hb dX2_steps_3 (by decide) ?_
  exact z_thr (vx_runV (As := [.int v, .int w, .int (nI 0)]) (rest := []) ⟨hx, hb, hml, hown, hts⟩ (t_X2_leastWay_a l hl9 D cs S0 ea mi sa a u sg v hv w (nI 0)) (cwV 3 hts gX2_steps_X2_leastWay rfl rfl rfl (by decide +kernel) ⟨Nat.le_of_ble_eq_true rfl, Nat.le_of_ble_eq_true rfl⟩) ⟨zE_blind, z_recv hK hx0 rfl, zE_pre ⟨hx0, hbf, hbc, hls, hlm, hlh, hrw, hpt, hin, hhr, hok⟩ hK hE va_S.rf⟩ rfl rfl hl.1 rfl (lv_room (Nat.le_of_ble_eq_true rfl)) dX2_steps_4 ⟨Nat.le_of_ble_eq_true rfl, Nat.le_of_ble_eq_true rfl⟩) hout hlocks (Nat.le_refl _) (Nat.le_refl _)

set_option maxHeartbeats 4000000 in
set_option maxRecDepth 100000 in
theorem t_X2_steps_b (l : Launch) (hl9 : l.stackTraces = false) (D : va_G) (cs : Nat → ClassId) (S0 ea mi : Nat) (sa : Nat → Nat) (a : Nat → Nat) (u : XU) (sg : St) (v9 : Nat) (hv9 : v9 < sg.2.1.length) (v : Int32) (hv : v < 0 ∨ nI sg.2.1.length ≤ v) : vT l yX2_steps wsX2_steps ({ frames := 9, cells := 1, slots := 6, locals := 167 }) (zE [.ref (a 0), .int (nI v9), .int v] (fun H => XH D cs a u sg H) D cs S0 ea mi sa) eIO := by
  refine vx_ofW (cc := cX2_steps) (maxL := 3) (ret := (some .int)) (by decide) rfl ?_
  intro p e s m args below meth c s₁ B hml hout hv9
  obtain ⟨rfl, hPH, hK, hE⟩ := hv9
  have hx := B.exec
  have hb := B.bytes
  have hr := B.returns
  have hts := atoms_spec (ws := wsX2_steps) B.pre
  have hown : s.vm.findClass RX2 = some m.cls := findClass_of_methodNamed B.named
  have hlocks := B.notSynchronized
  have hPH : XH D cs a u sg s.heap := hPH
  obtain ⟨hx0, hbf, hbc, hls, hlm, hlh, hrw, hpt, hin, hhr, hok⟩ := hPH
  have hl := lv_entry ([.ref (a 0), .int (nI v9), .int v]) (n := 3) (Nat.le_of_ble_eq_true rfl)
  rw [lg_entry_eq]
  generalize (lg_sl ([.ref (a 0), .int (nI v9), .int v]) ++ List.replicate (3 - (lg_sl ([.ref (a 0), .int (nI v9), .int v])).length) Slot.unset).toArray = ls at hl ⊢
  have hl : lv_has ls 3 [(0, .ref (a 0)), (1, .int (nI v9)), (2, .int v)] := hl
  have hok4 := hok.2.1.1
  have hok5 := hok.2.2.1.1
  have hok6 := hok.2.2.2.2.1
  refine lv_aload_n hx hb dX2_steps_0 rfl (lv_at hl 0 rfl) ?_
  refine lv_iload_n hx hb dX2_steps_1 rfl (lv_at hl 1 rfl) ?_
  refine lv_iload_n hx hb dX2_steps_2 rfl (lv_at hl 2 rfl) ?_
  refine lv_iconst (v := nI 0) hx hb dX2_steps_3 (by decide) ?_
  exact z_thr (vx_runV (As := [.int (nI v9), .int v, .int (nI 0)]) (rest := []) ⟨hx, hb, hml, hown, hts⟩ (t_X2_leastWay_b l hl9 D cs S0 ea mi sa a u sg v9 hv9 v hv (nI 0)) (cwV 3 hts gX2_steps_X2_leastWay rfl rfl rfl (by decide +kernel) ⟨Nat.le_of_ble_eq_true rfl, Nat.le_of_ble_eq_true rfl⟩) ⟨zE_blind, z_recv hK hx0 rfl, zE_pre ⟨hx0, hbf, hbc, hls, hlm, hlh, hrw, hpt, hin, hhr, hok⟩ hK hE va_S.rf⟩ rfl rfl hl.1 rfl (lv_room (Nat.le_of_ble_eq_true rfl)) dX2_steps_4 ⟨Nat.le_of_ble_eq_true rfl, Nat.le_of_ble_eq_true rfl⟩) hout hlocks (Nat.le_refl _) (Nat.le_refl _)

set_option maxHeartbeats 4000000 in
set_option maxRecDepth 100000 in
theorem t_X2_leastCost_a (l : Launch) (hl9 : l.stackTraces = false) (D : va_G) (cs : Nat → ClassId) (S0 ea mi : Nat) (sa : Nat → Nat) (a : Nat → Nat) (u : XU) (sg : St) (v : Int32) (hv : v < 0 ∨ nI sg.2.1.length ≤ v) (w : Int32) : vT l yX2_leastCost wsX2_leastCost ({ frames := 9, cells := 1, slots := 6, locals := 167 }) (zE [.ref (a 0), .int v, .int w] (fun H => XH D cs a u sg H) D cs S0 ea mi sa) eIO := by
  refine vx_ofW (cc := cX2_leastCost) (maxL := 3) (ret := (some .int)) (by decide) rfl ?_
  intro p e s m args below meth c s₁ B hml hout hv9
  obtain ⟨rfl, hPH, hK, hE⟩ := hv9
  have hx := B.exec
  have hb := B.bytes
  have hr := B.returns
  have hts := atoms_spec (ws := wsX2_leastCost) B.pre
  have hown : s.vm.findClass RX2 = some m.cls := findClass_of_methodNamed B.named
  have hlocks := B.notSynchronized
  have hPH : XH D cs a u sg s.heap := hPH
  obtain ⟨hx0, hbf, hbc, hls, hlm, hlh, hrw, hpt, hin, hhr, hok⟩ := hPH
  have hl := lv_entry ([.ref (a 0), .int v, .int w]) (n := 3) (Nat.le_of_ble_eq_true rfl)
  rw [lg_entry_eq]
  generalize (lg_sl ([.ref (a 0), .int v, .int w]) ++ List.replicate (3 - (lg_sl ([.ref (a 0), .int v, .int w])).length) Slot.unset).toArray = ls at hl ⊢
  have hl : lv_has ls 3 [(0, .ref (a 0)), (1, .int v), (2, .int w)] := hl
  have hok4 := hok.2.1.1
  have hok5 := hok.2.2.1.1
  have hok6 := hok.2.2.2.2.1
  refine lv_aload_n hx hb dX2_leastCost_0 rfl (lv_at hl 0 rfl) ?_
  refine lv_iload_n hx hb dX2_leastCost_1 rfl (lv_at hl 1 rfl) ?_
  refine lv_iload_n hx hb dX2_leastCost_2 rfl (lv_at hl 2 rfl) ?_
  refine lv_iconst (v := nI 1) hx hb dX2_leastCost_3 (by decide) ?_
  exact z_thr (vx_runV (As := [.int v, .int w, .int (nI 1)]) (rest := []) ⟨hx, hb, hml, hown, hts⟩ (t_X2_leastWay_a l hl9 D cs S0 ea mi sa a u sg v hv w (nI 1)) (cwV 3 hts gX2_leastCost_X2_leastWay rfl rfl rfl (by decide +kernel) ⟨Nat.le_of_ble_eq_true rfl, Nat.le_of_ble_eq_true rfl⟩) ⟨zE_blind, z_recv hK hx0 rfl, zE_pre ⟨hx0, hbf, hbc, hls, hlm, hlh, hrw, hpt, hin, hhr, hok⟩ hK hE va_S.rf⟩ rfl rfl hl.1 rfl (lv_room (Nat.le_of_ble_eq_true rfl)) dX2_leastCost_4 ⟨Nat.le_of_ble_eq_true rfl, Nat.le_of_ble_eq_true rfl⟩) hout hlocks (Nat.le_refl _) (Nat.le_refl _)

set_option maxHeartbeats 4000000 in
set_option maxRecDepth 100000 in
theorem t_X2_leastCost_b (l : Launch) (hl9 : l.stackTraces = false) (D : va_G) (cs : Nat → ClassId) (S0 ea mi : Nat) (sa : Nat → Nat) (a : Nat → Nat) (u : XU) (sg : St) (v9 : Nat) (hv9 : v9 < sg.2.1.length) (v : Int32) (hv : v < 0 ∨ nI sg.2.1.length ≤ v) : vT l yX2_leastCost wsX2_leastCost ({ frames := 9, cells := 1, slots := 6, locals := 167 }) (zE [.ref (a 0), .int (nI v9), .int v] (fun H => XH D cs a u sg H) D cs S0 ea mi sa) eIO := by
  refine vx_ofW (cc := cX2_leastCost) (maxL := 3) (ret := (some .int)) (by decide) rfl ?_
  intro p e s m args below meth c s₁ B hml hout hv9
  obtain ⟨rfl, hPH, hK, hE⟩ := hv9
  have hx := B.exec
  have hb := B.bytes
  have hr := B.returns
  have hts := atoms_spec (ws := wsX2_leastCost) B.pre
  have hown : s.vm.findClass RX2 = some m.cls := findClass_of_methodNamed B.named
  have hlocks := B.notSynchronized
  have hPH : XH D cs a u sg s.heap := hPH
  obtain ⟨hx0, hbf, hbc, hls, hlm, hlh, hrw, hpt, hin, hhr, hok⟩ := hPH
  have hl := lv_entry ([.ref (a 0), .int (nI v9), .int v]) (n := 3) (Nat.le_of_ble_eq_true rfl)
  rw [lg_entry_eq]
  generalize (lg_sl ([.ref (a 0), .int (nI v9), .int v]) ++ List.replicate (3 - (lg_sl ([.ref (a 0), .int (nI v9), .int v])).length) Slot.unset).toArray = ls at hl ⊢
  have hl : lv_has ls 3 [(0, .ref (a 0)), (1, .int (nI v9)), (2, .int v)] := hl
  have hok4 := hok.2.1.1
  have hok5 := hok.2.2.1.1
  have hok6 := hok.2.2.2.2.1
  refine lv_aload_n hx hb dX2_leastCost_0 rfl (lv_at hl 0 rfl) ?_
  refine lv_iload_n hx hb dX2_leastCost_1 rfl (lv_at hl 1 rfl) ?_
  refine lv_iload_n hx hb dX2_leastCost_2 rfl (lv_at hl 2 rfl) ?_
  refine lv_iconst (v := nI 1) hx hb dX2_leastCost_3 (by decide) ?_
  exact z_thr (vx_runV (As := [.int (nI v9), .int v, .int (nI 1)]) (rest := []) ⟨hx, hb, hml, hown, hts⟩ (t_X2_leastWay_b l hl9 D cs S0 ea mi sa a u sg v9 hv9 v hv (nI 1)) (cwV 3 hts gX2_leastCost_X2_leastWay rfl rfl rfl (by decide +kernel) ⟨Nat.le_of_ble_eq_true rfl, Nat.le_of_ble_eq_true rfl⟩) ⟨zE_blind, z_recv hK hx0 rfl, zE_pre ⟨hx0, hbf, hbc, hls, hlm, hlh, hrw, hpt, hin, hhr, hok⟩ hK hE va_S.rf⟩ rfl rfl hl.1 rfl (lv_room (Nat.le_of_ble_eq_true rfl)) dX2_leastCost_4 ⟨Nat.le_of_ble_eq_true rfl, Nat.le_of_ble_eq_true rfl⟩) hout hlocks (Nat.le_refl _) (Nat.le_refl _)

set_option maxHeartbeats 4000000 in
set_option maxRecDepth 100000 in
theorem t_X2_installPatch_b (l : Launch) (hl9 : l.stackTraces = false) (D : va_G) (cs : Nat → ClassId) (S0 ea mi : Nat) (sa : Nat → Nat) (a : Nat → Nat) (u : XU) (sg : St) (j9 : Nat) (hj : j9 < sg.2.2.1.length) (hne : eqL sg.2.2.2.1 (psN sg.2.2.1 j9).1 = false) : vT l yX2_installPatch wsX2_installPatch ({ frames := 6, cells := 1, slots := 6, locals := 95 }) (zE [.ref (a 0), .int (nI j9)] (fun H => XH D cs a u sg H) D cs S0 ea mi sa) eIA := by
  refine vx_ofW (cc := cX2_installPatch) (maxL := 3) (ret := (some .int)) (by decide) rfl ?_
  intro p e s m args below meth c s₁ B hml hout hv9
  obtain ⟨rfl, hPH, hK, hE⟩ := hv9
  have hx := B.exec
  have hb := B.bytes
  have hr := B.returns
  have hts := atoms_spec (ws := wsX2_installPatch) B.pre
  have hown : s.vm.findClass RX2 = some m.cls := findClass_of_methodNamed B.named
  have hlocks := B.notSynchronized
  have at_IA : ∀ w ∈ (vx_atS RX2 49 eIA eNm).filter goodWord, w.before _ s = true := fun w hw => hts w ((show ∀ w ∈ (vx_atS RX2 49 eIA eNm).filter goodWord, w ∈ wsX2_installPatch by decide +kernel) w hw)
  have fl127 := hts (.fieldLink RX2 127 "DeltaUpdater$Patch" "base" "I") (by decide +kernel)
  have fl32 := hts (.fieldLink RX2 32 "DeltaUpdater" "installed" "LDeltaUpdater$Row;") (by decide +kernel)
  have in1 : ∀ w ∈ u_ws RX0 TX0 7, w ∈ wsX2_installPatch := by decide +kernel
  have in3 : ∀ w ∈ u_ws RX2 TX2 8, w ∈ wsX2_installPatch := by decide +kernel
  have hPH : XH D cs a u sg s.heap := hPH
  obtain ⟨hx0, hbf, hbc, hls, hlm, hlh, hrw, hpt, hin, hhr, hok⟩ := hPH
  have hl := lv_entry ([.ref (a 0), .int (nI j9)]) (n := 3) (Nat.le_of_ble_eq_true rfl)
  rw [lg_entry_eq]
  generalize (lg_sl ([.ref (a 0), .int (nI j9)]) ++ List.replicate (3 - (lg_sl ([.ref (a 0), .int (nI j9)])).length) Slot.unset).toArray = ls at hl ⊢
  have hl : lv_has ls 3 [(0, .ref (a 0)), (1, .int (nI j9))] := hl
  have hok4 := hok.2.1.1
  have hok5 := hok.2.2.1.1
  have hok6 := hok.2.2.2.2.1
  have hb5 := (hpt j9 hj).2.1.1
  have hbe := (hpt j9 hj).2.1.2.1
  have hinl := hok.2.2.2.1.1
  refine lv_aload_n hx hb dX2_installPatch_0 rfl (lv_at hl 0 rfl) ?_
  refine lv_iload_n hx hb dX2_installPatch_1 rfl (lv_at hl 1 rfl) ?_
  refine z_ceRV (As := [.int (nI j9)]) (rest := []) ⟨hx, hb, hml, hown, hts⟩ (c_X2_patchOf l D cs S0 ea mi sa a u sg j9 hj) (cwV 1 hts gX2_installPatch_X2_patchOf rfl rfl rfl (by decide +kernel) ⟨Nat.le_of_ble_eq_true rfl, Nat.le_of_ble_eq_true rfl⟩) hx0 rfl ⟨hx0, hbf, hbc, hls, hlm, hlh, hrw, hpt, hin, hhr, hok⟩ hK hE va_S.rf rfl hl.1 rfl (Nat.le_of_ble_eq_true rfl) dX2_installPatch_2 ⟨Nat.zero_le _, Nat.zero_le _⟩ (fun r hq9 => ?_)
  have hq9 : r = (xP u 0 j9) := hq9
  subst hq9
  refine lv_astore_n (lv' := [(2, .ref (xP u 0 j9)), (0, .ref (a 0)), (1, .int (nI j9))]) hx hb dX2_installPatch_5 rfl hl (by decide) rfl (fun ls hl => ?_)
  refine lv_aload_n hx hb dX2_installPatch_6 rfl (lv_at hl 1 rfl) ?_
  refine z_get (ci := 3) (v := .ref (xe u 3)) (C := RX2) (T := TX2) (N := 8) hx hb hts in3 hown hK hx0 rfl 4 (by decide) fl32 (fun _ h9 => h9) rfl dX2_installPatch_7 ?_
  refine lv_aload_n hx hb dX2_installPatch_10 rfl (lv_at hl 1 rfl) ?_
  refine lv_aload_n hx hb dX2_installPatch_11 rfl (lv_at hl 0 rfl) ?_
  refine z_get (ci := 1) (v := .int (nI (xP u 5 j9))) (C := RX0) (T := TX0) (N := 7) hx hb hts in1 hown hK (hpt j9 (by omega)).1.1 rfl 0 (by decide) fl127 (fun _ h9 => h9) rfl dX2_installPatch_12 ?_
  refine z_ceRV (As := [.int (nI (xP u 5 j9))]) (rest := [.ref (xe u 3)]) ⟨hx, hb, hml, hown, hts⟩ (c_X2_rowOf l D cs S0 ea mi sa a u sg (xP u 5 j9) hb5) (cwV 1 hts gX2_installPatch_X2_rowOf rfl rfl rfl (by decide +kernel) ⟨Nat.le_of_ble_eq_true rfl, Nat.le_of_ble_eq_true rfl⟩) hx0 rfl ⟨hx0, hbf, hbc, hls, hlm, hlh, hrw, hpt, hin, hhr, hok⟩ hK hE va_S.rf rfl hl.1 rfl (Nat.le_of_ble_eq_true rfl) dX2_installPatch_15 ⟨Nat.zero_le _, Nat.zero_le _⟩ (fun r hq9 => ?_)
  have hq9 : r = (xR u 0 (xP u 5 j9)) := hq9
  subst hq9
  refine z_csV (As := [.ref (xR u 0 (xP u 5 j9))]) (rest := []) ⟨hx, hb, hml, hown, hts⟩ (c_X1_hasBytesOf l D cs (xe u 3) (xe u 4) (xR u 0 (xP u 5 j9)) (xR u 1 (xP u 5 j9)) sg.2.2.2.1.length (vsN sg.2.1 (xP u 5 j9)).length (bb sg.2.2.2.1) (bb (vsN sg.2.1 (xP u 5 j9))) (by omega) (by have := (hok.2.1.2 (xP u 5 j9) (by omega)).1; omega)) (cwV 1 hts gX2_installPatch_X1_hasBytesOf rfl rfl rfl (by decide +kernel) ⟨Nat.le_of_ble_eq_true rfl, Nat.le_of_ble_eq_true rfl⟩) hin.1 rfl ⟨hin.1, hin.2, (hrw (xP u 5 j9) (by omega)).1, (hrw (xP u 5 j9) (by omega)).2⟩ hK rfl hl.1 rfl (Nat.le_of_ble_eq_true rfl) dX2_installPatch_18 ⟨Nat.zero_le _, Nat.zero_le _⟩ (fun r hq9 => ?_)
  have hq9 : r = bI (eqL sg.2.2.2.1 (vsN sg.2.1 (xP u 5 j9))) := hq9
  subst hq9
  refine z_ifb_ne (tgt := 34) hx hb dX2_installPatch_21 (by decide) (fun hc21 => ?_) (fun hc21 => ?_)
  · skip
    have hc21 : (eqL sg.2.2.2.1 (vsN sg.2.1 (xP u 5 j9))) = true := hc21
    rw [hbe] at hc21; exact absurd (hc21.symm.trans hne) (by decide)
  · skip
    have hc21 : (eqL sg.2.2.2.1 (vsN sg.2.1 (xP u 5 j9))) = false := hc21
    exact z_throw (cls := eIA) (text := "the base of the patch is not installed") hx hb hl9 hown (by decide +kernel) (hts (.classLink RX2 45 eIA) (by decide +kernel)) (hts (.initialized eIA) (by decide +kernel)) at_IA ng_IA ot_IA (by decide) (by decide) hE (hl.1.trans hml.symm) dX2_installPatch_24 dX2_installPatch_27 dX2_installPatch_28 dX2_installPatch_30 dX2_installPatch_33 hout (Nat.le_of_ble_eq_true rfl) (Nat.le_of_ble_eq_true rfl) (Nat.le_of_ble_eq_true rfl) (Nat.le_of_ble_eq_true rfl) hlocks (Nat.le_refl _) (Nat.le_refl _)

set_option maxHeartbeats 4000000 in
set_option maxRecDepth 100000 in
theorem t_X2_rollBack (l : Launch) (hl9 : l.stackTraces = false) (D : va_G) (cs : Nat → ClassId) (S0 ea mi : Nat) (sa : Nat → Nat) (a : Nat → Nat) (u : XU) (sg : St) (hz : sg.2.2.2.2.length = 0) : vT l yX2_rollBack wsX2_rollBack ({ frames := 6, cells := 1, slots := 6, locals := 95 }) (zE [.ref (a 0)] (fun H => XH D cs a u sg H) D cs S0 ea mi sa) eIS := by
  refine vx_ofW (cc := cX2_rollBack) (maxL := 2) (ret := (some .int)) (by decide) rfl ?_
  intro p e s m args below meth c s₁ B hml hout hv9
  obtain ⟨rfl, hPH, hK, hE⟩ := hv9
  have hx := B.exec
  have hb := B.bytes
  have hr := B.returns
  have hts := atoms_spec (ws := wsX2_rollBack) B.pre
  have hown : s.vm.findClass RX2 = some m.cls := findClass_of_methodNamed B.named
  have hlocks := B.notSynchronized
  have at_IS : ∀ w ∈ (vx_atS RX2 56 eIS eNm).filter goodWord, w.before _ s = true := fun w hw => hts w ((show ∀ w ∈ (vx_atS RX2 56 eIS eNm).filter goodWord, w ∈ wsX2_rollBack by decide +kernel) w hw)
  have fl36 := hts (.fieldLink RX2 36 "DeltaUpdater" "history" "Ljava/util/ArrayList;") (by decide +kernel)
  have in3 : ∀ w ∈ u_ws RX2 TX2 8, w ∈ wsX2_rollBack := by decide +kernel
  have hPH : XH D cs a u sg s.heap := hPH
  obtain ⟨hx0, hbf, hbc, hls, hlm, hlh, hrw, hpt, hin, hhr, hok⟩ := hPH
  have hl := lv_entry ([.ref (a 0)]) (n := 2) (Nat.le_of_ble_eq_true rfl)
  rw [lg_entry_eq]
  generalize (lg_sl ([.ref (a 0)]) ++ List.replicate (2 - (lg_sl ([.ref (a 0)])).length) Slot.unset).toArray = ls at hl ⊢
  have hl : lv_has ls 2 [(0, .ref (a 0))] := hl
  have hok4 := hok.2.1.1
  have hok5 := hok.2.2.1.1
  have hok6 := hok.2.2.2.2.1
  refine lv_aload_n hx hb dX2_rollBack_0 rfl (lv_at hl 0 rfl) ?_
  refine z_get (ci := 3) (v := .ref (a 6)) (C := RX2) (T := TX2) (N := 8) hx hb hts in3 hown hK hx0 rfl 5 (by decide) fl36 (fun _ h9 => h9) rfl dX2_rollBack_1 ?_
  refine z_csV (As := []) (rest := []) ⟨hx, hb, hml, hown, hts⟩ (c_Jx4a65c_size_8abf5 l D cs (a 6) (xe u 2) sg.2.2.2.2.length (xm u 2)) (cwV 0 hts gX2_rollBack_Jx4a65c_size_8abf5 rfl rfl rfl (by decide +kernel) ⟨Nat.le_of_ble_eq_true rfl, Nat.le_of_ble_eq_true rfl⟩) hlh.1 rfl hlh.1 hK rfl hl.1 rfl (Nat.le_of_ble_eq_true rfl) dX2_rollBack_4 ⟨Nat.zero_le _, Nat.zero_le _⟩ (fun r hq9 => ?_)
  have hq9 : r = nI sg.2.2.2.2.length := hq9
  subst hq9
  refine lv_iconst (v := nI 1) hx hb dX2_rollBack_7 (by decide) ?_
  refine lv_isub hx hb dX2_rollBack_8 ?_
  refine lv_istore_n (lv' := [(1, .int ((nI sg.2.2.2.2.length) - (nI 1))), (0, .ref (a 0))]) hx hb dX2_rollBack_9 rfl hl (by decide) rfl (fun ls hl => ?_)
  refine lv_iload_n hx hb dX2_rollBack_10 rfl (lv_at hl 0 rfl) ?_
  refine lv_if_ge (tgt := 24) hx hb dX2_rollBack_11 (by decide) (fun hc11 => ?_) (fun hc11 => ?_)
  · skip
    have hc11 : 0 ≤ ((nI sg.2.2.2.2.length) - (nI 1)) := hc11
    rw [hz] at hc11; exact absurd hc11 (by decide)
  · skip
    have hc11 : ¬ 0 ≤ ((nI sg.2.2.2.2.length) - (nI 1)) := hc11
    exact z_throw (cls := eIS) (text := "the history is empty") hx hb hl9 hown (by decide +kernel) (hts (.classLink RX2 52 eIS) (by decide +kernel)) (hts (.initialized eIS) (by decide +kernel)) at_IS ng_IS ot_IS (by decide) (by decide) hE (hl.1.trans hml.symm) dX2_rollBack_14 dX2_rollBack_17 dX2_rollBack_18 dX2_rollBack_20 dX2_rollBack_23 hout (Nat.le_of_ble_eq_true rfl) (Nat.le_of_ble_eq_true rfl) (Nat.le_of_ble_eq_true rfl) (Nat.le_of_ble_eq_true rfl) hlocks (Nat.le_refl _) (Nat.le_refl _)
