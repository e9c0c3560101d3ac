/-! the class's readers -/
set_option maxHeartbeats 4000000 in
set_option maxRecDepth 100000 in
theorem c_X2_rowOf (l : Launch) (D : va_G) (cs : Nat → ClassId) (S0 ea mi : Nat) (sa : Nat → Nat) (a : Nat → Nat) (u : XU) (sg : St) (v9 : Nat) (hv : v9 < sg.2.1.length) : Met l yX2_rowOf wsX2_rowOf ({ frames := 3, cells := 0, slots := 0, locals := 64 }) (zE [.ref (a 0), .int (nI v9)] (fun H => XH D cs a u sg H) D cs S0 ea mi sa) (va_Sr (fun r => r = xR u 0 v9) (fun k => .ref k)) 0 0 (fun _ => False) := by
  refine Met.ofW (cc := cX2_rowOf) (maxL := 2) (ret := (some (.object "DeltaUpdater$Row"))) (by decide) rfl ?_
  intro p e s m args below meth c s₁ B hml hv
  obtain ⟨rfl, hPH, hK, hE⟩ := hv
  have hx := B.exec
  have hb := B.bytes
  have hr := B.returns
  have hts := atoms_spec (ws := wsX2_rowOf) B.pre
  have hown : s.vm.findClass RX2 = some m.cls := findClass_of_methodNamed B.named
  have hlocks := B.notSynchronized
  have fl20 := hts (.fieldLink RX2 20 "DeltaUpdater" "stored" "Ljava/util/ArrayList;") (by decide +kernel)
  have in3 : ∀ w ∈ u_ws RX2 TX2 8, w ∈ wsX2_rowOf := by decide +kernel
  have hPH : XH D cs a u sg s.heap := hPH
  obtain ⟨hx0, hbf, hbc, hls, hlm, hlh, hrw, hpt, hin, hhr, hok⟩ := hPH
  have hl := lv_entry ([.ref (a 0), .int (nI v9)]) (n := 2) (Nat.le_of_ble_eq_true rfl)
  rw [lg_entry_eq]
  generalize (lg_sl ([.ref (a 0), .int (nI v9)]) ++ List.replicate (2 - (lg_sl ([.ref (a 0), .int (nI v9)])).length) Slot.unset).toArray = ls at hl ⊢
  have hl : lv_has ls 2 [(0, .ref (a 0)), (1, .int (nI v9))] := hl
  have hok4 := hok.2.1.1
  have hok5 := hok.2.2.1.1
  have hok6 := hok.2.2.2.2.1
  refine lv_iload_n hx hb dX2_rowOf_0 rfl (lv_at hl 1 rfl) ?_
  refine z_ifn_lt (tgt := 15) hx hb (by omega) dX2_rowOf_1 (by decide) ?_
  refine lv_iload_n hx hb dX2_rowOf_4 rfl (lv_at hl 1 rfl) ?_
  refine lv_aload_n hx hb dX2_rowOf_5 rfl (lv_at hl 0 rfl) ?_
  refine z_get (ci := 3) (v := .ref (a 4)) (C := RX2) (T := TX2) (N := 8) hx hb hts in3 hown hK hx0 rfl 2 (by decide) fl20 (fun _ h9 => h9) rfl dX2_rowOf_6 ?_
  refine z_csV (As := []) (rest := [.int (nI v9)]) ⟨hx, hb, hml, hown, hts⟩ (c_Jx4a65c_size_8abf5 l D cs (a 4) (xe u 0) sg.2.1.length (xm u 0)) (cwV 0 hts gX2_rowOf_Jx4a65c_size_8abf5 rfl rfl rfl (by decide +kernel) ⟨Nat.le_of_ble_eq_true rfl, Nat.le_of_ble_eq_true rfl⟩) hls.1 rfl hls.1 hK rfl hl.1 rfl (Nat.le_of_ble_eq_true rfl) dX2_rowOf_9 ⟨Nat.zero_le _, Nat.zero_le _⟩ (fun r hq9 => ?_)
  have hq9 : r = nI sg.2.1.length := hq9
  subst hq9
  refine z_icmp_lt (tgt := 25) hx hb (by omega) (by omega) dX2_rowOf_12 (by decide) (fun hc12 => ?_) (fun hc12 => ?_)
  · skip
    have hc12 : v9 < sg.2.1.length := hc12
    refine lv_aload_n hx hb dX2_rowOf_25 rfl (lv_at hl 0 rfl) ?_
    refine z_get (ci := 3) (v := .ref (a 4)) (C := RX2) (T := TX2) (N := 8) hx hb hts in3 hown hK hx0 rfl 2 (by decide) fl20 (fun _ h9 => h9) rfl dX2_rowOf_26 ?_
    refine lv_iload_n hx hb dX2_rowOf_29 rfl (lv_at hl 1 rfl) ?_
    refine z_csRV (As := [.int (nI v9)]) (rest := []) ⟨hx, hb, hml, hown, hts⟩ (c_Jx4a65c_get_915e3 l D cs (a 4) (xe u 0) sg.2.1.length (xc u 0) ((xR u 0) v9) v9 (xm u 0) (xg u 0) hv (hls.2.1 (by omega)).2 (by have := hls.2.2.1; omega) (hls.2.2.2 v9 hv)) (cwV 1 hts gX2_rowOf_Jx4a65c_get_915e3 rfl rfl rfl (by decide +kernel) ⟨Nat.le_of_ble_eq_true rfl, Nat.le_of_ble_eq_true rfl⟩) hls.1 rfl ⟨hls.1, (hls.2.1 (by omega)).1⟩ hK rfl hl.1 rfl (Nat.le_of_ble_eq_true rfl) dX2_rowOf_30 ⟨Nat.zero_le _, Nat.zero_le _⟩ (fun r hq9 => ?_)
    have hq9 : r = (xR u 0 v9) := hq9
    subst hq9
    refine va_castY (C := RX1) (nm := RX1) hx hb hown (hts (.classLink RX2 27 RX1) (by decide +kernel)) (hE.2.2.2.2.1 (RX1, RX1) (by decide)) (z_recv hK (hrw v9 (by omega)).1 rfl) dX2_rowOf_33 ?_
    exact W.aret (v := (.ref (xR u 0 v9))) hx hb hr (by first | exact Or.inl ⟨_, rfl⟩ | exact Or.inr ⟨_, rfl⟩) (Or.inr ⟨_, rfl⟩) (fun t ht hW => ⟨(xR u 0 v9), rfl, rfl, ht⟩) (fun q hq => absurd hq List.not_mem_nil) dX2_rowOf_36
  · skip
    have hc12 : sg.2.1.length ≤ v9 := hc12
    omega

set_option maxHeartbeats 4000000 in
set_option maxRecDepth 100000 in
theorem c_X2_patchOf (l : Launch) (D : va_G) (cs : Nat → ClassId) (S0 ea mi : Nat) (sa : Nat → Nat) (a : Nat → Nat) (u : XU) (sg : St) (j9 : Nat) (hj : j9 < sg.2.2.1.length) : Met l yX2_patchOf wsX2_patchOf ({ frames := 3, cells := 0, slots := 0, locals := 64 }) (zE [.ref (a 0), .int (nI j9)] (fun H => XH D cs a u sg H) D cs S0 ea mi sa) (va_Sr (fun r => r = xP u 0 j9) (fun k => .ref k)) 0 0 (fun _ => False) := by
  refine Met.ofW (cc := cX2_patchOf) (maxL := 2) (ret := (some (.object "DeltaUpdater$Patch"))) (by decide) rfl ?_
  intro p e s m args below meth c s₁ B hml hv
  obtain ⟨rfl, hPH, hK, hE⟩ := hv
  have hx := B.exec
  have hb := B.bytes
  have hr := B.returns
  have hts := atoms_spec (ws := wsX2_patchOf) B.pre
  have hown : s.vm.findClass RX2 = some m.cls := findClass_of_methodNamed B.named
  have hlocks := B.notSynchronized
  have fl24 := hts (.fieldLink RX2 24 "DeltaUpdater" "made" "Ljava/util/ArrayList;") (by decide +kernel)
  have in3 : ∀ w ∈ u_ws RX2 TX2 8, w ∈ wsX2_patchOf := by decide +kernel
  have hPH : XH D cs a u sg s.heap := hPH
  obtain ⟨hx0, hbf, hbc, hls, hlm, hlh, hrw, hpt, hin, hhr, hok⟩ := hPH
  have hl := lv_entry ([.ref (a 0), .int (nI j9)]) (n := 2) (Nat.le_of_ble_eq_true rfl)
  rw [lg_entry_eq]
  generalize (lg_sl ([.ref (a 0), .int (nI j9)]) ++ List.replicate (2 - (lg_sl ([.ref (a 0), .int (nI j9)])).length) Slot.unset).toArray = ls at hl ⊢
  have hl : lv_has ls 2 [(0, .ref (a 0)), (1, .int (nI j9))] := hl
  have hok4 := hok.2.1.1
  have hok5 := hok.2.2.1.1
  have hok6 := hok.2.2.2.2.1
  refine lv_iload_n hx hb dX2_patchOf_0 rfl (lv_at hl 1 rfl) ?_
  refine z_ifn_lt (tgt := 15) hx hb (by omega) dX2_patchOf_1 (by decide) ?_
  refine lv_iload_n hx hb dX2_patchOf_4 rfl (lv_at hl 1 rfl) ?_
  refine lv_aload_n hx hb dX2_patchOf_5 rfl (lv_at hl 0 rfl) ?_
  refine z_get (ci := 3) (v := .ref (a 5)) (C := RX2) (T := TX2) (N := 8) hx hb hts in3 hown hK hx0 rfl 3 (by decide) fl24 (fun _ h9 => h9) rfl dX2_patchOf_6 ?_
  refine z_csV (As := []) (rest := [.int (nI j9)]) ⟨hx, hb, hml, hown, hts⟩ (c_Jx4a65c_size_8abf5 l D cs (a 5) (xe u 1) sg.2.2.1.length (xm u 1)) (cwV 0 hts gX2_patchOf_Jx4a65c_size_8abf5 rfl rfl rfl (by decide +kernel) ⟨Nat.le_of_ble_eq_true rfl, Nat.le_of_ble_eq_true rfl⟩) hlm.1 rfl hlm.1 hK rfl hl.1 rfl (Nat.le_of_ble_eq_true rfl) dX2_patchOf_9 ⟨Nat.zero_le _, Nat.zero_le _⟩ (fun r hq9 => ?_)
  have hq9 : r = nI sg.2.2.1.length := hq9
  subst hq9
  refine z_icmp_lt (tgt := 25) hx hb (by omega) (by omega) dX2_patchOf_12 (by decide) (fun hc12 => ?_) (fun hc12 => ?_)
  · skip
    have hc12 : j9 < sg.2.2.1.length := hc12
    refine lv_aload_n hx hb dX2_patchOf_25 rfl (lv_at hl 0 rfl) ?_
    refine z_get (ci := 3) (v := .ref (a 5)) (C := RX2) (T := TX2) (N := 8) hx hb hts in3 hown hK hx0 rfl 3 (by decide) fl24 (fun _ h9 => h9) rfl dX2_patchOf_26 ?_
    refine lv_iload_n hx hb dX2_patchOf_29 rfl (lv_at hl 1 rfl) ?_
    refine z_csRV (As := [.int (nI j9)]) (rest := []) ⟨hx, hb, hml, hown, hts⟩ (c_Jx4a65c_get_915e3 l D cs (a 5) (xe u 1) sg.2.2.1.length (xc u 1) ((xP u 0) j9) j9 (xm u 1) (xg u 1) hj (hlm.2.1 (by omega)).2 (by have := hlm.2.2.1; omega) (hlm.2.2.2 j9 hj)) (cwV 1 hts gX2_patchOf_Jx4a65c_get_915e3 rfl rfl rfl (by decide +kernel) ⟨Nat.le_of_ble_eq_true rfl, Nat.le_of_ble_eq_true rfl⟩) hlm.1 rfl ⟨hlm.1, (hlm.2.1 (by omega)).1⟩ hK rfl hl.1 rfl (Nat.le_of_ble_eq_true rfl) dX2_patchOf_30 ⟨Nat.zero_le _, Nat.zero_le _⟩ (fun r hq9 => ?_)
    have hq9 : r = (xP u 0 j9) := hq9
    subst hq9
    refine va_castY (C := RX0) (nm := RX0) hx hb hown (hts (.classLink RX2 111 RX0) (by decide +kernel)) (hE.2.2.2.2.1 (RX0, RX0) (by decide)) (z_recv hK (hpt j9 (by omega)).1.1 rfl) dX2_patchOf_33 ?_
    exact W.aret (v := (.ref (xP u 0 j9))) hx hb hr (by first | exact Or.inl ⟨_, rfl⟩ | exact Or.inr ⟨_, rfl⟩) (Or.inr ⟨_, rfl⟩) (fun t ht hW => ⟨(xP u 0 j9), rfl, rfl, ht⟩) (fun q hq => absurd hq List.not_mem_nil) dX2_patchOf_36
  · skip
    have hc12 : sg.2.2.1.length ≤ j9 := hc12
    omega

set_option maxHeartbeats 4000000 in
set_option maxRecDepth 100000 in
theorem c_X2_checkSize (l : Launch) (D : va_G) (cs : Nat → ClassId) (size : Nat) (h2 : 2 ≤ size) (h3 : size ≤ 32) : Met l yX2_checkSize wsX2_checkSize ({ frames := 0, cells := 0, slots := 0, locals := 0 }) (zP [.int (nI size)] (fun H => True) D cs) (va_Sv (fun _ => True)) 0 0 (fun _ => False) := by
  refine Met.ofW (cc := cX2_checkSize) (maxL := 1) (ret := none) (by decide) rfl ?_
  intro p e s m args below meth c s₁ B hml hv
  obtain ⟨rfl, hPH, hK⟩ := hv
  have hx := B.exec
  have hb := B.bytes
  have hr := B.returns
  have hts := atoms_spec (ws := wsX2_checkSize) B.pre
  have hown : s.vm.findClass RX2 = some m.cls := findClass_of_methodNamed B.named
  have hlocks := B.notSynchronized
  have hPH : True := hPH
  have hl := lv_entry ([.int (nI size)]) (n := 1) (Nat.le_of_ble_eq_true rfl)
  rw [lg_entry_eq]
  generalize (lg_sl ([.int (nI size)]) ++ List.replicate (1 - (lg_sl ([.int (nI size)])).length) Slot.unset).toArray = ls at hl ⊢
  have hl : lv_has ls 1 [(0, .int (nI size))] := hl
  have h4 : size < 2 ^ 31 := by omega
  refine lv_iload_n hx hb dX2_checkSize_0 rfl (lv_at hl 0 rfl) ?_
  refine lv_iconst (v := nI 2) hx hb dX2_checkSize_1 (by decide) ?_
  refine z_icmp_lt (tgt := 11) hx hb (by omega) (by omega) dX2_checkSize_2 (by decide) (fun hc2 => ?_) (fun hc2 => ?_)
  · skip
    have hc2 : size < 2 := hc2
    omega
  · skip
    have hc2 : 2 ≤ size := hc2
    refine lv_iload_n hx hb dX2_checkSize_5 rfl (lv_at hl 0 rfl) ?_
    refine lv_bipush (v := nI 32) hx hb dX2_checkSize_6 (by decide) ?_
    refine z_icmp_le (tgt := 21) hx hb (by omega) (by omega) dX2_checkSize_8 (by decide) (fun hc8 => ?_) (fun hc8 => ?_)
    · skip
      have hc8 : size ≤ 32 := hc8
      exact W.vret hx hb hr (fun t ht hW => ⟨rfl, trivial, ht⟩) (fun q hq => absurd hq List.not_mem_nil) dX2_checkSize_21
    · skip
      have hc8 : 32 < size := hc8
      omega

set_option maxHeartbeats 4000000 in
set_option maxRecDepth 100000 in
theorem c_X2_checkRoomForVersion (l : Launch) (D : va_G) (cs : Nat → ClassId) (S0 ea mi : Nat) (sa : Nat → Nat) (a : Nat → Nat) (u : XU) (sg : St) (hroom : sg.2.1.length < 12) : Met l yX2_checkRoomForVersion wsX2_checkRoomForVersion ({ frames := 1, cells := 0, slots := 0, locals := 20 }) (zE [.ref (a 0)] (fun H => XH D cs a u sg H) D cs S0 ea mi sa) (va_Sv (fun r => True)) 0 0 (fun _ => False) := by
  refine Met.ofW (cc := cX2_checkRoomForVersion) (maxL := 1) (ret := none) (by decide) rfl ?_
  intro p e s m args below meth c s₁ B hml hv
  obtain ⟨rfl, hPH, hK, hE⟩ := hv
  have hx := B.exec
  have hb := B.bytes
  have hr := B.returns
  have hts := atoms_spec (ws := wsX2_checkRoomForVersion) B.pre
  have hown : s.vm.findClass RX2 = some m.cls := findClass_of_methodNamed B.named
  have hlocks := B.notSynchronized
  have fl20 := hts (.fieldLink RX2 20 "DeltaUpdater" "stored" "Ljava/util/ArrayList;") (by decide +kernel)
  have in3 : ∀ w ∈ u_ws RX2 TX2 8, w ∈ wsX2_checkRoomForVersion := by decide +kernel
  have hPH : XH D cs a u sg s.heap := hPH
  obtain ⟨hx0, hbf, hbc, hls, hlm, hlh, hrw, hpt, hin, hhr, hok⟩ := hPH
  have hl := lv_entry ([.ref (a 0)]) (n := 1) (Nat.le_of_ble_eq_true rfl)
  rw [lg_entry_eq]
  generalize (lg_sl ([.ref (a 0)]) ++ List.replicate (1 - (lg_sl ([.ref (a 0)])).length) Slot.unset).toArray = ls at hl ⊢
  have hl : lv_has ls 1 [(0, .ref (a 0))] := hl
  have hok4 := hok.2.1.1
  have hok5 := hok.2.2.1.1
  have hok6 := hok.2.2.2.2.1
  refine lv_aload_n hx hb dX2_checkRoomForVersion_0 rfl (lv_at hl 0 rfl) ?_
  refine z_get (ci := 3) (v := .ref (a 4)) (C := RX2) (T := TX2) (N := 8) hx hb hts in3 hown hK hx0 rfl 2 (by decide) fl20 (fun _ h9 => h9) rfl dX2_checkRoomForVersion_1 ?_
  refine z_csV (As := []) (rest := []) ⟨hx, hb, hml, hown, hts⟩ (c_Jx4a65c_size_8abf5 l D cs (a 4) (xe u 0) sg.2.1.length (xm u 0)) (cwV 0 hts gX2_checkRoomForVersion_Jx4a65c_size_8abf5 rfl rfl rfl (by decide +kernel) ⟨Nat.le_of_ble_eq_true rfl, Nat.le_of_ble_eq_true rfl⟩) hls.1 rfl hls.1 hK rfl hl.1 rfl (Nat.le_of_ble_eq_true rfl) dX2_checkRoomForVersion_4 ⟨Nat.zero_le _, Nat.zero_le _⟩ (fun r hq9 => ?_)
  have hq9 : r = nI sg.2.1.length := hq9
  subst hq9
  refine lv_bipush (v := nI 12) hx hb dX2_checkRoomForVersion_7 (by decide) ?_
  refine z_icmp_lt (tgt := 22) hx hb (by omega) (by omega) dX2_checkRoomForVersion_9 (by decide) (fun hc9 => ?_) (fun hc9 => ?_)
  · skip
    have hc9 : sg.2.1.length < 12 := hc9
    exact W.vret hx hb hr (fun t ht hW => ⟨rfl, trivial, ht⟩) (fun q hq => absurd hq List.not_mem_nil) dX2_checkRoomForVersion_22
  · skip
    have hc9 : 12 ≤ sg.2.1.length := hc9
    omega

set_option maxHeartbeats 4000000 in
set_option maxRecDepth 100000 in
theorem c_X2_checkRoomForPatch (l : Launch) (D : va_G) (cs : Nat → ClassId) (S0 ea mi : Nat) (sa : Nat → Nat) (a : Nat → Nat) (u : XU) (sg : St) (hroom : sg.2.2.1.length < 12) : Met l yX2_checkRoomForPatch wsX2_checkRoomForPatch ({ frames := 1, cells := 0, slots := 0, locals := 20 }) (zE [.ref (a 0)] (fun H => XH D cs a u sg H) D cs S0 ea mi sa) (va_Sv (fun r => True)) 0 0 (fun _ => False) := by
  refine Met.ofW (cc := cX2_checkRoomForPatch) (maxL := 1) (ret := none) (by decide) rfl ?_
  intro p e s m args below meth c s₁ B hml hv
  obtain ⟨rfl, hPH, hK, hE⟩ := hv
  have hx := B.exec
  have hb := B.bytes
  have hr := B.returns
  have hts := atoms_spec (ws := wsX2_checkRoomForPatch) B.pre
  have hown : s.vm.findClass RX2 = some m.cls := findClass_of_methodNamed B.named
  have hlocks := B.notSynchronized
  have fl24 := hts (.fieldLink RX2 24 "DeltaUpdater" "made" "Ljava/util/ArrayList;") (by decide +kernel)
  have in3 : ∀ w ∈ u_ws RX2 TX2 8, w ∈ wsX2_checkRoomForPatch := by decide +kernel
  have hPH : XH D cs a u sg s.heap := hPH
  obtain ⟨hx0, hbf, hbc, hls, hlm, hlh, hrw, hpt, hin, hhr, hok⟩ := hPH
  have hl := lv_entry ([.ref (a 0)]) (n := 1) (Nat.le_of_ble_eq_true rfl)
  rw [lg_entry_eq]
  generalize (lg_sl ([.ref (a 0)]) ++ List.replicate (1 - (lg_sl ([.ref (a 0)])).length) Slot.unset).toArray = ls at hl ⊢
  have hl : lv_has ls 1 [(0, .ref (a 0))] := hl
  have hok4 := hok.2.1.1
  have hok5 := hok.2.2.1.1
  have hok6 := hok.2.2.2.2.1
  refine lv_aload_n hx hb dX2_checkRoomForPatch_0 rfl (lv_at hl 0 rfl) ?_
  refine z_get (ci := 3) (v := .ref (a 5)) (C := RX2) (T := TX2) (N := 8) hx hb hts in3 hown hK hx0 rfl 3 (by decide) fl24 (fun _ h9 => h9) rfl dX2_checkRoomForPatch_1 ?_
  refine z_csV (As := []) (rest := []) ⟨hx, hb, hml, hown, hts⟩ (c_Jx4a65c_size_8abf5 l D cs (a 5) (xe u 1) sg.2.2.1.length (xm u 1)) (cwV 0 hts gX2_checkRoomForPatch_Jx4a65c_size_8abf5 rfl rfl rfl (by decide +kernel) ⟨Nat.le_of_ble_eq_true rfl, Nat.le_of_ble_eq_true rfl⟩) hlm.1 rfl hlm.1 hK rfl hl.1 rfl (Nat.le_of_ble_eq_true rfl) dX2_checkRoomForPatch_4 ⟨Nat.zero_le _, Nat.zero_le _⟩ (fun r hq9 => ?_)
  have hq9 : r = nI sg.2.2.1.length := hq9
  subst hq9
  refine lv_bipush (v := nI 12) hx hb dX2_checkRoomForPatch_7 (by decide) ?_
  refine z_icmp_lt (tgt := 22) hx hb (by omega) (by omega) dX2_checkRoomForPatch_9 (by decide) (fun hc9 => ?_) (fun hc9 => ?_)
  · skip
    have hc9 : sg.2.2.1.length < 12 := hc9
    exact W.vret hx hb hr (fun t ht hW => ⟨rfl, trivial, ht⟩) (fun q hq => absurd hq List.not_mem_nil) dX2_checkRoomForPatch_22
  · skip
    have hc9 : 12 ≤ sg.2.2.1.length := hc9
    omega

set_option maxHeartbeats 4000000 in
set_option maxRecDepth 100000 in
theorem c_X2_firstLike (l : Launch) (D : va_G) (cs : Nat → ClassId) (S0 ea mi : Nat) (sa : Nat → Nat) (a : Nat → Nat) (u : XU) (sg : St) (v9 : Nat) (hv : v9 < sg.2.1.length) : Met l yX2_firstLike wsX2_firstLike ({ frames := 4, cells := 0, slots := 0, locals := 85 }) (zE [.ref (a 0), .int (nI v9)] (fun H => XH D cs a u sg H) D cs S0 ea mi sa) (vp_Si (fun r => r = nI (flN sg.2.1 v9))) 0 0 (fun _ => False) := by
  refine Met.ofW (cc := cX2_firstLike) (maxL := 4) (ret := (some .int)) (by decide) rfl ?_
  intro p e s m args below meth c s₁ B hml hv
  obtain ⟨rfl, hPH, hK, hE⟩ := hv
  have hx := B.exec
  have hb := B.bytes
  have hr := B.returns
  have hts := atoms_spec (ws := wsX2_firstLike) B.pre
  have hown : s.vm.findClass RX2 = some m.cls := findClass_of_methodNamed B.named
  have hlocks := B.notSynchronized
  have hPH : XH D cs a u sg s.heap := hPH
  obtain ⟨hx0, hbf, hbc, hls, hlm, hlh, hrw, hpt, hin, hhr, hok⟩ := hPH
  have hl := lv_entry ([.ref (a 0), .int (nI v9)]) (n := 4) (Nat.le_of_ble_eq_true rfl)
  rw [lg_entry_eq]
  generalize (lg_sl ([.ref (a 0), .int (nI v9)]) ++ List.replicate (4 - (lg_sl ([.ref (a 0), .int (nI v9)])).length) Slot.unset).toArray = ls at hl ⊢
  have hl : lv_has ls 4 [(0, .ref (a 0)), (1, .int (nI v9))] := hl
  have hok4 := hok.2.1.1
  have hok5 := hok.2.2.1.1
  have hok6 := hok.2.2.2.2.1
  refine lv_aload_n hx hb dX2_firstLike_0 rfl (lv_at hl 0 rfl) ?_
  refine lv_iload_n hx hb dX2_firstLike_1 rfl (lv_at hl 1 rfl) ?_
  refine z_ceRV (As := [.int (nI v9)]) (rest := []) ⟨hx, hb, hml, hown, hts⟩ (c_X2_rowOf l D cs S0 ea mi sa a u sg v9 hv) (cwV 1 hts gX2_firstLike_X2_rowOf rfl rfl rfl (by decide +kernel) ⟨Nat.le_of_ble_eq_true rfl, Nat.le_of_ble_eq_true rfl⟩) hx0 rfl ⟨hx0, hbf, hbc, hls, hlm, hlh, hrw, hpt, hin, hhr, hok⟩ hK hE va_S.rf rfl hl.1 rfl (Nat.le_of_ble_eq_true rfl) dX2_firstLike_2 ⟨Nat.zero_le _, Nat.zero_le _⟩ (fun r hq9 => ?_)
  have hq9 : r = (xR u 0 v9) := hq9
  subst hq9
  refine lv_astore_n (lv' := [(2, .ref (xR u 0 v9)), (0, .ref (a 0)), (1, .int (nI v9))]) hx hb dX2_firstLike_5 rfl hl (by decide) rfl (fun ls hl => ?_)
  refine lv_iconst (v := nI 0) hx hb dX2_firstLike_6 (by decide) ?_
  refine lv_istore_n (lv' := [(3, .int (nI 0)), (2, .ref (xR u 0 v9)), (0, .ref (a 0)), (1, .int (nI v9))]) hx hb dX2_firstLike_7 rfl hl (by decide) rfl (fun ls hl => ?_)
  refine z_loop (σ := Nat) (fun q9 => v9 - q9) (fun q9 ls => lv_has ls 4 [(3, .int (nI q9)), (0, .ref (a 0)), (1, .int (nI v9)), (2, .ref (xR u 0 v9))] ∧ (q9 ≤ v9) ∧ (∀ z, z < q9 → eqL (vsN sg.2.1 z) (vsN sg.2.1 v9) = false)) 0 ⟨lv_sub hl [0, 2, 3, 1] rfl, (show 0 ≤ v9 from by omega), (show ∀ z, z < 0 → eqL (vsN sg.2.1 z) (vsN sg.2.1 v9) = false from fun z hz => absurd hz (Nat.not_lt_zero z))⟩ (fun dd8 ih8 y9 ls hd9 hI9 => ?_)
  obtain ⟨i9, rfl⟩ : ∃ z, z = y9 := ⟨_, rfl⟩
  have hd8 : v9 - i9 = dd8 := hd9
  have hI9 : lv_has ls 4 [(3, .int (nI i9)), (0, .ref (a 0)), (1, .int (nI v9)), (2, .ref (xR u 0 v9))] ∧ (i9 ≤ v9) ∧ (∀ z, z < i9 → eqL (vsN sg.2.1 z) (vsN sg.2.1 v9) = false) := hI9
  obtain ⟨hl, hi, hno⟩ := hI9
  refine lv_iload_n hx hb dX2_firstLike_8 rfl (lv_at hl 0 rfl) ?_
  refine lv_iload_n hx hb dX2_firstLike_9 rfl (lv_at hl 2 rfl) ?_
  refine z_icmp_ge (tgt := 33) hx hb (by omega) (by omega) dX2_firstLike_10 (by decide) (fun hc10 => ?_) (fun hc10 => ?_)
  · skip
    have hc10 : v9 ≤ i9 := hc10
    refine lv_iload_n hx hb dX2_firstLike_33 rfl (lv_at hl 2 rfl) ?_
    exact W.iret (v := nI v9) hx hb hr (fun t ht hW => ⟨_, rfl, (by unfold flN; rw [fsF_none (P := fun i => eqL (vsN sg.2.1 i) (vsN sg.2.1 v9)) (fun j hj => hno j (by omega))]), ht⟩) (fun q hq => absurd hq List.not_mem_nil) dX2_firstLike_34
  · skip
    have hc10 : i9 < v9 := hc10
    refine lv_aload_n hx hb dX2_firstLike_13 rfl (lv_at hl 1 rfl) ?_
    refine lv_iload_n hx hb dX2_firstLike_14 rfl (lv_at hl 0 rfl) ?_
    refine z_ceRV (As := [.int (nI i9)]) (rest := []) ⟨hx, hb, hml, hown, hts⟩ (c_X2_rowOf l D cs S0 ea mi sa a u sg i9 (by omega)) (cwV 1 hts gX2_firstLike_X2_rowOf rfl rfl rfl (by decide +kernel) ⟨Nat.le_of_ble_eq_true rfl, Nat.le_of_ble_eq_true rfl⟩) hx0 rfl ⟨hx0, hbf, hbc, hls, hlm, hlh, hrw, hpt, hin, hhr, hok⟩ hK hE va_S.rf rfl hl.1 rfl (Nat.le_of_ble_eq_true rfl) dX2_firstLike_15 ⟨Nat.zero_le _, Nat.zero_le _⟩ (fun r hq9 => ?_)
    have hq9 : r = (xR u 0 i9) := hq9
    subst hq9
    refine lv_aload_n hx hb dX2_firstLike_18 rfl (lv_at hl 3 rfl) ?_
    refine z_csV (As := [.ref (xR u 0 v9)]) (rest := []) ⟨hx, hb, hml, hown, hts⟩ (c_X1_hasBytesOf l D cs (xR u 0 i9) (xR u 1 i9) (xR u 0 v9) (xR u 1 v9) (vsN sg.2.1 i9).length (vsN sg.2.1 v9).length (bb (vsN sg.2.1 i9)) (bb (vsN sg.2.1 v9)) (by have := (hok.2.1.2 i9 (by omega)).1; omega) (by have := (hok.2.1.2 v9 (by omega)).1; omega)) (cwV 1 hts gX2_firstLike_X1_hasBytesOf rfl rfl rfl (by decide +kernel) ⟨Nat.le_of_ble_eq_true rfl, Nat.le_of_ble_eq_true rfl⟩) (hrw i9 (by omega)).1 rfl ⟨(hrw i9 (by omega)).1, (hrw i9 (by omega)).2, (hrw v9 (by omega)).1, (hrw v9 (by omega)).2⟩ hK rfl hl.1 rfl (Nat.le_of_ble_eq_true rfl) dX2_firstLike_19 ⟨Nat.zero_le _, Nat.zero_le _⟩ (fun r hq9 => ?_)
    have hq9 : r = bI (eqL (vsN sg.2.1 i9) (vsN sg.2.1 v9)) := hq9
    subst hq9
    refine z_ifb_eq (tgt := 27) hx hb dX2_firstLike_22 (by decide) (fun hc22 => ?_) (fun hc22 => ?_)
    · skip
      have hc22 : (eqL (vsN sg.2.1 i9) (vsN sg.2.1 v9)) = false := hc22
      refine lv_iinc (v := nI (i9 + 1)) (lv' := [(3, .int (nI (i9 + 1))), (0, .ref (a 0)), (1, .int (nI v9)), (2, .ref (xR u 0 v9))]) hx hb dX2_firstLike_27 hl (k := 0) rfl (z_inc _) (by decide) rfl (fun ls hl => ?_)
      refine lv_goto (tgt := 8) hx hb dX2_firstLike_30 (by decide) ?_
      exact ih8 (i9 + 1) ls (show v9 - (i9 + 1) < dd8 by omega) ⟨lv_sub hl [0, 1, 2, 3] rfl, (show (i9 + 1) ≤ v9 from by omega), (show ∀ z, z < (i9 + 1) → eqL (vsN sg.2.1 z) (vsN sg.2.1 v9) = false from fun z hz => (Nat.lt_succ_iff_lt_or_eq.mp hz).elim (hno z) (fun e9 => by rw [e9]; exact hc22))⟩
    · skip
      have hc22 : (eqL (vsN sg.2.1 i9) (vsN sg.2.1 v9)) = true := hc22
      refine lv_iload_n hx hb dX2_firstLike_25 rfl (lv_at hl 0 rfl) ?_
      exact W.iret (v := nI i9) hx hb hr (fun t ht hW => ⟨_, rfl, (by unfold flN; rw [fsF_some (P := fun i => eqL (vsN sg.2.1 i) (vsN sg.2.1 v9)) hc22 hno (by omega)]), ht⟩) (fun q hq => absurd hq List.not_mem_nil) dX2_firstLike_26

set_option maxHeartbeats 4000000 in
set_option maxRecDepth 100000 in
theorem c_X2_length (l : Launch) (D : va_G) (cs : Nat → ClassId) (S0 ea mi : Nat) (sa : Nat → Nat) (a : Nat → Nat) (u : XU) (sg : St) (v9 : Nat) (hv : v9 < sg.2.1.length) : Met l yX2_length wsX2_length ({ frames := 4, cells := 0, slots := 0, locals := 85 }) (zE [.ref (a 0), .int (nI v9)] (fun H => XH D cs a u sg H) D cs S0 ea mi sa) (vp_Si (fun r => r = nI (vsN sg.2.1 v9).length)) 0 0 (fun _ => False) := by
  refine Met.ofW (cc := cX2_length) (maxL := 2) (ret := (some .int)) (by decide) rfl ?_
  intro p e s m args below meth c s₁ B hml hv
  obtain ⟨rfl, hPH, hK, hE⟩ := hv
  have hx := B.exec
  have hb := B.bytes
  have hr := B.returns
  have hts := atoms_spec (ws := wsX2_length) B.pre
  have hown : s.vm.findClass RX2 = some m.cls := findClass_of_methodNamed B.named
  have hlocks := B.notSynchronized
  have fl72 := hts (.fieldLink RX2 72 "DeltaUpdater$Row" "bytes" "[I") (by decide +kernel)
  have in2 : ∀ w ∈ u_ws RX1 TX1 1, w ∈ wsX2_length := by decide +kernel
  have hPH : XH D cs a u sg s.heap := hPH
  obtain ⟨hx0, hbf, hbc, hls, hlm, hlh, hrw, hpt, hin, hhr, hok⟩ := hPH
  have hl := lv_entry ([.ref (a 0), .int (nI v9)]) (n := 2) (Nat.le_of_ble_eq_true rfl)
  rw [lg_entry_eq]
  generalize (lg_sl ([.ref (a 0), .int (nI v9)]) ++ List.replicate (2 - (lg_sl ([.ref (a 0), .int (nI v9)])).length) Slot.unset).toArray = ls at hl ⊢
  have hl : lv_has ls 2 [(0, .ref (a 0)), (1, .int (nI v9))] := hl
  have hok4 := hok.2.1.1
  have hok5 := hok.2.2.1.1
  have hok6 := hok.2.2.2.2.1
  refine lv_aload_n hx hb dX2_length_0 rfl (lv_at hl 0 rfl) ?_
  refine lv_iload_n hx hb dX2_length_1 rfl (lv_at hl 1 rfl) ?_
  refine z_ceRV (As := [.int (nI v9)]) (rest := []) ⟨hx, hb, hml, hown, hts⟩ (c_X2_rowOf l D cs S0 ea mi sa a u sg v9 hv) (cwV 1 hts gX2_length_X2_rowOf rfl rfl rfl (by decide +kernel) ⟨Nat.le_of_ble_eq_true rfl, Nat.le_of_ble_eq_true rfl⟩) hx0 rfl ⟨hx0, hbf, hbc, hls, hlm, hlh, hrw, hpt, hin, hhr, hok⟩ hK hE va_S.rf rfl hl.1 rfl (Nat.le_of_ble_eq_true rfl) dX2_length_2 ⟨Nat.zero_le _, Nat.zero_le _⟩ (fun r hq9 => ?_)
  have hq9 : r = (xR u 0 v9) := hq9
  subst hq9
  refine z_get (ci := 2) (v := .ref (xR u 1 v9)) (C := RX1) (T := TX1) (N := 1) hx hb hts in2 hown hK (hrw v9 (by omega)).1 rfl 0 (by decide) fl72 (fun _ h9 => h9) rfl dX2_length_5 ?_
  refine z_alen (n := ((vsN sg.2.1 v9).length)) hx hb hK (hrw v9 (by omega)).2 dX2_length_8 ?_
  exact W.iret (v := nI ((vsN sg.2.1 v9).length)) hx hb hr (fun t ht hW => ⟨_, rfl, rfl, ht⟩) (fun q hq => absurd hq List.not_mem_nil) dX2_length_9

set_option maxHeartbeats 4000000 in
set_option maxRecDepth 100000 in
theorem c_X2_byteAt (l : Launch) (D : va_G) (cs : Nat → ClassId) (S0 ea mi : Nat) (sa : Nat → Nat) (a : Nat → Nat) (u : XU) (sg : St) (v9 k9 : Nat) (hv : v9 < sg.2.1.length) (hk : k9 < (vsN sg.2.1 v9).length) : Met l yX2_byteAt wsX2_byteAt ({ frames := 4, cells := 0, slots := 0, locals := 85 }) (zE [.ref (a 0), .int (nI v9), .int (nI k9)] (fun H => XH D cs a u sg H) D cs S0 ea mi sa) (vp_Si (fun r => r = nI (bv (vsN sg.2.1 v9) k9))) 0 0 (fun _ => False) := by
  refine Met.ofW (cc := cX2_byteAt) (maxL := 4) (ret := (some .int)) (by decide) rfl ?_
  intro p e s m args below meth c s₁ B hml hv
  obtain ⟨rfl, hPH, hK, hE⟩ := hv
  have hx := B.exec
  have hb := B.bytes
  have hr := B.returns
  have hts := atoms_spec (ws := wsX2_byteAt) B.pre
  have hown : s.vm.findClass RX2 = some m.cls := findClass_of_methodNamed B.named
  have hlocks := B.notSynchronized
  have fl72 := hts (.fieldLink RX2 72 "DeltaUpdater$Row" "bytes" "[I") (by decide +kernel)
  have in2 : ∀ w ∈ u_ws RX1 TX1 1, w ∈ wsX2_byteAt := by decide +kernel
  have hPH : XH D cs a u sg s.heap := hPH
  obtain ⟨hx0, hbf, hbc, hls, hlm, hlh, hrw, hpt, hin, hhr, hok⟩ := hPH
  have hl := lv_entry ([.ref (a 0), .int (nI v9), .int (nI k9)]) (n := 4) (Nat.le_of_ble_eq_true rfl)
  rw [lg_entry_eq]
  generalize (lg_sl ([.ref (a 0), .int (nI v9), .int (nI k9)]) ++ List.replicate (4 - (lg_sl ([.ref (a 0), .int (nI v9), .int (nI k9)])).length) Slot.unset).toArray = ls at hl ⊢
  have hl : lv_has ls 4 [(0, .ref (a 0)), (1, .int (nI v9)), (2, .int (nI k9))] := hl
  have hok4 := hok.2.1.1
  have hok5 := hok.2.2.1.1
  have hok6 := hok.2.2.2.2.1
  have hlen := (hok.2.1.2 v9 hv).1
  have hby := (hok.2.1.2 v9 hv).2
  refine lv_aload_n hx hb dX2_byteAt_0 rfl (lv_at hl 0 rfl) ?_
  refine lv_iload_n hx hb dX2_byteAt_1 rfl (lv_at hl 1 rfl) ?_
  refine z_ceRV (As := [.int (nI v9)]) (rest := []) ⟨hx, hb, hml, hown, hts⟩ (c_X2_rowOf l D cs S0 ea mi sa a u sg v9 hv) (cwV 1 hts gX2_byteAt_X2_rowOf rfl rfl rfl (by decide +kernel) ⟨Nat.le_of_ble_eq_true rfl, Nat.le_of_ble_eq_true rfl⟩) hx0 rfl ⟨hx0, hbf, hbc, hls, hlm, hlh, hrw, hpt, hin, hhr, hok⟩ hK hE va_S.rf rfl hl.1 rfl (Nat.le_of_ble_eq_true rfl) dX2_byteAt_2 ⟨Nat.zero_le _, Nat.zero_le _⟩ (fun r hq9 => ?_)
  have hq9 : r = (xR u 0 v9) := hq9
  subst hq9
  refine lv_astore_n (lv' := [(3, .ref (xR u 0 v9)), (0, .ref (a 0)), (1, .int (nI v9)), (2, .int (nI k9))]) hx hb dX2_byteAt_5 rfl hl (by decide) rfl (fun ls hl => ?_)
  refine lv_iload_n hx hb dX2_byteAt_6 rfl (lv_at hl 3 rfl) ?_
  refine z_ifn_lt (tgt := 19) hx hb (by omega) dX2_byteAt_7 (by decide) ?_
  refine lv_iload_n hx hb dX2_byteAt_10 rfl (lv_at hl 3 rfl) ?_
  refine lv_aload_n hx hb dX2_byteAt_11 rfl (lv_at hl 0 rfl) ?_
  refine z_get (ci := 2) (v := .ref (xR u 1 v9)) (C := RX1) (T := TX1) (N := 1) hx hb hts in2 hown hK (hrw v9 (by omega)).1 rfl 0 (by decide) fl72 (fun _ h9 => h9) rfl dX2_byteAt_12 ?_
  refine z_alen (n := ((vsN sg.2.1 v9).length)) hx hb hK (hrw v9 (by omega)).2 dX2_byteAt_15 ?_
  refine z_icmp_lt (tgt := 29) hx hb (by omega) (by omega) dX2_byteAt_16 (by decide) (fun hc16 => ?_) (fun hc16 => ?_)
  · skip
    have hc16 : k9 < (vsN sg.2.1 v9).length := hc16
    refine lv_aload_n hx hb dX2_byteAt_29 rfl (lv_at hl 0 rfl) ?_
    refine z_get (ci := 2) (v := .ref (xR u 1 v9)) (C := RX1) (T := TX1) (N := 1) hx hb hts in2 hown hK (hrw v9 (by omega)).1 rfl 0 (by decide) fl72 (fun _ h9 => h9) rfl dX2_byteAt_30 ?_
    refine lv_iload_n hx hb dX2_byteAt_33 rfl (lv_at hl 3 rfl) ?_
    refine z_iald (k := k9) (f := fun i => nI ((bv (vsN sg.2.1 v9)) i)) hx hb hK (hrw v9 (by omega)).2 (by omega) (by omega) dX2_byteAt_34 ?_
    refine zti (y := nI ((bv (vsN sg.2.1 v9)) k9)) rfl ?_
    exact W.iret (v := nI ((bv (vsN sg.2.1 v9)) k9)) hx hb hr (fun t ht hW => ⟨_, rfl, rfl, ht⟩) (fun q hq => absurd hq List.not_mem_nil) dX2_byteAt_35
  · skip
    have hc16 : (vsN sg.2.1 v9).length ≤ k9 := hc16
    omega

