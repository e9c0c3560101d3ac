/-! the class's readers, second part -/
def dbN (f : Nat → Int32) (n0 size : Nat) : Nat := ct (fun k => decide (oI (fsF (fun z => stB f f (z * size) (k * size) size) (n0 / size)) = nI k)) (n0 / size)
def dgV (d : Int64) (vs : List BL) : Nat → Int64
  | 0 => d
  | k + 1 => dgR (dgV d vs k) (bb (vsN vs k)) (vsN vs k).length
def dgQ (d : Int64) (ps : List Pt) : Nat → Int64
  | 0 => d
  | k + 1 => dgP (dgQ d ps k) (tellI (rf (psN ps k).2.2) (bv (psN ps k).2.1) (psN ps k).2.1.length) (manyN (rf (psN ps k).2.2) (psN ps k).2.1.length)
def dgS (sg : St) : Int64 :=
  dgR (dgQ (dgV (dgR 233 (bb sg.1) sg.1.length * 31 + (nI sg.2.1.length).toInt64) sg.2.1 sg.2.1.length * 31 + (nI sg.2.2.1.length).toInt64) sg.2.2.1 sg.2.2.1.length) (bb sg.2.2.2.1) sg.2.2.2.1.length * 31 + (nI sg.2.2.2.2.length).toInt64
theorem dgF_cong {d : Int64} {f g : Nat → Int32} : ∀ {n : Nat}, (∀ i, i < n → f i = g i) → dgF d f n = dgF d g n
  | 0, _ => rfl
  | n + 1, h => by
    show dgF d f n * 31 + (f n).toInt64 = dgF d g n * 31 + (g n).toInt64
    rw [dgF_cong (fun i hi => h i (by omega)), h n (by omega)]
theorem dgR_cong {d : Int64} {f g : Nat → Int32} {n : Nat} (h : ∀ i, i < n → f i = g i) : dgR d f n = dgR d g n := dgF_cong h

set_option maxHeartbeats 4000000 in
set_option maxRecDepth 100000 in
theorem c_X2_instructions (l : Launch) (D : va_G) (cs : Nat → ClassId) (S0 ea mi : Nat) (sa : Nat → Nat) (a : Nat → Nat) (u : XU) (sg : St) (j9 : Nat) (hj : j9 < sg.2.2.1.length) : Met l yX2_instructions wsX2_instructions ({ frames := 4, cells := 0, slots := 0, locals := 85 }) (zE [.ref (a 0), .int (nI j9)] (fun H => XH D cs a u sg H) D cs S0 ea mi sa) (vp_Si (fun r => r = nI (manyN (rf (psN sg.2.2.1 j9).2.2) (psN sg.2.2.1 j9).2.1.length))) 0 0 (fun _ => False) := by
  refine Met.ofW (cc := cX2_instructions) (maxL := 2) (ret := (some .int)) (by decide) rfl ?_
  intro p e s m args below meth c s₁ B hml hv
  obtain ⟨rfl, hPH, hK, hE⟩ := hv
  have hx := B.exec
  have hb := B.bytes
  have hr := B.returns
  have hts := atoms_spec (ws := wsX2_instructions) B.pre
  have hown : s.vm.findClass RX2 = some m.cls := findClass_of_methodNamed B.named
  have hlocks := B.notSynchronized
  have fl142 := hts (.fieldLink RX2 142 "DeltaUpdater$Patch" "starts" "[I") (by decide +kernel)
  have in1 : ∀ w ∈ u_ws RX0 TX0 7, w ∈ wsX2_instructions := by decide +kernel
  have hPH : XH D cs a u sg s.heap := hPH
  obtain ⟨hx0, hbf, hbc, hls, hlm, hlh, hrw, hpt, hin, hhr, hok⟩ := hPH
  have hl := lv_entry ([.ref (a 0), .int (nI j9)]) (n := 2) (Nat.le_of_ble_eq_true rfl)
  rw [lg_entry_eq]
  generalize (lg_sl ([.ref (a 0), .int (nI j9)]) ++ List.replicate (2 - (lg_sl ([.ref (a 0), .int (nI j9)])).length) Slot.unset).toArray = ls at hl ⊢
  have hl : lv_has ls 2 [(0, .ref (a 0)), (1, .int (nI j9))] := hl
  have hok4 := hok.2.1.1
  have hok5 := hok.2.2.1.1
  have hok6 := hok.2.2.2.2.1
  have hpo := hok.2.2.1.2 j9 hj
  have hpl := hpo.2.1.1
  have hpy := hpo.2.1.2
  have hmn : manyN (rf (psN sg.2.2.1 j9).2.2) (psN sg.2.2.1 j9).2.1.length ≤ (psN sg.2.2.1 j9).2.1.length := ct_le _ _
  refine lv_aload_n hx hb dX2_instructions_0 rfl (lv_at hl 0 rfl) ?_
  refine lv_iload_n hx hb dX2_instructions_1 rfl (lv_at hl 1 rfl) ?_
  refine z_ceRV (As := [.int (nI j9)]) (rest := []) ⟨hx, hb, hml, hown, hts⟩ (c_X2_patchOf l D cs S0 ea mi sa a u sg j9 hj) (cwV 1 hts gX2_instructions_X2_patchOf rfl rfl rfl (by decide +kernel) ⟨Nat.le_of_ble_eq_true rfl, Nat.le_of_ble_eq_true rfl⟩) hx0 rfl ⟨hx0, hbf, hbc, hls, hlm, hlh, hrw, hpt, hin, hhr, hok⟩ hK hE va_S.rf rfl hl.1 rfl (Nat.le_of_ble_eq_true rfl) dX2_instructions_2 ⟨Nat.zero_le _, Nat.zero_le _⟩ (fun r hq9 => ?_)
  have hq9 : r = (xP u 0 j9) := hq9
  subst hq9
  refine z_get (ci := 1) (v := .ref (xP u 4 j9)) (C := RX0) (T := TX0) (N := 7) hx hb hts in1 hown hK (hpt j9 (by omega)).1.1 rfl 4 (by decide) fl142 (fun _ h9 => h9) rfl dX2_instructions_5 ?_
  refine z_alen (n := (manyN (rf (psN sg.2.2.1 j9).2.2) (psN sg.2.2.1 j9).2.1.length)) hx hb hK (hpt j9 (by omega)).1.2.2.1 dX2_instructions_8 ?_
  exact W.iret (v := nI (manyN (rf (psN sg.2.2.1 j9).2.2) (psN sg.2.2.1 j9).2.1.length)) hx hb hr (fun t ht hW => ⟨_, rfl, rfl, ht⟩) (fun q hq => absurd hq List.not_mem_nil) dX2_instructions_9

set_option maxHeartbeats 4000000 in
set_option maxRecDepth 100000 in
theorem c_X2_cost (l : Launch) (D : va_G) (cs : Nat → ClassId) (S0 ea mi : Nat) (sa : Nat → Nat) (a : Nat → Nat) (u : XU) (sg : St) (j9 : Nat) (hj : j9 < sg.2.2.1.length) : Met l yX2_cost wsX2_cost ({ frames := 4, cells := 0, slots := 0, locals := 85 }) (zE [.ref (a 0), .int (nI j9)] (fun H => XH D cs a u sg H) D cs S0 ea mi sa) (vp_Si (fun r => r = nI (costN (rf (psN sg.2.2.1 j9).2.2) (psN sg.2.2.1 j9).2.1.length))) 0 0 (fun _ => False) := by
  refine Met.ofW (cc := cX2_cost) (maxL := 2) (ret := (some .int)) (by decide) rfl ?_
  intro p e s m args below meth c s₁ B hml hv
  obtain ⟨rfl, hPH, hK, hE⟩ := hv
  have hx := B.exec
  have hb := B.bytes
  have hr := B.returns
  have hts := atoms_spec (ws := wsX2_cost) B.pre
  have hown : s.vm.findClass RX2 = some m.cls := findClass_of_methodNamed B.named
  have hlocks := B.notSynchronized
  have fl152 := hts (.fieldLink RX2 152 "DeltaUpdater$Patch" "price" "I") (by decide +kernel)
  have in1 : ∀ w ∈ u_ws RX0 TX0 7, w ∈ wsX2_cost := by decide +kernel
  have hPH : XH D cs a u sg s.heap := hPH
  obtain ⟨hx0, hbf, hbc, hls, hlm, hlh, hrw, hpt, hin, hhr, hok⟩ := hPH
  have hl := lv_entry ([.ref (a 0), .int (nI j9)]) (n := 2) (Nat.le_of_ble_eq_true rfl)
  rw [lg_entry_eq]
  generalize (lg_sl ([.ref (a 0), .int (nI j9)]) ++ List.replicate (2 - (lg_sl ([.ref (a 0), .int (nI j9)])).length) Slot.unset).toArray = ls at hl ⊢
  have hl : lv_has ls 2 [(0, .ref (a 0)), (1, .int (nI j9))] := hl
  have hok4 := hok.2.1.1
  have hok5 := hok.2.2.1.1
  have hok6 := hok.2.2.2.2.1
  have hpo := hok.2.2.1.2 j9 hj
  have hpl := hpo.2.1.1
  have hpy := hpo.2.1.2
  have hmn : manyN (rf (psN sg.2.2.1 j9).2.2) (psN sg.2.2.1 j9).2.1.length ≤ (psN sg.2.2.1 j9).2.1.length := ct_le _ _
  refine lv_aload_n hx hb dX2_cost_0 rfl (lv_at hl 0 rfl) ?_
  refine lv_iload_n hx hb dX2_cost_1 rfl (lv_at hl 1 rfl) ?_
  refine z_ceRV (As := [.int (nI j9)]) (rest := []) ⟨hx, hb, hml, hown, hts⟩ (c_X2_patchOf l D cs S0 ea mi sa a u sg j9 hj) (cwV 1 hts gX2_cost_X2_patchOf rfl rfl rfl (by decide +kernel) ⟨Nat.le_of_ble_eq_true rfl, Nat.le_of_ble_eq_true rfl⟩) hx0 rfl ⟨hx0, hbf, hbc, hls, hlm, hlh, hrw, hpt, hin, hhr, hok⟩ hK hE va_S.rf rfl hl.1 rfl (Nat.le_of_ble_eq_true rfl) dX2_cost_2 ⟨Nat.zero_le _, Nat.zero_le _⟩ (fun r hq9 => ?_)
  have hq9 : r = (xP u 0 j9) := hq9
  subst hq9
  refine z_get (ci := 1) (v := .int (nI (costN (rf (psN sg.2.2.1 j9).2.2) (psN sg.2.2.1 j9).2.1.length))) (C := RX0) (T := TX0) (N := 7) hx hb hts in1 hown hK (hpt j9 (by omega)).1.1 rfl 6 (by decide) fl152 (fun _ h9 => h9) rfl dX2_cost_5 ?_
  exact W.iret (v := nI (costN (rf (psN sg.2.2.1 j9).2.2) (psN sg.2.2.1 j9).2.1.length)) hx hb hr (fun t ht hW => ⟨_, rfl, rfl, ht⟩) (fun q hq => absurd hq List.not_mem_nil) dX2_cost_8

set_option maxHeartbeats 4000000 in
set_option maxRecDepth 100000 in
theorem c_X2_instruction (l : Launch) (D : va_G) (cs : Nat → ClassId) (S0 ea mi : Nat) (sa : Nat → Nat) (a : Nat → Nat) (u : XU) (sg : St) (j9 i9 w9 : Nat) (hj : j9 < sg.2.2.1.length) (hi : i9 < manyN (rf (psN sg.2.2.1 j9).2.2) (psN sg.2.2.1 j9).2.1.length) (hw : w9 < 4) : Met l yX2_instruction wsX2_instruction ({ frames := 4, cells := 0, slots := 0, locals := 85 }) (zE [.ref (a 0), .int (nI j9), .int (nI i9), .int (nI w9)] (fun H => XH D cs a u sg H) D cs S0 ea mi sa) (vp_Si (fun r => r = tellI (rf (psN sg.2.2.1 j9).2.2) (bv (psN sg.2.2.1 j9).2.1) (psN sg.2.2.1 j9).2.1.length i9 w9)) 0 0 (fun _ => False) := by
  refine Met.ofW (cc := cX2_instruction) (maxL := 5) (ret := (some .int)) (by decide) rfl ?_
  intro p e s m args below meth c s₁ B hml hv
  obtain ⟨rfl, hPH, hK, hE⟩ := hv
  have hx := B.exec
  have hb := B.bytes
  have hr := B.returns
  have hts := atoms_spec (ws := wsX2_instruction) B.pre
  have hown : s.vm.findClass RX2 = some m.cls := findClass_of_methodNamed B.named
  have hlocks := B.notSynchronized
  have fl142 := hts (.fieldLink RX2 142 "DeltaUpdater$Patch" "starts" "[I") (by decide +kernel)
  have in1 : ∀ w ∈ u_ws RX0 TX0 7, w ∈ wsX2_instruction := by decide +kernel
  have hPH : XH D cs a u sg s.heap := hPH
  obtain ⟨hx0, hbf, hbc, hls, hlm, hlh, hrw, hpt, hin, hhr, hok⟩ := hPH
  have hl := lv_entry ([.ref (a 0), .int (nI j9), .int (nI i9), .int (nI w9)]) (n := 5) (Nat.le_of_ble_eq_true rfl)
  rw [lg_entry_eq]
  generalize (lg_sl ([.ref (a 0), .int (nI j9), .int (nI i9), .int (nI w9)]) ++ List.replicate (5 - (lg_sl ([.ref (a 0), .int (nI j9), .int (nI i9), .int (nI w9)])).length) Slot.unset).toArray = ls at hl ⊢
  have hl : lv_has ls 5 [(0, .ref (a 0)), (1, .int (nI j9)), (2, .int (nI i9)), (3, .int (nI w9))] := hl
  have hok4 := hok.2.1.1
  have hok5 := hok.2.2.1.1
  have hok6 := hok.2.2.2.2.1
  have hpo := hok.2.2.1.2 j9 hj
  have hpl := hpo.2.1.1
  have hpy := hpo.2.1.2
  have hmn : manyN (rf (psN sg.2.2.1 j9).2.2) (psN sg.2.2.1 j9).2.1.length ≤ (psN sg.2.2.1 j9).2.1.length := ct_le _ _
  refine lv_aload_n hx hb dX2_instruction_0 rfl (lv_at hl 0 rfl) ?_
  refine lv_iload_n hx hb dX2_instruction_1 rfl (lv_at hl 1 rfl) ?_
  refine z_ceRV (As := [.int (nI j9)]) (rest := []) ⟨hx, hb, hml, hown, hts⟩ (c_X2_patchOf l D cs S0 ea mi sa a u sg j9 hj) (cwV 1 hts gX2_instruction_X2_patchOf rfl rfl rfl (by decide +kernel) ⟨Nat.le_of_ble_eq_true rfl, Nat.le_of_ble_eq_true rfl⟩) hx0 rfl ⟨hx0, hbf, hbc, hls, hlm, hlh, hrw, hpt, hin, hhr, hok⟩ hK hE va_S.rf rfl hl.1 rfl (Nat.le_of_ble_eq_true rfl) dX2_instruction_2 ⟨Nat.zero_le _, Nat.zero_le _⟩ (fun r hq9 => ?_)
  have hq9 : r = (xP u 0 j9) := hq9
  subst hq9
  refine lv_astore (lv' := [(4, .ref (xP u 0 j9)), (0, .ref (a 0)), (1, .int (nI j9)), (2, .int (nI i9)), (3, .int (nI w9))]) hx hb dX2_instruction_5 hl (by decide) rfl (fun ls hl => ?_)
  refine lv_iload_n hx hb dX2_instruction_7 rfl (lv_at hl 3 rfl) ?_
  refine z_ifn_lt (tgt := 21) hx hb (by omega) dX2_instruction_8 (by decide) ?_
  refine lv_iload_n hx hb dX2_instruction_11 rfl (lv_at hl 3 rfl) ?_
  refine lv_aload hx hb dX2_instruction_12 (lv_at hl 0 rfl) ?_
  refine z_get (ci := 1) (v := .ref (xP u 4 j9)) (C := RX0) (T := TX0) (N := 7) hx hb hts in1 hown hK (hpt j9 (by omega)).1.1 rfl 4 (by decide) fl142 (fun _ h9 => h9) rfl dX2_instruction_14 ?_
  refine z_alen (n := (manyN (rf (psN sg.2.2.1 j9).2.2) (psN sg.2.2.1 j9).2.1.length)) hx hb hK (hpt j9 (by omega)).1.2.2.1 dX2_instruction_17 ?_
  refine z_icmp_lt (tgt := 31) hx hb (by omega) (by omega) dX2_instruction_18 (by decide) (fun hc18 => ?_) (fun hc18 => ?_)
  · skip
    have hc18 : i9 < (manyN (rf (psN sg.2.2.1 j9).2.2) (psN sg.2.2.1 j9).2.1.length) := hc18
    refine lv_iload_n hx hb dX2_instruction_31 rfl (lv_at hl 4 rfl) ?_
    refine z_ifn_lt (tgt := 40) hx hb (by omega) dX2_instruction_32 (by decide) ?_
    refine lv_iload_n hx hb dX2_instruction_35 rfl (lv_at hl 4 rfl) ?_
    refine lv_iconst (v := nI 3) hx hb dX2_instruction_36 (by decide) ?_
    refine z_icmp_le (tgt := 50) hx hb (by omega) (by omega) dX2_instruction_37 (by decide) (fun hc37 => ?_) (fun hc37 => ?_)
    · skip
      have hc37 : w9 ≤ 3 := hc37
      refine lv_aload hx hb dX2_instruction_50 (lv_at hl 0 rfl) ?_
      refine lv_iload_n hx hb dX2_instruction_52 rfl (lv_at hl 3 rfl) ?_
      refine lv_iload_n hx hb dX2_instruction_53 rfl (lv_at hl 4 rfl) ?_
      refine z_csV (As := [.int (nI i9), .int (nI w9)]) (rest := []) ⟨hx, hb, hml, hown, hts⟩ (c_X0_tell l D cs (xP u 0 j9) (xP u 1 j9) (xP u 2 j9) (xP u 3 j9) (xP u 4 j9) (psN sg.2.2.1 j9).2.1.length (nI (xP u 5 j9)) (nI (xP u 6 j9)) (nI (litN (rf (psN sg.2.2.1 j9).2.2) (psN sg.2.2.1 j9).2.1.length)) (nI (costN (rf (psN sg.2.2.1 j9).2.2) (psN sg.2.2.1 j9).2.1.length)) (rf (psN sg.2.2.1 j9).2.2) (bv (psN sg.2.2.1 j9).2.1) hpy (by omega) i9 hi w9 hw) (cwV 2 hts gX2_instruction_X0_tell rfl rfl rfl (by decide +kernel) ⟨Nat.le_of_ble_eq_true rfl, Nat.le_of_ble_eq_true rfl⟩) (hpt j9 (by omega)).1.1 rfl (hpt j9 hj).1 hK rfl hl.1 rfl (Nat.le_of_ble_eq_true rfl) dX2_instruction_54 ⟨Nat.zero_le _, Nat.zero_le _⟩ (fun r hq9 => ?_)
      have hq9 : r = tellI (rf (psN sg.2.2.1 j9).2.2) (bv (psN sg.2.2.1 j9).2.1) (psN sg.2.2.1 j9).2.1.length i9 w9 := hq9
      subst hq9
      exact W.iret (v := tellI (rf (psN sg.2.2.1 j9).2.2) (bv (psN sg.2.2.1 j9).2.1) (psN sg.2.2.1 j9).2.1.length i9 w9) hx hb hr (fun t ht hW => ⟨_, rfl, rfl, ht⟩) (fun q hq => absurd hq List.not_mem_nil) dX2_instruction_57
    · skip
      have hc37 : 3 < w9 := hc37
      omega
  · skip
    have hc18 : (manyN (rf (psN sg.2.2.1 j9).2.2) (psN sg.2.2.1 j9).2.1.length) ≤ i9 := hc18
    omega

set_option maxHeartbeats 4000000 in
set_option maxRecDepth 100000 in
theorem c_X2_installedLength (l : Launch) (D : va_G) (cs : Nat → ClassId) (S0 ea mi : Nat) (sa : Nat → Nat) (a : Nat → Nat) (u : XU) (sg : St)  : Met l yX2_installedLength wsX2_installedLength ({ frames := 0, cells := 0, slots := 0, locals := 0 }) (zE [.ref (a 0)] (fun H => XH D cs a u sg H) D cs S0 ea mi sa) (vp_Si (fun r => r = nI sg.2.2.2.1.length)) 0 0 (fun _ => False) := by
  refine Met.ofW (cc := cX2_installedLength) (maxL := 1) (ret := (some .int)) (by decide) rfl ?_
  intro p e s m args below meth c s₁ B hml hv
  obtain ⟨rfl, hPH, hK, hE⟩ := hv
  have hx := B.exec
  have hb := B.bytes
  have hr := B.returns
  have hts := atoms_spec (ws := wsX2_installedLength) B.pre
  have hown : s.vm.findClass RX2 = some m.cls := findClass_of_methodNamed B.named
  have hlocks := B.notSynchronized
  have fl32 := hts (.fieldLink RX2 32 "DeltaUpdater" "installed" "LDeltaUpdater$Row;") (by decide +kernel)
  have fl72 := hts (.fieldLink RX2 72 "DeltaUpdater$Row" "bytes" "[I") (by decide +kernel)
  have in2 : ∀ w ∈ u_ws RX1 TX1 1, w ∈ wsX2_installedLength := by decide +kernel
  have in3 : ∀ w ∈ u_ws RX2 TX2 8, w ∈ wsX2_installedLength := by decide +kernel
  have hPH : XH D cs a u sg s.heap := hPH
  obtain ⟨hx0, hbf, hbc, hls, hlm, hlh, hrw, hpt, hin, hhr, hok⟩ := hPH
  have hl := lv_entry ([.ref (a 0)]) (n := 1) (Nat.le_of_ble_eq_true rfl)
  rw [lg_entry_eq]
  generalize (lg_sl ([.ref (a 0)]) ++ List.replicate (1 - (lg_sl ([.ref (a 0)])).length) Slot.unset).toArray = ls at hl ⊢
  have hl : lv_has ls 1 [(0, .ref (a 0))] := hl
  have hok4 := hok.2.1.1
  have hok5 := hok.2.2.1.1
  have hok6 := hok.2.2.2.2.1
  have hinl := hok.2.2.2.1.1
  refine lv_aload_n hx hb dX2_installedLength_0 rfl (lv_at hl 0 rfl) ?_
  refine z_get (ci := 3) (v := .ref (xe u 3)) (C := RX2) (T := TX2) (N := 8) hx hb hts in3 hown hK hx0 rfl 4 (by decide) fl32 (fun _ h9 => h9) rfl dX2_installedLength_1 ?_
  refine z_get (ci := 2) (v := .ref (xe u 4)) (C := RX1) (T := TX1) (N := 1) hx hb hts in2 hown hK hin.1 rfl 0 (by decide) fl72 (fun _ h9 => h9) rfl dX2_installedLength_4 ?_
  refine z_alen (n := sg.2.2.2.1.length) hx hb hK hin.2 dX2_installedLength_7 ?_
  exact W.iret (v := nI sg.2.2.2.1.length) hx hb hr (fun t ht hW => ⟨_, rfl, rfl, ht⟩) (fun q hq => absurd hq List.not_mem_nil) dX2_installedLength_8

set_option maxHeartbeats 4000000 in
set_option maxRecDepth 100000 in
theorem c_X2_isInstalled (l : Launch) (D : va_G) (cs : Nat → ClassId) (S0 ea mi : Nat) (sa : Nat → Nat) (a : Nat → Nat) (u : XU) (sg : St) (v9 : Nat) (hv : v9 < sg.2.1.length) : Met l yX2_isInstalled wsX2_isInstalled ({ frames := 4, cells := 0, slots := 0, locals := 85 }) (zE [.ref (a 0), .int (nI v9)] (fun H => XH D cs a u sg H) D cs S0 ea mi sa) (vp_Si (fun r => r = bI (eqL (vsN sg.2.1 v9) sg.2.2.2.1))) 0 0 (fun _ => False) := by
  refine Met.ofW (cc := cX2_isInstalled) (maxL := 2) (ret := (some .boolean)) (by decide) rfl ?_
  intro p e s m args below meth c s₁ B hml hv
  obtain ⟨rfl, hPH, hK, hE⟩ := hv
  have hx := B.exec
  have hb := B.bytes
  have hr := B.returns
  have hts := atoms_spec (ws := wsX2_isInstalled) B.pre
  have hown : s.vm.findClass RX2 = some m.cls := findClass_of_methodNamed B.named
  have hlocks := B.notSynchronized
  have fl32 := hts (.fieldLink RX2 32 "DeltaUpdater" "installed" "LDeltaUpdater$Row;") (by decide +kernel)
  have in3 : ∀ w ∈ u_ws RX2 TX2 8, w ∈ wsX2_isInstalled := by decide +kernel
  have hPH : XH D cs a u sg s.heap := hPH
  obtain ⟨hx0, hbf, hbc, hls, hlm, hlh, hrw, hpt, hin, hhr, hok⟩ := hPH
  have hl := lv_entry ([.ref (a 0), .int (nI v9)]) (n := 2) (Nat.le_of_ble_eq_true rfl)
  rw [lg_entry_eq]
  generalize (lg_sl ([.ref (a 0), .int (nI v9)]) ++ List.replicate (2 - (lg_sl ([.ref (a 0), .int (nI v9)])).length) Slot.unset).toArray = ls at hl ⊢
  have hl : lv_has ls 2 [(0, .ref (a 0)), (1, .int (nI v9))] := hl
  have hok4 := hok.2.1.1
  have hok5 := hok.2.2.1.1
  have hok6 := hok.2.2.2.2.1
  have hlen := (hok.2.1.2 v9 hv).1
  have hby := (hok.2.1.2 v9 hv).2
  have hinl := hok.2.2.2.1.1
  refine lv_aload_n hx hb dX2_isInstalled_0 rfl (lv_at hl 0 rfl) ?_
  refine lv_iload_n hx hb dX2_isInstalled_1 rfl (lv_at hl 1 rfl) ?_
  refine z_ceRV (As := [.int (nI v9)]) (rest := []) ⟨hx, hb, hml, hown, hts⟩ (c_X2_rowOf l D cs S0 ea mi sa a u sg v9 hv) (cwV 1 hts gX2_isInstalled_X2_rowOf rfl rfl rfl (by decide +kernel) ⟨Nat.le_of_ble_eq_true rfl, Nat.le_of_ble_eq_true rfl⟩) hx0 rfl ⟨hx0, hbf, hbc, hls, hlm, hlh, hrw, hpt, hin, hhr, hok⟩ hK hE va_S.rf rfl hl.1 rfl (Nat.le_of_ble_eq_true rfl) dX2_isInstalled_2 ⟨Nat.zero_le _, Nat.zero_le _⟩ (fun r hq9 => ?_)
  have hq9 : r = (xR u 0 v9) := hq9
  subst hq9
  refine lv_aload_n hx hb dX2_isInstalled_5 rfl (lv_at hl 0 rfl) ?_
  refine z_get (ci := 3) (v := .ref (xe u 3)) (C := RX2) (T := TX2) (N := 8) hx hb hts in3 hown hK hx0 rfl 4 (by decide) fl32 (fun _ h9 => h9) rfl dX2_isInstalled_6 ?_
  refine z_csV (As := [.ref (xe u 3)]) (rest := []) ⟨hx, hb, hml, hown, hts⟩ (c_X1_hasBytesOf l D cs (xR u 0 v9) (xR u 1 v9) (xe u 3) (xe u 4) (vsN sg.2.1 v9).length sg.2.2.2.1.length (bb (vsN sg.2.1 v9)) (bb sg.2.2.2.1) (by omega) (by omega)) (cwV 1 hts gX2_isInstalled_X1_hasBytesOf rfl rfl rfl (by decide +kernel) ⟨Nat.le_of_ble_eq_true rfl, Nat.le_of_ble_eq_true rfl⟩) (hrw v9 (by omega)).1 rfl ⟨(hrw v9 hv).1, (hrw v9 hv).2, hin.1, hin.2⟩ hK rfl hl.1 rfl (Nat.le_of_ble_eq_true rfl) dX2_isInstalled_9 ⟨Nat.zero_le _, Nat.zero_le _⟩ (fun r hq9 => ?_)
  have hq9 : r = bI (eqL (vsN sg.2.1 v9) sg.2.2.2.1) := hq9
  subst hq9
  exact W.zret (v := bI (eqL (vsN sg.2.1 v9) sg.2.2.2.1)) hx hb hr (bI_nar _) (fun t ht hW => ⟨_, rfl, rfl, ht⟩) (fun q hq => absurd hq List.not_mem_nil) dX2_isInstalled_12

